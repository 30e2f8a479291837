/-! lists that grow and shrink -/
theorem cl_cp3 {G : GG} {h : Hp} {c b N : Nat} (hm : (ak 7 c, b) ∈ h.1) (hel : ∀ j, j < c → ∀ p, h.2.2.1 (ak 7 c) b j = some p → isE p.1 ∧ p ∈ h.1) (he : ∃ n, h.2.2.2 = some n) (hN : N ≤ 1500) (hc : c ≤ 1000) : Cy G MJ7_copyOf_6403c (rmL 0 1 N) [rf G (ak 7 c) b, .int (iI (N : Nat)), .ref (gV G 18)] h (fun v h1 => ∃ q, fre h q ∧ v = some (rf G (ak 7 N) q) ∧ (ak 7 N, q) ∈ h1.1 ∧ Fr (fun _ => False) h h1 ∧ ∀ j, h1.2.2.1 (ak 7 N) q j = if j < min c N then h.2.2.1 (ak 7 c) b j else none) := by
  refine o_entry (by decide +kernel) mwJ7_copyOf_6403c rfl (Nat.le_of_ble_eq_true rfl) ?_
  show YY G MJ7_copyOf_6403c (rmL 0 1 N) 0 [(0, rf G (ak 7 c) b), (1, .int (iI (N : Nat))), (2, .ref (gV G 18))] [] h 0 0 _
  refine o_aload_n (pc := 0) dJ7_copyOf_6403c_0 2 rfl ?_
  refine o_ldcM (pc := 1) dJ7_copyOf_6403c_1 clJ7_110 ?_
  refine o_acmp_ne (pc := 3) 13 dJ7_copyOf_6403c_3 (by decide) (fun c_3 => absurd rfl c_3) (fun c_3 => ?_)
  refine o_iload_n (pc := 6) dJ7_copyOf_6403c_6 1 rfl ?_
  refine o_sizeD (fun q hn => ?_) he
  refine o_anew (pc := 7) (tag := 2) dJ7_copyOf_6403c_7 clJ7_2 (fun s hs => hs.2.2.2.2.2.2.2.2.2.2.1) (by decide) rfl hn rfl (by omega) (by simp only [rmL]; omega) (by simp only [rmL]; omega) (fun fq => ?_)
  refine o_goto (pc := 10) 24 dJ7_copyOf_6403c_10 (by decide) ?_
  refine o_astore_n (pc := 24) (lv' := [(3, _), (0, _), (1, _), (2, _)]) dJ7_copyOf_6403c_24 rfl (by decide) rfl ?_
  refine o_aload_n (pc := 25) dJ7_copyOf_6403c_25 1 rfl ?_
  refine o_iconst (pc := 26) dJ7_copyOf_6403c_26 ?_
  refine o_aload_n (pc := 27) dJ7_copyOf_6403c_27 0 rfl ?_
  refine o_iconst (pc := 28) dJ7_copyOf_6403c_28 ?_
  refine o_aload_n (pc := 29) dJ7_copyOf_6403c_29 1 rfl ?_
  refine o_alN (pc := 30) (tag := 7) dJ7_copyOf_6403c_30 (shp_ak (by decide)) (nw_old hm) rfl ?_
  refine o_iload_n (pc := 31) dJ7_copyOf_6403c_31 2 rfl ?_
  refine o_min (pc := 32) dJ7_copyOf_6403c_32 lmJ7_304 (by unfold inI; omega) (by unfold inI; omega) (Nat.le_of_ble_eq_true rfl) (Nat.le_of_ble_eq_true rfl) (by simp only [rmL]; omega) (by simp only [rmL]; omega) ?_
  rw [show min (c : Int) (N : Int) = ((min c N : Nat) : Int) by omega]
  refine o_copyR (pc := 35) (sp := 0) (dp := 0) dJ7_copyOf_6403c_35 acJ7_150 (shp_ak (by decide)) (shp_ak (by decide)) (nw_old hm) nw_in (by omega) (by omega) (by omega) (fun j hj a b' hr => ?_) (Nat.le_of_ble_eq_true rfl) (Nat.le_of_ble_eq_true rfl) (fun n' => ?_)
  · rw [Nat.zero_add, show (nw h (ak 7 N) q).2.2.1 (ak 7 c) b = h.2.2.1 (ak 7 c) b from if_neg (fun z => fq _ ak_ge (by rw [← z.2]; exact hm))] at hr
    have z := hel j (by omega) _ hr
    exact z.1.any (nw_old z.2)
  refine o_aload_n (pc := 38) dJ7_copyOf_6403c_38 0 rfl ?_
  refine o_aret (pc := 39) dJ7_copyOf_6403c_39 rfl (.inr ⟨_, rfl⟩) (.inr ⟨_, rfl⟩) (by simp only [rmL]; omega) (by simp only [rmL]; omega) ?_
  refine ⟨q, fq, rfl, nw_in, Fr_cpR (Fr_nw (Fr.rf he) ak_ge fq) ak_ge (.inr fq), fun j => ?_⟩
  show (if ak 7 N = ak 7 N ∧ q = q ∧ 0 ≤ j ∧ j < 0 + min c N then (nw h (ak 7 N) q).2.2.1 (ak 7 c) b (0 + (j - 0)) else (nw h (ak 7 N) q).2.2.1 (ak 7 N) q j) = _
  rw [show (nw h (ak 7 N) q).2.2.1 (ak 7 c) b = h.2.2.1 (ak 7 c) b from if_neg (fun z => fq _ ak_ge (by rw [← z.2]; exact hm)), nw_r]
  by_cases hj : j < min c N
  · rw [if_pos ⟨rfl, rfl, Nat.zero_le _, by omega⟩, if_pos hj, show 0 + (j - 0) = j by omega]
  · rw [if_neg (fun z => hj (by omega)), if_neg hj]
theorem cl_cp3E {G : GG} {h : Hp} {c b N : Nat} (hc0 : c = 0) (hb0 : b = gV G 15) (he : ∃ n, h.2.2.2 = some n) (hN : N ≤ 1500) : Cy G MJ7_copyOf_6403c (rmL 0 1 N) [rf G (ak 7 c) b, .int (iI (N : Nat)), .ref (gV G 18)] h (fun v h1 => ∃ q, fre h q ∧ v = some (rf G (ak 7 N) q) ∧ (ak 7 N, q) ∈ h1.1 ∧ Fr (fun _ => False) h h1 ∧ ∀ j, h1.2.2.1 (ak 7 N) q j = if j < min c N then h.2.2.1 (ak 7 c) b j else none) := by
  refine o_entry (by decide +kernel) mwJ7_copyOf_6403c rfl (Nat.le_of_ble_eq_true rfl) ?_
  show YY G MJ7_copyOf_6403c (rmL 0 1 N) 0 [(0, rf G (ak 7 c) b), (1, .int (iI (N : Nat))), (2, .ref (gV G 18))] [] h 0 0 _
  subst hc0 hb0
  refine o_aload_n (pc := 0) dJ7_copyOf_6403c_0 2 rfl ?_
  refine o_ldcM (pc := 1) dJ7_copyOf_6403c_1 clJ7_110 ?_
  refine o_acmp_ne (pc := 3) 13 dJ7_copyOf_6403c_3 (by decide) (fun c_3 => absurd rfl c_3) (fun c_3 => ?_)
  refine o_iload_n (pc := 6) dJ7_copyOf_6403c_6 1 rfl ?_
  refine o_sizeD (fun q hn => ?_) he
  refine o_anew (pc := 7) (tag := 2) dJ7_copyOf_6403c_7 clJ7_2 (fun s hs => hs.2.2.2.2.2.2.2.2.2.2.1) (by decide) rfl hn rfl (by omega) (by simp only [rmL]; omega) (by simp only [rmL]; omega) (fun fq => ?_)
  refine o_goto (pc := 10) 24 dJ7_copyOf_6403c_10 (by decide) ?_
  refine o_astore_n (pc := 24) (lv' := [(3, _), (0, _), (1, _), (2, _)]) dJ7_copyOf_6403c_24 rfl (by decide) rfl ?_
  refine o_aload_n (pc := 25) dJ7_copyOf_6403c_25 1 rfl ?_
  refine o_iconst (pc := 26) dJ7_copyOf_6403c_26 ?_
  refine o_aload_n (pc := 27) dJ7_copyOf_6403c_27 0 rfl ?_
  refine o_iconst (pc := 28) dJ7_copyOf_6403c_28 ?_
  refine o_aload_n (pc := 29) dJ7_copyOf_6403c_29 1 rfl ?_
  refine o_emptyN (pc := 30) dJ7_copyOf_6403c_30 ?_
  refine o_iload_n (pc := 31) dJ7_copyOf_6403c_31 2 rfl ?_
  refine o_min (pc := 32) dJ7_copyOf_6403c_32 lmJ7_304 (by unfold inI; omega) (by unfold inI; omega) (Nat.le_of_ble_eq_true rfl) (Nat.le_of_ble_eq_true rfl) (by simp only [rmL]; omega) (by simp only [rmL]; omega) ?_
  rw [show min (0 : Int) (N : Int) = 0 by omega]
  refine o_copyE (pc := 35) dJ7_copyOf_6403c_35 acJ7_150 (shp_ak (by decide)) nw_in (Nat.le_of_ble_eq_true rfl) (Nat.le_of_ble_eq_true rfl) (fun n' => ?_)
  refine o_aload_n (pc := 38) dJ7_copyOf_6403c_38 0 rfl ?_
  refine o_aret (pc := 39) dJ7_copyOf_6403c_39 rfl (.inr ⟨_, rfl⟩) (.inr ⟨_, rfl⟩) (by simp only [rmL]; omega) (by simp only [rmL]; omega) ?_
  refine ⟨q, fq, rfl, nw_in, Fr_size (Fr_nw (Fr.rf he) ak_ge fq) n', fun j => ?_⟩
  show (nw h (ak 7 N) q).2.2.1 (ak 7 N) q j = _
  rw [nw_r, if_neg (by omega)]
theorem cl_cp2 {G : GG} {h : Hp} {c b N : Nat} (hm : (ak 7 c, b) ∈ h.1) (hel : ∀ j, j < c → ∀ p, h.2.2.1 (ak 7 c) b j = some p → isE p.1 ∧ p ∈ h.1) (he : ∃ n, h.2.2.2 = some n) (hN : N ≤ 1500) (hc : c ≤ 1000) : Cy G MJ7_copyOf_1904c (rmL 1 1 N) [rf G (ak 7 c) b, .int (iI (N : Nat))] h (fun v h1 => ∃ q, fre h q ∧ v = some (rf G (ak 7 N) q) ∧ (ak 7 N, q) ∈ h1.1 ∧ Fr (fun _ => False) h h1 ∧ ∀ j, h1.2.2.1 (ak 7 N) q j = if j < min c N then h.2.2.1 (ak 7 c) b j else none) := by
  refine o_entry (by decide +kernel) mwJ7_copyOf_1904c rfl (Nat.le_of_ble_eq_true rfl) ?_
  show YY G MJ7_copyOf_1904c (rmL 1 1 N) 0 [(0, rf G (ak 7 c) b), (1, .int (iI (N : Nat)))] [] h 0 0 _
  refine o_aload_n (pc := 0) dJ7_copyOf_1904c_0 0 rfl ?_
  refine o_iload_n (pc := 1) dJ7_copyOf_1904c_1 1 rfl ?_
  refine o_aload_n (pc := 2) dJ7_copyOf_1904c_2 0 rfl ?_
  refine o_getC (pc := 3) (N := c) dJ7_copyOf_1904c_3 gcJ7_86 (.inl ⟨hm, rfl⟩) (Nat.le_of_ble_eq_true rfl) (Nat.le_of_ble_eq_true rfl) ?_
  refine o_callS (pc := 6) _ dJ7_copyOf_1904c_6 (cl_cp3 hm hel he hN hc) lkJ7_300 rfl ⟨⟨by simp only [rmL]; omega, by simp only [rmL]; omega⟩, by simp only [rmL]; omega, by simp only [rmL]; omega⟩ (Nat.le_of_ble_eq_true rfl) rfl (fun v h1 hq => ?_)
  obtain ⟨q, f1, rfl, f2, f3, f4⟩ := hq
  refine o_aret (pc := 9) dJ7_copyOf_1904c_9 rfl (.inr ⟨_, rfl⟩) (.inr ⟨_, rfl⟩) (by simp only [rmL]; omega) (by simp only [rmL]; omega) ?_
  exact ⟨q, f1, rfl, f2, f3, f4⟩
theorem cl_cp2E {G : GG} {h : Hp} {c b N : Nat} (hc0 : c = 0) (hb0 : b = gV G 15) (he : ∃ n, h.2.2.2 = some n) (hN : N ≤ 1500) : Cy G MJ7_copyOf_1904c (rmL 1 1 N) [rf G (ak 7 c) b, .int (iI (N : Nat))] h (fun v h1 => ∃ q, fre h q ∧ v = some (rf G (ak 7 N) q) ∧ (ak 7 N, q) ∈ h1.1 ∧ Fr (fun _ => False) h h1 ∧ ∀ j, h1.2.2.1 (ak 7 N) q j = if j < min c N then h.2.2.1 (ak 7 c) b j else none) := by
  refine o_entry (by decide +kernel) mwJ7_copyOf_1904c rfl (Nat.le_of_ble_eq_true rfl) ?_
  show YY G MJ7_copyOf_1904c (rmL 1 1 N) 0 [(0, rf G (ak 7 c) b), (1, .int (iI (N : Nat)))] [] h 0 0 _
  refine o_aload_n (pc := 0) dJ7_copyOf_1904c_0 0 rfl ?_
  refine o_iload_n (pc := 1) dJ7_copyOf_1904c_1 1 rfl ?_
  refine o_aload_n (pc := 2) dJ7_copyOf_1904c_2 0 rfl ?_
  refine o_getC (pc := 3) (N := 0) dJ7_copyOf_1904c_3 gcJ7_86 (.inr ⟨by rw [hc0], hb0⟩) (Nat.le_of_ble_eq_true rfl) (Nat.le_of_ble_eq_true rfl) ?_
  refine o_callS (pc := 6) _ dJ7_copyOf_1904c_6 (cl_cp3E hc0 hb0 he hN) lkJ7_300 rfl ⟨⟨by simp only [rmL]; omega, by simp only [rmL]; omega⟩, by simp only [rmL]; omega, by simp only [rmL]; omega⟩ (Nat.le_of_ble_eq_true rfl) rfl (fun v h1 hq => ?_)
  obtain ⟨q, f1, rfl, f2, f3, f4⟩ := hq
  refine o_aret (pc := 9) dJ7_copyOf_1904c_9 rfl (.inr ⟨_, rfl⟩) (.inr ⟨_, rfl⟩) (by simp only [rmL]; omega) (by simp only [rmL]; omega) ?_
  exact ⟨q, f1, rfl, f2, f3, f4⟩
theorem cl_cpy {G : GG} {h : Hp} {l c b n N : Nat} {E : Nat → Nat × Nat} (hA : LA G h l c b n E) (he : ∃ n, h.2.2.2 = some n) (hN : N ≤ 1500) : Cy G MJ7_copyOf_1904c (rmL 1 1 N) [rf G (ak 7 c) b, .int (iI (N : Nat))] h (fun v h1 => ∃ q, fre h q ∧ v = some (rf G (ak 7 N) q) ∧ (ak 7 N, q) ∈ h1.1 ∧ Fr (fun _ => False) h h1 ∧ ∀ j, h1.2.2.1 (ak 7 N) q j = if j < min c N then h.2.2.1 (ak 7 c) b j else none) := by
  obtain ⟨a1, a2, a3, a4, a5, a6, a7, a8, a9⟩ := hA
  by_cases hc : c = 0
  · exact cl_cp2E hc (a7 hc) he hN
  · refine cl_cp2 (a6 (by omega)) (fun j hj p hp => ?_) he hN a5
    by_cases z : j < n
    · rw [(a8 j z).1] at hp
      cases hp
      exact (a8 j z).2
    · rw [a9 j (by omega) hj] at hp
      cases hp
theorem cl_newLen {G : GG} {h : Hp} {a m p : Int} (ha : 0 ≤ a ∧ a ≤ 100000) (hm : 1 ≤ m ∧ m ≤ 100000) (hp : 0 ≤ p ∧ p ≤ 100000) : Cy G MJ8_newLength_cabcc (rmL 1 0 0) [.int (iI a), .int (iI m), .int (iI p)] h (fun v h1 => v = some (.int (iI (a + max m p))) ∧ h1 = h) := by
  refine o_entry (by decide +kernel) mwJ8_newLength_cabcc rfl (Nat.le_of_ble_eq_true rfl) ?_
  show YY G MJ8_newLength_cabcc (rmL 1 0 0) 0 [(0, .int (iI a)), (1, .int (iI m)), (2, .int (iI p))] [] h 0 0 _
  refine o_iload_n (pc := 0) dJ8_newLength_cabcc_0 0 rfl ?_
  refine o_iload_n (pc := 1) dJ8_newLength_cabcc_1 1 rfl ?_
  refine o_iload_n (pc := 2) dJ8_newLength_cabcc_2 2 rfl ?_
  refine o_max (pc := 3) dJ8_newLength_cabcc_3 lmJ8_194 (by unfold inI; omega) (by unfold inI; omega) (Nat.le_of_ble_eq_true rfl) (Nat.le_of_ble_eq_true rfl) (Nat.le_of_ble_eq_true rfl) (Nat.le_of_ble_eq_true rfl) ?_
  refine o_iadd (pc := 6) dJ8_newLength_cabcc_6 ?_
  refine o_istore_n (pc := 7) (lv' := [(3, _), (0, _), (1, _), (2, _)]) dJ8_newLength_cabcc_7 rfl (by decide) rfl ?_
  refine o_iconst (pc := 8) dJ8_newLength_cabcc_8 ?_
  refine o_iload_n (pc := 9) dJ8_newLength_cabcc_9 0 rfl ?_
  refine o_icmp_ge (pc := 10) 21 dJ8_newLength_cabcc_10 (by decide) (by unfold inI; omega) (by unfold inI; omega) (fun c_10 => (by exfalso; omega)) (fun c_10 => ?_)
  refine o_iload_n (pc := 13) dJ8_newLength_cabcc_13 0 rfl ?_
  refine o_ldc (pc := 14) (z := 2147483639) dJ8_newLength_cabcc_14 kcJ8_200 (by decide) ?_
  refine o_icmp_gt (pc := 16) 21 dJ8_newLength_cabcc_16 (by decide) (by unfold inI; omega) (by unfold inI; omega) (fun c_16 => (by exfalso; omega)) (fun c_16 => ?_)
  refine o_iload_n (pc := 19) dJ8_newLength_cabcc_19 0 rfl ?_
  exact o_iret (pc := 20) dJ8_newLength_cabcc_20 rfl (Nat.le_of_ble_eq_true rfl) (Nat.le_of_ble_eq_true rfl) ⟨rfl, rfl⟩
theorem ishr1 {z : Int} (h0 : 0 ≤ z) (h1 : z < 100000) : iI z >>> (iI 1 &&& 31) = iI (z / 2) := by
  apply Int32.toInt_inj.mp
  rw [pk_shr _ _ 1 (by decide), iI_toInt ⟨by omega, by omega⟩, iI_toInt ⟨by omega, by omega⟩, Int.shiftRight_eq_div_pow]
  rfl
theorem cl_growR {G : GG} {h : Hp} {l c b n : Nat} {E : Nat → Nat × Nat} (hA : LA G h l c b n E) (he : ∃ n, h.2.2.2 = some n) {m : Nat} (hc : 0 < c) (hc1 : c ≤ 130) (hm1 : c < m) (hm2 : m ≤ c + 1) : Cy G MJx4a65c_grow_92f84 (rmL 4 1 200) [rf G 56 l, .int (iI (m : Nat))] h (fun v h1 => ∃ q c1, fre h q ∧ c < c1 ∧ c1 ≤ 200 ∧ m ≤ c1 ∧ v = some (rf G (ak 7 c1) q) ∧ (56, l) ∈ h1.1 ∧ (ak 7 c1, q) ∈ h1.1 ∧ Fr (fun i => i = l) h h1 ∧ h1.2.2.1 56 l 1 = some (ak 7 c1, q) ∧ h1.2.1 56 l 2 = n ∧ ∀ j, h1.2.2.1 (ak 7 c1) q j = if j < c then h.2.2.1 (ak 7 c) b j else none) := by
  refine o_entry (by decide +kernel) mwJx4a65c_grow_92f84 rfl (Nat.le_of_ble_eq_true rfl) ?_
  show YY G MJx4a65c_grow_92f84 (rmL 4 1 200) 0 [(0, rf G 56 l), (1, .int (iI (m : Nat)))] [] h 0 0 _
  have hb := hA.2.2.2.1
  refine o_aload_n (pc := 0) dJx4a65c_grow_92f84_0 0 rfl ?_
  refine o_gR (pc := 1) (j := 1) (ak 7 c) (b) dJx4a65c_grow_92f84_1 flJx4a65c_9 rfl rfl hA.1 hA.2.1 ?_
  refine o_alN (pc := 4) (tag := 7) dJx4a65c_grow_92f84_4 (shp_ak (by decide)) (hA.2.2.2.2.2.1 hc) rfl ?_
  refine o_istore_n (pc := 5) (lv' := [(2, _), (0, _), (1, _)]) dJx4a65c_grow_92f84_5 rfl (by decide) rfl ?_
  refine o_iload_n (pc := 6) dJx4a65c_grow_92f84_6 0 rfl ?_
  refine o_if_gt (pc := 7) 20 dJx4a65c_grow_92f84_7 (by decide) (by unfold inI; omega) (fun c_7 => ?_) (fun c_7 => (by exfalso; omega))
  refine o_iload_n (pc := 20) dJx4a65c_grow_92f84_20 0 rfl ?_
  refine o_iload_n (pc := 21) dJx4a65c_grow_92f84_21 2 rfl ?_
  refine o_iload_n (pc := 22) dJx4a65c_grow_92f84_22 0 rfl ?_
  refine o_isub (pc := 23) dJx4a65c_grow_92f84_23 ?_
  refine o_iload_n (pc := 24) dJx4a65c_grow_92f84_24 0 rfl ?_
  refine o_iconst (pc := 25) dJx4a65c_grow_92f84_25 ?_
  refine o_ishr (pc := 26) (z := (c : Int) / 2) dJx4a65c_grow_92f84_26 (ishr1 (by omega) (by omega)) ?_
  refine o_callS (pc := 27) _ dJx4a65c_grow_92f84_27 (cl_newLen (by omega) (by omega) (by omega)) lkJx4a65c_73 rfl ⟨⟨(Nat.le_of_ble_eq_true rfl), (Nat.le_of_ble_eq_true rfl)⟩, (Nat.le_of_ble_eq_true rfl), (Nat.le_of_ble_eq_true rfl)⟩ (Nat.le_of_ble_eq_true rfl) rfl (fun v h1 hq => ?_)
  obtain ⟨rfl, rfl⟩ := hq
  obtain ⟨c1, e1⟩ : ∃ c1 : Nat, (c : Int) + max ((m : Int) - c) ((c : Int) / 2) = (c1 : Int) := ⟨((c : Int) + max ((m : Int) - c) ((c : Int) / 2)).toNat, by omega⟩
  rw [show some (Value.int (iI ((c : Int) + max ((m : Int) - c) ((c : Int) / 2)))) = some (Value.int (iI (c1 : Int))) by rw [e1]]
  show YY G _ _ _ _ (.int (iI (c1 : Int)) :: _) _ _ _ _
  refine o_istore_n (pc := 30) (lv' := [(3, _), (2, _), (0, _), (1, _)]) dJx4a65c_grow_92f84_30 rfl (by decide) rfl ?_
  refine o_aload_n (pc := 31) dJx4a65c_grow_92f84_31 2 rfl ?_
  refine o_aload_n (pc := 32) dJx4a65c_grow_92f84_32 2 rfl ?_
  refine o_gR (pc := 33) (j := 1) (ak 7 c) (b) dJx4a65c_grow_92f84_33 flJx4a65c_9 rfl rfl hA.1 hA.2.1 ?_
  refine o_iload_n (pc := 36) dJx4a65c_grow_92f84_36 0 rfl ?_
  refine o_callS (pc := 37) _ dJx4a65c_grow_92f84_37 (cl_cpy hA he (N := c1) (by omega)) lkJx4a65c_66 rfl ⟨⟨by simp only [rmL]; omega, by simp only [rmL]; omega⟩, by simp only [rmL]; omega, by simp only [rmL]; omega⟩ (Nat.le_of_ble_eq_true rfl) rfl (fun v h1 hq => ?_)
  obtain ⟨q, f1, rfl, f2, f3, f4⟩ := hq
  refine o_dup_x1 (pc := 40) dJx4a65c_grow_92f84_40 rfl rfl ?_
  refine o_putR (pc := 41) (j := 1) dJx4a65c_grow_92f84_41 fxJx4a65c_9 rfl rfl (f3.1 _ hA.1) rfl rfl ?_
  refine o_aret (pc := 44) dJx4a65c_grow_92f84_44 rfl (.inr ⟨_, rfl⟩) (.inr ⟨_, rfl⟩) (by simp only [rmL]; omega) (by simp only [rmL]; omega) ?_
  refine ⟨q, c1, f1, by omega, by omega, by omega, rfl, f3.1 _ hA.1, f2, Fr_rset (f3.w (fun i z => z.elim)) (by decide) (.inl rfl), rset_at, ?_, fun j => ?_⟩
  · show h1.2.1 56 l 2 = _
    rw [(f3.2.2.1 56 l (by decide) hA.1 id).1]
    exact hA.2.2.1
  · rw [rset_off (by unfold ak; omega), f4, show min c c1 = c by omega]
theorem cl_growE {G : GG} {h : Hp} {l c b n : Nat} {E : Nat → Nat × Nat} (hA : LA G h l c b n E) (he : ∃ n, h.2.2.2 = some n) {m : Nat} (hc : c = 0) (hm1 : 1 ≤ m) (hm2 : m ≤ 150) : Cy G MJx4a65c_grow_92f84 (rmL 4 1 200) [rf G 56 l, .int (iI (m : Nat))] h (fun v h1 => ∃ q c1, fre h q ∧ c < c1 ∧ c1 ≤ 200 ∧ m ≤ c1 ∧ v = some (rf G (ak 7 c1) q) ∧ (56, l) ∈ h1.1 ∧ (ak 7 c1, q) ∈ h1.1 ∧ Fr (fun i => i = l) h h1 ∧ h1.2.2.1 56 l 1 = some (ak 7 c1, q) ∧ h1.2.1 56 l 2 = n ∧ ∀ j, h1.2.2.1 (ak 7 c1) q j = if j < c then h.2.2.1 (ak 7 c) b j else none) := by
  refine o_entry (by decide +kernel) mwJx4a65c_grow_92f84 rfl (Nat.le_of_ble_eq_true rfl) ?_
  show YY G MJx4a65c_grow_92f84 (rmL 4 1 200) 0 [(0, rf G 56 l), (1, .int (iI (m : Nat)))] [] h 0 0 _
  have hb := hA.2.2.2.1
  have hr0 : h.2.2.1 56 l 1 = some (ak 7 0, gV G 15) := by rw [hA.2.1, hA.2.2.2.2.2.2.1 hc, hc]
  refine o_aload_n (pc := 0) dJx4a65c_grow_92f84_0 0 rfl ?_
  refine o_gR (pc := 1) (j := 1) (ak 7 0) ((gV G 15)) dJx4a65c_grow_92f84_1 flJx4a65c_9 rfl rfl hA.1 hr0 ?_
  refine o_emptyN (pc := 4) dJx4a65c_grow_92f84_4 ?_
  refine o_istore_n (pc := 5) (lv' := [(2, _), (0, _), (1, _)]) dJx4a65c_grow_92f84_5 rfl (by decide) rfl ?_
  refine o_iload_n (pc := 6) dJx4a65c_grow_92f84_6 0 rfl ?_
  refine o_if_gt (pc := 7) 20 dJx4a65c_grow_92f84_7 (by decide) (by unfold inI; omega) (fun c_7 => (by exfalso; omega)) (fun c_7 => ?_)
  refine o_aload_n (pc := 10) dJx4a65c_grow_92f84_10 1 rfl ?_
  refine o_gR (pc := 11) (j := 1) (ak 7 0) ((gV G 15)) dJx4a65c_grow_92f84_11 flJx4a65c_9 rfl rfl hA.1 hr0 ?_
  refine o_empty (pc := 14) dJx4a65c_grow_92f84_14 fsJx4a65c_39 ?_
  refine o_acmp_eq (pc := 17) 45 dJx4a65c_grow_92f84_17 (by decide) (fun c_17 => ?_) (fun c_17 => absurd rfl c_17)
  refine o_aload_n (pc := 45) dJx4a65c_grow_92f84_45 1 rfl ?_
  refine o_bipush (pc := 46) (z := 10) dJx4a65c_grow_92f84_46 (by decide) ?_
  refine o_iload_n (pc := 48) dJx4a65c_grow_92f84_48 2 rfl ?_
  refine o_max (pc := 49) dJx4a65c_grow_92f84_49 lmJx4a65c_79 (by unfold inI; omega) (by unfold inI; omega) (Nat.le_of_ble_eq_true rfl) (Nat.le_of_ble_eq_true rfl) (by simp only [rmL]; omega) (by simp only [rmL]; omega) ?_
  obtain ⟨c1, e1⟩ : ∃ c1 : Nat, max 10 (m : Int) = (c1 : Int) := ⟨(max 10 (m : Int)).toNat, by omega⟩
  rw [e1]
  refine o_sizeD (fun q hn => ?_) he
  refine o_anew (pc := 52) (tag := 2) dJx4a65c_grow_92f84_52 clJx4a65c_7 (fun s hs => hs.2.2.2.2.2.2.2.2.2.2.1) (by decide) rfl hn rfl (by omega) (by simp only [rmL]; omega) (by simp only [rmL]; omega) (fun fq => ?_)
  refine o_dup_x1 (pc := 55) dJx4a65c_grow_92f84_55 rfl rfl ?_
  refine o_putR (pc := 56) (j := 1) dJx4a65c_grow_92f84_56 fxJx4a65c_9 rfl rfl (nw_old hA.1) rfl rfl ?_
  refine o_aret (pc := 59) dJx4a65c_grow_92f84_59 rfl (.inr ⟨_, rfl⟩) (.inr ⟨_, rfl⟩) (by simp only [rmL]; omega) (by simp only [rmL]; omega) ?_
  refine ⟨q, c1, fq, by omega, by omega, by omega, rfl, nw_old hA.1, nw_in, Fr_rset (Fr_nw (Fr.rf he) ak_ge fq) (by decide) (.inl rfl), rset_at, ?_, fun j => ?_⟩
  · show (nw h (ak 7 c1) q).2.1 56 l 2 = _
    rw [((Fr_nw (S := fun _ => False) (Fr.rf he) (ak_ge (t := 7) (n := c1)) fq).2.2.1 56 l (by decide) hA.1 id).1]
    exact hA.2.2.1
  · rw [rset_off (by unfold ak; omega), nw_r, if_neg (by omega)]
