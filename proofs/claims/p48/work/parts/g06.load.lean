/-! the law loads a text -/
theorem and_pos (x : Int32) : ∃ z : Int, x &&& iI 2147483647 = iI z ∧ 0 ≤ z ∧ z < 2147483648 := by
  have e : (x &&& iI 2147483647).toBitVec.toNat ≤ 2147483647 := by
    rw [Int32.toBitVec_and, BitVec.toNat_and]
    exact Nat.and_le_right
  have e2 : (x &&& iI 2147483647).toInt = ((x &&& iI 2147483647).toBitVec.toNat : Int) := by
    show (x &&& iI 2147483647).toBitVec.toInt = _
    exact BitVec.toInt_eq_toNat_of_lt (by omega)
  exact ⟨(x &&& iI 2147483647).toInt, (iI_of _).symm, by omega, by omega⟩
def CO (h h1 : Hp) : Prop := h1.1 = h.1 ∧ h1.2.2.1 = h.2.2.1 ∧ (∀ k, 51 ≤ k → h1.2.1 k = h.2.1 k) ∧ ∃ n, h1.2.2.2 = some n
theorem CO.rf {h : Hp} (hn : ∃ n, h.2.2.2 = some n) : CO h h := ⟨rfl, rfl, fun _ _ => rfl, hn⟩
theorem CO.cs1 {h h1 : Hp} (c : CO h h1) {m1 : Mem} {n : Nat} : CO h (cs h1 m1 n) := ⟨c.1, c.2.1, fun k hk => (cs_hi hk).trans (c.2.2.1 k hk), ⟨n, rfl⟩⟩
theorem CO.eq {h h1 : Hp} (c : CO h h1) : ∃ n, h1 = cs h h1.2.1 n := by
  obtain ⟨c1, c2, c3, n, c4⟩ := c
  refine ⟨n, ?_⟩
  obtain ⟨d, m, r, s⟩ := h1
  change d = h.1 at c1
  change r = h.2.2.1 at c2
  change s = some n at c4
  subst c1 c2 c4
  show (h.1, m, h.2.2.1, some n) = (h.1, (fun k => if k < 51 then m k else h.2.1 k), h.2.2.1, some n)
  have e : m = fun k => if k < 51 then m k else h.2.1 k := by
    funext k
    by_cases g : k < 51
    · rw [if_pos g]
    · rw [if_neg g]
      exact c3 k (by omega)
  rw [← e]
theorem CO.cl {h h1 : Hp} (c : CO h h1) (hc : CL h) : CL h1 := ⟨by rw [c.1]; exact hc.1, by rw [c.1]; exact hc.2.1, by rw [c.2.1]; exact hc.2.2⟩
theorem CO.sq {h h1 : Hp} (c : CO h h1) {s sv n : Nat} {T : Int → Int} (hs : SQ h s sv n T) : SQ h1 s sv n T := by
  obtain ⟨q, e⟩ := c.eq
  rw [e]
  exact hs.cs
theorem CO.wn {h h1 : Hp} (c : CO h h1) {G : GG} {a : Nat} {N : Int → Int} {B : Bok} {S T : Nat → Prop} (hW : WN G h a N B S T) : WN G h1 a N B S T := by
  obtain ⟨q, e⟩ := c.eq
  rw [e]
  exact hW.cs
/-- the text as far as it is taken in -/
def LQ (h H : Hp) (T : Int → Int) (pos : Nat) : Prop := CO h H ∧ RW H.2.1 ∧ H.2.1 34 0 5 = (pos : Int) ∧ (∀ j : Int, 0 ≤ j → j < pos → H.2.1 35 0 j = T j) ∧ (∀ k i, k < 51 → k ≠ 34 → k ≠ 35 → H.2.1 k i = h.2.1 k i) ∧ CL H
theorem LQ.step {h H : Hp} {T : Int → Int} {pos r n1 : Nat} {x : Int64} (q : LQ h H T pos) (hr : 1 ≤ r ∧ r ≤ 8) (hle : pos + r ≤ 500) (hT : ∀ j : Int, 0 ≤ j → j < ((pos + r : Nat) : Int) → 1 ≤ T j ∧ T j < 128) (hx : x.toBitVec.toNat = bn (fun i => (T ((pos + i : Nat) : Int)).toNat) r) : ¬ apF x H.2.1 ∧ apC x H.2.1 0 8 34 0 5 = ((pos + r : Nat) : Int) ∧ LQ h (cs H (apC x H.2.1 0 8) n1) T (pos + r) := by
  obtain ⟨q1, q2, q3, q4, q5, q6⟩ := q
  have B := bT_of hx hr.2 (fun i hi => by have := hT ((pos + i : Nat) : Int) (by omega) (by omega); omega)
  have S := ap_skip (x := x) (m := H.2.1) (r := r) (8 - r) 0 (fun i hi => by rw [show (0 : Int) + (i : Int) = (i : Int) by omega]; exact B.1 i hi)
  rw [show 8 - r + r = 8 by omega, show (0 : Int) + ((8 - r : Nat) : Int) = ((8 - r : Nat) : Int) by omega] at S
  have X := ap_txt (x := x) (f := fun i => T ((pos + i : Nat) : Int)) r 0 ((8 - r : Nat) : Int) H.2.1 (fun i hi => by
    have := hT ((pos + i : Nat) : Int) (by omega) (by omega)
    rw [show ((8 - r : Nat) : Int) + (i : Int) = ((8 - r + i : Nat) : Int) by omega, B.2 i hi, Nat.zero_add]
    exact ⟨by omega, by omega⟩)
  rw [← S.1, ← S.2] at X
  obtain ⟨x1, x2, x3, x4, x5, x6⟩ := X
  have lo : ∀ k, k < 51 → (cs H (apC x H.2.1 0 8) n1).2.1 k = apC x H.2.1 0 8 k := fun k hk => cs_lo hk
  refine ⟨by unfold apF; omega, by rw [x1, q3]; omega, q1.cs1, ⟨?_, fun j j0 j1 => ?_, ?_⟩, by rw [lo 34 (by decide), x1, q3]; omega, fun j j0 j1 => ?_, fun k i k1 k2 k3 => by rw [lo k k1, x5 k i k2 k3]; exact q5 k i k1 k2 k3, CL_cs q6⟩
  · rw [lo 34 (by decide), x1, q3]; omega
  · rw [lo 35 (by decide)]
    by_cases g : H.2.1 34 0 5 ≤ j ∧ j < H.2.1 34 0 5 + (r : Int)
    · obtain ⟨i, ei⟩ : ∃ i : Nat, j = H.2.1 34 0 5 + (i : Int) := ⟨(j - H.2.1 34 0 5).toNat, by omega⟩
      rw [ei, x4 i (by omega), Nat.zero_add]
      have := hT ((pos + i : Nat) : Int) (by omega) (by omega)
      omega
    · rw [x3 j g]
      exact q2.2.1 j j0 j1
  · rw [lo 34 (by decide), x6 1 (by decide)]
    exact q2.2.2
  · rw [lo 35 (by decide)]
    by_cases g : H.2.1 34 0 5 ≤ j ∧ j < H.2.1 34 0 5 + (r : Int)
    · obtain ⟨i, ei⟩ : ∃ i : Nat, j = H.2.1 34 0 5 + (i : Int) := ⟨(j - H.2.1 34 0 5).toNat, by omega⟩
      rw [ei, x4 i (by omega), Nat.zero_add, q3]
      congr 1 <;> omega
    · rw [x3 j g]
      exact q4 j j0 (by omega)
theorem cw_at {G : GG} {h : Hp} (hL : gV G 21 ≤ 300) {k : Int} (hk : 0 ≤ k ∧ k < 1000) : Cy G ML_at (rmL 0 0 0) [.ref (gV G 20), .int (iI k)] h (fun v h1 => ∃ z, v = some (.int (iI z)) ∧ (0 ≤ z ∧ z < 2147483648) ∧ h1 = h) := by
  refine o_entry (by decide +kernel) mwL_at rfl (Nat.le_of_ble_eq_true rfl) ?_
  show YY G ML_at (rmL 0 0 0) 0 [(0, .ref (gV G 20)), (1, .int (iI k))] [] h 0 0 _
  refine o_aload_n (pc := 0) dL_at_0 0 rfl ?_
  refine o_slen (pc := 1) (by omega) dL_at_1 ?_
  refine o_iconst (pc := 2) dL_at_2 ?_
  refine o_icmp_le (pc := 3) 22 dL_at_3 (by decide) (by unfold inI; omega) (by unfold inI; omega) (fun c_3 => ?_) (fun c_3 => ?_)
  · refine o_sipush (pc := 22) (z := 7919) dL_at_22 (by decide) ?_
    refine o_iload_n (pc := 25) dL_at_25 1 rfl ?_
    refine o_imul (pc := 26) dL_at_26 ?_
    refine o_ldc (pc := 27) (z := 2147483647) dL_at_27 kcL_7 (by decide) ?_
    obtain ⟨z, ez, hz⟩ := and_pos (iI (7919 * k))
    refine o_iand (pc := 29) dL_at_29 ez ?_
    exact o_iret (pc := 30) dL_at_30 rfl (Nat.le_of_ble_eq_true rfl) (Nat.le_of_ble_eq_true rfl) ⟨z, rfl, hz, rfl⟩
  · refine o_aload_n (pc := 6) dL_at_6 0 rfl ?_
    refine o_iload_n (pc := 7) dL_at_7 1 rfl ?_
    refine o_aload_n (pc := 8) dL_at_8 0 rfl ?_
    refine o_slen (pc := 9) (by omega) dL_at_9 ?_
    have em0 := Int.emod_nonneg k (show ((gV G 21 : Nat) : Int) - 1 ≠ 0 by omega)
    have em1 := Int.emod_lt_of_pos k (show 0 < ((gV G 21 : Nat) : Int) - 1 by omega)
    refine o_iconst (pc := 10) dL_at_10 ?_
    refine o_isub (pc := 11) dL_at_11 ?_
    refine o_irem (pc := 12) dL_at_12 (by omega) (by omega) ?_
    refine o_iconst (pc := 13) dL_at_13 ?_
    refine o_iadd (pc := 14) dL_at_14 ?_
    refine o_sld (pc := 15) (by omega) (by omega) dL_at_15 ?_
    refine o_ldc (pc := 16) (z := 2147483647) dL_at_16 kcL_7 (by decide) ?_
    obtain ⟨z, ez, hz⟩ := and_pos (gSx G (k % (((gV G 21 : Nat) : Int) - 1) + 1).toNat)
    refine o_iand (pc := 18) dL_at_18 ez ?_
    refine o_goto (pc := 19) 30 dL_at_19 (by decide) ?_
    exact o_iret (pc := 30) dL_at_30 rfl (Nat.le_of_ble_eq_true rfl) (Nat.le_of_ble_eq_true rfl) ⟨z, rfl, hz, rfl⟩
theorem lp_ld8 {G : GG} {h H : Hp} {s sv len pos e : Nat} {T : Int → Int} (hq : LQ h H T pos) (hs : SQ H s sv len T) (hlen : len ≤ 500) (hT : ∀ j : Int, 0 ≤ j → j < (len : Int) → 1 ≤ T j ∧ T j < 128) (he : e = min (pos + 8) len) (hpe : pos ≤ e) {Q : PP} {c0 s0 : Nat} (hcs : c0 = 0) (hss : s0 = 0) (kk : ∀ x : Int64, x.toBitVec.toNat = bn (fun i => (T ((pos + i : Nat) : Int)).toNat) (e - pos) → YY G ML_load (rmL 14 0 0) 60 [(0, rf G 38 0), (1, rf G 59 s), (2, .int (iI (e : Int))), (3, .int (iI (pos : Int))), (4, .long x)] [] H c0 s0 Q) : ∀ (n : Nat) {x : Int64} {i : Nat} (hi : pos ≤ i) (hx : x.toBitVec.toNat = bn (fun i => (T ((pos + i : Nat) : Int)).toNat) (i - pos)) (hc : i + n = e), YY G ML_load (rmL 14 0 0) 18 [(0, rf G 38 0), (1, rf G 59 s), (2, .int (iI (i : Int))), (3, .int (iI (pos : Int))), (4, .long x), (6, .int (iI (i : Int)))] [] H c0 s0 Q := by
  intro n
  induction n with
  | zero =>
    intro x i hi hx hc
    refine o_iload (pc := 18) dL_load_18 5 rfl ?_
    refine o_iload_n (pc := 20) dL_load_20 3 rfl ?_
    refine o_bipush (pc := 21) (z := 8) dL_load_21 (by decide) ?_
    refine o_iadd (pc := 23) dL_load_23 ?_
    refine o_icmp_ge (pc := 24) 60 dL_load_24 (by decide) (by unfold inI; omega) (by unfold inI; omega) (fun c_24 => ?_) (fun c_24 => ?_)
    · obtain rfl : i = e := by omega
      exact o_lv [0, 1, 2, 3, 4] rfl (kk x hx)
    · refine o_iload (pc := 27) dL_load_27 5 rfl ?_
      refine o_aload_n (pc := 29) dL_load_29 1 rfl ?_
      refine o_callV (pc := 30) _ dL_load_30 (cs_length hs) lkL_8 rfl rfl rfl rfl hs.1 ⟨⟨by simp only [rmL, rmD]; omega, by simp only [rmL, rmD]; omega⟩, by simp only [rmL, rmD]; omega, by simp only [rmL, rmD]; omega⟩ (Nat.le_of_ble_eq_true rfl) rfl (fun v h1 hq => ?_)
      obtain ⟨rfl, e2⟩ := hq
      obtain rfl := e2.symm
      refine o_icmp_ge (pc := 33) 60 dL_load_33 (by decide) (by unfold inI; omega) (by unfold inI; omega) (fun c_33 => ?_) (fun c_33 => (by exfalso; omega))
      obtain rfl : i = e := by omega
      exact o_lv [0, 1, 2, 3, 4] rfl (kk x hx)
  | succ n ih =>
    intro x i hi hx hc
    refine o_iload (pc := 18) dL_load_18 5 rfl ?_
    refine o_iload_n (pc := 20) dL_load_20 3 rfl ?_
    refine o_bipush (pc := 21) (z := 8) dL_load_21 (by decide) ?_
    refine o_iadd (pc := 23) dL_load_23 ?_
    refine o_icmp_ge (pc := 24) 60 dL_load_24 (by decide) (by unfold inI; omega) (by unfold inI; omega) (fun c_24 => (by exfalso; omega)) (fun c_24 => ?_)
    refine o_iload (pc := 27) dL_load_27 5 rfl ?_
    refine o_aload_n (pc := 29) dL_load_29 1 rfl ?_
    refine o_callV (pc := 30) _ dL_load_30 (cs_length hs) lkL_8 rfl rfl rfl rfl hs.1 ⟨⟨by simp only [rmL, rmD]; omega, by simp only [rmL, rmD]; omega⟩, by simp only [rmL, rmD]; omega, by simp only [rmL, rmD]; omega⟩ (Nat.le_of_ble_eq_true rfl) rfl (fun v h1 hq => ?_)
    obtain ⟨rfl, e2⟩ := hq
    obtain rfl := e2.symm
    refine o_icmp_ge (pc := 33) 60 dL_load_33 (by decide) (by unfold inI; omega) (by unfold inI; omega) (fun c_33 => (by exfalso; omega)) (fun c_33 => ?_)
    refine o_lload (pc := 36) dL_load_36 4 rfl ?_
    refine o_bipush (pc := 38) (z := 8) dL_load_38 (by decide) ?_
    refine o_lshl_ (pc := 40) dL_load_40 ?_
    refine o_aload_n (pc := 41) dL_load_41 1 rfl ?_
    refine o_iload (pc := 42) dL_load_42 5 rfl ?_
    refine o_callV (pc := 44) _ dL_load_44 (cs_char hs (z := T (i : Int)) (by omega) (by omega) (by have := hT (i : Int) (by omega) (by omega); omega) rfl) lkL_14 rfl rfl rfl rfl hs.1 ⟨⟨by simp only [rmL, rmD]; omega, by simp only [rmL, rmD]; omega⟩, by simp only [rmL, rmD]; omega, by simp only [rmL, rmD]; omega⟩ (Nat.le_of_ble_eq_true rfl) rfl (fun v h1 hq => ?_)
    obtain ⟨rfl, e2⟩ := hq
    obtain rfl := e2.symm
    have hTi := hT (i : Int) (by omega) (by omega)
    refine o_i2l (pc := 47) dL_load_47 (by unfold inI; omega) ?_
    refine o_lor_ (pc := 48) dL_load_48 ?_
    refine o_lstore (pc := 49) (lv' := [(4, _), (0, _), (1, _), (2, _), (3, _), (6, _)]) dL_load_49 (by decide) rfl ?_
    refine o_iinc (pc := 51) (lv' := [(2, _), (4, _), (0, _), (1, _), (3, _), (6, _)]) dL_load_51 3 rfl (by decide) rfl ?_
    refine o_iinc (pc := 54) (lv' := [(6, _), (2, _), (4, _), (0, _), (1, _), (3, _)]) dL_load_54 5 rfl (by decide) rfl ?_
    refine o_goto (pc := 57) 18 dL_load_57 (by decide) ?_
    refine o_lv [3, 4, 1, 5, 2, 0] rfl (ih (i := i + 1) (by omega) ?_ (by omega))
    rw [show i + 1 - pos = (i - pos) + 1 by omega]
    exact bn_step hx (by omega) (fun j hj => by have := hT ((pos + j : Nat) : Int) (by omega) (by omega); omega) (by show T (i : Int) = ((T ((pos + (i - pos) : Nat) : Int)).toNat : Int); rw [show pos + (i - pos) = i by omega]; omega) (by rw [show pos + (i - pos) = i by omega]; omega)
theorem lp_ld {G : GG} {h : Hp} {s sv : Nat} {L : List Int} {N : Int → Int} {T : Int → Int} (hP : PR L N) (hLT : TXat T 0 L) (hlen : L.length ≤ 500) (hT : ∀ j : Int, 0 ≤ j → j < (L.length : Int) → 1 ≤ T j ∧ T j < 128) (h36 : 0 ≤ h.2.1 36 0 1 ∧ h.2.1 36 0 1 < 8) : ∀ (n : Nat) {H : Hp} {pos : Nat} {k : Int} (hq : LQ h H T pos) (hs : SQ H s sv L.length T) (hk : 0 ≤ k ∧ k ≤ 600) (hpk : (pos : Int) = min k (L.length : Int)) (hn : L.length ≤ pos + n), YY G ML_load (rmL 14 0 0) 4 [(0, rf G 38 0), (1, rf G 59 s), (2, .int (iI (pos : Int))), (3, .int (iI k))] [] H 0 0 (fun v h1 => v = some (.int (iI (N 3))) ∧ CO h h1 ∧ CL h1 ∧ SH h1.2.1 N 0 ∧ h1.2.1 36 0 0 = 0 ∧ h1.2.1 34 0 1 = 0) := by
  intro n
  induction n with
  | zero =>
    intro H pos k hq hs hk hpk hn
    have hb := hq.2.2.1
    have hpl : pos = L.length := by omega
    have LDr := hP.load (m := H.2.1) hq.2.1 (by rw [hb, hpl]) (hLT.cg _ _ (fun j j0 j1 => hq.2.2.2.1 j j0 (by omega)))
    have LDs := load_SH (m := H.2.1) LDr.2 (by rw [hq.2.2.2.2.1 36 0 (by decide) (by decide) (by decide)]; exact h36)
    have LDm := And.intro LDr.1 LDs
    refine o_iload_n (pc := 4) dL_load_4 3 rfl ?_
    refine o_aload_n (pc := 5) dL_load_5 1 rfl ?_
    refine o_callV (pc := 6) _ dL_load_6 (cs_length hs) lkL_8 rfl rfl rfl rfl hs.1 ⟨⟨by simp only [rmL, rmD]; omega, by simp only [rmL, rmD]; omega⟩, by simp only [rmL, rmD]; omega, by simp only [rmL, rmD]; omega⟩ (Nat.le_of_ble_eq_true rfl) rfl (fun v h1 hq => ?_)
    obtain ⟨rfl, e2⟩ := hq
    obtain rfl := e2.symm
    refine o_icmp_ge (pc := 9) 79 dL_load_9 (by decide) (by unfold inI; omega) (by unfold inI; omega) (fun c_9 => ?_) (fun c_9 => (by exfalso; omega))
    refine o_aload_n (pc := 79) dL_load_79 0 rfl ?_
    refine o_callC (pc := 80) _ dL_load_80 (fun G' hG => P_load1 (m := H.2.1) hq.2.1 LDm.1) lkL_24 rfl rfl hq.2.2.2.2.2 ⟨⟨by simp only [rmL, rmD]; omega, by simp only [rmL, rmD]; omega⟩, by simp only [rmL, rmD]; omega, by simp only [rmL, rmD]; omega⟩ (Nat.le_of_ble_eq_true rfl) rfl (fun n1 => ?_)
    refine o_topI (y := N 3) LDm.2.2.2 ?_
    refine o_iret (pc := 83) dL_load_83 rfl (by first | omega | (simp only [rmL, rmD]; omega)) (by first | omega | (simp only [rmL, rmD]; omega)) ?_
    refine ⟨rfl, hq.1.cs1, CL_cs hq.2.2.2.2.2, LDs.1.k (fun k hk => cs_lo hk), ?_, ?_⟩
    · show (cs H (ldX H.2.1) n1).2.1 36 0 0 = 0
      rw [cs_lo (by decide)]
      exact LDs.2.1
    · show (cs H (ldX H.2.1) n1).2.1 34 0 1 = 0
      rw [cs_lo (by decide), load_err]
      exact LDr.1
  | succ n ih =>
    intro H pos k hq hs hk hpk hn
    have hb := hq.2.2.1
    refine o_iload_n (pc := 4) dL_load_4 3 rfl ?_
    refine o_aload_n (pc := 5) dL_load_5 1 rfl ?_
    refine o_callV (pc := 6) _ dL_load_6 (cs_length hs) lkL_8 rfl rfl rfl rfl hs.1 ⟨⟨by simp only [rmL, rmD]; omega, by simp only [rmL, rmD]; omega⟩, by simp only [rmL, rmD]; omega, by simp only [rmL, rmD]; omega⟩ (Nat.le_of_ble_eq_true rfl) rfl (fun v h1 hq => ?_)
    obtain ⟨rfl, e2⟩ := hq
    obtain rfl := e2.symm
    refine o_icmp_ge (pc := 9) 79 dL_load_9 (by decide) (by unfold inI; omega) (by unfold inI; omega) (fun c_9 => ?_) (fun c_9 => ?_)
    · refine o_aload_n (pc := 79) dL_load_79 0 rfl ?_
      have hpl : pos = L.length := by omega
      have LDr := hP.load (m := H.2.1) hq.2.1 (by rw [hb, hpl]) (hLT.cg _ _ (fun j j0 j1 => hq.2.2.2.1 j j0 (by omega)))
      have LDs := load_SH (m := H.2.1) LDr.2 (by rw [hq.2.2.2.2.1 36 0 (by decide) (by decide) (by decide)]; exact h36)
      have LDm := And.intro LDr.1 LDs
      refine o_callC (pc := 80) _ dL_load_80 (fun G' hG => P_load1 (m := H.2.1) hq.2.1 LDm.1) lkL_24 rfl rfl hq.2.2.2.2.2 ⟨⟨by simp only [rmL, rmD]; omega, by simp only [rmL, rmD]; omega⟩, by simp only [rmL, rmD]; omega, by simp only [rmL, rmD]; omega⟩ (Nat.le_of_ble_eq_true rfl) rfl (fun n1 => ?_)
      refine o_topI (y := N 3) LDm.2.2.2 ?_
      refine o_iret (pc := 83) dL_load_83 rfl (by first | omega | (simp only [rmL, rmD]; omega)) (by first | omega | (simp only [rmL, rmD]; omega)) ?_
      refine ⟨rfl, hq.1.cs1, CL_cs hq.2.2.2.2.2, LDs.1.k (fun k hk => cs_lo hk), ?_, ?_⟩
      · show (cs H (ldX H.2.1) n1).2.1 36 0 0 = 0
        rw [cs_lo (by decide)]
        exact LDs.2.1
      · show (cs H (ldX H.2.1) n1).2.1 34 0 1 = 0
        rw [cs_lo (by decide), load_err]
        exact LDr.1
    · refine o_lconst (pc := 12) (z := 0) dL_load_12 (by decide) ?_
      refine o_lstore (pc := 13) (lv' := [(4, _), (0, _), (1, _), (2, _), (3, _)]) dL_load_13 (by decide) rfl ?_
      refine o_iload_n (pc := 15) dL_load_15 4 rfl ?_
      refine o_istore (pc := 16) (lv' := [(6, _), (4, _), (0, _), (1, _), (2, _), (3, _)]) dL_load_16 (by decide) rfl ?_
      obtain ⟨e, he⟩ : ∃ e, e = min (pos + 8) L.length := ⟨_, rfl⟩
      obtain rfl : k = (pos : Int) := by omega
      refine o_lv [2, 3, 4, 5, 1, 0] rfl (lp_ld8 (e := e) hq hs hlen hT he (by omega) (by first | rfl | (simp only [rmL])) (by first | rfl | (simp only [rmL])) (fun x hx => ?_) (e - pos) (i := pos) (Nat.le_refl _) (by rw [Nat.sub_self]; rfl) (by omega))
      obtain ⟨r, hr⟩ : ∃ r, e = pos + r := ⟨e - pos, by omega⟩
      rw [hr, show pos + r - pos = r by omega] at hx
      rw [hr]
      have ST8 := fun n1 => hq.step (r := r) (n1 := n1) (x := x) (by omega) (by omega) (fun j j0 j1 => hT j j0 (by omega)) hx
      refine o_aload_n (pc := 60) dL_load_60 0 rfl ?_
      refine o_lload (pc := 61) dL_load_61 4 rfl ?_
      refine o_callC (pc := 63) _ dL_load_63 (fun G' hG => P_append1 (m := H.2.1) x hq.2.1 (ST8 0).1) lkL_18 rfl rfl hq.2.2.2.2.2 ⟨⟨by simp only [rmL, rmD]; omega, by simp only [rmL, rmD]; omega⟩, by simp only [rmL, rmD]; omega, by simp only [rmL, rmD]; omega⟩ (Nat.le_of_ble_eq_true rfl) rfl (fun n1 => ?_)
      have q2 := (ST8 n1).2.2
      refine o_topI (y := ((pos + r : Nat) : Int)) (ST8 0).2.1 ?_
      refine o_iload_n (pc := 66) dL_load_66 2 rfl ?_
      refine o_icmp_eq (pc := 67) 73 dL_load_67 (by decide) (by unfold inI; omega) (by unfold inI; omega) (fun c_67 => ?_) (fun c_67 => (by exfalso; omega))
      refine o_iinc (pc := 73) (lv' := [(3, _), (0, _), (1, _), (2, _), (4, _)]) dL_load_73 3 rfl (by decide) rfl ?_
      refine o_goto (pc := 76) 4 dL_load_76 (by decide) ?_
      exact o_lv [1, 2, 3, 0] rfl (ih (pos := pos + r) (k := (pos : Int) + 8) q2 (hs.cs) (by omega) (by omega) (by omega))
theorem cw_load {G : GG} {h : Hp} {s sv : Nat} {L : List Int} {N : Int → Int} {T : Int → Int} (hP : PR L N) (hLT : TXat T 0 L) (hlen : L.length ≤ 500) (hT : ∀ j : Int, 0 ≤ j → j < (L.length : Int) → 1 ≤ T j ∧ T j < 128) (h36 : 0 ≤ h.2.1 36 0 1 ∧ h.2.1 36 0 1 < 8) (hq : LQ h h T 0) (hs : SQ h s sv L.length T) : Cy G ML_load (rmL 14 0 0) [rf G 38 0, rf G 59 s] h (fun v h1 => v = some (.int (iI (N 3))) ∧ CO h h1 ∧ CL h1 ∧ SH h1.2.1 N 0 ∧ h1.2.1 36 0 0 = 0 ∧ h1.2.1 34 0 1 = 0) := by
  refine o_entry (by decide +kernel) mwL_load rfl (Nat.le_of_ble_eq_true rfl) ?_
  show YY G ML_load (rmL 14 0 0) 0 [(0, rf G 38 0), (1, rf G 59 s)] [] h 0 0 _
  refine o_iconst (pc := 0) dL_load_0 ?_
  refine o_istore_n (pc := 1) (lv' := [(2, _), (0, _), (1, _)]) dL_load_1 rfl (by decide) rfl ?_
  refine o_iconst (pc := 2) dL_load_2 ?_
  refine o_istore_n (pc := 3) (lv' := [(3, _), (2, _), (0, _), (1, _)]) dL_load_3 rfl (by decide) rfl ?_
  exact o_lv [2, 3, 1, 0] rfl (lp_ld hP hLT hlen hT h36 L.length (pos := 0) (k := 0) hq hs (by omega) (by omega) (by omega))
