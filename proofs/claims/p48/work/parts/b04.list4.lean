/-! lists: toArray, addAll, remove -/
theorem cpR_off {h : Hp} {ks is k i sp dp c n' k' i' j : Nat} (hn : ¬ (k' = k ∧ i' = i)) : (cpR h ks is k i sp dp c n').2.2.1 k' i' j = h.2.2.1 k' i' j := if_neg (fun z => hn ⟨z.1, z.2.1⟩)
def drE (E : Nat → Nat × Nat) (i : Nat) : Nat → Nat × Nat := fun j => if j < i then E j else E (j + 1)
theorem cl_toArray {G : GG} {h : Hp} {l c b n : Nat} {E : Nat → Nat × Nat} (hA : LA G h l c b n E) (he : ∃ n, h.2.2.2 = some n) : Cy G MJx4a65c_toArray_d5877 (rmL 2 1 n) [rf G 56 l] h (fun v h1 => ∃ q, fre h q ∧ v = some (rf G (ak 7 n) q) ∧ (ak 7 n, q) ∈ h1.1 ∧ Fr (fun _ => False) h h1 ∧ ∀ j, h1.2.2.1 (ak 7 n) q j = if j < n then some (E j) else none) := by
  refine o_entry (by decide +kernel) mwJx4a65c_toArray_d5877 rfl (Nat.le_of_ble_eq_true rfl) ?_
  show YY G MJx4a65c_toArray_d5877 (rmL 2 1 n) 0 [(0, rf G 56 l)] [] h 0 0 _
  have hb := hA.2.2.2.1
  have hb2 := hA.2.2.2.2.1
  refine o_aload_n (pc := 0) dJx4a65c_toArray_d5877_0 0 rfl ?_
  refine o_gR (pc := 1) (j := 1) (ak 7 c) (b) dJx4a65c_toArray_d5877_1 flJx4a65c_9 rfl rfl hA.1 hA.2.1 ?_
  refine o_aload_n (pc := 4) dJx4a65c_toArray_d5877_4 0 rfl ?_
  refine o_gI (pc := 5) (j := 2) dJx4a65c_toArray_d5877_5 flJx4a65c_48 rfl rfl hA.1 hA.2.2.1 ?_
  refine o_callS (pc := 8) _ dJx4a65c_toArray_d5877_8 (cl_cpy hA he (N := n) (by omega)) lkJx4a65c_66 rfl ⟨⟨by simp only [rmL]; omega, by simp only [rmL]; omega⟩, by simp only [rmL]; omega, by simp only [rmL]; omega⟩ (Nat.le_of_ble_eq_true rfl) rfl (fun v h1 hq => ?_)
  obtain ⟨q, f1, rfl, f2, f3, f4⟩ := hq
  refine o_aret (pc := 11) dJx4a65c_toArray_d5877_11 rfl (.inr ⟨_, rfl⟩) (.inr ⟨_, rfl⟩) (by simp only [rmL]; omega) (by simp only [rmL]; omega) ?_
  refine ⟨q, f1, rfl, f2, f3, fun j => ?_⟩
  rw [f4, show min c n = n by omega]
  by_cases z : j < n
  · rw [if_pos z, if_pos z]
    exact (hA.2.2.2.2.2.2.2.1 j z).1
  · rw [if_neg z, if_neg z]
theorem cl_addAll0 {G : GG} {h : Hp} {l b l2 c2 b2 n2 : Nat} {E E2 : Nat → Nat × Nat} (hA : LA G h l 0 b 0 E) (hA2 : LA G h l2 c2 b2 n2 E2) (he : ∃ n, h.2.2.2 = some n) (hn2 : n2 ≤ 100) (hz : n2 = 0) : Cy G MJx4a65c_addAll_f0b43 (rmL 8 300 700) [rf G 56 l, rf G 56 l2] h (fun v h1 => (∃ z, v = some (.int (iI z))) ∧ ∃ c1 b1, LA G h1 l c1 b1 n2 E2 ∧ Fr (fun i => i = l) h h1 ∧ (c1 = 0 ∨ fre h b1)) := by
  refine o_entry (by decide +kernel) mwJx4a65c_addAll_f0b43 rfl (Nat.le_of_ble_eq_true rfl) ?_
  show YY G MJx4a65c_addAll_f0b43 (rmL 8 300 700) 0 [(0, rf G 56 l), (1, rf G 56 l2)] [] h 0 0 _
  refine o_aload_n (pc := 0) dJx4a65c_addAll_f0b43_0 1 rfl ?_
  refine o_callF (pc := 1) (q := (RJx4a65c, TJx4a65c, 3)) _ dJx4a65c_addAll_f0b43_1 (cl_toArray hA2 he) lfJx4a65c_42 (fun s hs => hs.2.2.2.2.2.2.2.2.2.2.2.2.1) rfl rfl rfl hA2.1 ⟨⟨by simp only [rmL]; omega, by simp only [rmL]; omega⟩, by simp only [rmL]; omega, by simp only [rmL]; omega⟩ (Nat.le_of_ble_eq_true rfl) rfl (fun v h1 hq => ?_)
  obtain ⟨q, f1, rfl, f2, f3, f4⟩ := hq
  have hA1 := hA.fr f3 id (fun _ => id)
  have hb0 := hA1.2.2.2.2.2.2.1 rfl
  have hq7 : ¬ (56 = ak 7 n2) := by unfold ak; omega
  refine o_astore_n (pc := 6) (lv' := [(2, _), (0, _), (1, _)]) dJx4a65c_addAll_f0b43_6 rfl (by decide) rfl ?_
  refine o_aload_n (pc := 7) dJx4a65c_addAll_f0b43_7 1 rfl ?_
  refine o_dup (pc := 8) dJx4a65c_addAll_f0b43_8 rfl ?_
  refine o_getMod (pc := 9) dJx4a65c_addAll_f0b43_9 flm_l hA1.1 rfl ?_
  refine o_iconst (pc := 12) dJx4a65c_addAll_f0b43_12 ?_
  refine o_iadd (pc := 13) dJx4a65c_addAll_f0b43_13 ?_
  refine o_putMod (pc := 14) dJx4a65c_addAll_f0b43_14 flm_l hA1.1 ?_
  refine o_aload_n (pc := 17) dJx4a65c_addAll_f0b43_17 0 rfl ?_
  refine o_alN (pc := 18) (tag := 7) dJx4a65c_addAll_f0b43_18 (shp_ak (by decide)) f2 rfl ?_
  refine o_istore_n (pc := 19) (lv' := [(3, _), (2, _), (0, _), (1, _)]) dJx4a65c_addAll_f0b43_19 rfl (by decide) rfl ?_
  refine o_iload_n (pc := 20) dJx4a65c_addAll_f0b43_20 0 rfl ?_
  refine o_if_ne (pc := 21) 26 dJx4a65c_addAll_f0b43_21 (by decide) (by unfold inI; omega) (fun c_21 => (by exfalso; omega)) (fun c_21 => ?_)
  refine o_iconst (pc := 24) dJx4a65c_addAll_f0b43_24 ?_
  refine o_zret (pc := 25) dJx4a65c_addAll_f0b43_25 rfl rfl (by simp only [rmL]; omega) (by simp only [rmL]; omega) ?_
  refine ⟨⟨0, rfl⟩, 0, b, ?_, Fr_hset (f3.w (fun i z => z.elim)) (by decide) (.inl rfl), .inl rfl⟩
  subst hz
  exact hA1.mod.E (fun j z => by omega)
theorem cl_addAll1 {G : GG} {h : Hp} {l b l2 c2 b2 n2 : Nat} {E E2 : Nat → Nat × Nat} (hA : LA G h l 0 b 0 E) (hA2 : LA G h l2 c2 b2 n2 E2) (he : ∃ n, h.2.2.2 = some n) (hn2 : n2 ≤ 100) (hz : 0 < n2) : Cy G MJx4a65c_addAll_f0b43 (rmL 8 300 700) [rf G 56 l, rf G 56 l2] h (fun v h1 => (∃ z, v = some (.int (iI z))) ∧ ∃ c1 b1, LA G h1 l c1 b1 n2 E2 ∧ Fr (fun i => i = l) h h1 ∧ (c1 = 0 ∨ fre h b1)) := by
  refine o_entry (by decide +kernel) mwJx4a65c_addAll_f0b43 rfl (Nat.le_of_ble_eq_true rfl) ?_
  show YY G MJx4a65c_addAll_f0b43 (rmL 8 300 700) 0 [(0, rf G 56 l), (1, rf G 56 l2)] [] h 0 0 _
  refine o_aload_n (pc := 0) dJx4a65c_addAll_f0b43_0 1 rfl ?_
  refine o_callF (pc := 1) (q := (RJx4a65c, TJx4a65c, 3)) _ dJx4a65c_addAll_f0b43_1 (cl_toArray hA2 he) lfJx4a65c_42 (fun s hs => hs.2.2.2.2.2.2.2.2.2.2.2.2.1) rfl rfl rfl hA2.1 ⟨⟨by simp only [rmL]; omega, by simp only [rmL]; omega⟩, by simp only [rmL]; omega, by simp only [rmL]; omega⟩ (Nat.le_of_ble_eq_true rfl) rfl (fun v h1 hq => ?_)
  obtain ⟨q, f1, rfl, f2, f3, f4⟩ := hq
  have hA1 := hA.fr f3 id (fun _ => id)
  have hb0 := hA1.2.2.2.2.2.2.1 rfl
  have hq7 : ¬ (56 = ak 7 n2) := by unfold ak; omega
  refine o_astore_n (pc := 6) (lv' := [(2, _), (0, _), (1, _)]) dJx4a65c_addAll_f0b43_6 rfl (by decide) rfl ?_
  refine o_aload_n (pc := 7) dJx4a65c_addAll_f0b43_7 1 rfl ?_
  refine o_dup (pc := 8) dJx4a65c_addAll_f0b43_8 rfl ?_
  refine o_getMod (pc := 9) dJx4a65c_addAll_f0b43_9 flm_l hA1.1 rfl ?_
  refine o_iconst (pc := 12) dJx4a65c_addAll_f0b43_12 ?_
  refine o_iadd (pc := 13) dJx4a65c_addAll_f0b43_13 ?_
  refine o_putMod (pc := 14) dJx4a65c_addAll_f0b43_14 flm_l hA1.1 ?_
  refine o_aload_n (pc := 17) dJx4a65c_addAll_f0b43_17 0 rfl ?_
  refine o_alN (pc := 18) (tag := 7) dJx4a65c_addAll_f0b43_18 (shp_ak (by decide)) f2 rfl ?_
  refine o_istore_n (pc := 19) (lv' := [(3, _), (2, _), (0, _), (1, _)]) dJx4a65c_addAll_f0b43_19 rfl (by decide) rfl ?_
  refine o_iload_n (pc := 20) dJx4a65c_addAll_f0b43_20 0 rfl ?_
  refine o_if_ne (pc := 21) 26 dJx4a65c_addAll_f0b43_21 (by decide) (by unfold inI; omega) (fun c_21 => ?_) (fun c_21 => (by exfalso; omega))
  refine o_iload_n (pc := 26) dJx4a65c_addAll_f0b43_26 0 rfl ?_
  refine o_aload_n (pc := 27) dJx4a65c_addAll_f0b43_27 2 rfl ?_
  refine o_gR (pc := 28) (j := 1) (ak 7 0) ((gV G 15)) dJx4a65c_addAll_f0b43_28 flJx4a65c_9 rfl rfl hA1.1 (by rw [← hb0]; exact hA1.2.1) ?_
  refine o_dup (pc := 31) dJx4a65c_addAll_f0b43_31 rfl ?_
  refine o_astore (pc := 32) (lv' := [(4, _), (3, _), (2, _), (0, _), (1, _)]) dJx4a65c_addAll_f0b43_32 (by decide) rfl ?_
  refine o_emptyN (pc := 34) dJx4a65c_addAll_f0b43_34 ?_
  refine o_aload_n (pc := 35) dJx4a65c_addAll_f0b43_35 3 rfl ?_
  refine o_gI (pc := 36) (j := 2) dJx4a65c_addAll_f0b43_36 flJx4a65c_48 rfl rfl hA1.1 hA1.mod.2.2.1 ?_
  refine o_dup (pc := 39) dJx4a65c_addAll_f0b43_39 rfl ?_
  refine o_istore (pc := 40) (lv' := [(5, _), (4, _), (3, _), (2, _), (0, _), (1, _)]) dJx4a65c_addAll_f0b43_40 (by decide) rfl ?_
  refine o_isub (pc := 42) dJx4a65c_addAll_f0b43_42 ?_
  refine o_icmp_le (pc := 43) 56 dJx4a65c_addAll_f0b43_43 (by decide) (by unfold inI; omega) (by unfold inI; omega) (fun c_43 => (by exfalso; omega)) (fun c_43 => ?_)
  refine o_aload_n (pc := 46) dJx4a65c_addAll_f0b43_46 4 rfl ?_
  refine o_iload (pc := 47) dJx4a65c_addAll_f0b43_47 0 rfl ?_
  refine o_iload_n (pc := 49) dJx4a65c_addAll_f0b43_49 2 rfl ?_
  refine o_iadd (pc := 50) dJx4a65c_addAll_f0b43_50 ?_
  refine o_topI (y := ((n2 : Nat) : Int)) (by omega) ?_
  refine o_callV (pc := 51) _ dJx4a65c_addAll_f0b43_51 (cl_grow hA1.mod (by exact f3.2.2.2.2) (m := n2) (by omega) hz (.inl ⟨rfl, by omega⟩)) lkJx4a65c_69 rfl rfl rfl rfl hA1.1 ⟨⟨by simp only [rmL]; omega, by simp only [rmL]; omega⟩, by simp only [rmL]; omega, by simp only [rmL]; omega⟩ (Nat.le_of_ble_eq_true rfl) rfl (fun v h2 hq => ?_)
  obtain ⟨q1, c1, g1, g2, g3, g4, rfl, g5, g6, g7, g8, g9, g10⟩ := hq
  have hF2 : Fr (fun i => i = l) h h2 := (Fr_hset (S := fun i => i = l) (k := 56) (i := l) (f3.w (fun i z => z.elim)) (by decide) (.inl rfl)).t g7
  have hq2 : (ak 7 n2, q) ∈ h2.1 := g7.1 _ f2
  have hql : ¬ q = l := fun z => f1 56 (by decide) (by rw [z]; exact hA.1)
  have hr2 : h2.2.2.1 (ak 7 n2) q = h1.2.2.1 (ak 7 n2) q := (g7.2.2.1 (ak 7 n2) q ak_ge f2 hql).2
  refine o_astore (pc := 54) (lv' := [(4, _), (5, _), (3, _), (2, _), (0, _), (1, _)]) dJx4a65c_addAll_f0b43_54 (by decide) rfl ?_
  refine o_aload_n (pc := 56) dJx4a65c_addAll_f0b43_56 3 rfl ?_
  refine o_iconst (pc := 57) dJx4a65c_addAll_f0b43_57 ?_
  refine o_aload (pc := 58) dJx4a65c_addAll_f0b43_58 0 rfl ?_
  refine o_iload (pc := 60) dJx4a65c_addAll_f0b43_60 1 rfl ?_
  refine o_iload_n (pc := 62) dJx4a65c_addAll_f0b43_62 2 rfl ?_
  refine o_topI (y := ((n2 : Nat) : Int)) (by omega) ?_
  refine o_copyR (pc := 63) (sp := 0) (dp := 0) (c := n2) dJx4a65c_addAll_f0b43_63 acJx4a65c_112 (shp_ak (by decide)) (shp_ak (by decide)) hq2 g6 (by omega) (by omega) (by omega) (fun j hj a b' hr => ?_) (Nat.le_of_ble_eq_true rfl) (Nat.le_of_ble_eq_true rfl) (fun n' => ?_)
  · rw [Nat.zero_add, hr2, f4, if_pos hj] at hr
    have z := (hA2.2.2.2.2.2.2.2.1 j hj).2
    rw [Option.some.inj hr] at z
    exact z.1.any (hF2.1 _ z.2)
  refine o_aload_n (pc := 66) dJx4a65c_addAll_f0b43_66 4 rfl ?_
  refine o_iload (pc := 67) dJx4a65c_addAll_f0b43_67 1 rfl ?_
  refine o_iload_n (pc := 69) dJx4a65c_addAll_f0b43_69 2 rfl ?_
  refine o_iadd (pc := 70) dJx4a65c_addAll_f0b43_70 ?_
  refine o_topI (y := ((n2 : Nat) : Int)) (by omega) ?_
  refine o_pI (pc := 71) (j := 2) dJx4a65c_addAll_f0b43_71 fwJx4a65c_48 rfl rfl g5 ?_
  refine o_iconst (pc := 74) dJx4a65c_addAll_f0b43_74 ?_
  refine o_zret (pc := 75) dJx4a65c_addAll_f0b43_75 rfl rfl (by simp only [rmL]; omega) (by simp only [rmL]; omega) ?_
  refine ⟨⟨1, rfl⟩, c1, q1, ⟨g5, ?_, hset_at, g4, by omega, fun _ => g6, fun z => by omega, fun j hj => ⟨?_, (hA2.2.2.2.2.2.2.2.1 j hj).2.1, hF2.1 _ (hA2.2.2.2.2.2.2.2.1 j hj).2.2⟩, fun j h3 h4 => ?_⟩, Fr_hset (Fr_cpR hF2 ak_ge (.inr (Fr_fre f3 g1))) (by decide) (.inl rfl), .inr (Fr_fre f3 g1)⟩
  · exact (cpR_off (by unfold ak; omega)).trans g8
  · show (if ak 7 c1 = ak 7 c1 ∧ q1 = q1 ∧ 0 ≤ j ∧ j < 0 + n2 then h2.2.2.1 (ak 7 n2) q (0 + (j - 0)) else _) = _
    rw [if_pos ⟨rfl, rfl, Nat.zero_le _, by omega⟩, show 0 + (j - 0) = j by omega, hr2, f4, if_pos hj]
  · show (if ak 7 c1 = ak 7 c1 ∧ q1 = q1 ∧ 0 ≤ j ∧ j < 0 + n2 then _ else h2.2.2.1 (ak 7 c1) q1 j) = _
    rw [if_neg (by omega), g10, if_neg (by omega)]
theorem cl_addAll {G : GG} {h : Hp} {l b l2 c2 b2 n2 : Nat} {E E2 : Nat → Nat × Nat} (hA : LA G h l 0 b 0 E) (hA2 : LA G h l2 c2 b2 n2 E2) (he : ∃ n, h.2.2.2 = some n) (hn2 : n2 ≤ 100) : Cy G MJx4a65c_addAll_f0b43 (rmL 8 300 700) [rf G 56 l, rf G 56 l2] h (fun v h1 => (∃ z, v = some (.int (iI z))) ∧ ∃ c1 b1, LA G h1 l c1 b1 n2 E2 ∧ Fr (fun i => i = l) h h1 ∧ (c1 = 0 ∨ fre h b1)) := by
  by_cases hz : n2 = 0
  · exact cl_addAll0 hA hA2 he hn2 hz
  · exact cl_addAll1 hA hA2 he hn2 (by omega)
theorem cl_fastRm {G : GG} {h : Hp} {l c b n : Nat} {E : Nat → Nat × Nat} (hA : LA G h l c b n E) (he : ∃ n, h.2.2.2 = some n) {i : Nat} (hi : i < n) (hn9 : n ≤ 100) : Cy G MJx4a65c_fastRemove_b59b0 (rmL 1 0 0) [rf G 56 l, rf G (ak 7 c) b, .int (iI (i : Nat))] h (fun v h1 => v = none ∧ LA G h1 l c b (n - 1) (drE E i) ∧ Fr (fun x => x = l ∨ x = b) h h1) := by
  refine o_entry (by decide +kernel) mwJx4a65c_fastRemove_b59b0 rfl (Nat.le_of_ble_eq_true rfl) ?_
  show YY G MJx4a65c_fastRemove_b59b0 (rmL 1 0 0) 0 [(0, rf G 56 l), (1, rf G (ak 7 c) b), (2, .int (iI (i : Nat)))] [] h 0 0 _
  have hb := hA.2.2.2.1
  have hb2 := hA.2.2.2.2.1
  refine o_aload_n (pc := 0) dJx4a65c_fastRemove_b59b0_0 0 rfl ?_
  refine o_dup (pc := 1) dJx4a65c_fastRemove_b59b0_1 rfl ?_
  refine o_getMod (pc := 2) dJx4a65c_fastRemove_b59b0_2 flm_l hA.1 rfl ?_
  refine o_iconst (pc := 5) dJx4a65c_fastRemove_b59b0_5 ?_
  refine o_iadd (pc := 6) dJx4a65c_fastRemove_b59b0_6 ?_
  refine o_putMod (pc := 7) dJx4a65c_fastRemove_b59b0_7 flm_l hA.1 ?_
  refine o_aload_n (pc := 10) dJx4a65c_fastRemove_b59b0_10 0 rfl ?_
  refine o_gI (pc := 11) (j := 2) dJx4a65c_fastRemove_b59b0_11 flJx4a65c_48 rfl rfl hA.1 hA.mod.2.2.1 ?_
  refine o_iconst (pc := 14) dJx4a65c_fastRemove_b59b0_14 ?_
  refine o_isub (pc := 15) dJx4a65c_fastRemove_b59b0_15 ?_
  refine o_topI (y := ((n - 1 : Nat) : Int)) (by omega) ?_
  refine o_dup (pc := 16) dJx4a65c_fastRemove_b59b0_16 rfl ?_
  refine o_istore_n (pc := 17) (lv' := [(3, _), (0, _), (1, _), (2, _)]) dJx4a65c_fastRemove_b59b0_17 rfl (by decide) rfl ?_
  refine o_iload_n (pc := 18) dJx4a65c_fastRemove_b59b0_18 3 rfl ?_
  refine o_icmp_le (pc := 19) 34 dJx4a65c_fastRemove_b59b0_19 (by decide) (by unfold inI; omega) (by unfold inI; omega) (fun c_19 => ?_) (fun c_19 => ?_)
  · refine o_aload_n (pc := 34) dJx4a65c_fastRemove_b59b0_34 2 rfl ?_
    refine o_aload_n (pc := 35) dJx4a65c_fastRemove_b59b0_35 1 rfl ?_
    refine o_iload_n (pc := 36) dJx4a65c_fastRemove_b59b0_36 0 rfl ?_
    refine o_dup_x1 (pc := 37) dJx4a65c_fastRemove_b59b0_37 rfl rfl ?_
    refine o_pI (pc := 38) (j := 2) dJx4a65c_fastRemove_b59b0_38 fwJx4a65c_48 rfl rfl hA.1 ?_
    refine o_null (pc := 41) dJx4a65c_fastRemove_b59b0_41 ?_
    refine o_aastN (pc := 42) (tag := 2) (n - 1) dJx4a65c_fastRemove_b59b0_42 (shp_ak (by decide)) rfl (hA.2.2.2.2.2.1 (by omega)) rfl (by omega) (by omega) ?_
    refine o_vret (pc := 43) dJx4a65c_fastRemove_b59b0_43 rfl (Nat.le_of_ble_eq_true rfl) (Nat.le_of_ble_eq_true rfl) ?_
    obtain ⟨a1, a2, a3, a4, a5, a6, a7, a8, a9⟩ := hA
    refine ⟨rfl, ⟨a1, ?_, hset_at, by omega, a5, a6, a7, fun j hj => ?_, fun j h2 h3 => ?_⟩, Fr_rset (Fr_hset (Fr_hset (Fr.rf he) (by decide) (.inl (.inl rfl))) (by decide) (.inl (.inl rfl))) ak_ge (.inl (.inr rfl))⟩
    · rw [rset_off (by unfold ak; omega)]
      exact a2
    · rw [rset_off (by omega)]
      show h.2.2.1 (ak 7 c) b j = some (drE E i j) ∧ isE (drE E i j).1 ∧ drE E i j ∈ h.1
      unfold drE
      rw [if_pos (by omega)]
      exact a8 j (by omega)
    · by_cases z : j = n - 1
      · subst z
        exact rset_at
      · rw [rset_off (by omega)]
        exact a9 j (by omega) h3
  · refine o_aload_n (pc := 22) dJx4a65c_fastRemove_b59b0_22 2 rfl ?_
    refine o_iload_n (pc := 23) dJx4a65c_fastRemove_b59b0_23 3 rfl ?_
    refine o_iconst (pc := 24) dJx4a65c_fastRemove_b59b0_24 ?_
    refine o_iadd (pc := 25) dJx4a65c_fastRemove_b59b0_25 ?_
    refine o_topI (y := ((i + 1 : Nat) : Int)) (by omega) ?_
    refine o_aload_n (pc := 26) dJx4a65c_fastRemove_b59b0_26 2 rfl ?_
    refine o_iload_n (pc := 27) dJx4a65c_fastRemove_b59b0_27 3 rfl ?_
    refine o_iload_n (pc := 28) dJx4a65c_fastRemove_b59b0_28 0 rfl ?_
    refine o_iload_n (pc := 29) dJx4a65c_fastRemove_b59b0_29 3 rfl ?_
    refine o_isub (pc := 30) dJx4a65c_fastRemove_b59b0_30 ?_
    refine o_topI (y := ((n - 1 - i : Nat) : Int)) (by omega) ?_
    refine o_copyR (pc := 31) (sp := i + 1) (dp := i) (c := n - 1 - i) dJx4a65c_fastRemove_b59b0_31 acJx4a65c_112 (shp_ak (by decide)) (shp_ak (by decide)) (hA.2.2.2.2.2.1 (by omega)) (hA.2.2.2.2.2.1 (by omega)) (by omega) (by omega) (by omega) (fun j hj a b' hr => ?_) (Nat.le_of_ble_eq_true rfl) (Nat.le_of_ble_eq_true rfl) (fun n' => ?_)
    · have z := hA.2.2.2.2.2.2.2.1 (i + 1 + j) (by omega)
      have hr9 : h.2.2.1 (ak 7 c) b (i + 1 + j) = some (a, b') := hr
      rw [z.1] at hr9
      rw [Option.some.inj hr9] at z
      exact z.2.1.any z.2.2
    refine o_aload_n (pc := 34) dJx4a65c_fastRemove_b59b0_34 2 rfl ?_
    refine o_aload_n (pc := 35) dJx4a65c_fastRemove_b59b0_35 1 rfl ?_
    refine o_iload_n (pc := 36) dJx4a65c_fastRemove_b59b0_36 0 rfl ?_
    refine o_dup_x1 (pc := 37) dJx4a65c_fastRemove_b59b0_37 rfl rfl ?_
    refine o_pI (pc := 38) (j := 2) dJx4a65c_fastRemove_b59b0_38 fwJx4a65c_48 rfl rfl hA.1 ?_
    refine o_null (pc := 41) dJx4a65c_fastRemove_b59b0_41 ?_
    refine o_aastN (pc := 42) (tag := 2) (n - 1) dJx4a65c_fastRemove_b59b0_42 (shp_ak (by decide)) rfl (hA.2.2.2.2.2.1 (by omega)) rfl (by omega) (by omega) ?_
    refine o_vret (pc := 43) dJx4a65c_fastRemove_b59b0_43 rfl (Nat.le_of_ble_eq_true rfl) (Nat.le_of_ble_eq_true rfl) ?_
    obtain ⟨a1, a2, a3, a4, a5, a6, a7, a8, a9⟩ := hA
    refine ⟨rfl, ⟨a1, ?_, hset_at, by omega, a5, a6, a7, fun j hj => ?_, fun j h2 h3 => ?_⟩, Fr_rset (Fr_hset (Fr_cpR (Fr_hset (Fr.rf he) (by decide) (.inl (.inl rfl))) ak_ge (.inl (.inr rfl))) (by decide) (.inl (.inl rfl))) ak_ge (.inl (.inr rfl))⟩
    · rw [rset_off (by unfold ak; omega)]
      exact (cpR_off (by unfold ak; omega)).trans a2
    · rw [rset_off (by omega)]
      show (if ak 7 c = ak 7 c ∧ b = b ∧ i ≤ j ∧ j < i + (n - 1 - i) then h.2.2.1 (ak 7 c) b (i + 1 + (j - i)) else h.2.2.1 (ak 7 c) b j) = some (drE E i j) ∧ isE (drE E i j).1 ∧ drE E i j ∈ h.1
      unfold drE
      by_cases z : j < i
      · rw [if_neg (by omega), if_pos z]
        exact a8 j (by omega)
      · rw [if_pos ⟨rfl, rfl, by omega, by omega⟩, if_neg z, show i + 1 + (j - i) = j + 1 by omega]
        exact a8 (j + 1) (by omega)
    · by_cases z : j = n - 1
      · subst z
        exact rset_at
      · rw [rset_off (by omega)]
        show (if ak 7 c = ak 7 c ∧ b = b ∧ i ≤ j ∧ j < i + (n - 1 - i) then _ else h.2.2.1 (ak 7 c) b j) = none
        rw [if_neg (by omega)]
        exact a9 j (by omega) h3
theorem cl_remove {G : GG} {h : Hp} {l c b n : Nat} {E : Nat → Nat × Nat} (hA : LA G h l c b n E) (he : ∃ n, h.2.2.2 = some n) {i : Nat} (hi : i < n) (hn9 : n ≤ 100) : Cy G MJx4a65c_remove_915e3 (rmL 2 0 0) [rf G 56 l, .int (iI (i : Nat))] h (fun v h1 => v = some (rf G (E i).1 (E i).2) ∧ LA G h1 l c b (n - 1) (drE E i) ∧ Fr (fun x => x = l ∨ x = b) h h1) := by
  refine o_entry (by decide +kernel) mwJx4a65c_remove_915e3 rfl (Nat.le_of_ble_eq_true rfl) ?_
  show YY G MJx4a65c_remove_915e3 (rmL 2 0 0) 0 [(0, rf G 56 l), (1, .int (iI (i : Nat)))] [] h 0 0 _
  have hb := hA.2.2.2.1
  have hb2 := hA.2.2.2.2.1
  refine o_iload_n (pc := 0) dJx4a65c_remove_915e3_0 1 rfl ?_
  refine o_aload_n (pc := 1) dJx4a65c_remove_915e3_1 0 rfl ?_
  refine o_gI (pc := 2) (j := 2) dJx4a65c_remove_915e3_2 flJx4a65c_48 rfl rfl hA.1 hA.2.2.1 ?_
  refine o_callS (pc := 5) _ dJx4a65c_remove_915e3_5 (cl_ock (by omega) (by omega) (by omega)) lkJx4a65c_118 rfl ⟨⟨(Nat.le_of_ble_eq_true rfl), (Nat.le_of_ble_eq_true rfl)⟩, (Nat.le_of_ble_eq_true rfl), (Nat.le_of_ble_eq_true rfl)⟩ (Nat.le_of_ble_eq_true rfl) rfl (fun v h1 hq => ?_)
  obtain ⟨rfl, rfl⟩ := hq
  refine o_pop (pc := 8) dJx4a65c_remove_915e3_8 rfl ?_
  refine o_aload_n (pc := 9) dJx4a65c_remove_915e3_9 0 rfl ?_
  refine o_gR (pc := 10) (j := 1) (ak 7 c) (b) dJx4a65c_remove_915e3_10 flJx4a65c_9 rfl rfl hA.1 hA.2.1 ?_
  refine o_astore_n (pc := 13) (lv' := [(2, _), (0, _), (1, _)]) dJx4a65c_remove_915e3_13 rfl (by decide) rfl ?_
  refine o_aload_n (pc := 14) dJx4a65c_remove_915e3_14 0 rfl ?_
  refine o_iload_n (pc := 15) dJx4a65c_remove_915e3_15 2 rfl ?_
  refine o_aaI (pc := 16) (tag := 2) (a' := (E i).1) (b' := (E i).2) dJx4a65c_remove_915e3_16 (shp_ak (by decide)) rfl (hA.2.2.2.2.2.1 (by omega)) (by omega) (by omega) (by rw [Int.toNat_natCast]; exact (hA.2.2.2.2.2.2.2.1 i hi).1) ?_
  refine o_astore_n (pc := 17) (lv' := [(3, _), (2, _), (0, _), (1, _)]) dJx4a65c_remove_915e3_17 rfl (by decide) rfl ?_
  refine o_aload_n (pc := 18) dJx4a65c_remove_915e3_18 2 rfl ?_
  refine o_aload_n (pc := 19) dJx4a65c_remove_915e3_19 1 rfl ?_
  refine o_iload_n (pc := 20) dJx4a65c_remove_915e3_20 3 rfl ?_
  refine o_callV (pc := 21) _ dJx4a65c_remove_915e3_21 (cl_fastRm hA he hi hn9) lkJx4a65c_144 rfl rfl rfl rfl hA.1 ⟨⟨(Nat.le_of_ble_eq_true rfl), (Nat.le_of_ble_eq_true rfl)⟩, (Nat.le_of_ble_eq_true rfl), (Nat.le_of_ble_eq_true rfl)⟩ (Nat.le_of_ble_eq_true rfl) rfl (fun v h1 hq => ?_)
  obtain ⟨rfl, f1, f2⟩ := hq
  refine o_aload_n (pc := 24) dJx4a65c_remove_915e3_24 0 rfl ?_
  exact o_aret (pc := 25) dJx4a65c_remove_915e3_25 rfl (.inl ⟨_, rfl⟩) (.inr ⟨_, rfl⟩) (Nat.le_of_ble_eq_true rfl) (Nat.le_of_ble_eq_true rfl) ⟨rfl, f1, f2⟩
