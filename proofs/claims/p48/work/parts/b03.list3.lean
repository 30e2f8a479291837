/-! lists: add, addAll, remove, a new one -/
def adE (E : Nat → Nat × Nat) (n : Nat) (p : Nat × Nat) : Nat → Nat × Nat := fun j => if j = n then p else E j
theorem adE_at {E : Nat → Nat × Nat} {n : Nat} {p : Nat × Nat} : adE E n p n = p := if_pos rfl
theorem adE_lo {E : Nat → Nat × Nat} {n j : Nat} {p : Nat × Nat} (h : ¬ j = n) : adE E n p j = E j := if_neg h
theorem cl_grow {G : GG} {h : Hp} {l c b n : Nat} {E : Nat → Nat × Nat} (hA : LA G h l c b n E) (he : ∃ n, h.2.2.2 = some n) {m : Nat} (hc1 : c ≤ 130) (hm1 : c < m) (hm2 : c = 0 ∧ m ≤ 150 ∨ m ≤ c + 1) : Cy G MJx4a65c_grow_92f84 (rmL 4 1 200) [rf G 56 l, .int (iI (m : Nat))] h (fun v h1 => ∃ q c1, fre h q ∧ c < c1 ∧ c1 ≤ 200 ∧ m ≤ c1 ∧ v = some (rf G (ak 7 c1) q) ∧ (56, l) ∈ h1.1 ∧ (ak 7 c1, q) ∈ h1.1 ∧ Fr (fun i => i = l) h h1 ∧ h1.2.2.1 56 l 1 = some (ak 7 c1, q) ∧ h1.2.1 56 l 2 = n ∧ ∀ j, h1.2.2.1 (ak 7 c1) q j = if j < c then h.2.2.1 (ak 7 c) b j else none) := by
  by_cases hc : c = 0
  · exact cl_growE hA he hc (by omega) (by omega)
  · exact cl_growR hA he (by omega) hc1 hm1 (by omega)
theorem cl_grow0 {G : GG} {h : Hp} {l c b n : Nat} {E : Nat → Nat × Nat} (hA : LA G h l c b n E) (he : ∃ n, h.2.2.2 = some n) (hn : n = c) (hc1 : c ≤ 130) : Cy G MJx4a65c_grow_d5877 (rmL 5 1 200) [rf G 56 l] h (fun v h1 => ∃ q c1, fre h q ∧ c < c1 ∧ c1 ≤ 200 ∧ c + 1 ≤ c1 ∧ v = some (rf G (ak 7 c1) q) ∧ (56, l) ∈ h1.1 ∧ (ak 7 c1, q) ∈ h1.1 ∧ Fr (fun i => i = l) h h1 ∧ h1.2.2.1 56 l 1 = some (ak 7 c1, q) ∧ h1.2.1 56 l 2 = n ∧ ∀ j, h1.2.2.1 (ak 7 c1) q j = if j < c then h.2.2.1 (ak 7 c) b j else none) := by
  refine o_entry (by decide +kernel) mwJx4a65c_grow_d5877 rfl (Nat.le_of_ble_eq_true rfl) ?_
  show YY G MJx4a65c_grow_d5877 (rmL 5 1 200) 0 [(0, rf G 56 l)] [] h 0 0 _
  refine o_aload_n (pc := 0) dJx4a65c_grow_d5877_0 0 rfl ?_
  refine o_aload_n (pc := 1) dJx4a65c_grow_d5877_1 0 rfl ?_
  refine o_gI (pc := 2) (j := 2) dJx4a65c_grow_d5877_2 flJx4a65c_48 rfl rfl hA.1 hA.2.2.1 ?_
  refine o_iconst (pc := 5) dJx4a65c_grow_d5877_5 ?_
  refine o_iadd (pc := 6) dJx4a65c_grow_d5877_6 ?_
  refine o_topI (y := ((n + 1 : Nat) : Int)) (by omega) ?_
  refine o_callV (pc := 7) _ dJx4a65c_grow_d5877_7 (cl_grow hA he (m := n + 1) hc1 (by omega) (.inr (by omega))) lkJx4a65c_69 rfl rfl rfl rfl hA.1 ⟨⟨(Nat.le_of_ble_eq_true rfl), (Nat.le_of_ble_eq_true rfl)⟩, (Nat.le_of_ble_eq_true rfl), (Nat.le_of_ble_eq_true rfl)⟩ (Nat.le_of_ble_eq_true rfl) rfl (fun v h1 hq => ?_)
  obtain ⟨q, c1, g1, g2, g3, g4, rfl, g5, g6, g7, g8, g9, g10⟩ := hq
  refine o_aret (pc := 10) dJx4a65c_grow_d5877_10 rfl (.inr ⟨_, rfl⟩) (.inr ⟨_, rfl⟩) (Nat.le_of_ble_eq_true rfl) (Nat.le_of_ble_eq_true rfl) ?_
  exact ⟨q, c1, g1, g2, g3, by omega, rfl, g5, g6, g7, g8, g9, g10⟩
theorem cl_add3n {G : GG} {h : Hp} {l c b n : Nat} {E : Nat → Nat × Nat} (hA : LA G h l c b n E) (he : ∃ n, h.2.2.2 = some n) {a e : Nat} (hn9 : n ≤ 100) (hx : isE a) (hme : (a, e) ∈ h.1) (hcn : n < c) : Cy G MJx4a65c_add_72be8 (rmL 6 1 200) [rf G 56 l, rf G a e, rf G (ak 7 c) b, .int (iI (n : Nat))] h (fun v h1 => v = none ∧ ∃ c1 b1, LA G h1 l c1 b1 (n + 1) (adE E n (a, e)) ∧ Fr (fun i => i = l ∨ 0 < c ∧ i = b) h h1 ∧ (b1 = b ∧ c1 = c ∧ 0 < c ∨ fre h b1 ∧ 0 < c1)) := by
  refine o_entry (by decide +kernel) mwJx4a65c_add_72be8 rfl (Nat.le_of_ble_eq_true rfl) ?_
  show YY G MJx4a65c_add_72be8 (rmL 6 1 200) 0 [(0, rf G 56 l), (1, rf G a e), (2, rf G (ak 7 c) b), (3, .int (iI (n : Nat)))] [] h 0 0 _
  have hb2 := hA.2.2.2.2.1
  refine o_iload_n (pc := 0) dJx4a65c_add_72be8_0 3 rfl ?_
  refine o_aload_n (pc := 1) dJx4a65c_add_72be8_1 2 rfl ?_
  refine o_alN (pc := 2) (tag := 7) dJx4a65c_add_72be8_2 (shp_ak (by decide)) (hA.2.2.2.2.2.1 (by omega)) rfl ?_
  refine o_icmp_ne (pc := 3) 11 dJx4a65c_add_72be8_3 (by decide) (by unfold inI; omega) (by unfold inI; omega) (fun c_3 => ?_) (fun c_3 => (by exfalso; omega))
  refine o_aload_n (pc := 11) dJx4a65c_add_72be8_11 2 rfl ?_
  refine o_iload_n (pc := 12) dJx4a65c_add_72be8_12 3 rfl ?_
  refine o_aload_n (pc := 13) dJx4a65c_add_72be8_13 1 rfl ?_
  refine o_aast (pc := 14) (tag := 2) (n) dJx4a65c_add_72be8_14 (shp_ak (by decide)) rfl (hA.2.2.2.2.2.1 (by omega)) (hx.any hme) rfl (by omega) (by omega) ?_
  refine o_aload_n (pc := 15) dJx4a65c_add_72be8_15 0 rfl ?_
  refine o_iload_n (pc := 16) dJx4a65c_add_72be8_16 3 rfl ?_
  refine o_iconst (pc := 17) dJx4a65c_add_72be8_17 ?_
  refine o_iadd (pc := 18) dJx4a65c_add_72be8_18 ?_
  refine o_topI (y := ((n + 1 : Nat) : Int)) (by omega) ?_
  refine o_pI (pc := 19) (j := 2) dJx4a65c_add_72be8_19 fwJx4a65c_48 rfl rfl hA.1 ?_
  refine o_vret (pc := 22) dJx4a65c_add_72be8_22 rfl (Nat.le_of_ble_eq_true rfl) (Nat.le_of_ble_eq_true rfl) ?_
  obtain ⟨a1, a2, a3, a4, a5, a6, a7, a8, a9⟩ := hA
  refine ⟨rfl, c, b, ⟨a1, ?_, hset_at, by omega, a5, a6, a7, fun j hj => ⟨?_, ?_⟩, fun j h1 h2 => ?_⟩, Fr_hset (Fr_rset (Fr.rf he) ak_ge (.inl (.inr ⟨by omega, rfl⟩))) (by decide) (.inl (.inl rfl)), .inl ⟨rfl, rfl, by omega⟩⟩
  · show (rset h (ak 7 c) b n (some (a, e))).2.2.1 56 l 1 = _
    rw [rset_off (by unfold ak; omega)]
    exact a2
  · show (rset h (ak 7 c) b n (some (a, e))).2.2.1 (ak 7 c) b j = _
    by_cases z : j = n
    · rw [z, adE_at, rset_at]
    · rw [adE_lo z, rset_off (fun w => z w.2.2)]
      exact (a8 j (by omega)).1
  · by_cases z : j = n
    · rw [z, adE_at]
      exact ⟨hx, hme⟩
    · rw [adE_lo z]
      exact (a8 j (by omega)).2
  · show (rset h (ak 7 c) b n (some (a, e))).2.2.1 (ak 7 c) b j = _
    rw [rset_off (by omega)]
    exact a9 j (by omega) h2
theorem cl_add3g {G : GG} {h : Hp} {l c b n : Nat} {E : Nat → Nat × Nat} (hA : LA G h l c b n E) (he : ∃ n, h.2.2.2 = some n) {a e : Nat} (hn9 : n ≤ 100) (hx : isE a) (hme : (a, e) ∈ h.1) (hcn : n = c) (hc : 0 < c) : Cy G MJx4a65c_add_72be8 (rmL 6 1 200) [rf G 56 l, rf G a e, rf G (ak 7 c) b, .int (iI (n : Nat))] h (fun v h1 => v = none ∧ ∃ c1 b1, LA G h1 l c1 b1 (n + 1) (adE E n (a, e)) ∧ Fr (fun i => i = l ∨ 0 < c ∧ i = b) h h1 ∧ (b1 = b ∧ c1 = c ∧ 0 < c ∨ fre h b1 ∧ 0 < c1)) := by
  refine o_entry (by decide +kernel) mwJx4a65c_add_72be8 rfl (Nat.le_of_ble_eq_true rfl) ?_
  show YY G MJx4a65c_add_72be8 (rmL 6 1 200) 0 [(0, rf G 56 l), (1, rf G a e), (2, rf G (ak 7 c) b), (3, .int (iI (n : Nat)))] [] h 0 0 _
  have hb2 := hA.2.2.2.2.1
  refine o_iload_n (pc := 0) dJx4a65c_add_72be8_0 3 rfl ?_
  refine o_aload_n (pc := 1) dJx4a65c_add_72be8_1 2 rfl ?_
  refine o_alN (pc := 2) (tag := 7) dJx4a65c_add_72be8_2 (shp_ak (by decide)) (hA.2.2.2.2.2.1 (by omega)) rfl ?_
  refine o_icmp_ne (pc := 3) 11 dJx4a65c_add_72be8_3 (by decide) (by unfold inI; omega) (by unfold inI; omega) (fun c_3 => (by exfalso; omega)) (fun c_3 => ?_)
  refine o_aload_n (pc := 6) dJx4a65c_add_72be8_6 0 rfl ?_
  refine o_callV (pc := 7) _ dJx4a65c_add_72be8_7 (cl_grow0 hA he (by omega) (by omega)) lkJx4a65c_129 rfl rfl rfl rfl hA.1 ⟨⟨(Nat.le_of_ble_eq_true rfl), (Nat.le_of_ble_eq_true rfl)⟩, (Nat.le_of_ble_eq_true rfl), (Nat.le_of_ble_eq_true rfl)⟩ (Nat.le_of_ble_eq_true rfl) rfl (fun v h1 hq => ?_)
  obtain ⟨q, c1, g1, g2, g3, g4, rfl, g5, g6, g7, g8, g9, g10⟩ := hq
  refine o_astore_n (pc := 10) (lv' := [(2, _), (0, _), (1, _), (3, _)]) dJx4a65c_add_72be8_10 rfl (by decide) rfl ?_
  refine o_aload_n (pc := 11) dJx4a65c_add_72be8_11 0 rfl ?_
  refine o_iload_n (pc := 12) dJx4a65c_add_72be8_12 3 rfl ?_
  refine o_aload_n (pc := 13) dJx4a65c_add_72be8_13 2 rfl ?_
  refine o_aast (pc := 14) (tag := 2) (n) dJx4a65c_add_72be8_14 (shp_ak (by decide)) rfl g6 (hx.any (g7.1 _ hme)) rfl (by omega) (by omega) ?_
  refine o_aload_n (pc := 15) dJx4a65c_add_72be8_15 1 rfl ?_
  refine o_iload_n (pc := 16) dJx4a65c_add_72be8_16 3 rfl ?_
  refine o_iconst (pc := 17) dJx4a65c_add_72be8_17 ?_
  refine o_iadd (pc := 18) dJx4a65c_add_72be8_18 ?_
  refine o_topI (y := ((n + 1 : Nat) : Int)) (by omega) ?_
  refine o_pI (pc := 19) (j := 2) dJx4a65c_add_72be8_19 fwJx4a65c_48 rfl rfl g5 ?_
  refine o_vret (pc := 22) dJx4a65c_add_72be8_22 rfl (Nat.le_of_ble_eq_true rfl) (Nat.le_of_ble_eq_true rfl) ?_
  obtain ⟨a1, a2, a3, a4, a5, a6, a7, a8, a9⟩ := hA
  refine ⟨rfl, c1, q, ⟨g5, ?_, hset_at, by omega, by omega, fun _ => g6, fun z => by omega, fun j hj => ⟨?_, ?_⟩, fun j h2 h3 => ?_⟩, Fr_hset (Fr_rset (g7.w (fun i z => .inl (.inl z))) ak_ge (.inr g1)) (by decide) (.inl (.inl rfl)), .inr ⟨g1, by omega⟩⟩
  · show (rset h1 (ak 7 c1) q n (some (a, e))).2.2.1 56 l 1 = _
    rw [rset_off (by unfold ak; omega)]
    exact g8
  · show (rset h1 (ak 7 c1) q n (some (a, e))).2.2.1 (ak 7 c1) q j = _
    by_cases z : j = n
    · rw [z, adE_at, rset_at]
    · rw [adE_lo z, rset_off (fun w => z w.2.2), g10, if_pos (by omega)]
      exact (a8 j (by omega)).1
  · by_cases z : j = n
    · rw [z, adE_at]
      exact ⟨hx, g7.1 _ hme⟩
    · rw [adE_lo z]
      exact ⟨(a8 j (by omega)).2.1, g7.1 _ (a8 j (by omega)).2.2⟩
  · show (rset h1 (ak 7 c1) q n (some (a, e))).2.2.1 (ak 7 c1) q j = _
    rw [rset_off (by omega), g10]
    by_cases z : j < c
    · rw [if_pos z]
      exact a9 j (by omega) z
    · rw [if_neg z]
theorem cl_add3e {G : GG} {h : Hp} {l c b n : Nat} {E : Nat → Nat × Nat} (hA : LA G h l c b n E) (he : ∃ n, h.2.2.2 = some n) {a e : Nat} (hn9 : n ≤ 100) (hx : isE a) (hme : (a, e) ∈ h.1) (hcn : n = 0) (hc : c = 0) : Cy G MJx4a65c_add_72be8 (rmL 6 1 200) [rf G 56 l, rf G a e, rf G (ak 7 c) b, .int (iI (n : Nat))] h (fun v h1 => v = none ∧ ∃ c1 b1, LA G h1 l c1 b1 (n + 1) (adE E n (a, e)) ∧ Fr (fun i => i = l ∨ 0 < c ∧ i = b) h h1 ∧ (b1 = b ∧ c1 = c ∧ 0 < c ∨ fre h b1 ∧ 0 < c1)) := by
  refine o_entry (by decide +kernel) mwJx4a65c_add_72be8 rfl (Nat.le_of_ble_eq_true rfl) ?_
  show YY G MJx4a65c_add_72be8 (rmL 6 1 200) 0 [(0, rf G 56 l), (1, rf G a e), (2, rf G (ak 7 c) b), (3, .int (iI (n : Nat)))] [] h 0 0 _
  have hb2 := hA.2.2.2.2.1
  have hb0 := hA.2.2.2.2.2.2.1 hc
  rw [show rf G (ak 7 c) b = rf G (ak 7 0) (gV G 15) by rw [hc, hb0]]
  refine o_iload_n (pc := 0) dJx4a65c_add_72be8_0 3 rfl ?_
  refine o_aload_n (pc := 1) dJx4a65c_add_72be8_1 2 rfl ?_
  refine o_emptyN (pc := 2) dJx4a65c_add_72be8_2 ?_
  refine o_icmp_ne (pc := 3) 11 dJx4a65c_add_72be8_3 (by decide) (by unfold inI; omega) (by unfold inI; omega) (fun c_3 => (by exfalso; omega)) (fun c_3 => ?_)
  refine o_aload_n (pc := 6) dJx4a65c_add_72be8_6 0 rfl ?_
  refine o_callV (pc := 7) _ dJx4a65c_add_72be8_7 (cl_grow0 hA he (by omega) (by omega)) lkJx4a65c_129 rfl rfl rfl rfl hA.1 ⟨⟨(Nat.le_of_ble_eq_true rfl), (Nat.le_of_ble_eq_true rfl)⟩, (Nat.le_of_ble_eq_true rfl), (Nat.le_of_ble_eq_true rfl)⟩ (Nat.le_of_ble_eq_true rfl) rfl (fun v h1 hq => ?_)
  obtain ⟨q, c1, g1, g2, g3, g4, rfl, g5, g6, g7, g8, g9, g10⟩ := hq
  refine o_astore_n (pc := 10) (lv' := [(2, _), (0, _), (1, _), (3, _)]) dJx4a65c_add_72be8_10 rfl (by decide) rfl ?_
  refine o_aload_n (pc := 11) dJx4a65c_add_72be8_11 0 rfl ?_
  refine o_iload_n (pc := 12) dJx4a65c_add_72be8_12 3 rfl ?_
  refine o_aload_n (pc := 13) dJx4a65c_add_72be8_13 2 rfl ?_
  refine o_aast (pc := 14) (tag := 2) (n) dJx4a65c_add_72be8_14 (shp_ak (by decide)) rfl g6 (hx.any (g7.1 _ hme)) rfl (by omega) (by omega) ?_
  refine o_aload_n (pc := 15) dJx4a65c_add_72be8_15 1 rfl ?_
  refine o_iload_n (pc := 16) dJx4a65c_add_72be8_16 3 rfl ?_
  refine o_iconst (pc := 17) dJx4a65c_add_72be8_17 ?_
  refine o_iadd (pc := 18) dJx4a65c_add_72be8_18 ?_
  refine o_topI (y := ((n + 1 : Nat) : Int)) (by omega) ?_
  refine o_pI (pc := 19) (j := 2) dJx4a65c_add_72be8_19 fwJx4a65c_48 rfl rfl g5 ?_
  refine o_vret (pc := 22) dJx4a65c_add_72be8_22 rfl (Nat.le_of_ble_eq_true rfl) (Nat.le_of_ble_eq_true rfl) ?_
  obtain ⟨a1, a2, a3, a4, a5, a6, a7, a8, a9⟩ := hA
  refine ⟨rfl, c1, q, ⟨g5, ?_, hset_at, by omega, by omega, fun _ => g6, fun z => by omega, fun j hj => ⟨?_, ?_⟩, fun j h2 h3 => ?_⟩, Fr_hset (Fr_rset (g7.w (fun i z => .inl (.inl z))) ak_ge (.inr g1)) (by decide) (.inl (.inl rfl)), .inr ⟨g1, by omega⟩⟩
  · show (rset h1 (ak 7 c1) q n (some (a, e))).2.2.1 56 l 1 = _
    rw [rset_off (by unfold ak; omega)]
    exact g8
  · show (rset h1 (ak 7 c1) q n (some (a, e))).2.2.1 (ak 7 c1) q j = _
    by_cases z : j = n
    · rw [z, adE_at, rset_at]
    · rw [adE_lo z, rset_off (fun w => z w.2.2), g10, if_pos (by omega)]
      exact (a8 j (by omega)).1
  · by_cases z : j = n
    · rw [z, adE_at]
      exact ⟨hx, g7.1 _ hme⟩
    · rw [adE_lo z]
      exact ⟨(a8 j (by omega)).2.1, g7.1 _ (a8 j (by omega)).2.2⟩
  · show (rset h1 (ak 7 c1) q n (some (a, e))).2.2.1 (ak 7 c1) q j = _
    rw [rset_off (by omega), g10]
    by_cases z : j < c
    · rw [if_pos z]
      exact a9 j (by omega) z
    · rw [if_neg z]
theorem cl_add3 {G : GG} {h : Hp} {l c b n : Nat} {E : Nat → Nat × Nat} (hA : LA G h l c b n E) (he : ∃ n, h.2.2.2 = some n) {a e : Nat} (hn9 : n ≤ 100) (hx : isE a) (hme : (a, e) ∈ h.1) : Cy G MJx4a65c_add_72be8 (rmL 6 1 200) [rf G 56 l, rf G a e, rf G (ak 7 c) b, .int (iI (n : Nat))] h (fun v h1 => v = none ∧ ∃ c1 b1, LA G h1 l c1 b1 (n + 1) (adE E n (a, e)) ∧ Fr (fun i => i = l ∨ 0 < c ∧ i = b) h h1 ∧ (b1 = b ∧ c1 = c ∧ 0 < c ∨ fre h b1 ∧ 0 < c1)) := by
  have h1 := hA.2.2.2.1
  by_cases hcn : n < c
  · exact cl_add3n hA he hn9 hx hme hcn
  · by_cases hc : c = 0
    · exact cl_add3e hA he hn9 hx hme (by omega) hc
    · exact cl_add3g hA he hn9 hx hme (by omega) (by omega)
theorem LA.mod {G : GG} {h : Hp} {l c b n : Nat} {E : Nat → Nat × Nat} {z : Int} (hA : LA G h l c b n E) : LA G (hset h 56 l 0 z) l c b n E := by
  obtain ⟨a1, a2, a3, a4, a5, a6, a7, a8, a9⟩ := hA
  exact ⟨a1, a2, by rw [hset_off (by omega)]; exact a3, a4, a5, a6, a7, a8, a9⟩
theorem cl_add {G : GG} {h : Hp} {l c b n : Nat} {E : Nat → Nat × Nat} (hA : LA G h l c b n E) (he : ∃ n, h.2.2.2 = some n) {a e : Nat} (hn9 : n ≤ 100) (hx : isE a) (hme : (a, e) ∈ h.1) : Cy G MJx4a65c_add_9ea2d (rmL 7 1 200) [rf G 56 l, rf G a e] h (fun v h1 => v = some (.int (iI 1)) ∧ ∃ c1 b1, LA G h1 l c1 b1 (n + 1) (adE E n (a, e)) ∧ Fr (fun i => i = l ∨ 0 < c ∧ i = b) h h1 ∧ (b1 = b ∧ c1 = c ∧ 0 < c ∨ fre h b1 ∧ 0 < c1)) := by
  refine o_entry (by decide +kernel) mwJx4a65c_add_9ea2d rfl (Nat.le_of_ble_eq_true rfl) ?_
  show YY G MJx4a65c_add_9ea2d (rmL 7 1 200) 0 [(0, rf G 56 l), (1, rf G a e)] [] h 0 0 _
  refine o_aload_n (pc := 0) dJx4a65c_add_9ea2d_0 0 rfl ?_
  refine o_dup (pc := 1) dJx4a65c_add_9ea2d_1 rfl ?_
  refine o_getMod (pc := 2) dJx4a65c_add_9ea2d_2 flm_l hA.1 rfl ?_
  refine o_iconst (pc := 5) dJx4a65c_add_9ea2d_5 ?_
  refine o_iadd (pc := 6) dJx4a65c_add_9ea2d_6 ?_
  refine o_putMod (pc := 7) dJx4a65c_add_9ea2d_7 flm_l hA.1 ?_
  refine o_aload_n (pc := 10) dJx4a65c_add_9ea2d_10 0 rfl ?_
  refine o_aload_n (pc := 11) dJx4a65c_add_9ea2d_11 1 rfl ?_
  refine o_aload_n (pc := 12) dJx4a65c_add_9ea2d_12 0 rfl ?_
  refine o_gR (pc := 13) (j := 1) (ak 7 c) (b) dJx4a65c_add_9ea2d_13 flJx4a65c_9 rfl rfl hA.1 hA.2.1 ?_
  refine o_aload_n (pc := 16) dJx4a65c_add_9ea2d_16 0 rfl ?_
  refine o_gI (pc := 17) (j := 2) dJx4a65c_add_9ea2d_17 flJx4a65c_48 rfl rfl hA.1 hA.mod.2.2.1 ?_
  refine o_callV (pc := 20) _ dJx4a65c_add_9ea2d_20 (cl_add3 hA.mod he hn9 hx hme) lkJx4a65c_131 rfl rfl rfl rfl hA.1 ⟨⟨(Nat.le_of_ble_eq_true rfl), (Nat.le_of_ble_eq_true rfl)⟩, (Nat.le_of_ble_eq_true rfl), (Nat.le_of_ble_eq_true rfl)⟩ (Nat.le_of_ble_eq_true rfl) rfl (fun v h1 hq => ?_)
  obtain ⟨rfl, c1, b1, f1, f2, f3⟩ := hq
  refine o_iconst (pc := 23) dJx4a65c_add_9ea2d_23 ?_
  refine o_zret (pc := 24) dJx4a65c_add_9ea2d_24 rfl rfl (Nat.le_of_ble_eq_true rfl) (Nat.le_of_ble_eq_true rfl) ?_
  refine ⟨rfl, c1, b1, f1, ?_, f3⟩
  exact (Fr_hset (Fr.rf he) (by decide) (.inl (.inl rfl))).t f2
theorem cl_ac {G : GG} {h : Hp} {q : Nat} : Cy G MJxa1e45_init_da8c8 (rmL 0 0 0) [rf G 56 q] h (fun v h1 => v = none ∧ h1 = h) := by
  refine o_entry (by decide +kernel) mwJxa1e45_init_da8c8 rfl (Nat.le_of_ble_eq_true rfl) ?_
  show YY G MJxa1e45_init_da8c8 (rmL 0 0 0) 0 [(0, rf G 56 q)] [] h 0 0 _
  refine o_aload_n (pc := 0) dJxa1e45_init_da8c8_0 0 rfl ?_
  refine o_obj (pc := 1) dJxa1e45_init_da8c8_1 obJxa1e45_1 ob_i ob_c (Nat.le_of_ble_eq_true rfl) ⟨(Nat.le_of_ble_eq_true rfl), (Nat.le_of_ble_eq_true rfl)⟩ ?_
  exact o_vret (pc := 4) dJxa1e45_init_da8c8_4 rfl (Nat.le_of_ble_eq_true rfl) (Nat.le_of_ble_eq_true rfl) ⟨rfl, rfl⟩
theorem cl_alI {G : GG} {h : Hp} {q : Nat} (hq0 : (56, q) ∈ h.1) : Cy G MJxc12de_init_da8c8 (rmL 1 0 0) [rf G 56 q] h (fun v h1 => v = none ∧ h1 = hset h 56 q 0 0) := by
  refine o_entry (by decide +kernel) mwJxc12de_init_da8c8 rfl (Nat.le_of_ble_eq_true rfl) ?_
  show YY G MJxc12de_init_da8c8 (rmL 1 0 0) 0 [(0, rf G 56 q)] [] h 0 0 _
  refine o_aload_n (pc := 0) dJxc12de_init_da8c8_0 0 rfl ?_
  refine o_callI (pc := 1) _ dJxc12de_init_da8c8_1 (cl_ac) lkJxc12de_1 rfl rfl ⟨⟨(Nat.le_of_ble_eq_true rfl), (Nat.le_of_ble_eq_true rfl)⟩, (Nat.le_of_ble_eq_true rfl), (Nat.le_of_ble_eq_true rfl)⟩ (Nat.le_of_ble_eq_true rfl) rfl (fun v h1 hq => ?_)
  obtain ⟨rfl, rfl⟩ := hq
  refine o_aload_n (pc := 4) dJxc12de_init_da8c8_4 0 rfl ?_
  refine o_iconst (pc := 5) dJxc12de_init_da8c8_5 ?_
  refine o_pI (pc := 6) (j := 0) dJxc12de_init_da8c8_6 fwJxc12de_7 rfl rfl hq0 ?_
  exact o_vret (pc := 9) dJxc12de_init_da8c8_9 rfl (Nat.le_of_ble_eq_true rfl) (Nat.le_of_ble_eq_true rfl) ⟨rfl, rfl⟩
theorem cl_init {G : GG} {h : Hp} {q : Nat} (hq0 : (56, q) ∈ h.1) : Cy G MJx4a65c_init_da8c8 (rmL 2 0 0) [rf G 56 q] h (fun v h1 => v = none ∧ h1 = rset (hset h 56 q 0 0) 56 q 1 (some (ak 7 0, gV G 15))) := by
  refine o_entry (by decide +kernel) mwJx4a65c_init_da8c8 rfl (Nat.le_of_ble_eq_true rfl) ?_
  show YY G MJx4a65c_init_da8c8 (rmL 2 0 0) 0 [(0, rf G 56 q)] [] h 0 0 _
  refine o_aload_n (pc := 0) dJx4a65c_init_da8c8_0 0 rfl ?_
  refine o_callI (pc := 1) _ dJx4a65c_init_da8c8_1 (cl_alI hq0) lkJx4a65c_1 rfl rfl ⟨⟨(Nat.le_of_ble_eq_true rfl), (Nat.le_of_ble_eq_true rfl)⟩, (Nat.le_of_ble_eq_true rfl), (Nat.le_of_ble_eq_true rfl)⟩ (Nat.le_of_ble_eq_true rfl) rfl (fun v h1 hq => ?_)
  obtain ⟨rfl, rfl⟩ := hq
  refine o_aload_n (pc := 4) dJx4a65c_init_da8c8_4 0 rfl ?_
  refine o_empty (pc := 5) dJx4a65c_init_da8c8_5 fsJx4a65c_39 ?_
  refine o_putR (pc := 8) (j := 1) dJx4a65c_init_da8c8_8 fxJx4a65c_9 rfl rfl hq0 rfl rfl ?_
  exact o_vret (pc := 11) dJx4a65c_init_da8c8_11 rfl (Nat.le_of_ble_eq_true rfl) (Nat.le_of_ble_eq_true rfl) ⟨rfl, rfl⟩
theorem LA.new {G : GG} {h : Hp} {q : Nat} {E : Nat → Nat × Nat} (hq : (56, q) ∈ h.1) (hz : h.2.1 56 q 2 = 0) : LA G (rset (hset h 56 q 0 0) 56 q 1 (some (ak 7 0, gV G 15))) q 0 (gV G 15) 0 E := by
  refine ⟨hq, rset_at, ?_, Nat.le_refl _, by omega, fun z => by omega, fun _ => rfl, fun j z => by omega, fun j _ z => by omega⟩
  show (hset h 56 q 0 0).2.1 56 q 2 = _
  rw [hset_off (by omega)]
  exact hz
