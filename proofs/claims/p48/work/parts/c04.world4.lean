/-! shine, travel -/
def PQ (N : Int → Int) (q : Int) : Prop := PN N q ∧ QN N q ∧ CW N q
theorem PQ.cg {N N' : Int → Int} {q : Int} (h : PQ N q) (e : ∀ j, (j = 0 ∨ j = 4 ∨ 14 ≤ j ∧ j < 30 ∨ 30 + 7 * q ≤ j ∧ j ≤ 30 + 7 * q + 3) → N' j = N j) : PQ N' q := by
  obtain ⟨a, b, c⟩ := h
  have rb := quartN_b a
  have e1 : roomN N' q = roomN N q := by unfold roomN; rw [e _ (by omega), e _ (by omega), e 0 (by omega)]
  have e2 : quartN N' q = quartN N q := by unfold quartN; rw [e1, e _ (by omega)]
  have e3 : weightN N' q = weightN N q := by
    unfold weightN
    rw [e2, e (30 + 7 * q + 3) (by omega)]
    by_cases c1 : N (30 + 7 * q + 3) = -1
    · rw [if_pos c1, if_pos c1]
    · rw [if_neg c1, if_neg c1]
      have b1 := b.1
      exact e _ (by omega)
  refine ⟨?_, ?_, ?_⟩
  · unfold PN
    rw [e _ (by omega), e _ (by omega), e _ (by omega), e _ (by omega)]
    exact a
  · unfold QN
    rw [e _ (by omega), e3]
    exact b
  · unfold CW
    rw [e _ (by omega), e 4 (by omega)]
    exact c
theorem GN.pq {N : Int → Int} (h : GN N) {q : Int} (h0 : 0 ≤ q) (h1 : q < N 3) : PQ N q := ⟨h.pn h0 h1, h.qn h0 h1, h.cur h0 h1⟩
theorem GN.chg {N : Int → Int} (h : GN N) {q : Int} (h0 : 0 ≤ q) (h1 : q < N 3) : 0 ≤ N (30 + 7 * q + 1) ∧ N (30 + 7 * q + 1) ≤ roomN N q ∧ N (30 + 7 * q + 1) ≤ 100000 := by
  have rb := roomN_b (h.pn h0 h1)
  have hp := (h.pn h0 h1).2.1
  obtain ⟨m, p, s, a, b, c, d⟩ := h
  have h1' : q < m 22 p 2 := by rw [← c.1.2.2.1]; exact h1
  have e := (b.2.1 q h0 h1').1
  have f := (d.2.1 q h0 h1').1
  have g := R_room c d h0 h1'
  omega
theorem GN.gain {N : Int → Int} (h : GN N) {q t : Int} (h0 : 0 ≤ q) (h1 : q < N 3) (ht : 0 ≤ t ∧ t < 24) : 0 ≤ gainN N q t ∧ gainN N q t ≤ 120000 := by
  obtain ⟨m, p, s, a, b, c, d⟩ := h
  have h1' : q < m 22 p 2 := by rw [← c.1.2.2.1]; exact h1
  rw [c.2.2.2.1 q t h0 h1' ht.1 ht.2]
  exact a.2.2.2.2.2.2.2.2.2.1 q t h0 h1' ht.1 ht.2
theorem GN.time {N : Int → Int} (h : GN N) : 0 ≤ N 2 ∧ N 2 ≤ 11000 := by
  obtain ⟨m, p, s, a, b, c, d⟩ := h
  rw [d.1.1]
  exact b.1
theorem GN.trip {N : Int → Int} (h : GN N) {t : Int} (h0 : 0 ≤ t) (h1 : t < N 7) : (0 ≤ N (206 + 4 * t + 0) ∧ N (206 + 4 * t + 0) < N 3) ∧ (0 ≤ N (206 + 4 * t + 1) ∧ N (206 + 4 * t + 1) ≤ 9999) ∧ (1 ≤ N (206 + 4 * t + 2) ∧ N (206 + 4 * t + 2) ≤ 100000) ∧ (0 ≤ N (206 + 4 * t + 3) ∧ N (206 + 4 * t + 3) ≤ 2) := by
  obtain ⟨m, p, s, a, b, c, d⟩ := h
  have h1' : t < m 1 s 0 := by rw [← d.1.2.2.2.2.2.1]; exact h1
  have e := d.2.2.2.2.1 t h0 h1'
  rw [e.1, e.2.1, e.2.2.1, e.2.2.2, c.1.2.2.1]
  exact b.2.2.2.1.2 t h0 h1'
theorem GN.sh {N : Int → Int} (h : GN N) {q t : Int} (h0 : 0 ≤ q) (h1 : q < N 3) (ht : 0 ≤ t ∧ t < 24) : GN (shN1 N t q) := by
  obtain ⟨m, p, s, a, b, c, d⟩ := h
  have h1' : q < m 22 p 2 := by rw [← c.1.2.2.1]; exact h1
  have x := BS_sh (hr := t) a b h0 h1'
  have y := R_sh (hr := t) a b c d h0 h1' ht
  exact ⟨_, p, s, x.1, x.2, y.1, y.2⟩
theorem GN.tr {N : Int → Int} (h : GN N) {t : Int} (h0 : 0 ≤ t) (h1 : t < N 7) : GN (trN N t) := by
  obtain ⟨m, p, s, a, b, c, d⟩ := h
  have h1' : t < m 1 s 0 := by rw [← d.1.2.2.2.2.2.1]; exact h1
  have x := BS_tr a b h0 h1'
  have y := R_tr a b c d h0 h1'
  exact ⟨_, p, s, x.1, x.2, y.1, y.2⟩
theorem shN1_lo {N : Int → Int} {t q j : Int} (hq : 0 ≤ q) (h1 : j ≠ 30 + 7 * q + 1) (h2 : j ≠ 13) (h3 : j ≠ 10) : shN1 N t q j = N j := by
  unfold shN1
  rw [getN_lo hq h1 h2, upN_off h3]
theorem WN.t0 {G : GG} {h : Hp} {a : Nat} {N : Int → Int} {B : Bok} {S T : Nat → Prop} (hW : WN G h a N B S T) {q : Nat} (hq : (q : Int) < N 7) : h.2.1 (ak 0 4) (bE B 2 q) 0 = N (206 + 4 * (q : Int) + 0) := hW.tv hq ⟨by decide, by decide⟩
theorem lp_shineW {G : GG} {h : Hp} {a : Nat} {N : Int → Int} {B : Bok} {S T : Nat → Prop} (hW : WN G h a N B S T) {t : Int} {Nz : Int → Int} : ∀ (n : Nat) {h1 : Hp} {N1 : Int → Int} {cur c0 s0 : Nat} (hF : Fg S h h1) (hW1 : WN G h1 a N1 B S T) (hg : GN N1) (hc : (cur : Int) + n = N1 3) (ht : t = N1 2 % 24) (hz : Nz = shNL N1 t cur n) (hcs : c0 + n ≤ 8) (hss : s0 + 4 * n ≤ 32), YY G MX12_shine (rmL 4 8 32) 2 [(0, rf G 51 a), (1, .int (iI (cur : Int)))] [] h1 c0 s0 (fun v h1 => v = none ∧ WN G h1 a (Nz) B S T ∧ Fg S h h1) := by
  intro n
  induction n with
  | zero =>
    intro h1 N1 cur c0 s0 hF hW1 hg hc ht hz hcs hss
    have n3 := hW1.nb 3
    change 0 ≤ N1 3 ∧ N1 3 ≤ 8 at n3
    have tm := hg.time
    refine o_iload_n (pc := 2) dX12_shine_2 1 rfl ?_
    refine o_aload_n (pc := 3) dX12_shine_3 0 rfl ?_
    refine o_gR (pc := 4) (j := 10) (56) ((B.1 3)) dX12_shine_4 flX12_29 rfl rfl hW1.mW (hW1.r 3) ?_
    refine o_callV (pc := 7) _ dX12_shine_7 (cl_size (hW1.l 3)) lkX12_193 rfl rfl rfl rfl (hW1.l 3).1 ⟨⟨by simp only [rmL]; omega, by simp only [rmL]; omega⟩, by simp only [rmL]; omega, by simp only [rmL]; omega⟩ (Nat.le_of_ble_eq_true rfl) rfl (fun v h2 hq2 => ?_)
    obtain ⟨rfl, rfl⟩ := hq2
    refine o_topI (y := N1 3) (by show (((N1 3).toNat : Nat) : Int) = _; omega) ?_
    refine o_icmp_ge (pc := 10) 59 dX12_shine_10 (by decide) (by unfold inI; omega) (by unfold inI; omega) (fun c_10 => ?_) (fun c_10 => (by exfalso; omega))
    exact o_vret (pc := 59) dX12_shine_59 rfl (by simp only [rmL]; omega) (by simp only [rmL]; omega) ⟨rfl, hW1.to hz.symm, hF⟩
  | succ n ih =>
    intro h1 N1 cur c0 s0 hF hW1 hg hc ht hz hcs hss
    have n3 := hW1.nb 3
    change 0 ≤ N1 3 ∧ N1 3 ≤ 8 at n3
    have tm := hg.time
    have hq : (cur : Int) < N1 3 := by omega
    have ht0 : 0 ≤ t ∧ t < 24 := by omega
    have gb := hg.gain (q := (cur : Int)) (by omega) hq ht0
    have cb := hg.chg (q := (cur : Int)) (by omega) hq
    refine o_iload_n (pc := 2) dX12_shine_2 1 rfl ?_
    refine o_aload_n (pc := 3) dX12_shine_3 0 rfl ?_
    refine o_gR (pc := 4) (j := 10) (56) ((B.1 3)) dX12_shine_4 flX12_29 rfl rfl hW1.mW (hW1.r 3) ?_
    refine o_callV (pc := 7) _ dX12_shine_7 (cl_size (hW1.l 3)) lkX12_193 rfl rfl rfl rfl (hW1.l 3).1 ⟨⟨by simp only [rmL]; omega, by simp only [rmL]; omega⟩, by simp only [rmL]; omega, by simp only [rmL]; omega⟩ (Nat.le_of_ble_eq_true rfl) rfl (fun v h2 hq2 => ?_)
    obtain ⟨rfl, rfl⟩ := hq2
    refine o_topI (y := N1 3) (by show (((N1 3).toNat : Nat) : Int) = _; omega) ?_
    refine o_icmp_ge (pc := 10) 59 dX12_shine_10 (by decide) (by unfold inI; omega) (by unfold inI; omega) (fun c_10 => (by exfalso; omega)) (fun c_10 => ?_)
    refine o_aload_n (pc := 13) dX12_shine_13 0 rfl ?_
    refine o_iload_n (pc := 14) dX12_shine_14 1 rfl ?_
    refine o_aload_n (pc := 15) dX12_shine_15 0 rfl ?_
    refine o_gI (pc := 16) (j := 2) dX12_shine_16 flX12_42 rfl rfl hW1.mW (hW1.w2) ?_
    refine o_bipush (pc := 19) (z := 24) dX12_shine_19 (by decide) ?_
    refine o_irem (pc := 21) dX12_shine_21 (by omega) (by omega) ?_
    refine o_callV (pc := 22) _ dX12_shine_22 (cw_gain hW1 (x := (cur : Int)) (by unfold inI; omega) (show 0 ≤ N1 2 % 24 ∧ N1 2 % 24 < 24 by omega) hg.su hF.n) lkX12_219 rfl rfl rfl rfl hW1.mW ⟨⟨by simp only [rmL]; omega, by simp only [rmL]; omega⟩, by simp only [rmL]; omega, by simp only [rmL]; omega⟩ (Nat.le_of_ble_eq_true rfl) rfl (fun v h2 hq2 => ?_)
    obtain ⟨rfl, hF2⟩ := hq2
    have hW2 := hW1.fr0 hF2
    rw [← ht]
    refine o_istore_n (pc := 25) (lv' := [(2, _), (0, _), (1, _)]) dX12_shine_25 rfl (by decide) rfl ?_
    refine o_aload_n (pc := 26) dX12_shine_26 1 rfl ?_
    refine o_dup (pc := 27) dX12_shine_27 rfl ?_
    refine o_gL (pc := 28) (j := 3) dX12_shine_28 flX12_45 rfl rfl hW2.mW hW2.w3 ?_
    refine o_iload_n (pc := 31) dX12_shine_31 0 rfl ?_
    refine o_i2l (pc := 32) dX12_shine_32 (by unfold inI; omega) ?_
    refine o_ladd (pc := 33) dX12_shine_33 ?_
    refine o_pL (pc := 34) (j := 3) dX12_shine_34 fwX12_45 rfl rfl hW2.mW ?_
    have hW3 : WN G _ a (upN N1 10 (N1 10 + gainN N1 cur t)) B S T := hW2.setH 3 (N1 10 + gainN N1 cur t)
    have hq3 := up_lt (N := N1) (i := 10) (z := N1 10 + gainN N1 cur t) (n := 3) (by omega) (by omega) hq
    have pq3 := (hg.pq (q := (cur : Int)) (by omega) hq).cg (N' := upN N1 10 (N1 10 + gainN N1 cur t)) (fun j hj => upN_off (by omega))
    have hF3 := Fg_hset (k := 51) (j := ((3 : Nat) : Int)) (z := N1 10 + gainN N1 cur t) (hF.f0 hF2) (by decide) (.inl hW1.sA)
    refine o_aload_n (pc := 37) dX12_shine_37 1 rfl ?_
    refine o_aload_n (pc := 38) dX12_shine_38 1 rfl ?_
    refine o_gR (pc := 39) (j := 10) (56) ((B.1 3)) dX12_shine_39 flX12_29 rfl rfl hW3.mW (hW3.r 3) ?_
    refine o_iload_n (pc := 42) dX12_shine_42 2 rfl ?_
    refine o_callV (pc := 43) _ dX12_shine_43 (hW3.get 3 hq3) lkX12_124 rfl rfl rfl rfl (hW3.l 3).1 ⟨⟨by simp only [rmL]; omega, by simp only [rmL]; omega⟩, by simp only [rmL]; omega, by simp only [rmL]; omega⟩ (Nat.le_of_ble_eq_true rfl) rfl (fun v h2 hq2 => ?_)
    obtain ⟨rfl, rfl⟩ := hq2
    show YY _ _ _ _ _ (rf G 52 (bE B 3 cur) :: _) _ _ _ _
    refine o_castO (pc := 46) dX12_shine_46 clX12_85 rfl rfl (hW3.mE 3 hq3) ?_
    refine o_iload_n (pc := 49) dX12_shine_49 0 rfl ?_
    refine o_callV (pc := 50) _ dX12_shine_50 (cw_take hW3 hq3 pq3.1 (x := gainN N1 cur t) (by rw [upN_off (by omega)]; omega) hF3.n) lkX12_216 rfl rfl rfl rfl hW3.mW ⟨⟨by simp only [rmL]; omega, by simp only [rmL]; omega⟩, by simp only [rmL]; omega, by simp only [rmL]; omega⟩ (Nat.le_of_ble_eq_true rfl) rfl (fun v h2 hq2 => ?_)
    obtain ⟨rfl, hW4x, hF4⟩ := hq2
    have hW4 : WN G _ a (shN1 N1 t cur) B S T := hW4x
    have e3 : shN1 N1 t cur 3 = N1 3 := shN1_lo (by omega) (by omega) (by omega) (by omega)
    have e2 : shN1 N1 t cur 2 = N1 2 := shN1_lo (by omega) (by omega) (by omega) (by omega)
    refine o_iinc (pc := 53) (lv' := [(1, _), (2, _), (0, _)]) dX12_shine_53 2 rfl (by decide) rfl ?_
    refine o_goto (pc := 56) 2 dX12_shine_56 (by decide) ?_
    exact o_lv [2, 0] rfl (ih (cur := cur + 1) (hF3.t hF4) hW4 (hg.sh (by omega) hq ht0) (by rw [e3]; omega) (by rw [e2]; exact ht) hz (by simp only [rmL]; omega) (by simp only [rmL]; omega))
theorem cw_shine {G : GG} {h : Hp} {a : Nat} {N : Int → Int} {B : Bok} {S T : Nat → Prop} (hW : WN G h a N B S T) (hg : GN N) (hn : ∃ n, h.2.2.2 = some n) : Cy G MX12_shine (rmL 4 8 32) [rf G 51 a] h (fun v h1 => v = none ∧ WN G h1 a (tn1 N) B S T ∧ Fg S h h1) := by
  refine o_entry (by decide +kernel) mwX12_shine rfl (Nat.le_of_ble_eq_true rfl) ?_
  show YY G MX12_shine (rmL 4 8 32) 0 [(0, rf G 51 a)] [] h 0 0 _
  refine o_iconst (pc := 0) dX12_shine_0 ?_
  refine o_istore_n (pc := 1) (lv' := [(1, _), (0, _)]) dX12_shine_1 rfl (by decide) rfl ?_
  exact o_lv [1, 0] rfl (lp_shineW hW (N 3).toNat (cur := 0) (Fg.rf hn) hW hg (show (0 : Int) + ((N 3).toNat : Int) = N 3 by have := (hW.nb 3).1; change 0 ≤ N 3 at this; omega) rfl rfl (by have := (hW.nb 3).2; change N 3 ≤ 8 at this; omega) (by have := (hW.nb 3).2; change N 3 ≤ 8 at this; omega))
theorem cw_travel {G : GG} {h : Hp} {a : Nat} {N : Int → Int} {B : Bok} {S T : Nat → Prop} (hW : WN G h a N B S T) {t : Nat} (hq : (t : Int) < N 7) (hg : GN N) (hn : ∃ n, h.2.2.2 = some n) : Cy G MX12_travel (rmL 5 0 0) [rf G 51 a, rf G (ak 0 4) (bE B 2 t)] h (fun v h1 => v = none ∧ WN G h1 a (trN N t) B S T ∧ Fg S h h1) := by
  refine o_entry (by decide +kernel) mwX12_travel rfl (Nat.le_of_ble_eq_true rfl) ?_
  show YY G MX12_travel (rmL 5 0 0) 0 [(0, rf G 51 a), (1, rf G (ak 0 4) (bE B 2 t))] [] h 0 0 _
  have ft := hg.trip (t := (t : Int)) (by omega) hq
  have n7 := hW.nb 2
  change 0 ≤ N 7 ∧ N 7 ≤ 16 at n7
  have n3 := hW.nb 3
  change 0 ≤ N 3 ∧ N 3 ≤ 8 at n3
  have tm := hg.time
  obtain ⟨x, hxe⟩ : ∃ x : Nat, N (206 + 4 * (t : Int) + 0) = (x : Int) := ⟨(N (206 + 4 * (t : Int) + 0)).toNat, by omega⟩
  have hx : (x : Int) < N 3 := by omega
  rw [hxe] at ft
  have pq := hg.pq (q := (x : Int)) (by omega) hx
  have cb := hg.chg (q := (x : Int)) (by omega) hx
  refine o_aload_n (pc := 0) dX12_travel_0 1 rfl ?_
  refine o_iconst (pc := 1) dX12_travel_1 ?_
  refine o_iaI (pc := 2) dX12_travel_2 (shp_ak (by decide)) (hW.mE 2 hq) (by omega) (by omega) (hW.tv hq (z := 1) (by omega)) ?_
  refine o_aload_n (pc := 3) dX12_travel_3 0 rfl ?_
  refine o_gI (pc := 4) (j := 2) dX12_travel_4 flX12_42 rfl rfl hW.mW (hW.w2) ?_
  refine o_icmp_ne (pc := 7) 16 dX12_travel_7 (by decide) (by unfold inI; omega) (by unfold inI; omega) (fun c_7 => ?_) (fun c_7 => ?_)
  · exact o_vret (pc := 16) dX12_travel_16 rfl (Nat.le_of_ble_eq_true rfl) (Nat.le_of_ble_eq_true rfl) ⟨rfl, hW.to (by unfold trN; rw [if_neg (by omega)]), Fg.rf hn⟩
  · refine o_aload_n (pc := 10) dX12_travel_10 1 rfl ?_
    refine o_iconst (pc := 11) dX12_travel_11 ?_
    refine o_iaI (pc := 12) dX12_travel_12 (shp_ak (by decide)) (hW.mE 2 hq) (by omega) (by omega) (hW.tv hq (z := 3) (by omega)) ?_
    refine o_if_eq (pc := 13) 17 dX12_travel_13 (by decide) (by unfold inI; omega) (fun c_13 => ?_) (fun c_13 => ?_)
    · refine o_aload_n (pc := 17) dX12_travel_17 0 rfl ?_
      refine o_gR (pc := 18) (j := 10) (56) ((B.1 3)) dX12_travel_18 flX12_29 rfl rfl hW.mW (hW.r 3) ?_
      refine o_aload_n (pc := 21) dX12_travel_21 1 rfl ?_
      refine o_iconst (pc := 22) dX12_travel_22 ?_
      refine o_iaI (pc := 23) dX12_travel_23 (shp_ak (by decide)) (hW.mE 2 hq) (by omega) (by omega) (hW.tv hq (z := 0) (by omega)) ?_
      refine o_topI (y := (x : Int)) hxe ?_
      refine o_callV (pc := 24) _ dX12_travel_24 (hW.get 3 hx) lkX12_124 rfl rfl rfl rfl (hW.l 3).1 ⟨⟨(Nat.le_of_ble_eq_true rfl), (Nat.le_of_ble_eq_true rfl)⟩, (Nat.le_of_ble_eq_true rfl), (Nat.le_of_ble_eq_true rfl)⟩ (Nat.le_of_ble_eq_true rfl) rfl (fun v h2 hq2 => ?_)
      obtain ⟨rfl, rfl⟩ := hq2
      show YY _ _ _ _ _ (rf G 52 (bE B 3 x) :: _) _ _ _ _
      refine o_castO (pc := 27) dX12_travel_27 clX12_85 rfl rfl (hW.mE 3 hx) ?_
      refine o_astore_n (pc := 30) (lv' := [(2, _), (0, _), (1, _)]) dX12_travel_30 rfl (by decide) rfl ?_
      refine o_aload_n (pc := 31) dX12_travel_31 0 rfl ?_
      refine o_gI (pc := 32) (j := 2) dX12_travel_32 flX12_114 rfl rfl (hW.mE 3 hx) (hW.p2 hx) ?_
      refine o_aload_n (pc := 35) dX12_travel_35 2 rfl ?_
      refine o_iconst (pc := 36) dX12_travel_36 ?_
      refine o_iaI (pc := 37) dX12_travel_37 (shp_ak (by decide)) (hW.mE 2 hq) (by omega) (by omega) (hW.tv hq (z := 2) (by omega)) ?_
      refine o_icmp_ge (pc := 38) 56 dX12_travel_38 (by decide) (by unfold inI; omega) (by unfold inI; omega) (fun c_38 => ?_) (fun c_38 => ?_)
      · refine o_aload_n (pc := 56) dX12_travel_56 2 rfl ?_
        refine o_iconst (pc := 57) dX12_travel_57 ?_
        refine o_iconst (pc := 58) dX12_travel_58 ?_
        refine o_isI (pc := 59) dX12_travel_59 (shp_ak (by decide)) (hW.mE 2 hq) (by omega) (by omega) ?_
        have W1 : WN G _ a (upN N (206 + 4 * (t : Int) + 3) 1) B S T := hW.setE 2 hq 3 1
        have hx1 := up_lt (N := N) (i := 206 + 4 * (t : Int) + 3) (z := 1) (by omega) (by omega) hx
        have hq1 := up_lt (N := N) (i := 206 + 4 * (t : Int) + 3) (z := 1) (by omega) (by omega) hq
        refine o_aload_n (pc := 60) dX12_travel_60 0 rfl ?_
        refine o_dup (pc := 61) dX12_travel_61 rfl ?_
        refine o_gI (pc := 62) (j := 5) dX12_travel_62 flX12_225 rfl rfl (W1.mE 3 hx1) (W1.p5 hx1) ?_
        refine o_iconst (pc := 65) dX12_travel_65 ?_
        refine o_iadd (pc := 66) dX12_travel_66 ?_
        refine o_pI (pc := 67) (j := 5) dX12_travel_67 fwX12_225 rfl rfl (W1.mE 3 hx1) ?_
        have W2 := (W1.setE 3 hx1 5 (upN N (206 + 4 * (t : Int) + 3) 1 (30 + 7 * (x : Int) + 5) + 1)).to (N' := trN2 N t) (by unfold trN2 trN1; rw [show trS N t = 1 by (unfold trS; rw [hxe, if_pos (by omega)]), hxe]; rfl)
        have lo : ∀ j, j ≠ 206 + 4 * (t : Int) + 3 → j ≠ 30 + 7 * (x : Int) + 5 → trN2 N t j = N j := fun j j1 j2 => by { unfold trN2 trN1; rw [show trS N t = 1 by (unfold trS; rw [hxe, if_pos (by omega)]), hxe, upN_off (by omega), upN_off j1] }
        have hq2 : (t : Int) < trN2 N t 7 := by { rw [lo _ (by omega) (by omega)]; exact hq }
        have hx2 : (x : Int) < trN2 N t 3 := by { rw [lo _ (by omega) (by omega)]; exact hx }
        refine o_aload_n (pc := 70) dX12_travel_70 1 rfl ?_
        refine o_dup (pc := 71) dX12_travel_71 rfl ?_
        refine o_gL (pc := 72) (j := 4) dX12_travel_72 flX12_49 rfl rfl W2.mW W2.w4 ?_
        refine o_aload_n (pc := 75) dX12_travel_75 2 rfl ?_
        refine o_iconst (pc := 76) dX12_travel_76 ?_
        refine o_iaI (pc := 77) dX12_travel_77 (shp_ak (by decide)) (W2.mE 2 hq2) (by omega) (by omega) ((W2.tv hq2 (z := 2) (by omega)).trans (lo _ (by omega) (by omega))) ?_
        refine o_i2l (pc := 78) dX12_travel_78 (by unfold inI; omega) ?_
        refine o_ladd (pc := 79) dX12_travel_79 ?_
        refine o_pL (pc := 80) (j := 4) dX12_travel_80 fwX12_49 rfl rfl W2.mW ?_
        have W3 : WN G _ a (upN (trN2 N t) 11 (trN2 N t 11 + N (206 + 4 * (t : Int) + 2))) B S T := W2.setH 4 (trN2 N t 11 + N (206 + 4 * (t : Int) + 2))
        have hq3 := up_lt (N := trN2 N t) (i := 11) (z := trN2 N t 11 + N (206 + 4 * (t : Int) + 2)) (n := 7) (by omega) (by omega) hq2
        have hx3 := up_lt (N := trN2 N t) (i := 11) (z := trN2 N t 11 + N (206 + 4 * (t : Int) + 2)) (n := 3) (by omega) (by omega) hx2
        have pq3 := pq.cg (N' := upN (trN2 N t) 11 (trN2 N t 11 + N (206 + 4 * (t : Int) + 2))) (fun j hj => by rw [upN_off (by omega), lo _ (by omega) (by omega)])
        refine o_aload_n (pc := 83) dX12_travel_83 1 rfl ?_
        refine o_aload_n (pc := 84) dX12_travel_84 0 rfl ?_
        refine o_aload_n (pc := 85) dX12_travel_85 2 rfl ?_
        refine o_iconst (pc := 86) dX12_travel_86 ?_
        refine o_iaI (pc := 87) dX12_travel_87 (shp_ak (by decide)) (W3.mE 2 hq3) (by omega) (by omega) ((W3.tv hq3 (z := 2) (by omega)).trans ((upN_off (show (206 + 4 * (t : Int) + 2) ≠ 11 by omega)).trans (lo _ (by omega) (by omega)))) ?_
        refine o_callV (pc := 88) _ dX12_travel_88 (cw_give W3 hx3 pq3.1 pq3.2.1 pq3.2.2 (x := N (206 + 4 * (t : Int) + 2)) (by rw [upN_off (by omega), lo _ (by omega) (by omega)]; omega) hn) lkX12_208 rfl rfl rfl rfl W3.mW ⟨⟨(Nat.le_of_ble_eq_true rfl), (Nat.le_of_ble_eq_true rfl)⟩, (Nat.le_of_ble_eq_true rfl), (Nat.le_of_ble_eq_true rfl)⟩ (Nat.le_of_ble_eq_true rfl) rfl (fun v h2 hq2x => ?_)
        obtain ⟨rfl, hW4, hF4⟩ := hq2x
        exact o_vret (pc := 91) dX12_travel_91 rfl (Nat.le_of_ble_eq_true rfl) (Nat.le_of_ble_eq_true rfl) ⟨rfl, hW4.to (by unfold trN trN3; rw [hxe, if_pos (by omega), if_pos (by omega)]), (Fg_hset (Fg_hset (Fg_hset (Fg.rf hn) (by decide) (.inl (hW.sE 2 hq))) (by decide) (.inl (hW.sE 3 hx))) (by decide) (.inl hW.sA)).t hF4⟩
      · refine o_aload_n (pc := 41) dX12_travel_41 2 rfl ?_
        refine o_iconst (pc := 42) dX12_travel_42 ?_
        refine o_iconst (pc := 43) dX12_travel_43 ?_
        refine o_isI (pc := 44) dX12_travel_44 (shp_ak (by decide)) (hW.mE 2 hq) (by omega) (by omega) ?_
        have W1 : WN G _ a (upN N (206 + 4 * (t : Int) + 3) 2) B S T := hW.setE 2 hq 3 2
        have hx1 := up_lt (N := N) (i := 206 + 4 * (t : Int) + 3) (z := 2) (by omega) (by omega) hx
        refine o_aload_n (pc := 45) dX12_travel_45 0 rfl ?_
        refine o_dup (pc := 46) dX12_travel_46 rfl ?_
        refine o_gI (pc := 47) (j := 6) dX12_travel_47 flX12_222 rfl rfl (W1.mE 3 hx1) (W1.p6 hx1) ?_
        refine o_iconst (pc := 50) dX12_travel_50 ?_
        refine o_iadd (pc := 51) dX12_travel_51 ?_
        refine o_pI (pc := 52) (j := 6) dX12_travel_52 fwX12_222 rfl rfl (W1.mE 3 hx1) ?_
        exact o_vret (pc := 55) dX12_travel_55 rfl (Nat.le_of_ble_eq_true rfl) (Nat.le_of_ble_eq_true rfl) ⟨rfl, (W1.setE 3 hx1 6 _).to (by unfold trN trN3 trN2 trN1; rw [hxe, if_pos (by omega), if_neg (by omega), show trS N t = 2 by (unfold trS; rw [hxe, if_neg (by omega)])]; rfl), Fg_hset (Fg_hset (Fg.rf hn) (by decide) (.inl (hW.sE 2 hq))) (by decide) (.inl (hW.sE 3 hx))⟩
    · exact o_vret (pc := 16) dX12_travel_16 rfl (Nat.le_of_ble_eq_true rfl) (Nat.le_of_ble_eq_true rfl) ⟨rfl, hW.to (by unfold trN; rw [if_neg (by omega)]), Fg.rf hn⟩
