theorem sends_PN {m : Mem} {p s : Nat} {N : Int → Int} {c a b x : Int} (hP : BP m p) (hB : BS m p s) (hR : RP m p N) (hS : RS m p s N) (h8 : R8 m p s N) (c0 : 0 ≤ c) (c1 : c < m 22 p 5) (a0 : 0 ≤ a) (a1 : a < m 22 p 2) (b0 : 0 ≤ b) (b1 : b < m 22 p 2) (hx : 0 ≤ x ∧ x ≤ m 3 s a) (hx2 : x ≤ m 7 s c - m 8 s c) :
    PN (carryN (giveN N a x) c x (x * N (86 + 6 * c + 2) / 1000)) b ∧ carryN (giveN N a x) c x (x * N (86 + 6 * c + 2) / 1000) (30 + 7 * b + 1) + (x - x * N (86 + 6 * c + 2) / 1000) ≤ 1000000 := by
  have n12 := hP.2.2.2.2.2.1
  have hcb := hB.2.2.1 c c0 c1
  have hc6 := hcb.1
  have hc7 := hcb.2.1
  have hc8 := hcb.2.2
  have e6 : N (86 + 6 * c + 2) = m 6 s c := (hS.2.2.2.1 c c0 c1).1
  have B1 := BS_give hP hB a0 a1 hx
  have U1 := R_give (x := x) hP hB hR hS a0 a1
  have n8 := hP.2.2.1
  have U8 : R8 (giveC m p s a x) p s (giveN N a x) := R8_of hP h8 (giveC_k (by decide) (by decide) (by decide)) (giveC_k (by decide) (by decide) (by decide)) (fun c' c2 c3 => giveN_lo a0 (by omega) (by omega) (by omega))
  have g6 : giveC m p s a x 6 s c = m 6 s c := by rw [giveC_k (by decide) (by decide) (by decide)]
  have g8 : giveC m p s a x 8 s c = m 8 s c := by rw [giveC_k (by decide) (by decide) (by decide)]
  have g22 : giveC m p s a x 22 = m 22 := giveC_k (by decide) (by decide) (by decide)
  have U2 := R_carry (x := x) (y := x * m 6 s c / 1000) B1.1 B1.2 U1.1 U1.2 U8 c0 (by rw [g22]; exact c1) (by rw [g6])
  have P2 : BP (carryC (giveC m p s a x) s c x) p := B1.1
  have B2 : BS (carryC (giveC m p s a x) s c x) p s := BS_up8 (m := giveC m p s a x) (by rw [g8]; omega) B1.2
  have g22' : carryC (giveC m p s a x) s c x 22 = m 22 := by rw [carry_k (by decide) (by decide), g22]
  have hlo : x * m 6 s c ≤ x * 900 := Int.mul_le_mul_of_nonneg_left hc6.2 hx.1
  have hl0 : 0 ≤ x * m 6 s c := Int.mul_nonneg hx.1 hc6.1
  rw [e6]
  have pn := PN_of P2 B2 U2.1 U2.2.1 b0 (by rw [g22']; exact b1)
  refine ⟨pn, ?_⟩
  have q1 := (U2.2.1.2.1 b b0 (by rw [g22']; exact b1)).1
  have q2 := (B2.2.1 b b0 (by rw [g22']; exact b1)).1
  have q3 := roomC_b (BS_pf P2 B2 b0 (by rw [g22']; exact b1))
  have q4 := (BS_pf P2 B2 b0 (by rw [g22']; exact b1)).2.1
  omega

theorem mq_isSent {G : GG} {m : Mem} {N : Int → Int} {c9 : Mem} {p s : Nat} (l : Int) (hP : BP c9 p) (hB : BS c9 p s) (hR : RP c9 p N) (hS : RS c9 p s N) (hN : SN c9 p s) (h8 : R8 c9 p s N) (h0 : 0 ≤ l) (h1 : l < c9 2 s 0) : Ct G MX8_isSent (rmD 6) [rf G 41 0, .int (iI l)] (hp (sr m N)) (.inl none) (hp (sr m (snN N l))) := by
  refine x_entry (by decide +kernel) mwX8_isSent rfl (Nat.le_of_ble_eq_true rfl) ?_
  show X G MX8_isSent (rmD 6) 0 [(0, rf G 41 0), (1, .int (iI l))] [] (hp (sr m N)) 0 0 (.inl none) (hp (sr m (snN N l)))
  have n16 := hB.2.2.2.2.1.1
  have n8 := hP.2.2.1
  have n8b := hP.2.2.2.2.2.2.1
  have n12 := hP.2.2.2.2.2.1
  have t0 := hB.1
  have hb := hB.2.2.2.2.1.2 l h0 h1
  have hc := BP_c hP hb.1.1 hb.1.2
  have rc := R_cb hP hB hR hS h0 h1
  have hl := hS.2.2.2.2.2.2 l h0 h1
  have ln := LN_of hP hB hR hS h0 h1
  have k1 := hb.1
  have k2 := hb.2.1
  have k3 := hb.2.2.1
  have k4 := hb.2.2.2.1
  have k6 := hb.2.2.2.2.2.1
  have k7 := hb.2.2.2.2.2.2
  have g1 := hc.1
  have g2 := hc.2.1
  have g3 := hc.2.2.2.2.1
  have c0 : 0 ≤ cbC c9 p s l ∧ cbC c9 p s l < c9 22 p 5 := ⟨hc.2.2.2.2.2.2.1, hc.2.2.2.2.2.2.2⟩
  have hcb := hB.2.2.1 _ c0.1 c0.2
  have r4 := hS.2.2.2.1 _ c0.1 c0.2
  have r8 := h8 _ c0.1 c0.2
  have cc1 := hcb.1
  have cc2 := hcb.2.1
  have cc3 := hcb.2.2
  have rq := hS.2.1 _ g1.1 g1.2
  have rq2 := hS.2.1 _ g2.1 g2.2
  have pq := hB.2.1 _ g1.1 g1.2
  have pq1 := pq.1
  have pq3 := pq.2.2
  have pq2 := (hB.2.1 _ g2.1 g2.2).1
  have rb1 := roomC_b (BS_pf hP hB g1.1 g1.2)
  have rb2 := roomC_b (BS_pf hP hB g2.1 g2.2)
  have cp1 := (BS_pf hP hB g1.1 g1.2).2.1
  have cp2 := (BS_pf hP hB g2.1 g2.2).2.1
  have w1 : PN N (c9 28 p (c9 15 s l)) := PN_of hP hB hR hS g1.1 g1.2
  have w2 : QN N (c9 28 p (c9 15 s l)) := QN_of hP hB hR hS g1.1 g1.2
  have w3 : PN N (c9 29 p (c9 15 s l)) := PN_of hP hB hR hS g2.1 g2.2
  have w4 : QN N (c9 29 p (c9 15 s l)) := QN_of hP hB hR hS g2.1 g2.2
  have eL : N (270 + 6 * N (318 + 7 * l + 0) + 0) = c9 28 p (c9 15 s l) := by rw [rc.1, rc.2.1]
  have eB : N (270 + 6 * N (318 + 7 * l + 0) + 1) = c9 29 p (c9 15 s l) := by rw [rc.1, rc.2.2.1]
  have eG : N (270 + 6 * N (318 + 7 * l + 0) + 4) = c9 32 p (c9 15 s l) := by rw [rc.1, rc.2.2.2.1]
  have eC := rc.2.2.2.2
  have e0 := rc.1
  have e1 := hl.2.1
  have e2 := hl.2.2.1
  have e3 := hl.2.2.2.1
  have e4 := hl.2.2.2.2.1
  have e5 := hl.2.2.2.2.2.1
  have e6 := hl.2.2.2.2.2.2
  have f3 : N (86 + 6 * cbN N l + 3) = c9 7 s (cbC c9 p s l) := by rw [eC]; exact r4.2.1
  have f2 : N (86 + 6 * cbN N l + 2) = c9 6 s (cbC c9 p s l) := by rw [eC]; exact r4.1
  have f4 : N (86 + 6 * cbN N l + 4) = c9 8 s (cbC c9 p s l) := by rw [eC]; exact r8
  have hU := hR.2.2.2.2.2.2
  have iL : inI (N (270 + 6 * N (318 + 7 * l + 0) + 0)) := by rw [eL]; unfold inI; omega
  have iB : inI (N (270 + 6 * N (318 + 7 * l + 0) + 1)) := by rw [eB]; unfold inI; omega
  have eA : snA N l = soA c9 p s l := by
    unfold snA soA aboveN freeN
    rw [eC, eL, e1, e2, rq.1, rq.2.2, r4.2.1, r8]
    have hn := hN _ c0.1 c0.2
    omega
  have ha := soA_b hP hB hN h0 h1
  have sp := sends_PN (x := soA c9 p s l) hP hB hR hS h8 c0.1 c0.2 g1.1 g1.2 g2.1 g2.2 ha.1 ha.2.2
  rw [← eA, ← eL, ← eB, ← eC] at sp
  have aN : aboveN N (N (270 + 6 * N (318 + 7 * l + 0) + 0)) = c9 3 s (c9 28 p (c9 15 s l)) - c9 5 s (c9 28 p (c9 15 s l)) := by unfold aboveN; rw [eL, rq.1, rq.2.2]
  have fN : freeN N (cbN N l) = max 0 (c9 7 s (cbC c9 p s l) - c9 8 s (cbC c9 p s l)) := by unfold freeN; rw [f3, f4]
  have wb0 : 0 ≤ snA N l * weightN N (N (270 + 6 * N (318 + 7 * l + 0) + 0)) := Int.mul_nonneg (by rw [eA]; exact ha.1.1) (by rw [eL]; exact w2.2.1)
  have pb : 0 ≤ pfN N (N (270 + 6 * N (318 + 7 * l + 0) + 0)) (snA N l) ∧ pfN N (N (270 + 6 * N (318 + 7 * l + 0) + 0)) (snA N l) ≤ 100000000 := by unfold pfN; omega
  have xq : N (30 + 7 * (N (270 + 6 * N (318 + 7 * l + 0) + 0)) + 1) = c9 3 s (c9 28 p (c9 15 s l)) := by rw [eL]; exact rq.1
  have cbb : 0 ≤ cbN N l ∧ cbN N l < 12 := by rw [eC]; omega
  have eW : PN N (N (270 + 6 * N (318 + 7 * l + 0) + 0)) := by rw [eL]; exact w1
  have eQ : QN N (N (270 + 6 * N (318 + 7 * l + 0) + 0)) := by rw [eL]; exact w2
  have ch := rq.1
  refine x_aload_n (pc := 0) dX8_isSent_0 0 rfl ?_
  refine x_aload_n (pc := 1) dX8_isSent_1 0 rfl ?_
  refine x_iload_n (pc := 2) dX8_isSent_2 1 rfl ?_
  refine x_iconst (pc := 3) dX8_isSent_3 ?_
  refine x_callV (pc := 4) _ dX8_isSent_4 (mq_ofLoan (l) 0 (by omega)) lkX8_50 rfl rfl rfl rfl (mem_dom0 (by decide) (by decide)) (by decide) (Nat.le_of_ble_eq_true rfl) rfl ?_
  refine x_callV (pc := 7) _ dX8_isSent_7 (mq_cableOf _ (by omega) iL iB hU) lkX8_295 rfl rfl rfl rfl (mem_dom0 (by decide) (by decide)) (by decide) (Nat.le_of_ble_eq_true rfl) rfl ?_
  refine x_top (v' := .int (iI (cbN N l))) rfl ?_
  refine x_istore_n (pc := 10) (lv' := [(2, _), (0, _), (1, _)]) dX8_isSent_10 rfl (by decide) rfl ?_
  refine x_aload_n (pc := 11) dX8_isSent_11 1 rfl ?_
  refine x_iload_n (pc := 12) dX8_isSent_12 2 rfl ?_
  refine x_iconst (pc := 13) dX8_isSent_13 ?_
  refine x_callV (pc := 14) _ dX8_isSent_14 (mq_ofLoans l 0 (by omega) (by omega)) lkX8_308 rfl rfl rfl rfl (mem_dom0 (by decide) (by decide)) (by decide) (Nat.le_of_ble_eq_true rfl) rfl ?_
  refine x_istore_n (pc := 17) (lv' := [(3, _), (2, _), (0, _), (1, _)]) dX8_isSent_17 rfl (by decide) rfl ?_
  refine x_aload_n (pc := 18) dX8_isSent_18 2 rfl ?_
  refine x_iload_n (pc := 19) dX8_isSent_19 3 rfl ?_
  refine x_iconst (pc := 20) dX8_isSent_20 ?_
  refine x_callV (pc := 21) _ dX8_isSent_21 (mq_ofLoan (l) 1 (by omega)) lkX8_50 rfl rfl rfl rfl (mem_dom0 (by decide) (by decide)) (by decide) (Nat.le_of_ble_eq_true rfl) rfl ?_
  refine x_aload_n (pc := 24) dX8_isSent_24 2 rfl ?_
  refine x_iload_n (pc := 25) dX8_isSent_25 3 rfl ?_
  refine x_iconst (pc := 26) dX8_isSent_26 ?_
  refine x_callV (pc := 27) _ dX8_isSent_27 (mq_ofLoan (l) 2 (by omega)) lkX8_50 rfl rfl rfl rfl (mem_dom0 (by decide) (by decide)) (by decide) (Nat.le_of_ble_eq_true rfl) rfl ?_
  refine x_isub (pc := 30) dX8_isSent_30 ?_
  refine x_istore (pc := 31) (lv' := [(4, _), (3, _), (2, _), (0, _), (1, _)]) dX8_isSent_31 (by decide) rfl ?_
  refine x_iload (pc := 33) dX8_isSent_33 0 rfl ?_
  refine x_iconst (pc := 35) dX8_isSent_35 ?_
  refine x_aload_n (pc := 36) dX8_isSent_36 3 rfl ?_
  refine x_iload_n (pc := 37) dX8_isSent_37 1 rfl ?_
  refine x_callV (pc := 38) _ dX8_isSent_38 (mq_above (N (270 + 6 * N (318 + 7 * l + 0) + 0)) (by omega)) lkX8_287 rfl rfl rfl rfl (mem_dom0 (by decide) (by decide)) (by decide) (Nat.le_of_ble_eq_true rfl) rfl ?_
  refine x_max (pc := 41) dX8_isSent_41 lmX8_192 (by unfold inI; omega) (by unfold inI; omega) (by decide) (Nat.le_of_ble_eq_true rfl) (by decide) (by decide) ?_
  refine x_aload_n (pc := 44) dX8_isSent_44 3 rfl ?_
  refine x_iload_n (pc := 45) dX8_isSent_45 2 rfl ?_
  refine x_callV (pc := 46) _ dX8_isSent_46 (mq_free (cbN N l) cbb (by rw [f3, f4]; unfold inI; omega)) lkX8_311 rfl rfl rfl rfl (mem_dom0 (by decide) (by decide)) (by decide) (Nat.le_of_ble_eq_true rfl) rfl ?_
  refine x_min (pc := 49) dX8_isSent_49 lmX8_106 (by unfold inI; omega) (by unfold inI; omega) (by decide) (Nat.le_of_ble_eq_true rfl) (by decide) (by decide) ?_
  refine x_min (pc := 52) dX8_isSent_52 lmX8_106 (by unfold inI; omega) (by unfold inI; omega) (by decide) (Nat.le_of_ble_eq_true rfl) (by decide) (by decide) ?_
  refine x_top (v' := .int (iI (snA N l))) rfl ?_
  refine x_istore (pc := 55) (lv' := [(5, _), (4, _), (3, _), (2, _), (0, _), (1, _)]) dX8_isSent_55 (by decide) rfl ?_
  refine x_aload_n (pc := 57) dX8_isSent_57 4 rfl ?_
  refine x_iload_n (pc := 58) dX8_isSent_58 5 rfl ?_
  refine x_iconst (pc := 59) dX8_isSent_59 ?_
  refine x_callV (pc := 60) _ dX8_isSent_60 (mq_ofLoan (l) 3 (by omega)) lkX8_50 rfl rfl rfl rfl (mem_dom0 (by decide) (by decide)) (by decide) (Nat.le_of_ble_eq_true rfl) rfl ?_
  refine x_i2l (pc := 63) dX8_isSent_63 (by unfold inI; omega) ?_
  refine x_aload_n (pc := 64) dX8_isSent_64 4 rfl ?_
  refine x_iload_n (pc := 65) dX8_isSent_65 2 rfl ?_
  refine x_iload (pc := 66) dX8_isSent_66 0 rfl ?_
  refine x_callV (pc := 68) _ dX8_isSent_68 (mq_pointsFor (N (270 + 6 * N (318 + 7 * l + 0) + 0)) (snA N l) eW eQ (by omega)) lkX8_278 rfl rfl rfl rfl (mem_dom0 (by decide) (by decide)) (by decide) (Nat.le_of_ble_eq_true rfl) rfl ?_
  refine x_i2l (pc := 71) dX8_isSent_71 (by unfold inI; omega) ?_
  refine x_ladd (pc := 72) dX8_isSent_72 ?_
  refine x_lstore (pc := 73) (lv' := [(6, _), (5, _), (4, _), (3, _), (2, _), (0, _), (1, _)]) dX8_isSent_73 (by decide) rfl ?_
  refine x_aload_n (pc := 75) dX8_isSent_75 5 rfl ?_
  refine x_iload_n (pc := 76) dX8_isSent_76 4 rfl ?_
  refine x_iload_n (pc := 77) dX8_isSent_77 3 rfl ?_
  refine x_aload_n (pc := 78) dX8_isSent_78 5 rfl ?_
  refine x_iload_n (pc := 79) dX8_isSent_79 6 rfl ?_
  refine x_iconst (pc := 80) dX8_isSent_80 ?_
  refine x_callV (pc := 81) _ dX8_isSent_81 (mq_ofLoans l 1 (by omega) (by omega)) lkX8_308 rfl rfl rfl rfl (mem_dom0 (by decide) (by decide)) (by decide) (Nat.le_of_ble_eq_true rfl) rfl ?_
  refine x_iload (pc := 84) dX8_isSent_84 1 rfl ?_
  refine x_callV (pc := 86) _ dX8_isSent_86 (mq_sends (cbN N l) (N (270 + 6 * N (318 + 7 * l + 0) + 0)) (N (270 + 6 * N (318 + 7 * l + 0) + 1)) (snA N l) cbb (by rw [f2]; omega) eW eQ (by omega) sp.1 sp.2) lkX8_314 rfl rfl rfl rfl (mem_dom0 (by decide) (by decide)) (by decide) (Nat.le_of_ble_eq_true rfl) rfl ?_
  refine x_nil (m' := sr m (sn1 N l)) rfl ?_
  refine x_istore (pc := 89) (lv' := [(8, _), (6, _), (5, _), (4, _), (3, _), (2, _), (0, _), (1, _)]) dX8_isSent_89 (by decide) rfl ?_
  refine x_aload_n (pc := 91) dX8_isSent_91 6 rfl ?_
  refine x_iload_n (pc := 92) dX8_isSent_92 7 rfl ?_
  refine x_iconst (pc := 93) dX8_isSent_93 ?_
  refine x_ldc2 (pc := 94) (z := 100000000) dX8_isSent_94 kcX8_276 (by decide) ?_
  refine x_lload (pc := 97) dX8_isSent_97 1 rfl ?_
  refine x_minl (pc := 99) dX8_isSent_99 lmX8_203 (by unfold inL; omega) (by unfold inL; omega) (by decide) (Nat.le_of_ble_eq_true rfl) (by decide) (by decide) ?_
  refine x_l2i (pc := 102) dX8_isSent_102 ?_
  refine x_callV (pc := 103) _ dX8_isSent_103 (mq_setsLoan l 3 _ (by omega)) lkX8_318 rfl rfl rfl rfl (mem_dom0 (by decide) (by decide)) (by decide) (Nat.le_of_ble_eq_true rfl) rfl ?_
  refine x_nil (m' := sr m (sn2 N l)) rfl ?_
  refine x_aload_n (pc := 106) dX8_isSent_106 6 rfl ?_
  refine x_iload_n (pc := 107) dX8_isSent_107 7 rfl ?_
  refine x_iconst (pc := 108) dX8_isSent_108 ?_
  refine x_aload_n (pc := 109) dX8_isSent_109 6 rfl ?_
  refine x_iload_n (pc := 110) dX8_isSent_110 7 rfl ?_
  refine x_iconst (pc := 111) dX8_isSent_111 ?_
  refine x_callV (pc := 112) _ dX8_isSent_112 (mq_ofLoan (l) 2 (by omega)) lkX8_50 rfl rfl rfl rfl (mem_dom0 (by decide) (by decide)) (by decide) (Nat.le_of_ble_eq_true rfl) rfl ?_
  refine x_iload (pc := 115) dX8_isSent_115 2 rfl ?_
  refine x_iadd (pc := 117) dX8_isSent_117 ?_
  refine x_callV (pc := 118) _ dX8_isSent_118 (mq_setsLoan l 2 _ (by omega)) lkX8_318 rfl rfl rfl rfl (mem_dom0 (by decide) (by decide)) (by decide) (Nat.le_of_ble_eq_true rfl) rfl ?_
  refine x_nil (m' := sr m (sn3 N l)) rfl ?_
  refine x_iload (pc := 121) dX8_isSent_121 2 rfl ?_
  refine x_iload (pc := 123) dX8_isSent_123 3 rfl ?_
  refine x_icmp_ne (pc := 125) 135 dX8_isSent_125 (by decide) (by unfold inI; omega) (by unfold inI; omega) (fun c_125 => ?_) (fun c_125 => ?_)
  · exact y_vret (pc := 135) dX8_isSent_135 rfl (by unfold snN; rw [if_neg c_125])
  · refine x_aload_n (pc := 128) dX8_isSent_128 6 rfl ?_
    refine x_iload_n (pc := 129) dX8_isSent_129 7 rfl ?_
    refine x_iconst (pc := 130) dX8_isSent_130 ?_
    refine x_iconst (pc := 131) dX8_isSent_131 ?_
    refine x_callV (pc := 132) _ dX8_isSent_132 (mq_setsLoan l 5 1 (by omega)) lkX8_318 rfl rfl rfl rfl (mem_dom0 (by decide) (by decide)) (by decide) (Nat.le_of_ble_eq_true rfl) rfl ?_
    exact y_vret (pc := 135) dX8_isSent_135 rfl (by unfold snN; rw [if_pos c_125])

theorem mq_isGivenBack {G : GG} {m : Mem} {N : Int → Int} {c9 : Mem} {p s : Nat} (l : Int) (hP : BP c9 p) (hB : BS c9 p s) (hR : RP c9 p N) (hS : RS c9 p s N) (hN : SN c9 p s) (h8 : R8 c9 p s N) (h0 : 0 ≤ l) (h1 : l < c9 2 s 0) (h2 : c9 20 s l = 2) : Ct G MX8_isGivenBack (rmD 6) [rf G 41 0, .int (iI l)] (hp (sr m N)) (.inl none) (hp (sr m (gbN N l))) := by
  refine x_entry (by decide +kernel) mwX8_isGivenBack rfl (Nat.le_of_ble_eq_true rfl) ?_
  show X G MX8_isGivenBack (rmD 6) 0 [(0, rf G 41 0), (1, .int (iI l))] [] (hp (sr m N)) 0 0 (.inl none) (hp (sr m (gbN N l)))
  have n16 := hB.2.2.2.2.1.1
  have n8 := hP.2.2.1
  have n8b := hP.2.2.2.2.2.2.1
  have n12 := hP.2.2.2.2.2.1
  have t0 := hB.1
  have hb := hB.2.2.2.2.1.2 l h0 h1
  have hc := BP_c hP hb.1.1 hb.1.2
  have rc := R_cb hP hB hR hS h0 h1
  have hl := hS.2.2.2.2.2.2 l h0 h1
  have ln := LN_of hP hB hR hS h0 h1
  have k1 := hb.1
  have k2 := hb.2.1
  have k3 := hb.2.2.1
  have k4 := hb.2.2.2.1
  have k6 := hb.2.2.2.2.2.1
  have k7 := hb.2.2.2.2.2.2
  have g1 := hc.1
  have g2 := hc.2.1
  have g3 := hc.2.2.2.2.1
  have c0 : 0 ≤ cbC c9 p s l ∧ cbC c9 p s l < c9 22 p 5 := ⟨hc.2.2.2.2.2.2.1, hc.2.2.2.2.2.2.2⟩
  have hcb := hB.2.2.1 _ c0.1 c0.2
  have r4 := hS.2.2.2.1 _ c0.1 c0.2
  have r8 := h8 _ c0.1 c0.2
  have cc1 := hcb.1
  have cc2 := hcb.2.1
  have cc3 := hcb.2.2
  have rq := hS.2.1 _ g1.1 g1.2
  have rq2 := hS.2.1 _ g2.1 g2.2
  have pq := hB.2.1 _ g1.1 g1.2
  have pq1 := pq.1
  have pq3 := pq.2.2
  have pq2 := (hB.2.1 _ g2.1 g2.2).1
  have rb1 := roomC_b (BS_pf hP hB g1.1 g1.2)
  have rb2 := roomC_b (BS_pf hP hB g2.1 g2.2)
  have cp1 := (BS_pf hP hB g1.1 g1.2).2.1
  have cp2 := (BS_pf hP hB g2.1 g2.2).2.1
  have w1 : PN N (c9 28 p (c9 15 s l)) := PN_of hP hB hR hS g1.1 g1.2
  have w2 : QN N (c9 28 p (c9 15 s l)) := QN_of hP hB hR hS g1.1 g1.2
  have w3 : PN N (c9 29 p (c9 15 s l)) := PN_of hP hB hR hS g2.1 g2.2
  have w4 : QN N (c9 29 p (c9 15 s l)) := QN_of hP hB hR hS g2.1 g2.2
  have eL : N (270 + 6 * N (318 + 7 * l + 0) + 0) = c9 28 p (c9 15 s l) := by rw [rc.1, rc.2.1]
  have eB : N (270 + 6 * N (318 + 7 * l + 0) + 1) = c9 29 p (c9 15 s l) := by rw [rc.1, rc.2.2.1]
  have eG : N (270 + 6 * N (318 + 7 * l + 0) + 4) = c9 32 p (c9 15 s l) := by rw [rc.1, rc.2.2.2.1]
  have eC := rc.2.2.2.2
  have e0 := rc.1
  have e1 := hl.2.1
  have e2 := hl.2.2.1
  have e3 := hl.2.2.2.1
  have e4 := hl.2.2.2.2.1
  have e5 := hl.2.2.2.2.2.1
  have e6 := hl.2.2.2.2.2.2
  have f3 : N (86 + 6 * cbN N l + 3) = c9 7 s (cbC c9 p s l) := by rw [eC]; exact r4.2.1
  have f2 : N (86 + 6 * cbN N l + 2) = c9 6 s (cbC c9 p s l) := by rw [eC]; exact r4.1
  have f4 : N (86 + 6 * cbN N l + 4) = c9 8 s (cbC c9 p s l) := by rw [eC]; exact r8
  have hU := hR.2.2.2.2.2.2
  have iL : inI (N (270 + 6 * N (318 + 7 * l + 0) + 0)) := by rw [eL]; unfold inI; omega
  have iB : inI (N (270 + 6 * N (318 + 7 * l + 0) + 1)) := by rw [eB]; unfold inI; omega
  have W := R_sb hP hB hN hR hS h8 h0 h1 h2
  have eA := W.2.1
  have ha := sbA_b hP hB hN h0 h1
  have eo := R_owed hR hS h0 h1
  have ob := owedN_b ln
  have F := sb_facts hP hB hN h0 h1 h2
  have l4 : l < sb4 c9 p s l 2 s 0 := by rw [sb4_k (by decide) (by decide) (by decide) (by decide) (by decide) (by decide)]; exact h1
  have ln4 : LN (gb3 N l) l := LN_of F.2.2.2.1.1 F.2.2.2.1.2 W.1.1 W.1.2 h0 l4
  have ob4 := owedN_b ln4
  have v4 := W.1.2.2.2.2.2.2.2 l h0 l4
  have v6 := v4.2.2.2.2.2.2
  have v0 := v4.1
  have vb := F.2.2.2.1.2.2.2.2.2.1.2 l h0 l4
  have vb6 := vb.2.2.2.2.2.2
  have vb0 := vb.1
  have vt := W.1.2.1.1
  have vt4 := F.2.2.2.1.2.1
  have e22 : sb4 c9 p s l 22 = c9 22 := sb4_k (by decide) (by decide) (by decide) (by decide) (by decide) (by decide)
  have e15 : sb4 c9 p s l 15 = c9 15 := sb4_k (by decide) (by decide) (by decide) (by decide) (by decide) (by decide)
  have vg := (W.1.1.2.2.2.2.2.1 (gb3 N l (318 + 7 * l + 0)) (by omega) (by omega)).2.2.2.2
  have vg0 := (BP_c F.2.2.2.1.1 (c := gb3 N l (318 + 7 * l + 0)) (by omega) (by omega)).2.2.2.2.1
  rw [e22] at vb0
  have sp := sends_PN (x := sbA c9 p s l) hP hB hR hS h8 c0.1 c0.2 g2.1 g2.2 g1.1 g1.2 ha.1 ha.2.1
  rw [← eA, ← eL, ← eB, ← eC] at sp
  have fN : freeN N (cbN N l) = max 0 (c9 7 s (cbC c9 p s l) - c9 8 s (cbC c9 p s l)) := by unfold freeN; rw [f3, f4]
  have xq : N (30 + 7 * (N (270 + 6 * N (318 + 7 * l + 0) + 1)) + 1) = c9 3 s (c9 29 p (c9 15 s l)) := by rw [eB]; exact rq2.1
  have cbb : 0 ≤ cbN N l ∧ cbN N l < 12 := by rw [eC]; omega
  have eW : PN N (N (270 + 6 * N (318 + 7 * l + 0) + 1)) := by rw [eB]; exact w3
  have eQ : QN N (N (270 + 6 * N (318 + 7 * l + 0) + 1)) := by rw [eB]; exact w4
  have hd : 0 ≤ (owedN N l * 1000 + (1000 - N (86 + 6 * cbN N l + 2)) - 1) / (1000 - N (86 + 6 * cbN N l + 2)) := Int.ediv_nonneg (by omega) (by omega)
  have hd1 : (owedN N l * 1000 + (1000 - N (86 + 6 * cbN N l + 2)) - 1) / (1000 - N (86 + 6 * cbN N l + 2)) ≤ (owedN N l * 1000 + (1000 - N (86 + 6 * cbN N l + 2)) - 1) / 100 := by
    apply Int.le_ediv_of_mul_le (by decide)
    have z1 : (owedN N l * 1000 + (1000 - N (86 + 6 * cbN N l + 2)) - 1) / (1000 - N (86 + 6 * cbN N l + 2)) * 100 ≤ (owedN N l * 1000 + (1000 - N (86 + 6 * cbN N l + 2)) - 1) / (1000 - N (86 + 6 * cbN N l + 2)) * (1000 - N (86 + 6 * cbN N l + 2)) := Int.mul_le_mul_of_nonneg_left (by omega) hd
    have z2 := Int.ediv_mul_le (owedN N l * 1000 + (1000 - N (86 + 6 * cbN N l + 2)) - 1) (b := 1000 - N (86 + 6 * cbN N l + 2)) (by omega)
    omega
  refine x_aload_n (pc := 0) dX8_isGivenBack_0 0 rfl ?_
  refine x_iload_n (pc := 1) dX8_isGivenBack_1 1 rfl ?_
  refine x_callV (pc := 2) _ dX8_isGivenBack_2 (mq_owed l (by omega) ln) lkX8_254 rfl rfl rfl rfl (mem_dom0 (by decide) (by decide)) (by decide) (Nat.le_of_ble_eq_true rfl) rfl ?_
  refine x_if_le (pc := 5) 113 dX8_isGivenBack_5 (by decide) (by unfold inI; omega) (fun c_5 => ?_) (fun c_5 => ?_)
  · refine x_nil (m' := sr m (gb3 N l)) (by unfold gb3; rw [if_neg (by omega)]) ?_
    refine x_aload_n (pc := 113) dX8_isGivenBack_113 0 rfl ?_
    refine x_iload_n (pc := 114) dX8_isGivenBack_114 1 rfl ?_
    refine x_callV (pc := 115) _ dX8_isGivenBack_115 (mq_owed l (by omega) ln4) lkX8_254 rfl rfl rfl rfl (mem_dom0 (by decide) (by decide)) (by decide) (Nat.le_of_ble_eq_true rfl) rfl ?_
    refine x_if_ne (pc := 118) 131 dX8_isGivenBack_118 (by decide) (by unfold inI; omega) (fun c_118 => ?_) (fun c_118 => ?_)
    · refine x_aload_n (pc := 131) dX8_isGivenBack_131 0 rfl ?_
      refine y_getR (pc := 132) dX8_isGivenBack_132 flX8_9 rfl rfl rfl (by decide) ?_
      refine x_iconst (pc := 135) dX8_isGivenBack_135 ?_
      refine y_nald (pc := 136) dX8_isGivenBack_136 (by omega) ?_
      refine x_aload_n (pc := 137) dX8_isGivenBack_137 0 rfl ?_
      refine x_iload_n (pc := 138) dX8_isGivenBack_138 1 rfl ?_
      refine x_bipush (pc := 139) (z := 6) dX8_isGivenBack_139 (by decide) ?_
      refine x_callV (pc := 141) _ dX8_isGivenBack_141 (mq_ofLoan (l) 6 (by omega)) lkX8_50 rfl rfl rfl rfl (mem_dom0 (by decide) (by decide)) (by decide) (Nat.le_of_ble_eq_true rfl) rfl ?_
      refine x_aload_n (pc := 144) dX8_isGivenBack_144 0 rfl ?_
      refine x_iload_n (pc := 145) dX8_isGivenBack_145 1 rfl ?_
      refine x_iconst (pc := 146) dX8_isGivenBack_146 ?_
      refine x_callV (pc := 147) _ dX8_isGivenBack_147 (mq_ofLoans l 4 (by omega) (by omega)) lkX8_308 rfl rfl rfl rfl (mem_dom0 (by decide) (by decide)) (by decide) (Nat.le_of_ble_eq_true rfl) rfl ?_
      refine x_iadd (pc := 150) dX8_isGivenBack_150 ?_
      refine x_icmp_lt (pc := 151) 182 dX8_isGivenBack_151 (by decide) (by unfold inI; omega) (by unfold inI; omega) (fun c_151 => ?_) (fun c_151 => ?_)
      · exact y_vret (pc := 182) dX8_isGivenBack_182 rfl (by unfold gbN gbE; rw [if_neg (by omega), if_neg (by omega)])
      · refine x_aload_n (pc := 154) dX8_isGivenBack_154 0 rfl ?_
        refine x_iload_n (pc := 155) dX8_isGivenBack_155 1 rfl ?_
        refine x_iconst (pc := 156) dX8_isGivenBack_156 ?_
        refine x_iconst (pc := 157) dX8_isGivenBack_157 ?_
        refine x_callV (pc := 158) _ dX8_isGivenBack_158 (mq_setsLoan l 5 4 (by omega)) lkX8_318 rfl rfl rfl rfl (mem_dom0 (by decide) (by decide)) (by decide) (Nat.le_of_ble_eq_true rfl) rfl ?_
        refine x_aload_n (pc := 161) dX8_isGivenBack_161 0 rfl ?_
        refine y_getR (pc := 162) dX8_isGivenBack_162 flX8_9 rfl rfl rfl (by decide) ?_
        refine x_sipush (pc := 165) (z := 270) dX8_isGivenBack_165 (by decide) ?_
        refine x_bipush (pc := 168) (z := 6) dX8_isGivenBack_168 (by decide) ?_
        refine x_aload_n (pc := 170) dX8_isGivenBack_170 0 rfl ?_
        refine x_iload_n (pc := 171) dX8_isGivenBack_171 1 rfl ?_
        refine x_iconst (pc := 172) dX8_isGivenBack_172 ?_
        refine x_callV (pc := 173) _ dX8_isGivenBack_173 (mq_ofLoan (l) 0 (by omega)) lkX8_50 rfl rfl rfl rfl (mem_dom0 (by decide) (by decide)) (by decide) (Nat.le_of_ble_eq_true rfl) rfl ?_
        refine x_top (v' := .int (iI (gb3 N l (318 + 7 * l + 0)))) (by rw [upN_off (by omega)]) ?_
        refine x_imul (pc := 176) dX8_isGivenBack_176 ?_
        refine x_iadd (pc := 177) dX8_isGivenBack_177 ?_
        refine x_iconst (pc := 178) dX8_isGivenBack_178 ?_
        refine x_iadd (pc := 179) dX8_isGivenBack_179 ?_
        refine x_iconst (pc := 180) dX8_isGivenBack_180 ?_
        refine y_nast (pc := 181) dX8_isGivenBack_181 (by omega) ?_
        exact y_vret (pc := 182) dX8_isGivenBack_182 rfl (by unfold gbN gbE; rw [if_neg (by omega), if_pos (by omega)])
    · refine x_aload_n (pc := 121) dX8_isGivenBack_121 0 rfl ?_
      refine x_iload_n (pc := 122) dX8_isGivenBack_122 1 rfl ?_
      refine x_iconst (pc := 123) dX8_isGivenBack_123 ?_
      refine x_iconst (pc := 124) dX8_isGivenBack_124 ?_
      refine x_callV (pc := 125) _ dX8_isGivenBack_125 (mq_setsLoan l 5 3 (by omega)) lkX8_318 rfl rfl rfl rfl (mem_dom0 (by decide) (by decide)) (by decide) (Nat.le_of_ble_eq_true rfl) rfl ?_
      refine x_goto (pc := 128) 182 dX8_isGivenBack_128 (by decide) ?_
      exact y_vret (pc := 182) dX8_isGivenBack_182 rfl (by unfold gbN gbE; rw [if_pos (by omega)])
  · refine x_aload_n (pc := 8) dX8_isGivenBack_8 0 rfl ?_
    refine x_aload_n (pc := 9) dX8_isGivenBack_9 0 rfl ?_
    refine x_iload_n (pc := 10) dX8_isGivenBack_10 1 rfl ?_
    refine x_iconst (pc := 11) dX8_isGivenBack_11 ?_
    refine x_callV (pc := 12) _ dX8_isGivenBack_12 (mq_ofLoan (l) 0 (by omega)) lkX8_50 rfl rfl rfl rfl (mem_dom0 (by decide) (by decide)) (by decide) (Nat.le_of_ble_eq_true rfl) rfl ?_
    refine x_callV (pc := 15) _ dX8_isGivenBack_15 (mq_cableOf _ (by omega) iL iB hU) lkX8_295 rfl rfl rfl rfl (mem_dom0 (by decide) (by decide)) (by decide) (Nat.le_of_ble_eq_true rfl) rfl ?_
    refine x_top (v' := .int (iI (cbN N l))) rfl ?_
    refine x_istore_n (pc := 18) (lv' := [(2, _), (0, _), (1, _)]) dX8_isGivenBack_18 rfl (by decide) rfl ?_
    refine x_aload_n (pc := 19) dX8_isGivenBack_19 1 rfl ?_
    refine x_iload_n (pc := 20) dX8_isGivenBack_20 2 rfl ?_
    refine x_iconst (pc := 21) dX8_isGivenBack_21 ?_
    refine x_callV (pc := 22) _ dX8_isGivenBack_22 (mq_ofLoans l 1 (by omega) (by omega)) lkX8_308 rfl rfl rfl rfl (mem_dom0 (by decide) (by decide)) (by decide) (Nat.le_of_ble_eq_true rfl) rfl ?_
    refine x_istore_n (pc := 25) (lv' := [(3, _), (2, _), (0, _), (1, _)]) dX8_isGivenBack_25 rfl (by decide) rfl ?_
    refine x_sipush (pc := 26) (z := 1000) dX8_isGivenBack_26 (by decide) ?_
    refine x_aload_n (pc := 29) dX8_isGivenBack_29 2 rfl ?_
    refine x_iload_n (pc := 30) dX8_isGivenBack_30 1 rfl ?_
    refine x_iconst (pc := 31) dX8_isGivenBack_31 ?_
    refine x_callV (pc := 32) _ dX8_isGivenBack_32 (mq_ofCable (cbN N l) 2 (by omega)) lkX8_237 rfl rfl rfl rfl (mem_dom0 (by decide) (by decide)) (by decide) (Nat.le_of_ble_eq_true rfl) rfl ?_
    refine x_isub (pc := 35) dX8_isGivenBack_35 ?_
    refine x_istore (pc := 36) (lv' := [(4, _), (3, _), (2, _), (0, _), (1, _)]) dX8_isGivenBack_36 (by decide) rfl ?_
    refine x_aload_n (pc := 38) dX8_isGivenBack_38 3 rfl ?_
    refine x_iload_n (pc := 39) dX8_isGivenBack_39 4 rfl ?_
    refine x_callV (pc := 40) _ dX8_isGivenBack_40 (mq_owed l (by omega) ln) lkX8_254 rfl rfl rfl rfl (mem_dom0 (by decide) (by decide)) (by decide) (Nat.le_of_ble_eq_true rfl) rfl ?_
    refine x_i2l (pc := 43) dX8_isGivenBack_43 (by unfold inI; omega) ?_
    refine x_ldc2 (pc := 44) (z := 1000) dX8_isGivenBack_44 kcX8_293 (by decide) ?_
    refine x_lmul (pc := 47) dX8_isGivenBack_47 ?_
    refine x_iload (pc := 48) dX8_isGivenBack_48 0 rfl ?_
    refine x_i2l (pc := 50) dX8_isGivenBack_50 (by unfold inI; omega) ?_
    refine x_ladd (pc := 51) dX8_isGivenBack_51 ?_
    refine x_lconst (pc := 52) (z := 1) dX8_isGivenBack_52 (by decide) ?_
    refine x_lsub (pc := 53) dX8_isGivenBack_53 ?_
    refine x_iload (pc := 54) dX8_isGivenBack_54 0 rfl ?_
    refine x_i2l (pc := 56) dX8_isGivenBack_56 (by unfold inI; omega) ?_
    refine x_ldiv (pc := 57) dX8_isGivenBack_57 (by omega) (by omega) ?_
    refine x_l2i (pc := 58) dX8_isGivenBack_58 ?_
    refine x_istore (pc := 59) (lv' := [(5, _), (4, _), (3, _), (2, _), (0, _), (1, _)]) dX8_isGivenBack_59 (by decide) rfl ?_
    refine x_iload (pc := 61) dX8_isGivenBack_61 0 rfl ?_
    refine x_aload_n (pc := 63) dX8_isGivenBack_63 4 rfl ?_
    refine x_iload_n (pc := 64) dX8_isGivenBack_64 2 rfl ?_
    refine x_iconst (pc := 65) dX8_isGivenBack_65 ?_
    refine x_callV (pc := 66) _ dX8_isGivenBack_66 (mq_ofPack (N (270 + 6 * N (318 + 7 * l + 0) + 1)) 1 (by omega)) lkX8_189 rfl rfl rfl rfl (mem_dom0 (by decide) (by decide)) (by decide) (Nat.le_of_ble_eq_true rfl) rfl ?_
    refine x_aload_n (pc := 69) dX8_isGivenBack_69 4 rfl ?_
    refine x_iload_n (pc := 70) dX8_isGivenBack_70 3 rfl ?_
    refine x_callV (pc := 71) _ dX8_isGivenBack_71 (mq_free (cbN N l) cbb (by rw [f3, f4]; unfold inI; omega)) lkX8_311 rfl rfl rfl rfl (mem_dom0 (by decide) (by decide)) (by decide) (Nat.le_of_ble_eq_true rfl) rfl ?_
    refine x_min (pc := 74) dX8_isGivenBack_74 lmX8_106 (by unfold inI; omega) (by unfold inI; omega) (by decide) (Nat.le_of_ble_eq_true rfl) (by decide) (by decide) ?_
    refine x_min (pc := 77) dX8_isGivenBack_77 lmX8_106 (by unfold inI; omega) (by unfold inI; omega) (by decide) (Nat.le_of_ble_eq_true rfl) (by decide) (by decide) ?_
    refine x_top (v' := .int (iI (gbA N l))) rfl ?_
    refine x_istore (pc := 80) (lv' := [(6, _), (5, _), (4, _), (3, _), (2, _), (0, _), (1, _)]) dX8_isGivenBack_80 (by decide) rfl ?_
    refine x_aload_n (pc := 82) dX8_isGivenBack_82 5 rfl ?_
    refine x_iload_n (pc := 83) dX8_isGivenBack_83 4 rfl ?_
    refine x_iload_n (pc := 84) dX8_isGivenBack_84 3 rfl ?_
    refine x_aload_n (pc := 85) dX8_isGivenBack_85 5 rfl ?_
    refine x_iload_n (pc := 86) dX8_isGivenBack_86 6 rfl ?_
    refine x_iconst (pc := 87) dX8_isGivenBack_87 ?_
    refine x_callV (pc := 88) _ dX8_isGivenBack_88 (mq_ofLoans l 0 (by omega) (by omega)) lkX8_308 rfl rfl rfl rfl (mem_dom0 (by decide) (by decide)) (by decide) (Nat.le_of_ble_eq_true rfl) rfl ?_
    refine x_iload (pc := 91) dX8_isGivenBack_91 0 rfl ?_
    refine x_callV (pc := 93) _ dX8_isGivenBack_93 (mq_sends (cbN N l) (N (270 + 6 * N (318 + 7 * l + 0) + 1)) (N (270 + 6 * N (318 + 7 * l + 0) + 0)) (gbA N l) cbb (by rw [f2]; omega) eW eQ (by omega) sp.1 sp.2) lkX8_314 rfl rfl rfl rfl (mem_dom0 (by decide) (by decide)) (by decide) (Nat.le_of_ble_eq_true rfl) rfl ?_
    refine x_nil (m' := sr m (gb1 N l)) rfl ?_
    refine x_top (v' := .int (iI (gbR N l))) rfl ?_
    refine x_istore (pc := 96) (lv' := [(7, _), (6, _), (5, _), (4, _), (3, _), (2, _), (0, _), (1, _)]) dX8_isGivenBack_96 (by decide) rfl ?_
    refine x_aload_n (pc := 98) dX8_isGivenBack_98 6 rfl ?_
    refine x_iload_n (pc := 99) dX8_isGivenBack_99 7 rfl ?_
    refine x_iconst (pc := 100) dX8_isGivenBack_100 ?_
    refine x_aload_n (pc := 101) dX8_isGivenBack_101 6 rfl ?_
    refine x_iload_n (pc := 102) dX8_isGivenBack_102 7 rfl ?_
    refine x_iconst (pc := 103) dX8_isGivenBack_103 ?_
    refine x_callV (pc := 104) _ dX8_isGivenBack_104 (mq_ofLoan (l) 4 (by omega)) lkX8_50 rfl rfl rfl rfl (mem_dom0 (by decide) (by decide)) (by decide) (Nat.le_of_ble_eq_true rfl) rfl ?_
    refine x_iload (pc := 107) dX8_isGivenBack_107 0 rfl ?_
    refine x_iadd (pc := 109) dX8_isGivenBack_109 ?_
    refine x_callV (pc := 110) _ dX8_isGivenBack_110 (mq_setsLoan l 4 _ (by omega)) lkX8_318 rfl rfl rfl rfl (mem_dom0 (by decide) (by decide)) (by decide) (Nat.le_of_ble_eq_true rfl) rfl ?_
    refine x_nil (m' := sr m (gb2 N l)) rfl ?_
    refine x_nil (m' := sr m (gb3 N l)) (by unfold gb3; rw [if_pos (by omega)]) ?_
    refine x_aload_n (pc := 113) dX8_isGivenBack_113 6 rfl ?_
    refine x_iload_n (pc := 114) dX8_isGivenBack_114 7 rfl ?_
    refine x_callV (pc := 115) _ dX8_isGivenBack_115 (mq_owed l (by omega) ln4) lkX8_254 rfl rfl rfl rfl (mem_dom0 (by decide) (by decide)) (by decide) (Nat.le_of_ble_eq_true rfl) rfl ?_
    refine x_if_ne (pc := 118) 131 dX8_isGivenBack_118 (by decide) (by unfold inI; omega) (fun c_118 => ?_) (fun c_118 => ?_)
    · refine x_aload_n (pc := 131) dX8_isGivenBack_131 6 rfl ?_
      refine y_getR (pc := 132) dX8_isGivenBack_132 flX8_9 rfl rfl rfl (by decide) ?_
      refine x_iconst (pc := 135) dX8_isGivenBack_135 ?_
      refine y_nald (pc := 136) dX8_isGivenBack_136 (by omega) ?_
      refine x_aload_n (pc := 137) dX8_isGivenBack_137 6 rfl ?_
      refine x_iload_n (pc := 138) dX8_isGivenBack_138 7 rfl ?_
      refine x_bipush (pc := 139) (z := 6) dX8_isGivenBack_139 (by decide) ?_
      refine x_callV (pc := 141) _ dX8_isGivenBack_141 (mq_ofLoan (l) 6 (by omega)) lkX8_50 rfl rfl rfl rfl (mem_dom0 (by decide) (by decide)) (by decide) (Nat.le_of_ble_eq_true rfl) rfl ?_
      refine x_aload_n (pc := 144) dX8_isGivenBack_144 6 rfl ?_
      refine x_iload_n (pc := 145) dX8_isGivenBack_145 7 rfl ?_
      refine x_iconst (pc := 146) dX8_isGivenBack_146 ?_
      refine x_callV (pc := 147) _ dX8_isGivenBack_147 (mq_ofLoans l 4 (by omega) (by omega)) lkX8_308 rfl rfl rfl rfl (mem_dom0 (by decide) (by decide)) (by decide) (Nat.le_of_ble_eq_true rfl) rfl ?_
      refine x_iadd (pc := 150) dX8_isGivenBack_150 ?_
      refine x_icmp_lt (pc := 151) 182 dX8_isGivenBack_151 (by decide) (by unfold inI; omega) (by unfold inI; omega) (fun c_151 => ?_) (fun c_151 => ?_)
      · exact y_vret (pc := 182) dX8_isGivenBack_182 rfl (by unfold gbN gbE; rw [if_neg (by omega), if_neg (by omega)])
      · refine x_aload_n (pc := 154) dX8_isGivenBack_154 6 rfl ?_
        refine x_iload_n (pc := 155) dX8_isGivenBack_155 7 rfl ?_
        refine x_iconst (pc := 156) dX8_isGivenBack_156 ?_
        refine x_iconst (pc := 157) dX8_isGivenBack_157 ?_
        refine x_callV (pc := 158) _ dX8_isGivenBack_158 (mq_setsLoan l 5 4 (by omega)) lkX8_318 rfl rfl rfl rfl (mem_dom0 (by decide) (by decide)) (by decide) (Nat.le_of_ble_eq_true rfl) rfl ?_
        refine x_aload_n (pc := 161) dX8_isGivenBack_161 6 rfl ?_
        refine y_getR (pc := 162) dX8_isGivenBack_162 flX8_9 rfl rfl rfl (by decide) ?_
        refine x_sipush (pc := 165) (z := 270) dX8_isGivenBack_165 (by decide) ?_
        refine x_bipush (pc := 168) (z := 6) dX8_isGivenBack_168 (by decide) ?_
        refine x_aload_n (pc := 170) dX8_isGivenBack_170 6 rfl ?_
        refine x_iload_n (pc := 171) dX8_isGivenBack_171 7 rfl ?_
        refine x_iconst (pc := 172) dX8_isGivenBack_172 ?_
        refine x_callV (pc := 173) _ dX8_isGivenBack_173 (mq_ofLoan (l) 0 (by omega)) lkX8_50 rfl rfl rfl rfl (mem_dom0 (by decide) (by decide)) (by decide) (Nat.le_of_ble_eq_true rfl) rfl ?_
        refine x_top (v' := .int (iI (gb3 N l (318 + 7 * l + 0)))) (by rw [upN_off (by omega)]) ?_
        refine x_imul (pc := 176) dX8_isGivenBack_176 ?_
        refine x_iadd (pc := 177) dX8_isGivenBack_177 ?_
        refine x_iconst (pc := 178) dX8_isGivenBack_178 ?_
        refine x_iadd (pc := 179) dX8_isGivenBack_179 ?_
        refine x_iconst (pc := 180) dX8_isGivenBack_180 ?_
        refine y_nast (pc := 181) dX8_isGivenBack_181 (by omega) ?_
        exact y_vret (pc := 182) dX8_isGivenBack_182 rfl (by unfold gbN gbE; rw [if_neg (by omega), if_pos (by omega)])
    · refine x_aload_n (pc := 121) dX8_isGivenBack_121 6 rfl ?_
      refine x_iload_n (pc := 122) dX8_isGivenBack_122 7 rfl ?_
      refine x_iconst (pc := 123) dX8_isGivenBack_123 ?_
      refine x_iconst (pc := 124) dX8_isGivenBack_124 ?_
      refine x_callV (pc := 125) _ dX8_isGivenBack_125 (mq_setsLoan l 5 3 (by omega)) lkX8_318 rfl rfl rfl rfl (mem_dom0 (by decide) (by decide)) (by decide) (Nat.le_of_ble_eq_true rfl) rfl ?_
      refine x_goto (pc := 128) 182 dX8_isGivenBack_128 (by decide) ?_
      exact y_vret (pc := 182) dX8_isGivenBack_182 rfl (by unfold gbN gbE; rw [if_pos (by omega)])

theorem mq_goesOn {G : GG} {m : Mem} {N : Int → Int} {c9 : Mem} {p s : Nat} (l : Int) (hP : BP c9 p) (hB : BS c9 p s) (hR : RP c9 p N) (hS : RS c9 p s N) (hN : SN c9 p s) (h8 : R8 c9 p s N) (h0 : 0 ≤ l) (h1 : l < c9 2 s 0) : Ct G MX8_goesOn (rmD 7) [rf G 41 0, .int (iI l)] (hp (sr m N)) (.inl none) (hp (sr m (lnN N l))) := by
  refine x_entry (by decide +kernel) mwX8_goesOn rfl (Nat.le_of_ble_eq_true rfl) ?_
  show X G MX8_goesOn (rmD 7) 0 [(0, rf G 41 0), (1, .int (iI l))] [] (hp (sr m N)) 0 0 (.inl none) (hp (sr m (lnN N l)))
  have n16 := hB.2.2.2.2.1.1
  have n8 := hP.2.2.1
  have n8b := hP.2.2.2.2.2.2.1
  have n12 := hP.2.2.2.2.2.1
  have t0 := hB.1
  have hb := hB.2.2.2.2.1.2 l h0 h1
  have hc := BP_c hP hb.1.1 hb.1.2
  have rc := R_cb hP hB hR hS h0 h1
  have hl := hS.2.2.2.2.2.2 l h0 h1
  have ln := LN_of hP hB hR hS h0 h1
  have k1 := hb.1
  have k2 := hb.2.1
  have k3 := hb.2.2.1
  have k4 := hb.2.2.2.1
  have k6 := hb.2.2.2.2.2.1
  have k7 := hb.2.2.2.2.2.2
  have g1 := hc.1
  have g2 := hc.2.1
  have g3 := hc.2.2.2.2.1
  have c0 : 0 ≤ cbC c9 p s l ∧ cbC c9 p s l < c9 22 p 5 := ⟨hc.2.2.2.2.2.2.1, hc.2.2.2.2.2.2.2⟩
  have hcb := hB.2.2.1 _ c0.1 c0.2
  have r4 := hS.2.2.2.1 _ c0.1 c0.2
  have r8 := h8 _ c0.1 c0.2
  have cc1 := hcb.1
  have cc2 := hcb.2.1
  have cc3 := hcb.2.2
  have rq := hS.2.1 _ g1.1 g1.2
  have rq2 := hS.2.1 _ g2.1 g2.2
  have pq := hB.2.1 _ g1.1 g1.2
  have pq1 := pq.1
  have pq3 := pq.2.2
  have pq2 := (hB.2.1 _ g2.1 g2.2).1
  have rb1 := roomC_b (BS_pf hP hB g1.1 g1.2)
  have rb2 := roomC_b (BS_pf hP hB g2.1 g2.2)
  have cp1 := (BS_pf hP hB g1.1 g1.2).2.1
  have cp2 := (BS_pf hP hB g2.1 g2.2).2.1
  have w1 : PN N (c9 28 p (c9 15 s l)) := PN_of hP hB hR hS g1.1 g1.2
  have w2 : QN N (c9 28 p (c9 15 s l)) := QN_of hP hB hR hS g1.1 g1.2
  have w3 : PN N (c9 29 p (c9 15 s l)) := PN_of hP hB hR hS g2.1 g2.2
  have w4 : QN N (c9 29 p (c9 15 s l)) := QN_of hP hB hR hS g2.1 g2.2
  have eL : N (270 + 6 * N (318 + 7 * l + 0) + 0) = c9 28 p (c9 15 s l) := by rw [rc.1, rc.2.1]
  have eB : N (270 + 6 * N (318 + 7 * l + 0) + 1) = c9 29 p (c9 15 s l) := by rw [rc.1, rc.2.2.1]
  have eG : N (270 + 6 * N (318 + 7 * l + 0) + 4) = c9 32 p (c9 15 s l) := by rw [rc.1, rc.2.2.2.1]
  have eC := rc.2.2.2.2
  have e0 := rc.1
  have e1 := hl.2.1
  have e2 := hl.2.2.1
  have e3 := hl.2.2.2.1
  have e4 := hl.2.2.2.2.1
  have e5 := hl.2.2.2.2.2.1
  have e6 := hl.2.2.2.2.2.2
  have f3 : N (86 + 6 * cbN N l + 3) = c9 7 s (cbC c9 p s l) := by rw [eC]; exact r4.2.1
  have f2 : N (86 + 6 * cbN N l + 2) = c9 6 s (cbC c9 p s l) := by rw [eC]; exact r4.1
  have f4 : N (86 + 6 * cbN N l + 4) = c9 8 s (cbC c9 p s l) := by rw [eC]; exact r8
  have hU := hR.2.2.2.2.2.2
  have iL : inI (N (270 + 6 * N (318 + 7 * l + 0) + 0)) := by rw [eL]; unfold inI; omega
  have iB : inI (N (270 + 6 * N (318 + 7 * l + 0) + 1)) := by rw [eB]; unfold inI; omega
  have a := lnA_f hP hB hN h0 h1
  have h1' : l < lnA c9 s l 2 s 0 := by rw [lnA_k (by decide)]; exact h1
  have r := R_lnA hP hB hR hS h8 h0 h1
  have hl9 := (r.2.1.2.2.2.2.2.2 l h0 h1').2.2.2.2.2.1
  have b5 := (a.2.1.2.2.2.2.1.2 l h0 h1').2.2.2.2.2.1
  have et := hS.1.1
  refine x_aload_n (pc := 0) dX8_goesOn_0 0 rfl ?_
  refine x_iload_n (pc := 1) dX8_goesOn_1 1 rfl ?_
  refine x_iconst (pc := 2) dX8_goesOn_2 ?_
  refine x_callV (pc := 3) _ dX8_goesOn_3 (mq_ofLoan (l) 5 (by omega)) lkX8_50 rfl rfl rfl rfl (mem_dom0 (by decide) (by decide)) (by decide) (Nat.le_of_ble_eq_true rfl) rfl ?_
  refine x_iconst (pc := 6) dX8_goesOn_6 ?_
  refine x_icmp_ge (pc := 7) 33 dX8_goesOn_7 (by decide) (by unfold inI; omega) (by unfold inI; omega) (fun c_7 => ?_) (fun c_7 => ?_)
  · refine x_nil (m' := sr m (lnA' N l)) (by unfold lnA'; rw [if_neg (by omega)]) ?_
    refine x_aload_n (pc := 33) dX8_goesOn_33 0 rfl ?_
    refine x_iload_n (pc := 34) dX8_goesOn_34 1 rfl ?_
    refine x_iconst (pc := 35) dX8_goesOn_35 ?_
    refine x_callV (pc := 36) _ dX8_goesOn_36 (mq_ofLoan (l) 5 (by omega)) lkX8_50 rfl rfl rfl rfl (mem_dom0 (by decide) (by decide)) (by decide) (Nat.le_of_ble_eq_true rfl) rfl ?_
    refine x_if_ne (pc := 39) 50 dX8_goesOn_39 (by decide) (by unfold inI; omega) (fun c_39 => ?_) (fun c_39 => ?_)
    · refine x_aload_n (pc := 50) dX8_goesOn_50 0 rfl ?_
      refine x_iload_n (pc := 51) dX8_goesOn_51 1 rfl ?_
      refine x_iconst (pc := 52) dX8_goesOn_52 ?_
      refine x_callV (pc := 53) _ dX8_goesOn_53 (mq_ofLoan (l) 5 (by omega)) lkX8_50 rfl rfl rfl rfl (mem_dom0 (by decide) (by decide)) (by decide) (Nat.le_of_ble_eq_true rfl) rfl ?_
      refine x_iconst (pc := 56) dX8_goesOn_56 ?_
      refine x_icmp_ne (pc := 57) 65 dX8_goesOn_57 (by decide) (by unfold inI; omega) (by unfold inI; omega) (fun c_57 => ?_) (fun c_57 => ?_)
      · exact y_vret (pc := 65) dX8_goesOn_65 rfl (by unfold lnN; rw [if_neg (by omega), if_neg (by omega)])
      · refine x_aload_n (pc := 60) dX8_goesOn_60 0 rfl ?_
        refine x_iload_n (pc := 61) dX8_goesOn_61 1 rfl ?_
        refine x_callV (pc := 62) _ dX8_goesOn_62 (mq_isGivenBack l a.1 a.2.1 r.1 r.2.1 a.2.2 r.2.2 h0 h1' (by omega)) lkX8_324 rfl rfl rfl rfl (mem_dom0 (by decide) (by decide)) (by decide) (Nat.le_of_ble_eq_true rfl) rfl ?_
        exact y_vret (pc := 65) dX8_goesOn_65 rfl (by unfold lnN; rw [if_neg (by omega), if_pos (by omega)])
    · refine x_aload_n (pc := 42) dX8_goesOn_42 0 rfl ?_
      refine x_iload_n (pc := 43) dX8_goesOn_43 1 rfl ?_
      refine x_callV (pc := 44) _ dX8_goesOn_44 (mq_isSent l a.1 a.2.1 r.1 r.2.1 a.2.2 r.2.2 h0 h1') lkX8_321 rfl rfl rfl rfl (mem_dom0 (by decide) (by decide)) (by decide) (Nat.le_of_ble_eq_true rfl) rfl ?_
      refine x_goto (pc := 47) 65 dX8_goesOn_47 (by decide) ?_
      exact y_vret (pc := 65) dX8_goesOn_65 rfl (by unfold lnN; rw [if_pos (by omega)])
  · refine x_aload_n (pc := 10) dX8_goesOn_10 0 rfl ?_
    refine y_getR (pc := 11) dX8_goesOn_11 flX8_9 rfl rfl rfl (by decide) ?_
    refine x_iconst (pc := 14) dX8_goesOn_14 ?_
    refine y_nald (pc := 15) dX8_goesOn_15 (by omega) ?_
    refine x_aload_n (pc := 16) dX8_goesOn_16 0 rfl ?_
    refine x_iload_n (pc := 17) dX8_goesOn_17 1 rfl ?_
    refine x_bipush (pc := 18) (z := 6) dX8_goesOn_18 (by decide) ?_
    refine x_callV (pc := 20) _ dX8_goesOn_20 (mq_ofLoan (l) 6 (by omega)) lkX8_50 rfl rfl rfl rfl (mem_dom0 (by decide) (by decide)) (by decide) (Nat.le_of_ble_eq_true rfl) rfl ?_
    refine x_icmp_lt (pc := 23) 33 dX8_goesOn_23 (by decide) (by unfold inI; omega) (by unfold inI; omega) (fun c_23 => ?_) (fun c_23 => ?_)
    · refine x_nil (m' := sr m (lnA' N l)) (by unfold lnA'; rw [if_neg (by omega)]) ?_
      refine x_aload_n (pc := 33) dX8_goesOn_33 0 rfl ?_
      refine x_iload_n (pc := 34) dX8_goesOn_34 1 rfl ?_
      refine x_iconst (pc := 35) dX8_goesOn_35 ?_
      refine x_callV (pc := 36) _ dX8_goesOn_36 (mq_ofLoan (l) 5 (by omega)) lkX8_50 rfl rfl rfl rfl (mem_dom0 (by decide) (by decide)) (by decide) (Nat.le_of_ble_eq_true rfl) rfl ?_
      refine x_if_ne (pc := 39) 50 dX8_goesOn_39 (by decide) (by unfold inI; omega) (fun c_39 => ?_) (fun c_39 => ?_)
      · refine x_aload_n (pc := 50) dX8_goesOn_50 0 rfl ?_
        refine x_iload_n (pc := 51) dX8_goesOn_51 1 rfl ?_
        refine x_iconst (pc := 52) dX8_goesOn_52 ?_
        refine x_callV (pc := 53) _ dX8_goesOn_53 (mq_ofLoan (l) 5 (by omega)) lkX8_50 rfl rfl rfl rfl (mem_dom0 (by decide) (by decide)) (by decide) (Nat.le_of_ble_eq_true rfl) rfl ?_
        refine x_iconst (pc := 56) dX8_goesOn_56 ?_
        refine x_icmp_ne (pc := 57) 65 dX8_goesOn_57 (by decide) (by unfold inI; omega) (by unfold inI; omega) (fun c_57 => ?_) (fun c_57 => ?_)
        · exact y_vret (pc := 65) dX8_goesOn_65 rfl (by unfold lnN; rw [if_neg (by omega), if_neg (by omega)])
        · refine x_aload_n (pc := 60) dX8_goesOn_60 0 rfl ?_
          refine x_iload_n (pc := 61) dX8_goesOn_61 1 rfl ?_
          refine x_callV (pc := 62) _ dX8_goesOn_62 (mq_isGivenBack l a.1 a.2.1 r.1 r.2.1 a.2.2 r.2.2 h0 h1' (by omega)) lkX8_324 rfl rfl rfl rfl (mem_dom0 (by decide) (by decide)) (by decide) (Nat.le_of_ble_eq_true rfl) rfl ?_
          exact y_vret (pc := 65) dX8_goesOn_65 rfl (by unfold lnN; rw [if_neg (by omega), if_pos (by omega)])
      · refine x_aload_n (pc := 42) dX8_goesOn_42 0 rfl ?_
        refine x_iload_n (pc := 43) dX8_goesOn_43 1 rfl ?_
        refine x_callV (pc := 44) _ dX8_goesOn_44 (mq_isSent l a.1 a.2.1 r.1 r.2.1 a.2.2 r.2.2 h0 h1') lkX8_321 rfl rfl rfl rfl (mem_dom0 (by decide) (by decide)) (by decide) (Nat.le_of_ble_eq_true rfl) rfl ?_
        refine x_goto (pc := 47) 65 dX8_goesOn_47 (by decide) ?_
        exact y_vret (pc := 65) dX8_goesOn_65 rfl (by unfold lnN; rw [if_pos (by omega)])
    · refine x_aload_n (pc := 26) dX8_goesOn_26 0 rfl ?_
      refine x_iload_n (pc := 27) dX8_goesOn_27 1 rfl ?_
      refine x_iconst (pc := 28) dX8_goesOn_28 ?_
      refine x_iconst (pc := 29) dX8_goesOn_29 ?_
      refine x_callV (pc := 30) _ dX8_goesOn_30 (mq_setsLoan l 5 2 (by omega)) lkX8_318 rfl rfl rfl rfl (mem_dom0 (by decide) (by decide)) (by decide) (Nat.le_of_ble_eq_true rfl) rfl ?_
      refine x_nil (m' := sr m (lnA' N l)) (by unfold lnA'; rw [if_pos (by omega)]) ?_
      refine x_aload_n (pc := 33) dX8_goesOn_33 0 rfl ?_
      refine x_iload_n (pc := 34) dX8_goesOn_34 1 rfl ?_
      refine x_iconst (pc := 35) dX8_goesOn_35 ?_
      refine x_callV (pc := 36) _ dX8_goesOn_36 (mq_ofLoan (l) 5 (by omega)) lkX8_50 rfl rfl rfl rfl (mem_dom0 (by decide) (by decide)) (by decide) (Nat.le_of_ble_eq_true rfl) rfl ?_
      refine x_if_ne (pc := 39) 50 dX8_goesOn_39 (by decide) (by unfold inI; omega) (fun c_39 => ?_) (fun c_39 => ?_)
      · refine x_aload_n (pc := 50) dX8_goesOn_50 0 rfl ?_
        refine x_iload_n (pc := 51) dX8_goesOn_51 1 rfl ?_
        refine x_iconst (pc := 52) dX8_goesOn_52 ?_
        refine x_callV (pc := 53) _ dX8_goesOn_53 (mq_ofLoan (l) 5 (by omega)) lkX8_50 rfl rfl rfl rfl (mem_dom0 (by decide) (by decide)) (by decide) (Nat.le_of_ble_eq_true rfl) rfl ?_
        refine x_iconst (pc := 56) dX8_goesOn_56 ?_
        refine x_icmp_ne (pc := 57) 65 dX8_goesOn_57 (by decide) (by unfold inI; omega) (by unfold inI; omega) (fun c_57 => ?_) (fun c_57 => ?_)
        · exact y_vret (pc := 65) dX8_goesOn_65 rfl (by unfold lnN; rw [if_neg (by omega), if_neg (by omega)])
        · refine x_aload_n (pc := 60) dX8_goesOn_60 0 rfl ?_
          refine x_iload_n (pc := 61) dX8_goesOn_61 1 rfl ?_
          refine x_callV (pc := 62) _ dX8_goesOn_62 (mq_isGivenBack l a.1 a.2.1 r.1 r.2.1 a.2.2 r.2.2 h0 h1' (by omega)) lkX8_324 rfl rfl rfl rfl (mem_dom0 (by decide) (by decide)) (by decide) (Nat.le_of_ble_eq_true rfl) rfl ?_
          exact y_vret (pc := 65) dX8_goesOn_65 rfl (by unfold lnN; rw [if_neg (by omega), if_pos (by omega)])
      · refine x_aload_n (pc := 42) dX8_goesOn_42 0 rfl ?_
        refine x_iload_n (pc := 43) dX8_goesOn_43 1 rfl ?_
        refine x_callV (pc := 44) _ dX8_goesOn_44 (mq_isSent l a.1 a.2.1 r.1 r.2.1 a.2.2 r.2.2 h0 h1') lkX8_321 rfl rfl rfl rfl (mem_dom0 (by decide) (by decide)) (by decide) (Nat.le_of_ble_eq_true rfl) rfl ?_
        refine x_goto (pc := 47) 65 dX8_goesOn_47 (by decide) ?_
        exact y_vret (pc := 65) dX8_goesOn_65 rfl (by unfold lnN; rw [if_pos (by omega)])
