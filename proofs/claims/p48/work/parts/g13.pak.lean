/-! drawn: packs -/
theorem DW.nwp {G : GG} {h H : Hp} {a : Nat} {N : Int → Int} {B : Bok} {S T : Nat → Prop} {b v0 : Nat} {L : List Int} {c1 b1 e : Nat} {cap ch cv : Int} (D : DW G h H a (pkN N cap ch cv) (adB B 3 c1 b1 (nj N 3).toNat e) S T b v0 L) (h0 : 0 ≤ N 3) : (52, e) ∈ H.1 ∧ H.2.1 52 e 2 = ch := by
  have q : pkN N cap ch cv 3 = N 3 + 1 := by unfold pkN; rw [upN_off (by omega)]; exact adN_c (j := 3)
  have hq : (((nj N 3).toNat : Nat) : Int) < nj (pkN N cap ch cv) 3 := by show (((N 3).toNat : Nat) : Int) < pkN N cap ch cv 3; omega
  have m := D.1.mE 3 hq
  rw [bE_ad] at m
  refine ⟨m, ?_⟩
  have w := D.1.e 3 hq 2
  rw [bE_ad] at w
  refine w.trans ?_
  have e9 : ix 3 (nj N 3).toNat 2 = 30 + 7 * N 3 + 1 := by show (30 : Int) + 7 * (((N 3).toNat : Nat) : Int) + 1 = _; omega
  have e8 := pkN_v (cap := cap) (ch := ch) (cv := cv) h0 (o := 1) (by decide) (by decide)
  rw [← e9] at e8
  exact e8
theorem lt_le {t : Nat} (ht : t = 9 ∨ t = 10) : (lit t).length ≤ 8 := by
  rcases ht with rfl | rfl
  · rw [lit_l9]; decide
  · rw [lit_l10]; decide
theorem RC.pk {N : Int → Int} {cc : Int} {k : Nat} {cap ch cv : Int} (h : RC N cc 0 0 (k : Int) 0 0) (hk : k < 8) (hm : ∀ i, i < 7 → 0 ≤ nj N i ∧ nj N i ≤ mxj i) : RC (pkN N cap ch cv) cc 0 0 ((k + 1 : Nat) : Int) 0 0 := by
  have q := h.n3 (v := v5 cap ch 0 cv 0) (d := ((k + 1 : Nat) : Int)) (by show N 3 + 1 ≤ 8; rw [h.1.2.2.2.1]; omega) hm rfl
  exact q.up10 (Int.le_refl 0)

set_option maxRecDepth 20000 in
theorem dr_400 {G : GG} {h : Hp} {a b v0 : Nat} (hL : gV G 21 ≤ 300) (m58 : (58, b) ∈ h.1) {v : Int} (hv : 0 ≤ v ∧ v < 2147483648) {cc pq : Int} (hpq : 0 ≤ pq ∧ pq ≤ 4) {H : Hp} {N : Int → Int} {B : Bok} {S T : Nat → Prop} {L : List Int} {c0 s0 : Nat} (D : DW G h H a N B S T b v0 L) (hP : PR L N) (hb : BY L) (hR : RC N cc 0 0 pq 0 0) (hl : L.length ≤ 139) (hcs : c0 ≤ 114) (hss : s0 ≤ 62400) : YY G ML_drawn (rmL 12 300 200000) 400 [(0, .ref (gV G 20)), (1, .int (iI 0)), (2, rf G 58 b), (3, rf G 51 a), (4, .int (iI v)), (5, .int (iI pq))] [] H c0 s0 (fun v h1 => ∃ L N B S T, v = some (rf G 51 a) ∧ DW G h h1 a N B S T b v0 L ∧ PR L N ∧ L.length ≤ 420 ∧ BY L ∧ UC N ∧ N 9 = 0 ∧ N 2 = 0) := by
  refine o_iconst (pc := 400) dL_drawn_400 ?_
  refine o_istore (pc := 401) (lv' := [(6, _), (0, _), (1, _), (2, _), (3, _), (4, _), (5, _)]) dL_drawn_401 (by decide) rfl ?_
  have e9 : (((pq - 1).toNat : Nat) : Int) = pq - 1 ∨ (pq - 1).toNat = 0 ∧ pq = 0 := by omega
  have e8 : (pq - 1).toNat ≤ 3 := by omega
  exact o_lv [1, 2, 3, 4, 5, 6, 0] rfl (lp_cab hL m58 hv hpq (pq - 1).toNat (k := 1) D hP hb hR (by omega) (by omega) (by omega) (by omega))
theorem ckp {c C t T : Nat} (h : c ≤ C) (e : C + t ≤ T) : c + t ≤ T := by omega
set_option maxRecDepth 20000 in
theorem pk_355 {G : GG} {h : Hp} {a b v0 : Nat} (hL : gV G 21 ≤ 300) (m58 : (58, b) ∈ h.1) {v : Int} (hv : 0 ≤ v ∧ v < 2147483648) {cc pq cap ch cv x : Int} {H : Hp} {N : Int → Int} {B : Bok} {S T : Nat → Prop} {L : List Int} {k c0 s0 : Nat} {c1 b1 e t : Nat} (ht : t = 9 ∨ t = 10) (hpq : 0 ≤ pq ∧ pq ≤ 4) (hcap : 2 ≤ cap ∧ cap < 1000) (hch : 0 ≤ ch ∧ ch ≤ cap) (hcv : cv = -1 ∨ 0 ≤ cv ∧ cv < N 4) (n4b : N 4 ≤ 4) (n38 : N 3 < 8) (n0 : 0 ≤ N 3) (hP : PR L N) (hb : BY L) (hl : L.length ≤ 120) (D0 : DW G h H a (pkN N cap ch cv) (adB B 3 c1 b1 (nj N 3).toNat e) S T b v0 L) (hR : RC (pkN N cap ch cv) cc 0 0 ((k + 1 : Nat) : Int) 0 0) (hcs : c0 ≤ 140) (hss : s0 ≤ 70000) (kk : ∀ (H1 : Hp) (N1 : Int → Int) (B1 : Bok) (S1 T1 : Nat → Prop) (L1 : List Int) (c1 s1 : Nat), DW G h H1 a N1 B1 S1 T1 b v0 L1 → PR L1 N1 → BY L1 → RC N1 cc 0 0 ((k + 1 : Nat) : Int) 0 0 → L1.length ≤ L.length + 19 → c1 ≤ c0 + 6 → s1 ≤ s0 + 7800 → YY G ML_drawn (rmL 12 300 200000) 394 [(0, .ref (gV G 20)), (1, .int (iI 0)), (2, rf G 58 b), (3, rf G 51 a), (4, .int (iI v)), (5, .int (iI pq)), (6, .int (iI (k : Int)))] [] H1 c1 s1 (fun v h1 => ∃ L N B S T, v = some (rf G 51 a) ∧ DW G h h1 a N B S T b v0 L ∧ PR L N ∧ L.length ≤ 420 ∧ BY L ∧ UC N ∧ N 9 = 0 ∧ N 2 = 0)) : YY G ML_drawn (rmL 12 300 200000) 355 [(0, .ref (gV G 20)), (1, .int (iI 0)), (2, rf G 58 b), (3, rf G 51 a), (4, .int (iI v)), (5, .int (iI pq)), (6, .int (iI (k : Int))), (7, .int (iI x)), (8, .int (iI cap)), (9, .int (iI cv)), (10, rf G 52 e)] [.ref (gK G t), rf G 58 b] H c0 s0 (fun v h1 => ∃ L N B S T, v = some (rf G 51 a) ∧ DW G h h1 a N B S T b v0 L ∧ PR L N ∧ L.length ≤ 420 ∧ BY L ∧ UC N ∧ N 9 = 0 ∧ N 2 = 0) := by
  have qcap : 0 ≤ cap ∧ cap < 1000 := by omega
  have qch : 0 ≤ ch ∧ ch < 1000 := by omega
  have z0 := hl
  refine o_uq (fun u0 => ?_)
  obtain ⟨y0, q0, B0, hv0⟩ := D0.2.2.1
  refine o_callV (pc := 355) _ dL_drawn_355 (cb_addS (t := t) B0 D0.n (Nat.le_trans z0 (Nat.le_of_ble_eq_true rfl)) (by omega)) lkL_45 rfl rfl rfl rfl B0.1 ⟨⟨(Nat.le_of_ble_eq_true rfl), (Nat.le_of_ble_eq_true rfl)⟩, (by (try simp only [rmL, List.length_cons, List.length_nil, Nat.add_assoc, Nat.reduceAdd, Nat.add_zero]); first | exact ckp hcs (Nat.le_of_ble_eq_true rfl) | exact ckp hss (Nat.le_of_ble_eq_true rfl) | exact Nat.le_trans hcs (Nat.le_of_ble_eq_true rfl) | exact Nat.le_trans hss (Nat.le_of_ble_eq_true rfl)), (by (try simp only [rmL, List.length_cons, List.length_nil, Nat.add_assoc, Nat.reduceAdd, Nat.add_zero]); first | exact ckp hcs (Nat.le_of_ble_eq_true rfl) | exact ckp hss (Nat.le_of_ble_eq_true rfl) | exact Nat.le_trans hcs (Nat.le_of_ble_eq_true rfl) | exact Nat.le_trans hss (Nat.le_of_ble_eq_true rfl))⟩ (Nat.le_of_ble_eq_true rfl) rfl (fun v H1 hq => ?_)
  obtain ⟨rfl, y1, q1, B1, G1, w1⟩ := hq
  refine o_uq (fun u1 => ?_)
  obtain ⟨D1, hv1⟩ := D0.app u0 B0 hv0 B1 G1 w1
  have z1 := lz (m' := 128) z0 (lt_le ht) rfl
  refine o_iload (pc := 358) dL_drawn_358 8 rfl ?_
  refine o_callV (pc := 360) _ dL_drawn_360 (cb_addI B1 D1.n (Nat.le_trans z1 (Nat.le_of_ble_eq_true rfl)) (n := cap) qcap.1 qcap.2) lkL_50 rfl rfl rfl rfl B1.1 ⟨⟨(Nat.le_of_ble_eq_true rfl), (Nat.le_of_ble_eq_true rfl)⟩, (by (try simp only [rmL, List.length_cons, List.length_nil, Nat.add_assoc, Nat.reduceAdd, Nat.add_zero]); first | exact ckp hcs (Nat.le_of_ble_eq_true rfl) | exact ckp hss (Nat.le_of_ble_eq_true rfl) | exact Nat.le_trans hcs (Nat.le_of_ble_eq_true rfl) | exact Nat.le_trans hss (Nat.le_of_ble_eq_true rfl)), (by (try simp only [rmL, List.length_cons, List.length_nil, Nat.add_assoc, Nat.reduceAdd, Nat.add_zero]); first | exact ckp hcs (Nat.le_of_ble_eq_true rfl) | exact ckp hss (Nat.le_of_ble_eq_true rfl) | exact Nat.le_trans hcs (Nat.le_of_ble_eq_true rfl) | exact Nat.le_trans hss (Nat.le_of_ble_eq_true rfl))⟩ (Nat.le_of_ble_eq_true rfl) rfl (fun v H2 hq => ?_)
  obtain ⟨rfl, y2, q2, B2, G2, w2⟩ := hq
  refine o_uq (fun u2 => ?_)
  obtain ⟨D2, hv2⟩ := D1.app u1 B1 hv1 B2 G2 w2
  have z2 := lz (m' := 131) z1 (dg_len cap).2 rfl
  refine o_bipush (pc := 363) (z := 32) dL_drawn_363 (by decide) ?_
  refine o_callV (pc := 365) _ dL_drawn_365 (cb_addC B2 D2.n (Nat.le_trans z2 (Nat.le_of_ble_eq_true rfl)) (z := 32) (by decide)) lkL_53 rfl rfl rfl rfl B2.1 ⟨⟨(Nat.le_of_ble_eq_true rfl), (Nat.le_of_ble_eq_true rfl)⟩, (by (try simp only [rmL, List.length_cons, List.length_nil, Nat.add_assoc, Nat.reduceAdd, Nat.add_zero]); first | exact ckp hcs (Nat.le_of_ble_eq_true rfl) | exact ckp hss (Nat.le_of_ble_eq_true rfl) | exact Nat.le_trans hcs (Nat.le_of_ble_eq_true rfl) | exact Nat.le_trans hss (Nat.le_of_ble_eq_true rfl)), (by (try simp only [rmL, List.length_cons, List.length_nil, Nat.add_assoc, Nat.reduceAdd, Nat.add_zero]); first | exact ckp hcs (Nat.le_of_ble_eq_true rfl) | exact ckp hss (Nat.le_of_ble_eq_true rfl) | exact Nat.le_trans hcs (Nat.le_of_ble_eq_true rfl) | exact Nat.le_trans hss (Nat.le_of_ble_eq_true rfl))⟩ (Nat.le_of_ble_eq_true rfl) rfl (fun v H3 hq => ?_)
  obtain ⟨rfl, y3, q3, B3, G3, w3⟩ := hq
  refine o_uq (fun u3 => ?_)
  obtain ⟨D3, hv3⟩ := D2.app u2 B2 hv2 B3 G3 w3
  have z3 := lz (m' := 132) z2 (show ([32] : List Int).length ≤ 1 from Nat.le_refl 1) rfl
  refine o_aload (pc := 368) dL_drawn_368 10 rfl ?_
  refine o_gI (pc := 370) (j := 2) dL_drawn_370 flL_88 rfl rfl (DW.nwp D3 n0).1 (DW.nwp D3 n0).2 ?_
  refine o_topI (y := ch) rfl ?_
  refine o_callV (pc := 373) _ dL_drawn_373 (cb_addI B3 D3.n (Nat.le_trans z3 (Nat.le_of_ble_eq_true rfl)) (n := ch) qch.1 qch.2) lkL_50 rfl rfl rfl rfl B3.1 ⟨⟨(Nat.le_of_ble_eq_true rfl), (Nat.le_of_ble_eq_true rfl)⟩, (by (try simp only [rmL, List.length_cons, List.length_nil, Nat.add_assoc, Nat.reduceAdd, Nat.add_zero]); first | exact ckp hcs (Nat.le_of_ble_eq_true rfl) | exact ckp hss (Nat.le_of_ble_eq_true rfl) | exact Nat.le_trans hcs (Nat.le_of_ble_eq_true rfl) | exact Nat.le_trans hss (Nat.le_of_ble_eq_true rfl)), (by (try simp only [rmL, List.length_cons, List.length_nil, Nat.add_assoc, Nat.reduceAdd, Nat.add_zero]); first | exact ckp hcs (Nat.le_of_ble_eq_true rfl) | exact ckp hss (Nat.le_of_ble_eq_true rfl) | exact Nat.le_trans hcs (Nat.le_of_ble_eq_true rfl) | exact Nat.le_trans hss (Nat.le_of_ble_eq_true rfl))⟩ (Nat.le_of_ble_eq_true rfl) rfl (fun v H4 hq => ?_)
  obtain ⟨rfl, y4, q4, B4, G4, w4⟩ := hq
  refine o_uq (fun u4 => ?_)
  obtain ⟨D4, hv4⟩ := D3.app u3 B3 hv3 B4 G4 w4
  have z4 := lz (m' := 135) z3 (dg_len ch).2 rfl
  refine o_pop (pc := 376) dL_drawn_376 rfl ?_
  refine o_iload (pc := 377) dL_drawn_377 9 rfl ?_
  have qcv : ¬ cv < 0 → 0 ≤ cv ∧ cv < 1000 := fun z => by rcases hcv with z | z <;> omega
  refine o_if_lt (pc := 379) 394 dL_drawn_379 (by decide) (by unfold inI; omega) (fun c_379 => ?_) (fun c_379 => ?_)
  · obtain rfl : cv = -1 := by rcases hcv with z | z <;> omega
    rcases ht with rfl | rfl
    · obtain ⟨hP2, hb2, hl2⟩ := k_pk0 hP hb (RDS.pack0 n38 hcap hch) qcap qch
      exact o_lv [0, 1, 2, 3, 4, 5, 6] rfl (kk _ _ _ _ _ _ _ _ D4 hP2 hb2 hR hl2 (by simp only [rmL, List.length_cons, List.length_nil, Nat.add_assoc, Nat.reduceAdd, Nat.add_zero]; exact Nat.add_le_add_left (Nat.le_of_ble_eq_true rfl) _) (by simp only [rmL, List.length_cons, List.length_nil, Nat.add_assoc, Nat.reduceAdd, Nat.add_zero]; exact Nat.add_le_add_left (Nat.le_of_ble_eq_true rfl) _))
    · obtain ⟨hP2, hb2, hl2⟩ := k_pq0 hP hb (RDS.pack0 n38 hcap hch) qcap qch
      exact o_lv [0, 1, 2, 3, 4, 5, 6] rfl (kk _ _ _ _ _ _ _ _ D4 hP2 hb2 hR hl2 (by simp only [rmL, List.length_cons, List.length_nil, Nat.add_assoc, Nat.reduceAdd, Nat.add_zero]; exact Nat.add_le_add_left (Nat.le_of_ble_eq_true rfl) _) (by simp only [rmL, List.length_cons, List.length_nil, Nat.add_assoc, Nat.reduceAdd, Nat.add_zero]; exact Nat.add_le_add_left (Nat.le_of_ble_eq_true rfl) _))
  · have qcv := qcv c_379
    refine o_aload_n (pc := 382) dL_drawn_382 2 rfl ?_
    refine o_bipush (pc := 383) (z := 32) dL_drawn_383 (by decide) ?_
    refine o_callV (pc := 385) _ dL_drawn_385 (cb_addC B4 D4.n (Nat.le_trans z4 (Nat.le_of_ble_eq_true rfl)) (z := 32) (by decide)) lkL_53 rfl rfl rfl rfl B4.1 ⟨⟨(Nat.le_of_ble_eq_true rfl), (Nat.le_of_ble_eq_true rfl)⟩, (by (try simp only [rmL, List.length_cons, List.length_nil, Nat.add_assoc, Nat.reduceAdd, Nat.add_zero]); first | exact ckp hcs (Nat.le_of_ble_eq_true rfl) | exact ckp hss (Nat.le_of_ble_eq_true rfl) | exact Nat.le_trans hcs (Nat.le_of_ble_eq_true rfl) | exact Nat.le_trans hss (Nat.le_of_ble_eq_true rfl)), (by (try simp only [rmL, List.length_cons, List.length_nil, Nat.add_assoc, Nat.reduceAdd, Nat.add_zero]); first | exact ckp hcs (Nat.le_of_ble_eq_true rfl) | exact ckp hss (Nat.le_of_ble_eq_true rfl) | exact Nat.le_trans hcs (Nat.le_of_ble_eq_true rfl) | exact Nat.le_trans hss (Nat.le_of_ble_eq_true rfl))⟩ (Nat.le_of_ble_eq_true rfl) rfl (fun v H5 hq => ?_)
    obtain ⟨rfl, y5, q5, B5, G5, w5⟩ := hq
    refine o_uq (fun u5 => ?_)
    obtain ⟨D5, hv5⟩ := D4.app u4 B4 hv4 B5 G5 w5
    have z5 := lz (m' := 136) z4 (show ([32] : List Int).length ≤ 1 from Nat.le_refl 1) rfl
    refine o_iload (pc := 388) dL_drawn_388 9 rfl ?_
    refine o_callV (pc := 390) _ dL_drawn_390 (cb_addI B5 D5.n (Nat.le_trans z5 (Nat.le_of_ble_eq_true rfl)) (n := cv) qcv.1 qcv.2) lkL_50 rfl rfl rfl rfl B5.1 ⟨⟨(Nat.le_of_ble_eq_true rfl), (Nat.le_of_ble_eq_true rfl)⟩, (by (try simp only [rmL, List.length_cons, List.length_nil, Nat.add_assoc, Nat.reduceAdd, Nat.add_zero]); first | exact ckp hcs (Nat.le_of_ble_eq_true rfl) | exact ckp hss (Nat.le_of_ble_eq_true rfl) | exact Nat.le_trans hcs (Nat.le_of_ble_eq_true rfl) | exact Nat.le_trans hss (Nat.le_of_ble_eq_true rfl)), (by (try simp only [rmL, List.length_cons, List.length_nil, Nat.add_assoc, Nat.reduceAdd, Nat.add_zero]); first | exact ckp hcs (Nat.le_of_ble_eq_true rfl) | exact ckp hss (Nat.le_of_ble_eq_true rfl) | exact Nat.le_trans hcs (Nat.le_of_ble_eq_true rfl) | exact Nat.le_trans hss (Nat.le_of_ble_eq_true rfl))⟩ (Nat.le_of_ble_eq_true rfl) rfl (fun v H6 hq => ?_)
    obtain ⟨rfl, y6, q6, B6, G6, w6⟩ := hq
    refine o_uq (fun u6 => ?_)
    obtain ⟨D6, hv6⟩ := D5.app u5 B5 hv5 B6 G6 w6
    have z6 := lz (m' := 139) z5 (dg_len cv).2 rfl
    refine o_pop (pc := 393) dL_drawn_393 rfl ?_
    rcases ht with rfl | rfl
    · obtain ⟨hP2, hb2, hl2⟩ := k_pk1 hP hb (RDS.pack1 n38 hcap hch (by rcases hcv with z | z <;> omega)) qcap qch qcv
      exact o_lv [0, 1, 2, 3, 4, 5, 6] rfl (kk _ _ _ _ _ _ _ _ D6 hP2 hb2 hR hl2 (by simp only [rmL, List.length_cons, List.length_nil, Nat.add_assoc, Nat.reduceAdd, Nat.add_zero]; exact Nat.add_le_add_left (Nat.le_of_ble_eq_true rfl) _) (by simp only [rmL, List.length_cons, List.length_nil, Nat.add_assoc, Nat.reduceAdd, Nat.add_zero]; exact Nat.add_le_add_left (Nat.le_of_ble_eq_true rfl) _))
    · obtain ⟨hP2, hb2, hl2⟩ := k_pq1 hP hb (RDS.pack1 n38 hcap hch (by rcases hcv with z | z <;> omega)) qcap qch qcv
      exact o_lv [0, 1, 2, 3, 4, 5, 6] rfl (kk _ _ _ _ _ _ _ _ D6 hP2 hb2 hR hl2 (by simp only [rmL, List.length_cons, List.length_nil, Nat.add_assoc, Nat.reduceAdd, Nat.add_zero]; exact Nat.add_le_add_left (Nat.le_of_ble_eq_true rfl) _) (by simp only [rmL, List.length_cons, List.length_nil, Nat.add_assoc, Nat.reduceAdd, Nat.add_zero]; exact Nat.add_le_add_left (Nat.le_of_ble_eq_true rfl) _))
set_option maxRecDepth 20000 in
theorem pk_289 {G : GG} {h : Hp} {a b v0 : Nat} (hL : gV G 21 ≤ 300) (m58 : (58, b) ∈ h.1) {v : Int} (hv : 0 ≤ v ∧ v < 2147483648) {cc pq cap cv x : Int} {H : Hp} {N : Int → Int} {B : Bok} {S T : Nat → Prop} {L : List Int} {k c0 s0 : Nat} (hpq : 0 ≤ pq ∧ pq ≤ 4) (hx : 0 ≤ x ∧ x < 2147483648) (hcap : 2 ≤ cap ∧ cap < 1000) (hcv : cv = -1 ∨ 0 ≤ cv ∧ cv < N 4) (hk : k < 4) (hP : PR L N) (hb : BY L) (hl : L.length ≤ 120) (D : DW G h H a N B S T b v0 L) (hR : RC N cc 0 0 (k : Int) 0 0) (hcs : c0 ≤ 130) (hss : s0 ≤ 69000) (kk : ∀ (H1 : Hp) (N1 : Int → Int) (B1 : Bok) (S1 T1 : Nat → Prop) (L1 : List Int) (c1 s1 : Nat), DW G h H1 a N1 B1 S1 T1 b v0 L1 → PR L1 N1 → BY L1 → RC N1 cc 0 0 ((k + 1 : Nat) : Int) 0 0 → L1.length ≤ L.length + 19 → c1 ≤ c0 + 10 → s1 ≤ s0 + 8100 → YY G ML_drawn (rmL 12 300 200000) 394 [(0, .ref (gV G 20)), (1, .int (iI 0)), (2, rf G 58 b), (3, rf G 51 a), (4, .int (iI v)), (5, .int (iI pq)), (6, .int (iI (k : Int)))] [] H1 c1 s1 (fun v h1 => ∃ L N B S T, v = some (rf G 51 a) ∧ DW G h h1 a N B S T b v0 L ∧ PR L N ∧ L.length ≤ 420 ∧ BY L ∧ UC N ∧ N 9 = 0 ∧ N 2 = 0)) : YY G ML_drawn (rmL 12 300 200000) 289 [(0, .ref (gV G 20)), (1, .int (iI 0)), (2, rf G 58 b), (3, rf G 51 a), (4, .int (iI v)), (5, .int (iI pq)), (6, .int (iI (k : Int))), (7, .int (iI x)), (8, .int (iI cap))] [.int (iI cv)] H c0 s0 (fun v h1 => ∃ L N B S T, v = some (rf G 51 a) ∧ DW G h h1 a N B S T b v0 L ∧ PR L N ∧ L.length ≤ 420 ∧ BY L ∧ UC N ∧ N 9 = 0 ∧ N 2 = 0) := by
  have hm : ∀ i, i < 7 → 0 ≤ nj N i ∧ nj N i ≤ mxj i := fun i hi => (D.1.2.2.2.1 i hi).1
  have n3 : 0 ≤ N 3 := (hm 3 (by decide)).1
  have n4b : N 4 ≤ 4 := (hm 0 (by decide)).2
  have n38 : N 3 < 8 := by rw [hR.1.2.2.2.1]; omega
  have m0 : 0 ≤ sd 3 * nj N 3 := Int.mul_nonneg (by decide) n3
  obtain ⟨ch, hch, ch1, ch2⟩ : ∃ ch : Int, x / 8192 % (cap + 1) = ch ∧ 0 ≤ ch ∧ ch ≤ cap := ⟨_, rfl, Int.emod_nonneg _ (by omega), by have := Int.emod_lt_of_pos (x / 8192) (show 0 < cap + 1 by omega); omega⟩
  refine o_uq (fun uH => ?_)
  refine o_istore (pc := 289) (lv' := [(9, _), (0, _), (1, _), (2, _), (3, _), (4, _), (5, _), (6, _), (7, _), (8, _)]) dL_drawn_289 (by decide) rfl ?_
  refine o_sizeD (fun e he => ?_) D.n
  refine o_new (pc := 291) (k := 52) dL_drawn_291 ncL_76 rfl (by decide) he (by (try simp only [rmL, List.length_cons, List.length_nil, Nat.add_assoc, Nat.reduceAdd, Nat.add_zero]); first | exact ckp hcs (Nat.le_of_ble_eq_true rfl) | exact ckp hss (Nat.le_of_ble_eq_true rfl) | exact Nat.le_trans hcs (Nat.le_of_ble_eq_true rfl) | exact Nat.le_trans hss (Nat.le_of_ble_eq_true rfl)) (by (try simp only [rmL, List.length_cons, List.length_nil, Nat.add_assoc, Nat.reduceAdd, Nat.add_zero]); first | exact ckp hcs (Nat.le_of_ble_eq_true rfl) | exact ckp hss (Nat.le_of_ble_eq_true rfl) | exact Nat.le_trans hcs (Nat.le_of_ble_eq_true rfl) | exact Nat.le_trans hss (Nat.le_of_ble_eq_true rfl)) (fun fe => ?_)
  have FN : Fr (fun _ => False) H (nw H 52 e) := Fr_nw (Fr.rf D.n) (by decide) fe
  refine o_dup (pc := 294) dL_drawn_294 rfl ?_
  refine o_iload (pc := 295) dL_drawn_295 9 rfl ?_
  refine o_iload (pc := 297) dL_drawn_297 8 rfl ?_
  refine o_sipush (pc := 299) (z := 8192) dL_drawn_299 (by decide) ?_
  refine o_idiv (pc := 302) dL_drawn_302 (by omega) (by omega) ?_
  refine o_iload (pc := 303) dL_drawn_303 9 rfl ?_
  refine o_iconst (pc := 305) dL_drawn_305 ?_
  refine o_iadd (pc := 306) dL_drawn_306 ?_
  refine o_irem (pc := 307) dL_drawn_307 (by omega) (by omega) ?_
  refine o_topI (y := ch) hch ?_
  refine o_iload (pc := 308) dL_drawn_308 0 rfl ?_
  refine o_callI (pc := 310) _ dL_drawn_310 (cw_ini52 nw_in) lkL_78 rfl rfl ⟨⟨(Nat.le_of_ble_eq_true rfl), (Nat.le_of_ble_eq_true rfl)⟩, (by (try simp only [rmL, List.length_cons, List.length_nil, Nat.add_assoc, Nat.reduceAdd, Nat.add_zero]); first | exact ckp hcs (Nat.le_of_ble_eq_true rfl) | exact ckp hss (Nat.le_of_ble_eq_true rfl) | exact Nat.le_trans hcs (Nat.le_of_ble_eq_true rfl) | exact Nat.le_trans hss (Nat.le_of_ble_eq_true rfl)), (by (try simp only [rmL, List.length_cons, List.length_nil, Nat.add_assoc, Nat.reduceAdd, Nat.add_zero]); first | exact ckp hcs (Nat.le_of_ble_eq_true rfl) | exact ckp hss (Nat.le_of_ble_eq_true rfl) | exact Nat.le_trans hcs (Nat.le_of_ble_eq_true rfl) | exact Nat.le_trans hss (Nat.le_of_ble_eq_true rfl))⟩ (Nat.le_of_ble_eq_true rfl) rfl (fun v H9 hq => ?_)
  obtain ⟨rfl, e2⟩ := hq
  have FI : Fr (fun _ => False) H H9 := by rw [e2]; exact Fr_hset (Fr_hset (Fr_hset FN (by decide) (.inr fe)) (by decide) (.inr fe)) (by decide) (.inr fe)
  have m2 : (52, e) ∈ H9.1 := by rw [e2]; exact nw_in
  have vv : ∀ f : Nat, f < 7 → H9.2.1 52 e (f : Int) = v5 cap ch 0 cv 0 (og3 f) := fun f hf => by
    rw [e2]
    simp only [hset_q, nw_m]
    match f, hf with
    | 0, _ => rfl
    | 1, _ => rfl
    | 2, _ => rfl
    | 3, _ => rfl
    | 4, _ => rfl
    | 5, _ => rfl
    | 6, _ => rfl
    | n + 7, hf => exact absurd hf (by omega)
  clear e2
  have Da := D.f0 FI
  refine o_astore (pc := 313) (lv' := [(10, _), (9, _), (0, _), (1, _), (2, _), (3, _), (4, _), (5, _), (6, _), (7, _), (8, _)]) dL_drawn_313 (by decide) rfl ?_
  refine o_aload_n (pc := 315) dL_drawn_315 5 rfl ?_
  refine o_gR (pc := 316) (j := 10) (56) ((B.1 3)) dL_drawn_316 flL_81 rfl rfl Da.1.mW (Da.1.r 3) ?_
  refine o_aload (pc := 319) dL_drawn_319 0 rfl ?_
  refine o_callV (pc := 321) _ dL_drawn_321 (cl_add (Da.1.l 3) Da.n (by have := Da.1.nb 3; have e9 : mxj 3 ≤ 16 := (by decide); omega) (a := pk 3) (e := e) (pk_isE 3) m2) lkL_60 rfl rfl rfl rfl (Da.1.l 3).1 ⟨⟨(Nat.le_of_ble_eq_true rfl), (Nat.le_of_ble_eq_true rfl)⟩, (by (try simp only [rmL, List.length_cons, List.length_nil, Nat.add_assoc, Nat.reduceAdd, Nat.add_zero]); first | exact ckp hcs (Nat.le_of_ble_eq_true rfl) | exact ckp hss (Nat.le_of_ble_eq_true rfl) | exact Nat.le_trans hcs (Nat.le_of_ble_eq_true rfl) | exact Nat.le_trans hss (Nat.le_of_ble_eq_true rfl)), (by (try simp only [rmL, List.length_cons, List.length_nil, Nat.add_assoc, Nat.reduceAdd, Nat.add_zero]); first | exact ckp hcs (Nat.le_of_ble_eq_true rfl) | exact ckp hss (Nat.le_of_ble_eq_true rfl) | exact Nat.le_trans hcs (Nat.le_of_ble_eq_true rfl) | exact Nat.le_trans hss (Nat.le_of_ble_eq_true rfl))⟩ (Nat.le_of_ble_eq_true rfl) rfl (fun v H0 hq => ?_)
  obtain ⟨rfl, k1, b1, hA0, FA0, hbb⟩ := hq
  refine o_uq (fun u0 => ?_)
  have D0 := D.add uH FI u0 3 (by decide) hA0 FA0 hbb m2 fe (by show N 3 + 1 ≤ 8; omega) (v := v5 cap ch 0 cv 0) (fun f hf => vv f hf)
  
  refine o_pop (pc := 324) dL_drawn_324 rfl ?_
  refine o_aload_n (pc := 325) dL_drawn_325 5 rfl ?_
  refine o_dup (pc := 326) dL_drawn_326 rfl ?_
  refine o_gL (pc := 327) (j := 3) dL_drawn_327 flL_84 rfl rfl D0.1.mW D0.1.w3 ?_
  refine o_topL (y := N 10) (adN_hd (N := N) (j := 3) (v := v5 cap ch 0 cv 0) m0 3) ?_
  refine o_aload (pc := 330) dL_drawn_330 0 rfl ?_
  refine o_gI (pc := 332) (j := 2) dL_drawn_332 flL_88 rfl rfl (DW.new D0 (by decide) n3).1 ((DW.new D0 (by decide) n3).2 2 (by decide)) ?_
  refine o_topI (y := ch) rfl ?_
  refine o_i2l (pc := 335) dL_drawn_335 (by unfold inI; omega) ?_
  refine o_ladd (pc := 336) dL_drawn_336 ?_
  refine o_pL (pc := 337) (j := 3) dL_drawn_337 fwL_84 rfl rfl D0.1.mW ?_
  have D1 := D0.wr u0 (Fr_hset (Fr.rf D0.n) (by decide) (.inl D0.1.sA)) (D0.1.setH 3 (N 10 + ch)) (fun x hx => .inl hx)
  clear D0 Da D vv
  refine o_aload_n (pc := 340) dL_drawn_340 4 rfl ?_
  refine o_iload (pc := 341) dL_drawn_341 8 rfl ?_
  refine o_iconst (pc := 343) dL_drawn_343 ?_
  refine o_irem (pc := 344) dL_drawn_344 (by omega) (by omega) ?_
  refine o_if_ne (pc := 345) 353 dL_drawn_345 (by decide) (by unfold inI; omega) (fun c_345 => ?_) (fun c_345 => ?_)
  · refine o_ldcS (pc := 353) " ; pack " 10 dL_drawn_353 (by decide +kernel) ?_
    exact o_lv [2, 3, 4, 5, 6, 7, 8, 9, 10, 1, 0] rfl (pk_355 (t := 10) hL m58 hv (by omega) hpq hcap ⟨ch1, ch2⟩ hcv n4b n38 n3 hP hb hl D1 (hR.pk (by omega) hm) (by (try simp only [rmL, List.length_cons, List.length_nil, Nat.add_assoc, Nat.reduceAdd, Nat.add_zero]); first | exact ckp hcs (Nat.le_of_ble_eq_true rfl) | exact ckp hss (Nat.le_of_ble_eq_true rfl) | exact Nat.le_trans hcs (Nat.le_of_ble_eq_true rfl) | exact Nat.le_trans hss (Nat.le_of_ble_eq_true rfl)) (by (try simp only [rmL, List.length_cons, List.length_nil, Nat.add_assoc, Nat.reduceAdd, Nat.add_zero]); first | exact ckp hcs (Nat.le_of_ble_eq_true rfl) | exact ckp hss (Nat.le_of_ble_eq_true rfl) | exact Nat.le_trans hcs (Nat.le_of_ble_eq_true rfl) | exact Nat.le_trans hss (Nat.le_of_ble_eq_true rfl)) (fun H1 N1 B1 S1 T1 L1 c1 s1 u1 u2 u3 u4 u5 u6 u7 => kk H1 N1 B1 S1 T1 L1 c1 s1 u1 u2 u3 u4 u5 (Nat.le_trans u6 (by simp only [rmL, List.length_cons, List.length_nil, Nat.add_assoc, Nat.reduceAdd, Nat.add_zero]; try exact Nat.add_le_add_left (Nat.le_of_ble_eq_true rfl) _)) (Nat.le_trans u7 (by simp only [rmL, List.length_cons, List.length_nil, Nat.add_assoc, Nat.reduceAdd, Nat.add_zero]; try exact Nat.add_le_add_left (Nat.le_of_ble_eq_true rfl) _))))
  · refine o_ldcS (pc := 348) ";pack " 9 dL_drawn_348 (by decide +kernel) ?_
    refine o_goto (pc := 350) 355 dL_drawn_350 (by decide) ?_
    exact o_lv [2, 3, 4, 5, 6, 7, 8, 9, 10, 1, 0] rfl (pk_355 (t := 9) hL m58 hv (by omega) hpq hcap ⟨ch1, ch2⟩ hcv n4b n38 n3 hP hb hl D1 (hR.pk (by omega) hm) (by (try simp only [rmL, List.length_cons, List.length_nil, Nat.add_assoc, Nat.reduceAdd, Nat.add_zero]); first | exact ckp hcs (Nat.le_of_ble_eq_true rfl) | exact ckp hss (Nat.le_of_ble_eq_true rfl) | exact Nat.le_trans hcs (Nat.le_of_ble_eq_true rfl) | exact Nat.le_trans hss (Nat.le_of_ble_eq_true rfl)) (by (try simp only [rmL, List.length_cons, List.length_nil, Nat.add_assoc, Nat.reduceAdd, Nat.add_zero]); first | exact ckp hcs (Nat.le_of_ble_eq_true rfl) | exact ckp hss (Nat.le_of_ble_eq_true rfl) | exact Nat.le_trans hcs (Nat.le_of_ble_eq_true rfl) | exact Nat.le_trans hss (Nat.le_of_ble_eq_true rfl)) (fun H1 N1 B1 S1 T1 L1 c1 s1 u1 u2 u3 u4 u5 u6 u7 => kk H1 N1 B1 S1 T1 L1 c1 s1 u1 u2 u3 u4 u5 (Nat.le_trans u6 (by simp only [rmL, List.length_cons, List.length_nil, Nat.add_assoc, Nat.reduceAdd, Nat.add_zero]; try exact Nat.add_le_add_left (Nat.le_of_ble_eq_true rfl) _)) (Nat.le_trans u7 (by simp only [rmL, List.length_cons, List.length_nil, Nat.add_assoc, Nat.reduceAdd, Nat.add_zero]; try exact Nat.add_le_add_left (Nat.le_of_ble_eq_true rfl) _))))
