/-! the law's loop -/
theorem law_turn {G : GG} {m : Mem} {K : Nat} {c0 s0 : Nat} {i : Int} (h : IV m K) (hK : K ≤ 600) (hi : 0 ≤ i ∧ i + 5 ≤ (gV G 8 : Nat)) (hL : gV G 8 < 2147483648) (hc : c0 ≤ 400000) (hs : s0 ≤ 6000000) : LST G m K c0 s0 i 37 := by
  have e63 : (Int8.ofInt 63).toInt32 = iI 63 := by decide +kernel
  have pre : ∀ (pc : Nat), (∀ (z : Int), inI z → z = (iI (sx G i.toNat) &&& iI 63).toInt → ∀ (res : Res) (h' : Hp), X G ML_law room_1 pc (lvL G i) [] (hp m) c0 s0 res h' → X G ML_law room_1 44 (lvL G i) [.int (iI z)] (hp m) c0 s0 res h') → LST G m K c0 s0 i pc → LST G m K c0 s0 i 37 := by
    intro pc sw ⟨m2, hI, kk⟩
    refine ⟨m2, hI, fun res h' q => ?_⟩
    have r := kk res h' q
    have r2 := sw _ (inI_of _) rfl res h' r
    unfold lvL at r2 ⊢
    refine x_aload_n (pc := 37) dL_law_37 1 rfl ?_
    refine x_iload (pc := 38) dL_law_38 0 rfl ?_
    refine x_sld (pc := 40) (a := i.toNat) dL_law_40 (by omega) (by omega) hL ?_
    refine x_bipush (pc := 41) (z := 63) dL_law_41 e63 ?_
    refine x_iand_ (pc := 43) dL_law_43 ?_
    rw [iI_of] at r2
    exact r2
  have cs : ∀ z : Int, inI z → (z < 0 ∨ 44 < z) ∨ (0 ≤ z ∧ z ≤ 44) := fun z _ => by omega
  generalize hz : (iI (sx G i.toNat) &&& iI 63).toInt = z at pre
  have hzi : inI z := by rw [← hz]; exact inI_of _
  rcases cs z hzi with g | g
  · refine pre 2773 (fun z' h1 h2 res h' q => ?_) ⟨m, h.more (by omega), fun res h' q => x_widen (by omega) (by omega) q⟩
    rw [h2]
    exact x_tabOut (pc := 44) 2773 dL_law_44 hzi g (by decide) q
  by_cases w0 : z = 0
  · refine pre 240 (fun z' h1 h2 res h' q => ?_) (law_0 h hK hi hL hc hs)
    rw [h2, w0]
    exact x_tabIn (pc := 44) 240 dL_law_44 (by unfold inI; decide) (by decide) (by decide) rfl (by decide) q
  by_cases w1 : z = 1
  · refine pre 297 (fun z' h1 h2 res h' q => ?_) (law_1 h hK hi hL hc hs)
    rw [h2, w1]
    exact x_tabIn (pc := 44) 297 dL_law_44 (by unfold inI; decide) (by decide) (by decide) rfl (by decide) q
  by_cases w2 : z = 2
  · refine pre 310 (fun z' h1 h2 res h' q => ?_) (law_2 h hK hi hL hc hs)
    rw [h2, w2]
    exact x_tabIn (pc := 44) 310 dL_law_44 (by unfold inI; decide) (by decide) (by decide) rfl (by decide) q
  by_cases w3 : z = 3
  · refine pre 323 (fun z' h1 h2 res h' q => ?_) (law_3 h hK hi hL hc hs)
    rw [h2, w3]
    exact x_tabIn (pc := 44) 323 dL_law_44 (by unfold inI; decide) (by decide) (by decide) rfl (by decide) q
  by_cases w4 : z = 4
  · refine pre 336 (fun z' h1 h2 res h' q => ?_) (law_4 h hK hi hL hc hs)
    rw [h2, w4]
    exact x_tabIn (pc := 44) 336 dL_law_44 (by unfold inI; decide) (by decide) (by decide) rfl (by decide) q
  by_cases w5 : z = 5
  · refine pre 392 (fun z' h1 h2 res h' q => ?_) (law_5 h hK hi hL hc hs)
    rw [h2, w5]
    exact x_tabIn (pc := 44) 392 dL_law_44 (by unfold inI; decide) (by decide) (by decide) rfl (by decide) q
  by_cases w6 : z = 6
  · refine pre 460 (fun z' h1 h2 res h' q => ?_) (law_6 h hK hi hL hc hs)
    rw [h2, w6]
    exact x_tabIn (pc := 44) 460 dL_law_44 (by unfold inI; decide) (by decide) (by decide) rfl (by decide) q
  by_cases w7 : z = 7
  · refine pre 540 (fun z' h1 h2 res h' q => ?_) (law_7 h hK hi hL hc hs)
    rw [h2, w7]
    exact x_tabIn (pc := 44) 540 dL_law_44 (by unfold inI; decide) (by decide) (by decide) rfl (by decide) q
  by_cases w8 : z = 8
  · refine pre 608 (fun z' h1 h2 res h' q => ?_) (law_8 h hK hi hL hc hs)
    rw [h2, w8]
    exact x_tabIn (pc := 44) 608 dL_law_44 (by unfold inI; decide) (by decide) (by decide) rfl (by decide) q
  by_cases w9 : z = 9
  · refine pre 676 (fun z' h1 h2 res h' q => ?_) (law_9 h hK hi hL hc hs)
    rw [h2, w9]
    exact x_tabIn (pc := 44) 676 dL_law_44 (by unfold inI; decide) (by decide) (by decide) rfl (by decide) q
  by_cases w10 : z = 10
  · refine pre 744 (fun z' h1 h2 res h' q => ?_) (law_10 h hK hi hL hc hs)
    rw [h2, w10]
    exact x_tabIn (pc := 44) 744 dL_law_44 (by unfold inI; decide) (by decide) (by decide) rfl (by decide) q
  by_cases w11 : z = 11
  · refine pre 812 (fun z' h1 h2 res h' q => ?_) (law_11 h hK hi hL hc hs)
    rw [h2, w11]
    exact x_tabIn (pc := 44) 812 dL_law_44 (by unfold inI; decide) (by decide) (by decide) rfl (by decide) q
  by_cases w12 : z = 12
  · refine pre 825 (fun z' h1 h2 res h' q => ?_) (law_12 h hK hi hL hc hs)
    rw [h2, w12]
    exact x_tabIn (pc := 44) 825 dL_law_44 (by unfold inI; decide) (by decide) (by decide) rfl (by decide) q
  by_cases w13 : z = 13
  · refine pre 880 (fun z' h1 h2 res h' q => ?_) (law_13 h hK hi hL hc hs)
    rw [h2, w13]
    exact x_tabIn (pc := 44) 880 dL_law_44 (by unfold inI; decide) (by decide) (by decide) rfl (by decide) q
  by_cases w14 : z = 14
  · refine pre 921 (fun z' h1 h2 res h' q => ?_) (law_14 h hK hi hL hc hs)
    rw [h2, w14]
    exact x_tabIn (pc := 44) 921 dL_law_44 (by unfold inI; decide) (by decide) (by decide) rfl (by decide) q
  by_cases w15 : z = 15
  · refine pre 999 (fun z' h1 h2 res h' q => ?_) (law_15 h hK hi hL hc hs)
    rw [h2, w15]
    exact x_tabIn (pc := 44) 999 dL_law_44 (by unfold inI; decide) (by decide) (by decide) rfl (by decide) q
  by_cases w16 : z = 16
  · refine pre 1067 (fun z' h1 h2 res h' q => ?_) (law_16 h hK hi hL hc hs)
    rw [h2, w16]
    exact x_tabIn (pc := 44) 1067 dL_law_44 (by unfold inI; decide) (by decide) (by decide) rfl (by decide) q
  by_cases w17 : z = 17
  · refine pre 1135 (fun z' h1 h2 res h' q => ?_) (law_17 h hK hi hL hc hs)
    rw [h2, w17]
    exact x_tabIn (pc := 44) 1135 dL_law_44 (by unfold inI; decide) (by decide) (by decide) rfl (by decide) q
  by_cases w18 : z = 18
  · refine pre 1203 (fun z' h1 h2 res h' q => ?_) (law_18 h hK hi hL hc hs)
    rw [h2, w18]
    exact x_tabIn (pc := 44) 1203 dL_law_44 (by unfold inI; decide) (by decide) (by decide) rfl (by decide) q
  by_cases w19 : z = 19
  · refine pre 1283 (fun z' h1 h2 res h' q => ?_) (law_19 h hK hi hL hc hs)
    rw [h2, w19]
    exact x_tabIn (pc := 44) 1283 dL_law_44 (by unfold inI; decide) (by decide) (by decide) rfl (by decide) q
  by_cases w20 : z = 20
  · refine pre 1339 (fun z' h1 h2 res h' q => ?_) (law_20 h hK hi hL hc hs)
    rw [h2, w20]
    exact x_tabIn (pc := 44) 1339 dL_law_44 (by unfold inI; decide) (by decide) (by decide) rfl (by decide) q
  by_cases w21 : z = 21
  · refine pre 1395 (fun z' h1 h2 res h' q => ?_) (law_21 h hK hi hL hc hs)
    rw [h2, w21]
    exact x_tabIn (pc := 44) 1395 dL_law_44 (by unfold inI; decide) (by decide) (by decide) rfl (by decide) q
  by_cases w22 : z = 22
  · refine pre 1451 (fun z' h1 h2 res h' q => ?_) (law_22 h hK hi hL hc hs)
    rw [h2, w22]
    exact x_tabIn (pc := 44) 1451 dL_law_44 (by unfold inI; decide) (by decide) (by decide) rfl (by decide) q
  by_cases w23 : z = 23
  · refine pre 1507 (fun z' h1 h2 res h' q => ?_) (law_23 h hK hi hL hc hs)
    rw [h2, w23]
    exact x_tabIn (pc := 44) 1507 dL_law_44 (by unfold inI; decide) (by decide) (by decide) rfl (by decide) q
  by_cases w24 : z = 24
  · refine pre 1575 (fun z' h1 h2 res h' q => ?_) (law_24 h hK hi hL hc hs)
    rw [h2, w24]
    exact x_tabIn (pc := 44) 1575 dL_law_44 (by unfold inI; decide) (by decide) (by decide) rfl (by decide) q
  by_cases w25 : z = 25
  · refine pre 1643 (fun z' h1 h2 res h' q => ?_) (law_25 h hK hi hL hc hs)
    rw [h2, w25]
    exact x_tabIn (pc := 44) 1643 dL_law_44 (by unfold inI; decide) (by decide) (by decide) rfl (by decide) q
  by_cases w26 : z = 26
  · refine pre 1711 (fun z' h1 h2 res h' q => ?_) (law_26 h hK hi hL hc hs)
    rw [h2, w26]
    exact x_tabIn (pc := 44) 1711 dL_law_44 (by unfold inI; decide) (by decide) (by decide) rfl (by decide) q
  by_cases w27 : z = 27
  · refine pre 1803 (fun z' h1 h2 res h' q => ?_) (law_27 h hK hi hL hc hs)
    rw [h2, w27]
    exact x_tabIn (pc := 44) 1803 dL_law_44 (by unfold inI; decide) (by decide) (by decide) rfl (by decide) q
  by_cases w28 : z = 28
  · refine pre 1883 (fun z' h1 h2 res h' q => ?_) (law_28 h hK hi hL hc hs)
    rw [h2, w28]
    exact x_tabIn (pc := 44) 1883 dL_law_44 (by unfold inI; decide) (by decide) (by decide) rfl (by decide) q
  by_cases w29 : z = 29
  · refine pre 1939 (fun z' h1 h2 res h' q => ?_) (law_29 h hK hi hL hc hs)
    rw [h2, w29]
    exact x_tabIn (pc := 44) 1939 dL_law_44 (by unfold inI; decide) (by decide) (by decide) rfl (by decide) q
  by_cases w30 : z = 30
  · refine pre 1995 (fun z' h1 h2 res h' q => ?_) (law_30 h hK hi hL hc hs)
    rw [h2, w30]
    exact x_tabIn (pc := 44) 1995 dL_law_44 (by unfold inI; decide) (by decide) (by decide) rfl (by decide) q
  by_cases w31 : z = 31
  · refine pre 2063 (fun z' h1 h2 res h' q => ?_) (law_31 h hK hi hL hc hs)
    rw [h2, w31]
    exact x_tabIn (pc := 44) 2063 dL_law_44 (by unfold inI; decide) (by decide) (by decide) rfl (by decide) q
  by_cases w32 : z = 32
  · refine pre 2131 (fun z' h1 h2 res h' q => ?_) (law_32 h hK hi hL hc hs)
    rw [h2, w32]
    exact x_tabIn (pc := 44) 2131 dL_law_44 (by unfold inI; decide) (by decide) (by decide) rfl (by decide) q
  by_cases w33 : z = 33
  · refine pre 2187 (fun z' h1 h2 res h' q => ?_) (law_33 h hK hi hL hc hs)
    rw [h2, w33]
    exact x_tabIn (pc := 44) 2187 dL_law_44 (by unfold inI; decide) (by decide) (by decide) rfl (by decide) q
  by_cases w34 : z = 34
  · refine pre 2243 (fun z' h1 h2 res h' q => ?_) (law_34 h hK hi hL hc hs)
    rw [h2, w34]
    exact x_tabIn (pc := 44) 2243 dL_law_44 (by unfold inI; decide) (by decide) (by decide) rfl (by decide) q
  by_cases w35 : z = 35
  · refine pre 2299 (fun z' h1 h2 res h' q => ?_) (law_35 h hK hi hL hc hs)
    rw [h2, w35]
    exact x_tabIn (pc := 44) 2299 dL_law_44 (by unfold inI; decide) (by decide) (by decide) rfl (by decide) q
  by_cases w36 : z = 36
  · refine pre 2355 (fun z' h1 h2 res h' q => ?_) (law_36 h hK hi hL hc hs)
    rw [h2, w36]
    exact x_tabIn (pc := 44) 2355 dL_law_44 (by unfold inI; decide) (by decide) (by decide) rfl (by decide) q
  by_cases w37 : z = 37
  · refine pre 2442 (fun z' h1 h2 res h' q => ?_) (law_37 h hK hi hL hc hs)
    rw [h2, w37]
    exact x_tabIn (pc := 44) 2442 dL_law_44 (by unfold inI; decide) (by decide) (by decide) rfl (by decide) q
  by_cases w38 : z = 38
  · refine pre 2510 (fun z' h1 h2 res h' q => ?_) (law_38 h hK hi hL hc hs)
    rw [h2, w38]
    exact x_tabIn (pc := 44) 2510 dL_law_44 (by unfold inI; decide) (by decide) (by decide) rfl (by decide) q
  by_cases w39 : z = 39
  · refine pre 2523 (fun z' h1 h2 res h' q => ?_) (law_39 h hK hi hL hc hs)
    rw [h2, w39]
    exact x_tabIn (pc := 44) 2523 dL_law_44 (by unfold inI; decide) (by decide) (by decide) rfl (by decide) q
  by_cases w40 : z = 40
  · refine pre 2536 (fun z' h1 h2 res h' q => ?_) (law_40 h hK hi hL hc hs)
    rw [h2, w40]
    exact x_tabIn (pc := 44) 2536 dL_law_44 (by unfold inI; decide) (by decide) (by decide) rfl (by decide) q
  by_cases w41 : z = 41
  · refine pre 2592 (fun z' h1 h2 res h' q => ?_) (law_41 h hK hi hL hc hs)
    rw [h2, w41]
    exact x_tabIn (pc := 44) 2592 dL_law_44 (by unfold inI; decide) (by decide) (by decide) rfl (by decide) q
  by_cases w42 : z = 42
  · refine pre 2648 (fun z' h1 h2 res h' q => ?_) (law_42 h hK hi hL hc hs)
    rw [h2, w42]
    exact x_tabIn (pc := 44) 2648 dL_law_44 (by unfold inI; decide) (by decide) (by decide) rfl (by decide) q
  by_cases w43 : z = 43
  · refine pre 2661 (fun z' h1 h2 res h' q => ?_) (law_43 h hK hi hL hc hs)
    rw [h2, w43]
    exact x_tabIn (pc := 44) 2661 dL_law_44 (by unfold inI; decide) (by decide) (by decide) rfl (by decide) q
  by_cases w44 : z = 44
  · refine pre 2717 (fun z' h1 h2 res h' q => ?_) (law_44 h hK hi hL hc hs)
    rw [h2, w44]
    exact x_tabIn (pc := 44) 2717 dL_law_44 (by unfold inI; decide) (by decide) (by decide) rfl (by decide) q
  exfalso; omega
theorem law_end {G : GG} (hL : gV G 8 ≤ 2560) {m : Mem} {c0 s0 : Nat} {i : Int} (h0 : 0 ≤ i ∧ i ≤ 5000) (g : (gV G 8 : Nat) < i + 5) (hc : c0 ≤ 400000) (hs : s0 ≤ 6000000) : X G ML_law room_1 28 (lvL G i) [] (hp m) c0 s0 (.inl (some (.int (iI 1)))) (hp m) := by
  unfold lvL
  refine x_iload (pc := 28) dL_law_28 0 rfl ?_
  refine x_aload_n (pc := 30) dL_law_30 1 rfl ?_
  refine x_slen (pc := 31) dL_law_31 ?_
  refine x_iconst (pc := 32) dL_law_32 ?_
  refine x_isub (pc := 33) dL_law_33 ?_
  refine x_icmp_gt (pc := 34) 2779 dL_law_34 (by decide) (by unfold inI; omega) (by unfold inI; omega) (fun _ => ?_) (fun q => by exfalso; omega)
  refine x_iconst (pc := 2779) dL_law_2779 ?_
  exact x_zret (pc := 2780) dL_law_2780 rfl (by decide +kernel) (by show c0 ≤ 601024; omega) (by show s0 ≤ 7293033; omega)
theorem law_step {G : GG} (hL : gV G 8 ≤ 2560) {m m2 : Mem} {c0 s0 c1 s1 : Nat} {i : Int} {res : Res} {h' : Hp} (h0 : 0 ≤ i) (g : i + 5 ≤ (gV G 8 : Nat)) (kk : ∀ (res : Res) (h' : Hp), X G ML_law room_1 2773 (lvL G i) [] (hp m2) c1 s1 res h' → X G ML_law room_1 37 (lvL G i) [] (hp m) c0 s0 res h') (q : X G ML_law room_1 28 (lvL G (i + 5)) [] (hp m2) c1 s1 res h') : X G ML_law room_1 28 (lvL G i) [] (hp m) c0 s0 res h' := by
  have k := kk res h'
  unfold lvL at k q ⊢
  refine x_iload (pc := 28) dL_law_28 0 rfl ?_
  refine x_aload_n (pc := 30) dL_law_30 1 rfl ?_
  refine x_slen (pc := 31) dL_law_31 ?_
  refine x_iconst (pc := 32) dL_law_32 ?_
  refine x_isub (pc := 33) dL_law_33 ?_
  refine x_icmp_gt (pc := 34) 2779 dL_law_34 (by decide) (by unfold inI; omega) (by unfold inI; omega) (fun q => by exfalso; omega) (fun _ => ?_)
  refine k ?_
  refine x_iinc (pc := 2773) (lv' := [(5, _), (0, _), (1, _), (2, _), (3, _), (4, _)]) dL_law_2773 0 rfl (by decide) rfl ?_
  refine x_goto (pc := 2776) 28 dL_law_2776 (by decide) ?_
  exact q
theorem law_loop {G : GG} (hL : gV G 8 ≤ 2560) : ∀ (n : Nat) (m : Mem) (K c0 s0 : Nat) (i : Int), IV m K → K + n ≤ 600 → 0 ≤ i ∧ i ≤ 5000 - 5 * n → (gV G 8 : Nat) ≤ i + 5 * n + 4 → c0 + n ≤ 400000 → s0 + 6 * n ≤ 6000000 → ∃ h', X G ML_law room_1 28 (lvL G i) [] (hp m) c0 s0 (.inl (some (.int (iI 1)))) h' := by
  intro n
  induction n with
  | zero =>
    intro m K c0 s0 i h hK h0 hn hc hs
    exact ⟨hp m, law_end hL (by omega) (by omega) (by omega) (by omega)⟩
  | succ n ih =>
    intro m K c0 s0 i h hK h0 hn hc hs
    by_cases g : (gV G 8 : Nat) < i + 5
    · exact ⟨hp m, law_end hL (by omega) g (by omega) (by omega)⟩
    · obtain ⟨m2, hI, kk⟩ := law_turn (G := G) h (by omega) (i := i) (by omega) (by omega) (c0 := c0) (s0 := s0) (by omega) (by omega)
      obtain ⟨h', q⟩ := ih m2 (K + 1) (c0 + 1) (s0 + 6) (i + 5) hI (by omega) (by omega) (by omega) (by omega) (by omega)
      exact ⟨h', law_step hL h0.1 (by omega) kk q⟩
