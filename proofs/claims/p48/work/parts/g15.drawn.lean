/-! drawn: its start -/
theorem DW.ini {G : GG} {h H : Hp} {a b v0 cap : Nat} {B0 : Nat → Nat} (hB : BB h b v0 cap []) (hn : ∃ n, h.2.2.2 = some n) (fa : fre h a) (I : IW G (nw h 51 a) a 7 B0 H) : DW G h H a n0 (B0, (fun _ => 0), (fun _ => gV G 15), fun _ _ => 0) (fun i => i = a ∨ ∃ j, j < 7 ∧ i = B0 j) (fun _ => False) b v0 [] := by
  have F0 : Fr (fun _ => False) h H := (Fr_nw (Fr.rf hn) (by decide) fa).tr I.2.1 (fun i hi => .inr (by rw [hi]; exact fa))
  have F1 : Fr (fun i => i = b ∨ i = v0) h H := (Fr_nw (Fr.rf hn) (by decide) fa).tr I.2.1 (fun i hi => .inr (by rw [hi]; exact fa))
  have f2 : ∀ j, j < 7 → fre h (B0 j) := fun j hj k hk z => (I.2.2.2 j hj).2.2.2.2.1 k hk (nw_old z)
  have m2 : ∀ j, j < 7 → (56, B0 j) ∈ H.1 := fun j hj => (I.2.2.2 j hj).1
  refine ⟨I.wn (fun i hi => ⟨id, ?_⟩) (.inl rfl) (fun j hj => .inr ⟨j, hj, rfl⟩), fun x hx => ?_, ⟨v0, cap, hB.fr F0 id id, .inl rfl⟩, F1⟩
  · rcases hi with rfl | ⟨j, hj, rfl⟩
    · exact ⟨51, by decide, I.1⟩
    · exact ⟨56, by decide, m2 j hj⟩
  · rcases hx with (rfl | ⟨j, hj, rfl⟩) | z
    · exact ⟨fa, 51, by decide, I.1, by decide, fun c => by unfold ak; omega⟩
    · exact ⟨f2 j hj, 56, by decide, m2 j hj, by decide, fun c => by unfold ak; omega⟩
    · exact z.elim
theorem PR_st {f w : Int} (hf : 1 ≤ f ∧ f < 1000) (hw : 1 ≤ w ∧ w < 1000) : PR (((([] ++ lit 7) ++ dg f) ++ [32]) ++ dg w) (p0N f w) ∧ BY (((([] ++ lit 7) ++ dg f) ++ [32]) ++ dg w) ∧ (((([] ++ lit 7) ++ dg f) ++ [32]) ++ dg w).length ≤ 13 := by
  have hP := PR.first hf hw
  have eL : [112, 97, 99, 107, 115] ++ NS [f, w] = (((([] ++ lit 7) ++ dg f) ++ [32]) ++ dg w) := by simp only [lit_7, NS, List.append_assoc, List.cons_append, List.nil_append, List.append_nil]
  rw [eL] at hP
  exact ⟨hP, (((show BY ([] ++ lit 7) from BY_lit (by decide)).app (BY_dg (by omega) hf.2)).app BY_32).app (BY_dg (by omega) hw.2), lz (lz (lz (show ([] ++ lit 7).length ≤ 6 from Nat.le_of_eq lit_l7) (dg_len f).2 rfl) (show ([32] : List Int).length ≤ 1 from Nat.le_refl 1) rfl) (dg_len w).2 rfl⟩
theorem RC_st {f w : Int} : RC (p0N f w) ((0 : Nat) : Int) 0 0 0 0 0 := ⟨⟨p0N_o (by decide), p0N_o (by decide), p0N_o (by decide), p0N_o (by decide), p0N_o (by decide), p0N_o (by decide)⟩, p0N_o (by decide), p0N_o (by decide), fun c hc => absurd hc (by omega)⟩
theorem wn_f0 {G : GG} {h : Hp} {a : Nat} {f w : Int} {B : Bok} {S T : Nat → Prop} (W : WN G h a (p0N f w) B S T) : h.2.1 51 a 0 = f ∧ h.2.1 51 a 1 = w := by
  refine ⟨W.w0.trans ?_, W.w1.trans ?_⟩
  · unfold p0N; rw [upN_off (by decide), upN_at]
  · unfold p0N; rw [upN_at]
set_option maxRecDepth 20000 in
theorem cw_drawn {G : GG} {h : Hp} {b v0 cap : Nat} (hL : gV G 21 ≤ 300) (hB : BB h b v0 cap []) (hn : ∃ n, h.2.2.2 = some n) : Cy G ML_drawn (rmL 12 300 200000) [.ref (gV G 20), .int (iI 0), rf G 58 b] h (fun v h1 => ∃ a L N B S T, v = some (rf G 51 a) ∧ DW G h h1 a N B S T b v0 L ∧ PR L N ∧ L.length ≤ 420 ∧ BY L ∧ UC N ∧ N 9 = 0 ∧ N 2 = 0) := by
  refine o_entry (by decide +kernel) mwL_drawn rfl (Nat.le_of_ble_eq_true rfl) ?_
  show YY G ML_drawn (rmL 12 300 200000) 0 [(0, .ref (gV G 20)), (1, .int (iI 0)), (2, rf G 58 b)] [] h 0 0 _
  refine o_sizeD (fun a ha => ?_) hn
  refine o_new (pc := 0) (k := 51) dL_drawn_0 ncL_27 rfl (by decide) ha (Nat.le_of_ble_eq_true rfl) (Nat.le_of_ble_eq_true rfl) (fun fa => ?_)
  refine o_dup (pc := 3) dL_drawn_3 rfl ?_
  refine o_callIN (pc := 4) _ dL_drawn_4 (cw_init nw_in (fun f _ => congrFun nw_m _) ⟨_, rfl⟩) lkL_29 rfl rfl ⟨⟨(Nat.le_of_ble_eq_true rfl), (Nat.le_of_ble_eq_true rfl)⟩, (Nat.le_of_ble_eq_true rfl), (Nat.le_of_ble_eq_true rfl)⟩ (Nat.le_of_ble_eq_true rfl) rfl (fun v H9 hq => ?_)
  obtain ⟨rfl, B0, I⟩ := hq
  have Dn := DW.ini hB hn fa I
  refine o_astore_n (pc := 7) (lv' := [(3, _), (0, _), (1, _), (2, _)]) dL_drawn_7 rfl (by decide) rfl ?_
  refine o_aload_n (pc := 8) dL_drawn_8 1 rfl ?_
  refine o_iload_n (pc := 9) dL_drawn_9 2 rfl ?_
  refine o_callS (pc := 10) _ dL_drawn_10 (cw_at hL (k := 0) (by omega)) lkL_30 rfl ⟨⟨(Nat.le_of_ble_eq_true rfl), (Nat.le_of_ble_eq_true rfl)⟩, (Nat.le_of_ble_eq_true rfl), (Nat.le_of_ble_eq_true rfl)⟩ (Nat.le_of_ble_eq_true rfl) rfl (fun v h1 hq => ?_)
  obtain ⟨x, rfl, hx, e2⟩ := hq
  obtain rfl := e2.symm
  obtain ⟨fd, hfd, f1⟩ : ∃ f : Int, 1 + x % 200 = f ∧ 1 ≤ f ∧ f < 1000 := ⟨_, rfl, by omega, by omega⟩
  obtain ⟨wo, hwo, g1⟩ : ∃ f : Int, 1 + x / 256 % 60 = f ∧ 1 ≤ f ∧ f < 1000 := ⟨_, rfl, by omega, by omega⟩
  have qfd : 0 ≤ fd ∧ fd < 1000 := by omega
  have qwo : 0 ≤ wo ∧ wo < 1000 := by omega
  refine o_uq (fun un => ?_)
  refine o_istore (pc := 13) (lv' := [(4, _), (3, _), (0, _), (1, _), (2, _)]) dL_drawn_13 (by decide) rfl ?_
  refine o_aload_n (pc := 15) dL_drawn_15 1 rfl ?_
  refine o_iconst (pc := 16) dL_drawn_16 ?_
  refine o_iload (pc := 17) dL_drawn_17 0 rfl ?_
  refine o_sipush (pc := 19) (z := 200) dL_drawn_19 (by decide) ?_
  refine o_irem (pc := 22) dL_drawn_22 (by omega) (by omega) ?_
  refine o_iadd (pc := 23) dL_drawn_23 ?_
  refine o_topI (y := fd) hfd ?_
  refine o_pI (pc := 24) (j := 0) dL_drawn_24 fwL_36 rfl rfl Dn.1.mW ?_
  have Da := Dn.wr un (Fr_hset (Fr.rf Dn.n) (by decide) (.inl Dn.1.sA)) (Dn.1.setH 0 fd) (fun x hx => .inl hx)
  refine o_uq (fun ua => ?_)
  refine o_aload_n (pc := 27) dL_drawn_27 1 rfl ?_
  refine o_iconst (pc := 28) dL_drawn_28 ?_
  refine o_iload (pc := 29) dL_drawn_29 0 rfl ?_
  refine o_sipush (pc := 31) (z := 256) dL_drawn_31 (by decide) ?_
  refine o_idiv (pc := 34) dL_drawn_34 (by omega) (by omega) ?_
  refine o_bipush (pc := 35) (z := 60) dL_drawn_35 (by decide) ?_
  refine o_irem (pc := 37) dL_drawn_37 (by omega) (by omega) ?_
  refine o_iadd (pc := 38) dL_drawn_38 ?_
  refine o_topI (y := wo) hwo ?_
  refine o_pI (pc := 39) (j := 1) dL_drawn_39 fwL_40 rfl rfl Dn.1.mW ?_
  have D0 : DW G h _ a (p0N fd wo) _ _ _ b v0 [] := Da.wr ua (Fr_hset (Fr.rf Da.n) (by decide) (.inl Da.1.sA)) (Da.1.setH 1 wo) (fun x hx => .inl hx)
  refine o_uq (fun u0 => ?_)
  obtain ⟨y0, q0, B0, hv0⟩ := D0.2.2.1
  have z0 : ([] : List Int).length ≤ 0 := Nat.le_refl 0
  refine o_aload_n (pc := 42) dL_drawn_42 4 rfl ?_
  refine o_ldcS (pc := 43) "packs " 7 dL_drawn_43 (by decide +kernel) ?_
  refine o_callV (pc := 45) _ dL_drawn_45 (cb_addS (t := 7) B0 D0.n (Nat.le_trans z0 (Nat.le_of_ble_eq_true rfl)) (by decide)) lkL_45 rfl rfl rfl rfl B0.1 ⟨⟨(Nat.le_of_ble_eq_true rfl), (Nat.le_of_ble_eq_true rfl)⟩, (Nat.le_of_ble_eq_true rfl), (Nat.le_of_ble_eq_true rfl)⟩ (Nat.le_of_ble_eq_true rfl) rfl (fun v H1 hq => ?_)
  obtain ⟨rfl, y1, q1, B1, G1, w1⟩ := hq
  refine o_uq (fun u1 => ?_)
  obtain ⟨D1, hv1⟩ := D0.app u0 B0 hv0 B1 G1 w1
  have z1 := lz (m' := 6) z0 (Nat.le_of_eq lit_l7) rfl
  refine o_aload_n (pc := 48) dL_drawn_48 1 rfl ?_
  refine o_gI (pc := 49) (j := 0) dL_drawn_49 flL_36 rfl rfl D1.1.mW (wn_f0 D1.1).1 ?_
  refine o_topI (y := fd) rfl ?_
  refine o_callV (pc := 52) _ dL_drawn_52 (cb_addI B1 D1.n (Nat.le_trans z1 (Nat.le_of_ble_eq_true rfl)) (n := fd) qfd.1 qfd.2) lkL_50 rfl rfl rfl rfl B1.1 ⟨⟨(Nat.le_of_ble_eq_true rfl), (Nat.le_of_ble_eq_true rfl)⟩, (Nat.le_of_ble_eq_true rfl), (Nat.le_of_ble_eq_true rfl)⟩ (Nat.le_of_ble_eq_true rfl) rfl (fun v H2 hq => ?_)
  obtain ⟨rfl, y2, q2, B2, G2, w2⟩ := hq
  refine o_uq (fun u2 => ?_)
  obtain ⟨D2, hv2⟩ := D1.app u1 B1 hv1 B2 G2 w2
  have z2 := lz (m' := 9) z1 (dg_len fd).2 rfl
  refine o_bipush (pc := 55) (z := 32) dL_drawn_55 (by decide) ?_
  refine o_callV (pc := 57) _ dL_drawn_57 (cb_addC B2 D2.n (Nat.le_trans z2 (Nat.le_of_ble_eq_true rfl)) (z := 32) (by decide)) lkL_53 rfl rfl rfl rfl B2.1 ⟨⟨(Nat.le_of_ble_eq_true rfl), (Nat.le_of_ble_eq_true rfl)⟩, (Nat.le_of_ble_eq_true rfl), (Nat.le_of_ble_eq_true rfl)⟩ (Nat.le_of_ble_eq_true rfl) rfl (fun v H3 hq => ?_)
  obtain ⟨rfl, y3, q3, B3, G3, w3⟩ := hq
  refine o_uq (fun u3 => ?_)
  obtain ⟨D3, hv3⟩ := D2.app u2 B2 hv2 B3 G3 w3
  have z3 := lz (m' := 10) z2 (show ([32] : List Int).length ≤ 1 from Nat.le_refl 1) rfl
  refine o_aload_n (pc := 60) dL_drawn_60 1 rfl ?_
  refine o_gI (pc := 61) (j := 1) dL_drawn_61 flL_40 rfl rfl D3.1.mW (wn_f0 D3.1).2 ?_
  refine o_topI (y := wo) rfl ?_
  refine o_callV (pc := 64) _ dL_drawn_64 (cb_addI B3 D3.n (Nat.le_trans z3 (Nat.le_of_ble_eq_true rfl)) (n := wo) qwo.1 qwo.2) lkL_50 rfl rfl rfl rfl B3.1 ⟨⟨(Nat.le_of_ble_eq_true rfl), (Nat.le_of_ble_eq_true rfl)⟩, (Nat.le_of_ble_eq_true rfl), (Nat.le_of_ble_eq_true rfl)⟩ (Nat.le_of_ble_eq_true rfl) rfl (fun v H4 hq => ?_)
  obtain ⟨rfl, y4, q4, B4, G4, w4⟩ := hq
  refine o_uq (fun u4 => ?_)
  obtain ⟨D4, hv4⟩ := D3.app u3 B3 hv3 B4 G4 w4
  have z4 := lz (m' := 13) z3 (dg_len wo).2 rfl
  refine o_pop (pc := 67) dL_drawn_67 rfl ?_
  refine o_iconst (pc := 68) dL_drawn_68 ?_
  refine o_istore (pc := 69) (lv' := [(5, _), (4, _), (3, _), (0, _), (1, _), (2, _)]) dL_drawn_69 (by decide) rfl ?_
  obtain ⟨hP, hb, hl⟩ := PR_st f1 g1
  have e8 : (x / 16384 % 3).toNat ≤ 2 := by omega
  refine o_post (o_lv [3, 4, 5, 2, 1, 0] rfl (lp_crv hL hB.1 hx (x / 16384 % 3).toNat (k := 0) D4 hP hb RC_st (by omega) (by omega) (by simp only [rmL, List.length_cons, List.length_nil, Nat.add_assoc, Nat.reduceAdd, Nat.add_zero, Nat.zero_add]; omega) (by simp only [rmL, List.length_cons, List.length_nil, Nat.add_assoc, Nat.reduceAdd, Nat.add_zero, Nat.zero_add]; omega))) (fun v h1 hq => ⟨a, hq⟩)
