/-! serve from its start; pass -/
theorem WN.h57 {G : GG} {h : Hp} {a : Nat} {N : Int → Int} {B : Bok} {S T : Nat → Prop} {i : Nat} {j z : Int} (hW : WN G h a N B S T) : WN G (hset h 57 i j z) a N B S T := by
  obtain ⟨w1, w2, w3, w4, w5, w6, w7, w8, w9⟩ := hW
  refine ⟨w1, fun f hf => ?_, w3, fun j' hj' => ⟨(w4 j' hj').1, (w4 j' hj').2.hset (by decide)⟩, fun j' hj' q' hq' f' hf' => ?_, w6, w7, w8, w9⟩
  · rw [hset_off (fun e => by omega)]
    exact w2 f hf
  · rw [hset_off (fun e => pk_n57 j' e.1)]
    exact w5 j' hj' q' hq' f' hf'
theorem betN_u {N : Int → Int} {i v a b : Int} (hi : 158 ≤ i) (h5 : 0 ≤ N 5 ∧ N 5 ≤ 12) : betN (upN N i v) a b = betN N a b := by
  unfold betN
  rw [upN_off (by omega)]
  exact betF_congr a b _ 0 (fun c' c0 c1 => ⟨upN_off (by omega), upN_off (by omega)⟩)
theorem trN_hd {N : Int → Int} {t j : Int} (hj : 0 ≤ j ∧ j < 10) (ht : 0 ≤ t) (hq : 0 ≤ N (206 + 4 * t + 0)) : trN N t j = N j := by
  have e2 : trN2 N t j = N j := by
    have b : trS N t = 1 ∨ trS N t = 2 := by unfold trS; split <;> omega
    unfold trN2 trN1
    rw [upN_off (by omega), upN_off (by omega)]
  unfold trN trN3
  split
  · split
    · rw [giveN_lo hq (by omega) (by omega) (by omega), upN_off (by omega), e2]
    · exact e2
  · rfl
theorem shNL_hd {j t : Int} (hj : 0 ≤ j ∧ j < 10) : ∀ (n : Nat) (N : Int → Int) (q : Int), 0 ≤ q → shNL N t q n j = N j := by
  intro n
  induction n with
  | zero => intro N q hq; rfl
  | succ n ih =>
    intro N q hq
    show shNL (shN1 N t q) t (q + 1) n j = _
    rw [ih _ _ (by omega), shN1_lo hq (by omega) (by omega) (by omega)]
theorem trNL_hd {j : Int} (hj : 0 ≤ j ∧ j < 10) : ∀ (n : Nat) (N : Int → Int) (t : Int), GN N → 0 ≤ t → t + n ≤ N 7 → trNL N t n j = N j := by
  intro n
  induction n with
  | zero => intro N t hg ht hn; rfl
  | succ n ih =>
    intro N t hg ht hn
    have q0 := (hg.trip ht (by omega)).1.1
    have q7 : trN N t 7 = N 7 := trN_hd (by omega) ht q0
    show trNL (trN N t) (t + 1) n j = _
    rw [ih _ _ (hg.tr ht (by omega)) (by omega) (by rw [q7]; omega), trN_hd hj ht q0]
theorem GN.t1 {N : Int → Int} (h : GN N) : GN (tn1 N) := by
  obtain ⟨m, p, s, a, b, c, d⟩ := h
  have f := tk_facts a b
  have r := R_tk a b c d
  exact ⟨tk1 m p s, p, s, f.2.1.1, f.2.1.2, r.2.1.1, r.2.1.2⟩
theorem GN.t3 {N : Int → Int} (h : GN N) : G8 (tn3 N) := by
  obtain ⟨m, p, s, a, b, c, d⟩ := h
  have f := tk_facts a b
  have r := R_tk a b c d
  exact ⟨tk2 m p s, p, s, f.2.2.1.1, f.2.2.1.2.1, f.2.2.1.2.2, r.2.2.2.1.1, r.2.2.2.1.2.1, r.2.2.2.1.2.2⟩
theorem cw_serve {G : GG} {h : Hp} {a : Nat} {N : Int → Int} {B : Bok} {S T : Nat → Prop} (hW : WN G h a N B S T) {l : Nat} (hl : (l : Int) < N 9) (hg : G8 N) (hn : ∃ n, h.2.2.2 = some n) : Cy G MX12_serve (rmL 6 1 4) [rf G 51 a, rf G 55 (bE B 6 l)] h (fun v h1 => v = none ∧ WN G h1 a (lnN N l) B S T ∧ Fg S h h1) := by
  refine o_entry (by decide +kernel) mwX12_serve rfl (Nat.le_of_ble_eq_true rfl) ?_
  show YY G MX12_serve (rmL 6 1 4) 0 [(0, rf G 51 a), (1, rf G 55 (bE B 6 l))] [] h 0 0 _
  have gn := hg.gn
  have n9 := hW.nb 6
  change 0 ≤ N 9 ∧ N 9 ≤ 16 at n9
  have n8 := hW.nb 5
  change 0 ≤ N 8 ∧ N 8 ≤ 8 at n8
  have n3 := hW.nb 3
  change 0 ≤ N 3 ∧ N 3 ≤ 8 at n3
  have n5 := hW.nb 4
  change 0 ≤ N 5 ∧ N 5 ≤ 12 at n5
  have LL := gn.ln (q := (l : Int)) (by omega) hl
  obtain ⟨l1, l2, l3, l4, l5, l6, l7⟩ := id LL
  have LG := gn.loan (l := (l : Int)) (by omega) hl
  have TM := gn.time
  obtain ⟨k, x, y, c, fk, fx, fy, fc, hk, hx, hy, hc⟩ := hg.loan (l := (l : Int)) (by omega) hl
  refine o_aload_n (pc := 0) dX12_serve_0 0 rfl ?_
  refine o_gR (pc := 1) (j := 12) (56) ((B.1 5)) dX12_serve_1 flX12_35 rfl rfl hW.mW (hW.r 5) ?_
  refine o_aload_n (pc := 4) dX12_serve_4 1 rfl ?_
  refine o_gI (pc := 5) (j := 0) dX12_serve_5 flX12_163 rfl rfl (hW.mE 6 hl) ((hW.n0 hl).trans fk) ?_
  refine o_callV (pc := 8) _ dX12_serve_8 (hW.get 5 hk) lkX12_124 rfl rfl rfl rfl (hW.l 5).1 ⟨⟨(Nat.le_of_ble_eq_true rfl), (Nat.le_of_ble_eq_true rfl)⟩, (Nat.le_of_ble_eq_true rfl), (Nat.le_of_ble_eq_true rfl)⟩ (Nat.le_of_ble_eq_true rfl) rfl (fun v h2 hq2 => ?_)
  obtain ⟨rfl, rfl⟩ := hq2
  show YY _ _ _ _ _ (rf G 54 (bE B 5 k) :: _) _ _ _ _
  refine o_castO (pc := 11) dX12_serve_11 clX12_96 rfl rfl (hW.mE 5 hk) ?_
  refine o_astore_n (pc := 14) (lv' := [(2, _), (0, _), (1, _)]) dX12_serve_14 rfl (by decide) rfl ?_
  refine o_aload_n (pc := 15) dX12_serve_15 1 rfl ?_
  refine o_gR (pc := 16) (j := 10) (56) ((B.1 3)) dX12_serve_16 flX12_29 rfl rfl hW.mW (hW.r 3) ?_
  refine o_aload_n (pc := 19) dX12_serve_19 0 rfl ?_
  refine o_gI (pc := 20) (j := 0) dX12_serve_20 flX12_187 rfl rfl (hW.mE 5 hk) ((hW.k0 hk).trans fx) ?_
  refine o_callV (pc := 23) _ dX12_serve_23 (hW.get 3 hx) lkX12_124 rfl rfl rfl rfl (hW.l 3).1 ⟨⟨(Nat.le_of_ble_eq_true rfl), (Nat.le_of_ble_eq_true rfl)⟩, (Nat.le_of_ble_eq_true rfl), (Nat.le_of_ble_eq_true rfl)⟩ (Nat.le_of_ble_eq_true rfl) rfl (fun v h2 hq2 => ?_)
  obtain ⟨rfl, rfl⟩ := hq2
  show YY _ _ _ _ _ (rf G 52 (bE B 3 x) :: _) _ _ _ _
  refine o_castO (pc := 26) dX12_serve_26 clX12_85 rfl rfl (hW.mE 3 hx) ?_
  refine o_astore_n (pc := 29) (lv' := [(3, _), (2, _), (0, _), (1, _)]) dX12_serve_29 rfl (by decide) rfl ?_
  refine o_aload_n (pc := 30) dX12_serve_30 2 rfl ?_
  refine o_gR (pc := 31) (j := 10) (56) ((B.1 3)) dX12_serve_31 flX12_29 rfl rfl hW.mW (hW.r 3) ?_
  refine o_aload_n (pc := 34) dX12_serve_34 1 rfl ?_
  refine o_gI (pc := 35) (j := 1) dX12_serve_35 flX12_228 rfl rfl (hW.mE 5 hk) ((hW.k1 hk).trans fy) ?_
  refine o_callV (pc := 38) _ dX12_serve_38 (hW.get 3 hy) lkX12_124 rfl rfl rfl rfl (hW.l 3).1 ⟨⟨(Nat.le_of_ble_eq_true rfl), (Nat.le_of_ble_eq_true rfl)⟩, (Nat.le_of_ble_eq_true rfl), (Nat.le_of_ble_eq_true rfl)⟩ (Nat.le_of_ble_eq_true rfl) rfl (fun v h2 hq2 => ?_)
  obtain ⟨rfl, rfl⟩ := hq2
  show YY _ _ _ _ _ (rf G 52 (bE B 3 y) :: _) _ _ _ _
  refine o_castO (pc := 41) dX12_serve_41 clX12_85 rfl rfl (hW.mE 3 hy) ?_
  refine o_astore (pc := 44) (lv' := [(4, _), (3, _), (2, _), (0, _), (1, _)]) dX12_serve_44 (by decide) rfl ?_
  refine o_aload_n (pc := 46) dX12_serve_46 3 rfl ?_
  refine o_aload_n (pc := 47) dX12_serve_47 2 rfl ?_
  refine o_gI (pc := 48) (j := 0) dX12_serve_48 flX12_187 rfl rfl (hW.mE 5 hk) ((hW.k0 hk).trans fx) ?_
  refine o_aload_n (pc := 51) dX12_serve_51 2 rfl ?_
  refine o_gI (pc := 52) (j := 1) dX12_serve_52 flX12_228 rfl rfl (hW.mE 5 hk) ((hW.k1 hk).trans fy) ?_
  refine o_callV (pc := 55) _ dX12_serve_55 (cw_cable hW (x := (x : Int)) (y := (y : Int)) (by unfold inI; omega) (by unfold inI; omega) gn.su hn) lkX12_231 rfl rfl rfl rfl hW.mW ⟨⟨(Nat.le_of_ble_eq_true rfl), (Nat.le_of_ble_eq_true rfl)⟩, (Nat.le_of_ble_eq_true rfl), (Nat.le_of_ble_eq_true rfl)⟩ (Nat.le_of_ble_eq_true rfl) rfl (fun v h1 hq2 => ?_)
  obtain ⟨rfl, hF⟩ := hq2
  rw [fc, if_neg (by omega), Int.toNat_natCast]
  have hW1 := hW.fr0 hF
  refine o_astore (pc := 58) (lv' := [(5, _), (4, _), (3, _), (2, _), (0, _), (1, _)]) dX12_serve_58 (by decide) rfl ?_
  refine o_aload_n (pc := 60) dX12_serve_60 5 rfl ?_
  refine o_gI (pc := 61) (j := 5) dX12_serve_61 flX12_147 rfl rfl (hW1.mE 6 hl) (hW1.n5 hl) ?_
  refine o_iconst (pc := 64) dX12_serve_64 ?_
  refine o_icmp_ge (pc := 65) 84 dX12_serve_65 (by decide) (by unfold inI; omega) (by unfold inI; omega) (fun c_65 => ?_) (fun c_65 => ?_)
  · have eN : lnA' N l = N := if_neg (by omega)
    exact o_lv [4, 5, 3, 2, 1, 0] rfl (o_post (sv_84 hW1 (Fg.f0 (Fg.rf hn) hF) hg hl fk fx fy fc hk hx hy hc) (fun v h2 q => by unfold lnN; rw [eN]; exact q))
  · refine o_aload_n (pc := 68) dX12_serve_68 4 rfl ?_
    refine o_gI (pc := 69) (j := 2) dX12_serve_69 flX12_42 rfl rfl hW1.mW hW1.w2 ?_
    refine o_aload_n (pc := 72) dX12_serve_72 5 rfl ?_
    refine o_gI (pc := 73) (j := 6) dX12_serve_73 flX12_235 rfl rfl (hW1.mE 6 hl) (hW1.n6 hl) ?_
    refine o_icmp_lt (pc := 76) 84 dX12_serve_76 (by decide) (by unfold inI; omega) (by unfold inI; omega) (fun c_76 => ?_) (fun c_76 => ?_)
    · have eN : lnA' N l = N := if_neg (by omega)
      exact o_lv [4, 5, 3, 2, 1, 0] rfl (o_post (sv_84 hW1 (Fg.f0 (Fg.rf hn) hF) hg hl fk fx fy fc hk hx hy hc) (fun v h2 q => by unfold lnN; rw [eN]; exact q))
    · refine o_aload_n (pc := 79) dX12_serve_79 5 rfl ?_
      refine o_iconst (pc := 80) dX12_serve_80 ?_
      refine o_pI (pc := 81) (j := 5) dX12_serve_81 fwX12_147 rfl rfl (hW1.mE 6 hl) ?_
      have hW2 := (hW1.setE 6 hl 5 2).to (N' := lnA' N l) (if_pos ⟨by omega, by omega⟩).symm
      have eL : ∀ j, j ≠ 318 + 7 * (l : Int) + 5 → lnA' N l j = N j := fun j j1 => by { unfold lnA'; rw [if_pos ⟨by omega, by omega⟩, upN_off j1] }
      have e6 : betN (lnA' N l) x y = c := by { unfold lnA'; rw [if_pos ⟨by omega, by omega⟩, betN_u (by omega) n5]; exact fc }
      exact o_lv [4, 5, 3, 2, 1, 0] rfl (sv_84 hW2 (Fg_hset (Fg.f0 (Fg.rf hn) hF) (by decide) (.inl (hW.sE 6 hl))) (hg.lnA (by omega) hl) (by rw [eL _ (by omega)]; exact hl) (by rw [eL _ (by omega)]; exact fk) (by rw [eL _ (by omega)]; exact fx) (by rw [eL _ (by omega)]; exact fy) e6 (by rw [eL _ (by omega)]; exact hk) (by rw [eL _ (by omega)]; exact hx) (by rw [eL _ (by omega)]; exact hy) (by rw [eL _ (by omega)]; exact hc))
theorem lp_trips {G : GG} {h : Hp} {a : Nat} {N : Int → Int} {B : Bok} {S T : Nat → Prop} (hW : WN G h a N B S T) {it : Nat} (hf : fre h it) {Nz : Int → Int} {Q : PP} (kk : ∀ h2, WN G h2 a Nz B S T → Fg S h h2 → YY G MX12_pass (rmL 7 27 108) 39 [(0, rf G 51 a)] [] h2 9 36 Q) : ∀ (n : Nat) {h1 : Hp} {N1 : Int → Int} {cur : Nat} (hF : Fg S h h1) (hW1 : WN G h1 a N1 B S T) (hg : GN N1) (hI : IT h1 it (B.1 2) cur) (hc : cur + n = (nj N1 2).toNat) (hz : Nz = trNL N1 cur n), YY G MX12_pass (rmL 7 27 108) 12 [(0, rf G 51 a), (1, rf G 57 it)] [] h1 9 36 Q := by
  intro n
  induction n with
  | zero =>
    intro h1 N1 cur hF hW1 hg hI hc hz
    refine o_aload_n (pc := 12) dX12_pass_12 1 rfl ?_
    refine o_callF (pc := 13) (q := (RJx35411, TJx35411, 4)) _ dX12_pass_13 (cl_hasNext (hW1.l 2) hI (by omega)) lfX12_66 (fun s hs => hs.2.2.2.2.2.2.2.2.2.2.1) rfl rfl rfl hI.1 ⟨⟨(Nat.le_of_ble_eq_true rfl), (Nat.le_of_ble_eq_true rfl)⟩, (Nat.le_of_ble_eq_true rfl), (Nat.le_of_ble_eq_true rfl)⟩ (Nat.le_of_ble_eq_true rfl) rfl (fun v h2 hq2 => ?_)
    obtain ⟨rfl, rfl⟩ := hq2
    rw [if_pos (by omega)]
    refine o_if_eq (pc := 18) 39 dX12_pass_18 (by decide) (by unfold inI; omega) (fun c_18 => ?_) (fun c_18 => (by exfalso; omega))
    exact o_lv [0] rfl (kk _ (hW1.to hz.symm) hF)
  | succ n ih =>
    intro h1 N1 cur hF hW1 hg hI hc hz
    have hq : (cur : Int) < nj N1 2 := by omega
    have hc2 : cur + 1 + n = (N1 7).toNat := by { have e : (nj N1 2).toNat = (N1 7).toNat := rfl; omega }
    refine o_aload_n (pc := 12) dX12_pass_12 1 rfl ?_
    refine o_callF (pc := 13) (q := (RJx35411, TJx35411, 4)) _ dX12_pass_13 (cl_hasNext (hW1.l 2) hI (by omega)) lfX12_66 (fun s hs => hs.2.2.2.2.2.2.2.2.2.2.1) rfl rfl rfl hI.1 ⟨⟨(Nat.le_of_ble_eq_true rfl), (Nat.le_of_ble_eq_true rfl)⟩, (Nat.le_of_ble_eq_true rfl), (Nat.le_of_ble_eq_true rfl)⟩ (Nat.le_of_ble_eq_true rfl) rfl (fun v h2 hq2 => ?_)
    obtain ⟨rfl, rfl⟩ := hq2
    rw [if_neg (by omega)]
    refine o_if_eq (pc := 18) 39 dX12_pass_18 (by decide) (by unfold inI; omega) (fun c_18 => (by exfalso; omega)) (fun c_18 => ?_)
    refine o_aload_n (pc := 21) dX12_pass_21 1 rfl ?_
    refine o_callF (pc := 22) (q := (RJx35411, TJx35411, 4)) _ dX12_pass_22 (cl_next (hW1.l 2) hI (by omega)) lfX12_72 (fun s hs => hs.2.2.2.2.2.2.2.2.2.2.2.1) rfl rfl rfl hI.1 ⟨⟨(Nat.le_of_ble_eq_true rfl), (Nat.le_of_ble_eq_true rfl)⟩, (Nat.le_of_ble_eq_true rfl), (Nat.le_of_ble_eq_true rfl)⟩ (Nat.le_of_ble_eq_true rfl) rfl (fun v h2 hq2 => ?_)
    obtain ⟨rfl, rfl⟩ := hq2
    have hF2 := Fg_hset (k := 57) (i := it) (j := 1) (z := (cur : Int)) (Fg_hset (k := 57) (i := it) (j := 0) (z := (cur : Int) + 1) hF (by decide) (.inr hf)) (by decide) (.inr hf)
    have hI2 := hI.next
    have hW2 := (hW1.h57 (i := it) (j := 0) (z := (cur : Int) + 1)).h57 (i := it) (j := 1) (z := (cur : Int))
    show YY _ _ _ _ _ (rf G (ak 0 4) (bE B 2 cur) :: _) _ _ _ _
    refine o_castI (pc := 27) dX12_pass_27 clX12_76 (shp_ak (by decide)) (hW2.mE 2 hq) ?_
    refine o_astore_n (pc := 30) (lv' := [(2, _), (0, _), (1, _)]) dX12_pass_30 rfl (by decide) rfl ?_
    refine o_aload_n (pc := 31) dX12_pass_31 1 rfl ?_
    refine o_aload_n (pc := 32) dX12_pass_32 0 rfl ?_
    refine o_callV (pc := 33) _ dX12_pass_33 (cw_travel hW2 hq hg hF2.n) lkX12_253 rfl rfl rfl rfl hW2.mW ⟨⟨(Nat.le_of_ble_eq_true rfl), (Nat.le_of_ble_eq_true rfl)⟩, (Nat.le_of_ble_eq_true rfl), (Nat.le_of_ble_eq_true rfl)⟩ (Nat.le_of_ble_eq_true rfl) rfl (fun v h2 hq2 => ?_)
    obtain ⟨rfl, hW3, hF3⟩ := hq2
    have e7 : trN N1 cur 7 = N1 7 := trN_hd (by omega) (by omega) (hg.trip (by omega) hq).1.1
    refine o_goto (pc := 36) 12 dX12_pass_36 (by decide) ?_
    exact o_lv [1, 2] rfl (ih (hF2.t hF3) hW3 (hg.tr (by omega) hq) (hI2.fg hF3 (hW2.l 2).1 (hW.sn hf)) (by show cur + 1 + n = (trN N1 cur 7).toNat; rw [e7]; exact hc2) hz)
theorem lp_clear {G : GG} {h : Hp} {a : Nat} {N : Int → Int} {B : Bok} {S T : Nat → Prop} (hW : WN G h a N B S T) {it : Nat} (hf : fre h it) {Nz : Int → Int} {Q : PP} (kk : ∀ h2, WN G h2 a Nz B S T → Fg S h h2 → YY G MX12_pass (rmL 7 27 108) 74 [(0, rf G 51 a)] [] h2 10 40 Q) : ∀ (n : Nat) {h1 : Hp} {N1 : Int → Int} {cur : Nat} (hF : Fg S h h1) (hW1 : WN G h1 a N1 B S T) (hI : IT h1 it (B.1 4) cur) (hc : cur + n = (nj N1 4).toNat) (hz : Nz = clNL N1 cur n), YY G MX12_pass (rmL 7 27 108) 47 [(0, rf G 51 a), (1, rf G 57 it)] [] h1 10 40 Q := by
  intro n
  induction n with
  | zero =>
    intro h1 N1 cur hF hW1 hI hc hz
    refine o_aload_n (pc := 47) dX12_pass_47 1 rfl ?_
    refine o_callF (pc := 48) (q := (RJx35411, TJx35411, 4)) _ dX12_pass_48 (cl_hasNext (hW1.l 4) hI (by omega)) lfX12_66 (fun s hs => hs.2.2.2.2.2.2.2.2.2.2.1) rfl rfl rfl hI.1 ⟨⟨(Nat.le_of_ble_eq_true rfl), (Nat.le_of_ble_eq_true rfl)⟩, (Nat.le_of_ble_eq_true rfl), (Nat.le_of_ble_eq_true rfl)⟩ (Nat.le_of_ble_eq_true rfl) rfl (fun v h2 hq2 => ?_)
    obtain ⟨rfl, rfl⟩ := hq2
    rw [if_pos (by omega)]
    refine o_if_eq (pc := 53) 74 dX12_pass_53 (by decide) (by unfold inI; omega) (fun c_53 => ?_) (fun c_53 => (by exfalso; omega))
    exact o_lv [0] rfl (kk _ (hW1.to hz.symm) hF)
  | succ n ih =>
    intro h1 N1 cur hF hW1 hI hc hz
    have hq : (cur : Int) < nj N1 4 := by omega
    have hc2 : cur + 1 + n = (N1 5).toNat := by { have e : (nj N1 4).toNat = (N1 5).toNat := rfl; omega }
    refine o_aload_n (pc := 47) dX12_pass_47 1 rfl ?_
    refine o_callF (pc := 48) (q := (RJx35411, TJx35411, 4)) _ dX12_pass_48 (cl_hasNext (hW1.l 4) hI (by omega)) lfX12_66 (fun s hs => hs.2.2.2.2.2.2.2.2.2.2.1) rfl rfl rfl hI.1 ⟨⟨(Nat.le_of_ble_eq_true rfl), (Nat.le_of_ble_eq_true rfl)⟩, (Nat.le_of_ble_eq_true rfl), (Nat.le_of_ble_eq_true rfl)⟩ (Nat.le_of_ble_eq_true rfl) rfl (fun v h2 hq2 => ?_)
    obtain ⟨rfl, rfl⟩ := hq2
    rw [if_neg (by omega)]
    refine o_if_eq (pc := 53) 74 dX12_pass_53 (by decide) (by unfold inI; omega) (fun c_53 => (by exfalso; omega)) (fun c_53 => ?_)
    refine o_aload_n (pc := 56) dX12_pass_56 1 rfl ?_
    refine o_callF (pc := 57) (q := (RJx35411, TJx35411, 4)) _ dX12_pass_57 (cl_next (hW1.l 4) hI (by omega)) lfX12_72 (fun s hs => hs.2.2.2.2.2.2.2.2.2.2.2.1) rfl rfl rfl hI.1 ⟨⟨(Nat.le_of_ble_eq_true rfl), (Nat.le_of_ble_eq_true rfl)⟩, (Nat.le_of_ble_eq_true rfl), (Nat.le_of_ble_eq_true rfl)⟩ (Nat.le_of_ble_eq_true rfl) rfl (fun v h2 hq2 => ?_)
    obtain ⟨rfl, rfl⟩ := hq2
    have hF2 := Fg_hset (k := 57) (i := it) (j := 1) (z := (cur : Int)) (Fg_hset (k := 57) (i := it) (j := 0) (z := (cur : Int) + 1) hF (by decide) (.inr hf)) (by decide) (.inr hf)
    have hI2 := hI.next
    have hW2 := (hW1.h57 (i := it) (j := 0) (z := (cur : Int) + 1)).h57 (i := it) (j := 1) (z := (cur : Int))
    show YY _ _ _ _ _ (rf G 53 (bE B 4 cur) :: _) _ _ _ _
    refine o_castO (pc := 62) dX12_pass_62 clX12_91 rfl rfl (hW2.mE 4 hq) ?_
    refine o_astore_n (pc := 65) (lv' := [(2, _), (0, _), (1, _)]) dX12_pass_65 rfl (by decide) rfl ?_
    refine o_aload_n (pc := 66) dX12_pass_66 0 rfl ?_
    refine o_iconst (pc := 67) dX12_pass_67 ?_
    refine o_pI (pc := 68) (j := 4) dX12_pass_68 fwX12_212 rfl rfl (hW2.mE 4 hq) ?_
    have hW3 : WN G _ a (upN N1 (86 + 6 * (cur : Int) + 4) 0) B S T := hW2.setE 4 hq 4 0
    have hF3 := Fg_hset (k := 53) (j := ((4 : Nat) : Int)) (z := 0) hF2 (by decide) (.inl (hW1.sE 4 hq))
    have hI3 := hI2.fg (Fg_hset (k := 53) (i := bE B 4 cur) (j := ((4 : Nat) : Int)) (z := 0) (Fg.rf hF2.n) (by decide) (.inl (hW1.sE 4 hq))) (hW2.l 4).1 (hW.sn hf)
    refine o_goto (pc := 71) 47 dX12_pass_71 (by decide) ?_
    exact o_lv [1, 2] rfl (ih hF3 hW3 hI3 (by show cur + 1 + n = (upN N1 (86 + 6 * (cur : Int) + 4) 0 5).toNat; rw [upN_off (by omega)]; exact hc2) hz)
theorem G8.ln9 {N : Int → Int} (h : G8 N) {l : Int} (h0 : 0 ≤ l) (h1 : l < N 9) : lnN N l 9 = N 9 := by
  obtain ⟨m, p, s, a, b, c, d, e, f⟩ := h
  have h1' : l < m 2 s 0 := by rw [← e.1.2.2.2.2.2.2]; exact h1
  have y := R_ln a b c d e f h0 h1'
  rw [y.2.1.1.2.2.2.2.2.2, e.1.2.2.2.2.2.2, lnStep_k (by omega)]
theorem lp_serve {G : GG} {h : Hp} {a : Nat} {N : Int → Int} {B : Bok} {S T : Nat → Prop} (hW : WN G h a N B S T) {it : Nat} (hf : fre h it) {Nz : Int → Int} {Q : PP} (kk : ∀ h2 c0 s0, WN G h2 a Nz B S T → Fg S h h2 → c0 ≤ 27 → s0 ≤ 108 → YY G MX12_pass (rmL 7 27 108) 109 [(0, rf G 51 a)] [] h2 c0 s0 Q) : ∀ (n : Nat) {h1 : Hp} {N1 : Int → Int} {cur c0 s0 : Nat} (hF : Fg S h h1) (hW1 : WN G h1 a N1 B S T) (hg : G8 N1) (hI : IT h1 it (B.1 6) cur) (hc : cur + n = (nj N1 6).toNat) (hz : Nz = lnNL N1 cur n) (hcs : c0 + n ≤ 27) (hss : s0 + 4 * n ≤ 108), YY G MX12_pass (rmL 7 27 108) 82 [(0, rf G 51 a), (1, rf G 57 it)] [] h1 c0 s0 Q := by
  intro n
  induction n with
  | zero =>
    intro h1 N1 cur c0 s0 hF hW1 hg hI hc hz hcs hss
    refine o_aload_n (pc := 82) dX12_pass_82 1 rfl ?_
    refine o_callF (pc := 83) (q := (RJx35411, TJx35411, 4)) _ dX12_pass_83 (cl_hasNext (hW1.l 6) hI (by omega)) lfX12_66 (fun s hs => hs.2.2.2.2.2.2.2.2.2.2.1) rfl rfl rfl hI.1 ⟨⟨by simp only [rmL]; omega, by simp only [rmL]; omega⟩, by simp only [rmL]; omega, by simp only [rmL]; omega⟩ (Nat.le_of_ble_eq_true rfl) rfl (fun v h2 hq2 => ?_)
    obtain ⟨rfl, rfl⟩ := hq2
    rw [if_pos (by omega)]
    refine o_if_eq (pc := 88) 109 dX12_pass_88 (by decide) (by unfold inI; omega) (fun c_88 => ?_) (fun c_88 => (by exfalso; omega))
    exact o_lv [0] rfl (kk _ _ _ (hW1.to hz.symm) hF hcs hss)
  | succ n ih =>
    intro h1 N1 cur c0 s0 hF hW1 hg hI hc hz hcs hss
    have hq : (cur : Int) < nj N1 6 := by omega
    have hc2 : cur + 1 + n = (N1 9).toNat := by { have e : (nj N1 6).toNat = (N1 9).toNat := rfl; omega }
    refine o_aload_n (pc := 82) dX12_pass_82 1 rfl ?_
    refine o_callF (pc := 83) (q := (RJx35411, TJx35411, 4)) _ dX12_pass_83 (cl_hasNext (hW1.l 6) hI (by omega)) lfX12_66 (fun s hs => hs.2.2.2.2.2.2.2.2.2.2.1) rfl rfl rfl hI.1 ⟨⟨by simp only [rmL]; omega, by simp only [rmL]; omega⟩, by simp only [rmL]; omega, by simp only [rmL]; omega⟩ (Nat.le_of_ble_eq_true rfl) rfl (fun v h2 hq2 => ?_)
    obtain ⟨rfl, rfl⟩ := hq2
    rw [if_neg (by omega)]
    refine o_if_eq (pc := 88) 109 dX12_pass_88 (by decide) (by unfold inI; omega) (fun c_88 => (by exfalso; omega)) (fun c_88 => ?_)
    refine o_aload_n (pc := 91) dX12_pass_91 1 rfl ?_
    refine o_callF (pc := 92) (q := (RJx35411, TJx35411, 4)) _ dX12_pass_92 (cl_next (hW1.l 6) hI (by omega)) lfX12_72 (fun s hs => hs.2.2.2.2.2.2.2.2.2.2.2.1) rfl rfl rfl hI.1 ⟨⟨by simp only [rmL]; omega, by simp only [rmL]; omega⟩, by simp only [rmL]; omega, by simp only [rmL]; omega⟩ (Nat.le_of_ble_eq_true rfl) rfl (fun v h2 hq2 => ?_)
    obtain ⟨rfl, rfl⟩ := hq2
    have hF2 := Fg_hset (k := 57) (i := it) (j := 1) (z := (cur : Int)) (Fg_hset (k := 57) (i := it) (j := 0) (z := (cur : Int) + 1) hF (by decide) (.inr hf)) (by decide) (.inr hf)
    have hI2 := hI.next
    have hW2 := (hW1.h57 (i := it) (j := 0) (z := (cur : Int) + 1)).h57 (i := it) (j := 1) (z := (cur : Int))
    show YY _ _ _ _ _ (rf G 55 (bE B 6 cur) :: _) _ _ _ _
    refine o_castO (pc := 97) dX12_pass_97 clX12_101 rfl rfl (hW2.mE 6 hq) ?_
    refine o_astore_n (pc := 100) (lv' := [(2, _), (0, _), (1, _)]) dX12_pass_100 rfl (by decide) rfl ?_
    refine o_aload_n (pc := 101) dX12_pass_101 1 rfl ?_
    refine o_aload_n (pc := 102) dX12_pass_102 0 rfl ?_
    refine o_callV (pc := 103) _ dX12_pass_103 (cw_serve hW2 hq hg hF2.n) lkX12_257 rfl rfl rfl rfl hW2.mW ⟨⟨by simp only [rmL]; omega, by simp only [rmL]; omega⟩, by simp only [rmL]; omega, by simp only [rmL]; omega⟩ (Nat.le_of_ble_eq_true rfl) rfl (fun v h2 hq2 => ?_)
    obtain ⟨rfl, hW3, hF3⟩ := hq2
    have e9 : lnN N1 cur 9 = N1 9 := hg.ln9 (by omega) hq
    refine o_goto (pc := 106) 82 dX12_pass_106 (by decide) ?_
    exact o_lv [1, 2] rfl (ih (hF2.t hF3) hW3 (hg.ln1 (by omega) hq) (hI2.fg hF3 (hW2.l 6).1 (hW.sn hf)) (by show cur + 1 + n = (lnN N1 cur 9).toNat; rw [e9]; exact hc2) hz (by simp only [rmL]; omega) (by simp only [rmL]; omega))
theorem ps_109 {G : GG} {h : Hp} {a : Nat} {N : Int → Int} {B : Bok} {S T : Nat → Prop} (hW : WN G h a N B S T) {h3 : Hp} {c0 s0 : Nat} (hW3 : WN G h3 a (tn4 N) B S T) (hF3 : Fg S h h3) (hcs : c0 ≤ 27) (hss : s0 ≤ 108) : YY G MX12_pass (rmL 7 27 108) 109 [(0, rf G 51 a)] [] h3 c0 s0 (fun v h1 => v = none ∧ WN G h1 a (tkN N) B S T ∧ Fg S h h1) := by
  refine o_aload_n (pc := 109) dX12_pass_109 0 rfl ?_
  refine o_dup (pc := 110) dX12_pass_110 rfl ?_
  refine o_gI (pc := 111) (j := 2) dX12_pass_111 flX12_42 rfl rfl hW3.mW hW3.w2 ?_
  refine o_iconst (pc := 114) dX12_pass_114 ?_
  refine o_iadd (pc := 115) dX12_pass_115 ?_
  refine o_pI (pc := 116) (j := 2) dX12_pass_116 fwX12_42 rfl rfl hW3.mW ?_
  exact o_vret (pc := 119) dX12_pass_119 rfl (by simp only [rmL]; omega) (by simp only [rmL]; omega) ⟨rfl, hW3.setH 2 _, Fg_hset hF3 (by decide) (.inl hW.sA)⟩
theorem tn2_hd {N : Int → Int} (hg : GN N) {j : Int} (hj : 0 ≤ j ∧ j < 10) : tn2 N j = N j := by
  have e7 : tn1 N 7 = N 7 := shNL_hd (by omega) _ N 0 (by omega)
  unfold tn2
  by_cases c : 0 ≤ N 7
  · rw [trNL_hd hj _ _ _ hg.t1 (by omega) (by omega)]
    exact shNL_hd hj _ N 0 (by omega)
  · rw [show (N 7).toNat = 0 by omega]
    exact shNL_hd hj _ N 0 (by omega)
theorem tn3_hd {N : Int → Int} (hg : GN N) {j : Int} (hj : 0 ≤ j ∧ j < 10) : tn3 N j = N j := by
  unfold tn3
  rw [clNL_ap _ _ _ (by omega), if_neg (by omega)]
  exact tn2_hd hg hj
theorem ps_74 {G : GG} {h : Hp} {a : Nat} {N : Int → Int} {B : Bok} {S T : Nat → Prop} (hW : WN G h a N B S T) (hg : GN N) {h3 : Hp} (hW3 : WN G h3 a (tn3 N) B S T) (hF3 : Fg S h h3) : YY G MX12_pass (rmL 7 27 108) 74 [(0, rf G 51 a)] [] h3 10 40 (fun v h1 => v = none ∧ WN G h1 a (tkN N) B S T ∧ Fg S h h1) := by
  refine o_aload_n (pc := 74) dX12_pass_74 0 rfl ?_
  refine o_gR (pc := 75) (j := 13) (56) ((B.1 6)) dX12_pass_75 flX12_38 rfl rfl hW3.mW (hW3.r 6) ?_
  refine o_callV (pc := 78) _ dX12_pass_78 (cl_iterator (hW3.l 6) hF3.n) lkX12_62 rfl rfl rfl rfl (hW3.l 6).1 ⟨⟨(Nat.le_of_ble_eq_true rfl), (Nat.le_of_ble_eq_true rfl)⟩, (Nat.le_of_ble_eq_true rfl), (Nat.le_of_ble_eq_true rfl)⟩ (Nat.le_of_ble_eq_true rfl) rfl (fun v h2 hq2 => ?_)
  obtain ⟨it, rfl, hf, hI, hF⟩ := hq2
  refine o_astore_n (pc := 81) (lv' := [(1, _), (0, _)]) dX12_pass_81 rfl (by decide) rfl ?_
  refine o_lv [1, 0] rfl (lp_serve (Nz := tn4 N) hW (Fr_fre hF3.1 hf) ?_ (nj (tn3 N) 6).toNat (hF3.f0 hF) (hW3.fr0 hF) hg.t3 hI (by omega) (by show lnNL _ _ _ = lnNL _ _ _; congr 1; exact congrArg Int.toNat (tn3_hd hg (by omega)).symm) (by have := hW3.nb 6; change 0 ≤ nj (tn3 N) 6 ∧ nj (tn3 N) 6 ≤ 16 at this; simp only [rmL]; omega) (by have := hW3.nb 6; change 0 ≤ nj (tn3 N) 6 ∧ nj (tn3 N) 6 ≤ 16 at this; simp only [rmL]; omega))
  intro h4 c0 s0 hW4 hF4 hcs hss
  exact ps_109 hW hW4 hF4 hcs hss
theorem ps_39 {G : GG} {h : Hp} {a : Nat} {N : Int → Int} {B : Bok} {S T : Nat → Prop} (hW : WN G h a N B S T) (hg : GN N) {h3 : Hp} (hW3 : WN G h3 a (tn2 N) B S T) (hF3 : Fg S h h3) (hn : ∃ n, h.2.2.2 = some n) : YY G MX12_pass (rmL 7 27 108) 39 [(0, rf G 51 a)] [] h3 9 36 (fun v h1 => v = none ∧ WN G h1 a (tkN N) B S T ∧ Fg S h h1) := by
  refine o_aload_n (pc := 39) dX12_pass_39 0 rfl ?_
  refine o_gR (pc := 40) (j := 11) (56) ((B.1 4)) dX12_pass_40 flX12_32 rfl rfl hW3.mW (hW3.r 4) ?_
  refine o_callV (pc := 43) _ dX12_pass_43 (cl_iterator (hW3.l 4) hF3.n) lkX12_62 rfl rfl rfl rfl (hW3.l 4).1 ⟨⟨(Nat.le_of_ble_eq_true rfl), (Nat.le_of_ble_eq_true rfl)⟩, (Nat.le_of_ble_eq_true rfl), (Nat.le_of_ble_eq_true rfl)⟩ (Nat.le_of_ble_eq_true rfl) rfl (fun v h2 hq2 => ?_)
  obtain ⟨it, rfl, hf, hI, hF⟩ := hq2
  refine o_astore_n (pc := 46) (lv' := [(1, _), (0, _)]) dX12_pass_46 rfl (by decide) rfl ?_
  refine o_lv [1, 0] rfl (lp_clear (Nz := tn3 N) hW (Fr_fre hF3.1 hf) ?_ (nj (tn2 N) 4).toNat (hF3.f0 hF) (hW3.fr0 hF) hI (by omega) (by show clNL _ _ _ = clNL _ _ _; congr 1; exact congrArg Int.toNat (tn2_hd hg (by omega)).symm))
  intro h4 hW4 hF4
  exact ps_74 hW hg hW4 hF4
theorem cw_pass {G : GG} {h : Hp} {a : Nat} {N : Int → Int} {B : Bok} {S T : Nat → Prop} (hW : WN G h a N B S T) (hg : GN N) (hn : ∃ n, h.2.2.2 = some n) : Cy G MX12_pass (rmL 7 27 108) [rf G 51 a] h (fun v h1 => v = none ∧ WN G h1 a (tkN N) B S T ∧ Fg S h h1) := by
  refine o_entry (by decide +kernel) mwX12_pass rfl (Nat.le_of_ble_eq_true rfl) ?_
  show YY G MX12_pass (rmL 7 27 108) 0 [(0, rf G 51 a)] [] h 0 0 _
  refine o_aload_n (pc := 0) dX12_pass_0 0 rfl ?_
  refine o_callV (pc := 1) _ dX12_pass_1 (cw_shine hW hg hn) lkX12_250 rfl rfl rfl rfl hW.mW ⟨⟨(Nat.le_of_ble_eq_true rfl), (Nat.le_of_ble_eq_true rfl)⟩, (Nat.le_of_ble_eq_true rfl), (Nat.le_of_ble_eq_true rfl)⟩ (Nat.le_of_ble_eq_true rfl) rfl (fun v h1 hq2 => ?_)
  obtain ⟨rfl, hW1, hF1⟩ := hq2
  refine o_aload_n (pc := 4) dX12_pass_4 0 rfl ?_
  refine o_gR (pc := 5) (j := 9) (56) ((B.1 2)) dX12_pass_5 flX12_26 rfl rfl hW1.mW (hW1.r 2) ?_
  refine o_callV (pc := 8) _ dX12_pass_8 (cl_iterator (hW1.l 2) hF1.n) lkX12_62 rfl rfl rfl rfl (hW1.l 2).1 ⟨⟨(Nat.le_of_ble_eq_true rfl), (Nat.le_of_ble_eq_true rfl)⟩, (Nat.le_of_ble_eq_true rfl), (Nat.le_of_ble_eq_true rfl)⟩ (Nat.le_of_ble_eq_true rfl) rfl (fun v h2 hq2 => ?_)
  obtain ⟨it, rfl, hf, hI, hF⟩ := hq2
  refine o_astore_n (pc := 11) (lv' := [(1, _), (0, _)]) dX12_pass_11 rfl (by decide) rfl ?_
  refine o_lv [1, 0] rfl (lp_trips (Nz := tn2 N) hW (Fr_fre hF1.1 hf) ?_ (nj (tn1 N) 2).toNat (hF1.f0 hF) (hW1.fr0 hF) hg.t1 hI (by omega) (by show trNL _ _ _ = trNL _ _ _; congr 1; exact congrArg Int.toNat (shNL_hd (j := 7) (by omega) _ N 0 (by omega)).symm))
  intro h3 hW3 hF3
  exact ps_39 hW hg hW3 hF3 hn
