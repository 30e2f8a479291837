/-! gain, cable, outstanding, hindrance, through -/
theorem o_castO {G : GG} {M : Mth} {R : Room} {pc : Nat} {lv : List (Nat × Value)} {st : List Value} {h : Hp} {c0 s0 : Nat} {Q : PP} {k i idx ci : Nat} {kds : List Nat} {C : String} (d : decode M.2.1 pc = .ok (.checkcast idx, 3)) (hlk : Cond.classLink M.1.cls idx C ∈ lw_ctx) (hsh : shp k = .inr (ci, kds)) (hC : (vwCl[ci]?).map (fun q => q.1) = some C) (hm : (k, i) ∈ h.1) (kk : YY G M R (pc + 3) lv (rf G k i :: st) h c0 s0 Q) : YY G M R pc lv (rf G k i :: st) h c0 s0 Q := by
  cases hq : vwCl[ci]? with
  | none => rw [hq] at hC; cases hC
  | some q =>
    rw [hq] at hC
    have e : q.1 = C := Option.some.inj hC
    exact o_castS d (by rw [e]; exact hlk) hsh hq hm kk
theorem WN.get {G : GG} {h : Hp} {a : Nat} {N : Int → Int} {B : Bok} {S T : Nat → Prop} (hW : WN G h a N B S T) (j : Nat) {q : Nat} (hq : (q : Int) < nj N j) (hj : j < 7 := by decide) : Cy G MJx4a65c_get_915e3 (rmL 2 0 0) [rf G 56 (B.1 j), .int (iI (q : Int))] h (fun v h1 => v = some (rf G (pk j) (bE B j q)) ∧ h1 = h) := by
  have k := cl_get (hW.l j hj) (i := (q : Int)) (by omega) (by omega)
  rw [Int.toNat_natCast] at k
  exact k
theorem WN.s0 {G : GG} {h : Hp} {a : Nat} {N : Int → Int} {B : Bok} {S T : Nat → Prop} (hW : WN G h a N B S T) {q : Nat} (hq : (q : Int) < N 6) : h.2.1 (ak 0 4) (bE B 1 q) 0 = N (158 + 4 * (q : Int)) := (hW.sv hq ⟨by decide, by decide⟩).trans (by rw [Int.add_zero])
theorem GN.su {N : Int → Int} (h : GN N) : SU N := by
  obtain ⟨m, p, s, a, b, c, d⟩ := h
  exact c.2.2.2.2.2.2
theorem lp_gainW {G : GG} {h : Hp} {a : Nat} {N : Int → Int} {B : Bok} {S T : Nat → Prop} (hW : WN G h a N B S T) {it : Nat} (hf : fre h it) {x t : Int} (hx : inI x) (ht : 0 ≤ t ∧ t < 24) (hU : SU N) : ∀ (n : Nat) {h1 : Hp} {cur : Nat} {s : Int} (hF : Fr (fun _ => False) h h1) (hI : IT h1 it (B.1 1) cur) (hc : cur + n = (nj N 1).toNat) (hs : s = sm (gainT N x t) cur), YY G MX12_gain (rmL 3 1 4) 11 [(0, rf G 51 a), (1, .int (iI x)), (2, .int (iI t)), (3, .int (iI s)), (4, rf G 57 it)] [] h1 1 4 (fun v h1 => v = some (.int (iI (gainN N x t))) ∧ Fr (fun _ => False) h h1) := by
  intro n
  induction n with
  | zero =>
    intro h1 cur s hF hI hc hs
    have hW1 := hW.fr0 hF
    refine o_aload (pc := 11) dX12_gain_11 4 rfl ?_
    refine o_callF (pc := 13) (q := (RJx35411, TJx35411, 4)) _ dX12_gain_13 (cl_hasNext (hW1.l 1) hI (by omega)) lfX12_66 (fun s hs => hs.2.2.2.2.2.2.2.2.2.2.1) rfl rfl rfl hI.1 ⟨⟨(Nat.le_of_ble_eq_true rfl), (Nat.le_of_ble_eq_true rfl)⟩, (Nat.le_of_ble_eq_true rfl), (Nat.le_of_ble_eq_true rfl)⟩ (Nat.le_of_ble_eq_true rfl) rfl (fun v h2 hq2 => ?_)
    obtain ⟨rfl, rfl⟩ := hq2
    rw [if_pos (by omega)]
    refine o_if_eq (pc := 18) 67 dX12_gain_18 (by decide) (by unfold inI; omega) (fun c_18 => ?_) (fun c_18 => (by exfalso; omega))
    refine o_iload_n (pc := 67) dX12_gain_67 3 rfl ?_
    exact o_iret (pc := 68) dX12_gain_68 rfl (Nat.le_of_ble_eq_true rfl) (Nat.le_of_ble_eq_true rfl) ⟨by rw [hs, show cur = (nj N 1).toNat by omega]; rfl, hF⟩
  | succ n ih =>
    intro h1 cur s hF hI hc hs
    have hW1 := hW.fr0 hF
    have hq : (cur : Int) < nj N 1 := by omega
    have hu := hU.2.2.1 cur (by omega) hq
    refine o_aload (pc := 11) dX12_gain_11 4 rfl ?_
    refine o_callF (pc := 13) (q := (RJx35411, TJx35411, 4)) _ dX12_gain_13 (cl_hasNext (hW1.l 1) hI (by omega)) lfX12_66 (fun s hs => hs.2.2.2.2.2.2.2.2.2.2.1) rfl rfl rfl hI.1 ⟨⟨(Nat.le_of_ble_eq_true rfl), (Nat.le_of_ble_eq_true rfl)⟩, (Nat.le_of_ble_eq_true rfl), (Nat.le_of_ble_eq_true rfl)⟩ (Nat.le_of_ble_eq_true rfl) rfl (fun v h2 hq2 => ?_)
    obtain ⟨rfl, rfl⟩ := hq2
    rw [if_neg (by omega)]
    refine o_if_eq (pc := 18) 67 dX12_gain_18 (by decide) (by unfold inI; omega) (fun c_18 => (by exfalso; omega)) (fun c_18 => ?_)
    refine o_aload (pc := 21) dX12_gain_21 4 rfl ?_
    refine o_callF (pc := 23) (q := (RJx35411, TJx35411, 4)) _ dX12_gain_23 (cl_next (hW1.l 1) hI (by omega)) lfX12_72 (fun s hs => hs.2.2.2.2.2.2.2.2.2.2.2.1) rfl rfl rfl hI.1 ⟨⟨(Nat.le_of_ble_eq_true rfl), (Nat.le_of_ble_eq_true rfl)⟩, (Nat.le_of_ble_eq_true rfl), (Nat.le_of_ble_eq_true rfl)⟩ (Nat.le_of_ble_eq_true rfl) rfl (fun v h2 hq2 => ?_)
    obtain ⟨rfl, rfl⟩ := hq2
    have hF2 := Fr_next (z := (cur : Int) + 1) (w := (cur : Int)) hF hf
    have hI2 := hI.next
    show YY _ _ _ _ _ (rf G (ak 0 4) (bE B 1 cur) :: _) _ _ _ _
    have hW2 := hW.fr0 hF2
    refine o_castI (pc := 28) dX12_gain_28 clX12_76 (shp_ak (by decide)) (hW2.mE 1 hq) ?_
    refine o_astore (pc := 31) (lv' := [(5, _), (0, _), (1, _), (2, _), (3, _), (4, _)]) dX12_gain_31 (by decide) rfl ?_
    refine o_aload (pc := 33) dX12_gain_33 0 rfl ?_
    refine o_iconst (pc := 35) dX12_gain_35 ?_
    refine o_iaI (pc := 36) dX12_gain_36 (shp_ak (by decide)) (hW2.mE 1 hq) (by omega) (by omega) (hW2.s0 hq) ?_
    refine o_iload_n (pc := 37) dX12_gain_37 2 rfl ?_
    refine o_icmp_ne (pc := 38) 64 dX12_gain_38 (by decide) (by unfold inI; omega) hx (fun c_38 => ?_) (fun c_38 => ?_)
    · refine o_goto (pc := 64) 11 dX12_gain_64 (by decide) ?_
      exact o_lv [1, 2, 3, 4, 5] rfl (ih hF2 hI2 (by omega) (by show _ = sm _ cur + gainT N x t (cur : Int); rw [← hs]; unfold gainT; split <;> omega))
    · refine o_iload_n (pc := 41) dX12_gain_41 3 rfl ?_
      refine o_aload (pc := 42) dX12_gain_42 0 rfl ?_
      refine o_iconst (pc := 44) dX12_gain_44 ?_
      refine o_iaI (pc := 45) dX12_gain_45 (shp_ak (by decide)) (hW2.mE 1 hq) (by omega) (by omega) (hW2.sv hq (z := 1) (by omega)) ?_
      refine o_icmp_lt (pc := 46) 64 dX12_gain_46 (by decide) (by unfold inI; omega) (by unfold inI; omega) (fun c_46 => ?_) (fun c_46 => ?_)
      · refine o_goto (pc := 64) 11 dX12_gain_64 (by decide) ?_
        exact o_lv [1, 2, 3, 4, 5] rfl (ih hF2 hI2 (by omega) (by show _ = sm _ cur + gainT N x t (cur : Int); rw [← hs]; unfold gainT; split <;> omega))
      · refine o_iload_n (pc := 49) dX12_gain_49 3 rfl ?_
        refine o_aload (pc := 50) dX12_gain_50 0 rfl ?_
        refine o_iconst (pc := 52) dX12_gain_52 ?_
        refine o_iaI (pc := 53) dX12_gain_53 (shp_ak (by decide)) (hW2.mE 1 hq) (by omega) (by omega) (hW2.sv hq (z := 2) (by omega)) ?_
        refine o_icmp_gt (pc := 54) 64 dX12_gain_54 (by decide) (by unfold inI; omega) (by unfold inI; omega) (fun c_54 => ?_) (fun c_54 => ?_)
        · refine o_goto (pc := 64) 11 dX12_gain_64 (by decide) ?_
          exact o_lv [1, 2, 3, 4, 5] rfl (ih hF2 hI2 (by omega) (by show _ = sm _ cur + gainT N x t (cur : Int); rw [← hs]; unfold gainT; split <;> omega))
        · refine o_iload_n (pc := 57) dX12_gain_57 4 rfl ?_
          refine o_aload (pc := 58) dX12_gain_58 0 rfl ?_
          refine o_iconst (pc := 60) dX12_gain_60 ?_
          refine o_iaI (pc := 61) dX12_gain_61 (shp_ak (by decide)) (hW2.mE 1 hq) (by omega) (by omega) (hW2.sv hq (z := 3) (by omega)) ?_
          refine o_iadd (pc := 62) dX12_gain_62 ?_
          refine o_istore_n (pc := 63) (lv' := [(3, _), (5, _), (0, _), (1, _), (2, _), (4, _)]) dX12_gain_63 rfl (by decide) rfl ?_
          refine o_goto (pc := 64) 11 dX12_gain_64 (by decide) ?_
          exact o_lv [2, 3, 4, 0, 5] rfl (ih hF2 hI2 (by omega) (by show _ = sm _ cur + gainT N x t (cur : Int); rw [← hs]; unfold gainT; split <;> omega))
theorem cw_gain {G : GG} {h : Hp} {a : Nat} {N : Int → Int} {B : Bok} {S T : Nat → Prop} (hW : WN G h a N B S T) {x t : Int} (hx : inI x) (ht : 0 ≤ t ∧ t < 24) (hU : SU N) (hn : ∃ n, h.2.2.2 = some n) : Cy G MX12_gain (rmL 3 1 4) [rf G 51 a, .int (iI x), .int (iI t)] h (fun v h1 => v = some (.int (iI (gainN N x t))) ∧ Fr (fun _ => False) h h1) := by
  refine o_entry (by decide +kernel) mwX12_gain rfl (Nat.le_of_ble_eq_true rfl) ?_
  show YY G MX12_gain (rmL 3 1 4) 0 [(0, rf G 51 a), (1, .int (iI x)), (2, .int (iI t))] [] h 0 0 _
  refine o_iconst (pc := 0) dX12_gain_0 ?_
  refine o_istore_n (pc := 1) (lv' := [(3, _), (0, _), (1, _), (2, _)]) dX12_gain_1 rfl (by decide) rfl ?_
  refine o_aload_n (pc := 2) dX12_gain_2 1 rfl ?_
  refine o_gR (pc := 3) (j := 8) (56) ((B.1 1)) dX12_gain_3 flX12_23 rfl rfl hW.mW (hW.r 1) ?_
  refine o_callV (pc := 6) _ dX12_gain_6 (cl_iterator (hW.l 1) hn) lkX12_62 rfl rfl rfl rfl (hW.l 1).1 ⟨⟨(Nat.le_of_ble_eq_true rfl), (Nat.le_of_ble_eq_true rfl)⟩, (Nat.le_of_ble_eq_true rfl), (Nat.le_of_ble_eq_true rfl)⟩ (Nat.le_of_ble_eq_true rfl) rfl (fun v h1 hq2 => ?_)
  obtain ⟨it, rfl, hf, hI, hF⟩ := hq2
  refine o_astore (pc := 9) (lv' := [(4, _), (3, _), (0, _), (1, _), (2, _)]) dX12_gain_9 (by decide) rfl ?_
  exact o_lv [2, 3, 4, 1, 0] rfl (lp_gainW hW hf hx ht hU (nj N 1).toNat hF hI (by omega) rfl)
theorem lp_cableW {G : GG} {h : Hp} {a : Nat} {N : Int → Int} {B : Bok} {S T : Nat → Prop} (hW : WN G h a N B S T) {it : Nat} (hf : fre h it) {x y : Int} (hx : inI x) (hy : inI y) (hU : SU N) : ∀ (n : Nat) {h1 : Hp} {cur : Nat} (hF : Fr (fun _ => False) h h1) (hI : IT h1 it (B.1 4) cur) (hc : cur + n = (nj N 4).toNat) (hz : betN N x y = betF N x y (cur : Int) n), YY G MX12_cable (rmL 3 1 4) 8 [(0, rf G 51 a), (1, .int (iI x)), (2, .int (iI y)), (3, rf G 57 it)] [] h1 1 4 (fun v h1 => v = some (if betN N x y = -1 then .null else rf G 53 (bE B 4 (betN N x y).toNat)) ∧ Fr (fun _ => False) h h1) := by
  intro n
  induction n with
  | zero =>
    intro h1 cur hF hI hc hz
    have hW1 := hW.fr0 hF
    refine o_aload_n (pc := 8) dX12_cable_8 3 rfl ?_
    refine o_callF (pc := 9) (q := (RJx35411, TJx35411, 4)) _ dX12_cable_9 (cl_hasNext (hW1.l 4) hI (by omega)) lfX12_66 (fun s hs => hs.2.2.2.2.2.2.2.2.2.2.1) rfl rfl rfl hI.1 ⟨⟨(Nat.le_of_ble_eq_true rfl), (Nat.le_of_ble_eq_true rfl)⟩, (Nat.le_of_ble_eq_true rfl), (Nat.le_of_ble_eq_true rfl)⟩ (Nat.le_of_ble_eq_true rfl) rfl (fun v h2 hq2 => ?_)
    obtain ⟨rfl, rfl⟩ := hq2
    rw [if_pos (by omega)]
    refine o_if_eq (pc := 14) 70 dX12_cable_14 (by decide) (by unfold inI; omega) (fun c_14 => ?_) (fun c_14 => (by exfalso; omega))
    refine o_null (pc := 70) dX12_cable_70 ?_
    exact o_aret (pc := 71) dX12_cable_71 rfl (.inl ⟨_, rfl⟩) (.inl rfl) (Nat.le_of_ble_eq_true rfl) (Nat.le_of_ble_eq_true rfl) ⟨by rw [show betN N x y = -1 from hz]; rfl, hF⟩
  | succ n ih =>
    intro h1 cur hF hI hc hz
    have hW1 := hW.fr0 hF
    have hq : (cur : Int) < nj N 4 := by omega
    have hu := hU.2.2.2 cur (by omega) hq
    refine o_aload_n (pc := 8) dX12_cable_8 3 rfl ?_
    refine o_callF (pc := 9) (q := (RJx35411, TJx35411, 4)) _ dX12_cable_9 (cl_hasNext (hW1.l 4) hI (by omega)) lfX12_66 (fun s hs => hs.2.2.2.2.2.2.2.2.2.2.1) rfl rfl rfl hI.1 ⟨⟨(Nat.le_of_ble_eq_true rfl), (Nat.le_of_ble_eq_true rfl)⟩, (Nat.le_of_ble_eq_true rfl), (Nat.le_of_ble_eq_true rfl)⟩ (Nat.le_of_ble_eq_true rfl) rfl (fun v h2 hq2 => ?_)
    obtain ⟨rfl, rfl⟩ := hq2
    rw [if_neg (by omega)]
    refine o_if_eq (pc := 14) 70 dX12_cable_14 (by decide) (by unfold inI; omega) (fun c_14 => (by exfalso; omega)) (fun c_14 => ?_)
    refine o_aload_n (pc := 17) dX12_cable_17 3 rfl ?_
    refine o_callF (pc := 18) (q := (RJx35411, TJx35411, 4)) _ dX12_cable_18 (cl_next (hW1.l 4) hI (by omega)) lfX12_72 (fun s hs => hs.2.2.2.2.2.2.2.2.2.2.2.1) rfl rfl rfl hI.1 ⟨⟨(Nat.le_of_ble_eq_true rfl), (Nat.le_of_ble_eq_true rfl)⟩, (Nat.le_of_ble_eq_true rfl), (Nat.le_of_ble_eq_true rfl)⟩ (Nat.le_of_ble_eq_true rfl) rfl (fun v h2 hq2 => ?_)
    obtain ⟨rfl, rfl⟩ := hq2
    have hF2 := Fr_next (z := (cur : Int) + 1) (w := (cur : Int)) hF hf
    have hI2 := hI.next
    show YY _ _ _ _ _ (rf G 53 (bE B 4 cur) :: _) _ _ _ _
    have hW2 := hW.fr0 hF2
    refine o_castO (pc := 23) dX12_cable_23 clX12_91 rfl rfl (hW2.mE 4 hq) ?_
    refine o_astore (pc := 26) (lv' := [(4, _), (0, _), (1, _), (2, _), (3, _)]) dX12_cable_26 (by decide) rfl ?_
    refine o_aload (pc := 28) dX12_cable_28 0 rfl ?_
    refine o_gI (pc := 30) (j := 0) dX12_cable_30 flX12_141 rfl rfl (hW2.mE 4 hq) (hW2.c0 hq) ?_
    refine o_iload_n (pc := 33) dX12_cable_33 2 rfl ?_
    refine o_icmp_ne (pc := 34) 46 dX12_cable_34 (by decide) (by unfold inI; omega) hx (fun c_34 => ?_) (fun c_34 => ?_)
    · refine o_aload (pc := 46) dX12_cable_46 0 rfl ?_
      refine o_gI (pc := 48) (j := 0) dX12_cable_48 flX12_141 rfl rfl (hW2.mE 4 hq) (hW2.c0 hq) ?_
      refine o_iload_n (pc := 51) dX12_cable_51 3 rfl ?_
      refine o_icmp_ne (pc := 52) 67 dX12_cable_52 (by decide) (by unfold inI; omega) hy (fun c_52 => ?_) (fun c_52 => ?_)
      · refine o_goto (pc := 67) 8 dX12_cable_67 (by decide) ?_
        exact o_lv [1, 2, 3, 4] rfl (ih hF2 hI2 (by omega) (hz.trans (if_neg (by omega))))
      · refine o_aload (pc := 55) dX12_cable_55 0 rfl ?_
        refine o_gI (pc := 57) (j := 1) dX12_cable_57 flX12_144 rfl rfl (hW2.mE 4 hq) (hW2.c1 hq) ?_
        refine o_iload_n (pc := 60) dX12_cable_60 2 rfl ?_
        refine o_icmp_ne (pc := 61) 67 dX12_cable_61 (by decide) (by unfold inI; omega) hx (fun c_61 => ?_) (fun c_61 => ?_)
        · refine o_goto (pc := 67) 8 dX12_cable_67 (by decide) ?_
          exact o_lv [1, 2, 3, 4] rfl (ih hF2 hI2 (by omega) (hz.trans (if_neg (by omega))))
        · refine o_aload (pc := 64) dX12_cable_64 0 rfl ?_
          exact o_aret (pc := 66) dX12_cable_66 rfl (.inl ⟨_, rfl⟩) (.inr ⟨_, rfl⟩) (Nat.le_of_ble_eq_true rfl) (Nat.le_of_ble_eq_true rfl) ⟨by rw [show betN N x y = (cur : Int) from hz.trans (if_pos (by omega)), if_neg (by omega), Int.toNat_natCast], hF2⟩
    · refine o_aload (pc := 37) dX12_cable_37 0 rfl ?_
      refine o_gI (pc := 39) (j := 1) dX12_cable_39 flX12_144 rfl rfl (hW2.mE 4 hq) (hW2.c1 hq) ?_
      refine o_iload_n (pc := 42) dX12_cable_42 3 rfl ?_
      refine o_icmp_eq (pc := 43) 64 dX12_cable_43 (by decide) (by unfold inI; omega) hy (fun c_43 => ?_) (fun c_43 => ?_)
      · refine o_aload (pc := 64) dX12_cable_64 0 rfl ?_
        exact o_aret (pc := 66) dX12_cable_66 rfl (.inl ⟨_, rfl⟩) (.inr ⟨_, rfl⟩) (Nat.le_of_ble_eq_true rfl) (Nat.le_of_ble_eq_true rfl) ⟨by rw [show betN N x y = (cur : Int) from hz.trans (if_pos (by omega)), if_neg (by omega), Int.toNat_natCast], hF2⟩
      · refine o_aload (pc := 46) dX12_cable_46 0 rfl ?_
        refine o_gI (pc := 48) (j := 0) dX12_cable_48 flX12_141 rfl rfl (hW2.mE 4 hq) (hW2.c0 hq) ?_
        refine o_iload_n (pc := 51) dX12_cable_51 3 rfl ?_
        refine o_icmp_ne (pc := 52) 67 dX12_cable_52 (by decide) (by unfold inI; omega) hy (fun c_52 => ?_) (fun c_52 => ?_)
        · refine o_goto (pc := 67) 8 dX12_cable_67 (by decide) ?_
          exact o_lv [1, 2, 3, 4] rfl (ih hF2 hI2 (by omega) (hz.trans (if_neg (by omega))))
        · refine o_aload (pc := 55) dX12_cable_55 0 rfl ?_
          refine o_gI (pc := 57) (j := 1) dX12_cable_57 flX12_144 rfl rfl (hW2.mE 4 hq) (hW2.c1 hq) ?_
          refine o_iload_n (pc := 60) dX12_cable_60 2 rfl ?_
          refine o_icmp_ne (pc := 61) 67 dX12_cable_61 (by decide) (by unfold inI; omega) hx (fun c_61 => ?_) (fun c_61 => ?_)
          · refine o_goto (pc := 67) 8 dX12_cable_67 (by decide) ?_
            exact o_lv [1, 2, 3, 4] rfl (ih hF2 hI2 (by omega) (hz.trans (if_neg (by omega))))
          · refine o_aload (pc := 64) dX12_cable_64 0 rfl ?_
            exact o_aret (pc := 66) dX12_cable_66 rfl (.inl ⟨_, rfl⟩) (.inr ⟨_, rfl⟩) (Nat.le_of_ble_eq_true rfl) (Nat.le_of_ble_eq_true rfl) ⟨by rw [show betN N x y = (cur : Int) from hz.trans (if_pos (by omega)), if_neg (by omega), Int.toNat_natCast], hF2⟩
theorem cw_cable {G : GG} {h : Hp} {a : Nat} {N : Int → Int} {B : Bok} {S T : Nat → Prop} (hW : WN G h a N B S T) {x y : Int} (hx : inI x) (hy : inI y) (hU : SU N) (hn : ∃ n, h.2.2.2 = some n) : Cy G MX12_cable (rmL 3 1 4) [rf G 51 a, .int (iI x), .int (iI y)] h (fun v h1 => v = some (if betN N x y = -1 then .null else rf G 53 (bE B 4 (betN N x y).toNat)) ∧ Fr (fun _ => False) h h1) := by
  refine o_entry (by decide +kernel) mwX12_cable rfl (Nat.le_of_ble_eq_true rfl) ?_
  show YY G MX12_cable (rmL 3 1 4) 0 [(0, rf G 51 a), (1, .int (iI x)), (2, .int (iI y))] [] h 0 0 _
  refine o_aload_n (pc := 0) dX12_cable_0 0 rfl ?_
  refine o_gR (pc := 1) (j := 11) (56) ((B.1 4)) dX12_cable_1 flX12_32 rfl rfl hW.mW (hW.r 4) ?_
  refine o_callV (pc := 4) _ dX12_cable_4 (cl_iterator (hW.l 4) hn) lkX12_62 rfl rfl rfl rfl (hW.l 4).1 ⟨⟨(Nat.le_of_ble_eq_true rfl), (Nat.le_of_ble_eq_true rfl)⟩, (Nat.le_of_ble_eq_true rfl), (Nat.le_of_ble_eq_true rfl)⟩ (Nat.le_of_ble_eq_true rfl) rfl (fun v h1 hq2 => ?_)
  obtain ⟨it, rfl, hf, hI, hF⟩ := hq2
  refine o_astore_n (pc := 7) (lv' := [(3, _), (0, _), (1, _), (2, _)]) dX12_cable_7 rfl (by decide) rfl ?_
  exact o_lv [1, 2, 3, 0] rfl (lp_cableW hW hf hx hy hU (nj N 4).toNat hF hI (by omega) rfl)
theorem lp_outW {G : GG} {h : Hp} {a : Nat} {N : Int → Int} {B : Bok} {S T : Nat → Prop} (hW : WN G h a N B S T) {it : Nat} (hf : fre h it) {x : Int} (hx : inI x) (hL : LNs N) : ∀ (n : Nat) {h1 : Hp} {cur : Nat} {s : Int} (hF : Fr (fun _ => False) h h1) (hI : IT h1 it (B.1 6) cur) (hc : cur + n = (nj N 6).toNat) (hs : s = sm (outFN N x) cur), YY G MX12_outstanding (rmL 3 1 4) 10 [(0, rf G 51 a), (1, .int (iI x)), (2, .int (iI s)), (3, rf G 57 it)] [] h1 1 4 (fun v h1 => v = some (.int (iI (sm (outFN N x) (N 9).toNat))) ∧ Fr (fun _ => False) h h1) := by
  intro n
  induction n with
  | zero =>
    intro h1 cur s hF hI hc hs
    have hW1 := hW.fr0 hF
    refine o_aload_n (pc := 10) dX12_outstanding_10 3 rfl ?_
    refine o_callF (pc := 11) (q := (RJx35411, TJx35411, 4)) _ dX12_outstanding_11 (cl_hasNext (hW1.l 6) hI (by omega)) lfX12_66 (fun s hs => hs.2.2.2.2.2.2.2.2.2.2.1) rfl rfl rfl hI.1 ⟨⟨(Nat.le_of_ble_eq_true rfl), (Nat.le_of_ble_eq_true rfl)⟩, (Nat.le_of_ble_eq_true rfl), (Nat.le_of_ble_eq_true rfl)⟩ (Nat.le_of_ble_eq_true rfl) rfl (fun v h2 hq2 => ?_)
    obtain ⟨rfl, rfl⟩ := hq2
    rw [if_pos (by omega)]
    refine o_if_eq (pc := 16) 75 dX12_outstanding_16 (by decide) (by unfold inI; omega) (fun c_16 => ?_) (fun c_16 => (by exfalso; omega))
    refine o_iload_n (pc := 75) dX12_outstanding_75 2 rfl ?_
    exact o_iret (pc := 76) dX12_outstanding_76 rfl (Nat.le_of_ble_eq_true rfl) (Nat.le_of_ble_eq_true rfl) ⟨by rw [hs, show cur = (nj N 6).toNat by omega]; rfl, hF⟩
  | succ n ih =>
    intro h1 cur s hF hI hc hs
    have hW1 := hW.fr0 hF
    have hq : (cur : Int) < nj N 6 := by omega
    have hl := hL.2 cur (by omega) hq
    obtain ⟨l1, l2, l3, l4, l5, l6, l7⟩ := id hl
    refine o_aload_n (pc := 10) dX12_outstanding_10 3 rfl ?_
    refine o_callF (pc := 11) (q := (RJx35411, TJx35411, 4)) _ dX12_outstanding_11 (cl_hasNext (hW1.l 6) hI (by omega)) lfX12_66 (fun s hs => hs.2.2.2.2.2.2.2.2.2.2.1) rfl rfl rfl hI.1 ⟨⟨(Nat.le_of_ble_eq_true rfl), (Nat.le_of_ble_eq_true rfl)⟩, (Nat.le_of_ble_eq_true rfl), (Nat.le_of_ble_eq_true rfl)⟩ (Nat.le_of_ble_eq_true rfl) rfl (fun v h2 hq2 => ?_)
    obtain ⟨rfl, rfl⟩ := hq2
    rw [if_neg (by omega)]
    refine o_if_eq (pc := 16) 75 dX12_outstanding_16 (by decide) (by unfold inI; omega) (fun c_16 => (by exfalso; omega)) (fun c_16 => ?_)
    refine o_aload_n (pc := 19) dX12_outstanding_19 3 rfl ?_
    refine o_callF (pc := 20) (q := (RJx35411, TJx35411, 4)) _ dX12_outstanding_20 (cl_next (hW1.l 6) hI (by omega)) lfX12_72 (fun s hs => hs.2.2.2.2.2.2.2.2.2.2.2.1) rfl rfl rfl hI.1 ⟨⟨(Nat.le_of_ble_eq_true rfl), (Nat.le_of_ble_eq_true rfl)⟩, (Nat.le_of_ble_eq_true rfl), (Nat.le_of_ble_eq_true rfl)⟩ (Nat.le_of_ble_eq_true rfl) rfl (fun v h2 hq2 => ?_)
    obtain ⟨rfl, rfl⟩ := hq2
    have hF2 := Fr_next (z := (cur : Int) + 1) (w := (cur : Int)) hF hf
    have hI2 := hI.next
    show YY _ _ _ _ _ (rf G 55 (bE B 6 cur) :: _) _ _ _ _
    have hW2 := hW.fr0 hF2
    refine o_castO (pc := 25) dX12_outstanding_25 clX12_101 rfl rfl (hW2.mE 6 hq) ?_
    refine o_astore (pc := 28) (lv' := [(4, _), (0, _), (1, _), (2, _), (3, _)]) dX12_outstanding_28 (by decide) rfl ?_
    refine o_aload (pc := 30) dX12_outstanding_30 0 rfl ?_
    refine o_gI (pc := 32) (j := 0) dX12_outstanding_32 flX12_163 rfl rfl (hW2.mE 6 hq) (hW2.n0 hq) ?_
    refine o_iload_n (pc := 35) dX12_outstanding_35 2 rfl ?_
    refine o_icmp_ne (pc := 36) 72 dX12_outstanding_36 (by decide) (by unfold inI; omega) hx (fun c_36 => ?_) (fun c_36 => ?_)
    · refine o_goto (pc := 72) 10 dX12_outstanding_72 (by decide) ?_
      exact o_lv [1, 2, 3, 4] rfl (ih hF2 hI2 (by omega) (by show _ = sm _ cur + outFN N x (cur : Int); rw [← hs]; unfold outFN; split <;> first | omega | (split <;> omega)))
    · refine o_iload_n (pc := 39) dX12_outstanding_39 3 rfl ?_
      refine o_aload_n (pc := 40) dX12_outstanding_40 1 rfl ?_
      refine o_aload (pc := 41) dX12_outstanding_41 0 rfl ?_
      refine o_callV (pc := 43) _ dX12_outstanding_43 (cw_owed hW2 hq hl) lkX12_166 rfl rfl rfl rfl hW2.mW ⟨⟨(Nat.le_of_ble_eq_true rfl), (Nat.le_of_ble_eq_true rfl)⟩, (Nat.le_of_ble_eq_true rfl), (Nat.le_of_ble_eq_true rfl)⟩ (Nat.le_of_ble_eq_true rfl) rfl (fun v h2 hq3 => ?_)
      obtain ⟨rfl, rfl⟩ := hq3
      refine o_aload (pc := 46) dX12_outstanding_46 0 rfl ?_
      refine o_gI (pc := 48) (j := 5) dX12_outstanding_48 flX12_147 rfl rfl (hW2.mE 6 hq) (hW2.n5 hq) ?_
      refine o_if_ne (pc := 51) 68 dX12_outstanding_51 (by decide) (by unfold inI; omega) (fun c_51 => ?_) (fun c_51 => ?_)
      · refine o_iconst (pc := 68) dX12_outstanding_68 ?_
        refine o_iadd (pc := 69) dX12_outstanding_69 ?_
        refine o_iadd (pc := 70) dX12_outstanding_70 ?_
        refine o_istore_n (pc := 71) (lv' := [(2, _), (4, _), (0, _), (1, _), (3, _)]) dX12_outstanding_71 rfl (by decide) rfl ?_
        refine o_goto (pc := 72) 10 dX12_outstanding_72 (by decide) ?_
        exact o_lv [2, 3, 0, 4] rfl (ih hF2 hI2 (by omega) (by show _ = sm _ cur + outFN N x (cur : Int); rw [← hs]; unfold outFN; split <;> first | omega | (split <;> omega)))
      · refine o_aload (pc := 54) dX12_outstanding_54 0 rfl ?_
        refine o_gI (pc := 56) (j := 1) dX12_outstanding_56 flX12_170 rfl rfl (hW2.mE 6 hq) (hW2.n1 hq) ?_
        refine o_aload (pc := 59) dX12_outstanding_59 0 rfl ?_
        refine o_gI (pc := 61) (j := 2) dX12_outstanding_61 flX12_151 rfl rfl (hW2.mE 6 hq) (hW2.n2 hq) ?_
        refine o_isub (pc := 64) dX12_outstanding_64 ?_
        refine o_goto (pc := 65) 69 dX12_outstanding_65 (by decide) ?_
        refine o_iadd (pc := 69) dX12_outstanding_69 ?_
        refine o_iadd (pc := 70) dX12_outstanding_70 ?_
        refine o_istore_n (pc := 71) (lv' := [(2, _), (4, _), (0, _), (1, _), (3, _)]) dX12_outstanding_71 rfl (by decide) rfl ?_
        refine o_goto (pc := 72) 10 dX12_outstanding_72 (by decide) ?_
        exact o_lv [2, 3, 0, 4] rfl (ih hF2 hI2 (by omega) (by show _ = sm _ cur + outFN N x (cur : Int); rw [← hs]; unfold outFN; split <;> first | omega | (split <;> omega)))
theorem cw_out {G : GG} {h : Hp} {a : Nat} {N : Int → Int} {B : Bok} {S T : Nat → Prop} (hW : WN G h a N B S T) {x : Int} (hx : inI x) (hL : LNs N) (hn : ∃ n, h.2.2.2 = some n) : Cy G MX12_outstanding (rmL 3 1 4) [rf G 51 a, .int (iI x)] h (fun v h1 => v = some (.int (iI (sm (outFN N x) (N 9).toNat))) ∧ Fr (fun _ => False) h h1) := by
  refine o_entry (by decide +kernel) mwX12_outstanding rfl (Nat.le_of_ble_eq_true rfl) ?_
  show YY G MX12_outstanding (rmL 3 1 4) 0 [(0, rf G 51 a), (1, .int (iI x))] [] h 0 0 _
  refine o_iconst (pc := 0) dX12_outstanding_0 ?_
  refine o_istore_n (pc := 1) (lv' := [(2, _), (0, _), (1, _)]) dX12_outstanding_1 rfl (by decide) rfl ?_
  refine o_aload_n (pc := 2) dX12_outstanding_2 1 rfl ?_
  refine o_gR (pc := 3) (j := 13) (56) ((B.1 6)) dX12_outstanding_3 flX12_38 rfl rfl hW.mW (hW.r 6) ?_
  refine o_callV (pc := 6) _ dX12_outstanding_6 (cl_iterator (hW.l 6) hn) lkX12_62 rfl rfl rfl rfl (hW.l 6).1 ⟨⟨(Nat.le_of_ble_eq_true rfl), (Nat.le_of_ble_eq_true rfl)⟩, (Nat.le_of_ble_eq_true rfl), (Nat.le_of_ble_eq_true rfl)⟩ (Nat.le_of_ble_eq_true rfl) rfl (fun v h1 hq2 => ?_)
  obtain ⟨it, rfl, hf, hI, hF⟩ := hq2
  refine o_astore_n (pc := 9) (lv' := [(3, _), (2, _), (0, _), (1, _)]) dX12_outstanding_9 rfl (by decide) rfl ?_
  exact o_lv [2, 3, 1, 0] rfl (lp_outW hW hf hx hL (nj N 6).toNat hF hI (by omega) rfl)
theorem cw_through {G : GG} {h : Hp} {a : Nat} {N : Int → Int} {B : Bok} {S T : Nat → Prop} (hW : WN G h a N B S T) {c qa qb : Nat} (hqc : (c : Int) < N 5) (hqa : (qa : Int) < N 3) (hqb : (qb : Int) < N 3) {x : Int} (hl : 0 ≤ N (86 + 6 * (c : Int) + 2) ∧ N (86 + 6 * (c : Int) + 2) ≤ 900) (ha : PN N qa) (hk : QN N qa) (hc : CW N qa) (hx : 0 ≤ x ∧ x ≤ N (30 + 7 * (qa : Int) + 1) ∧ x ≤ 1000000) (hb : PN (carryN (giveN N (qa : Int) x) c x (x * N (86 + 6 * (c : Int) + 2) / 1000)) qb) (hy : carryN (giveN N (qa : Int) x) c x (x * N (86 + 6 * (c : Int) + 2) / 1000) (30 + 7 * (qb : Int) + 1) + (x - (x * N (86 + 6 * (c : Int) + 2) / 1000)) ≤ 1000000) (hn : ∃ n, h.2.2.2 = some n) : Cy G MX12_through (rmL 5 0 0) [rf G 51 a, rf G 53 (bE B 4 c), rf G 52 (bE B 3 qa), rf G 52 (bE B 3 qb), .int (iI x)] h (fun v h1 => v = some (.int (iI (x - (x * N (86 + 6 * (c : Int) + 2) / 1000)))) ∧ WN G h1 a (sendsN N c qa qb x) B S T ∧ Fg S h h1) := by
  refine o_entry (by decide +kernel) mwX12_through rfl (Nat.le_of_ble_eq_true rfl) ?_
  show YY G MX12_through (rmL 5 0 0) 0 [(0, rf G 51 a), (1, rf G 53 (bE B 4 c)), (2, rf G 52 (bE B 3 qa)), (3, rf G 52 (bE B 3 qb)), (4, .int (iI x))] [] h 0 0 _
  have w0 : 0 ≤ x * N (86 + 6 * (c : Int) + 2) := Int.mul_nonneg hx.1 hl.1
  have w1 : x * N (86 + 6 * (c : Int) + 2) ≤ x * 900 := Int.mul_le_mul_of_nonneg_left hl.2 hx.1
  have w2 := hx.2
  refine o_iload (pc := 0) dX12_through_0 4 rfl ?_
  refine o_i2l (pc := 2) dX12_through_2 (by unfold inI; omega) ?_
  refine o_aload_n (pc := 3) dX12_through_3 1 rfl ?_
  refine o_gI (pc := 4) (j := 2) dX12_through_4 flX12_203 rfl rfl (hW.mE 4 hqc) (hW.c2 hqc) ?_
  refine o_i2l (pc := 7) dX12_through_7 (by unfold inI; omega) ?_
  refine o_lmul (pc := 8) dX12_through_8 ?_
  refine o_ldc2 (pc := 9) (z := 1000) dX12_through_9 kcX12_206 (by decide) ?_
  refine o_ldiv (pc := 12) dX12_through_12 (by omega) (by omega) ?_
  refine o_l2i (pc := 13) dX12_through_13 ?_
  refine o_istore (pc := 14) (lv' := [(5, _), (0, _), (1, _), (2, _), (3, _), (4, _)]) dX12_through_14 (by decide) rfl ?_
  refine o_aload_n (pc := 16) dX12_through_16 1 rfl ?_
  refine o_aload_n (pc := 17) dX12_through_17 3 rfl ?_
  refine o_iload (pc := 18) dX12_through_18 5 rfl ?_
  refine o_callV (pc := 20) _ dX12_through_20 (cw_give hW hqa ha hk hc hx hn) lkX12_208 rfl rfl rfl rfl hW.mW ⟨⟨(Nat.le_of_ble_eq_true rfl), (Nat.le_of_ble_eq_true rfl)⟩, (Nat.le_of_ble_eq_true rfl), (Nat.le_of_ble_eq_true rfl)⟩ (Nat.le_of_ble_eq_true rfl) rfl (fun v h1 hq2 => ?_)
  obtain ⟨rfl, hW1, hF1⟩ := hq2
  have hqc1 : (c : Int) < giveN N (qa : Int) x 5 := by rw [giveN_lo (by omega) (by omega) (by omega) (by omega)]; exact hqc
  have hqb1 : (qb : Int) < giveN N (qa : Int) x 3 := by rw [giveN_lo (by omega) (by omega) (by omega) (by omega)]; exact hqb
  refine o_aload_n (pc := 23) dX12_through_23 2 rfl ?_
  refine o_dup (pc := 24) dX12_through_24 rfl ?_
  refine o_gI (pc := 25) (j := 4) dX12_through_25 flX12_212 rfl rfl (hW1.mE 4 hqc1) (hW1.c4 hqc1) ?_
  refine o_iload (pc := 28) dX12_through_28 5 rfl ?_
  refine o_iadd (pc := 30) dX12_through_30 ?_
  refine o_pI (pc := 31) (j := 4) dX12_through_31 fwX12_212 rfl rfl (hW1.mE 4 hqc1) ?_
  have W2 := hW1.setE 4 hqc1 4 (giveN N (qa : Int) x (86 + 6 * (c : Int) + 4) + x)
  have hqc2 := up_lt (i := 86 + 6 * (c : Int) + 4) (z := giveN N (qa : Int) x (86 + 6 * (c : Int) + 4) + x) (by omega) (by omega) hqc1
  refine o_aload_n (pc := 34) dX12_through_34 2 rfl ?_
  refine o_dup (pc := 35) dX12_through_35 rfl ?_
  refine o_gI (pc := 36) (j := 5) dX12_through_36 flX12_213 rfl rfl (W2.mE 4 hqc2) (W2.c5 hqc2) ?_
  refine o_iload (pc := 39) dX12_through_39 0 rfl ?_
  refine o_iadd (pc := 41) dX12_through_41 ?_
  refine o_pI (pc := 42) (j := 5) dX12_through_42 fwX12_213 rfl rfl (W2.mE 4 hqc2) ?_
  have W3 := W2.setE 4 hqc2 5 (upN (giveN N (qa : Int) x) (86 + 6 * (c : Int) + 4) (giveN N (qa : Int) x (86 + 6 * (c : Int) + 4) + x) (86 + 6 * (c : Int) + 5) + (x * N (86 + 6 * (c : Int) + 2) / 1000))
  refine o_aload_n (pc := 45) dX12_through_45 1 rfl ?_
  refine o_dup (pc := 46) dX12_through_46 rfl ?_
  refine o_gL (pc := 47) (j := 5) dX12_through_47 flX12_52 rfl rfl W3.mW W3.w5 ?_
  refine o_iload (pc := 50) dX12_through_50 0 rfl ?_
  refine o_i2l (pc := 52) dX12_through_52 (by unfold inI; omega) ?_
  refine o_ladd (pc := 53) dX12_through_53 ?_
  refine o_pL (pc := 54) (j := 5) dX12_through_54 fwX12_52 rfl rfl W3.mW ?_
  have W4 := (W3.setH 5 (upN (upN (giveN N (qa : Int) x) (86 + 6 * (c : Int) + 4) (giveN N (qa : Int) x (86 + 6 * (c : Int) + 4) + x)) (86 + 6 * (c : Int) + 5) (upN (giveN N (qa : Int) x) (86 + 6 * (c : Int) + 4) (giveN N (qa : Int) x (86 + 6 * (c : Int) + 4) + x) (86 + 6 * (c : Int) + 5) + (x * N (86 + 6 * (c : Int) + 2) / 1000)) 12 + (x * N (86 + 6 * (c : Int) + 2) / 1000))).to (N' := carryN (giveN N (qa : Int) x) c x (x * N (86 + 6 * (c : Int) + 2) / 1000)) rfl
  refine o_aload_n (pc := 57) dX12_through_57 1 rfl ?_
  refine o_aload_n (pc := 58) dX12_through_58 4 rfl ?_
  refine o_iload (pc := 59) dX12_through_59 5 rfl ?_
  refine o_iload (pc := 61) dX12_through_61 0 rfl ?_
  refine o_isub (pc := 63) dX12_through_63 ?_
  refine o_callV (pc := 64) _ dX12_through_64 (cw_take W4 (by rw [carryN_lo (by omega) (by omega) (by omega) (by omega)]; exact hqb1) hb (by have := hb.2.2.2.2; omega) hF1.n) lkX12_216 rfl rfl rfl rfl W4.mW ⟨⟨(Nat.le_of_ble_eq_true rfl), (Nat.le_of_ble_eq_true rfl)⟩, (Nat.le_of_ble_eq_true rfl), (Nat.le_of_ble_eq_true rfl)⟩ (Nat.le_of_ble_eq_true rfl) rfl (fun v h2 hq2 => ?_)
  obtain ⟨rfl, hW5, hF5⟩ := hq2
  refine o_iload (pc := 67) dX12_through_67 5 rfl ?_
  refine o_iload (pc := 69) dX12_through_69 0 rfl ?_
  refine o_isub (pc := 71) dX12_through_71 ?_
  exact o_iret (pc := 72) dX12_through_72 rfl (Nat.le_of_ble_eq_true rfl) (Nat.le_of_ble_eq_true rfl) ⟨rfl, hW5, (Fg_hset (Fg_hset (Fg_hset hF1 (by decide) (.inl (hW.sE 4 hqc))) (by decide) (.inl (hW.sE 4 hqc))) (by decide) (.inl hW.sA)).t hF5⟩
theorem cw_hindrance {G : GG} {h : Hp} {a : Nat} {N : Int → Int} {B : Bok} {S T : Nat → Prop} (hW : WN G h a N B S T) {c : Nat} (hqc : (c : Int) < N 8) {x : Int} (hx : 0 ≤ x ∧ x ≤ 100000) (hN : NF N) (hn : ∃ n, h.2.2.2 = some n) : Cy G MX12_hindrance (rmL 4 1 4) [rf G 51 a, .int (iI (c : Int)), .int (iI x)] h (fun v h1 => v = some (.int (iI (hinN N c x))) ∧ Fr (fun _ => False) h h1) := by
  refine o_entry (by decide +kernel) mwX12_hindrance rfl (Nat.le_of_ble_eq_true rfl) ?_
  show YY G MX12_hindrance (rmL 4 1 4) 0 [(0, rf G 51 a), (1, .int (iI (c : Int))), (2, .int (iI x))] [] h 0 0 _
  have k := hN.2.2.2.2.2.2.1 c (by omega) hqc
  have l9 := hN.2.2.2.1.1
  have ob := outN_b hN.2.2.2.1 (c : Int)
  have hql : (((N (270 + 6 * (c : Int) + 0)).toNat : Nat) : Int) < N 3 := by omega
  have ab := (hN.2.2.2.2.2.1 (N (270 + 6 * (c : Int) + 0)) k.1.1 k.1.2).2.2
  have c8 := hN.2.2.1
  refine o_aload_n (pc := 0) dX12_hindrance_0 0 rfl ?_
  refine o_gR (pc := 1) (j := 12) (56) ((B.1 5)) dX12_hindrance_1 flX12_35 rfl rfl hW.mW (hW.r 5) ?_
  refine o_iload_n (pc := 4) dX12_hindrance_4 1 rfl ?_
  refine o_callV (pc := 5) _ dX12_hindrance_5 (hW.get 5 hqc) lkX12_124 rfl rfl rfl rfl (hW.l 5).1 ⟨⟨(Nat.le_of_ble_eq_true rfl), (Nat.le_of_ble_eq_true rfl)⟩, (Nat.le_of_ble_eq_true rfl), (Nat.le_of_ble_eq_true rfl)⟩ (Nat.le_of_ble_eq_true rfl) rfl (fun v h2 hq2 => ?_)
  obtain ⟨rfl, rfl⟩ := hq2
  show YY _ _ _ _ _ (rf G 54 (bE B 5 c) :: _) _ _ _ _
  refine o_castO (pc := 8) dX12_hindrance_8 clX12_96 rfl rfl (hW.mE 5 hqc) ?_
  refine o_astore_n (pc := 11) (lv' := [(3, _), (0, _), (1, _), (2, _)]) dX12_hindrance_11 rfl (by decide) rfl ?_
  refine o_aload_n (pc := 12) dX12_hindrance_12 0 rfl ?_
  refine o_gI (pc := 13) (j := 5) dX12_hindrance_13 flX12_176 rfl rfl (hW.mE 5 hqc) (hW.k5 hqc) ?_
  refine o_if_eq (pc := 16) 21 dX12_hindrance_16 (by decide) (by unfold inI; omega) (fun c_16 => ?_) (fun c_16 => ?_)
  · refine o_aload_n (pc := 21) dX12_hindrance_21 1 rfl ?_
    refine o_iload_n (pc := 22) dX12_hindrance_22 2 rfl ?_
    refine o_callV (pc := 23) _ dX12_hindrance_23 (cw_out hW (by unfold inI; omega) hN.2.2.2.1 hn) lkX12_180 rfl rfl rfl rfl hW.mW ⟨⟨(Nat.le_of_ble_eq_true rfl), (Nat.le_of_ble_eq_true rfl)⟩, (Nat.le_of_ble_eq_true rfl), (Nat.le_of_ble_eq_true rfl)⟩ (Nat.le_of_ble_eq_true rfl) rfl (fun v h1 hq2 => ?_)
    obtain ⟨rfl, hF⟩ := hq2
    have hW1 := hW.fr0 hF
    refine o_iload_n (pc := 26) dX12_hindrance_26 3 rfl ?_
    refine o_iadd (pc := 27) dX12_hindrance_27 ?_
    refine o_aload_n (pc := 28) dX12_hindrance_28 0 rfl ?_
    refine o_gI (pc := 29) (j := 2) dX12_hindrance_29 flX12_184 rfl rfl (hW1.mE 5 hqc) (hW1.k2 hqc) ?_
    refine o_icmp_le (pc := 32) 37 dX12_hindrance_32 (by decide) (by unfold inI; omega) (by unfold inI; omega) (fun c_32 => ?_) (fun c_32 => ?_)
    · refine o_aload_n (pc := 37) dX12_hindrance_37 1 rfl ?_
      refine o_aload_n (pc := 38) dX12_hindrance_38 1 rfl ?_
      refine o_gR (pc := 39) (j := 10) (56) ((B.1 3)) dX12_hindrance_39 flX12_29 rfl rfl hW1.mW (hW1.r 3) ?_
      refine o_aload_n (pc := 42) dX12_hindrance_42 0 rfl ?_
      refine o_gI (pc := 43) (j := 0) dX12_hindrance_43 flX12_187 rfl rfl (hW1.mE 5 hqc) (hW1.k0 hqc) ?_
      refine o_topI (y := (((N (270 + 6 * (c : Int) + 0)).toNat : Nat) : Int)) (by omega) ?_
      refine o_callV (pc := 46) _ dX12_hindrance_46 (hW1.get 3 (q := (N (270 + 6 * (c : Int) + 0)).toNat) hql) lkX12_124 rfl rfl rfl rfl (hW1.l 3).1 ⟨⟨(Nat.le_of_ble_eq_true rfl), (Nat.le_of_ble_eq_true rfl)⟩, (Nat.le_of_ble_eq_true rfl), (Nat.le_of_ble_eq_true rfl)⟩ (Nat.le_of_ble_eq_true rfl) rfl (fun v h2 hq2 => ?_)
      obtain ⟨rfl, rfl⟩ := hq2
      show YY _ _ _ _ _ (rf G 52 (bE B 3 (N (270 + 6 * (c : Int) + 0)).toNat) :: _) _ _ _ _
      refine o_castO (pc := 49) dX12_hindrance_49 clX12_85 rfl rfl (hW1.mE 3 (q := (N (270 + 6 * (c : Int) + 0)).toNat) hql) ?_
      refine o_callV (pc := 52) _ dX12_hindrance_52 (cw_above hW1 hql) lkX12_190 rfl rfl rfl rfl hW1.mW ⟨⟨(Nat.le_of_ble_eq_true rfl), (Nat.le_of_ble_eq_true rfl)⟩, (Nat.le_of_ble_eq_true rfl), (Nat.le_of_ble_eq_true rfl)⟩ (Nat.le_of_ble_eq_true rfl) rfl (fun v h2 hq2 => ?_)
      obtain ⟨rfl, rfl⟩ := hq2
      refine o_topI (y := aboveN N (N (270 + 6 * (c : Int) + 0))) (by rw [Int.toNat_of_nonneg (by omega)]) ?_
      refine o_iload_n (pc := 55) dX12_hindrance_55 3 rfl ?_
      refine o_icmp_ge (pc := 56) 61 dX12_hindrance_56 (by decide) (by unfold inI; omega) (by unfold inI; omega) (fun c_56 => ?_) (fun c_56 => ?_)
      · refine o_aload_n (pc := 61) dX12_hindrance_61 1 rfl ?_
        refine o_gR (pc := 62) (j := 13) (56) ((B.1 6)) dX12_hindrance_62 flX12_38 rfl rfl hW1.mW (hW1.r 6) ?_
        refine o_callV (pc := 65) _ dX12_hindrance_65 (cl_size (hW1.l 6)) lkX12_193 rfl rfl rfl rfl (hW1.l 6).1 ⟨⟨(Nat.le_of_ble_eq_true rfl), (Nat.le_of_ble_eq_true rfl)⟩, (Nat.le_of_ble_eq_true rfl), (Nat.le_of_ble_eq_true rfl)⟩ (Nat.le_of_ble_eq_true rfl) rfl (fun v h2 hq2 => ?_)
        obtain ⟨rfl, rfl⟩ := hq2
        refine o_topI (y := N 9) (by show (((N 9).toNat : Nat) : Int) = _; omega) ?_
        refine o_bipush (pc := 68) (z := 16) dX12_hindrance_68 (by decide) ?_
        refine o_icmp_ne (pc := 70) 77 dX12_hindrance_70 (by decide) (by unfold inI; omega) (by unfold inI; omega) (fun c_70 => ?_) (fun c_70 => ?_)
        · refine o_iconst (pc := 77) dX12_hindrance_77 ?_
          exact o_iret (pc := 78) dX12_hindrance_78 rfl (Nat.le_of_ble_eq_true rfl) (Nat.le_of_ble_eq_true rfl) ⟨by unfold hinN; rw [if_neg (by omega), if_neg (by omega), if_neg (by omega)]; first | rw [if_neg (by omega)] | rw [if_pos (by omega)], hF⟩
        · refine o_iconst (pc := 73) dX12_hindrance_73 ?_
          refine o_goto (pc := 74) 78 dX12_hindrance_74 (by decide) ?_
          exact o_iret (pc := 78) dX12_hindrance_78 rfl (Nat.le_of_ble_eq_true rfl) (Nat.le_of_ble_eq_true rfl) ⟨by unfold hinN; rw [if_neg (by omega), if_neg (by omega), if_neg (by omega)]; first | rw [if_neg (by omega)] | rw [if_pos (by omega)], hF⟩
      · refine o_iconst (pc := 59) dX12_hindrance_59 ?_
        exact o_iret (pc := 60) dX12_hindrance_60 rfl (Nat.le_of_ble_eq_true rfl) (Nat.le_of_ble_eq_true rfl) ⟨by unfold hinN; rw [if_neg (by omega), if_neg (by omega), if_pos (by omega)], hF⟩
    · refine o_iconst (pc := 35) dX12_hindrance_35 ?_
      exact o_iret (pc := 36) dX12_hindrance_36 rfl (Nat.le_of_ble_eq_true rfl) (Nat.le_of_ble_eq_true rfl) ⟨by unfold hinN; rw [if_neg (by omega), if_pos (by omega)], hF⟩
  · refine o_iconst (pc := 19) dX12_hindrance_19 ?_
    exact o_iret (pc := 20) dX12_hindrance_20 rfl (Nat.le_of_ble_eq_true rfl) (Nat.le_of_ble_eq_true rfl) ⟨by unfold hinN; rw [if_pos (by omega)], Fr.rf hn⟩
