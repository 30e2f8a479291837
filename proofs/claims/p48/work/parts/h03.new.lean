/-! the law: what holds of a new program -/
theorem o_dcmp {G : GG} {M : Mth} {R : Room} {pc : Nat} {lv : List (Nat × Value)} {st : List Value} {h : Hp} {c0 s0 : Nat} {Q : PP} {x y : UInt64} {op : CmpOp} (d : decode M.2.1 pc = .ok (.dcmp op, 1)) (k : YY G M R (pc + 1) lv (.int (Op.cmpValue (FP.dcmp x y) op) :: st) h c0 s0 Q) : YY G M R pc lv (.double y :: .double x :: st) h c0 s0 Q := by
  intro p l e s m args below meth c H locs ls hC hR hS hl
  exact lv_dcmp hC.1 hC.2.1 d (k p l e s m args below meth c H locs ls hC hR hS hl)
theorem P_used0 {G : GG} {m : Mem} (ht : m 0 0 1 = 0) : Ct G MX7_usedPart (rmD 9) [rf G 38 0] (hp m) (.inl (some (.double FP.dconst0))) (hp m) := by
  refine x_entry (by decide +kernel) mwX7_usedPart rfl (Nat.le_of_ble_eq_true rfl) ?_
  show X G MX7_usedPart (rmD 9) 0 [(0, rf G 38 0)] [] (hp m) 0 0 (.inl (some (.double FP.dconst0))) (hp m)
  refine x_aload_n (pc := 0) dX7_usedPart_0 0 rfl ?_
  refine y_getR (pc := 1) dX7_usedPart_1 flX7_15 rfl rfl rfl (by decide) ?_
  refine y_getR (pc := 4) (b := 0) dX7_usedPart_4 flX7_93 rfl rfl rfl (by decide) ?_
  refine y_getL (pc := 7) 1 dX7_usedPart_7 flX7_235 rfl rfl rfl (by decide) ?_
  refine x_lstore_n (pc := 10) (lv' := [(1, _), (0, _)]) dX7_usedPart_10 rfl (by decide) rfl ?_
  refine x_lload_n (pc := 11) dX7_usedPart_11 0 rfl ?_
  refine x_lconst (pc := 12) (z := 0) dX7_usedPart_12 (by decide) ?_
  refine x_lcmp (pc := 13) dX7_usedPart_13 (by unfold inL; omega) (by unfold inL; omega) ?_
  refine x_if_ne (pc := 14) 21 dX7_usedPart_14 (by decide) (by rw [if_neg (by omega), if_pos ht]; unfold inI; decide) (fun q => ?_) (fun q => ?_)
  · exact absurd (by rw [if_neg (by omega), if_pos ht]) q
  · refine x_dconst0 (pc := 17) dX7_usedPart_17 ?_
    refine x_goto (pc := 18) 35 dX7_usedPart_18 (by decide) ?_
    exact x_dret (pc := 35) dX7_usedPart_35 rfl (Nat.zero_le _) (Nat.zero_le _)
theorem CI.size {h : Hp} {n : Nat} (c : CI h) : CI (cs h h.2.1 n) := by
  obtain ⟨c1, c2, c3, c4, c5, c6⟩ := c
  refine ⟨CL_cs c1, SH_cs c2, ?_, by rw [cs_lo (by decide)]; exact c4, by rw [cs_lo (by decide)]; exact c5, ⟨n, rfl⟩⟩
  unfold RW at *
  rw [cs_lo (by decide), cs_lo (by decide)]
  exact c3
theorem CI.pk {h : Hp} (c : CI h) : h.2.1 22 0 2 = 0 := by
  have e := c.2.1.1.2.2.1.1.2.2.1
  exact e.symm.trans rfl
theorem UC_0 : UC n0 := fun c h0 h1 => by
  have e : n0 5 = 0 := rfl
  omega
theorem CI.tk {h : Hp} (c : CI h) : h.2.1 0 0 1 = 0 := by
  have e := c.2.1.1.2.2.2.1.1
  exact e.2.1.symm.trans rfl
set_option maxRecDepth 20000 in
theorem lw_8 {G : GG} {h : Hp} (hL : gV G 21 ≤ 300) (hc : CI h) {c0 s0 : Nat} (hcs : c0 ≤ 9000) (hss : s0 ≤ 190000) : YY G ML_law room_1 8 [(0, .ref (gV G 20)), (1, rf G 38 0)] [] h c0 s0 (fun v _ => v = some (.int (iI 1))) := by
  refine o_aload_n (pc := 8) dL_law_8 1 rfl ?_
  refine o_sizeD (fun w hw => ?_) hc.2.2.2.2.2
  refine o_new (pc := 9) (k := 51) dL_law_9 ncL_27 rfl (by decide) hw (by (try simp only [rmL, room_1, List.length_cons, List.length_nil, Nat.add_assoc, Nat.reduceAdd, Nat.add_zero, Nat.zero_add]); first | exact ckp hcs (by decide) | exact Nat.le_trans hcs (by decide)) (by (try simp only [rmL, room_1, List.length_cons, List.length_nil, Nat.add_assoc, Nat.reduceAdd, Nat.add_zero, Nat.zero_add]); first | exact ckp hss (by decide) | exact Nat.le_trans hss (by decide)) (fun fw => ?_)
  refine o_dup (pc := 12) dL_law_12 rfl ?_
  refine o_callIN (pc := 13) _ dL_law_13 (cw_init nw_in (fun f _ => congrFun nw_m _) ⟨_, rfl⟩) lkL_29 rfl rfl ⟨⟨(Nat.le_of_ble_eq_true rfl), (Nat.le_of_ble_eq_true rfl)⟩, (by (try simp only [rmL, room_1, List.length_cons, List.length_nil, Nat.add_assoc, Nat.reduceAdd, Nat.add_zero, Nat.zero_add]); first | exact ckp hcs (by decide) | exact Nat.le_trans hcs (by decide)), (by (try simp only [rmL, room_1, List.length_cons, List.length_nil, Nat.add_assoc, Nat.reduceAdd, Nat.add_zero, Nat.zero_add]); first | exact ckp hss (by decide) | exact Nat.le_trans hss (by decide))⟩ (Nat.le_of_ble_eq_true rfl) rfl (fun v H1 hq => ?_)
  obtain ⟨rfl, B0, I⟩ := hq
  have F1 : Fr (fun _ => False) h H1 := (Fr_nw (Fr.rf hc.2.2.2.2.2) (by decide) fw).tr I.2.1 (fun i hi => .inr (by rw [hi]; exact fw))
  have c1 := hc.fr F1
  have W : WN G H1 w n0 (B0, (fun _ => 0), (fun _ => gV G 15), fun _ _ => 0) (fun i => i = w ∨ ∃ j, j < 7 ∧ i = B0 j) (fun _ => False) := I.wn (fun i hi => ⟨id, by
    rcases hi with rfl | ⟨j, hj, rfl⟩
    · exact ⟨51, by decide, I.1⟩
    · exact ⟨56, by decide, (I.2.2.2 j hj).1⟩⟩) (.inl rfl) (fun j hj => .inr ⟨j, hj, rfl⟩)
  refine o_callS (pc := 16) _ dL_law_16 (cw_isSame W c1.2.1 c1.1 (by decide) UC_0 (LNs_of c1.2.1) c1.2.2.2.2.2) lkL_356 rfl ⟨⟨(Nat.le_of_ble_eq_true rfl), (Nat.le_of_ble_eq_true rfl)⟩, (by (try simp only [rmL, room_1, List.length_cons, List.length_nil, Nat.add_assoc, Nat.reduceAdd, Nat.add_zero, Nat.zero_add]); first | exact ckp hcs (by decide) | exact Nat.le_trans hcs (by decide)), (by (try simp only [rmL, room_1, List.length_cons, List.length_nil, Nat.add_assoc, Nat.reduceAdd, Nat.add_zero, Nat.zero_add]); first | exact ckp hss (by decide) | exact Nat.le_trans hss (by decide))⟩ (Nat.le_of_ble_eq_true rfl) rfl (fun v H2 hq => ?_)
  obtain ⟨rfl, F2⟩ := hq
  have c2 := c1.fr F2
  refine o_if_eq (pc := 19) 55 dL_law_19 (by decide) (by unfold inI; omega) (fun c_19 => (by exfalso; omega)) (fun c_19 => ?_)
  refine o_aload_n (pc := 22) dL_law_22 1 rfl ?_
  refine o_callC (pc := 23) _ dL_law_23 (fun G' hG => P_undo0 (m := _) c2.2.1.1.1 c2.2.1.1.2.1 c2.2.1.1.2.2.2.2.2.2.1 c2.2.1.2.1 c2.2.1.2.2 c2.2.2.2.2.1) lkL_275 rfl rfl c2.1 ⟨⟨(Nat.le_of_ble_eq_true rfl), (Nat.le_of_ble_eq_true rfl)⟩, (by (try simp only [rmL, room_1, List.length_cons, List.length_nil, Nat.add_assoc, Nat.reduceAdd, Nat.add_zero, Nat.zero_add]); first | exact ckp hcs (by decide) | exact Nat.le_trans hcs (by decide)), (by (try simp only [rmL, room_1, List.length_cons, List.length_nil, Nat.add_assoc, Nat.reduceAdd, Nat.add_zero, Nat.zero_add]); first | exact ckp hss (by decide) | exact Nat.le_trans hss (by decide))⟩ (Nat.le_of_ble_eq_true rfl) rfl (fun k1 => ?_)
  have c3 := c2.size (n := k1)
  refine o_iconst (pc := 26) dL_law_26 ?_
  refine o_icmp_ne (pc := 27) 55 dL_law_27 (by decide) (by unfold inI; omega) (by unfold inI; omega) (fun c_27 => (by exfalso; omega)) (fun c_27 => ?_)
  refine o_aload_n (pc := 30) dL_law_30 1 rfl ?_
  refine o_callC (pc := 31) _ dL_law_31 (fun G' hG => P_neediest (m := _) c3.2.1.1.1 c3.2.1.1.2.1 c3.2.1.1.2.2.2.2.2.2.1 c3.2.1.2.1 c3.2.1.2.2) lkL_360 rfl rfl c3.1 ⟨⟨(Nat.le_of_ble_eq_true rfl), (Nat.le_of_ble_eq_true rfl)⟩, (by (try simp only [rmL, room_1, List.length_cons, List.length_nil, Nat.add_assoc, Nat.reduceAdd, Nat.add_zero, Nat.zero_add]); first | exact ckp hcs (by decide) | exact Nat.le_trans hcs (by decide)), (by (try simp only [rmL, room_1, List.length_cons, List.length_nil, Nat.add_assoc, Nat.reduceAdd, Nat.add_zero, Nat.zero_add]); first | exact ckp hss (by decide) | exact Nat.le_trans hss (by decide))⟩ (Nat.le_of_ble_eq_true rfl) rfl (fun k2 => ?_)
  have c4 := c3.size (n := k2)
  refine o_topI (y := (-1)) (by rw [c3.pk]; rfl) ?_
  refine o_iconst (pc := 34) dL_law_34 ?_
  refine o_icmp_ne (pc := 35) 55 dL_law_35 (by decide) (by unfold inI; omega) (by unfold inI; omega) (fun c_35 => (by exfalso; omega)) (fun c_35 => ?_)
  refine o_aload_n (pc := 38) dL_law_38 1 rfl ?_
  refine o_callC (pc := 39) _ dL_law_39 (fun G' hG => P_richest (m := _) c4.2.1.1.1 c4.2.1.1.2.1 c4.2.1.1.2.2.2.2.2.2.1 c4.2.1.2.1 c4.2.1.2.2) lkL_363 rfl rfl c4.1 ⟨⟨(Nat.le_of_ble_eq_true rfl), (Nat.le_of_ble_eq_true rfl)⟩, (by (try simp only [rmL, room_1, List.length_cons, List.length_nil, Nat.add_assoc, Nat.reduceAdd, Nat.add_zero, Nat.zero_add]); first | exact ckp hcs (by decide) | exact Nat.le_trans hcs (by decide)), (by (try simp only [rmL, room_1, List.length_cons, List.length_nil, Nat.add_assoc, Nat.reduceAdd, Nat.add_zero, Nat.zero_add]); first | exact ckp hss (by decide) | exact Nat.le_trans hss (by decide))⟩ (Nat.le_of_ble_eq_true rfl) rfl (fun k3 => ?_)
  have c5 := c4.size (n := k3)
  refine o_topI (y := (-1)) (by rw [c4.pk]; rfl) ?_
  refine o_iconst (pc := 42) dL_law_42 ?_
  refine o_icmp_ne (pc := 43) 55 dL_law_43 (by decide) (by unfold inI; omega) (by unfold inI; omega) (fun c_43 => (by exfalso; omega)) (fun c_43 => ?_)
  refine o_aload_n (pc := 46) dL_law_46 1 rfl ?_
  refine o_callC (pc := 47) _ dL_law_47 (fun G' hG => P_used0 (m := _) c5.tk) lkL_366 rfl rfl c5.1 ⟨⟨(Nat.le_of_ble_eq_true rfl), (Nat.le_of_ble_eq_true rfl)⟩, (by (try simp only [rmL, room_1, List.length_cons, List.length_nil, Nat.add_assoc, Nat.reduceAdd, Nat.add_zero, Nat.zero_add]); first | exact ckp hcs (by decide) | exact Nat.le_trans hcs (by decide)), (by (try simp only [rmL, room_1, List.length_cons, List.length_nil, Nat.add_assoc, Nat.reduceAdd, Nat.add_zero, Nat.zero_add]); first | exact ckp hss (by decide) | exact Nat.le_trans hss (by decide))⟩ (Nat.le_of_ble_eq_true rfl) rfl (fun k4 => ?_)
  have c6 := c5.size (n := k4)
  refine o_dconst0 (pc := 50) dL_law_50 ?_
  refine o_dcmp (pc := 51) dL_law_51 ?_
  refine o_top (v' := .int (iI 0)) (by decide +kernel) ?_
  refine o_if_eq (pc := 52) 57 dL_law_52 (by decide) (by unfold inI; omega) (fun c_52 => ?_) (fun c_52 => (by exfalso; omega))
  exact o_lv [0, 1] rfl (lw_57 hL c6 (by (try simp only [rmL, room_1, List.length_cons, List.length_nil, Nat.add_assoc, Nat.reduceAdd, Nat.add_zero, Nat.zero_add]); first | exact ckp hcs (by decide) | exact Nat.le_trans hcs (by decide)) (by (try simp only [rmL, room_1, List.length_cons, List.length_nil, Nat.add_assoc, Nat.reduceAdd, Nat.add_zero, Nat.zero_add]); first | exact ckp hss (by decide) | exact Nat.le_trans hss (by decide)))
