/-! acts: trips that are not dropped, not added -/
theorem ac_8d0 {G : GG} {h H : Hp} {V : Nat → Vw} {R : Nat → Int → Int} {p : Nat} {T : Nat → Prop} {pl c b aw K w2 : Nat} {B2 : Bok} (I : AI G h V R p T pl c b aw K) (F : Fr (fun _ => False) h H) (W2 : WN G H w2 (R p) B2 (snew h H) T) (hK : K ≤ 99) {x : Int} (hx : 0 ≤ x ∧ x < 134217728) {c0 s0 : Nat} (hcs : c0 ≤ 760) (hss : s0 ≤ 14500) {q : Nat} (hx3 : x % 3 = 0) (h7 : 0 < R p 7) (hqe : x / 4 % R p 7 = (q : Int)) (hst : R p (206 + 4 * (q : Int) + 3) ≠ 0) : YY G ML_act (rmL 12 2500 24000) 599 [(0, rf G 38 0), (1, rf G (ak 8 1) aw), (2, rf G 56 pl), (4, rf G 51 (V p).1), (5, .int (iI x)), (7, .int (iI (R p 3))), (8, .int (iI (R p 8))), (9, .int (iI (R p 9))), (10, rf G 51 w2), (11, .int (iI 1))] [] H c0 s0 (fun v h1 => v = some (.int (iI 1)) ∧ ∃ V' R' p' c' b', AI G h1 V' R' p' T pl c' b' aw (K + 1)) := by
  have p8 := I.2.1.p8
  have hW := I.w.fr0 F
  have hs := I.2.1.1.fr F
  have hcH := F.cl I.1
  have gn := hs.gn
  have hU := I.2.2.1 p (Nat.le_refl p)
  have hn := F.2.2.2.2
  have r3 := hs.1.2.2.1.1.2.2.1
  have r5 := hs.1.2.2.1.1.2.2.2.2.2.1
  have r8 := hs.1.2.2.1.1.2.2.2.2.2.2
  have r7 := hs.1.2.2.2.1.1.2.2.2.2.2.1
  have r9 := hs.1.2.2.2.1.1.2.2.2.2.2.2
  have r2 := hs.1.2.2.2.1.1.1
  have b2 := hs.1.2.1.1
  have b3 := hs.1.1.2.2.1
  have b5 := hs.1.1.2.2.2.2.2.1
  have b8 := hs.1.1.2.2.2.2.2.2.1
  have b7 := hs.1.2.1.2.2.2.1.1
  have b9 := hs.1.2.1.2.2.2.2.1.1
  have nn3 : 0 ≤ R p 3 ∧ R p 3 ≤ 8 := by omega
  have nn5 : 0 ≤ R p 5 ∧ R p 5 ≤ 12 := by omega
  have nn7 : 0 ≤ R p 7 ∧ R p 7 ≤ 16 := by omega
  have nn8 : 0 ≤ R p 8 ∧ R p 8 ≤ 8 := by omega
  have nn9 : 0 ≤ R p 9 ∧ R p 9 ≤ 16 := by omega
  have nn2 : 0 ≤ R p 2 ∧ R p 2 ≤ 6000 := by have := hU.2; omega
  have hq : (q : Int) < R p 7 := by
    have e := Int.emod_lt_of_pos (x / 4) (show 0 < R p 7 by omega)
    omega
  have TR := gn.trip (t := (q : Int)) (by omega) hq
  have RT := hs.1.2.2.2.1.2.2.2.2.1 (q : Int) (by omega) (by omega)
  refine o_iload (pc := 599) dL_act_599 4 rfl ?_
  refine o_iconst (pc := 601) dL_act_601 ?_
  refine o_irem (pc := 602) dL_act_602 (by omega) (by omega) ?_
  refine o_if_ne (pc := 603) 708 dL_act_603 (by decide) (by unfold inI; omega) (fun c_603 => (by exfalso; omega)) (fun c_603 => ?_)
  refine o_aload (pc := 606) dL_act_606 3 rfl ?_
  refine o_gR (pc := 608) (j := 9) (56) (((V p).2.1.1 2)) dL_act_608 flL_124 rfl rfl hW.mW (hW.r 2) ?_
  refine o_callV (pc := 611) _ dL_act_611 (cl_isEmpty (hW.l 2)) lkL_69 rfl rfl rfl rfl (hW.l 2).1 ⟨⟨by simp only [rmL, rmD]; omega, by simp only [rmL, rmD]; omega⟩, by simp only [rmL, rmD]; omega, by simp only [rmL, rmD]; omega⟩ (Nat.le_of_ble_eq_true rfl) rfl (fun v h2 hq2 => ?_)
  obtain ⟨rfl, e2⟩ := hq2
  obtain rfl := e2.symm
  rw [if_neg (show ¬ (nj (R p) 2).toNat = 0 by change ¬ (R p 7).toNat = 0; omega)]
  refine o_if_ne (pc := 614) 708 dL_act_614 (by decide) (by unfold inI; omega) (fun c_614 => (by exfalso; omega)) (fun c_614 => ?_)
  refine o_iload (pc := 617) dL_act_617 4 rfl ?_
  refine o_iconst (pc := 619) dL_act_619 ?_
  refine o_idiv (pc := 620) dL_act_620 (by omega) (by omega) ?_
  refine o_aload (pc := 621) dL_act_621 3 rfl ?_
  refine o_gR (pc := 623) (j := 9) (56) (((V p).2.1.1 2)) dL_act_623 flL_124 rfl rfl hW.mW (hW.r 2) ?_
  refine o_callV (pc := 626) _ dL_act_626 (cl_size (hW.l 2)) lkL_73 rfl rfl rfl rfl (hW.l 2).1 ⟨⟨by simp only [rmL, rmD]; omega, by simp only [rmL, rmD]; omega⟩, by simp only [rmL, rmD]; omega, by simp only [rmL, rmD]; omega⟩ (Nat.le_of_ble_eq_true rfl) rfl (fun v h2 hq2 => ?_)
  obtain ⟨rfl, e2⟩ := hq2
  obtain rfl := e2.symm
  refine o_topI (y := R p 7) (by show (((R p 7).toNat : Nat) : Int) = _; omega) ?_
  refine o_irem (pc := 629) dL_act_629 (by omega) (by omega) ?_
  refine o_topI (y := (q : Int)) hqe ?_
  refine o_istore (pc := 630) (lv' := [(14, _), (0, _), (1, _), (2, _), (4, _), (5, _), (7, _), (8, _), (9, _), (10, _), (11, _)]) dL_act_630 (by decide) rfl ?_
  refine o_aload (pc := 632) dL_act_632 4 rfl ?_
  refine o_gR (pc := 634) (j := 9) (56) (((V p).2.1.1 2)) dL_act_634 flL_124 rfl rfl hW.mW (hW.r 2) ?_
  refine o_iload (pc := 637) dL_act_637 0 rfl ?_
  refine o_callV (pc := 639) _ dL_act_639 (hW.get 2 hq) lkL_130 rfl rfl rfl rfl (hW.l 2).1 ⟨⟨by simp only [rmL, rmD]; omega, by simp only [rmL, rmD]; omega⟩, by simp only [rmL, rmD]; omega, by simp only [rmL, rmD]; omega⟩ (Nat.le_of_ble_eq_true rfl) rfl (fun v h2 hq2 => ?_)
  obtain ⟨rfl, e2⟩ := hq2
  obtain rfl := e2.symm
  show YY _ _ _ _ _ (rf G (ak 0 4) (bE (V p).2.1 2 q) :: _) _ _ _ _
  refine o_castI (pc := 642) dL_act_642 clL_233 (shp_ak (by decide)) (hW.mE 2 hq) ?_
  refine o_iconst (pc := 645) dL_act_645 ?_
  refine o_iaI (pc := 646) dL_act_646 (shp_ak (by decide)) (hW.mE 2 hq) (by omega) (by omega) (hW.tv hq (z := 3) (by omega)) ?_
  refine o_if_ne (pc := 647) 654 dL_act_647 (by decide) (by unfold inI; omega) (fun c_647 => ?_) (fun c_647 => (by exfalso; omega))
  refine o_iconst (pc := 654) dL_act_654 ?_
  refine o_istore (pc := 655) (lv' := [(11, _), (14, _), (0, _), (1, _), (2, _), (4, _), (5, _), (7, _), (8, _), (9, _), (10, _)]) dL_act_655 (by decide) rfl ?_
  refine o_iload (pc := 657) dL_act_657 0 rfl ?_
  refine o_if_eq (pc := 659) 677 dL_act_659 (by decide) (by unfold inI; omega) (fun c_659 => ?_) (fun c_659 => (by exfalso; omega))
  refine o_iload (pc := 677) dL_act_677 0 rfl ?_
  refine o_if_eq (pc := 679) 693 dL_act_679 (by decide) (by unfold inI; omega) (fun c_679 => ?_) (fun c_679 => (by exfalso; omega))
  refine o_bipush (pc := 693) (z := (-3)) dL_act_693 (by decide) ?_
  refine o_istore (pc := 695) (lv' := [(12, _), (11, _), (14, _), (0, _), (1, _), (2, _), (4, _), (5, _), (7, _), (8, _), (9, _), (10, _)]) dL_act_695 (by decide) rfl ?_
  refine o_aload_n (pc := 697) dL_act_697 3 rfl ?_
  refine o_iload (pc := 698) dL_act_698 2 rfl ?_
  refine o_callC (pc := 700) _ dL_act_700 (fun G' hG => P_dropTrip0 (m := H.2.1) hs.1.1 hs.1.2.1 hs.1.2.2.2.2.2.2.1 hs.2.1 hs.2.2 (a0 := (q : Int)) (by unfold inI; omega) (by omega) (by rw [← RT.2.2.2]; omega)) lkL_316 rfl rfl hcH ⟨⟨by simp only [rmL, rmD]; omega, by simp only [rmL, rmD]; omega⟩, by simp only [rmL, rmD]; omega, by simp only [rmL, rmD]; omega⟩ (Nat.le_of_ble_eq_true rfl) rfl (fun n1 => ?_)
  refine o_istore (pc := 703) (lv' := [(13, _), (12, _), (11, _), (14, _), (0, _), (1, _), (2, _), (4, _), (5, _), (7, _), (8, _), (9, _), (10, _)]) dL_act_703 (by decide) rfl ?_
  refine o_goto (pc := 705) 1327 dL_act_705 (by decide) ?_
  exact o_lv [4, 5, 6, 12, 2, 1, 0] rfl (ac_fin0 (w2 := w2) I (Nat.le_succ K) F (by first | omega | (simp only [rmL, rmD]; omega)) (by first | omega | (simp only [rmL, rmD]; omega)))
