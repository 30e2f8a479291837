/-! acts: trips that are not dropped, not added -/
theorem ac_8d0 {G : GG} {h H : Hp} {V : Nat → Vw} {R : Nat → Int → Int} {p : Nat} {T : Nat → Prop} {pl c b aw K w2 : Nat} {B2 : Bok} (I : AI G h V R p T pl c b aw K) (F : Fr (fun _ => False) h H) (W2 : WN G H w2 (R p) B2 (snew h H) T) (hK : K ≤ 99) {x : Int} (hx : 0 ≤ x ∧ x < 134217728) {c0 s0 : Nat} (hcs : c0 ≤ 760) (hss : s0 ≤ 14500) {q : Nat} (hx3 : x % 3 = 0) (h7 : 0 < R p 7) (hqe : x / 4 % R p 7 = (q : Int)) (hst : R p (206 + 4 * (q : Int) + 3) ≠ 0) : YY G ML_act (rmL 12 2500 24000) 599 [(0, rf G 38 0), (1, rf G (ak 8 1) aw), (2, rf G 56 pl), (4, rf G 51 (V p).1), (5, .int (iI x)), (7, .int (iI (R p 3))), (8, .int (iI (R p 8))), (9, .int (iI (R p 9))), (10, rf G 51 w2), (11, .int (iI 1))] [] H c0 s0 (fun v h1 => v = some (.int (iI 1)) ∧ ∃ V' R' p' c' b', AI G h1 V' R' p' T pl c' b' aw (K + 1)) := by
  have p8 := I.2.1.p8
  have hW := I.w.fr0 F
  have hs := I.2.1.1.fr F
  have hcH := F.cl I.1
  have gn := hs.gn
  have hU := I.2.2.1 p (Nat.le_refl p)
  have hn := F.2.2.2.2
  have r3 := hs.1.2.2.1.1.2.2.1
  have r5 := hs.1.2.2.1.1.2.2.2.2.2.1
  have r8 := hs.1.2.2.1.1.2.2.2.2.2.2
  have r7 := hs.1.2.2.2.1.1.2.2.2.2.2.1
  have r9 := hs.1.2.2.2.1.1.2.2.2.2.2.2
  have r2 := hs.1.2.2.2.1.1.1
  have b2 := hs.1.2.1.1
  have b3 := hs.1.1.2.2.1
  have b5 := hs.1.1.2.2.2.2.2.1
  have b8 := hs.1.1.2.2.2.2.2.2.1
  have b7 := hs.1.2.1.2.2.2.1.1
  have b9 := hs.1.2.1.2.2.2.2.1.1
  have nn3 : 0 ≤ R p 3 ∧ R p 3 ≤ 8 := by omega
  have nn5 : 0 ≤ R p 5 ∧ R p 5 ≤ 12 := by omega
  have nn7 : 0 ≤ R p 7 ∧ R p 7 ≤ 16 := by omega
  have nn8 : 0 ≤ R p 8 ∧ R p 8 ≤ 8 := by omega
  have nn9 : 0 ≤ R p 9 ∧ R p 9 ≤ 16 := by omega
  have nn2 : 0 ≤ R p 2 ∧ R p 2 ≤ 6000 := by have := hU.2; omega
  have hq : (q : Int) < R p 7 := by
    have e := Int.emod_lt_of_pos (x / 4) (show 0 < R p 7 by omega)
    omega
  have TR := gn.trip (t := (q : Int)) (by omega) hq
  have RT := hs.1.2.2.2.1.2.2.2.2.1 (q : Int) (by omega) (by omega)
  refine o_iload (pc := 599) dL_act_599 4 rfl ?_
  refine o_iconst (pc := 601) dL_act_601 ?_
  refine o_irem (pc := 602) dL_act_602 (by omega) (by omega) ?_
  refine o_if_ne (pc := 603) 708 dL_act_603 (by decide) (by unfold inI; omega) (fun c_603 => (by exfalso; omega)) (fun c_603 => ?_)
  refine o_aload (pc := 606) dL_act_606 3 rfl ?_
  refine o_gR (pc := 608) (j := 9) (56) (((V p).2.1.1 2)) dL_act_608 flL_124 rfl rfl hW.mW (hW.r 2) ?_
  refine o_callV (pc := 611) _ dL_act_611 (cl_isEmpty (hW.l 2)) lkL_69 rfl rfl rfl rfl (hW.l 2).1 ⟨⟨by simp only [rmL, rmD]; omega, by simp only [rmL, rmD]; omega⟩, by simp only [rmL, rmD]; omega, by simp only [rmL, rmD]; omega⟩ (Nat.le_of_ble_eq_true rfl) rfl (fun v h2 hq2 => ?_)
  obtain ⟨rfl, e2⟩ := hq2
  obtain rfl := e2.symm
  rw [if_neg (show ¬ (nj (R p) 2).toNat = 0 by change ¬ (R p 7).toNat = 0; omega)]
  refine o_if_ne (pc := 614) 708 dL_act_614 (by decide) (by unfold inI; omega) (fun c_614 => (by exfalso; omega)) (fun c_614 => ?_)
  refine o_iload (pc := 617) dL_act_617 4 rfl ?_
  refine o_iconst (pc := 619) dL_act_619 ?_
  refine o_idiv (pc := 620) dL_act_620 (by omega) (by omega) ?_
  refine o_aload (pc := 621) dL_act_621 3 rfl ?_
  refine o_gR (pc := 623) (j := 9) (56) (((V p).2.1.1 2)) dL_act_623 flL_124 rfl rfl hW.mW (hW.r 2) ?_
  refine o_callV (pc := 626) _ dL_act_626 (cl_size (hW.l 2)) lkL_73 rfl rfl rfl rfl (hW.l 2).1 ⟨⟨by simp only [rmL, rmD]; omega, by simp only [rmL, rmD]; omega⟩, by simp only [rmL, rmD]; omega, by simp only [rmL, rmD]; omega⟩ (Nat.le_of_ble_eq_true rfl) rfl (fun v h2 hq2 => ?_)
  obtain ⟨rfl, e2⟩ := hq2
  obtain rfl := e2.symm
  refine o_topI (y := R p 7) (by show (((R p 7).toNat : Nat) : Int) = _; omega) ?_
  refine o_irem (pc := 629) dL_act_629 (by omega) (by omega) ?_
  refine o_topI (y := (q : Int)) hqe ?_
  refine o_istore (pc := 630) (lv' := [(14, _), (0, _), (1, _), (2, _), (4, _), (5, _), (7, _), (8, _), (9, _), (10, _), (11, _)]) dL_act_630 (by decide) rfl ?_
  refine o_aload (pc := 632) dL_act_632 4 rfl ?_
  refine o_gR (pc := 634) (j := 9) (56) (((V p).2.1.1 2)) dL_act_634 flL_124 rfl rfl hW.mW (hW.r 2) ?_
  refine o_iload (pc := 637) dL_act_637 0 rfl ?_
  refine o_callV (pc := 639) _ dL_act_639 (hW.get 2 hq) lkL_130 rfl rfl rfl rfl (hW.l 2).1 ⟨⟨by simp only [rmL, rmD]; omega, by simp only [rmL, rmD]; omega⟩, by simp only [rmL, rmD]; omega, by simp only [rmL, rmD]; omega⟩ (Nat.le_of_ble_eq_true rfl) rfl (fun v h2 hq2 => ?_)
  obtain ⟨rfl, e2⟩ := hq2
  obtain rfl := e2.symm
  show YY _ _ _ _ _ (rf G (ak 0 4) (bE (V p).2.1 2 q) :: _) _ _ _ _
  refine o_castI (pc := 642) dL_act_642 clL_233 (shp_ak (by decide)) (hW.mE 2 hq) ?_
  refine o_iconst (pc := 645) dL_act_645 ?_
  refine o_iaI (pc := 646) dL_act_646 (shp_ak (by decide)) (hW.mE 2 hq) (by omega) (by omega) (hW.tv hq (z := 3) (by omega)) ?_
  refine o_if_ne (pc := 647) 654 dL_act_647 (by decide) (by unfold inI; omega) (fun c_647 => ?_) (fun c_647 => (by exfalso; omega))
  refine o_iconst (pc := 654) dL_act_654 ?_
  refine o_istore (pc := 655) (lv' := [(11, _), (14, _), (0, _), (1, _), (2, _), (4, _), (5, _), (7, _), (8, _), (9, _), (10, _)]) dL_act_655 (by decide) rfl ?_
  refine o_iload (pc := 657) dL_act_657 0 rfl ?_
  refine o_if_eq (pc := 659) 677 dL_act_659 (by decide) (by unfold inI; omega) (fun c_659 => ?_) (fun c_659 => (by exfalso; omega))
  refine o_iload (pc := 677) dL_act_677 0 rfl ?_
  refine o_if_eq (pc := 679) 693 dL_act_679 (by decide) (by unfold inI; omega) (fun c_679 => ?_) (fun c_679 => (by exfalso; omega))
  refine o_bipush (pc := 693) (z := (-3)) dL_act_693 (by decide) ?_
  refine o_istore (pc := 695) (lv' := [(12, _), (11, _), (14, _), (0, _), (1, _), (2, _), (4, _), (5, _), (7, _), (8, _), (9, _), (10, _)]) dL_act_695 (by decide) rfl ?_
  refine o_aload_n (pc := 697) dL_act_697 3 rfl ?_
  refine o_iload (pc := 698) dL_act_698 2 rfl ?_
  refine o_callC (pc := 700) _ dL_act_700 (fun G' hG => P_dropTrip0 (m := H.2.1) hs.1.1 hs.1.2.1 hs.1.2.2.2.2.2.2.1 hs.2.1 hs.2.2 (a0 := (q : Int)) (by unfold inI; omega) (by omega) (by rw [← RT.2.2.2]; omega)) lkL_316 rfl rfl hcH ⟨⟨by simp only [rmL, rmD]; omega, by simp only [rmL, rmD]; omega⟩, by simp only [rmL, rmD]; omega, by simp only [rmL, rmD]; omega⟩ (Nat.le_of_ble_eq_true rfl) rfl (fun n1 => ?_)
  refine o_istore (pc := 703) (lv' := [(13, _), (12, _), (11, _), (14, _), (0, _), (1, _), (2, _), (4, _), (5, _), (7, _), (8, _), (9, _), (10, _)]) dL_act_703 (by decide) rfl ?_
  refine o_goto (pc := 705) 1327 dL_act_705 (by decide) ?_
  exact o_lv [4, 5, 6, 12, 2, 1, 0] rfl (ac_fin0 (w2 := w2) I (Nat.le_succ K) F (by first | omega | (simp only [rmL, rmD]; omega)) (by first | omega | (simp only [rmL, rmD]; omega)))
theorem ac_8a0 {G : GG} {h H : Hp} {V : Nat → Vw} {R : Nat → Int → Int} {p : Nat} {T : Nat → Prop} {pl c b aw K w2 : Nat} {B2 : Bok} (I : AI G h V R p T pl c b aw K) (F : Fr (fun _ => False) h H) (W2 : WN G H w2 (R p) B2 (snew h H) T) (hK : K ≤ 99) {x : Int} (hx : 0 ≤ x ∧ x < 134217728) {c0 s0 : Nat} (hcs : c0 ≤ 760) (hss : s0 ≤ 14500) {q : Nat} (hqe : x % R p 3 = (q : Int)) (h3 : 0 < R p 3) (h7 : R p 7 = 16) : YY G ML_act (rmL 12 2500 24000) 708 [(0, rf G 38 0), (1, rf G (ak 8 1) aw), (2, rf G 56 pl), (4, rf G 51 (V p).1), (5, .int (iI x)), (7, .int (iI (R p 3))), (8, .int (iI (R p 8))), (9, .int (iI (R p 9))), (10, rf G 51 w2), (11, .int (iI 1))] [] H c0 s0 (fun v h1 => v = some (.int (iI 1)) ∧ ∃ V' R' p' c' b', AI G h1 V' R' p' T pl c' b' aw (K + 1)) := by
  have p8 := I.2.1.p8
  have hW := I.w.fr0 F
  have hs := I.2.1.1.fr F
  have hcH := F.cl I.1
  have gn := hs.gn
  have hU := I.2.2.1 p (Nat.le_refl p)
  have hn := F.2.2.2.2
  have r3 := hs.1.2.2.1.1.2.2.1
  have r5 := hs.1.2.2.1.1.2.2.2.2.2.1
  have r8 := hs.1.2.2.1.1.2.2.2.2.2.2
  have r7 := hs.1.2.2.2.1.1.2.2.2.2.2.1
  have r9 := hs.1.2.2.2.1.1.2.2.2.2.2.2
  have r2 := hs.1.2.2.2.1.1.1
  have b2 := hs.1.2.1.1
  have b3 := hs.1.1.2.2.1
  have b5 := hs.1.1.2.2.2.2.2.1
  have b8 := hs.1.1.2.2.2.2.2.2.1
  have b7 := hs.1.2.1.2.2.2.1.1
  have b9 := hs.1.2.1.2.2.2.2.1.1
  have nn3 : 0 ≤ R p 3 ∧ R p 3 ≤ 8 := by omega
  have nn5 : 0 ≤ R p 5 ∧ R p 5 ≤ 12 := by omega
  have nn7 : 0 ≤ R p 7 ∧ R p 7 ≤ 16 := by omega
  have nn8 : 0 ≤ R p 8 ∧ R p 8 ≤ 8 := by omega
  have nn9 : 0 ≤ R p 9 ∧ R p 9 ≤ 16 := by omega
  have nn2 : 0 ≤ R p 2 ∧ R p 2 ≤ 6000 := by have := hU.2; omega
  have em0 := Int.emod_nonneg x (show R p 3 ≠ 0 by omega)
  have em1 := Int.emod_lt_of_pos x (show 0 < R p 3 by omega)
  have hq : (q : Int) < R p 3 := by omega
  obtain ⟨tm, htm⟩ : ∃ tm : Int, max 0 (R p 2 - 2 + x / 8 % 40) = tm := ⟨_, rfl⟩
  obtain ⟨y, hy⟩ : ∃ y : Int, 1 + x / 512 % 120 = y := ⟨_, rfl⟩
  have hy1 : 1 ≤ y ∧ y ≤ 120 := by omega
  have ht1 : 0 ≤ tm ∧ tm ≤ 7000 := by omega
  refine o_iconst (pc := 708) dL_act_708 ?_
  refine o_sizeD (fun tq htq => ?_) hn
  refine o_newI (pc := 709) (N := 4) dL_act_709 htq rfl (Nat.le_of_ble_eq_true rfl) (by first | omega | (simp only [rmL, rmD]; omega)) (by first | omega | (simp only [rmL, rmD]; omega)) (fun ftq => ?_)
  have S0 := SA.nw (tg := 0) (len := 4) (Fr.rf (S := fun _ => False) hn) ftq
  have V0 := hW.fr0 S0.1
  refine o_dup (pc := 711) dL_act_711 rfl ?_
  refine o_iconst (pc := 712) dL_act_712 ?_
  refine o_iload (pc := 713) dL_act_713 4 rfl ?_
  refine o_iload (pc := 715) dL_act_715 5 rfl ?_
  refine o_irem (pc := 717) dL_act_717 (by omega) (by omega) ?_
  refine o_topI (y := (q : Int)) hqe ?_
  refine o_isI (pc := 718) dL_act_718 (shp_ak (by decide)) nw_in (by omega) (by omega) ?_
  have S1 := S0.set ftq 0 (q : Int)
  have V1 := hW.fr0 S1.1
  refine o_dup (pc := 719) dL_act_719 rfl ?_
  refine o_iconst (pc := 720) dL_act_720 ?_
  refine o_iconst (pc := 721) dL_act_721 ?_
  refine o_aload (pc := 722) dL_act_722 3 rfl ?_
  refine o_gI (pc := 724) (j := 2) dL_act_724 flL_269 rfl rfl V1.mW V1.w2 ?_
  refine o_iconst (pc := 727) dL_act_727 ?_
  refine o_isub (pc := 728) dL_act_728 ?_
  refine o_iload (pc := 729) dL_act_729 4 rfl ?_
  refine o_bipush (pc := 731) (z := 8) dL_act_731 (by decide) ?_
  refine o_idiv (pc := 733) dL_act_733 (by omega) (by omega) ?_
  refine o_bipush (pc := 734) (z := 40) dL_act_734 (by decide) ?_
  refine o_irem (pc := 736) dL_act_736 (by omega) (by omega) ?_
  refine o_iadd (pc := 737) dL_act_737 ?_
  refine o_max (pc := 738) dL_act_738 lmL_319 (by unfold inI; omega) (by unfold inI; omega) (Nat.le_of_ble_eq_true rfl) (Nat.le_of_ble_eq_true rfl) (by first | omega | (simp only [rmL, rmD]; omega)) (by first | omega | (simp only [rmL, rmD]; omega)) ?_
  refine o_topI (y := tm) htm ?_
  refine o_isI (pc := 741) dL_act_741 (shp_ak (by decide)) nw_in (by omega) (by omega) ?_
  have S2 := S1.set ftq 1 tm
  refine o_dup (pc := 742) dL_act_742 rfl ?_
  refine o_iconst (pc := 743) dL_act_743 ?_
  refine o_iconst (pc := 744) dL_act_744 ?_
  refine o_iload (pc := 745) dL_act_745 4 rfl ?_
  refine o_sipush (pc := 747) (z := 512) dL_act_747 (by decide) ?_
  refine o_idiv (pc := 750) dL_act_750 (by omega) (by omega) ?_
  refine o_bipush (pc := 751) (z := 120) dL_act_751 (by decide) ?_
  refine o_irem (pc := 753) dL_act_753 (by omega) (by omega) ?_
  refine o_iadd (pc := 754) dL_act_754 ?_
  refine o_topI (y := y) hy ?_
  refine o_isI (pc := 755) dL_act_755 (shp_ak (by decide)) nw_in (by omega) (by omega) ?_
  have S3 := S2.set ftq 2 y
  refine o_dup (pc := 756) dL_act_756 rfl ?_
  refine o_iconst (pc := 757) dL_act_757 ?_
  refine o_iconst (pc := 758) dL_act_758 ?_
  refine o_isI (pc := 759) dL_act_759 (shp_ak (by decide)) nw_in (by omega) (by omega) ?_
  have S4 := S3.set ftq 3 0
  have V4 := hW.fr0 S4.1
  have F4 := F.tr S4.1 (fun _ z => z.elim)
  have hs4 := hs.fr S4.1
  have hc4 := S4.1.cl hcH
  have r74 := hs4.1.2.2.2.1.1.2.2.2.2.2.1
  have r34 := hs4.1.2.2.1.1.2.2.1
  have r24 := hs4.1.2.2.2.1.1.1
  refine o_astore (pc := 760) (lv' := [(14, _), (0, _), (1, _), (2, _), (4, _), (5, _), (7, _), (8, _), (9, _), (10, _), (11, _)]) dL_act_760 (by decide) rfl ?_
  refine o_aload (pc := 762) dL_act_762 4 rfl ?_
  refine o_gR (pc := 764) (j := 9) (56) (((V p).2.1.1 2)) dL_act_764 flL_124 rfl rfl V4.mW (V4.r 2) ?_
  refine o_callV (pc := 767) _ dL_act_767 (cl_size (V4.l 2)) lkL_73 rfl rfl rfl rfl (V4.l 2).1 ⟨⟨by simp only [rmL, rmD]; omega, by simp only [rmL, rmD]; omega⟩, by simp only [rmL, rmD]; omega, by simp only [rmL, rmD]; omega⟩ (Nat.le_of_ble_eq_true rfl) rfl (fun v h2 hq2 => ?_)
  obtain ⟨rfl, rfl⟩ := hq2
  refine o_topI (y := R p 7) (by show (((R p 7).toNat : Nat) : Int) = _; omega) ?_
  refine o_bipush (pc := 770) (z := 16) dL_act_770 (by decide) ?_
  refine o_icmp_ge (pc := 772) 791 dL_act_772 (by decide) (by unfold inI; omega) (by unfold inI; omega) (fun c_772 => ?_) (fun c_772 => (by exfalso; omega))
  refine o_iconst (pc := 791) dL_act_791 ?_
  refine o_istore (pc := 792) (lv' := [(11, _), (14, _), (0, _), (1, _), (2, _), (4, _), (5, _), (7, _), (8, _), (9, _), (10, _)]) dL_act_792 (by decide) rfl ?_
  refine o_aload (pc := 794) dL_act_794 5 rfl ?_
  refine o_gR (pc := 796) (j := 9) (56) (((V p).2.1.1 2)) dL_act_796 flL_124 rfl rfl V4.mW (V4.r 2) ?_
  refine o_callV (pc := 799) _ dL_act_799 (cl_size (V4.l 2)) lkL_73 rfl rfl rfl rfl (V4.l 2).1 ⟨⟨by simp only [rmL, rmD]; omega, by simp only [rmL, rmD]; omega⟩, by simp only [rmL, rmD]; omega, by simp only [rmL, rmD]; omega⟩ (Nat.le_of_ble_eq_true rfl) rfl (fun v h2 hq2 => ?_)
  obtain ⟨rfl, rfl⟩ := hq2
  refine o_topI (y := R p 7) (by show (((R p 7).toNat : Nat) : Int) = _; omega) ?_
  refine o_bipush (pc := 802) (z := 16) dL_act_802 (by decide) ?_
  refine o_icmp_ne (pc := 804) 812 dL_act_804 (by decide) (by unfold inI; omega) (by unfold inI; omega) (fun c_804 => (by exfalso; omega)) (fun c_804 => ?_)
  refine o_bipush (pc := 807) (z := (-2)) dL_act_807 (by decide) ?_
  refine o_goto (pc := 809) 830 dL_act_809 (by decide) ?_
  refine o_istore (pc := 830) (lv' := [(12, _), (11, _), (14, _), (0, _), (1, _), (2, _), (4, _), (5, _), (7, _), (8, _), (9, _), (10, _)]) dL_act_830 (by decide) rfl ?_
  refine o_iload (pc := 832) dL_act_832 1 rfl ?_
  refine o_if_eq (pc := 834) 848 dL_act_834 (by decide) (by unfold inI; omega) (fun c_834 => ?_) (fun c_834 => (by exfalso; omega))
  refine o_aload_n (pc := 848) dL_act_848 3 rfl ?_
  refine o_aload (pc := 849) dL_act_849 2 rfl ?_
  refine o_iconst (pc := 851) dL_act_851 ?_
  refine o_iaI (pc := 852) dL_act_852 (shp_ak (by decide)) S4.2.1 (by omega) (by omega) (S4.2.2 0 (by omega) (by omega)) ?_
  refine o_topI (y := (q : Int)) rfl ?_
  refine o_aload (pc := 853) dL_act_853 2 rfl ?_
  refine o_iconst (pc := 855) dL_act_855 ?_
  refine o_iaI (pc := 856) dL_act_856 (shp_ak (by decide)) S4.2.1 (by omega) (by omega) (S4.2.2 1 (by omega) (by omega)) ?_
  refine o_topI (y := tm) rfl ?_
  refine o_aload (pc := 857) dL_act_857 2 rfl ?_
  refine o_iconst (pc := 859) dL_act_859 ?_
  refine o_iaI (pc := 860) dL_act_860 (shp_ak (by decide)) S4.2.1 (by omega) (by omega) (S4.2.2 2 (by omega) (by omega)) ?_
  refine o_topI (y := y) rfl ?_
  refine o_callC (pc := 861) _ dL_act_861 (fun G' hG => P_addTrip0 (m := _) hs4.1.1 hs4.1.2.1 hs4.1.2.2.2.2.2.2.1 hs4.2.1 hs4.2.2 (a0 := (q : Int)) (a1 := tm) (a2 := y) (by unfold inI; omega) (by unfold inI; omega) (by unfold inI; omega) (by omega) (by omega) (by omega) (by omega)) lkL_322 rfl rfl hc4 ⟨⟨by simp only [rmL, rmD]; omega, by simp only [rmL, rmD]; omega⟩, by simp only [rmL, rmD]; omega, by simp only [rmL, rmD]; omega⟩ (Nat.le_of_ble_eq_true rfl) rfl (fun n1 => ?_)
  refine o_istore (pc := 864) (lv' := [(13, _), (12, _), (11, _), (14, _), (0, _), (1, _), (2, _), (4, _), (5, _), (7, _), (8, _), (9, _), (10, _)]) dL_act_864 (by decide) rfl ?_
  refine o_goto (pc := 866) 1327 dL_act_866 (by decide) ?_
  exact o_lv [4, 5, 6, 12, 2, 1, 0] rfl (ac_fin0 (w2 := w2) I (Nat.le_succ K) F4 (by first | omega | (simp only [rmL, rmD]; omega)) (by first | omega | (simp only [rmL, rmD]; omega)))
theorem ac_8a1 {G : GG} {h H : Hp} {V : Nat → Vw} {R : Nat → Int → Int} {p : Nat} {T : Nat → Prop} {pl c b aw K w2 : Nat} {B2 : Bok} (I : AI G h V R p T pl c b aw K) (F : Fr (fun _ => False) h H) (W2 : WN G H w2 (R p) B2 (snew h H) T) (hK : K ≤ 99) {x : Int} (hx : 0 ≤ x ∧ x < 134217728) {c0 s0 : Nat} (hcs : c0 ≤ 760) (hss : s0 ≤ 14500) {q : Nat} (hqe : x % R p 3 = (q : Int)) (h3 : 0 < R p 3) (h7 : R p 7 < 16) (hlt : max 0 (R p 2 - 2 + x / 8 % 40) < R p 2) : YY G ML_act (rmL 12 2500 24000) 708 [(0, rf G 38 0), (1, rf G (ak 8 1) aw), (2, rf G 56 pl), (4, rf G 51 (V p).1), (5, .int (iI x)), (7, .int (iI (R p 3))), (8, .int (iI (R p 8))), (9, .int (iI (R p 9))), (10, rf G 51 w2), (11, .int (iI 1))] [] H c0 s0 (fun v h1 => v = some (.int (iI 1)) ∧ ∃ V' R' p' c' b', AI G h1 V' R' p' T pl c' b' aw (K + 1)) := by
  have p8 := I.2.1.p8
  have hW := I.w.fr0 F
  have hs := I.2.1.1.fr F
  have hcH := F.cl I.1
  have gn := hs.gn
  have hU := I.2.2.1 p (Nat.le_refl p)
  have hn := F.2.2.2.2
  have r3 := hs.1.2.2.1.1.2.2.1
  have r5 := hs.1.2.2.1.1.2.2.2.2.2.1
  have r8 := hs.1.2.2.1.1.2.2.2.2.2.2
  have r7 := hs.1.2.2.2.1.1.2.2.2.2.2.1
  have r9 := hs.1.2.2.2.1.1.2.2.2.2.2.2
  have r2 := hs.1.2.2.2.1.1.1
  have b2 := hs.1.2.1.1
  have b3 := hs.1.1.2.2.1
  have b5 := hs.1.1.2.2.2.2.2.1
  have b8 := hs.1.1.2.2.2.2.2.2.1
  have b7 := hs.1.2.1.2.2.2.1.1
  have b9 := hs.1.2.1.2.2.2.2.1.1
  have nn3 : 0 ≤ R p 3 ∧ R p 3 ≤ 8 := by omega
  have nn5 : 0 ≤ R p 5 ∧ R p 5 ≤ 12 := by omega
  have nn7 : 0 ≤ R p 7 ∧ R p 7 ≤ 16 := by omega
  have nn8 : 0 ≤ R p 8 ∧ R p 8 ≤ 8 := by omega
  have nn9 : 0 ≤ R p 9 ∧ R p 9 ≤ 16 := by omega
  have nn2 : 0 ≤ R p 2 ∧ R p 2 ≤ 6000 := by have := hU.2; omega
  have em0 := Int.emod_nonneg x (show R p 3 ≠ 0 by omega)
  have em1 := Int.emod_lt_of_pos x (show 0 < R p 3 by omega)
  have hq : (q : Int) < R p 3 := by omega
  obtain ⟨tm, htm⟩ : ∃ tm : Int, max 0 (R p 2 - 2 + x / 8 % 40) = tm := ⟨_, rfl⟩
  obtain ⟨y, hy⟩ : ∃ y : Int, 1 + x / 512 % 120 = y := ⟨_, rfl⟩
  have hy1 : 1 ≤ y ∧ y ≤ 120 := by omega
  have ht1 : 0 ≤ tm ∧ tm ≤ 7000 := by omega
  refine o_iconst (pc := 708) dL_act_708 ?_
  refine o_sizeD (fun tq htq => ?_) hn
  refine o_newI (pc := 709) (N := 4) dL_act_709 htq rfl (Nat.le_of_ble_eq_true rfl) (by first | omega | (simp only [rmL, rmD]; omega)) (by first | omega | (simp only [rmL, rmD]; omega)) (fun ftq => ?_)
  have S0 := SA.nw (tg := 0) (len := 4) (Fr.rf (S := fun _ => False) hn) ftq
  have V0 := hW.fr0 S0.1
  refine o_dup (pc := 711) dL_act_711 rfl ?_
  refine o_iconst (pc := 712) dL_act_712 ?_
  refine o_iload (pc := 713) dL_act_713 4 rfl ?_
  refine o_iload (pc := 715) dL_act_715 5 rfl ?_
  refine o_irem (pc := 717) dL_act_717 (by omega) (by omega) ?_
  refine o_topI (y := (q : Int)) hqe ?_
  refine o_isI (pc := 718) dL_act_718 (shp_ak (by decide)) nw_in (by omega) (by omega) ?_
  have S1 := S0.set ftq 0 (q : Int)
  have V1 := hW.fr0 S1.1
  refine o_dup (pc := 719) dL_act_719 rfl ?_
  refine o_iconst (pc := 720) dL_act_720 ?_
  refine o_iconst (pc := 721) dL_act_721 ?_
  refine o_aload (pc := 722) dL_act_722 3 rfl ?_
  refine o_gI (pc := 724) (j := 2) dL_act_724 flL_269 rfl rfl V1.mW V1.w2 ?_
  refine o_iconst (pc := 727) dL_act_727 ?_
  refine o_isub (pc := 728) dL_act_728 ?_
  refine o_iload (pc := 729) dL_act_729 4 rfl ?_
  refine o_bipush (pc := 731) (z := 8) dL_act_731 (by decide) ?_
  refine o_idiv (pc := 733) dL_act_733 (by omega) (by omega) ?_
  refine o_bipush (pc := 734) (z := 40) dL_act_734 (by decide) ?_
  refine o_irem (pc := 736) dL_act_736 (by omega) (by omega) ?_
  refine o_iadd (pc := 737) dL_act_737 ?_
  refine o_max (pc := 738) dL_act_738 lmL_319 (by unfold inI; omega) (by unfold inI; omega) (Nat.le_of_ble_eq_true rfl) (Nat.le_of_ble_eq_true rfl) (by first | omega | (simp only [rmL, rmD]; omega)) (by first | omega | (simp only [rmL, rmD]; omega)) ?_
  refine o_topI (y := tm) htm ?_
  refine o_isI (pc := 741) dL_act_741 (shp_ak (by decide)) nw_in (by omega) (by omega) ?_
  have S2 := S1.set ftq 1 tm
  refine o_dup (pc := 742) dL_act_742 rfl ?_
  refine o_iconst (pc := 743) dL_act_743 ?_
  refine o_iconst (pc := 744) dL_act_744 ?_
  refine o_iload (pc := 745) dL_act_745 4 rfl ?_
  refine o_sipush (pc := 747) (z := 512) dL_act_747 (by decide) ?_
  refine o_idiv (pc := 750) dL_act_750 (by omega) (by omega) ?_
  refine o_bipush (pc := 751) (z := 120) dL_act_751 (by decide) ?_
  refine o_irem (pc := 753) dL_act_753 (by omega) (by omega) ?_
  refine o_iadd (pc := 754) dL_act_754 ?_
  refine o_topI (y := y) hy ?_
  refine o_isI (pc := 755) dL_act_755 (shp_ak (by decide)) nw_in (by omega) (by omega) ?_
  have S3 := S2.set ftq 2 y
  refine o_dup (pc := 756) dL_act_756 rfl ?_
  refine o_iconst (pc := 757) dL_act_757 ?_
  refine o_iconst (pc := 758) dL_act_758 ?_
  refine o_isI (pc := 759) dL_act_759 (shp_ak (by decide)) nw_in (by omega) (by omega) ?_
  have S4 := S3.set ftq 3 0
  have V4 := hW.fr0 S4.1
  have F4 := F.tr S4.1 (fun _ z => z.elim)
  have hs4 := hs.fr S4.1
  have hc4 := S4.1.cl hcH
  have r74 := hs4.1.2.2.2.1.1.2.2.2.2.2.1
  have r34 := hs4.1.2.2.1.1.2.2.1
  have r24 := hs4.1.2.2.2.1.1.1
  refine o_astore (pc := 760) (lv' := [(14, _), (0, _), (1, _), (2, _), (4, _), (5, _), (7, _), (8, _), (9, _), (10, _), (11, _)]) dL_act_760 (by decide) rfl ?_
  refine o_aload (pc := 762) dL_act_762 4 rfl ?_
  refine o_gR (pc := 764) (j := 9) (56) (((V p).2.1.1 2)) dL_act_764 flL_124 rfl rfl V4.mW (V4.r 2) ?_
  refine o_callV (pc := 767) _ dL_act_767 (cl_size (V4.l 2)) lkL_73 rfl rfl rfl rfl (V4.l 2).1 ⟨⟨by simp only [rmL, rmD]; omega, by simp only [rmL, rmD]; omega⟩, by simp only [rmL, rmD]; omega, by simp only [rmL, rmD]; omega⟩ (Nat.le_of_ble_eq_true rfl) rfl (fun v h2 hq2 => ?_)
  obtain ⟨rfl, rfl⟩ := hq2
  refine o_topI (y := R p 7) (by show (((R p 7).toNat : Nat) : Int) = _; omega) ?_
  refine o_bipush (pc := 770) (z := 16) dL_act_770 (by decide) ?_
  refine o_icmp_ge (pc := 772) 791 dL_act_772 (by decide) (by unfold inI; omega) (by unfold inI; omega) (fun c_772 => (by exfalso; omega)) (fun c_772 => ?_)
  refine o_aload (pc := 775) dL_act_775 0 rfl ?_
  refine o_iconst (pc := 777) dL_act_777 ?_
  refine o_iaI (pc := 778) dL_act_778 (shp_ak (by decide)) S4.2.1 (by omega) (by omega) (S4.2.2 1 (by omega) (by omega)) ?_
  refine o_topI (y := tm) rfl ?_
  refine o_aload (pc := 779) dL_act_779 4 rfl ?_
  refine o_gI (pc := 781) (j := 2) dL_act_781 flL_269 rfl rfl V4.mW V4.w2 ?_
  refine o_icmp_lt (pc := 784) 791 dL_act_784 (by decide) (by unfold inI; omega) (by unfold inI; omega) (fun c_784 => ?_) (fun c_784 => (by exfalso; omega))
  refine o_iconst (pc := 791) dL_act_791 ?_
  refine o_istore (pc := 792) (lv' := [(11, _), (14, _), (0, _), (1, _), (2, _), (4, _), (5, _), (7, _), (8, _), (9, _), (10, _)]) dL_act_792 (by decide) rfl ?_
  refine o_aload (pc := 794) dL_act_794 5 rfl ?_
  refine o_gR (pc := 796) (j := 9) (56) (((V p).2.1.1 2)) dL_act_796 flL_124 rfl rfl V4.mW (V4.r 2) ?_
  refine o_callV (pc := 799) _ dL_act_799 (cl_size (V4.l 2)) lkL_73 rfl rfl rfl rfl (V4.l 2).1 ⟨⟨by simp only [rmL, rmD]; omega, by simp only [rmL, rmD]; omega⟩, by simp only [rmL, rmD]; omega, by simp only [rmL, rmD]; omega⟩ (Nat.le_of_ble_eq_true rfl) rfl (fun v h2 hq2 => ?_)
  obtain ⟨rfl, rfl⟩ := hq2
  refine o_topI (y := R p 7) (by show (((R p 7).toNat : Nat) : Int) = _; omega) ?_
  refine o_bipush (pc := 802) (z := 16) dL_act_802 (by decide) ?_
  refine o_icmp_ne (pc := 804) 812 dL_act_804 (by decide) (by unfold inI; omega) (by unfold inI; omega) (fun c_804 => ?_) (fun c_804 => (by exfalso; omega))
  refine o_iload (pc := 812) dL_act_812 0 rfl ?_
  refine o_if_eq (pc := 814) 828 dL_act_814 (by decide) (by unfold inI; omega) (fun c_814 => ?_) (fun c_814 => (by exfalso; omega))
  refine o_bipush (pc := 828) (z := (-4)) dL_act_828 (by decide) ?_
  refine o_istore (pc := 830) (lv' := [(12, _), (11, _), (14, _), (0, _), (1, _), (2, _), (4, _), (5, _), (7, _), (8, _), (9, _), (10, _)]) dL_act_830 (by decide) rfl ?_
  refine o_iload (pc := 832) dL_act_832 1 rfl ?_
  refine o_if_eq (pc := 834) 848 dL_act_834 (by decide) (by unfold inI; omega) (fun c_834 => ?_) (fun c_834 => (by exfalso; omega))
  refine o_aload_n (pc := 848) dL_act_848 3 rfl ?_
  refine o_aload (pc := 849) dL_act_849 2 rfl ?_
  refine o_iconst (pc := 851) dL_act_851 ?_
  refine o_iaI (pc := 852) dL_act_852 (shp_ak (by decide)) S4.2.1 (by omega) (by omega) (S4.2.2 0 (by omega) (by omega)) ?_
  refine o_topI (y := (q : Int)) rfl ?_
  refine o_aload (pc := 853) dL_act_853 2 rfl ?_
  refine o_iconst (pc := 855) dL_act_855 ?_
  refine o_iaI (pc := 856) dL_act_856 (shp_ak (by decide)) S4.2.1 (by omega) (by omega) (S4.2.2 1 (by omega) (by omega)) ?_
  refine o_topI (y := tm) rfl ?_
  refine o_aload (pc := 857) dL_act_857 2 rfl ?_
  refine o_iconst (pc := 859) dL_act_859 ?_
  refine o_iaI (pc := 860) dL_act_860 (shp_ak (by decide)) S4.2.1 (by omega) (by omega) (S4.2.2 2 (by omega) (by omega)) ?_
  refine o_topI (y := y) rfl ?_
  refine o_callC (pc := 861) _ dL_act_861 (fun G' hG => P_addTrip1 (m := _) hs4.1.1 hs4.1.2.1 hs4.1.2.2.2.2.2.2.1 hs4.2.1 hs4.2.2 (a0 := (q : Int)) (a1 := tm) (a2 := y) (by unfold inI; omega) (by unfold inI; omega) (by unfold inI; omega) (by omega) (by omega) (by omega) (by omega) (by omega)) lkL_322 rfl rfl hc4 ⟨⟨by simp only [rmL, rmD]; omega, by simp only [rmL, rmD]; omega⟩, by simp only [rmL, rmD]; omega, by simp only [rmL, rmD]; omega⟩ (Nat.le_of_ble_eq_true rfl) rfl (fun n1 => ?_)
  refine o_istore (pc := 864) (lv' := [(13, _), (12, _), (11, _), (14, _), (0, _), (1, _), (2, _), (4, _), (5, _), (7, _), (8, _), (9, _), (10, _)]) dL_act_864 (by decide) rfl ?_
  refine o_goto (pc := 866) 1327 dL_act_866 (by decide) ?_
  exact o_lv [4, 5, 6, 12, 2, 1, 0] rfl (ac_fin0 (w2 := w2) I (Nat.le_succ K) F4 (by first | omega | (simp only [rmL, rmD]; omega)) (by first | omega | (simp only [rmL, rmD]; omega)))
