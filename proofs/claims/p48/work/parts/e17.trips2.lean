/-! acts: a trip added -/
theorem atN_lo {N : Int → Int} {a b x j : Int} (h7 : 0 ≤ N 7) (hj : j ≠ 7) (h2 : ¬ (206 + 4 * N 7 ≤ j ∧ j < 210 + 4 * N 7)) : atN N a b x j = N j := by
  rw [atN_v N a b x h7 j, if_neg hj, if_neg (by omega), if_neg (by omega), if_neg (by omega), if_neg (by omega)]
theorem atN_e {N : Int → Int} {a b x : Int} (h7 : 0 ≤ N 7 ∧ N 7 < 16) (hm : ∀ i, i < 7 → nj N i ≤ mxj i) : ∀ i, i < 7 → ∀ q : Nat, (q : Int) < nj N i → ∀ f, f < nf i → atN N a b x (ix i q f) = N (ix i q f) := by
  intro i hi q hq f hf
  have b := ix_lo hi (Int.lt_of_lt_of_le hq (hm i hi)) hf
  refine atN_lo h7.1 (by omega) ?_
  by_cases e : i = 2
  · subst e
    have hq' : (q : Int) < N 7 := hq
    have hf' : f < 4 := hf
    have e1 : ix 2 q f = 206 + 4 * (q : Int) + (f : Int) := rfl
    omega
  · have o := ix_o hi (Int.lt_of_lt_of_le hq (hm i hi)) hf 2 (by decide) e
    have e1 : bs 2 = 206 := rfl
    have e2 : sd 2 * mxj 2 = 64 := rfl
    omega
theorem atN_j {N : Int → Int} {a b x : Int} (h7 : 0 ≤ N 7 ∧ N 7 < 16) : ∀ i, i < 7 → nj (atN N a b x) i = nj N i + (if i = 2 then 1 else 0) := by
  intro i hi
  match i, hi with
  | 0, _ => exact (atN_lo h7.1 (by omega) (by omega)).trans (Int.add_zero _).symm
  | 1, _ => exact (atN_lo h7.1 (by omega) (by omega)).trans (Int.add_zero _).symm
  | 2, _ =>
    show atN N a b x 7 = N 7 + 1
    rw [atN_v N a b x h7.1 7, if_pos rfl]
  | 3, _ => exact (atN_lo h7.1 (by omega) (by omega)).trans (Int.add_zero _).symm
  | 4, _ => exact (atN_lo h7.1 (by omega) (by omega)).trans (Int.add_zero _).symm
  | 5, _ => exact (atN_lo h7.1 (by omega) (by omega)).trans (Int.add_zero _).symm
  | 6, _ => exact (atN_lo h7.1 (by omega) (by omega)).trans (Int.add_zero _).symm
  | n + 7, h => exact absurd h (by omega)
theorem atN_n {N : Int → Int} {a b x : Int} (h7 : 0 ≤ N 7) {f : Int} (hf : 0 ≤ f ∧ f < 4) : atN N a b x (206 + 4 * N 7 + f) = if f = 3 then 0 else if f = 2 then x else if f = 1 then b else a := by
  rw [atN_v N a b x h7, if_neg (by omega)]
  by_cases e3 : f = 3
  · rw [if_pos (by omega), if_pos e3]
  · rw [if_neg (by omega), if_neg e3]
    by_cases e2 : f = 2
    · rw [if_pos (by omega), if_pos e2]
    · rw [if_neg (by omega), if_neg e2]
      by_cases e1 : f = 1
      · rw [if_pos (by omega), if_pos e1]
      · rw [if_neg (by omega), if_neg e1, if_pos (by omega)]
theorem UT.trip {K : Nat} {N : Int → Int} {a b x : Int} (h : UT K N) (h7 : 0 ≤ N 7) (h5 : N 5 ≤ 12) : UT K (atN N a b x) := ⟨h.1.cg (atN_lo h7 (by omega) (by omega)) (atN_lo h7 (by omega) (by omega)) h5 (fun j a b _ => atN_lo h7 (by omega) (by omega)), by rw [atN_lo h7 (by omega) (by omega)]; exact h.2⟩
theorem bE_ad {B : Bok} {j c1 b1 n e : Nat} : bE (adB B j c1 b1 n e) j n = e := if_pos ⟨rfl, rfl⟩
theorem ac_8a2 {G : GG} {h H : Hp} {V : Nat → Vw} {R : Nat → Int → Int} {p : Nat} {T : Nat → Prop} {pl c b aw K w2 : Nat} {B2 : Bok} (I : AI G h V R p T pl c b aw K) (F : Fr (fun _ => False) h H) (W2 : WN G H w2 (R p) B2 (snew h H) T) (hK : K ≤ 99) {x : Int} (hx : 0 ≤ x ∧ x < 134217728) {c0 s0 : Nat} (hcs : c0 ≤ 760) (hss : s0 ≤ 14500) {q : Nat} (hqe : x % R p 3 = (q : Int)) (h3 : 0 < R p 3) (h7 : R p 7 < 16) (hge : R p 2 ≤ max 0 (R p 2 - 2 + x / 8 % 40)) : YY G ML_act (rmL 12 2500 24000) 708 [(0, rf G 38 0), (1, rf G (ak 8 1) aw), (2, rf G 56 pl), (4, rf G 51 (V p).1), (5, .int (iI x)), (7, .int (iI (R p 3))), (8, .int (iI (R p 8))), (9, .int (iI (R p 9))), (10, rf G 51 w2), (11, .int (iI 1))] [] H c0 s0 (fun v h1 => v = some (.int (iI 1)) ∧ ∃ V' R' p' c' b', AI G h1 V' R' p' T pl c' b' aw (K + 1)) := by
  have p8 := I.2.1.p8
  have hW := I.w.fr0 F
  have hs := I.2.1.1.fr F
  have hcH := F.cl I.1
  have gn := hs.gn
  have hU := I.2.2.1 p (Nat.le_refl p)
  have hn := F.2.2.2.2
  have r3 := hs.1.2.2.1.1.2.2.1
  have r5 := hs.1.2.2.1.1.2.2.2.2.2.1
  have r8 := hs.1.2.2.1.1.2.2.2.2.2.2
  have r7 := hs.1.2.2.2.1.1.2.2.2.2.2.1
  have r9 := hs.1.2.2.2.1.1.2.2.2.2.2.2
  have r2 := hs.1.2.2.2.1.1.1
  have b2 := hs.1.2.1.1
  have b3 := hs.1.1.2.2.1
  have b5 := hs.1.1.2.2.2.2.2.1
  have b8 := hs.1.1.2.2.2.2.2.2.1
  have b7 := hs.1.2.1.2.2.2.1.1
  have b9 := hs.1.2.1.2.2.2.2.1.1
  have nn3 : 0 ≤ R p 3 ∧ R p 3 ≤ 8 := by omega
  have nn5 : 0 ≤ R p 5 ∧ R p 5 ≤ 12 := by omega
  have nn7 : 0 ≤ R p 7 ∧ R p 7 ≤ 16 := by omega
  have nn8 : 0 ≤ R p 8 ∧ R p 8 ≤ 8 := by omega
  have nn9 : 0 ≤ R p 9 ∧ R p 9 ≤ 16 := by omega
  have nn2 : 0 ≤ R p 2 ∧ R p 2 ≤ 6000 := by have := hU.2; omega
  have em0 := Int.emod_nonneg x (show R p 3 ≠ 0 by omega)
  have em1 := Int.emod_lt_of_pos x (show 0 < R p 3 by omega)
  have hq : (q : Int) < R p 3 := by omega
  obtain ⟨tm, htm⟩ : ∃ tm : Int, max 0 (R p 2 - 2 + x / 8 % 40) = tm := ⟨_, rfl⟩
  obtain ⟨y, hy⟩ : ∃ y : Int, 1 + x / 512 % 120 = y := ⟨_, rfl⟩
  have hy1 : 1 ≤ y ∧ y ≤ 120 := by omega
  have ht1 : 0 ≤ tm ∧ tm ≤ 7000 := by omega
  refine o_iconst (pc := 708) dL_act_708 ?_
  refine o_sizeD (fun tq htq => ?_) hn
  refine o_newI (pc := 709) (N := 4) dL_act_709 htq rfl (Nat.le_of_ble_eq_true rfl) (by first | omega | (simp only [rmL, rmD]; omega)) (by first | omega | (simp only [rmL, rmD]; omega)) (fun ftq => ?_)
  have S0 := SA.nw (tg := 0) (len := 4) (Fr.rf (S := fun _ => False) hn) ftq
  have V0 := hW.fr0 S0.1
  refine o_dup (pc := 711) dL_act_711 rfl ?_
  refine o_iconst (pc := 712) dL_act_712 ?_
  refine o_iload (pc := 713) dL_act_713 4 rfl ?_
  refine o_iload (pc := 715) dL_act_715 5 rfl ?_
  refine o_irem (pc := 717) dL_act_717 (by omega) (by omega) ?_
  refine o_topI (y := (q : Int)) hqe ?_
  refine o_isI (pc := 718) dL_act_718 (shp_ak (by decide)) nw_in (by omega) (by omega) ?_
  have S1 := S0.set ftq 0 (q : Int)
  have V1 := hW.fr0 S1.1
  refine o_dup (pc := 719) dL_act_719 rfl ?_
  refine o_iconst (pc := 720) dL_act_720 ?_
  refine o_iconst (pc := 721) dL_act_721 ?_
  refine o_aload (pc := 722) dL_act_722 3 rfl ?_
  refine o_gI (pc := 724) (j := 2) dL_act_724 flL_269 rfl rfl V1.mW V1.w2 ?_
  refine o_iconst (pc := 727) dL_act_727 ?_
  refine o_isub (pc := 728) dL_act_728 ?_
  refine o_iload (pc := 729) dL_act_729 4 rfl ?_
  refine o_bipush (pc := 731) (z := 8) dL_act_731 (by decide) ?_
  refine o_idiv (pc := 733) dL_act_733 (by omega) (by omega) ?_
  refine o_bipush (pc := 734) (z := 40) dL_act_734 (by decide) ?_
  refine o_irem (pc := 736) dL_act_736 (by omega) (by omega) ?_
  refine o_iadd (pc := 737) dL_act_737 ?_
  refine o_max (pc := 738) dL_act_738 lmL_319 (by unfold inI; omega) (by unfold inI; omega) (Nat.le_of_ble_eq_true rfl) (Nat.le_of_ble_eq_true rfl) (by first | omega | (simp only [rmL, rmD]; omega)) (by first | omega | (simp only [rmL, rmD]; omega)) ?_
  refine o_topI (y := tm) htm ?_
  refine o_isI (pc := 741) dL_act_741 (shp_ak (by decide)) nw_in (by omega) (by omega) ?_
  have S2 := S1.set ftq 1 tm
  refine o_dup (pc := 742) dL_act_742 rfl ?_
  refine o_iconst (pc := 743) dL_act_743 ?_
  refine o_iconst (pc := 744) dL_act_744 ?_
  refine o_iload (pc := 745) dL_act_745 4 rfl ?_
  refine o_sipush (pc := 747) (z := 512) dL_act_747 (by decide) ?_
  refine o_idiv (pc := 750) dL_act_750 (by omega) (by omega) ?_
  refine o_bipush (pc := 751) (z := 120) dL_act_751 (by decide) ?_
  refine o_irem (pc := 753) dL_act_753 (by omega) (by omega) ?_
  refine o_iadd (pc := 754) dL_act_754 ?_
  refine o_topI (y := y) hy ?_
  refine o_isI (pc := 755) dL_act_755 (shp_ak (by decide)) nw_in (by omega) (by omega) ?_
  have S3 := S2.set ftq 2 y
  refine o_dup (pc := 756) dL_act_756 rfl ?_
  refine o_iconst (pc := 757) dL_act_757 ?_
  refine o_iconst (pc := 758) dL_act_758 ?_
  refine o_isI (pc := 759) dL_act_759 (shp_ak (by decide)) nw_in (by omega) (by omega) ?_
  have S4 := S3.set ftq 3 0
  have V4 := hW.fr0 S4.1
  refine o_astore (pc := 760) (lv' := [(14, _), (0, _), (1, _), (2, _), (4, _), (5, _), (7, _), (8, _), (9, _), (10, _), (11, _)]) dL_act_760 (by decide) rfl ?_
  refine o_aload (pc := 762) dL_act_762 4 rfl ?_
  refine o_gR (pc := 764) (j := 9) (56) (((V p).2.1.1 2)) dL_act_764 flL_124 rfl rfl V4.mW (V4.r 2) ?_
  refine o_callV (pc := 767) _ dL_act_767 (cl_size (V4.l 2)) lkL_73 rfl rfl rfl rfl (V4.l 2).1 ⟨⟨by simp only [rmL, rmD]; omega, by simp only [rmL, rmD]; omega⟩, by simp only [rmL, rmD]; omega, by simp only [rmL, rmD]; omega⟩ (Nat.le_of_ble_eq_true rfl) rfl (fun v h2 hq2 => ?_)
  obtain ⟨rfl, rfl⟩ := hq2
  refine o_topI (y := R p 7) (by show (((R p 7).toNat : Nat) : Int) = _; omega) ?_
  refine o_bipush (pc := 770) (z := 16) dL_act_770 (by decide) ?_
  refine o_icmp_ge (pc := 772) 791 dL_act_772 (by decide) (by unfold inI; omega) (by unfold inI; omega) (fun c_772 => (by exfalso; omega)) (fun c_772 => ?_)
  refine o_aload (pc := 775) dL_act_775 0 rfl ?_
  refine o_iconst (pc := 777) dL_act_777 ?_
  refine o_iaI (pc := 778) dL_act_778 (shp_ak (by decide)) S4.2.1 (by omega) (by omega) (S4.2.2 1 (by omega) (by omega)) ?_
  refine o_topI (y := tm) rfl ?_
  refine o_aload (pc := 779) dL_act_779 4 rfl ?_
  refine o_gI (pc := 781) (j := 2) dL_act_781 flL_269 rfl rfl V4.mW V4.w2 ?_
  refine o_icmp_lt (pc := 784) 791 dL_act_784 (by decide) (by unfold inI; omega) (by unfold inI; omega) (fun c_784 => (by exfalso; omega)) (fun c_784 => ?_)
  refine o_iconst (pc := 787) dL_act_787 ?_
  refine o_goto (pc := 788) 792 dL_act_788 (by decide) ?_
  refine o_istore (pc := 792) (lv' := [(11, _), (14, _), (0, _), (1, _), (2, _), (4, _), (5, _), (7, _), (8, _), (9, _), (10, _)]) dL_act_792 (by decide) rfl ?_
  refine o_aload (pc := 794) dL_act_794 5 rfl ?_
  refine o_gR (pc := 796) (j := 9) (56) (((V p).2.1.1 2)) dL_act_796 flL_124 rfl rfl V4.mW (V4.r 2) ?_
  refine o_callV (pc := 799) _ dL_act_799 (cl_size (V4.l 2)) lkL_73 rfl rfl rfl rfl (V4.l 2).1 ⟨⟨by simp only [rmL, rmD]; omega, by simp only [rmL, rmD]; omega⟩, by simp only [rmL, rmD]; omega, by simp only [rmL, rmD]; omega⟩ (Nat.le_of_ble_eq_true rfl) rfl (fun v h2 hq2 => ?_)
  obtain ⟨rfl, rfl⟩ := hq2
  refine o_topI (y := R p 7) (by show (((R p 7).toNat : Nat) : Int) = _; omega) ?_
  refine o_bipush (pc := 802) (z := 16) dL_act_802 (by decide) ?_
  refine o_icmp_ne (pc := 804) 812 dL_act_804 (by decide) (by unfold inI; omega) (by unfold inI; omega) (fun c_804 => ?_) (fun c_804 => (by exfalso; omega))
  refine o_iload (pc := 812) dL_act_812 0 rfl ?_
  refine o_if_eq (pc := 814) 828 dL_act_814 (by decide) (by unfold inI; omega) (fun c_814 => (by exfalso; omega)) (fun c_814 => ?_)
  refine o_aload (pc := 817) dL_act_817 5 rfl ?_
  refine o_gR (pc := 819) (j := 9) (56) (((V p).2.1.1 2)) dL_act_819 flL_124 rfl rfl V4.mW (V4.r 2) ?_
  refine o_callV (pc := 822) _ dL_act_822 (cl_size (V4.l 2)) lkL_73 rfl rfl rfl rfl (V4.l 2).1 ⟨⟨by simp only [rmL, rmD]; omega, by simp only [rmL, rmD]; omega⟩, by simp only [rmL, rmD]; omega, by simp only [rmL, rmD]; omega⟩ (Nat.le_of_ble_eq_true rfl) rfl (fun v h2 hq2 => ?_)
  obtain ⟨rfl, rfl⟩ := hq2
  refine o_topI (y := R p 7) (by show (((R p 7).toNat : Nat) : Int) = _; omega) ?_
  refine o_goto (pc := 825) 830 dL_act_825 (by decide) ?_
  refine o_istore (pc := 830) (lv' := [(12, _), (11, _), (14, _), (0, _), (1, _), (2, _), (4, _), (5, _), (7, _), (8, _), (9, _), (10, _)]) dL_act_830 (by decide) rfl ?_
  refine o_iload (pc := 832) dL_act_832 1 rfl ?_
  refine o_if_eq (pc := 834) 848 dL_act_834 (by decide) (by unfold inI; omega) (fun c_834 => (by exfalso; omega)) (fun c_834 => ?_)
  refine o_aload (pc := 837) dL_act_837 6 rfl ?_
  refine o_gR (pc := 839) (j := 9) (56) (((V p).2.1.1 2)) dL_act_839 flL_124 rfl rfl V4.mW (V4.r 2) ?_
  refine o_aload (pc := 842) dL_act_842 2 rfl ?_
  refine o_callV (pc := 844) _ dL_act_844 (cl_add (V4.l 2) S4.1.2.2.2.2 (by show (R p 7).toNat ≤ 100; omega) (a := ak 0 4) (e := tq) (pk_isE 2) S4.2.1) lkL_60 rfl rfl rfl rfl (V4.l 2).1 ⟨⟨by simp only [rmL, rmD]; omega, by simp only [rmL, rmD]; omega⟩, by simp only [rmL, rmD]; omega, by simp only [rmL, rmD]; omega⟩ (Nat.le_of_ble_eq_true rfl) rfl (fun v H5 hq2 => ?_)
  obtain ⟨rfl, c1, b1, hA5, FA, hb5⟩ := hq2
  refine o_uq (fun hu => ?_)
  have mx : ∀ i, i < 7 → nj (R p) i ≤ mxj i := fun i hi => (hW.nb i hi).2
  obtain ⟨W5, F5⟩ := WN.more1 (N' := atN (R p) (q : Int) tm y) V4 (S4.1.w (fun _ z => z.elim) : Fr (V p).2.2 H _) (F.hm I.2.2.2.2.2.2.1) hu 2 (by decide) hA5 FA hb5 S4.2.1 ftq hW.ns (fun f hf => atN_lo nn7.1 (hd_n (by omega)) (by have := hd_b (f := f); omega)) (atN_j ⟨nn7.1, h7⟩) (by show R p 7 + 1 ≤ 16; omega) (atN_e ⟨nn7.1, h7⟩ mx) (fun f hf => by
    have hf' : f < 4 := hf
    have e1 : ix 2 (nj (R p) 2).toNat f = 206 + 4 * R p 7 + (f : Int) := by show 206 + 4 * (((R p 7).toNat : Nat) : Int) + (f : Int) = _; omega
    rw [e1, atN_n nn7.1 (by omega)]
    refine (S4.2.2 (f : Int) (by omega) (by omega)).trans ?_
    match f, hf' with
    | 0, _ => rfl
    | 1, _ => rfl
    | 2, _ => rfl
    | 3, _ => rfl
    | n + 4, h => exact absurd h (by omega))
  have e5 : ∀ z : Int, 0 ≤ z → z < 4 → H5.2.1 (ak 0 4) tq z = if z = 3 then 0 else if z = 2 then y else if z = 1 then tm else (q : Int) := fun z z0 z1 => by
    have g := W5.tv (q := (nj (R p) 2).toNat) (by rw [atN_v _ _ _ _ nn7.1, if_pos rfl]; show (((R p 7).toNat : Nat) : Int) < _; omega) (z := z) ⟨z0, z1⟩
    rw [bE_ad] at g
    rw [g, show 206 + 4 * (((nj (R p) 2).toNat : Nat) : Int) + z = 206 + 4 * R p 7 + z by show 206 + 4 * (((R p 7).toNat : Nat) : Int) + z = _; omega]
    exact atN_n nn7.1 ⟨z0, z1⟩
  have m5 : (ak 0 4, tq) ∈ H5.1 := FA.1 _ S4.2.1
  have hs5 := hs.fr F5
  have hc5 := F5.cl hcH
  have r75 : R p 7 = H5.2.1 1 0 0 := hs5.1.2.2.2.1.1.2.2.2.2.2.1
  have r35 : R p 3 = H5.2.1 22 0 2 := hs5.1.2.2.1.1.2.2.1
  have r25 : R p 2 = H5.2.1 0 0 0 := hs5.1.2.2.2.1.1.1
  have hST := (hs5.1.push.addTrip (a := (q : Int)) (y := tm) (x := y) (by omega) (by rw [pushC_k (.inr ⟨by decide, by decide⟩)]; omega) (by omega) (by omega) (by rw [pushC_0 (by decide)]; omega)).more (Nat.le_succ K)
  have hcc : ∀ k i, i ≠ 0 ∨ 22 ≤ k → addT (pushC H5.2.1) 0 (q : Int) tm y k i = pushC H5.2.1 k i := fun k i z => by
    rcases z with z | z
    · exact addT_i z
    · rw [addT_k (by omega)]
  refine o_pop (pc := 847) dL_act_847 rfl ?_
  refine o_aload_n (pc := 848) dL_act_848 3 rfl ?_
  refine o_aload (pc := 849) dL_act_849 2 rfl ?_
  refine o_iconst (pc := 851) dL_act_851 ?_
  refine o_iaI (pc := 852) dL_act_852 (shp_ak (by decide)) m5 (by omega) (by omega) (e5 0 (by omega) (by omega)) ?_
  refine o_topI (y := (q : Int)) rfl ?_
  refine o_aload (pc := 853) dL_act_853 2 rfl ?_
  refine o_iconst (pc := 855) dL_act_855 ?_
  refine o_iaI (pc := 856) dL_act_856 (shp_ak (by decide)) m5 (by omega) (by omega) (e5 1 (by omega) (by omega)) ?_
  refine o_topI (y := tm) rfl ?_
  refine o_aload (pc := 857) dL_act_857 2 rfl ?_
  refine o_iconst (pc := 859) dL_act_859 ?_
  refine o_iaI (pc := 860) dL_act_860 (shp_ak (by decide)) m5 (by omega) (by omega) (e5 2 (by omega) (by omega)) ?_
  refine o_topI (y := y) rfl ?_
  refine o_callC (pc := 861) _ dL_act_861 (fun G' hG => P_addTrip2 (m := H5.2.1) hs5.1.1 hs5.1.2.1 hs5.1.2.2.2.2.2.2.1 hs5.2.1 hs5.2.2 (a0 := (q : Int)) (a1 := tm) (a2 := y) (by unfold inI; omega) (by unfold inI; omega) (by unfold inI; omega) (by omega) (by omega) (by omega) (by omega) (by omega)) lkL_322 rfl rfl hc5 ⟨⟨by simp only [rmL, rmD]; omega, by simp only [rmL, rmD]; omega⟩, by simp only [rmL, rmD]; omega, by simp only [rmL, rmD]; omega⟩ (Nat.le_of_ble_eq_true rfl) rfl (fun n1 => ?_)
  refine o_topI (y := R p 7) (by rw [pushC_0 (by decide)]; exact r75.symm) ?_
  refine o_istore (pc := 864) (lv' := [(13, _), (12, _), (11, _), (14, _), (0, _), (1, _), (2, _), (4, _), (5, _), (7, _), (8, _), (9, _), (10, _)]) dL_act_864 (by decide) rfl ?_
  refine o_goto (pc := 866) 1327 dL_act_866 (by decide) ?_
  exact o_lv [4, 5, 6, 12, 2, 1, 0] rfl (ac_fin1 I (Nat.le_succ K) F W2 F5 W5 (fun x z => z.elim .inl (fun w => .inr w.1)) hcc hST ((hU.more (Nat.le_succ K)).trip nn7.1 nn5.2) (by first | omega | (simp only [rmL, rmD]; omega)) (by first | omega | (simp only [rmL, rmD]; omega)))
