/-! acts: lending refused -/
theorem ac_9n {G : GG} {h H : Hp} {V : Nat → Vw} {R : Nat → Int → Int} {p : Nat} {T : Nat → Prop} {pl c b aw K w2 : Nat} {B2 : Bok} (I : AI G h V R p T pl c b aw K) (F : Fr (fun _ => False) h H) (W2 : WN G H w2 (R p) B2 (snew h H) T) (hK : K ≤ 99) {x : Int} (hx : 0 ≤ x ∧ x < 134217728) {c0 s0 : Nat} (hcs : c0 ≤ 760) (hss : s0 ≤ 14500) {q : Nat} (hqe : x % R p 8 = (q : Int)) (h8 : 0 < R p 8) (hh : ∀ y : Int, 1 + x / 8 % 80 = y → hinN (R p) q y ≠ 0) : YY G ML_act (rmL 12 2500 24000) 869 [(0, rf G 38 0), (1, rf G (ak 8 1) aw), (2, rf G 56 pl), (4, rf G 51 (V p).1), (5, .int (iI x)), (7, .int (iI (R p 3))), (8, .int (iI (R p 8))), (9, .int (iI (R p 9))), (10, rf G 51 w2), (11, .int (iI 1))] [] H c0 s0 (fun v h1 => v = some (.int (iI 1)) ∧ ∃ V' R' p' c' b', AI G h1 V' R' p' T pl c' b' aw (K + 1)) := by
  have p8 := I.2.1.p8
  have hW := I.w.fr0 F
  have hs := I.2.1.1.fr F
  have hcH := F.cl I.1
  have gn := hs.gn
  have hU := I.2.2.1 p (Nat.le_refl p)
  have hn := F.2.2.2.2
  have r3 := hs.1.2.2.1.1.2.2.1
  have r5 := hs.1.2.2.1.1.2.2.2.2.2.1
  have r8 := hs.1.2.2.1.1.2.2.2.2.2.2
  have r7 := hs.1.2.2.2.1.1.2.2.2.2.2.1
  have r9 := hs.1.2.2.2.1.1.2.2.2.2.2.2
  have r2 := hs.1.2.2.2.1.1.1
  have b2 := hs.1.2.1.1
  have b3 := hs.1.1.2.2.1
  have b5 := hs.1.1.2.2.2.2.2.1
  have b8 := hs.1.1.2.2.2.2.2.2.1
  have b7 := hs.1.2.1.2.2.2.1.1
  have b9 := hs.1.2.1.2.2.2.2.1.1
  have nn3 : 0 ≤ R p 3 ∧ R p 3 ≤ 8 := by omega
  have nn5 : 0 ≤ R p 5 ∧ R p 5 ≤ 12 := by omega
  have nn7 : 0 ≤ R p 7 ∧ R p 7 ≤ 16 := by omega
  have nn8 : 0 ≤ R p 8 ∧ R p 8 ≤ 8 := by omega
  have nn9 : 0 ≤ R p 9 ∧ R p 9 ≤ 16 := by omega
  have nn2 : 0 ≤ R p 2 ∧ R p 2 ≤ 6000 := by have := hU.2; omega
  have em0 := Int.emod_nonneg x (show R p 8 ≠ 0 by omega)
  have em1 := Int.emod_lt_of_pos x (show 0 < R p 8 by omega)
  have hq : (q : Int) < R p 8 := by omega
  obtain ⟨y, hy⟩ : ∃ y : Int, 1 + x / 8 % 80 = y := ⟨_, rfl⟩
  obtain ⟨t, hte⟩ : ∃ t : Int, 1 + x / 1024 % 30 = t := ⟨_, rfl⟩
  have hy1 : 1 ≤ y ∧ y ≤ 80 := by omega
  have ht1 : 1 ≤ t ∧ t ≤ 30 := by omega
  have hNF : NF (R p) := NF_of hs.1.1 hs.1.2.1 hs.1.2.2.1 hs.1.2.2.2.1
  have hib : 0 ≤ hinN (R p) q y ∧ hinN (R p) q y ≤ 4 := by
    unfold hinN
    repeat' split
    all_goals omega
  have hh := hh y hy
  refine o_iconst (pc := 869) dL_act_869 ?_
  refine o_iload (pc := 870) dL_act_870 4 rfl ?_
  refine o_bipush (pc := 872) (z := 8) dL_act_872 (by decide) ?_
  refine o_idiv (pc := 874) dL_act_874 (by omega) (by omega) ?_
  refine o_bipush (pc := 875) (z := 80) dL_act_875 (by decide) ?_
  refine o_irem (pc := 877) dL_act_877 (by omega) (by omega) ?_
  refine o_iadd (pc := 878) dL_act_878 ?_
  refine o_topI (y := y) hy ?_
  refine o_istore (pc := 879) (lv' := [(14, _), (0, _), (1, _), (2, _), (4, _), (5, _), (7, _), (8, _), (9, _), (10, _), (11, _)]) dL_act_879 (by decide) rfl ?_
  refine o_iconst (pc := 881) dL_act_881 ?_
  refine o_iload (pc := 882) dL_act_882 5 rfl ?_
  refine o_sipush (pc := 884) (z := 1024) dL_act_884 (by decide) ?_
  refine o_idiv (pc := 887) dL_act_887 (by omega) (by omega) ?_
  refine o_bipush (pc := 888) (z := 30) dL_act_888 (by decide) ?_
  refine o_irem (pc := 890) dL_act_890 (by omega) (by omega) ?_
  refine o_iadd (pc := 891) dL_act_891 ?_
  refine o_topI (y := t) hte ?_
  refine o_istore (pc := 892) (lv' := [(15, _), (14, _), (0, _), (1, _), (2, _), (4, _), (5, _), (7, _), (8, _), (9, _), (10, _), (11, _)]) dL_act_892 (by decide) rfl ?_
  refine o_aload (pc := 894) dL_act_894 5 rfl ?_
  refine o_iload (pc := 896) dL_act_896 6 rfl ?_
  refine o_iload (pc := 898) dL_act_898 8 rfl ?_
  refine o_irem (pc := 900) dL_act_900 (by omega) (by omega) ?_
  refine o_topI (y := (q : Int)) hqe ?_
  refine o_iload (pc := 901) dL_act_901 1 rfl ?_
  refine o_callV (pc := 903) _ dL_act_903 (cw_hindrance hW hq (x := y) (by omega) hNF hn) lkL_325 rfl rfl rfl rfl hW.mW ⟨⟨by simp only [rmL, rmD]; omega, by simp only [rmL, rmD]; omega⟩, by simp only [rmL, rmD]; omega, by simp only [rmL, rmD]; omega⟩ (Nat.le_of_ble_eq_true rfl) rfl (fun v H1 hq2 => ?_)
  obtain ⟨rfl, FC⟩ := hq2
  have F2 := F.tr FC (fun _ z => z.elim)
  have hs1 := hs.fr FC
  have hc2 := FC.cl hcH
  have r81 : R p 8 = H1.2.1 22 0 6 := hs1.1.2.2.1.1.2.2.2.2.2.2
  refine o_istore (pc := 906) (lv' := [(16, _), (15, _), (14, _), (0, _), (1, _), (2, _), (4, _), (5, _), (7, _), (8, _), (9, _), (10, _), (11, _)]) dL_act_906 (by decide) rfl ?_
  refine o_iload (pc := 908) dL_act_908 0 rfl ?_
  refine o_if_ne (pc := 910) 917 dL_act_910 (by decide) (by unfold inI; omega) (fun c_910 => ?_) (fun c_910 => (by exfalso; omega))
  refine o_iconst (pc := 917) dL_act_917 ?_
  refine o_istore (pc := 918) (lv' := [(11, _), (16, _), (15, _), (14, _), (0, _), (1, _), (2, _), (4, _), (5, _), (7, _), (8, _), (9, _), (10, _)]) dL_act_918 (by decide) rfl ?_
  refine o_iload (pc := 920) dL_act_920 0 rfl ?_
  refine o_if_eq (pc := 922) 956 dL_act_922 (by decide) (by unfold inI; omega) (fun c_922 => ?_) (fun c_922 => (by exfalso; omega))
  refine o_iload (pc := 956) dL_act_956 0 rfl ?_
  refine o_if_eq (pc := 958) 966 dL_act_958 (by decide) (by unfold inI; omega) (fun c_958 => ?_) (fun c_958 => (by exfalso; omega))
  refine o_bipush (pc := 966) (z := (-10)) dL_act_966 (by decide) ?_
  refine o_iload (pc := 968) dL_act_968 1 rfl ?_
  refine o_isub (pc := 970) dL_act_970 ?_
  refine o_istore (pc := 971) (lv' := [(12, _), (11, _), (16, _), (15, _), (14, _), (0, _), (1, _), (2, _), (4, _), (5, _), (7, _), (8, _), (9, _), (10, _)]) dL_act_971 (by decide) rfl ?_
  refine o_aload_n (pc := 973) dL_act_973 5 rfl ?_
  refine o_iload (pc := 974) dL_act_974 9 rfl ?_
  refine o_iload (pc := 976) dL_act_976 11 rfl ?_
  refine o_irem (pc := 978) dL_act_978 (by omega) (by omega) ?_
  refine o_topI (y := (q : Int)) hqe ?_
  refine o_iload (pc := 979) dL_act_979 4 rfl ?_
  refine o_iload (pc := 981) dL_act_981 3 rfl ?_
  refine o_callC (pc := 983) _ dL_act_983 (fun G' hG => P_lend0 (m := H1.2.1) hs1.1.1 hs1.1.2.1 hs1.1.2.2.2.2.2.2.1 hs1.2.1 hs1.2.2 (a0 := (q : Int)) (a1 := y) (a2 := t) (by unfold inI; omega) (by unfold inI; omega) (by unfold inI; omega) (by omega) (by omega) (by omega) (by rw [V_hin hs1.1.1 hs1.1.2.1 hs1.1.2.2.1 hs1.1.2.2.2.1 (by omega) (by omega)]; exact hh)) lkL_329 rfl rfl hc2 ⟨⟨by simp only [rmL, rmD]; omega, by simp only [rmL, rmD]; omega⟩, by simp only [rmL, rmD]; omega, by simp only [rmL, rmD]; omega⟩ (Nat.le_of_ble_eq_true rfl) rfl (fun n1 => ?_)
  refine o_topI (y := -10 - hinN (R p) q y) (by rw [V_hin hs1.1.1 hs1.1.2.1 hs1.1.2.2.1 hs1.1.2.2.2.1 (by omega) (by omega)]) ?_
  refine o_istore (pc := 986) (lv' := [(13, _), (12, _), (11, _), (16, _), (15, _), (14, _), (0, _), (1, _), (2, _), (4, _), (5, _), (7, _), (8, _), (9, _), (10, _)]) dL_act_986 (by decide) rfl ?_
  refine o_goto (pc := 988) 1327 dL_act_988 (by decide) ?_
  exact o_lv [6, 7, 8, 14, 2, 1, 0] rfl (ac_fin0 (w2 := w2) I (Nat.le_succ K) F2 (by first | omega | (simp only [rmL, rmD]; omega)) (by first | omega | (simp only [rmL, rmD]; omega)))
