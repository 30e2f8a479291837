/-! acts: the reserve, mending -/
theorem hc_up {m : Mem} {k0 : Nat} {j z : Int} (hk : k0 < 22) : ∀ k i, i ≠ 0 ∨ 22 ≤ k → up3 m k0 0 j z k i = m k i := fun k i h => up3_ne (fun e => by omega)
theorem ac_6 {G : GG} {h H : Hp} {V : Nat → Vw} {R : Nat → Int → Int} {p : Nat} {T : Nat → Prop} {pl c b aw K w2 : Nat} {B2 : Bok} (I : AI G h V R p T pl c b aw K) (F : Fr (fun _ => False) h H) (W2 : WN G H w2 (R p) B2 (snew h H) T) (hK : K ≤ 99) {x : Int} (hx : 0 ≤ x ∧ x < 134217728) {c0 s0 : Nat} (hcs : c0 ≤ 760) (hss : s0 ≤ 14500) (h3 : 0 < R p 3) : YY G ML_act (rmL 12 2500 24000) 427 [(0, rf G 38 0), (1, rf G (ak 8 1) aw), (2, rf G 56 pl), (4, rf G 51 (V p).1), (5, .int (iI x)), (7, .int (iI (R p 3))), (8, .int (iI (R p 8))), (9, .int (iI (R p 9))), (10, rf G 51 w2), (11, .int (iI 1))] [] H c0 s0 (fun v h1 => v = some (.int (iI 1)) ∧ ∃ V' R' p' c' b', AI G h1 V' R' p' T pl c' b' aw (K + 1)) := by
  have p8 := I.2.1.p8
  have hW := I.w.fr0 F
  have hs := I.2.1.1.fr F
  have hcH := F.cl I.1
  have gn := hs.gn
  have hU := I.2.2.1 p (Nat.le_refl p)
  have hn := F.2.2.2.2
  have r3 := hs.1.2.2.1.1.2.2.1
  have r5 := hs.1.2.2.1.1.2.2.2.2.2.1
  have r8 := hs.1.2.2.1.1.2.2.2.2.2.2
  have r7 := hs.1.2.2.2.1.1.2.2.2.2.2.1
  have r9 := hs.1.2.2.2.1.1.2.2.2.2.2.2
  have r2 := hs.1.2.2.2.1.1.1
  have b2 := hs.1.2.1.1
  have b3 := hs.1.1.2.2.1
  have b5 := hs.1.1.2.2.2.2.2.1
  have b8 := hs.1.1.2.2.2.2.2.2.1
  have b7 := hs.1.2.1.2.2.2.1.1
  have b9 := hs.1.2.1.2.2.2.2.1.1
  have nn3 : 0 ≤ R p 3 ∧ R p 3 ≤ 8 := by omega
  have nn5 : 0 ≤ R p 5 ∧ R p 5 ≤ 12 := by omega
  have nn7 : 0 ≤ R p 7 ∧ R p 7 ≤ 16 := by omega
  have nn8 : 0 ≤ R p 8 ∧ R p 8 ≤ 8 := by omega
  have nn9 : 0 ≤ R p 9 ∧ R p 9 ≤ 16 := by omega
  have nn2 : 0 ≤ R p 2 ∧ R p 2 ≤ 6000 := by have := hU.2; omega
  have em0 := Int.emod_nonneg x (show R p 3 ≠ 0 by omega)
  have em1 := Int.emod_lt_of_pos x (show 0 < R p 3 by omega)
  obtain ⟨q, hqe⟩ : ∃ q : Nat, x % R p 3 = (q : Int) := ⟨(x % R p 3).toNat, by omega⟩
  have hq : (q : Int) < R p 3 := by omega
  refine o_aload (pc := 427) dL_act_427 3 rfl ?_
  refine o_gR (pc := 429) (j := 10) (56) (((V p).2.1.1 3)) dL_act_429 flL_81 rfl rfl hW.mW (hW.r 3) ?_
  refine o_iload (pc := 432) dL_act_432 4 rfl ?_
  refine o_iload (pc := 434) dL_act_434 5 rfl ?_
  refine o_irem (pc := 436) dL_act_436 (by omega) (by omega) ?_
  refine o_topI (y := (q : Int)) hqe ?_
  refine o_callV (pc := 437) _ dL_act_437 (hW.get 3 hq) lkL_130 rfl rfl rfl rfl (hW.l 3).1 ⟨⟨by simp only [rmL, rmD]; omega, by simp only [rmL, rmD]; omega⟩, by simp only [rmL, rmD]; omega, by simp only [rmL, rmD]; omega⟩ (Nat.le_of_ble_eq_true rfl) rfl (fun v h2 hq2 => ?_)
  obtain ⟨rfl, e2⟩ := hq2
  obtain rfl := e2.symm
  show YY _ _ _ _ _ (rf G 52 (bE (V p).2.1 3 q) :: _) _ _ _ _
  refine o_castO (pc := 440) dL_act_440 clL_76 rfl rfl (hW.mE 3 hq) ?_
  refine o_astore (pc := 443) (lv' := [(14, _), (0, _), (1, _), (2, _), (4, _), (5, _), (7, _), (8, _), (9, _), (10, _), (11, _)]) dL_act_443 (by decide) rfl ?_
  refine o_aload (pc := 445) dL_act_445 0 rfl ?_
  refine o_gI (pc := 447) (j := 4) dL_act_447 flL_204 rfl rfl (hW.mE 3 hq) (hW.p4 hq) ?_
  refine o_istore (pc := 450) (lv' := [(12, _), (14, _), (0, _), (1, _), (2, _), (4, _), (5, _), (7, _), (8, _), (9, _), (10, _), (11, _)]) dL_act_450 (by decide) rfl ?_
  refine o_aload (pc := 452) dL_act_452 1 rfl ?_
  refine o_iload (pc := 454) dL_act_454 6 rfl ?_
  refine o_bipush (pc := 456) (z := 8) dL_act_456 (by decide) ?_
  refine o_idiv (pc := 458) dL_act_458 (by omega) (by omega) ?_
  refine o_bipush (pc := 459) (z := 90) dL_act_459 (by decide) ?_
  refine o_irem (pc := 461) dL_act_461 (by omega) (by omega) ?_
  refine o_pI (pc := 462) (j := 4) dL_act_462 fwL_204 rfl rfl (hW.mE 3 hq) ?_
  have W1 : WN G _ (V p).1 (upN (R p) (30 + 7 * (q : Int) + 4) (x / 8 % 90)) (V p).2.1 (V p).2.2 T := hW.setE 3 hq 4 (x / 8 % 90)
  have F1 := Fr_hset (k := 52) (i := bE (V p).2.1 3 q) (j := ((4 : Nat) : Int)) (z := x / 8 % 90) (Fr.rf (S := (V p).2.2) hn) (by decide) (.inl (hW.sE 3 hq))
  have hq1 := up_lt (N := R p) (i := 30 + 7 * (q : Int) + 4) (z := x / 8 % 90) (n := 3) (by omega) (by omega) hq
  have hs1 := hs.fr F1
  have hc1 := F1.cl hcH
  refine o_aload_n (pc := 465) dL_act_465 2 rfl ?_
  refine o_iload (pc := 466) dL_act_466 6 rfl ?_
  refine o_iload (pc := 468) dL_act_468 7 rfl ?_
  refine o_irem (pc := 470) dL_act_470 (by omega) (by omega) ?_
  refine o_topI (y := (q : Int)) hqe ?_
  refine o_aload (pc := 471) dL_act_471 1 rfl ?_
  refine o_gI (pc := 473) (j := 4) dL_act_473 flL_204 rfl rfl (W1.mE 3 hq1) ((W1.p4 hq1).trans (upN_at _ _ _)) ?_
  refine o_callC (pc := 476) _ dL_act_476 (fun G' hG => P_setReserve (m := _) hs1.1.1 hs1.1.2.1 hs1.1.2.2.2.2.2.2.1 hs1.2.1 hs1.2.2 (by unfold inI; omega) (by unfold inI; omega) (by have := hs1.1.2.2.1.1.2.2.1; omega) (by omega)) lkL_305 rfl rfl hc1 ⟨⟨by simp only [rmL, rmD]; omega, by simp only [rmL, rmD]; omega⟩, by simp only [rmL, rmD]; omega, by simp only [rmL, rmD]; omega⟩ (Nat.le_of_ble_eq_true rfl) rfl (fun n1 => ?_)
  refine o_topI (y := R p (30 + 7 * (q : Int) + 4)) (by rw [pushC_0 (by decide)]; exact ((hs1.1.2.2.2.1.2.1 (q : Int) (by omega) (by have := hs1.1.2.2.1.1.2.2.1; omega)).2.2).symm) ?_
  refine o_istore (pc := 479) (lv' := [(13, _), (12, _), (14, _), (0, _), (1, _), (2, _), (4, _), (5, _), (7, _), (8, _), (9, _), (10, _), (11, _)]) dL_act_479 (by decide) rfl ?_
  refine o_goto (pc := 481) 1327 dL_act_481 (by decide) ?_
  exact o_lv [3, 4, 5, 11, 12, 1, 0] rfl (ac_fin1 I (Nat.le_succ K) F W2 F1 W1 (fun _ z => .inl z) (hc_up (by decide)) ((hs1.1.push.reserve (a := (q : Int)) (by omega) (by rw [pushC_k (.inr ⟨by decide, by decide⟩)]; have := hs1.1.2.2.1.1.2.2.1; omega) (by omega)).more (Nat.le_succ K)) ((hU.more (Nat.le_succ K)).up (by omega) (by omega)) (by first | omega | (simp only [rmL, rmD]; omega)) (by first | omega | (simp only [rmL, rmD]; omega)))
theorem ac_11 {G : GG} {h H : Hp} {V : Nat → Vw} {R : Nat → Int → Int} {p : Nat} {T : Nat → Prop} {pl c b aw K w2 : Nat} {B2 : Bok} (I : AI G h V R p T pl c b aw K) (F : Fr (fun _ => False) h H) (W2 : WN G H w2 (R p) B2 (snew h H) T) (hK : K ≤ 99) {x : Int} (hx : 0 ≤ x ∧ x < 134217728) {c0 s0 : Nat} (hcs : c0 ≤ 760) (hss : s0 ≤ 14500) (h8 : 0 < R p 8) : YY G ML_act (rmL 12 2500 24000) 991 [(0, rf G 38 0), (1, rf G (ak 8 1) aw), (2, rf G 56 pl), (4, rf G 51 (V p).1), (5, .int (iI x)), (7, .int (iI (R p 3))), (8, .int (iI (R p 8))), (9, .int (iI (R p 9))), (10, rf G 51 w2), (11, .int (iI 1))] [] H c0 s0 (fun v h1 => v = some (.int (iI 1)) ∧ ∃ V' R' p' c' b', AI G h1 V' R' p' T pl c' b' aw (K + 1)) := by
  have p8 := I.2.1.p8
  have hW := I.w.fr0 F
  have hs := I.2.1.1.fr F
  have hcH := F.cl I.1
  have gn := hs.gn
  have hU := I.2.2.1 p (Nat.le_refl p)
  have hn := F.2.2.2.2
  have r3 := hs.1.2.2.1.1.2.2.1
  have r5 := hs.1.2.2.1.1.2.2.2.2.2.1
  have r8 := hs.1.2.2.1.1.2.2.2.2.2.2
  have r7 := hs.1.2.2.2.1.1.2.2.2.2.2.1
  have r9 := hs.1.2.2.2.1.1.2.2.2.2.2.2
  have r2 := hs.1.2.2.2.1.1.1
  have b2 := hs.1.2.1.1
  have b3 := hs.1.1.2.2.1
  have b5 := hs.1.1.2.2.2.2.2.1
  have b8 := hs.1.1.2.2.2.2.2.2.1
  have b7 := hs.1.2.1.2.2.2.1.1
  have b9 := hs.1.2.1.2.2.2.2.1.1
  have nn3 : 0 ≤ R p 3 ∧ R p 3 ≤ 8 := by omega
  have nn5 : 0 ≤ R p 5 ∧ R p 5 ≤ 12 := by omega
  have nn7 : 0 ≤ R p 7 ∧ R p 7 ≤ 16 := by omega
  have nn8 : 0 ≤ R p 8 ∧ R p 8 ≤ 8 := by omega
  have nn9 : 0 ≤ R p 9 ∧ R p 9 ≤ 16 := by omega
  have nn2 : 0 ≤ R p 2 ∧ R p 2 ≤ 6000 := by have := hU.2; omega
  have em0 := Int.emod_nonneg x (show R p 8 ≠ 0 by omega)
  have em1 := Int.emod_lt_of_pos x (show 0 < R p 8 by omega)
  obtain ⟨q, hqe⟩ : ∃ q : Nat, x % R p 8 = (q : Int) := ⟨(x % R p 8).toNat, by omega⟩
  have hq : (q : Int) < R p 8 := by omega
  have bk := hs.1.2.1.2.2.2.2.2 (q : Int) (by omega) (by omega)
  rw [← hs.1.2.2.2.1.2.2.2.2.2.1 (q : Int) (by omega) (by omega)] at bk
  refine o_aload (pc := 991) dL_act_991 3 rfl ?_
  refine o_gR (pc := 993) (j := 12) (56) (((V p).2.1.1 5)) dL_act_993 flL_139 rfl rfl hW.mW (hW.r 5) ?_
  refine o_iload (pc := 996) dL_act_996 4 rfl ?_
  refine o_iload (pc := 998) dL_act_998 6 rfl ?_
  refine o_irem (pc := 1000) dL_act_1000 (by omega) (by omega) ?_
  refine o_topI (y := (q : Int)) hqe ?_
  refine o_callV (pc := 1001) _ dL_act_1001 (hW.get 5 hq) lkL_130 rfl rfl rfl rfl (hW.l 5).1 ⟨⟨by simp only [rmL, rmD]; omega, by simp only [rmL, rmD]; omega⟩, by simp only [rmL, rmD]; omega, by simp only [rmL, rmD]; omega⟩ (Nat.le_of_ble_eq_true rfl) rfl (fun v h2 hq2 => ?_)
  obtain ⟨rfl, e2⟩ := hq2
  obtain rfl := e2.symm
  show YY _ _ _ _ _ (rf G 54 (bE (V p).2.1 5 q) :: _) _ _ _ _
  refine o_castO (pc := 1004) dL_act_1004 clL_134 rfl rfl (hW.mE 5 hq) ?_
  refine o_astore (pc := 1007) (lv' := [(14, _), (0, _), (1, _), (2, _), (4, _), (5, _), (7, _), (8, _), (9, _), (10, _), (11, _)]) dL_act_1007 (by decide) rfl ?_
  refine o_aload (pc := 1009) dL_act_1009 0 rfl ?_
  refine o_gI (pc := 1011) (j := 5) dL_act_1011 flL_332 rfl rfl (hW.mE 5 hq) (hW.k5 hq) ?_
  refine o_if_eq (pc := 1014) 1021 dL_act_1014 (by decide) (by unfold inI; omega) (fun c_1014 => ?_) (fun c_1014 => ?_)
  · refine o_iconst (pc := 1021) dL_act_1021 ?_
    refine o_topI (y := R p (270 + 6 * (q : Int) + 5)) (by omega) ?_
    refine o_istore (pc := 1022) (lv' := [(12, _), (14, _), (0, _), (1, _), (2, _), (4, _), (5, _), (7, _), (8, _), (9, _), (10, _), (11, _)]) dL_act_1022 (by decide) rfl ?_
    refine o_aload (pc := 1024) dL_act_1024 1 rfl ?_
    refine o_iconst (pc := 1026) dL_act_1026 ?_
    refine o_pZ (pc := 1027) (j := 5) dL_act_1027 fwL_332 rfl rfl (hW.mE 5 hq) (by omega) ?_
    have W1 : WN G _ (V p).1 (upN (R p) (270 + 6 * (q : Int) + 5) 0) (V p).2.1 (V p).2.2 T := hW.setE 5 hq 5 0
    have F1 := Fr_hset (k := 54) (i := bE (V p).2.1 5 q) (j := ((5 : Nat) : Int)) (z := 0) (Fr.rf (S := (V p).2.2) hn) (by decide) (.inl (hW.sE 5 hq))
    have hs1 := hs.fr F1
    have hc1 := F1.cl hcH
    refine o_aload_n (pc := 1030) dL_act_1030 2 rfl ?_
    refine o_iload (pc := 1031) dL_act_1031 6 rfl ?_
    refine o_iload (pc := 1033) dL_act_1033 8 rfl ?_
    refine o_irem (pc := 1035) dL_act_1035 (by omega) (by omega) ?_
    refine o_topI (y := (q : Int)) hqe ?_
    refine o_callC (pc := 1036) _ dL_act_1036 (fun G' hG => P_mend (m := _) hs1.1.1 hs1.1.2.1 hs1.1.2.2.2.2.2.2.1 hs1.2.1 hs1.2.2 (by unfold inI; omega) (by have := hs1.1.2.2.1.1.2.2.2.2.2.2; omega)) lkL_336 rfl rfl hc1 ⟨⟨by simp only [rmL, rmD]; omega, by simp only [rmL, rmD]; omega⟩, by simp only [rmL, rmD]; omega, by simp only [rmL, rmD]; omega⟩ (Nat.le_of_ble_eq_true rfl) rfl (fun n1 => ?_)
    refine o_topI (y := R p (270 + 6 * (q : Int) + 5)) (by rw [pushC_0 (by decide)]; exact (hs1.1.2.2.2.1.2.2.2.2.2.1 (q : Int) (by omega) (by have := hs1.1.2.2.1.1.2.2.2.2.2.2; omega)).symm) ?_
    refine o_istore (pc := 1039) (lv' := [(13, _), (12, _), (14, _), (0, _), (1, _), (2, _), (4, _), (5, _), (7, _), (8, _), (9, _), (10, _), (11, _)]) dL_act_1039 (by decide) rfl ?_
    refine o_goto (pc := 1041) 1327 dL_act_1041 (by decide) ?_
    exact o_lv [3, 4, 5, 11, 12, 1, 0] rfl (ac_fin1 I (Nat.le_succ K) F W2 F1 W1 (fun _ z => .inl z) (hc_up (by decide)) ((hs1.1.push.mend (a := (q : Int)) (by omega) (by rw [pushC_k (.inr ⟨by decide, by decide⟩)]; have := hs1.1.2.2.1.1.2.2.2.2.2.2; omega)).more (Nat.le_succ K)) ((hU.more (Nat.le_succ K)).up (by omega) (by omega)) (by first | omega | (simp only [rmL, rmD]; omega)) (by first | omega | (simp only [rmL, rmD]; omega)))
  · refine o_iconst (pc := 1017) dL_act_1017 ?_
    refine o_goto (pc := 1018) 1022 dL_act_1018 (by decide) ?_
    refine o_topI (y := R p (270 + 6 * (q : Int) + 5)) (by omega) ?_
    refine o_istore (pc := 1022) (lv' := [(12, _), (14, _), (0, _), (1, _), (2, _), (4, _), (5, _), (7, _), (8, _), (9, _), (10, _), (11, _)]) dL_act_1022 (by decide) rfl ?_
    refine o_aload (pc := 1024) dL_act_1024 1 rfl ?_
    refine o_iconst (pc := 1026) dL_act_1026 ?_
    refine o_pZ (pc := 1027) (j := 5) dL_act_1027 fwL_332 rfl rfl (hW.mE 5 hq) (by omega) ?_
    have W1 : WN G _ (V p).1 (upN (R p) (270 + 6 * (q : Int) + 5) 0) (V p).2.1 (V p).2.2 T := hW.setE 5 hq 5 0
    have F1 := Fr_hset (k := 54) (i := bE (V p).2.1 5 q) (j := ((5 : Nat) : Int)) (z := 0) (Fr.rf (S := (V p).2.2) hn) (by decide) (.inl (hW.sE 5 hq))
    have hs1 := hs.fr F1
    have hc1 := F1.cl hcH
    refine o_aload_n (pc := 1030) dL_act_1030 2 rfl ?_
    refine o_iload (pc := 1031) dL_act_1031 6 rfl ?_
    refine o_iload (pc := 1033) dL_act_1033 8 rfl ?_
    refine o_irem (pc := 1035) dL_act_1035 (by omega) (by omega) ?_
    refine o_topI (y := (q : Int)) hqe ?_
    refine o_callC (pc := 1036) _ dL_act_1036 (fun G' hG => P_mend (m := _) hs1.1.1 hs1.1.2.1 hs1.1.2.2.2.2.2.2.1 hs1.2.1 hs1.2.2 (by unfold inI; omega) (by have := hs1.1.2.2.1.1.2.2.2.2.2.2; omega)) lkL_336 rfl rfl hc1 ⟨⟨by simp only [rmL, rmD]; omega, by simp only [rmL, rmD]; omega⟩, by simp only [rmL, rmD]; omega, by simp only [rmL, rmD]; omega⟩ (Nat.le_of_ble_eq_true rfl) rfl (fun n1 => ?_)
    refine o_topI (y := R p (270 + 6 * (q : Int) + 5)) (by rw [pushC_0 (by decide)]; exact (hs1.1.2.2.2.1.2.2.2.2.2.1 (q : Int) (by omega) (by have := hs1.1.2.2.1.1.2.2.2.2.2.2; omega)).symm) ?_
    refine o_istore (pc := 1039) (lv' := [(13, _), (12, _), (14, _), (0, _), (1, _), (2, _), (4, _), (5, _), (7, _), (8, _), (9, _), (10, _), (11, _)]) dL_act_1039 (by decide) rfl ?_
    refine o_goto (pc := 1041) 1327 dL_act_1041 (by decide) ?_
    exact o_lv [3, 4, 5, 11, 12, 1, 0] rfl (ac_fin1 I (Nat.le_succ K) F W2 F1 W1 (fun _ z => .inl z) (hc_up (by decide)) ((hs1.1.push.mend (a := (q : Int)) (by omega) (by rw [pushC_k (.inr ⟨by decide, by decide⟩)]; have := hs1.1.2.2.1.1.2.2.2.2.2.2; omega)).more (Nat.le_succ K)) ((hU.more (Nat.le_succ K)).up (by omega) (by omega)) (by first | omega | (simp only [rmL, rmD]; omega)) (by first | omega | (simp only [rmL, rmD]; omega)))
