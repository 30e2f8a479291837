/-! acts: recall, give back, forgive -/
theorem owedN_u {N : Int → Int} {q v : Int} (hq : 0 ≤ q) : owedN (upN N (318 + 7 * q + 6) v) q = owedN N q := by
  unfold owedN intN
  rw [upN_off (by omega), upN_off (by omega), upN_off (by omega), upN_off (by omega), upN_off (by omega)]
theorem brF_k {m : Mem} {s k : Nat} {l t : Int} (h : k ≠ 21) : brF m s l t k = m k := by
  unfold brF
  split
  · exact up3_k h
  · rfl
theorem brF_i {m : Mem} {s k i : Nat} {l t : Int} (h : i ≠ s) : brF m s l t k i = m k i := by
  unfold brF
  split
  · exact up3_i h
  · rfl
theorem ac_12_0n {G : GG} {h H : Hp} {V : Nat → Vw} {R : Nat → Int → Int} {p : Nat} {T : Nat → Prop} {pl c b aw K w2 : Nat} {B2 : Bok} (I : AI G h V R p T pl c b aw K) (F : Fr (fun _ => False) h H) (W2 : WN G H w2 (R p) B2 (snew h H) T) (hK : K ≤ 99) {x : Int} (hx : 0 ≤ x ∧ x < 134217728) {c0 s0 : Nat} (hcs : c0 ≤ 760) (hss : s0 ≤ 14500) {q : Nat} (hqe : x % R p 9 = (q : Int)) (hw : x / 32 % 3 = 0) (h9 : 0 < R p 9) (hst : 2 < R p (318 + 7 * (q : Int) + 5)) : YY G ML_act (rmL 12 2500 24000) 1044 [(0, rf G 38 0), (1, rf G (ak 8 1) aw), (2, rf G 56 pl), (4, rf G 51 (V p).1), (5, .int (iI x)), (7, .int (iI (R p 3))), (8, .int (iI (R p 8))), (9, .int (iI (R p 9))), (10, rf G 51 w2), (11, .int (iI 1))] [] H c0 s0 (fun v h1 => v = some (.int (iI 1)) ∧ ∃ V' R' p' c' b', AI G h1 V' R' p' T pl c' b' aw (K + 1)) := by
  have p8 := I.2.1.p8
  have hW := I.w.fr0 F
  have hs := I.2.1.1.fr F
  have hcH := F.cl I.1
  have gn := hs.gn
  have hU := I.2.2.1 p (Nat.le_refl p)
  have hn := F.2.2.2.2
  have r3 := hs.1.2.2.1.1.2.2.1
  have r5 := hs.1.2.2.1.1.2.2.2.2.2.1
  have r8 := hs.1.2.2.1.1.2.2.2.2.2.2
  have r7 := hs.1.2.2.2.1.1.2.2.2.2.2.1
  have r9 := hs.1.2.2.2.1.1.2.2.2.2.2.2
  have r2 := hs.1.2.2.2.1.1.1
  have b2 := hs.1.2.1.1
  have b3 := hs.1.1.2.2.1
  have b5 := hs.1.1.2.2.2.2.2.1
  have b8 := hs.1.1.2.2.2.2.2.2.1
  have b7 := hs.1.2.1.2.2.2.1.1
  have b9 := hs.1.2.1.2.2.2.2.1.1
  have nn3 : 0 ≤ R p 3 ∧ R p 3 ≤ 8 := by omega
  have nn5 : 0 ≤ R p 5 ∧ R p 5 ≤ 12 := by omega
  have nn7 : 0 ≤ R p 7 ∧ R p 7 ≤ 16 := by omega
  have nn8 : 0 ≤ R p 8 ∧ R p 8 ≤ 8 := by omega
  have nn9 : 0 ≤ R p 9 ∧ R p 9 ≤ 16 := by omega
  have nn2 : 0 ≤ R p 2 ∧ R p 2 ≤ 6000 := by have := hU.2; omega
  have em0 := Int.emod_nonneg x (show R p 9 ≠ 0 by omega)
  have em1 := Int.emod_lt_of_pos x (show 0 < R p 9 by omega)
  have hq : (q : Int) < R p 9 := by omega
  have LN1 := gn.ln (q := (q : Int)) (by omega) hq
  obtain ⟨l1, l2, l3, l4, l5, l6, l7⟩ := id LN1
  have LG := gn.loan (l := (q : Int)) (by omega) hq
  have RL7 := hs.1.2.2.2.1.2.2.2.2.2.2 (q : Int) (by omega) (by omega)
  have BL7 := hs.1.2.1.2.2.2.2.1.2 (q : Int) (by omega) (by omega)
  refine o_iload (pc := 1044) dL_act_1044 4 rfl ?_
  refine o_iload (pc := 1046) dL_act_1046 7 rfl ?_
  refine o_irem (pc := 1048) dL_act_1048 (by omega) (by omega) ?_
  refine o_topI (y := (q : Int)) hqe ?_
  refine o_istore (pc := 1049) (lv' := [(14, _), (0, _), (1, _), (2, _), (4, _), (5, _), (7, _), (8, _), (9, _), (10, _), (11, _)]) dL_act_1049 (by decide) rfl ?_
  refine o_aload (pc := 1051) dL_act_1051 4 rfl ?_
  refine o_gR (pc := 1053) (j := 13) (56) (((V p).2.1.1 6)) dL_act_1053 flL_159 rfl rfl hW.mW (hW.r 6) ?_
  refine o_iload (pc := 1056) dL_act_1056 0 rfl ?_
  refine o_callV (pc := 1058) _ dL_act_1058 (hW.get 6 hq) lkL_130 rfl rfl rfl rfl (hW.l 6).1 ⟨⟨by simp only [rmL, rmD]; omega, by simp only [rmL, rmD]; omega⟩, by simp only [rmL, rmD]; omega, by simp only [rmL, rmD]; omega⟩ (Nat.le_of_ble_eq_true rfl) rfl (fun v h2 hq2 => ?_)
  obtain ⟨rfl, e2⟩ := hq2
  obtain rfl := e2.symm
  show YY _ _ _ _ _ (rf G 55 (bE (V p).2.1 6 q) :: _) _ _ _ _
  refine o_castO (pc := 1061) dL_act_1061 clL_175 rfl rfl (hW.mE 6 hq) ?_
  refine o_astore (pc := 1064) (lv' := [(15, _), (14, _), (0, _), (1, _), (2, _), (4, _), (5, _), (7, _), (8, _), (9, _), (10, _), (11, _)]) dL_act_1064 (by decide) rfl ?_
  refine o_iload (pc := 1066) dL_act_1066 6 rfl ?_
  refine o_bipush (pc := 1068) (z := 32) dL_act_1068 (by decide) ?_
  refine o_idiv (pc := 1070) dL_act_1070 (by omega) (by omega) ?_
  refine o_iconst (pc := 1071) dL_act_1071 ?_
  refine o_irem (pc := 1072) dL_act_1072 (by omega) (by omega) ?_
  refine o_topI (y := 0) hw ?_
  refine o_istore (pc := 1073) (lv' := [(16, _), (15, _), (14, _), (0, _), (1, _), (2, _), (4, _), (5, _), (7, _), (8, _), (9, _), (10, _), (11, _)]) dL_act_1073 (by decide) rfl ?_
  refine o_aload (pc := 1075) dL_act_1075 1 rfl ?_
  refine o_gI (pc := 1077) (j := 5) dL_act_1077 flL_177 rfl rfl (hW.mE 6 hq) (hW.n5 hq) ?_
  refine o_iconst (pc := 1080) dL_act_1080 ?_
  refine o_icmp_ge (pc := 1081) 1088 dL_act_1081 (by decide) (by unfold inI; omega) (by unfold inI; omega) (fun c_1081 => ?_) (fun c_1081 => (by exfalso; omega))
  refine o_iconst (pc := 1088) dL_act_1088 ?_
  refine o_istore (pc := 1089) (lv' := [(11, _), (16, _), (15, _), (14, _), (0, _), (1, _), (2, _), (4, _), (5, _), (7, _), (8, _), (9, _), (10, _)]) dL_act_1089 (by decide) rfl ?_
  refine o_aload (pc := 1091) dL_act_1091 7 rfl ?_
  refine o_aload (pc := 1093) dL_act_1093 2 rfl ?_
  refine o_callV (pc := 1095) _ dL_act_1095 (cw_owed hW hq LN1) lkL_243 rfl rfl rfl rfl hW.mW ⟨⟨by simp only [rmL, rmD]; omega, by simp only [rmL, rmD]; omega⟩, by simp only [rmL, rmD]; omega, by simp only [rmL, rmD]; omega⟩ (Nat.le_of_ble_eq_true rfl) rfl (fun v h2 hq2 => ?_)
  obtain ⟨rfl, e2⟩ := hq2
  obtain rfl := e2.symm
  refine o_istore (pc := 1098) (lv' := [(17, _), (11, _), (16, _), (15, _), (14, _), (0, _), (1, _), (2, _), (4, _), (5, _), (7, _), (8, _), (9, _), (10, _)]) dL_act_1098 (by decide) rfl ?_
  refine o_iload (pc := 1100) dL_act_1100 1 rfl ?_
  refine o_if_eq (pc := 1102) 1158 dL_act_1102 (by decide) (by unfold inI; omega) (fun c_1102 => ?_) (fun c_1102 => (by exfalso; omega))
  refine o_iload (pc := 1158) dL_act_1158 1 rfl ?_
  refine o_if_eq (pc := 1160) 1175 dL_act_1160 (by decide) (by unfold inI; omega) (fun c_1160 => ?_) (fun c_1160 => (by exfalso; omega))
  refine o_iload (pc := 1175) dL_act_1175 1 rfl ?_
  refine o_if_ne (pc := 1177) 1185 dL_act_1177 (by decide) (by unfold inI; omega) (fun c_1177 => (by exfalso; omega)) (fun c_1177 => ?_)
  refine o_bipush (pc := 1180) (z := (-3)) dL_act_1180 (by decide) ?_
  refine o_goto (pc := 1182) 1200 dL_act_1182 (by decide) ?_
  refine o_istore (pc := 1200) (lv' := [(12, _), (17, _), (11, _), (16, _), (15, _), (14, _), (0, _), (1, _), (2, _), (4, _), (5, _), (7, _), (8, _), (9, _), (10, _)]) dL_act_1200 (by decide) rfl ?_
  refine o_iload (pc := 1202) dL_act_1202 3 rfl ?_
  refine o_if_ne (pc := 1204) 1216 dL_act_1204 (by decide) (by unfold inI; omega) (fun c_1204 => (by exfalso; omega)) (fun c_1204 => ?_)
  refine o_aload_n (pc := 1207) dL_act_1207 6 rfl ?_
  refine o_iload (pc := 1208) dL_act_1208 5 rfl ?_
  refine o_callC (pc := 1210) _ dL_act_1210 (fun G' hG => P_recall0 (m := H.2.1) hs.1.1 hs.1.2.1 hs.1.2.2.2.2.2.2.1 hs.2.1 hs.2.2 (by unfold inI; omega) (by omega) (by rw [← RL7.2.2.2.2.2.1]; omega)) lkL_339 rfl rfl hcH ⟨⟨by simp only [rmL, rmD]; omega, by simp only [rmL, rmD]; omega⟩, by simp only [rmL, rmD]; omega, by simp only [rmL, rmD]; omega⟩ (Nat.le_of_ble_eq_true rfl) rfl (fun n1 => ?_)
  refine o_goto (pc := 1213) 1237 dL_act_1213 (by decide) ?_
  refine o_istore (pc := 1237) (lv' := [(13, _), (12, _), (17, _), (11, _), (16, _), (15, _), (14, _), (0, _), (1, _), (2, _), (4, _), (5, _), (7, _), (8, _), (9, _), (10, _)]) dL_act_1237 (by decide) rfl ?_
  refine o_goto (pc := 1239) 1327 dL_act_1239 (by decide) ?_
  exact o_lv [7, 8, 9, 15, 3, 1, 0] rfl (ac_fin0 (w2 := w2) I (Nat.le_succ K) F (by first | omega | (simp only [rmL, rmD]; omega)) (by first | omega | (simp only [rmL, rmD]; omega)))
theorem ac_12_0y {G : GG} {h H : Hp} {V : Nat → Vw} {R : Nat → Int → Int} {p : Nat} {T : Nat → Prop} {pl c b aw K w2 : Nat} {B2 : Bok} (I : AI G h V R p T pl c b aw K) (F : Fr (fun _ => False) h H) (W2 : WN G H w2 (R p) B2 (snew h H) T) (hK : K ≤ 99) {x : Int} (hx : 0 ≤ x ∧ x < 134217728) {c0 s0 : Nat} (hcs : c0 ≤ 760) (hss : s0 ≤ 14500) {q : Nat} (hqe : x % R p 9 = (q : Int)) (hw : x / 32 % 3 = 0) (h9 : 0 < R p 9) (hst : R p (318 + 7 * (q : Int) + 5) ≤ 2) : YY G ML_act (rmL 12 2500 24000) 1044 [(0, rf G 38 0), (1, rf G (ak 8 1) aw), (2, rf G 56 pl), (4, rf G 51 (V p).1), (5, .int (iI x)), (7, .int (iI (R p 3))), (8, .int (iI (R p 8))), (9, .int (iI (R p 9))), (10, rf G 51 w2), (11, .int (iI 1))] [] H c0 s0 (fun v h1 => v = some (.int (iI 1)) ∧ ∃ V' R' p' c' b', AI G h1 V' R' p' T pl c' b' aw (K + 1)) := by
  have p8 := I.2.1.p8
  have hW := I.w.fr0 F
  have hs := I.2.1.1.fr F
  have hcH := F.cl I.1
  have gn := hs.gn
  have hU := I.2.2.1 p (Nat.le_refl p)
  have hn := F.2.2.2.2
  have r3 := hs.1.2.2.1.1.2.2.1
  have r5 := hs.1.2.2.1.1.2.2.2.2.2.1
  have r8 := hs.1.2.2.1.1.2.2.2.2.2.2
  have r7 := hs.1.2.2.2.1.1.2.2.2.2.2.1
  have r9 := hs.1.2.2.2.1.1.2.2.2.2.2.2
  have r2 := hs.1.2.2.2.1.1.1
  have b2 := hs.1.2.1.1
  have b3 := hs.1.1.2.2.1
  have b5 := hs.1.1.2.2.2.2.2.1
  have b8 := hs.1.1.2.2.2.2.2.2.1
  have b7 := hs.1.2.1.2.2.2.1.1
  have b9 := hs.1.2.1.2.2.2.2.1.1
  have nn3 : 0 ≤ R p 3 ∧ R p 3 ≤ 8 := by omega
  have nn5 : 0 ≤ R p 5 ∧ R p 5 ≤ 12 := by omega
  have nn7 : 0 ≤ R p 7 ∧ R p 7 ≤ 16 := by omega
  have nn8 : 0 ≤ R p 8 ∧ R p 8 ≤ 8 := by omega
  have nn9 : 0 ≤ R p 9 ∧ R p 9 ≤ 16 := by omega
  have nn2 : 0 ≤ R p 2 ∧ R p 2 ≤ 6000 := by have := hU.2; omega
  have em0 := Int.emod_nonneg x (show R p 9 ≠ 0 by omega)
  have em1 := Int.emod_lt_of_pos x (show 0 < R p 9 by omega)
  have hq : (q : Int) < R p 9 := by omega
  have LN1 := gn.ln (q := (q : Int)) (by omega) hq
  obtain ⟨l1, l2, l3, l4, l5, l6, l7⟩ := id LN1
  have LG := gn.loan (l := (q : Int)) (by omega) hq
  have RL7 := hs.1.2.2.2.1.2.2.2.2.2.2 (q : Int) (by omega) (by omega)
  have BL7 := hs.1.2.1.2.2.2.2.1.2 (q : Int) (by omega) (by omega)
  obtain ⟨k, fk⟩ : ∃ k : Nat, R p (318 + 7 * (q : Int) + 0) = (k : Int) := ⟨(R p (318 + 7 * (q : Int) + 0)).toNat, by omega⟩
  have hk : (k : Int) < R p 8 := by rw [← fk, RL7.1, r8]; exact BL7.1.2
  have CK := gn.con (k := (k : Int)) (by omega) hk
  refine o_iload (pc := 1044) dL_act_1044 4 rfl ?_
  refine o_iload (pc := 1046) dL_act_1046 7 rfl ?_
  refine o_irem (pc := 1048) dL_act_1048 (by omega) (by omega) ?_
  refine o_topI (y := (q : Int)) hqe ?_
  refine o_istore (pc := 1049) (lv' := [(14, _), (0, _), (1, _), (2, _), (4, _), (5, _), (7, _), (8, _), (9, _), (10, _), (11, _)]) dL_act_1049 (by decide) rfl ?_
  refine o_aload (pc := 1051) dL_act_1051 4 rfl ?_
  refine o_gR (pc := 1053) (j := 13) (56) (((V p).2.1.1 6)) dL_act_1053 flL_159 rfl rfl hW.mW (hW.r 6) ?_
  refine o_iload (pc := 1056) dL_act_1056 0 rfl ?_
  refine o_callV (pc := 1058) _ dL_act_1058 (hW.get 6 hq) lkL_130 rfl rfl rfl rfl (hW.l 6).1 ⟨⟨by simp only [rmL, rmD]; omega, by simp only [rmL, rmD]; omega⟩, by simp only [rmL, rmD]; omega, by simp only [rmL, rmD]; omega⟩ (Nat.le_of_ble_eq_true rfl) rfl (fun v h2 hq2 => ?_)
  obtain ⟨rfl, e2⟩ := hq2
  obtain rfl := e2.symm
  show YY _ _ _ _ _ (rf G 55 (bE (V p).2.1 6 q) :: _) _ _ _ _
  refine o_castO (pc := 1061) dL_act_1061 clL_175 rfl rfl (hW.mE 6 hq) ?_
  refine o_astore (pc := 1064) (lv' := [(15, _), (14, _), (0, _), (1, _), (2, _), (4, _), (5, _), (7, _), (8, _), (9, _), (10, _), (11, _)]) dL_act_1064 (by decide) rfl ?_
  refine o_iload (pc := 1066) dL_act_1066 6 rfl ?_
  refine o_bipush (pc := 1068) (z := 32) dL_act_1068 (by decide) ?_
  refine o_idiv (pc := 1070) dL_act_1070 (by omega) (by omega) ?_
  refine o_iconst (pc := 1071) dL_act_1071 ?_
  refine o_irem (pc := 1072) dL_act_1072 (by omega) (by omega) ?_
  refine o_topI (y := 0) hw ?_
  refine o_istore (pc := 1073) (lv' := [(16, _), (15, _), (14, _), (0, _), (1, _), (2, _), (4, _), (5, _), (7, _), (8, _), (9, _), (10, _), (11, _)]) dL_act_1073 (by decide) rfl ?_
  refine o_aload (pc := 1075) dL_act_1075 1 rfl ?_
  refine o_gI (pc := 1077) (j := 5) dL_act_1077 flL_177 rfl rfl (hW.mE 6 hq) (hW.n5 hq) ?_
  refine o_iconst (pc := 1080) dL_act_1080 ?_
  refine o_icmp_ge (pc := 1081) 1088 dL_act_1081 (by decide) (by unfold inI; omega) (by unfold inI; omega) (fun c_1081 => (by exfalso; omega)) (fun c_1081 => ?_)
  refine o_iconst (pc := 1084) dL_act_1084 ?_
  refine o_goto (pc := 1085) 1089 dL_act_1085 (by decide) ?_
  refine o_istore (pc := 1089) (lv' := [(11, _), (16, _), (15, _), (14, _), (0, _), (1, _), (2, _), (4, _), (5, _), (7, _), (8, _), (9, _), (10, _)]) dL_act_1089 (by decide) rfl ?_
  refine o_aload (pc := 1091) dL_act_1091 7 rfl ?_
  refine o_aload (pc := 1093) dL_act_1093 2 rfl ?_
  refine o_callV (pc := 1095) _ dL_act_1095 (cw_owed hW hq LN1) lkL_243 rfl rfl rfl rfl hW.mW ⟨⟨by simp only [rmL, rmD]; omega, by simp only [rmL, rmD]; omega⟩, by simp only [rmL, rmD]; omega, by simp only [rmL, rmD]; omega⟩ (Nat.le_of_ble_eq_true rfl) rfl (fun v h2 hq2 => ?_)
  obtain ⟨rfl, e2⟩ := hq2
  obtain rfl := e2.symm
  refine o_istore (pc := 1098) (lv' := [(17, _), (11, _), (16, _), (15, _), (14, _), (0, _), (1, _), (2, _), (4, _), (5, _), (7, _), (8, _), (9, _), (10, _)]) dL_act_1098 (by decide) rfl ?_
  refine o_iload (pc := 1100) dL_act_1100 1 rfl ?_
  refine o_if_eq (pc := 1102) 1158 dL_act_1102 (by decide) (by unfold inI; omega) (fun c_1102 => (by exfalso; omega)) (fun c_1102 => ?_)
  refine o_iload (pc := 1105) dL_act_1105 2 rfl ?_
  refine o_iconst (pc := 1107) dL_act_1107 ?_
  refine o_icmp_ge (pc := 1108) 1158 dL_act_1108 (by decide) (by unfold inI; omega) (by unfold inI; omega) (fun c_1108 => (by exfalso; omega)) (fun c_1108 => ?_)
  refine o_aload (pc := 1111) dL_act_1111 3 rfl ?_
  refine o_aload (pc := 1113) dL_act_1113 3 rfl ?_
  refine o_gI (pc := 1115) (j := 6) dL_act_1115 flL_247 rfl rfl (hW.mE 6 hq) (hW.n6 hq) ?_
  refine o_aload (pc := 1118) dL_act_1118 8 rfl ?_
  refine o_gI (pc := 1120) (j := 2) dL_act_1120 flL_269 rfl rfl hW.mW hW.w2 ?_
  refine o_iload (pc := 1123) dL_act_1123 2 rfl ?_
  refine o_if_ne (pc := 1125) 1150 dL_act_1125 (by decide) (by unfold inI; omega) (fun c_1125 => (by exfalso; omega)) (fun c_1125 => ?_)
  refine o_aload (pc := 1128) dL_act_1128 8 rfl ?_
  refine o_gR (pc := 1130) (j := 12) (56) (((V p).2.1.1 5)) dL_act_1130 flL_139 rfl rfl hW.mW (hW.r 5) ?_
  refine o_aload (pc := 1133) dL_act_1133 3 rfl ?_
  refine o_gI (pc := 1135) (j := 0) dL_act_1135 flL_180 rfl rfl (hW.mE 6 hq) ((hW.n0 hq).trans fk) ?_
  refine o_callV (pc := 1138) _ dL_act_1138 (hW.get 5 hk) lkL_130 rfl rfl rfl rfl (hW.l 5).1 ⟨⟨by simp only [rmL, rmD]; omega, by simp only [rmL, rmD]; omega⟩, by simp only [rmL, rmD]; omega, by simp only [rmL, rmD]; omega⟩ (Nat.le_of_ble_eq_true rfl) rfl (fun v h2 hq2 => ?_)
  obtain ⟨rfl, e2⟩ := hq2
  obtain rfl := e2.symm
  show YY _ _ _ _ _ (rf G 54 (bE (V p).2.1 5 k) :: _) _ _ _ _
  refine o_castO (pc := 1141) dL_act_1141 clL_134 rfl rfl (hW.mE 5 hk) ?_
  refine o_gI (pc := 1144) (j := 3) dL_act_1144 flL_153 rfl rfl (hW.mE 5 hk) (hW.k3 hk) ?_
  refine o_goto (pc := 1147) 1151 dL_act_1147 (by decide) ?_
  refine o_iadd (pc := 1151) dL_act_1151 ?_
  refine o_min (pc := 1152) dL_act_1152 lmL_294 (by unfold inI; omega) (by unfold inI; omega) (Nat.le_of_ble_eq_true rfl) (Nat.le_of_ble_eq_true rfl) (by first | omega | (simp only [rmL, rmD]; omega)) (by first | omega | (simp only [rmL, rmD]; omega)) ?_
  refine o_pI (pc := 1155) (j := 6) dL_act_1155 fwL_247 rfl rfl (hW.mE 6 hq) ?_
  have W1 : WN G (hset H 55 (bE (V p).2.1 6 q) ((6 : Nat) : Int) (min (R p (318 + 7 * (q : Int) + 6)) (R p 2 + R p (270 + 6 * (k : Int) + 3)))) (V p).1 (upN (R p) (318 + 7 * (q : Int) + 6) (min (R p (318 + 7 * (q : Int) + 6)) (R p 2 + R p (270 + 6 * (k : Int) + 3)))) (V p).2.1 (V p).2.2 T := hW.setE 6 hq 6 (min (R p (318 + 7 * (q : Int) + 6)) (R p 2 + R p (270 + 6 * (k : Int) + 3)))
  have F1 := Fr_hset (k := 55) (i := bE (V p).2.1 6 q) (j := ((6 : Nat) : Int)) (z := min (R p (318 + 7 * (q : Int) + 6)) (R p 2 + R p (270 + 6 * (k : Int) + 3))) (Fr.rf (S := (V p).2.2) hn) (by decide) (.inl (hW.sE 6 hq))
  have hq1 := up_lt (N := R p) (i := 318 + 7 * (q : Int) + 6) (z := min (R p (318 + 7 * (q : Int) + 6)) (R p 2 + R p (270 + 6 * (k : Int) + 3))) (n := 9) (by omega) (by omega) hq
  have hs3 := hs.fr F1
  have hc3 := F1.cl hcH
  generalize hset H 55 (bE (V p).2.1 6 q) ((6 : Nat) : Int) (min (R p (318 + 7 * (q : Int) + 6)) (R p 2 + R p (270 + 6 * (k : Int) + 3))) = H3 at W1 F1 hs3 hc3 ⊢
  have hpu := hs3.1.push
  have s0 : pushC H3.2.1 0 0 0 = R p 2 := by rw [pushC_0 (by decide)]; exact hs3.1.2.2.2.1.1.1.symm
  have q2 : (q : Int) < pushC H3.2.1 2 0 0 := by rw [pushC_0 (by decide), ← hs3.1.2.2.2.1.1.2.2.2.2.2.2]; exact hq
  have s15 : pushC H3.2.1 15 0 (q : Int) = k := by rw [pushC_0 (by decide), ← (hs3.1.2.2.2.1.2.2.2.2.2.2 (q : Int) (by omega) (by rw [← hs3.1.2.2.2.1.1.2.2.2.2.2.2]; exact hq)).1]; exact fk
  have s31 : pushC H3.2.1 31 0 (k : Int) = R p (270 + 6 * (k : Int) + 3) := by rw [pushC_k (.inr ⟨by decide, by decide⟩)]; exact (hs3.1.2.2.1.2.2.2.2.2.1 (k : Int) (by omega) (by rw [← hs3.1.2.2.1.1.2.2.2.2.2.2]; exact hk)).2.2.2.1.symm
  have eT : pushC H3.2.1 0 0 0 + pushC H3.2.1 31 0 (pushC H3.2.1 15 0 (q : Int)) = (R p 2 + R p (270 + 6 * (k : Int) + 3)) := by rw [s0, s15, s31]
  have hST : ST (brF (pushC H3.2.1) 0 (q : Int) (pushC H3.2.1 0 0 0 + pushC H3.2.1 31 0 (pushC H3.2.1 15 0 (q : Int)))) 0 0 (upN (R p) (318 + 7 * (q : Int) + 6) (min (R p (318 + 7 * (q : Int) + 6)) (R p 2 + R p (270 + 6 * (k : Int) + 3)))) (K + 1) := (hpu.bring (l := (q : Int)) (by omega) q2 (by rw [eT]; omega) (by rw [eT])).more (Nat.le_succ K)
  have hcc : ∀ k i, i ≠ 0 ∨ 22 ≤ k → brF (pushC H3.2.1) 0 (q : Int) (pushC H3.2.1 0 0 0 + pushC H3.2.1 31 0 (pushC H3.2.1 15 0 (q : Int))) k i = pushC H3.2.1 k i := fun k i z => by
    rcases z with z | z
    · rw [brF_i z]
    · rw [brF_k (by omega)]
  have q2b : (q : Int) < brF (pushC H3.2.1) 0 (q : Int) (pushC H3.2.1 0 0 0 + pushC H3.2.1 31 0 (pushC H3.2.1 15 0 (q : Int))) 2 0 0 := by rw [← hST.2.2.2.1.1.2.2.2.2.2.2]; exact hq1
  have st3 : H3.2.1 20 0 (q : Int) ≤ 2 := by rw [← (hs3.1.2.2.2.1.2.2.2.2.2.2 (q : Int) (by omega) (by rw [← hs3.1.2.2.2.1.1.2.2.2.2.2.2]; exact hq)).2.2.2.2.2.1]; exact hst
  have q3b : (q : Int) < H3.2.1 2 0 0 := by rw [← hs3.1.2.2.2.1.1.2.2.2.2.2.2]; exact hq
  refine o_iload (pc := 1158) dL_act_1158 1 rfl ?_
  refine o_if_eq (pc := 1160) 1175 dL_act_1160 (by decide) (by unfold inI; omega) (fun c_1160 => (by exfalso; omega)) (fun c_1160 => ?_)
  refine o_iload (pc := 1163) dL_act_1163 2 rfl ?_
  refine o_iconst (pc := 1165) dL_act_1165 ?_
  refine o_icmp_ne (pc := 1166) 1175 dL_act_1166 (by decide) (by unfold inI; omega) (by unfold inI; omega) (fun c_1166 => ?_) (fun c_1166 => (by exfalso; omega))
  refine o_iload (pc := 1175) dL_act_1175 1 rfl ?_
  refine o_if_ne (pc := 1177) 1185 dL_act_1177 (by decide) (by unfold inI; omega) (fun c_1177 => ?_) (fun c_1177 => (by exfalso; omega))
  refine o_iload (pc := 1185) dL_act_1185 2 rfl ?_
  refine o_if_ne (pc := 1187) 1198 dL_act_1187 (by decide) (by unfold inI; omega) (fun c_1187 => (by exfalso; omega)) (fun c_1187 => ?_)
  refine o_aload (pc := 1190) dL_act_1190 3 rfl ?_
  refine o_gI (pc := 1192) (j := 6) dL_act_1192 flL_247 rfl rfl (W1.mE 6 hq1) (W1.n6 hq1) ?_
  refine o_goto (pc := 1195) 1200 dL_act_1195 (by decide) ?_
  refine o_istore (pc := 1200) (lv' := [(12, _), (17, _), (11, _), (16, _), (15, _), (14, _), (0, _), (1, _), (2, _), (4, _), (5, _), (7, _), (8, _), (9, _), (10, _)]) dL_act_1200 (by decide) rfl ?_
  refine o_iload (pc := 1202) dL_act_1202 3 rfl ?_
  refine o_if_ne (pc := 1204) 1216 dL_act_1204 (by decide) (by unfold inI; omega) (fun c_1204 => (by exfalso; omega)) (fun c_1204 => ?_)
  refine o_aload_n (pc := 1207) dL_act_1207 6 rfl ?_
  refine o_iload (pc := 1208) dL_act_1208 5 rfl ?_
  refine o_callC (pc := 1210) _ dL_act_1210 (fun G' hG => P_recall1 (m := H3.2.1) hs3.1.1 hs3.1.2.1 hs3.1.2.2.2.2.2.2.1 hs3.2.1 hs3.2.2 (by unfold inI; omega) (by omega) st3) lkL_339 rfl rfl hc3 ⟨⟨by simp only [rmL, rmD]; omega, by simp only [rmL, rmD]; omega⟩, by simp only [rmL, rmD]; omega, by simp only [rmL, rmD]; omega⟩ (Nat.le_of_ble_eq_true rfl) rfl (fun n1 => ?_)
  refine o_topI ((hST.2.2.2.1.2.2.2.2.2.2 (q : Int) (by omega) q2b).2.2.2.2.2.2).symm ?_
  refine o_goto (pc := 1213) 1237 dL_act_1213 (by decide) ?_
  refine o_istore (pc := 1237) (lv' := [(13, _), (12, _), (17, _), (11, _), (16, _), (15, _), (14, _), (0, _), (1, _), (2, _), (4, _), (5, _), (7, _), (8, _), (9, _), (10, _)]) dL_act_1237 (by decide) rfl ?_
  refine o_goto (pc := 1239) 1327 dL_act_1239 (by decide) ?_
  exact o_lv [7, 8, 9, 15, 3, 1, 0] rfl (ac_fin1 I (Nat.le_succ K) F W2 F1 W1 (fun _ z => .inl z) hcc hST ((hU.more (Nat.le_succ K)).up (by omega) (by omega)) (by first | omega | (simp only [rmL, rmD]; omega)) (by first | omega | (simp only [rmL, rmD]; omega)))
theorem ac_12_1n {G : GG} {h H : Hp} {V : Nat → Vw} {R : Nat → Int → Int} {p : Nat} {T : Nat → Prop} {pl c b aw K w2 : Nat} {B2 : Bok} (I : AI G h V R p T pl c b aw K) (F : Fr (fun _ => False) h H) (W2 : WN G H w2 (R p) B2 (snew h H) T) (hK : K ≤ 99) {x : Int} (hx : 0 ≤ x ∧ x < 134217728) {c0 s0 : Nat} (hcs : c0 ≤ 760) (hss : s0 ≤ 14500) {q : Nat} (hqe : x % R p 9 = (q : Int)) (hw : x / 32 % 3 = 1) (h9 : 0 < R p 9) (hst : 2 < R p (318 + 7 * (q : Int) + 5)) : YY G ML_act (rmL 12 2500 24000) 1044 [(0, rf G 38 0), (1, rf G (ak 8 1) aw), (2, rf G 56 pl), (4, rf G 51 (V p).1), (5, .int (iI x)), (7, .int (iI (R p 3))), (8, .int (iI (R p 8))), (9, .int (iI (R p 9))), (10, rf G 51 w2), (11, .int (iI 1))] [] H c0 s0 (fun v h1 => v = some (.int (iI 1)) ∧ ∃ V' R' p' c' b', AI G h1 V' R' p' T pl c' b' aw (K + 1)) := by
  have p8 := I.2.1.p8
  have hW := I.w.fr0 F
  have hs := I.2.1.1.fr F
  have hcH := F.cl I.1
  have gn := hs.gn
  have hU := I.2.2.1 p (Nat.le_refl p)
  have hn := F.2.2.2.2
  have r3 := hs.1.2.2.1.1.2.2.1
  have r5 := hs.1.2.2.1.1.2.2.2.2.2.1
  have r8 := hs.1.2.2.1.1.2.2.2.2.2.2
  have r7 := hs.1.2.2.2.1.1.2.2.2.2.2.1
  have r9 := hs.1.2.2.2.1.1.2.2.2.2.2.2
  have r2 := hs.1.2.2.2.1.1.1
  have b2 := hs.1.2.1.1
  have b3 := hs.1.1.2.2.1
  have b5 := hs.1.1.2.2.2.2.2.1
  have b8 := hs.1.1.2.2.2.2.2.2.1
  have b7 := hs.1.2.1.2.2.2.1.1
  have b9 := hs.1.2.1.2.2.2.2.1.1
  have nn3 : 0 ≤ R p 3 ∧ R p 3 ≤ 8 := by omega
  have nn5 : 0 ≤ R p 5 ∧ R p 5 ≤ 12 := by omega
  have nn7 : 0 ≤ R p 7 ∧ R p 7 ≤ 16 := by omega
  have nn8 : 0 ≤ R p 8 ∧ R p 8 ≤ 8 := by omega
  have nn9 : 0 ≤ R p 9 ∧ R p 9 ≤ 16 := by omega
  have nn2 : 0 ≤ R p 2 ∧ R p 2 ≤ 6000 := by have := hU.2; omega
  have em0 := Int.emod_nonneg x (show R p 9 ≠ 0 by omega)
  have em1 := Int.emod_lt_of_pos x (show 0 < R p 9 by omega)
  have hq : (q : Int) < R p 9 := by omega
  have LN1 := gn.ln (q := (q : Int)) (by omega) hq
  obtain ⟨l1, l2, l3, l4, l5, l6, l7⟩ := id LN1
  have LG := gn.loan (l := (q : Int)) (by omega) hq
  have RL7 := hs.1.2.2.2.1.2.2.2.2.2.2 (q : Int) (by omega) (by omega)
  have BL7 := hs.1.2.1.2.2.2.2.1.2 (q : Int) (by omega) (by omega)
  refine o_iload (pc := 1044) dL_act_1044 4 rfl ?_
  refine o_iload (pc := 1046) dL_act_1046 7 rfl ?_
  refine o_irem (pc := 1048) dL_act_1048 (by omega) (by omega) ?_
  refine o_topI (y := (q : Int)) hqe ?_
  refine o_istore (pc := 1049) (lv' := [(14, _), (0, _), (1, _), (2, _), (4, _), (5, _), (7, _), (8, _), (9, _), (10, _), (11, _)]) dL_act_1049 (by decide) rfl ?_
  refine o_aload (pc := 1051) dL_act_1051 4 rfl ?_
  refine o_gR (pc := 1053) (j := 13) (56) (((V p).2.1.1 6)) dL_act_1053 flL_159 rfl rfl hW.mW (hW.r 6) ?_
  refine o_iload (pc := 1056) dL_act_1056 0 rfl ?_
  refine o_callV (pc := 1058) _ dL_act_1058 (hW.get 6 hq) lkL_130 rfl rfl rfl rfl (hW.l 6).1 ⟨⟨by simp only [rmL, rmD]; omega, by simp only [rmL, rmD]; omega⟩, by simp only [rmL, rmD]; omega, by simp only [rmL, rmD]; omega⟩ (Nat.le_of_ble_eq_true rfl) rfl (fun v h2 hq2 => ?_)
  obtain ⟨rfl, e2⟩ := hq2
  obtain rfl := e2.symm
  show YY _ _ _ _ _ (rf G 55 (bE (V p).2.1 6 q) :: _) _ _ _ _
  refine o_castO (pc := 1061) dL_act_1061 clL_175 rfl rfl (hW.mE 6 hq) ?_
  refine o_astore (pc := 1064) (lv' := [(15, _), (14, _), (0, _), (1, _), (2, _), (4, _), (5, _), (7, _), (8, _), (9, _), (10, _), (11, _)]) dL_act_1064 (by decide) rfl ?_
  refine o_iload (pc := 1066) dL_act_1066 6 rfl ?_
  refine o_bipush (pc := 1068) (z := 32) dL_act_1068 (by decide) ?_
  refine o_idiv (pc := 1070) dL_act_1070 (by omega) (by omega) ?_
  refine o_iconst (pc := 1071) dL_act_1071 ?_
  refine o_irem (pc := 1072) dL_act_1072 (by omega) (by omega) ?_
  refine o_topI (y := 1) hw ?_
  refine o_istore (pc := 1073) (lv' := [(16, _), (15, _), (14, _), (0, _), (1, _), (2, _), (4, _), (5, _), (7, _), (8, _), (9, _), (10, _), (11, _)]) dL_act_1073 (by decide) rfl ?_
  refine o_aload (pc := 1075) dL_act_1075 1 rfl ?_
  refine o_gI (pc := 1077) (j := 5) dL_act_1077 flL_177 rfl rfl (hW.mE 6 hq) (hW.n5 hq) ?_
  refine o_iconst (pc := 1080) dL_act_1080 ?_
  refine o_icmp_ge (pc := 1081) 1088 dL_act_1081 (by decide) (by unfold inI; omega) (by unfold inI; omega) (fun c_1081 => ?_) (fun c_1081 => (by exfalso; omega))
  refine o_iconst (pc := 1088) dL_act_1088 ?_
  refine o_istore (pc := 1089) (lv' := [(11, _), (16, _), (15, _), (14, _), (0, _), (1, _), (2, _), (4, _), (5, _), (7, _), (8, _), (9, _), (10, _)]) dL_act_1089 (by decide) rfl ?_
  refine o_aload (pc := 1091) dL_act_1091 7 rfl ?_
  refine o_aload (pc := 1093) dL_act_1093 2 rfl ?_
  refine o_callV (pc := 1095) _ dL_act_1095 (cw_owed hW hq LN1) lkL_243 rfl rfl rfl rfl hW.mW ⟨⟨by simp only [rmL, rmD]; omega, by simp only [rmL, rmD]; omega⟩, by simp only [rmL, rmD]; omega, by simp only [rmL, rmD]; omega⟩ (Nat.le_of_ble_eq_true rfl) rfl (fun v h2 hq2 => ?_)
  obtain ⟨rfl, e2⟩ := hq2
  obtain rfl := e2.symm
  refine o_istore (pc := 1098) (lv' := [(17, _), (11, _), (16, _), (15, _), (14, _), (0, _), (1, _), (2, _), (4, _), (5, _), (7, _), (8, _), (9, _), (10, _)]) dL_act_1098 (by decide) rfl ?_
  refine o_iload (pc := 1100) dL_act_1100 1 rfl ?_
  refine o_if_eq (pc := 1102) 1158 dL_act_1102 (by decide) (by unfold inI; omega) (fun c_1102 => ?_) (fun c_1102 => (by exfalso; omega))
  refine o_iload (pc := 1158) dL_act_1158 1 rfl ?_
  refine o_if_eq (pc := 1160) 1175 dL_act_1160 (by decide) (by unfold inI; omega) (fun c_1160 => ?_) (fun c_1160 => (by exfalso; omega))
  refine o_iload (pc := 1175) dL_act_1175 1 rfl ?_
  refine o_if_ne (pc := 1177) 1185 dL_act_1177 (by decide) (by unfold inI; omega) (fun c_1177 => (by exfalso; omega)) (fun c_1177 => ?_)
  refine o_bipush (pc := 1180) (z := (-3)) dL_act_1180 (by decide) ?_
  refine o_goto (pc := 1182) 1200 dL_act_1182 (by decide) ?_
  refine o_istore (pc := 1200) (lv' := [(12, _), (17, _), (11, _), (16, _), (15, _), (14, _), (0, _), (1, _), (2, _), (4, _), (5, _), (7, _), (8, _), (9, _), (10, _)]) dL_act_1200 (by decide) rfl ?_
  refine o_iload (pc := 1202) dL_act_1202 3 rfl ?_
  refine o_if_ne (pc := 1204) 1216 dL_act_1204 (by decide) (by unfold inI; omega) (fun c_1204 => ?_) (fun c_1204 => (by exfalso; omega))
  refine o_iload (pc := 1216) dL_act_1216 3 rfl ?_
  refine o_iconst (pc := 1218) dL_act_1218 ?_
  refine o_icmp_ne (pc := 1219) 1231 dL_act_1219 (by decide) (by unfold inI; omega) (by unfold inI; omega) (fun c_1219 => (by exfalso; omega)) (fun c_1219 => ?_)
  refine o_aload_n (pc := 1222) dL_act_1222 6 rfl ?_
  refine o_iload (pc := 1223) dL_act_1223 5 rfl ?_
  refine o_callC (pc := 1225) _ dL_act_1225 (fun G' hG => P_giveBack0 (m := H.2.1) hs.1.1 hs.1.2.1 hs.1.2.2.2.2.2.2.1 hs.2.1 hs.2.2 (by unfold inI; omega) (by omega) (by rw [← RL7.2.2.2.2.2.1]; omega)) lkL_342 rfl rfl hcH ⟨⟨by simp only [rmL, rmD]; omega, by simp only [rmL, rmD]; omega⟩, by simp only [rmL, rmD]; omega, by simp only [rmL, rmD]; omega⟩ (Nat.le_of_ble_eq_true rfl) rfl (fun n1 => ?_)
  refine o_goto (pc := 1228) 1237 dL_act_1228 (by decide) ?_
  refine o_istore (pc := 1237) (lv' := [(13, _), (12, _), (17, _), (11, _), (16, _), (15, _), (14, _), (0, _), (1, _), (2, _), (4, _), (5, _), (7, _), (8, _), (9, _), (10, _)]) dL_act_1237 (by decide) rfl ?_
  refine o_goto (pc := 1239) 1327 dL_act_1239 (by decide) ?_
  exact o_lv [7, 8, 9, 15, 3, 1, 0] rfl (ac_fin0 (w2 := w2) I (Nat.le_succ K) F (by first | omega | (simp only [rmL, rmD]; omega)) (by first | omega | (simp only [rmL, rmD]; omega)))
theorem ac_12_1y {G : GG} {h H : Hp} {V : Nat → Vw} {R : Nat → Int → Int} {p : Nat} {T : Nat → Prop} {pl c b aw K w2 : Nat} {B2 : Bok} (I : AI G h V R p T pl c b aw K) (F : Fr (fun _ => False) h H) (W2 : WN G H w2 (R p) B2 (snew h H) T) (hK : K ≤ 99) {x : Int} (hx : 0 ≤ x ∧ x < 134217728) {c0 s0 : Nat} (hcs : c0 ≤ 760) (hss : s0 ≤ 14500) {q : Nat} (hqe : x % R p 9 = (q : Int)) (hw : x / 32 % 3 = 1) (h9 : 0 < R p 9) (hst : R p (318 + 7 * (q : Int) + 5) ≤ 2) : YY G ML_act (rmL 12 2500 24000) 1044 [(0, rf G 38 0), (1, rf G (ak 8 1) aw), (2, rf G 56 pl), (4, rf G 51 (V p).1), (5, .int (iI x)), (7, .int (iI (R p 3))), (8, .int (iI (R p 8))), (9, .int (iI (R p 9))), (10, rf G 51 w2), (11, .int (iI 1))] [] H c0 s0 (fun v h1 => v = some (.int (iI 1)) ∧ ∃ V' R' p' c' b', AI G h1 V' R' p' T pl c' b' aw (K + 1)) := by
  have p8 := I.2.1.p8
  have hW := I.w.fr0 F
  have hs := I.2.1.1.fr F
  have hcH := F.cl I.1
  have gn := hs.gn
  have hU := I.2.2.1 p (Nat.le_refl p)
  have hn := F.2.2.2.2
  have r3 := hs.1.2.2.1.1.2.2.1
  have r5 := hs.1.2.2.1.1.2.2.2.2.2.1
  have r8 := hs.1.2.2.1.1.2.2.2.2.2.2
  have r7 := hs.1.2.2.2.1.1.2.2.2.2.2.1
  have r9 := hs.1.2.2.2.1.1.2.2.2.2.2.2
  have r2 := hs.1.2.2.2.1.1.1
  have b2 := hs.1.2.1.1
  have b3 := hs.1.1.2.2.1
  have b5 := hs.1.1.2.2.2.2.2.1
  have b8 := hs.1.1.2.2.2.2.2.2.1
  have b7 := hs.1.2.1.2.2.2.1.1
  have b9 := hs.1.2.1.2.2.2.2.1.1
  have nn3 : 0 ≤ R p 3 ∧ R p 3 ≤ 8 := by omega
  have nn5 : 0 ≤ R p 5 ∧ R p 5 ≤ 12 := by omega
  have nn7 : 0 ≤ R p 7 ∧ R p 7 ≤ 16 := by omega
  have nn8 : 0 ≤ R p 8 ∧ R p 8 ≤ 8 := by omega
  have nn9 : 0 ≤ R p 9 ∧ R p 9 ≤ 16 := by omega
  have nn2 : 0 ≤ R p 2 ∧ R p 2 ≤ 6000 := by have := hU.2; omega
  have em0 := Int.emod_nonneg x (show R p 9 ≠ 0 by omega)
  have em1 := Int.emod_lt_of_pos x (show 0 < R p 9 by omega)
  have hq : (q : Int) < R p 9 := by omega
  have LN1 := gn.ln (q := (q : Int)) (by omega) hq
  obtain ⟨l1, l2, l3, l4, l5, l6, l7⟩ := id LN1
  have LG := gn.loan (l := (q : Int)) (by omega) hq
  have RL7 := hs.1.2.2.2.1.2.2.2.2.2.2 (q : Int) (by omega) (by omega)
  have BL7 := hs.1.2.1.2.2.2.2.1.2 (q : Int) (by omega) (by omega)
  refine o_iload (pc := 1044) dL_act_1044 4 rfl ?_
  refine o_iload (pc := 1046) dL_act_1046 7 rfl ?_
  refine o_irem (pc := 1048) dL_act_1048 (by omega) (by omega) ?_
  refine o_topI (y := (q : Int)) hqe ?_
  refine o_istore (pc := 1049) (lv' := [(14, _), (0, _), (1, _), (2, _), (4, _), (5, _), (7, _), (8, _), (9, _), (10, _), (11, _)]) dL_act_1049 (by decide) rfl ?_
  refine o_aload (pc := 1051) dL_act_1051 4 rfl ?_
  refine o_gR (pc := 1053) (j := 13) (56) (((V p).2.1.1 6)) dL_act_1053 flL_159 rfl rfl hW.mW (hW.r 6) ?_
  refine o_iload (pc := 1056) dL_act_1056 0 rfl ?_
  refine o_callV (pc := 1058) _ dL_act_1058 (hW.get 6 hq) lkL_130 rfl rfl rfl rfl (hW.l 6).1 ⟨⟨by simp only [rmL, rmD]; omega, by simp only [rmL, rmD]; omega⟩, by simp only [rmL, rmD]; omega, by simp only [rmL, rmD]; omega⟩ (Nat.le_of_ble_eq_true rfl) rfl (fun v h2 hq2 => ?_)
  obtain ⟨rfl, e2⟩ := hq2
  obtain rfl := e2.symm
  show YY _ _ _ _ _ (rf G 55 (bE (V p).2.1 6 q) :: _) _ _ _ _
  refine o_castO (pc := 1061) dL_act_1061 clL_175 rfl rfl (hW.mE 6 hq) ?_
  refine o_astore (pc := 1064) (lv' := [(15, _), (14, _), (0, _), (1, _), (2, _), (4, _), (5, _), (7, _), (8, _), (9, _), (10, _), (11, _)]) dL_act_1064 (by decide) rfl ?_
  refine o_iload (pc := 1066) dL_act_1066 6 rfl ?_
  refine o_bipush (pc := 1068) (z := 32) dL_act_1068 (by decide) ?_
  refine o_idiv (pc := 1070) dL_act_1070 (by omega) (by omega) ?_
  refine o_iconst (pc := 1071) dL_act_1071 ?_
  refine o_irem (pc := 1072) dL_act_1072 (by omega) (by omega) ?_
  refine o_topI (y := 1) hw ?_
  refine o_istore (pc := 1073) (lv' := [(16, _), (15, _), (14, _), (0, _), (1, _), (2, _), (4, _), (5, _), (7, _), (8, _), (9, _), (10, _), (11, _)]) dL_act_1073 (by decide) rfl ?_
  refine o_aload (pc := 1075) dL_act_1075 1 rfl ?_
  refine o_gI (pc := 1077) (j := 5) dL_act_1077 flL_177 rfl rfl (hW.mE 6 hq) (hW.n5 hq) ?_
  refine o_iconst (pc := 1080) dL_act_1080 ?_
  refine o_icmp_ge (pc := 1081) 1088 dL_act_1081 (by decide) (by unfold inI; omega) (by unfold inI; omega) (fun c_1081 => (by exfalso; omega)) (fun c_1081 => ?_)
  refine o_iconst (pc := 1084) dL_act_1084 ?_
  refine o_goto (pc := 1085) 1089 dL_act_1085 (by decide) ?_
  refine o_istore (pc := 1089) (lv' := [(11, _), (16, _), (15, _), (14, _), (0, _), (1, _), (2, _), (4, _), (5, _), (7, _), (8, _), (9, _), (10, _)]) dL_act_1089 (by decide) rfl ?_
  refine o_aload (pc := 1091) dL_act_1091 7 rfl ?_
  refine o_aload (pc := 1093) dL_act_1093 2 rfl ?_
  refine o_callV (pc := 1095) _ dL_act_1095 (cw_owed hW hq LN1) lkL_243 rfl rfl rfl rfl hW.mW ⟨⟨by simp only [rmL, rmD]; omega, by simp only [rmL, rmD]; omega⟩, by simp only [rmL, rmD]; omega, by simp only [rmL, rmD]; omega⟩ (Nat.le_of_ble_eq_true rfl) rfl (fun v h2 hq2 => ?_)
  obtain ⟨rfl, e2⟩ := hq2
  obtain rfl := e2.symm
  refine o_istore (pc := 1098) (lv' := [(17, _), (11, _), (16, _), (15, _), (14, _), (0, _), (1, _), (2, _), (4, _), (5, _), (7, _), (8, _), (9, _), (10, _)]) dL_act_1098 (by decide) rfl ?_
  refine o_iload (pc := 1100) dL_act_1100 1 rfl ?_
  refine o_if_eq (pc := 1102) 1158 dL_act_1102 (by decide) (by unfold inI; omega) (fun c_1102 => (by exfalso; omega)) (fun c_1102 => ?_)
  refine o_iload (pc := 1105) dL_act_1105 2 rfl ?_
  refine o_iconst (pc := 1107) dL_act_1107 ?_
  refine o_icmp_ge (pc := 1108) 1158 dL_act_1108 (by decide) (by unfold inI; omega) (by unfold inI; omega) (fun c_1108 => (by exfalso; omega)) (fun c_1108 => ?_)
  refine o_aload (pc := 1111) dL_act_1111 3 rfl ?_
  refine o_aload (pc := 1113) dL_act_1113 3 rfl ?_
  refine o_gI (pc := 1115) (j := 6) dL_act_1115 flL_247 rfl rfl (hW.mE 6 hq) (hW.n6 hq) ?_
  refine o_aload (pc := 1118) dL_act_1118 8 rfl ?_
  refine o_gI (pc := 1120) (j := 2) dL_act_1120 flL_269 rfl rfl hW.mW hW.w2 ?_
  refine o_iload (pc := 1123) dL_act_1123 2 rfl ?_
  refine o_if_ne (pc := 1125) 1150 dL_act_1125 (by decide) (by unfold inI; omega) (fun c_1125 => ?_) (fun c_1125 => (by exfalso; omega))
  refine o_iconst (pc := 1150) dL_act_1150 ?_
  refine o_iadd (pc := 1151) dL_act_1151 ?_
  refine o_topI (y := R p 2) (by omega) ?_
  refine o_min (pc := 1152) dL_act_1152 lmL_294 (by unfold inI; omega) (by unfold inI; omega) (Nat.le_of_ble_eq_true rfl) (Nat.le_of_ble_eq_true rfl) (by first | omega | (simp only [rmL, rmD]; omega)) (by first | omega | (simp only [rmL, rmD]; omega)) ?_
  refine o_pI (pc := 1155) (j := 6) dL_act_1155 fwL_247 rfl rfl (hW.mE 6 hq) ?_
  have W1 : WN G (hset H 55 (bE (V p).2.1 6 q) ((6 : Nat) : Int) (min (R p (318 + 7 * (q : Int) + 6)) (R p 2))) (V p).1 (upN (R p) (318 + 7 * (q : Int) + 6) (min (R p (318 + 7 * (q : Int) + 6)) (R p 2))) (V p).2.1 (V p).2.2 T := hW.setE 6 hq 6 (min (R p (318 + 7 * (q : Int) + 6)) (R p 2))
  have F1 := Fr_hset (k := 55) (i := bE (V p).2.1 6 q) (j := ((6 : Nat) : Int)) (z := min (R p (318 + 7 * (q : Int) + 6)) (R p 2)) (Fr.rf (S := (V p).2.2) hn) (by decide) (.inl (hW.sE 6 hq))
  have hq1 := up_lt (N := R p) (i := 318 + 7 * (q : Int) + 6) (z := min (R p (318 + 7 * (q : Int) + 6)) (R p 2)) (n := 9) (by omega) (by omega) hq
  have hs3 := hs.fr F1
  have hc3 := F1.cl hcH
  generalize hset H 55 (bE (V p).2.1 6 q) ((6 : Nat) : Int) (min (R p (318 + 7 * (q : Int) + 6)) (R p 2)) = H3 at W1 F1 hs3 hc3 ⊢
  have hpu := hs3.1.push
  have s0 : pushC H3.2.1 0 0 0 = R p 2 := by rw [pushC_0 (by decide)]; exact hs3.1.2.2.2.1.1.1.symm
  have q2 : (q : Int) < pushC H3.2.1 2 0 0 := by rw [pushC_0 (by decide), ← hs3.1.2.2.2.1.1.2.2.2.2.2.2]; exact hq
  have hST : ST (brF (pushC H3.2.1) 0 (q : Int) (pushC H3.2.1 0 0 0)) 0 0 (upN (R p) (318 + 7 * (q : Int) + 6) (min (R p (318 + 7 * (q : Int) + 6)) (R p 2))) (K + 1) := (hpu.bring (l := (q : Int)) (by omega) q2 (by rw [s0]; omega) (by rw [s0])).more (Nat.le_succ K)
  have hcc : ∀ k i, i ≠ 0 ∨ 22 ≤ k → brF (pushC H3.2.1) 0 (q : Int) (pushC H3.2.1 0 0 0) k i = pushC H3.2.1 k i := fun k i z => by
    rcases z with z | z
    · rw [brF_i z]
    · rw [brF_k (by omega)]
  have q2b : (q : Int) < brF (pushC H3.2.1) 0 (q : Int) (pushC H3.2.1 0 0 0) 2 0 0 := by rw [← hST.2.2.2.1.1.2.2.2.2.2.2]; exact hq1
  have st3 : H3.2.1 20 0 (q : Int) ≤ 2 := by rw [← (hs3.1.2.2.2.1.2.2.2.2.2.2 (q : Int) (by omega) (by rw [← hs3.1.2.2.2.1.1.2.2.2.2.2.2]; exact hq)).2.2.2.2.2.1]; exact hst
  have q3b : (q : Int) < H3.2.1 2 0 0 := by rw [← hs3.1.2.2.2.1.1.2.2.2.2.2.2]; exact hq
  refine o_iload (pc := 1158) dL_act_1158 1 rfl ?_
  refine o_if_eq (pc := 1160) 1175 dL_act_1160 (by decide) (by unfold inI; omega) (fun c_1160 => (by exfalso; omega)) (fun c_1160 => ?_)
  refine o_iload (pc := 1163) dL_act_1163 2 rfl ?_
  refine o_iconst (pc := 1165) dL_act_1165 ?_
  refine o_icmp_ne (pc := 1166) 1175 dL_act_1166 (by decide) (by unfold inI; omega) (by unfold inI; omega) (fun c_1166 => ?_) (fun c_1166 => (by exfalso; omega))
  refine o_iload (pc := 1175) dL_act_1175 1 rfl ?_
  refine o_if_ne (pc := 1177) 1185 dL_act_1177 (by decide) (by unfold inI; omega) (fun c_1177 => ?_) (fun c_1177 => (by exfalso; omega))
  refine o_iload (pc := 1185) dL_act_1185 2 rfl ?_
  refine o_if_ne (pc := 1187) 1198 dL_act_1187 (by decide) (by unfold inI; omega) (fun c_1187 => ?_) (fun c_1187 => (by exfalso; omega))
  refine o_iload (pc := 1198) dL_act_1198 0 rfl ?_
  refine o_istore (pc := 1200) (lv' := [(12, _), (17, _), (11, _), (16, _), (15, _), (14, _), (0, _), (1, _), (2, _), (4, _), (5, _), (7, _), (8, _), (9, _), (10, _)]) dL_act_1200 (by decide) rfl ?_
  refine o_iload (pc := 1202) dL_act_1202 3 rfl ?_
  refine o_if_ne (pc := 1204) 1216 dL_act_1204 (by decide) (by unfold inI; omega) (fun c_1204 => ?_) (fun c_1204 => (by exfalso; omega))
  refine o_iload (pc := 1216) dL_act_1216 3 rfl ?_
  refine o_iconst (pc := 1218) dL_act_1218 ?_
  refine o_icmp_ne (pc := 1219) 1231 dL_act_1219 (by decide) (by unfold inI; omega) (by unfold inI; omega) (fun c_1219 => (by exfalso; omega)) (fun c_1219 => ?_)
  refine o_aload_n (pc := 1222) dL_act_1222 6 rfl ?_
  refine o_iload (pc := 1223) dL_act_1223 5 rfl ?_
  refine o_callC (pc := 1225) _ dL_act_1225 (fun G' hG => P_giveBack1 (m := H3.2.1) hs3.1.1 hs3.1.2.1 hs3.1.2.2.2.2.2.2.1 hs3.2.1 hs3.2.2 (by unfold inI; omega) (by omega) st3) lkL_342 rfl rfl hc3 ⟨⟨by simp only [rmL, rmD]; omega, by simp only [rmL, rmD]; omega⟩, by simp only [rmL, rmD]; omega, by simp only [rmL, rmD]; omega⟩ (Nat.le_of_ble_eq_true rfl) rfl (fun n1 => ?_)
  refine o_topI (y := owedN (R p) (q : Int)) ((R_owed hST.2.2.1 hST.2.2.2.1 (l := (q : Int)) (by omega) q2b).symm.trans (owedN_u (by omega))) ?_
  refine o_goto (pc := 1228) 1237 dL_act_1228 (by decide) ?_
  refine o_istore (pc := 1237) (lv' := [(13, _), (12, _), (17, _), (11, _), (16, _), (15, _), (14, _), (0, _), (1, _), (2, _), (4, _), (5, _), (7, _), (8, _), (9, _), (10, _)]) dL_act_1237 (by decide) rfl ?_
  refine o_goto (pc := 1239) 1327 dL_act_1239 (by decide) ?_
  exact o_lv [7, 8, 9, 15, 3, 1, 0] rfl (ac_fin1 I (Nat.le_succ K) F W2 F1 W1 (fun _ z => .inl z) hcc hST ((hU.more (Nat.le_succ K)).up (by omega) (by omega)) (by first | omega | (simp only [rmL, rmD]; omega)) (by first | omega | (simp only [rmL, rmD]; omega)))
theorem ac_12_2n {G : GG} {h H : Hp} {V : Nat → Vw} {R : Nat → Int → Int} {p : Nat} {T : Nat → Prop} {pl c b aw K w2 : Nat} {B2 : Bok} (I : AI G h V R p T pl c b aw K) (F : Fr (fun _ => False) h H) (W2 : WN G H w2 (R p) B2 (snew h H) T) (hK : K ≤ 99) {x : Int} (hx : 0 ≤ x ∧ x < 134217728) {c0 s0 : Nat} (hcs : c0 ≤ 760) (hss : s0 ≤ 14500) {q : Nat} (hqe : x % R p 9 = (q : Int)) (hw : x / 32 % 3 = 2) (h9 : 0 < R p 9) (hst : 2 < R p (318 + 7 * (q : Int) + 5)) : YY G ML_act (rmL 12 2500 24000) 1044 [(0, rf G 38 0), (1, rf G (ak 8 1) aw), (2, rf G 56 pl), (4, rf G 51 (V p).1), (5, .int (iI x)), (7, .int (iI (R p 3))), (8, .int (iI (R p 8))), (9, .int (iI (R p 9))), (10, rf G 51 w2), (11, .int (iI 1))] [] H c0 s0 (fun v h1 => v = some (.int (iI 1)) ∧ ∃ V' R' p' c' b', AI G h1 V' R' p' T pl c' b' aw (K + 1)) := by
  have p8 := I.2.1.p8
  have hW := I.w.fr0 F
  have hs := I.2.1.1.fr F
  have hcH := F.cl I.1
  have gn := hs.gn
  have hU := I.2.2.1 p (Nat.le_refl p)
  have hn := F.2.2.2.2
  have r3 := hs.1.2.2.1.1.2.2.1
  have r5 := hs.1.2.2.1.1.2.2.2.2.2.1
  have r8 := hs.1.2.2.1.1.2.2.2.2.2.2
  have r7 := hs.1.2.2.2.1.1.2.2.2.2.2.1
  have r9 := hs.1.2.2.2.1.1.2.2.2.2.2.2
  have r2 := hs.1.2.2.2.1.1.1
  have b2 := hs.1.2.1.1
  have b3 := hs.1.1.2.2.1
  have b5 := hs.1.1.2.2.2.2.2.1
  have b8 := hs.1.1.2.2.2.2.2.2.1
  have b7 := hs.1.2.1.2.2.2.1.1
  have b9 := hs.1.2.1.2.2.2.2.1.1
  have nn3 : 0 ≤ R p 3 ∧ R p 3 ≤ 8 := by omega
  have nn5 : 0 ≤ R p 5 ∧ R p 5 ≤ 12 := by omega
  have nn7 : 0 ≤ R p 7 ∧ R p 7 ≤ 16 := by omega
  have nn8 : 0 ≤ R p 8 ∧ R p 8 ≤ 8 := by omega
  have nn9 : 0 ≤ R p 9 ∧ R p 9 ≤ 16 := by omega
  have nn2 : 0 ≤ R p 2 ∧ R p 2 ≤ 6000 := by have := hU.2; omega
  have em0 := Int.emod_nonneg x (show R p 9 ≠ 0 by omega)
  have em1 := Int.emod_lt_of_pos x (show 0 < R p 9 by omega)
  have hq : (q : Int) < R p 9 := by omega
  have LN1 := gn.ln (q := (q : Int)) (by omega) hq
  obtain ⟨l1, l2, l3, l4, l5, l6, l7⟩ := id LN1
  have LG := gn.loan (l := (q : Int)) (by omega) hq
  have RL7 := hs.1.2.2.2.1.2.2.2.2.2.2 (q : Int) (by omega) (by omega)
  have BL7 := hs.1.2.1.2.2.2.2.1.2 (q : Int) (by omega) (by omega)
  refine o_iload (pc := 1044) dL_act_1044 4 rfl ?_
  refine o_iload (pc := 1046) dL_act_1046 7 rfl ?_
  refine o_irem (pc := 1048) dL_act_1048 (by omega) (by omega) ?_
  refine o_topI (y := (q : Int)) hqe ?_
  refine o_istore (pc := 1049) (lv' := [(14, _), (0, _), (1, _), (2, _), (4, _), (5, _), (7, _), (8, _), (9, _), (10, _), (11, _)]) dL_act_1049 (by decide) rfl ?_
  refine o_aload (pc := 1051) dL_act_1051 4 rfl ?_
  refine o_gR (pc := 1053) (j := 13) (56) (((V p).2.1.1 6)) dL_act_1053 flL_159 rfl rfl hW.mW (hW.r 6) ?_
  refine o_iload (pc := 1056) dL_act_1056 0 rfl ?_
  refine o_callV (pc := 1058) _ dL_act_1058 (hW.get 6 hq) lkL_130 rfl rfl rfl rfl (hW.l 6).1 ⟨⟨by simp only [rmL, rmD]; omega, by simp only [rmL, rmD]; omega⟩, by simp only [rmL, rmD]; omega, by simp only [rmL, rmD]; omega⟩ (Nat.le_of_ble_eq_true rfl) rfl (fun v h2 hq2 => ?_)
  obtain ⟨rfl, e2⟩ := hq2
  obtain rfl := e2.symm
  show YY _ _ _ _ _ (rf G 55 (bE (V p).2.1 6 q) :: _) _ _ _ _
  refine o_castO (pc := 1061) dL_act_1061 clL_175 rfl rfl (hW.mE 6 hq) ?_
  refine o_astore (pc := 1064) (lv' := [(15, _), (14, _), (0, _), (1, _), (2, _), (4, _), (5, _), (7, _), (8, _), (9, _), (10, _), (11, _)]) dL_act_1064 (by decide) rfl ?_
  refine o_iload (pc := 1066) dL_act_1066 6 rfl ?_
  refine o_bipush (pc := 1068) (z := 32) dL_act_1068 (by decide) ?_
  refine o_idiv (pc := 1070) dL_act_1070 (by omega) (by omega) ?_
  refine o_iconst (pc := 1071) dL_act_1071 ?_
  refine o_irem (pc := 1072) dL_act_1072 (by omega) (by omega) ?_
  refine o_topI (y := 2) hw ?_
  refine o_istore (pc := 1073) (lv' := [(16, _), (15, _), (14, _), (0, _), (1, _), (2, _), (4, _), (5, _), (7, _), (8, _), (9, _), (10, _), (11, _)]) dL_act_1073 (by decide) rfl ?_
  refine o_aload (pc := 1075) dL_act_1075 1 rfl ?_
  refine o_gI (pc := 1077) (j := 5) dL_act_1077 flL_177 rfl rfl (hW.mE 6 hq) (hW.n5 hq) ?_
  refine o_iconst (pc := 1080) dL_act_1080 ?_
  refine o_icmp_ge (pc := 1081) 1088 dL_act_1081 (by decide) (by unfold inI; omega) (by unfold inI; omega) (fun c_1081 => ?_) (fun c_1081 => (by exfalso; omega))
  refine o_iconst (pc := 1088) dL_act_1088 ?_
  refine o_istore (pc := 1089) (lv' := [(11, _), (16, _), (15, _), (14, _), (0, _), (1, _), (2, _), (4, _), (5, _), (7, _), (8, _), (9, _), (10, _)]) dL_act_1089 (by decide) rfl ?_
  refine o_aload (pc := 1091) dL_act_1091 7 rfl ?_
  refine o_aload (pc := 1093) dL_act_1093 2 rfl ?_
  refine o_callV (pc := 1095) _ dL_act_1095 (cw_owed hW hq LN1) lkL_243 rfl rfl rfl rfl hW.mW ⟨⟨by simp only [rmL, rmD]; omega, by simp only [rmL, rmD]; omega⟩, by simp only [rmL, rmD]; omega, by simp only [rmL, rmD]; omega⟩ (Nat.le_of_ble_eq_true rfl) rfl (fun v h2 hq2 => ?_)
  obtain ⟨rfl, e2⟩ := hq2
  obtain rfl := e2.symm
  refine o_istore (pc := 1098) (lv' := [(17, _), (11, _), (16, _), (15, _), (14, _), (0, _), (1, _), (2, _), (4, _), (5, _), (7, _), (8, _), (9, _), (10, _)]) dL_act_1098 (by decide) rfl ?_
  refine o_iload (pc := 1100) dL_act_1100 1 rfl ?_
  refine o_if_eq (pc := 1102) 1158 dL_act_1102 (by decide) (by unfold inI; omega) (fun c_1102 => ?_) (fun c_1102 => (by exfalso; omega))
  refine o_iload (pc := 1158) dL_act_1158 1 rfl ?_
  refine o_if_eq (pc := 1160) 1175 dL_act_1160 (by decide) (by unfold inI; omega) (fun c_1160 => ?_) (fun c_1160 => (by exfalso; omega))
  refine o_iload (pc := 1175) dL_act_1175 1 rfl ?_
  refine o_if_ne (pc := 1177) 1185 dL_act_1177 (by decide) (by unfold inI; omega) (fun c_1177 => (by exfalso; omega)) (fun c_1177 => ?_)
  refine o_bipush (pc := 1180) (z := (-3)) dL_act_1180 (by decide) ?_
  refine o_goto (pc := 1182) 1200 dL_act_1182 (by decide) ?_
  refine o_istore (pc := 1200) (lv' := [(12, _), (17, _), (11, _), (16, _), (15, _), (14, _), (0, _), (1, _), (2, _), (4, _), (5, _), (7, _), (8, _), (9, _), (10, _)]) dL_act_1200 (by decide) rfl ?_
  refine o_iload (pc := 1202) dL_act_1202 3 rfl ?_
  refine o_if_ne (pc := 1204) 1216 dL_act_1204 (by decide) (by unfold inI; omega) (fun c_1204 => ?_) (fun c_1204 => (by exfalso; omega))
  refine o_iload (pc := 1216) dL_act_1216 3 rfl ?_
  refine o_iconst (pc := 1218) dL_act_1218 ?_
  refine o_icmp_ne (pc := 1219) 1231 dL_act_1219 (by decide) (by unfold inI; omega) (by unfold inI; omega) (fun c_1219 => ?_) (fun c_1219 => (by exfalso; omega))
  refine o_aload_n (pc := 1231) dL_act_1231 6 rfl ?_
  refine o_iload (pc := 1232) dL_act_1232 5 rfl ?_
  refine o_callC (pc := 1234) _ dL_act_1234 (fun G' hG => P_forgive0 (m := H.2.1) hs.1.1 hs.1.2.1 hs.1.2.2.2.2.2.2.1 hs.2.1 hs.2.2 (by unfold inI; omega) (by omega) (by rw [← RL7.2.2.2.2.2.1]; omega)) lkL_345 rfl rfl hcH ⟨⟨by simp only [rmL, rmD]; omega, by simp only [rmL, rmD]; omega⟩, by simp only [rmL, rmD]; omega, by simp only [rmL, rmD]; omega⟩ (Nat.le_of_ble_eq_true rfl) rfl (fun n1 => ?_)
  refine o_istore (pc := 1237) (lv' := [(13, _), (12, _), (17, _), (11, _), (16, _), (15, _), (14, _), (0, _), (1, _), (2, _), (4, _), (5, _), (7, _), (8, _), (9, _), (10, _)]) dL_act_1237 (by decide) rfl ?_
  refine o_goto (pc := 1239) 1327 dL_act_1239 (by decide) ?_
  exact o_lv [7, 8, 9, 15, 3, 1, 0] rfl (ac_fin0 (w2 := w2) I (Nat.le_succ K) F (by first | omega | (simp only [rmL, rmD]; omega)) (by first | omega | (simp only [rmL, rmD]; omega)))
theorem ac_12_2y {G : GG} {h H : Hp} {V : Nat → Vw} {R : Nat → Int → Int} {p : Nat} {T : Nat → Prop} {pl c b aw K w2 : Nat} {B2 : Bok} (I : AI G h V R p T pl c b aw K) (F : Fr (fun _ => False) h H) (W2 : WN G H w2 (R p) B2 (snew h H) T) (hK : K ≤ 99) {x : Int} (hx : 0 ≤ x ∧ x < 134217728) {c0 s0 : Nat} (hcs : c0 ≤ 760) (hss : s0 ≤ 14500) {q : Nat} (hqe : x % R p 9 = (q : Int)) (hw : x / 32 % 3 = 2) (h9 : 0 < R p 9) (hst : R p (318 + 7 * (q : Int) + 5) ≤ 2) : YY G ML_act (rmL 12 2500 24000) 1044 [(0, rf G 38 0), (1, rf G (ak 8 1) aw), (2, rf G 56 pl), (4, rf G 51 (V p).1), (5, .int (iI x)), (7, .int (iI (R p 3))), (8, .int (iI (R p 8))), (9, .int (iI (R p 9))), (10, rf G 51 w2), (11, .int (iI 1))] [] H c0 s0 (fun v h1 => v = some (.int (iI 1)) ∧ ∃ V' R' p' c' b', AI G h1 V' R' p' T pl c' b' aw (K + 1)) := by
  have p8 := I.2.1.p8
  have hW := I.w.fr0 F
  have hs := I.2.1.1.fr F
  have hcH := F.cl I.1
  have gn := hs.gn
  have hU := I.2.2.1 p (Nat.le_refl p)
  have hn := F.2.2.2.2
  have r3 := hs.1.2.2.1.1.2.2.1
  have r5 := hs.1.2.2.1.1.2.2.2.2.2.1
  have r8 := hs.1.2.2.1.1.2.2.2.2.2.2
  have r7 := hs.1.2.2.2.1.1.2.2.2.2.2.1
  have r9 := hs.1.2.2.2.1.1.2.2.2.2.2.2
  have r2 := hs.1.2.2.2.1.1.1
  have b2 := hs.1.2.1.1
  have b3 := hs.1.1.2.2.1
  have b5 := hs.1.1.2.2.2.2.2.1
  have b8 := hs.1.1.2.2.2.2.2.2.1
  have b7 := hs.1.2.1.2.2.2.1.1
  have b9 := hs.1.2.1.2.2.2.2.1.1
  have nn3 : 0 ≤ R p 3 ∧ R p 3 ≤ 8 := by omega
  have nn5 : 0 ≤ R p 5 ∧ R p 5 ≤ 12 := by omega
  have nn7 : 0 ≤ R p 7 ∧ R p 7 ≤ 16 := by omega
  have nn8 : 0 ≤ R p 8 ∧ R p 8 ≤ 8 := by omega
  have nn9 : 0 ≤ R p 9 ∧ R p 9 ≤ 16 := by omega
  have nn2 : 0 ≤ R p 2 ∧ R p 2 ≤ 6000 := by have := hU.2; omega
  have em0 := Int.emod_nonneg x (show R p 9 ≠ 0 by omega)
  have em1 := Int.emod_lt_of_pos x (show 0 < R p 9 by omega)
  have hq : (q : Int) < R p 9 := by omega
  have LN1 := gn.ln (q := (q : Int)) (by omega) hq
  obtain ⟨l1, l2, l3, l4, l5, l6, l7⟩ := id LN1
  have LG := gn.loan (l := (q : Int)) (by omega) hq
  have RL7 := hs.1.2.2.2.1.2.2.2.2.2.2 (q : Int) (by omega) (by omega)
  have BL7 := hs.1.2.1.2.2.2.2.1.2 (q : Int) (by omega) (by omega)
  refine o_iload (pc := 1044) dL_act_1044 4 rfl ?_
  refine o_iload (pc := 1046) dL_act_1046 7 rfl ?_
  refine o_irem (pc := 1048) dL_act_1048 (by omega) (by omega) ?_
  refine o_topI (y := (q : Int)) hqe ?_
  refine o_istore (pc := 1049) (lv' := [(14, _), (0, _), (1, _), (2, _), (4, _), (5, _), (7, _), (8, _), (9, _), (10, _), (11, _)]) dL_act_1049 (by decide) rfl ?_
  refine o_aload (pc := 1051) dL_act_1051 4 rfl ?_
  refine o_gR (pc := 1053) (j := 13) (56) (((V p).2.1.1 6)) dL_act_1053 flL_159 rfl rfl hW.mW (hW.r 6) ?_
  refine o_iload (pc := 1056) dL_act_1056 0 rfl ?_
  refine o_callV (pc := 1058) _ dL_act_1058 (hW.get 6 hq) lkL_130 rfl rfl rfl rfl (hW.l 6).1 ⟨⟨by simp only [rmL, rmD]; omega, by simp only [rmL, rmD]; omega⟩, by simp only [rmL, rmD]; omega, by simp only [rmL, rmD]; omega⟩ (Nat.le_of_ble_eq_true rfl) rfl (fun v h2 hq2 => ?_)
  obtain ⟨rfl, e2⟩ := hq2
  obtain rfl := e2.symm
  show YY _ _ _ _ _ (rf G 55 (bE (V p).2.1 6 q) :: _) _ _ _ _
  refine o_castO (pc := 1061) dL_act_1061 clL_175 rfl rfl (hW.mE 6 hq) ?_
  refine o_astore (pc := 1064) (lv' := [(15, _), (14, _), (0, _), (1, _), (2, _), (4, _), (5, _), (7, _), (8, _), (9, _), (10, _), (11, _)]) dL_act_1064 (by decide) rfl ?_
  refine o_iload (pc := 1066) dL_act_1066 6 rfl ?_
  refine o_bipush (pc := 1068) (z := 32) dL_act_1068 (by decide) ?_
  refine o_idiv (pc := 1070) dL_act_1070 (by omega) (by omega) ?_
  refine o_iconst (pc := 1071) dL_act_1071 ?_
  refine o_irem (pc := 1072) dL_act_1072 (by omega) (by omega) ?_
  refine o_topI (y := 2) hw ?_
  refine o_istore (pc := 1073) (lv' := [(16, _), (15, _), (14, _), (0, _), (1, _), (2, _), (4, _), (5, _), (7, _), (8, _), (9, _), (10, _), (11, _)]) dL_act_1073 (by decide) rfl ?_
  refine o_aload (pc := 1075) dL_act_1075 1 rfl ?_
  refine o_gI (pc := 1077) (j := 5) dL_act_1077 flL_177 rfl rfl (hW.mE 6 hq) (hW.n5 hq) ?_
  refine o_iconst (pc := 1080) dL_act_1080 ?_
  refine o_icmp_ge (pc := 1081) 1088 dL_act_1081 (by decide) (by unfold inI; omega) (by unfold inI; omega) (fun c_1081 => (by exfalso; omega)) (fun c_1081 => ?_)
  refine o_iconst (pc := 1084) dL_act_1084 ?_
  refine o_goto (pc := 1085) 1089 dL_act_1085 (by decide) ?_
  refine o_istore (pc := 1089) (lv' := [(11, _), (16, _), (15, _), (14, _), (0, _), (1, _), (2, _), (4, _), (5, _), (7, _), (8, _), (9, _), (10, _)]) dL_act_1089 (by decide) rfl ?_
  refine o_aload (pc := 1091) dL_act_1091 7 rfl ?_
  refine o_aload (pc := 1093) dL_act_1093 2 rfl ?_
  refine o_callV (pc := 1095) _ dL_act_1095 (cw_owed hW hq LN1) lkL_243 rfl rfl rfl rfl hW.mW ⟨⟨by simp only [rmL, rmD]; omega, by simp only [rmL, rmD]; omega⟩, by simp only [rmL, rmD]; omega, by simp only [rmL, rmD]; omega⟩ (Nat.le_of_ble_eq_true rfl) rfl (fun v h2 hq2 => ?_)
  obtain ⟨rfl, e2⟩ := hq2
  obtain rfl := e2.symm
  refine o_istore (pc := 1098) (lv' := [(17, _), (11, _), (16, _), (15, _), (14, _), (0, _), (1, _), (2, _), (4, _), (5, _), (7, _), (8, _), (9, _), (10, _)]) dL_act_1098 (by decide) rfl ?_
  refine o_iload (pc := 1100) dL_act_1100 1 rfl ?_
  refine o_if_eq (pc := 1102) 1158 dL_act_1102 (by decide) (by unfold inI; omega) (fun c_1102 => (by exfalso; omega)) (fun c_1102 => ?_)
  refine o_iload (pc := 1105) dL_act_1105 2 rfl ?_
  refine o_iconst (pc := 1107) dL_act_1107 ?_
  refine o_icmp_ge (pc := 1108) 1158 dL_act_1108 (by decide) (by unfold inI; omega) (by unfold inI; omega) (fun c_1108 => ?_) (fun c_1108 => (by exfalso; omega))
  refine o_iload (pc := 1158) dL_act_1158 1 rfl ?_
  refine o_if_eq (pc := 1160) 1175 dL_act_1160 (by decide) (by unfold inI; omega) (fun c_1160 => (by exfalso; omega)) (fun c_1160 => ?_)
  refine o_iload (pc := 1163) dL_act_1163 2 rfl ?_
  refine o_iconst (pc := 1165) dL_act_1165 ?_
  refine o_icmp_ne (pc := 1166) 1175 dL_act_1166 (by decide) (by unfold inI; omega) (by unfold inI; omega) (fun c_1166 => (by exfalso; omega)) (fun c_1166 => ?_)
  refine o_aload (pc := 1169) dL_act_1169 3 rfl ?_
  refine o_iconst (pc := 1171) dL_act_1171 ?_
  refine o_pI (pc := 1172) (j := 5) dL_act_1172 fwL_177 rfl rfl (hW.mE 6 hq) ?_
  have W1 : WN G (hset H 55 (bE (V p).2.1 6 q) ((5 : Nat) : Int) 5) (V p).1 (upN (R p) (318 + 7 * (q : Int) + 5) 5) (V p).2.1 (V p).2.2 T := hW.setE 6 hq 5 5
  have F1 := Fr_hset (k := 55) (i := bE (V p).2.1 6 q) (j := ((5 : Nat) : Int)) (z := 5) (Fr.rf (S := (V p).2.2) hn) (by decide) (.inl (hW.sE 6 hq))
  have hs3 := hs.fr F1
  have hc3 := F1.cl hcH
  generalize hset H 55 (bE (V p).2.1 6 q) ((5 : Nat) : Int) 5 = H3 at W1 F1 hs3 hc3 ⊢
  have hpu := hs3.1.push
  have q3b : (q : Int) < H3.2.1 2 0 0 := by rw [← hs3.1.2.2.2.1.1.2.2.2.2.2.2]; exact hq
  have q2 : (q : Int) < pushC H3.2.1 2 0 0 := by rw [pushC_0 (by decide)]; exact q3b
  have st3 : H3.2.1 20 0 (q : Int) ≤ 2 := by rw [← (hs3.1.2.2.2.1.2.2.2.2.2.2 (q : Int) (by omega) q3b).2.2.2.2.2.1]; exact hst
  have hST := (hpu.forgive (l := (q : Int)) (by omega) q2).more (Nat.le_succ K)
  refine o_iload (pc := 1175) dL_act_1175 1 rfl ?_
  refine o_if_ne (pc := 1177) 1185 dL_act_1177 (by decide) (by unfold inI; omega) (fun c_1177 => ?_) (fun c_1177 => (by exfalso; omega))
  refine o_iload (pc := 1185) dL_act_1185 2 rfl ?_
  refine o_if_ne (pc := 1187) 1198 dL_act_1187 (by decide) (by unfold inI; omega) (fun c_1187 => ?_) (fun c_1187 => (by exfalso; omega))
  refine o_iload (pc := 1198) dL_act_1198 0 rfl ?_
  refine o_istore (pc := 1200) (lv' := [(12, _), (17, _), (11, _), (16, _), (15, _), (14, _), (0, _), (1, _), (2, _), (4, _), (5, _), (7, _), (8, _), (9, _), (10, _)]) dL_act_1200 (by decide) rfl ?_
  refine o_iload (pc := 1202) dL_act_1202 3 rfl ?_
  refine o_if_ne (pc := 1204) 1216 dL_act_1204 (by decide) (by unfold inI; omega) (fun c_1204 => ?_) (fun c_1204 => (by exfalso; omega))
  refine o_iload (pc := 1216) dL_act_1216 3 rfl ?_
  refine o_iconst (pc := 1218) dL_act_1218 ?_
  refine o_icmp_ne (pc := 1219) 1231 dL_act_1219 (by decide) (by unfold inI; omega) (by unfold inI; omega) (fun c_1219 => ?_) (fun c_1219 => (by exfalso; omega))
  refine o_aload_n (pc := 1231) dL_act_1231 6 rfl ?_
  refine o_iload (pc := 1232) dL_act_1232 5 rfl ?_
  refine o_callC (pc := 1234) _ dL_act_1234 (fun G' hG => P_forgive1 (m := H3.2.1) hs3.1.1 hs3.1.2.1 hs3.1.2.2.2.2.2.2.1 hs3.2.1 hs3.2.2 (by unfold inI; omega) (by omega) st3) lkL_345 rfl rfl hc3 ⟨⟨by simp only [rmL, rmD]; omega, by simp only [rmL, rmD]; omega⟩, by simp only [rmL, rmD]; omega, by simp only [rmL, rmD]; omega⟩ (Nat.le_of_ble_eq_true rfl) rfl (fun n1 => ?_)
  refine o_topI (y := owedN (R p) (q : Int)) (R_owed hpu.2.2.1 hpu.2.2.2.1 (l := (q : Int)) (by omega) q2).symm ?_
  refine o_istore (pc := 1237) (lv' := [(13, _), (12, _), (17, _), (11, _), (16, _), (15, _), (14, _), (0, _), (1, _), (2, _), (4, _), (5, _), (7, _), (8, _), (9, _), (10, _)]) dL_act_1237 (by decide) rfl ?_
  refine o_goto (pc := 1239) 1327 dL_act_1239 (by decide) ?_
  exact o_lv [7, 8, 9, 15, 3, 1, 0] rfl (ac_fin1 I (Nat.le_succ K) F W2 F1 W1 (fun _ z => .inl z) (hc_up (by decide)) hST ((hU.more (Nat.le_succ K)).up (by omega) (by omega)) (by first | omega | (simp only [rmL, rmD]; omega)) (by first | omega | (simp only [rmL, rmD]; omega)))
