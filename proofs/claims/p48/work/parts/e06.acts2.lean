/-! acts: charge, drain -/
theorem ac_4 {G : GG} {h H : Hp} {V : Nat → Vw} {R : Nat → Int → Int} {p : Nat} {T : Nat → Prop} {pl c b aw K w2 : Nat} {B2 : Bok} (I : AI G h V R p T pl c b aw K) (F : Fr (fun _ => False) h H) (W2 : WN G H w2 (R p) B2 (snew h H) T) (hK : K ≤ 99) {x : Int} (hx : 0 ≤ x ∧ x < 134217728) {c0 s0 : Nat} (hcs : c0 ≤ 760) (hss : s0 ≤ 14500) (h3 : 0 < R p 3) : YY G ML_act (rmL 12 2500 24000) 272 [(0, rf G 38 0), (1, rf G (ak 8 1) aw), (2, rf G 56 pl), (4, rf G 51 (V p).1), (5, .int (iI x)), (7, .int (iI (R p 3))), (8, .int (iI (R p 8))), (9, .int (iI (R p 9))), (10, rf G 51 w2), (11, .int (iI 1))] [] H c0 s0 (fun v h1 => v = some (.int (iI 1)) ∧ ∃ V' R' p' c' b', AI G h1 V' R' p' T pl c' b' aw (K + 1)) := by
  have p8 := I.2.1.p8
  have hW := I.w.fr0 F
  have hs := I.2.1.1.fr F
  have hcH := F.cl I.1
  have gn := hs.gn
  have hU := I.2.2.1 p (Nat.le_refl p)
  have hn := F.2.2.2.2
  have r3 := hs.1.2.2.1.1.2.2.1
  have r5 := hs.1.2.2.1.1.2.2.2.2.2.1
  have r8 := hs.1.2.2.1.1.2.2.2.2.2.2
  have r7 := hs.1.2.2.2.1.1.2.2.2.2.2.1
  have r9 := hs.1.2.2.2.1.1.2.2.2.2.2.2
  have r2 := hs.1.2.2.2.1.1.1
  have b2 := hs.1.2.1.1
  have b3 := hs.1.1.2.2.1
  have b5 := hs.1.1.2.2.2.2.2.1
  have b8 := hs.1.1.2.2.2.2.2.2.1
  have b7 := hs.1.2.1.2.2.2.1.1
  have b9 := hs.1.2.1.2.2.2.2.1.1
  have nn3 : 0 ≤ R p 3 ∧ R p 3 ≤ 8 := by omega
  have nn5 : 0 ≤ R p 5 ∧ R p 5 ≤ 12 := by omega
  have nn7 : 0 ≤ R p 7 ∧ R p 7 ≤ 16 := by omega
  have nn8 : 0 ≤ R p 8 ∧ R p 8 ≤ 8 := by omega
  have nn9 : 0 ≤ R p 9 ∧ R p 9 ≤ 16 := by omega
  have nn2 : 0 ≤ R p 2 ∧ R p 2 ≤ 6000 := by have := hU.2; omega
  have em0 := Int.emod_nonneg x (show R p 3 ≠ 0 by omega)
  have em1 := Int.emod_lt_of_pos x (show 0 < R p 3 by omega)
  obtain ⟨q, hqe⟩ : ∃ q : Nat, x % R p 3 = (q : Int) := ⟨(x % R p 3).toNat, by omega⟩
  have hq : (q : Int) < R p 3 := by omega
  obtain ⟨y, hy⟩ : ∃ y : Int, 1 + x / 8 % 120 = y := ⟨_, rfl⟩
  have hy1 : 1 ≤ y ∧ y ≤ 120 := by omega
  have gc := gn.chg (q := (q : Int)) (by omega) hq
  have pq := gn.pq (q := (q : Int)) (by omega) hq
  refine o_aload (pc := 272) dL_act_272 3 rfl ?_
  refine o_gR (pc := 274) (j := 10) (56) (((V p).2.1.1 3)) dL_act_274 flL_81 rfl rfl hW.mW (hW.r 3) ?_
  refine o_iload (pc := 277) dL_act_277 4 rfl ?_
  refine o_iload (pc := 279) dL_act_279 5 rfl ?_
  refine o_irem (pc := 281) dL_act_281 (by omega) (by omega) ?_
  refine o_topI (y := (q : Int)) hqe ?_
  refine o_callV (pc := 282) _ dL_act_282 (hW.get 3 hq) lkL_130 rfl rfl rfl rfl (hW.l 3).1 ⟨⟨by simp only [rmL, rmD]; omega, by simp only [rmL, rmD]; omega⟩, by simp only [rmL, rmD]; omega, by simp only [rmL, rmD]; omega⟩ (Nat.le_of_ble_eq_true rfl) rfl (fun v h2 hq2 => ?_)
  obtain ⟨rfl, e2⟩ := hq2
  obtain rfl := e2.symm
  show YY _ _ _ _ _ (rf G 52 (bE (V p).2.1 3 q) :: _) _ _ _ _
  refine o_castO (pc := 285) dL_act_285 clL_76 rfl rfl (hW.mE 3 hq) ?_
  refine o_astore (pc := 288) (lv' := [(14, _), (0, _), (1, _), (2, _), (4, _), (5, _), (7, _), (8, _), (9, _), (10, _), (11, _)]) dL_act_288 (by decide) rfl ?_
  refine o_iconst (pc := 290) dL_act_290 ?_
  refine o_iload (pc := 291) dL_act_291 5 rfl ?_
  refine o_bipush (pc := 293) (z := 8) dL_act_293 (by decide) ?_
  refine o_idiv (pc := 295) dL_act_295 (by omega) (by omega) ?_
  refine o_bipush (pc := 296) (z := 120) dL_act_296 (by decide) ?_
  refine o_irem (pc := 298) dL_act_298 (by omega) (by omega) ?_
  refine o_iadd (pc := 299) dL_act_299 ?_
  refine o_topI (y := y) hy ?_
  refine o_istore (pc := 300) (lv' := [(15, _), (14, _), (0, _), (1, _), (2, _), (4, _), (5, _), (7, _), (8, _), (9, _), (10, _), (11, _)]) dL_act_300 (by decide) rfl ?_
  refine o_aload (pc := 302) dL_act_302 5 rfl ?_
  refine o_dup (pc := 304) dL_act_304 rfl ?_
  refine o_gL (pc := 305) (j := 3) dL_act_305 flL_84 rfl rfl hW.mW hW.w3 ?_
  refine o_iload (pc := 308) dL_act_308 0 rfl ?_
  refine o_i2l (pc := 310) dL_act_310 (by unfold inI; omega) ?_
  refine o_ladd (pc := 311) dL_act_311 ?_
  refine o_pL (pc := 312) (j := 3) dL_act_312 fwL_84 rfl rfl hW.mW ?_
  have W1 : WN G _ (V p).1 (upN (R p) 10 (R p 10 + y)) (V p).2.1 (V p).2.2 T := hW.setH 3 (R p 10 + y)
  have F1 := Fg_hset (k := 51) (i := (V p).1) (j := ((3 : Nat) : Int)) (z := R p 10 + y) (Fg.rf (S := (V p).2.2) hn) (by decide) (.inl hW.sA)
  have hq1 := up_lt (N := R p) (i := 10) (z := R p 10 + y) (n := 3) (by omega) (by omega) hq
  have pq1 := pq.cg (N' := (upN (R p) 10 (R p 10 + y))) (fun j hj => upN_off (by omega))
  refine o_aload (pc := 315) dL_act_315 5 rfl ?_
  refine o_aload (pc := 317) dL_act_317 1 rfl ?_
  refine o_iload (pc := 319) dL_act_319 0 rfl ?_
  refine o_callV (pc := 321) _ dL_act_321 (cw_take W1 hq1 pq1.1 (x := y) (by rw [upN_off (by omega)]; omega) hn) lkL_288 rfl rfl rfl rfl W1.mW ⟨⟨by simp only [rmL, rmD]; omega, by simp only [rmL, rmD]; omega⟩, by simp only [rmL, rmD]; omega, by simp only [rmL, rmD]; omega⟩ (Nat.le_of_ble_eq_true rfl) rfl (fun v H3 hq2 => ?_)
  obtain ⟨rfl, W3, F3⟩ := hq2
  have F4 := F1.t F3
  have hs3 := hs.fr F4.1
  have hc3 := F4.1.cl hcH
  have lo3 : ∀ j, j ≠ 30 + 7 * (q : Int) + 1 → j ≠ 13 → j ≠ 10 → (getN (upN (R p) 10 (R p 10 + y)) (q : Int) y) j = R p j := fun j j1 j2 j3 => by rw [getN_lo (by omega) j1 j2, upN_off j3]
  have hq3 : (q : Int) < (getN (upN (R p) 10 (R p 10 + y)) (q : Int) y) 3 := by rw [lo3 3 (by omega) (by omega) (by omega)]; exact hq
  have e22 : R p 3 = H3.2.1 22 0 2 := hs3.1.2.2.1.1.2.2.1
  have hST := hs3.1.push.charge (a := (q : Int)) (x := y) (by omega) (by rw [pushC_k (.inr ⟨by decide, by decide⟩)]; omega) (by omega)
  have hcc : ∀ k i, i ≠ 0 ∨ 22 ≤ k → getC (up3 (pushC H3.2.1) 0 0 1 (pushC H3.2.1 0 0 1 + y)) 0 0 (q : Int) y k i = pushC H3.2.1 k i := fun k i z => by
    rcases z with z | z
    · rw [getC_i z, up3_i z]
    · rw [getC_k (by omega) (by omega), up3_k (by omega)]
  have eg := (hST.2.2.2.1.2.1 (q : Int) (by omega) (by rw [← hST.2.2.1.1.2.2.1]; exact hq3)).1
  refine o_aload (pc := 324) dL_act_324 1 rfl ?_
  refine o_gI (pc := 326) (j := 2) dL_act_326 flL_88 rfl rfl (W3.mE 3 hq3) (W3.p2 hq3) ?_
  refine o_istore (pc := 329) (lv' := [(12, _), (15, _), (14, _), (0, _), (1, _), (2, _), (4, _), (5, _), (7, _), (8, _), (9, _), (10, _), (11, _)]) dL_act_329 (by decide) rfl ?_
  refine o_aload_n (pc := 331) dL_act_331 3 rfl ?_
  refine o_iload (pc := 332) dL_act_332 7 rfl ?_
  refine o_iload (pc := 334) dL_act_334 8 rfl ?_
  refine o_irem (pc := 336) dL_act_336 (by omega) (by omega) ?_
  refine o_topI (y := (q : Int)) hqe ?_
  refine o_iload (pc := 337) dL_act_337 1 rfl ?_
  refine o_callC (pc := 339) _ dL_act_339 (fun G' hG => P_charge (m := H3.2.1) hs3.1.1 hs3.1.2.1 hs3.1.2.2.2.2.2.2.1 hs3.2.1 hs3.2.2 (by unfold inI; omega) (by unfold inI; omega) (by omega) (by omega)) lkL_292 rfl rfl hc3 ⟨⟨by simp only [rmL, rmD]; omega, by simp only [rmL, rmD]; omega⟩, by simp only [rmL, rmD]; omega, by simp only [rmL, rmD]; omega⟩ (Nat.le_of_ble_eq_true rfl) rfl (fun n1 => ?_)
  refine o_topI eg.symm ?_
  refine o_istore (pc := 342) (lv' := [(13, _), (12, _), (15, _), (14, _), (0, _), (1, _), (2, _), (4, _), (5, _), (7, _), (8, _), (9, _), (10, _), (11, _)]) dL_act_342 (by decide) rfl ?_
  refine o_goto (pc := 344) 1327 dL_act_344 (by decide) ?_
  exact o_lv [4, 5, 6, 12, 13, 1, 0] rfl (ac_fin1 I (Nat.le_succ K) F W2 F4.1 W3 (fun _ z => .inl z) hcc hST ⟨(hU.1.cg (lo3 _ (by omega) (by omega) (by omega)) (lo3 _ (by omega) (by omega) (by omega)) (by omega) (fun j a b d => lo3 j (by omega) (by omega) (by omega))), by rw [lo3 2 (by omega) (by omega) (by omega)]; have := hU.2; omega⟩ (by first | omega | (simp only [rmL, rmD]; omega)) (by first | omega | (simp only [rmL, rmD]; omega)))
theorem ac_5 {G : GG} {h H : Hp} {V : Nat → Vw} {R : Nat → Int → Int} {p : Nat} {T : Nat → Prop} {pl c b aw K w2 : Nat} {B2 : Bok} (I : AI G h V R p T pl c b aw K) (F : Fr (fun _ => False) h H) (W2 : WN G H w2 (R p) B2 (snew h H) T) (hK : K ≤ 99) {x : Int} (hx : 0 ≤ x ∧ x < 134217728) {c0 s0 : Nat} (hcs : c0 ≤ 760) (hss : s0 ≤ 14500) (h3 : 0 < R p 3) : YY G ML_act (rmL 12 2500 24000) 347 [(0, rf G 38 0), (1, rf G (ak 8 1) aw), (2, rf G 56 pl), (4, rf G 51 (V p).1), (5, .int (iI x)), (7, .int (iI (R p 3))), (8, .int (iI (R p 8))), (9, .int (iI (R p 9))), (10, rf G 51 w2), (11, .int (iI 1))] [] H c0 s0 (fun v h1 => v = some (.int (iI 1)) ∧ ∃ V' R' p' c' b', AI G h1 V' R' p' T pl c' b' aw (K + 1)) := by
  have p8 := I.2.1.p8
  have hW := I.w.fr0 F
  have hs := I.2.1.1.fr F
  have hcH := F.cl I.1
  have gn := hs.gn
  have hU := I.2.2.1 p (Nat.le_refl p)
  have hn := F.2.2.2.2
  have r3 := hs.1.2.2.1.1.2.2.1
  have r5 := hs.1.2.2.1.1.2.2.2.2.2.1
  have r8 := hs.1.2.2.1.1.2.2.2.2.2.2
  have r7 := hs.1.2.2.2.1.1.2.2.2.2.2.1
  have r9 := hs.1.2.2.2.1.1.2.2.2.2.2.2
  have r2 := hs.1.2.2.2.1.1.1
  have b2 := hs.1.2.1.1
  have b3 := hs.1.1.2.2.1
  have b5 := hs.1.1.2.2.2.2.2.1
  have b8 := hs.1.1.2.2.2.2.2.2.1
  have b7 := hs.1.2.1.2.2.2.1.1
  have b9 := hs.1.2.1.2.2.2.2.1.1
  have nn3 : 0 ≤ R p 3 ∧ R p 3 ≤ 8 := by omega
  have nn5 : 0 ≤ R p 5 ∧ R p 5 ≤ 12 := by omega
  have nn7 : 0 ≤ R p 7 ∧ R p 7 ≤ 16 := by omega
  have nn8 : 0 ≤ R p 8 ∧ R p 8 ≤ 8 := by omega
  have nn9 : 0 ≤ R p 9 ∧ R p 9 ≤ 16 := by omega
  have nn2 : 0 ≤ R p 2 ∧ R p 2 ≤ 6000 := by have := hU.2; omega
  have em0 := Int.emod_nonneg x (show R p 3 ≠ 0 by omega)
  have em1 := Int.emod_lt_of_pos x (show 0 < R p 3 by omega)
  obtain ⟨q, hqe⟩ : ∃ q : Nat, x % R p 3 = (q : Int) := ⟨(x % R p 3).toNat, by omega⟩
  have hq : (q : Int) < R p 3 := by omega
  obtain ⟨y, hy⟩ : ∃ y : Int, 1 + x / 8 % 120 = y := ⟨_, rfl⟩
  have hy1 : 1 ≤ y ∧ y ≤ 120 := by omega
  have gc := gn.chg (q := (q : Int)) (by omega) hq
  have pq := gn.pq (q := (q : Int)) (by omega) hq
  obtain ⟨d, hd⟩ : ∃ d : Int, min y (R p (30 + 7 * (q : Int) + 1)) = d := ⟨_, rfl⟩
  have hd1 : 0 ≤ d ∧ d ≤ R p (30 + 7 * (q : Int) + 1) ∧ d ≤ 120 := by omega
  refine o_aload (pc := 347) dL_act_347 3 rfl ?_
  refine o_gR (pc := 349) (j := 10) (56) (((V p).2.1.1 3)) dL_act_349 flL_81 rfl rfl hW.mW (hW.r 3) ?_
  refine o_iload (pc := 352) dL_act_352 4 rfl ?_
  refine o_iload (pc := 354) dL_act_354 5 rfl ?_
  refine o_irem (pc := 356) dL_act_356 (by omega) (by omega) ?_
  refine o_topI (y := (q : Int)) hqe ?_
  refine o_callV (pc := 357) _ dL_act_357 (hW.get 3 hq) lkL_130 rfl rfl rfl rfl (hW.l 3).1 ⟨⟨by simp only [rmL, rmD]; omega, by simp only [rmL, rmD]; omega⟩, by simp only [rmL, rmD]; omega, by simp only [rmL, rmD]; omega⟩ (Nat.le_of_ble_eq_true rfl) rfl (fun v h2 hq2 => ?_)
  obtain ⟨rfl, e2⟩ := hq2
  obtain rfl := e2.symm
  show YY _ _ _ _ _ (rf G 52 (bE (V p).2.1 3 q) :: _) _ _ _ _
  refine o_castO (pc := 360) dL_act_360 clL_76 rfl rfl (hW.mE 3 hq) ?_
  refine o_astore (pc := 363) (lv' := [(14, _), (0, _), (1, _), (2, _), (4, _), (5, _), (7, _), (8, _), (9, _), (10, _), (11, _)]) dL_act_363 (by decide) rfl ?_
  refine o_iconst (pc := 365) dL_act_365 ?_
  refine o_iload (pc := 366) dL_act_366 5 rfl ?_
  refine o_bipush (pc := 368) (z := 8) dL_act_368 (by decide) ?_
  refine o_idiv (pc := 370) dL_act_370 (by omega) (by omega) ?_
  refine o_bipush (pc := 371) (z := 120) dL_act_371 (by decide) ?_
  refine o_irem (pc := 373) dL_act_373 (by omega) (by omega) ?_
  refine o_iadd (pc := 374) dL_act_374 ?_
  refine o_topI (y := y) hy ?_
  refine o_istore (pc := 375) (lv' := [(15, _), (14, _), (0, _), (1, _), (2, _), (4, _), (5, _), (7, _), (8, _), (9, _), (10, _), (11, _)]) dL_act_375 (by decide) rfl ?_
  refine o_iload (pc := 377) dL_act_377 0 rfl ?_
  refine o_aload (pc := 379) dL_act_379 1 rfl ?_
  refine o_gI (pc := 381) (j := 2) dL_act_381 flL_88 rfl rfl (hW.mE 3 hq) (hW.p2 hq) ?_
  refine o_min (pc := 384) dL_act_384 lmL_294 (by unfold inI; omega) (by unfold inI; omega) (Nat.le_of_ble_eq_true rfl) (Nat.le_of_ble_eq_true rfl) (by first | omega | (simp only [rmL, rmD]; omega)) (by first | omega | (simp only [rmL, rmD]; omega)) ?_
  refine o_topI (y := d) hd ?_
  refine o_istore (pc := 387) (lv' := [(12, _), (15, _), (14, _), (0, _), (1, _), (2, _), (4, _), (5, _), (7, _), (8, _), (9, _), (10, _), (11, _)]) dL_act_387 (by decide) rfl ?_
  refine o_aload (pc := 389) dL_act_389 6 rfl ?_
  refine o_dup (pc := 391) dL_act_391 rfl ?_
  refine o_gL (pc := 392) (j := 4) dL_act_392 flL_253 rfl rfl hW.mW (hW.w4) ?_
  refine o_iload (pc := 395) dL_act_395 0 rfl ?_
  refine o_i2l (pc := 397) dL_act_397 (by unfold inI; omega) ?_
  refine o_ladd (pc := 398) dL_act_398 ?_
  refine o_pL (pc := 399) (j := 4) dL_act_399 fwL_253 rfl rfl hW.mW ?_
  have W1 : WN G _ (V p).1 (upN (R p) 11 (R p 11 + d)) (V p).2.1 (V p).2.2 T := hW.setH 4 (R p 11 + d)
  have F1 := Fg_hset (k := 51) (i := (V p).1) (j := ((4 : Nat) : Int)) (z := R p 11 + d) (Fg.rf (S := (V p).2.2) hn) (by decide) (.inl hW.sA)
  have hq1 := up_lt (N := R p) (i := 11) (z := R p 11 + d) (n := 3) (by omega) (by omega) hq
  have pq1 := pq.cg (N' := (upN (R p) 11 (R p 11 + d))) (fun j hj => upN_off (by omega))
  refine o_aload (pc := 402) dL_act_402 6 rfl ?_
  refine o_aload (pc := 404) dL_act_404 2 rfl ?_
  refine o_iload (pc := 406) dL_act_406 0 rfl ?_
  refine o_callV (pc := 408) _ dL_act_408 (cw_give W1 hq1 pq1.1 pq1.2.1 pq1.2.2 (x := d) (by rw [upN_off (by omega)]; omega) hn) lkL_299 rfl rfl rfl rfl W1.mW ⟨⟨by simp only [rmL, rmD]; omega, by simp only [rmL, rmD]; omega⟩, by simp only [rmL, rmD]; omega, by simp only [rmL, rmD]; omega⟩ (Nat.le_of_ble_eq_true rfl) rfl (fun v H3 hq2 => ?_)
  obtain ⟨rfl, W3, F3⟩ := hq2
  have F4 := F1.t F3
  have hs3 := hs.fr F4.1
  have hc3 := F4.1.cl hcH
  have lo3 : ∀ j, j ≠ 30 + 7 * (q : Int) + 1 → j ≠ 30 + 7 * (q : Int) + 2 → j ≠ 13 → j ≠ 11 → (giveN (upN (R p) 11 (R p 11 + d)) (q : Int) d) j = R p j := fun j j1 j2 j3 j4 => by rw [giveN_lo (by omega) j1 j2 j3, upN_off j4]
  have e22 : R p 3 = H3.2.1 22 0 2 := hs3.1.2.2.1.1.2.2.1
  have e3 : pushC H3.2.1 3 0 (q : Int) = R p (30 + 7 * (q : Int) + 1) := by rw [pushC_0 (by decide)]; exact (hs3.1.2.2.2.1.2.1 (q : Int) (by omega) (by omega)).1.symm
  have ex : min y (pushC H3.2.1 3 0 (q : Int)) = d := by rw [e3]; exact hd
  have hST := (hs3.1.push.drain (a := (q : Int)) (x := d) (by omega) (by rw [pushC_k (.inr ⟨by decide, by decide⟩)]; omega) (by rw [e3]; omega)).more (Nat.le_succ K)
  have hcc : ∀ k i, i ≠ 0 ∨ 22 ≤ k → giveC (up3 (pushC H3.2.1) 0 0 2 (pushC H3.2.1 0 0 2 + d)) 0 0 (q : Int) d k i = pushC H3.2.1 k i := fun k i z => by
    rcases z with z | z
    · rw [giveC_i z, up3_i z]
    · rw [giveC_k (by omega) (by omega) (by omega), up3_k (by omega)]
  have hPd : ∀ G', gad G' 38 0 = gad G 38 0 → Ct G' MX7_drain (rmD 9) [rf G' 38 0, .int (iI (q : Int)), .int (iI y)] (hp H3.2.1) (.inl (some (.int (iI d)))) (hp (giveC (up3 (pushC H3.2.1) 0 0 2 (pushC H3.2.1 0 0 2 + d)) 0 0 (q : Int) d)) := fun G' _ => by
    have P := P_drain (G := G') (m := H3.2.1) hs3.1.1 hs3.1.2.1 hs3.1.2.2.2.2.2.2.1 hs3.2.1 hs3.2.2 (a0 := (q : Int)) (a1 := y) (by unfold inI; omega) (by unfold inI; omega) (by omega) (by omega)
    rw [ex] at P
    exact P
  refine o_aload_n (pc := 411) dL_act_411 3 rfl ?_
  refine o_iload (pc := 412) dL_act_412 7 rfl ?_
  refine o_iload (pc := 414) dL_act_414 8 rfl ?_
  refine o_irem (pc := 416) dL_act_416 (by omega) (by omega) ?_
  refine o_topI (y := (q : Int)) hqe ?_
  refine o_iload (pc := 417) dL_act_417 1 rfl ?_
  refine o_callC (pc := 419) _ dL_act_419 (fun G' hG => hPd G' hG) lkL_302 rfl rfl hc3 ⟨⟨by simp only [rmL, rmD]; omega, by simp only [rmL, rmD]; omega⟩, by simp only [rmL, rmD]; omega, by simp only [rmL, rmD]; omega⟩ (Nat.le_of_ble_eq_true rfl) rfl (fun n1 => ?_)
  refine o_istore (pc := 422) (lv' := [(13, _), (12, _), (15, _), (14, _), (0, _), (1, _), (2, _), (4, _), (5, _), (7, _), (8, _), (9, _), (10, _), (11, _)]) dL_act_422 (by decide) rfl ?_
  refine o_goto (pc := 424) 1327 dL_act_424 (by decide) ?_
  exact o_lv [4, 5, 6, 12, 13, 1, 0] rfl (ac_fin1 I (Nat.le_succ K) F W2 F4.1 W3 (fun _ z => .inl z) hcc hST ⟨(hU.1.cg (lo3 _ (by omega) (by omega) (by omega) (by omega)) (lo3 _ (by omega) (by omega) (by omega) (by omega)) (by omega) (fun j a b d => lo3 j (by omega) (by omega) (by omega) (by omega))), by rw [lo3 2 (by omega) (by omega) (by omega) (by omega)]; have := hU.2; omega⟩ (by first | omega | (simp only [rmL, rmD]; omega)) (by first | omega | (simp only [rmL, rmD]; omega)))
