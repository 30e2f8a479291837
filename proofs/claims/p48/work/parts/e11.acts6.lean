/-! acts: cables set -/
theorem o_aloadN {G : GG} {M : Mth} {R : Room} {pc : Nat} {lv : List (Nat × Value)} {st : List Value} {h : Hp} {c0 s0 : Nat} {Q : PP} {i : Nat} (d : decode M.2.1 pc = .ok (.aload i, 2)) (a : Nat) (hk : lv[a]? = some (i, .null)) (k : YY G M R (pc + 2) lv (.null :: st) h c0 s0 Q) : YY G M R pc lv st h c0 s0 Q := by
  intro p l e' s m args below meth c H locs ls hC hR hS hl
  have hv := lv_at hl a hk
  have h1 := hC.1
  have h2 := hC.2.1
  intro T hT X
  obtain ⟨t, a1, b⟩ := k p l e' s m args below meth c H locs ls hC hR hS hl T hT X
  refine ⟨t, ?_, b⟩
  jvm_step X.here [X.here.top, h1, h2, d, hv, Value.isRef]
  exact a1
theorem o_astoreN {G : GG} {M : Mth} {R : Room} {pc : Nat} {lv lv' : List (Nat × Value)} {st : List Value} {h : Hp} {c0 s0 : Nat} {Q : PP} {i : Nat} (d : decode M.2.1 pc = .ok (.astore i, 2)) (hn : i < M.2.2.1) (hlv : (i, Value.null) :: lv.filter (fun q => !(q.1 == i) && !(q.1 + 1 == i && q.2.category == 2)) = lv') (k : YY G M R (pc + 2) lv' st h c0 s0 Q) : YY G M R pc lv (.null :: st) h c0 s0 Q := by
  intro p l e' s m args below meth c H locs ls hC hR hS hl
  have h1 := hC.1
  have h2 := hC.2.1
  obtain ⟨ls', e9, h'⟩ := lv_store1 (v := .null) hl hn rfl
  intro T hT X
  obtain ⟨t, a1, b⟩ := k p l e' s m args below meth c H locs ls' hC hR hS (hlv ▸ h') T hT X
  refine ⟨t, ?_, b⟩
  jvm_step X.here [X.here.top, ↓top_set X.here.top, h1, h2, d, e9, Value.isRef]
  exact a1
theorem ac_7n {G : GG} {h H : Hp} {V : Nat → Vw} {R : Nat → Int → Int} {p : Nat} {T : Nat → Prop} {pl c b aw K w2 : Nat} {B2 : Bok} (I : AI G h V R p T pl c b aw K) (F : Fr (fun _ => False) h H) (W2 : WN G H w2 (R p) B2 (snew h H) T) (hK : K ≤ 99) {x : Int} (hx : 0 ≤ x ∧ x < 134217728) {c0 s0 : Nat} (hcs : c0 ≤ 760) (hss : s0 ≤ 14500) {q r : Nat} (hqe : x % R p 3 = (q : Int)) (hre : x / 8 % R p 3 = (r : Int)) (h3 : 0 < R p 3) (hb : betN (R p) q r = -1) : YY G ML_act (rmL 12 2500 24000) 484 [(0, rf G 38 0), (1, rf G (ak 8 1) aw), (2, rf G 56 pl), (4, rf G 51 (V p).1), (5, .int (iI x)), (7, .int (iI (R p 3))), (8, .int (iI (R p 8))), (9, .int (iI (R p 9))), (10, rf G 51 w2), (11, .int (iI 1))] [] H c0 s0 (fun v h1 => v = some (.int (iI 1)) ∧ ∃ V' R' p' c' b', AI G h1 V' R' p' T pl c' b' aw (K + 1)) := by
  have p8 := I.2.1.p8
  have hW := I.w.fr0 F
  have hs := I.2.1.1.fr F
  have hcH := F.cl I.1
  have gn := hs.gn
  have hU := I.2.2.1 p (Nat.le_refl p)
  have hn := F.2.2.2.2
  have r3 := hs.1.2.2.1.1.2.2.1
  have r5 := hs.1.2.2.1.1.2.2.2.2.2.1
  have r8 := hs.1.2.2.1.1.2.2.2.2.2.2
  have r7 := hs.1.2.2.2.1.1.2.2.2.2.2.1
  have r9 := hs.1.2.2.2.1.1.2.2.2.2.2.2
  have r2 := hs.1.2.2.2.1.1.1
  have b2 := hs.1.2.1.1
  have b3 := hs.1.1.2.2.1
  have b5 := hs.1.1.2.2.2.2.2.1
  have b8 := hs.1.1.2.2.2.2.2.2.1
  have b7 := hs.1.2.1.2.2.2.1.1
  have b9 := hs.1.2.1.2.2.2.2.1.1
  have nn3 : 0 ≤ R p 3 ∧ R p 3 ≤ 8 := by omega
  have nn5 : 0 ≤ R p 5 ∧ R p 5 ≤ 12 := by omega
  have nn7 : 0 ≤ R p 7 ∧ R p 7 ≤ 16 := by omega
  have nn8 : 0 ≤ R p 8 ∧ R p 8 ≤ 8 := by omega
  have nn9 : 0 ≤ R p 9 ∧ R p 9 ≤ 16 := by omega
  have nn2 : 0 ≤ R p 2 ∧ R p 2 ≤ 6000 := by have := hU.2; omega
  have em0 := Int.emod_nonneg x (show R p 3 ≠ 0 by omega)
  have em1 := Int.emod_lt_of_pos x (show 0 < R p 3 by omega)
  have hq : (q : Int) < R p 3 := by omega
  have hr : (r : Int) < R p 3 := by
    have e := Int.emod_lt_of_pos (x / 8) (show 0 < R p 3 by omega)
    omega
  obtain ⟨g, hg⟩ : ∃ g : Int, x / 64 % 400 = g := ⟨_, rfl⟩
  obtain ⟨u, hu⟩ : ∃ u : Int, 1 + x / 32768 % 60 = u := ⟨_, rfl⟩
  have hg1 : 0 ≤ g ∧ g ≤ 400 := by omega
  have hu1 : 1 ≤ u ∧ u ≤ 60 := by omega
  refine o_iload (pc := 484) dL_act_484 4 rfl ?_
  refine o_bipush (pc := 486) (z := 8) dL_act_486 (by decide) ?_
  refine o_idiv (pc := 488) dL_act_488 (by omega) (by omega) ?_
  refine o_iload (pc := 489) dL_act_489 5 rfl ?_
  refine o_irem (pc := 491) dL_act_491 (by omega) (by omega) ?_
  refine o_topI (y := (r : Int)) hre ?_
  refine o_istore (pc := 492) (lv' := [(14, _), (0, _), (1, _), (2, _), (4, _), (5, _), (7, _), (8, _), (9, _), (10, _), (11, _)]) dL_act_492 (by decide) rfl ?_
  refine o_aload (pc := 494) dL_act_494 4 rfl ?_
  refine o_iload (pc := 496) dL_act_496 5 rfl ?_
  refine o_iload (pc := 498) dL_act_498 6 rfl ?_
  refine o_irem (pc := 500) dL_act_500 (by omega) (by omega) ?_
  refine o_topI (y := (q : Int)) hqe ?_
  refine o_iload (pc := 501) dL_act_501 0 rfl ?_
  refine o_callV (pc := 503) _ dL_act_503 (cw_cable hW (x := (q : Int)) (y := (r : Int)) (by unfold inI; omega) (by unfold inI; omega) gn.su hn) lkL_308 rfl rfl rfl rfl hW.mW ⟨⟨by simp only [rmL, rmD]; omega, by simp only [rmL, rmD]; omega⟩, by simp only [rmL, rmD]; omega, by simp only [rmL, rmD]; omega⟩ (Nat.le_of_ble_eq_true rfl) rfl (fun v H1 hq2 => ?_)
  obtain ⟨rfl, FC⟩ := hq2
  rw [if_pos hb]
  show YY _ _ _ _ _ (Value.null :: _) _ _ _ _
  have F2 := F.tr FC (fun _ z => z.elim)
  have hs1 := hs.fr FC
  have hc2 := FC.cl hcH
  have r31 : R p 3 = H1.2.1 22 0 2 := hs1.1.2.2.1.1.2.2.1
  refine o_astoreN (pc := 506) (lv' := [(15, _), (14, _), (0, _), (1, _), (2, _), (4, _), (5, _), (7, _), (8, _), (9, _), (10, _), (11, _)]) dL_act_506 (by decide) rfl ?_
  refine o_iload (pc := 508) dL_act_508 6 rfl ?_
  refine o_bipush (pc := 510) (z := 64) dL_act_510 (by decide) ?_
  refine o_idiv (pc := 512) dL_act_512 (by omega) (by omega) ?_
  refine o_sipush (pc := 513) (z := 400) dL_act_513 (by decide) ?_
  refine o_irem (pc := 516) dL_act_516 (by omega) (by omega) ?_
  refine o_topI (y := g) hg ?_
  refine o_istore (pc := 517) (lv' := [(16, _), (15, _), (14, _), (0, _), (1, _), (2, _), (4, _), (5, _), (7, _), (8, _), (9, _), (10, _), (11, _)]) dL_act_517 (by decide) rfl ?_
  refine o_iconst (pc := 519) dL_act_519 ?_
  refine o_iload (pc := 520) dL_act_520 7 rfl ?_
  refine o_ldcw (pc := 522) (z := 32768) dL_act_522 kcL_311 (by decide) ?_
  refine o_idiv (pc := 525) dL_act_525 (by omega) (by omega) ?_
  refine o_bipush (pc := 526) (z := 60) dL_act_526 (by decide) ?_
  refine o_irem (pc := 528) dL_act_528 (by omega) (by omega) ?_
  refine o_iadd (pc := 529) dL_act_529 ?_
  refine o_topI (y := u) hu ?_
  refine o_istore (pc := 530) (lv' := [(17, _), (16, _), (15, _), (14, _), (0, _), (1, _), (2, _), (4, _), (5, _), (7, _), (8, _), (9, _), (10, _), (11, _)]) dL_act_530 (by decide) rfl ?_
  refine o_aloadN (pc := 532) dL_act_532 2 rfl ?_
  refine o_ifnullN (pc := 534) 541 dL_act_534 (by decide) ?_
  refine o_iconst (pc := 541) dL_act_541 ?_
  refine o_istore (pc := 542) (lv' := [(11, _), (17, _), (16, _), (15, _), (14, _), (0, _), (1, _), (2, _), (4, _), (5, _), (7, _), (8, _), (9, _), (10, _)]) dL_act_542 (by decide) rfl ?_
  refine o_iload (pc := 544) dL_act_544 0 rfl ?_
  refine o_if_eq (pc := 546) 557 dL_act_546 (by decide) (by unfold inI; omega) (fun c_546 => ?_) (fun c_546 => (by exfalso; omega))
  refine o_iconst (pc := 557) dL_act_557 ?_
  refine o_istore (pc := 558) (lv' := [(12, _), (11, _), (17, _), (16, _), (15, _), (14, _), (0, _), (1, _), (2, _), (4, _), (5, _), (7, _), (8, _), (9, _), (10, _)]) dL_act_558 (by decide) rfl ?_
  refine o_iload (pc := 560) dL_act_560 1 rfl ?_
  refine o_if_eq (pc := 562) 579 dL_act_562 (by decide) (by unfold inI; omega) (fun c_562 => ?_) (fun c_562 => (by exfalso; omega))
  refine o_aload_n (pc := 579) dL_act_579 6 rfl ?_
  refine o_iload (pc := 580) dL_act_580 10 rfl ?_
  refine o_iload (pc := 582) dL_act_582 11 rfl ?_
  refine o_irem (pc := 584) dL_act_584 (by omega) (by omega) ?_
  refine o_topI (y := (q : Int)) hqe ?_
  refine o_iload (pc := 585) dL_act_585 5 rfl ?_
  refine o_iload (pc := 587) dL_act_587 3 rfl ?_
  refine o_iload (pc := 589) dL_act_589 2 rfl ?_
  refine o_callC (pc := 591) _ dL_act_591 (fun G' hG => P_setCable0 (m := H1.2.1) hs1.1.1 hs1.1.2.1 hs1.1.2.2.2.2.2.2.1 hs1.2.1 hs1.2.2 (by unfold inI; omega) (by unfold inI; omega) (by unfold inI; omega) (by unfold inI; omega) (by omega) (by omega) (by omega) (by omega) (by rw [← hs1.1.2.2.1.2.2.2.2.1 (q : Int) (r : Int) (by omega) (by omega) (by omega) (by omega)]; exact hb)) lkL_312 rfl rfl hc2 ⟨⟨by simp only [rmL, rmD]; omega, by simp only [rmL, rmD]; omega⟩, by simp only [rmL, rmD]; omega, by simp only [rmL, rmD]; omega⟩ (Nat.le_of_ble_eq_true rfl) rfl (fun n1 => ?_)
  refine o_istore (pc := 594) (lv' := [(13, _), (12, _), (11, _), (17, _), (16, _), (15, _), (14, _), (0, _), (1, _), (2, _), (4, _), (5, _), (7, _), (8, _), (9, _), (10, _)]) dL_act_594 (by decide) rfl ?_
  refine o_goto (pc := 596) 1327 dL_act_596 (by decide) ?_
  exact o_lv [7, 8, 9, 15, 2, 1, 0] rfl (ac_fin0 (w2 := w2) I (Nat.le_succ K) F2 (by first | omega | (simp only [rmL, rmD]; omega)) (by first | omega | (simp only [rmL, rmD]; omega)))
theorem ac_7y {G : GG} {h H : Hp} {V : Nat → Vw} {R : Nat → Int → Int} {p : Nat} {T : Nat → Prop} {pl c b aw K w2 : Nat} {B2 : Bok} (I : AI G h V R p T pl c b aw K) (F : Fr (fun _ => False) h H) (W2 : WN G H w2 (R p) B2 (snew h H) T) (hK : K ≤ 99) {x : Int} (hx : 0 ≤ x ∧ x < 134217728) {c0 s0 : Nat} (hcs : c0 ≤ 760) (hss : s0 ≤ 14500) {q r : Nat} (hqe : x % R p 3 = (q : Int)) (hre : x / 8 % R p 3 = (r : Int)) (h3 : 0 < R p 3) {c1 : Nat} (hb : betN (R p) q r = (c1 : Int)) (hc1 : (c1 : Int) < R p 5) : YY G ML_act (rmL 12 2500 24000) 484 [(0, rf G 38 0), (1, rf G (ak 8 1) aw), (2, rf G 56 pl), (4, rf G 51 (V p).1), (5, .int (iI x)), (7, .int (iI (R p 3))), (8, .int (iI (R p 8))), (9, .int (iI (R p 9))), (10, rf G 51 w2), (11, .int (iI 1))] [] H c0 s0 (fun v h1 => v = some (.int (iI 1)) ∧ ∃ V' R' p' c' b', AI G h1 V' R' p' T pl c' b' aw (K + 1)) := by
  have p8 := I.2.1.p8
  have hW := I.w.fr0 F
  have hs := I.2.1.1.fr F
  have hcH := F.cl I.1
  have gn := hs.gn
  have hU := I.2.2.1 p (Nat.le_refl p)
  have hn := F.2.2.2.2
  have r3 := hs.1.2.2.1.1.2.2.1
  have r5 := hs.1.2.2.1.1.2.2.2.2.2.1
  have r8 := hs.1.2.2.1.1.2.2.2.2.2.2
  have r7 := hs.1.2.2.2.1.1.2.2.2.2.2.1
  have r9 := hs.1.2.2.2.1.1.2.2.2.2.2.2
  have r2 := hs.1.2.2.2.1.1.1
  have b2 := hs.1.2.1.1
  have b3 := hs.1.1.2.2.1
  have b5 := hs.1.1.2.2.2.2.2.1
  have b8 := hs.1.1.2.2.2.2.2.2.1
  have b7 := hs.1.2.1.2.2.2.1.1
  have b9 := hs.1.2.1.2.2.2.2.1.1
  have nn3 : 0 ≤ R p 3 ∧ R p 3 ≤ 8 := by omega
  have nn5 : 0 ≤ R p 5 ∧ R p 5 ≤ 12 := by omega
  have nn7 : 0 ≤ R p 7 ∧ R p 7 ≤ 16 := by omega
  have nn8 : 0 ≤ R p 8 ∧ R p 8 ≤ 8 := by omega
  have nn9 : 0 ≤ R p 9 ∧ R p 9 ≤ 16 := by omega
  have nn2 : 0 ≤ R p 2 ∧ R p 2 ≤ 6000 := by have := hU.2; omega
  have em0 := Int.emod_nonneg x (show R p 3 ≠ 0 by omega)
  have em1 := Int.emod_lt_of_pos x (show 0 < R p 3 by omega)
  have hq : (q : Int) < R p 3 := by omega
  have hr : (r : Int) < R p 3 := by
    have e := Int.emod_lt_of_pos (x / 8) (show 0 < R p 3 by omega)
    omega
  obtain ⟨g, hg⟩ : ∃ g : Int, x / 64 % 400 = g := ⟨_, rfl⟩
  obtain ⟨u, hu⟩ : ∃ u : Int, 1 + x / 32768 % 60 = u := ⟨_, rfl⟩
  have hg1 : 0 ≤ g ∧ g ≤ 400 := by omega
  have hu1 : 1 ≤ u ∧ u ≤ 60 := by omega
  refine o_iload (pc := 484) dL_act_484 4 rfl ?_
  refine o_bipush (pc := 486) (z := 8) dL_act_486 (by decide) ?_
  refine o_idiv (pc := 488) dL_act_488 (by omega) (by omega) ?_
  refine o_iload (pc := 489) dL_act_489 5 rfl ?_
  refine o_irem (pc := 491) dL_act_491 (by omega) (by omega) ?_
  refine o_topI (y := (r : Int)) hre ?_
  refine o_istore (pc := 492) (lv' := [(14, _), (0, _), (1, _), (2, _), (4, _), (5, _), (7, _), (8, _), (9, _), (10, _), (11, _)]) dL_act_492 (by decide) rfl ?_
  refine o_aload (pc := 494) dL_act_494 4 rfl ?_
  refine o_iload (pc := 496) dL_act_496 5 rfl ?_
  refine o_iload (pc := 498) dL_act_498 6 rfl ?_
  refine o_irem (pc := 500) dL_act_500 (by omega) (by omega) ?_
  refine o_topI (y := (q : Int)) hqe ?_
  refine o_iload (pc := 501) dL_act_501 0 rfl ?_
  refine o_callV (pc := 503) _ dL_act_503 (cw_cable hW (x := (q : Int)) (y := (r : Int)) (by unfold inI; omega) (by unfold inI; omega) gn.su hn) lkL_308 rfl rfl rfl rfl hW.mW ⟨⟨by simp only [rmL, rmD]; omega, by simp only [rmL, rmD]; omega⟩, by simp only [rmL, rmD]; omega, by simp only [rmL, rmD]; omega⟩ (Nat.le_of_ble_eq_true rfl) rfl (fun v H1 hq2 => ?_)
  obtain ⟨rfl, FC⟩ := hq2
  rw [hb, if_neg (by omega), Int.toNat_natCast]
  have hW1 := hW.fr0 FC
  have FG := Fg.f0 (S := (V p).2.2) (Fg.rf hn) FC
  refine o_astore (pc := 506) (lv' := [(15, _), (14, _), (0, _), (1, _), (2, _), (4, _), (5, _), (7, _), (8, _), (9, _), (10, _), (11, _)]) dL_act_506 (by decide) rfl ?_
  refine o_iload (pc := 508) dL_act_508 6 rfl ?_
  refine o_bipush (pc := 510) (z := 64) dL_act_510 (by decide) ?_
  refine o_idiv (pc := 512) dL_act_512 (by omega) (by omega) ?_
  refine o_sipush (pc := 513) (z := 400) dL_act_513 (by decide) ?_
  refine o_irem (pc := 516) dL_act_516 (by omega) (by omega) ?_
  refine o_topI (y := g) hg ?_
  refine o_istore (pc := 517) (lv' := [(16, _), (15, _), (14, _), (0, _), (1, _), (2, _), (4, _), (5, _), (7, _), (8, _), (9, _), (10, _), (11, _)]) dL_act_517 (by decide) rfl ?_
  refine o_iconst (pc := 519) dL_act_519 ?_
  refine o_iload (pc := 520) dL_act_520 7 rfl ?_
  refine o_ldcw (pc := 522) (z := 32768) dL_act_522 kcL_311 (by decide) ?_
  refine o_idiv (pc := 525) dL_act_525 (by omega) (by omega) ?_
  refine o_bipush (pc := 526) (z := 60) dL_act_526 (by decide) ?_
  refine o_irem (pc := 528) dL_act_528 (by omega) (by omega) ?_
  refine o_iadd (pc := 529) dL_act_529 ?_
  refine o_topI (y := u) hu ?_
  refine o_istore (pc := 530) (lv' := [(17, _), (16, _), (15, _), (14, _), (0, _), (1, _), (2, _), (4, _), (5, _), (7, _), (8, _), (9, _), (10, _), (11, _)]) dL_act_530 (by decide) rfl ?_
  refine o_aload (pc := 532) dL_act_532 2 rfl ?_
  refine o_ifnull (pc := 534) dL_act_534 ?_
  refine o_iconst (pc := 537) dL_act_537 ?_
  refine o_goto (pc := 538) 542 dL_act_538 (by decide) ?_
  refine o_istore (pc := 542) (lv' := [(11, _), (17, _), (16, _), (15, _), (14, _), (0, _), (1, _), (2, _), (4, _), (5, _), (7, _), (8, _), (9, _), (10, _)]) dL_act_542 (by decide) rfl ?_
  refine o_iload (pc := 544) dL_act_544 0 rfl ?_
  refine o_if_eq (pc := 546) 557 dL_act_546 (by decide) (by unfold inI; omega) (fun c_546 => (by exfalso; omega)) (fun c_546 => ?_)
  refine o_aload (pc := 549) dL_act_549 3 rfl ?_
  refine o_gI (pc := 551) (j := 2) dL_act_551 flL_111 rfl rfl (hW1.mE 4 hc1) (hW1.c2 hc1) ?_
  refine o_goto (pc := 554) 558 dL_act_554 (by decide) ?_
  refine o_istore (pc := 558) (lv' := [(12, _), (11, _), (17, _), (16, _), (15, _), (14, _), (0, _), (1, _), (2, _), (4, _), (5, _), (7, _), (8, _), (9, _), (10, _)]) dL_act_558 (by decide) rfl ?_
  refine o_iload (pc := 560) dL_act_560 1 rfl ?_
  refine o_if_eq (pc := 562) 579 dL_act_562 (by decide) (by unfold inI; omega) (fun c_562 => (by exfalso; omega)) (fun c_562 => ?_)
  refine o_aload (pc := 565) dL_act_565 4 rfl ?_
  refine o_iload (pc := 567) dL_act_567 3 rfl ?_
  refine o_pI (pc := 569) (j := 2) dL_act_569 fwL_111 rfl rfl (hW1.mE 4 hc1) ?_
  have W3 : WN G _ (V p).1 (upN (R p) (86 + 6 * (c1 : Int) + 2) g) (V p).2.1 (V p).2.2 T := hW1.setE 4 hc1 2 g
  have F3 := Fg_hset (k := 53) (i := bE (V p).2.1 4 c1) (j := ((2 : Nat) : Int)) (z := g) FG (by decide) (.inl (hW.sE 4 hc1))
  have hc3 := up_lt (N := R p) (i := 86 + 6 * (c1 : Int) + 2) (z := g) (n := 5) (by omega) (by omega) hc1
  refine o_aload (pc := 572) dL_act_572 4 rfl ?_
  refine o_iload (pc := 574) dL_act_574 2 rfl ?_
  refine o_pI (pc := 576) (j := 3) dL_act_576 fwL_114 rfl rfl (hW1.mE 4 hc1) ?_
  have W4 : WN G (hset (hset H1 53 (bE (V p).2.1 4 c1) ((2 : Nat) : Int) g) 53 (bE (V p).2.1 4 c1) ((3 : Nat) : Int) u) (V p).1 (upN (upN (R p) (86 + 6 * (c1 : Int) + 2) g) (86 + 6 * (c1 : Int) + 3) u) (V p).2.1 (V p).2.2 T := W3.setE 4 hc3 3 u
  have F4 := Fg_hset (k := 53) (i := bE (V p).2.1 4 c1) (j := ((3 : Nat) : Int)) (z := u) F3 (by decide) (.inl (hW.sE 4 hc1))
  generalize hset (hset H1 53 (bE (V p).2.1 4 c1) ((2 : Nat) : Int) g) 53 (bE (V p).2.1 4 c1) ((3 : Nat) : Int) u = H4 at W4 F4 ⊢
  have hs4 := hs.fr F4.1
  have hc4 := F4.1.cl hcH
  have r34 : R p 3 = H4.2.1 22 0 2 := hs4.1.2.2.1.1.2.2.1
  have r54 : R p 5 = H4.2.1 22 0 5 := hs4.1.2.2.1.1.2.2.2.2.2.1
  have e27 : H4.2.1 27 0 ((q : Int) * 8 + r) = c1 := by rw [← hs4.1.2.2.1.2.2.2.2.1 (q : Int) (r : Int) (by omega) (by omega) (by omega) (by omega)]; exact hb
  have hST := (hs4.1.push.cable (a := (c1 : Int)) (x := g) (y := u) (by omega) (by rw [pushC_k (.inr ⟨by decide, by decide⟩)]; omega) (by omega) (by omega)).more (Nat.le_succ K)
  have hcc : ∀ k i, i ≠ 0 ∨ 22 ≤ k → up3 (up3 (pushC H4.2.1) 6 0 (c1 : Int) g) 7 0 (c1 : Int) u k i = pushC H4.2.1 k i := fun k i z => (hc_up (by decide) k i z).trans (hc_up (by decide) k i z)
  have eg : pushC H4.2.1 6 0 (c1 : Int) = R p (86 + 6 * (c1 : Int) + 2) := by rw [pushC_0 (by decide)]; exact (hs4.1.2.2.2.1.2.2.2.1 (c1 : Int) (by omega) (by omega)).1.symm
  have hPd : ∀ G', gad G' 38 0 = gad G 38 0 → Ct G' MX7_setCable (rmD 9) [rf G' 38 0, .int (iI (q : Int)), .int (iI (r : Int)), .int (iI g), .int (iI u)] (hp H4.2.1) (.inl (some (.int (iI (pushC H4.2.1 6 0 (c1 : Int)))))) (hp (up3 (up3 (pushC H4.2.1) 6 0 (c1 : Int) g) 7 0 (c1 : Int) u)) := fun G' _ => by
    have P := P_setCable1 (G := G') (m := H4.2.1) hs4.1.1 hs4.1.2.1 hs4.1.2.2.2.2.2.2.1 hs4.2.1 hs4.2.2 (a0 := (q : Int)) (a1 := (r : Int)) (a2 := g) (a3 := u) (by unfold inI; omega) (by unfold inI; omega) (by unfold inI; omega) (by unfold inI; omega) (by omega) (by omega) (by omega) (by omega) (by rw [e27]; omega)
    rw [e27] at P
    exact P
  refine o_aload_n (pc := 579) dL_act_579 6 rfl ?_
  refine o_iload (pc := 580) dL_act_580 10 rfl ?_
  refine o_iload (pc := 582) dL_act_582 11 rfl ?_
  refine o_irem (pc := 584) dL_act_584 (by omega) (by omega) ?_
  refine o_topI (y := (q : Int)) hqe ?_
  refine o_iload (pc := 585) dL_act_585 5 rfl ?_
  refine o_iload (pc := 587) dL_act_587 3 rfl ?_
  refine o_iload (pc := 589) dL_act_589 2 rfl ?_
  refine o_callC (pc := 591) _ dL_act_591 (fun G' hG => hPd G' hG) lkL_312 rfl rfl hc4 ⟨⟨by simp only [rmL, rmD]; omega, by simp only [rmL, rmD]; omega⟩, by simp only [rmL, rmD]; omega, by simp only [rmL, rmD]; omega⟩ (Nat.le_of_ble_eq_true rfl) rfl (fun n1 => ?_)
  refine o_topI eg ?_
  refine o_istore (pc := 594) (lv' := [(13, _), (12, _), (11, _), (17, _), (16, _), (15, _), (14, _), (0, _), (1, _), (2, _), (4, _), (5, _), (7, _), (8, _), (9, _), (10, _)]) dL_act_594 (by decide) rfl ?_
  refine o_goto (pc := 596) 1327 dL_act_596 (by decide) ?_
  exact o_lv [7, 8, 9, 15, 2, 1, 0] rfl (ac_fin1 I (Nat.le_succ K) F W2 F4.1 W4 (fun _ z => .inl z) hcc hST (((hU.more (Nat.le_succ K)).up (by omega) (by omega)).up (by rw [upN_off (by omega)]; omega) (by omega)) (by first | omega | (simp only [rmL, rmD]; omega)) (by first | omega | (simp only [rmL, rmD]; omega)))
