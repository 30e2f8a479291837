/-! isSame: the outer rows -/
theorem is_631 {G : GG} {h : Hp} {a : Nat} {N : Int → Int} {B : Bok} {S T : Nat → Prop} (hW : WN G h a N B S T) {K : Nat} (hs : SH h.2.1 N K) (hcl : CL h) (hK : K ≤ 600) {H : Hp} (hF : Fr (fun _ => False) h H) {c0 s0 : Nat} (hcs : c0 ≤ 39) (hss : s0 ≤ 264) {ca pa : Int} (hca4 : ca = totN N 4) (hpa5 : pa = totN N 5) (hca : N 10 = N 11 + N 12 + N 13 + ca) : YY G ML_isSame (rmL 10 40 270) 631 [(0, rf G 38 0), (1, rf G 51 a), (3, .long (lI ca)), (5, .long (lI pa))] [] H c0 s0 (fun v h1 => v = some (.int (iI 1)) ∧ Fr (fun _ => False) h h1) := by
  have hcH := hF.cl hcl
  have hWH := hW.fr0 hF
  have hsH := hs.fr hF
  refine o_bipush (pc := 631) (z := 6) dL_isSame_631 (by decide) ?_
  refine o_sizeD (fun q hq => ?_) hF.2.2.2.2
  refine o_newL (pc := 633) (N := 6) dL_isSame_633 hq rfl (Nat.le_of_ble_eq_true rfl) (by first | omega | (simp only [rmL, rmD]; omega)) (by first | omega | (simp only [rmL, rmD]; omega)) (fun fq => ?_)
  have Fq0 := Fr_nw (k := ak 3 6) hF ak_ge fq
  have Wq0 := hW.fr0 Fq0
  refine o_dup (pc := 635) dL_isSame_635 rfl ?_
  refine o_iconst (pc := 636) dL_isSame_636 ?_
  refine o_aload_n (pc := 637) dL_isSame_637 1 rfl ?_
  refine o_gL (pc := 638) (j := 3) dL_isSame_638 flL_84 rfl rfl Wq0.mW Wq0.w3 ?_
  refine o_lsI (pc := 641) dL_isSame_641 (shp_ak (by decide)) nw_in (by omega) (by omega) ?_
  have Fq1 := Fr_hset (k := ak 3 6) (i := q) (j := 0) (z := N 10) Fq0 ak_ge (.inr (Fr_fre hF fq))
  have Wq1 := hW.fr0 Fq1
  refine o_dup (pc := 642) dL_isSame_642 rfl ?_
  refine o_iconst (pc := 643) dL_isSame_643 ?_
  refine o_aload_n (pc := 644) dL_isSame_644 1 rfl ?_
  refine o_gL (pc := 645) (j := 4) dL_isSame_645 flL_253 rfl rfl Wq1.mW Wq1.w4 ?_
  refine o_lsI (pc := 648) dL_isSame_648 (shp_ak (by decide)) nw_in (by omega) (by omega) ?_
  have Fq2 := Fr_hset (k := ak 3 6) (i := q) (j := 1) (z := N 11) Fq1 ak_ge (.inr (Fr_fre hF fq))
  have Wq2 := hW.fr0 Fq2
  refine o_dup (pc := 649) dL_isSame_649 rfl ?_
  refine o_iconst (pc := 650) dL_isSame_650 ?_
  refine o_aload_n (pc := 651) dL_isSame_651 1 rfl ?_
  refine o_gL (pc := 652) (j := 5) dL_isSame_652 flL_256 rfl rfl Wq2.mW Wq2.w5 ?_
  refine o_lsI (pc := 655) dL_isSame_655 (shp_ak (by decide)) nw_in (by omega) (by omega) ?_
  have Fq3 := Fr_hset (k := ak 3 6) (i := q) (j := 2) (z := N 12) Fq2 ak_ge (.inr (Fr_fre hF fq))
  have Wq3 := hW.fr0 Fq3
  refine o_dup (pc := 656) dL_isSame_656 rfl ?_
  refine o_iconst (pc := 657) dL_isSame_657 ?_
  refine o_aload_n (pc := 658) dL_isSame_658 1 rfl ?_
  refine o_gL (pc := 659) (j := 6) dL_isSame_659 flL_259 rfl rfl Wq3.mW Wq3.w6 ?_
  refine o_lsI (pc := 662) dL_isSame_662 (shp_ak (by decide)) nw_in (by omega) (by omega) ?_
  have Fq4 := Fr_hset (k := ak 3 6) (i := q) (j := 3) (z := N 13) Fq3 ak_ge (.inr (Fr_fre hF fq))
  have Wq4 := hW.fr0 Fq4
  refine o_dup (pc := 663) dL_isSame_663 rfl ?_
  refine o_iconst (pc := 664) dL_isSame_664 ?_
  refine o_lload_n (pc := 665) dL_isSame_665 2 rfl ?_
  refine o_lsI (pc := 666) dL_isSame_666 (shp_ak (by decide)) nw_in (by omega) (by omega) ?_
  have Fq5 := Fr_hset (k := ak 3 6) (i := q) (j := 4) (z := ca) Fq4 ak_ge (.inr (Fr_fre hF fq))
  have Wq5 := hW.fr0 Fq5
  refine o_dup (pc := 667) dL_isSame_667 rfl ?_
  refine o_iconst (pc := 668) dL_isSame_668 ?_
  refine o_lload (pc := 669) dL_isSame_669 3 rfl ?_
  refine o_lsI (pc := 671) dL_isSame_671 (shp_ak (by decide)) nw_in (by omega) (by omega) ?_
  have Fq6 := Fr_hset (k := ak 3 6) (i := q) (j := 5) (z := pa) Fq5 ak_ge (.inr (Fr_fre hF fq))
  have Wq6 := hW.fr0 Fq6
  refine o_astore (pc := 672) (lv' := [(7, _), (0, _), (1, _), (3, _), (5, _)]) dL_isSame_672 (by decide) rfl ?_
  refine o_iconst (pc := 674) dL_isSame_674 ?_
  refine o_istore (pc := 675) (lv' := [(8, _), (7, _), (0, _), (1, _), (3, _), (5, _)]) dL_isSame_675 (by decide) rfl ?_
  exact o_lv [2, 3, 4, 5, 1, 0] rfl (is_tot hW hs hcl hK (by first | omega | (simp only [rmL, rmD]; omega)) (by first | omega | (simp only [rmL, rmD]; omega)) (fun H1 hF1 => is_707 hW hs hcl hK hF1 (by first | omega | (simp only [rmL, rmD]; omega)) (by first | omega | (simp only [rmL, rmD]; omega)) hca) 6 (cur := 0) ⟨Fq6, nw_in, fun j a0 b0 => by
      have e9 : j = 0 ∨ j = 1 ∨ j = 2 ∨ j = 3 ∨ j = 4 ∨ j = 5 := by omega
      rcases e9 with rfl | rfl | rfl | rfl | rfl | rfl
      · simp only [hset_q]; rfl
      · simp only [hset_q]; rfl
      · simp only [hset_q]; rfl
      · simp only [hset_q]; rfl
      · simp only [hset_q]; exact hca4
      · simp only [hset_q]; exact hpa5⟩ rfl)
theorem is_492 {G : GG} {h : Hp} {a : Nat} {N : Int → Int} {B : Bok} {S T : Nat → Prop} (hW : WN G h a N B S T) {K : Nat} (hs : SH h.2.1 N K) (hcl : CL h) (hK : K ≤ 600) {ca pa : Int} (hca4 : ca = totN N 4) (hpa5 : pa = totN N 5) (hca : N 10 = N 11 + N 12 + N 13 + ca) : ∀ (n : Nat) {H : Hp} {k c0 s0 : Nat} (hF : Fr (fun _ => False) h H) (hc : (k : Int) + n = N 9) (hcs : c0 + n ≤ 39) (hss : s0 + 8 * n ≤ 264), YY G ML_isSame (rmL 10 40 270) 492 [(0, rf G 38 0), (1, rf G 51 a), (3, .long (lI ca)), (5, .long (lI pa)), (7, .int (iI (k : Int)))] [] H c0 s0 (fun v h1 => v = some (.int (iI 1)) ∧ Fr (fun _ => False) h h1) := by
  intro n
  induction n with
  | zero =>
    intro H k c0 s0 hF hc hcs hss
    have hcH := hF.cl hcl
    have hWH := hW.fr0 hF
    have hsH := hs.fr hF
    have n9 := hW.nb 6
    change 0 ≤ N 9 ∧ N 9 ≤ 16 at n9
    refine o_iload (pc := 492) dL_isSame_492 4 rfl ?_
    refine o_aload_n (pc := 494) dL_isSame_494 1 rfl ?_
    refine o_gR (pc := 495) (j := 13) (56) ((B.1 6)) dL_isSame_495 flL_159 rfl rfl hWH.mW (hWH.r 6) ?_
    refine o_callV (pc := 498) _ dL_isSame_498 (cl_size (hWH.l 6)) lkL_73 rfl rfl rfl rfl (hWH.l 6).1 ⟨⟨by simp only [rmL, rmD]; omega, by simp only [rmL, rmD]; omega⟩, by simp only [rmL, rmD]; omega, by simp only [rmL, rmD]; omega⟩ (Nat.le_of_ble_eq_true rfl) rfl (fun v h2 hq2 => ?_)
    obtain ⟨rfl, e2⟩ := hq2
    obtain rfl := e2.symm
    refine o_topI (y := N 9) (by show (((N 9).toNat : Nat) : Int) = _; omega) ?_
    refine o_icmp_ge (pc := 501) 631 dL_isSame_501 (by decide) (by unfold inI; omega) (by unfold inI; omega) (fun c_501 => ?_) (fun c_501 => (by exfalso; omega))
    exact o_lv [0, 1, 2, 3] rfl (is_631 hW hs hcl hK hF (by first | omega | (simp only [rmL, rmD]; omega)) (by first | omega | (simp only [rmL, rmD]; omega)) hca4 hpa5 hca)
  | succ n ih =>
    intro H k c0 s0 hF hc hcs hss
    have hcH := hF.cl hcl
    have hWH := hW.fr0 hF
    have hsH := hs.fr hF
    have n9 := hW.nb 6
    change 0 ≤ N 9 ∧ N 9 ≤ 16 at n9
    have hk : (k : Int) < N 9 := by omega
    have LL := hs.gn.ln (q := (k : Int)) (by omega) hk
    obtain ⟨l1, l2, l3, l4, l5, l6, l7⟩ := id LL
    refine o_iload (pc := 492) dL_isSame_492 4 rfl ?_
    refine o_aload_n (pc := 494) dL_isSame_494 1 rfl ?_
    refine o_gR (pc := 495) (j := 13) (56) ((B.1 6)) dL_isSame_495 flL_159 rfl rfl hWH.mW (hWH.r 6) ?_
    refine o_callV (pc := 498) _ dL_isSame_498 (cl_size (hWH.l 6)) lkL_73 rfl rfl rfl rfl (hWH.l 6).1 ⟨⟨by simp only [rmL, rmD]; omega, by simp only [rmL, rmD]; omega⟩, by simp only [rmL, rmD]; omega, by simp only [rmL, rmD]; omega⟩ (Nat.le_of_ble_eq_true rfl) rfl (fun v h2 hq2 => ?_)
    obtain ⟨rfl, e2⟩ := hq2
    obtain rfl := e2.symm
    refine o_topI (y := N 9) (by show (((N 9).toNat : Nat) : Int) = _; omega) ?_
    refine o_icmp_ge (pc := 501) 631 dL_isSame_501 (by decide) (by unfold inI; omega) (by unfold inI; omega) (fun c_501 => (by exfalso; omega)) (fun c_501 => ?_)
    refine o_aload_n (pc := 504) dL_isSame_504 1 rfl ?_
    refine o_gR (pc := 505) (j := 13) (56) ((B.1 6)) dL_isSame_505 flL_159 rfl rfl hWH.mW (hWH.r 6) ?_
    refine o_iload (pc := 508) dL_isSame_508 4 rfl ?_
    refine o_callV (pc := 510) _ dL_isSame_510 (hWH.get 6 hk) lkL_130 rfl rfl rfl rfl (hWH.l 6).1 ⟨⟨by simp only [rmL, rmD]; omega, by simp only [rmL, rmD]; omega⟩, by simp only [rmL, rmD]; omega, by simp only [rmL, rmD]; omega⟩ (Nat.le_of_ble_eq_true rfl) rfl (fun v h2 hq2 => ?_)
    obtain ⟨rfl, e2⟩ := hq2
    obtain rfl := e2.symm
    show YY _ _ _ _ _ (rf G 55 (bE B 6 k) :: _) _ _ _ _
    refine o_castO (pc := 513) dL_isSame_513 clL_175 rfl rfl (hWH.mE 6 hk) ?_
    refine o_astore (pc := 516) (lv' := [(8, _), (0, _), (1, _), (3, _), (5, _), (7, _)]) dL_isSame_516 (by decide) rfl ?_
    refine o_bipush (pc := 518) (z := 8) dL_isSame_518 (by decide) ?_
    refine o_sizeD (fun q hq => ?_) hF.2.2.2.2
    refine o_newI (pc := 520) (N := 8) dL_isSame_520 hq rfl (Nat.le_of_ble_eq_true rfl) (by first | omega | (simp only [rmL, rmD]; omega)) (by first | omega | (simp only [rmL, rmD]; omega)) (fun fq => ?_)
    have Fq0 := Fr_nw (k := ak 0 8) hF ak_ge fq
    have Wq0 := hW.fr0 Fq0
    refine o_dup (pc := 522) dL_isSame_522 rfl ?_
    refine o_iconst (pc := 523) dL_isSame_523 ?_
    refine o_aload (pc := 524) dL_isSame_524 0 rfl ?_
    refine o_gI (pc := 526) (j := 0) dL_isSame_526 flL_180 rfl rfl (Wq0.mE 6 hk) (Wq0.n0 hk) ?_
    refine o_isI (pc := 529) dL_isSame_529 (shp_ak (by decide)) nw_in (by omega) (by omega) ?_
    have Fq1 := Fr_hset (k := ak 0 8) (i := q) (j := 0) (z := N (318 + 7 * (k : Int) + 0)) Fq0 ak_ge (.inr (Fr_fre hF fq))
    have Wq1 := hW.fr0 Fq1
    refine o_dup (pc := 530) dL_isSame_530 rfl ?_
    refine o_iconst (pc := 531) dL_isSame_531 ?_
    refine o_aload (pc := 532) dL_isSame_532 0 rfl ?_
    refine o_gI (pc := 534) (j := 1) dL_isSame_534 flL_235 rfl rfl (Wq1.mE 6 hk) (Wq1.n1 hk) ?_
    refine o_isI (pc := 537) dL_isSame_537 (shp_ak (by decide)) nw_in (by omega) (by omega) ?_
    have Fq2 := Fr_hset (k := ak 0 8) (i := q) (j := 1) (z := N (318 + 7 * (k : Int) + 1)) Fq1 ak_ge (.inr (Fr_fre hF fq))
    have Wq2 := hW.fr0 Fq2
    refine o_dup (pc := 538) dL_isSame_538 rfl ?_
    refine o_iconst (pc := 539) dL_isSame_539 ?_
    refine o_aload (pc := 540) dL_isSame_540 0 rfl ?_
    refine o_gI (pc := 542) (j := 2) dL_isSame_542 flL_238 rfl rfl (Wq2.mE 6 hk) (Wq2.n2 hk) ?_
    refine o_isI (pc := 545) dL_isSame_545 (shp_ak (by decide)) nw_in (by omega) (by omega) ?_
    have Fq3 := Fr_hset (k := ak 0 8) (i := q) (j := 2) (z := N (318 + 7 * (k : Int) + 2)) Fq2 ak_ge (.inr (Fr_fre hF fq))
    have Wq3 := hW.fr0 Fq3
    refine o_dup (pc := 546) dL_isSame_546 rfl ?_
    refine o_iconst (pc := 547) dL_isSame_547 ?_
    refine o_aload (pc := 548) dL_isSame_548 0 rfl ?_
    refine o_gI (pc := 550) (j := 3) dL_isSame_550 flL_239 rfl rfl (Wq3.mE 6 hk) (Wq3.n3 hk) ?_
    refine o_isI (pc := 553) dL_isSame_553 (shp_ak (by decide)) nw_in (by omega) (by omega) ?_
    have Fq4 := Fr_hset (k := ak 0 8) (i := q) (j := 3) (z := N (318 + 7 * (k : Int) + 3)) Fq3 ak_ge (.inr (Fr_fre hF fq))
    have Wq4 := hW.fr0 Fq4
    refine o_dup (pc := 554) dL_isSame_554 rfl ?_
    refine o_iconst (pc := 555) dL_isSame_555 ?_
    refine o_aload (pc := 556) dL_isSame_556 0 rfl ?_
    refine o_gI (pc := 558) (j := 4) dL_isSame_558 flL_240 rfl rfl (Wq4.mE 6 hk) (Wq4.n4 hk) ?_
    refine o_isI (pc := 561) dL_isSame_561 (shp_ak (by decide)) nw_in (by omega) (by omega) ?_
    have Fq5 := Fr_hset (k := ak 0 8) (i := q) (j := 4) (z := N (318 + 7 * (k : Int) + 4)) Fq4 ak_ge (.inr (Fr_fre hF fq))
    have Wq5 := hW.fr0 Fq5
    refine o_dup (pc := 562) dL_isSame_562 rfl ?_
    refine o_iconst (pc := 563) dL_isSame_563 ?_
    refine o_aload_n (pc := 564) dL_isSame_564 2 rfl ?_
    refine o_aload (pc := 565) dL_isSame_565 0 rfl ?_
    refine o_callV (pc := 567) _ dL_isSame_567 (cw_owed Wq5 hk LL) lkL_243 rfl rfl rfl rfl Wq5.mW ⟨⟨by simp only [rmL, rmD]; omega, by simp only [rmL, rmD]; omega⟩, by simp only [rmL, rmD]; omega, by simp only [rmL, rmD]; omega⟩ (Nat.le_of_ble_eq_true rfl) rfl (fun v h2 hq2 => ?_)
    obtain ⟨rfl, rfl⟩ := hq2
    refine o_isI (pc := 570) dL_isSame_570 (shp_ak (by decide)) nw_in (by omega) (by omega) ?_
    have Fq6 := Fr_hset (k := ak 0 8) (i := q) (j := 5) (z := owedN N (k : Int)) Fq5 ak_ge (.inr (Fr_fre hF fq))
    have Wq6 := hW.fr0 Fq6
    refine o_dup (pc := 571) dL_isSame_571 rfl ?_
    refine o_bipush (pc := 572) (z := 6) dL_isSame_572 (by decide) ?_
    refine o_aload (pc := 574) dL_isSame_574 0 rfl ?_
    refine o_gI (pc := 576) (j := 5) dL_isSame_576 flL_177 rfl rfl (Wq6.mE 6 hk) (Wq6.n5 hk) ?_
    refine o_isI (pc := 579) dL_isSame_579 (shp_ak (by decide)) nw_in (by omega) (by omega) ?_
    have Fq7 := Fr_hset (k := ak 0 8) (i := q) (j := 6) (z := N (318 + 7 * (k : Int) + 5)) Fq6 ak_ge (.inr (Fr_fre hF fq))
    have Wq7 := hW.fr0 Fq7
    refine o_dup (pc := 580) dL_isSame_580 rfl ?_
    refine o_bipush (pc := 581) (z := 7) dL_isSame_581 (by decide) ?_
    refine o_aload (pc := 583) dL_isSame_583 0 rfl ?_
    refine o_gI (pc := 585) (j := 6) dL_isSame_585 flL_247 rfl rfl (Wq7.mE 6 hk) (Wq7.n6 hk) ?_
    refine o_isI (pc := 588) dL_isSame_588 (shp_ak (by decide)) nw_in (by omega) (by omega) ?_
    have Fq8 := Fr_hset (k := ak 0 8) (i := q) (j := 7) (z := N (318 + 7 * (k : Int) + 6)) Fq7 ak_ge (.inr (Fr_fre hF fq))
    have Wq8 := hW.fr0 Fq8
    refine o_astore (pc := 589) (lv' := [(9, _), (8, _), (0, _), (1, _), (3, _), (5, _), (7, _)]) dL_isSame_589 (by decide) rfl ?_
    refine o_iconst (pc := 591) dL_isSame_591 ?_
    refine o_istore (pc := 592) (lv' := [(10, _), (9, _), (8, _), (0, _), (1, _), (3, _), (5, _), (7, _)]) dL_isSame_592 (by decide) rfl ?_
    refine o_lv [3, 4, 5, 6, 7, 2, 1, 0] rfl (is_loa hW hs hcl hK (by first | omega | (simp only [rmL, rmD]; omega)) (by first | omega | (simp only [rmL, rmD]; omega)) hk (fun H1 hF1 => ?_) 8 (cur := 0) ⟨Fq8, nw_in, fun j a0 b0 => by
        have e9 : j = 0 ∨ j = 1 ∨ j = 2 ∨ j = 3 ∨ j = 4 ∨ j = 5 ∨ j = 6 ∨ j = 7 := by omega
        rcases e9 with rfl | rfl | rfl | rfl | rfl | rfl | rfl | rfl <;> (simp only [hset_q]; rfl)⟩ rfl)
    refine o_iinc (pc := 625) (lv' := [(7, _), (0, _), (1, _), (3, _), (5, _), (8, _)]) dL_isSame_625 4 rfl (by decide) rfl ?_
    refine o_goto (pc := 628) 492 dL_isSame_628 (by decide) ?_
    exact o_lv [1, 2, 3, 4, 0] rfl (ih (k := k + 1) hF1 (by omega) (by simp only [rmL, rmD]; omega) (by simp only [rmL, rmD]; omega))
theorem is_489 {G : GG} {h : Hp} {a : Nat} {N : Int → Int} {B : Bok} {S T : Nat → Prop} (hW : WN G h a N B S T) {K : Nat} (hs : SH h.2.1 N K) (hcl : CL h) (hK : K ≤ 600) {H : Hp} (hF : Fr (fun _ => False) h H) {c0 s0 : Nat} (hcs : c0 ≤ 23) (hss : s0 ≤ 136) {ca pa : Int} (hca4 : ca = totN N 4) (hpa5 : pa = totN N 5) (hca : N 10 = N 11 + N 12 + N 13 + ca) : YY G ML_isSame (rmL 10 40 270) 489 [(0, rf G 38 0), (1, rf G 51 a), (3, .long (lI ca)), (5, .long (lI pa))] [] H c0 s0 (fun v h1 => v = some (.int (iI 1)) ∧ Fr (fun _ => False) h h1) := by
  have n9 := hW.nb 6
  change 0 ≤ N 9 ∧ N 9 ≤ 16 at n9
  refine o_iconst (pc := 489) dL_isSame_489 ?_
  refine o_istore (pc := 490) (lv' := [(7, _), (0, _), (1, _), (3, _), (5, _)]) dL_isSame_490 (by decide) rfl ?_
  exact o_lv [1, 2, 3, 4, 0] rfl (is_492 hW hs hcl hK hca4 hpa5 hca (N 9).toNat (k := 0) hF (show (0 : Int) + ((N 9).toNat : Int) = N 9 by omega) (by first | omega | (simp only [rmL, rmD]; omega)) (by first | omega | (simp only [rmL, rmD]; omega)))
