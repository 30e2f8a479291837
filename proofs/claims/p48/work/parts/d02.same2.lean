/-! isSame: cables, trips; the outer rows -/
theorem o_icmpN {G : GG} {M : Mth} {R : Room} {pc : Nat} {lv : List (Nat × Value)} {st : List Value} {h : Hp} {c0 s0 : Nat} {Q : PP} {a b off : Int} (tgt : Nat) (d : decode M.2.1 pc = .ok (.if_icmp .ne off, 3)) (ht : (pc : Int) + off = (tgt : Int)) (e : a = b) (kk : YY G M R (pc + 3) lv st h c0 s0 Q) : YY G M R pc lv (.int (iI b) :: .int (iI a) :: st) h c0 s0 Q := by
  intro p l e' s m args below meth c H locs ls hC hR hS hl
  subst e
  exact lv_icmp_ne hC.1 hC.2.1 d ht (fun q => absurd rfl q) (fun _ => kk p l e' s m args below meth c H locs ls hC hR hS hl)
/-- no two cables between the same packs -/
def UC (N : Int → Int) : Prop := ∀ c : Int, 0 ≤ c → c < N 5 → (0 ≤ N (86 + 6 * c + 0) ∧ N (86 + 6 * c + 0) < N 3) ∧ (0 ≤ N (86 + 6 * c + 1) ∧ N (86 + 6 * c + 1) < N 3) ∧ betN N (N (86 + 6 * c + 0)) (N (86 + 6 * c + 1)) = c ∧ betN N (N (86 + 6 * c + 1)) (N (86 + 6 * c + 0)) = c
theorem is_cab {G : GG} {h : Hp} {a : Nat} {N : Int → Int} {B : Bok} {S T : Nat → Prop} (hW : WN G h a N B S T) {K : Nat} (hs : SH h.2.1 N K) (hcl : CL h) (hK : K ≤ 600) {Q : PP} {H0 : Hp} (hB : Fr (fun _ => False) h H0) (hU : UC N) {c0 s0 q it : Nat} (hcs : c0 ≤ 40) (hss : s0 ≤ 270) (hIm0 : (57, it) ∈ H0.1) {ca pa : Int} {k : Nat} (hk : (k : Int) < N 5) (kk : ∀ H, Fr (fun _ => False) H0 H → YY G ML_isSame (rmL 10 40 270) 298 [(0, rf G 38 0), (1, rf G 51 a), (3, .long (lI ca)), (5, .long (lI pa)), (7, rf G 57 it)] [] H c0 s0 Q) : ∀ (n : Nat) {H : Hp} {cur : Nat} (hA : SA 0 H0 q 4 (fun j => cabN N k j) H) (hc : cur + n = 4), YY G ML_isSame (rmL 10 40 270) 360 [(0, rf G 38 0), (1, rf G 51 a), (3, .long (lI ca)), (5, .long (lI pa)), (7, rf G 57 it), (8, rf G 53 (bE B 4 k)), (9, rf G (ak 0 4) q), (10, .int (iI (cur : Int)))] [] H c0 s0 Q := by
  intro n
  induction n with
  | zero =>
    intro H cur hA hc
    have hF0 := hA.1
    have hcB := hB.cl hcl
    have hcH := hF0.cl hcB
    have hWH := hW.fr0 (hB.t hF0)
    have hsH := hs.fr (hB.t hF0)
    have hIm := hF0.1 _ hIm0
    refine o_iload (pc := 360) dL_isSame_360 7 rfl ?_
    refine o_iconst (pc := 362) dL_isSame_362 ?_
    refine o_icmp_ge (pc := 363) 422 dL_isSame_363 (by decide) (by unfold inI; omega) (by unfold inI; omega) (fun c_363 => ?_) (fun c_363 => (by exfalso; omega))
    refine o_goto (pc := 422) 298 dL_isSame_422 (by decide) ?_
    exact o_lv [0, 1, 2, 3, 4] rfl (kk _ hA.1)
  | succ n ih =>
    intro H cur hA hc
    have hF0 := hA.1
    have hcB := hB.cl hcl
    have hcH := hF0.cl hcB
    have hWH := hW.fr0 (hB.t hF0)
    have hsH := hs.fr (hB.t hF0)
    have hIm := hF0.1 _ hIm0
    have n3 := hsH.1.2.2.1.1.2.2.1
    have b3 := hsH.1.1.2.2.1
    have hu := hU (k : Int) (by omega) hk
    have n5 := hW.nb 4
    change 0 ≤ N 5 ∧ N 5 ≤ 12 at n5
    refine o_iload (pc := 360) dL_isSame_360 7 rfl ?_
    refine o_iconst (pc := 362) dL_isSame_362 ?_
    refine o_icmp_ge (pc := 363) 422 dL_isSame_363 (by decide) (by unfold inI; omega) (by unfold inI; omega) (fun c_363 => (by exfalso; omega)) (fun c_363 => ?_)
    refine o_aload_n (pc := 366) dL_isSame_366 0 rfl ?_
    refine o_aload (pc := 367) dL_isSame_367 5 rfl ?_
    refine o_gI (pc := 369) (j := 0) dL_isSame_369 flL_105 rfl rfl (hWH.mE 4 hk) (hWH.c0 hk) ?_
    refine o_aload (pc := 372) dL_isSame_372 5 rfl ?_
    refine o_gI (pc := 374) (j := 1) dL_isSame_374 flL_108 rfl rfl (hWH.mE 4 hk) (hWH.c1 hk) ?_
    refine o_iload (pc := 377) dL_isSame_377 7 rfl ?_
    refine o_callC (pc := 379) _ dL_isSame_379 (fun G' hG => P_cable (m := _) hsH.1.1 hsH.1.2.1 (by unfold inI; omega) (by unfold inI; omega) (by unfold inI; omega) (by omega) (by omega) (by omega)) lkL_226 rfl rfl hcH ⟨⟨by simp only [rmL, rmD]; omega, by simp only [rmL, rmD]; omega⟩, by simp only [rmL, rmD]; omega, by simp only [rmL, rmD]; omega⟩ (Nat.le_of_ble_eq_true rfl) rfl (fun n1 => ?_)
    have hA1 := hA.cs (n := n1)
    have hF1 := hA1.1
    have hWH1 := hW.fr0 (hB.t hF1)
    have hsH1 := hsH.fr (Fr_cs (S := fun _ => False) (Fr.rf hF0.2.2.2.2) (n := n1))
    have hcH1 := hF1.cl hcB
    have n3b := hsH1.1.2.2.1.1.2.2.1
    refine o_aload (pc := 382) dL_isSame_382 6 rfl ?_
    refine o_iload (pc := 384) dL_isSame_384 7 rfl ?_
    refine o_iaI (pc := 386) dL_isSame_386 (shp_ak (by decide)) hA1.2.1 (by omega) (by omega) (hA1.2.2 (cur : Int) (by omega) (by omega)) ?_
    refine o_icmpN (pc := 387) 414 dL_isSame_387 (by decide) ((V_cab hsH.1.1 hsH.1.2.2.1 hsH.1.2.2.2.1 hsH.1.2.2.2.2.1 (a := N (86 + 6 * (k : Int) + 0)) (b := N (86 + 6 * (k : Int) + 1)) (w := (cur : Int)) (by omega) (by omega) (by omega) (by omega) (by omega)).trans (by rw [hu.2.2.1])) ?_
    refine o_aload_n (pc := 390) dL_isSame_390 0 rfl ?_
    refine o_aload (pc := 391) dL_isSame_391 5 rfl ?_
    refine o_gI (pc := 393) (j := 1) dL_isSame_393 flL_108 rfl rfl (hWH1.mE 4 hk) (hWH1.c1 hk) ?_
    refine o_aload (pc := 396) dL_isSame_396 5 rfl ?_
    refine o_gI (pc := 398) (j := 0) dL_isSame_398 flL_105 rfl rfl (hWH1.mE 4 hk) (hWH1.c0 hk) ?_
    refine o_iload (pc := 401) dL_isSame_401 7 rfl ?_
    refine o_callC (pc := 403) _ dL_isSame_403 (fun G' hG => P_cable (m := _) hsH1.1.1 hsH1.1.2.1 (by unfold inI; omega) (by unfold inI; omega) (by unfold inI; omega) (by omega) (by omega) (by omega)) lkL_226 rfl rfl hcH1 ⟨⟨by simp only [rmL, rmD]; omega, by simp only [rmL, rmD]; omega⟩, by simp only [rmL, rmD]; omega, by simp only [rmL, rmD]; omega⟩ (Nat.le_of_ble_eq_true rfl) rfl (fun n2 => ?_)
    have hA2 := hA1.cs (n := n2)
    refine o_aload (pc := 406) dL_isSame_406 6 rfl ?_
    refine o_iload (pc := 408) dL_isSame_408 7 rfl ?_
    refine o_iaI (pc := 410) dL_isSame_410 (shp_ak (by decide)) hA2.2.1 (by omega) (by omega) (hA2.2.2 (cur : Int) (by omega) (by omega)) ?_
    refine o_icmpS (pc := 411) 416 dL_isSame_411 (by decide) ((V_cab hsH1.1.1 hsH1.1.2.2.1 hsH1.1.2.2.2.1 hsH1.1.2.2.2.2.1 (a := N (86 + 6 * (k : Int) + 1)) (b := N (86 + 6 * (k : Int) + 0)) (w := (cur : Int)) (by omega) (by omega) (by omega) (by omega) (by omega)).trans (by rw [hu.2.2.2])) ?_
    refine o_iinc (pc := 416) (lv' := [(10, _), (0, _), (1, _), (3, _), (5, _), (7, _), (8, _), (9, _)]) dL_isSame_416 7 rfl (by decide) rfl ?_
    refine o_goto (pc := 419) 360 dL_isSame_419 (by decide) ?_
    exact o_lv [1, 2, 3, 4, 5, 6, 7, 0] rfl (ih (cur := cur + 1) hA2 (by omega))
theorem is_tri {G : GG} {h : Hp} {a : Nat} {N : Int → Int} {B : Bok} {S T : Nat → Prop} (hW : WN G h a N B S T) {K : Nat} (hs : SH h.2.1 N K) (hcl : CL h) (hK : K ≤ 600) {Q : PP} {c0 s0 : Nat} (hcs : c0 ≤ 40) (hss : s0 ≤ 270) {ca pa : Int} {k : Nat} (hk : (k : Int) < N 7) (kk : ∀ H, Fr (fun _ => False) h H → YY G ML_isSame (rmL 10 40 270) 483 [(0, rf G 38 0), (1, rf G 51 a), (3, .long (lI ca)), (5, .long (lI pa)), (7, .int (iI (k : Int)))] [] H c0 s0 Q) : ∀ (n : Nat) {H : Hp} {cur : Nat} (hF : Fr (fun _ => False) h H) (hc : cur + n = 4), YY G ML_isSame (rmL 10 40 270) 443 [(0, rf G 38 0), (1, rf G 51 a), (3, .long (lI ca)), (5, .long (lI pa)), (7, .int (iI (k : Int))), (8, .int (iI (cur : Int)))] [] H c0 s0 Q := by
  intro n
  induction n with
  | zero =>
    intro H cur hF hc
    have hcH := hF.cl hcl
    have hWH := hW.fr0 hF
    have hsH := hs.fr hF
    refine o_iload (pc := 443) dL_isSame_443 5 rfl ?_
    refine o_iconst (pc := 445) dL_isSame_445 ?_
    refine o_icmp_ge (pc := 446) 483 dL_isSame_446 (by decide) (by unfold inI; omega) (by unfold inI; omega) (fun c_446 => ?_) (fun c_446 => (by exfalso; omega))
    exact o_lv [0, 1, 2, 3, 4] rfl (kk _ hF)
  | succ n ih =>
    intro H cur hF hc
    have hcH := hF.cl hcl
    have hWH := hW.fr0 hF
    have hsH := hs.fr hF
    have n7 := hsH.1.2.2.2.1.1.2.2.2.2.2.1
    have b7 := hsH.1.2.1.2.2.2.1.1
    refine o_iload (pc := 443) dL_isSame_443 5 rfl ?_
    refine o_iconst (pc := 445) dL_isSame_445 ?_
    refine o_icmp_ge (pc := 446) 483 dL_isSame_446 (by decide) (by unfold inI; omega) (by unfold inI; omega) (fun c_446 => (by exfalso; omega)) (fun c_446 => ?_)
    refine o_aload_n (pc := 449) dL_isSame_449 0 rfl ?_
    refine o_iload (pc := 450) dL_isSame_450 4 rfl ?_
    refine o_iload (pc := 452) dL_isSame_452 5 rfl ?_
    refine o_callC (pc := 454) _ dL_isSame_454 (fun G' hG => P_trip (m := _) hsH.1.1 hsH.1.2.1 (by unfold inI; omega) (by unfold inI; omega) (by omega) (by omega)) lkL_230 rfl rfl hcH ⟨⟨by simp only [rmL, rmD]; omega, by simp only [rmL, rmD]; omega⟩, by simp only [rmL, rmD]; omega, by simp only [rmL, rmD]; omega⟩ (Nat.le_of_ble_eq_true rfl) rfl (fun n1 => ?_)
    have hF1 := Fr_cs hF (n := n1)
    have hWH1 := hW.fr0 hF1
    refine o_aload_n (pc := 457) dL_isSame_457 1 rfl ?_
    refine o_gR (pc := 458) (j := 9) (56) ((B.1 2)) dL_isSame_458 flL_124 rfl rfl hWH1.mW (hWH1.r 2) ?_
    refine o_iload (pc := 461) dL_isSame_461 4 rfl ?_
    refine o_callV (pc := 463) _ dL_isSame_463 (hWH1.get 2 hk) lkL_130 rfl rfl rfl rfl (hWH1.l 2).1 ⟨⟨by simp only [rmL, rmD]; omega, by simp only [rmL, rmD]; omega⟩, by simp only [rmL, rmD]; omega, by simp only [rmL, rmD]; omega⟩ (Nat.le_of_ble_eq_true rfl) rfl (fun v h2 hq2 => ?_)
    obtain ⟨rfl, e2⟩ := hq2
    obtain rfl := e2.symm
    show YY _ _ _ _ _ (rf G (ak 0 4) (bE B 2 k) :: _) _ _ _ _
    refine o_castI (pc := 466) dL_isSame_466 clL_233 (shp_ak (by decide)) (hWH1.mE 2 hk) ?_
    refine o_iload (pc := 469) dL_isSame_469 5 rfl ?_
    refine o_iaI (pc := 471) dL_isSame_471 (shp_ak (by decide)) (hWH1.mE 2 hk) (by omega) (by omega) (hWH1.tv hk (z := (cur : Int)) (by omega)) ?_
    refine o_icmpS (pc := 472) 477 dL_isSame_472 (by decide) (V_tri hsH.1.2.2.2.1 (t := (k : Int)) (w := (cur : Int)) (by omega) (by omega) (by omega)) ?_
    refine o_iinc (pc := 477) (lv' := [(8, _), (0, _), (1, _), (3, _), (5, _), (7, _)]) dL_isSame_477 5 rfl (by decide) rfl ?_
    refine o_goto (pc := 480) 443 dL_isSame_480 (by decide) ?_
    exact o_lv [1, 2, 3, 4, 5, 0] rfl (ih (cur := cur + 1) hF1 (by omega))
theorem is_707 {G : GG} {h : Hp} {a : Nat} {N : Int → Int} {B : Bok} {S T : Nat → Prop} (hW : WN G h a N B S T) {K : Nat} (hs : SH h.2.1 N K) (hcl : CL h) (hK : K ≤ 600) {H : Hp} (hF : Fr (fun _ => False) h H) {c0 s0 : Nat} (hcs : c0 ≤ 40) (hss : s0 ≤ 270) {ca pa : Int} (hca : N 10 = N 11 + N 12 + N 13 + ca) : YY G ML_isSame (rmL 10 40 270) 707 [(0, rf G 38 0), (1, rf G 51 a), (3, .long (lI ca)), (5, .long (lI pa))] [] H c0 s0 (fun v h1 => v = some (.int (iI 1)) ∧ Fr (fun _ => False) h h1) := by
  have hcH := hF.cl hcl
  have hWH := hW.fr0 hF
  have hsH := hs.fr hF
  refine o_aload_n (pc := 707) dL_isSame_707 0 rfl ?_
  refine o_callC (pc := 708) _ dL_isSame_708 (fun G' hG => P_now (m := _) hsH.1.1 hsH.1.2.1) lkL_266 rfl rfl hcH ⟨⟨by simp only [rmL, rmD]; omega, by simp only [rmL, rmD]; omega⟩, by simp only [rmL, rmD]; omega, by simp only [rmL, rmD]; omega⟩ (Nat.le_of_ble_eq_true rfl) rfl (fun n1 => ?_)
  have hF1 := Fr_cs hF (n := n1)
  have hWH1 := hW.fr0 hF1
  refine o_aload_n (pc := 711) dL_isSame_711 1 rfl ?_
  refine o_gI (pc := 712) (j := 2) dL_isSame_712 flL_269 rfl rfl hWH1.mW hWH1.w2 ?_
  refine o_icmpN (pc := 715) 746 dL_isSame_715 (by decide) hsH.1.2.2.2.1.1.1.symm ?_
  refine o_aload_n (pc := 718) dL_isSame_718 1 rfl ?_
  refine o_gL (pc := 719) (j := 3) dL_isSame_719 flL_84 rfl rfl hWH1.mW hWH1.w3 ?_
  refine o_aload_n (pc := 722) dL_isSame_722 1 rfl ?_
  refine o_gL (pc := 723) (j := 4) dL_isSame_723 flL_253 rfl rfl hWH1.mW hWH1.w4 ?_
  refine o_aload_n (pc := 726) dL_isSame_726 1 rfl ?_
  refine o_gL (pc := 727) (j := 5) dL_isSame_727 flL_256 rfl rfl hWH1.mW hWH1.w5 ?_
  refine o_ladd (pc := 730) dL_isSame_730 ?_
  refine o_aload_n (pc := 731) dL_isSame_731 1 rfl ?_
  refine o_gL (pc := 732) (j := 6) dL_isSame_732 flL_259 rfl rfl hWH1.mW hWH1.w6 ?_
  refine o_ladd (pc := 735) dL_isSame_735 ?_
  refine o_lload_n (pc := 736) dL_isSame_736 2 rfl ?_
  refine o_ladd (pc := 737) dL_isSame_737 ?_
  refine o_lcmpS (pc := 738) dL_isSame_738 hca ?_
  refine o_if_ne (pc := 739) 746 dL_isSame_739 (by decide) (by unfold inI; omega) (fun c_739 => (by exfalso; omega)) (fun c_739 => ?_)
  refine o_iconst (pc := 742) dL_isSame_742 ?_
  refine o_goto (pc := 743) 747 dL_isSame_743 (by decide) ?_
  exact o_zret (pc := 747) dL_isSame_747 rfl rfl (by first | omega | (simp only [rmL, rmD]; omega)) (by first | omega | (simp only [rmL, rmD]; omega)) ⟨rfl, hF1⟩
