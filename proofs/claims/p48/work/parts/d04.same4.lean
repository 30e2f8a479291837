/-! isSame: trips, cables, packs, the whole -/
theorem SH.ce {m : Mem} {N : Int → Int} {K : Nat} (hs : SH m N K) : N 10 = N 11 + N 12 + N 13 + totN N 4 := by
  have e := V_tot hs.1.2.2.1 hs.1.2.2.2.1 (w := 4) (by omega)
  have c := hs.1.2.2.2.2.2.1.1
  have r := hs.1.2.2.2.1.1
  have s : totC m 4 = sm (m 3 0) (m 22 0 2).toNat := rfl
  rw [s] at e
  rw [r.2.1, r.2.2.1, r.2.2.2.1, r.2.2.2.2.1, ← e]
  omega
theorem SA.nw {tg : Nat} {h H : Hp} {n len : Nat} (hF : Fr (fun _ => False) h H) (fn : fre H n) : SA tg h n len (fun _ => 0) (nw H (ak tg len) n) :=
  ⟨Fr_nw hF ak_ge fn, nw_in, fun j _ _ => congrFun nw_m j⟩
theorem SA.set {tg : Nat} {h H : Hp} {q len : Nat} {f : Int → Int} (hA : SA tg h q len f H) (fq : fre h q) (j z : Int) : SA tg h q len (upN f j z) (hset H (ak tg len) q j z) :=
  ⟨Fr_hset hA.1 ak_ge (.inr fq), hA.2.1, fun i a b => by rw [hset_q, upN_ap, hA.2.2 i a b]⟩
theorem SA.cg {tg : Nat} {h H : Hp} {q len : Nat} {f g : Int → Int} (hA : SA tg h q len f H) (e : ∀ j : Int, 0 ≤ j → j < len → g j = f j) : SA tg h q len g H := ⟨hA.1, hA.2.1, fun j a b => by rw [hA.2.2 j a b, e j a b]⟩
theorem is_428 {G : GG} {h : Hp} {a : Nat} {N : Int → Int} {B : Bok} {S T : Nat → Prop} (hW : WN G h a N B S T) {K : Nat} (hs : SH h.2.1 N K) (hcl : CL h) (hK : K ≤ 600) {ca pa : Int} (hca4 : ca = totN N 4) (hpa5 : pa = totN N 5) (hca : N 10 = N 11 + N 12 + N 13 + ca) {c0 s0 : Nat} (hcs : c0 ≤ 23) (hss : s0 ≤ 136) : ∀ (n : Nat) {H : Hp} {k : Nat} (hF : Fr (fun _ => False) h H) (hc : (k : Int) + n = N 7), YY G ML_isSame (rmL 10 40 270) 428 [(0, rf G 38 0), (1, rf G 51 a), (3, .long (lI ca)), (5, .long (lI pa)), (7, .int (iI (k : Int)))] [] H c0 s0 (fun v h1 => v = some (.int (iI 1)) ∧ Fr (fun _ => False) h h1) := by
  intro n
  induction n with
  | zero =>
    intro H k hF hc
    have hcH := hF.cl hcl
    have hWH := hW.fr0 hF
    have hsH := hs.fr hF
    have n7 := hW.nb 2
    change 0 ≤ N 7 ∧ N 7 ≤ 16 at n7
    refine o_iload (pc := 428) dL_isSame_428 4 rfl ?_
    refine o_aload_n (pc := 430) dL_isSame_430 1 rfl ?_
    refine o_gR (pc := 431) (j := 9) (56) ((B.1 2)) dL_isSame_431 flL_124 rfl rfl hWH.mW (hWH.r 2) ?_
    refine o_callV (pc := 434) _ dL_isSame_434 (cl_size (hWH.l 2)) lkL_73 rfl rfl rfl rfl (hWH.l 2).1 ⟨⟨by simp only [rmL, rmD]; omega, by simp only [rmL, rmD]; omega⟩, by simp only [rmL, rmD]; omega, by simp only [rmL, rmD]; omega⟩ (Nat.le_of_ble_eq_true rfl) rfl (fun v h2 hq2 => ?_)
    obtain ⟨rfl, e2⟩ := hq2
    obtain rfl := e2.symm
    refine o_topI (y := N 7) (by show (((N 7).toNat : Nat) : Int) = _; omega) ?_
    refine o_icmp_ge (pc := 437) 489 dL_isSame_437 (by decide) (by unfold inI; omega) (by unfold inI; omega) (fun c_437 => ?_) (fun c_437 => (by exfalso; omega))
    exact o_lv [0, 1, 2, 3] rfl (is_489 hW hs hcl hK hF (by first | omega | (simp only [rmL, rmD]; omega)) (by first | omega | (simp only [rmL, rmD]; omega)) hca4 hpa5 hca)
  | succ n ih =>
    intro H k hF hc
    have hcH := hF.cl hcl
    have hWH := hW.fr0 hF
    have hsH := hs.fr hF
    have n7 := hW.nb 2
    change 0 ≤ N 7 ∧ N 7 ≤ 16 at n7
    have hk : (k : Int) < N 7 := by omega
    refine o_iload (pc := 428) dL_isSame_428 4 rfl ?_
    refine o_aload_n (pc := 430) dL_isSame_430 1 rfl ?_
    refine o_gR (pc := 431) (j := 9) (56) ((B.1 2)) dL_isSame_431 flL_124 rfl rfl hWH.mW (hWH.r 2) ?_
    refine o_callV (pc := 434) _ dL_isSame_434 (cl_size (hWH.l 2)) lkL_73 rfl rfl rfl rfl (hWH.l 2).1 ⟨⟨by simp only [rmL, rmD]; omega, by simp only [rmL, rmD]; omega⟩, by simp only [rmL, rmD]; omega, by simp only [rmL, rmD]; omega⟩ (Nat.le_of_ble_eq_true rfl) rfl (fun v h2 hq2 => ?_)
    obtain ⟨rfl, e2⟩ := hq2
    obtain rfl := e2.symm
    refine o_topI (y := N 7) (by show (((N 7).toNat : Nat) : Int) = _; omega) ?_
    refine o_icmp_ge (pc := 437) 489 dL_isSame_437 (by decide) (by unfold inI; omega) (by unfold inI; omega) (fun c_437 => (by exfalso; omega)) (fun c_437 => ?_)
    refine o_iconst (pc := 440) dL_isSame_440 ?_
    refine o_istore (pc := 441) (lv' := [(8, _), (0, _), (1, _), (3, _), (5, _), (7, _)]) dL_isSame_441 (by decide) rfl ?_
    refine o_lv [1, 2, 3, 4, 5, 0] rfl (is_tri hW hs hcl hK (by first | omega | (simp only [rmL, rmD]; omega)) (by first | omega | (simp only [rmL, rmD]; omega)) hk (fun H1 hF1 => ?_) 4 (cur := 0) hF rfl)
    refine o_iinc (pc := 483) (lv' := [(7, _), (0, _), (1, _), (3, _), (5, _)]) dL_isSame_483 4 rfl (by decide) rfl ?_
    refine o_goto (pc := 486) 428 dL_isSame_486 (by decide) ?_
    exact o_lv [1, 2, 3, 4, 0] rfl (ih (k := k + 1) hF1 (by omega))
theorem is_425 {G : GG} {h : Hp} {a : Nat} {N : Int → Int} {B : Bok} {S T : Nat → Prop} (hW : WN G h a N B S T) {K : Nat} (hs : SH h.2.1 N K) (hcl : CL h) (hK : K ≤ 600) {H : Hp} (hF : Fr (fun _ => False) h H) {c0 s0 : Nat} (hcs : c0 ≤ 23) (hss : s0 ≤ 136) {ca pa : Int} (hca4 : ca = totN N 4) (hpa5 : pa = totN N 5) (hca : N 10 = N 11 + N 12 + N 13 + ca) : YY G ML_isSame (rmL 10 40 270) 425 [(0, rf G 38 0), (1, rf G 51 a), (3, .long (lI ca)), (5, .long (lI pa))] [] H c0 s0 (fun v h1 => v = some (.int (iI 1)) ∧ Fr (fun _ => False) h h1) := by
  have n7 := hW.nb 2
  change 0 ≤ N 7 ∧ N 7 ≤ 16 at n7
  refine o_iconst (pc := 425) dL_isSame_425 ?_
  refine o_istore (pc := 426) (lv' := [(7, _), (0, _), (1, _), (3, _), (5, _)]) dL_isSame_426 (by decide) rfl ?_
  exact o_lv [1, 2, 3, 4, 0] rfl (is_428 hW hs hcl hK hca4 hpa5 hca (by first | omega | (simp only [rmL, rmD]; omega)) (by first | omega | (simp only [rmL, rmD]; omega)) (N 7).toNat (k := 0) hF (show (0 : Int) + ((N 7).toNat : Int) = N 7 by omega))
theorem is_298 {G : GG} {h : Hp} {a : Nat} {N : Int → Int} {B : Bok} {S T : Nat → Prop} (hW : WN G h a N B S T) {K : Nat} (hs : SH h.2.1 N K) (hcl : CL h) (hK : K ≤ 600) (hU : UC N) {it : Nat} (hf : fre h it) {ca pa : Int} (hca4 : ca = totN N 4) (hpa5 : pa = totN N 5) (hca : N 10 = N 11 + N 12 + N 13 + ca) : ∀ (n : Nat) {H : Hp} {k c0 s0 : Nat} (hF : Fr (fun _ => False) h H) (hI : IT H it (B.1 4) k) (hc : k + n = (nj N 4).toNat) (hcs : c0 + n ≤ 23) (hss : s0 + 4 * n ≤ 136), YY G ML_isSame (rmL 10 40 270) 298 [(0, rf G 38 0), (1, rf G 51 a), (3, .long (lI ca)), (5, .long (lI pa)), (7, rf G 57 it)] [] H c0 s0 (fun v h1 => v = some (.int (iI 1)) ∧ Fr (fun _ => False) h h1) := by
  intro n
  induction n with
  | zero =>
    intro H k c0 s0 hF hI hc hcs hss
    have hcH := hF.cl hcl
    have hWH := hW.fr0 hF
    have hsH := hs.fr hF
    have n5 := hW.nb 4
    change 0 ≤ nj N 4 ∧ nj N 4 ≤ 12 at n5
    refine o_aload (pc := 298) dL_isSame_298 4 rfl ?_
    refine o_callF (pc := 300) (q := (RJx35411, TJx35411, 4)) _ dL_isSame_300 (cl_hasNext (hWH.l 4) hI (by omega)) lfL_166 (fun s hs => hs.2.2.2.2.2.2.2.2.2.2.1) rfl rfl rfl hI.1 ⟨⟨by simp only [rmL, rmD]; omega, by simp only [rmL, rmD]; omega⟩, by simp only [rmL, rmD]; omega, by simp only [rmL, rmD]; omega⟩ (Nat.le_of_ble_eq_true rfl) rfl (fun v h2 hq2 => ?_)
    obtain ⟨rfl, e2⟩ := hq2
    obtain rfl := e2.symm
    rw [if_pos (by omega)]
    refine o_if_eq (pc := 305) 425 dL_isSame_305 (by decide) (by unfold inI; omega) (fun c_305 => ?_) (fun c_305 => (by exfalso; omega))
    exact o_lv [0, 1, 2, 3] rfl (is_425 hW hs hcl hK hF (by first | omega | (simp only [rmL, rmD]; omega)) (by first | omega | (simp only [rmL, rmD]; omega)) hca4 hpa5 hca)
  | succ n ih =>
    intro H k c0 s0 hF hI hc hcs hss
    have hcH := hF.cl hcl
    have hWH := hW.fr0 hF
    have hsH := hs.fr hF
    have n5 := hW.nb 4
    change 0 ≤ nj N 4 ∧ nj N 4 ≤ 12 at n5
    have hk : (k : Int) < nj N 4 := by omega
    refine o_aload (pc := 298) dL_isSame_298 4 rfl ?_
    refine o_callF (pc := 300) (q := (RJx35411, TJx35411, 4)) _ dL_isSame_300 (cl_hasNext (hWH.l 4) hI (by omega)) lfL_166 (fun s hs => hs.2.2.2.2.2.2.2.2.2.2.1) rfl rfl rfl hI.1 ⟨⟨by simp only [rmL, rmD]; omega, by simp only [rmL, rmD]; omega⟩, by simp only [rmL, rmD]; omega, by simp only [rmL, rmD]; omega⟩ (Nat.le_of_ble_eq_true rfl) rfl (fun v h2 hq2 => ?_)
    obtain ⟨rfl, e2⟩ := hq2
    obtain rfl := e2.symm
    rw [if_neg (by omega)]
    refine o_if_eq (pc := 305) 425 dL_isSame_305 (by decide) (by unfold inI; omega) (fun c_305 => (by exfalso; omega)) (fun c_305 => ?_)
    refine o_aload (pc := 308) dL_isSame_308 4 rfl ?_
    refine o_callF (pc := 310) (q := (RJx35411, TJx35411, 4)) _ dL_isSame_310 (cl_next (hWH.l 4) hI (by omega)) lfL_171 (fun s hs => hs.2.2.2.2.2.2.2.2.2.2.2.1) rfl rfl rfl hI.1 ⟨⟨by simp only [rmL, rmD]; omega, by simp only [rmL, rmD]; omega⟩, by simp only [rmL, rmD]; omega, by simp only [rmL, rmD]; omega⟩ (Nat.le_of_ble_eq_true rfl) rfl (fun v h2 hq2 => ?_)
    obtain ⟨rfl, rfl⟩ := hq2
    have hF2 := Fr_next (z := (k : Int) + 1) (w := (k : Int)) hF hf
    have hI2 := hI.next
    have hW2 := hW.fr0 hF2
    have hn0 := hF2.2.2.2.2
    show YY _ _ _ _ _ (rf G 53 (bE B 4 k) :: _) _ _ _ _
    refine o_castO (pc := 315) dL_isSame_315 clL_95 rfl rfl (hW2.mE 4 hk) ?_
    refine o_astore (pc := 318) (lv' := [(8, _), (0, _), (1, _), (3, _), (5, _), (7, _)]) dL_isSame_318 (by decide) rfl ?_
    refine o_iconst (pc := 320) dL_isSame_320 ?_
    refine o_sizeD (fun q hq => ?_) hn0
    refine o_newI (pc := 321) (N := 4) dL_isSame_321 hq rfl (Nat.le_of_ble_eq_true rfl) (by first | omega | (simp only [rmL, rmD]; omega)) (by first | omega | (simp only [rmL, rmD]; omega)) (fun fq => ?_)
    have S0 := SA.nw (tg := 0) (len := 4) (Fr.rf (S := fun _ => False) hn0) fq
    have V0 := hW.fr0 (hF2.t S0.1)
    refine o_dup (pc := 323) dL_isSame_323 rfl ?_
    refine o_iconst (pc := 324) dL_isSame_324 ?_
    refine o_aload (pc := 325) dL_isSame_325 0 rfl ?_
    refine o_gI (pc := 327) (j := 2) dL_isSame_327 flL_111 rfl rfl (V0.mE 4 hk) (V0.c2 hk) ?_
    refine o_isI (pc := 330) dL_isSame_330 (shp_ak (by decide)) nw_in (by omega) (by omega) ?_
    have S1 := S0.set fq 0 (N (86 + 6 * (k : Int) + 2))
    have V1 := hW.fr0 (hF2.t S1.1)
    refine o_dup (pc := 331) dL_isSame_331 rfl ?_
    refine o_iconst (pc := 332) dL_isSame_332 ?_
    refine o_aload (pc := 333) dL_isSame_333 0 rfl ?_
    refine o_gI (pc := 335) (j := 3) dL_isSame_335 flL_114 rfl rfl (V1.mE 4 hk) (V1.c3 hk) ?_
    refine o_isI (pc := 338) dL_isSame_338 (shp_ak (by decide)) nw_in (by omega) (by omega) ?_
    have S2 := S1.set fq 1 (N (86 + 6 * (k : Int) + 3))
    have V2 := hW.fr0 (hF2.t S2.1)
    refine o_dup (pc := 339) dL_isSame_339 rfl ?_
    refine o_iconst (pc := 340) dL_isSame_340 ?_
    refine o_aload (pc := 341) dL_isSame_341 0 rfl ?_
    refine o_gI (pc := 343) (j := 4) dL_isSame_343 flL_220 rfl rfl (V2.mE 4 hk) (V2.c4 hk) ?_
    refine o_isI (pc := 346) dL_isSame_346 (shp_ak (by decide)) nw_in (by omega) (by omega) ?_
    have S3 := S2.set fq 2 (N (86 + 6 * (k : Int) + 4))
    have V3 := hW.fr0 (hF2.t S3.1)
    refine o_dup (pc := 347) dL_isSame_347 rfl ?_
    refine o_iconst (pc := 348) dL_isSame_348 ?_
    refine o_aload (pc := 349) dL_isSame_349 0 rfl ?_
    refine o_gI (pc := 351) (j := 5) dL_isSame_351 flL_223 rfl rfl (V3.mE 4 hk) (V3.c5 hk) ?_
    refine o_isI (pc := 354) dL_isSame_354 (shp_ak (by decide)) nw_in (by omega) (by omega) ?_
    have S4 := S3.set fq 3 (N (86 + 6 * (k : Int) + 5))
    have V4 := hW.fr0 (hF2.t S4.1)
    refine o_astore (pc := 355) (lv' := [(9, _), (8, _), (0, _), (1, _), (3, _), (5, _), (7, _)]) dL_isSame_355 (by decide) rfl ?_
    refine o_iconst (pc := 357) dL_isSame_357 ?_
    refine o_istore (pc := 358) (lv' := [(10, _), (9, _), (8, _), (0, _), (1, _), (3, _), (5, _), (7, _)]) dL_isSame_358 (by decide) rfl ?_
    exact o_lv [3, 4, 5, 6, 7, 2, 1, 0] rfl (is_cab hW hs hcl hK hF2 hU (by first | omega | (simp only [rmL, rmD]; omega)) (by first | omega | (simp only [rmL, rmD]; omega)) hI2.1 hk (fun H1 hF1 => ih (k := k + 1) (hF2.t hF1) (hI2.fr hF1 (hW2.l 4).1 (fun z => z) (fun z => z)) (by omega) (by first | omega | (simp only [rmL, rmD]; omega)) (by first | omega | (simp only [rmL, rmD]; omega))) 4 (cur := 0) (S4.cg (fun j a0 b0 => by
        have e9 : j = 0 ∨ j = 1 ∨ j = 2 ∨ j = 3 := by omega
        rcases e9 with rfl | rfl | rfl | rfl <;> rfl)) rfl)
theorem is_289 {G : GG} {h : Hp} {a : Nat} {N : Int → Int} {B : Bok} {S T : Nat → Prop} (hW : WN G h a N B S T) {K : Nat} (hs : SH h.2.1 N K) (hcl : CL h) (hK : K ≤ 600) (hU : UC N) {H : Hp} (hF : Fr (fun _ => False) h H) {c0 s0 : Nat} (hcs : c0 ≤ 10) (hss : s0 ≤ 84) {ca pa : Int} (hca4 : ca = totN N 4) (hpa5 : pa = totN N 5) (hca : N 10 = N 11 + N 12 + N 13 + ca) : YY G ML_isSame (rmL 10 40 270) 289 [(0, rf G 38 0), (1, rf G 51 a), (3, .long (lI ca)), (5, .long (lI pa))] [] H c0 s0 (fun v h1 => v = some (.int (iI 1)) ∧ Fr (fun _ => False) h h1) := by
  have hcH := hF.cl hcl
  have hWH := hW.fr0 hF
  have hsH := hs.fr hF
  have n5 := hW.nb 4
  change 0 ≤ nj N 4 ∧ nj N 4 ≤ 12 at n5
  refine o_aload_n (pc := 289) dL_isSame_289 1 rfl ?_
  refine o_gR (pc := 290) (j := 11) (56) ((B.1 4)) dL_isSame_290 flL_100 rfl rfl hWH.mW (hWH.r 4) ?_
  refine o_callV (pc := 293) _ dL_isSame_293 (cl_iterator (hWH.l 4) hF.2.2.2.2) lkL_162 rfl rfl rfl rfl (hWH.l 4).1 ⟨⟨by simp only [rmL, rmD]; omega, by simp only [rmL, rmD]; omega⟩, by simp only [rmL, rmD]; omega, by simp only [rmL, rmD]; omega⟩ (Nat.le_of_ble_eq_true rfl) rfl (fun v h2 hq2 => ?_)
  obtain ⟨it, rfl, hf, hI, hF2⟩ := hq2
  refine o_astore (pc := 296) (lv' := [(7, _), (0, _), (1, _), (3, _), (5, _)]) dL_isSame_296 (by decide) rfl ?_
  exact o_lv [1, 2, 3, 4, 0] rfl (is_298 hW hs hcl hK hU (Fr_fre hF hf) hca4 hpa5 hca (nj N 4).toNat (k := 0) (hF.tr hF2 (fun _ z => z.elim)) hI (by omega) (by first | omega | (simp only [rmL, rmD]; omega)) (by first | omega | (simp only [rmL, rmD]; omega)))
theorem is_120 {G : GG} {h : Hp} {a : Nat} {N : Int → Int} {B : Bok} {S T : Nat → Prop} (hW : WN G h a N B S T) {K : Nat} (hs : SH h.2.1 N K) (hcl : CL h) (hK : K ≤ 600) (hU : UC N) : ∀ (n : Nat) {H : Hp} {k c0 s0 : Nat} {ca pa : Int} (hF : Fr (fun _ => False) h H) (hc : (k : Int) + n = N 3) (hca : ca = sm (fun q => N (30 + 7 * q + 1)) k) (hpa : pa = sm (fun q => N (30 + 7 * q + 2)) k) (hcs : c0 + n ≤ 10) (hss : s0 + 9 * n ≤ 84), YY G ML_isSame (rmL 10 40 270) 120 [(0, rf G 38 0), (1, rf G 51 a), (3, .long (lI ca)), (5, .long (lI pa)), (7, .int (iI (k : Int)))] [] H c0 s0 (fun v h1 => v = some (.int (iI 1)) ∧ Fr (fun _ => False) h h1) := by
  intro n
  induction n with
  | zero =>
    intro H k c0 s0 ca pa hF hc hca hpa hcs hss
    have hcH := hF.cl hcl
    have hWH := hW.fr0 hF
    have hsH := hs.fr hF
    have n3 := hW.nb 3
    change 0 ≤ N 3 ∧ N 3 ≤ 8 at n3
    refine o_iload (pc := 120) dL_isSame_120 4 rfl ?_
    refine o_aload_n (pc := 122) dL_isSame_122 1 rfl ?_
    refine o_gR (pc := 123) (j := 10) (56) ((B.1 3)) dL_isSame_123 flL_81 rfl rfl hWH.mW (hWH.r 3) ?_
    refine o_callV (pc := 126) _ dL_isSame_126 (cl_size (hWH.l 3)) lkL_73 rfl rfl rfl rfl (hWH.l 3).1 ⟨⟨by simp only [rmL, rmD]; omega, by simp only [rmL, rmD]; omega⟩, by simp only [rmL, rmD]; omega, by simp only [rmL, rmD]; omega⟩ (Nat.le_of_ble_eq_true rfl) rfl (fun v h2 hq2 => ?_)
    obtain ⟨rfl, e2⟩ := hq2
    obtain rfl := e2.symm
    refine o_topI (y := N 3) (by show (((N 3).toNat : Nat) : Int) = _; omega) ?_
    refine o_icmp_ge (pc := 129) 289 dL_isSame_129 (by decide) (by unfold inI; omega) (by unfold inI; omega) (fun c_129 => ?_) (fun c_129 => (by exfalso; omega))
    have ek : k = (N 3).toNat := by omega
    have e4 : ca = totN N 4 := by rw [hca, ek]; rfl
    have e5 : pa = totN N 5 := by rw [hpa, ek]; rfl
    exact o_lv [0, 1, 2, 3] rfl (is_289 hW hs hcl hK hU hF (by first | omega | (simp only [rmL, rmD]; omega)) (by first | omega | (simp only [rmL, rmD]; omega)) e4 e5 (by rw [e4]; exact hs.ce))
  | succ n ih =>
    intro H k c0 s0 ca pa hF hc hca hpa hcs hss
    have hcH := hF.cl hcl
    have hWH := hW.fr0 hF
    have hsH := hs.fr hF
    have n3 := hW.nb 3
    change 0 ≤ N 3 ∧ N 3 ≤ 8 at n3
    have hk : (k : Int) < N 3 := by omega
    have PP := hs.gn.pn (q := (k : Int)) (by omega) hk
    obtain ⟨p1, p2, p3, p4, p5⟩ := id PP
    refine o_iload (pc := 120) dL_isSame_120 4 rfl ?_
    refine o_aload_n (pc := 122) dL_isSame_122 1 rfl ?_
    refine o_gR (pc := 123) (j := 10) (56) ((B.1 3)) dL_isSame_123 flL_81 rfl rfl hWH.mW (hWH.r 3) ?_
    refine o_callV (pc := 126) _ dL_isSame_126 (cl_size (hWH.l 3)) lkL_73 rfl rfl rfl rfl (hWH.l 3).1 ⟨⟨by simp only [rmL, rmD]; omega, by simp only [rmL, rmD]; omega⟩, by simp only [rmL, rmD]; omega, by simp only [rmL, rmD]; omega⟩ (Nat.le_of_ble_eq_true rfl) rfl (fun v h2 hq2 => ?_)
    obtain ⟨rfl, e2⟩ := hq2
    obtain rfl := e2.symm
    refine o_topI (y := N 3) (by show (((N 3).toNat : Nat) : Int) = _; omega) ?_
    refine o_icmp_ge (pc := 129) 289 dL_isSame_129 (by decide) (by unfold inI; omega) (by unfold inI; omega) (fun c_129 => (by exfalso; omega)) (fun c_129 => ?_)
    refine o_aload_n (pc := 132) dL_isSame_132 1 rfl ?_
    refine o_gR (pc := 133) (j := 10) (56) ((B.1 3)) dL_isSame_133 flL_81 rfl rfl hWH.mW (hWH.r 3) ?_
    refine o_iload (pc := 136) dL_isSame_136 4 rfl ?_
    refine o_callV (pc := 138) _ dL_isSame_138 (hWH.get 3 hk) lkL_130 rfl rfl rfl rfl (hWH.l 3).1 ⟨⟨by simp only [rmL, rmD]; omega, by simp only [rmL, rmD]; omega⟩, by simp only [rmL, rmD]; omega, by simp only [rmL, rmD]; omega⟩ (Nat.le_of_ble_eq_true rfl) rfl (fun v h2 hq2 => ?_)
    obtain ⟨rfl, e2⟩ := hq2
    obtain rfl := e2.symm
    show YY _ _ _ _ _ (rf G 52 (bE B 3 k) :: _) _ _ _ _
    refine o_castO (pc := 141) dL_isSame_141 clL_76 rfl rfl (hWH.mE 3 hk) ?_
    refine o_astore (pc := 144) (lv' := [(8, _), (0, _), (1, _), (3, _), (5, _), (7, _)]) dL_isSame_144 (by decide) rfl ?_
    refine o_bipush (pc := 146) (z := 9) dL_isSame_146 (by decide) ?_
    refine o_sizeD (fun q hq => ?_) hF.2.2.2.2
    refine o_newI (pc := 148) (N := 9) dL_isSame_148 hq rfl (Nat.le_of_ble_eq_true rfl) (by first | omega | (simp only [rmL, rmD]; omega)) (by first | omega | (simp only [rmL, rmD]; omega)) (fun fq => ?_)
    have S0 := SA.nw (tg := 0) (len := 9) hF fq
    have V0 := hW.fr0 S0.1
    have fq0 := Fr_fre hF fq
    refine o_dup (pc := 150) dL_isSame_150 rfl ?_
    refine o_iconst (pc := 151) dL_isSame_151 ?_
    refine o_aload (pc := 152) dL_isSame_152 0 rfl ?_
    refine o_gI (pc := 154) (j := 0) dL_isSame_154 flL_191 rfl rfl (V0.mE 3 hk) (V0.p0 hk) ?_
    refine o_isI (pc := 157) dL_isSame_157 (shp_ak (by decide)) nw_in (by omega) (by omega) ?_
    have S1 := S0.set fq0 0 (N (30 + 7 * (k : Int) + 0))
    have V1 := hW.fr0 S1.1
    refine o_dup (pc := 158) dL_isSame_158 rfl ?_
    refine o_iconst (pc := 159) dL_isSame_159 ?_
    refine o_aload_n (pc := 160) dL_isSame_160 2 rfl ?_
    refine o_aload (pc := 161) dL_isSame_161 0 rfl ?_
    refine o_callV (pc := 163) _ dL_isSame_163 (cw_room V1 hk PP) lkL_194 rfl rfl rfl rfl V1.mW ⟨⟨by simp only [rmL, rmD]; omega, by simp only [rmL, rmD]; omega⟩, by simp only [rmL, rmD]; omega, by simp only [rmL, rmD]; omega⟩ (Nat.le_of_ble_eq_true rfl) rfl (fun v h2 hq2 => ?_)
    obtain ⟨rfl, rfl⟩ := hq2
    refine o_isI (pc := 166) dL_isSame_166 (shp_ak (by decide)) nw_in (by omega) (by omega) ?_
    have S2 := S1.set fq0 1 (roomN N (k : Int))
    have V2 := hW.fr0 S2.1
    refine o_dup (pc := 167) dL_isSame_167 rfl ?_
    refine o_iconst (pc := 168) dL_isSame_168 ?_
    refine o_aload (pc := 169) dL_isSame_169 0 rfl ?_
    refine o_gI (pc := 171) (j := 2) dL_isSame_171 flL_88 rfl rfl (V2.mE 3 hk) (V2.p2 hk) ?_
    refine o_isI (pc := 174) dL_isSame_174 (shp_ak (by decide)) nw_in (by omega) (by omega) ?_
    have S3 := S2.set fq0 2 (N (30 + 7 * (k : Int) + 1))
    have V3 := hW.fr0 S3.1
    refine o_dup (pc := 175) dL_isSame_175 rfl ?_
    refine o_iconst (pc := 176) dL_isSame_176 ?_
    refine o_aload (pc := 177) dL_isSame_177 0 rfl ?_
    refine o_gI (pc := 179) (j := 3) dL_isSame_179 flL_198 rfl rfl (V3.mE 3 hk) (V3.p3 hk) ?_
    refine o_isI (pc := 182) dL_isSame_182 (shp_ak (by decide)) nw_in (by omega) (by omega) ?_
    have S4 := S3.set fq0 3 (N (30 + 7 * (k : Int) + 2))
    have V4 := hW.fr0 S4.1
    refine o_dup (pc := 183) dL_isSame_183 rfl ?_
    refine o_iconst (pc := 184) dL_isSame_184 ?_
    refine o_aload (pc := 185) dL_isSame_185 0 rfl ?_
    refine o_gI (pc := 187) (j := 1) dL_isSame_187 flL_201 rfl rfl (V4.mE 3 hk) (V4.p1 hk) ?_
    refine o_isI (pc := 190) dL_isSame_190 (shp_ak (by decide)) nw_in (by omega) (by omega) ?_
    have S5 := S4.set fq0 4 (N (30 + 7 * (k : Int) + 3))
    have V5 := hW.fr0 S5.1
    refine o_dup (pc := 191) dL_isSame_191 rfl ?_
    refine o_iconst (pc := 192) dL_isSame_192 ?_
    refine o_aload (pc := 193) dL_isSame_193 0 rfl ?_
    refine o_gI (pc := 195) (j := 4) dL_isSame_195 flL_204 rfl rfl (V5.mE 3 hk) (V5.p4 hk) ?_
    refine o_isI (pc := 198) dL_isSame_198 (shp_ak (by decide)) nw_in (by omega) (by omega) ?_
    have S6 := S5.set fq0 5 (N (30 + 7 * (k : Int) + 4))
    have V6 := hW.fr0 S6.1
    refine o_dup (pc := 199) dL_isSame_199 rfl ?_
    refine o_bipush (pc := 200) (z := 6) dL_isSame_200 (by decide) ?_
    refine o_aload (pc := 202) dL_isSame_202 0 rfl ?_
    refine o_gI (pc := 204) (j := 5) dL_isSame_204 flL_207 rfl rfl (V6.mE 3 hk) (V6.p5 hk) ?_
    refine o_isI (pc := 207) dL_isSame_207 (shp_ak (by decide)) nw_in (by omega) (by omega) ?_
    have S7 := S6.set fq0 6 (N (30 + 7 * (k : Int) + 5))
    have V7 := hW.fr0 S7.1
    refine o_dup (pc := 208) dL_isSame_208 rfl ?_
    refine o_bipush (pc := 209) (z := 7) dL_isSame_209 (by decide) ?_
    refine o_aload (pc := 211) dL_isSame_211 0 rfl ?_
    refine o_gI (pc := 213) (j := 6) dL_isSame_213 flL_210 rfl rfl (V7.mE 3 hk) (V7.p6 hk) ?_
    refine o_isI (pc := 216) dL_isSame_216 (shp_ak (by decide)) nw_in (by omega) (by omega) ?_
    have S8 := S7.set fq0 7 (N (30 + 7 * (k : Int) + 6))
    have V8 := hW.fr0 S8.1
    refine o_dup (pc := 217) dL_isSame_217 rfl ?_
    refine o_bipush (pc := 218) (z := 8) dL_isSame_218 (by decide) ?_
    refine o_aload_n (pc := 220) dL_isSame_220 2 rfl ?_
    refine o_aload (pc := 221) dL_isSame_221 0 rfl ?_
    refine o_callV (pc := 223) _ dL_isSame_223 (cw_quarter V8 hk PP) lkL_213 rfl rfl rfl rfl V8.mW ⟨⟨by simp only [rmL, rmD]; omega, by simp only [rmL, rmD]; omega⟩, by simp only [rmL, rmD]; omega, by simp only [rmL, rmD]; omega⟩ (Nat.le_of_ble_eq_true rfl) rfl (fun v h2 hq2 => ?_)
    obtain ⟨rfl, rfl⟩ := hq2
    refine o_isI (pc := 226) dL_isSame_226 (shp_ak (by decide)) nw_in (by omega) (by omega) ?_
    have S9 := S8.set fq0 8 (quartN N (k : Int))
    have V9 := hW.fr0 S9.1
    refine o_astore (pc := 227) (lv' := [(9, _), (8, _), (0, _), (1, _), (3, _), (5, _), (7, _)]) dL_isSame_227 (by decide) rfl ?_
    refine o_iconst (pc := 229) dL_isSame_229 ?_
    refine o_istore (pc := 230) (lv' := [(10, _), (9, _), (8, _), (0, _), (1, _), (3, _), (5, _), (7, _)]) dL_isSame_230 (by decide) rfl ?_
    refine o_lv [3, 4, 5, 6, 7, 2, 1, 0] rfl (is_pck hW hs hcl hK (by first | omega | (simp only [rmL, rmD]; omega)) (by first | omega | (simp only [rmL, rmD]; omega)) hk (fun H1 hF1 => ?_) 9 (cur := 0) (S9.cg (fun j a0 b0 => by
        have e9 : j = 0 ∨ j = 1 ∨ j = 2 ∨ j = 3 ∨ j = 4 ∨ j = 5 ∨ j = 6 ∨ j = 7 ∨ j = 8 := by omega
        rcases e9 with rfl | rfl | rfl | rfl | rfl | rfl | rfl | rfl | rfl <;> rfl)) rfl)
    have U1 := hW.fr0 hF1
    refine o_lload_n (pc := 263) dL_isSame_263 2 rfl ?_
    refine o_aload (pc := 264) dL_isSame_264 5 rfl ?_
    refine o_gI (pc := 266) (j := 2) dL_isSame_266 flL_88 rfl rfl (U1.mE 3 hk) (U1.p2 hk) ?_
    refine o_i2l (pc := 269) dL_isSame_269 (by unfold inI; omega) ?_
    refine o_ladd (pc := 270) dL_isSame_270 ?_
    refine o_lstore_n (pc := 271) (lv' := [(3, _), (0, _), (1, _), (5, _), (7, _), (8, _)]) dL_isSame_271 rfl (by decide) rfl ?_
    refine o_lload (pc := 272) dL_isSame_272 3 rfl ?_
    refine o_aload (pc := 274) dL_isSame_274 5 rfl ?_
    refine o_gI (pc := 276) (j := 3) dL_isSame_276 flL_198 rfl rfl (U1.mE 3 hk) (U1.p3 hk) ?_
    refine o_i2l (pc := 279) dL_isSame_279 (by unfold inI; omega) ?_
    refine o_ladd (pc := 280) dL_isSame_280 ?_
    refine o_lstore (pc := 281) (lv' := [(5, _), (3, _), (0, _), (1, _), (7, _), (8, _)]) dL_isSame_281 (by decide) rfl ?_
    refine o_iinc (pc := 283) (lv' := [(7, _), (5, _), (3, _), (0, _), (1, _), (8, _)]) dL_isSame_283 4 rfl (by decide) rfl ?_
    refine o_goto (pc := 286) 120 dL_isSame_286 (by decide) ?_
    exact o_lv [3, 4, 2, 1, 0] rfl (ih (k := k + 1) hF1 (by omega) (by rw [hca]; rfl) (by rw [hpa]; rfl) (by first | omega | (simp only [rmL, rmD]; omega)) (by first | omega | (simp only [rmL, rmD]; omega)))
theorem is_112 {G : GG} {h : Hp} {a : Nat} {N : Int → Int} {B : Bok} {S T : Nat → Prop} (hW : WN G h a N B S T) {K : Nat} (hs : SH h.2.1 N K) (hcl : CL h) (hK : K ≤ 600) (hU : UC N) {H : Hp} (hF : Fr (fun _ => False) h H) {c0 s0 : Nat} (hcs : c0 ≤ 2) (hss : s0 ≤ 12) : YY G ML_isSame (rmL 10 40 270) 112 [(0, rf G 38 0), (1, rf G 51 a)] [] H c0 s0 (fun v h1 => v = some (.int (iI 1)) ∧ Fr (fun _ => False) h h1) := by
  have n3 := hW.nb 3
  change 0 ≤ N 3 ∧ N 3 ≤ 8 at n3
  refine o_lconst (pc := 112) (z := 0) dL_isSame_112 (by decide) ?_
  refine o_lstore_n (pc := 113) (lv' := [(3, _), (0, _), (1, _)]) dL_isSame_113 rfl (by decide) rfl ?_
  refine o_lconst (pc := 114) (z := 0) dL_isSame_114 (by decide) ?_
  refine o_lstore (pc := 115) (lv' := [(5, _), (3, _), (0, _), (1, _)]) dL_isSame_115 (by decide) rfl ?_
  refine o_iconst (pc := 117) dL_isSame_117 ?_
  refine o_istore (pc := 118) (lv' := [(7, _), (5, _), (3, _), (0, _), (1, _)]) dL_isSame_118 (by decide) rfl ?_
  exact o_lv [3, 4, 2, 1, 0] rfl (is_120 hW hs hcl hK hU (N 3).toNat (k := 0) (ca := 0) (pa := 0) hF (show (0 : Int) + ((N 3).toNat : Int) = N 3 by omega) rfl rfl (by first | omega | (simp only [rmL, rmD]; omega)) (by first | omega | (simp only [rmL, rmD]; omega)))
theorem cw_isSame {G : GG} {h : Hp} {a : Nat} {N : Int → Int} {B : Bok} {S T : Nat → Prop} (hW : WN G h a N B S T) {K : Nat} (hs : SH h.2.1 N K) (hcl : CL h) (hK : K ≤ 600) (hU : UC N) (hL : LNs N) (hn : ∃ n, h.2.2.2 = some n) : Cy G ML_isSame (rmL 10 40 270) [rf G 38 0, rf G 51 a] h (fun v h1 => v = some (.int (iI 1)) ∧ Fr (fun _ => False) h h1) := by
  refine o_entry (by decide +kernel) mwL_isSame rfl (Nat.le_of_ble_eq_true rfl) ?_
  show YY G ML_isSame (rmL 10 40 270) 0 [(0, rf G 38 0), (1, rf G 51 a)] [] h 0 0 _
  refine o_bipush (pc := 0) (z := 8) dL_isSame_0 (by decide) ?_
  refine o_sizeD (fun q hq => ?_) hn
  refine o_newI (pc := 2) (N := 8) dL_isSame_2 hq rfl (Nat.le_of_ble_eq_true rfl) (Nat.le_of_ble_eq_true rfl) (Nat.le_of_ble_eq_true rfl) (fun fq => ?_)
  have S0 := SA.nw (tg := 0) (len := 8) (Fr.rf (S := fun _ => False) hn) fq
  have V0 := hW.fr0 S0.1
  refine o_dup (pc := 4) dL_isSame_4 rfl ?_
  refine o_iconst (pc := 5) dL_isSame_5 ?_
  refine o_aload_n (pc := 6) dL_isSame_6 1 rfl ?_
  refine o_gR (pc := 7) (j := 10) (56) ((B.1 3)) dL_isSame_7 flL_81 rfl rfl V0.mW (V0.r 3) ?_
  refine o_callV (pc := 10) _ dL_isSame_10 (cl_size (V0.l 3)) lkL_73 rfl rfl rfl rfl (V0.l 3).1 ⟨⟨(Nat.le_of_ble_eq_true rfl), (Nat.le_of_ble_eq_true rfl)⟩, (Nat.le_of_ble_eq_true rfl), (Nat.le_of_ble_eq_true rfl)⟩ (Nat.le_of_ble_eq_true rfl) rfl (fun v h2 hq2 => ?_)
  obtain ⟨rfl, rfl⟩ := hq2
  refine o_topI (y := N 3) (by have nn := (hW.nb 3).1; change 0 ≤ N 3 at nn; show (((N 3).toNat : Nat) : Int) = _; omega) ?_
  refine o_isI (pc := 13) dL_isSame_13 (shp_ak (by decide)) nw_in (by omega) (by omega) ?_
  have S1 := S0.set fq 0 (N 3)
  have V1 := hW.fr0 S1.1
  refine o_dup (pc := 14) dL_isSame_14 rfl ?_
  refine o_iconst (pc := 15) dL_isSame_15 ?_
  refine o_aload_n (pc := 16) dL_isSame_16 1 rfl ?_
  refine o_gR (pc := 17) (j := 7) (56) ((B.1 0)) dL_isSame_17 flL_56 rfl rfl V1.mW (V1.r 0) ?_
  refine o_callV (pc := 20) _ dL_isSame_20 (cl_size (V1.l 0)) lkL_73 rfl rfl rfl rfl (V1.l 0).1 ⟨⟨(Nat.le_of_ble_eq_true rfl), (Nat.le_of_ble_eq_true rfl)⟩, (Nat.le_of_ble_eq_true rfl), (Nat.le_of_ble_eq_true rfl)⟩ (Nat.le_of_ble_eq_true rfl) rfl (fun v h2 hq2 => ?_)
  obtain ⟨rfl, rfl⟩ := hq2
  refine o_topI (y := N 4) (by have nn := (hW.nb 0).1; change 0 ≤ N 4 at nn; show (((N 4).toNat : Nat) : Int) = _; omega) ?_
  refine o_isI (pc := 23) dL_isSame_23 (shp_ak (by decide)) nw_in (by omega) (by omega) ?_
  have S2 := S1.set fq 1 (N 4)
  have V2 := hW.fr0 S2.1
  refine o_dup (pc := 24) dL_isSame_24 rfl ?_
  refine o_iconst (pc := 25) dL_isSame_25 ?_
  refine o_aload_n (pc := 26) dL_isSame_26 1 rfl ?_
  refine o_gR (pc := 27) (j := 11) (56) ((B.1 4)) dL_isSame_27 flL_100 rfl rfl V2.mW (V2.r 4) ?_
  refine o_callV (pc := 30) _ dL_isSame_30 (cl_size (V2.l 4)) lkL_73 rfl rfl rfl rfl (V2.l 4).1 ⟨⟨(Nat.le_of_ble_eq_true rfl), (Nat.le_of_ble_eq_true rfl)⟩, (Nat.le_of_ble_eq_true rfl), (Nat.le_of_ble_eq_true rfl)⟩ (Nat.le_of_ble_eq_true rfl) rfl (fun v h2 hq2 => ?_)
  obtain ⟨rfl, rfl⟩ := hq2
  refine o_topI (y := N 5) (by have nn := (hW.nb 4).1; change 0 ≤ N 5 at nn; show (((N 5).toNat : Nat) : Int) = _; omega) ?_
  refine o_isI (pc := 33) dL_isSame_33 (shp_ak (by decide)) nw_in (by omega) (by omega) ?_
  have S3 := S2.set fq 2 (N 5)
  have V3 := hW.fr0 S3.1
  refine o_dup (pc := 34) dL_isSame_34 rfl ?_
  refine o_iconst (pc := 35) dL_isSame_35 ?_
  refine o_aload_n (pc := 36) dL_isSame_36 1 rfl ?_
  refine o_gR (pc := 37) (j := 8) (56) ((B.1 1)) dL_isSame_37 flL_118 rfl rfl V3.mW (V3.r 1) ?_
  refine o_callV (pc := 40) _ dL_isSame_40 (cl_size (V3.l 1)) lkL_73 rfl rfl rfl rfl (V3.l 1).1 ⟨⟨(Nat.le_of_ble_eq_true rfl), (Nat.le_of_ble_eq_true rfl)⟩, (Nat.le_of_ble_eq_true rfl), (Nat.le_of_ble_eq_true rfl)⟩ (Nat.le_of_ble_eq_true rfl) rfl (fun v h2 hq2 => ?_)
  obtain ⟨rfl, rfl⟩ := hq2
  refine o_topI (y := N 6) (by have nn := (hW.nb 1).1; change 0 ≤ N 6 at nn; show (((N 6).toNat : Nat) : Int) = _; omega) ?_
  refine o_isI (pc := 43) dL_isSame_43 (shp_ak (by decide)) nw_in (by omega) (by omega) ?_
  have S4 := S3.set fq 3 (N 6)
  have V4 := hW.fr0 S4.1
  refine o_dup (pc := 44) dL_isSame_44 rfl ?_
  refine o_iconst (pc := 45) dL_isSame_45 ?_
  refine o_aload_n (pc := 46) dL_isSame_46 1 rfl ?_
  refine o_gR (pc := 47) (j := 9) (56) ((B.1 2)) dL_isSame_47 flL_124 rfl rfl V4.mW (V4.r 2) ?_
  refine o_callV (pc := 50) _ dL_isSame_50 (cl_size (V4.l 2)) lkL_73 rfl rfl rfl rfl (V4.l 2).1 ⟨⟨(Nat.le_of_ble_eq_true rfl), (Nat.le_of_ble_eq_true rfl)⟩, (Nat.le_of_ble_eq_true rfl), (Nat.le_of_ble_eq_true rfl)⟩ (Nat.le_of_ble_eq_true rfl) rfl (fun v h2 hq2 => ?_)
  obtain ⟨rfl, rfl⟩ := hq2
  refine o_topI (y := N 7) (by have nn := (hW.nb 2).1; change 0 ≤ N 7 at nn; show (((N 7).toNat : Nat) : Int) = _; omega) ?_
  refine o_isI (pc := 53) dL_isSame_53 (shp_ak (by decide)) nw_in (by omega) (by omega) ?_
  have S5 := S4.set fq 4 (N 7)
  have V5 := hW.fr0 S5.1
  refine o_dup (pc := 54) dL_isSame_54 rfl ?_
  refine o_iconst (pc := 55) dL_isSame_55 ?_
  refine o_aload_n (pc := 56) dL_isSame_56 1 rfl ?_
  refine o_gR (pc := 57) (j := 12) (56) ((B.1 5)) dL_isSame_57 flL_139 rfl rfl V5.mW (V5.r 5) ?_
  refine o_callV (pc := 60) _ dL_isSame_60 (cl_size (V5.l 5)) lkL_73 rfl rfl rfl rfl (V5.l 5).1 ⟨⟨(Nat.le_of_ble_eq_true rfl), (Nat.le_of_ble_eq_true rfl)⟩, (Nat.le_of_ble_eq_true rfl), (Nat.le_of_ble_eq_true rfl)⟩ (Nat.le_of_ble_eq_true rfl) rfl (fun v h2 hq2 => ?_)
  obtain ⟨rfl, rfl⟩ := hq2
  refine o_topI (y := N 8) (by have nn := (hW.nb 5).1; change 0 ≤ N 8 at nn; show (((N 8).toNat : Nat) : Int) = _; omega) ?_
  refine o_isI (pc := 63) dL_isSame_63 (shp_ak (by decide)) nw_in (by omega) (by omega) ?_
  have S6 := S5.set fq 5 (N 8)
  have V6 := hW.fr0 S6.1
  refine o_dup (pc := 64) dL_isSame_64 rfl ?_
  refine o_bipush (pc := 65) (z := 6) dL_isSame_65 (by decide) ?_
  refine o_aload_n (pc := 67) dL_isSame_67 1 rfl ?_
  refine o_gR (pc := 68) (j := 13) (56) ((B.1 6)) dL_isSame_68 flL_159 rfl rfl V6.mW (V6.r 6) ?_
  refine o_callV (pc := 71) _ dL_isSame_71 (cl_size (V6.l 6)) lkL_73 rfl rfl rfl rfl (V6.l 6).1 ⟨⟨(Nat.le_of_ble_eq_true rfl), (Nat.le_of_ble_eq_true rfl)⟩, (Nat.le_of_ble_eq_true rfl), (Nat.le_of_ble_eq_true rfl)⟩ (Nat.le_of_ble_eq_true rfl) rfl (fun v h2 hq2 => ?_)
  obtain ⟨rfl, rfl⟩ := hq2
  refine o_topI (y := N 9) (by have nn := (hW.nb 6).1; change 0 ≤ N 9 at nn; show (((N 9).toNat : Nat) : Int) = _; omega) ?_
  refine o_isI (pc := 74) dL_isSame_74 (shp_ak (by decide)) nw_in (by omega) (by omega) ?_
  have S7 := S6.set fq 6 (N 9)
  have V7 := hW.fr0 S7.1
  refine o_dup (pc := 75) dL_isSame_75 rfl ?_
  refine o_bipush (pc := 76) (z := 7) dL_isSame_76 (by decide) ?_
  refine o_aload_n (pc := 78) dL_isSame_78 1 rfl ?_
  refine o_iconst (pc := 79) dL_isSame_79 ?_
  refine o_callS (pc := 80) _ dL_isSame_80 (cw_open V7 (x := -1) (by unfold inI; omega) (by omega) hL S7.1.2.2.2.2) lkL_183 rfl ⟨⟨(Nat.le_of_ble_eq_true rfl), (Nat.le_of_ble_eq_true rfl)⟩, (Nat.le_of_ble_eq_true rfl), (Nat.le_of_ble_eq_true rfl)⟩ (Nat.le_of_ble_eq_true rfl) rfl (fun v h2 hq2 => ?_)
  obtain ⟨rfl, FO⟩ := hq2
  have S7b := S7.f0 FO
  refine o_isI (pc := 83) dL_isSame_83 (shp_ak (by decide)) S7b.2.1 (by omega) (by omega) ?_
  have S8 := S7b.set fq 7 (sm (openFN N (-1)) (N 9).toNat)
  refine o_astore_n (pc := 84) (lv' := [(2, _), (0, _), (1, _)]) dL_isSame_84 rfl (by decide) rfl ?_
  refine o_iconst (pc := 85) dL_isSame_85 ?_
  refine o_istore_n (pc := 86) (lv' := [(3, _), (2, _), (0, _), (1, _)]) dL_isSame_86 rfl (by decide) rfl ?_
  exact o_lv [2, 3, 1, 0] rfl (is_cnt hW hs hcl hK (by first | omega | (simp only [rmL, rmD]; omega)) (by first | omega | (simp only [rmL, rmD]; omega)) (fun H1 hF1 => is_112 hW hs hcl hK hU hF1 (by first | omega | (simp only [rmL, rmD]; omega)) (by first | omega | (simp only [rmL, rmD]; omega))) 8 (cur := 0) (S8.cg (fun j a0 b0 => by
      have e9 : j = 0 ∨ j = 1 ∨ j = 2 ∨ j = 3 ∨ j = 4 ∨ j = 5 ∨ j = 6 ∨ j = 7 := by omega
      rcases e9 with rfl | rfl | rfl | rfl | rfl | rfl | rfl | rfl <;> rfl)) rfl)
