/-! drawn: cables -/
set_option maxRecDepth 20000 in
theorem dr_543 {G : GG} {h : Hp} {a b v0 : Nat} (hL : gV G 21 ≤ 300) (m58 : (58, b) ∈ h.1) {v : Int} (hv : 0 ≤ v ∧ v < 2147483648) {cc pq cb5 : Int} (hcp : cb5 < pq ∨ cb5 ≤ 0) (hpq : 0 ≤ pq ∧ pq ≤ 4) {H : Hp} {N : Int → Int} {B : Bok} {S T : Nat → Prop} {L : List Int} {c0 s0 : Nat} (D : DW G h H a N B S T b v0 L) (hP : PR L N) (hb : BY L) (hR : RC N cc 0 0 pq cb5 0) (hl : L.length ≤ 205) (hcs : c0 ≤ 144) (hss : s0 ≤ 94500) : YY G ML_drawn (rmL 12 300 200000) 543 [(0, .ref (gV G 20)), (1, .int (iI 0)), (2, rf G 58 b), (3, rf G 51 a), (4, .int (iI v)), (5, .int (iI pq))] [] H c0 s0 (fun v h1 => ∃ L N B S T, v = some (rf G 51 a) ∧ DW G h h1 a N B S T b v0 L ∧ PR L N ∧ L.length ≤ 420 ∧ BY L ∧ UC N ∧ N 9 = 0 ∧ N 2 = 0) := by
  refine o_iconst (pc := 543) dL_drawn_543 ?_
  refine o_istore (pc := 544) (lv' := [(6, _), (0, _), (1, _), (2, _), (3, _), (4, _), (5, _)]) dL_drawn_544 (by decide) rfl ?_
  have e9 : (((v / 524288 % 4).toNat : Nat) : Int) = v / 524288 % 4 := by omega
  have e8 : (v / 524288 % 4).toNat ≤ 3 := by omega
  exact o_lv [1, 2, 3, 4, 5, 6, 0] rfl (lp_sun hL m58 hv hcp hpq (v / 524288 % 4).toNat (k := 0) D hP hb hR (by omega) (by omega) (by omega) (by omega))

set_option maxRecDepth 20000 in
theorem lp_cab {G : GG} {h : Hp} {a b v0 : Nat} (hL : gV G 21 ≤ 300) (m58 : (58, b) ∈ h.1) {v : Int} (hv : 0 ≤ v ∧ v < 2147483648) {cc pq : Int} (hpq : 0 ≤ pq ∧ pq ≤ 4) : ∀ (n : Nat) {H : Hp} {N : Int → Int} {B : Bok} {S T : Nat → Prop} {L : List Int} {k c0 s0 : Nat} (D : DW G h H a N B S T b v0 L) (hP : PR L N) (hb : BY L) (hR : RC N cc 0 0 pq ((k : Int) - 1) 0) (hk : 1 ≤ k ∧ ((k : Int) + n = pq ∨ n = 0 ∧ k = 1 ∧ pq ≤ 1)) (hl : L.length + 22 * n ≤ 205) (hcs : c0 + 10 * n ≤ 144) (hss : s0 + 10700 * n ≤ 94500), YY G ML_drawn (rmL 12 300 200000) 403 [(0, .ref (gV G 20)), (1, .int (iI 0)), (2, rf G 58 b), (3, rf G 51 a), (4, .int (iI v)), (5, .int (iI pq)), (6, .int (iI (k : Int)))] [] H c0 s0 (fun v h1 => ∃ L N B S T, v = some (rf G 51 a) ∧ DW G h h1 a N B S T b v0 L ∧ PR L N ∧ L.length ≤ 420 ∧ BY L ∧ UC N ∧ N 9 = 0 ∧ N 2 = 0) := by
  intro n
  induction n with
  | zero =>
    intro H N B S T L k c0 s0 D hP hb hR hk hl hcs hss
    have hm : ∀ i, i < 7 → 0 ≤ nj N i ∧ nj N i ≤ mxj i := fun i hi => (D.1.2.2.2.1 i hi).1
    refine o_uq (fun uH => ?_)
    refine o_iload (pc := 403) dL_drawn_403 6 rfl ?_
    refine o_iload (pc := 405) dL_drawn_405 5 rfl ?_
    refine o_icmp_ge (pc := 407) 543 dL_drawn_407 (by decide) (by unfold inI; omega) (by unfold inI; omega) (fun c_407 => ?_) (fun c_407 => (by exfalso; omega))
    exact o_lv [0, 1, 2, 3, 4, 5] rfl (dr_543 hL m58 hv (by omega) hpq D hP hb hR (lzs hl) (by (try simp only [rmL, List.length_cons, List.length_nil, Nat.add_assoc, Nat.reduceAdd, Nat.add_zero]); first | exact ckl hcs (Nat.le_of_ble_eq_true rfl) (Nat.le_of_ble_eq_true rfl) | exact ckl hss (Nat.le_of_ble_eq_true rfl) (Nat.le_of_ble_eq_true rfl) | exact ck0 hcs (Nat.le_of_ble_eq_true rfl) | exact ck0 hss (Nat.le_of_ble_eq_true rfl) | exact ckr hcs (Nat.le_of_ble_eq_true rfl) | exact ckr hss (Nat.le_of_ble_eq_true rfl) | exact ckz hcs (Nat.le_of_ble_eq_true rfl) | exact ckz hss (Nat.le_of_ble_eq_true rfl)) (by (try simp only [rmL, List.length_cons, List.length_nil, Nat.add_assoc, Nat.reduceAdd, Nat.add_zero]); first | exact ckl hcs (Nat.le_of_ble_eq_true rfl) (Nat.le_of_ble_eq_true rfl) | exact ckl hss (Nat.le_of_ble_eq_true rfl) (Nat.le_of_ble_eq_true rfl) | exact ck0 hcs (Nat.le_of_ble_eq_true rfl) | exact ck0 hss (Nat.le_of_ble_eq_true rfl) | exact ckr hcs (Nat.le_of_ble_eq_true rfl) | exact ckr hss (Nat.le_of_ble_eq_true rfl) | exact ckz hcs (Nat.le_of_ble_eq_true rfl) | exact ckz hss (Nat.le_of_ble_eq_true rfl)))
  | succ n ih =>
    intro H N B S T L k c0 s0 D hP hb hR hk hl hcs hss
    have hm : ∀ i, i < 7 → 0 ≤ nj N i ∧ nj N i ≤ mxj i := fun i hi => (D.1.2.2.2.1 i hi).1
    refine o_uq (fun uH => ?_)
    refine o_iload (pc := 403) dL_drawn_403 6 rfl ?_
    refine o_iload (pc := 405) dL_drawn_405 5 rfl ?_
    refine o_icmp_ge (pc := 407) 543 dL_drawn_407 (by decide) (by unfold inI; omega) (by unfold inI; omega) (fun c_407 => (by exfalso; omega)) (fun c_407 => ?_)
    refine o_aload_n (pc := 410) dL_drawn_410 0 rfl ?_
    refine o_iload_n (pc := 411) dL_drawn_411 1 rfl ?_
    refine o_bipush (pc := 412) (z := 9) dL_drawn_412 (by decide) ?_
    refine o_iadd (pc := 414) dL_drawn_414 ?_
    refine o_iload (pc := 415) dL_drawn_415 6 rfl ?_
    refine o_iadd (pc := 417) dL_drawn_417 ?_
    refine o_callS (pc := 418) _ dL_drawn_418 (cw_at hL (k := 0 + 9 + (k : Int)) (by omega)) lkL_30 rfl ⟨⟨(Nat.le_of_ble_eq_true rfl), (Nat.le_of_ble_eq_true rfl)⟩, (by (try simp only [rmL, List.length_cons, List.length_nil, Nat.add_assoc, Nat.reduceAdd, Nat.add_zero]); first | exact ckl hcs (Nat.le_of_ble_eq_true rfl) (Nat.le_of_ble_eq_true rfl) | exact ckl hss (Nat.le_of_ble_eq_true rfl) (Nat.le_of_ble_eq_true rfl) | exact ck0 hcs (Nat.le_of_ble_eq_true rfl) | exact ck0 hss (Nat.le_of_ble_eq_true rfl) | exact ckr hcs (Nat.le_of_ble_eq_true rfl) | exact ckr hss (Nat.le_of_ble_eq_true rfl) | exact ckz hcs (Nat.le_of_ble_eq_true rfl) | exact ckz hss (Nat.le_of_ble_eq_true rfl)), (by (try simp only [rmL, List.length_cons, List.length_nil, Nat.add_assoc, Nat.reduceAdd, Nat.add_zero]); first | exact ckl hcs (Nat.le_of_ble_eq_true rfl) (Nat.le_of_ble_eq_true rfl) | exact ckl hss (Nat.le_of_ble_eq_true rfl) (Nat.le_of_ble_eq_true rfl) | exact ck0 hcs (Nat.le_of_ble_eq_true rfl) | exact ck0 hss (Nat.le_of_ble_eq_true rfl) | exact ckr hcs (Nat.le_of_ble_eq_true rfl) | exact ckr hss (Nat.le_of_ble_eq_true rfl) | exact ckz hcs (Nat.le_of_ble_eq_true rfl) | exact ckz hss (Nat.le_of_ble_eq_true rfl))⟩ (Nat.le_of_ble_eq_true rfl) rfl (fun v h1 hq => ?_)
    obtain ⟨x, rfl, hx, e2⟩ := hq
    obtain rfl := e2.symm
    obtain ⟨y, hy, ya, yb⟩ : ∃ y : Int, x % (k : Int) = y ∧ 0 ≤ y ∧ y < (k : Int) := ⟨_, rfl, Int.emod_nonneg _ (by omega), Int.emod_lt_of_pos _ (by omega)⟩
    obtain ⟨ra, hra, r1⟩ : ∃ ra : Int, 1 + x / 16384 % 60 = ra ∧ 1 ≤ ra ∧ ra < 1000 := ⟨_, rfl, by omega, by omega⟩
    have n5 : N 5 = (k : Int) - 1 := hR.1.2.2.2.2.1
    have n3 : N 3 = pq := hR.1.2.2.2.1
    have n0 : 0 ≤ nj N 4 := (hm 4 (by decide)).1
    have qk : 0 ≤ (k : Int) ∧ (k : Int) < 1000 := by omega
    have qy : 0 ≤ y ∧ y < 1000 := by omega
    have qra : 0 ≤ ra ∧ ra < 1000 := by omega
    have hbn := hR.none (y := y) (by omega)
    rw [show (k : Int) - 1 + 1 = (k : Int) by omega] at hbn
    have hk2 : 1 ≤ k + 1 ∧ (((k + 1 : Nat) : Int) + n = pq ∨ n = 0 ∧ k + 1 = 1 ∧ pq ≤ 1) := by omega
    have hkp : (k : Int) < pq := by omega
    have z0 : L.length ≤ 183 := lz0 hl rfl
    refine o_istore (pc := 421) (lv' := [(7, _), (0, _), (1, _), (2, _), (3, _), (4, _), (5, _), (6, _)]) dL_drawn_421 (by decide) rfl ?_
    refine o_sizeD (fun e he => ?_) D.n
    refine o_new (pc := 423) (k := 53) dL_drawn_423 ncL_95 rfl (by decide) he (by (try simp only [rmL, List.length_cons, List.length_nil, Nat.add_assoc, Nat.reduceAdd, Nat.add_zero]); first | exact ckl hcs (Nat.le_of_ble_eq_true rfl) (Nat.le_of_ble_eq_true rfl) | exact ckl hss (Nat.le_of_ble_eq_true rfl) (Nat.le_of_ble_eq_true rfl) | exact ck0 hcs (Nat.le_of_ble_eq_true rfl) | exact ck0 hss (Nat.le_of_ble_eq_true rfl) | exact ckr hcs (Nat.le_of_ble_eq_true rfl) | exact ckr hss (Nat.le_of_ble_eq_true rfl) | exact ckz hcs (Nat.le_of_ble_eq_true rfl) | exact ckz hss (Nat.le_of_ble_eq_true rfl)) (by (try simp only [rmL, List.length_cons, List.length_nil, Nat.add_assoc, Nat.reduceAdd, Nat.add_zero]); first | exact ckl hcs (Nat.le_of_ble_eq_true rfl) (Nat.le_of_ble_eq_true rfl) | exact ckl hss (Nat.le_of_ble_eq_true rfl) (Nat.le_of_ble_eq_true rfl) | exact ck0 hcs (Nat.le_of_ble_eq_true rfl) | exact ck0 hss (Nat.le_of_ble_eq_true rfl) | exact ckr hcs (Nat.le_of_ble_eq_true rfl) | exact ckr hss (Nat.le_of_ble_eq_true rfl) | exact ckz hcs (Nat.le_of_ble_eq_true rfl) | exact ckz hss (Nat.le_of_ble_eq_true rfl)) (fun fe => ?_)
    have FN : Fr (fun _ => False) H (nw H 53 e) := Fr_nw (Fr.rf D.n) (by decide) fe
    have Dn := D.f0 FN
    refine o_dup (pc := 426) dL_drawn_426 rfl ?_
    refine o_iload (pc := 427) dL_drawn_427 7 rfl ?_
    refine o_iload (pc := 429) dL_drawn_429 0 rfl ?_
    refine o_iload (pc := 431) dL_drawn_431 7 rfl ?_
    refine o_irem (pc := 433) dL_drawn_433 (by omega) (by omega) ?_
    refine o_topI (y := y) hy ?_
    refine o_iload (pc := 434) dL_drawn_434 0 rfl ?_
    refine o_bipush (pc := 436) (z := 8) dL_drawn_436 (by decide) ?_
    refine o_idiv (pc := 438) dL_drawn_438 (by omega) (by omega) ?_
    refine o_iconst (pc := 439) dL_drawn_439 ?_
    refine o_irem (pc := 440) dL_drawn_440 (by omega) (by omega) ?_
    refine o_if_ne (pc := 441) 448 dL_drawn_441 (by decide) (by unfold inI; omega) (fun c_441 => ?_) (fun c_441 => ?_)
    · obtain ⟨lo, hlo, l1⟩ : ∃ lo : Int, x / 32 % 300 = lo ∧ 0 ≤ lo ∧ lo ≤ 900 := ⟨_, rfl, by omega, by omega⟩
      have qlo : 0 ≤ lo ∧ lo < 1000 := by omega
      have hN := RDS.cable (N := N) (x := (k : Int)) (y := y) (lo := lo) (ra := ra) (by omega) (by omega) (by omega) l1 r1 (by omega) hbn
      refine o_iload (pc := 448) dL_drawn_448 0 rfl ?_
      refine o_bipush (pc := 450) (z := 32) dL_drawn_450 (by decide) ?_
      refine o_idiv (pc := 452) dL_drawn_452 (by omega) (by omega) ?_
      refine o_sipush (pc := 453) (z := 300) dL_drawn_453 (by decide) ?_
      refine o_irem (pc := 456) dL_drawn_456 (by omega) (by omega) ?_
      refine o_topI (y := lo) hlo ?_
      refine o_iconst (pc := 457) dL_drawn_457 ?_
      refine o_iload (pc := 458) dL_drawn_458 0 rfl ?_
      refine o_sipush (pc := 460) (z := 16384) dL_drawn_460 (by decide) ?_
      refine o_idiv (pc := 463) dL_drawn_463 (by omega) (by omega) ?_
      refine o_bipush (pc := 464) (z := 60) dL_drawn_464 (by decide) ?_
      refine o_irem (pc := 466) dL_drawn_466 (by omega) (by omega) ?_
      refine o_iadd (pc := 467) dL_drawn_467 ?_
      refine o_topI (y := ra) hra ?_
      refine o_callI (pc := 468) _ dL_drawn_468 (cw_ini53 nw_in) lkL_97 rfl rfl ⟨⟨(Nat.le_of_ble_eq_true rfl), (Nat.le_of_ble_eq_true rfl)⟩, (by (try simp only [rmL, List.length_cons, List.length_nil, Nat.add_assoc, Nat.reduceAdd, Nat.add_zero]); first | exact ckl hcs (Nat.le_of_ble_eq_true rfl) (Nat.le_of_ble_eq_true rfl) | exact ckl hss (Nat.le_of_ble_eq_true rfl) (Nat.le_of_ble_eq_true rfl) | exact ck0 hcs (Nat.le_of_ble_eq_true rfl) | exact ck0 hss (Nat.le_of_ble_eq_true rfl) | exact ckr hcs (Nat.le_of_ble_eq_true rfl) | exact ckr hss (Nat.le_of_ble_eq_true rfl) | exact ckz hcs (Nat.le_of_ble_eq_true rfl) | exact ckz hss (Nat.le_of_ble_eq_true rfl)), (by (try simp only [rmL, List.length_cons, List.length_nil, Nat.add_assoc, Nat.reduceAdd, Nat.add_zero]); first | exact ckl hcs (Nat.le_of_ble_eq_true rfl) (Nat.le_of_ble_eq_true rfl) | exact ckl hss (Nat.le_of_ble_eq_true rfl) (Nat.le_of_ble_eq_true rfl) | exact ck0 hcs (Nat.le_of_ble_eq_true rfl) | exact ck0 hss (Nat.le_of_ble_eq_true rfl) | exact ckr hcs (Nat.le_of_ble_eq_true rfl) | exact ckr hss (Nat.le_of_ble_eq_true rfl) | exact ckz hcs (Nat.le_of_ble_eq_true rfl) | exact ckz hss (Nat.le_of_ble_eq_true rfl))⟩ (Nat.le_of_ble_eq_true rfl) rfl (fun v H9 hq => ?_)
      obtain ⟨rfl, e2⟩ := hq
      have FI : Fr (fun _ => False) H H9 := by rw [e2]; exact Fr_hset (Fr_hset (Fr_hset (Fr_hset FN (by decide) (.inr fe)) (by decide) (.inr fe)) (by decide) (.inr fe)) (by decide) (.inr fe)
      have m2 : (53, e) ∈ H9.1 := by rw [e2]; exact nw_in
      have vv : ∀ f : Nat, f < 6 → H9.2.1 53 e (f : Int) = v5 (k : Int) y lo ra 0 (f : Int) := fun f hf => by
        rw [e2]
        simp only [hset_q, nw_m]
        match f, hf with
        | 0, _ => rfl
        | 1, _ => rfl
        | 2, _ => rfl
        | 3, _ => rfl
        | 4, _ => rfl
        | 5, _ => rfl
        | n + 6, hf => exact absurd hf (by omega)
      clear e2
      have Da := D.f0 FI
      refine o_astore (pc := 471) (lv' := [(8, _), (7, _), (0, _), (1, _), (2, _), (3, _), (4, _), (5, _), (6, _)]) dL_drawn_471 (by decide) rfl ?_
      refine o_aload_n (pc := 473) dL_drawn_473 5 rfl ?_
      refine o_gR (pc := 474) (j := 11) (56) ((B.1 4)) dL_drawn_474 flL_100 rfl rfl Da.1.mW (Da.1.r 4) ?_
      refine o_aload (pc := 477) dL_drawn_477 0 rfl ?_
      refine o_callV (pc := 479) _ dL_drawn_479 (cl_add (Da.1.l 4) Da.n (by have := Da.1.nb 4; have e9 : mxj 4 ≤ 16 := (by decide); omega) (a := pk 4) (e := e) (pk_isE 4) m2) lkL_60 rfl rfl rfl rfl (Da.1.l 4).1 ⟨⟨(Nat.le_of_ble_eq_true rfl), (Nat.le_of_ble_eq_true rfl)⟩, (by (try simp only [rmL, List.length_cons, List.length_nil, Nat.add_assoc, Nat.reduceAdd, Nat.add_zero]); first | exact ckl hcs (Nat.le_of_ble_eq_true rfl) (Nat.le_of_ble_eq_true rfl) | exact ckl hss (Nat.le_of_ble_eq_true rfl) (Nat.le_of_ble_eq_true rfl) | exact ck0 hcs (Nat.le_of_ble_eq_true rfl) | exact ck0 hss (Nat.le_of_ble_eq_true rfl) | exact ckr hcs (Nat.le_of_ble_eq_true rfl) | exact ckr hss (Nat.le_of_ble_eq_true rfl) | exact ckz hcs (Nat.le_of_ble_eq_true rfl) | exact ckz hss (Nat.le_of_ble_eq_true rfl)), (by (try simp only [rmL, List.length_cons, List.length_nil, Nat.add_assoc, Nat.reduceAdd, Nat.add_zero]); first | exact ckl hcs (Nat.le_of_ble_eq_true rfl) (Nat.le_of_ble_eq_true rfl) | exact ckl hss (Nat.le_of_ble_eq_true rfl) (Nat.le_of_ble_eq_true rfl) | exact ck0 hcs (Nat.le_of_ble_eq_true rfl) | exact ck0 hss (Nat.le_of_ble_eq_true rfl) | exact ckr hcs (Nat.le_of_ble_eq_true rfl) | exact ckr hss (Nat.le_of_ble_eq_true rfl) | exact ckz hcs (Nat.le_of_ble_eq_true rfl) | exact ckz hss (Nat.le_of_ble_eq_true rfl))⟩ (Nat.le_of_ble_eq_true rfl) rfl (fun v H0 hq => ?_)
      obtain ⟨rfl, k1, b1, hA0, FA0, hbb⟩ := hq
      refine o_uq (fun u0 => ?_)
      have D0 := D.add uH FI u0 4 (by decide) hA0 FA0 hbb m2 fe (by show N 5 + 1 ≤ 12; omega) (v := v5 (k : Int) y lo ra 0) (fun f hf => vv f hf)
      obtain ⟨y0, q0, B0, hv0⟩ := D0.2.2.1
      refine o_pop (pc := 482) dL_drawn_482 rfl ?_
      refine o_aload_n (pc := 483) dL_drawn_483 4 rfl ?_
      refine o_ldcS (pc := 484) ";cable " 11 dL_drawn_484 (by decide +kernel) ?_
      refine o_callV (pc := 486) _ dL_drawn_486 (cb_addS (t := 11) B0 D0.n (Nat.le_trans z0 (Nat.le_of_ble_eq_true rfl)) (by decide)) lkL_45 rfl rfl rfl rfl B0.1 ⟨⟨(Nat.le_of_ble_eq_true rfl), (Nat.le_of_ble_eq_true rfl)⟩, (by (try simp only [rmL, List.length_cons, List.length_nil, Nat.add_assoc, Nat.reduceAdd, Nat.add_zero]); first | exact ckl hcs (Nat.le_of_ble_eq_true rfl) (Nat.le_of_ble_eq_true rfl) | exact ckl hss (Nat.le_of_ble_eq_true rfl) (Nat.le_of_ble_eq_true rfl) | exact ck0 hcs (Nat.le_of_ble_eq_true rfl) | exact ck0 hss (Nat.le_of_ble_eq_true rfl) | exact ckr hcs (Nat.le_of_ble_eq_true rfl) | exact ckr hss (Nat.le_of_ble_eq_true rfl) | exact ckz hcs (Nat.le_of_ble_eq_true rfl) | exact ckz hss (Nat.le_of_ble_eq_true rfl)), (by (try simp only [rmL, List.length_cons, List.length_nil, Nat.add_assoc, Nat.reduceAdd, Nat.add_zero]); first | exact ckl hcs (Nat.le_of_ble_eq_true rfl) (Nat.le_of_ble_eq_true rfl) | exact ckl hss (Nat.le_of_ble_eq_true rfl) (Nat.le_of_ble_eq_true rfl) | exact ck0 hcs (Nat.le_of_ble_eq_true rfl) | exact ck0 hss (Nat.le_of_ble_eq_true rfl) | exact ckr hcs (Nat.le_of_ble_eq_true rfl) | exact ckr hss (Nat.le_of_ble_eq_true rfl) | exact ckz hcs (Nat.le_of_ble_eq_true rfl) | exact ckz hss (Nat.le_of_ble_eq_true rfl))⟩ (Nat.le_of_ble_eq_true rfl) rfl (fun v H1 hq => ?_)
      obtain ⟨rfl, y1, q1, B1, G1, w1⟩ := hq
      refine o_uq (fun u1 => ?_)
      obtain ⟨D1, hv1⟩ := D0.app u0 B0 hv0 B1 G1 w1
      have z1 := lz (m' := 190) z0 (Nat.le_of_eq lit_l11) rfl
      refine o_aload (pc := 489) dL_drawn_489 0 rfl ?_
      refine o_gI (pc := 491) (j := 0) dL_drawn_491 flL_105 rfl rfl (DW.new D1 (by decide) n0).1 ((DW.new D1 (by decide) n0).2 0 (by decide)) ?_
      refine o_topI (y := (k : Int)) rfl ?_
      refine o_callV (pc := 494) _ dL_drawn_494 (cb_addI B1 D1.n (Nat.le_trans z1 (Nat.le_of_ble_eq_true rfl)) (n := (k : Int)) qk.1 qk.2) lkL_50 rfl rfl rfl rfl B1.1 ⟨⟨(Nat.le_of_ble_eq_true rfl), (Nat.le_of_ble_eq_true rfl)⟩, (by (try simp only [rmL, List.length_cons, List.length_nil, Nat.add_assoc, Nat.reduceAdd, Nat.add_zero]); first | exact ckl hcs (Nat.le_of_ble_eq_true rfl) (Nat.le_of_ble_eq_true rfl) | exact ckl hss (Nat.le_of_ble_eq_true rfl) (Nat.le_of_ble_eq_true rfl) | exact ck0 hcs (Nat.le_of_ble_eq_true rfl) | exact ck0 hss (Nat.le_of_ble_eq_true rfl) | exact ckr hcs (Nat.le_of_ble_eq_true rfl) | exact ckr hss (Nat.le_of_ble_eq_true rfl) | exact ckz hcs (Nat.le_of_ble_eq_true rfl) | exact ckz hss (Nat.le_of_ble_eq_true rfl)), (by (try simp only [rmL, List.length_cons, List.length_nil, Nat.add_assoc, Nat.reduceAdd, Nat.add_zero]); first | exact ckl hcs (Nat.le_of_ble_eq_true rfl) (Nat.le_of_ble_eq_true rfl) | exact ckl hss (Nat.le_of_ble_eq_true rfl) (Nat.le_of_ble_eq_true rfl) | exact ck0 hcs (Nat.le_of_ble_eq_true rfl) | exact ck0 hss (Nat.le_of_ble_eq_true rfl) | exact ckr hcs (Nat.le_of_ble_eq_true rfl) | exact ckr hss (Nat.le_of_ble_eq_true rfl) | exact ckz hcs (Nat.le_of_ble_eq_true rfl) | exact ckz hss (Nat.le_of_ble_eq_true rfl))⟩ (Nat.le_of_ble_eq_true rfl) rfl (fun v H2 hq => ?_)
      obtain ⟨rfl, y2, q2, B2, G2, w2⟩ := hq
      refine o_uq (fun u2 => ?_)
      obtain ⟨D2, hv2⟩ := D1.app u1 B1 hv1 B2 G2 w2
      have z2 := lz (m' := 193) z1 (dg_len (k : Int)).2 rfl
      refine o_bipush (pc := 497) (z := 32) dL_drawn_497 (by decide) ?_
      refine o_callV (pc := 499) _ dL_drawn_499 (cb_addC B2 D2.n (Nat.le_trans z2 (Nat.le_of_ble_eq_true rfl)) (z := 32) (by decide)) lkL_53 rfl rfl rfl rfl B2.1 ⟨⟨(Nat.le_of_ble_eq_true rfl), (Nat.le_of_ble_eq_true rfl)⟩, (by (try simp only [rmL, List.length_cons, List.length_nil, Nat.add_assoc, Nat.reduceAdd, Nat.add_zero]); first | exact ckl hcs (Nat.le_of_ble_eq_true rfl) (Nat.le_of_ble_eq_true rfl) | exact ckl hss (Nat.le_of_ble_eq_true rfl) (Nat.le_of_ble_eq_true rfl) | exact ck0 hcs (Nat.le_of_ble_eq_true rfl) | exact ck0 hss (Nat.le_of_ble_eq_true rfl) | exact ckr hcs (Nat.le_of_ble_eq_true rfl) | exact ckr hss (Nat.le_of_ble_eq_true rfl) | exact ckz hcs (Nat.le_of_ble_eq_true rfl) | exact ckz hss (Nat.le_of_ble_eq_true rfl)), (by (try simp only [rmL, List.length_cons, List.length_nil, Nat.add_assoc, Nat.reduceAdd, Nat.add_zero]); first | exact ckl hcs (Nat.le_of_ble_eq_true rfl) (Nat.le_of_ble_eq_true rfl) | exact ckl hss (Nat.le_of_ble_eq_true rfl) (Nat.le_of_ble_eq_true rfl) | exact ck0 hcs (Nat.le_of_ble_eq_true rfl) | exact ck0 hss (Nat.le_of_ble_eq_true rfl) | exact ckr hcs (Nat.le_of_ble_eq_true rfl) | exact ckr hss (Nat.le_of_ble_eq_true rfl) | exact ckz hcs (Nat.le_of_ble_eq_true rfl) | exact ckz hss (Nat.le_of_ble_eq_true rfl))⟩ (Nat.le_of_ble_eq_true rfl) rfl (fun v H3 hq => ?_)
      obtain ⟨rfl, y3, q3, B3, G3, w3⟩ := hq
      refine o_uq (fun u3 => ?_)
      obtain ⟨D3, hv3⟩ := D2.app u2 B2 hv2 B3 G3 w3
      have z3 := lz (m' := 194) z2 (show ([32] : List Int).length ≤ 1 from Nat.le_refl 1) rfl
      refine o_aload (pc := 502) dL_drawn_502 0 rfl ?_
      refine o_gI (pc := 504) (j := 1) dL_drawn_504 flL_108 rfl rfl (DW.new D3 (by decide) n0).1 ((DW.new D3 (by decide) n0).2 1 (by decide)) ?_
      refine o_topI (y := y) rfl ?_
      refine o_callV (pc := 507) _ dL_drawn_507 (cb_addI B3 D3.n (Nat.le_trans z3 (Nat.le_of_ble_eq_true rfl)) (n := y) qy.1 qy.2) lkL_50 rfl rfl rfl rfl B3.1 ⟨⟨(Nat.le_of_ble_eq_true rfl), (Nat.le_of_ble_eq_true rfl)⟩, (by (try simp only [rmL, List.length_cons, List.length_nil, Nat.add_assoc, Nat.reduceAdd, Nat.add_zero]); first | exact ckl hcs (Nat.le_of_ble_eq_true rfl) (Nat.le_of_ble_eq_true rfl) | exact ckl hss (Nat.le_of_ble_eq_true rfl) (Nat.le_of_ble_eq_true rfl) | exact ck0 hcs (Nat.le_of_ble_eq_true rfl) | exact ck0 hss (Nat.le_of_ble_eq_true rfl) | exact ckr hcs (Nat.le_of_ble_eq_true rfl) | exact ckr hss (Nat.le_of_ble_eq_true rfl) | exact ckz hcs (Nat.le_of_ble_eq_true rfl) | exact ckz hss (Nat.le_of_ble_eq_true rfl)), (by (try simp only [rmL, List.length_cons, List.length_nil, Nat.add_assoc, Nat.reduceAdd, Nat.add_zero]); first | exact ckl hcs (Nat.le_of_ble_eq_true rfl) (Nat.le_of_ble_eq_true rfl) | exact ckl hss (Nat.le_of_ble_eq_true rfl) (Nat.le_of_ble_eq_true rfl) | exact ck0 hcs (Nat.le_of_ble_eq_true rfl) | exact ck0 hss (Nat.le_of_ble_eq_true rfl) | exact ckr hcs (Nat.le_of_ble_eq_true rfl) | exact ckr hss (Nat.le_of_ble_eq_true rfl) | exact ckz hcs (Nat.le_of_ble_eq_true rfl) | exact ckz hss (Nat.le_of_ble_eq_true rfl))⟩ (Nat.le_of_ble_eq_true rfl) rfl (fun v H4 hq => ?_)
      obtain ⟨rfl, y4, q4, B4, G4, w4⟩ := hq
      refine o_uq (fun u4 => ?_)
      obtain ⟨D4, hv4⟩ := D3.app u3 B3 hv3 B4 G4 w4
      have z4 := lz (m' := 197) z3 (dg_len y).2 rfl
      refine o_bipush (pc := 510) (z := 32) dL_drawn_510 (by decide) ?_
      refine o_callV (pc := 512) _ dL_drawn_512 (cb_addC B4 D4.n (Nat.le_trans z4 (Nat.le_of_ble_eq_true rfl)) (z := 32) (by decide)) lkL_53 rfl rfl rfl rfl B4.1 ⟨⟨(Nat.le_of_ble_eq_true rfl), (Nat.le_of_ble_eq_true rfl)⟩, (by (try simp only [rmL, List.length_cons, List.length_nil, Nat.add_assoc, Nat.reduceAdd, Nat.add_zero]); first | exact ckl hcs (Nat.le_of_ble_eq_true rfl) (Nat.le_of_ble_eq_true rfl) | exact ckl hss (Nat.le_of_ble_eq_true rfl) (Nat.le_of_ble_eq_true rfl) | exact ck0 hcs (Nat.le_of_ble_eq_true rfl) | exact ck0 hss (Nat.le_of_ble_eq_true rfl) | exact ckr hcs (Nat.le_of_ble_eq_true rfl) | exact ckr hss (Nat.le_of_ble_eq_true rfl) | exact ckz hcs (Nat.le_of_ble_eq_true rfl) | exact ckz hss (Nat.le_of_ble_eq_true rfl)), (by (try simp only [rmL, List.length_cons, List.length_nil, Nat.add_assoc, Nat.reduceAdd, Nat.add_zero]); first | exact ckl hcs (Nat.le_of_ble_eq_true rfl) (Nat.le_of_ble_eq_true rfl) | exact ckl hss (Nat.le_of_ble_eq_true rfl) (Nat.le_of_ble_eq_true rfl) | exact ck0 hcs (Nat.le_of_ble_eq_true rfl) | exact ck0 hss (Nat.le_of_ble_eq_true rfl) | exact ckr hcs (Nat.le_of_ble_eq_true rfl) | exact ckr hss (Nat.le_of_ble_eq_true rfl) | exact ckz hcs (Nat.le_of_ble_eq_true rfl) | exact ckz hss (Nat.le_of_ble_eq_true rfl))⟩ (Nat.le_of_ble_eq_true rfl) rfl (fun v H5 hq => ?_)
      obtain ⟨rfl, y5, q5, B5, G5, w5⟩ := hq
      refine o_uq (fun u5 => ?_)
      obtain ⟨D5, hv5⟩ := D4.app u4 B4 hv4 B5 G5 w5
      have z5 := lz (m' := 198) z4 (show ([32] : List Int).length ≤ 1 from Nat.le_refl 1) rfl
      refine o_aload (pc := 515) dL_drawn_515 0 rfl ?_
      refine o_gI (pc := 517) (j := 2) dL_drawn_517 flL_111 rfl rfl (DW.new D5 (by decide) n0).1 ((DW.new D5 (by decide) n0).2 2 (by decide)) ?_
      refine o_topI (y := lo) rfl ?_
      refine o_callV (pc := 520) _ dL_drawn_520 (cb_addI B5 D5.n (Nat.le_trans z5 (Nat.le_of_ble_eq_true rfl)) (n := lo) qlo.1 qlo.2) lkL_50 rfl rfl rfl rfl B5.1 ⟨⟨(Nat.le_of_ble_eq_true rfl), (Nat.le_of_ble_eq_true rfl)⟩, (by (try simp only [rmL, List.length_cons, List.length_nil, Nat.add_assoc, Nat.reduceAdd, Nat.add_zero]); first | exact ckl hcs (Nat.le_of_ble_eq_true rfl) (Nat.le_of_ble_eq_true rfl) | exact ckl hss (Nat.le_of_ble_eq_true rfl) (Nat.le_of_ble_eq_true rfl) | exact ck0 hcs (Nat.le_of_ble_eq_true rfl) | exact ck0 hss (Nat.le_of_ble_eq_true rfl) | exact ckr hcs (Nat.le_of_ble_eq_true rfl) | exact ckr hss (Nat.le_of_ble_eq_true rfl) | exact ckz hcs (Nat.le_of_ble_eq_true rfl) | exact ckz hss (Nat.le_of_ble_eq_true rfl)), (by (try simp only [rmL, List.length_cons, List.length_nil, Nat.add_assoc, Nat.reduceAdd, Nat.add_zero]); first | exact ckl hcs (Nat.le_of_ble_eq_true rfl) (Nat.le_of_ble_eq_true rfl) | exact ckl hss (Nat.le_of_ble_eq_true rfl) (Nat.le_of_ble_eq_true rfl) | exact ck0 hcs (Nat.le_of_ble_eq_true rfl) | exact ck0 hss (Nat.le_of_ble_eq_true rfl) | exact ckr hcs (Nat.le_of_ble_eq_true rfl) | exact ckr hss (Nat.le_of_ble_eq_true rfl) | exact ckz hcs (Nat.le_of_ble_eq_true rfl) | exact ckz hss (Nat.le_of_ble_eq_true rfl))⟩ (Nat.le_of_ble_eq_true rfl) rfl (fun v H6 hq => ?_)
      obtain ⟨rfl, y6, q6, B6, G6, w6⟩ := hq
      refine o_uq (fun u6 => ?_)
      obtain ⟨D6, hv6⟩ := D5.app u5 B5 hv5 B6 G6 w6
      have z6 := lz (m' := 201) z5 (dg_len lo).2 rfl
      refine o_bipush (pc := 523) (z := 32) dL_drawn_523 (by decide) ?_
      refine o_callV (pc := 525) _ dL_drawn_525 (cb_addC B6 D6.n (Nat.le_trans z6 (Nat.le_of_ble_eq_true rfl)) (z := 32) (by decide)) lkL_53 rfl rfl rfl rfl B6.1 ⟨⟨(Nat.le_of_ble_eq_true rfl), (Nat.le_of_ble_eq_true rfl)⟩, (by (try simp only [rmL, List.length_cons, List.length_nil, Nat.add_assoc, Nat.reduceAdd, Nat.add_zero]); first | exact ckl hcs (Nat.le_of_ble_eq_true rfl) (Nat.le_of_ble_eq_true rfl) | exact ckl hss (Nat.le_of_ble_eq_true rfl) (Nat.le_of_ble_eq_true rfl) | exact ck0 hcs (Nat.le_of_ble_eq_true rfl) | exact ck0 hss (Nat.le_of_ble_eq_true rfl) | exact ckr hcs (Nat.le_of_ble_eq_true rfl) | exact ckr hss (Nat.le_of_ble_eq_true rfl) | exact ckz hcs (Nat.le_of_ble_eq_true rfl) | exact ckz hss (Nat.le_of_ble_eq_true rfl)), (by (try simp only [rmL, List.length_cons, List.length_nil, Nat.add_assoc, Nat.reduceAdd, Nat.add_zero]); first | exact ckl hcs (Nat.le_of_ble_eq_true rfl) (Nat.le_of_ble_eq_true rfl) | exact ckl hss (Nat.le_of_ble_eq_true rfl) (Nat.le_of_ble_eq_true rfl) | exact ck0 hcs (Nat.le_of_ble_eq_true rfl) | exact ck0 hss (Nat.le_of_ble_eq_true rfl) | exact ckr hcs (Nat.le_of_ble_eq_true rfl) | exact ckr hss (Nat.le_of_ble_eq_true rfl) | exact ckz hcs (Nat.le_of_ble_eq_true rfl) | exact ckz hss (Nat.le_of_ble_eq_true rfl))⟩ (Nat.le_of_ble_eq_true rfl) rfl (fun v H7 hq => ?_)
      obtain ⟨rfl, y7, q7, B7, G7, w7⟩ := hq
      refine o_uq (fun u7 => ?_)
      obtain ⟨D7, hv7⟩ := D6.app u6 B6 hv6 B7 G7 w7
      have z7 := lz (m' := 202) z6 (show ([32] : List Int).length ≤ 1 from Nat.le_refl 1) rfl
      refine o_aload (pc := 528) dL_drawn_528 0 rfl ?_
      refine o_gI (pc := 530) (j := 3) dL_drawn_530 flL_114 rfl rfl (DW.new D7 (by decide) n0).1 ((DW.new D7 (by decide) n0).2 3 (by decide)) ?_
      refine o_topI (y := ra) rfl ?_
      refine o_callV (pc := 533) _ dL_drawn_533 (cb_addI B7 D7.n (Nat.le_trans z7 (Nat.le_of_ble_eq_true rfl)) (n := ra) qra.1 qra.2) lkL_50 rfl rfl rfl rfl B7.1 ⟨⟨(Nat.le_of_ble_eq_true rfl), (Nat.le_of_ble_eq_true rfl)⟩, (by (try simp only [rmL, List.length_cons, List.length_nil, Nat.add_assoc, Nat.reduceAdd, Nat.add_zero]); first | exact ckl hcs (Nat.le_of_ble_eq_true rfl) (Nat.le_of_ble_eq_true rfl) | exact ckl hss (Nat.le_of_ble_eq_true rfl) (Nat.le_of_ble_eq_true rfl) | exact ck0 hcs (Nat.le_of_ble_eq_true rfl) | exact ck0 hss (Nat.le_of_ble_eq_true rfl) | exact ckr hcs (Nat.le_of_ble_eq_true rfl) | exact ckr hss (Nat.le_of_ble_eq_true rfl) | exact ckz hcs (Nat.le_of_ble_eq_true rfl) | exact ckz hss (Nat.le_of_ble_eq_true rfl)), (by (try simp only [rmL, List.length_cons, List.length_nil, Nat.add_assoc, Nat.reduceAdd, Nat.add_zero]); first | exact ckl hcs (Nat.le_of_ble_eq_true rfl) (Nat.le_of_ble_eq_true rfl) | exact ckl hss (Nat.le_of_ble_eq_true rfl) (Nat.le_of_ble_eq_true rfl) | exact ck0 hcs (Nat.le_of_ble_eq_true rfl) | exact ck0 hss (Nat.le_of_ble_eq_true rfl) | exact ckr hcs (Nat.le_of_ble_eq_true rfl) | exact ckr hss (Nat.le_of_ble_eq_true rfl) | exact ckz hcs (Nat.le_of_ble_eq_true rfl) | exact ckz hss (Nat.le_of_ble_eq_true rfl))⟩ (Nat.le_of_ble_eq_true rfl) rfl (fun v H8 hq => ?_)
      obtain ⟨rfl, y8, q8, B8, G8, w8⟩ := hq
      refine o_uq (fun u8 => ?_)
      obtain ⟨D8, hv8⟩ := D7.app u7 B7 hv7 B8 G8 w8
      have z8 := lz (m' := 205) z7 (dg_len ra).2 rfl
      refine o_pop (pc := 536) dL_drawn_536 rfl ?_
      refine o_iinc (pc := 537) (lv' := [(6, _), (8, _), (7, _), (0, _), (1, _), (2, _), (3, _), (4, _), (5, _)]) dL_drawn_537 8 rfl (by decide) rfl ?_
      refine o_goto (pc := 540) 403 dL_drawn_540 (by decide) ?_
      obtain ⟨hP2, hb2, hl2⟩ := k_cab hP hb hN qk qy qlo qra
      have hR2 := hR.ad4 (v := v5 (k : Int) y lo ra 0) (by omega) (fun i hi => (hm i hi).2) (by show (k : Int) = _; omega) ⟨ya, by show y ≤ _; omega⟩
      rw [show (k : Int) - 1 + 1 = ((k + 1 : Nat) : Int) - 1 by omega] at hR2
      exact o_lv [3, 4, 5, 6, 7, 8, 0] rfl (ih (k := k + 1) D8 hP2 hb2 hR2 hk2 (lzn hl hl2) (by (try simp only [rmL, List.length_cons, List.length_nil, Nat.add_assoc, Nat.reduceAdd, Nat.add_zero]); first | exact ckl hcs (Nat.le_of_ble_eq_true rfl) (Nat.le_of_ble_eq_true rfl) | exact ckl hss (Nat.le_of_ble_eq_true rfl) (Nat.le_of_ble_eq_true rfl) | exact ck0 hcs (Nat.le_of_ble_eq_true rfl) | exact ck0 hss (Nat.le_of_ble_eq_true rfl) | exact ckr hcs (Nat.le_of_ble_eq_true rfl) | exact ckr hss (Nat.le_of_ble_eq_true rfl) | exact ckz hcs (Nat.le_of_ble_eq_true rfl) | exact ckz hss (Nat.le_of_ble_eq_true rfl)) (by (try simp only [rmL, List.length_cons, List.length_nil, Nat.add_assoc, Nat.reduceAdd, Nat.add_zero]); first | exact ckl hcs (Nat.le_of_ble_eq_true rfl) (Nat.le_of_ble_eq_true rfl) | exact ckl hss (Nat.le_of_ble_eq_true rfl) (Nat.le_of_ble_eq_true rfl) | exact ck0 hcs (Nat.le_of_ble_eq_true rfl) | exact ck0 hss (Nat.le_of_ble_eq_true rfl) | exact ckr hcs (Nat.le_of_ble_eq_true rfl) | exact ckr hss (Nat.le_of_ble_eq_true rfl) | exact ckz hcs (Nat.le_of_ble_eq_true rfl) | exact ckz hss (Nat.le_of_ble_eq_true rfl)))
    · obtain ⟨lo, hlo, l1⟩ : ∃ lo : Int, (0 : Int) = lo ∧ 0 ≤ lo ∧ lo ≤ 900 := ⟨_, rfl, by decide, by decide⟩
      have qlo : 0 ≤ lo ∧ lo < 1000 := by omega
      have hN := RDS.cable (N := N) (x := (k : Int)) (y := y) (lo := lo) (ra := ra) (by omega) (by omega) (by omega) l1 r1 (by omega) hbn
      refine o_iconst (pc := 444) dL_drawn_444 ?_
      refine o_topI (y := lo) hlo ?_
      refine o_goto (pc := 445) 457 dL_drawn_445 (by decide) ?_
      refine o_iconst (pc := 457) dL_drawn_457 ?_
      refine o_iload (pc := 458) dL_drawn_458 0 rfl ?_
      refine o_sipush (pc := 460) (z := 16384) dL_drawn_460 (by decide) ?_
      refine o_idiv (pc := 463) dL_drawn_463 (by omega) (by omega) ?_
      refine o_bipush (pc := 464) (z := 60) dL_drawn_464 (by decide) ?_
      refine o_irem (pc := 466) dL_drawn_466 (by omega) (by omega) ?_
      refine o_iadd (pc := 467) dL_drawn_467 ?_
      refine o_topI (y := ra) hra ?_
      refine o_callI (pc := 468) _ dL_drawn_468 (cw_ini53 nw_in) lkL_97 rfl rfl ⟨⟨(Nat.le_of_ble_eq_true rfl), (Nat.le_of_ble_eq_true rfl)⟩, (by (try simp only [rmL, List.length_cons, List.length_nil, Nat.add_assoc, Nat.reduceAdd, Nat.add_zero]); first | exact ckl hcs (Nat.le_of_ble_eq_true rfl) (Nat.le_of_ble_eq_true rfl) | exact ckl hss (Nat.le_of_ble_eq_true rfl) (Nat.le_of_ble_eq_true rfl) | exact ck0 hcs (Nat.le_of_ble_eq_true rfl) | exact ck0 hss (Nat.le_of_ble_eq_true rfl) | exact ckr hcs (Nat.le_of_ble_eq_true rfl) | exact ckr hss (Nat.le_of_ble_eq_true rfl) | exact ckz hcs (Nat.le_of_ble_eq_true rfl) | exact ckz hss (Nat.le_of_ble_eq_true rfl)), (by (try simp only [rmL, List.length_cons, List.length_nil, Nat.add_assoc, Nat.reduceAdd, Nat.add_zero]); first | exact ckl hcs (Nat.le_of_ble_eq_true rfl) (Nat.le_of_ble_eq_true rfl) | exact ckl hss (Nat.le_of_ble_eq_true rfl) (Nat.le_of_ble_eq_true rfl) | exact ck0 hcs (Nat.le_of_ble_eq_true rfl) | exact ck0 hss (Nat.le_of_ble_eq_true rfl) | exact ckr hcs (Nat.le_of_ble_eq_true rfl) | exact ckr hss (Nat.le_of_ble_eq_true rfl) | exact ckz hcs (Nat.le_of_ble_eq_true rfl) | exact ckz hss (Nat.le_of_ble_eq_true rfl))⟩ (Nat.le_of_ble_eq_true rfl) rfl (fun v H9 hq => ?_)
      obtain ⟨rfl, e2⟩ := hq
      have FI : Fr (fun _ => False) H H9 := by rw [e2]; exact Fr_hset (Fr_hset (Fr_hset (Fr_hset FN (by decide) (.inr fe)) (by decide) (.inr fe)) (by decide) (.inr fe)) (by decide) (.inr fe)
      have m2 : (53, e) ∈ H9.1 := by rw [e2]; exact nw_in
      have vv : ∀ f : Nat, f < 6 → H9.2.1 53 e (f : Int) = v5 (k : Int) y lo ra 0 (f : Int) := fun f hf => by
        rw [e2]
        simp only [hset_q, nw_m]
        match f, hf with
        | 0, _ => rfl
        | 1, _ => rfl
        | 2, _ => rfl
        | 3, _ => rfl
        | 4, _ => rfl
        | 5, _ => rfl
        | n + 6, hf => exact absurd hf (by omega)
      clear e2
      have Da := D.f0 FI
      refine o_astore (pc := 471) (lv' := [(8, _), (7, _), (0, _), (1, _), (2, _), (3, _), (4, _), (5, _), (6, _)]) dL_drawn_471 (by decide) rfl ?_
      refine o_aload_n (pc := 473) dL_drawn_473 5 rfl ?_
      refine o_gR (pc := 474) (j := 11) (56) ((B.1 4)) dL_drawn_474 flL_100 rfl rfl Da.1.mW (Da.1.r 4) ?_
      refine o_aload (pc := 477) dL_drawn_477 0 rfl ?_
      refine o_callV (pc := 479) _ dL_drawn_479 (cl_add (Da.1.l 4) Da.n (by have := Da.1.nb 4; have e9 : mxj 4 ≤ 16 := (by decide); omega) (a := pk 4) (e := e) (pk_isE 4) m2) lkL_60 rfl rfl rfl rfl (Da.1.l 4).1 ⟨⟨(Nat.le_of_ble_eq_true rfl), (Nat.le_of_ble_eq_true rfl)⟩, (by (try simp only [rmL, List.length_cons, List.length_nil, Nat.add_assoc, Nat.reduceAdd, Nat.add_zero]); first | exact ckl hcs (Nat.le_of_ble_eq_true rfl) (Nat.le_of_ble_eq_true rfl) | exact ckl hss (Nat.le_of_ble_eq_true rfl) (Nat.le_of_ble_eq_true rfl) | exact ck0 hcs (Nat.le_of_ble_eq_true rfl) | exact ck0 hss (Nat.le_of_ble_eq_true rfl) | exact ckr hcs (Nat.le_of_ble_eq_true rfl) | exact ckr hss (Nat.le_of_ble_eq_true rfl) | exact ckz hcs (Nat.le_of_ble_eq_true rfl) | exact ckz hss (Nat.le_of_ble_eq_true rfl)), (by (try simp only [rmL, List.length_cons, List.length_nil, Nat.add_assoc, Nat.reduceAdd, Nat.add_zero]); first | exact ckl hcs (Nat.le_of_ble_eq_true rfl) (Nat.le_of_ble_eq_true rfl) | exact ckl hss (Nat.le_of_ble_eq_true rfl) (Nat.le_of_ble_eq_true rfl) | exact ck0 hcs (Nat.le_of_ble_eq_true rfl) | exact ck0 hss (Nat.le_of_ble_eq_true rfl) | exact ckr hcs (Nat.le_of_ble_eq_true rfl) | exact ckr hss (Nat.le_of_ble_eq_true rfl) | exact ckz hcs (Nat.le_of_ble_eq_true rfl) | exact ckz hss (Nat.le_of_ble_eq_true rfl))⟩ (Nat.le_of_ble_eq_true rfl) rfl (fun v H0 hq => ?_)
      obtain ⟨rfl, k1, b1, hA0, FA0, hbb⟩ := hq
      refine o_uq (fun u0 => ?_)
      have D0 := D.add uH FI u0 4 (by decide) hA0 FA0 hbb m2 fe (by show N 5 + 1 ≤ 12; omega) (v := v5 (k : Int) y lo ra 0) (fun f hf => vv f hf)
      obtain ⟨y0, q0, B0, hv0⟩ := D0.2.2.1
      refine o_pop (pc := 482) dL_drawn_482 rfl ?_
      refine o_aload_n (pc := 483) dL_drawn_483 4 rfl ?_
      refine o_ldcS (pc := 484) ";cable " 11 dL_drawn_484 (by decide +kernel) ?_
      refine o_callV (pc := 486) _ dL_drawn_486 (cb_addS (t := 11) B0 D0.n (Nat.le_trans z0 (Nat.le_of_ble_eq_true rfl)) (by decide)) lkL_45 rfl rfl rfl rfl B0.1 ⟨⟨(Nat.le_of_ble_eq_true rfl), (Nat.le_of_ble_eq_true rfl)⟩, (by (try simp only [rmL, List.length_cons, List.length_nil, Nat.add_assoc, Nat.reduceAdd, Nat.add_zero]); first | exact ckl hcs (Nat.le_of_ble_eq_true rfl) (Nat.le_of_ble_eq_true rfl) | exact ckl hss (Nat.le_of_ble_eq_true rfl) (Nat.le_of_ble_eq_true rfl) | exact ck0 hcs (Nat.le_of_ble_eq_true rfl) | exact ck0 hss (Nat.le_of_ble_eq_true rfl) | exact ckr hcs (Nat.le_of_ble_eq_true rfl) | exact ckr hss (Nat.le_of_ble_eq_true rfl) | exact ckz hcs (Nat.le_of_ble_eq_true rfl) | exact ckz hss (Nat.le_of_ble_eq_true rfl)), (by (try simp only [rmL, List.length_cons, List.length_nil, Nat.add_assoc, Nat.reduceAdd, Nat.add_zero]); first | exact ckl hcs (Nat.le_of_ble_eq_true rfl) (Nat.le_of_ble_eq_true rfl) | exact ckl hss (Nat.le_of_ble_eq_true rfl) (Nat.le_of_ble_eq_true rfl) | exact ck0 hcs (Nat.le_of_ble_eq_true rfl) | exact ck0 hss (Nat.le_of_ble_eq_true rfl) | exact ckr hcs (Nat.le_of_ble_eq_true rfl) | exact ckr hss (Nat.le_of_ble_eq_true rfl) | exact ckz hcs (Nat.le_of_ble_eq_true rfl) | exact ckz hss (Nat.le_of_ble_eq_true rfl))⟩ (Nat.le_of_ble_eq_true rfl) rfl (fun v H1 hq => ?_)
      obtain ⟨rfl, y1, q1, B1, G1, w1⟩ := hq
      refine o_uq (fun u1 => ?_)
      obtain ⟨D1, hv1⟩ := D0.app u0 B0 hv0 B1 G1 w1
      have z1 := lz (m' := 190) z0 (Nat.le_of_eq lit_l11) rfl
      refine o_aload (pc := 489) dL_drawn_489 0 rfl ?_
      refine o_gI (pc := 491) (j := 0) dL_drawn_491 flL_105 rfl rfl (DW.new D1 (by decide) n0).1 ((DW.new D1 (by decide) n0).2 0 (by decide)) ?_
      refine o_topI (y := (k : Int)) rfl ?_
      refine o_callV (pc := 494) _ dL_drawn_494 (cb_addI B1 D1.n (Nat.le_trans z1 (Nat.le_of_ble_eq_true rfl)) (n := (k : Int)) qk.1 qk.2) lkL_50 rfl rfl rfl rfl B1.1 ⟨⟨(Nat.le_of_ble_eq_true rfl), (Nat.le_of_ble_eq_true rfl)⟩, (by (try simp only [rmL, List.length_cons, List.length_nil, Nat.add_assoc, Nat.reduceAdd, Nat.add_zero]); first | exact ckl hcs (Nat.le_of_ble_eq_true rfl) (Nat.le_of_ble_eq_true rfl) | exact ckl hss (Nat.le_of_ble_eq_true rfl) (Nat.le_of_ble_eq_true rfl) | exact ck0 hcs (Nat.le_of_ble_eq_true rfl) | exact ck0 hss (Nat.le_of_ble_eq_true rfl) | exact ckr hcs (Nat.le_of_ble_eq_true rfl) | exact ckr hss (Nat.le_of_ble_eq_true rfl) | exact ckz hcs (Nat.le_of_ble_eq_true rfl) | exact ckz hss (Nat.le_of_ble_eq_true rfl)), (by (try simp only [rmL, List.length_cons, List.length_nil, Nat.add_assoc, Nat.reduceAdd, Nat.add_zero]); first | exact ckl hcs (Nat.le_of_ble_eq_true rfl) (Nat.le_of_ble_eq_true rfl) | exact ckl hss (Nat.le_of_ble_eq_true rfl) (Nat.le_of_ble_eq_true rfl) | exact ck0 hcs (Nat.le_of_ble_eq_true rfl) | exact ck0 hss (Nat.le_of_ble_eq_true rfl) | exact ckr hcs (Nat.le_of_ble_eq_true rfl) | exact ckr hss (Nat.le_of_ble_eq_true rfl) | exact ckz hcs (Nat.le_of_ble_eq_true rfl) | exact ckz hss (Nat.le_of_ble_eq_true rfl))⟩ (Nat.le_of_ble_eq_true rfl) rfl (fun v H2 hq => ?_)
      obtain ⟨rfl, y2, q2, B2, G2, w2⟩ := hq
      refine o_uq (fun u2 => ?_)
      obtain ⟨D2, hv2⟩ := D1.app u1 B1 hv1 B2 G2 w2
      have z2 := lz (m' := 193) z1 (dg_len (k : Int)).2 rfl
      refine o_bipush (pc := 497) (z := 32) dL_drawn_497 (by decide) ?_
      refine o_callV (pc := 499) _ dL_drawn_499 (cb_addC B2 D2.n (Nat.le_trans z2 (Nat.le_of_ble_eq_true rfl)) (z := 32) (by decide)) lkL_53 rfl rfl rfl rfl B2.1 ⟨⟨(Nat.le_of_ble_eq_true rfl), (Nat.le_of_ble_eq_true rfl)⟩, (by (try simp only [rmL, List.length_cons, List.length_nil, Nat.add_assoc, Nat.reduceAdd, Nat.add_zero]); first | exact ckl hcs (Nat.le_of_ble_eq_true rfl) (Nat.le_of_ble_eq_true rfl) | exact ckl hss (Nat.le_of_ble_eq_true rfl) (Nat.le_of_ble_eq_true rfl) | exact ck0 hcs (Nat.le_of_ble_eq_true rfl) | exact ck0 hss (Nat.le_of_ble_eq_true rfl) | exact ckr hcs (Nat.le_of_ble_eq_true rfl) | exact ckr hss (Nat.le_of_ble_eq_true rfl) | exact ckz hcs (Nat.le_of_ble_eq_true rfl) | exact ckz hss (Nat.le_of_ble_eq_true rfl)), (by (try simp only [rmL, List.length_cons, List.length_nil, Nat.add_assoc, Nat.reduceAdd, Nat.add_zero]); first | exact ckl hcs (Nat.le_of_ble_eq_true rfl) (Nat.le_of_ble_eq_true rfl) | exact ckl hss (Nat.le_of_ble_eq_true rfl) (Nat.le_of_ble_eq_true rfl) | exact ck0 hcs (Nat.le_of_ble_eq_true rfl) | exact ck0 hss (Nat.le_of_ble_eq_true rfl) | exact ckr hcs (Nat.le_of_ble_eq_true rfl) | exact ckr hss (Nat.le_of_ble_eq_true rfl) | exact ckz hcs (Nat.le_of_ble_eq_true rfl) | exact ckz hss (Nat.le_of_ble_eq_true rfl))⟩ (Nat.le_of_ble_eq_true rfl) rfl (fun v H3 hq => ?_)
      obtain ⟨rfl, y3, q3, B3, G3, w3⟩ := hq
      refine o_uq (fun u3 => ?_)
      obtain ⟨D3, hv3⟩ := D2.app u2 B2 hv2 B3 G3 w3
      have z3 := lz (m' := 194) z2 (show ([32] : List Int).length ≤ 1 from Nat.le_refl 1) rfl
      refine o_aload (pc := 502) dL_drawn_502 0 rfl ?_
      refine o_gI (pc := 504) (j := 1) dL_drawn_504 flL_108 rfl rfl (DW.new D3 (by decide) n0).1 ((DW.new D3 (by decide) n0).2 1 (by decide)) ?_
      refine o_topI (y := y) rfl ?_
      refine o_callV (pc := 507) _ dL_drawn_507 (cb_addI B3 D3.n (Nat.le_trans z3 (Nat.le_of_ble_eq_true rfl)) (n := y) qy.1 qy.2) lkL_50 rfl rfl rfl rfl B3.1 ⟨⟨(Nat.le_of_ble_eq_true rfl), (Nat.le_of_ble_eq_true rfl)⟩, (by (try simp only [rmL, List.length_cons, List.length_nil, Nat.add_assoc, Nat.reduceAdd, Nat.add_zero]); first | exact ckl hcs (Nat.le_of_ble_eq_true rfl) (Nat.le_of_ble_eq_true rfl) | exact ckl hss (Nat.le_of_ble_eq_true rfl) (Nat.le_of_ble_eq_true rfl) | exact ck0 hcs (Nat.le_of_ble_eq_true rfl) | exact ck0 hss (Nat.le_of_ble_eq_true rfl) | exact ckr hcs (Nat.le_of_ble_eq_true rfl) | exact ckr hss (Nat.le_of_ble_eq_true rfl) | exact ckz hcs (Nat.le_of_ble_eq_true rfl) | exact ckz hss (Nat.le_of_ble_eq_true rfl)), (by (try simp only [rmL, List.length_cons, List.length_nil, Nat.add_assoc, Nat.reduceAdd, Nat.add_zero]); first | exact ckl hcs (Nat.le_of_ble_eq_true rfl) (Nat.le_of_ble_eq_true rfl) | exact ckl hss (Nat.le_of_ble_eq_true rfl) (Nat.le_of_ble_eq_true rfl) | exact ck0 hcs (Nat.le_of_ble_eq_true rfl) | exact ck0 hss (Nat.le_of_ble_eq_true rfl) | exact ckr hcs (Nat.le_of_ble_eq_true rfl) | exact ckr hss (Nat.le_of_ble_eq_true rfl) | exact ckz hcs (Nat.le_of_ble_eq_true rfl) | exact ckz hss (Nat.le_of_ble_eq_true rfl))⟩ (Nat.le_of_ble_eq_true rfl) rfl (fun v H4 hq => ?_)
      obtain ⟨rfl, y4, q4, B4, G4, w4⟩ := hq
      refine o_uq (fun u4 => ?_)
      obtain ⟨D4, hv4⟩ := D3.app u3 B3 hv3 B4 G4 w4
      have z4 := lz (m' := 197) z3 (dg_len y).2 rfl
      refine o_bipush (pc := 510) (z := 32) dL_drawn_510 (by decide) ?_
      refine o_callV (pc := 512) _ dL_drawn_512 (cb_addC B4 D4.n (Nat.le_trans z4 (Nat.le_of_ble_eq_true rfl)) (z := 32) (by decide)) lkL_53 rfl rfl rfl rfl B4.1 ⟨⟨(Nat.le_of_ble_eq_true rfl), (Nat.le_of_ble_eq_true rfl)⟩, (by (try simp only [rmL, List.length_cons, List.length_nil, Nat.add_assoc, Nat.reduceAdd, Nat.add_zero]); first | exact ckl hcs (Nat.le_of_ble_eq_true rfl) (Nat.le_of_ble_eq_true rfl) | exact ckl hss (Nat.le_of_ble_eq_true rfl) (Nat.le_of_ble_eq_true rfl) | exact ck0 hcs (Nat.le_of_ble_eq_true rfl) | exact ck0 hss (Nat.le_of_ble_eq_true rfl) | exact ckr hcs (Nat.le_of_ble_eq_true rfl) | exact ckr hss (Nat.le_of_ble_eq_true rfl) | exact ckz hcs (Nat.le_of_ble_eq_true rfl) | exact ckz hss (Nat.le_of_ble_eq_true rfl)), (by (try simp only [rmL, List.length_cons, List.length_nil, Nat.add_assoc, Nat.reduceAdd, Nat.add_zero]); first | exact ckl hcs (Nat.le_of_ble_eq_true rfl) (Nat.le_of_ble_eq_true rfl) | exact ckl hss (Nat.le_of_ble_eq_true rfl) (Nat.le_of_ble_eq_true rfl) | exact ck0 hcs (Nat.le_of_ble_eq_true rfl) | exact ck0 hss (Nat.le_of_ble_eq_true rfl) | exact ckr hcs (Nat.le_of_ble_eq_true rfl) | exact ckr hss (Nat.le_of_ble_eq_true rfl) | exact ckz hcs (Nat.le_of_ble_eq_true rfl) | exact ckz hss (Nat.le_of_ble_eq_true rfl))⟩ (Nat.le_of_ble_eq_true rfl) rfl (fun v H5 hq => ?_)
      obtain ⟨rfl, y5, q5, B5, G5, w5⟩ := hq
      refine o_uq (fun u5 => ?_)
      obtain ⟨D5, hv5⟩ := D4.app u4 B4 hv4 B5 G5 w5
      have z5 := lz (m' := 198) z4 (show ([32] : List Int).length ≤ 1 from Nat.le_refl 1) rfl
      refine o_aload (pc := 515) dL_drawn_515 0 rfl ?_
      refine o_gI (pc := 517) (j := 2) dL_drawn_517 flL_111 rfl rfl (DW.new D5 (by decide) n0).1 ((DW.new D5 (by decide) n0).2 2 (by decide)) ?_
      refine o_topI (y := lo) rfl ?_
      refine o_callV (pc := 520) _ dL_drawn_520 (cb_addI B5 D5.n (Nat.le_trans z5 (Nat.le_of_ble_eq_true rfl)) (n := lo) qlo.1 qlo.2) lkL_50 rfl rfl rfl rfl B5.1 ⟨⟨(Nat.le_of_ble_eq_true rfl), (Nat.le_of_ble_eq_true rfl)⟩, (by (try simp only [rmL, List.length_cons, List.length_nil, Nat.add_assoc, Nat.reduceAdd, Nat.add_zero]); first | exact ckl hcs (Nat.le_of_ble_eq_true rfl) (Nat.le_of_ble_eq_true rfl) | exact ckl hss (Nat.le_of_ble_eq_true rfl) (Nat.le_of_ble_eq_true rfl) | exact ck0 hcs (Nat.le_of_ble_eq_true rfl) | exact ck0 hss (Nat.le_of_ble_eq_true rfl) | exact ckr hcs (Nat.le_of_ble_eq_true rfl) | exact ckr hss (Nat.le_of_ble_eq_true rfl) | exact ckz hcs (Nat.le_of_ble_eq_true rfl) | exact ckz hss (Nat.le_of_ble_eq_true rfl)), (by (try simp only [rmL, List.length_cons, List.length_nil, Nat.add_assoc, Nat.reduceAdd, Nat.add_zero]); first | exact ckl hcs (Nat.le_of_ble_eq_true rfl) (Nat.le_of_ble_eq_true rfl) | exact ckl hss (Nat.le_of_ble_eq_true rfl) (Nat.le_of_ble_eq_true rfl) | exact ck0 hcs (Nat.le_of_ble_eq_true rfl) | exact ck0 hss (Nat.le_of_ble_eq_true rfl) | exact ckr hcs (Nat.le_of_ble_eq_true rfl) | exact ckr hss (Nat.le_of_ble_eq_true rfl) | exact ckz hcs (Nat.le_of_ble_eq_true rfl) | exact ckz hss (Nat.le_of_ble_eq_true rfl))⟩ (Nat.le_of_ble_eq_true rfl) rfl (fun v H6 hq => ?_)
      obtain ⟨rfl, y6, q6, B6, G6, w6⟩ := hq
      refine o_uq (fun u6 => ?_)
      obtain ⟨D6, hv6⟩ := D5.app u5 B5 hv5 B6 G6 w6
      have z6 := lz (m' := 201) z5 (dg_len lo).2 rfl
      refine o_bipush (pc := 523) (z := 32) dL_drawn_523 (by decide) ?_
      refine o_callV (pc := 525) _ dL_drawn_525 (cb_addC B6 D6.n (Nat.le_trans z6 (Nat.le_of_ble_eq_true rfl)) (z := 32) (by decide)) lkL_53 rfl rfl rfl rfl B6.1 ⟨⟨(Nat.le_of_ble_eq_true rfl), (Nat.le_of_ble_eq_true rfl)⟩, (by (try simp only [rmL, List.length_cons, List.length_nil, Nat.add_assoc, Nat.reduceAdd, Nat.add_zero]); first | exact ckl hcs (Nat.le_of_ble_eq_true rfl) (Nat.le_of_ble_eq_true rfl) | exact ckl hss (Nat.le_of_ble_eq_true rfl) (Nat.le_of_ble_eq_true rfl) | exact ck0 hcs (Nat.le_of_ble_eq_true rfl) | exact ck0 hss (Nat.le_of_ble_eq_true rfl) | exact ckr hcs (Nat.le_of_ble_eq_true rfl) | exact ckr hss (Nat.le_of_ble_eq_true rfl) | exact ckz hcs (Nat.le_of_ble_eq_true rfl) | exact ckz hss (Nat.le_of_ble_eq_true rfl)), (by (try simp only [rmL, List.length_cons, List.length_nil, Nat.add_assoc, Nat.reduceAdd, Nat.add_zero]); first | exact ckl hcs (Nat.le_of_ble_eq_true rfl) (Nat.le_of_ble_eq_true rfl) | exact ckl hss (Nat.le_of_ble_eq_true rfl) (Nat.le_of_ble_eq_true rfl) | exact ck0 hcs (Nat.le_of_ble_eq_true rfl) | exact ck0 hss (Nat.le_of_ble_eq_true rfl) | exact ckr hcs (Nat.le_of_ble_eq_true rfl) | exact ckr hss (Nat.le_of_ble_eq_true rfl) | exact ckz hcs (Nat.le_of_ble_eq_true rfl) | exact ckz hss (Nat.le_of_ble_eq_true rfl))⟩ (Nat.le_of_ble_eq_true rfl) rfl (fun v H7 hq => ?_)
      obtain ⟨rfl, y7, q7, B7, G7, w7⟩ := hq
      refine o_uq (fun u7 => ?_)
      obtain ⟨D7, hv7⟩ := D6.app u6 B6 hv6 B7 G7 w7
      have z7 := lz (m' := 202) z6 (show ([32] : List Int).length ≤ 1 from Nat.le_refl 1) rfl
      refine o_aload (pc := 528) dL_drawn_528 0 rfl ?_
      refine o_gI (pc := 530) (j := 3) dL_drawn_530 flL_114 rfl rfl (DW.new D7 (by decide) n0).1 ((DW.new D7 (by decide) n0).2 3 (by decide)) ?_
      refine o_topI (y := ra) rfl ?_
      refine o_callV (pc := 533) _ dL_drawn_533 (cb_addI B7 D7.n (Nat.le_trans z7 (Nat.le_of_ble_eq_true rfl)) (n := ra) qra.1 qra.2) lkL_50 rfl rfl rfl rfl B7.1 ⟨⟨(Nat.le_of_ble_eq_true rfl), (Nat.le_of_ble_eq_true rfl)⟩, (by (try simp only [rmL, List.length_cons, List.length_nil, Nat.add_assoc, Nat.reduceAdd, Nat.add_zero]); first | exact ckl hcs (Nat.le_of_ble_eq_true rfl) (Nat.le_of_ble_eq_true rfl) | exact ckl hss (Nat.le_of_ble_eq_true rfl) (Nat.le_of_ble_eq_true rfl) | exact ck0 hcs (Nat.le_of_ble_eq_true rfl) | exact ck0 hss (Nat.le_of_ble_eq_true rfl) | exact ckr hcs (Nat.le_of_ble_eq_true rfl) | exact ckr hss (Nat.le_of_ble_eq_true rfl) | exact ckz hcs (Nat.le_of_ble_eq_true rfl) | exact ckz hss (Nat.le_of_ble_eq_true rfl)), (by (try simp only [rmL, List.length_cons, List.length_nil, Nat.add_assoc, Nat.reduceAdd, Nat.add_zero]); first | exact ckl hcs (Nat.le_of_ble_eq_true rfl) (Nat.le_of_ble_eq_true rfl) | exact ckl hss (Nat.le_of_ble_eq_true rfl) (Nat.le_of_ble_eq_true rfl) | exact ck0 hcs (Nat.le_of_ble_eq_true rfl) | exact ck0 hss (Nat.le_of_ble_eq_true rfl) | exact ckr hcs (Nat.le_of_ble_eq_true rfl) | exact ckr hss (Nat.le_of_ble_eq_true rfl) | exact ckz hcs (Nat.le_of_ble_eq_true rfl) | exact ckz hss (Nat.le_of_ble_eq_true rfl))⟩ (Nat.le_of_ble_eq_true rfl) rfl (fun v H8 hq => ?_)
      obtain ⟨rfl, y8, q8, B8, G8, w8⟩ := hq
      refine o_uq (fun u8 => ?_)
      obtain ⟨D8, hv8⟩ := D7.app u7 B7 hv7 B8 G8 w8
      have z8 := lz (m' := 205) z7 (dg_len ra).2 rfl
      refine o_pop (pc := 536) dL_drawn_536 rfl ?_
      refine o_iinc (pc := 537) (lv' := [(6, _), (8, _), (7, _), (0, _), (1, _), (2, _), (3, _), (4, _), (5, _)]) dL_drawn_537 8 rfl (by decide) rfl ?_
      refine o_goto (pc := 540) 403 dL_drawn_540 (by decide) ?_
      obtain ⟨hP2, hb2, hl2⟩ := k_cab hP hb hN qk qy qlo qra
      have hR2 := hR.ad4 (v := v5 (k : Int) y lo ra 0) (by omega) (fun i hi => (hm i hi).2) (by show (k : Int) = _; omega) ⟨ya, by show y ≤ _; omega⟩
      rw [show (k : Int) - 1 + 1 = ((k + 1 : Nat) : Int) - 1 by omega] at hR2
      exact o_lv [3, 4, 5, 6, 7, 8, 0] rfl (ih (k := k + 1) D8 hP2 hb2 hR2 hk2 (lzn hl hl2) (by (try simp only [rmL, List.length_cons, List.length_nil, Nat.add_assoc, Nat.reduceAdd, Nat.add_zero]); first | exact ckl hcs (Nat.le_of_ble_eq_true rfl) (Nat.le_of_ble_eq_true rfl) | exact ckl hss (Nat.le_of_ble_eq_true rfl) (Nat.le_of_ble_eq_true rfl) | exact ck0 hcs (Nat.le_of_ble_eq_true rfl) | exact ck0 hss (Nat.le_of_ble_eq_true rfl) | exact ckr hcs (Nat.le_of_ble_eq_true rfl) | exact ckr hss (Nat.le_of_ble_eq_true rfl) | exact ckz hcs (Nat.le_of_ble_eq_true rfl) | exact ckz hss (Nat.le_of_ble_eq_true rfl)) (by (try simp only [rmL, List.length_cons, List.length_nil, Nat.add_assoc, Nat.reduceAdd, Nat.add_zero]); first | exact ckl hcs (Nat.le_of_ble_eq_true rfl) (Nat.le_of_ble_eq_true rfl) | exact ckl hss (Nat.le_of_ble_eq_true rfl) (Nat.le_of_ble_eq_true rfl) | exact ck0 hcs (Nat.le_of_ble_eq_true rfl) | exact ck0 hss (Nat.le_of_ble_eq_true rfl) | exact ckr hcs (Nat.le_of_ble_eq_true rfl) | exact ckr hss (Nat.le_of_ble_eq_true rfl) | exact ckz hcs (Nat.le_of_ble_eq_true rfl) | exact ckz hss (Nat.le_of_ble_eq_true rfl)))
