/-! drawn: suns -/
set_option maxRecDepth 20000 in
theorem dr_702 {G : GG} {h : Hp} {a b v0 : Nat} (hL : gV G 21 ≤ 300) (m58 : (58, b) ∈ h.1) {v : Int} (hv : 0 ≤ v ∧ v < 2147483648) {cc cs_ pq cb5 : Int} (hcp : cb5 < pq ∨ cb5 ≤ 0) (hpq : 0 ≤ pq ∧ pq ≤ 4) {H : Hp} {N : Int → Int} {B : Bok} {S T : Nat → Prop} {L : List Int} {c0 s0 : Nat} (D : DW G h H a N B S T b v0 L) (hP : PR L N) (hb : BY L) (hR : RC N cc cs_ 0 pq cb5 0) (hl : L.length ≤ 265) (hcs : c0 ≤ 174) (hss : s0 ≤ 126600) : YY G ML_drawn (rmL 12 300 200000) 702 [(0, .ref (gV G 20)), (1, .int (iI 0)), (2, rf G 58 b), (3, rf G 51 a), (4, .int (iI v)), (5, .int (iI pq))] [] H c0 s0 (fun v h1 => ∃ L N B S T, v = some (rf G 51 a) ∧ DW G h h1 a N B S T b v0 L ∧ PR L N ∧ L.length ≤ 420 ∧ BY L ∧ UC N ∧ N 9 = 0 ∧ N 2 = 0) := by
  refine o_iconst (pc := 702) dL_drawn_702 ?_
  refine o_istore (pc := 703) (lv' := [(6, _), (0, _), (1, _), (2, _), (3, _), (4, _), (5, _)]) dL_drawn_703 (by decide) rfl ?_
  have e9 : (((v / 2097152 % 5).toNat : Nat) : Int) = v / 2097152 % 5 := by omega
  have e8 : (v / 2097152 % 5).toNat ≤ 4 := by omega
  exact o_lv [1, 2, 3, 4, 5, 6, 0] rfl (lp_tri hL m58 hv hcp hpq (v / 2097152 % 5).toNat (k := 0) D hP hb hR (by omega) (by omega) (by omega) (by omega))

set_option maxRecDepth 20000 in
theorem lp_sun {G : GG} {h : Hp} {a b v0 : Nat} (hL : gV G 21 ≤ 300) (m58 : (58, b) ∈ h.1) {v : Int} (hv : 0 ≤ v ∧ v < 2147483648) {cc pq cb5 : Int} (hcp : cb5 < pq ∨ cb5 ≤ 0) (hpq : 0 ≤ pq ∧ pq ≤ 4) : ∀ (n : Nat) {H : Hp} {N : Int → Int} {B : Bok} {S T : Nat → Prop} {L : List Int} {k c0 s0 : Nat} (D : DW G h H a N B S T b v0 L) (hP : PR L N) (hb : BY L) (hR : RC N cc (k : Int) 0 pq cb5 0) (hk : (k : Int) + n = v / 524288 % 4) (hl : L.length + 20 * n ≤ 265) (hcs : c0 + 10 * n ≤ 174) (hss : s0 + 10700 * n ≤ 126600), YY G ML_drawn (rmL 12 300 200000) 546 [(0, .ref (gV G 20)), (1, .int (iI 0)), (2, rf G 58 b), (3, rf G 51 a), (4, .int (iI v)), (5, .int (iI pq)), (6, .int (iI (k : Int)))] [] H c0 s0 (fun v h1 => ∃ L N B S T, v = some (rf G 51 a) ∧ DW G h h1 a N B S T b v0 L ∧ PR L N ∧ L.length ≤ 420 ∧ BY L ∧ UC N ∧ N 9 = 0 ∧ N 2 = 0) := by
  intro n
  induction n with
  | zero =>
    intro H N B S T L k c0 s0 D hP hb hR hk hl hcs hss
    have hm : ∀ i, i < 7 → 0 ≤ nj N i ∧ nj N i ≤ mxj i := fun i hi => (D.1.2.2.2.1 i hi).1
    refine o_uq (fun uH => ?_)
    refine o_iload (pc := 546) dL_drawn_546 6 rfl ?_
    refine o_iload (pc := 548) dL_drawn_548 4 rfl ?_
    refine o_ldc (pc := 550) (z := 524288) dL_drawn_550 kcL_117 (by decide) ?_
    refine o_idiv (pc := 552) dL_drawn_552 (by omega) (by omega) ?_
    refine o_iconst (pc := 553) dL_drawn_553 ?_
    refine o_irem (pc := 554) dL_drawn_554 (by omega) (by omega) ?_
    refine o_icmp_ge (pc := 555) 702 dL_drawn_555 (by decide) (by unfold inI; omega) (by unfold inI; omega) (fun c_555 => ?_) (fun c_555 => (by exfalso; omega))
    exact o_lv [0, 1, 2, 3, 4, 5] rfl (dr_702 hL m58 hv hcp hpq D hP hb hR (lzs hl) (by (try simp only [rmL, List.length_cons, List.length_nil, Nat.add_assoc, Nat.reduceAdd, Nat.add_zero]); first | exact ckl hcs (Nat.le_of_ble_eq_true rfl) (Nat.le_of_ble_eq_true rfl) | exact ckl hss (Nat.le_of_ble_eq_true rfl) (Nat.le_of_ble_eq_true rfl) | exact ck0 hcs (Nat.le_of_ble_eq_true rfl) | exact ck0 hss (Nat.le_of_ble_eq_true rfl) | exact ckr hcs (Nat.le_of_ble_eq_true rfl) | exact ckr hss (Nat.le_of_ble_eq_true rfl) | exact ckz hcs (Nat.le_of_ble_eq_true rfl) | exact ckz hss (Nat.le_of_ble_eq_true rfl)) (by (try simp only [rmL, List.length_cons, List.length_nil, Nat.add_assoc, Nat.reduceAdd, Nat.add_zero]); first | exact ckl hcs (Nat.le_of_ble_eq_true rfl) (Nat.le_of_ble_eq_true rfl) | exact ckl hss (Nat.le_of_ble_eq_true rfl) (Nat.le_of_ble_eq_true rfl) | exact ck0 hcs (Nat.le_of_ble_eq_true rfl) | exact ck0 hss (Nat.le_of_ble_eq_true rfl) | exact ckr hcs (Nat.le_of_ble_eq_true rfl) | exact ckr hss (Nat.le_of_ble_eq_true rfl) | exact ckz hcs (Nat.le_of_ble_eq_true rfl) | exact ckz hss (Nat.le_of_ble_eq_true rfl)))
  | succ n ih =>
    intro H N B S T L k c0 s0 D hP hb hR hk hl hcs hss
    have hm : ∀ i, i < 7 → 0 ≤ nj N i ∧ nj N i ≤ mxj i := fun i hi => (D.1.2.2.2.1 i hi).1
    refine o_uq (fun uH => ?_)
    refine o_iload (pc := 546) dL_drawn_546 6 rfl ?_
    refine o_iload (pc := 548) dL_drawn_548 4 rfl ?_
    refine o_ldc (pc := 550) (z := 524288) dL_drawn_550 kcL_117 (by decide) ?_
    refine o_idiv (pc := 552) dL_drawn_552 (by omega) (by omega) ?_
    refine o_iconst (pc := 553) dL_drawn_553 ?_
    refine o_irem (pc := 554) dL_drawn_554 (by omega) (by omega) ?_
    refine o_icmp_ge (pc := 555) 702 dL_drawn_555 (by decide) (by unfold inI; omega) (by unfold inI; omega) (fun c_555 => (by exfalso; omega)) (fun c_555 => ?_)
    refine o_iload (pc := 558) dL_drawn_558 5 rfl ?_
    refine o_if_le (pc := 560) 702 dL_drawn_560 (by decide) (by unfold inI; omega) (fun c_560 => ?_) (fun c_560 => ?_)
    · exact o_lv [0, 1, 2, 3, 4, 5] rfl (dr_702 hL m58 hv hcp hpq D hP hb hR (lzs hl) (by (try simp only [rmL, List.length_cons, List.length_nil, Nat.add_assoc, Nat.reduceAdd, Nat.add_zero]); first | exact ckl hcs (Nat.le_of_ble_eq_true rfl) (Nat.le_of_ble_eq_true rfl) | exact ckl hss (Nat.le_of_ble_eq_true rfl) (Nat.le_of_ble_eq_true rfl) | exact ck0 hcs (Nat.le_of_ble_eq_true rfl) | exact ck0 hss (Nat.le_of_ble_eq_true rfl) | exact ckr hcs (Nat.le_of_ble_eq_true rfl) | exact ckr hss (Nat.le_of_ble_eq_true rfl) | exact ckz hcs (Nat.le_of_ble_eq_true rfl) | exact ckz hss (Nat.le_of_ble_eq_true rfl)) (by (try simp only [rmL, List.length_cons, List.length_nil, Nat.add_assoc, Nat.reduceAdd, Nat.add_zero]); first | exact ckl hcs (Nat.le_of_ble_eq_true rfl) (Nat.le_of_ble_eq_true rfl) | exact ckl hss (Nat.le_of_ble_eq_true rfl) (Nat.le_of_ble_eq_true rfl) | exact ck0 hcs (Nat.le_of_ble_eq_true rfl) | exact ck0 hss (Nat.le_of_ble_eq_true rfl) | exact ckr hcs (Nat.le_of_ble_eq_true rfl) | exact ckr hss (Nat.le_of_ble_eq_true rfl) | exact ckz hcs (Nat.le_of_ble_eq_true rfl) | exact ckz hss (Nat.le_of_ble_eq_true rfl)))
    · refine o_aload_n (pc := 563) dL_drawn_563 0 rfl ?_
      refine o_iload_n (pc := 564) dL_drawn_564 1 rfl ?_
      refine o_bipush (pc := 565) (z := 14) dL_drawn_565 (by decide) ?_
      refine o_iadd (pc := 567) dL_drawn_567 ?_
      refine o_iload (pc := 568) dL_drawn_568 6 rfl ?_
      refine o_iadd (pc := 570) dL_drawn_570 ?_
      refine o_callS (pc := 571) _ dL_drawn_571 (cw_at hL (k := 0 + 14 + (k : Int)) (by omega)) lkL_30 rfl ⟨⟨(Nat.le_of_ble_eq_true rfl), (Nat.le_of_ble_eq_true rfl)⟩, (by (try simp only [rmL, List.length_cons, List.length_nil, Nat.add_assoc, Nat.reduceAdd, Nat.add_zero]); first | exact ckl hcs (Nat.le_of_ble_eq_true rfl) (Nat.le_of_ble_eq_true rfl) | exact ckl hss (Nat.le_of_ble_eq_true rfl) (Nat.le_of_ble_eq_true rfl) | exact ck0 hcs (Nat.le_of_ble_eq_true rfl) | exact ck0 hss (Nat.le_of_ble_eq_true rfl) | exact ckr hcs (Nat.le_of_ble_eq_true rfl) | exact ckr hss (Nat.le_of_ble_eq_true rfl) | exact ckz hcs (Nat.le_of_ble_eq_true rfl) | exact ckz hss (Nat.le_of_ble_eq_true rfl)), (by (try simp only [rmL, List.length_cons, List.length_nil, Nat.add_assoc, Nat.reduceAdd, Nat.add_zero]); first | exact ckl hcs (Nat.le_of_ble_eq_true rfl) (Nat.le_of_ble_eq_true rfl) | exact ckl hss (Nat.le_of_ble_eq_true rfl) (Nat.le_of_ble_eq_true rfl) | exact ck0 hcs (Nat.le_of_ble_eq_true rfl) | exact ck0 hss (Nat.le_of_ble_eq_true rfl) | exact ckr hcs (Nat.le_of_ble_eq_true rfl) | exact ckr hss (Nat.le_of_ble_eq_true rfl) | exact ckz hcs (Nat.le_of_ble_eq_true rfl) | exact ckz hss (Nat.le_of_ble_eq_true rfl))⟩ (Nat.le_of_ble_eq_true rfl) rfl (fun v h1 hq => ?_)
      obtain ⟨x, rfl, hx, e2⟩ := hq
      obtain rfl := e2.symm
      obtain ⟨p0, hp0, p1, p2⟩ : ∃ p0 : Int, x % pq = p0 ∧ 0 ≤ p0 ∧ p0 < pq := ⟨_, rfl, Int.emod_nonneg _ (by omega), Int.emod_lt_of_pos _ (by omega)⟩
      obtain ⟨lo, hlo, t1⟩ : ∃ lo : Int, x / 8 % 24 = lo ∧ 0 ≤ lo ∧ lo < 24 := ⟨_, rfl, by omega, by omega⟩
      obtain ⟨dd, hdd, d1, d2⟩ : ∃ dd : Int, x / 256 % (24 - lo) = dd ∧ 0 ≤ dd ∧ dd < 24 - lo := ⟨_, rfl, Int.emod_nonneg _ (by omega), Int.emod_lt_of_pos _ (by omega)⟩
      obtain ⟨to, hto⟩ : ∃ to : Int, lo + dd = to := ⟨_, rfl⟩
      obtain ⟨g, hg, g1⟩ : ∃ g : Int, 1 + x / 8192 % 20 = g ∧ 1 ≤ g ∧ g < 1000 := ⟨_, rfl, by omega, by omega⟩
      have n6 : N 6 < 3 := by rw [hR.1.2.1]; omega
      have n3 : N 3 = pq := hR.1.2.2.2.1
      have qp0 : 0 ≤ p0 ∧ p0 < 1000 := by omega
      have qlo : 0 ≤ lo ∧ lo < 1000 := by omega
      have qto : 0 ≤ to ∧ to < 1000 := by omega
      have qg : 0 ≤ g ∧ g < 1000 := by omega
      have hN := RDS.sun (N := N) (x := p0) (fr := lo) (to := to) (g := g) (by omega) (by omega) (by omega) (by omega) g1
      have n0 : 0 ≤ nj N 1 := (hm 1 (by decide)).1
      have z0 : L.length ≤ 245 := lz0 hl rfl
      refine o_istore (pc := 574) (lv' := [(7, _), (0, _), (1, _), (2, _), (3, _), (4, _), (5, _), (6, _)]) dL_drawn_574 (by decide) rfl ?_
      refine o_iload (pc := 576) dL_drawn_576 0 rfl ?_
      refine o_bipush (pc := 578) (z := 8) dL_drawn_578 (by decide) ?_
      refine o_idiv (pc := 580) dL_drawn_580 (by omega) (by omega) ?_
      refine o_bipush (pc := 581) (z := 24) dL_drawn_581 (by decide) ?_
      refine o_irem (pc := 583) dL_drawn_583 (by omega) (by omega) ?_
      refine o_topI (y := lo) hlo ?_
      refine o_istore (pc := 584) (lv' := [(8, _), (7, _), (0, _), (1, _), (2, _), (3, _), (4, _), (5, _), (6, _)]) dL_drawn_584 (by decide) rfl ?_
      refine o_iconst (pc := 586) dL_drawn_586 ?_
      refine o_sizeD (fun e he => ?_) D.n
      refine o_newI (pc := 587) (N := 4) dL_drawn_587 he rfl (Nat.le_of_ble_eq_true rfl) (by (try simp only [rmL, List.length_cons, List.length_nil, Nat.add_assoc, Nat.reduceAdd, Nat.add_zero]); first | exact ckl hcs (Nat.le_of_ble_eq_true rfl) (Nat.le_of_ble_eq_true rfl) | exact ckl hss (Nat.le_of_ble_eq_true rfl) (Nat.le_of_ble_eq_true rfl) | exact ck0 hcs (Nat.le_of_ble_eq_true rfl) | exact ck0 hss (Nat.le_of_ble_eq_true rfl) | exact ckr hcs (Nat.le_of_ble_eq_true rfl) | exact ckr hss (Nat.le_of_ble_eq_true rfl) | exact ckz hcs (Nat.le_of_ble_eq_true rfl) | exact ckz hss (Nat.le_of_ble_eq_true rfl)) (by (try simp only [rmL, List.length_cons, List.length_nil, Nat.add_assoc, Nat.reduceAdd, Nat.add_zero]); first | exact ckl hcs (Nat.le_of_ble_eq_true rfl) (Nat.le_of_ble_eq_true rfl) | exact ckl hss (Nat.le_of_ble_eq_true rfl) (Nat.le_of_ble_eq_true rfl) | exact ck0 hcs (Nat.le_of_ble_eq_true rfl) | exact ck0 hss (Nat.le_of_ble_eq_true rfl) | exact ckr hcs (Nat.le_of_ble_eq_true rfl) | exact ckr hss (Nat.le_of_ble_eq_true rfl) | exact ckz hcs (Nat.le_of_ble_eq_true rfl) | exact ckz hss (Nat.le_of_ble_eq_true rfl)) (fun fe => ?_)
      have S0 := SA.nw (tg := 0) (len := 4) (Fr.rf (S := fun _ => False) D.n) fe
      refine o_dup (pc := 589) dL_drawn_589 rfl ?_
      refine o_iconst (pc := 590) dL_drawn_590 ?_
      refine o_iload (pc := 591) dL_drawn_591 1 rfl ?_
      refine o_iload (pc := 593) dL_drawn_593 7 rfl ?_
      refine o_irem (pc := 595) dL_drawn_595 (by omega) (by omega) ?_
      refine o_topI (y := p0) hp0 ?_
      refine o_isI (pc := 596) dL_drawn_596 (shp_ak (by decide)) nw_in (by omega) (by omega) ?_
      have S1 := S0.set fe 0 p0
      refine o_dup (pc := 597) dL_drawn_597 rfl ?_
      refine o_iconst (pc := 598) dL_drawn_598 ?_
      refine o_iload (pc := 599) dL_drawn_599 0 rfl ?_
      refine o_isI (pc := 601) dL_drawn_601 (shp_ak (by decide)) nw_in (by omega) (by omega) ?_
      have S2 := S1.set fe 1 lo
      refine o_dup (pc := 602) dL_drawn_602 rfl ?_
      refine o_iconst (pc := 603) dL_drawn_603 ?_
      refine o_iload (pc := 604) dL_drawn_604 0 rfl ?_
      refine o_iload (pc := 606) dL_drawn_606 1 rfl ?_
      refine o_sipush (pc := 608) (z := 256) dL_drawn_608 (by decide) ?_
      refine o_idiv (pc := 611) dL_drawn_611 (by omega) (by omega) ?_
      refine o_bipush (pc := 612) (z := 24) dL_drawn_612 (by decide) ?_
      refine o_iload (pc := 614) dL_drawn_614 0 rfl ?_
      refine o_isub (pc := 616) dL_drawn_616 ?_
      refine o_irem (pc := 617) dL_drawn_617 (by omega) (by omega) ?_
      refine o_topI (y := dd) hdd ?_
      refine o_iadd (pc := 618) dL_drawn_618 ?_
      refine o_topI (y := to) hto ?_
      refine o_isI (pc := 619) dL_drawn_619 (shp_ak (by decide)) nw_in (by omega) (by omega) ?_
      have S3 := S2.set fe 2 to
      refine o_dup (pc := 620) dL_drawn_620 rfl ?_
      refine o_iconst (pc := 621) dL_drawn_621 ?_
      refine o_iconst (pc := 622) dL_drawn_622 ?_
      refine o_iload (pc := 623) dL_drawn_623 1 rfl ?_
      refine o_sipush (pc := 625) (z := 8192) dL_drawn_625 (by decide) ?_
      refine o_idiv (pc := 628) dL_drawn_628 (by omega) (by omega) ?_
      refine o_bipush (pc := 629) (z := 20) dL_drawn_629 (by decide) ?_
      refine o_irem (pc := 631) dL_drawn_631 (by omega) (by omega) ?_
      refine o_iadd (pc := 632) dL_drawn_632 ?_
      refine o_topI (y := g) hg ?_
      refine o_isI (pc := 633) dL_drawn_633 (shp_ak (by decide)) nw_in (by omega) (by omega) ?_
      have S4 := S3.set fe 3 g
      refine o_gen (P := fun H9 => SA 0 H e 4 _ H9) S4 (fun H9 S9 => ?_)
      clear S0 S1 S2 S3 S4
      have Da := D.f0 S9.1
      refine o_astore (pc := 634) (lv' := [(9, _), (8, _), (7, _), (0, _), (1, _), (2, _), (3, _), (4, _), (5, _), (6, _)]) dL_drawn_634 (by decide) rfl ?_
      refine o_aload_n (pc := 636) dL_drawn_636 6 rfl ?_
      refine o_gR (pc := 637) (j := 8) (56) ((B.1 1)) dL_drawn_637 flL_118 rfl rfl Da.1.mW (Da.1.r 1) ?_
      refine o_aload (pc := 640) dL_drawn_640 0 rfl ?_
      refine o_callV (pc := 642) _ dL_drawn_642 (cl_add (Da.1.l 1) Da.n (by have := Da.1.nb 1; have e9 : mxj 1 ≤ 16 := (by decide); omega) (a := pk 1) (e := e) (pk_isE 1) S9.2.1) lkL_60 rfl rfl rfl rfl (Da.1.l 1).1 ⟨⟨(Nat.le_of_ble_eq_true rfl), (Nat.le_of_ble_eq_true rfl)⟩, (by (try simp only [rmL, List.length_cons, List.length_nil, Nat.add_assoc, Nat.reduceAdd, Nat.add_zero]); first | exact ckl hcs (Nat.le_of_ble_eq_true rfl) (Nat.le_of_ble_eq_true rfl) | exact ckl hss (Nat.le_of_ble_eq_true rfl) (Nat.le_of_ble_eq_true rfl) | exact ck0 hcs (Nat.le_of_ble_eq_true rfl) | exact ck0 hss (Nat.le_of_ble_eq_true rfl) | exact ckr hcs (Nat.le_of_ble_eq_true rfl) | exact ckr hss (Nat.le_of_ble_eq_true rfl) | exact ckz hcs (Nat.le_of_ble_eq_true rfl) | exact ckz hss (Nat.le_of_ble_eq_true rfl)), (by (try simp only [rmL, List.length_cons, List.length_nil, Nat.add_assoc, Nat.reduceAdd, Nat.add_zero]); first | exact ckl hcs (Nat.le_of_ble_eq_true rfl) (Nat.le_of_ble_eq_true rfl) | exact ckl hss (Nat.le_of_ble_eq_true rfl) (Nat.le_of_ble_eq_true rfl) | exact ck0 hcs (Nat.le_of_ble_eq_true rfl) | exact ck0 hss (Nat.le_of_ble_eq_true rfl) | exact ckr hcs (Nat.le_of_ble_eq_true rfl) | exact ckr hss (Nat.le_of_ble_eq_true rfl) | exact ckz hcs (Nat.le_of_ble_eq_true rfl) | exact ckz hss (Nat.le_of_ble_eq_true rfl))⟩ (Nat.le_of_ble_eq_true rfl) rfl (fun v H0 hq => ?_)
      obtain ⟨rfl, k1, b1, hA0, FA0, hbb⟩ := hq
      refine o_uq (fun u0 => ?_)
      have D0 := D.add uH S9.1 u0 1 (by decide) hA0 FA0 hbb S9.2.1 fe (by show N 6 + 1 ≤ 12; omega) (v := v5 p0 lo to g 0) (fun f hf => S9.v4 f hf)
      obtain ⟨y0, q0, B0, hv0⟩ := D0.2.2.1
      refine o_pop (pc := 645) dL_drawn_645 rfl ?_
      refine o_aload_n (pc := 646) dL_drawn_646 5 rfl ?_
      refine o_ldcS (pc := 647) ";sun " 12 dL_drawn_647 (by decide +kernel) ?_
      refine o_callV (pc := 649) _ dL_drawn_649 (cb_addS (t := 12) B0 D0.n (Nat.le_trans z0 (Nat.le_of_ble_eq_true rfl)) (by decide)) lkL_45 rfl rfl rfl rfl B0.1 ⟨⟨(Nat.le_of_ble_eq_true rfl), (Nat.le_of_ble_eq_true rfl)⟩, (by (try simp only [rmL, List.length_cons, List.length_nil, Nat.add_assoc, Nat.reduceAdd, Nat.add_zero]); first | exact ckl hcs (Nat.le_of_ble_eq_true rfl) (Nat.le_of_ble_eq_true rfl) | exact ckl hss (Nat.le_of_ble_eq_true rfl) (Nat.le_of_ble_eq_true rfl) | exact ck0 hcs (Nat.le_of_ble_eq_true rfl) | exact ck0 hss (Nat.le_of_ble_eq_true rfl) | exact ckr hcs (Nat.le_of_ble_eq_true rfl) | exact ckr hss (Nat.le_of_ble_eq_true rfl) | exact ckz hcs (Nat.le_of_ble_eq_true rfl) | exact ckz hss (Nat.le_of_ble_eq_true rfl)), (by (try simp only [rmL, List.length_cons, List.length_nil, Nat.add_assoc, Nat.reduceAdd, Nat.add_zero]); first | exact ckl hcs (Nat.le_of_ble_eq_true rfl) (Nat.le_of_ble_eq_true rfl) | exact ckl hss (Nat.le_of_ble_eq_true rfl) (Nat.le_of_ble_eq_true rfl) | exact ck0 hcs (Nat.le_of_ble_eq_true rfl) | exact ck0 hss (Nat.le_of_ble_eq_true rfl) | exact ckr hcs (Nat.le_of_ble_eq_true rfl) | exact ckr hss (Nat.le_of_ble_eq_true rfl) | exact ckz hcs (Nat.le_of_ble_eq_true rfl) | exact ckz hss (Nat.le_of_ble_eq_true rfl))⟩ (Nat.le_of_ble_eq_true rfl) rfl (fun v H1 hq => ?_)
      obtain ⟨rfl, y1, q1, B1, G1, w1⟩ := hq
      refine o_uq (fun u1 => ?_)
      obtain ⟨D1, hv1⟩ := D0.app u0 B0 hv0 B1 G1 w1
      have z1 := lz (m' := 250) z0 (Nat.le_of_eq lit_l12) rfl
      refine o_aload (pc := 652) dL_drawn_652 0 rfl ?_
      refine o_iconst (pc := 654) dL_drawn_654 ?_
      refine o_iaI (pc := 655) dL_drawn_655 (shp_ak (by decide)) (DW.new D1 (by decide) n0).1 (by omega) (by omega) ((DW.new D1 (by decide) n0).2 0 (by decide)) ?_
      refine o_topI (y := p0) rfl ?_
      refine o_callV (pc := 656) _ dL_drawn_656 (cb_addI B1 D1.n (Nat.le_trans z1 (Nat.le_of_ble_eq_true rfl)) (n := p0) qp0.1 qp0.2) lkL_50 rfl rfl rfl rfl B1.1 ⟨⟨(Nat.le_of_ble_eq_true rfl), (Nat.le_of_ble_eq_true rfl)⟩, (by (try simp only [rmL, List.length_cons, List.length_nil, Nat.add_assoc, Nat.reduceAdd, Nat.add_zero]); first | exact ckl hcs (Nat.le_of_ble_eq_true rfl) (Nat.le_of_ble_eq_true rfl) | exact ckl hss (Nat.le_of_ble_eq_true rfl) (Nat.le_of_ble_eq_true rfl) | exact ck0 hcs (Nat.le_of_ble_eq_true rfl) | exact ck0 hss (Nat.le_of_ble_eq_true rfl) | exact ckr hcs (Nat.le_of_ble_eq_true rfl) | exact ckr hss (Nat.le_of_ble_eq_true rfl) | exact ckz hcs (Nat.le_of_ble_eq_true rfl) | exact ckz hss (Nat.le_of_ble_eq_true rfl)), (by (try simp only [rmL, List.length_cons, List.length_nil, Nat.add_assoc, Nat.reduceAdd, Nat.add_zero]); first | exact ckl hcs (Nat.le_of_ble_eq_true rfl) (Nat.le_of_ble_eq_true rfl) | exact ckl hss (Nat.le_of_ble_eq_true rfl) (Nat.le_of_ble_eq_true rfl) | exact ck0 hcs (Nat.le_of_ble_eq_true rfl) | exact ck0 hss (Nat.le_of_ble_eq_true rfl) | exact ckr hcs (Nat.le_of_ble_eq_true rfl) | exact ckr hss (Nat.le_of_ble_eq_true rfl) | exact ckz hcs (Nat.le_of_ble_eq_true rfl) | exact ckz hss (Nat.le_of_ble_eq_true rfl))⟩ (Nat.le_of_ble_eq_true rfl) rfl (fun v H2 hq => ?_)
      obtain ⟨rfl, y2, q2, B2, G2, w2⟩ := hq
      refine o_uq (fun u2 => ?_)
      obtain ⟨D2, hv2⟩ := D1.app u1 B1 hv1 B2 G2 w2
      have z2 := lz (m' := 253) z1 (dg_len p0).2 rfl
      refine o_bipush (pc := 659) (z := 32) dL_drawn_659 (by decide) ?_
      refine o_callV (pc := 661) _ dL_drawn_661 (cb_addC B2 D2.n (Nat.le_trans z2 (Nat.le_of_ble_eq_true rfl)) (z := 32) (by decide)) lkL_53 rfl rfl rfl rfl B2.1 ⟨⟨(Nat.le_of_ble_eq_true rfl), (Nat.le_of_ble_eq_true rfl)⟩, (by (try simp only [rmL, List.length_cons, List.length_nil, Nat.add_assoc, Nat.reduceAdd, Nat.add_zero]); first | exact ckl hcs (Nat.le_of_ble_eq_true rfl) (Nat.le_of_ble_eq_true rfl) | exact ckl hss (Nat.le_of_ble_eq_true rfl) (Nat.le_of_ble_eq_true rfl) | exact ck0 hcs (Nat.le_of_ble_eq_true rfl) | exact ck0 hss (Nat.le_of_ble_eq_true rfl) | exact ckr hcs (Nat.le_of_ble_eq_true rfl) | exact ckr hss (Nat.le_of_ble_eq_true rfl) | exact ckz hcs (Nat.le_of_ble_eq_true rfl) | exact ckz hss (Nat.le_of_ble_eq_true rfl)), (by (try simp only [rmL, List.length_cons, List.length_nil, Nat.add_assoc, Nat.reduceAdd, Nat.add_zero]); first | exact ckl hcs (Nat.le_of_ble_eq_true rfl) (Nat.le_of_ble_eq_true rfl) | exact ckl hss (Nat.le_of_ble_eq_true rfl) (Nat.le_of_ble_eq_true rfl) | exact ck0 hcs (Nat.le_of_ble_eq_true rfl) | exact ck0 hss (Nat.le_of_ble_eq_true rfl) | exact ckr hcs (Nat.le_of_ble_eq_true rfl) | exact ckr hss (Nat.le_of_ble_eq_true rfl) | exact ckz hcs (Nat.le_of_ble_eq_true rfl) | exact ckz hss (Nat.le_of_ble_eq_true rfl))⟩ (Nat.le_of_ble_eq_true rfl) rfl (fun v H3 hq => ?_)
      obtain ⟨rfl, y3, q3, B3, G3, w3⟩ := hq
      refine o_uq (fun u3 => ?_)
      obtain ⟨D3, hv3⟩ := D2.app u2 B2 hv2 B3 G3 w3
      have z3 := lz (m' := 254) z2 (show ([32] : List Int).length ≤ 1 from Nat.le_refl 1) rfl
      refine o_aload (pc := 664) dL_drawn_664 0 rfl ?_
      refine o_iconst (pc := 666) dL_drawn_666 ?_
      refine o_iaI (pc := 667) dL_drawn_667 (shp_ak (by decide)) (DW.new D3 (by decide) n0).1 (by omega) (by omega) ((DW.new D3 (by decide) n0).2 1 (by decide)) ?_
      refine o_topI (y := lo) rfl ?_
      refine o_callV (pc := 668) _ dL_drawn_668 (cb_addI B3 D3.n (Nat.le_trans z3 (Nat.le_of_ble_eq_true rfl)) (n := lo) qlo.1 qlo.2) lkL_50 rfl rfl rfl rfl B3.1 ⟨⟨(Nat.le_of_ble_eq_true rfl), (Nat.le_of_ble_eq_true rfl)⟩, (by (try simp only [rmL, List.length_cons, List.length_nil, Nat.add_assoc, Nat.reduceAdd, Nat.add_zero]); first | exact ckl hcs (Nat.le_of_ble_eq_true rfl) (Nat.le_of_ble_eq_true rfl) | exact ckl hss (Nat.le_of_ble_eq_true rfl) (Nat.le_of_ble_eq_true rfl) | exact ck0 hcs (Nat.le_of_ble_eq_true rfl) | exact ck0 hss (Nat.le_of_ble_eq_true rfl) | exact ckr hcs (Nat.le_of_ble_eq_true rfl) | exact ckr hss (Nat.le_of_ble_eq_true rfl) | exact ckz hcs (Nat.le_of_ble_eq_true rfl) | exact ckz hss (Nat.le_of_ble_eq_true rfl)), (by (try simp only [rmL, List.length_cons, List.length_nil, Nat.add_assoc, Nat.reduceAdd, Nat.add_zero]); first | exact ckl hcs (Nat.le_of_ble_eq_true rfl) (Nat.le_of_ble_eq_true rfl) | exact ckl hss (Nat.le_of_ble_eq_true rfl) (Nat.le_of_ble_eq_true rfl) | exact ck0 hcs (Nat.le_of_ble_eq_true rfl) | exact ck0 hss (Nat.le_of_ble_eq_true rfl) | exact ckr hcs (Nat.le_of_ble_eq_true rfl) | exact ckr hss (Nat.le_of_ble_eq_true rfl) | exact ckz hcs (Nat.le_of_ble_eq_true rfl) | exact ckz hss (Nat.le_of_ble_eq_true rfl))⟩ (Nat.le_of_ble_eq_true rfl) rfl (fun v H4 hq => ?_)
      obtain ⟨rfl, y4, q4, B4, G4, w4⟩ := hq
      refine o_uq (fun u4 => ?_)
      obtain ⟨D4, hv4⟩ := D3.app u3 B3 hv3 B4 G4 w4
      have z4 := lz (m' := 257) z3 (dg_len lo).2 rfl
      refine o_bipush (pc := 671) (z := 32) dL_drawn_671 (by decide) ?_
      refine o_callV (pc := 673) _ dL_drawn_673 (cb_addC B4 D4.n (Nat.le_trans z4 (Nat.le_of_ble_eq_true rfl)) (z := 32) (by decide)) lkL_53 rfl rfl rfl rfl B4.1 ⟨⟨(Nat.le_of_ble_eq_true rfl), (Nat.le_of_ble_eq_true rfl)⟩, (by (try simp only [rmL, List.length_cons, List.length_nil, Nat.add_assoc, Nat.reduceAdd, Nat.add_zero]); first | exact ckl hcs (Nat.le_of_ble_eq_true rfl) (Nat.le_of_ble_eq_true rfl) | exact ckl hss (Nat.le_of_ble_eq_true rfl) (Nat.le_of_ble_eq_true rfl) | exact ck0 hcs (Nat.le_of_ble_eq_true rfl) | exact ck0 hss (Nat.le_of_ble_eq_true rfl) | exact ckr hcs (Nat.le_of_ble_eq_true rfl) | exact ckr hss (Nat.le_of_ble_eq_true rfl) | exact ckz hcs (Nat.le_of_ble_eq_true rfl) | exact ckz hss (Nat.le_of_ble_eq_true rfl)), (by (try simp only [rmL, List.length_cons, List.length_nil, Nat.add_assoc, Nat.reduceAdd, Nat.add_zero]); first | exact ckl hcs (Nat.le_of_ble_eq_true rfl) (Nat.le_of_ble_eq_true rfl) | exact ckl hss (Nat.le_of_ble_eq_true rfl) (Nat.le_of_ble_eq_true rfl) | exact ck0 hcs (Nat.le_of_ble_eq_true rfl) | exact ck0 hss (Nat.le_of_ble_eq_true rfl) | exact ckr hcs (Nat.le_of_ble_eq_true rfl) | exact ckr hss (Nat.le_of_ble_eq_true rfl) | exact ckz hcs (Nat.le_of_ble_eq_true rfl) | exact ckz hss (Nat.le_of_ble_eq_true rfl))⟩ (Nat.le_of_ble_eq_true rfl) rfl (fun v H5 hq => ?_)
      obtain ⟨rfl, y5, q5, B5, G5, w5⟩ := hq
      refine o_uq (fun u5 => ?_)
      obtain ⟨D5, hv5⟩ := D4.app u4 B4 hv4 B5 G5 w5
      have z5 := lz (m' := 258) z4 (show ([32] : List Int).length ≤ 1 from Nat.le_refl 1) rfl
      refine o_aload (pc := 676) dL_drawn_676 0 rfl ?_
      refine o_iconst (pc := 678) dL_drawn_678 ?_
      refine o_iaI (pc := 679) dL_drawn_679 (shp_ak (by decide)) (DW.new D5 (by decide) n0).1 (by omega) (by omega) ((DW.new D5 (by decide) n0).2 2 (by decide)) ?_
      refine o_topI (y := to) rfl ?_
      refine o_callV (pc := 680) _ dL_drawn_680 (cb_addI B5 D5.n (Nat.le_trans z5 (Nat.le_of_ble_eq_true rfl)) (n := to) qto.1 qto.2) lkL_50 rfl rfl rfl rfl B5.1 ⟨⟨(Nat.le_of_ble_eq_true rfl), (Nat.le_of_ble_eq_true rfl)⟩, (by (try simp only [rmL, List.length_cons, List.length_nil, Nat.add_assoc, Nat.reduceAdd, Nat.add_zero]); first | exact ckl hcs (Nat.le_of_ble_eq_true rfl) (Nat.le_of_ble_eq_true rfl) | exact ckl hss (Nat.le_of_ble_eq_true rfl) (Nat.le_of_ble_eq_true rfl) | exact ck0 hcs (Nat.le_of_ble_eq_true rfl) | exact ck0 hss (Nat.le_of_ble_eq_true rfl) | exact ckr hcs (Nat.le_of_ble_eq_true rfl) | exact ckr hss (Nat.le_of_ble_eq_true rfl) | exact ckz hcs (Nat.le_of_ble_eq_true rfl) | exact ckz hss (Nat.le_of_ble_eq_true rfl)), (by (try simp only [rmL, List.length_cons, List.length_nil, Nat.add_assoc, Nat.reduceAdd, Nat.add_zero]); first | exact ckl hcs (Nat.le_of_ble_eq_true rfl) (Nat.le_of_ble_eq_true rfl) | exact ckl hss (Nat.le_of_ble_eq_true rfl) (Nat.le_of_ble_eq_true rfl) | exact ck0 hcs (Nat.le_of_ble_eq_true rfl) | exact ck0 hss (Nat.le_of_ble_eq_true rfl) | exact ckr hcs (Nat.le_of_ble_eq_true rfl) | exact ckr hss (Nat.le_of_ble_eq_true rfl) | exact ckz hcs (Nat.le_of_ble_eq_true rfl) | exact ckz hss (Nat.le_of_ble_eq_true rfl))⟩ (Nat.le_of_ble_eq_true rfl) rfl (fun v H6 hq => ?_)
      obtain ⟨rfl, y6, q6, B6, G6, w6⟩ := hq
      refine o_uq (fun u6 => ?_)
      obtain ⟨D6, hv6⟩ := D5.app u5 B5 hv5 B6 G6 w6
      have z6 := lz (m' := 261) z5 (dg_len to).2 rfl
      refine o_bipush (pc := 683) (z := 32) dL_drawn_683 (by decide) ?_
      refine o_callV (pc := 685) _ dL_drawn_685 (cb_addC B6 D6.n (Nat.le_trans z6 (Nat.le_of_ble_eq_true rfl)) (z := 32) (by decide)) lkL_53 rfl rfl rfl rfl B6.1 ⟨⟨(Nat.le_of_ble_eq_true rfl), (Nat.le_of_ble_eq_true rfl)⟩, (by (try simp only [rmL, List.length_cons, List.length_nil, Nat.add_assoc, Nat.reduceAdd, Nat.add_zero]); first | exact ckl hcs (Nat.le_of_ble_eq_true rfl) (Nat.le_of_ble_eq_true rfl) | exact ckl hss (Nat.le_of_ble_eq_true rfl) (Nat.le_of_ble_eq_true rfl) | exact ck0 hcs (Nat.le_of_ble_eq_true rfl) | exact ck0 hss (Nat.le_of_ble_eq_true rfl) | exact ckr hcs (Nat.le_of_ble_eq_true rfl) | exact ckr hss (Nat.le_of_ble_eq_true rfl) | exact ckz hcs (Nat.le_of_ble_eq_true rfl) | exact ckz hss (Nat.le_of_ble_eq_true rfl)), (by (try simp only [rmL, List.length_cons, List.length_nil, Nat.add_assoc, Nat.reduceAdd, Nat.add_zero]); first | exact ckl hcs (Nat.le_of_ble_eq_true rfl) (Nat.le_of_ble_eq_true rfl) | exact ckl hss (Nat.le_of_ble_eq_true rfl) (Nat.le_of_ble_eq_true rfl) | exact ck0 hcs (Nat.le_of_ble_eq_true rfl) | exact ck0 hss (Nat.le_of_ble_eq_true rfl) | exact ckr hcs (Nat.le_of_ble_eq_true rfl) | exact ckr hss (Nat.le_of_ble_eq_true rfl) | exact ckz hcs (Nat.le_of_ble_eq_true rfl) | exact ckz hss (Nat.le_of_ble_eq_true rfl))⟩ (Nat.le_of_ble_eq_true rfl) rfl (fun v H7 hq => ?_)
      obtain ⟨rfl, y7, q7, B7, G7, w7⟩ := hq
      refine o_uq (fun u7 => ?_)
      obtain ⟨D7, hv7⟩ := D6.app u6 B6 hv6 B7 G7 w7
      have z7 := lz (m' := 262) z6 (show ([32] : List Int).length ≤ 1 from Nat.le_refl 1) rfl
      refine o_aload (pc := 688) dL_drawn_688 0 rfl ?_
      refine o_iconst (pc := 690) dL_drawn_690 ?_
      refine o_iaI (pc := 691) dL_drawn_691 (shp_ak (by decide)) (DW.new D7 (by decide) n0).1 (by omega) (by omega) ((DW.new D7 (by decide) n0).2 3 (by decide)) ?_
      refine o_topI (y := g) rfl ?_
      refine o_callV (pc := 692) _ dL_drawn_692 (cb_addI B7 D7.n (Nat.le_trans z7 (Nat.le_of_ble_eq_true rfl)) (n := g) qg.1 qg.2) lkL_50 rfl rfl rfl rfl B7.1 ⟨⟨(Nat.le_of_ble_eq_true rfl), (Nat.le_of_ble_eq_true rfl)⟩, (by (try simp only [rmL, List.length_cons, List.length_nil, Nat.add_assoc, Nat.reduceAdd, Nat.add_zero]); first | exact ckl hcs (Nat.le_of_ble_eq_true rfl) (Nat.le_of_ble_eq_true rfl) | exact ckl hss (Nat.le_of_ble_eq_true rfl) (Nat.le_of_ble_eq_true rfl) | exact ck0 hcs (Nat.le_of_ble_eq_true rfl) | exact ck0 hss (Nat.le_of_ble_eq_true rfl) | exact ckr hcs (Nat.le_of_ble_eq_true rfl) | exact ckr hss (Nat.le_of_ble_eq_true rfl) | exact ckz hcs (Nat.le_of_ble_eq_true rfl) | exact ckz hss (Nat.le_of_ble_eq_true rfl)), (by (try simp only [rmL, List.length_cons, List.length_nil, Nat.add_assoc, Nat.reduceAdd, Nat.add_zero]); first | exact ckl hcs (Nat.le_of_ble_eq_true rfl) (Nat.le_of_ble_eq_true rfl) | exact ckl hss (Nat.le_of_ble_eq_true rfl) (Nat.le_of_ble_eq_true rfl) | exact ck0 hcs (Nat.le_of_ble_eq_true rfl) | exact ck0 hss (Nat.le_of_ble_eq_true rfl) | exact ckr hcs (Nat.le_of_ble_eq_true rfl) | exact ckr hss (Nat.le_of_ble_eq_true rfl) | exact ckz hcs (Nat.le_of_ble_eq_true rfl) | exact ckz hss (Nat.le_of_ble_eq_true rfl))⟩ (Nat.le_of_ble_eq_true rfl) rfl (fun v H8 hq => ?_)
      obtain ⟨rfl, y8, q8, B8, G8, w8⟩ := hq
      refine o_uq (fun u8 => ?_)
      obtain ⟨D8, hv8⟩ := D7.app u7 B7 hv7 B8 G8 w8
      have z8 := lz (m' := 265) z7 (dg_len g).2 rfl
      refine o_pop (pc := 695) dL_drawn_695 rfl ?_
      refine o_iinc (pc := 696) (lv' := [(6, _), (9, _), (8, _), (7, _), (0, _), (1, _), (2, _), (3, _), (4, _), (5, _)]) dL_drawn_696 9 rfl (by decide) rfl ?_
      refine o_goto (pc := 699) 546 dL_drawn_699 (by decide) ?_
      obtain ⟨hP2, hb2, hl2⟩ := k_sun hP hb hN qp0 qlo qto qg
      exact o_lv [4, 5, 6, 7, 8, 9, 0] rfl (ih (k := k + 1) D8 hP2 hb2 (hR.n1 (by show N 6 + 1 ≤ 12; omega) hm rfl) (by omega) (lzn hl hl2) (by (try simp only [rmL, List.length_cons, List.length_nil, Nat.add_assoc, Nat.reduceAdd, Nat.add_zero]); first | exact ckl hcs (Nat.le_of_ble_eq_true rfl) (Nat.le_of_ble_eq_true rfl) | exact ckl hss (Nat.le_of_ble_eq_true rfl) (Nat.le_of_ble_eq_true rfl) | exact ck0 hcs (Nat.le_of_ble_eq_true rfl) | exact ck0 hss (Nat.le_of_ble_eq_true rfl) | exact ckr hcs (Nat.le_of_ble_eq_true rfl) | exact ckr hss (Nat.le_of_ble_eq_true rfl) | exact ckz hcs (Nat.le_of_ble_eq_true rfl) | exact ckz hss (Nat.le_of_ble_eq_true rfl)) (by (try simp only [rmL, List.length_cons, List.length_nil, Nat.add_assoc, Nat.reduceAdd, Nat.add_zero]); first | exact ckl hcs (Nat.le_of_ble_eq_true rfl) (Nat.le_of_ble_eq_true rfl) | exact ckl hss (Nat.le_of_ble_eq_true rfl) (Nat.le_of_ble_eq_true rfl) | exact ck0 hcs (Nat.le_of_ble_eq_true rfl) | exact ck0 hss (Nat.le_of_ble_eq_true rfl) | exact ckr hcs (Nat.le_of_ble_eq_true rfl) | exact ckr hss (Nat.le_of_ble_eq_true rfl) | exact ckz hcs (Nat.le_of_ble_eq_true rfl) | exact ckz hss (Nat.le_of_ble_eq_true rfl)))
