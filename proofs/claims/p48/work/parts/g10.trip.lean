/-! drawn: trips and suns -/
set_option maxRecDepth 20000 in
theorem dr_831 {G : GG} {h : Hp} {a b v0 : Nat} (hL : gV G 21 ≤ 300) (m58 : (58, b) ∈ h.1) {v : Int} (hv : 0 ≤ v ∧ v < 2147483648) {cc cs_ ct pq cb5 : Int} (hcp : cb5 < pq ∨ cb5 ≤ 0) {H : Hp} {N : Int → Int} {B : Bok} {S T : Nat → Prop} {L : List Int} {c0 s0 : Nat} (D : DW G h H a N B S T b v0 L) (hP : PR L N) (hb : BY L) (hR : RC N cc cs_ ct pq cb5 0) (hl : L.length ≤ 333) (hcs : c0 ≤ 214) (hss : s0 ≤ 159100) : YY G ML_drawn (rmL 12 300 200000) 831 [(0, .ref (gV G 20)), (1, .int (iI 0)), (2, rf G 58 b), (3, rf G 51 a), (4, .int (iI v))] [] H c0 s0 (fun v h1 => ∃ L N B S T, v = some (rf G 51 a) ∧ DW G h h1 a N B S T b v0 L ∧ PR L N ∧ L.length ≤ 420 ∧ BY L ∧ UC N ∧ N 9 = 0 ∧ N 2 = 0) := by
  refine o_iconst (pc := 831) dL_drawn_831 ?_
  refine o_istore (pc := 832) (lv' := [(6, _), (0, _), (1, _), (2, _), (3, _), (4, _)]) dL_drawn_832 (by decide) rfl ?_
  have e9 : (((v / 16777216 % 4).toNat : Nat) : Int) = v / 16777216 % 4 := by omega
  have e8 : (v / 16777216 % 4).toNat ≤ 3 := by omega
  exact o_lv [1, 2, 3, 4, 5, 0] rfl (lp_con hL m58 hv hcp (v / 16777216 % 4).toNat (k := 0) D hP hb hR (by omega) (by omega) (by omega) (by omega))

set_option maxRecDepth 20000 in
theorem lp_tri {G : GG} {h : Hp} {a b v0 : Nat} (hL : gV G 21 ≤ 300) (m58 : (58, b) ∈ h.1) {v : Int} (hv : 0 ≤ v ∧ v < 2147483648) {cc cs_ pq cb5 : Int} (hcp : cb5 < pq ∨ cb5 ≤ 0) (hpq : 0 ≤ pq ∧ pq ≤ 4) : ∀ (n : Nat) {H : Hp} {N : Int → Int} {B : Bok} {S T : Nat → Prop} {L : List Int} {k c0 s0 : Nat} (D : DW G h H a N B S T b v0 L) (hP : PR L N) (hb : BY L) (hR : RC N cc cs_ (k : Int) pq cb5 0) (hk : (k : Int) + n = v / 2097152 % 5) (hl : L.length + 17 * n ≤ 333) (hcs : c0 + 10 * n ≤ 214) (hss : s0 + 8100 * n ≤ 159000), YY G ML_drawn (rmL 12 300 200000) 705 [(0, .ref (gV G 20)), (1, .int (iI 0)), (2, rf G 58 b), (3, rf G 51 a), (4, .int (iI v)), (5, .int (iI pq)), (6, .int (iI (k : Int)))] [] H c0 s0 (fun v h1 => ∃ L N B S T, v = some (rf G 51 a) ∧ DW G h h1 a N B S T b v0 L ∧ PR L N ∧ L.length ≤ 420 ∧ BY L ∧ UC N ∧ N 9 = 0 ∧ N 2 = 0) := by
  intro n
  induction n with
  | zero =>
    intro H N B S T L k c0 s0 D hP hb hR hk hl hcs hss
    have hm : ∀ i, i < 7 → 0 ≤ nj N i ∧ nj N i ≤ mxj i := fun i hi => (D.1.2.2.2.1 i hi).1
    refine o_uq (fun uH => ?_)
    refine o_iload (pc := 705) dL_drawn_705 6 rfl ?_
    refine o_iload (pc := 707) dL_drawn_707 4 rfl ?_
    refine o_ldc (pc := 709) (z := 2097152) dL_drawn_709 kcL_123 (by decide) ?_
    refine o_idiv (pc := 711) dL_drawn_711 (by omega) (by omega) ?_
    refine o_iconst (pc := 712) dL_drawn_712 ?_
    refine o_irem (pc := 713) dL_drawn_713 (by omega) (by omega) ?_
    refine o_icmp_ge (pc := 714) 831 dL_drawn_714 (by decide) (by unfold inI; omega) (by unfold inI; omega) (fun c_714 => ?_) (fun c_714 => (by exfalso; omega))
    exact o_lv [0, 1, 2, 3, 4] rfl (dr_831 hL m58 hv hcp D hP hb hR (lzs hl) (by (try simp only [rmL, List.length_cons, List.length_nil, Nat.add_assoc, Nat.reduceAdd, Nat.add_zero]); first | exact ckl hcs (Nat.le_of_ble_eq_true rfl) (Nat.le_of_ble_eq_true rfl) | exact ckl hss (Nat.le_of_ble_eq_true rfl) (Nat.le_of_ble_eq_true rfl) | exact ck0 hcs (Nat.le_of_ble_eq_true rfl) | exact ck0 hss (Nat.le_of_ble_eq_true rfl) | exact ckr hcs (Nat.le_of_ble_eq_true rfl) | exact ckr hss (Nat.le_of_ble_eq_true rfl) | exact ckz hcs (Nat.le_of_ble_eq_true rfl) | exact ckz hss (Nat.le_of_ble_eq_true rfl)) (by (try simp only [rmL, List.length_cons, List.length_nil, Nat.add_assoc, Nat.reduceAdd, Nat.add_zero]); first | exact ckl hcs (Nat.le_of_ble_eq_true rfl) (Nat.le_of_ble_eq_true rfl) | exact ckl hss (Nat.le_of_ble_eq_true rfl) (Nat.le_of_ble_eq_true rfl) | exact ck0 hcs (Nat.le_of_ble_eq_true rfl) | exact ck0 hss (Nat.le_of_ble_eq_true rfl) | exact ckr hcs (Nat.le_of_ble_eq_true rfl) | exact ckr hss (Nat.le_of_ble_eq_true rfl) | exact ckz hcs (Nat.le_of_ble_eq_true rfl) | exact ckz hss (Nat.le_of_ble_eq_true rfl)))
  | succ n ih =>
    intro H N B S T L k c0 s0 D hP hb hR hk hl hcs hss
    have hm : ∀ i, i < 7 → 0 ≤ nj N i ∧ nj N i ≤ mxj i := fun i hi => (D.1.2.2.2.1 i hi).1
    refine o_uq (fun uH => ?_)
    refine o_iload (pc := 705) dL_drawn_705 6 rfl ?_
    refine o_iload (pc := 707) dL_drawn_707 4 rfl ?_
    refine o_ldc (pc := 709) (z := 2097152) dL_drawn_709 kcL_123 (by decide) ?_
    refine o_idiv (pc := 711) dL_drawn_711 (by omega) (by omega) ?_
    refine o_iconst (pc := 712) dL_drawn_712 ?_
    refine o_irem (pc := 713) dL_drawn_713 (by omega) (by omega) ?_
    refine o_icmp_ge (pc := 714) 831 dL_drawn_714 (by decide) (by unfold inI; omega) (by unfold inI; omega) (fun c_714 => (by exfalso; omega)) (fun c_714 => ?_)
    refine o_iload (pc := 717) dL_drawn_717 5 rfl ?_
    refine o_if_le (pc := 719) 831 dL_drawn_719 (by decide) (by unfold inI; omega) (fun c_719 => ?_) (fun c_719 => ?_)
    · exact o_lv [0, 1, 2, 3, 4] rfl (dr_831 hL m58 hv hcp D hP hb hR (lzs hl) (by (try simp only [rmL, List.length_cons, List.length_nil, Nat.add_assoc, Nat.reduceAdd, Nat.add_zero]); first | exact ckl hcs (Nat.le_of_ble_eq_true rfl) (Nat.le_of_ble_eq_true rfl) | exact ckl hss (Nat.le_of_ble_eq_true rfl) (Nat.le_of_ble_eq_true rfl) | exact ck0 hcs (Nat.le_of_ble_eq_true rfl) | exact ck0 hss (Nat.le_of_ble_eq_true rfl) | exact ckr hcs (Nat.le_of_ble_eq_true rfl) | exact ckr hss (Nat.le_of_ble_eq_true rfl) | exact ckz hcs (Nat.le_of_ble_eq_true rfl) | exact ckz hss (Nat.le_of_ble_eq_true rfl)) (by (try simp only [rmL, List.length_cons, List.length_nil, Nat.add_assoc, Nat.reduceAdd, Nat.add_zero]); first | exact ckl hcs (Nat.le_of_ble_eq_true rfl) (Nat.le_of_ble_eq_true rfl) | exact ckl hss (Nat.le_of_ble_eq_true rfl) (Nat.le_of_ble_eq_true rfl) | exact ck0 hcs (Nat.le_of_ble_eq_true rfl) | exact ck0 hss (Nat.le_of_ble_eq_true rfl) | exact ckr hcs (Nat.le_of_ble_eq_true rfl) | exact ckr hss (Nat.le_of_ble_eq_true rfl) | exact ckz hcs (Nat.le_of_ble_eq_true rfl) | exact ckz hss (Nat.le_of_ble_eq_true rfl)))
    · refine o_aload_n (pc := 722) dL_drawn_722 0 rfl ?_
      refine o_iload_n (pc := 723) dL_drawn_723 1 rfl ?_
      refine o_bipush (pc := 724) (z := 18) dL_drawn_724 (by decide) ?_
      refine o_iadd (pc := 726) dL_drawn_726 ?_
      refine o_iload (pc := 727) dL_drawn_727 6 rfl ?_
      refine o_iadd (pc := 729) dL_drawn_729 ?_
      refine o_callS (pc := 730) _ dL_drawn_730 (cw_at hL (k := 0 + 18 + (k : Int)) (by omega)) lkL_30 rfl ⟨⟨(Nat.le_of_ble_eq_true rfl), (Nat.le_of_ble_eq_true rfl)⟩, (by (try simp only [rmL, List.length_cons, List.length_nil, Nat.add_assoc, Nat.reduceAdd, Nat.add_zero]); first | exact ckl hcs (Nat.le_of_ble_eq_true rfl) (Nat.le_of_ble_eq_true rfl) | exact ckl hss (Nat.le_of_ble_eq_true rfl) (Nat.le_of_ble_eq_true rfl) | exact ck0 hcs (Nat.le_of_ble_eq_true rfl) | exact ck0 hss (Nat.le_of_ble_eq_true rfl) | exact ckr hcs (Nat.le_of_ble_eq_true rfl) | exact ckr hss (Nat.le_of_ble_eq_true rfl) | exact ckz hcs (Nat.le_of_ble_eq_true rfl) | exact ckz hss (Nat.le_of_ble_eq_true rfl)), (by (try simp only [rmL, List.length_cons, List.length_nil, Nat.add_assoc, Nat.reduceAdd, Nat.add_zero]); first | exact ckl hcs (Nat.le_of_ble_eq_true rfl) (Nat.le_of_ble_eq_true rfl) | exact ckl hss (Nat.le_of_ble_eq_true rfl) (Nat.le_of_ble_eq_true rfl) | exact ck0 hcs (Nat.le_of_ble_eq_true rfl) | exact ck0 hss (Nat.le_of_ble_eq_true rfl) | exact ckr hcs (Nat.le_of_ble_eq_true rfl) | exact ckr hss (Nat.le_of_ble_eq_true rfl) | exact ckz hcs (Nat.le_of_ble_eq_true rfl) | exact ckz hss (Nat.le_of_ble_eq_true rfl))⟩ (Nat.le_of_ble_eq_true rfl) rfl (fun v h1 hq => ?_)
      obtain ⟨x, rfl, hx, e2⟩ := hq
      obtain rfl := e2.symm
      obtain ⟨p0, hp0, p1, p2⟩ : ∃ p0 : Int, x % pq = p0 ∧ 0 ≤ p0 ∧ p0 < pq := ⟨_, rfl, Int.emod_nonneg _ (by omega), Int.emod_lt_of_pos _ (by omega)⟩
      obtain ⟨t, ht, t1⟩ : ∃ t : Int, x / 8 % 60 = t ∧ 0 ≤ t ∧ t < 1000 := ⟨_, rfl, by omega, by omega⟩
      obtain ⟨g, hg, g1⟩ : ∃ g : Int, 1 + x / 512 % 120 = g ∧ 1 ≤ g ∧ g < 1000 := ⟨_, rfl, by omega, by omega⟩
      have n7 : N 7 < 4 := by rw [hR.1.2.2.1]; omega
      have n3 : N 3 = pq := hR.1.2.2.2.1
      have qp0 : 0 ≤ p0 ∧ p0 < 1000 := by omega
      have qt := t1
      have qg : 0 ≤ g ∧ g < 1000 := by omega
      have hN := RDS.trip (N := N) (x := p0) (t := t) (n := g) (by omega) (by omega) t1 g1
      have n0 : 0 ≤ nj N 2 := (hm 2 (by decide)).1
      have z0 : L.length ≤ 316 := lz0 hl rfl
      refine o_istore (pc := 733) (lv' := [(7, _), (0, _), (1, _), (2, _), (3, _), (4, _), (5, _), (6, _)]) dL_drawn_733 (by decide) rfl ?_
      refine o_iconst (pc := 735) dL_drawn_735 ?_
      refine o_sizeD (fun e he => ?_) D.n
      refine o_newI (pc := 736) (N := 4) dL_drawn_736 he rfl (Nat.le_of_ble_eq_true rfl) (by (try simp only [rmL, List.length_cons, List.length_nil, Nat.add_assoc, Nat.reduceAdd, Nat.add_zero]); first | exact ckl hcs (Nat.le_of_ble_eq_true rfl) (Nat.le_of_ble_eq_true rfl) | exact ckl hss (Nat.le_of_ble_eq_true rfl) (Nat.le_of_ble_eq_true rfl) | exact ck0 hcs (Nat.le_of_ble_eq_true rfl) | exact ck0 hss (Nat.le_of_ble_eq_true rfl) | exact ckr hcs (Nat.le_of_ble_eq_true rfl) | exact ckr hss (Nat.le_of_ble_eq_true rfl) | exact ckz hcs (Nat.le_of_ble_eq_true rfl) | exact ckz hss (Nat.le_of_ble_eq_true rfl)) (by (try simp only [rmL, List.length_cons, List.length_nil, Nat.add_assoc, Nat.reduceAdd, Nat.add_zero]); first | exact ckl hcs (Nat.le_of_ble_eq_true rfl) (Nat.le_of_ble_eq_true rfl) | exact ckl hss (Nat.le_of_ble_eq_true rfl) (Nat.le_of_ble_eq_true rfl) | exact ck0 hcs (Nat.le_of_ble_eq_true rfl) | exact ck0 hss (Nat.le_of_ble_eq_true rfl) | exact ckr hcs (Nat.le_of_ble_eq_true rfl) | exact ckr hss (Nat.le_of_ble_eq_true rfl) | exact ckz hcs (Nat.le_of_ble_eq_true rfl) | exact ckz hss (Nat.le_of_ble_eq_true rfl)) (fun fe => ?_)
      have S0 := SA.nw (tg := 0) (len := 4) (Fr.rf (S := fun _ => False) D.n) fe
      refine o_dup (pc := 738) dL_drawn_738 rfl ?_
      refine o_iconst (pc := 739) dL_drawn_739 ?_
      refine o_iload (pc := 740) dL_drawn_740 0 rfl ?_
      refine o_iload (pc := 742) dL_drawn_742 6 rfl ?_
      refine o_irem (pc := 744) dL_drawn_744 (by omega) (by omega) ?_
      refine o_topI (y := p0) hp0 ?_
      refine o_isI (pc := 745) dL_drawn_745 (shp_ak (by decide)) nw_in (by omega) (by omega) ?_
      have S1 := S0.set fe 0 p0
      refine o_dup (pc := 746) dL_drawn_746 rfl ?_
      refine o_iconst (pc := 747) dL_drawn_747 ?_
      refine o_iload (pc := 748) dL_drawn_748 0 rfl ?_
      refine o_bipush (pc := 750) (z := 8) dL_drawn_750 (by decide) ?_
      refine o_idiv (pc := 752) dL_drawn_752 (by omega) (by omega) ?_
      refine o_bipush (pc := 753) (z := 60) dL_drawn_753 (by decide) ?_
      refine o_irem (pc := 755) dL_drawn_755 (by omega) (by omega) ?_
      refine o_topI (y := t) ht ?_
      refine o_isI (pc := 756) dL_drawn_756 (shp_ak (by decide)) nw_in (by omega) (by omega) ?_
      have S2 := S1.set fe 1 t
      refine o_dup (pc := 757) dL_drawn_757 rfl ?_
      refine o_iconst (pc := 758) dL_drawn_758 ?_
      refine o_iconst (pc := 759) dL_drawn_759 ?_
      refine o_iload (pc := 760) dL_drawn_760 0 rfl ?_
      refine o_sipush (pc := 762) (z := 512) dL_drawn_762 (by decide) ?_
      refine o_idiv (pc := 765) dL_drawn_765 (by omega) (by omega) ?_
      refine o_bipush (pc := 766) (z := 120) dL_drawn_766 (by decide) ?_
      refine o_irem (pc := 768) dL_drawn_768 (by omega) (by omega) ?_
      refine o_iadd (pc := 769) dL_drawn_769 ?_
      refine o_topI (y := g) hg ?_
      refine o_isI (pc := 770) dL_drawn_770 (shp_ak (by decide)) nw_in (by omega) (by omega) ?_
      have S3 := S2.set fe 2 g
      refine o_dup (pc := 771) dL_drawn_771 rfl ?_
      refine o_iconst (pc := 772) dL_drawn_772 ?_
      refine o_iconst (pc := 773) dL_drawn_773 ?_
      refine o_isI (pc := 774) dL_drawn_774 (shp_ak (by decide)) nw_in (by omega) (by omega) ?_
      have S4 := S3.set fe 3 0
      refine o_gen (P := fun H9 => SA 0 H e 4 _ H9) S4 (fun H9 S9 => ?_)
      clear S0 S1 S2 S3 S4
      have Da := D.f0 S9.1
      refine o_astore (pc := 775) (lv' := [(8, _), (7, _), (0, _), (1, _), (2, _), (3, _), (4, _), (5, _), (6, _)]) dL_drawn_775 (by decide) rfl ?_
      refine o_aload_n (pc := 777) dL_drawn_777 5 rfl ?_
      refine o_gR (pc := 778) (j := 9) (56) ((B.1 2)) dL_drawn_778 flL_124 rfl rfl Da.1.mW (Da.1.r 2) ?_
      refine o_aload (pc := 781) dL_drawn_781 0 rfl ?_
      refine o_callV (pc := 783) _ dL_drawn_783 (cl_add (Da.1.l 2) Da.n (by have := Da.1.nb 2; have e9 : mxj 2 ≤ 16 := (by decide); omega) (a := pk 2) (e := e) (pk_isE 2) S9.2.1) lkL_60 rfl rfl rfl rfl (Da.1.l 2).1 ⟨⟨(Nat.le_of_ble_eq_true rfl), (Nat.le_of_ble_eq_true rfl)⟩, (by (try simp only [rmL, List.length_cons, List.length_nil, Nat.add_assoc, Nat.reduceAdd, Nat.add_zero]); first | exact ckl hcs (Nat.le_of_ble_eq_true rfl) (Nat.le_of_ble_eq_true rfl) | exact ckl hss (Nat.le_of_ble_eq_true rfl) (Nat.le_of_ble_eq_true rfl) | exact ck0 hcs (Nat.le_of_ble_eq_true rfl) | exact ck0 hss (Nat.le_of_ble_eq_true rfl) | exact ckr hcs (Nat.le_of_ble_eq_true rfl) | exact ckr hss (Nat.le_of_ble_eq_true rfl) | exact ckz hcs (Nat.le_of_ble_eq_true rfl) | exact ckz hss (Nat.le_of_ble_eq_true rfl)), (by (try simp only [rmL, List.length_cons, List.length_nil, Nat.add_assoc, Nat.reduceAdd, Nat.add_zero]); first | exact ckl hcs (Nat.le_of_ble_eq_true rfl) (Nat.le_of_ble_eq_true rfl) | exact ckl hss (Nat.le_of_ble_eq_true rfl) (Nat.le_of_ble_eq_true rfl) | exact ck0 hcs (Nat.le_of_ble_eq_true rfl) | exact ck0 hss (Nat.le_of_ble_eq_true rfl) | exact ckr hcs (Nat.le_of_ble_eq_true rfl) | exact ckr hss (Nat.le_of_ble_eq_true rfl) | exact ckz hcs (Nat.le_of_ble_eq_true rfl) | exact ckz hss (Nat.le_of_ble_eq_true rfl))⟩ (Nat.le_of_ble_eq_true rfl) rfl (fun v H0 hq => ?_)
      obtain ⟨rfl, k1, b1, hA0, FA0, hbb⟩ := hq
      refine o_uq (fun u0 => ?_)
      have D0 := D.add uH S9.1 u0 2 (by decide) hA0 FA0 hbb S9.2.1 fe (by show N 7 + 1 ≤ 16; omega) (v := v5 p0 t g 0 0) (fun f hf => S9.v4 f hf)
      obtain ⟨y0, q0, B0, hv0⟩ := D0.2.2.1
      refine o_pop (pc := 786) dL_drawn_786 rfl ?_
      refine o_aload_n (pc := 787) dL_drawn_787 4 rfl ?_
      refine o_ldcS (pc := 788) ";trip " 13 dL_drawn_788 (by decide +kernel) ?_
      refine o_callV (pc := 790) _ dL_drawn_790 (cb_addS (t := 13) B0 D0.n (Nat.le_trans z0 (Nat.le_of_ble_eq_true rfl)) (by decide)) lkL_45 rfl rfl rfl rfl B0.1 ⟨⟨(Nat.le_of_ble_eq_true rfl), (Nat.le_of_ble_eq_true rfl)⟩, (by (try simp only [rmL, List.length_cons, List.length_nil, Nat.add_assoc, Nat.reduceAdd, Nat.add_zero]); first | exact ckl hcs (Nat.le_of_ble_eq_true rfl) (Nat.le_of_ble_eq_true rfl) | exact ckl hss (Nat.le_of_ble_eq_true rfl) (Nat.le_of_ble_eq_true rfl) | exact ck0 hcs (Nat.le_of_ble_eq_true rfl) | exact ck0 hss (Nat.le_of_ble_eq_true rfl) | exact ckr hcs (Nat.le_of_ble_eq_true rfl) | exact ckr hss (Nat.le_of_ble_eq_true rfl) | exact ckz hcs (Nat.le_of_ble_eq_true rfl) | exact ckz hss (Nat.le_of_ble_eq_true rfl)), (by (try simp only [rmL, List.length_cons, List.length_nil, Nat.add_assoc, Nat.reduceAdd, Nat.add_zero]); first | exact ckl hcs (Nat.le_of_ble_eq_true rfl) (Nat.le_of_ble_eq_true rfl) | exact ckl hss (Nat.le_of_ble_eq_true rfl) (Nat.le_of_ble_eq_true rfl) | exact ck0 hcs (Nat.le_of_ble_eq_true rfl) | exact ck0 hss (Nat.le_of_ble_eq_true rfl) | exact ckr hcs (Nat.le_of_ble_eq_true rfl) | exact ckr hss (Nat.le_of_ble_eq_true rfl) | exact ckz hcs (Nat.le_of_ble_eq_true rfl) | exact ckz hss (Nat.le_of_ble_eq_true rfl))⟩ (Nat.le_of_ble_eq_true rfl) rfl (fun v H1 hq => ?_)
      obtain ⟨rfl, y1, q1, B1, G1, w1⟩ := hq
      refine o_uq (fun u1 => ?_)
      obtain ⟨D1, hv1⟩ := D0.app u0 B0 hv0 B1 G1 w1
      have z1 := lz (m' := 322) z0 (Nat.le_of_eq lit_l13) rfl
      refine o_aload (pc := 793) dL_drawn_793 0 rfl ?_
      refine o_iconst (pc := 795) dL_drawn_795 ?_
      refine o_iaI (pc := 796) dL_drawn_796 (shp_ak (by decide)) (DW.new D1 (by decide) n0).1 (by omega) (by omega) ((DW.new D1 (by decide) n0).2 0 (by decide)) ?_
      refine o_topI (y := p0) rfl ?_
      refine o_callV (pc := 797) _ dL_drawn_797 (cb_addI B1 D1.n (Nat.le_trans z1 (Nat.le_of_ble_eq_true rfl)) (n := p0) qp0.1 qp0.2) lkL_50 rfl rfl rfl rfl B1.1 ⟨⟨(Nat.le_of_ble_eq_true rfl), (Nat.le_of_ble_eq_true rfl)⟩, (by (try simp only [rmL, List.length_cons, List.length_nil, Nat.add_assoc, Nat.reduceAdd, Nat.add_zero]); first | exact ckl hcs (Nat.le_of_ble_eq_true rfl) (Nat.le_of_ble_eq_true rfl) | exact ckl hss (Nat.le_of_ble_eq_true rfl) (Nat.le_of_ble_eq_true rfl) | exact ck0 hcs (Nat.le_of_ble_eq_true rfl) | exact ck0 hss (Nat.le_of_ble_eq_true rfl) | exact ckr hcs (Nat.le_of_ble_eq_true rfl) | exact ckr hss (Nat.le_of_ble_eq_true rfl) | exact ckz hcs (Nat.le_of_ble_eq_true rfl) | exact ckz hss (Nat.le_of_ble_eq_true rfl)), (by (try simp only [rmL, List.length_cons, List.length_nil, Nat.add_assoc, Nat.reduceAdd, Nat.add_zero]); first | exact ckl hcs (Nat.le_of_ble_eq_true rfl) (Nat.le_of_ble_eq_true rfl) | exact ckl hss (Nat.le_of_ble_eq_true rfl) (Nat.le_of_ble_eq_true rfl) | exact ck0 hcs (Nat.le_of_ble_eq_true rfl) | exact ck0 hss (Nat.le_of_ble_eq_true rfl) | exact ckr hcs (Nat.le_of_ble_eq_true rfl) | exact ckr hss (Nat.le_of_ble_eq_true rfl) | exact ckz hcs (Nat.le_of_ble_eq_true rfl) | exact ckz hss (Nat.le_of_ble_eq_true rfl))⟩ (Nat.le_of_ble_eq_true rfl) rfl (fun v H2 hq => ?_)
      obtain ⟨rfl, y2, q2, B2, G2, w2⟩ := hq
      refine o_uq (fun u2 => ?_)
      obtain ⟨D2, hv2⟩ := D1.app u1 B1 hv1 B2 G2 w2
      have z2 := lz (m' := 325) z1 (dg_len p0).2 rfl
      refine o_bipush (pc := 800) (z := 32) dL_drawn_800 (by decide) ?_
      refine o_callV (pc := 802) _ dL_drawn_802 (cb_addC B2 D2.n (Nat.le_trans z2 (Nat.le_of_ble_eq_true rfl)) (z := 32) (by decide)) lkL_53 rfl rfl rfl rfl B2.1 ⟨⟨(Nat.le_of_ble_eq_true rfl), (Nat.le_of_ble_eq_true rfl)⟩, (by (try simp only [rmL, List.length_cons, List.length_nil, Nat.add_assoc, Nat.reduceAdd, Nat.add_zero]); first | exact ckl hcs (Nat.le_of_ble_eq_true rfl) (Nat.le_of_ble_eq_true rfl) | exact ckl hss (Nat.le_of_ble_eq_true rfl) (Nat.le_of_ble_eq_true rfl) | exact ck0 hcs (Nat.le_of_ble_eq_true rfl) | exact ck0 hss (Nat.le_of_ble_eq_true rfl) | exact ckr hcs (Nat.le_of_ble_eq_true rfl) | exact ckr hss (Nat.le_of_ble_eq_true rfl) | exact ckz hcs (Nat.le_of_ble_eq_true rfl) | exact ckz hss (Nat.le_of_ble_eq_true rfl)), (by (try simp only [rmL, List.length_cons, List.length_nil, Nat.add_assoc, Nat.reduceAdd, Nat.add_zero]); first | exact ckl hcs (Nat.le_of_ble_eq_true rfl) (Nat.le_of_ble_eq_true rfl) | exact ckl hss (Nat.le_of_ble_eq_true rfl) (Nat.le_of_ble_eq_true rfl) | exact ck0 hcs (Nat.le_of_ble_eq_true rfl) | exact ck0 hss (Nat.le_of_ble_eq_true rfl) | exact ckr hcs (Nat.le_of_ble_eq_true rfl) | exact ckr hss (Nat.le_of_ble_eq_true rfl) | exact ckz hcs (Nat.le_of_ble_eq_true rfl) | exact ckz hss (Nat.le_of_ble_eq_true rfl))⟩ (Nat.le_of_ble_eq_true rfl) rfl (fun v H3 hq => ?_)
      obtain ⟨rfl, y3, q3, B3, G3, w3⟩ := hq
      refine o_uq (fun u3 => ?_)
      obtain ⟨D3, hv3⟩ := D2.app u2 B2 hv2 B3 G3 w3
      have z3 := lz (m' := 326) z2 (show ([32] : List Int).length ≤ 1 from Nat.le_refl 1) rfl
      refine o_aload (pc := 805) dL_drawn_805 0 rfl ?_
      refine o_iconst (pc := 807) dL_drawn_807 ?_
      refine o_iaI (pc := 808) dL_drawn_808 (shp_ak (by decide)) (DW.new D3 (by decide) n0).1 (by omega) (by omega) ((DW.new D3 (by decide) n0).2 1 (by decide)) ?_
      refine o_topI (y := t) rfl ?_
      refine o_callV (pc := 809) _ dL_drawn_809 (cb_addI B3 D3.n (Nat.le_trans z3 (Nat.le_of_ble_eq_true rfl)) (n := t) qt.1 qt.2) lkL_50 rfl rfl rfl rfl B3.1 ⟨⟨(Nat.le_of_ble_eq_true rfl), (Nat.le_of_ble_eq_true rfl)⟩, (by (try simp only [rmL, List.length_cons, List.length_nil, Nat.add_assoc, Nat.reduceAdd, Nat.add_zero]); first | exact ckl hcs (Nat.le_of_ble_eq_true rfl) (Nat.le_of_ble_eq_true rfl) | exact ckl hss (Nat.le_of_ble_eq_true rfl) (Nat.le_of_ble_eq_true rfl) | exact ck0 hcs (Nat.le_of_ble_eq_true rfl) | exact ck0 hss (Nat.le_of_ble_eq_true rfl) | exact ckr hcs (Nat.le_of_ble_eq_true rfl) | exact ckr hss (Nat.le_of_ble_eq_true rfl) | exact ckz hcs (Nat.le_of_ble_eq_true rfl) | exact ckz hss (Nat.le_of_ble_eq_true rfl)), (by (try simp only [rmL, List.length_cons, List.length_nil, Nat.add_assoc, Nat.reduceAdd, Nat.add_zero]); first | exact ckl hcs (Nat.le_of_ble_eq_true rfl) (Nat.le_of_ble_eq_true rfl) | exact ckl hss (Nat.le_of_ble_eq_true rfl) (Nat.le_of_ble_eq_true rfl) | exact ck0 hcs (Nat.le_of_ble_eq_true rfl) | exact ck0 hss (Nat.le_of_ble_eq_true rfl) | exact ckr hcs (Nat.le_of_ble_eq_true rfl) | exact ckr hss (Nat.le_of_ble_eq_true rfl) | exact ckz hcs (Nat.le_of_ble_eq_true rfl) | exact ckz hss (Nat.le_of_ble_eq_true rfl))⟩ (Nat.le_of_ble_eq_true rfl) rfl (fun v H4 hq => ?_)
      obtain ⟨rfl, y4, q4, B4, G4, w4⟩ := hq
      refine o_uq (fun u4 => ?_)
      obtain ⟨D4, hv4⟩ := D3.app u3 B3 hv3 B4 G4 w4
      have z4 := lz (m' := 329) z3 (dg_len t).2 rfl
      refine o_bipush (pc := 812) (z := 32) dL_drawn_812 (by decide) ?_
      refine o_callV (pc := 814) _ dL_drawn_814 (cb_addC B4 D4.n (Nat.le_trans z4 (Nat.le_of_ble_eq_true rfl)) (z := 32) (by decide)) lkL_53 rfl rfl rfl rfl B4.1 ⟨⟨(Nat.le_of_ble_eq_true rfl), (Nat.le_of_ble_eq_true rfl)⟩, (by (try simp only [rmL, List.length_cons, List.length_nil, Nat.add_assoc, Nat.reduceAdd, Nat.add_zero]); first | exact ckl hcs (Nat.le_of_ble_eq_true rfl) (Nat.le_of_ble_eq_true rfl) | exact ckl hss (Nat.le_of_ble_eq_true rfl) (Nat.le_of_ble_eq_true rfl) | exact ck0 hcs (Nat.le_of_ble_eq_true rfl) | exact ck0 hss (Nat.le_of_ble_eq_true rfl) | exact ckr hcs (Nat.le_of_ble_eq_true rfl) | exact ckr hss (Nat.le_of_ble_eq_true rfl) | exact ckz hcs (Nat.le_of_ble_eq_true rfl) | exact ckz hss (Nat.le_of_ble_eq_true rfl)), (by (try simp only [rmL, List.length_cons, List.length_nil, Nat.add_assoc, Nat.reduceAdd, Nat.add_zero]); first | exact ckl hcs (Nat.le_of_ble_eq_true rfl) (Nat.le_of_ble_eq_true rfl) | exact ckl hss (Nat.le_of_ble_eq_true rfl) (Nat.le_of_ble_eq_true rfl) | exact ck0 hcs (Nat.le_of_ble_eq_true rfl) | exact ck0 hss (Nat.le_of_ble_eq_true rfl) | exact ckr hcs (Nat.le_of_ble_eq_true rfl) | exact ckr hss (Nat.le_of_ble_eq_true rfl) | exact ckz hcs (Nat.le_of_ble_eq_true rfl) | exact ckz hss (Nat.le_of_ble_eq_true rfl))⟩ (Nat.le_of_ble_eq_true rfl) rfl (fun v H5 hq => ?_)
      obtain ⟨rfl, y5, q5, B5, G5, w5⟩ := hq
      refine o_uq (fun u5 => ?_)
      obtain ⟨D5, hv5⟩ := D4.app u4 B4 hv4 B5 G5 w5
      have z5 := lz (m' := 330) z4 (show ([32] : List Int).length ≤ 1 from Nat.le_refl 1) rfl
      refine o_aload (pc := 817) dL_drawn_817 0 rfl ?_
      refine o_iconst (pc := 819) dL_drawn_819 ?_
      refine o_iaI (pc := 820) dL_drawn_820 (shp_ak (by decide)) (DW.new D5 (by decide) n0).1 (by omega) (by omega) ((DW.new D5 (by decide) n0).2 2 (by decide)) ?_
      refine o_topI (y := g) rfl ?_
      refine o_callV (pc := 821) _ dL_drawn_821 (cb_addI B5 D5.n (Nat.le_trans z5 (Nat.le_of_ble_eq_true rfl)) (n := g) qg.1 qg.2) lkL_50 rfl rfl rfl rfl B5.1 ⟨⟨(Nat.le_of_ble_eq_true rfl), (Nat.le_of_ble_eq_true rfl)⟩, (by (try simp only [rmL, List.length_cons, List.length_nil, Nat.add_assoc, Nat.reduceAdd, Nat.add_zero]); first | exact ckl hcs (Nat.le_of_ble_eq_true rfl) (Nat.le_of_ble_eq_true rfl) | exact ckl hss (Nat.le_of_ble_eq_true rfl) (Nat.le_of_ble_eq_true rfl) | exact ck0 hcs (Nat.le_of_ble_eq_true rfl) | exact ck0 hss (Nat.le_of_ble_eq_true rfl) | exact ckr hcs (Nat.le_of_ble_eq_true rfl) | exact ckr hss (Nat.le_of_ble_eq_true rfl) | exact ckz hcs (Nat.le_of_ble_eq_true rfl) | exact ckz hss (Nat.le_of_ble_eq_true rfl)), (by (try simp only [rmL, List.length_cons, List.length_nil, Nat.add_assoc, Nat.reduceAdd, Nat.add_zero]); first | exact ckl hcs (Nat.le_of_ble_eq_true rfl) (Nat.le_of_ble_eq_true rfl) | exact ckl hss (Nat.le_of_ble_eq_true rfl) (Nat.le_of_ble_eq_true rfl) | exact ck0 hcs (Nat.le_of_ble_eq_true rfl) | exact ck0 hss (Nat.le_of_ble_eq_true rfl) | exact ckr hcs (Nat.le_of_ble_eq_true rfl) | exact ckr hss (Nat.le_of_ble_eq_true rfl) | exact ckz hcs (Nat.le_of_ble_eq_true rfl) | exact ckz hss (Nat.le_of_ble_eq_true rfl))⟩ (Nat.le_of_ble_eq_true rfl) rfl (fun v H6 hq => ?_)
      obtain ⟨rfl, y6, q6, B6, G6, w6⟩ := hq
      refine o_uq (fun u6 => ?_)
      obtain ⟨D6, hv6⟩ := D5.app u5 B5 hv5 B6 G6 w6
      have z6 := lz (m' := 333) z5 (dg_len g).2 rfl
      refine o_pop (pc := 824) dL_drawn_824 rfl ?_
      refine o_iinc (pc := 825) (lv' := [(6, _), (8, _), (7, _), (0, _), (1, _), (2, _), (3, _), (4, _), (5, _)]) dL_drawn_825 8 rfl (by decide) rfl ?_
      refine o_goto (pc := 828) 705 dL_drawn_828 (by decide) ?_
      obtain ⟨hP2, hb2, hl2⟩ := k_tri hP hb hN qp0 qt qg
      exact o_lv [3, 4, 5, 6, 7, 8, 0] rfl (ih (k := k + 1) D6 hP2 hb2 (hR.n2 (by show N 7 + 1 ≤ 16; omega) hm rfl) (by omega) (lzn hl hl2) (by (try simp only [rmL, List.length_cons, List.length_nil, Nat.add_assoc, Nat.reduceAdd, Nat.add_zero]); first | exact ckl hcs (Nat.le_of_ble_eq_true rfl) (Nat.le_of_ble_eq_true rfl) | exact ckl hss (Nat.le_of_ble_eq_true rfl) (Nat.le_of_ble_eq_true rfl) | exact ck0 hcs (Nat.le_of_ble_eq_true rfl) | exact ck0 hss (Nat.le_of_ble_eq_true rfl) | exact ckr hcs (Nat.le_of_ble_eq_true rfl) | exact ckr hss (Nat.le_of_ble_eq_true rfl) | exact ckz hcs (Nat.le_of_ble_eq_true rfl) | exact ckz hss (Nat.le_of_ble_eq_true rfl)) (by (try simp only [rmL, List.length_cons, List.length_nil, Nat.add_assoc, Nat.reduceAdd, Nat.add_zero]); first | exact ckl hcs (Nat.le_of_ble_eq_true rfl) (Nat.le_of_ble_eq_true rfl) | exact ckl hss (Nat.le_of_ble_eq_true rfl) (Nat.le_of_ble_eq_true rfl) | exact ck0 hcs (Nat.le_of_ble_eq_true rfl) | exact ck0 hss (Nat.le_of_ble_eq_true rfl) | exact ckr hcs (Nat.le_of_ble_eq_true rfl) | exact ckr hss (Nat.le_of_ble_eq_true rfl) | exact ckz hcs (Nat.le_of_ble_eq_true rfl) | exact ckz hss (Nat.le_of_ble_eq_true rfl)))
