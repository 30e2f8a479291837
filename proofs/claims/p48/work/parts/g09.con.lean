/-! drawn: contracts, trips, suns -/
theorem dr_1064 {G : GG} {h : Hp} {a b v0 : Nat} (hL : gV G 21 ≤ 300) (m58 : (58, b) ∈ h.1) {v : Int} (hv : 0 ≤ v ∧ v < 2147483648) {H : Hp} {N : Int → Int} {B : Bok} {S T : Nat → Prop} {L : List Int} {c0 s0 : Nat} (D : DW G h H a N B S T b v0 L) (hP : PR L N) (hb : BY L) (hl : L.length ≤ 420) (hU : UC N ∧ N 9 = 0 ∧ N 2 = 0) (hcs : c0 ≤ 300) (hss : s0 ≤ 200000) : YY G ML_drawn (rmL 12 300 200000) 1064 [(3, rf G 51 a)] [] H c0 s0 (fun v h1 => ∃ L N B S T, v = some (rf G 51 a) ∧ DW G h h1 a N B S T b v0 L ∧ PR L N ∧ L.length ≤ 420 ∧ BY L ∧ UC N ∧ N 9 = 0 ∧ N 2 = 0) := by
  refine o_aload_n (pc := 1064) dL_drawn_1064 0 rfl ?_
  exact o_aret (pc := 1065) dL_drawn_1065 rfl (.inl ⟨_, rfl⟩) (.inr ⟨_, rfl⟩) (by simp only [rmL]; omega) (by simp only [rmL]; omega) ⟨L, N, B, S, T, rfl, D, hP, hl, hb, hU.1, hU.2.1, hU.2.2⟩

set_option maxRecDepth 20000 in
theorem lp_con {G : GG} {h : Hp} {a b v0 : Nat} (hL : gV G 21 ≤ 300) (m58 : (58, b) ∈ h.1) {v : Int} (hv : 0 ≤ v ∧ v < 2147483648) {cc cs_ ct pq cb5 : Int} (hcp : cb5 < pq ∨ cb5 ≤ 0) : ∀ (n : Nat) {H : Hp} {N : Int → Int} {B : Bok} {S T : Nat → Prop} {L : List Int} {k c0 s0 : Nat} (D : DW G h H a N B S T b v0 L) (hP : PR L N) (hb : BY L) (hR : RC N cc cs_ ct pq cb5 (k : Int)) (hk : (k : Int) + n = v / 16777216 % 4) (hl : L.length + 29 * n ≤ 420) (hcs : c0 + 12 * n ≤ 250) (hss : s0 + 13300 * n ≤ 199000), YY G ML_drawn (rmL 12 300 200000) 834 [(0, .ref (gV G 20)), (1, .int (iI 0)), (2, rf G 58 b), (3, rf G 51 a), (4, .int (iI v)), (6, .int (iI (k : Int)))] [] H c0 s0 (fun v h1 => ∃ L N B S T, v = some (rf G 51 a) ∧ DW G h h1 a N B S T b v0 L ∧ PR L N ∧ L.length ≤ 420 ∧ BY L ∧ UC N ∧ N 9 = 0 ∧ N 2 = 0) := by
  intro n
  induction n with
  | zero =>
    intro H N B S T L k c0 s0 D hP hb hR hk hl hcs hss
    have hm : ∀ i, i < 7 → 0 ≤ nj N i ∧ nj N i ≤ mxj i := fun i hi => (D.1.2.2.2.1 i hi).1
    refine o_uq (fun uH => ?_)
    refine o_iload (pc := 834) dL_drawn_834 5 rfl ?_
    refine o_iload (pc := 836) dL_drawn_836 4 rfl ?_
    refine o_ldc (pc := 838) (z := 16777216) dL_drawn_838 kcL_129 (by decide) ?_
    refine o_idiv (pc := 840) dL_drawn_840 (by omega) (by omega) ?_
    refine o_iconst (pc := 841) dL_drawn_841 ?_
    refine o_irem (pc := 842) dL_drawn_842 (by omega) (by omega) ?_
    refine o_icmp_ge (pc := 843) 1064 dL_drawn_843 (by decide) (by unfold inI; omega) (by unfold inI; omega) (fun c_843 => ?_) (fun c_843 => (by exfalso; omega))
    exact o_lv [3] rfl (dr_1064 hL m58 hv D hP hb (lzs hl) ⟨hR.uc hcp, hR.2.1, hR.2.2.1⟩ (by (try simp only [rmL, List.length_cons, List.length_nil, Nat.add_assoc, Nat.reduceAdd, Nat.add_zero]); first | exact ckl hcs (Nat.le_of_ble_eq_true rfl) (Nat.le_of_ble_eq_true rfl) | exact ckl hss (Nat.le_of_ble_eq_true rfl) (Nat.le_of_ble_eq_true rfl) | exact ck0 hcs (Nat.le_of_ble_eq_true rfl) | exact ck0 hss (Nat.le_of_ble_eq_true rfl) | exact ckr hcs (Nat.le_of_ble_eq_true rfl) | exact ckr hss (Nat.le_of_ble_eq_true rfl) | exact ckz hcs (Nat.le_of_ble_eq_true rfl) | exact ckz hss (Nat.le_of_ble_eq_true rfl)) (by (try simp only [rmL, List.length_cons, List.length_nil, Nat.add_assoc, Nat.reduceAdd, Nat.add_zero]); first | exact ckl hcs (Nat.le_of_ble_eq_true rfl) (Nat.le_of_ble_eq_true rfl) | exact ckl hss (Nat.le_of_ble_eq_true rfl) (Nat.le_of_ble_eq_true rfl) | exact ck0 hcs (Nat.le_of_ble_eq_true rfl) | exact ck0 hss (Nat.le_of_ble_eq_true rfl) | exact ckr hcs (Nat.le_of_ble_eq_true rfl) | exact ckr hss (Nat.le_of_ble_eq_true rfl) | exact ckz hcs (Nat.le_of_ble_eq_true rfl) | exact ckz hss (Nat.le_of_ble_eq_true rfl)))
  | succ n ih =>
    intro H N B S T L k c0 s0 D hP hb hR hk hl hcs hss
    have hm : ∀ i, i < 7 → 0 ≤ nj N i ∧ nj N i ≤ mxj i := fun i hi => (D.1.2.2.2.1 i hi).1
    refine o_uq (fun uH => ?_)
    refine o_iload (pc := 834) dL_drawn_834 5 rfl ?_
    refine o_iload (pc := 836) dL_drawn_836 4 rfl ?_
    refine o_ldc (pc := 838) (z := 16777216) dL_drawn_838 kcL_129 (by decide) ?_
    refine o_idiv (pc := 840) dL_drawn_840 (by omega) (by omega) ?_
    refine o_iconst (pc := 841) dL_drawn_841 ?_
    refine o_irem (pc := 842) dL_drawn_842 (by omega) (by omega) ?_
    refine o_icmp_ge (pc := 843) 1064 dL_drawn_843 (by decide) (by unfold inI; omega) (by unfold inI; omega) (fun c_843 => (by exfalso; omega)) (fun c_843 => ?_)
    refine o_aload_n (pc := 846) dL_drawn_846 3 rfl ?_
    refine o_gR (pc := 847) (j := 11) (56) ((B.1 4)) dL_drawn_847 flL_100 rfl rfl D.1.mW (D.1.r 4) ?_
    refine o_callV (pc := 850) _ dL_drawn_850 (cl_isEmpty (D.1.l 4)) lkL_69 rfl rfl rfl rfl (D.1.l 4).1 ⟨⟨(Nat.le_of_ble_eq_true rfl), (Nat.le_of_ble_eq_true rfl)⟩, (by (try simp only [rmL, List.length_cons, List.length_nil, Nat.add_assoc, Nat.reduceAdd, Nat.add_zero]); first | exact ckl hcs (Nat.le_of_ble_eq_true rfl) (Nat.le_of_ble_eq_true rfl) | exact ckl hss (Nat.le_of_ble_eq_true rfl) (Nat.le_of_ble_eq_true rfl) | exact ck0 hcs (Nat.le_of_ble_eq_true rfl) | exact ck0 hss (Nat.le_of_ble_eq_true rfl) | exact ckr hcs (Nat.le_of_ble_eq_true rfl) | exact ckr hss (Nat.le_of_ble_eq_true rfl) | exact ckz hcs (Nat.le_of_ble_eq_true rfl) | exact ckz hss (Nat.le_of_ble_eq_true rfl)), (by (try simp only [rmL, List.length_cons, List.length_nil, Nat.add_assoc, Nat.reduceAdd, Nat.add_zero]); first | exact ckl hcs (Nat.le_of_ble_eq_true rfl) (Nat.le_of_ble_eq_true rfl) | exact ckl hss (Nat.le_of_ble_eq_true rfl) (Nat.le_of_ble_eq_true rfl) | exact ck0 hcs (Nat.le_of_ble_eq_true rfl) | exact ck0 hss (Nat.le_of_ble_eq_true rfl) | exact ckr hcs (Nat.le_of_ble_eq_true rfl) | exact ckr hss (Nat.le_of_ble_eq_true rfl) | exact ckz hcs (Nat.le_of_ble_eq_true rfl) | exact ckz hss (Nat.le_of_ble_eq_true rfl))⟩ (Nat.le_of_ble_eq_true rfl) rfl (fun v h2 hq => ?_)
    obtain ⟨rfl, e2⟩ := hq
    obtain rfl := e2.symm
    refine o_ifb_ne (pc := 853) 1064 dL_drawn_853 (by decide) (fun c_853 => ?_) (fun c_853 => ?_)
    · exact o_lv [3] rfl (dr_1064 hL m58 hv D hP hb (lzs hl) ⟨hR.uc hcp, hR.2.1, hR.2.2.1⟩ (by (try simp only [rmL, List.length_cons, List.length_nil, Nat.add_assoc, Nat.reduceAdd, Nat.add_zero]); first | exact ckl hcs (Nat.le_of_ble_eq_true rfl) (Nat.le_of_ble_eq_true rfl) | exact ckl hss (Nat.le_of_ble_eq_true rfl) (Nat.le_of_ble_eq_true rfl) | exact ck0 hcs (Nat.le_of_ble_eq_true rfl) | exact ck0 hss (Nat.le_of_ble_eq_true rfl) | exact ckr hcs (Nat.le_of_ble_eq_true rfl) | exact ckr hss (Nat.le_of_ble_eq_true rfl) | exact ckz hcs (Nat.le_of_ble_eq_true rfl) | exact ckz hss (Nat.le_of_ble_eq_true rfl)) (by (try simp only [rmL, List.length_cons, List.length_nil, Nat.add_assoc, Nat.reduceAdd, Nat.add_zero]); first | exact ckl hcs (Nat.le_of_ble_eq_true rfl) (Nat.le_of_ble_eq_true rfl) | exact ckl hss (Nat.le_of_ble_eq_true rfl) (Nat.le_of_ble_eq_true rfl) | exact ck0 hcs (Nat.le_of_ble_eq_true rfl) | exact ck0 hss (Nat.le_of_ble_eq_true rfl) | exact ckr hcs (Nat.le_of_ble_eq_true rfl) | exact ckr hss (Nat.le_of_ble_eq_true rfl) | exact ckz hcs (Nat.le_of_ble_eq_true rfl) | exact ckz hss (Nat.le_of_ble_eq_true rfl)))
    · refine o_aload_n (pc := 856) dL_drawn_856 0 rfl ?_
      refine o_iload_n (pc := 857) dL_drawn_857 1 rfl ?_
      refine o_bipush (pc := 858) (z := 24) dL_drawn_858 (by decide) ?_
      refine o_iadd (pc := 860) dL_drawn_860 ?_
      refine o_iload (pc := 861) dL_drawn_861 5 rfl ?_
      refine o_iadd (pc := 863) dL_drawn_863 ?_
      
      refine o_callS (pc := 864) _ dL_drawn_864 (cw_at hL (k := 0 + 24 + (k : Int)) (by omega)) lkL_30 rfl ⟨⟨(Nat.le_of_ble_eq_true rfl), (Nat.le_of_ble_eq_true rfl)⟩, (by (try simp only [rmL, List.length_cons, List.length_nil, Nat.add_assoc, Nat.reduceAdd, Nat.add_zero]); first | exact ckl hcs (Nat.le_of_ble_eq_true rfl) (Nat.le_of_ble_eq_true rfl) | exact ckl hss (Nat.le_of_ble_eq_true rfl) (Nat.le_of_ble_eq_true rfl) | exact ck0 hcs (Nat.le_of_ble_eq_true rfl) | exact ck0 hss (Nat.le_of_ble_eq_true rfl) | exact ckr hcs (Nat.le_of_ble_eq_true rfl) | exact ckr hss (Nat.le_of_ble_eq_true rfl) | exact ckz hcs (Nat.le_of_ble_eq_true rfl) | exact ckz hss (Nat.le_of_ble_eq_true rfl)), (by (try simp only [rmL, List.length_cons, List.length_nil, Nat.add_assoc, Nat.reduceAdd, Nat.add_zero]); first | exact ckl hcs (Nat.le_of_ble_eq_true rfl) (Nat.le_of_ble_eq_true rfl) | exact ckl hss (Nat.le_of_ble_eq_true rfl) (Nat.le_of_ble_eq_true rfl) | exact ck0 hcs (Nat.le_of_ble_eq_true rfl) | exact ck0 hss (Nat.le_of_ble_eq_true rfl) | exact ckr hcs (Nat.le_of_ble_eq_true rfl) | exact ckr hss (Nat.le_of_ble_eq_true rfl) | exact ckz hcs (Nat.le_of_ble_eq_true rfl) | exact ckz hss (Nat.le_of_ble_eq_true rfl))⟩ (Nat.le_of_ble_eq_true rfl) rfl (fun v h1 hq => ?_)
      obtain ⟨x, rfl, hx, e2⟩ := hq
      obtain rfl := e2.symm
      refine o_istore (pc := 867) (lv' := [(7, _), (0, _), (1, _), (2, _), (3, _), (4, _), (6, _)]) dL_drawn_867 (by decide) rfl ?_
      refine o_aload_n (pc := 869) dL_drawn_869 4 rfl ?_
      refine o_gR (pc := 870) (j := 11) (56) ((B.1 4)) dL_drawn_870 flL_100 rfl rfl D.1.mW (D.1.r 4) ?_
      refine o_iload (pc := 873) dL_drawn_873 0 rfl ?_
      refine o_aload_n (pc := 875) dL_drawn_875 4 rfl ?_
      refine o_gR (pc := 876) (j := 11) (56) ((B.1 4)) dL_drawn_876 flL_100 rfl rfl D.1.mW (D.1.r 4) ?_
      refine o_callV (pc := 879) _ dL_drawn_879 (cl_size (D.1.l 4)) lkL_73 rfl rfl rfl rfl (D.1.l 4).1 ⟨⟨(Nat.le_of_ble_eq_true rfl), (Nat.le_of_ble_eq_true rfl)⟩, (by (try simp only [rmL, List.length_cons, List.length_nil, Nat.add_assoc, Nat.reduceAdd, Nat.add_zero]); first | exact ckl hcs (Nat.le_of_ble_eq_true rfl) (Nat.le_of_ble_eq_true rfl) | exact ckl hss (Nat.le_of_ble_eq_true rfl) (Nat.le_of_ble_eq_true rfl) | exact ck0 hcs (Nat.le_of_ble_eq_true rfl) | exact ck0 hss (Nat.le_of_ble_eq_true rfl) | exact ckr hcs (Nat.le_of_ble_eq_true rfl) | exact ckr hss (Nat.le_of_ble_eq_true rfl) | exact ckz hcs (Nat.le_of_ble_eq_true rfl) | exact ckz hss (Nat.le_of_ble_eq_true rfl)), (by (try simp only [rmL, List.length_cons, List.length_nil, Nat.add_assoc, Nat.reduceAdd, Nat.add_zero]); first | exact ckl hcs (Nat.le_of_ble_eq_true rfl) (Nat.le_of_ble_eq_true rfl) | exact ckl hss (Nat.le_of_ble_eq_true rfl) (Nat.le_of_ble_eq_true rfl) | exact ck0 hcs (Nat.le_of_ble_eq_true rfl) | exact ck0 hss (Nat.le_of_ble_eq_true rfl) | exact ckr hcs (Nat.le_of_ble_eq_true rfl) | exact ckr hss (Nat.le_of_ble_eq_true rfl) | exact ckz hcs (Nat.le_of_ble_eq_true rfl) | exact ckz hss (Nat.le_of_ble_eq_true rfl))⟩ (Nat.le_of_ble_eq_true rfl) rfl (fun v h2 hq => ?_)
      obtain ⟨rfl, e2⟩ := hq
      obtain rfl := e2.symm
      have n5 : 0 < N 5 := by change ¬ (N 5).toNat = 0 at c_853; have := (D.1.nb 4).1; change 0 ≤ N 5 at this; omega
      have n5b := (D.1.nb 4).2
      change N 5 ≤ 12 at n5b
      refine o_topI (y := N 5) (by show (((N 5).toNat : Nat) : Int) = _; omega) ?_
      obtain ⟨c, hce⟩ := md_nat x n5
      have em1 := Int.emod_lt_of_pos x n5
      have hc : (c : Int) < N 5 := by omega
      refine o_irem (pc := 882) dL_drawn_882 (by omega) (by omega) ?_
      refine o_topI (y := (c : Int)) hce ?_
      refine o_callV (pc := 883) _ dL_drawn_883 (D.1.get 4 hc) lkL_130 rfl rfl rfl rfl (D.1.l 4).1 ⟨⟨(Nat.le_of_ble_eq_true rfl), (Nat.le_of_ble_eq_true rfl)⟩, (by (try simp only [rmL, List.length_cons, List.length_nil, Nat.add_assoc, Nat.reduceAdd, Nat.add_zero]); first | exact ckl hcs (Nat.le_of_ble_eq_true rfl) (Nat.le_of_ble_eq_true rfl) | exact ckl hss (Nat.le_of_ble_eq_true rfl) (Nat.le_of_ble_eq_true rfl) | exact ck0 hcs (Nat.le_of_ble_eq_true rfl) | exact ck0 hss (Nat.le_of_ble_eq_true rfl) | exact ckr hcs (Nat.le_of_ble_eq_true rfl) | exact ckr hss (Nat.le_of_ble_eq_true rfl) | exact ckz hcs (Nat.le_of_ble_eq_true rfl) | exact ckz hss (Nat.le_of_ble_eq_true rfl)), (by (try simp only [rmL, List.length_cons, List.length_nil, Nat.add_assoc, Nat.reduceAdd, Nat.add_zero]); first | exact ckl hcs (Nat.le_of_ble_eq_true rfl) (Nat.le_of_ble_eq_true rfl) | exact ckl hss (Nat.le_of_ble_eq_true rfl) (Nat.le_of_ble_eq_true rfl) | exact ck0 hcs (Nat.le_of_ble_eq_true rfl) | exact ck0 hss (Nat.le_of_ble_eq_true rfl) | exact ckr hcs (Nat.le_of_ble_eq_true rfl) | exact ckr hss (Nat.le_of_ble_eq_true rfl) | exact ckz hcs (Nat.le_of_ble_eq_true rfl) | exact ckz hss (Nat.le_of_ble_eq_true rfl))⟩ (Nat.le_of_ble_eq_true rfl) rfl (fun v h2 hq => ?_)
      obtain ⟨rfl, e2⟩ := hq
      obtain rfl := e2.symm
      show YY _ _ _ _ _ (rf G 53 (bE B 4 c) :: _) _ _ _ _
      obtain ⟨li, hli, al⟩ : ∃ li : Int, 1 + x / 16 % 300 = li ∧ 1 ≤ li ∧ li < 1000 := ⟨_, rfl, by omega, by omega⟩
      obtain ⟨no, hno, ao⟩ : ∃ no : Int, x / 8192 % 8 = no ∧ 0 ≤ no ∧ no ≤ 99 := ⟨_, rfl, by omega, by omega⟩
      obtain ⟨gr, hgr, ag⟩ : ∃ gr : Int, x / 65536 % 12 = gr ∧ 0 ≤ gr ∧ gr ≤ 99 := ⟨_, rfl, by omega, by omega⟩
      have z0 : L.length ≤ 391 := lz0 hl rfl
      have r3 := hR.1.2.2.2.1
      have r4 := hR.1.2.2.2.2.1
      have r5 := hR.1.2.2.2.2.2
      have n0 : 0 ≤ nj N 5 := (D.1.nb 5).1
      have n3 := (D.1.nb 3)
      change 0 ≤ N 3 ∧ N 3 ≤ 8 at n3
      change 0 ≤ N 8 at n0
      have n8 : N 8 < 8 := by rw [r5]; omega
      have qli : 0 ≤ li ∧ li < 1000 := ⟨by omega, al.2⟩
      have qno : 0 ≤ no ∧ no < 1000 := ⟨ao.1, by omega⟩
      have qgr : 0 ≤ gr ∧ gr < 1000 := ⟨ag.1, by omega⟩
      obtain ⟨qx, qy, rd1, rd2⟩ := hR.con (by rw [← r4]; exact hc) hcp (by rw [← r3]; exact n3.2) (by rw [← r5]; exact n8) al ao ag
      refine o_castO (pc := 886) dL_drawn_886 clL_95 rfl rfl (D.1.mE 4 hc) ?_
      refine o_astore (pc := 889) (lv' := [(8, _), (7, _), (0, _), (1, _), (2, _), (3, _), (4, _), (6, _)]) dL_drawn_889 (by decide) rfl ?_
      refine o_iload (pc := 891) dL_drawn_891 1 rfl ?_
      refine o_bipush (pc := 893) (z := 8) dL_drawn_893 (by decide) ?_
      refine o_idiv (pc := 895) dL_drawn_895 (by omega) (by omega) ?_
      refine o_iconst (pc := 896) dL_drawn_896 ?_
      refine o_irem (pc := 897) dL_drawn_897 (by omega) (by omega) ?_
      refine o_if_ne (pc := 898) 905 dL_drawn_898 (by decide) (by unfold inI; omega) (fun c_898 => ?_) (fun c_898 => ?_)
      · refine o_iconst (pc := 905) dL_drawn_905 ?_
        refine o_istore (pc := 906) (lv' := [(9, _), (8, _), (7, _), (0, _), (1, _), (2, _), (3, _), (4, _), (6, _)]) dL_drawn_906 (by decide) rfl ?_
        refine o_sizeD (fun e he => ?_) D.n
        refine o_new (pc := 908) (k := 54) dL_drawn_908 ncL_134 rfl (by decide) he (by (try simp only [rmL, List.length_cons, List.length_nil, Nat.add_assoc, Nat.reduceAdd, Nat.add_zero]); first | exact ckl hcs (Nat.le_of_ble_eq_true rfl) (Nat.le_of_ble_eq_true rfl) | exact ckl hss (Nat.le_of_ble_eq_true rfl) (Nat.le_of_ble_eq_true rfl) | exact ck0 hcs (Nat.le_of_ble_eq_true rfl) | exact ck0 hss (Nat.le_of_ble_eq_true rfl) | exact ckr hcs (Nat.le_of_ble_eq_true rfl) | exact ckr hss (Nat.le_of_ble_eq_true rfl) | exact ckz hcs (Nat.le_of_ble_eq_true rfl) | exact ckz hss (Nat.le_of_ble_eq_true rfl)) (by (try simp only [rmL, List.length_cons, List.length_nil, Nat.add_assoc, Nat.reduceAdd, Nat.add_zero]); first | exact ckl hcs (Nat.le_of_ble_eq_true rfl) (Nat.le_of_ble_eq_true rfl) | exact ckl hss (Nat.le_of_ble_eq_true rfl) (Nat.le_of_ble_eq_true rfl) | exact ck0 hcs (Nat.le_of_ble_eq_true rfl) | exact ck0 hss (Nat.le_of_ble_eq_true rfl) | exact ckr hcs (Nat.le_of_ble_eq_true rfl) | exact ckr hss (Nat.le_of_ble_eq_true rfl) | exact ckz hcs (Nat.le_of_ble_eq_true rfl) | exact ckz hss (Nat.le_of_ble_eq_true rfl)) (fun fe => ?_)
        have FN : Fr (fun _ => False) H (nw H 54 e) := Fr_nw (Fr.rf D.n) (by decide) fe
        have Dn := D.f0 FN
        refine o_dup (pc := 911) dL_drawn_911 rfl ?_
        refine o_iload (pc := 912) dL_drawn_912 0 rfl ?_
        refine o_if_eq (pc := 914) 925 dL_drawn_914 (by decide) (by unfold inI; omega) (fun c_914 => ?_) (fun c_914 => (by exfalso; omega))
        refine o_aload (pc := 925) dL_drawn_925 1 rfl ?_
        refine o_gI (pc := 927) (j := 0) dL_drawn_927 flL_105 rfl rfl (Dn.1.mE 4 hc) (Dn.1.c0 hc) ?_
        refine o_iload (pc := 930) dL_drawn_930 0 rfl ?_
        refine o_if_eq (pc := 932) 943 dL_drawn_932 (by decide) (by unfold inI; omega) (fun c_932 => ?_) (fun c_932 => (by exfalso; omega))
        refine o_aload (pc := 943) dL_drawn_943 1 rfl ?_
        refine o_gI (pc := 945) (j := 1) dL_drawn_945 flL_108 rfl rfl (Dn.1.mE 4 hc) (Dn.1.c1 hc) ?_
        refine o_iconst (pc := 948) dL_drawn_948 ?_
        refine o_iload (pc := 949) dL_drawn_949 2 rfl ?_
        refine o_bipush (pc := 951) (z := 16) dL_drawn_951 (by decide) ?_
        refine o_idiv (pc := 953) dL_drawn_953 (by omega) (by omega) ?_
        refine o_sipush (pc := 954) (z := 300) dL_drawn_954 (by decide) ?_
        refine o_irem (pc := 957) dL_drawn_957 (by omega) (by omega) ?_
        refine o_iadd (pc := 958) dL_drawn_958 ?_
        refine o_topI (y := li) hli ?_
        refine o_iload (pc := 959) dL_drawn_959 2 rfl ?_
        refine o_sipush (pc := 961) (z := 8192) dL_drawn_961 (by decide) ?_
        refine o_idiv (pc := 964) dL_drawn_964 (by omega) (by omega) ?_
        refine o_bipush (pc := 965) (z := 8) dL_drawn_965 (by decide) ?_
        refine o_irem (pc := 967) dL_drawn_967 (by omega) (by omega) ?_
        refine o_topI (y := no) hno ?_
        refine o_iload (pc := 968) dL_drawn_968 2 rfl ?_
        refine o_ldc (pc := 970) (z := 65536) dL_drawn_970 kcL_68 (by decide) ?_
        refine o_idiv (pc := 972) dL_drawn_972 (by omega) (by omega) ?_
        refine o_bipush (pc := 973) (z := 12) dL_drawn_973 (by decide) ?_
        refine o_irem (pc := 975) dL_drawn_975 (by omega) (by omega) ?_
        refine o_topI (y := gr) hgr ?_
        refine o_callI (pc := 976) _ dL_drawn_976 (cw_ini54 nw_in) lkL_136 rfl rfl ⟨⟨(Nat.le_of_ble_eq_true rfl), (Nat.le_of_ble_eq_true rfl)⟩, (by (try simp only [rmL, List.length_cons, List.length_nil, Nat.add_assoc, Nat.reduceAdd, Nat.add_zero]); first | exact ckl hcs (Nat.le_of_ble_eq_true rfl) (Nat.le_of_ble_eq_true rfl) | exact ckl hss (Nat.le_of_ble_eq_true rfl) (Nat.le_of_ble_eq_true rfl) | exact ck0 hcs (Nat.le_of_ble_eq_true rfl) | exact ck0 hss (Nat.le_of_ble_eq_true rfl) | exact ckr hcs (Nat.le_of_ble_eq_true rfl) | exact ckr hss (Nat.le_of_ble_eq_true rfl) | exact ckz hcs (Nat.le_of_ble_eq_true rfl) | exact ckz hss (Nat.le_of_ble_eq_true rfl)), (by (try simp only [rmL, List.length_cons, List.length_nil, Nat.add_assoc, Nat.reduceAdd, Nat.add_zero]); first | exact ckl hcs (Nat.le_of_ble_eq_true rfl) (Nat.le_of_ble_eq_true rfl) | exact ckl hss (Nat.le_of_ble_eq_true rfl) (Nat.le_of_ble_eq_true rfl) | exact ck0 hcs (Nat.le_of_ble_eq_true rfl) | exact ck0 hss (Nat.le_of_ble_eq_true rfl) | exact ckr hcs (Nat.le_of_ble_eq_true rfl) | exact ckr hss (Nat.le_of_ble_eq_true rfl) | exact ckz hcs (Nat.le_of_ble_eq_true rfl) | exact ckz hss (Nat.le_of_ble_eq_true rfl))⟩ (Nat.le_of_ble_eq_true rfl) rfl (fun v H9 hq => ?_)
        obtain ⟨rfl, e2⟩ := hq
        have FI : Fr (fun _ => False) H H9 := by rw [e2]; exact Fr_hset (Fr_hset (Fr_hset (Fr_hset (Fr_hset FN (by decide) (.inr fe)) (by decide) (.inr fe)) (by decide) (.inr fe)) (by decide) (.inr fe)) (by decide) (.inr fe)
        have m2 : (54, e) ∈ H9.1 := by rw [e2]; exact nw_in
        have vv : ∀ f : Nat, f < 6 → H9.2.1 54 e (f : Int) = v5 (N (86 + 6 * (c : Int) + 0)) (N (86 + 6 * (c : Int) + 1)) li no gr (f : Int) := fun f hf => by
          rw [e2]
          simp only [hset_q, nw_m]
          match f, hf with
          | 0, _ => rfl
          | 1, _ => rfl
          | 2, _ => rfl
          | 3, _ => rfl
          | 4, _ => rfl
          | 5, _ => rfl
          | n + 6, hf => exact absurd hf (by omega)
        clear e2
        have Da := D.f0 FI
        obtain ⟨l, hl1⟩ : ∃ l, (N (86 + 6 * (c : Int) + 0)) = l := ⟨_, rfl⟩
        obtain ⟨r, hr1⟩ : ∃ r, (N (86 + 6 * (c : Int) + 1)) = r := ⟨_, rfl⟩
        rw [hl1, hr1] at vv
        have hN := rd1
        have ql := qx
        have qr := qy
        rw [hl1, hr1] at hN
        rw [hl1] at ql
        rw [hr1] at qr
        refine o_astore (pc := 979) (lv' := [(10, _), (9, _), (8, _), (7, _), (0, _), (1, _), (2, _), (3, _), (4, _), (6, _)]) dL_drawn_979 (by decide) rfl ?_
        refine o_aload_n (pc := 981) dL_drawn_981 7 rfl ?_
        refine o_gR (pc := 982) (j := 12) (56) ((B.1 5)) dL_drawn_982 flL_139 rfl rfl Da.1.mW (Da.1.r 5) ?_
        refine o_aload (pc := 985) dL_drawn_985 0 rfl ?_
        refine o_callV (pc := 987) _ dL_drawn_987 (cl_add (Da.1.l 5) Da.n (by have := Da.1.nb 5; have e9 : mxj 5 ≤ 16 := (by decide); omega) (a := pk 5) (e := e) (pk_isE 5) m2) lkL_60 rfl rfl rfl rfl (Da.1.l 5).1 ⟨⟨(Nat.le_of_ble_eq_true rfl), (Nat.le_of_ble_eq_true rfl)⟩, (by (try simp only [rmL, List.length_cons, List.length_nil, Nat.add_assoc, Nat.reduceAdd, Nat.add_zero]); first | exact ckl hcs (Nat.le_of_ble_eq_true rfl) (Nat.le_of_ble_eq_true rfl) | exact ckl hss (Nat.le_of_ble_eq_true rfl) (Nat.le_of_ble_eq_true rfl) | exact ck0 hcs (Nat.le_of_ble_eq_true rfl) | exact ck0 hss (Nat.le_of_ble_eq_true rfl) | exact ckr hcs (Nat.le_of_ble_eq_true rfl) | exact ckr hss (Nat.le_of_ble_eq_true rfl) | exact ckz hcs (Nat.le_of_ble_eq_true rfl) | exact ckz hss (Nat.le_of_ble_eq_true rfl)), (by (try simp only [rmL, List.length_cons, List.length_nil, Nat.add_assoc, Nat.reduceAdd, Nat.add_zero]); first | exact ckl hcs (Nat.le_of_ble_eq_true rfl) (Nat.le_of_ble_eq_true rfl) | exact ckl hss (Nat.le_of_ble_eq_true rfl) (Nat.le_of_ble_eq_true rfl) | exact ck0 hcs (Nat.le_of_ble_eq_true rfl) | exact ck0 hss (Nat.le_of_ble_eq_true rfl) | exact ckr hcs (Nat.le_of_ble_eq_true rfl) | exact ckr hss (Nat.le_of_ble_eq_true rfl) | exact ckz hcs (Nat.le_of_ble_eq_true rfl) | exact ckz hss (Nat.le_of_ble_eq_true rfl))⟩ (Nat.le_of_ble_eq_true rfl) rfl (fun v H0 hq => ?_)
        obtain ⟨rfl, k1, b1, hA0, FA0, hbb⟩ := hq
        refine o_uq (fun u0 => ?_)
        have D0 := D.add uH FI u0 5 (by decide) hA0 FA0 hbb m2 fe (by show N 8 + 1 ≤ 8; omega) (v := v5 l r li no gr) (fun f hf => vv f hf)
        obtain ⟨y0, q0, B0, hv0⟩ := D0.2.2.1
        refine o_pop (pc := 990) dL_drawn_990 rfl ?_
        refine o_aload_n (pc := 991) dL_drawn_991 6 rfl ?_
        refine o_ldcS (pc := 992) ";contract " 14 dL_drawn_992 (by decide +kernel) ?_
        refine o_callV (pc := 994) _ dL_drawn_994 (cb_addS (t := 14) B0 D0.n (Nat.le_trans z0 (Nat.le_of_ble_eq_true rfl)) (by decide)) lkL_45 rfl rfl rfl rfl B0.1 ⟨⟨(Nat.le_of_ble_eq_true rfl), (Nat.le_of_ble_eq_true rfl)⟩, (by (try simp only [rmL, List.length_cons, List.length_nil, Nat.add_assoc, Nat.reduceAdd, Nat.add_zero]); first | exact ckl hcs (Nat.le_of_ble_eq_true rfl) (Nat.le_of_ble_eq_true rfl) | exact ckl hss (Nat.le_of_ble_eq_true rfl) (Nat.le_of_ble_eq_true rfl) | exact ck0 hcs (Nat.le_of_ble_eq_true rfl) | exact ck0 hss (Nat.le_of_ble_eq_true rfl) | exact ckr hcs (Nat.le_of_ble_eq_true rfl) | exact ckr hss (Nat.le_of_ble_eq_true rfl) | exact ckz hcs (Nat.le_of_ble_eq_true rfl) | exact ckz hss (Nat.le_of_ble_eq_true rfl)), (by (try simp only [rmL, List.length_cons, List.length_nil, Nat.add_assoc, Nat.reduceAdd, Nat.add_zero]); first | exact ckl hcs (Nat.le_of_ble_eq_true rfl) (Nat.le_of_ble_eq_true rfl) | exact ckl hss (Nat.le_of_ble_eq_true rfl) (Nat.le_of_ble_eq_true rfl) | exact ck0 hcs (Nat.le_of_ble_eq_true rfl) | exact ck0 hss (Nat.le_of_ble_eq_true rfl) | exact ckr hcs (Nat.le_of_ble_eq_true rfl) | exact ckr hss (Nat.le_of_ble_eq_true rfl) | exact ckz hcs (Nat.le_of_ble_eq_true rfl) | exact ckz hss (Nat.le_of_ble_eq_true rfl))⟩ (Nat.le_of_ble_eq_true rfl) rfl (fun v H1 hq => ?_)
        obtain ⟨rfl, y1, q1, B1, G1, w1⟩ := hq
        refine o_uq (fun u1 => ?_)
        obtain ⟨D1, hv1⟩ := D0.app u0 B0 hv0 B1 G1 w1
        have z1 := lz (m' := 401) z0 (Nat.le_of_eq lit_l14) rfl
        refine o_aload (pc := 997) dL_drawn_997 0 rfl ?_
        refine o_gI (pc := 999) (j := 0) dL_drawn_999 flL_144 rfl rfl (DW.new D1 (by decide) n0).1 ((DW.new D1 (by decide) n0).2 0 (by decide)) ?_
        refine o_topI (y := l) rfl ?_
        refine o_callV (pc := 1002) _ dL_drawn_1002 (cb_addI B1 D1.n (Nat.le_trans z1 (Nat.le_of_ble_eq_true rfl)) (n := l) ql.1 ql.2) lkL_50 rfl rfl rfl rfl B1.1 ⟨⟨(Nat.le_of_ble_eq_true rfl), (Nat.le_of_ble_eq_true rfl)⟩, (by (try simp only [rmL, List.length_cons, List.length_nil, Nat.add_assoc, Nat.reduceAdd, Nat.add_zero]); first | exact ckl hcs (Nat.le_of_ble_eq_true rfl) (Nat.le_of_ble_eq_true rfl) | exact ckl hss (Nat.le_of_ble_eq_true rfl) (Nat.le_of_ble_eq_true rfl) | exact ck0 hcs (Nat.le_of_ble_eq_true rfl) | exact ck0 hss (Nat.le_of_ble_eq_true rfl) | exact ckr hcs (Nat.le_of_ble_eq_true rfl) | exact ckr hss (Nat.le_of_ble_eq_true rfl) | exact ckz hcs (Nat.le_of_ble_eq_true rfl) | exact ckz hss (Nat.le_of_ble_eq_true rfl)), (by (try simp only [rmL, List.length_cons, List.length_nil, Nat.add_assoc, Nat.reduceAdd, Nat.add_zero]); first | exact ckl hcs (Nat.le_of_ble_eq_true rfl) (Nat.le_of_ble_eq_true rfl) | exact ckl hss (Nat.le_of_ble_eq_true rfl) (Nat.le_of_ble_eq_true rfl) | exact ck0 hcs (Nat.le_of_ble_eq_true rfl) | exact ck0 hss (Nat.le_of_ble_eq_true rfl) | exact ckr hcs (Nat.le_of_ble_eq_true rfl) | exact ckr hss (Nat.le_of_ble_eq_true rfl) | exact ckz hcs (Nat.le_of_ble_eq_true rfl) | exact ckz hss (Nat.le_of_ble_eq_true rfl))⟩ (Nat.le_of_ble_eq_true rfl) rfl (fun v H2 hq => ?_)
        obtain ⟨rfl, y2, q2, B2, G2, w2⟩ := hq
        refine o_uq (fun u2 => ?_)
        obtain ⟨D2, hv2⟩ := D1.app u1 B1 hv1 B2 G2 w2
        have z2 := lz (m' := 404) z1 (dg_len l).2 rfl
        refine o_bipush (pc := 1005) (z := 32) dL_drawn_1005 (by decide) ?_
        refine o_callV (pc := 1007) _ dL_drawn_1007 (cb_addC B2 D2.n (Nat.le_trans z2 (Nat.le_of_ble_eq_true rfl)) (z := 32) (by decide)) lkL_53 rfl rfl rfl rfl B2.1 ⟨⟨(Nat.le_of_ble_eq_true rfl), (Nat.le_of_ble_eq_true rfl)⟩, (by (try simp only [rmL, List.length_cons, List.length_nil, Nat.add_assoc, Nat.reduceAdd, Nat.add_zero]); first | exact ckl hcs (Nat.le_of_ble_eq_true rfl) (Nat.le_of_ble_eq_true rfl) | exact ckl hss (Nat.le_of_ble_eq_true rfl) (Nat.le_of_ble_eq_true rfl) | exact ck0 hcs (Nat.le_of_ble_eq_true rfl) | exact ck0 hss (Nat.le_of_ble_eq_true rfl) | exact ckr hcs (Nat.le_of_ble_eq_true rfl) | exact ckr hss (Nat.le_of_ble_eq_true rfl) | exact ckz hcs (Nat.le_of_ble_eq_true rfl) | exact ckz hss (Nat.le_of_ble_eq_true rfl)), (by (try simp only [rmL, List.length_cons, List.length_nil, Nat.add_assoc, Nat.reduceAdd, Nat.add_zero]); first | exact ckl hcs (Nat.le_of_ble_eq_true rfl) (Nat.le_of_ble_eq_true rfl) | exact ckl hss (Nat.le_of_ble_eq_true rfl) (Nat.le_of_ble_eq_true rfl) | exact ck0 hcs (Nat.le_of_ble_eq_true rfl) | exact ck0 hss (Nat.le_of_ble_eq_true rfl) | exact ckr hcs (Nat.le_of_ble_eq_true rfl) | exact ckr hss (Nat.le_of_ble_eq_true rfl) | exact ckz hcs (Nat.le_of_ble_eq_true rfl) | exact ckz hss (Nat.le_of_ble_eq_true rfl))⟩ (Nat.le_of_ble_eq_true rfl) rfl (fun v H3 hq => ?_)
        obtain ⟨rfl, y3, q3, B3, G3, w3⟩ := hq
        refine o_uq (fun u3 => ?_)
        obtain ⟨D3, hv3⟩ := D2.app u2 B2 hv2 B3 G3 w3
        have z3 := lz (m' := 405) z2 (show ([32] : List Int).length ≤ 1 from Nat.le_refl 1) rfl
        refine o_aload (pc := 1010) dL_drawn_1010 0 rfl ?_
        refine o_gI (pc := 1012) (j := 1) dL_drawn_1012 flL_147 rfl rfl (DW.new D3 (by decide) n0).1 ((DW.new D3 (by decide) n0).2 1 (by decide)) ?_
        refine o_topI (y := r) rfl ?_
        refine o_callV (pc := 1015) _ dL_drawn_1015 (cb_addI B3 D3.n (Nat.le_trans z3 (Nat.le_of_ble_eq_true rfl)) (n := r) qr.1 qr.2) lkL_50 rfl rfl rfl rfl B3.1 ⟨⟨(Nat.le_of_ble_eq_true rfl), (Nat.le_of_ble_eq_true rfl)⟩, (by (try simp only [rmL, List.length_cons, List.length_nil, Nat.add_assoc, Nat.reduceAdd, Nat.add_zero]); first | exact ckl hcs (Nat.le_of_ble_eq_true rfl) (Nat.le_of_ble_eq_true rfl) | exact ckl hss (Nat.le_of_ble_eq_true rfl) (Nat.le_of_ble_eq_true rfl) | exact ck0 hcs (Nat.le_of_ble_eq_true rfl) | exact ck0 hss (Nat.le_of_ble_eq_true rfl) | exact ckr hcs (Nat.le_of_ble_eq_true rfl) | exact ckr hss (Nat.le_of_ble_eq_true rfl) | exact ckz hcs (Nat.le_of_ble_eq_true rfl) | exact ckz hss (Nat.le_of_ble_eq_true rfl)), (by (try simp only [rmL, List.length_cons, List.length_nil, Nat.add_assoc, Nat.reduceAdd, Nat.add_zero]); first | exact ckl hcs (Nat.le_of_ble_eq_true rfl) (Nat.le_of_ble_eq_true rfl) | exact ckl hss (Nat.le_of_ble_eq_true rfl) (Nat.le_of_ble_eq_true rfl) | exact ck0 hcs (Nat.le_of_ble_eq_true rfl) | exact ck0 hss (Nat.le_of_ble_eq_true rfl) | exact ckr hcs (Nat.le_of_ble_eq_true rfl) | exact ckr hss (Nat.le_of_ble_eq_true rfl) | exact ckz hcs (Nat.le_of_ble_eq_true rfl) | exact ckz hss (Nat.le_of_ble_eq_true rfl))⟩ (Nat.le_of_ble_eq_true rfl) rfl (fun v H4 hq => ?_)
        obtain ⟨rfl, y4, q4, B4, G4, w4⟩ := hq
        refine o_uq (fun u4 => ?_)
        obtain ⟨D4, hv4⟩ := D3.app u3 B3 hv3 B4 G4 w4
        have z4 := lz (m' := 408) z3 (dg_len r).2 rfl
        refine o_bipush (pc := 1018) (z := 32) dL_drawn_1018 (by decide) ?_
        refine o_callV (pc := 1020) _ dL_drawn_1020 (cb_addC B4 D4.n (Nat.le_trans z4 (Nat.le_of_ble_eq_true rfl)) (z := 32) (by decide)) lkL_53 rfl rfl rfl rfl B4.1 ⟨⟨(Nat.le_of_ble_eq_true rfl), (Nat.le_of_ble_eq_true rfl)⟩, (by (try simp only [rmL, List.length_cons, List.length_nil, Nat.add_assoc, Nat.reduceAdd, Nat.add_zero]); first | exact ckl hcs (Nat.le_of_ble_eq_true rfl) (Nat.le_of_ble_eq_true rfl) | exact ckl hss (Nat.le_of_ble_eq_true rfl) (Nat.le_of_ble_eq_true rfl) | exact ck0 hcs (Nat.le_of_ble_eq_true rfl) | exact ck0 hss (Nat.le_of_ble_eq_true rfl) | exact ckr hcs (Nat.le_of_ble_eq_true rfl) | exact ckr hss (Nat.le_of_ble_eq_true rfl) | exact ckz hcs (Nat.le_of_ble_eq_true rfl) | exact ckz hss (Nat.le_of_ble_eq_true rfl)), (by (try simp only [rmL, List.length_cons, List.length_nil, Nat.add_assoc, Nat.reduceAdd, Nat.add_zero]); first | exact ckl hcs (Nat.le_of_ble_eq_true rfl) (Nat.le_of_ble_eq_true rfl) | exact ckl hss (Nat.le_of_ble_eq_true rfl) (Nat.le_of_ble_eq_true rfl) | exact ck0 hcs (Nat.le_of_ble_eq_true rfl) | exact ck0 hss (Nat.le_of_ble_eq_true rfl) | exact ckr hcs (Nat.le_of_ble_eq_true rfl) | exact ckr hss (Nat.le_of_ble_eq_true rfl) | exact ckz hcs (Nat.le_of_ble_eq_true rfl) | exact ckz hss (Nat.le_of_ble_eq_true rfl))⟩ (Nat.le_of_ble_eq_true rfl) rfl (fun v H5 hq => ?_)
        obtain ⟨rfl, y5, q5, B5, G5, w5⟩ := hq
        refine o_uq (fun u5 => ?_)
        obtain ⟨D5, hv5⟩ := D4.app u4 B4 hv4 B5 G5 w5
        have z5 := lz (m' := 409) z4 (show ([32] : List Int).length ≤ 1 from Nat.le_refl 1) rfl
        refine o_aload (pc := 1023) dL_drawn_1023 0 rfl ?_
        refine o_gI (pc := 1025) (j := 2) dL_drawn_1025 flL_150 rfl rfl (DW.new D5 (by decide) n0).1 ((DW.new D5 (by decide) n0).2 2 (by decide)) ?_
        refine o_topI (y := li) rfl ?_
        refine o_callV (pc := 1028) _ dL_drawn_1028 (cb_addI B5 D5.n (Nat.le_trans z5 (Nat.le_of_ble_eq_true rfl)) (n := li) qli.1 qli.2) lkL_50 rfl rfl rfl rfl B5.1 ⟨⟨(Nat.le_of_ble_eq_true rfl), (Nat.le_of_ble_eq_true rfl)⟩, (by (try simp only [rmL, List.length_cons, List.length_nil, Nat.add_assoc, Nat.reduceAdd, Nat.add_zero]); first | exact ckl hcs (Nat.le_of_ble_eq_true rfl) (Nat.le_of_ble_eq_true rfl) | exact ckl hss (Nat.le_of_ble_eq_true rfl) (Nat.le_of_ble_eq_true rfl) | exact ck0 hcs (Nat.le_of_ble_eq_true rfl) | exact ck0 hss (Nat.le_of_ble_eq_true rfl) | exact ckr hcs (Nat.le_of_ble_eq_true rfl) | exact ckr hss (Nat.le_of_ble_eq_true rfl) | exact ckz hcs (Nat.le_of_ble_eq_true rfl) | exact ckz hss (Nat.le_of_ble_eq_true rfl)), (by (try simp only [rmL, List.length_cons, List.length_nil, Nat.add_assoc, Nat.reduceAdd, Nat.add_zero]); first | exact ckl hcs (Nat.le_of_ble_eq_true rfl) (Nat.le_of_ble_eq_true rfl) | exact ckl hss (Nat.le_of_ble_eq_true rfl) (Nat.le_of_ble_eq_true rfl) | exact ck0 hcs (Nat.le_of_ble_eq_true rfl) | exact ck0 hss (Nat.le_of_ble_eq_true rfl) | exact ckr hcs (Nat.le_of_ble_eq_true rfl) | exact ckr hss (Nat.le_of_ble_eq_true rfl) | exact ckz hcs (Nat.le_of_ble_eq_true rfl) | exact ckz hss (Nat.le_of_ble_eq_true rfl))⟩ (Nat.le_of_ble_eq_true rfl) rfl (fun v H6 hq => ?_)
        obtain ⟨rfl, y6, q6, B6, G6, w6⟩ := hq
        refine o_uq (fun u6 => ?_)
        obtain ⟨D6, hv6⟩ := D5.app u5 B5 hv5 B6 G6 w6
        have z6 := lz (m' := 412) z5 (dg_len li).2 rfl
        refine o_bipush (pc := 1031) (z := 32) dL_drawn_1031 (by decide) ?_
        refine o_callV (pc := 1033) _ dL_drawn_1033 (cb_addC B6 D6.n (Nat.le_trans z6 (Nat.le_of_ble_eq_true rfl)) (z := 32) (by decide)) lkL_53 rfl rfl rfl rfl B6.1 ⟨⟨(Nat.le_of_ble_eq_true rfl), (Nat.le_of_ble_eq_true rfl)⟩, (by (try simp only [rmL, List.length_cons, List.length_nil, Nat.add_assoc, Nat.reduceAdd, Nat.add_zero]); first | exact ckl hcs (Nat.le_of_ble_eq_true rfl) (Nat.le_of_ble_eq_true rfl) | exact ckl hss (Nat.le_of_ble_eq_true rfl) (Nat.le_of_ble_eq_true rfl) | exact ck0 hcs (Nat.le_of_ble_eq_true rfl) | exact ck0 hss (Nat.le_of_ble_eq_true rfl) | exact ckr hcs (Nat.le_of_ble_eq_true rfl) | exact ckr hss (Nat.le_of_ble_eq_true rfl) | exact ckz hcs (Nat.le_of_ble_eq_true rfl) | exact ckz hss (Nat.le_of_ble_eq_true rfl)), (by (try simp only [rmL, List.length_cons, List.length_nil, Nat.add_assoc, Nat.reduceAdd, Nat.add_zero]); first | exact ckl hcs (Nat.le_of_ble_eq_true rfl) (Nat.le_of_ble_eq_true rfl) | exact ckl hss (Nat.le_of_ble_eq_true rfl) (Nat.le_of_ble_eq_true rfl) | exact ck0 hcs (Nat.le_of_ble_eq_true rfl) | exact ck0 hss (Nat.le_of_ble_eq_true rfl) | exact ckr hcs (Nat.le_of_ble_eq_true rfl) | exact ckr hss (Nat.le_of_ble_eq_true rfl) | exact ckz hcs (Nat.le_of_ble_eq_true rfl) | exact ckz hss (Nat.le_of_ble_eq_true rfl))⟩ (Nat.le_of_ble_eq_true rfl) rfl (fun v H7 hq => ?_)
        obtain ⟨rfl, y7, q7, B7, G7, w7⟩ := hq
        refine o_uq (fun u7 => ?_)
        obtain ⟨D7, hv7⟩ := D6.app u6 B6 hv6 B7 G7 w7
        have z7 := lz (m' := 413) z6 (show ([32] : List Int).length ≤ 1 from Nat.le_refl 1) rfl
        refine o_aload (pc := 1036) dL_drawn_1036 0 rfl ?_
        refine o_gI (pc := 1038) (j := 3) dL_drawn_1038 flL_153 rfl rfl (DW.new D7 (by decide) n0).1 ((DW.new D7 (by decide) n0).2 3 (by decide)) ?_
        refine o_topI (y := no) rfl ?_
        refine o_callV (pc := 1041) _ dL_drawn_1041 (cb_addI B7 D7.n (Nat.le_trans z7 (Nat.le_of_ble_eq_true rfl)) (n := no) qno.1 qno.2) lkL_50 rfl rfl rfl rfl B7.1 ⟨⟨(Nat.le_of_ble_eq_true rfl), (Nat.le_of_ble_eq_true rfl)⟩, (by (try simp only [rmL, List.length_cons, List.length_nil, Nat.add_assoc, Nat.reduceAdd, Nat.add_zero]); first | exact ckl hcs (Nat.le_of_ble_eq_true rfl) (Nat.le_of_ble_eq_true rfl) | exact ckl hss (Nat.le_of_ble_eq_true rfl) (Nat.le_of_ble_eq_true rfl) | exact ck0 hcs (Nat.le_of_ble_eq_true rfl) | exact ck0 hss (Nat.le_of_ble_eq_true rfl) | exact ckr hcs (Nat.le_of_ble_eq_true rfl) | exact ckr hss (Nat.le_of_ble_eq_true rfl) | exact ckz hcs (Nat.le_of_ble_eq_true rfl) | exact ckz hss (Nat.le_of_ble_eq_true rfl)), (by (try simp only [rmL, List.length_cons, List.length_nil, Nat.add_assoc, Nat.reduceAdd, Nat.add_zero]); first | exact ckl hcs (Nat.le_of_ble_eq_true rfl) (Nat.le_of_ble_eq_true rfl) | exact ckl hss (Nat.le_of_ble_eq_true rfl) (Nat.le_of_ble_eq_true rfl) | exact ck0 hcs (Nat.le_of_ble_eq_true rfl) | exact ck0 hss (Nat.le_of_ble_eq_true rfl) | exact ckr hcs (Nat.le_of_ble_eq_true rfl) | exact ckr hss (Nat.le_of_ble_eq_true rfl) | exact ckz hcs (Nat.le_of_ble_eq_true rfl) | exact ckz hss (Nat.le_of_ble_eq_true rfl))⟩ (Nat.le_of_ble_eq_true rfl) rfl (fun v H8 hq => ?_)
        obtain ⟨rfl, y8, q8, B8, G8, w8⟩ := hq
        refine o_uq (fun u8 => ?_)
        obtain ⟨D8, hv8⟩ := D7.app u7 B7 hv7 B8 G8 w8
        have z8 := lz (m' := 416) z7 (dg_len no).2 rfl
        refine o_bipush (pc := 1044) (z := 32) dL_drawn_1044 (by decide) ?_
        refine o_callV (pc := 1046) _ dL_drawn_1046 (cb_addC B8 D8.n (Nat.le_trans z8 (Nat.le_of_ble_eq_true rfl)) (z := 32) (by decide)) lkL_53 rfl rfl rfl rfl B8.1 ⟨⟨(Nat.le_of_ble_eq_true rfl), (Nat.le_of_ble_eq_true rfl)⟩, (by (try simp only [rmL, List.length_cons, List.length_nil, Nat.add_assoc, Nat.reduceAdd, Nat.add_zero]); first | exact ckl hcs (Nat.le_of_ble_eq_true rfl) (Nat.le_of_ble_eq_true rfl) | exact ckl hss (Nat.le_of_ble_eq_true rfl) (Nat.le_of_ble_eq_true rfl) | exact ck0 hcs (Nat.le_of_ble_eq_true rfl) | exact ck0 hss (Nat.le_of_ble_eq_true rfl) | exact ckr hcs (Nat.le_of_ble_eq_true rfl) | exact ckr hss (Nat.le_of_ble_eq_true rfl) | exact ckz hcs (Nat.le_of_ble_eq_true rfl) | exact ckz hss (Nat.le_of_ble_eq_true rfl)), (by (try simp only [rmL, List.length_cons, List.length_nil, Nat.add_assoc, Nat.reduceAdd, Nat.add_zero]); first | exact ckl hcs (Nat.le_of_ble_eq_true rfl) (Nat.le_of_ble_eq_true rfl) | exact ckl hss (Nat.le_of_ble_eq_true rfl) (Nat.le_of_ble_eq_true rfl) | exact ck0 hcs (Nat.le_of_ble_eq_true rfl) | exact ck0 hss (Nat.le_of_ble_eq_true rfl) | exact ckr hcs (Nat.le_of_ble_eq_true rfl) | exact ckr hss (Nat.le_of_ble_eq_true rfl) | exact ckz hcs (Nat.le_of_ble_eq_true rfl) | exact ckz hss (Nat.le_of_ble_eq_true rfl))⟩ (Nat.le_of_ble_eq_true rfl) rfl (fun v H9 hq => ?_)
        obtain ⟨rfl, y9, q9, B9, G9, w9⟩ := hq
        refine o_uq (fun u9 => ?_)
        obtain ⟨D9, hv9⟩ := D8.app u8 B8 hv8 B9 G9 w9
        have z9 := lz (m' := 417) z8 (show ([32] : List Int).length ≤ 1 from Nat.le_refl 1) rfl
        refine o_aload (pc := 1049) dL_drawn_1049 0 rfl ?_
        refine o_gI (pc := 1051) (j := 4) dL_drawn_1051 flL_156 rfl rfl (DW.new D9 (by decide) n0).1 ((DW.new D9 (by decide) n0).2 4 (by decide)) ?_
        refine o_topI (y := gr) rfl ?_
        refine o_callV (pc := 1054) _ dL_drawn_1054 (cb_addI B9 D9.n (Nat.le_trans z9 (Nat.le_of_ble_eq_true rfl)) (n := gr) qgr.1 qgr.2) lkL_50 rfl rfl rfl rfl B9.1 ⟨⟨(Nat.le_of_ble_eq_true rfl), (Nat.le_of_ble_eq_true rfl)⟩, (by (try simp only [rmL, List.length_cons, List.length_nil, Nat.add_assoc, Nat.reduceAdd, Nat.add_zero]); first | exact ckl hcs (Nat.le_of_ble_eq_true rfl) (Nat.le_of_ble_eq_true rfl) | exact ckl hss (Nat.le_of_ble_eq_true rfl) (Nat.le_of_ble_eq_true rfl) | exact ck0 hcs (Nat.le_of_ble_eq_true rfl) | exact ck0 hss (Nat.le_of_ble_eq_true rfl) | exact ckr hcs (Nat.le_of_ble_eq_true rfl) | exact ckr hss (Nat.le_of_ble_eq_true rfl) | exact ckz hcs (Nat.le_of_ble_eq_true rfl) | exact ckz hss (Nat.le_of_ble_eq_true rfl)), (by (try simp only [rmL, List.length_cons, List.length_nil, Nat.add_assoc, Nat.reduceAdd, Nat.add_zero]); first | exact ckl hcs (Nat.le_of_ble_eq_true rfl) (Nat.le_of_ble_eq_true rfl) | exact ckl hss (Nat.le_of_ble_eq_true rfl) (Nat.le_of_ble_eq_true rfl) | exact ck0 hcs (Nat.le_of_ble_eq_true rfl) | exact ck0 hss (Nat.le_of_ble_eq_true rfl) | exact ckr hcs (Nat.le_of_ble_eq_true rfl) | exact ckr hss (Nat.le_of_ble_eq_true rfl) | exact ckz hcs (Nat.le_of_ble_eq_true rfl) | exact ckz hss (Nat.le_of_ble_eq_true rfl))⟩ (Nat.le_of_ble_eq_true rfl) rfl (fun v H10 hq => ?_)
        obtain ⟨rfl, y10, q10, B10, G10, w10⟩ := hq
        refine o_uq (fun u10 => ?_)
        obtain ⟨D10, hv10⟩ := D9.app u9 B9 hv9 B10 G10 w10
        have z10 := lz (m' := 420) z9 (dg_len gr).2 rfl
        refine o_pop (pc := 1057) dL_drawn_1057 rfl ?_
        refine o_iinc (pc := 1058) (lv' := [(6, _), (10, _), (9, _), (8, _), (7, _), (0, _), (1, _), (2, _), (3, _), (4, _)]) dL_drawn_1058 9 rfl (by decide) rfl ?_
        refine o_goto (pc := 1061) 834 dL_drawn_1061 (by decide) ?_
        obtain ⟨hP2, hb2, hl2⟩ := k_con hP hb hN ql qr qli qno qgr
        exact o_lv [5, 6, 7, 8, 9, 0] rfl (ih (k := k + 1) D10 hP2 hb2 (hR.n5 (by show N 8 + 1 ≤ 8; omega) hm rfl) (by omega) (lzn hl hl2) (by (try simp only [rmL, List.length_cons, List.length_nil, Nat.add_assoc, Nat.reduceAdd, Nat.add_zero]); first | exact ckl hcs (Nat.le_of_ble_eq_true rfl) (Nat.le_of_ble_eq_true rfl) | exact ckl hss (Nat.le_of_ble_eq_true rfl) (Nat.le_of_ble_eq_true rfl) | exact ck0 hcs (Nat.le_of_ble_eq_true rfl) | exact ck0 hss (Nat.le_of_ble_eq_true rfl) | exact ckr hcs (Nat.le_of_ble_eq_true rfl) | exact ckr hss (Nat.le_of_ble_eq_true rfl) | exact ckz hcs (Nat.le_of_ble_eq_true rfl) | exact ckz hss (Nat.le_of_ble_eq_true rfl)) (by (try simp only [rmL, List.length_cons, List.length_nil, Nat.add_assoc, Nat.reduceAdd, Nat.add_zero]); first | exact ckl hcs (Nat.le_of_ble_eq_true rfl) (Nat.le_of_ble_eq_true rfl) | exact ckl hss (Nat.le_of_ble_eq_true rfl) (Nat.le_of_ble_eq_true rfl) | exact ck0 hcs (Nat.le_of_ble_eq_true rfl) | exact ck0 hss (Nat.le_of_ble_eq_true rfl) | exact ckr hcs (Nat.le_of_ble_eq_true rfl) | exact ckr hss (Nat.le_of_ble_eq_true rfl) | exact ckz hcs (Nat.le_of_ble_eq_true rfl) | exact ckz hss (Nat.le_of_ble_eq_true rfl)))
      · refine o_iconst (pc := 901) dL_drawn_901 ?_
        refine o_goto (pc := 902) 906 dL_drawn_902 (by decide) ?_
        refine o_istore (pc := 906) (lv' := [(9, _), (8, _), (7, _), (0, _), (1, _), (2, _), (3, _), (4, _), (6, _)]) dL_drawn_906 (by decide) rfl ?_
        refine o_sizeD (fun e he => ?_) D.n
        refine o_new (pc := 908) (k := 54) dL_drawn_908 ncL_134 rfl (by decide) he (by (try simp only [rmL, List.length_cons, List.length_nil, Nat.add_assoc, Nat.reduceAdd, Nat.add_zero]); first | exact ckl hcs (Nat.le_of_ble_eq_true rfl) (Nat.le_of_ble_eq_true rfl) | exact ckl hss (Nat.le_of_ble_eq_true rfl) (Nat.le_of_ble_eq_true rfl) | exact ck0 hcs (Nat.le_of_ble_eq_true rfl) | exact ck0 hss (Nat.le_of_ble_eq_true rfl) | exact ckr hcs (Nat.le_of_ble_eq_true rfl) | exact ckr hss (Nat.le_of_ble_eq_true rfl) | exact ckz hcs (Nat.le_of_ble_eq_true rfl) | exact ckz hss (Nat.le_of_ble_eq_true rfl)) (by (try simp only [rmL, List.length_cons, List.length_nil, Nat.add_assoc, Nat.reduceAdd, Nat.add_zero]); first | exact ckl hcs (Nat.le_of_ble_eq_true rfl) (Nat.le_of_ble_eq_true rfl) | exact ckl hss (Nat.le_of_ble_eq_true rfl) (Nat.le_of_ble_eq_true rfl) | exact ck0 hcs (Nat.le_of_ble_eq_true rfl) | exact ck0 hss (Nat.le_of_ble_eq_true rfl) | exact ckr hcs (Nat.le_of_ble_eq_true rfl) | exact ckr hss (Nat.le_of_ble_eq_true rfl) | exact ckz hcs (Nat.le_of_ble_eq_true rfl) | exact ckz hss (Nat.le_of_ble_eq_true rfl)) (fun fe => ?_)
        have FN : Fr (fun _ => False) H (nw H 54 e) := Fr_nw (Fr.rf D.n) (by decide) fe
        have Dn := D.f0 FN
        refine o_dup (pc := 911) dL_drawn_911 rfl ?_
        refine o_iload (pc := 912) dL_drawn_912 0 rfl ?_
        refine o_if_eq (pc := 914) 925 dL_drawn_914 (by decide) (by unfold inI; omega) (fun c_914 => (by exfalso; omega)) (fun c_914 => ?_)
        refine o_aload (pc := 917) dL_drawn_917 1 rfl ?_
        refine o_gI (pc := 919) (j := 1) dL_drawn_919 flL_108 rfl rfl (Dn.1.mE 4 hc) (Dn.1.c1 hc) ?_
        refine o_goto (pc := 922) 930 dL_drawn_922 (by decide) ?_
        refine o_iload (pc := 930) dL_drawn_930 0 rfl ?_
        refine o_if_eq (pc := 932) 943 dL_drawn_932 (by decide) (by unfold inI; omega) (fun c_932 => (by exfalso; omega)) (fun c_932 => ?_)
        refine o_aload (pc := 935) dL_drawn_935 1 rfl ?_
        refine o_gI (pc := 937) (j := 0) dL_drawn_937 flL_105 rfl rfl (Dn.1.mE 4 hc) (Dn.1.c0 hc) ?_
        refine o_goto (pc := 940) 948 dL_drawn_940 (by decide) ?_
        refine o_iconst (pc := 948) dL_drawn_948 ?_
        refine o_iload (pc := 949) dL_drawn_949 2 rfl ?_
        refine o_bipush (pc := 951) (z := 16) dL_drawn_951 (by decide) ?_
        refine o_idiv (pc := 953) dL_drawn_953 (by omega) (by omega) ?_
        refine o_sipush (pc := 954) (z := 300) dL_drawn_954 (by decide) ?_
        refine o_irem (pc := 957) dL_drawn_957 (by omega) (by omega) ?_
        refine o_iadd (pc := 958) dL_drawn_958 ?_
        refine o_topI (y := li) hli ?_
        refine o_iload (pc := 959) dL_drawn_959 2 rfl ?_
        refine o_sipush (pc := 961) (z := 8192) dL_drawn_961 (by decide) ?_
        refine o_idiv (pc := 964) dL_drawn_964 (by omega) (by omega) ?_
        refine o_bipush (pc := 965) (z := 8) dL_drawn_965 (by decide) ?_
        refine o_irem (pc := 967) dL_drawn_967 (by omega) (by omega) ?_
        refine o_topI (y := no) hno ?_
        refine o_iload (pc := 968) dL_drawn_968 2 rfl ?_
        refine o_ldc (pc := 970) (z := 65536) dL_drawn_970 kcL_68 (by decide) ?_
        refine o_idiv (pc := 972) dL_drawn_972 (by omega) (by omega) ?_
        refine o_bipush (pc := 973) (z := 12) dL_drawn_973 (by decide) ?_
        refine o_irem (pc := 975) dL_drawn_975 (by omega) (by omega) ?_
        refine o_topI (y := gr) hgr ?_
        refine o_callI (pc := 976) _ dL_drawn_976 (cw_ini54 nw_in) lkL_136 rfl rfl ⟨⟨(Nat.le_of_ble_eq_true rfl), (Nat.le_of_ble_eq_true rfl)⟩, (by (try simp only [rmL, List.length_cons, List.length_nil, Nat.add_assoc, Nat.reduceAdd, Nat.add_zero]); first | exact ckl hcs (Nat.le_of_ble_eq_true rfl) (Nat.le_of_ble_eq_true rfl) | exact ckl hss (Nat.le_of_ble_eq_true rfl) (Nat.le_of_ble_eq_true rfl) | exact ck0 hcs (Nat.le_of_ble_eq_true rfl) | exact ck0 hss (Nat.le_of_ble_eq_true rfl) | exact ckr hcs (Nat.le_of_ble_eq_true rfl) | exact ckr hss (Nat.le_of_ble_eq_true rfl) | exact ckz hcs (Nat.le_of_ble_eq_true rfl) | exact ckz hss (Nat.le_of_ble_eq_true rfl)), (by (try simp only [rmL, List.length_cons, List.length_nil, Nat.add_assoc, Nat.reduceAdd, Nat.add_zero]); first | exact ckl hcs (Nat.le_of_ble_eq_true rfl) (Nat.le_of_ble_eq_true rfl) | exact ckl hss (Nat.le_of_ble_eq_true rfl) (Nat.le_of_ble_eq_true rfl) | exact ck0 hcs (Nat.le_of_ble_eq_true rfl) | exact ck0 hss (Nat.le_of_ble_eq_true rfl) | exact ckr hcs (Nat.le_of_ble_eq_true rfl) | exact ckr hss (Nat.le_of_ble_eq_true rfl) | exact ckz hcs (Nat.le_of_ble_eq_true rfl) | exact ckz hss (Nat.le_of_ble_eq_true rfl))⟩ (Nat.le_of_ble_eq_true rfl) rfl (fun v H9 hq => ?_)
        obtain ⟨rfl, e2⟩ := hq
        have FI : Fr (fun _ => False) H H9 := by rw [e2]; exact Fr_hset (Fr_hset (Fr_hset (Fr_hset (Fr_hset FN (by decide) (.inr fe)) (by decide) (.inr fe)) (by decide) (.inr fe)) (by decide) (.inr fe)) (by decide) (.inr fe)
        have m2 : (54, e) ∈ H9.1 := by rw [e2]; exact nw_in
        have vv : ∀ f : Nat, f < 6 → H9.2.1 54 e (f : Int) = v5 (N (86 + 6 * (c : Int) + 1)) (N (86 + 6 * (c : Int) + 0)) li no gr (f : Int) := fun f hf => by
          rw [e2]
          simp only [hset_q, nw_m]
          match f, hf with
          | 0, _ => rfl
          | 1, _ => rfl
          | 2, _ => rfl
          | 3, _ => rfl
          | 4, _ => rfl
          | 5, _ => rfl
          | n + 6, hf => exact absurd hf (by omega)
        clear e2
        have Da := D.f0 FI
        obtain ⟨l, hl1⟩ : ∃ l, (N (86 + 6 * (c : Int) + 1)) = l := ⟨_, rfl⟩
        obtain ⟨r, hr1⟩ : ∃ r, (N (86 + 6 * (c : Int) + 0)) = r := ⟨_, rfl⟩
        rw [hl1, hr1] at vv
        have hN := rd2
        have ql := qy
        have qr := qx
        rw [hl1, hr1] at hN
        rw [hl1] at ql
        rw [hr1] at qr
        refine o_astore (pc := 979) (lv' := [(10, _), (9, _), (8, _), (7, _), (0, _), (1, _), (2, _), (3, _), (4, _), (6, _)]) dL_drawn_979 (by decide) rfl ?_
        refine o_aload_n (pc := 981) dL_drawn_981 7 rfl ?_
        refine o_gR (pc := 982) (j := 12) (56) ((B.1 5)) dL_drawn_982 flL_139 rfl rfl Da.1.mW (Da.1.r 5) ?_
        refine o_aload (pc := 985) dL_drawn_985 0 rfl ?_
        refine o_callV (pc := 987) _ dL_drawn_987 (cl_add (Da.1.l 5) Da.n (by have := Da.1.nb 5; have e9 : mxj 5 ≤ 16 := (by decide); omega) (a := pk 5) (e := e) (pk_isE 5) m2) lkL_60 rfl rfl rfl rfl (Da.1.l 5).1 ⟨⟨(Nat.le_of_ble_eq_true rfl), (Nat.le_of_ble_eq_true rfl)⟩, (by (try simp only [rmL, List.length_cons, List.length_nil, Nat.add_assoc, Nat.reduceAdd, Nat.add_zero]); first | exact ckl hcs (Nat.le_of_ble_eq_true rfl) (Nat.le_of_ble_eq_true rfl) | exact ckl hss (Nat.le_of_ble_eq_true rfl) (Nat.le_of_ble_eq_true rfl) | exact ck0 hcs (Nat.le_of_ble_eq_true rfl) | exact ck0 hss (Nat.le_of_ble_eq_true rfl) | exact ckr hcs (Nat.le_of_ble_eq_true rfl) | exact ckr hss (Nat.le_of_ble_eq_true rfl) | exact ckz hcs (Nat.le_of_ble_eq_true rfl) | exact ckz hss (Nat.le_of_ble_eq_true rfl)), (by (try simp only [rmL, List.length_cons, List.length_nil, Nat.add_assoc, Nat.reduceAdd, Nat.add_zero]); first | exact ckl hcs (Nat.le_of_ble_eq_true rfl) (Nat.le_of_ble_eq_true rfl) | exact ckl hss (Nat.le_of_ble_eq_true rfl) (Nat.le_of_ble_eq_true rfl) | exact ck0 hcs (Nat.le_of_ble_eq_true rfl) | exact ck0 hss (Nat.le_of_ble_eq_true rfl) | exact ckr hcs (Nat.le_of_ble_eq_true rfl) | exact ckr hss (Nat.le_of_ble_eq_true rfl) | exact ckz hcs (Nat.le_of_ble_eq_true rfl) | exact ckz hss (Nat.le_of_ble_eq_true rfl))⟩ (Nat.le_of_ble_eq_true rfl) rfl (fun v H0 hq => ?_)
        obtain ⟨rfl, k1, b1, hA0, FA0, hbb⟩ := hq
        refine o_uq (fun u0 => ?_)
        have D0 := D.add uH FI u0 5 (by decide) hA0 FA0 hbb m2 fe (by show N 8 + 1 ≤ 8; omega) (v := v5 l r li no gr) (fun f hf => vv f hf)
        obtain ⟨y0, q0, B0, hv0⟩ := D0.2.2.1
        refine o_pop (pc := 990) dL_drawn_990 rfl ?_
        refine o_aload_n (pc := 991) dL_drawn_991 6 rfl ?_
        refine o_ldcS (pc := 992) ";contract " 14 dL_drawn_992 (by decide +kernel) ?_
        refine o_callV (pc := 994) _ dL_drawn_994 (cb_addS (t := 14) B0 D0.n (Nat.le_trans z0 (Nat.le_of_ble_eq_true rfl)) (by decide)) lkL_45 rfl rfl rfl rfl B0.1 ⟨⟨(Nat.le_of_ble_eq_true rfl), (Nat.le_of_ble_eq_true rfl)⟩, (by (try simp only [rmL, List.length_cons, List.length_nil, Nat.add_assoc, Nat.reduceAdd, Nat.add_zero]); first | exact ckl hcs (Nat.le_of_ble_eq_true rfl) (Nat.le_of_ble_eq_true rfl) | exact ckl hss (Nat.le_of_ble_eq_true rfl) (Nat.le_of_ble_eq_true rfl) | exact ck0 hcs (Nat.le_of_ble_eq_true rfl) | exact ck0 hss (Nat.le_of_ble_eq_true rfl) | exact ckr hcs (Nat.le_of_ble_eq_true rfl) | exact ckr hss (Nat.le_of_ble_eq_true rfl) | exact ckz hcs (Nat.le_of_ble_eq_true rfl) | exact ckz hss (Nat.le_of_ble_eq_true rfl)), (by (try simp only [rmL, List.length_cons, List.length_nil, Nat.add_assoc, Nat.reduceAdd, Nat.add_zero]); first | exact ckl hcs (Nat.le_of_ble_eq_true rfl) (Nat.le_of_ble_eq_true rfl) | exact ckl hss (Nat.le_of_ble_eq_true rfl) (Nat.le_of_ble_eq_true rfl) | exact ck0 hcs (Nat.le_of_ble_eq_true rfl) | exact ck0 hss (Nat.le_of_ble_eq_true rfl) | exact ckr hcs (Nat.le_of_ble_eq_true rfl) | exact ckr hss (Nat.le_of_ble_eq_true rfl) | exact ckz hcs (Nat.le_of_ble_eq_true rfl) | exact ckz hss (Nat.le_of_ble_eq_true rfl))⟩ (Nat.le_of_ble_eq_true rfl) rfl (fun v H1 hq => ?_)
        obtain ⟨rfl, y1, q1, B1, G1, w1⟩ := hq
        refine o_uq (fun u1 => ?_)
        obtain ⟨D1, hv1⟩ := D0.app u0 B0 hv0 B1 G1 w1
        have z1 := lz (m' := 401) z0 (Nat.le_of_eq lit_l14) rfl
        refine o_aload (pc := 997) dL_drawn_997 0 rfl ?_
        refine o_gI (pc := 999) (j := 0) dL_drawn_999 flL_144 rfl rfl (DW.new D1 (by decide) n0).1 ((DW.new D1 (by decide) n0).2 0 (by decide)) ?_
        refine o_topI (y := l) rfl ?_
        refine o_callV (pc := 1002) _ dL_drawn_1002 (cb_addI B1 D1.n (Nat.le_trans z1 (Nat.le_of_ble_eq_true rfl)) (n := l) ql.1 ql.2) lkL_50 rfl rfl rfl rfl B1.1 ⟨⟨(Nat.le_of_ble_eq_true rfl), (Nat.le_of_ble_eq_true rfl)⟩, (by (try simp only [rmL, List.length_cons, List.length_nil, Nat.add_assoc, Nat.reduceAdd, Nat.add_zero]); first | exact ckl hcs (Nat.le_of_ble_eq_true rfl) (Nat.le_of_ble_eq_true rfl) | exact ckl hss (Nat.le_of_ble_eq_true rfl) (Nat.le_of_ble_eq_true rfl) | exact ck0 hcs (Nat.le_of_ble_eq_true rfl) | exact ck0 hss (Nat.le_of_ble_eq_true rfl) | exact ckr hcs (Nat.le_of_ble_eq_true rfl) | exact ckr hss (Nat.le_of_ble_eq_true rfl) | exact ckz hcs (Nat.le_of_ble_eq_true rfl) | exact ckz hss (Nat.le_of_ble_eq_true rfl)), (by (try simp only [rmL, List.length_cons, List.length_nil, Nat.add_assoc, Nat.reduceAdd, Nat.add_zero]); first | exact ckl hcs (Nat.le_of_ble_eq_true rfl) (Nat.le_of_ble_eq_true rfl) | exact ckl hss (Nat.le_of_ble_eq_true rfl) (Nat.le_of_ble_eq_true rfl) | exact ck0 hcs (Nat.le_of_ble_eq_true rfl) | exact ck0 hss (Nat.le_of_ble_eq_true rfl) | exact ckr hcs (Nat.le_of_ble_eq_true rfl) | exact ckr hss (Nat.le_of_ble_eq_true rfl) | exact ckz hcs (Nat.le_of_ble_eq_true rfl) | exact ckz hss (Nat.le_of_ble_eq_true rfl))⟩ (Nat.le_of_ble_eq_true rfl) rfl (fun v H2 hq => ?_)
        obtain ⟨rfl, y2, q2, B2, G2, w2⟩ := hq
        refine o_uq (fun u2 => ?_)
        obtain ⟨D2, hv2⟩ := D1.app u1 B1 hv1 B2 G2 w2
        have z2 := lz (m' := 404) z1 (dg_len l).2 rfl
        refine o_bipush (pc := 1005) (z := 32) dL_drawn_1005 (by decide) ?_
        refine o_callV (pc := 1007) _ dL_drawn_1007 (cb_addC B2 D2.n (Nat.le_trans z2 (Nat.le_of_ble_eq_true rfl)) (z := 32) (by decide)) lkL_53 rfl rfl rfl rfl B2.1 ⟨⟨(Nat.le_of_ble_eq_true rfl), (Nat.le_of_ble_eq_true rfl)⟩, (by (try simp only [rmL, List.length_cons, List.length_nil, Nat.add_assoc, Nat.reduceAdd, Nat.add_zero]); first | exact ckl hcs (Nat.le_of_ble_eq_true rfl) (Nat.le_of_ble_eq_true rfl) | exact ckl hss (Nat.le_of_ble_eq_true rfl) (Nat.le_of_ble_eq_true rfl) | exact ck0 hcs (Nat.le_of_ble_eq_true rfl) | exact ck0 hss (Nat.le_of_ble_eq_true rfl) | exact ckr hcs (Nat.le_of_ble_eq_true rfl) | exact ckr hss (Nat.le_of_ble_eq_true rfl) | exact ckz hcs (Nat.le_of_ble_eq_true rfl) | exact ckz hss (Nat.le_of_ble_eq_true rfl)), (by (try simp only [rmL, List.length_cons, List.length_nil, Nat.add_assoc, Nat.reduceAdd, Nat.add_zero]); first | exact ckl hcs (Nat.le_of_ble_eq_true rfl) (Nat.le_of_ble_eq_true rfl) | exact ckl hss (Nat.le_of_ble_eq_true rfl) (Nat.le_of_ble_eq_true rfl) | exact ck0 hcs (Nat.le_of_ble_eq_true rfl) | exact ck0 hss (Nat.le_of_ble_eq_true rfl) | exact ckr hcs (Nat.le_of_ble_eq_true rfl) | exact ckr hss (Nat.le_of_ble_eq_true rfl) | exact ckz hcs (Nat.le_of_ble_eq_true rfl) | exact ckz hss (Nat.le_of_ble_eq_true rfl))⟩ (Nat.le_of_ble_eq_true rfl) rfl (fun v H3 hq => ?_)
        obtain ⟨rfl, y3, q3, B3, G3, w3⟩ := hq
        refine o_uq (fun u3 => ?_)
        obtain ⟨D3, hv3⟩ := D2.app u2 B2 hv2 B3 G3 w3
        have z3 := lz (m' := 405) z2 (show ([32] : List Int).length ≤ 1 from Nat.le_refl 1) rfl
        refine o_aload (pc := 1010) dL_drawn_1010 0 rfl ?_
        refine o_gI (pc := 1012) (j := 1) dL_drawn_1012 flL_147 rfl rfl (DW.new D3 (by decide) n0).1 ((DW.new D3 (by decide) n0).2 1 (by decide)) ?_
        refine o_topI (y := r) rfl ?_
        refine o_callV (pc := 1015) _ dL_drawn_1015 (cb_addI B3 D3.n (Nat.le_trans z3 (Nat.le_of_ble_eq_true rfl)) (n := r) qr.1 qr.2) lkL_50 rfl rfl rfl rfl B3.1 ⟨⟨(Nat.le_of_ble_eq_true rfl), (Nat.le_of_ble_eq_true rfl)⟩, (by (try simp only [rmL, List.length_cons, List.length_nil, Nat.add_assoc, Nat.reduceAdd, Nat.add_zero]); first | exact ckl hcs (Nat.le_of_ble_eq_true rfl) (Nat.le_of_ble_eq_true rfl) | exact ckl hss (Nat.le_of_ble_eq_true rfl) (Nat.le_of_ble_eq_true rfl) | exact ck0 hcs (Nat.le_of_ble_eq_true rfl) | exact ck0 hss (Nat.le_of_ble_eq_true rfl) | exact ckr hcs (Nat.le_of_ble_eq_true rfl) | exact ckr hss (Nat.le_of_ble_eq_true rfl) | exact ckz hcs (Nat.le_of_ble_eq_true rfl) | exact ckz hss (Nat.le_of_ble_eq_true rfl)), (by (try simp only [rmL, List.length_cons, List.length_nil, Nat.add_assoc, Nat.reduceAdd, Nat.add_zero]); first | exact ckl hcs (Nat.le_of_ble_eq_true rfl) (Nat.le_of_ble_eq_true rfl) | exact ckl hss (Nat.le_of_ble_eq_true rfl) (Nat.le_of_ble_eq_true rfl) | exact ck0 hcs (Nat.le_of_ble_eq_true rfl) | exact ck0 hss (Nat.le_of_ble_eq_true rfl) | exact ckr hcs (Nat.le_of_ble_eq_true rfl) | exact ckr hss (Nat.le_of_ble_eq_true rfl) | exact ckz hcs (Nat.le_of_ble_eq_true rfl) | exact ckz hss (Nat.le_of_ble_eq_true rfl))⟩ (Nat.le_of_ble_eq_true rfl) rfl (fun v H4 hq => ?_)
        obtain ⟨rfl, y4, q4, B4, G4, w4⟩ := hq
        refine o_uq (fun u4 => ?_)
        obtain ⟨D4, hv4⟩ := D3.app u3 B3 hv3 B4 G4 w4
        have z4 := lz (m' := 408) z3 (dg_len r).2 rfl
        refine o_bipush (pc := 1018) (z := 32) dL_drawn_1018 (by decide) ?_
        refine o_callV (pc := 1020) _ dL_drawn_1020 (cb_addC B4 D4.n (Nat.le_trans z4 (Nat.le_of_ble_eq_true rfl)) (z := 32) (by decide)) lkL_53 rfl rfl rfl rfl B4.1 ⟨⟨(Nat.le_of_ble_eq_true rfl), (Nat.le_of_ble_eq_true rfl)⟩, (by (try simp only [rmL, List.length_cons, List.length_nil, Nat.add_assoc, Nat.reduceAdd, Nat.add_zero]); first | exact ckl hcs (Nat.le_of_ble_eq_true rfl) (Nat.le_of_ble_eq_true rfl) | exact ckl hss (Nat.le_of_ble_eq_true rfl) (Nat.le_of_ble_eq_true rfl) | exact ck0 hcs (Nat.le_of_ble_eq_true rfl) | exact ck0 hss (Nat.le_of_ble_eq_true rfl) | exact ckr hcs (Nat.le_of_ble_eq_true rfl) | exact ckr hss (Nat.le_of_ble_eq_true rfl) | exact ckz hcs (Nat.le_of_ble_eq_true rfl) | exact ckz hss (Nat.le_of_ble_eq_true rfl)), (by (try simp only [rmL, List.length_cons, List.length_nil, Nat.add_assoc, Nat.reduceAdd, Nat.add_zero]); first | exact ckl hcs (Nat.le_of_ble_eq_true rfl) (Nat.le_of_ble_eq_true rfl) | exact ckl hss (Nat.le_of_ble_eq_true rfl) (Nat.le_of_ble_eq_true rfl) | exact ck0 hcs (Nat.le_of_ble_eq_true rfl) | exact ck0 hss (Nat.le_of_ble_eq_true rfl) | exact ckr hcs (Nat.le_of_ble_eq_true rfl) | exact ckr hss (Nat.le_of_ble_eq_true rfl) | exact ckz hcs (Nat.le_of_ble_eq_true rfl) | exact ckz hss (Nat.le_of_ble_eq_true rfl))⟩ (Nat.le_of_ble_eq_true rfl) rfl (fun v H5 hq => ?_)
        obtain ⟨rfl, y5, q5, B5, G5, w5⟩ := hq
        refine o_uq (fun u5 => ?_)
        obtain ⟨D5, hv5⟩ := D4.app u4 B4 hv4 B5 G5 w5
        have z5 := lz (m' := 409) z4 (show ([32] : List Int).length ≤ 1 from Nat.le_refl 1) rfl
        refine o_aload (pc := 1023) dL_drawn_1023 0 rfl ?_
        refine o_gI (pc := 1025) (j := 2) dL_drawn_1025 flL_150 rfl rfl (DW.new D5 (by decide) n0).1 ((DW.new D5 (by decide) n0).2 2 (by decide)) ?_
        refine o_topI (y := li) rfl ?_
        refine o_callV (pc := 1028) _ dL_drawn_1028 (cb_addI B5 D5.n (Nat.le_trans z5 (Nat.le_of_ble_eq_true rfl)) (n := li) qli.1 qli.2) lkL_50 rfl rfl rfl rfl B5.1 ⟨⟨(Nat.le_of_ble_eq_true rfl), (Nat.le_of_ble_eq_true rfl)⟩, (by (try simp only [rmL, List.length_cons, List.length_nil, Nat.add_assoc, Nat.reduceAdd, Nat.add_zero]); first | exact ckl hcs (Nat.le_of_ble_eq_true rfl) (Nat.le_of_ble_eq_true rfl) | exact ckl hss (Nat.le_of_ble_eq_true rfl) (Nat.le_of_ble_eq_true rfl) | exact ck0 hcs (Nat.le_of_ble_eq_true rfl) | exact ck0 hss (Nat.le_of_ble_eq_true rfl) | exact ckr hcs (Nat.le_of_ble_eq_true rfl) | exact ckr hss (Nat.le_of_ble_eq_true rfl) | exact ckz hcs (Nat.le_of_ble_eq_true rfl) | exact ckz hss (Nat.le_of_ble_eq_true rfl)), (by (try simp only [rmL, List.length_cons, List.length_nil, Nat.add_assoc, Nat.reduceAdd, Nat.add_zero]); first | exact ckl hcs (Nat.le_of_ble_eq_true rfl) (Nat.le_of_ble_eq_true rfl) | exact ckl hss (Nat.le_of_ble_eq_true rfl) (Nat.le_of_ble_eq_true rfl) | exact ck0 hcs (Nat.le_of_ble_eq_true rfl) | exact ck0 hss (Nat.le_of_ble_eq_true rfl) | exact ckr hcs (Nat.le_of_ble_eq_true rfl) | exact ckr hss (Nat.le_of_ble_eq_true rfl) | exact ckz hcs (Nat.le_of_ble_eq_true rfl) | exact ckz hss (Nat.le_of_ble_eq_true rfl))⟩ (Nat.le_of_ble_eq_true rfl) rfl (fun v H6 hq => ?_)
        obtain ⟨rfl, y6, q6, B6, G6, w6⟩ := hq
        refine o_uq (fun u6 => ?_)
        obtain ⟨D6, hv6⟩ := D5.app u5 B5 hv5 B6 G6 w6
        have z6 := lz (m' := 412) z5 (dg_len li).2 rfl
        refine o_bipush (pc := 1031) (z := 32) dL_drawn_1031 (by decide) ?_
        refine o_callV (pc := 1033) _ dL_drawn_1033 (cb_addC B6 D6.n (Nat.le_trans z6 (Nat.le_of_ble_eq_true rfl)) (z := 32) (by decide)) lkL_53 rfl rfl rfl rfl B6.1 ⟨⟨(Nat.le_of_ble_eq_true rfl), (Nat.le_of_ble_eq_true rfl)⟩, (by (try simp only [rmL, List.length_cons, List.length_nil, Nat.add_assoc, Nat.reduceAdd, Nat.add_zero]); first | exact ckl hcs (Nat.le_of_ble_eq_true rfl) (Nat.le_of_ble_eq_true rfl) | exact ckl hss (Nat.le_of_ble_eq_true rfl) (Nat.le_of_ble_eq_true rfl) | exact ck0 hcs (Nat.le_of_ble_eq_true rfl) | exact ck0 hss (Nat.le_of_ble_eq_true rfl) | exact ckr hcs (Nat.le_of_ble_eq_true rfl) | exact ckr hss (Nat.le_of_ble_eq_true rfl) | exact ckz hcs (Nat.le_of_ble_eq_true rfl) | exact ckz hss (Nat.le_of_ble_eq_true rfl)), (by (try simp only [rmL, List.length_cons, List.length_nil, Nat.add_assoc, Nat.reduceAdd, Nat.add_zero]); first | exact ckl hcs (Nat.le_of_ble_eq_true rfl) (Nat.le_of_ble_eq_true rfl) | exact ckl hss (Nat.le_of_ble_eq_true rfl) (Nat.le_of_ble_eq_true rfl) | exact ck0 hcs (Nat.le_of_ble_eq_true rfl) | exact ck0 hss (Nat.le_of_ble_eq_true rfl) | exact ckr hcs (Nat.le_of_ble_eq_true rfl) | exact ckr hss (Nat.le_of_ble_eq_true rfl) | exact ckz hcs (Nat.le_of_ble_eq_true rfl) | exact ckz hss (Nat.le_of_ble_eq_true rfl))⟩ (Nat.le_of_ble_eq_true rfl) rfl (fun v H7 hq => ?_)
        obtain ⟨rfl, y7, q7, B7, G7, w7⟩ := hq
        refine o_uq (fun u7 => ?_)
        obtain ⟨D7, hv7⟩ := D6.app u6 B6 hv6 B7 G7 w7
        have z7 := lz (m' := 413) z6 (show ([32] : List Int).length ≤ 1 from Nat.le_refl 1) rfl
        refine o_aload (pc := 1036) dL_drawn_1036 0 rfl ?_
        refine o_gI (pc := 1038) (j := 3) dL_drawn_1038 flL_153 rfl rfl (DW.new D7 (by decide) n0).1 ((DW.new D7 (by decide) n0).2 3 (by decide)) ?_
        refine o_topI (y := no) rfl ?_
        refine o_callV (pc := 1041) _ dL_drawn_1041 (cb_addI B7 D7.n (Nat.le_trans z7 (Nat.le_of_ble_eq_true rfl)) (n := no) qno.1 qno.2) lkL_50 rfl rfl rfl rfl B7.1 ⟨⟨(Nat.le_of_ble_eq_true rfl), (Nat.le_of_ble_eq_true rfl)⟩, (by (try simp only [rmL, List.length_cons, List.length_nil, Nat.add_assoc, Nat.reduceAdd, Nat.add_zero]); first | exact ckl hcs (Nat.le_of_ble_eq_true rfl) (Nat.le_of_ble_eq_true rfl) | exact ckl hss (Nat.le_of_ble_eq_true rfl) (Nat.le_of_ble_eq_true rfl) | exact ck0 hcs (Nat.le_of_ble_eq_true rfl) | exact ck0 hss (Nat.le_of_ble_eq_true rfl) | exact ckr hcs (Nat.le_of_ble_eq_true rfl) | exact ckr hss (Nat.le_of_ble_eq_true rfl) | exact ckz hcs (Nat.le_of_ble_eq_true rfl) | exact ckz hss (Nat.le_of_ble_eq_true rfl)), (by (try simp only [rmL, List.length_cons, List.length_nil, Nat.add_assoc, Nat.reduceAdd, Nat.add_zero]); first | exact ckl hcs (Nat.le_of_ble_eq_true rfl) (Nat.le_of_ble_eq_true rfl) | exact ckl hss (Nat.le_of_ble_eq_true rfl) (Nat.le_of_ble_eq_true rfl) | exact ck0 hcs (Nat.le_of_ble_eq_true rfl) | exact ck0 hss (Nat.le_of_ble_eq_true rfl) | exact ckr hcs (Nat.le_of_ble_eq_true rfl) | exact ckr hss (Nat.le_of_ble_eq_true rfl) | exact ckz hcs (Nat.le_of_ble_eq_true rfl) | exact ckz hss (Nat.le_of_ble_eq_true rfl))⟩ (Nat.le_of_ble_eq_true rfl) rfl (fun v H8 hq => ?_)
        obtain ⟨rfl, y8, q8, B8, G8, w8⟩ := hq
        refine o_uq (fun u8 => ?_)
        obtain ⟨D8, hv8⟩ := D7.app u7 B7 hv7 B8 G8 w8
        have z8 := lz (m' := 416) z7 (dg_len no).2 rfl
        refine o_bipush (pc := 1044) (z := 32) dL_drawn_1044 (by decide) ?_
        refine o_callV (pc := 1046) _ dL_drawn_1046 (cb_addC B8 D8.n (Nat.le_trans z8 (Nat.le_of_ble_eq_true rfl)) (z := 32) (by decide)) lkL_53 rfl rfl rfl rfl B8.1 ⟨⟨(Nat.le_of_ble_eq_true rfl), (Nat.le_of_ble_eq_true rfl)⟩, (by (try simp only [rmL, List.length_cons, List.length_nil, Nat.add_assoc, Nat.reduceAdd, Nat.add_zero]); first | exact ckl hcs (Nat.le_of_ble_eq_true rfl) (Nat.le_of_ble_eq_true rfl) | exact ckl hss (Nat.le_of_ble_eq_true rfl) (Nat.le_of_ble_eq_true rfl) | exact ck0 hcs (Nat.le_of_ble_eq_true rfl) | exact ck0 hss (Nat.le_of_ble_eq_true rfl) | exact ckr hcs (Nat.le_of_ble_eq_true rfl) | exact ckr hss (Nat.le_of_ble_eq_true rfl) | exact ckz hcs (Nat.le_of_ble_eq_true rfl) | exact ckz hss (Nat.le_of_ble_eq_true rfl)), (by (try simp only [rmL, List.length_cons, List.length_nil, Nat.add_assoc, Nat.reduceAdd, Nat.add_zero]); first | exact ckl hcs (Nat.le_of_ble_eq_true rfl) (Nat.le_of_ble_eq_true rfl) | exact ckl hss (Nat.le_of_ble_eq_true rfl) (Nat.le_of_ble_eq_true rfl) | exact ck0 hcs (Nat.le_of_ble_eq_true rfl) | exact ck0 hss (Nat.le_of_ble_eq_true rfl) | exact ckr hcs (Nat.le_of_ble_eq_true rfl) | exact ckr hss (Nat.le_of_ble_eq_true rfl) | exact ckz hcs (Nat.le_of_ble_eq_true rfl) | exact ckz hss (Nat.le_of_ble_eq_true rfl))⟩ (Nat.le_of_ble_eq_true rfl) rfl (fun v H9 hq => ?_)
        obtain ⟨rfl, y9, q9, B9, G9, w9⟩ := hq
        refine o_uq (fun u9 => ?_)
        obtain ⟨D9, hv9⟩ := D8.app u8 B8 hv8 B9 G9 w9
        have z9 := lz (m' := 417) z8 (show ([32] : List Int).length ≤ 1 from Nat.le_refl 1) rfl
        refine o_aload (pc := 1049) dL_drawn_1049 0 rfl ?_
        refine o_gI (pc := 1051) (j := 4) dL_drawn_1051 flL_156 rfl rfl (DW.new D9 (by decide) n0).1 ((DW.new D9 (by decide) n0).2 4 (by decide)) ?_
        refine o_topI (y := gr) rfl ?_
        refine o_callV (pc := 1054) _ dL_drawn_1054 (cb_addI B9 D9.n (Nat.le_trans z9 (Nat.le_of_ble_eq_true rfl)) (n := gr) qgr.1 qgr.2) lkL_50 rfl rfl rfl rfl B9.1 ⟨⟨(Nat.le_of_ble_eq_true rfl), (Nat.le_of_ble_eq_true rfl)⟩, (by (try simp only [rmL, List.length_cons, List.length_nil, Nat.add_assoc, Nat.reduceAdd, Nat.add_zero]); first | exact ckl hcs (Nat.le_of_ble_eq_true rfl) (Nat.le_of_ble_eq_true rfl) | exact ckl hss (Nat.le_of_ble_eq_true rfl) (Nat.le_of_ble_eq_true rfl) | exact ck0 hcs (Nat.le_of_ble_eq_true rfl) | exact ck0 hss (Nat.le_of_ble_eq_true rfl) | exact ckr hcs (Nat.le_of_ble_eq_true rfl) | exact ckr hss (Nat.le_of_ble_eq_true rfl) | exact ckz hcs (Nat.le_of_ble_eq_true rfl) | exact ckz hss (Nat.le_of_ble_eq_true rfl)), (by (try simp only [rmL, List.length_cons, List.length_nil, Nat.add_assoc, Nat.reduceAdd, Nat.add_zero]); first | exact ckl hcs (Nat.le_of_ble_eq_true rfl) (Nat.le_of_ble_eq_true rfl) | exact ckl hss (Nat.le_of_ble_eq_true rfl) (Nat.le_of_ble_eq_true rfl) | exact ck0 hcs (Nat.le_of_ble_eq_true rfl) | exact ck0 hss (Nat.le_of_ble_eq_true rfl) | exact ckr hcs (Nat.le_of_ble_eq_true rfl) | exact ckr hss (Nat.le_of_ble_eq_true rfl) | exact ckz hcs (Nat.le_of_ble_eq_true rfl) | exact ckz hss (Nat.le_of_ble_eq_true rfl))⟩ (Nat.le_of_ble_eq_true rfl) rfl (fun v H10 hq => ?_)
        obtain ⟨rfl, y10, q10, B10, G10, w10⟩ := hq
        refine o_uq (fun u10 => ?_)
        obtain ⟨D10, hv10⟩ := D9.app u9 B9 hv9 B10 G10 w10
        have z10 := lz (m' := 420) z9 (dg_len gr).2 rfl
        refine o_pop (pc := 1057) dL_drawn_1057 rfl ?_
        refine o_iinc (pc := 1058) (lv' := [(6, _), (10, _), (9, _), (8, _), (7, _), (0, _), (1, _), (2, _), (3, _), (4, _)]) dL_drawn_1058 9 rfl (by decide) rfl ?_
        refine o_goto (pc := 1061) 834 dL_drawn_1061 (by decide) ?_
        obtain ⟨hP2, hb2, hl2⟩ := k_con hP hb hN ql qr qli qno qgr
        exact o_lv [5, 6, 7, 8, 9, 0] rfl (ih (k := k + 1) D10 hP2 hb2 (hR.n5 (by show N 8 + 1 ≤ 8; omega) hm rfl) (by omega) (lzn hl hl2) (by (try simp only [rmL, List.length_cons, List.length_nil, Nat.add_assoc, Nat.reduceAdd, Nat.add_zero]); first | exact ckl hcs (Nat.le_of_ble_eq_true rfl) (Nat.le_of_ble_eq_true rfl) | exact ckl hss (Nat.le_of_ble_eq_true rfl) (Nat.le_of_ble_eq_true rfl) | exact ck0 hcs (Nat.le_of_ble_eq_true rfl) | exact ck0 hss (Nat.le_of_ble_eq_true rfl) | exact ckr hcs (Nat.le_of_ble_eq_true rfl) | exact ckr hss (Nat.le_of_ble_eq_true rfl) | exact ckz hcs (Nat.le_of_ble_eq_true rfl) | exact ckz hss (Nat.le_of_ble_eq_true rfl)) (by (try simp only [rmL, List.length_cons, List.length_nil, Nat.add_assoc, Nat.reduceAdd, Nat.add_zero]); first | exact ckl hcs (Nat.le_of_ble_eq_true rfl) (Nat.le_of_ble_eq_true rfl) | exact ckl hss (Nat.le_of_ble_eq_true rfl) (Nat.le_of_ble_eq_true rfl) | exact ck0 hcs (Nat.le_of_ble_eq_true rfl) | exact ck0 hss (Nat.le_of_ble_eq_true rfl) | exact ckr hcs (Nat.le_of_ble_eq_true rfl) | exact ckr hss (Nat.le_of_ble_eq_true rfl) | exact ckz hcs (Nat.le_of_ble_eq_true rfl) | exact ckz hss (Nat.le_of_ble_eq_true rfl)))
