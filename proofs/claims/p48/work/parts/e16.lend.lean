/-! acts: lending done -/
theorem ldN_lo {N : Int → Int} {c x k j : Int} (h9 : 0 ≤ N 9) (hj : j ≠ 9) (h2 : ¬ (318 + 7 * N 9 ≤ j ∧ j < 325 + 7 * N 9)) : ldN N c x k j = N j := by
  rw [ldN_v N c x k h9 j, if_neg hj, if_neg (by omega), if_neg (by omega), if_neg (by omega), if_neg (by omega)]
theorem hd_n {f : Nat} {n : Int} (hn : 3 ≤ n ∧ n < 10 ∨ 14 ≤ n) : hd f ≠ n := by
  have := hd_b (f := f)
  omega
theorem ix_o {i q f : Nat} (hi : i < 7) (hq : (q : Int) < mxj i) (hf : f < nf i) (j : Nat) (hj : j < 7) (hne : i ≠ j) : ix i q f < bs j ∨ bs j + sd j * mxj j ≤ ix i q f := by
  have a := ix_b hi hq hf
  have b := bs_apart hi hj hne
  omega
theorem ldN_e {N : Int → Int} {c x k : Int} (h9 : 0 ≤ N 9 ∧ N 9 < 16) (hm : ∀ i, i < 7 → nj N i ≤ mxj i) : ∀ i, i < 7 → ∀ q : Nat, (q : Int) < nj N i → ∀ f, f < nf i → ldN N c x k (ix i q f) = N (ix i q f) := by
  intro i hi q hq f hf
  have b := ix_lo hi (Int.lt_of_lt_of_le hq (hm i hi)) hf
  refine ldN_lo h9.1 (by omega) ?_
  by_cases e : i = 6
  · subst e
    have hq' : (q : Int) < N 9 := hq
    have hf' : f < 7 := hf
    have e1 : ix 6 q f = 318 + 7 * (q : Int) + (f : Int) := rfl
    omega
  · have o := ix_o hi (Int.lt_of_lt_of_le hq (hm i hi)) hf 6 (by decide) e
    have e1 : bs 6 = 318 := rfl
    have e2 : sd 6 * mxj 6 = 112 := rfl
    omega
theorem ldN_j {N : Int → Int} {c x k : Int} (h9 : 0 ≤ N 9 ∧ N 9 < 16) : ∀ i, i < 7 → nj (ldN N c x k) i = nj N i + (if i = 6 then 1 else 0) := by
  intro i hi
  match i, hi with
  | 0, _ => exact (ldN_lo h9.1 (by omega) (by omega)).trans (Int.add_zero _).symm
  | 1, _ => exact (ldN_lo h9.1 (by omega) (by omega)).trans (Int.add_zero _).symm
  | 2, _ => exact (ldN_lo h9.1 (by omega) (by omega)).trans (Int.add_zero _).symm
  | 3, _ => exact (ldN_lo h9.1 (by omega) (by omega)).trans (Int.add_zero _).symm
  | 4, _ => exact (ldN_lo h9.1 (by omega) (by omega)).trans (Int.add_zero _).symm
  | 5, _ => exact (ldN_lo h9.1 (by omega) (by omega)).trans (Int.add_zero _).symm
  | 6, _ =>
    show ldN N c x k 9 = N 9 + 1
    rw [ldN_v N c x k h9.1 9, if_pos rfl]
  | n + 7, h => exact absurd h (by omega)
theorem ldN_n {N : Int → Int} {c x k : Int} (h9 : 0 ≤ N 9 ∧ N 9 < 16) {f : Nat} (hf : f < 7) : ldN N c x k (ix 6 (N 9).toNat f) = if f = 6 then N 2 + k else if f = 1 then x else if f = 0 then c else 0 := by
  have e1 : ix 6 (N 9).toNat f = 318 + 7 * (((N 9).toNat : Nat) : Int) + (f : Int) := rfl
  rw [ldN_v N c x k h9.1, if_neg (by omega)]
  by_cases e6 : f = 6
  · rw [if_pos (by omega), if_pos e6]
  · rw [if_neg (by omega), if_neg e6]
    by_cases e2 : f = 1
    · rw [if_pos (by omega), if_pos e2]
    · rw [if_neg (by omega), if_neg e2]
      by_cases e3 : f = 0
      · rw [if_pos (by omega), if_pos e3]
      · rw [if_neg (by omega), if_neg e3, if_pos (by omega)]
theorem UT.lend {K : Nat} {N : Int → Int} {c x k : Int} (h : UT K N) (h9 : 0 ≤ N 9) (h5 : N 5 ≤ 12) : UT K (ldN N c x k) := ⟨h.1.cg (ldN_lo h9 (by omega) (by omega)) (ldN_lo h9 (by omega) (by omega)) h5 (fun j a b _ => ldN_lo h9 (by omega) (by omega)), by rw [ldN_lo h9 (by omega) (by omega)]; exact h.2⟩
theorem Fr.hm {S : Nat → Prop} {h h1 : Hp} (F : Fr S h h1) {T : Nat → Prop} (hT : ∀ x, T x → ¬ fre h x) : ∀ x, T x → ¬ fre h1 x := fun x hx hf => hT x hx (Fr_fre F hf)
theorem WN.ns {G : GG} {h : Hp} {a : Nat} {N : Int → Int} {B : Bok} {S T : Nat → Prop} (hW : WN G h a N B S T) : ∀ x, S x → ¬ fre h x := fun x hx hf => by
  obtain ⟨k, k1, k2⟩ := (hW.2.2.2.2.2.1.2.2.2.2 x hx).2
  exact hf k k1 k2
theorem ac_9y {G : GG} {h H : Hp} {V : Nat → Vw} {R : Nat → Int → Int} {p : Nat} {T : Nat → Prop} {pl c b aw K w2 : Nat} {B2 : Bok} (I : AI G h V R p T pl c b aw K) (F : Fr (fun _ => False) h H) (W2 : WN G H w2 (R p) B2 (snew h H) T) (hK : K ≤ 99) {x : Int} (hx : 0 ≤ x ∧ x < 134217728) {c0 s0 : Nat} (hcs : c0 ≤ 760) (hss : s0 ≤ 14500) {q : Nat} (hqe : x % R p 8 = (q : Int)) (h8 : 0 < R p 8) (hh : ∀ y : Int, 1 + x / 8 % 80 = y → hinN (R p) q y = 0) : YY G ML_act (rmL 12 2500 24000) 869 [(0, rf G 38 0), (1, rf G (ak 8 1) aw), (2, rf G 56 pl), (4, rf G 51 (V p).1), (5, .int (iI x)), (7, .int (iI (R p 3))), (8, .int (iI (R p 8))), (9, .int (iI (R p 9))), (10, rf G 51 w2), (11, .int (iI 1))] [] H c0 s0 (fun v h1 => v = some (.int (iI 1)) ∧ ∃ V' R' p' c' b', AI G h1 V' R' p' T pl c' b' aw (K + 1)) := by
  have p8 := I.2.1.p8
  have hW := I.w.fr0 F
  have hs := I.2.1.1.fr F
  have hcH := F.cl I.1
  have gn := hs.gn
  have hU := I.2.2.1 p (Nat.le_refl p)
  have hn := F.2.2.2.2
  have r3 := hs.1.2.2.1.1.2.2.1
  have r5 := hs.1.2.2.1.1.2.2.2.2.2.1
  have r8 := hs.1.2.2.1.1.2.2.2.2.2.2
  have r7 := hs.1.2.2.2.1.1.2.2.2.2.2.1
  have r9 := hs.1.2.2.2.1.1.2.2.2.2.2.2
  have r2 := hs.1.2.2.2.1.1.1
  have b2 := hs.1.2.1.1
  have b3 := hs.1.1.2.2.1
  have b5 := hs.1.1.2.2.2.2.2.1
  have b8 := hs.1.1.2.2.2.2.2.2.1
  have b7 := hs.1.2.1.2.2.2.1.1
  have b9 := hs.1.2.1.2.2.2.2.1.1
  have nn3 : 0 ≤ R p 3 ∧ R p 3 ≤ 8 := by omega
  have nn5 : 0 ≤ R p 5 ∧ R p 5 ≤ 12 := by omega
  have nn7 : 0 ≤ R p 7 ∧ R p 7 ≤ 16 := by omega
  have nn8 : 0 ≤ R p 8 ∧ R p 8 ≤ 8 := by omega
  have nn9 : 0 ≤ R p 9 ∧ R p 9 ≤ 16 := by omega
  have nn2 : 0 ≤ R p 2 ∧ R p 2 ≤ 6000 := by have := hU.2; omega
  have em0 := Int.emod_nonneg x (show R p 8 ≠ 0 by omega)
  have em1 := Int.emod_lt_of_pos x (show 0 < R p 8 by omega)
  have hq : (q : Int) < R p 8 := by omega
  obtain ⟨y, hy⟩ : ∃ y : Int, 1 + x / 8 % 80 = y := ⟨_, rfl⟩
  obtain ⟨t, hte⟩ : ∃ t : Int, 1 + x / 1024 % 30 = t := ⟨_, rfl⟩
  have hy1 : 1 ≤ y ∧ y ≤ 80 := by omega
  have ht1 : 1 ≤ t ∧ t ≤ 30 := by omega
  have hNF : NF (R p) := NF_of hs.1.1 hs.1.2.1 hs.1.2.2.1 hs.1.2.2.2.1
  have hib : 0 ≤ hinN (R p) q y ∧ hinN (R p) q y ≤ 4 := by
    unfold hinN
    repeat' split
    all_goals omega
  have hh := hh y hy
  refine o_iconst (pc := 869) dL_act_869 ?_
  refine o_iload (pc := 870) dL_act_870 4 rfl ?_
  refine o_bipush (pc := 872) (z := 8) dL_act_872 (by decide) ?_
  refine o_idiv (pc := 874) dL_act_874 (by omega) (by omega) ?_
  refine o_bipush (pc := 875) (z := 80) dL_act_875 (by decide) ?_
  refine o_irem (pc := 877) dL_act_877 (by omega) (by omega) ?_
  refine o_iadd (pc := 878) dL_act_878 ?_
  refine o_topI (y := y) hy ?_
  refine o_istore (pc := 879) (lv' := [(14, _), (0, _), (1, _), (2, _), (4, _), (5, _), (7, _), (8, _), (9, _), (10, _), (11, _)]) dL_act_879 (by decide) rfl ?_
  refine o_iconst (pc := 881) dL_act_881 ?_
  refine o_iload (pc := 882) dL_act_882 5 rfl ?_
  refine o_sipush (pc := 884) (z := 1024) dL_act_884 (by decide) ?_
  refine o_idiv (pc := 887) dL_act_887 (by omega) (by omega) ?_
  refine o_bipush (pc := 888) (z := 30) dL_act_888 (by decide) ?_
  refine o_irem (pc := 890) dL_act_890 (by omega) (by omega) ?_
  refine o_iadd (pc := 891) dL_act_891 ?_
  refine o_topI (y := t) hte ?_
  refine o_istore (pc := 892) (lv' := [(15, _), (14, _), (0, _), (1, _), (2, _), (4, _), (5, _), (7, _), (8, _), (9, _), (10, _), (11, _)]) dL_act_892 (by decide) rfl ?_
  refine o_aload (pc := 894) dL_act_894 5 rfl ?_
  refine o_iload (pc := 896) dL_act_896 6 rfl ?_
  refine o_iload (pc := 898) dL_act_898 8 rfl ?_
  refine o_irem (pc := 900) dL_act_900 (by omega) (by omega) ?_
  refine o_topI (y := (q : Int)) hqe ?_
  refine o_iload (pc := 901) dL_act_901 1 rfl ?_
  refine o_callV (pc := 903) _ dL_act_903 (cw_hindrance hW hq (x := y) (by omega) hNF hn) lkL_325 rfl rfl rfl rfl hW.mW ⟨⟨by simp only [rmL, rmD, List.length_cons, List.length_nil]; omega, by simp only [rmL, rmD, List.length_cons, List.length_nil]; omega⟩, by simp only [rmL, rmD, List.length_cons, List.length_nil]; omega, by simp only [rmL, rmD, List.length_cons, List.length_nil]; omega⟩ (Nat.le_of_ble_eq_true rfl) rfl (fun v H1 hq2 => ?_)
  obtain ⟨rfl, FC⟩ := hq2
  have F2 := F.tr FC (fun _ z => z.elim)
  have hs1 := hs.fr FC
  have hc2 := FC.cl hcH
  have r81 : R p 8 = H1.2.1 22 0 6 := hs1.1.2.2.1.1.2.2.2.2.2.2
  have W1 := hW.fr0 FC
  have h9 := hinN_lt (N := R p) (c := (q : Int)) (x := y) (by omega) hh
  refine o_topI (y := 0) hh ?_
  refine o_istore (pc := 906) (lv' := [(16, _), (15, _), (14, _), (0, _), (1, _), (2, _), (4, _), (5, _), (7, _), (8, _), (9, _), (10, _), (11, _)]) dL_act_906 (by decide) rfl ?_
  refine o_iload (pc := 908) dL_act_908 0 rfl ?_
  refine o_if_ne (pc := 910) 917 dL_act_910 (by decide) (by unfold inI; omega) (fun c_910 => (by exfalso; omega)) (fun c_910 => ?_)
  refine o_iconst (pc := 913) dL_act_913 ?_
  refine o_goto (pc := 914) 918 dL_act_914 (by decide) ?_
  refine o_istore (pc := 918) (lv' := [(11, _), (16, _), (15, _), (14, _), (0, _), (1, _), (2, _), (4, _), (5, _), (7, _), (8, _), (9, _), (10, _)]) dL_act_918 (by decide) rfl ?_
  refine o_iload (pc := 920) dL_act_920 0 rfl ?_
  refine o_if_eq (pc := 922) 956 dL_act_922 (by decide) (by unfold inI; omega) (fun c_922 => (by exfalso; omega)) (fun c_922 => ?_)
  refine o_aload (pc := 925) dL_act_925 7 rfl ?_
  refine o_gR (pc := 927) (j := 13) (56) (((V p).2.1.1 6)) dL_act_927 flL_159 rfl rfl W1.mW (W1.r 6) ?_
  refine o_sizeD (fun g hg => ?_) FC.2.2.2.2
  refine o_new (pc := 930) (k := 55) dL_act_930 ncL_175 rfl (by decide) hg (by first | omega | (simp only [rmL, rmD, List.length_cons, List.length_nil]; omega)) (by first | omega | (simp only [rmL, rmD, List.length_cons, List.length_nil]; omega)) (fun fg => ?_)
  have FN : Fr (fun _ => False) H1 (nw H1 55 g) := Fr_nw (Fr.rf FC.2.2.2.2) (by decide) fg
  have Wn := W1.fr0 FN
  refine o_dup (pc := 933) dL_act_933 rfl ?_
  refine o_iload (pc := 934) dL_act_934 8 rfl ?_
  refine o_iload (pc := 936) dL_act_936 10 rfl ?_
  refine o_irem (pc := 938) dL_act_938 (by omega) (by omega) ?_
  refine o_topI (y := (q : Int)) hqe ?_
  refine o_iload (pc := 939) dL_act_939 3 rfl ?_
  refine o_aload (pc := 941) dL_act_941 7 rfl ?_
  refine o_gI (pc := 943) (j := 2) dL_act_943 flL_269 rfl rfl Wn.mW Wn.w2 ?_
  refine o_iload (pc := 946) dL_act_946 2 rfl ?_
  refine o_iadd (pc := 948) dL_act_948 ?_
  refine o_callI (pc := 949) _ dL_act_949 (cw_ini55 nw_in) lkL_328 rfl rfl ⟨⟨by simp only [rmL, rmD, List.length_cons, List.length_nil]; omega, by simp only [rmL, rmD, List.length_cons, List.length_nil]; omega⟩, by simp only [rmL, rmD, List.length_cons, List.length_nil]; omega, by simp only [rmL, rmD, List.length_cons, List.length_nil]; omega⟩ (Nat.le_of_ble_eq_true rfl) rfl (fun v H2 hq2 => ?_)
  obtain ⟨rfl, e2⟩ := hq2
  have FI : Fr (fun _ => False) H1 H2 := by rw [e2]; exact Fr_hset (Fr_hset (Fr_hset FN (by decide) (.inr fg)) (by decide) (.inr fg)) (by decide) (.inr fg)
  have m2 : (55, g) ∈ H2.1 := by rw [e2]; exact nw_in
  have v2 : ∀ f : Nat, f < 7 → H2.2.1 55 g (f : Int) = if f = 6 then R p 2 + t else if f = 1 then y else if f = 0 then (q : Int) else 0 := fun f hf => by
    rw [e2]
    simp only [hset_q, nw_m]
    match f, hf with
    | 0, _ => rfl
    | 1, _ => rfl
    | 2, _ => rfl
    | 3, _ => rfl
    | 4, _ => rfl
    | 5, _ => rfl
    | 6, _ => rfl
    | n + 7, hf => exact absurd hf (by omega)
  clear e2
  have W2' := W1.fr0 FI
  refine o_callV (pc := 952) _ dL_act_952 (cl_add (W2'.l 6) FI.2.2.2.2 (by show (R p 9).toNat ≤ 100; omega) (a := 55) (e := g) (pk_isE 6) m2) lkL_60 rfl rfl rfl rfl (W2'.l 6).1 ⟨⟨by simp only [rmL, rmD, List.length_cons, List.length_nil]; omega, by simp only [rmL, rmD, List.length_cons, List.length_nil]; omega⟩, by simp only [rmL, rmD, List.length_cons, List.length_nil]; omega, by simp only [rmL, rmD, List.length_cons, List.length_nil]; omega⟩ (Nat.le_of_ble_eq_true rfl) rfl (fun v H3 hq2 => ?_)
  obtain ⟨rfl, c1, b1, hA3, FA, hb3⟩ := hq2
  refine o_uq (fun hu => ?_)
  have mx : ∀ i, i < 7 → nj (R p) i ≤ mxj i := fun i hi => (W2'.nb i hi).2
  obtain ⟨W3, F3⟩ := WN.more1 (N' := (ldN (R p) q y t)) W2' (FI.w (fun _ z => z.elim) : Fr (V p).2.2 H1 H2) (FC.hm (F.hm I.2.2.2.2.2.2.1)) hu 6 (by decide) hA3 FA hb3 m2 fg W1.ns (fun f hf => ldN_lo nn9.1 (hd_n (by omega)) (by have := hd_b (f := f); omega)) (ldN_j ⟨nn9.1, h9⟩) (by show R p 9 + 1 ≤ 16; omega) (ldN_e ⟨nn9.1, h9⟩ mx) (fun f hf => by
    show H2.2.1 55 g (f : Int) = _
    rw [v2 f hf]
    exact (ldN_n ⟨nn9.1, h9⟩ hf).symm)
  have F4 : Fr (V p).2.2 H H3 := (FC.w (fun _ z => z.elim) : Fr (V p).2.2 H H1).t F3
  have hs4 := hs.fr F4
  have hc4 := F4.cl hcH
  have r84 : R p 8 = H3.2.1 22 0 6 := hs4.1.2.2.1.1.2.2.2.2.2.2
  have r94 : R p 9 = H3.2.1 2 0 0 := hs4.1.2.2.2.1.1.2.2.2.2.2.2
  have t4 := hs4.1.2.2.2.1.1.1
  have hST := (hs4.1.push.lend (a := (q : Int)) (x := y) (k := t) (t := pushC H3.2.1 0 0 0 + t) (by omega) (by rw [pushC_k (.inr ⟨by decide, by decide⟩)]; omega) (by omega) (by omega) rfl (by rw [pushC_0 (by decide)]; omega)).more (Nat.le_succ K)
  have hcc : ∀ k i, i ≠ 0 ∨ 22 ≤ k → addL (pushC H3.2.1) 0 (q : Int) y (pushC H3.2.1 0 0 0 + t) k i = pushC H3.2.1 k i := fun k i z => by
    rcases z with z | z
    · exact addL_i z
    · rw [addL_k (by omega)]
  refine o_pop (pc := 955) dL_act_955 rfl ?_
  refine o_iload (pc := 956) dL_act_956 0 rfl ?_
  refine o_if_eq (pc := 958) 966 dL_act_958 (by decide) (by unfold inI; omega) (fun c_958 => (by exfalso; omega)) (fun c_958 => ?_)
  refine o_iload (pc := 961) dL_act_961 11 rfl ?_
  refine o_goto (pc := 963) 971 dL_act_963 (by decide) ?_
  refine o_istore (pc := 971) (lv' := [(12, _), (11, _), (16, _), (15, _), (14, _), (0, _), (1, _), (2, _), (4, _), (5, _), (7, _), (8, _), (9, _), (10, _)]) dL_act_971 (by decide) rfl ?_
  refine o_aload_n (pc := 973) dL_act_973 5 rfl ?_
  refine o_iload (pc := 974) dL_act_974 9 rfl ?_
  refine o_iload (pc := 976) dL_act_976 11 rfl ?_
  refine o_irem (pc := 978) dL_act_978 (by omega) (by omega) ?_
  refine o_topI (y := (q : Int)) hqe ?_
  refine o_iload (pc := 979) dL_act_979 4 rfl ?_
  refine o_iload (pc := 981) dL_act_981 3 rfl ?_
  refine o_callC (pc := 983) _ dL_act_983 (fun G' hG => P_lend1 (m := H3.2.1) hs4.1.1 hs4.1.2.1 hs4.1.2.2.2.2.2.2.1 hs4.2.1 hs4.2.2 (a0 := (q : Int)) (a1 := y) (a2 := t) (by unfold inI; omega) (by unfold inI; omega) (by unfold inI; omega) (by omega) (by omega) (by omega) (by rw [V_hin hs4.1.1 hs4.1.2.1 hs4.1.2.2.1 hs4.1.2.2.2.1 (by omega) (by omega)]; exact hh)) lkL_329 rfl rfl hc4 ⟨⟨by simp only [rmL, rmD, List.length_cons, List.length_nil]; omega, by simp only [rmL, rmD, List.length_cons, List.length_nil]; omega⟩, by simp only [rmL, rmD, List.length_cons, List.length_nil]; omega, by simp only [rmL, rmD, List.length_cons, List.length_nil]; omega⟩ (Nat.le_of_ble_eq_true rfl) rfl (fun n1 => ?_)
  refine o_topI (y := R p 9) (by rw [pushC_0 (by decide)]; exact r94.symm) ?_
  refine o_istore (pc := 986) (lv' := [(13, _), (12, _), (11, _), (16, _), (15, _), (14, _), (0, _), (1, _), (2, _), (4, _), (5, _), (7, _), (8, _), (9, _), (10, _)]) dL_act_986 (by decide) rfl ?_
  refine o_goto (pc := 988) 1327 dL_act_988 (by decide) ?_
  exact o_lv [6, 7, 8, 14, 2, 1, 0] rfl (ac_fin1 I (Nat.le_succ K) F W2 F4 W3 (fun x z => z.elim .inl (fun w => .inr (Fr_fre FC w.1))) hcc hST ((hU.more (Nat.le_succ K)).lend nn9.1 nn5.2) (by first | omega | (simp only [rmL, rmD, List.length_cons, List.length_nil]; omega)) (by first | omega | (simp only [rmL, rmD, List.length_cons, List.length_nil]; omega)))
