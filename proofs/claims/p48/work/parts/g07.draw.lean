/-! a world as it is drawn: the world, the builder, the text -/
def NBk (H : Hp) (x : Nat) : Prop := ∃ k, 51 ≤ k ∧ (k, x) ∈ H.1 ∧ k ≠ 58 ∧ ∀ c, k ≠ ak 1 c
theorem NBk.fr {S : Nat → Prop} {H H1 : Hp} {x : Nat} (h : NBk H x) (F : Fr S H H1) : NBk H1 x := by
  obtain ⟨k, k1, k2, k3⟩ := h
  exact ⟨k, k1, F.1 _ k2, k3⟩
theorem NBk.nf {H : Hp} {x : Nat} (h : NBk H x) : ¬ fre H x := fun hf => by
  obtain ⟨k, k1, k2, k3⟩ := h
  exact hf k k1 k2
theorem NBk.no {H : Hp} {x : Nat} (h : NBk H x) (u : UQ H) : (58, x) ∉ H.1 ∧ ∀ c, (ak 1 c, x) ∉ H.1 := by
  obtain ⟨k, k1, k2, k3, k4⟩ := h
  exact ⟨fun z => k3 (u k 58 x k1 (by decide) k2 z), fun c z => k4 c (u k (ak 1 c) x k1 ak_ge k2 z)⟩
def DW (G : GG) (h H : Hp) (a : Nat) (N : Int → Int) (B : Bok) (S T : Nat → Prop) (b v0 : Nat) (L : List Int) : Prop :=
  WN G H a N B S T ∧ (∀ x, S x ∨ T x → fre h x ∧ NBk H x) ∧ (∃ val cap, BB H b val cap L ∧ (val = v0 ∨ fre h val)) ∧ Fr (fun i => i = b ∨ i = v0) h H
section DWs
variable {G : GG} {h H H1 H2 : Hp} {a : Nat} {N N1 : Int → Int} {B B1 : Bok} {S T S1 T1 : Nat → Prop} {b v0 : Nat} {L L1 : List Int}
theorem DW.n (D : DW G h H a N B S T b v0 L) : ∃ n, H.2.2.2 = some n := D.2.2.2.2.2.2.2
theorem DW.f0 (D : DW G h H a N B S T b v0 L) (F : Fr (fun _ => False) H H1) : DW G h H1 a N B S T b v0 L := by
  obtain ⟨d1, d2, ⟨val, cap, d3, d4⟩, d5⟩ := D
  exact ⟨d1.fr0 F, fun x hx => ⟨(d2 x hx).1, (d2 x hx).2.fr F⟩, ⟨val, cap, d3.fr F id id, d4⟩, d5.tr F (fun _ z => z.elim)⟩
theorem DW.app (D : DW G h H a N B S T b v0 L) (u : UQ H) {val cap val1 cap1 : Nat} (hB : BB H b val cap L) (hv : val = v0 ∨ fre h val) (hB1 : BB H1 b val1 cap1 L1) (F : Fr (fun i => i = b ∨ i = val) H H1) (hv1 : val1 = val ∨ fre H val1) : DW G h H1 a N B S T b v0 L1 ∧ (val1 = v0 ∨ fre h val1) := by
  obtain ⟨d1, d2, d3, d5⟩ := D
  have hw : val1 = v0 ∨ fre h val1 := by
    rcases hv1 with e | e
    · rw [e]; exact hv
    · exact .inr (Fr_fre d5 e)
  refine ⟨⟨d1.fr F (fun i hi => ?_), fun x hx => ⟨(d2 x hx).1, (d2 x hx).2.fr F⟩, ⟨val1, cap1, hB1, hw⟩, d5.tr F (fun i hi => ?_)⟩, hw⟩
  · have no : ¬ (S i ∨ T i) := fun z => by
      have w := (d2 i z).2.no u
      rcases hi with e | e
      · exact w.1 (by rw [e]; exact hB.1)
      · exact w.2 cap (by rw [e]; exact hB.2.1)
    exact ⟨fun z => no (.inl z), fun z => no (.inr z)⟩
  · rcases hi with e | e
    · exact .inl (.inl e)
    · rcases hv with z | z
      · exact .inl (.inr (e.trans z))
      · exact .inr (by rw [e]; exact z)
/-- only the world is written -/
theorem DW.wr (D : DW G h H a N B S T b v0 L) (u : UQ H) (F : Fr S H H1) (W1 : WN G H1 a N1 B1 S1 T1) (h1 : ∀ x, S1 x ∨ T1 x → (S x ∨ T x) ∨ fre H x ∧ NBk H1 x) : DW G h H1 a N1 B1 S1 T1 b v0 L := by
  obtain ⟨d1, d2, ⟨val, cap, d3, d4⟩, d5⟩ := D
  refine ⟨W1, fun x hx => ?_, ⟨val, cap, d3.fr F (fun z => ((d2 b (.inl z)).2.no u).1 d3.1) (fun z => ((d2 val (.inl z)).2.no u).2 cap d3.2.1), d4⟩, d5.tr F (fun i hi => .inr (d2 i (.inl hi)).1)⟩
  rcases h1 x hx with z | ⟨z1, z2⟩
  · exact ⟨(d2 x z).1, (d2 x z).2.fr F⟩
  · exact ⟨Fr_fre d5 z1, z2⟩
theorem nj_c (N : Int → Int) : ∀ i, i < 7 → nj N i = N (cj i) := by
  intro i hi
  match i, hi with
  | 0, _ => rfl
  | 1, _ => rfl
  | 2, _ => rfl
  | 3, _ => rfl
  | 4, _ => rfl
  | 5, _ => rfl
  | 6, _ => rfl
  | n + 7, h => exact absurd h (by omega)
theorem cj_inj {i j : Nat} (hi : i < 7) (hj : j < 7) (e : cj i = cj j) : i = j := by
  have h : ∀ i : Fin 7, ∀ j : Fin 7, cj i = cj j → i = j := by decide
  exact congrArg Fin.val (h ⟨i, hi⟩ ⟨j, hj⟩ e)
theorem adN_hd {N : Int → Int} {j : Nat} {v : Int → Int} (h : 0 ≤ sd j * nj N j) (f : Nat) : adN N j v (hd f) = N (hd f) := by
  have a := hd_b (f := f)
  have b := cj_b j
  have c := bs_ge j
  exact adN_o (by omega) (by omega)
theorem adN_nj {N : Int → Int} {j : Nat} {v : Int → Int} (hj : j < 7) (h : 0 ≤ sd j * nj N j) : ∀ i, i < 7 → nj (adN N j v) i = nj N i + (if i = j then 1 else 0) := by
  intro i hi
  rw [nj_c _ i hi]
  by_cases e : i = j
  · rw [if_pos e, e]
    exact adN_c
  · have b := cj_b i
    have c := bs_ge j
    rw [if_neg e, Int.add_zero, nj_c _ i hi]
    exact adN_o (fun z => e (cj_inj hi hj z)) (by omega)
theorem sd_pos (j : Nat) : 4 ≤ sd j ∧ sd j ≤ 7 := by unfold sd; split <;> decide
theorem og_b {j f : Nat} (hj : j < 7) (hf : f < nf j) : 0 ≤ og j f ∧ og j f < sd j := by
  unfold og
  by_cases e : j = 3
  · subst e
    rw [if_pos rfl]
    exact og3_b (show f < 7 from hf)
  · rw [if_neg e]
    match j, hj with
    | 0, _ => have : f < 4 := hf; show 0 ≤ (f : Int) ∧ (f : Int) < 4; omega
    | 1, _ => have : f < 4 := hf; show 0 ≤ (f : Int) ∧ (f : Int) < 4; omega
    | 2, _ => have : f < 4 := hf; show 0 ≤ (f : Int) ∧ (f : Int) < 4; omega
    | 3, _ => exact absurd rfl e
    | 4, _ => have : f < 6 := hf; show 0 ≤ (f : Int) ∧ (f : Int) < 6; omega
    | 5, _ => have : f < 6 := hf; show 0 ≤ (f : Int) ∧ (f : Int) < 6; omega
    | 6, _ => have : f < 7 := hf; show 0 ≤ (f : Int) ∧ (f : Int) < 7; omega
    | n + 7, h => exact absurd h (by omega)
theorem adN_ix {N : Int → Int} {j : Nat} {v : Int → Int} (hj : j < 7) (h0 : 0 ≤ nj N j) (hmx : nj N j + 1 ≤ mxj j) (hm : ∀ i, i < 7 → nj N i ≤ mxj i) : ∀ i, i < 7 → ∀ q : Nat, (q : Int) < nj N i → ∀ f, f < nf i → adN N j v (ix i q f) = N (ix i q f) := by
  intro i hi q hq f hf
  have b := ix_lo hi (Int.lt_of_lt_of_le hq (hm i hi)) hf
  have c := cj_b j
  have s := sd_pos j
  have m : sd j * (nj N j + 1) ≤ sd j * mxj j := Int.mul_le_mul_of_nonneg_left hmx (by omega)
  rw [Int.mul_add, Int.mul_one] at m
  have m0 : 0 ≤ sd j * nj N j := Int.mul_nonneg (by omega) h0
  refine adN_o (by omega) ?_
  by_cases e : i = j
  · subst e
    have g := og_b hi hf
    have m2 : sd i * ((q : Int) + 1) ≤ sd i * nj N i := Int.mul_le_mul_of_nonneg_left (by omega) (by omega)
    rw [Int.mul_add, Int.mul_one] at m2
    unfold ix
    omega
  · have o := ix_o hi (Int.lt_of_lt_of_le hq (hm i hi)) hf j hj e
    omega
theorem pk_no58 (j : Nat) : pk j ≠ 58 ∧ ∀ c, pk j ≠ ak 1 c := by
  refine ⟨by unfold pk; split <;> decide, fun c => ?_⟩
  unfold pk ak
  split <;> omega
def Sa (S : Nat → Prop) (j b1 e x : Nat) : Prop := S x ∨ x = b1 ∨ 2 ≤ j ∧ x = e
def Ta (T : Nat → Prop) (j e x : Nat) : Prop := T x ∨ j < 2 ∧ x = e
/-- a new thing, added to a list -/
theorem DW.add (D : DW G h H a N B S T b v0 L) (uH : UQ H) (F1 : Fr (fun _ => False) H H1) (u : UQ H2) (j : Nat) (hj : j < 7) {c1 b1 e : Nat} {v : Int → Int}
    (hA : LA G H2 (B.1 j) c1 b1 ((nj N j).toNat + 1) (adE (fun q => (pk j, bE B j q)) (nj N j).toNat (pk j, e))) (hF : Fr (fun i => i = B.1 j ∨ 0 < B.2.1 j ∧ i = B.2.2.1 j) H1 H2) (hb : b1 = B.2.2.1 j ∧ c1 = B.2.1 j ∧ 0 < B.2.1 j ∨ fre H1 b1 ∧ 0 < c1)
    (hme : (pk j, e) ∈ H1.1) (fe : fre H e) (hmx : nj N j + 1 ≤ mxj j) (hNn : ∀ f : Nat, f < nf j → H1.2.1 (pk j) e (f : Int) = v (og j f)) :
    DW G h H2 a (adN N j v) (adB B j c1 b1 (nj N j).toNat e) (Sa S j b1 e) (Ta T j e) b v0 L := by
  have W := D.1
  have n0 := (W.2.2.2.1 j hj).1
  have s := sd_pos j
  have m0 : 0 ≤ sd j * nj N j := Int.mul_nonneg (by omega) n0.1
  have W1 := W.fr0 F1
  have sl := W.2.2.2.2.2.1.2.1 j hj
  have s5 := W.2.2.2.2.2.1.2.2.2.2
  have ex : ∀ x, S x ∨ T x → ¬ fre H x := fun x hx => (D.2.1 x hx).2.nf
  have F2 : Fr S H H2 := (F1.w (fun _ z => z.elim) : Fr S H H1).t (hF.w (fun i z => .inl (by
    rcases z with z | ⟨z1, z2⟩
    · rw [z]; exact sl.1
    · rw [z2]; exact sl.2 z1)))
  have b1S : S b1 ∨ fre H1 b1 := by
    rcases hb with ⟨z1, z2, z3⟩ | ⟨z1, z2⟩
    · exact .inl (by rw [z1]; exact sl.2 z3)
    · exact .inr z1
  have c1p : 0 < c1 := by
    rcases hb with ⟨z1, z2, z3⟩ | ⟨z1, z2⟩
    · omega
    · exact z2
  have eb : ¬ e = b1 := fun z => by
    rcases b1S with w | w
    · exact ex _ (.inl w) (by rw [← z]; exact fe)
    · exact w (pk j) (pk_ge j) (by rw [← z]; exact hme)
  have m1 : (ak 7 c1, b1) ∈ H2.1 := hA.2.2.2.2.2.1 c1p
  refine D.wr uH F2 (WN.add (N' := adN N j v) W1 u j hj hA hF hb hme (fun _ z => ex e (.inl z) fe) (fun i z => .inl z) (.inr (.inl rfl)) (fun z => .inr (.inr ⟨z, rfl⟩)) (fun i z => .inl z) (fun z => .inr ⟨z, rfl⟩) (fun i hi => ?_) (fun f _ => adN_hd m0 f) (adN_nj hj m0) hmx (adN_ix hj n0.1 hmx (fun i hi => (W.2.2.2.1 i hi).1.2)) (fun f hf => ?_)) (fun x hx => ?_)
  · rcases hi with z | z | ⟨z1, z2⟩
    · obtain ⟨y, k, k1, k2⟩ := s5 i z
      refine ⟨fun w => ?_, k, k1, F2.1 _ k2⟩
      rcases w with w | ⟨w1, w2⟩
      · exact y w
      · exact ex i (.inl z) (by rw [w2]; exact fe)
    · refine ⟨fun w => ?_, ak 7 c1, ak_ge, by rw [z]; exact m1⟩
      rcases w with w | ⟨w1, w2⟩
      · rcases b1S with q | q
        · exact (s5 b1 q).1 (by rw [← z]; exact w)
        · exact ex i (.inr w) (by rw [z]; exact Fr_fre F1 q)
      · exact eb (w2.symm.trans z)
    · refine ⟨fun w => ?_, pk j, pk_ge j, by rw [z2]; exact hF.1 _ hme⟩
      rcases w with w | ⟨w1, w2⟩
      · exact ex i (.inr w) (by rw [z2]; exact fe)
      · omega
  · rw [hNn f hf]
    have en : (((nj N j).toNat : Nat) : Int) = nj N j := by omega
    have g := og_b hj hf
    unfold ix
    rw [en]
    exact (adN_v m0 g.1 g.2).symm
  · have em : NBk H2 e := ⟨pk j, pk_ge j, hF.1 _ hme, (pk_no58 j).1, (pk_no58 j).2⟩
    rcases hx with (z | z | ⟨z1, z2⟩) | (z | ⟨z1, z2⟩)
    · exact .inl (.inl z)
    · rcases b1S with w | w
      · exact .inl (.inl (by rw [z]; exact w))
      · exact .inr ⟨by rw [z]; exact Fr_fre F1 w, ak 7 c1, ak_ge, by rw [z]; exact m1, by unfold ak; omega, fun c => by unfold ak; omega⟩
    · exact .inr ⟨by rw [z2]; exact fe, by rw [z2]; exact em⟩
    · exact .inl (.inr z)
    · exact .inr ⟨by rw [z2]; exact fe, by rw [z2]; exact em⟩
end DWs
