/-! a thing more in the current world -/
def Sp (S : Nat → Prop) (H H1 : Hp) (x : Nat) : Prop := S x ∨ fre H x ∧ ∃ k, 51 ≤ k ∧ (k, x) ∈ H1.1
/-- a new thing e, made behind H, added to the list j of the current world -/
theorem WN.more1 {G : GG} {H H1 H2 : Hp} {a : Nat} {N N' : Int → Int} {B : Bok} {S T : Nat → Prop} (hW : WN G H1 a N B S T) (F : Fr S H H1) (hT : ∀ x, T x → ¬ fre H x) (hu : UQ H2) (j : Nat) (hj : 2 ≤ j ∧ j < 7) {c1 b1 e : Nat}
    (hA : LA G H2 (B.1 j) c1 b1 ((nj N j).toNat + 1) (adE (fun q => (pk j, bE B j q)) (nj N j).toNat (pk j, e))) (hF : Fr (fun i => i = B.1 j ∨ 0 < B.2.1 j ∧ i = B.2.2.1 j) H1 H2) (hb : b1 = B.2.2.1 j ∧ c1 = B.2.1 j ∧ 0 < B.2.1 j ∨ fre H1 b1 ∧ 0 < c1)
    (hme : (pk j, e) ∈ H1.1) (fe : fre H e) (hSx : ∀ x, S x → ¬ fre H x) (hN0 : ∀ f, f < 7 → N' (hd f) = N (hd f)) (hNj : ∀ i, i < 7 → nj N' i = nj N i + (if i = j then 1 else 0)) (hmx : nj N j + 1 ≤ mxj j) (hNe : ∀ i, i < 7 → ∀ q : Nat, (q : Int) < nj N i → ∀ f, f < nf i → N' (ix i q f) = N (ix i q f)) (hNn : ∀ f : Nat, f < nf j → H1.2.1 (pk j) e (f : Int) = N' (ix j (nj N j).toNat f)) :
    WN G H2 a N' (adB B j c1 b1 (nj N j).toNat e) (Sp S H H2) T ∧ Fr S H H2 := by
  have sl := hW.2.2.2.2.2.1.2.1 j hj.2
  have s5 := hW.2.2.2.2.2.1.2.2.2.2
  refine ⟨WN.add hW hu j hj.2 hA hF hb hme (fun _ z => hSx e z fe) (fun i z => .inl z) ?_ (fun _ => .inr ⟨fe, pk j, pk_ge j, hF.1 _ hme⟩) (fun _ z => z) (fun z => by omega) (fun i hi => ?_) hN0 hNj hmx hNe hNn, F.tr hF (fun i z => .inl ?_)⟩
  · rcases hb with ⟨z1, z2, z3⟩ | ⟨z1, z2⟩
    · rw [z1]; exact .inl (sl.2 z3)
    · exact .inr ⟨Fr_fre F z1, ak 7 c1, ak_ge, hA.2.2.2.2.2.1 z2⟩
  · rcases hi with z | ⟨z1, z2⟩
    · obtain ⟨y, k, k1, k2⟩ := s5 i z
      exact ⟨y, k, k1, hF.1 _ k2⟩
    · exact ⟨fun y => hT i y z1, z2⟩
  · rcases z with z | ⟨z1, z2⟩
    · rw [z]; exact sl.1
    · rw [z2]; exact sl.2 z1
