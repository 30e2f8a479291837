/-! from the heap as it was made to the ordinary one -/
def jn (k j : Nat) : Bool := match shp k with
  | .inl a => decide (j < a.2)
  | .inr o => decide (j < o.2.length)
section DOM
variable {G : GG} {M : Mth} {R : Room} {pc : Nat} {lv : List (Nat × Value)} {st : List Value} {h' : Hp} {c0 s0 : Nat} {res : Res} {D : List (Nat × Nat)} {m : Mem} {S : List (Nat × Nat × Nat)} {n : Nat}
theorem dom_at {k i : Nat} (he : ∀ j, jn k j = true → rS S k i j = MR0 k i j) {H : Heap} (ha : va_at G.1 vwCl (gad G k i, xcell G (hN D m S n) k i) H) : va_at G.1 vwCl (gad G k i, xcell G (hp m) k i) H := by
  cases hs : shp k with
  | inl a =>
    obtain ⟨tag, N⟩ := a
    rw [xcell_arr hs] at ha ⊢
    have hw : ∀ j, j < N → jn k j = true := fun j hj => by unfold jn; rw [hs]; exact decide_eq_true hj
    have key : vp_cell (G.2.1 tag) (N, xcont G m MR0 k i tag) = vp_cell (G.2.1 tag) (N, xcont G m (rS S) k i tag) := by
      match tag with
      | 0 => rfl
      | 1 => rfl
      | 2 => rfl
      | 3 => rfl
      | 4 => rfl
      | x + 5 => simp only [xcont, vp_cell]; exact arrV_congr (fun j hj => by rw [he j (hw j hj)])
    have ha' : H[gad G k i]? = some (vp_cell (G.2.1 tag) (N, xcont G m (rS S) k i tag)) := ha
    show H[gad G k i]? = some (vp_cell (G.2.1 tag) (N, xcont G m MR0 k i tag))
    rw [ha']
    exact congrArg some key.symm
  | inr o =>
    obtain ⟨ci, kds⟩ := o
    rw [xcell_obj hs] at ha ⊢
    have key : xfs G (hp m) k i kds = xfs G (hN D m S n) k i kds := by
      unfold xfs
      refine List.map_congr_left (fun j hj => ?_)
      have hj2 := List.mem_range.mp hj
      have e := he j (by unfold jn; rw [hs]; exact decide_eq_true hj2)
      generalize kds.getD j 0 = kd
      match kd with
      | 0 => rfl
      | 1 => rfl
      | x + 2 =>
        show va_rf ((MR0 k i j).map fun q => gad G q.1 q.2) = va_rf ((rS S k i j).map fun q => gad G q.1 q.2)
        rw [e]
    rw [key]
    exact ha
theorem xR_dom (hd : ∀ q ∈ dom0, q ∈ D) (hnd : ∀ (a b : Nat) (q : Nat × Nat), dom0[a]? = some q → dom0[b]? = some q → a = b) (he : ∀ k i, (k, i) ∈ dom0 → ∀ j, jn k j = true → rS S k i j = MR0 k i j) {H : Heap} (hR : xR G (hN D m S n) H) : xR G (hp m) H := by
  obtain ⟨r1, r2, r3, r4, r5⟩ := hR
  have hx : ∀ (t : Nat) (q : Nat × va_E), (xws G (hp m))[t]? = some q → ∃ p : Nat × Nat, dom0[t]? = some p ∧ q = (gad G p.1 p.2, xcell G (hp m) p.1 p.2) := by
    intro t q hq
    simp only [xws, hp, List.getElem?_map] at hq
    cases hp1 : dom0[t]? with
    | none => rw [hp1] at hq; cases hq
    | some p =>
      rw [hp1] at hq
      simp only [Option.map_some, Option.some.injEq] at hq
      exact ⟨p, rfl, hq.symm⟩
  have hy : ∀ p : Nat × Nat, p ∈ dom0 → ∃ a : Nat, D[a]? = some p ∧ (xws G (hN D m S n))[a]? = some (gad G p.1 p.2, xcell G (hN D m S n) p.1 p.2) := by
    intro p hp1
    obtain ⟨a, ha⟩ := List.mem_iff_getElem?.mp (hd p hp1)
    refine ⟨a, ha, ?_⟩
    show ((D.map fun q => (gad G q.1 q.2, xcell G (hN D m S n) q.1 q.2)))[a]? = _
    rw [List.getElem?_map, ha]
    rfl
  refine ⟨r1, r2, fun t q hq => ?_, ⟨fun a b p q ha hb hpq => ?_, fun t q hq => ?_⟩, fun x hx => by cases hx⟩
  · obtain ⟨p, hp1, rfl⟩ := hx t q hq
    have hm := List.mem_of_getElem? hp1
    obtain ⟨a, -, w⟩ := hy p hm
    exact dom_at (fun j hj => he p.1 p.2 hm j hj) (r3 a _ w)
  · obtain ⟨p1, h1, rfl⟩ := hx a p ha
    obtain ⟨p2, h2, rfl⟩ := hx b q hb
    obtain ⟨x1, d1, w1⟩ := hy p1 (List.mem_of_getElem? h1)
    obtain ⟨x2, d2, w2⟩ := hy p2 (List.mem_of_getElem? h2)
    have e := r4.1 x1 x2 _ _ w1 w2 hpq
    rw [e, d2] at d1
    have : p2 = p1 := Option.some.inj d1
    rw [this] at h2
    exact hnd a b p1 h1 h2
  · obtain ⟨p, h1, rfl⟩ := hx t q hq
    obtain ⟨x1, d1, w1⟩ := hy p (List.mem_of_getElem? h1)
    have w := r4.2 x1 _ w1
    exact w
theorem x_dom (hd : ∀ q ∈ dom0, q ∈ D) (hnd : ∀ (a b : Nat) (q : Nat × Nat), dom0[a]? = some q → dom0[b]? = some q → a = b) (he : ∀ k i, (k, i) ∈ dom0 → ∀ j, jn k j = true → rS S k i j = MR0 k i j) (kk : X G M R pc lv st (hp m) c0 s0 res h') : X G M R pc lv st (hN D m S n) c0 s0 res h' := by
  intro p l e s m' args below meth c H locs ls hC hR hS hl
  exact kk p l e s m' args below meth c H locs ls hC (xR_dom hd hnd he hR) hS hl
end DOM
