/-! what a constructor does: final fields, new objects, new arrays -/
section NEW
variable {G : GG} {M : Mth} {R : Room} {pc : Nat} {lv : List (Nat × Value)} {st : List Value} {h h' : Hp} {c0 s0 : Nat} {res : Res} {k i : Nat}
theorem x_putF {idx ci j kd : Nat} {kds : List Nat} {ty : FieldType} {v : Value} {h1 : Hp} (d : decode M.2.1 pc = .ok (.putfield idx, 3)) (fl : FLw M.1.cls idx ci j ty true) (hnm1 : M.1.name = "<init>") (hcl1 : ∀ q, vwCl[ci]? = some q → M.1.cls = q.1) (hsh : shp k = .inr (ci, kds)) (hkd : kds[j]? = some kd) (hm : (k, i) ∈ h.1)
    (hn : narrow ty v = v) (hfit : fits ty v = true) (hd : h1.1 = h.1) (hz : h1.2.2.2 = h.2.2.2) (hne : ∀ k' i', ¬ (k' = k ∧ i' = i) → xcell G h1 k' i' = xcell G h k' i') (hv : xfv G h1 k i j kd = v) (ho : ∀ j', j' ≠ j → ∀ kd', xfv G h1 k i j' kd' = xfv G h k i j' kd')
    (kk : X G M R (pc + 3) lv st h1 c0 s0 res h') : X G M R pc lv (v :: rf G k i :: st) h c0 s0 res h' := by
  intro p l e s m args below meth c H locs ls hC hR hS hl
  obtain ⟨q, hc, hj, hlk, hty, hfin, hdecl⟩ := fl
  obtain ⟨hin, ⟨ty0, hty0⟩, hnm⟩ := cl_ok ci q hc
  have hts := hC.2.2.2.2.2.1
  have hK := hC.2.2.2.2.2.2.2.2.2.2.1.1
  have hown := hC.2.2.2.2.1
  have hap := va_apart (own := M.1.cls) (T := q.2.1) (N := q.2.2) (C := q.1) hts hin ty0 hty0 hnm hK hc
  have hat := xR_at hR hm
  rw [xcell_obj hsh] at hat
  obtain ⟨r, g1, cell, q1, q2, q3, q4⟩ := hat
  have hr : r = q := Option.some.inj (g1.symm.trans hc)
  subst hr
  obtain ⟨hSl, hfc, kC, hkC, hkind⟩ := hK.1 ci _ hc
  obtain ⟨cf, kf, fi, f, hi, hsl⟩ := hSl j hj
  have hlay := hts _ (hin _ (u_in_lay hj))
  unfold u_lay at hlay
  rw [if_pos hfin] at hlay
  have hst := (u_facts hfc hkC (u_lays hts hin hj) hi).1
  have hcf : m.cls = cf := by
    obtain ⟨_, _, c', _, _, _, -, -, hf', -, -, -, hown2, -⟩ := Cond.laysFinal_spec hlay
    have e1 : c' = cf := by have := hi.symm.trans hf'; simp at this; exact this.1.symm
    rw [hdecl, ← hcl1 _ hc] at hown2
    rw [← e1]; exact Option.some.inj (hown.symm.trans hown2)
    rfl
  have h6 := u_fits hfc hkC hkind (Or.inr hlay) hi hty hn hfit
  refine W.putFinK hC.1 hC.2.1 hown (hts _ hlk) hi hst hcf (hC.2.2.2.2.2.2.2.2.1.trans hnm1) (by rw [q2]; exact h6) q1 q3 (by rw [hsl]; exact k2_hasslot (q4 j hj)) rfl rfl d fun H' e1 e2 e3 => ?_
  rw [hsl] at e1 ⊢
  have hR1 : xR G h1 H' := by
    refine xR_store hR hm hd hz hne ?_ e2 e3
    rw [xcell_obj hsh, ← xfs_set hkd hv ho]
    exact ⟨_, hc, t_OB.to (V := updV (vp_V (xfs G h k i kds)) j v) ⟨_, e1, q2, q3, t_set q4 hap hj v⟩ (fun j' _ => vp_updV_set (by rw [xfs_len]; exact (List.getElem?_eq_some_iff.mp hkd).1) v j')⟩
  exact kk p l e s m args below meth c H' _ ls hC hR1 (hS.put e2 e3 (xR_ge hR hm)) hl
/-- a new cell at the heap's end -/
theorem xws_push {h : Hp} {k i n : Nat} : xws G (h.1 ++ [(k, i)], h.2.1, h.2.2.1, some n) = xws G h ++ [(gad G k i, xcell G h k i)] := by
  unfold xws
  rw [List.map_append]
  rfl
theorem xR_push {H H1 : Heap} (hR : xR G h H) (hn : h.2.2.2 = some (gad G k i)) (hP : va_P G.1 vwCl (xws G h ++ [(gad G k i, xcell G h k i)]) H1) (hD : va_D (xA G) (xws G h ++ [(gad G k i, xcell G h k i)])) (hz : H1.size = H.size + 1) (ho : ∀ q, q < H.size → H1[q]? = H[q]?) : xR G (h.1 ++ [(k, i)], h.2.1, h.2.2.1, some (gad G k i + 1)) H1 := by
  obtain ⟨r1, r2, r3, r4, r5⟩ := hR
  have e := r5 _ hn
  refine ⟨by omega, fun q a => (ho q (Nat.lt_of_lt_of_le (Nat.lt_of_not_le (fun z => a (.inl z))) r1)).trans (r2 q a), ?_, ?_, fun n a => ?_⟩
  · rw [xws_push]; exact hP
  · rw [xws_push]; exact hD
  · have : gad G k i + 1 = n := Option.some.inj a
    omega
theorem x_new {idx ci : Nat} {kds : List Nat} {q : vw_C} (d : decode M.2.1 pc = .ok (.new idx, 3)) (hlk : Cond.classLink M.1.cls idx q.1 ∈ lw_ctx) (hinst : Cond.instantiable q.1 q.2.2 ∈ lw_ctx) (hini : Cond.initialized q.1 ∈ lw_ctx) (hsh : shp k = .inr (ci, kds)) (hc : vwCl[ci]? = some q) (hn : h.2.2.2 = some (gad G k i))
    (ty : Nat → FieldType) (hty : ∀ j, j < q.2.2 → parseFieldDescriptor (q.2.1 j).2.2.1 = some (ty j)) (hfs : ∀ j, j < q.2.2 → defaultValue (ty j) = vp_V (xfs G h k i kds) j) (hcells : c0 + 1 ≤ R.cells) (hslots : s0 + q.2.2 ≤ R.slots)
    (kk : X G M R (pc + 3) lv (rf G k i :: st) (h.1 ++ [(k, i)], h.2.1, h.2.2.1, some (gad G k i + 1)) (c0 + 1) (s0 + q.2.2) res h') : X G M R pc lv st h c0 s0 res h' := by
  intro p l e s m args below meth c H locs ls hC hR hS hl
  obtain ⟨hin, ⟨ty0, hty0⟩, hnm⟩ := cl_ok ci q hc
  have hts := hC.2.2.2.2.2.1
  have hK := hC.2.2.2.2.2.2.2.2.2.2.1.1
  have hsz := hR.2.2.2.2 _ hn
  have hKn := hK.1 ci _ hc
  refine W.newcK hC.1 hC.2.1 hC.2.2.2.2.1 (hts _ hlk) (hts _ hinst) (hts _ hini) rfl d hcells hslots hKn.2.1 rfl fun H1 kC hkC e1 z1 o1 => ?_
  have hk : ∀ (a : Nat) (x : Nat × va_E), (xws G h)[a]? = some x → H1[x.1]? = H[x.1]? := fun a x hx => o1 x.1 ((hR.2.2.1 a x hx).lt)
  have hP1 : va_P G.1 vwCl (xws G h ++ [(gad G k i, xcell G h k i)]) H1 := by
    refine (hR.2.2.1.kept hk).app (fun a x hx => ?_)
    have hz : a < 1 := (List.getElem?_eq_some_iff.mp hx).1
    rw [show a = 0 by omega] at hx
    cases hx
    rw [xcell_obj hsh, ← hsz]
    exact ⟨_, hc, (u_born ty hts hin hKn hkC e1 hty).to hfs⟩
  have hD1 : va_D (xA G) (xws G h ++ [(gad G k i, xcell G h k i)]) := hR.2.2.2.1.push hR.2.2.1 hsz.symm (.inl (by show gB G ≤ gad G k i; have := hR.1; omega))
  have hR1 := xR_push hR hn hP1 hD1 z1 o1
  rw [show Value.ref H.size = rf G k i from by rw [hsz]]
  exact kk p l e s m args below meth c H1 locs ls hC hR1 ⟨Nat.le_trans hS.1 (by omega), fun x h1 h2 => (o1 x (Nat.lt_of_lt_of_le h1 hS.1)).trans (hS.2.1 x h1 h2), hS.2.2⟩ hl
end NEW
