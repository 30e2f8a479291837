/-! new arrays -/
section NEA
variable {G : GG} {M : Mth} {R : Room} {pc : Nat} {lv : List (Nat × Value)} {st : List Value} {h h' : Hp} {c0 s0 : Nat} {res : Res} {k i : Nat}
theorem x_newarr {tag n : Nat} {z : Int} {atype : ArrayType} (d : decode M.2.1 pc = .ok (.newarray atype, 2)) (harr : Cond.arrayClass (newarray.typeOf atype) ∈ lw_ctx) (hsh : shp k = .inl (tag, n)) (ht : (xtys G)[tag]? = some (G.2.1 tag, newarray.typeOf atype)) (hra : ∀ (U : State) (cA : ClassId), va_RA U cA (newarray.typeOf atype) → U.vm.findClass ("[" ++ (newarray.typeOf atype).toString) = some cA) (hn : h.2.2.2 = some (gad G k i)) (hz : z = n) (hlt : n < 2147483648) (hbytes : n * componentBytes (newarray.typeOf atype) ≤ 536870912)
    (hcont : vp_cell (G.2.1 tag) (n, xcont G h.2.1 h.2.2.1 k i tag) = arrV (G.2.1 tag) n (fun _ => defaultValue (newarray.typeOf atype))) (hcells : c0 + 1 ≤ R.cells) (hslots : s0 + n ≤ R.slots)
    (kk : X G M R (pc + 2) lv (rf G k i :: st) (h.1 ++ [(k, i)], h.2.1, h.2.2.1, some (gad G k i + 1)) (c0 + 1) (s0 + n) res h') : X G M R pc lv (.int (iI z) :: st) h c0 s0 res h' := by
  intro p l e s m args below meth c H locs ls hC hR hS hl
  have hts := hC.2.2.2.2.2.1
  have hK := hC.2.2.2.2.2.2.2.2.2.2.1.1
  have hsz := hR.2.2.2.2 _ hn
  have hnn : ¬ iI z < 0 := by
    rw [show (0 : Int32) = iI 0 from rfl, iI_lt (by unfold inI; omega) (by unfold inI; decide)]
    omega
  refine va_newaK (g := F0 m pc ls (.int (iI z) :: st)) hC.1 hC.2.1 (hts _ harr) rfl d rfl hnn (cl_nat hz hlt) hbytes hcells hslots hsz fun H1 cA e1 z1 o1 hA hf => ?_
  have hcA : cA = G.2.1 tag := by
    have q := hra s _ (hK.2 tag _ ht).2
    exact Option.some.inj (hf.symm.trans q)
  subst hcA
  have hk : ∀ (a : Nat) (x : Nat × va_E), (xws G h)[a]? = some x → H1[x.1]? = H[x.1]? := fun a x hx => o1 x.1 (by rw [← hsz]; exact (hR.2.2.1 a x hx).lt)
  have hP1 : va_P G.1 vwCl (xws G h ++ [(gad G k i, xcell G h k i)]) H1 := by
    refine (hR.2.2.1.kept hk).app (fun a x hx => ?_)
    have hz : a < 1 := (List.getElem?_eq_some_iff.mp hx).1
    rw [show a = 0 by omega] at hx
    cases hx
    rw [xcell_arr hsh]
    show H1[gad G k i]? = some (vp_cell (G.2.1 tag) (n, xcont G h.2.1 h.2.2.1 k i tag))
    rw [hcont]
    exact e1
  have hD1 : va_D (xA G) (xws G h ++ [(gad G k i, xcell G h k i)]) := hR.2.2.2.1.push hR.2.2.1 hsz.symm (.inl (by show gB G ≤ gad G k i; have := hR.1; omega))
  have hR1 := xR_push hR hn hP1 hD1 (by omega) (fun q a => o1 q (by omega))
  exact kk p l e s m args below meth c H1 locs ls hC hR1 ⟨Nat.le_trans hS.1 (by omega), fun x h1 h2 => (o1 x (by have := hS.1; omega)).trans (hS.2.1 x h1 h2), hS.2.2⟩ hl
theorem z_int {m : Mem} {r : Nat → Nat → Nat → Option (Nat × Nat)} {cA : ClassId} {n : Nat} (hz : ∀ j : Nat, m k i j = 0) : vp_cell cA (n, xcont G m r k i 0) = arrV cA n (fun _ => defaultValue .int) := by
  show arrV cA n (fun j : Nat => Value.int (iI (m k i j))) = _
  congr 1
  funext j
  rw [hz j]
  rfl
theorem z_byte {m : Mem} {r : Nat → Nat → Nat → Option (Nat × Nat)} {cA : ClassId} {n : Nat} (hz : ∀ j : Nat, m k i j = 0) : vp_cell cA (n, xcont G m r k i 1) = arrV cA n (fun _ => defaultValue .byte) := by
  show arrV cA n (fun j : Nat => Value.int (iI (m k i j))) = _
  congr 1
  funext j
  rw [hz j]
  rfl
theorem z_bool {m : Mem} {r : Nat → Nat → Nat → Option (Nat × Nat)} {cA : ClassId} {n : Nat} (hz : ∀ j : Nat, m k i j = 0) : vp_cell cA (n, xcont G m r k i 2) = arrV cA n (fun _ => defaultValue .boolean) := by
  show arrV cA n (fun j : Nat => Value.int (iI (m k i j))) = _
  congr 1
  funext j
  rw [hz j]
  rfl
theorem z_long {m : Mem} {r : Nat → Nat → Nat → Option (Nat × Nat)} {cA : ClassId} {n : Nat} (hz : ∀ j : Nat, m k i j = 0) : vp_cell cA (n, xcont G m r k i 3) = arrV cA n (fun _ => defaultValue .long) := by
  show arrV cA n (fun j : Nat => Value.long (lI (m k i j))) = _
  congr 1
  funext j
  rw [hz j]
  rfl
theorem x_anewarr {idx tag n : Nat} {z : Int} {C : String} (d : decode M.2.1 pc = .ok (.anewarray idx, 3)) (hlk : Cond.classLink M.1.cls idx C ∈ lw_ctx) (hover : ∀ s, xOh G s → va_AO C s) (hsh : shp k = .inl (tag + 5, n)) (ht : (xtys G)[tag + 5]? = some (G.2.1 (tag + 5), .object C)) (hn : h.2.2.2 = some (gad G k i)) (hz : z = n) (hlt : n < 2147483648) (hbytes : n * 4 ≤ 536870912)
    (hr : ∀ j : Nat, h.2.2.1 k i j = none) (hcells : c0 + 1 ≤ R.cells) (hslots : s0 + n ≤ R.slots)
    (kk : X G M R (pc + 3) lv (rf G k i :: st) (h.1 ++ [(k, i)], h.2.1, h.2.2.1, some (gad G k i + 1)) (c0 + 1) (s0 + n) res h') : X G M R pc lv (.int (iI z) :: st) h c0 s0 res h' := by
  intro p l e s m args below meth c H locs ls hC hR hS hl
  have hts := hC.2.2.2.2.2.1
  have hK := hC.2.2.2.2.2.2.2.2.2.2.1.1
  have hsz := hR.2.2.2.2 _ hn
  have hnn : ¬ iI z < 0 := by
    rw [show (0 : Int32) = iI 0 from rfl, iI_lt (by unfold inI; omega) (by unfold inI; decide)]
    omega
  have ho : va_AO C s := hover s hC.2.2.2.2.2.2.2.2.2.2.1.2.2.2.2
  refine W.anew hC.1 hC.2.1 hC.2.2.2.2.1 (hts _ hlk) (va_AO.use ho) rfl d rfl hnn (by rw [cl_nat hz hlt]; exact hbytes) hcells (by rw [cl_nat hz hlt]; exact hslots) fun cA kA comp f1 f2 f3 f4 => ?_
  have hcA : cA = G.2.1 (tag + 5) := by
    obtain ⟨kA', comp', g1, g2, g3, g4⟩ := (hK.2 (tag + 5) _ ht).2
    exact Option.some.inj (f1.symm.trans g4)
  subst hcA
  rw [cl_nat hz hlt]
  generalize hH1 : H.push ({ cls := G.2.1 (tag + 5), slots := Array.replicate n .null, vm := .none } : Cell) = H1
  have z1 : H1.size = H.size + 1 := by rw [← hH1, Array.size_push]
  have e1 : H1[H.size]? = some (arrV (G.2.1 (tag + 5)) n (fun _ => .null)) := by rw [← hH1, Array.getElem?_push_size, ← arrV_new]
  have o1 : ∀ q : Nat, q < H.size → H1[q]? = H[q]? := fun q hq => by rw [← hH1, Array.getElem?_push, if_neg (Nat.ne_of_lt hq)]
  have hk : ∀ (a : Nat) (x : Nat × va_E), (xws G h)[a]? = some x → H1[x.1]? = H[x.1]? := fun a x hx => o1 x.1 ((hR.2.2.1 a x hx).lt)
  have hP1 : va_P G.1 vwCl (xws G h ++ [(gad G k i, xcell G h k i)]) H1 := by
    refine (hR.2.2.1.kept hk).app (fun a x hx => ?_)
    have hz : a < 1 := (List.getElem?_eq_some_iff.mp hx).1
    rw [show a = 0 by omega] at hx
    cases hx
    rw [xcell_arr hsh]
    show H1[gad G k i]? = some (vp_cell (G.2.1 (tag + 5)) (n, xcont G h.2.1 h.2.2.1 k i (tag + 5)))
    rw [← hsz, e1]
    show _ = some (arrV (G.2.1 (tag + 5)) n (fun j : Nat => va_rf ((h.2.2.1 k i j).map fun q => gad G q.1 q.2)))
    congr 2
    funext j
    rw [hr j]
    rfl
  have hD1 : va_D (xA G) (xws G h ++ [(gad G k i, xcell G h k i)]) := hR.2.2.2.1.push hR.2.2.1 hsz.symm (.inl (by show gB G ≤ gad G k i; have := hR.1; omega))
  have hR1 := xR_push hR hn hP1 hD1 z1 o1
  rw [show Value.ref H.size = rf G k i from by rw [hsz]]
  exact kk p l e s m args below meth c H1 locs ls hC hR1 ⟨Nat.le_trans hS.1 (by omega), fun x h1 h2 => (o1 x (Nat.lt_of_lt_of_le h1 hS.1)).trans (hS.2.1 x h1 h2), hS.2.2⟩ hl
end NEA
