/-! references stored: a final field, a place of an array; the constructor of Object -/
def rS (S : List (Nat × Nat × Nat)) : Nat → Nat → Nat → Option (Nat × Nat) := fun k i j => if (k, i, j) ∈ S then MR0 k i j else none
/-- the heap while the objects are made: what there is, what references are set, how many cells -/
def hN (D : List (Nat × Nat)) (m : Mem) (S : List (Nat × Nat × Nat)) (n : Nat) : Hp := (D, m, rS S, some n)
theorem rS_push {S : List (Nat × Nat × Nat)} {k i j : Nat} : rS (S ++ [(k, i, j)]) k i j = MR0 k i j := by
  unfold rS
  rw [if_pos (List.mem_append.mpr (.inr (List.mem_singleton.mpr rfl)))]
theorem rS_off {S : List (Nat × Nat × Nat)} {k i j k' i' j' : Nat} (h : ¬ (k' = k ∧ i' = i ∧ j' = j)) : rS (S ++ [(k, i, j)]) k' i' j' = rS S k' i' j' := by
  have e : ((k', i', j') ∈ S ++ [(k, i, j)]) ↔ ((k', i', j') ∈ S) := by
    constructor
    · intro q
      rcases List.mem_append.mp q with q | q
      · exact q
      · have := List.mem_singleton.mp q
        exact absurd ⟨congrArg (·.1) this, congrArg (·.2.1) this, congrArg (·.2.2) this⟩ h
    · intro q
      exact List.mem_append.mpr (.inl q)
  unfold rS
  by_cases g : (k', i', j') ∈ S
  · rw [if_pos (e.mpr g), if_pos g]
  · rw [if_neg (fun q => g (e.mp q)), if_neg g]
section NES
variable {G : GG} {M : Mth} {R : Room} {pc : Nat} {lv : List (Nat × Value)} {st : List Value} {h' : Hp} {c0 s0 : Nat} {res : Res} {k i : Nat} {D : List (Nat × Nat)} {m : Mem} {S : List (Nat × Nat × Nat)} {n : Nat}
theorem xcell_rS {k' i' j : Nat} (q : ¬ (k' = k ∧ i' = i)) : xcell G (hN D m (S ++ [(k, i, j)]) n) k' i' = xcell G (hN D m S n) k' i' := by
  have e : ∀ j', rS (S ++ [(k, i, j)]) k' i' j' = rS S k' i' j' := fun j' => rS_off (fun z => q ⟨z.1, z.2.1⟩)
  have e2 : rS (S ++ [(k, i, j)]) k' i' = rS S k' i' := funext e
  unfold xcell hN
  cases hs : shp k' with
  | inl a =>
    show Sum.inl (G.2.1 a.1, a.2, xcont G m (rS (S ++ [(k, i, j)])) k' i' a.1) = Sum.inl (G.2.1 a.1, a.2, xcont G m (rS S) k' i' a.1)
    congr 3
    unfold xcont
    rw [e2]
  | inr o =>
    show Sum.inr (o.1, xfs G (D, m, rS (S ++ [(k, i, j)]), some n) k' i' o.2) = Sum.inr (o.1, xfs G (D, m, rS S, some n) k' i' o.2)
    congr 2
    unfold xfs xfv
    simp only [e2]
/-- a final reference stored in a constructor -/
theorem x_putR {idx ci j a b : Nat} {kds : List Nat} {ty : FieldType} (d : decode M.2.1 pc = .ok (.putfield idx, 3)) (fl : FLw M.1.cls idx ci j ty true) (hnm1 : M.1.name = "<init>") (hcl1 : ∀ q, vwCl[ci]? = some q → M.1.cls = q.1) (hsh : shp k = .inr (ci, kds)) (hkd : kds[j]? = some 2) (hm : (k, i) ∈ D) (hr : MR0 k i j = some (a, b)) (hn : narrow ty (rf G a b) = rf G a b) (hfit : fits ty (rf G a b) = true)
    (kk : X G M R (pc + 3) lv st (hN D m (S ++ [(k, i, j)]) n) c0 s0 res h') : X G M R pc lv (rf G a b :: rf G k i :: st) (hN D m S n) c0 s0 res h' := by
  refine x_putF (h := hN D m S n) (h1 := hN D m (S ++ [(k, i, j)]) n) (j := j) (kd := 2) d fl hnm1 hcl1 hsh hkd hm hn hfit rfl rfl (fun _ _ q => xcell_rS q) ?_ (fun j' hj kd' => ?_) kk
  · show va_rf ((rS (S ++ [(k, i, j)]) k i j).map fun q => gad G q.1 q.2) = rf G a b
    rw [rS_push, hr]
    rfl
  · have e : rS (S ++ [(k, i, j)]) k i j' = rS S k i j' := rS_off (fun z => hj z.2.2)
    unfold xfv hN
    dsimp only
    rw [e]
/-- a reference stored in an array of them -/
theorem x_aastR {tag N a b ci : Nat} {z : Int} {CC : String} {kds : List Nat} {q : vw_C} (j : Nat) (d : decode M.2.1 pc = .ok (.aastore, 1)) (hsh : shp k = .inl (tag + 5, N)) (ht : (xtys G)[tag + 5]? = some (G.2.1 (tag + 5), .object CC)) (hm : (k, i) ∈ D) (hm2 : (a, b) ∈ D) (hsh2 : shp a = .inr (ci, kds)) (hc : vwCl[ci]? = some q) (hq : q.1 = CC) (hz : z = j) (hj : j < N) (hr : MR0 k i j = some (a, b)) (hN' : N < 2147483648)
    (kk : X G M R (pc + 1) lv st (hN D m (S ++ [(k, i, j)]) n) c0 s0 res h') : X G M R pc lv (rf G a b :: .int (iI z) :: rf G k i :: st) (hN D m S n) c0 s0 res h' := by
  intro p l e s m' args below meth c H locs ls hC hR hS hl
  have hK := hC.2.2.2.2.2.2.2.2.2.2.1.1
  have hat := xR_at hR hm
  rw [xcell_arr hsh] at hat
  have hat2 := xR_at hR hm2
  rw [xcell_obj hsh2] at hat2
  obtain ⟨r', hr', cellV, g1, g2, g3, -⟩ := hat2
  have hcls := (hK.1 ci q hc).2
  obtain ⟨kA, comp, k1, k2, k3, -⟩ := (hK.2 (tag + 5) _ ht).2
  subst hq
  have hcomp : comp = G.1.1 ci := Option.some.inj (k3.symm.trans hcls.1)
  subst hcomp
  obtain ⟨kC, hkC, -⟩ := hcls.2
  have hcl := cl_nat hz (show j < 2147483648 by omega)
  refine W.aast hC.1 hC.2.1 hat (fun q h => by cases h) (fun h => by cases h) k1 k2 rfl hkC ⟨fun q => in_nat hz hj hN' (Or.inl q), by show _ < (arrV _ _ _).slots.size; rw [arrV_size, hcl]; exact hj⟩ g1 (fun q h => by rw [g3] at h; cases h) (by rw [g2]; exact hkC) (by rw [g2]; exact va_assign hcls) rfl rfl d fun H1 eH z' oq => ?_
  refine kk p l e s m' args below meth c H1 _ ls hC (xR_store hR hm rfl rfl (fun _ _ q => xcell_rS q) ?_ z' oq) (hS.put z' oq (xR_ge hR hm)) hl
  rw [xcell_arr hsh]
  show H1[gad G k i]? = some (vp_cell _ _)
  rw [eH]
  show some ((arrV (G.2.1 (tag + 5)) N (fun j' : Nat => va_rf ((rS S k i j').map fun q => gad G q.1 q.2))).setSlot (iI z).toNatClampNeg (Value.ref (gad G a b))) = some (arrV (G.2.1 (tag + 5)) N (fun j' : Nat => va_rf ((rS (S ++ [(k, i, j)]) k i j').map fun q => gad G q.1 q.2)))
  rw [arrV_store, hcl]
  congr 2
  funext j'
  by_cases hq : j' = j
  · subst hq
    rw [rS_push, hr]
    simp [updV, va_rf]
  · rw [rS_off (fun z => hq z.2.2)]
    simp [updV, hq]
end NES
section NEO
variable {G : GG} {M : Mth} {R : Room} {pc : Nat} {lv : List (Nat × Value)} {st : List Value} {h h' : Hp} {c0 s0 : Nat} {res : Res} {k i : Nat}
theorem x_obj {idx : Nat} (d : decode M.2.1 pc = .ok (.invokespecial idx, 3)) (hlk : Cond.methodLink M.1.cls idx Lib.objectInit ∈ lw_ctx) (hinst : Cond.instanceMethod Lib.objectInit ∈ lw_ctx) (hcode : Cond.code Lib.objectInit ⟨#[0xb1]⟩ 1 none ∈ lw_ctx) (hst : (st.map fun v => v.category).sum ≤ 8) (hroom : Nat.ble 1 R.frames = true ∧ Nat.ble 28 R.locals = true)
    (kk : X G M R (pc + 3) lv st h c0 s0 res h') : X G M R pc lv (rf G k i :: st) h c0 s0 res h' := by
  intro p l e s m args below meth c H locs ls hC hR hS hl
  have hts := hC.2.2.2.2.2.1
  refine W.objInit (g := F0 m pc ls (rf G k i :: st)) hC.1 hC.2.1 hC.2.2.2.2.1 (hts _ hlk) (hts _ hinst) (hts _ hcode) rfl (hl.1.trans hC.2.2.2.1.symm) rfl d (Nat.le_of_ble_eq_true hroom.1) ?_ (kk p l e s m args below meth c H locs ls hC hR hS hl)
  have := Nat.le_of_ble_eq_true hroom.2
  show 2 * 0 + _ + 12 ≤ R.locals
  omega
end NEO
