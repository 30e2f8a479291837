/-! what the law makes: new objects and rows at the heap's end, stores of references, copies of rows -/
theorem shp_hi {k : Nat} (h : 60 ≤ k) : shp k = .inl (k % 10, k / 10 - 6) := by
  unfold shp
  split <;> first | rfl | omega
def ak (t n : Nat) : Nat := 10 * (n + 6) + t
theorem shp_ak {t n : Nat} (ht : t < 10) : shp (ak t n) = .inl (t, n) := by
  rw [shp_hi (by unfold ak; omega)]
  unfold ak
  rw [show (10 * (n + 6) + t) % 10 = t by omega, show (10 * (n + 6) + t) / 10 - 6 = n by omega]
theorem ak_ge {t n : Nat} : 51 ≤ ak t n := by unfold ak; omega
theorem ak_inj {t n t' n' : Nat} (ht : t < 10) (ht' : t' < 10) (e : ak t n = ak t' n') : t = t' ∧ n = n' := by unfold ak at e; omega
theorem gad_hi {G : GG} {k i : Nat} (h : 51 ≤ k) : gad G k i = i := by unfold gad; rw [if_pos h]
/-- the name (k, n) cleared; a new cell at the end -/
def zn (h : Hp) (k n : Nat) : Hp := (h.1, (fun k' i' => if k' = k ∧ i' = n then fun _ => 0 else h.2.1 k' i'), (fun k' i' => if k' = k ∧ i' = n then fun _ => none else h.2.2.1 k' i'), h.2.2.2)
def nw (h : Hp) (k n : Nat) : Hp := (h.1 ++ [(k, n)], (zn h k n).2.1, (zn h k n).2.2.1, some (n + 1))
def rset (h : Hp) (k i j : Nat) (v : Option (Nat × Nat)) : Hp := (h.1, h.2.1, (fun k' i' j' => if k' = k ∧ i' = i ∧ j' = j then v else h.2.2.1 k' i' j'), h.2.2.2)
theorem rset_ne {G : GG} {h : Hp} {k i j k' i' : Nat} {v : Option (Nat × Nat)} (hn : ¬ (k' = k ∧ i' = i)) : xcell G (rset h k i j v) k' i' = xcell G h k' i' := by
  refine xcell_congr rfl ?_
  funext j'
  show (if k' = k ∧ i' = i ∧ j' = j then v else h.2.2.1 k' i' j') = _
  rw [if_neg (fun q => hn ⟨q.1, q.2.1⟩)]
theorem rset_fo {G : GG} {h : Hp} {k i j kd' : Nat} {v : Option (Nat × Nat)} (j' : Nat) (hj : j' ≠ j) : xfv G (rset h k i j v) k i j' kd' = xfv G h k i j' kd' := by
  refine xfv_congr rfl ?_
  show (if k = k ∧ i = i ∧ j' = j then v else h.2.2.1 k i j') = _
  rw [if_neg (fun q => hj q.2.2)]
theorem rset_at {h : Hp} {k i j : Nat} {v : Option (Nat × Nat)} : (rset h k i j v).2.2.1 k i j = v := by
  show (if k = k ∧ i = i ∧ j = j then v else h.2.2.1 k i j) = _
  rw [if_pos ⟨rfl, rfl, rfl⟩]
section ZN
variable {G : GG} {M : Mth} {R : Room} {pc : Nat} {lv : List (Nat × Value)} {st : List Value} {h : Hp} {c0 s0 : Nat} {Q : PP} {k i n : Nat}
theorem xR_fresh {H : Heap} (hR : xR G h H) (hn : h.2.2.2 = some n) (hk : 51 ≤ k) : (k, n) ∉ h.1 := by
  intro hm
  obtain ⟨p, hp, hw⟩ := xws_at (G := G) hm
  have e := hR.2.2.2.2 _ hn
  have l := (hR.2.2.1 p _ hw).lt
  rw [gad_hi hk] at l
  omega
theorem zn_cell {k' i' : Nat} (hn : ¬ (k' = k ∧ i' = n)) : xcell G (zn h k n) k' i' = xcell G h k' i' := by
  refine xcell_congr ?_ ?_
  · show (if k' = k ∧ i' = n then _ else h.2.1 k' i') = _
    rw [if_neg hn]
  · show (if k' = k ∧ i' = n then _ else h.2.2.1 k' i') = _
    rw [if_neg hn]
theorem xR_zn {H : Heap} (hR : xR G h H) (hn : h.2.2.2 = some n) (hk : 51 ≤ k) : xR G (zn h k n) H := by
  have hf := xR_fresh hR hn hk
  have e : xws G (zn h k n) = xws G h := by
    unfold xws
    refine List.map_congr_left (fun q hq => ?_)
    rw [zn_cell (fun z => hf (by rw [← z.1, ← z.2]; exact hq))]
  exact ⟨hR.1, hR.2.1, by rw [e]; exact hR.2.2.1, by rw [e]; exact hR.2.2.2.1, hR.2.2.2.2⟩
theorem xR_nw {H H1 : Heap} (hR : xR G h H) (hn : h.2.2.2 = some n) (hk : 51 ≤ k) (hc : va_at G.1 vwCl (n, xcell G (zn h k n) k n) H1) (hz : H1.size = H.size + 1) (ho : ∀ q, q < H.size → H1[q]? = H[q]?) : xR G (nw h k n) H1 := by
  have hR0 := xR_zn hR hn hk
  obtain ⟨r1, r2, r3, r4, r5⟩ := hR0
  have e := r5 _ hn
  have ew : xws G (nw h k n) = xws G (zn h k n) ++ [(n, xcell G (zn h k n) k n)] := by
    unfold xws nw
    rw [List.map_append]
    show _ ++ [(gad G k n, _)] = _
    rw [gad_hi hk]
    rfl
  refine ⟨by omega, fun q a => (ho q (by have : ¬ gB G ≤ q := fun z => a (.inl z); omega)).trans (r2 q a), ?_, ?_, fun x a => ?_⟩
  · rw [ew]
    refine (r3.kept (fun k q hk => ho q.1 (r3 k q hk).lt)).app (fun a x hx => ?_)
    have hz : a < 1 := (List.getElem?_eq_some_iff.mp hx).1
    rw [show a = 0 by omega] at hx
    cases hx
    exact hc
  · rw [ew]
    exact r4.push r3 e.symm (.inl (by omega))
  · have : n + 1 = x := Option.some.inj a
    omega
theorem va_S_push {A0 : Nat → Prop} {H0 H H1 : Heap} {locs : List Loc} (hS : va_S A0 H0 H locs) (hz : H1.size = H.size + 1) (ho : ∀ q, q < H.size → H1[q]? = H[q]?) : va_S A0 H0 H1 locs := ⟨Nat.le_trans hS.1 (by omega), fun x h1 h2 => (ho x (Nat.lt_of_lt_of_le h1 hS.1)).trans (hS.2.1 x h1 h2), hS.2.2⟩
def dv : Nat → Value
  | 0 => .int 0
  | 1 => .long 0
  | _ => .null
theorem zn_dv {kds : List Nat} {j : Nat} (hj : j < kds.length) : vp_V (xfs G (zn h k n) k n kds) j = dv (kds.getD j 0) := by
  have e : kds[j]? = some (kds.getD j 0) := by rw [List.getD, List.getElem?_eq_getElem hj]; rfl
  unfold vp_V
  rw [List.getD, xfs_at e]
  show xfv G (zn h k n) k n j (kds.getD j 0) = _
  have e1 : (zn h k n).2.1 k n = fun _ => 0 := by show (if k = k ∧ n = n then _ else _) = _; rw [if_pos ⟨rfl, rfl⟩]
  have e2 : (zn h k n).2.2.1 k n = fun _ => none := by show (if k = k ∧ n = n then _ else _) = _; rw [if_pos ⟨rfl, rfl⟩]
  generalize kds.getD j 0 = kd
  match kd with
  | 0 => simp only [xfv, e1]; rfl
  | 1 => simp only [xfv, e1]; rfl
  | x + 2 => simp only [xfv, e2]; rfl
/-- a class whose objects the law makes -/
def NC (own : String) (idx ci : Nat) (kds : List Nat) : Prop := ∃ q : vw_C, vwCl[ci]? = some q ∧ Cond.classLink own idx q.1 ∈ lw_ctx ∧ Cond.instantiable q.1 q.2.2 ∈ lw_ctx ∧ Cond.initialized q.1 ∈ lw_ctx ∧ kds.length = q.2.2 ∧ ∃ ty : Nat → FieldType, ∀ j, j < q.2.2 → parseFieldDescriptor (q.2.1 j).2.2.1 = some (ty j) ∧ defaultValue (ty j) = dv (kds.getD j 0)
theorem o_new {idx ci : Nat} {kds : List Nat} (d : decode M.2.1 pc = .ok (.new idx, 3)) (hN : NC M.1.cls idx ci kds) (hsh : shp k = .inr (ci, kds)) (hk : 51 ≤ k) (hn : h.2.2.2 = some n) (hcells : c0 + 1 ≤ R.cells) (hslots : s0 + kds.length ≤ R.slots)
    (kk : (∀ k', 51 ≤ k' → (k', n) ∉ h.1) → YY G M R (pc + 3) lv (rf G k n :: st) (nw h k n) (c0 + 1) (s0 + kds.length) Q) : YY G M R pc lv st h c0 s0 Q := by
  intro p l e s m args below meth c H locs ls hC hR hS hl
  obtain ⟨q, hc, hlk, hinst, hini, hlen, ty, hty⟩ := hN
  obtain ⟨hin, ⟨ty0, hty0⟩, hnm⟩ := cl_ok ci q hc
  have hts := hC.2.2.2.2.2.1
  have hK := hC.2.2.2.2.2.2.2.2.2.2.1.1
  have hsz := hR.2.2.2.2 _ hn
  have hKn := hK.1 ci _ hc
  refine W.newcK hC.1 hC.2.1 hC.2.2.2.2.1 (hts _ hlk) (hts _ hinst) (hts _ hini) rfl d hcells (by rw [← hlen]; exact hslots) hKn.2.1 rfl fun H1 kC hkC e1 z1 o1 => ?_
  have kk := kk (fun k' hk' => xR_fresh hR hn hk')
  rw [hlen] at kk
  have hR1 : xR G (nw h k n) H1 := by
    refine xR_nw hR hn hk ?_ z1 o1
    rw [xcell_obj hsh, ← hsz]
    exact ⟨_, hc, (u_born ty hts hin hKn hkC e1 (fun j hj => (hty j hj).1)).to (fun j hj => by rw [hsz, zn_dv (by rw [hlen]; exact hj)]; exact (hty j hj).2)⟩
  rw [show Value.ref H.size = rf G k n from by rw [hsz]; show _ = Value.ref (gad G k n); rw [gad_hi hk]]
  exact kk p l e s m args below meth c H1 locs ls hC hR1 (va_S_push hS z1 o1) hl
theorem o_newarr {tag N : Nat} {z : Int} {atype : ArrayType} (d : decode M.2.1 pc = .ok (.newarray atype, 2)) (harr : Cond.arrayClass (newarray.typeOf atype) ∈ lw_ctx) (htag : tag < 10) (ht : (xtys G)[tag]? = some (G.2.1 tag, newarray.typeOf atype)) (hra : ∀ (U : State) (cA : ClassId), va_RA U cA (newarray.typeOf atype) → U.vm.findClass ("[" ++ (newarray.typeOf atype).toString) = some cA) (hn : h.2.2.2 = some n) (hz : z = N) (hlt : N < 100000000) (hbb : componentBytes (newarray.typeOf atype) ≤ 8) (hlt2 : N ≤ 60000000)
    (hcont : ∀ cA, vp_cell cA (N, xcont G (zn h (ak tag N) n).2.1 (zn h (ak tag N) n).2.2.1 (ak tag N) n tag) = arrV cA N (fun _ => defaultValue (newarray.typeOf atype))) (hcells : c0 + 1 ≤ R.cells) (hslots : s0 + N ≤ R.slots)
    (kk : (∀ k', 51 ≤ k' → (k', n) ∉ h.1) → YY G M R (pc + 2) lv (rf G (ak tag N) n :: st) (nw h (ak tag N) n) (c0 + 1) (s0 + N) Q) : YY G M R pc lv (.int (iI z) :: st) h c0 s0 Q := by
  intro p l e s m args below meth c H locs ls hC hR hS hl
  have hts := hC.2.2.2.2.2.1
  have hK := hC.2.2.2.2.2.2.2.2.2.2.1.1
  have hsz := hR.2.2.2.2 _ hn
  have hnn : ¬ iI z < 0 := by
    rw [show (0 : Int32) = iI 0 from rfl, iI_lt (by unfold inI; omega) (by unfold inI; decide)]
    omega
  have hbytes : N * componentBytes (newarray.typeOf atype) ≤ 536870912 := Nat.le_trans (Nat.mul_le_mul_left N hbb) (by omega)
  refine va_newaK (g := F0 m pc ls (.int (iI z) :: st)) hC.1 hC.2.1 (hts _ harr) rfl d rfl hnn (cl_nat hz (by omega)) hbytes hcells hslots hsz fun H1 cA e1 z1 o1 hA hf => ?_
  have hcA : cA = G.2.1 tag := by
    have q := hra s _ (hK.2 tag _ ht).2
    exact Option.some.inj (hf.symm.trans q)
  subst hcA
  have z2 : H1.size = H.size + 1 := by omega
  have o2 : ∀ q, q < H.size → H1[q]? = H[q]? := fun q hq => o1 q (by omega)
  have hR1 : xR G (nw h (ak tag N) n) H1 := by
    refine xR_nw hR hn ak_ge ?_ z2 o2
    rw [xcell_arr (shp_ak htag)]
    show H1[n]? = some (vp_cell (G.2.1 tag) _)
    rw [hcont]
    exact e1
  have kk := kk (fun k' hk' => xR_fresh hR hn hk')
  rw [show rf G (ak tag N) n = Value.ref n from by show Value.ref (gad G (ak tag N) n) = _; rw [gad_hi ak_ge]] at kk
  exact kk p l e s m args below meth c H1 locs ls hC hR1 (va_S_push hS z2 o2) hl
theorem zn_m {h : Hp} : (zn h k n).2.1 k n = fun _ => 0 := by show (if k = k ∧ n = n then _ else _) = _; rw [if_pos ⟨rfl, rfl⟩]
theorem zn_r {h : Hp} : (zn h k n).2.2.1 k n = fun _ => none := by show (if k = k ∧ n = n then _ else _) = _; rw [if_pos ⟨rfl, rfl⟩]
theorem o_newI {N : Nat} {z : Int} (d : decode M.2.1 pc = .ok (.newarray .int, 2)) (hn : h.2.2.2 = some n) (hz : z = N) (hlt : N ≤ 60000000) (hcells : c0 + 1 ≤ R.cells) (hslots : s0 + N ≤ R.slots)
    (kk : (∀ k', 51 ≤ k' → (k', n) ∉ h.1) → YY G M R (pc + 2) lv (rf G (ak 0 N) n :: st) (nw h (ak 0 N) n) (c0 + 1) (s0 + N) Q) : YY G M R pc lv (.int (iI z) :: st) h c0 s0 Q :=
  o_newarr (atype := .int) (tag := 0) d (in_ctx 136 (by decide +kernel) rfl) (by decide) rfl (fun U cA h => h) hn hz (by omega) (by decide) hlt (fun cA => by
    show arrV cA N (fun j : Nat => Value.int (iI ((zn h (ak 0 N) n).2.1 (ak 0 N) n j))) = _
    rw [zn_m]; rfl) hcells hslots kk
theorem o_newB {N : Nat} {z : Int} (d : decode M.2.1 pc = .ok (.newarray .byte, 2)) (hn : h.2.2.2 = some n) (hz : z = N) (hlt : N ≤ 60000000) (hcells : c0 + 1 ≤ R.cells) (hslots : s0 + N ≤ R.slots)
    (kk : (∀ k', 51 ≤ k' → (k', n) ∉ h.1) → YY G M R (pc + 2) lv (rf G (ak 1 N) n :: st) (nw h (ak 1 N) n) (c0 + 1) (s0 + N) Q) : YY G M R pc lv (.int (iI z) :: st) h c0 s0 Q :=
  o_newarr (atype := .byte) (tag := 1) d (in_ctx 349 (by decide +kernel) rfl) (by decide) rfl (fun U cA h => h) hn hz (by omega) (by decide) hlt (fun cA => by
    show arrV cA N (fun j : Nat => Value.int (iI ((zn h (ak 1 N) n).2.1 (ak 1 N) n j))) = _
    rw [zn_m]; rfl) hcells hslots kk
theorem o_newL {N : Nat} {z : Int} (d : decode M.2.1 pc = .ok (.newarray .long, 2)) (hn : h.2.2.2 = some n) (hz : z = N) (hlt : N ≤ 60000000) (hcells : c0 + 1 ≤ R.cells) (hslots : s0 + N ≤ R.slots)
    (kk : (∀ k', 51 ≤ k' → (k', n) ∉ h.1) → YY G M R (pc + 2) lv (rf G (ak 3 N) n :: st) (nw h (ak 3 N) n) (c0 + 1) (s0 + N) Q) : YY G M R pc lv (.int (iI z) :: st) h c0 s0 Q :=
  o_newarr (atype := .long) (tag := 3) d (in_ctx 1297 (by decide +kernel) rfl) (by decide) rfl (fun U cA h => h) hn hz (by omega) (by decide) hlt (fun cA => by
    show arrV cA N (fun j : Nat => Value.long (lI ((zn h (ak 3 N) n).2.1 (ak 3 N) n j))) = _
    rw [zn_m]; rfl) hcells hslots kk
theorem o_anew {idx tag N : Nat} {z : Int} {C : String} (d : decode M.2.1 pc = .ok (.anewarray idx, 3)) (hlk : Cond.classLink M.1.cls idx C ∈ lw_ctx) (hover : ∀ s, xOh G s → va_AO C s) (htag : tag < 5) (ht : (xtys G)[tag + 5]? = some (G.2.1 (tag + 5), .object C)) (hn : h.2.2.2 = some n) (hz : z = N) (hlt : N ≤ 60000000) (hcells : c0 + 1 ≤ R.cells) (hslots : s0 + N ≤ R.slots)
    (kk : (∀ k', 51 ≤ k' → (k', n) ∉ h.1) → YY G M R (pc + 3) lv (rf G (ak (tag + 5) N) n :: st) (nw h (ak (tag + 5) N) n) (c0 + 1) (s0 + N) Q) : YY G M R pc lv (.int (iI z) :: st) h c0 s0 Q := by
  intro p l e s m args below meth c H locs ls hC hR hS hl
  have hts := hC.2.2.2.2.2.1
  have hK := hC.2.2.2.2.2.2.2.2.2.2.1.1
  have hsz := hR.2.2.2.2 _ hn
  have hnn : ¬ iI z < 0 := by
    rw [show (0 : Int32) = iI 0 from rfl, iI_lt (by unfold inI; omega) (by unfold inI; decide)]
    omega
  have hcl : (iI z).toNatClampNeg = N := cl_nat hz (by omega)
  have ho : va_AO C s := hover s hC.2.2.2.2.2.2.2.2.2.2.1.2.2.2.2
  refine W.anew hC.1 hC.2.1 hC.2.2.2.2.1 (hts _ hlk) (va_AO.use ho) rfl d rfl hnn (by rw [hcl]; omega) hcells (by rw [hcl]; exact hslots) fun cA kA comp f1 f2 f3 f4 => ?_
  have hcA : cA = G.2.1 (tag + 5) := by
    obtain ⟨kA', comp', g1, g2, g3, g4⟩ := (hK.2 (tag + 5) _ ht).2
    exact Option.some.inj (f1.symm.trans g4)
  subst hcA
  rw [hcl]
  generalize hH1 : H.push ({ cls := G.2.1 (tag + 5), slots := Array.replicate N .null, vm := .none } : Cell) = H1
  have z1 : H1.size = H.size + 1 := by rw [← hH1, Array.size_push]
  have e1 : H1[H.size]? = some (arrV (G.2.1 (tag + 5)) N (fun _ => .null)) := by rw [← hH1, Array.getElem?_push_size, ← arrV_new]
  have o1 : ∀ q : Nat, q < H.size → H1[q]? = H[q]? := fun q hq => by rw [← hH1, Array.getElem?_push, if_neg (Nat.ne_of_lt hq)]
  have hR1 : xR G (nw h (ak (tag + 5) N) n) H1 := by
    refine xR_nw hR hn ak_ge ?_ z1 o1
    rw [xcell_arr (shp_ak (by omega))]
    show H1[n]? = some (vp_cell (G.2.1 (tag + 5)) _)
    rw [← hsz, e1]
    show _ = some (arrV (G.2.1 (tag + 5)) N (fun j : Nat => va_rf (((zn h (ak (tag + 5) N) H.size).2.2.1 (ak (tag + 5) N) H.size j).map fun q => gad G q.1 q.2)))
    rw [zn_r]
    rfl
  have kk := kk (fun k' hk' => xR_fresh hR hn hk')
  rw [show rf G (ak (tag + 5) N) n = Value.ref H.size from by show Value.ref (gad G (ak (tag + 5) N) n) = _; rw [gad_hi ak_ge, hsz]] at kk
  exact kk p l e s m args below meth c H1 locs ls hC hR1 (va_S_push hS z1 o1) hl
theorem o_obj {idx : Nat} (d : decode M.2.1 pc = .ok (.invokespecial idx, 3)) (hlk : Cond.methodLink M.1.cls idx Lib.objectInit ∈ lw_ctx) (hinst : Cond.instanceMethod Lib.objectInit ∈ lw_ctx) (hcode : Cond.code Lib.objectInit ⟨#[0xb1]⟩ 1 none ∈ lw_ctx) (hst : (st.map fun v => v.category).sum ≤ 8) (hroom : 1 ≤ R.frames ∧ 28 ≤ R.locals)
    (kk : YY G M R (pc + 3) lv st h c0 s0 Q) : YY G M R pc lv (rf G k i :: st) h c0 s0 Q := by
  intro p l e s m args below meth c H locs ls hC hR hS hl
  have hts := hC.2.2.2.2.2.1
  refine W.objInit (g := F0 m pc ls (rf G k i :: st)) hC.1 hC.2.1 hC.2.2.2.2.1 (hts _ hlk) (hts _ hinst) (hts _ hcode) rfl (hl.1.trans hC.2.2.2.1.symm) rfl d hroom.1 ?_ (kk p l e s m args below meth c H locs ls hC hR hS hl)
  have := hroom.2
  show 2 * 0 + _ + 12 ≤ R.locals
  omega
/-- a reference stored in a field -/
theorem o_putR {idx ci j a b : Nat} {kds : List Nat} {ty : FieldType} (d : decode M.2.1 pc = .ok (.putfield idx, 3)) (fl : FLw M.1.cls idx ci j ty false) (hsh : shp k = .inr (ci, kds)) (hkd : kds[j]? = some 2) (hm : (k, i) ∈ h.1) (hn : narrow ty (rf G a b) = rf G a b) (hfit : fits ty (rf G a b) = true)
    (kk : YY G M R (pc + 3) lv st (rset h k i j (some (a, b))) c0 s0 Q) : YY G M R pc lv (rf G a b :: rf G k i :: st) h c0 s0 Q := by
  refine o_put (h1 := rset h k i j (some (a, b))) (j := j) (kd := 2) d fl hsh hkd hm hn hfit rfl rfl (fun _ _ q => rset_ne q) ?_ (fun j' hj kd' => rset_fo j' hj) kk
  show va_rf (((rset h k i j (some (a, b))).2.2.1 k i j).map fun q => gad G q.1 q.2) = rf G a b
  rw [rset_at]
  rfl
end ZN
