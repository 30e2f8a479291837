/-! the first memory, the start of the law -/
def m00 : Mem := fun _ _ _ => 0
def m28 : Mem := pkM m00
theorem m28_z {k i : Nat} {j : Int} (h1 : k ≠ 22) (h2 : k ≠ 27) : m28 k i j = 0 := by
  unfold m28 pkM plM up3 fiN m00
  simp only [h1, h2, false_and, if_false]
theorem ST_0 : SH m28 n0 0 ∧ RW m28 ∧ m28 34 0 5 = 0 ∧ m28 36 0 0 = 0 := by
  have z : ∀ k i : Nat, k ≠ 22 → k ≠ 27 → m28 k i = fun _ => 0 := fun k i a b => funext fun j => m28_z a b
  have c0 : m28 22 0 0 = 100 := by decide +kernel
  have c1 : m28 22 0 1 = 100 := by decide +kernel
  have c2 : m28 22 0 2 = 0 := by decide +kernel
  have c3 : m28 22 0 3 = 0 := by decide +kernel
  have c4 : m28 22 0 4 = 0 := by decide +kernel
  have c5 : m28 22 0 5 = 0 := by decide +kernel
  have c6 : m28 22 0 6 = 0 := by decide +kernel
  have r0 : n0 0 = 100 := by decide +kernel
  have r1 : n0 1 = 100 := by decide +kernel
  have r2 : n0 2 = 0 := by decide +kernel
  have r3 : n0 3 = 0 := by decide +kernel
  have r4 : n0 4 = 0 := by decide +kernel
  have r5 : n0 5 = 0 := by decide +kernel
  have r6 : n0 6 = 0 := by decide +kernel
  have r7 : n0 7 = 0 := by decide +kernel
  have r8 : n0 8 = 0 := by decide +kernel
  have r9 : n0 9 = 0 := by decide +kernel
  have r10 : n0 10 = 0 := by decide +kernel
  have r11 : n0 11 = 0 := by decide +kernel
  have r12 : n0 12 = 0 := by decide +kernel
  have r13 : n0 13 = 0 := by decide +kernel
  have z0 := z 0 0 (by decide) (by decide)
  have z1 := z 1 0 (by decide) (by decide)
  have z2 := z 2 0 (by decide) (by decide)
  have z34 := z 34 0 (by decide) (by decide)
  have z35 := z 35 0 (by decide) (by decide)
  have z36 := z 36 0 (by decide) (by decide)
  refine ⟨⟨⟨?_, ?_, ?_, ?_, ?_, ?_, ?_, ?_⟩, ?_, ?_⟩, ?_, ?_, ?_⟩
  · unfold BP
    rw [c0, c1, c2, c3, c4, c5, c6]
    refine ⟨by decide, by decide, by decide, by decide, by decide, by decide, by decide, ?_, ?_, ?_, ?_, ?_⟩
    · intro q h0 h1; omega
    · intro f h0 h1; omega
    · intro q h h0 h1; omega
    · intro a b h0 h1; omega
    · intro c h0 h1; omega
  · unfold BS
    rw [c2, c5, c6, z0, z1, z2]
    refine ⟨by decide, ?_, ?_, ⟨by decide, ?_⟩, ⟨by decide, ?_⟩, ?_⟩
    · intro q h0 h1; omega
    · intro q h0 h1; omega
    · intro q h0 h1; dsimp only at h1; omega
    · intro q h0 h1; dsimp only at h1; omega
    · intro q h0 h1; omega
  · unfold RP SU
    rw [c0, c1, c2, c3, c4, c5, c6, r0, r1, r3, r4, r5, r6, r8]
    refine ⟨by decide, ?_, ?_, ?_, ?_, ?_, by decide, by decide, ?_, ?_⟩
    · intro q h0 h1; omega
    · intro f h0 h1; omega
    · intro q h h0 h1; omega
    · intro a b h0 h1; omega
    · intro c h0 h1; omega
    · intro c h0 h1; omega
    · intro c h0 h1; omega
  · unfold RS R1 R2 R3 R4 R5 R6 R7
    rw [c2, c5, c6, r2, r7, r9, r10, r11, r12, r13, z0, z1, z2]
    refine ⟨⟨rfl, rfl, rfl, rfl, rfl, rfl, rfl⟩, ?_, ?_, ?_, ?_, ?_, ?_⟩
    · intro q h0 h1; omega
    · intro q h0 h1; omega
    · intro q h0 h1; omega
    · intro q h0 h1; dsimp only at h1; omega
    · intro q h0 h1; omega
    · intro q h0 h1; dsimp only at h1; omega
  · unfold R8
    rw [c5]
    intro c h0 h1; omega
  · unfold CE
    rw [c2, c5, z0]
    refine ⟨rfl, by decide, by decide, ?_⟩
    intro c h0 h1; omega
  · rw [z0]; decide
  · rw [z0]; decide
  · rw [z36]; decide
  · rw [z36]; decide
  · unfold RW
    rw [z34, z35]
    refine ⟨by decide, fun j _ _ => ?_, by decide⟩
    dsimp only; omega
  · rw [z34]
  · rw [z36]
def lsD : List (Nat × Nat) := pkD
def lsS : List (Nat × Nat × Nat) := pkS
def lsL : List (Nat × Nat) := (38, 0) :: pkL
theorem ls_1 : ∀ q ∈ dom0, q ∈ lsD := by decide +kernel
theorem ls_n : dom0.Nodup := by decide +kernel
theorem ls_2 : ∀ (a b : Nat) (q : Nat × Nat), dom0[a]? = some q → dom0[b]? = some q → a = b := by
  intro a b q ha hb
  obtain ⟨h1, e1⟩ := List.getElem?_eq_some_iff.mp ha
  obtain ⟨h2, e2⟩ := List.getElem?_eq_some_iff.mp hb
  have hp := List.pairwise_iff_getElem.mp ls_n
  rcases Nat.lt_trichotomy a b with h | h | h
  · exact absurd (e1.trans e2.symm) (hp a b h1 h2 h)
  · exact h
  · exact absurd (e2.trans e1.symm) (hp b a h2 h1 h)
theorem ls_16 {k i j : Nat} (h : jn k j = true) (h2 : (MR0 k i j).isSome = true) : j < 17 := by
  by_cases e37 : k = 37
  · subst e37
    have : j < 8 := of_decide_eq_true h
    omega
  · by_cases e39 : k = 39
    · subst e39
      have : j < 2 := of_decide_eq_true h
      omega
    · revert h2
      unfold MR0
      split <;> intro h2 <;> first | omega | (exfalso; revert h2; decide) | (exfalso; exact absurd rfl e37) | (exfalso; exact absurd rfl e39)
theorem ls_3b : (dom0.all fun q => (List.range 17).all fun j => !(MR0 q.1 q.2 j).isSome || (!jn q.1 j || decide ((q.1, q.2, j) ∈ lsS))) = true := by decide +kernel
theorem ls_3 (k i : Nat) (hm : (k, i) ∈ dom0) (j : Nat) (hj : j < 17) (h1 : (MR0 k i j).isSome = true) (h2 : jn k j = true) : (k, i, j) ∈ lsS := by
  have a := List.all_eq_true.mp (List.all_eq_true.mp ls_3b (k, i) hm) j (List.mem_range.mpr hj)
  dsimp only at a
  rw [h1, h2] at a
  exact of_decide_eq_true a
theorem ls_4 : ∀ k i, (k, i) ∈ dom0 → ∀ j, jn k j = true → rS lsS k i j = MR0 k i j := by
  intro k i hm j hj
  unfold rS
  by_cases g : (k, i, j) ∈ lsS
  · rw [if_pos g]
  · rw [if_neg g]
    cases hr : MR0 k i j with
    | none => rfl
    | some q =>
      have e : (MR0 k i j).isSome = true := by rw [hr]; rfl
      exact absurd (ls_3 k i hm j (ls_16 hj e) e hj) g
theorem FRe_0 : FRe [] m00 [] := ⟨fun _ _ _ h => (by cases h), fun _ _ _ _ => rfl⟩
theorem o_dom {G : GG} {M : Mth} {R : Room} {pc : Nat} {lv : List (Nat × Value)} {st : List Value} {c0 s0 : Nat} {Q : PP} {D : List (Nat × Nat)} {m : Mem} {S : List (Nat × Nat × Nat)} {n : Nat} (hd : ∀ q ∈ dom0, q ∈ D) (hnd : ∀ (a b : Nat) (q : Nat × Nat), dom0[a]? = some q → dom0[b]? = some q → a = b) (he : ∀ k i, (k, i) ∈ dom0 → ∀ j, jn k j = true → rS S k i j = MR0 k i j) (kk : YY G M R pc lv st (dom0, m, MR0, some n) c0 s0 Q) : YY G M R pc lv st (hN D m S n) c0 s0 Q := by
  intro p l e s m' args below meth c H locs ls hC hR hS hl
  have r := xR_dom hd hnd he hR
  exact kk p l e s m' args below meth c H locs ls hC ⟨r.1, r.2.1, r.2.2.1, r.2.2.2.1, fun x hx => hR.2.2.2.2 x hx⟩ hS hl
theorem o_newC {G : GG} {M : Mth} {R : Room} {pc : Nat} {lv : List (Nat × Value)} {st : List Value} {h : Hp} {c0 s0 : Nat} {Q : PP} {k i : Nat} {idx ci : Nat} {kds : List Nat} {q : vw_C} (d : decode M.2.1 pc = .ok (.new idx, 3)) (hlk : Cond.classLink M.1.cls idx q.1 ∈ lw_ctx) (hinst : Cond.instantiable q.1 q.2.2 ∈ lw_ctx) (hini : Cond.initialized q.1 ∈ lw_ctx) (hsh : shp k = .inr (ci, kds)) (hc : vwCl[ci]? = some q) (hn : h.2.2.2 = some (gad G k i))
    (ty : Nat → FieldType) (hty : ∀ j, j < q.2.2 → parseFieldDescriptor (q.2.1 j).2.2.1 = some (ty j)) (hfs : ∀ j, j < q.2.2 → defaultValue (ty j) = vp_V (xfs G h k i kds) j) (hcells : c0 + 1 ≤ R.cells) (hslots : s0 + q.2.2 ≤ R.slots)
    (kk : YY G M R (pc + 3) lv (rf G k i :: st) (h.1 ++ [(k, i)], h.2.1, h.2.2.1, some (gad G k i + 1)) (c0 + 1) (s0 + q.2.2) Q) : YY G M R pc lv st h c0 s0 Q := by
  intro p l e s m args below meth c H locs ls hC hR hS hl
  obtain ⟨hin, ⟨ty0, hty0⟩, hnm⟩ := cl_ok ci q hc
  have hts := hC.2.2.2.2.2.1
  have hK := hC.2.2.2.2.2.2.2.2.2.2.1.1
  have hsz := hR.2.2.2.2 _ hn
  have hKn := hK.1 ci _ hc
  refine W.newcK hC.1 hC.2.1 hC.2.2.2.2.1 (hts _ hlk) (hts _ hinst) (hts _ hini) rfl d hcells hslots hKn.2.1 rfl fun H1 kC hkC e1 z1 o1 => ?_
  have hk : ∀ (a : Nat) (x : Nat × va_E), (xws G h)[a]? = some x → H1[x.1]? = H[x.1]? := fun a x hx => o1 x.1 ((hR.2.2.1 a x hx).lt)
  have hP1 : va_P G.1 vwCl (xws G h ++ [(gad G k i, xcell G h k i)]) H1 := by
    refine (hR.2.2.1.kept hk).app (fun a x hx => ?_)
    have hz : a < 1 := (List.getElem?_eq_some_iff.mp hx).1
    rw [show a = 0 by omega] at hx
    cases hx
    rw [xcell_obj hsh, ← hsz]
    exact ⟨_, hc, (u_born ty hts hin hKn hkC e1 hty).to hfs⟩
  have hD1 : va_D (xA G) (xws G h ++ [(gad G k i, xcell G h k i)]) := hR.2.2.2.1.push hR.2.2.1 hsz.symm (.inl (by show gB G ≤ gad G k i; have := hR.1; omega))
  have hR1 := xR_push hR hn hP1 hD1 z1 o1
  rw [show Value.ref H.size = rf G k i from by rw [hsz]]
  exact kk p l e s m args below meth c H1 locs ls hC hR1 ⟨Nat.le_trans hS.1 (by omega), fun x h1 h2 => (o1 x (Nat.lt_of_lt_of_le h1 hS.1)).trans (hS.2.1 x h1 h2), hS.2.2⟩ hl
theorem CI_0 {n : Nat} : CI (dom0, m28, MR0, some n) := ⟨⟨fun q hq => hq, fun q hq _ => hq, fun k _ => rfl⟩, ST_0.1, ST_0.2.1, ST_0.2.2.1, ST_0.2.2.2, ⟨n, rfl⟩⟩
theorem ls_28 {G : GG} (hL : gV G 21 ≤ 300) (ha : HA G (gB G) lsL) : YY G ML_law room_1 0 [(0, .ref (gV G 20))] [] (hN [] m00 [] (gB G)) 0 0 (fun v _ => v = some (.int (iI 1))) := by
  have f0 : FRe [(38, 0)] m00 [] := FRe_0.dd [(38, 0)]
  have hap : HA G (gB G + 1) pkL := ha.sub 1 (by decide +kernel)
  have hg := ha.get 0 (38, 0) (by decide +kernel)
  refine o_newC (pc := 0) (k := 38) (i := 0) (q := vwQ11) dL_law_0 clL_19 (in_ctx 37 (by decide +kernel) rfl) (in_ctx 1 (by decide +kernel) rfl) rfl rfl (congrArg some hg.symm) (tyq vwQ11) (fun j hj => (nf_11 j hj).1) (fun j hj => by rw [xfs_new FRe_0 (by decide)]; exact (nf_11 j hj).2) (by decide) (by decide) ?_
  rw [hg]
  refine o_dup (pc := 3) dL_law_3 rfl ?_
  have hc4 := Cy.ofCt (ct_Packu (G := G) (m := m00) (n := gB G + 1) f0 hap)
  refine o_callI (pc := 4) [] dL_law_4 hc4 lkL_355 rfl rfl ⟨⟨(Nat.le_of_ble_eq_true rfl), (Nat.le_of_ble_eq_true rfl)⟩, (Nat.le_of_ble_eq_true rfl), (Nat.le_of_ble_eq_true rfl)⟩ (Nat.le_of_ble_eq_true rfl) rfl (fun v h1 hq => ?_)
  obtain ⟨rfl, rfl⟩ := hq
  refine o_astore_n (pc := 7) (lv' := [(1, _), (0, _)]) dL_law_7 rfl (by decide) rfl ?_
  refine o_dom (D := lsD) (m := m28) (S := lsS) ls_1 ls_2 ls_4 ?_
  exact o_lv [1, 0] rfl (lw_8 hL CI_0 (by decide) (by decide))
