/-! classes asked, a nest mate's field, calls of inherited and of super's methods -/
section Y6
variable {G : GG} {M M' : Mth} {R R' : Room} {pc : Nat} {lv : List (Nat × Value)} {st : List Value} {h h1 : Hp} {c0 s0 : Nat} {Q P1 : PP} {k i n : Nat}
theorem o_ldcM {idx : Nat} (d : decode M.2.1 pc = .ok (.ldc idx, 2)) (hL : Cond.classLink M.1.cls idx "[Ljava/lang/Object;" ∈ lw_ctx) (kk : YY G M R (pc + 2) lv (.ref (gV G 18) :: st) h c0 s0 Q) : YY G M R pc lv st h c0 s0 Q := by
  intro p l e s m args below meth cc H locs ls hC hR hS hl
  exact va_ldcM hC.1 hC.2.1 hC.2.2.2.2.1 (hC.2.2.2.2.2.1 _ hL) (xC_l hC).2.2.2.2.2.2.2.1 d (kk p l e s m args below meth cc H locs ls hC hR hS hl)
theorem o_getC {idx N : Nat} (d : decode M.2.1 pc = .ok (.invokevirtual idx, 3)) (hL : Cond.methodLink M.1.cls idx ⟨"java/lang/Object", "getClass", "()Ljava/lang/Class;"⟩ ∈ lw_ctx) (hx : (k, i) ∈ h.1 ∧ k = ak 7 N ∨ k = ak 7 0 ∧ i = gV G 15) (hf : 1 ≤ R.frames) (hlo : (st.map fun v => v.category).sum + 14 ≤ R.locals) (kk : YY G M R (pc + 3) lv (.ref (gV G 18) :: st) h c0 s0 Q) : YY G M R pc lv (rf G k i :: st) h c0 s0 Q := by
  intro p l e s m args below meth cc H locs ls hC hR hS hl
  have hts := hC.2.2.2.2.2.1
  have hKK := hC.2.2.2.2.2.2.2.2.2.2.1
  have hc : ∃ cell : Cell, H[gad G k i]? = some cell ∧ cell.vm.isStatics = false ∧ s.vm.findClass "[Ljava/lang/Object;" = some cell.cls := by
    rcases hx with ⟨hm, rfl⟩ | ⟨rfl, rfl⟩
    · have hat := xR_at hR hm
      rw [xcell_arr (shp_ak (by decide))] at hat
      obtain ⟨kA, comp, k1, k2, k3, k4⟩ := (hKK.1.2 7 _ rfl).2
      exact ⟨_, hat, rfl, k4⟩
    · rw [gad_hi ak_ge]
      obtain ⟨cell, g1, g2, g3, g4⟩ := (xC_l hC).2.2.1.kept (xS_old hC hR hS)
      refine ⟨cell, ?_, g2, g3⟩
      have hlt : gV G 15 < s.heap.size := (Array.getElem?_eq_some_iff.mp g1).1
      rw [hS.2.1 _ hlt g4]
      exact g1
  exact va_getC hC.1 hC.2.1 (hC.2.2.2.1.trans hl.1.symm) hC.2.2.2.2.1 (hts _ hL) (va_Dc.use (xC_l hC).2.2.2.2.2.2.2.2.1) (hts _ (in_ctx 1783 (by decide +kernel) rfl)) (hts _ (in_ctx 907 (by decide +kernel) rfl)) (hts _ (in_ctx 928 (by decide +kernel) rfl)) (xC_l hC).2.2.2.2.2.2.2.1 hc hf hlo d (kk p l e s m args below meth cc H locs ls hC hR hS hl)
/-- the size of a list, read by its iterator -/
theorem o_getSize {z : Int} (hM : M.1.cls = "java/util/ArrayList$Itr") (d : decode M.2.1 pc = .ok (.getfield 28, 3)) (hm : (56, i) ∈ h.1) (e : h.2.1 56 i 2 = z) (kk : YY G M R (pc + 3) lv (.int (iI z) :: st) h c0 s0 Q) : YY G M R pc lv (rf G 56 i :: st) h c0 s0 Q := by
  intro p l e' s m args below meth cc H locs ls hC hR hS hl
  have hts := hC.2.2.2.2.2.1
  have hKK := hC.2.2.2.2.2.2.2.2.2.2.1
  obtain ⟨pp, -, hw⟩ := xws_at (G := G) hm
  rw [xcell_obj (show shp 56 = .inr (3, [0, 2, 0]) from rfl)] at hw
  have hn := (xC_l hC).2.2.2.2.2.2.2.2.2.2.2.2.2
  have hc : vwCl[3]? = some (RJx4a65c, TJx4a65c, 3) := rfl
  subst e
  exact va_getN (own := M.1.cls) (ref := "java/util/ArrayList") (host := "java/util/ArrayList") hC.1 hC.2.1 hts (cl_ok 3 _ hc).1 hC.2.2.2.2.1 hKK.1 hR.2.2.1 pp hw hc 2 (by decide) (by rw [hM]; exact va_Nw.use rfl hn) (fun _ h9 => h9) (xfs_at (kds := [0, 2, 0]) (j := 2) (kd := 0) rfl) d (kk p l e' s m args below meth cc H locs ls hC hR hS hl)
/-- a virtual call of a method that the receiver's class inherits, or that overrides the named one: x the named one, M'.1 the one that runs -/
def LU (own C : String) (idx : Nat) (x y : MethodName) (n : Nat) : Prop := Cond.methodLink own idx x ∈ lw_ctx ∧ Cond.sameMethod x.cls x.cls x.name x.desc ∈ lw_ctx ∧ Cond.instanceMethod x ∈ lw_ctx ∧ (∃ b0 m0 r0, Cond.code x b0 m0 r0 ∈ lw_ctx) ∧ Cond.selects C x y ∈ lw_ctx ∧ Cond.instanceMethod y ∈ lw_ctx ∧ Cond.initialized y.cls ∈ lw_ctx ∧ x.cls ≠ "java/lang/invoke/MethodHandle" ∧ x.cls ≠ "java/lang/invoke/VarHandle" ∧ (parseMethodDescriptor x.desc).map (fun d => d.parameters.length) = some n
theorem o_callU {stk : List Value} {idx n ci : Nat} {kds : List Nat} {q : vw_C} {x : MethodName} (As : List Value) (d : decode M.2.1 pc = .ok (.invokevirtual idx, 3)) (hCt : Cy G M' R' (rf G k i :: As) h P1) (hL : LU M.1.cls q.1 idx x M'.1 n) (hn : As.length = n) (hsh : shp k = .inr (ci, kds)) (hq : vwCl[ci]? = some q) (hm : (k, i) ∈ h.1)
    (hroom : rmC R R' c0 s0 M'.2.2.1) (hst : (st.map fun v => v.category).sum ≤ 8) (hstk : stk = As.reverse ++ rf G k i :: st) (kk : ∀ v h1, P1 v h1 → YY G M R (pc + 3) lv (v.toList ++ st) h1 (c0 + R'.cells) (s0 + R'.slots) Q) : YY G M R pc lv stk h c0 s0 Q := by
  intro p l e s m args below meth c H locs ls hC hR hS hl
  obtain ⟨hrm1, hrm2⟩ := hroom
  have hts := hC.2.2.2.2.2.1
  have hKK := hC.2.2.2.2.2.2.2.2.2.2.1
  obtain ⟨pp, -, hw⟩ := xws_at (G := G) hm
  rw [xcell_obj hsh] at hw
  subst hstk
  obtain ⟨l1, l2, l3, ⟨b0, m0, r0, l4⟩, l5, l6, l7, l8, l9, l10⟩ := hL
  have hcw : va_CU R s args M.1.cls q.1 x.cls idx x M'.1 M'.2.1 M'.2.2.1 M'.2.2.2.1 (xW M') R' R'.cells R'.slots n := ⟨⟨rfl, rfl, hrm1.1, hrm1.2, x_good hts hCt.1, List.mem_cons_self⟩, hts _ (all_ctx hCt.1), hts _ l7, ⟨l8, l9⟩, ml_n l10, hts _ l1, hts _ l2, va_Decl.of (hts _ l3) (hts _ l4), hts _ l5, hts _ l6⟩
  exact o_back (va_runU (b := gad G k i) (C := q.1) (owner := x.cls) (As := As) (rest := st) ⟨hC.1, hC.2.1, hC.2.2.2.1, hC.2.2.2.2.1, hts⟩ (metY (hCt.2 l hC.2.2.2.2.2.2.2.1)) hcw ⟨xPc_blind, va_recv hKK.1 hR.2.2.1 hq hw, fun U hU hW => ⟨rfl, by rw [hU]; exact hR, xK.warm hW hKK⟩⟩ rfl hn hl.1 rfl (lv_room hst) d hrm2) hR hS (fun v h1 H1 locs1 hq1 hR1 hS1 => kk v h1 hq1 p l e s m args below meth c H1 locs1 ls hC hR1 hS1 hl)
/-- a private method of a super class, called on an object of the class below: the class's own selection goes there -/
def LPv (own C : String) (idx : Nat) (y : MethodName) (n : Nat) : Prop := Cond.methodLink own idx y ∈ lw_ctx ∧ Cond.instanceMethod y ∈ lw_ctx ∧ Cond.selects C y y ∈ lw_ctx ∧ Cond.initialized y.cls ∈ lw_ctx ∧ y.cls ≠ "java/lang/invoke/MethodHandle" ∧ y.cls ≠ "java/lang/invoke/VarHandle" ∧ (parseMethodDescriptor y.desc).map (fun d => d.parameters.length) = some n
theorem o_callP {stk : List Value} {idx n ci : Nat} {kds : List Nat} {q : vw_C} (As : List Value) (d : decode M.2.1 pc = .ok (.invokevirtual idx, 3)) (hCt : Cy G M' R' (rf G k i :: As) h P1) (hL : LPv M.1.cls q.1 idx M'.1 n) (hn : As.length = n) (hsh : shp k = .inr (ci, kds)) (hq : vwCl[ci]? = some q) (hm : (k, i) ∈ h.1)
    (hroom : rmC R R' c0 s0 M'.2.2.1) (hst : (st.map fun v => v.category).sum ≤ 8) (hstk : stk = As.reverse ++ rf G k i :: st) (kk : ∀ v h1, P1 v h1 → YY G M R (pc + 3) lv (v.toList ++ st) h1 (c0 + R'.cells) (s0 + R'.slots) Q) : YY G M R pc lv stk h c0 s0 Q := by
  intro p l e s m args below meth c H locs ls hC hR hS hl
  obtain ⟨hrm1, hrm2⟩ := hroom
  have hts := hC.2.2.2.2.2.1
  have hKK := hC.2.2.2.2.2.2.2.2.2.2.1
  obtain ⟨pp, -, hw⟩ := xws_at (G := G) hm
  rw [xcell_obj hsh] at hw
  subst hstk
  obtain ⟨l1, l2, l3, l6, l7, l8, l9⟩ := hL
  exact o_back (va_runV (b := gad G k i) (C := q.1) (As := As) (rest := st) ⟨hC.1, hC.2.1, hC.2.2.2.1, hC.2.2.2.2.1, hts⟩ (metY (hCt.2 l hC.2.2.2.2.2.2.2.1)) ⟨callB_o hts hCt.1 l1 l6 ⟨l7, l8, l9⟩ hrm1, hts _ l2, hts _ l3⟩ ⟨xPc_blind, va_recv hKK.1 hR.2.2.1 hq hw, fun U hU hW => ⟨rfl, by rw [hU]; exact hR, xK.warm hW hKK⟩⟩ rfl hn hl.1 rfl (lv_room hst) d hrm2) hR hS (fun v h1 H1 locs1 hq1 hR1 hS1 => kk v h1 hq1 p l e s m args below meth c H1 locs1 ls hC hR1 hS1 hl)
/-- super.m(..) -/
def LSu (own : String) (idx : Nat) (y : MethodName) (n : Nat) : Prop := Cond.methodLink own idx y ∈ lw_ctx ∧ Cond.sameMethod y.cls y.cls y.name y.desc ∈ lw_ctx ∧ Cond.superclass own y.cls ∈ lw_ctx ∧ Cond.instanceMethod y ∈ lw_ctx ∧ Cond.initialized y.cls ∈ lw_ctx ∧ y.name ≠ "<init>" ∧ (parseMethodDescriptor y.desc).map (fun d => d.parameters.length) = some n
theorem o_callSu {stk : List Value} {idx n ci : Nat} {kds : List Nat} {q : vw_C} (As : List Value) (d : decode M.2.1 pc = .ok (.invokespecial idx, 3)) (hCt : Cy G M' R' (rf G k i :: As) h P1) (hL : LSu M.1.cls idx M'.1 n) (hn : As.length = n) (hsh : shp k = .inr (ci, kds)) (hq : vwCl[ci]? = some q) (hm : (k, i) ∈ h.1)
    (hroom : rmC R R' c0 s0 M'.2.2.1) (hst : (st.map fun v => v.category).sum ≤ 8) (hstk : stk = As.reverse ++ rf G k i :: st) (kk : ∀ v h1, P1 v h1 → YY G M R (pc + 3) lv (v.toList ++ st) h1 (c0 + R'.cells) (s0 + R'.slots) Q) : YY G M R pc lv stk h c0 s0 Q := by
  intro p l e s m args below meth c H locs ls hC hR hS hl
  obtain ⟨hrm1, hrm2⟩ := hroom
  have hts := hC.2.2.2.2.2.1
  have hKK := hC.2.2.2.2.2.2.2.2.2.2.1
  obtain ⟨pp, -, hw⟩ := xws_at (G := G) hm
  rw [xcell_obj hsh] at hw
  subst hstk
  obtain ⟨l1, l2, l3, l4, l5, l6, l7⟩ := hL
  exact o_back (va_runSU (b := gad G k i) (C := q.1) (As := As) (rest := st) (hKK.1.1 ci q hq).2 ⟨hC.1, hC.2.1, hC.2.2.2.1, hC.2.2.2.2.1, hts⟩ (metY (hCt.2 l hC.2.2.2.2.2.2.2.1)) ⟨⟨rfl, rfl, hrm1.1, hrm1.2, x_good hts hCt.1, List.mem_cons_self⟩, hts _ l1, hts _ l2, hts _ l3, hts _ l4, hts _ l5, hts _ (all_ctx hCt.1), l6, ml_n l7⟩ ⟨xPc_blind, va_recv hKK.1 hR.2.2.1 hq hw, fun U hU hW => ⟨rfl, by rw [hU]; exact hR, xK.warm hW hKK⟩⟩ rfl hn hl.1 rfl (lv_room hst) d hrm2) hR hS (fun v h1 H1 locs1 hq1 hR1 hS1 => kk v h1 hq1 p l e s m args below meth c H1 locs1 ls hC hR1 hS1 hl)
/-- a call on a text of the old heap -/
theorem o_callT {stk : List Value} {idx n : Nat} (t : Nat) (ht : t < 15) (As : List Value) (d : decode M.2.1 pc = .ok (.invokevirtual idx, 3)) (hCt : Cy G M' R' (.ref (gK G t) :: As) h P1) (hL : LV M.1.cls idx M'.1 n) (hn : As.length = n) (hcl : M'.1.cls = "java/lang/String")
    (hroom : rmC R R' c0 s0 M'.2.2.1) (hst : (st.map fun v => v.category).sum ≤ 8) (hstk : stk = As.reverse ++ .ref (gK G t) :: st) (kk : ∀ v h1, P1 v h1 → YY G M R (pc + 3) lv (v.toList ++ st) h1 (c0 + R'.cells) (s0 + R'.slots) Q) : YY G M R pc lv stk h c0 s0 Q := by
  intro p l e s m args below meth c H locs ls hC hR hS hl
  obtain ⟨hrm1, hrm2⟩ := hroom
  have hts := hC.2.2.2.2.2.1
  have hKK := hC.2.2.2.2.2.2.2.2.2.2.1
  subst hstk
  refine o_back (va_runV (b := gK G t) (C := M'.1.cls) (As := As) (rest := st) ⟨hC.1, hC.2.1, hC.2.2.2.1, hC.2.2.2.2.1, hts⟩ (metY (hCt.2 l hC.2.2.2.2.2.2.2.1)) ⟨callB_o hts hCt.1 hL.1 hL.2.2.2.1 hL.2.2.2.2 hrm1, hts _ hL.2.1, hts _ hL.2.2.1⟩ ⟨xPc_blind, ?_, fun U hU hW => ⟨rfl, by rw [hU]; exact hR, xK.warm hW hKK⟩⟩ rfl hn hl.1 rfl (lv_room hst) d hrm2) hR hS (fun v h1 H1 locs1 hq1 hR1 hS1 => kk v h1 hq1 p l e s m args below meth c H1 locs1 ls hC hR1 hS1 hl)
  rw [hcl]
  exact vk_recv (xS_vk hC hR hS) ht hS
end Y6
