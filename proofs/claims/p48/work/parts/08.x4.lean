section XK
variable {G : GG} {M M' : Mth} {R R' : Room} {pc : Nat} {lv lv' : List (Nat × Value)} {st : List Value} {h h' h1 : Hp} {c0 s0 : Nat} {res : Res} {k i : Nat}
theorem x_bast {n : Nat} {z v : Int} (d : decode M.2.1 pc = .ok (.bastore, 1)) (hsh : shp k = .inl (1, n)) (hm : (k, i) ∈ h.1) (a : Nat) (hz : z = a) (ha : a < n) (hv : -128 ≤ v ∧ v < 128) (kk : X G M R (pc + 1) lv st (hset h k i a v) c0 s0 res h') (hn : n < 2147483648 := by decide) : X G M R pc lv (.int (iI v) :: .int (iI z) :: rf G k i :: st) h c0 s0 res h' := by
  intro p l e s m args below meth c H locs ls hC hR hS hl
  have hat := xR_at hR hm
  rw [xcell_arr hsh] at hat
  have hcl := cl_nat hz (show a < 2147483648 by omega)
  have hvb : (iI v).toInt8.toInt32 = iI v := by rw [iI_b]; congr 1; unfold bI; omega
  refine W.bast hC.1 hC.2.1 hat ((hC.2.2.2.2.2.2.2.2.2.2.1.1.2 1 _ rfl).1 n (fun j : Nat => .int (iI (h.2.1 k i j)))) (fun q => by cases q) (by show ¬ (_ < 0 ∨ (arrV _ _ _).slots.size ≤ _); rw [arrV_size]; exact in_nat hz ha hn) rfl rfl d fun H1 eH z' oq => ?_
  refine kk p l e s m args below meth c H1 _ ls hC (xR_store hR hm rfl rfl (fun _ _ q => hset_ne q) ?_ z' oq) (hS.put z' oq (xR_ge hR hm)) hl
  rw [xcell_arr hsh]
  show H1[gad G k i]? = some (vp_cell _ _)
  rw [eH]
  show some _ = some (vp_cell (G.2.1 1) (n, Sum.inl fun j : Nat => iI (up3 h.2.1 k i a v k i j)))
  rw [vp_cell_i]
  show some _ = _
  rw [show vp_cell (G.2.1 1) (n, xcont G h.2.1 h.2.2.1 k i 1) = arrV (G.2.1 1) n (fun j : Nat => .int (iI (h.2.1 k i j))) from rfl, arrV_store, hcl]
  congr 2
  funext q
  by_cases hq : q = a
  · subst hq
    simp only [updV, up3_at, if_true]
    show narrow .byte (.int (iI v)) = _
    show Value.int (iI v).toInt8.toInt32 = _
    rw [hvb]
  · have hq2 : ((q : Nat) : Int) ≠ (a : Int) := by omega
    simp [updV, up3_off hq2, hq]
theorem x_zast {n : Nat} {z v : Int} (d : decode M.2.1 pc = .ok (.bastore, 1)) (hsh : shp k = .inl (2, n)) (hm : (k, i) ∈ h.1) (a : Nat) (hz : z = a) (ha : a < n) (hv : v = 0 ∨ v = 1) (kk : X G M R (pc + 1) lv st (hset h k i a v) c0 s0 res h') (hn : n < 2147483648 := by decide) : X G M R pc lv (.int (iI v) :: .int (iI z) :: rf G k i :: st) h c0 s0 res h' := by
  intro p l e s m args below meth c H locs ls hC hR hS hl
  have hat := xR_at hR hm
  rw [xcell_arr hsh] at hat
  have hcl := cl_nat hz (show a < 2147483648 by omega)
  have hvb : narrow .boolean (.int (iI v)) = .int (iI v) := by rcases hv with rfl | rfl <;> rfl
  refine W.zast hC.1 hC.2.1 hat ((hC.2.2.2.2.2.2.2.2.2.2.1.1.2 2 _ rfl).1 n (fun j : Nat => .int (iI (h.2.1 k i j)))) (fun q => by cases q) (by show ¬ (_ < 0 ∨ (arrV _ _ _).slots.size ≤ _); rw [arrV_size]; exact in_nat hz ha hn) rfl rfl d fun H1 eH z' oq => ?_
  refine kk p l e s m args below meth c H1 _ ls hC (xR_store hR hm rfl rfl (fun _ _ q => hset_ne q) ?_ z' oq) (hS.put z' oq (xR_ge hR hm)) hl
  rw [xcell_arr hsh]
  show H1[gad G k i]? = some (vp_cell _ _)
  rw [eH]
  show some _ = some (vp_cell (G.2.1 2) (n, Sum.inl fun j : Nat => iI (up3 h.2.1 k i a v k i j)))
  rw [vp_cell_i]
  show some _ = _
  rw [show vp_cell (G.2.1 2) (n, xcont G h.2.1 h.2.2.1 k i 2) = arrV (G.2.1 2) n (fun j : Nat => .int (iI (h.2.1 k i j))) from rfl, arrV_store, hcl]
  congr 2
  funext q
  by_cases hq : q = a
  · subst hq
    simp only [updV, up3_at, if_true]
    exact hvb
  · have hq2 : ((q : Nat) : Int) ≠ (a : Int) := by omega
    simp [updV, up3_off hq2, hq]
theorem x_last {n : Nat} {z v : Int} (d : decode M.2.1 pc = .ok (.lastore, 1)) (hsh : shp k = .inl (3, n)) (hm : (k, i) ∈ h.1) (a : Nat) (hz : z = a) (ha : a < n) (kk : X G M R (pc + 1) lv st (hset h k i a v) c0 s0 res h') (hn : n < 2147483648 := by decide) : X G M R pc lv (.long (lI v) :: .int (iI z) :: rf G k i :: st) h c0 s0 res h' := by
  intro p l e s m args below meth c H locs ls hC hR hS hl
  have hat := xR_at hR hm
  rw [xcell_arr hsh] at hat
  have hcl := cl_nat hz (show a < 2147483648 by omega)
  refine W.last hC.1 hC.2.1 hat ((hC.2.2.2.2.2.2.2.2.2.2.1.1.2 3 _ rfl).1 n (fun j : Nat => .long (lI (h.2.1 k i j)))) (fun q => by cases q) (by show ¬ (_ < 0 ∨ (arrV _ _ _).slots.size ≤ _); rw [arrV_size]; exact in_nat hz ha hn) rfl rfl d fun H1 eH z' oq => ?_
  refine kk p l e s m args below meth c H1 _ ls hC (xR_store hR hm rfl rfl (fun _ _ q => hset_ne q) ?_ z' oq) (hS.put z' oq (xR_ge hR hm)) hl
  rw [xcell_arr hsh]
  show H1[gad G k i]? = some (vp_cell _ _)
  rw [eH]
  show some _ = some (vp_cell (G.2.1 3) (n, Sum.inr (Sum.inl fun j : Nat => lI (up3 h.2.1 k i a v k i j))))
  rw [vp_cell_l]
  show some _ = _
  rw [show vp_cell (G.2.1 3) (n, xcont G h.2.1 h.2.2.1 k i 3) = arrV (G.2.1 3) n (fun j : Nat => .long (lI (h.2.1 k i j))) from rfl, arrV_store, hcl]
  congr 2
  funext q
  by_cases hq : q = a
  · subst hq; simp [updV, up3_at]
  · have hq2 : ((q : Nat) : Int) ≠ (a : Int) := by omega
    simp [updV, up3_off hq2, hq]
/-- Math's own -/
def LM (own : String) (idx : Nat) (y : MethodName) (code : ByteArray) (ml : Nat) (ret : Option FieldType) : Prop := Cond.methodLink own idx y ∈ lw_ctx ∧ Cond.static y ∈ lw_ctx ∧ Cond.initialized "java/lang/Math" ∈ lw_ctx ∧ Cond.code y code ml ret ∈ lw_ctx
theorem x_max {idx : Nat} {a b : Int} (d : decode M.2.1 pc = .ok (.invokestatic idx, 3)) (hL : LM M.1.cls idx Lib.Math.max.name Lib.Math.max.code 2 (some .int)) (ha : inI a) (hb : inI b) (hf : 1 ≤ R.frames) (hlo : (st.map fun v => v.category).sum + 13 ≤ R.locals) (hc : c0 ≤ R.cells) (hs : s0 ≤ R.slots) (kk : X G M R (pc + 3) lv (.int (iI (max a b)) :: st) h c0 s0 res h') : X G M R pc lv (.int (iI b) :: .int (iI a) :: st) h c0 s0 res h' := by
  intro p l e s m args below meth c H locs ls hC hR hS hl
  have hts := hC.2.2.2.2.2.1
  refine va_mmax hC.1 hC.2.1 (hC.2.2.2.1.trans hl.1.symm) hC.2.2.2.2.1 (hts _ hL.1) (hts _ hL.2.1) (hts _ hL.2.2.1) (hts _ hL.2.2.2) hf hlo hc hs d ?_
  rw [show (if iI a < iI b then iI b else iI a) = iI (max a b) by
    by_cases q : a < b
    · rw [if_pos ((iI_lt ha hb).mpr q)]; congr 1; omega
    · rw [if_neg (fun z => q ((iI_lt ha hb).mp z))]; congr 1; omega]
  exact kk p l e s m args below meth c H locs ls hC hR hS hl
theorem x_min {idx : Nat} {a b : Int} (d : decode M.2.1 pc = .ok (.invokestatic idx, 3)) (hL : LM M.1.cls idx Lib.Math.min.name Lib.Math.min.code 2 (some .int)) (ha : inI a) (hb : inI b) (hf : 1 ≤ R.frames) (hlo : (st.map fun v => v.category).sum + 13 ≤ R.locals) (hc : c0 ≤ R.cells) (hs : s0 ≤ R.slots) (kk : X G M R (pc + 3) lv (.int (iI (min a b)) :: st) h c0 s0 res h') : X G M R pc lv (.int (iI b) :: .int (iI a) :: st) h c0 s0 res h' := by
  intro p l e s m args below meth c H locs ls hC hR hS hl
  have hts := hC.2.2.2.2.2.1
  refine va_mmin hC.1 hC.2.1 (hC.2.2.2.1.trans hl.1.symm) hC.2.2.2.2.1 (hts _ hL.1) (hts _ hL.2.1) (hts _ hL.2.2.1) (hts _ hL.2.2.2) hf hlo hc hs d ?_
  rw [show (if iI b < iI a then iI b else iI a) = iI (min a b) by
    by_cases q : b < a
    · rw [if_pos ((iI_lt hb ha).mpr q)]; congr 1; omega
    · rw [if_neg (fun z => q ((iI_lt hb ha).mp z))]; congr 1; omega]
  exact kk p l e s m args below meth c H locs ls hC hR hS hl
theorem x_minl {idx : Nat} {a b : Int} (d : decode M.2.1 pc = .ok (.invokestatic idx, 3)) (hL : LM M.1.cls idx Lib.MathLoose.min_long.x Lib.MathLoose.min_long.code 4 (some .long)) (ha : inL a) (hb : inL b) (hf : 1 ≤ R.frames) (hlo : (st.map fun v => v.category).sum + 15 ≤ R.locals) (hc : c0 ≤ R.cells) (hs : s0 ≤ R.slots) (kk : X G M R (pc + 3) lv (.long (lI (min a b)) :: st) h c0 s0 res h') : X G M R pc lv (.long (lI b) :: .long (lI a) :: st) h c0 s0 res h' := by
  intro p l e s m args below meth c H locs ls hC hR hS hl
  have hts := hC.2.2.2.2.2.1
  refine va_mmin_long hC.1 hC.2.1 (hC.2.2.2.1.trans hl.1.symm) hC.2.2.2.2.1 (hts _ hL.1) (hts _ hL.2.1) (hts _ hL.2.2.1) (hts _ hL.2.2.2) hf hlo hc hs d ?_
  rw [show (if lI b < lI a then lI b else lI a) = lI (min a b) by
    by_cases q : b < a
    · rw [if_pos ((lI_lt hb ha).mpr q)]; congr 1; omega
    · rw [if_neg (fun z => q ((lI_lt hb ha).mp z))]; congr 1; omega]
  exact kk p l e s m args below meth c H locs ls hC hR hS hl
/-- contracts: from the memory h, with these arguments, the method comes to this end, with the memory h' -/
def xW (M : Mth) : List Cond := Cond.code M.1 M.2.1 M.2.2.1 M.2.2.2.1 :: lw_ctx
def xPc (G : GG) (av : List Value) (h : Hp) : Array Value → State → Prop := fun v U => v = av.toArray ∧ xR G h U.heap ∧ xK G U
def Ct (G : GG) (M : Mth) (R : Room) (av : List Value) (h : Hp) (res : Res) (h' : Hp) : Prop :=
  Cond.code M.1 M.2.1 M.2.2.1 M.2.2.2.1 ∈ lw_all ∧ ∀ l : Launch, l.stackTraces = false → vx_Met l M.1 (xW M) R (xPc G av h) (xQ G res h') (xX G res h') R.cells R.slots (xA G)
theorem ctx_good {w : Cond} (hw : w ∈ lw_ctx) : goodWord w = true := by
  rcases List.mem_append.mp hw with h | h
  · rcases List.mem_append.mp h with h | h
    · obtain ⟨q, -, rfl⟩ := List.mem_map.mp h
      rfl
    · obtain ⟨q, -, rfl⟩ := List.mem_map.mp h
      rfl
  · exact (List.mem_filter.mp h).2
theorem x_entry {av : List Value} (hy : plainName M.1.cls = true) (hw : Cond.code M.1 M.2.1 M.2.2.1 M.2.2.2.1 ∈ lw_all) (ht : M.2.2.2.2 = []) (hlen : (lg_sl av).length ≤ M.2.2.1) (kk : X G M R 0 (lv_args 0 av) [] h 0 0 res h') : Ct G M R av h res h' := by
  refine ⟨hw, fun l hst => ?_⟩
  refine vx_ofW (cc := M.2.1) (maxL := M.2.2.1) (ret := M.2.2.2.1) (ws' := lw_ctx) hy rfl ?_
  intro p e s m args below meth c s₁ B hml hno hv
  obtain ⟨rfl, hR, hK⟩ := hv
  have hts := atoms_spec (ws := xW M) B.pre
  have hctx : ∀ w ∈ lw_ctx, w.before av.toArray s = true := fun w hw => hts w (List.mem_cons_of_mem _ hw)
  have hown : s.vm.findClass M.1.cls = some m.cls := findClass_of_methodNamed B.named
  have hnm : meth.name = M.1.name := (name_of_methodNamed B.named B.method).1
  have hl := lv_entry av (n := M.2.2.1) hlen
  rw [lg_entry_eq]
  exact kk p l e s m av.toArray below meth c s.heap [] _ ⟨B.exec, B.bytes, B.returns, hml, hown, hctx, B.notSynchronized, hst, hnm, by rw [ht]; exact List.eq_nil_iff_forall_not_mem.mpr hno, hK, hR.1⟩ hR va_S.rf hl
theorem met_of {l : Launch} {y : MethodName} {ws : List Cond} {rm : Room} {Pc : Array Value → State → Prop} {v : Option Value} {mc ms : Nat} {free : Addr → Prop} (hM : vx_Met l y ws rm Pc (xQ G (.inl v) h') (xX G (.inl v) h') mc ms free) : Met l y ws rm Pc (xQ G (.inl v) h') mc ms free := by
  intro p e ha hf hc s m args below g1 g2 g3 g4
  obtain ⟨n, o, a, b, c, d⟩ := hM p e ha hf hc s m args below g1 g2 g3 g4
  rcases d with ⟨d1, d2⟩ | ⟨q, -, E, ce, L, hx, -⟩
  · exact ⟨n, o, a, b, c, d1, d2⟩
  · exact absurd hx id
theorem xOl.moved {s U : State} (hW : s.vm.Alike U.vm) (hN : ∀ w, va_Nw w s → (∃ a b, w = .castable a b) ∨ (∃ a b c d e f, w = .fieldLinkNest a b c d e f) → va_Nw w U) (h : xOl G s) : xOl G U := ⟨va_Z.moved hW h.1, va_T.moved hW h.2.1, va_O.moved hW h.2.2.1, va_Z.moved hW h.2.2.2.1, va_T.moved hW h.2.2.2.2.1, va_Z.moved hW h.2.2.2.2.2.1, va_T.moved hW h.2.2.2.2.2.2.1, va_Mi.moved hW h.2.2.2.2.2.2.2.1, va_Dc.moved hW h.2.2.2.2.2.2.2.2.1, fun q hq => hN _ (h.2.2.2.2.2.2.2.2.2.1 q hq) (.inl ⟨_, _, rfl⟩), va_Fw.moved ⟨by decide, by decide⟩ hW h.2.2.2.2.2.2.2.2.2.2.1, va_Fw.moved ⟨by decide, by decide⟩ hW h.2.2.2.2.2.2.2.2.2.2.2.1, va_Fw.moved ⟨by decide, by decide⟩ hW h.2.2.2.2.2.2.2.2.2.2.2.2.1, hN _ h.2.2.2.2.2.2.2.2.2.2.2.2.2 (.inr ⟨_, _, _, _, _, _, rfl⟩)⟩
theorem xOh.moved {s U : State} (hW : s.vm.Alike U.vm) (hN : ∀ w, va_Nw w s → (∃ a b, w = .castable a b) ∨ (∃ a b c d e f, w = .fieldLinkNest a b c d e f) → va_Nw w U) (h : xOh G s) : xOh G U := ⟨vx_Zq.moved hW h.1, vx_Zq.moved hW h.2.1, va_Z.moved hW h.2.2.1, va_Zq.moved hW h.2.2.2.1, vk_S.moved hW h.2.2.2.2.1, va_Nc.moved hW h.2.2.2.2.2.1, va_X.moved hW h.2.2.2.2.2.2.1, h.2.2.2.2.2.2.2.1, va_AO.moved hW h.2.2.2.2.2.2.2.2.1, va_AO.moved hW h.2.2.2.2.2.2.2.2.2.1, va_AO.moved hW h.2.2.2.2.2.2.2.2.2.2.1, va_AO.moved hW h.2.2.2.2.2.2.2.2.2.2.2.1, xOl.moved hW hN h.2.2.2.2.2.2.2.2.2.2.2.2⟩
theorem xO.warm {s U : State} (hW : s.WarmedH U.vm) (hO : xO G s) : xO G U := ⟨fun q hq => va_Nw.warmM hW (hO.1 q hq), ⟨fun q hq => va_Nw.warmC hW (hO.2.1.1 q hq), fun q hq => va_Nw.warmD hW (hO.2.1.2 q hq)⟩, fun q hq => vk_R.warm hW (hO.2.2.1 q hq), xOh.moved hW.alike (fun w hw hq => by
  rcases hq with ⟨a, b, rfl⟩ | ⟨a, b, c, d, e, f, rfl⟩
  · exact va_Nw.warmC hW hw
  · exact va_Nw.warmF hW hw) hO.2.2.2⟩
theorem xK.warm {s U : State} (hW : s.WarmedH U.vm) (hK : xK G s) : xK G U := ⟨va_K.moved hW.alike hK.1, xO.warm hW hK.2⟩
theorem xO.same {s U : State} (hW : s.vm = U.vm) (hO : xO G s) : xO G U := ⟨fun q hq => va_Nw.same rfl hW (hO.1 q hq), ⟨fun q hq => va_Nw.same rfl hW (hO.2.1.1 q hq), fun q hq => va_Nw.same rfl hW (hO.2.1.2 q hq)⟩, fun q hq => vk_R.same hW.symm (hO.2.2.1 q hq), xOh.moved (by rw [← hW]; exact Vm.Alike.refl s.vm) (fun w hw hq => by
  rcases hq with ⟨a, b, rfl⟩ | ⟨a, b, c, d, e, f, rfl⟩
  · exact va_Nw.same rfl hW hw
  · exact va_Nw.same rfl hW hw) hO.2.2.2⟩
theorem xPc_blind {av : List Value} : FrameBlind (xPc G av h) := by
  intro a U g mk q
  obtain ⟨q1, q2, q3, q4⟩ := q
  exact ⟨q1, q2, va_K.moved (u := U) (U := U.calling g mk a) (Vm.Alike.refl U.vm) q3, xO.same rfl q4⟩
/-- behind a call that has come back -/
theorem x_back {p : Program} {l : Launch} {e : Env} {s : State} {m : MethodId} {args : Array Value} {below : List Frame} {meth : Method} {c : Code} {H : Heap} {locs : List Loc} {ls : Array Slot} {v : Option Value} {mc ms : Nat} {st0 : List Value} {a : Array Value} {Q : State → Prop}
    (hr : va_Run p l e R s m args below meth c H locs c0 s0 mc ms (F0 m pc ls st0) st (xQ G (.inl v) h1 a) (xA G)) (hR : xR G h H) (hS : va_S (xA G) s.heap H locs)
    (kk : ∀ (H1 : Heap) (locs1 : List Loc), xR G h1 H1 → va_S (xA G) s.heap H1 locs1 → W p l e R s m args below meth c H1 locs1 (c0 + mc) (s0 + ms) Q (F0 m (pc + 3) ls (v.toList ++ st))) : W p l e R s m args below meth c H locs c0 s0 Q (F0 m pc ls st0) := by
  intro T hT X
  obtain ⟨v', st₀, t, T', L, -, X', hL, e1, e2, ⟨hv, hR1⟩, hgo⟩ := hr T hT X
  cases hv
  have hs2 : s.heap.size ≤ T'.heap.size := X'.same.2.1
  have hS1 : va_S (xA G) s.heap T'.heap (locs ++ L) := by
    refine ⟨hs2, fun q h1 h2 => ?_, fun q hq => ?_⟩
    · rw [e1, hR1.2.1 q h2, ← hR.2.1 q h2]
      exact hS.2.1 q h1 h2
    · rcases List.mem_append.mp hq with z | z
      · exact hS.2.2 q z
      · exact hL q z
  obtain ⟨t2, a1, b1⟩ := kk T'.heap (locs ++ L) (by rw [e1]; exact hR1) hS1 T' rfl X'
  exact ⟨t2, hgo t2 a1, b1⟩
def roomOk (R R' : Room) (c0 s0 ml : Nat) : Bool := Nat.ble (R'.frames + 1) R.frames && Nat.ble (8 + (ml + 11) + R'.locals) R.locals && Nat.ble (c0 + R'.cells) R.cells && Nat.ble (s0 + R'.slots) R.slots
theorem roomOk_spec {ml : Nat} (hr : roomOk R R' c0 s0 ml = true) : (R'.frames + 1 ≤ R.frames ∧ 8 + (ml + 11) + R'.locals ≤ R.locals) ∧ c0 + R'.cells ≤ R.cells ∧ s0 + R'.slots ≤ R.slots := by
  simp only [roomOk, Bool.and_eq_true] at hr
  exact ⟨⟨Nat.le_of_ble_eq_true hr.1.1.1, Nat.le_of_ble_eq_true hr.1.1.2⟩, Nat.le_of_ble_eq_true hr.1.2, Nat.le_of_ble_eq_true hr.2⟩
def LV (own : String) (idx : Nat) (y : MethodName) (n : Nat) : Prop := Cond.methodLink own idx y ∈ lw_ctx ∧ Cond.instanceMethod y ∈ lw_ctx ∧ Cond.selects y.cls y y ∈ lw_ctx ∧ Cond.initialized y.cls ∈ lw_ctx ∧ y.cls ≠ "java/lang/invoke/MethodHandle" ∧ y.cls ≠ "java/lang/invoke/VarHandle" ∧ (parseMethodDescriptor y.desc).map (fun d => d.parameters.length) = some n
def LSt (own : String) (idx : Nat) (y : MethodName) (n : Nat) : Prop := Cond.methodLink own idx y ∈ lw_ctx ∧ Cond.static y ∈ lw_ctx ∧ Cond.initialized y.cls ∈ lw_ctx ∧ y.cls ≠ "java/lang/invoke/MethodHandle" ∧ y.cls ≠ "java/lang/invoke/VarHandle" ∧ (parseMethodDescriptor y.desc).map (fun d => d.parameters.length) = some n
def LSN (own : String) (idx : Nat) (y : MethodName) (host : String) (n : Nat) : Prop := (own, idx, y, host) ∈ xNest ∧ Cond.static y ∈ lw_ctx ∧ Cond.initialized y.cls ∈ lw_ctx ∧ y.cls ≠ "java/lang/invoke/MethodHandle" ∧ y.cls ≠ "java/lang/invoke/VarHandle" ∧ (parseMethodDescriptor y.desc).map (fun d => d.parameters.length) = some n
def LI (own : String) (idx : Nat) (y : MethodName) (n : Nat) : Prop := Cond.methodLink own idx y ∈ lw_ctx ∧ y.name = "<init>" ∧ Cond.instanceMethod y ∈ lw_ctx ∧ Cond.initialized y.cls ∈ lw_ctx ∧ y.cls ≠ "java/lang/invoke/MethodHandle" ∧ y.cls ≠ "java/lang/invoke/VarHandle" ∧ (parseMethodDescriptor y.desc).map (fun d => d.parameters.length) = some n
def LIN (own : String) (idx : Nat) (y : MethodName) (host : String) (n : Nat) : Prop := (own, idx, y, host) ∈ xNest ∧ y.name = "<init>" ∧ Cond.instanceMethod y ∈ lw_ctx ∧ Cond.initialized y.cls ∈ lw_ctx ∧ y.cls ≠ "java/lang/invoke/MethodHandle" ∧ y.cls ≠ "java/lang/invoke/VarHandle" ∧ (parseMethodDescriptor y.desc).map (fun d => d.parameters.length) = some n
theorem ml_n {y : MethodName} {n : Nat} (hd : (parseMethodDescriptor y.desc).map (fun d => d.parameters.length) = some n) : ∀ sig, parseMethodDescriptor y.desc = some sig → n = sig.parameters.length := fun sig hs => by
  rw [hs] at hd
  exact (Option.some.inj hd).symm
theorem x_good {args : Array Value} {s : State} {M' : Mth} (hctx : ∀ w ∈ lw_ctx, w.before args s = true) (hcode : Cond.code M'.1 M'.2.1 M'.2.2.1 M'.2.2.2.1 ∈ lw_all) : ∀ w ∈ xW M', ∀ (a' : Array Value) (U : State), s.WarmedH U.vm → w.before a' U = true := by
  intro w hw a' U hW
  have hw1 : w ∈ lw_ctx := by
    rcases List.mem_cons.mp hw with rfl | hw
    · exact all_ctx hcode
    · exact hw
  exact word_at hW (good_of_word (ctx_good hw1)) (hctx w hw1)
theorem callB_x {args : Array Value} {s : State} {idx n : Nat} (hctx : ∀ w ∈ lw_ctx, w.before args s = true) (hcode : Cond.code M'.1 M'.2.1 M'.2.2.1 M'.2.2.2.1 ∈ lw_all) (hl : Cond.methodLink M.1.cls idx M'.1 ∈ lw_ctx) (hini : Cond.initialized M'.1.cls ∈ lw_ctx) (hd : M'.1.cls ≠ "java/lang/invoke/MethodHandle" ∧ M'.1.cls ≠ "java/lang/invoke/VarHandle" ∧ (parseMethodDescriptor M'.1.desc).map (fun d => d.parameters.length) = some n)
    (hR : R'.frames + 1 ≤ R.frames ∧ 8 + (M'.2.2.1 + 11) + R'.locals ≤ R.locals) : CallB R s args M.1.cls idx M'.1 M'.2.1 M'.2.2.1 M'.2.2.2.1 (xW M') R' R'.cells R'.slots n :=
  ⟨rfl, rfl, hR.1, hR.2, x_good hctx hcode, List.mem_cons_self, hctx _ (all_ctx hcode), hctx _ hini, ⟨hd.1, hd.2.1⟩, ml_n hd.2.2, hctx _ hl⟩
theorem va_toRun {p : Program} {l : Launch} {e : Env} {s : State} {m : MethodId} {args : Array Value} {below : List Frame} {meth : Method} {c : Code} {H : Heap} {locs : List Loc} {mc ms : Nat} {g : JFrame} {rest : List Value} {Qa : State → Outcome → State → Prop} {free : Addr → Prop}
    (hr : va_Run p l e R s m args below meth c H locs c0 s0 mc ms g rest Qa free) : va_Run p l e R s m args below meth c H locs c0 s0 mc ms g rest Qa free := hr
end XK
