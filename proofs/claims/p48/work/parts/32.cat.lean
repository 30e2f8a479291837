/-! methods that catch -/
def xWW (M : Mth) (hh : List (Nat × Nat × Nat × Nat)) : List Cond := Cond.codeWith M.1 M.2.1 M.2.2.1 M.2.2.2.1 hh :: lw_ctx
def CtW (G : GG) (M : Mth) (hh : List (Nat × Nat × Nat × Nat)) (R : Room) (av : List Value) (h : Hp) (res : Res) (h' : Hp) : Prop :=
  Cond.codeWith M.1 M.2.1 M.2.2.1 M.2.2.2.1 hh ∈ lw_all ∧ ∀ l : Launch, l.stackTraces = false → vx_Met l M.1 (xWW M hh) R (xPc G av h) (xQ G res h') (xX G res h') R.cells R.slots (xA G)
section XCT
variable {G : GG} {M M' : Mth} {R R' : Room} {pc : Nat} {lv : List (Nat × Value)} {st : List Value} {h h' h1 : Hp} {c0 s0 : Nat} {res : Res} {k i : Nat}
theorem x_entryW {hh : List (Nat × Nat × Nat × Nat)} {av : List Value} (hy : plainName M.1.cls = true) (hw : Cond.codeWith M.1 M.2.1 M.2.2.1 M.2.2.2.1 hh ∈ lw_all) (ht : M.2.2.2.2 = tableOf hh) (hlen : (lg_sl av).length ≤ M.2.2.1) (kk : X G M R 0 (lv_args 0 av) [] h 0 0 res h') : CtW G M hh R av h res h' := by
  refine ⟨hw, fun l hst => ?_⟩
  refine vx_ofWH (cc := M.2.1) (maxL := M.2.2.1) (ret := M.2.2.2.1) (hh := hh) (ws' := lw_ctx) hy rfl ?_
  intro p e s m args below meth c s₁ B hml hv
  obtain ⟨rfl, hR, hK⟩ := hv
  have hts := atoms_spec (ws := xWW M hh) B.pre
  have hctx : ∀ w ∈ lw_ctx, w.before av.toArray s = true := fun w hw => hts w (List.mem_cons_of_mem _ hw)
  have hown : s.vm.findClass M.1.cls = some m.cls := findClass_of_methodNamed B.named
  have hnm : meth.name = M.1.name := (name_of_methodNamed B.named B.method).1
  have hl := lv_entry av (n := M.2.2.1) hlen
  rw [lg_entry_eq]
  exact kk p l e s m av.toArray below meth c s.heap [] _ ⟨B.exec, B.bytes, B.returns, hml, hown, hctx, B.notSynchronized, hst, hnm, by rw [ht]; exact vx_table (x := M.1) B (hts _ List.mem_cons_self), hK, hR.1⟩ hR va_S.rf hl
/-- a call whose exception this method catches -/
theorem x_callVC {stk : List Value} {idx n ci : Nat} {kds : List Nat} {q : vw_C} {E : String} (As : List Value) (d : decode M.2.1 pc = .ok (.invokevirtual idx, 3)) (hCt : Ct G M' R' (rf G k i :: As) h (.inr E) h1) (hL : LV M.1.cls idx M'.1 n) (hn : As.length = n) (hsh : shp k = .inr (ci, kds)) (hq : vwCl[ci]? = some q) (hcl : M'.1.cls = q.1) (hm : (k, i) ∈ h.1)
    (hroom : roomOk R R' c0 s0 M'.2.2.1 = true) (hst : (st.map fun v => v.category).sum ≤ 8) (hstk : stk = As.reverse ++ rf G k i :: st)
    (pre : List ExceptionTableEntry) (x : ExceptionTableEntry) (suf : List ExceptionTableEntry) (hsplit : M.2.2.2.2 = pre ++ x :: suf) (hpass : ∀ z ∈ pre, z.catchType ≠ 0 ∧ Cond.classLink M.1.cls z.catchType "java/lang/IndexOutOfBoundsException" ∈ lw_ctx ∧ E = "java/lang/IllegalArgumentException") (hx : covers x pc = true) (h0 : x.catchType ≠ 0) (hlink : Cond.classLink M.1.cls x.catchType E ∈ lw_ctx) (hE : E ∈ xCast)
    (kk : ∀ q : Nat, X G M R x.handlerPc lv [.ref q] h1 (c0 + R'.cells) (s0 + R'.slots) res h') : X G M R pc lv stk h c0 s0 res h' := by
  intro p l e s m args below meth c H locs ls hC hR hS hl
  obtain ⟨hrm1, hrm2, hrm3⟩ := roomOk_spec hroom
  have hts := hC.2.2.2.2.2.1
  have hKK := hC.2.2.2.2.2.2.2.2.2.2.1
  obtain ⟨pp, -, hw⟩ := xws_at (G := G) hm
  rw [xcell_obj hsh] at hw
  subst hstk
  refine x_backX (vx_runV (b := gad G k i) (C := M'.1.cls) (As := As) (rest := st) ⟨hC.1, hC.2.1, hC.2.2.2.1, hC.2.2.2.2.1, hts⟩ (hCt.2 l hC.2.2.2.2.2.2.2.1) ⟨callB_x hts hCt.1 hL.1 hL.2.2.2.1 hL.2.2.2.2 hrm1, hts _ hL.2.1, hts _ hL.2.2.1⟩ ⟨xPc_blind, ?_, fun U hU hW => ⟨rfl, by rw [hU]; exact hR, xK.warm hW hKK⟩⟩ rfl hn hl.1 rfl (lv_room hst) d ⟨hrm2, hrm3⟩) hR hS (fun H1 locs1 ce q hR1 hS1 hce hcv hcl => ?_)
  · rw [hcl]
    exact va_recv hKK.1 hR.2.2.1 hq hw
  · exact vx_catch (E := E) (name := E) hC.2.2.2.2.1 pre x suf (hC.2.2.2.2.2.2.2.2.2.1.trans hsplit) (fun z hz => Or.inr ⟨(hpass z hz).1, _, hts _ (hpass z hz).2.1, by rw [(hpass z hz).2.2]; exact hKK.2.2.2.2.2.2.2.2.2.1⟩) hx h0 (hts _ hlink) (va_Nw.use rfl (hKK.2.2.1.1 _ hE)) hce hcv hcl (kk q p l e s m args below meth c H1 locs1 ls hC hR1 hS1 hl)
theorem callW_x {s : State} {args : Array Value} {idx n : Nat} {hh : List (Nat × Nat × Nat × Nat)} (hts : ∀ w ∈ lw_ctx, w.before args s = true) (hcode : Cond.codeWith M'.1 M'.2.1 M'.2.2.1 M'.2.2.2.1 hh ∈ lw_all) (hL : LSt M.1.cls idx M'.1 n) (hrm : R'.frames + 1 ≤ R.frames ∧ 8 + (M'.2.2.1 + 11) + R'.locals ≤ R.locals) : vx_CSW R s args M.1.cls idx M'.1 M'.2.1 M'.2.2.1 M'.2.2.2.1 hh (xWW M' hh) R' R'.cells R'.slots n := by
  refine ⟨⟨rfl, rfl, hrm.1, hrm.2, ?_, List.mem_cons_self⟩, hts _ (all_ctx hcode), hts _ hL.2.2.1, ⟨hL.2.2.2.1, hL.2.2.2.2.1⟩, ml_n hL.2.2.2.2.2, hts _ hL.1, hts _ hL.2.1⟩
  intro w hw a' U hW
  have hw2 : w ∈ lw_ctx := (List.mem_cons.mp hw).elim (fun e => by rw [e]; exact all_ctx hcode) id
  exact word_at hW (good_of_word (ctx_good hw2)) (hts _ hw2)
theorem x_callSW {stk : List Value} {idx n : Nat} {hh : List (Nat × Nat × Nat × Nat)} {v : Option Value} (As : List Value) (d : decode M.2.1 pc = .ok (.invokestatic idx, 3)) (hCt : CtW G M' hh R' As h (.inl v) h1) (hL : LSt M.1.cls idx M'.1 n) (hn : As.length = n)
    (hroom : roomOk R R' c0 s0 M'.2.2.1 = true) (hst : (st.map fun v => v.category).sum ≤ 8) (hstk : stk = As.reverse ++ st) (kk : X G M R (pc + 3) lv (v.toList ++ st) h1 (c0 + R'.cells) (s0 + R'.slots) res h') : X G M R pc lv stk h c0 s0 res h' := by
  intro p l e s m args below meth c H locs ls hC hR hS hl
  obtain ⟨hrm1, hrm2, hrm3⟩ := roomOk_spec hroom
  have hts := hC.2.2.2.2.2.1
  have hKK := hC.2.2.2.2.2.2.2.2.2.2.1
  subst hstk
  exact x_back (vx_runSW (As := As) (rest := st) ⟨hC.1, hC.2.1, hC.2.2.2.1, hC.2.2.2.2.1, hts⟩ (met_of (hCt.2 l hC.2.2.2.2.2.2.2.1)) (callW_x hts hCt.1 hL hrm1) ⟨xPc_blind, fun U hU hW => ⟨rfl, by rw [hU]; exact hR, xK.warm hW hKK⟩⟩ rfl hn hl.1 rfl (lv_room hst) d ⟨hrm2, hrm3⟩) hR hS (fun H1 locs1 hR1 hS1 => kk p l e s m args below meth c H1 locs1 ls hC hR1 hS1 hl)
end XCT
