/-! throwing: 'throw new E()' in a method of the class -/
def xNm : List String := ["java/lang/RuntimeException", "java/lang/Exception"]
abbrev iaE : String := "java/lang/IllegalArgumentException"
abbrev ioE : String := "java/lang/IndexOutOfBoundsException"
def xB (cls : String) : List Cond := [.castable cls cls, .declares ⟨"java/lang/RuntimeException", "<init>", "()V"⟩, .declares ⟨"java/lang/Exception", "<init>", "()V"⟩, .declares ⟨"java/lang/Throwable", "<init>", "()V"⟩]
theorem thr_e1 : (vx_at0 "PackLoans" 325 iaE xNm).filter goodWord = [15, 1165, 1174, 1177, 1180, 1182, 1166, 1167, 42, 43, 1168, 1173, 1178, 1195, 1155, 1196, 1157, 1197, 1159, 1169, 1171, 1161, 1184, 1185, 1186, 1187, 1187, 1188, 1189, 1190, 1190, 1191, 1192, 1166, 1183, 1144, 1152, 1153, 1154, 1156, 1158, 1160, 1164, 1163, 1162].filterMap (fun i => tables_1[i]?) := by decide +kernel
theorem thr_e2 : (vx_at0 "PackLoans" 322 ioE xNm).filter goodWord = [15, 1165, 1174, 1177, 1180, 1182, 1166, 1167, 42, 43, 1168, 1173, 1178, 1195, 1155, 1196, 1157, 1197, 1159, 1169, 1171, 1161, 1241, 1242, 1243, 1187, 1187, 1188, 1189, 1190, 1190, 1191, 1192, 1166, 1240, 1232, 1234, 1176, 1235, 1236, 1237, 1238, 1164, 1163, 1239].filterMap (fun i => tables_1[i]?) := by decide +kernel
theorem thr_in {L : List Cond} {ps : List Nat} (e : L.filter goodWord = ps.filterMap (fun i => tables_1[i]?)) : ∀ w ∈ L.filter goodWord, w ∈ lw_ctx := by
  intro w hw
  have hg := (List.mem_filter.mp hw).2
  rw [e] at hw
  obtain ⟨i, -, hi⟩ := List.mem_filterMap.mp hw
  exact List.mem_append_right _ (List.mem_filter.mpr ⟨List.mem_of_getElem? hi, hg⟩)
/-- what the class links of an exception that it makes and throws -/
def Thr (own : String) (ik ic : Nat) (cls : String) : Prop := Bundle.fit cls = true ∧ Cond.classLink own ik cls ∈ lw_ctx ∧ Cond.initialized cls ∈ lw_ctx ∧ (∀ w ∈ (vx_at0 own ic cls xNm).filter goodWord, w ∈ lw_ctx) ∧ (∀ w ∈ (vx_at0 own ic cls xNm).filter (fun w => !goodWord w), w ∈ xB cls) ∧ (∀ w ∈ vx_at0 own ic cls xNm, vx_ot w = true) ∧ cls ∈ xCast
theorem all_b {α : Type} {l : List α} {f : α → Bool} (h : l.all f = true) : ∀ w ∈ l, f w = true := List.all_eq_true.mp h
theorem thr_b {l : List Cond} {B : List Cond} (h : l.all (fun w => decide (w ∈ B)) = true) : ∀ w ∈ l, w ∈ B := fun w hw => of_decide_eq_true (List.all_eq_true.mp h w hw)
theorem thr1 : Thr "PackLoans" 323 325 iaE := ⟨by decide +kernel, in_ctx 1143 (by decide +kernel) rfl, in_ctx 18 (by decide +kernel) rfl, thr_in thr_e1, thr_b (by decide +kernel), all_b (by decide +kernel), by decide⟩
theorem thr2 : Thr "PackLoans" 320 322 ioE := ⟨by decide +kernel, in_ctx 1231 (by decide +kernel) rfl, in_ctx 21 (by decide +kernel) rfl, thr_in thr_e2, thr_b (by decide +kernel), all_b (by decide +kernel), by decide⟩
section XT
variable {G : GG} {M : Mth} {R : Room} {pc : Nat} {lv : List (Nat × Value)} {st : List Value} {h : Hp} {c0 s0 : Nat}
theorem xR.ext {H H1 : Heap} (hR : xR G h H) (hn : h.2.2.2 = none) (hs : H.size ≤ H1.size) (hq : ∀ q : Nat, q < H.size → H1[q]? = H[q]?) : xR G h H1 := by
  obtain ⟨r1, r2, r3, r4, r5⟩ := hR
  refine ⟨Nat.le_trans r1 hs, fun q h1 => (hq q (Nat.lt_of_lt_of_le (Nat.lt_of_not_le fun z => h1 (.inl z)) r1)).trans (r2 q h1), r3.kept (fun k q hk => hq q.1 (r3 k q hk).lt), r4, fun n e => ?_⟩
  rw [hn] at e
  cases e
theorem x_throw {ik ic : Nat} {cls : String} (hT : Thr M.1.cls ik ic cls) (d0 : decode M.2.1 pc = .ok (.new ik, 3)) (d3 : decode M.2.1 (pc + 3) = .ok (.dup, 1)) (d4 : decode M.2.1 (pc + 4) = .ok (.invokespecial ic, 3)) (d7 : decode M.2.1 (pc + 7) = .ok (.athrow, 1)) (hx : M.2.2.2.2 = []) (hn : h.2.2.2 = none)
    (hf : 6 ≤ R.frames) (hl : (st.map fun v => v.category).sum + 81 ≤ R.locals) (hc : c0 + 1 ≤ R.cells) (hs : s0 + 6 ≤ R.slots) : X G M R pc lv st h c0 s0 (.inr cls) h := by
  intro p l e s m args below meth c H locs ls hC hR hS hlv
  obtain ⟨t1, t2, t3, t4, t5, t6, t7⟩ := hT
  obtain ⟨a1, a2, a3, a4, a5, a6, a7, a8, a9, a10, a11, a12⟩ := hC
  have hO := a11.2
  have hold : ∀ a : Nat, a < (gH G).size → ¬ xA G a → s.heap[a]? = (gH G)[a]? := fun a h1 h2 => by
    have h3 : a < gB G := h1
    rw [← hR.2.1 a h2]
    exact (hS.2.1 a (Nat.lt_of_lt_of_le h3 a12) h2).symm
  have hB : ∀ w ∈ xB cls, w.before args s = true := vx_c (va_Nw.use rfl (hO.2.1.1 _ t7)) (vx_c (va_Nw.use rfl (hO.2.1.2 _ (by decide))) (vx_c (va_Nw.use rfl (hO.2.1.2 _ (by decide))) (vx_c (va_Nw.use rfl (hO.2.1.2 _ (by decide))) vx_n)))
  refine vx_throw0 (p := p) (names := xNm) (A := xA G) (R := R) a1 a2 a8 a5 t1 (by decide +kernel) (a6 _ t2) (a6 _ t3) (vx_hat (fun w hw => a6 w (t4 w hw)) t5 hB) ?_ (hO.2.2.2.1.kept hold) (hO.2.2.2.2.1.kept hold) hS (hlv.1.trans a4.symm) d0 d3 d4 d7 ?_ (by show 2 + 3 < R.frames; omega) (by show _ + (13 * (2 + 1) + 42) ≤ _; omega) hc hs a7 ?_ (fun z hz => hS.2.2 z hz) hc hs
  · intro w hw
    rcases List.mem_cons.mp hw with e | hw
    · rw [e]; rfl
    · rcases List.mem_cons.mp hw with e | hw
      · rw [e]; rfl
      · exact t6 w hw
  · intro x hx2
    rw [a10, hx] at hx2
    cases hx2
  · intro t _ h2 h3
    exact ⟨rfl, hR.ext hn h2 h3⟩
end XT
section XTC
variable {G : GG} {M M' : Mth} {R R' : Room} {pc : Nat} {lv : List (Nat × Value)} {st : List Value} {h h1 : Hp} {c0 s0 : Nat}
theorem x_backX {p : Program} {l : Launch} {e : Env} {s : State} {m : MethodId} {args : Array Value} {below : List Frame} {meth : Method} {c : Code} {H : Heap} {locs : List Loc} {ls : Array Slot} {E : String} {mc ms : Nat} {st0 : List Value} {a : Array Value} {Q : State → Prop}
    (hr : vx_Run p l e R s m args below meth c H locs c0 s0 mc ms (F0 m pc ls st0) st (xQ G (.inr E) h1 a) (xX G (.inr E) h1) (xA G)) (hR : xR G h H) (hS : va_S (xA G) s.heap H locs)
    (kk : ∀ (H1 : Heap) (locs1 : List Loc) (ce : Cell) (q : Addr), xR G h1 H1 → va_S (xA G) s.heap H1 locs1 → H1[q]? = some ce → ce.vm = .none → s.vm.findClass E = some ce.cls → vx_W p l e R s m args below meth c H1 locs1 (c0 + mc) (s0 + ms) Q (F0 m pc ls st) q) : W p l e R s m args below meth c H locs c0 s0 Q (F0 m pc ls st0) := by
  intro T hT X
  rcases hr T hT X with ⟨v, st₀, t, T', L, h0, X', hL, e1, e2, hq, go⟩ | ⟨q, st₀, t, T', L, E', ce, h0, X', hL, e1, e2, ⟨hE, hR1⟩, hce, hcv, hcl, go⟩
  · exact absurd hq id
  · subst hE
    have hs2 : s.heap.size ≤ T'.heap.size := X'.same.2.1
    have hS1 : va_S (xA G) s.heap T'.heap (locs ++ L) := by
      refine ⟨hs2, fun q h1 h2 => ?_, fun q hq => ?_⟩
      · rw [e1, hR1.2.1 q h2, ← hR.2.1 q h2]
        exact hS.2.1 q h1 h2
      · rcases List.mem_append.mp hq with z | z
        · exact hS.2.2 q z
        · exact hL q z
    obtain ⟨t2, a1, b1⟩ := kk T'.heap (locs ++ L) ce q (by rw [e1]; exact hR1) hS1 (by rw [e1]; exact hce) hcv hcl T' rfl X'
    exact ⟨t2, go.trans a1, b1⟩
theorem x_callSX {stk : List Value} {idx n : Nat} {E : String} (As : List Value) (d : decode M.2.1 pc = .ok (.invokestatic idx, 3)) (hCt : Ct G M' R' As h (.inr E) h1) (hL : LSt M.1.cls idx M'.1 n) (hx : M.2.2.2.2 = []) (hn : As.length = n)
    (hroom : roomOk R R' c0 s0 M'.2.2.1 = true) (hst : (st.map fun v => v.category).sum ≤ 8) (hstk : stk = As.reverse ++ st) : X G M R pc lv stk h c0 s0 (.inr E) h1 := by
  intro p l e s m args below meth c H locs ls hC hR hS hl
  obtain ⟨hrm1, hrm2, hrm3⟩ := roomOk_spec hroom
  have hts := hC.2.2.2.2.2.1
  have hKK := hC.2.2.2.2.2.2.2.2.2.2.1
  subst hstk
  refine x_backX (vx_runS (As := As) (rest := st) ⟨hC.1, hC.2.1, hC.2.2.2.1, hC.2.2.2.2.1, hts⟩ (hCt.2 l hC.2.2.2.2.2.2.2.1) ⟨callB_x hts hCt.1 hL.1 hL.2.2.1 hL.2.2.2 hrm1, hts _ hL.2.1⟩ ⟨xPc_blind, fun U hU hW => ⟨rfl, by rw [hU]; exact hR, xK.warm hW hKK⟩⟩ rfl hn hl.1 rfl (lv_room hst) d ⟨hrm2, hrm3⟩) hR hS (fun H1 locs1 ce q hR1 hS1 hce hcv hcl => ?_)
  refine vx_out (E := E) ?_ hC.2.2.2.2.2.2.1 hce hcv hcl (fun t ht _ => ⟨rfl, by rw [ht]; exact hR1⟩) (fun z hz => hS1.2.2 z hz) hrm2 hrm3
  intro x hx2
  rw [hC.2.2.2.2.2.2.2.2.2.1, hx] at hx2
  cases hx2
end XTC
/-- rooms of methods that throw -/
def rmE (d : Nat) : Room := { frames := 6 + d, cells := 1, slots := 6, locals := 81 + 39 * d }
