/-! throwing: 'throw new E()' in a method of the class -/
def xNm : List String := ["java/lang/RuntimeException", "java/lang/Exception"]
abbrev iaE : String := "java/lang/IllegalArgumentException"
abbrev ioE : String := "java/lang/IndexOutOfBoundsException"
def xB (cls : String) : List Cond := [.castable cls cls, .declares ⟨"java/lang/RuntimeException", "<init>", "()V"⟩, .declares ⟨"java/lang/Exception", "<init>", "()V"⟩, .declares ⟨"java/lang/Throwable", "<init>", "()V"⟩]
theorem thr_e1 : (vx_at0 "PackLoans" 325 iaE xNm).filter goodWord = [17, 664, 673, 676, 679, 681, 665, 666, 28, 29, 667, 672, 677, 693, 654, 694, 656, 695, 658, 668, 670, 660, 683, 684, 685, 686, 686, 687, 688, 689, 689, 690, 691, 665, 682, 643, 651, 652, 653, 655, 657, 659, 663, 662, 661].filterMap (fun i => tables_1[i]?) := by decide +kernel
theorem thr_e2 : (vx_at0 "PackLoans" 322 ioE xNm).filter goodWord = [17, 664, 673, 676, 679, 681, 665, 666, 28, 29, 667, 672, 677, 693, 654, 694, 656, 695, 658, 668, 670, 660, 733, 734, 735, 686, 686, 687, 688, 689, 689, 690, 691, 665, 732, 724, 726, 675, 727, 728, 729, 730, 663, 662, 731].filterMap (fun i => tables_1[i]?) := by decide +kernel
theorem thr_in {L : List Cond} {ps : List Nat} (e : L.filter goodWord = ps.filterMap (fun i => tables_1[i]?)) : ∀ w ∈ L.filter goodWord, w ∈ lw_ctx := by
  intro w hw
  have hg := (List.mem_filter.mp hw).2
  rw [e] at hw
  obtain ⟨i, -, hi⟩ := List.mem_filterMap.mp hw
  exact List.mem_append_right _ (List.mem_filter.mpr ⟨List.mem_of_getElem? hi, hg⟩)
/-- what the class links of an exception that it makes and throws -/
def Thr (own : String) (ik ic : Nat) (cls : String) : Prop := Bundle.fit cls = true ∧ Cond.classLink own ik cls ∈ lw_ctx ∧ Cond.initialized cls ∈ lw_ctx ∧ (∀ w ∈ (vx_at0 own ic cls xNm).filter goodWord, w ∈ lw_ctx) ∧ (∀ w ∈ (vx_at0 own ic cls xNm).filter (fun w => !goodWord w), w ∈ xB cls) ∧ (∀ w ∈ vx_at0 own ic cls xNm, vx_ot w = true) ∧ cls ∈ xCast
theorem all_b {α : Type} {l : List α} {f : α → Bool} (h : l.all f = true) : ∀ w ∈ l, f w = true := List.all_eq_true.mp h
theorem thr_b {l : List Cond} {B : List Cond} (h : l.all (fun w => decide (w ∈ B)) = true) : ∀ w ∈ l, w ∈ B := fun w hw => of_decide_eq_true (List.all_eq_true.mp h w hw)
theorem thr1 : Thr "PackLoans" 323 325 iaE := ⟨by decide +kernel, in_ctx 642 (by decide +kernel) rfl, in_ctx 20 (by decide +kernel) rfl, thr_in thr_e1, thr_b (by decide +kernel), all_b (by decide +kernel), by decide⟩
theorem thr2 : Thr "PackLoans" 320 322 ioE := ⟨by decide +kernel, in_ctx 723 (by decide +kernel) rfl, in_ctx 21 (by decide +kernel) rfl, thr_in thr_e2, thr_b (by decide +kernel), all_b (by decide +kernel), by decide⟩
section XT
variable {G : GG} {M : Mth} {R : Room} {pc : Nat} {lv : List (Nat × Value)} {st : List Value} {h : Hp} {c0 s0 : Nat}
theorem xR.ext {H H1 : Heap} (hR : xR G h H) (hn : h.2.2.2 = none) (hs : H.size ≤ H1.size) (hq : ∀ q : Nat, q < H.size → H1[q]? = H[q]?) : xR G h H1 := by
  obtain ⟨r1, r2, r3, r4, r5⟩ := hR
  refine ⟨Nat.le_trans r1 hs, fun q h1 => (hq q (Nat.lt_of_lt_of_le h1 r1)).trans (r2 q h1), r3.kept (fun k q hk => hq q.1 (r3 k q hk).lt), r4, fun n e => ?_⟩
  rw [hn] at e
  cases e
theorem x_throw {ik ic : Nat} {cls : String} (hT : Thr M.1.cls ik ic cls) (d0 : decode M.2.1 pc = .ok (.new ik, 3)) (d3 : decode M.2.1 (pc + 3) = .ok (.dup, 1)) (d4 : decode M.2.1 (pc + 4) = .ok (.invokespecial ic, 3)) (d7 : decode M.2.1 (pc + 7) = .ok (.athrow, 1)) (hx : M.2.2.2.2 = []) (hn : h.2.2.2 = none)
    (hf : 6 ≤ R.frames) (hl : (st.map fun v => v.category).sum + 81 ≤ R.locals) (hc : c0 + 1 ≤ R.cells) (hs : s0 + 6 ≤ R.slots) : X G M R pc lv st h c0 s0 (.inr cls) h := by
  intro p l e s m args below meth c H locs ls hC hR hS hlv
  obtain ⟨t1, t2, t3, t4, t5, t6, t7⟩ := hT
  obtain ⟨a1, a2, a3, a4, a5, a6, a7, a8, a9, a10, a11, a12⟩ := hC
  have hO := a11.2
  have hold : ∀ a : Nat, a < (gH G).size → ¬ xA G a → s.heap[a]? = (gH G)[a]? := fun a h1 h2 => by
    have h3 : a < gB G := h1
    rw [← hR.2.1 a h3]
    exact (hS.2.1 a (Nat.lt_of_lt_of_le h3 a12) h2).symm
  have hB : ∀ w ∈ xB cls, w.before args s = true := vx_c (va_Nw.use rfl (hO.2.1.1 _ t7)) (vx_c (va_Nw.use rfl (hO.2.1.2 _ (by decide))) (vx_c (va_Nw.use rfl (hO.2.1.2 _ (by decide))) (vx_c (va_Nw.use rfl (hO.2.1.2 _ (by decide))) vx_n)))
  refine vx_throw0 (p := p) (names := xNm) (A := xA G) (R := R) a1 a2 a8 a5 t1 (by decide +kernel) (a6 _ t2) (a6 _ t3) (vx_hat (fun w hw => a6 w (t4 w hw)) t5 hB) ?_ (hO.2.2.2.1.kept hold) (hO.2.2.2.2.1.kept hold) hS (hlv.1.trans a4.symm) d0 d3 d4 d7 ?_ (by show 2 + 3 < R.frames; omega) (by show _ + (13 * (2 + 1) + 42) ≤ _; omega) hc hs a7 ?_ (fun z hz => hS.2.2 z hz) hc hs
  · intro w hw
    rcases List.mem_cons.mp hw with e | hw
    · rw [e]; rfl
    · rcases List.mem_cons.mp hw with e | hw
      · rw [e]; rfl
      · exact t6 w hw
  · intro x hx2
    rw [a10, hx] at hx2
    cases hx2
  · intro t _ h2 h3
    exact ⟨rfl, hR.ext hn h2 h3⟩
end XT
