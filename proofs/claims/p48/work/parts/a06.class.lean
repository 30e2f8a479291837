/-! calls of the class: its contracts speak of the ordinary heap alone; all that the law made is old to them -/
def GC (G : GG) (H : Heap) : GG := (G.1, G.2.1, G.2.2.1, (H, fun q => ∃ p ∈ dom0, q = gad G p.1 p.2), G.2.2.2.2.1, G.2.2.2.2.2)
def CL (h : Hp) : Prop := (∀ q ∈ dom0, q ∈ h.1) ∧ (∀ q ∈ h.1, q.1 < 51 → q ∈ dom0) ∧ ∀ k, k < 51 → h.2.2.1 k = MR0 k
def cs (h : Hp) (m1 : Mem) (n : Nat) : Hp := (h.1, (fun k => if k < 51 then m1 k else h.2.1 k), h.2.2.1, some n)
theorem dom0_nd : dom0.Nodup := by decide +kernel
section GCs
variable {G : GG} {M M' : Mth} {R R' : Room} {pc : Nat} {lv : List (Nat × Value)} {st : List Value} {h : Hp} {c0 s0 : Nat} {Q : PP} {m1 : Mem} {H H1 : Heap}
theorem gc_A (hR : xR G h H) (hc : CL h) {q : Nat} (hq : xA (GC G H) q) : xA G q := by
  rcases hq with hq | ⟨p, hpp, rfl⟩
  · exact .inl (Nat.le_trans hR.1 hq)
  · exact xR_ge hR (hc.1 p hpp)
theorem xR_toC (hR : xR G h H) (hc : CL h) : xR (GC G H) (hp h.2.1) H := by
  have hx : ∀ (n : Nat) (q : Nat × va_E), (xws (GC G H) (hp h.2.1))[n]? = some q → ∃ p : Nat × Nat, dom0[n]? = some p ∧ q = (gad G p.1 p.2, xcell G h p.1 p.2) := by
    intro n q hq
    simp only [xws, List.getElem?_map] at hq
    cases hpp : dom0[n]? with
    | none => rw [show (hp h.2.1).1 = dom0 from rfl, hpp] at hq; cases hq
    | some p =>
      rw [show (hp h.2.1).1 = dom0 from rfl, hpp] at hq
      simp only [Option.map_some, Option.some.injEq] at hq
      refine ⟨p, rfl, ?_⟩
      rw [← hq]
      have hk := (dom0_mem (k := p.1) (i := p.2) (List.mem_of_getElem? hpp)).1
      have e : xcell (GC G H) (hp h.2.1) p.1 p.2 = xcell G h p.1 p.2 := xcell_congr (G := G) (h := h) (h1 := hp h.2.1) rfl (by rw [hc.2.2 _ hk]; rfl)
      rw [e]
      rfl
  refine ⟨Nat.le_refl _, fun _ _ => rfl, fun n q hq => ?_, ⟨fun a b p q ha hb hpq => ?_, fun n q hq => ?_⟩, fun n e => by cases e⟩
  · obtain ⟨p, hpp, rfl⟩ := hx n q hq
    have hat := xR_at (G := G) hR (hc.1 p (List.mem_of_getElem? hpp))
    exact hat
  · obtain ⟨p1, hp1, rfl⟩ := hx a p ha
    obtain ⟨p2, hp2, rfl⟩ := hx b q hb
    obtain ⟨t1, g1, w1⟩ := xws_at (G := G) (hc.1 p1 (List.mem_of_getElem? hp1))
    obtain ⟨t2, g2, w2⟩ := xws_at (G := G) (hc.1 p2 (List.mem_of_getElem? hp2))
    have e := hR.2.2.2.1.1 t1 t2 _ _ w1 w2 hpq
    subst e
    have e2 : p1 = p2 := Option.some.inj (g1.symm.trans g2)
    subst e2
    exact (List.getElem?_inj (List.getElem?_eq_some_iff.mp hp1).1 dom0_nd).mp (hp1.trans hp2.symm)
  · obtain ⟨p, hpp, rfl⟩ := hx n q hq
    exact .inr ⟨p, List.mem_of_getElem? hpp, rfl⟩
theorem xR_fromC (hR : xR G h H) (hc : CL h) (hR1 : xR (GC G H) (hp m1) H1) : xR G (cs h m1 H1.size) H1 := by
  have hs : H.size ≤ H1.size := hR1.1
  refine ⟨Nat.le_trans hR.1 hs, fun q hq => (hR1.2.1 q (fun z => hq (gc_A hR hc z))).trans (hR.2.1 q hq), fun n q hq => ?_, ⟨fun a b p q ha hb hpq => ?_, fun n q hq => ?_⟩, fun n e => Option.some.inj e⟩
  · simp only [xws, List.getElem?_map] at hq
    cases hpp : h.1[n]? with
    | none => rw [show (cs h m1 H1.size).1 = h.1 from rfl, hpp] at hq; cases hq
    | some p =>
      rw [show (cs h m1 H1.size).1 = h.1 from rfl, hpp] at hq
      simp only [Option.map_some, Option.some.injEq] at hq
      rw [← hq]
      have hm := List.mem_of_getElem? hpp
      by_cases hk : p.1 < 51
      · have hd := hc.2.1 p hm hk
        have hat : va_at G.1 vwCl (gad G p.1 p.2, xcell (GC G H) (hp m1) p.1 p.2) H1 := by
          have z := xR_at (G := GC G H) hR1 hd
          exact z
        have e : xcell (GC G H) (hp m1) p.1 p.2 = xcell G (cs h m1 H1.size) p.1 p.2 := xcell_congr (G := G) (h := cs h m1 H1.size) (h1 := hp m1) (by show m1 p.1 p.2 = (if p.1 < 51 then m1 p.1 else _) p.2; rw [if_pos hk]) (by show MR0 p.1 p.2 = h.2.2.1 p.1 p.2; rw [hc.2.2 _ hk])
        rw [e] at hat
        exact hat
      · obtain ⟨t, g, w⟩ := xws_at (G := G) hm
        have hlt := (hR.2.2.1 t _ w).lt
        have hno : ¬ xA (GC G H) (gad G p.1 p.2) := by
          intro z
          rcases z with z | ⟨p2, hp2, z⟩
          · have z2 : H.size ≤ gad G p.1 p.2 := z
            have hlt2 : gad G p.1 p.2 < H.size := hlt
            omega
          · obtain ⟨t2, g2, w2⟩ := xws_at (G := G) (hc.1 p2 hp2)
            have e := hR.2.2.2.1.1 t t2 _ _ w w2 z
            subst e
            have e2 : p = p2 := Option.some.inj (g.symm.trans g2)
            subst e2
            exact hk (dom0_mem (k := p.1) (i := p.2) hp2).1
        have e : xcell G (cs h m1 H1.size) p.1 p.2 = xcell G h p.1 p.2 := xcell_congr (by show (if p.1 < 51 then m1 p.1 else _) p.2 = _; rw [if_neg hk]) rfl
        rw [e]
        exact (hR.2.2.1 t _ w).kept (hR1.2.1 _ hno)
  all_goals
    have hx : ∀ (n : Nat) (q : Nat × va_E), (xws G (cs h m1 H1.size))[n]? = some q → ∃ p : Nat × Nat, q.1 = gad G p.1 p.2 ∧ (xws G h)[n]? = some (gad G p.1 p.2, xcell G h p.1 p.2) := by
      intro n q hq
      simp only [xws, List.getElem?_map] at hq
      cases hpp : h.1[n]? with
      | none => rw [show (cs h m1 H1.size).1 = h.1 from rfl, hpp] at hq; cases hq
      | some p =>
        rw [show (cs h m1 H1.size).1 = h.1 from rfl, hpp] at hq
        simp only [Option.map_some, Option.some.injEq] at hq
        exact ⟨p, by rw [← hq], by simp only [xws, List.getElem?_map, hpp, Option.map_some]⟩
  · obtain ⟨p1, e1, w1⟩ := hx a p ha
    obtain ⟨p2, e2, w2⟩ := hx b q hb
    exact hR.2.2.2.1.1 a b _ _ w1 w2 (by rw [← e1, ← e2]; exact hpq)
  · obtain ⟨p1, e1, w1⟩ := hx n q hq
    rw [e1]
    exact hR.2.2.2.1.2 n _ w1
theorem xK_C {s : State} (hK : xK G s) (hR : xR G h H) (hc : CL h) : xK (GC G H) s := by
  obtain ⟨k0, k1, k2, k3, o⟩ := hK
  have hq : ∀ a : Nat, a < (gH G).size → ¬ xA G a → H[a]? = (gH G)[a]? := fun a _ h2 => hR.2.1 a h2
  have hA : ∀ q, xA (GC G H) q → xA G q := fun q z => gc_A hR hc z
  obtain ⟨o1, o2, o3, o4, o5, o6, o7, o8, o9, o10, o11, o12, l1, l2, l3, l4, l5, l6, l7, l8⟩ := o
  have h20 : gV G 20 < gB G := Nat.lt_of_not_le fun z => o8 (.inl z)
  exact ⟨k0, k1, k2, k3, (o1.kept hq).narrow hA, (o2.kept hq).narrow hA, (o3.kept hq).narrow hA, (o4.kept hq).narrow hA, (o5.kept hq).narrow hA, o6, o7.kept (hq _ h20 o8), fun z => o8 (hA _ z), o9, o10, o11, o12, (l1.kept hq).narrow hA, (l2.kept hq).narrow hA, (l3.kept hq).narrow hA, (l4.kept hq).narrow hA, (l5.kept hq).narrow hA, (l6.kept hq).narrow hA, (l7.kept hq).narrow hA, l8⟩
theorem o_callC {stk : List Value} {idx n : Nat} {v : Option Value} (As : List Value) (d : decode M.2.1 pc = .ok (.invokevirtual idx, 3)) (hCt : ∀ G', gad G' 38 0 = gad G 38 0 → Ct G' M' R' (rf G' 38 0 :: As) (hp h.2.1) (.inl v) (hp m1)) (hL : LV M.1.cls idx M'.1 n) (hn : As.length = n) (hcl : M'.1.cls = RX7) (hc : CL h)
    (hroom : rmC R R' c0 s0 M'.2.2.1) (hst : (st.map fun v => v.category).sum ≤ 8) (hstk : stk = As.reverse ++ rf G 38 0 :: st) (kk : ∀ n', YY G M R (pc + 3) lv (v.toList ++ st) (cs h m1 n') (c0 + R'.cells) (s0 + R'.slots) Q) : YY G M R pc lv stk h c0 s0 Q := by
  intro p l e s m args below meth c H locs ls hC hR hS hl
  obtain ⟨hrm1, hrm2⟩ := hroom
  have hts := hC.2.2.2.2.2.1
  have hKK := hC.2.2.2.2.2.2.2.2.2.2.1
  have hm : (38, 0) ∈ h.1 := hc.1 _ (mem_dom0 (by decide) (by decide))
  obtain ⟨pp, -, hw⟩ := xws_at (G := G) hm
  rw [xcell_obj (show shp 38 = .inr (11, [2, 2, 2, 2, 2, 2]) from rfl)] at hw
  subst hstk
  have hCt2 := hCt (GC G H) rfl
  have hRC := xR_toC hR hc
  have hKC := xK_C hKK hR hc
  have hrun : va_Run p l e R s m args below meth c H locs c0 s0 R'.cells R'.slots (F0 m pc ls (As.reverse ++ rf G 38 0 :: st)) st (xQ (GC G H) (.inl v) (hp m1) (Value.ref (gad G 38 0) :: As).toArray) (xA (GC G H)) := va_runV (b := gad G 38 0) (C := M'.1.cls) (As := As) (rest := st) ⟨hC.1, hC.2.1, hC.2.2.2.1, hC.2.2.2.2.1, hts⟩ (met_of (hCt2.2 l hC.2.2.2.2.2.2.2.1)) ⟨callB_o (M := M) hts hCt2.1 hL.1 hL.2.2.2.1 hL.2.2.2.2 hrm1, hts _ hL.2.1, hts _ hL.2.2.1⟩ ⟨xPc_blind, by rw [hcl]; exact va_recv hKK.1 hR.2.2.1 rfl hw, fun U hU hW => ⟨rfl, by rw [hU]; exact hRC, xK.warm hW hKC⟩⟩ rfl hn hl.1 rfl (lv_room hst) d hrm2
  refine o_backG (w := 3) (h := h) (mc := R'.cells) (ms := R'.slots) (st := st) (P1 := fun v' h1 => v' = v ∧ ∃ n', h1 = cs h m1 n') (fun T hT X => ?_) hR hS (fun v' h1 H1 locs1 hq1 hR1 hS1 => ?_)
  · obtain ⟨v', st₀, t, T', L, -, X', hL, e1, e2, ⟨hv, hR1⟩, hgo⟩ := hrun T hT X
    cases hv
    exact ⟨_, t, T', L, X', fun q hq => gc_A hR hc (hL q hq), e1, ⟨_, ⟨rfl, _, rfl⟩, xR_fromC hR hc hR1⟩, hgo⟩
  · obtain ⟨rfl, n', rfl⟩ := hq1
    exact kk n' p l e s m args below meth c H1 locs1 ls hC hR1 hS1 hl
/-- a call of the class whose exception this method catches -/
theorem o_callCX {stk : List Value} {idx n : Nat} {E : String} (As : List Value) (d : decode M.2.1 pc = .ok (.invokevirtual idx, 3)) (hCt : ∀ G', gad G' 38 0 = gad G 38 0 → Ct G' M' R' (rf G' 38 0 :: As) (hp h.2.1) (.inr E) (hp m1)) (hL : LV M.1.cls idx M'.1 n) (hn : As.length = n) (hcl : M'.1.cls = RX7) (hc : CL h)
    (hroom : rmC R R' c0 s0 M'.2.2.1) (hst : (st.map fun v => v.category).sum ≤ 8) (hstk : stk = As.reverse ++ rf G 38 0 :: st)
    (pre : List ExceptionTableEntry) (x : ExceptionTableEntry) (suf : List ExceptionTableEntry) (hsplit : M.2.2.2.2 = pre ++ x :: suf) (hpass : ∀ z ∈ pre, z.catchType ≠ 0 ∧ Cond.classLink M.1.cls z.catchType "java/lang/IndexOutOfBoundsException" ∈ lw_ctx ∧ E = "java/lang/IllegalArgumentException") (hx : covers x pc = true) (h0 : x.catchType ≠ 0) (hlink : Cond.classLink M.1.cls x.catchType E ∈ lw_ctx) (hE : E ∈ xCast)
    (kk : ∀ q n', YY G M R x.handlerPc lv [.ref q] (cs h m1 n') (c0 + R'.cells) (s0 + R'.slots) Q) : YY G M R pc lv stk h c0 s0 Q := by
  intro p l e s m args below meth c H locs ls hC hR hS hl
  obtain ⟨hrm1, hrm2⟩ := hroom
  have hts := hC.2.2.2.2.2.1
  have hKK := hC.2.2.2.2.2.2.2.2.2.2.1
  have hm : (38, 0) ∈ h.1 := hc.1 _ (mem_dom0 (by decide) (by decide))
  obtain ⟨pp, -, hw⟩ := xws_at (G := G) hm
  rw [xcell_obj (show shp 38 = .inr (11, [2, 2, 2, 2, 2, 2]) from rfl)] at hw
  subst hstk
  have hCt2 := hCt (GC G H) rfl
  have hRC := xR_toC hR hc
  have hKC := xK_C hKK hR hc
  have hrun : vx_Run p l e R s m args below meth c H locs c0 s0 R'.cells R'.slots (F0 m pc ls (As.reverse ++ rf G 38 0 :: st)) st (xQ (GC G H) (.inr E) (hp m1) (Value.ref (gad G 38 0) :: As).toArray) (xX (GC G H) (.inr E) (hp m1)) (xA (GC G H)) := vx_runV (b := gad G 38 0) (C := M'.1.cls) (As := As) (rest := st) ⟨hC.1, hC.2.1, hC.2.2.2.1, hC.2.2.2.2.1, hts⟩ (hCt2.2 l hC.2.2.2.2.2.2.2.1) ⟨callB_o (M := M) hts hCt2.1 hL.1 hL.2.2.2.1 hL.2.2.2.2 hrm1, hts _ hL.2.1, hts _ hL.2.2.1⟩ ⟨xPc_blind, by rw [hcl]; exact va_recv hKK.1 hR.2.2.1 rfl hw, fun U hU hW => ⟨rfl, by rw [hU]; exact hRC, xK.warm hW hKC⟩⟩ rfl hn hl.1 rfl (lv_room hst) d hrm2
  intro T hT X
  rcases hrun T hT X with ⟨v, st₀, t, T', L, h0', X', hL, e1, e2, hq, go⟩ | ⟨q, st₀, t, T', L, E', ce, h0', X', hL, e1, e2, ⟨hE', hR1⟩, hce, hcv, hcl', go⟩
  · exact absurd hq id
  · subst hE'
    have hR2 := xR_fromC hR hc hR1
    have hs2 : s.heap.size ≤ T'.heap.size := X'.same.2.1
    have hS1 : va_S (xA G) s.heap T'.heap (locs ++ L) := by
      refine ⟨hs2, fun q g1 g2 => ?_, fun q hq => ?_⟩
      · rw [e1, hR2.2.1 q g2, ← hR.2.1 q g2]
        exact hS.2.1 q g1 g2
      · rcases List.mem_append.mp hq with z | z
        · exact hS.2.2 q z
        · exact gc_A hR hc (hL q z)
    have hcat := vx_catch (rest := st) (E := E') (name := E') (q := q) (ce := ce) hC.2.2.2.2.1 pre x suf (hC.2.2.2.2.2.2.2.2.2.1.trans hsplit) (fun z hz => Or.inr ⟨(hpass z hz).1, _, hts _ (hpass z hz).2.1, by rw [(hpass z hz).2.2]; exact hKK.2.2.2.2.2.2.2.2.2.1⟩) hx h0 (hts _ hlink) (va_Nw.use rfl (hKK.2.2.1.1 _ hE)) (by rw [e1]; exact hce) hcv hcl' (kk q t.heap.size p l e s m args below meth c T'.heap (locs ++ L) ls hC (by rw [e1]; exact hR2) hS1 hl)
    obtain ⟨t2, a1, b1⟩ := hcat T' rfl X'
    exact ⟨t2, go.trans a1, b1⟩
end GCs
