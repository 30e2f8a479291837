section XE
variable {G : GG} {M M' : Mth} {R R' : Room} {pc : Nat} {lv lv' : List (Nat × Value)} {st : List Value} {h h' h1 : Hp} {c0 s0 : Nat} {res : Res} {k i : Nat} {m m' : Mem}
def rel (k j : Nat) : Bool := match shp k with
  | .inl a => decide (j < a.2)
  | .inr o => match o.2[j]? with
    | some 0 => true
    | some 1 => true
    | _ => false
/-- memories that differ only where nothing lies -/
def heq (h h1 : Hp) : Prop := h1.1 = h.1 ∧ h1.2.2 = h.2.2 ∧ ∀ k i, (k, i) ∈ h.1 → ∀ j : Nat, rel k j = true → h1.2.1 k i j = h.2.1 k i j
theorem arrV_congr {cA : ClassId} {n : Nat} {f g : Nat → Value} (e : ∀ j, j < n → f j = g j) : arrV cA n f = arrV cA n g := by
  unfold arrV
  congr 2
  funext j
  exact e j.val j.isLt
theorem heq_at (he : heq h h1) (hm : (k, i) ∈ h.1) {H : Heap} (ha : va_at G.1 vwCl (gad G k i, xcell G h k i) H) : va_at G.1 vwCl (gad G k i, xcell G h1 k i) H := by
  obtain ⟨e1, e2, e3⟩ := he
  have e4 := e3 k i hm
  cases hs : shp k with
  | inl a =>
    obtain ⟨tag, n⟩ := a
    rw [xcell_arr hs] at ha ⊢
    have hw : ∀ j, j < n → rel k j = true := fun j hj => by unfold rel; rw [hs]; exact decide_eq_true hj
    have key : vp_cell (G.2.1 tag) (n, xcont G h1.2.1 h1.2.2.1 k i tag) = vp_cell (G.2.1 tag) (n, xcont G h.2.1 h.2.2.1 k i tag) := by
      match tag with
      | 0 => simp only [xcont, vp_cell]; exact arrV_congr (fun j hj => by rw [e4 j (hw j hj)])
      | 1 => simp only [xcont, vp_cell]; exact arrV_congr (fun j hj => by rw [e4 j (hw j hj)])
      | 2 => simp only [xcont, vp_cell]; exact arrV_congr (fun j hj => by rw [e4 j (hw j hj)])
      | 3 => simp only [xcont, vp_cell]; exact arrV_congr (fun j hj => by rw [e4 j (hw j hj)])
      | 4 => simp only [xcont, vp_cell]; exact arrV_congr (fun j hj => by rw [e4 j (hw j hj)])
      | n + 5 => simp only [xcont, e2]
    show H[gad G k i]? = some (vp_cell _ _)
    have ha' : H[gad G k i]? = some (vp_cell (G.2.1 tag) (n, xcont G h.2.1 h.2.2.1 k i tag)) := ha
    rw [ha']
    exact congrArg some key.symm
  | inr o =>
    obtain ⟨ci, kds⟩ := o
    rw [xcell_obj hs] at ha ⊢
    have key : xfs G h1 k i kds = xfs G h k i kds := by
      unfold xfs
      refine List.map_congr_left (fun j hj => ?_)
      have hj2 := List.mem_range.mp hj
      have hr : ∀ kd : Nat, kds[j]? = some kd → xfv G h1 k i j kd = xfv G h k i j kd := fun kd hkd => by
        match kd, hkd with
        | 0, hkd => exact xfv_congr (e4 j (by unfold rel; rw [hs]; simp only [hkd])) (by rw [e2])
        | 1, hkd => exact xfv_congr (e4 j (by unfold rel; rw [hs]; simp only [hkd])) (by rw [e2])
        | n + 2, hkd => simp only [xfv, e2]
      have hg : kds[j]? = some (kds.getD j 0) := by rw [List.getD, List.getElem?_eq_getElem hj2]; rfl
      exact hr _ hg
    rw [key]
    exact ha
theorem xR_heq (he : heq h h1) {H : Heap} (hR : xR G h H) : xR G h1 H := by
  obtain ⟨r1, r2, r3, r4, r5⟩ := hR
  have hx : ∀ (n : Nat) (q : Nat × va_E), (xws G h1)[n]? = some q → ∃ p : Nat × Nat, h.1[n]? = some p ∧ q = (gad G p.1 p.2, xcell G h1 p.1 p.2) ∧ (xws G h)[n]? = some (gad G p.1 p.2, xcell G h p.1 p.2) := by
    intro n q hq
    simp only [xws, he.1, List.getElem?_map] at hq
    cases hp : h.1[n]? with
    | none => rw [hp] at hq; cases hq
    | some p =>
      rw [hp] at hq
      simp only [Option.map_some, Option.some.injEq] at hq
      exact ⟨p, rfl, hq.symm, by simp only [xws, List.getElem?_map, hp, Option.map_some]⟩
  refine ⟨r1, r2, fun n q hq => ?_, ⟨fun a b p q ha hb hpq => ?_, fun n q hq => ?_⟩, fun n hn => r5 n (he.2.1 ▸ hn)⟩
  · obtain ⟨p, hp, rfl, hw⟩ := hx n q hq
    exact heq_at he (List.mem_of_getElem? hp) (r3 n _ hw)
  · obtain ⟨p1, -, rfl, w1⟩ := hx a p ha
    obtain ⟨p2, -, rfl, w2⟩ := hx b q hb
    exact r4.1 a b _ _ w1 w2 hpq
  · obtain ⟨p, -, rfl, w1⟩ := hx n q hq
    exact r4.2 n (gad G p.1 p.2, xcell G h p.1 p.2) w1
theorem x_heq (he : heq h h1) (kk : X G M R pc lv st h1 c0 s0 res h') : X G M R pc lv st h c0 s0 res h' := by
  intro p l e s m args below meth c H locs ls hC hR hS hl
  exact kk p l e s m args below meth c H locs ls hC (xR_heq he hR) hS hl
def meq (m m' : Mem) : Prop := ∀ k i, k < 51 → i < cntP k → ∀ j : Nat, rel k j = true → m' k i j = m k i j
theorem dom0_mem {k i : Nat} (h : (k, i) ∈ dom0) : k < 51 ∧ i < cntP k := by
  unfold dom0 at h
  obtain ⟨k', hk, h2⟩ := List.mem_flatMap.mp h
  obtain ⟨i', hi, e⟩ := List.mem_map.mp h2
  cases e
  exact ⟨List.mem_range.mp hk, List.mem_range.mp hi⟩
theorem heq_of (he : meq m m') : heq (hp m) (hp m') := ⟨rfl, rfl, fun k i hm j hj => he k i (dom0_mem hm).1 (dom0_mem hm).2 j hj⟩
theorem x_meq (he : meq m m') (kk : X G M R pc lv st (hp m') c0 s0 res h') : X G M R pc lv st (hp m) c0 s0 res h' := x_heq (heq_of he) kk
/-- a whole row copied, a whole row filled -/
def cpA (m : Mem) (k i k' i' : Nat) : Mem := fun a b j => if a = k' ∧ b = i' then m k i j else m a b j
def fiA (m : Mem) (k i : Nat) (v : Int) : Mem := fun a b j => if a = k ∧ b = i then v else m a b j
def fiN (m : Mem) (k i : Nat) (v n : Int) : Mem := fun a b j => if a = k ∧ b = i ∧ 0 ≤ j ∧ j < n then v else m a b j
theorem fiN_0 (m : Mem) (k i : Nat) (v : Int) : fiN m k i v 0 = m := by
  funext a b j
  unfold fiN
  rw [if_neg (by omega)]
theorem fiN_s {m : Mem} {k i : Nat} {v n : Int} (hn : 0 ≤ n) : up3 (fiN m k i v n) k i n v = fiN m k i v (n + 1) := by
  funext a b j
  unfold up3 fiN
  by_cases h1 : a = k ∧ b = i
  · by_cases h2 : j = n
    · rw [if_pos ⟨h1.1, h1.2, h2⟩, if_pos ⟨h1.1, h1.2, by omega, by omega⟩]
    · rw [if_neg (fun z => h2 z.2.2)]
      by_cases h3 : 0 ≤ j ∧ j < n
      · rw [if_pos ⟨h1.1, h1.2, h3.1, h3.2⟩, if_pos ⟨h1.1, h1.2, by omega, by omega⟩]
      · rw [if_neg (fun z => h3 z.2.2), if_neg (fun z => h3 ⟨z.2.2.1, by omega⟩)]
  · rw [if_neg (fun z => h1 ⟨z.1, z.2.1⟩), if_neg (fun z => h1 ⟨z.1, z.2.1⟩), if_neg (fun z => h1 ⟨z.1, z.2.1⟩)]
/-- Arrays.fill of a row of ints -/
theorem lp_fill {n : Nat} {v : Int} (hsh : shp k = .inl (0, n)) (hn : n < 2147483648) (hm : (k, i) ∈ h.1) : ∀ (c : Nat) (z : Int), z + c = n → 0 ≤ z →
    X G MJ7_fill_53178 (rmD 0) 5 [(0, rf G k i), (1, .int (iI v)), (2, .int (iI z)), (3, .int (iI n))] [] (h.1, fiN h.2.1 k i v z, h.2.2) 0 0 (.inl none) (h.1, fiN h.2.1 k i v n, h.2.2) := by
  intro c
  induction c with
  | zero =>
    intro z hz h0
    refine x_iload_n (pc := 5) dJ7_fill_53178_5 2 rfl ?_
    refine x_iload_n (pc := 6) dJ7_fill_53178_6 3 rfl ?_
    refine x_icmp_ge (pc := 7) 20 dJ7_fill_53178_7 (by decide) (by unfold inI; omega) (by unfold inI; omega) (fun q => ?_) (fun q => by exfalso; omega)
    have e : z = n := by omega
    subst e
    exact x_vret (pc := 20) dJ7_fill_53178_20 rfl (by decide) (by decide)
  | succ c ih =>
    intro z hz h0
    refine x_iload_n (pc := 5) dJ7_fill_53178_5 2 rfl ?_
    refine x_iload_n (pc := 6) dJ7_fill_53178_6 3 rfl ?_
    refine x_icmp_ge (pc := 7) 20 dJ7_fill_53178_7 (by decide) (by unfold inI; omega) (by unfold inI; omega) (fun q => by exfalso; omega) (fun q => ?_)
    refine x_aload_n (pc := 10) dJ7_fill_53178_10 0 rfl ?_
    refine x_iload_n (pc := 11) dJ7_fill_53178_11 2 rfl ?_
    refine x_iload_n (pc := 12) dJ7_fill_53178_12 1 rfl ?_
    have e : ((z.toNat : Nat) : Int) = z := Int.toNat_of_nonneg h0
    refine x_iast (pc := 13) dJ7_fill_53178_13 hsh hm z.toNat e.symm (by omega) ?_ hn
    refine x_iinc (pc := 14) (lv' := [(2, _), (0, _), (1, _), (3, _)]) dJ7_fill_53178_14 2 rfl (by decide) rfl ?_
    refine x_goto (pc := 17) 5 dJ7_fill_53178_17 (by decide) ?_
    refine x_lv [1, 2, 0, 3] rfl ?_
    have k2 := ih (z + 1) (by omega) (by omega)
    rw [← fiN_s h0] at k2
    rw [e]
    exact k2
theorem ct_fillx {n : Nat} {v : Int} (hsh : shp k = .inl (0, n)) (hn : n < 2147483648) (hm : (k, i) ∈ h.1) : Ct G MJ7_fill_53178 (rmD 0) [rf G k i, .int (iI v)] h (.inl none) (h.1, fiN h.2.1 k i v n, h.2.2) := by
  refine x_entry (by decide +kernel) mwJ7_fill_53178 rfl (Nat.le_of_ble_eq_true rfl) ?_
  show X G MJ7_fill_53178 (rmD 0) 0 [(0, rf G k i), (1, .int (iI v))] [] h 0 0 (.inl none) (h.1, fiN h.2.1 k i v n, h.2.2)
  refine x_iconst (pc := 0) dJ7_fill_53178_0 ?_
  refine x_istore_n (pc := 1) (lv' := [(2, _), (0, _), (1, _)]) dJ7_fill_53178_1 rfl (by decide) rfl ?_
  refine x_aload_n (pc := 2) dJ7_fill_53178_2 1 rfl ?_
  refine x_alen (pc := 3) dJ7_fill_53178_3 hsh hm (ty := .int) rfl ?_
  refine x_istore_n (pc := 4) (lv' := [(3, _), (2, _), (0, _), (1, _)]) dJ7_fill_53178_4 rfl (by decide) rfl ?_
  refine x_lv [2, 3, 1, 0] rfl ?_
  have k2 := lp_fill (G := G) (h := h) (v := v) hsh hn hm n 0 (by omega) (by omega)
  rw [fiN_0] at k2
  exact k2
theorem Ct.heq {av : List Value} {h2 : Hp} (he : heq h1 h2) (hc : Ct G M R av h res h1) : Ct G M R av h res h2 := by
  refine ⟨hc.1, fun l hl => ?_⟩
  have := hc.2 l hl
  intro p e ha hf hcl s m args below g1 g2 g3 g4
  obtain ⟨n, o, a, b, c, d⟩ := this p e ha hf hcl s m args below g1 g2 g3 g4
  refine ⟨n, o, a, b, c, ?_⟩
  rcases d with ⟨d1, d2⟩ | ⟨q, e1, E, ce, L, hx, d3⟩
  · refine Or.inl ⟨?_, d2⟩
    cases res with
    | inl v => exact ⟨d1.1, xR_heq he d1.2⟩
    | inr E => exact d1
  · refine Or.inr ⟨q, e1, E, ce, L, ?_, d3⟩
    cases res with
    | inl v => exact hx
    | inr E => exact ⟨hx.1, xR_heq he hx.2⟩
theorem Ct.meq {av : List Value} (he : meq m m') (hc : Ct G M R av h res (hp m)) : Ct G M R av h res (hp m') := hc.heq (heq_of he)
theorem fi_meq {n : Nat} {v : Int} (hsh : shp k = .inl (0, n)) : meq (fiN m k i v n) (fiA m k i v) := by
  intro a b ha hb j hj
  unfold fiN fiA
  by_cases q : a = k ∧ b = i
  · have hw : j < n := by unfold rel at hj; rw [q.1, hsh] at hj; exact of_decide_eq_true hj
    rw [if_pos q, if_pos ⟨q.1, q.2, by omega, by omega⟩]
  · rw [if_neg q, if_neg (fun z => q ⟨z.1, z.2.1⟩)]
theorem ct_fill {n : Nat} {v : Int} (hsh : shp k = .inl (0, n)) (hn : n < 2147483648) (hk : k < 51) (hi : i < cntP k) : Ct G MJ7_fill_53178 (rmD 0) [rf G k i, .int (iI v)] (hp m) (.inl none) (hp (fiA m k i v)) :=
  (ct_fillx (h := hp m) hsh hn (mem_dom0 hk hi)).meq (fi_meq hsh)
/-- System.arraycopy of a whole row of ints over another one -/
theorem y_copy {n k' i' : Nat} (hm1 : shp k = .inl (0, n)) (hm2 : shp k' = .inl (0, n)) (hi : i < cntP k) (hi' : i' < cntP k') (hk : k < 51) (hk' : k' < 51) (hn : n < 2147483648) (hM : M.1.cls = RX7) (d : decode M.2.1 pc = .ok (.invokestatic 326, 3)) (hf : 1 ≤ R.frames) (hlo : (st.map fun v => v.category).sum + (nativeFrameWords "java/lang/System" "arraycopy" 5 + 11) ≤ R.locals)
    (kk : X G M R (pc + 3) lv st (hp (cpA m k i k' i')) c0 s0 res h') : X G M R pc lv (.int (iI n) :: .int (iI 0) :: rf G k' i' :: .int (iI 0) :: rf G k i :: st) (hp m) c0 s0 res h' := by
  intro p l e s mm args below meth c H locs ls hC hR hS hl
  have hts := hC.2.2.2.2.2.1
  have hown := hC.2.2.2.2.1
  rw [hM] at hown
  obtain ⟨p0, -, hw0⟩ := xws_at (G := G) (h := hp m) (mem_dom0 hk hi)
  obtain ⟨p1, hp1, hw1⟩ := xws_at (G := G) (h := hp m) (mem_dom0 hk' hi')
  have hw1' := hw1
  rw [xcell_arr hm1] at hw0
  rw [xcell_arr hm2] at hw1
  have hz : (iI 0).toNatClampNeg = 0 := rfl
  have hnn : (iI (n : Int)).toNatClampNeg = n := cl_nat rfl hn
  have hn0 : ¬ iI (n : Int) < 0 := fun q => by
    have := (iI_lt (a := n) (b := 0) ⟨by omega, by omega⟩ ⟨by decide, by decide⟩).mp q
    omega
  refine va_copyi hC.1 hC.2.1 (hC.2.2.2.1.trans hl.1.symm) hown (hts _ (in_ctx 433 (by decide +kernel) rfl)) (hts _ (in_ctx 435 (by decide +kernel) rfl)) (hts _ (in_ctx 434 (by decide +kernel) rfl)) (hts _ (in_ctx 23 (by decide +kernel) rfl))
    hC.2.2.2.2.2.2.2.2.2.2.1.1 hR.2.2.1 hR.2.2.2.1 hS p0 p1 0 0 hw0 hw1 rfl rfl rfl (by decide) (by decide) hn0 (by rw [hz, hnn]; omega) (by rw [hz, hnn]; omega) (fun _ _ => rfl) hf hlo d (fun H1 locs1 hP1 hD1 hS1 => ?_)
  refine kk p l e s mm args below meth c H1 locs1 ls hC ?_ hS1 hl
  have hne : ∀ a b, ¬ (a = k' ∧ b = i') → xcell G (hp (cpA m k i k' i')) a b = xcell G (hp m) a b := fun a b q => xcell_congr (by show cpA m k i k' i' a b = m a b; funext j; unfold cpA; rw [if_neg q]) rfl
  have es := xws_set (G := G) (h := hp m) (h1 := hp (cpA m k i k' i')) hR.2.2.2.1 hp1 rfl hne
  have hsz : s.heap.size ≤ H1.size := hS1.1
  refine ⟨Nat.le_trans hC.2.2.2.2.2.2.2.2.2.2.2 hsz, fun q hq => ?_, ?_, ?_, fun n hn => by cases hn⟩
  · have hq2 : q < gB G := Nat.lt_of_not_le fun z => hq (.inl z)
    rw [hS1.2.1 q (Nat.lt_of_lt_of_le hq2 hC.2.2.2.2.2.2.2.2.2.2.2) hq, ← hS.2.1 q (Nat.lt_of_lt_of_le hq2 hC.2.2.2.2.2.2.2.2.2.2.2) hq]
    exact hR.2.1 q hq
  · rw [← es]
    intro a q hq
    by_cases ha : a = p1
    · subst ha
      have hlt : a < (xws G (hp m)).length := (List.getElem?_eq_some_iff.mp hw1).1
      rw [List.getElem?_set_self hlt] at hq
      cases hq
      have h9 := hP1 a _ (by rw [List.getElem?_set_self hlt])
      rw [xcell_arr hm2]
      refine Eq.trans h9 (congrArg some ?_)
      simp only [vp_cell, xcont, hz, hnn]
      refine arrV_congr (fun j hj => ?_)
      show Value.int (va_cpy _ _ 0 0 n j) = .int (iI (cpA m k i k' i' k' i' j))
      rw [pk_cpy_in (by omega) (by omega)]
      unfold cpA
      rw [if_pos ⟨rfl, rfl⟩]
      simp [hp]
    · rw [List.getElem?_set_ne (Ne.symm ha)] at hq
      refine hP1 a q ?_
      rw [List.getElem?_set_ne (Ne.symm ha)]
      exact hq
  · rw [← es]
    exact hR.2.2.2.1.set hw1'
theorem ct_copyRow {n k' i' : Nat} (hm1 : shp k = .inl (0, n)) (hm2 : shp k' = .inl (0, n)) (hi : i < cntP k) (hi' : i' < cntP k') (hk : k < 51) (hk' : k' < 51) (hn : n < 2147483648) : Ct G MX7_copyRow (rmD 1) [rf G k i, rf G k' i'] (hp m) (.inl none) (hp (cpA m k i k' i')) := by
  refine x_entry (by decide +kernel) mwX7_copyRow rfl (Nat.le_of_ble_eq_true rfl) ?_
  show X G MX7_copyRow (rmD 1) 0 [(0, rf G k i), (1, rf G k' i')] [] (hp m) 0 0 (.inl none) (hp (cpA m k i k' i'))
  refine x_aload_n (pc := 0) dX7_copyRow_0 0 rfl ?_
  refine x_iconst (pc := 1) dX7_copyRow_1 ?_
  refine x_aload_n (pc := 2) dX7_copyRow_2 1 rfl ?_
  refine x_iconst (pc := 3) dX7_copyRow_3 ?_
  refine x_aload_n (pc := 4) dX7_copyRow_4 0 rfl ?_
  refine x_alen (pc := 5) dX7_copyRow_5 hm1 (mem_dom0 hk hi) (ty := .int) rfl ?_
  refine x_aload_n (pc := 6) dX7_copyRow_6 1 rfl ?_
  refine x_alen (pc := 7) dX7_copyRow_7 hm2 (mem_dom0 hk' hi') (ty := .int) rfl ?_
  refine x_min (pc := 8) dX7_copyRow_8 lmX7_277 (by unfold inI; omega) (by unfold inI; omega) (by decide) (Nat.le_of_ble_eq_true rfl) (by decide) (by decide) ?_
  rw [show min (n : Int) (n : Int) = n by omega]
  refine y_copy (pc := 11) hm1 hm2 hi hi' hk hk' hn rfl dX7_copyRow_11 (by decide) (Nat.le_of_ble_eq_true rfl) ?_
  exact y_vret (pc := 14) dX7_copyRow_14 rfl rfl
end XE
