/-! copies of rows, clones, classes asked, calls of inherited methods, final fields -/
section Y5
variable {G : GG} {M M' : Mth} {R R' : Room} {pc : Nat} {lv : List (Nat × Value)} {st : List Value} {h h1 : Hp} {c0 s0 : Nat} {Q P1 : PP} {k i n : Nat}
theorem o_putF {idx ci j kd : Nat} {kds : List Nat} {ty : FieldType} {v : Value} {h1 : Hp} (d : decode M.2.1 pc = .ok (.putfield idx, 3)) (fl : FLw M.1.cls idx ci j ty true) (hnm1 : M.1.name = "<init>") (hcl1 : ∀ q, vwCl[ci]? = some q → M.1.cls = q.1) (hsh : shp k = .inr (ci, kds)) (hkd : kds[j]? = some kd) (hm : (k, i) ∈ h.1)
    (hn : narrow ty v = v) (hfit : fits ty v = true) (hd : h1.1 = h.1) (hz : h1.2.2.2 = h.2.2.2) (hne : ∀ k' i', ¬ (k' = k ∧ i' = i) → xcell G h1 k' i' = xcell G h k' i') (hv : xfv G h1 k i j kd = v) (ho : ∀ j', j' ≠ j → ∀ kd', xfv G h1 k i j' kd' = xfv G h k i j' kd')
    (kk : YY G M R (pc + 3) lv st h1 c0 s0 Q) : YY G M R pc lv (v :: rf G k i :: st) h c0 s0 Q := by
  intro p l e s m args below meth c H locs ls hC hR hS hl
  obtain ⟨q, hc, hj, hlk, hty, hfin, hdecl⟩ := fl
  obtain ⟨hin, ⟨ty0, hty0⟩, hnm⟩ := cl_ok ci q hc
  have hts := hC.2.2.2.2.2.1
  have hK := hC.2.2.2.2.2.2.2.2.2.2.1.1
  have hown := hC.2.2.2.2.1
  have hap := va_apart (own := M.1.cls) (T := q.2.1) (N := q.2.2) (C := q.1) hts hin ty0 hty0 hnm hK hc
  have hat := xR_at hR hm
  rw [xcell_obj hsh] at hat
  obtain ⟨r, g1, cell, q1, q2, q3, q4⟩ := hat
  have hr : r = q := Option.some.inj (g1.symm.trans hc)
  subst hr
  obtain ⟨hSl, hfc, kC, hkC, hkind⟩ := hK.1 ci _ hc
  obtain ⟨cf, kf, fi, f, hi, hsl⟩ := hSl j hj
  have hlay := hts _ (hin _ (u_in_lay hj))
  unfold u_lay at hlay
  rw [if_pos hfin] at hlay
  have hst := (u_facts hfc hkC (u_lays hts hin hj) hi).1
  have hcf : m.cls = cf := by
    obtain ⟨_, _, c', _, _, _, -, -, hf', -, -, -, hown2, -⟩ := Cond.laysFinal_spec hlay
    have e1 : c' = cf := by have := hi.symm.trans hf'; simp at this; exact this.1.symm
    rw [hdecl rfl, ← hcl1 _ hc] at hown2
    rw [← e1]; exact Option.some.inj (hown.symm.trans hown2)
  have h6 := u_fits hfc hkC hkind (Or.inr hlay) hi hty hn hfit
  refine W.putFinK hC.1 hC.2.1 hown (hts _ hlk) hi hst hcf (hC.2.2.2.2.2.2.2.2.1.trans hnm1) (by rw [q2]; exact h6) q1 q3 (by rw [hsl]; exact k2_hasslot (q4 j hj)) rfl rfl d fun H' e1 e2 e3 => ?_
  rw [hsl] at e1 ⊢
  have hR1 : xR G h1 H' := by
    refine xR_store hR hm hd hz hne ?_ e2 e3
    rw [xcell_obj hsh, ← xfs_set hkd hv ho]
    exact ⟨_, hc, t_OB.to (V := updV (vp_V (xfs G h k i kds)) j v) ⟨_, e1, q2, q3, t_set q4 hap hj v⟩ (fun j' _ => vp_updV_set (by rw [xfs_len]; exact (List.getElem?_eq_some_iff.mp hkd).1) v j')⟩
  exact kk p l e s m args below meth c H' _ ls hC hR1 (hS.put e2 e3 (xR_ge hR hm)) hl
/-- a row changed by the kit's own hand: what is left of the heap -/
theorem xR_upd {p : Program} {l : Launch} {s : State} {m : MethodId} {args : Array Value} {meth : Method} {c : Code} {H H1 : Heap} {locs locs1 : List Loc} {pp : Nat} {e : va_E} (hC : xC G M p l s m args meth c) (hR : xR G h H) (hp : h.1[pp]? = some (k, i)) (hd : h1.1 = h.1) (hne : ∀ k' i', ¬ (k' = k ∧ i' = i) → xcell G h1 k' i' = xcell G h k' i') (hc : va_at G.1 vwCl (gad G k i, e) H1 → va_at G.1 vwCl (gad G k i, xcell G h1 k i) H1)
    (hP1 : va_P G.1 vwCl ((xws G h).set pp (gad G k i, e)) H1) (hS : va_S (xA G) s.heap H locs) (hS1 : va_S (xA G) s.heap H1 locs1) (hz : h1.2.2.2 = some H1.size) : xR G h1 H1 := by
  have es := xws_set (h1 := h1) hR.2.2.2.1 hp hd hne
  have hw : (xws G h)[pp]? = some (gad G k i, xcell G h k i) := by simp only [xws, List.getElem?_map, hp, Option.map_some]
  have hlt : pp < (xws G h).length := (List.getElem?_eq_some_iff.mp hw).1
  refine ⟨Nat.le_trans hC.2.2.2.2.2.2.2.2.2.2.2 hS1.1, fun q hq => ?_, ?_, ?_, fun x hx => ?_⟩
  · have hq2 : q < gB G := Nat.lt_of_not_le fun z => hq (.inl z)
    rw [hS1.2.1 q (Nat.lt_of_lt_of_le hq2 hC.2.2.2.2.2.2.2.2.2.2.2) hq, ← hS.2.1 q (Nat.lt_of_lt_of_le hq2 hC.2.2.2.2.2.2.2.2.2.2.2) hq]
    exact hR.2.1 q hq
  · rw [← es]
    intro a q hq
    by_cases ha : a = pp
    · subst ha
      rw [List.getElem?_set_self hlt] at hq
      cases hq
      exact hc (hP1 a _ (by rw [List.getElem?_set_self hlt]))
    · rw [List.getElem?_set_ne (Ne.symm ha)] at hq
      refine hP1 a q ?_
      rw [List.getElem?_set_ne (Ne.symm ha)]
      exact hq
  · rw [← es]
    exact hR.2.2.2.1.set hw
  · rw [hz] at hx
    exact Option.some.inj hx
def cpR (h : Hp) (ks is k i sp dp c n' : Nat) : Hp := (h.1, h.2.1, (fun k' i' j => if k' = k ∧ i' = i ∧ dp ≤ j ∧ j < dp + c then h.2.2.1 ks is (sp + (j - dp)) else h.2.2.1 k' i' j), some n')
def cpB (h : Hp) (f : Nat → Int) (k i dp c n' : Nat) : Hp := (h.1, (fun k' i' j => if k' = k ∧ i' = i ∧ (dp : Int) ≤ j ∧ j < dp + c then f (j.toNat - dp) else h.2.1 k' i' j), h.2.2.1, some n')
theorem lt0_nat {c : Nat} (hc : c < 2147483648) : ¬ iI (c : Int) < 0 := by
  rw [show (0 : Int32) = iI 0 from rfl, iI_lt (by unfold inI; omega) (by unfold inI; decide)]
  omega
theorem o_copyR {idx ks is N0 N1 sp dp c : Nat} (d : decode M.2.1 pc = .ok (.invokestatic idx, 3)) (hL : Cond.methodLink M.1.cls idx arraycopyName ∈ lw_ctx) (hs0 : shp ks = .inl (7, N0)) (hs1 : shp k = .inl (7, N1)) (hm0 : (ks, is) ∈ h.1) (hm : (k, i) ∈ h.1) (h4 : sp + c ≤ N0) (h5 : dp + c ≤ N1) (hb : N0 < 2147483648 ∧ N1 < 2147483648) (hel : ∀ j, j < c → ∀ a b, h.2.2.1 ks is (sp + j) = some (a, b) → anyE G h "java/lang/Object" a b)
    (hf : 1 ≤ R.frames) (hlo : (st.map fun v => v.category).sum + 40 ≤ R.locals) (kk : ∀ n', YY G M R (pc + 3) lv st (cpR h ks is k i sp dp c n') c0 s0 Q) : YY G M R pc lv (.int (iI (c : Nat)) :: .int (iI (dp : Nat)) :: rf G k i :: .int (iI (sp : Nat)) :: rf G ks is :: st) h c0 s0 Q := by
  intro p l e s m args below meth cc H locs ls hC hR hS hl
  have hts := hC.2.2.2.2.2.1
  have hKK := hC.2.2.2.2.2.2.2.2.2.2.1
  obtain ⟨p0, -, hw0⟩ := xws_at (G := G) hm0
  obtain ⟨p1, hp1, hw1⟩ := xws_at (G := G) hm
  rw [xcell_arr hs0] at hw0
  rw [xcell_arr hs1] at hw1
  have e1 : (iI (sp : Int)).toNatClampNeg = sp := cl_nat rfl (by omega)
  have e2 : (iI (dp : Int)).toNatClampNeg = dp := cl_nat rfl (by omega)
  have e3 : (iI (c : Int)).toNatClampNeg = c := cl_nat rfl (by omega)
  refine va_copyM hC.1 hC.2.1 (hC.2.2.2.1.trans hl.1.symm) hC.2.2.2.2.1 (hts _ hL) (hts _ (in_ctx 435 (by decide +kernel) rfl)) (hts _ (in_ctx 434 (by decide +kernel) rfl)) (hts _ (in_ctx 23 (by decide +kernel) rfl)) hKK.1 hR.2.2.1 hR.2.2.2.1 hS p0 p1 7 7 hw0 hw1 rfl rfl (lt0_nat (by omega)) (lt0_nat (by omega)) (lt0_nat (by omega)) (by rw [e1, e3]; exact h4) (by rw [e2, e3]; exact h5) (fun j hj y hy => ?_) hf (Nat.le_trans (Nat.add_le_add_left (Nat.le_of_ble_eq_true rfl) _) hlo) d (fun H1 locs1 hP1 hD1 hS1 => ?_)
  · rw [e3] at hj
    rw [e1] at hy
    cases hr : h.2.2.1 ks is (sp + j) with
    | none => rw [hr] at hy; cases hy
    | some q =>
      rw [hr] at hy
      cases hy
      exact hel j hj q.1 q.2 hr s H hKK hR
  · rw [e1, e2, e3] at hP1
    refine kk H1.size p l e s m args below meth cc H1 locs1 ls hC (xR_upd hC hR hp1 rfl (fun k' i' q => xcell_congr rfl ?_) (fun q => ?_) hP1 hS hS1 rfl) hS1 hl
    · funext j
      show (if k' = k ∧ i' = i ∧ dp ≤ j ∧ j < dp + c then _ else _) = _
      rw [if_neg (fun z => q ⟨z.1, z.2.1⟩)]
    · rw [xcell_arr hs1]
      refine Eq.trans q (congrArg some ?_)
      show arrV _ N1 (fun j => va_rf (va_cpy _ _ sp dp c j)) = arrV _ N1 (fun j => va_rf (((cpR h ks is k i sp dp c H1.size).2.2.1 k i j).map fun q => gad G q.1 q.2))
      congr 1
      funext j
      show va_rf (if dp ≤ j ∧ j < dp + c then _ else _) = va_rf (Option.map _ (if k = k ∧ i = i ∧ dp ≤ j ∧ j < dp + c then _ else _))
      by_cases z : dp ≤ j ∧ j < dp + c
      · rw [if_pos z, if_pos ⟨rfl, rfl, z.1, z.2⟩]
      · rw [if_neg z, if_neg (fun w => z w.2.2)]
theorem fits_b {z : Int} (hz : -128 ≤ z ∧ z < 128) : fits .byte (.int (iI z)) = true := by
  show (decide (iI (-128) ≤ iI z) && decide (iI z ≤ iI 127)) = true
  rw [decide_eq_true ((iI_le (a := -128) (b := z) ⟨by decide, by decide⟩ ⟨by omega, by omega⟩).mpr hz.1), decide_eq_true ((iI_le (a := z) (b := 127) ⟨by omega, by omega⟩ ⟨by decide, by decide⟩).mpr (by omega))]
  rfl
theorem cpB_cell {f : Nat → Int} {dp c n' k' i' : Nat} (q : ¬ (k' = k ∧ i' = i)) : xcell G (cpB h f k i dp c n') k' i' = xcell G h k' i' := by
  refine xcell_congr ?_ rfl
  funext j
  show (if k' = k ∧ i' = i ∧ (dp : Int) ≤ j ∧ j < dp + c then _ else _) = _
  rw [if_neg (fun z => q ⟨z.1, z.2.1⟩)]
theorem cpB_arr {f : Nat → Int} {F : Nat → Int32} {dp c n' N1 : Nat} (hF : ∀ j, j < c → F j = iI (f j)) : arrV (G.2.1 1) N1 (fun j => .int ((fun k => if dp ≤ k ∧ k < dp + c then F (k - dp) else iI (h.2.1 k i (k : Int))) j)) = arrV (G.2.1 1) N1 (fun j => .int (if dp ≤ j ∧ j < dp + c then iI (f (j - dp)) else iI (h.2.1 j i (j : Int)))) := by
  congr 1
  funext j
  by_cases z : dp ≤ j ∧ j < dp + c
  · simp only [if_pos z, hF (j - dp) (by omega)]
  · simp only [if_neg z]
theorem cpB_at {f : Nat → Int} {dp c n' j : Nat} : (cpB h f k i dp c n').2.1 k i (j : Int) = if dp ≤ j ∧ j < dp + c then f (j - dp) else h.2.1 k i (j : Int) := by
  show (if k = k ∧ i = i ∧ (dp : Int) ≤ j ∧ (j : Int) < dp + c then f ((j : Int).toNat - dp) else h.2.1 k i (j : Int)) = _
  by_cases z : dp ≤ j ∧ j < dp + c
  · rw [if_pos z, if_pos ⟨rfl, rfl, by omega, by omega⟩, Int.toNat_natCast]
  · rw [if_neg z, if_neg (fun w => z ⟨by omega, by omega⟩)]
theorem o_copyB {idx ks is N0 N1 sp dp c : Nat} (d : decode M.2.1 pc = .ok (.invokestatic idx, 3)) (hL : Cond.methodLink M.1.cls idx arraycopyName ∈ lw_ctx) (hs0 : shp ks = .inl (1, N0)) (hs1 : shp k = .inl (1, N1)) (hm0 : (ks, is) ∈ h.1) (hm : (k, i) ∈ h.1) (h4 : sp + c ≤ N0) (h5 : dp + c ≤ N1) (hb : N0 < 2147483648 ∧ N1 < 2147483648) (hel : ∀ j, j < c → -128 ≤ h.2.1 ks is ((sp + j : Nat) : Int) ∧ h.2.1 ks is ((sp + j : Nat) : Int) < 128)
    (hf : 1 ≤ R.frames) (hlo : (st.map fun v => v.category).sum + 40 ≤ R.locals) (kk : ∀ n', YY G M R (pc + 3) lv st (cpB h (fun j => h.2.1 ks is ((sp + j : Nat) : Int)) k i dp c n') c0 s0 Q) : YY G M R pc lv (.int (iI (c : Nat)) :: .int (iI (dp : Nat)) :: rf G k i :: .int (iI (sp : Nat)) :: rf G ks is :: st) h c0 s0 Q := by
  intro p l e s m args below meth cc H locs ls hC hR hS hl
  have hts := hC.2.2.2.2.2.1
  have hKK := hC.2.2.2.2.2.2.2.2.2.2.1
  obtain ⟨p0, -, hw0⟩ := xws_at (G := G) hm0
  obtain ⟨p1, hp1, hw1⟩ := xws_at (G := G) hm
  rw [xcell_arr hs0] at hw0
  rw [xcell_arr hs1] at hw1
  have e1 : (iI (sp : Int)).toNatClampNeg = sp := cl_nat rfl (by omega)
  have e2 : (iI (dp : Int)).toNatClampNeg = dp := cl_nat rfl (by omega)
  have e3 : (iI (c : Int)).toNatClampNeg = c := cl_nat rfl (by omega)
  refine va_copyi (ty := .byte) hC.1 hC.2.1 (hC.2.2.2.1.trans hl.1.symm) hC.2.2.2.2.1 (hts _ hL) (hts _ (in_ctx 435 (by decide +kernel) rfl)) (hts _ (in_ctx 434 (by decide +kernel) rfl)) (hts _ (in_ctx 23 (by decide +kernel) rfl)) hKK.1 hR.2.2.1 hR.2.2.2.1 hS p0 p1 1 1 hw0 hw1 rfl rfl rfl (lt0_nat (by omega)) (lt0_nat (by omega)) (lt0_nat (by omega)) (by rw [e1, e3]; exact h4) (by rw [e2, e3]; exact h5) (fun j hj => ?_) hf (Nat.le_trans (Nat.add_le_add_left (Nat.le_of_ble_eq_true rfl) _) hlo) d (fun H1 locs1 hP1 hD1 hS1 => ?_)
  · rw [e3] at hj
    rw [e1]
    exact fits_b (hel j hj)
  · rw [e1, e2, e3] at hP1
    refine kk H1.size p l e s m args below meth cc H1 locs1 ls hC (xR_upd hC hR hp1 rfl (fun k' i' q => cpB_cell q) (fun q => ?_) hP1 hS hS1 rfl) hS1 hl
    rw [xcell_arr hs1]
    refine Eq.trans q (congrArg some ?_)
    show arrV _ N1 (fun j => .int (va_cpy _ _ sp dp c j)) = arrV _ N1 (fun j : Nat => Value.int (iI ((cpB h (fun j => h.2.1 ks is ((sp + j : Nat) : Int)) k i dp c H1.size).2.1 k i j)))
    congr 1
    funext j
    rw [cpB_at]
    show Value.int (if dp ≤ j ∧ j < dp + c then _ else _) = _
    by_cases z : dp ≤ j ∧ j < dp + c
    · rw [if_pos z, if_pos z]
    · rw [if_neg z, if_neg z]
/-- a text of the old heap copied into a row of bytes -/
theorem o_copyT {idx N1 dp t : Nat} (ht : t < 15) (d : decode M.2.1 pc = .ok (.invokestatic idx, 3)) (hL : Cond.methodLink M.1.cls idx arraycopyName ∈ lw_ctx) (hs1 : shp k = .inl (1, N1)) (hm : (k, i) ∈ h.1) (h5 : dp + (sL t).toNat ≤ N1) (hb : N1 < 2147483648)
    (hf : 1 ≤ R.frames) (hlo : (st.map fun v => v.category).sum + 40 ≤ R.locals) (kk : ∀ n', YY G M R (pc + 3) lv st (cpB h (fun j => sB t j) k i dp (sL t).toNat n') c0 s0 Q) : YY G M R pc lv (.int (iI (sL t)) :: .int (iI (dp : Nat)) :: rf G k i :: .int (iI 0) :: .ref (gV G t) :: st) h c0 s0 Q := by
  intro p l e s m args below meth cc H locs ls hC hR hS hl
  have hts := hC.2.2.2.2.2.1
  have hKK := hC.2.2.2.2.2.2.2.2.2.2.1
  obtain ⟨p1, hp1, hw1⟩ := xws_at (G := G) hm
  rw [xcell_arr hs1] at hw1
  have bl := sL_b ht
  have e1 : (iI 0).toNatClampNeg = 0 := rfl
  have e2 : (iI (dp : Int)).toNatClampNeg = dp := cl_nat rfl (by omega)
  have e3 : (iI (sL t)).toNatClampNeg = (sL t).toNat := cl_nat (by omega) (by omega)
  have hlen : (sL t).toNat = xLen.getD t 0 := by unfold sL; omega
  have hn3 : ¬ iI (sL t) < 0 := by
    rw [show (0 : Int32) = iI 0 from rfl, iI_lt (by unfold inI; omega) (by unfold inI; decide)]
    omega
  refine vk_copyt hC.1 hC.2.1 (hC.2.2.2.1.trans hl.1.symm) hC.2.2.2.2.1 (hts _ hL) (hts _ (in_ctx 435 (by decide +kernel) rfl)) (hts _ (in_ctx 434 (by decide +kernel) rfl)) (hts _ (in_ctx 23 (by decide +kernel) rfl)) hKK.1 hR.2.2.1 hR.2.2.2.1 hS (((xS_vk hC hR hS).1 t ht).2.2.2) p1 1 hw1 rfl (by decide) (lt0_nat (by omega)) hn3 (by rw [e1, e3]; omega) (by rw [e2, e3]; exact h5) (fun j hj => ?_) hf (Nat.le_trans (Nat.add_le_add_left (Nat.le_of_ble_eq_true rfl) _) hlo) d (fun H1 locs1 hP1 hD1 hS1 => ?_)
  · rw [e3] at hj
    rw [e1, Nat.zero_add]
    have sb := sB_b t j ht (by omega)
    rw [show (xByt.getD t []).getD j 0 = iI (sB t j) from (iI_of _).symm]
    exact fits_b ⟨by omega, by omega⟩
  · rw [e1, e2, e3] at hP1
    refine kk H1.size p l e s m args below meth cc H1 locs1 ls hC (xR_upd hC hR hp1 rfl (fun k' i' q => cpB_cell q) (fun q => ?_) hP1 hS hS1 rfl) hS1 hl
    rw [xcell_arr hs1]
    refine Eq.trans q (congrArg some ?_)
    show arrV _ N1 (fun j => .int (va_cpy _ _ 0 dp (sL t).toNat j)) = arrV _ N1 (fun j : Nat => Value.int (iI ((cpB h (fun j => sB t j) k i dp (sL t).toNat H1.size).2.1 k i j)))
    congr 1
    funext j
    rw [cpB_at]
    show Value.int (if dp ≤ j ∧ j < dp + (sL t).toNat then _ else _) = _
    by_cases z : dp ≤ j ∧ j < dp + (sL t).toNat
    · rw [if_pos z, if_pos z, Nat.zero_add]
      exact congrArg Value.int (iI_of _).symm
    · rw [if_neg z, if_neg z]
/-- nothing copied out of the empty row -/
theorem o_copyE {idx N1 : Nat} (d : decode M.2.1 pc = .ok (.invokestatic idx, 3)) (hL : Cond.methodLink M.1.cls idx arraycopyName ∈ lw_ctx) (hs1 : shp k = .inl (7, N1)) (hm : (k, i) ∈ h.1)
    (hf : 1 ≤ R.frames) (hlo : (st.map fun v => v.category).sum + 40 ≤ R.locals) (kk : ∀ n', YY G M R (pc + 3) lv st (h.1, h.2.1, h.2.2.1, some n') c0 s0 Q) : YY G M R pc lv (.int (iI 0) :: .int (iI 0) :: rf G k i :: .int (iI 0) :: rf G (ak 7 0) (gV G 15) :: st) h c0 s0 Q := by
  intro p l e s m args below meth cc H locs ls hC hR hS hl
  have hts := hC.2.2.2.2.2.1
  have hKK := hC.2.2.2.2.2.2.2.2.2.2.1
  obtain ⟨p1, hp1, hw1⟩ := xws_at (G := G) hm
  rw [xcell_arr hs1] at hw1
  rw [rf_e]
  refine va_copyg hC.1 hC.2.1 (hC.2.2.2.1.trans hl.1.symm) hC.2.2.2.2.1 (hts _ hL) (hts _ (in_ctx 435 (by decide +kernel) rfl)) (hts _ (in_ctx 434 (by decide +kernel) rfl)) (hts _ (in_ctx 23 (by decide +kernel) rfl)) hKK.1 hR.2.2.1 hR.2.2.2.1 hS p1 7 ((xC_l hC).2.1.kept (xS_old hC hR hS)) hw1 rfl (by decide) (by decide) (by decide) (by decide) (Nat.zero_le _) hf (Nat.le_trans (Nat.add_le_add_left (Nat.le_of_ble_eq_true rfl) _) hlo) d (fun H1 locs1 hP1 hD1 hS1 => ?_)
  refine kk H1.size p l e s m args below meth cc H1 locs1 ls hC (xR_upd hC hR hp1 rfl (fun k' i' q => rfl) (fun q => ?_) hP1 hS hS1 rfl) hS1 hl
  rw [xcell_arr hs1]
  exact q
/-- a row of numbers cloned -/
def cln (h : Hp) (k i q n' : Nat) : Hp := (h.1 ++ [(k, q)], (fun k' i' => if k' = k ∧ i' = q then h.2.1 k i else h.2.1 k' i'), h.2.2.1, some n')
theorem o_clone {idx tag N : Nat} {ad : String} {ty : FieldType} (d : decode M.2.1 pc = .ok (.invokevirtual idx, 3)) (hL : Cond.methodLink M.1.cls idx ⟨ad, "clone", "()Ljava/lang/Object;"⟩ ∈ lw_ctx) (hsame : Cond.sameMethod ad "java/lang/Object" "clone" "()Ljava/lang/Object;" ∈ lw_ctx) (hsel : Cond.selects ad ⟨ad, "clone", "()Ljava/lang/Object;"⟩ ⟨"java/lang/Object", "clone", "()Ljava/lang/Object;"⟩ ∈ lw_ctx) (hcl : (ad, "java/lang/Cloneable") ∈ xPair) (htag : tag < 2) (ht : (xtys G)[tag]? = some (G.2.1 tag, ty)) (hnm : ∀ s, va_RA s (G.2.1 tag) ty → s.vm.findClass ad = some (G.2.1 tag)) (hk : k = ak tag N) (hm : (k, i) ∈ h.1) (hfit : ∀ j : Nat, j < N → fits ty (.int (iI (h.2.1 k i j))) = true)
    (hf : 1 ≤ R.frames) (hlo : (st.map fun v => v.category).sum + 14 ≤ R.locals) (hcells : c0 + 1 ≤ R.cells) (hslots : s0 + N ≤ R.slots) (kk : ∀ q n', (∀ k', 51 ≤ k' → (k', q) ∉ h.1) → YY G M R (pc + 3) lv (rf G k q :: st) (cln h k i q n') (c0 + 1) (s0 + N) Q) : YY G M R pc lv (rf G k i :: st) h c0 s0 Q := by
  subst hk
  intro p l e s m args below meth cc H locs ls hC hR hS hl
  have hts := hC.2.2.2.2.2.1
  have hKK := hC.2.2.2.2.2.2.2.2.2.2.1
  have hsh : shp (ak tag N) = .inl (tag, N) := shp_ak (by omega)
  obtain ⟨p0, -, hw0⟩ := xws_at (G := G) hm
  rw [xcell_arr hsh] at hw0
  have hx : xcont G h.2.1 h.2.2.1 (ak tag N) i tag = .inl (fun j : Nat => iI (h.2.1 (ak tag N) i j)) := by
    match tag, htag with
    | 0, _ => rfl
    | 1, _ => rfl
  rw [hx] at hw0
  refine va_clone hC.1 hC.2.1 (hC.2.2.2.1.trans hl.1.symm) hC.2.2.2.2.1 (hts _ hL) (hts _ hsame) (hts _ (in_ctx 778 (by decide +kernel) rfl)) (hts _ (in_ctx 779 (by decide +kernel) rfl)) (hts _ hsel) ((xC_l hC).2.2.2.2.2.2.2.2.2.1 _ hcl) hKK.1 hR.2.2.1 hR.2.2.2.1 hS (fun q hq => .inl (Nat.le_trans hC.2.2.2.2.2.2.2.2.2.2.2 hq)) p0 tag hw0 ht (hnm s (hKK.1.2 tag _ ht).2) (fun j v hv => ?_) hf hlo hcells hslots d (fun q H1 hK1 hP1 hD1 hS1 => ?_)
  · have hv2 : (arrV (G.2.1 tag) N (fun j : Nat => .int (iI (h.2.1 (ak tag N) i j)))).slots[j]? = some v := hv
    have hj : j < N := by
      have := (Array.getElem?_eq_some_iff.mp hv2).1
      rw [arrV_size] at this
      exact this
    rw [arrV_read _ _ hj] at hv2
    cases hv2
    exact hfit j hj
  · have hfr : ∀ k', 51 ≤ k' → (k', q) ∉ h.1 := by
      intro k' hk' hm'
      obtain ⟨p2, hp2, hw2⟩ := xws_at (G := G) hm'
      have hl2 : p2 < (xws G h).length := (List.getElem?_eq_some_iff.mp hw2).1
      have := hD1.1 p2 (xws G h).length _ _ (by rw [List.getElem?_append_left hl2]; exact hw2) (by rw [List.getElem?_append_right (Nat.le_refl _), Nat.sub_self]; rfl) (gad_hi hk')
      omega
    have hne : ∀ p ∈ h.1, ¬ (p.1 = ak tag N ∧ p.2 = q) := fun p hp z => hfr (ak tag N) ak_ge (by rw [← z.1, ← z.2]; exact hp)
    have ew : xws G (cln h (ak tag N) i q H1.size) = xws G h ++ [(q, .inl (G.2.1 tag, N, .inl (fun j : Nat => iI (h.2.1 (ak tag N) i j))))] := by
      unfold xws cln
      rw [List.map_append]
      congr 1
      · refine List.map_congr_left (fun p hp => ?_)
        congr 1
        refine xcell_congr ?_ rfl
        show (if p.1 = ak tag N ∧ p.2 = q then _ else _) = _
        rw [if_neg (hne p hp)]
      · show [(gad G (ak tag N) q, xcell G _ (ak tag N) q)] = _
        rw [gad_hi ak_ge, xcell_arr hsh]
        have hx2 : ∀ (m' : Mem) (r : Nat → Nat → Nat → Option (Nat × Nat)), m' (ak tag N) q = h.2.1 (ak tag N) i → xcont G m' r (ak tag N) q tag = .inl (fun j : Nat => iI (h.2.1 (ak tag N) i j)) := by
          intro m' r e
          match tag, htag with
          | 0, _ => show Sum.inl (fun j : Nat => iI (m' _ q j)) = _; rw [e]
          | 1, _ => show Sum.inl (fun j : Nat => iI (m' _ q j)) = _; rw [e]
        rw [hx2 _ _ (if_pos ⟨rfl, rfl⟩)]
    have kk := kk q H1.size hfr
    rw [show rf G (ak tag N) q = Value.ref q from by show Value.ref (gad G (ak tag N) q) = _; rw [gad_hi ak_ge]] at kk
    refine kk p l e s m args below meth cc H1 locs ls hC ⟨Nat.le_trans hC.2.2.2.2.2.2.2.2.2.2.2 hS1.1, fun x hx => ?_, by rw [ew]; exact hP1, by rw [ew]; exact hD1, fun x hx => Option.some.inj hx⟩ hS1 hl
    have hq2 : x < gB G := Nat.lt_of_not_le fun z => hx (.inl z)
    rw [hS1.2.1 x (Nat.lt_of_lt_of_le hq2 hC.2.2.2.2.2.2.2.2.2.2.2) hx, ← hS.2.1 x (Nat.lt_of_lt_of_le hq2 hC.2.2.2.2.2.2.2.2.2.2.2) hx]
    exact hR.2.1 x hx
end Y5
