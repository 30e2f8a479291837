/-! further rows of the law: shifts, constants of the old heap, references in rows, copies, clones, calls of inherited methods -/
section Y4
variable {G : GG} {M M' : Mth} {R R' : Room} {pc : Nat} {lv : List (Nat × Value)} {st : List Value} {h h1 : Hp} {c0 s0 : Nat} {Q P1 : PP} {k i n : Nat}
theorem o_ishr {x y : Int32} {z : Int} (d : decode M.2.1 pc = .ok (.ishr, 1)) (e : x >>> (y &&& 31) = iI z) (kk : YY G M R (pc + 1) lv (.int (iI z) :: st) h c0 s0 Q) : YY G M R pc lv (.int y :: .int x :: st) h c0 s0 Q := by
  intro p l e' s m args below meth c H locs ls hC hR hS hl
  have := kk p l e' s m args below meth c H locs ls hC hR hS hl
  rw [← e] at this
  exact lv_ishr hC.1 hC.2.1 d this
theorem o_ishl {x y : Int32} {z : Int} (d : decode M.2.1 pc = .ok (.ishl, 1)) (e : x <<< (y &&& 31) = iI z) (kk : YY G M R (pc + 1) lv (.int (iI z) :: st) h c0 s0 Q) : YY G M R pc lv (.int y :: .int x :: st) h c0 s0 Q := by
  intro p l e' s m args below meth c H locs ls hC hR hS hl
  have := kk p l e' s m args below meth c H locs ls hC hR hS hl
  rw [← e] at this
  exact lv_ishl hC.1 hC.2.1 d this
theorem o_iand {x y : Int32} {z : Int} (d : decode M.2.1 pc = .ok (.iand, 1)) (e : x &&& y = iI z) (kk : YY G M R (pc + 1) lv (.int (iI z) :: st) h c0 s0 Q) : YY G M R pc lv (.int y :: .int x :: st) h c0 s0 Q := by
  intro p l e' s m args below meth c H locs ls hC hR hS hl
  have := kk p l e' s m args below meth c H locs ls hC hR hS hl
  rw [← e] at this
  exact lv_iand hC.1 hC.2.1 d this
theorem o_i2c {x : Int32} {z : Int} (d : decode M.2.1 pc = .ok (.i2c, 1)) (e : (x.toUInt32 % 65536).toInt32 = iI z) (kk : YY G M R (pc + 1) lv (.int (iI z) :: st) h c0 s0 Q) : YY G M R pc lv (.int x :: st) h c0 s0 Q := by
  intro p l e' s m args below meth c H locs ls hC hR hS hl
  exact lv_i2c hC.1 hC.2.1 d e (kk p l e' s m args below meth c H locs ls hC hR hS hl)
theorem o_ldcw {index : Nat} {v : Int32} {z : Int} (d : decode M.2.1 pc = .ok (.ldc_w index, 3)) (hw : Cond.constant M.1.cls index v ∈ lw_ctx) (hv : v = iI z) (k : YY G M R (pc + 3) lv (.int (iI z) :: st) h c0 s0 Q) : YY G M R pc lv st h c0 s0 Q := by
  intro p l e s m args below meth c H locs ls hC hR hS hl
  subst hv
  exact lv_ldcw hC.1 hC.2.1 hC.2.2.2.2.1 (hC.2.2.2.2.2.1 _ hw) d (k p l e s m args below meth c H locs ls hC hR hS hl)
theorem o_ldcS {idx : Nat} (tx : String) (i : Nat) (d : decode M.2.1 pc = .ok (.ldc idx, 2)) (hq : (M.1.cls, idx, tx, i) ∈ xStr) (k : YY G M R (pc + 2) lv (.ref (gK G i) :: st) h c0 s0 Q) : YY G M R pc lv st h c0 s0 Q := by
  intro p l e s m args below meth c H locs ls hC hR hS hl
  exact va_ldcS hC.1 hC.2.1 hC.2.2.2.2.1 (hC.2.2.2.2.2.2.2.2.2.2.1.2.2.2.1 _ hq) d (k p l e s m args below meth c H locs ls hC hR hS hl)
theorem o_strV {idx : Nat} (hi : i < 15) (d : decode M.2.1 pc = .ok (.getfield idx, 3)) (hq : Cond.fieldLink M.1.cls idx "java/lang/String" "value" "[B" ∈ lw_ctx) (k : YY G M R (pc + 3) lv (.ref (gV G i) :: st) h c0 s0 Q) : YY G M R pc lv (.ref (gK G i) :: st) h c0 s0 Q := by
  intro p l e s m args below meth c H locs ls hC hR hS hl
  exact vk_getf hC.1 hC.2.1 ((xS_vk hC hR hS).1 i hi).2.2.1 hS hC.2.2.2.2.1 (hC.2.2.2.2.2.1 _ hq) (fun _ z => z) d (k p l e s m args below meth c H locs ls hC hR hS hl)
theorem o_strC {idx : Nat} (hi : i < 15) (d : decode M.2.1 pc = .ok (.getfield idx, 3)) (hq : Cond.fieldLink M.1.cls idx "java/lang/String" "coder" "B" ∈ lw_ctx) (k : YY G M R (pc + 3) lv (.int (iI 0) :: st) h c0 s0 Q) : YY G M R pc lv (.ref (gK G i) :: st) h c0 s0 Q := by
  intro p l e s m args below meth c H locs ls hC hR hS hl
  exact vk_getf hC.1 hC.2.1 ((xS_vk hC hR hS).1 i hi).2.1 hS hC.2.2.2.2.1 (hC.2.2.2.2.2.1 _ hq) (fun _ z => z) d (k p l e s m args below meth c H locs ls hC hR hS hl)
theorem o_strN (hi : i < 15) (d : decode M.2.1 pc = .ok (.arraylength, 1)) (k : YY G M R (pc + 1) lv (.int (iI (sL i)) :: st) h c0 s0 Q) : YY G M R pc lv (.ref (gV G i) :: st) h c0 s0 Q := by
  intro p l e s m args below meth c H locs ls hC hR hS hl
  exact va_tlen hC.1 hC.2.1 ((xS_vk hC hR hS).1 i hi).2.2.2 hS (sL_i hi) d (k p l e s m args below meth c H locs ls hC hR hS hl)
theorem o_compact {idx : Nat} (d : decode M.2.1 pc = .ok (.getstatic idx, 3)) (hq : Cond.fieldLink M.1.cls idx "java/lang/String" "COMPACT_STRINGS" "Z" ∈ lw_ctx) (k : YY G M R (pc + 3) lv (.int (iI 1) :: st) h c0 s0 Q) : YY G M R pc lv st h c0 s0 Q := by
  intro p l e s m args below meth c H locs ls hC hR hS hl
  exact va_gets hC.1 hC.2.1 ((hC.2.2.2.2.2.2.2.2.2.2.1.2.2.2.2.2.2.1).kept (xS_old hC hR hS)) hS hC.2.2.2.2.1 (hC.2.2.2.2.2.1 _ hq) (fun _ z => z) d (k p l e s m args below meth c H locs ls hC hR hS hl)
theorem o_sioobe {idx : Nat} (d : decode M.2.1 pc = .ok (.getstatic idx, 3)) (hq : Cond.fieldLink M.1.cls idx "jdk/internal/util/Preconditions" "SIOOBE_FORMATTER" "Ljava/util/function/BiFunction;" ∈ lw_ctx) (k : ∀ v : Value, (v = .null ∨ ∃ t, v = .ref t) → YY G M R (pc + 3) lv (v :: st) h c0 s0 Q) : YY G M R pc lv st h c0 s0 Q := by
  intro p l e s m args below meth c H locs ls hC hR hS hl
  rcases (hC.2.2.2.2.2.2.2.2.2.2.1.2.2.2.2.2.2.2.1).kept (xS_old hC hR hS) with hz | ⟨t, hz⟩
  · exact va_gets hC.1 hC.2.1 hz hS hC.2.2.2.2.1 (hC.2.2.2.2.2.1 _ hq) (fun _ z => z) d (k _ (.inl rfl) p l e s m args below meth c H locs ls hC hR hS hl)
  · exact va_gets hC.1 hC.2.1 hz hS hC.2.2.2.2.1 (hC.2.2.2.2.2.1 _ hq) (fun _ z => z) d (k _ (.inr ⟨t, rfl⟩) p l e s m args below meth c H locs ls hC hR hS hl)
theorem xC_l {p : Program} {l : Launch} {s : State} {m : MethodId} {args : Array Value} {meth : Method} {c : Code} (hC : xC G M p l s m args meth c) : xOl G s := hC.2.2.2.2.2.2.2.2.2.2.1.2.2.2.2.2.2.2.2.2.2.2.2.2.2.2.2
/-- the empty row of lists: its name is (67, gV G 15), a row of none -/
theorem rf_e : rf G (ak 7 0) (gV G 15) = .ref (gV G 15) := by show Value.ref (gad G (ak 7 0) (gV G 15)) = _; rw [gad_hi ak_ge]
theorem o_empty {idx : Nat} (d : decode M.2.1 pc = .ok (.getstatic idx, 3)) (hq : Cond.fieldLink M.1.cls idx "java/util/ArrayList" "DEFAULTCAPACITY_EMPTY_ELEMENTDATA" "[Ljava/lang/Object;" ∈ lw_ctx) (k : YY G M R (pc + 3) lv (rf G (ak 7 0) (gV G 15) :: st) h c0 s0 Q) : YY G M R pc lv st h c0 s0 Q := by
  intro p l e s m args below meth c H locs ls hC hR hS hl
  rw [rf_e] at k
  exact va_gets hC.1 hC.2.1 ((xC_l hC).1.kept (xS_old hC hR hS)) hS hC.2.2.2.2.1 (hC.2.2.2.2.2.1 _ hq) (fun _ z => z) d (k p l e s m args below meth c H locs ls hC hR hS hl)
theorem o_emptyN (d : decode M.2.1 pc = .ok (.arraylength, 1)) (k : YY G M R (pc + 1) lv (.int (iI 0) :: st) h c0 s0 Q) : YY G M R pc lv (rf G (ak 7 0) (gV G 15) :: st) h c0 s0 Q := by
  intro p l e s m args below meth c H locs ls hC hR hS hl
  rw [rf_e]
  exact va_tlen hC.1 hC.2.1 ((xC_l hC).2.1.kept (xS_old hC hR hS)) hS rfl d (k p l e s m args below meth c H locs ls hC hR hS hl)
theorem o_ones {idx : Nat} (d : decode M.2.1 pc = .ok (.getstatic idx, 3)) (hq : Cond.fieldLink M.1.cls idx "java/lang/Integer" "DigitOnes" "[B" ∈ lw_ctx) (k : YY G M R (pc + 3) lv (.ref (gV G 16) :: st) h c0 s0 Q) : YY G M R pc lv st h c0 s0 Q := by
  intro p l e s m args below meth c H locs ls hC hR hS hl
  exact va_gets hC.1 hC.2.1 ((xC_l hC).2.2.2.1.kept (xS_old hC hR hS)) hS hC.2.2.2.2.1 (hC.2.2.2.2.2.1 _ hq) (fun _ z => z) d (k p l e s m args below meth c H locs ls hC hR hS hl)
theorem o_tens {idx : Nat} (d : decode M.2.1 pc = .ok (.getstatic idx, 3)) (hq : Cond.fieldLink M.1.cls idx "java/lang/Integer" "DigitTens" "[B" ∈ lw_ctx) (k : YY G M R (pc + 3) lv (.ref (gV G 17) :: st) h c0 s0 Q) : YY G M R pc lv st h c0 s0 Q := by
  intro p l e s m args below meth c H locs ls hC hR hS hl
  exact va_gets hC.1 hC.2.1 ((xC_l hC).2.2.2.2.2.1.kept (xS_old hC hR hS)) hS hC.2.2.2.2.1 (hC.2.2.2.2.2.1 _ hq) (fun _ z => z) d (k p l e s m args below meth c H locs ls hC hR hS hl)
theorem o_onesAt {z : Int} (hz : 0 ≤ z ∧ z < 100) (d : decode M.2.1 pc = .ok (.baload, 1)) (k : YY G M R (pc + 1) lv (.int (iI (48 + z % 10)) :: st) h c0 s0 Q) : YY G M R pc lv (.int (iI z) :: .ref (gV G 16) :: st) h c0 s0 Q := by
  intro p l e s m args below meth c H locs ls hC hR hS hl
  have hcl : (iI z).toNatClampNeg = z.toNat := iI_clamp ⟨by omega, by omega⟩
  refine va_tb hC.1 hC.2.1 ((xC_l hC).2.2.2.2.1.kept (xS_old hC hR hS)) hS (iI_in ⟨by omega, by omega⟩ hz.1 (by omega)) (v := .int (iI (48 + z % 10))) ?_ d (k p l e s m args below meth c H locs ls hC hR hS hl)
  rw [hcl]
  show Value.int (iI ((48 + z.toNat % 10 : Nat) : Int)) = _
  congr 2
  omega
theorem o_tensAt {z : Int} (hz : 0 ≤ z ∧ z < 100) (d : decode M.2.1 pc = .ok (.baload, 1)) (k : YY G M R (pc + 1) lv (.int (iI (48 + z / 10)) :: st) h c0 s0 Q) : YY G M R pc lv (.int (iI z) :: .ref (gV G 17) :: st) h c0 s0 Q := by
  intro p l e s m args below meth c H locs ls hC hR hS hl
  have hcl : (iI z).toNatClampNeg = z.toNat := iI_clamp ⟨by omega, by omega⟩
  refine va_tb hC.1 hC.2.1 ((xC_l hC).2.2.2.2.2.2.1.kept (xS_old hC hR hS)) hS (iI_in ⟨by omega, by omega⟩ hz.1 (by omega)) (v := .int (iI (48 + z / 10))) ?_ d (k p l e s m args below meth c H locs ls hC hR hS hl)
  rw [hcl]
  show Value.int (iI ((48 + z.toNat / 10 : Nat) : Int)) = _
  congr 2
  omega
/-- the script -/
theorem o_sld {z : Int} (hz : 0 ≤ z ∧ z < (gV G 21 : Nat)) (hL : gV G 21 ≤ 100000) (d : decode M.2.1 pc = .ok (.iaload, 1)) (k : YY G M R (pc + 1) lv (.int (gSx G z.toNat) :: st) h c0 s0 Q) : YY G M R pc lv (.int (iI z) :: .ref (gV G 20) :: st) h c0 s0 Q := by
  intro p l e s m args below meth c H locs ls hC hR hS hl
  have hO := hC.2.2.2.2.2.2.2.2.2.2.1.2.2.2.2
  have hX := hO.2.2.2.2.2.2.1
  have hA : ¬ xA G (gV G 20) := hO.2.2.2.2.2.2.2.1
  have hlt : gV G 20 < gB G := Nat.lt_of_not_le fun q => hA (.inl q)
  have hcl : (iI z).toNatClampNeg = z.toNat := iI_clamp ⟨by omega, by omega⟩
  refine va_sld (A := xA G) hC.1 hC.2.1 (hX.kept (xS_old hC hR hS _ hlt hA)) (Nat.lt_of_lt_of_le hlt hC.2.2.2.2.2.2.2.2.2.2.2) hA hS (iI_in ⟨by omega, by omega⟩ hz.1 (by omega)) d ?_
  rw [hcl]
  exact k p l e s m args below meth c H locs ls hC hR hS hl
theorem o_slen (hL : gV G 21 ≤ 100000) (d : decode M.2.1 pc = .ok (.arraylength, 1)) (k : YY G M R (pc + 1) lv (.int (iI (gV G 21 : Nat)) :: st) h c0 s0 Q) : YY G M R pc lv (.ref (gV G 20) :: st) h c0 s0 Q := by
  intro p l e s m args below meth c H locs ls hC hR hS hl
  have hO := hC.2.2.2.2.2.2.2.2.2.2.1.2.2.2.2
  have hX := hO.2.2.2.2.2.2.1
  have hA : ¬ xA G (gV G 20) := hO.2.2.2.2.2.2.2.1
  have hlt : gV G 20 < gB G := Nat.lt_of_not_le fun q => hA (.inl q)
  refine va_slen (A := xA G) hC.1 hC.2.1 (hX.kept (xS_old hC hR hS _ hlt hA)) (Nat.lt_of_lt_of_le hlt hC.2.2.2.2.2.2.2.2.2.2.2) hA hS d ?_
  rw [show Int32.ofNat (gV G 21) = iI ((gV G 21 : Nat) : Int) from (Int32.ofInt_eq_ofNat).symm]
  exact k p l e s m args below meth c H locs ls hC hR hS hl
/-- references compared -/
theorem o_acmp_eq {a b : Nat} {off : Int} (tgt : Nat) (d : decode M.2.1 pc = .ok (.if_acmp .eq off, 3)) (ht : (pc : Int) + off = (tgt : Int)) (kt : a = b → YY G M R tgt lv st h c0 s0 Q) (kf : ¬ a = b → YY G M R (pc + 3) lv st h c0 s0 Q) : YY G M R pc lv (.ref b :: .ref a :: st) h c0 s0 Q := by
  intro p l e s m args below meth c H locs ls hC hR hS hl
  exact lv_acmp_eq (rx := some a) (ry := some b) hC.1 hC.2.1 d ht (fun q => kt (Option.some.inj q) p l e s m args below meth c H locs ls hC hR hS hl) (fun q => kf (fun z => q (congrArg some z)) p l e s m args below meth c H locs ls hC hR hS hl)
theorem o_acmp_ne {a b : Nat} {off : Int} (tgt : Nat) (d : decode M.2.1 pc = .ok (.if_acmp .ne off, 3)) (ht : (pc : Int) + off = (tgt : Int)) (kt : ¬ a = b → YY G M R tgt lv st h c0 s0 Q) (kf : a = b → YY G M R (pc + 3) lv st h c0 s0 Q) : YY G M R pc lv (.ref b :: .ref a :: st) h c0 s0 Q := by
  intro p l e s m args below meth c H locs ls hC hR hS hl
  exact lv_acmp_ne (rx := some a) (ry := some b) hC.1 hC.2.1 d ht (fun q => kt (fun z => q (congrArg some z)) p l e s m args below meth c H locs ls hC hR hS hl) (fun q => kf (Option.some.inj q) p l e s m args below meth c H locs ls hC hR hS hl)
/-- what may be stored in a row of E -/
def anyE (G : GG) (h : Hp) (E : String) (a b : Nat) : Prop := ∀ (s : State) (H : Heap), xK G s → xR G h H → va_Any E s H (gad G a b)
theorem any_obj {a b ci : Nat} {kds : List Nat} {q : vw_C} {E : String} (hsh : shp a = .inr (ci, kds)) (hc : vwCl[ci]? = some q) (hm : (a, b) ∈ h.1) (hp : (q.1, E) ∈ xPair) : anyE G h E a b := by
  intro s H hKK hR
  obtain ⟨pp, -, hw⟩ := xws_at (G := G) hm
  rw [xcell_obj hsh] at hw
  have hO : xOl G s := hKK.2.2.2.2.2.2.2.2.2.2.2.2.2.2.2.2
  obtain ⟨c0, t0, f1, f2, f3⟩ := Cond.castable_spec (va_Nw.use (A := #[]) rfl (hO.2.2.2.2.2.2.2.2.2.1 _ hp))
  refine va_rAny hKK.1 hR.2.2.1 hw hc (fun comp c1 g1 g2 => ?_)
  cases g2.symm.trans f1
  cases g1.symm.trans f2
  exact f3
theorem any_same {a b ci : Nat} {kds : List Nat} {q : vw_C} (hsh : shp a = .inr (ci, kds)) (hc : vwCl[ci]? = some q) (hm : (a, b) ∈ h.1) : anyE G h q.1 a b := by
  intro s H hKK hR
  obtain ⟨pp, -, hw⟩ := xws_at (G := G) hm
  rw [xcell_obj hsh] at hw
  refine va_rAny hKK.1 hR.2.2.1 hw hc (fun comp c1 g1 g2 => ?_)
  cases g2.symm.trans g1
  have hcls := (hKK.1.1 ci q hc).2
  cases g2.symm.trans hcls.1
  exact va_assign hcls
theorem any_arr {b N : Nat} {E : String} (hm : (ak 0 N, b) ∈ h.1) (hp : ("[I", E) ∈ xPair) : anyE G h E (ak 0 N) b := by
  intro s H hKK hR
  have hat := xR_at hR hm
  rw [xcell_arr (shp_ak (by decide))] at hat
  have hO : xOl G s := hKK.2.2.2.2.2.2.2.2.2.2.2.2.2.2.2.2
  obtain ⟨c0, t0, f1, f2, f3⟩ := Cond.castable_spec (va_Nw.use (A := #[]) rfl (hO.2.2.2.2.2.2.2.2.2.1 _ hp))
  have hf : s.vm.findClass "[I" = some (G.2.1 0) := (hKK.1.2 0 _ rfl).2
  cases hf.symm.trans f1
  obtain ⟨kC, hkC, -⟩ := Vm.findClass_spec hf
  have hat2 : H[gad G (ak 0 N) b]? = some (vp_cell (G.2.1 0) (N, xcont G h.2.1 h.2.2.1 (ak 0 N) b 0)) := hat
  exact ⟨_, hat2, rfl, ⟨kC, hkC⟩, fun comp g => by cases g.symm.trans f2; exact f3⟩
/-- a reference, or none, stored in a row -/
theorem o_aast {tag N a b : Nat} {z : Int} {E : String} (j : Nat) (d : decode M.2.1 pc = .ok (.aastore, 1)) (hsh : shp k = .inl (tag + 5, N)) (ht : (xtys G)[tag + 5]? = some (G.2.1 (tag + 5), .object E)) (hm : (k, i) ∈ h.1) (hr : anyE G h E a b) (hz : z = j) (hj : j < N) (hN' : N < 2147483648)
    (kk : YY G M R (pc + 1) lv st (rset h k i j (some (a, b))) c0 s0 Q) : YY G M R pc lv (rf G a b :: .int (iI z) :: rf G k i :: st) h c0 s0 Q := by
  intro p l e s m' args below meth c H locs ls hC hR hS hl
  have hKK := hC.2.2.2.2.2.2.2.2.2.2.1
  have hat := xR_at hR hm
  rw [xcell_arr hsh] at hat
  obtain ⟨cellV, g1, g3, ⟨kC, hkC⟩, hasg⟩ := hr s H hKK hR
  obtain ⟨kA, comp, k1, k2, k3, -⟩ := (hKK.1.2 (tag + 5) _ ht).2
  obtain ⟨kE, hkE, -⟩ := Vm.findClass_spec k3
  have hcl := cl_nat hz (show j < 2147483648 by omega)
  refine W.aast hC.1 hC.2.1 hat (fun q h => by cases h) (fun h => by cases h) k1 k2 rfl hkE ⟨fun q => in_nat hz hj hN' (Or.inl q), by show _ < (arrV _ _ _).slots.size; rw [arrV_size, hcl]; exact hj⟩ g1 (fun q h => by rw [h] at g3; cases g3) hkC (hasg _ k3) rfl rfl d fun H1 eH z' oq => ?_
  refine kk p l e s m' args below meth c H1 _ ls hC (xR_store hR hm rfl rfl (fun _ _ q => rset_ne q) ?_ z' oq) (hS.put z' oq (xR_ge hR hm)) hl
  rw [xcell_arr hsh]
  show H1[gad G k i]? = some (vp_cell _ _)
  rw [eH]
  show some ((arrV (G.2.1 (tag + 5)) N (fun j' : Nat => va_rf ((h.2.2.1 k i j').map fun q => gad G q.1 q.2))).setSlot (iI z).toNatClampNeg (Value.ref (gad G a b))) = some (arrV (G.2.1 (tag + 5)) N (fun j' : Nat => va_rf (((rset h k i j (some (a, b))).2.2.1 k i j').map fun q => gad G q.1 q.2)))
  rw [arrV_store, hcl]
  congr 2
  funext j'
  by_cases hq : j' = j
  · subst hq
    rw [rset_at]
    simp [updV, va_rf]
  · rw [show (rset h k i j (some (a, b))).2.2.1 k i j' = h.2.2.1 k i j' from if_neg (fun z => hq z.2.2)]
    simp [updV, hq]
theorem o_aastN {tag N : Nat} {z : Int} {E : String} (j : Nat) (d : decode M.2.1 pc = .ok (.aastore, 1)) (hsh : shp k = .inl (tag + 5, N)) (ht : (xtys G)[tag + 5]? = some (G.2.1 (tag + 5), .object E)) (hm : (k, i) ∈ h.1) (hz : z = j) (hj : j < N) (hN' : N < 2147483648)
    (kk : YY G M R (pc + 1) lv st (rset h k i j none) c0 s0 Q) : YY G M R pc lv (.null :: .int (iI z) :: rf G k i :: st) h c0 s0 Q := by
  intro p l e s m' args below meth c H locs ls hC hR hS hl
  have hKK := hC.2.2.2.2.2.2.2.2.2.2.1
  have hat := xR_at hR hm
  rw [xcell_arr hsh] at hat
  have hcl := cl_nat hz (show j < 2147483648 by omega)
  refine va_WaastN (C := E) hC.1 hC.2.1 hat ((hKK.1.2 (tag + 5) _ ht).1 N (fun j' : Nat => va_rf ((h.2.2.1 k i j').map fun q => gad G q.1 q.2))) (fun h => by cases h) (by show ¬ (_ < 0 ∨ (arrV _ _ _).slots.size ≤ _); rw [arrV_size]; exact in_nat hz hj hN') rfl rfl d fun H1 eH z' oq => ?_
  refine kk p l e s m' args below meth c H1 _ ls hC (xR_store hR hm rfl rfl (fun _ _ q => rset_ne q) ?_ z' oq) (hS.put z' oq (xR_ge hR hm)) hl
  rw [xcell_arr hsh]
  show H1[gad G k i]? = some (vp_cell _ _)
  rw [eH]
  show some ((arrV (G.2.1 (tag + 5)) N (fun j' : Nat => va_rf ((h.2.2.1 k i j').map fun q => gad G q.1 q.2))).setSlot (iI z).toNatClampNeg Value.null) = some (arrV (G.2.1 (tag + 5)) N (fun j' : Nat => va_rf (((rset h k i j none).2.2.1 k i j').map fun q => gad G q.1 q.2)))
  rw [arrV_store, hcl]
  congr 2
  funext j'
  by_cases hq : j' = j
  · subst hq
    rw [rset_at]
    simp [updV, va_rf]
  · rw [show (rset h k i j none).2.2.1 k i j' = h.2.2.1 k i j' from if_neg (fun z => hq z.2.2)]
    simp [updV, hq]
end Y4
