/-! the ordinary heap: all is made; only numbers move -/
def cntP (k : Nat) : Nat := if k < 22 then 13 else if k < 33 then 4 else if k = 33 then 5 else if k < 41 then 1 else 0
def dom0 : List (Nat × Nat) := (List.range 51).flatMap fun k => (List.range (cntP k)).map fun i => (k, i)
theorem mem_dom0 {k i : Nat} (hk : k < 51) (hi : i < cntP k) : (k, i) ∈ dom0 := by
  unfold dom0
  exact List.mem_flatMap.mpr ⟨k, List.mem_range.mpr hk, List.mem_map.mpr ⟨i, List.mem_range.mpr hi, rfl⟩⟩
def pl (w : Nat) : Nat := w - 1
def MR0 (k i j : Nat) : Option (Nat × Nat) := match k, j with
  | 0, 4 => some (3, i)
  | 0, 5 => some (4, i)
  | 0, 6 => some (5, i)
  | 0, 7 => some (6, i)
  | 0, 8 => some (7, i)
  | 0, 9 => some (8, i)
  | 0, 10 => some (9, i)
  | 0, 11 => some (10, i)
  | 0, 12 => some (1, i)
  | 0, 13 => some (2, i)
  | 1, 1 => some (11, i)
  | 1, 2 => some (12, i)
  | 1, 3 => some (13, i)
  | 1, 4 => some (14, i)
  | 2, 1 => some (15, i)
  | 2, 2 => some (16, i)
  | 2, 3 => some (17, i)
  | 2, 4 => some (18, i)
  | 2, 5 => some (19, i)
  | 2, 6 => some (20, i)
  | 2, 7 => some (21, i)
  | 22, 7 => some (23, i)
  | 22, 8 => some (24, i)
  | 22, 9 => some (25, i)
  | 22, 10 => some (26, i)
  | 22, 11 => some (27, i)
  | 22, 12 => some (28, i)
  | 22, 13 => some (29, i)
  | 22, 14 => some (30, i)
  | 22, 15 => some (31, i)
  | 22, 16 => some (32, i)
  | 33, 0 => some (22, pl i)
  | 33, 1 => some (0, i)
  | 34, 0 => some (33, 4)
  | 34, 4 => some (35, 0)
  | 36, 2 => some (37, 0)
  | 37, j => some (0, 5 + j)
  | 38, 0 => some (33, 0)
  | 38, 1 => some (33, 1)
  | 38, 2 => some (34, 0)
  | 38, 3 => some (36, 0)
  | 38, 4 => some (39, 0)
  | 38, 5 => some (40, 0)
  | 39, j => some (33, 2 + j)
  | 41, 0 => some (42, 0)
  | 41, 1 => some (43, 0)
  | 41, 2 => some (44, 0)
  | 41, 3 => some (45, 0)
  | 41, 4 => some (46, 0)
  | 41, 5 => some (47, 0)
  | 41, 8 => some (48, 0)
  | _, _ => none
def hp (m : Mem) : Hp := (dom0, m, MR0, none)
theorem pl_lt {w : Nat} (h : w < 5) : pl w < 4 := by unfold pl; omega
section YR
variable {G : GG} {M : Mth} {R : Room} {lv lv' : List (Nat × Value)} {st : List Value} {m m' : Mem} {h' : Hp} {c0 s0 : Nat} {res : Res} {k i : Nat}
theorem y_getI {pc idx ci j : Nat} {kds : List Nat} (jz : Int) (d : decode M.2.1 pc = .ok (.getfield idx, 3)) (fl : FL M.1.cls idx ci j) (hsh : shp k = .inr (ci, kds)) (hkd : kds[j]? = some 0) (hj : (j : Int) = jz) (hi : i < cntP k) (kk : X G M R (pc + 3) lv (.int (iI (m k i jz)) :: st) (hp m) c0 s0 res h') (hk : k < 51 := by decide) : X G M R pc lv (rf G k i :: st) (hp m) c0 s0 res h' := by
  subst hj
  exact x_getI d fl hsh hkd (mem_dom0 hk hi) kk
theorem y_getL {pc idx ci j : Nat} {kds : List Nat} (jz : Int) (d : decode M.2.1 pc = .ok (.getfield idx, 3)) (fl : FL M.1.cls idx ci j) (hsh : shp k = .inr (ci, kds)) (hkd : kds[j]? = some 1) (hj : (j : Int) = jz) (hi : i < cntP k) (kk : X G M R (pc + 3) lv (.long (lI (m k i jz)) :: st) (hp m) c0 s0 res h') (hk : k < 51 := by decide) : X G M R pc lv (rf G k i :: st) (hp m) c0 s0 res h' := by
  subst hj
  exact x_getL d fl hsh hkd (mem_dom0 hk hi) kk
theorem y_getR {pc idx ci j a b : Nat} {kds : List Nat} (d : decode M.2.1 pc = .ok (.getfield idx, 3)) (fl : FL M.1.cls idx ci j) (hsh : shp k = .inr (ci, kds)) (hkd : kds[j]? = some 2) (hr : MR0 k i j = some (a, b)) (hi : i < cntP k) (kk : X G M R (pc + 3) lv (rf G a b :: st) (hp m) c0 s0 res h') (hk : k < 51 := by decide) : X G M R pc lv (rf G k i :: st) (hp m) c0 s0 res h' :=
  x_getR d fl hsh hkd hr (mem_dom0 hk hi) kk
theorem y_putI {pc idx ci j : Nat} {kds : List Nat} {z : Int} (jz : Int) (d : decode M.2.1 pc = .ok (.putfield idx, 3)) (fl : FLw M.1.cls idx ci j .int false) (hsh : shp k = .inr (ci, kds)) (hkd : kds[j]? = some 0) (hj : (j : Int) = jz) (hi : i < cntP k) (kk : X G M R (pc + 3) lv st (hp (up3 m k i jz z)) c0 s0 res h') (hk : k < 51 := by decide) : X G M R pc lv (.int (iI z) :: rf G k i :: st) (hp m) c0 s0 res h' := by
  subst hj
  exact x_putI d fl hsh hkd (mem_dom0 hk hi) kk
theorem y_putL {pc idx ci j : Nat} {kds : List Nat} {z : Int} (jz : Int) (d : decode M.2.1 pc = .ok (.putfield idx, 3)) (fl : FLw M.1.cls idx ci j .long false) (hsh : shp k = .inr (ci, kds)) (hkd : kds[j]? = some 1) (hj : (j : Int) = jz) (hi : i < cntP k) (kk : X G M R (pc + 3) lv st (hp (up3 m k i jz z)) c0 s0 res h') (hk : k < 51 := by decide) : X G M R pc lv (.long (lI z) :: rf G k i :: st) (hp m) c0 s0 res h' := by
  subst hj
  exact x_putL d fl hsh hkd (mem_dom0 hk hi) kk
theorem y_iald {pc n : Nat} {z : Int} (d : decode M.2.1 pc = .ok (.iaload, 1)) (hsh : shp k = .inl (0, n)) (hi : i < cntP k) (hz : 0 ≤ z ∧ z < n) (kk : X G M R (pc + 1) lv (.int (iI (m k i z)) :: st) (hp m) c0 s0 res h') (hk : k < 51 := by decide) (hn : n < 2147483648 := by decide) : X G M R pc lv (.int (iI z) :: rf G k i :: st) (hp m) c0 s0 res h' := by
  have e : ((z.toNat : Nat) : Int) = z := Int.toNat_of_nonneg hz.1
  exact x_iald d hsh (mem_dom0 hk hi) z.toNat e.symm (by omega) (by rw [e]; exact kk) hn
theorem y_bald {pc n : Nat} {z : Int} (d : decode M.2.1 pc = .ok (.baload, 1)) (hsh : shp k = .inl (1, n)) (hi : i < cntP k) (hz : 0 ≤ z ∧ z < n) (kk : X G M R (pc + 1) lv (.int (iI (m k i z)) :: st) (hp m) c0 s0 res h') (hk : k < 51 := by decide) (hn : n < 2147483648 := by decide) : X G M R pc lv (.int (iI z) :: rf G k i :: st) (hp m) c0 s0 res h' := by
  have e : ((z.toNat : Nat) : Int) = z := Int.toNat_of_nonneg hz.1
  exact x_bald d hsh (mem_dom0 hk hi) z.toNat e.symm (by omega) (by rw [e]; exact kk) hn
theorem y_zald {pc n : Nat} {z : Int} (d : decode M.2.1 pc = .ok (.baload, 1)) (hsh : shp k = .inl (2, n)) (hi : i < cntP k) (hz : 0 ≤ z ∧ z < n) (kk : X G M R (pc + 1) lv (.int (iI (m k i z)) :: st) (hp m) c0 s0 res h') (hk : k < 51 := by decide) (hn : n < 2147483648 := by decide) : X G M R pc lv (.int (iI z) :: rf G k i :: st) (hp m) c0 s0 res h' := by
  have e : ((z.toNat : Nat) : Int) = z := Int.toNat_of_nonneg hz.1
  exact x_zald d hsh (mem_dom0 hk hi) z.toNat e.symm (by omega) (by rw [e]; exact kk) hn
theorem y_lald {pc n : Nat} {z : Int} (d : decode M.2.1 pc = .ok (.laload, 1)) (hsh : shp k = .inl (3, n)) (hi : i < cntP k) (hz : 0 ≤ z ∧ z < n) (kk : X G M R (pc + 1) lv (.long (lI (m k i z)) :: st) (hp m) c0 s0 res h') (hk : k < 51 := by decide) (hn : n < 2147483648 := by decide) : X G M R pc lv (.int (iI z) :: rf G k i :: st) (hp m) c0 s0 res h' := by
  have e : ((z.toNat : Nat) : Int) = z := Int.toNat_of_nonneg hz.1
  exact x_lald d hsh (mem_dom0 hk hi) z.toNat e.symm (by omega) (by rw [e]; exact kk) hn
theorem y_aald {pc tag n a' b' : Nat} {z : Int} {CC : String} (d : decode M.2.1 pc = .ok (.aaload, 1)) (hsh : shp k = .inl (tag + 5, n)) (ht : (xtys G)[tag + 5]? = some (G.2.1 (tag + 5), .object CC)) (hi : i < cntP k) (hz : 0 ≤ z ∧ z < n) (hr : MR0 k i z.toNat = some (a', b')) (kk : X G M R (pc + 1) lv (rf G a' b' :: st) (hp m) c0 s0 res h') (hk : k < 51 := by decide) (hn : n < 2147483648 := by decide) : X G M R pc lv (.int (iI z) :: rf G k i :: st) (hp m) c0 s0 res h' := by
  have e : ((z.toNat : Nat) : Int) = z := Int.toNat_of_nonneg hz.1
  exact x_aald d hsh ht (mem_dom0 hk hi) z.toNat e.symm (by omega) hr kk hn
theorem y_alen {pc tag n : Nat} {nz : Int} (d : decode M.2.1 pc = .ok (.arraylength, 1)) (hsh : shp k = .inl (tag, n)) (hi : i < cntP k) {ty : FieldType} (ht : (xtys G)[tag]? = some (G.2.1 tag, ty)) (hn : (n : Int) = nz) (kk : X G M R (pc + 1) lv (.int (iI nz) :: st) (hp m) c0 s0 res h') (hk : k < 51 := by decide) : X G M R pc lv (rf G k i :: st) (hp m) c0 s0 res h' := by
  subst hn
  exact x_alen d hsh (mem_dom0 hk hi) ht kk
theorem y_iast {pc n : Nat} {z v : Int} (d : decode M.2.1 pc = .ok (.iastore, 1)) (hsh : shp k = .inl (0, n)) (hi : i < cntP k) (hz : 0 ≤ z ∧ z < n) (kk : X G M R (pc + 1) lv st (hp (up3 m k i z v)) c0 s0 res h') (hk : k < 51 := by decide) (hn : n < 2147483648 := by decide) : X G M R pc lv (.int (iI v) :: .int (iI z) :: rf G k i :: st) (hp m) c0 s0 res h' := by
  have e : ((z.toNat : Nat) : Int) = z := Int.toNat_of_nonneg hz.1
  exact x_iast d hsh (mem_dom0 hk hi) z.toNat e.symm (by omega) (by rw [e]; exact kk) hn
theorem y_bast {pc n : Nat} {z v : Int} (d : decode M.2.1 pc = .ok (.bastore, 1)) (hsh : shp k = .inl (1, n)) (hi : i < cntP k) (hz : 0 ≤ z ∧ z < n) (hv : -128 ≤ v ∧ v < 128) (kk : X G M R (pc + 1) lv st (hp (up3 m k i z v)) c0 s0 res h') (hk : k < 51 := by decide) (hn : n < 2147483648 := by decide) : X G M R pc lv (.int (iI v) :: .int (iI z) :: rf G k i :: st) (hp m) c0 s0 res h' := by
  have e : ((z.toNat : Nat) : Int) = z := Int.toNat_of_nonneg hz.1
  exact x_bast d hsh (mem_dom0 hk hi) z.toNat e.symm (by omega) hv (by rw [e]; exact kk) hn
theorem y_zast {pc n : Nat} {z v : Int} (d : decode M.2.1 pc = .ok (.bastore, 1)) (hsh : shp k = .inl (2, n)) (hi : i < cntP k) (hz : 0 ≤ z ∧ z < n) (hv : v = 0 ∨ v = 1) (kk : X G M R (pc + 1) lv st (hp (up3 m k i z v)) c0 s0 res h') (hk : k < 51 := by decide) (hn : n < 2147483648 := by decide) : X G M R pc lv (.int (iI v) :: .int (iI z) :: rf G k i :: st) (hp m) c0 s0 res h' := by
  have e : ((z.toNat : Nat) : Int) = z := Int.toNat_of_nonneg hz.1
  exact x_zast d hsh (mem_dom0 hk hi) z.toNat e.symm (by omega) hv (by rw [e]; exact kk) hn
theorem y_last {pc n : Nat} {z v : Int} (d : decode M.2.1 pc = .ok (.lastore, 1)) (hsh : shp k = .inl (3, n)) (hi : i < cntP k) (hz : 0 ≤ z ∧ z < n) (kk : X G M R (pc + 1) lv st (hp (up3 m k i z v)) c0 s0 res h') (hk : k < 51 := by decide) (hn : n < 2147483648 := by decide) : X G M R pc lv (.long (lI v) :: .int (iI z) :: rf G k i :: st) (hp m) c0 s0 res h' := by
  have e : ((z.toNat : Nat) : Int) = z := Int.toNat_of_nonneg hz.1
  exact x_last d hsh (mem_dom0 hk hi) z.toNat e.symm (by omega) (by rw [e]; exact kk) hn
theorem x_mem {pc : Nat} (e : m = m') (kk : X G M R pc lv st (hp m') c0 s0 res h') : X G M R pc lv st (hp m) c0 s0 res h' := by rw [e]; exact kk
theorem y_iret {pc : Nat} {x y : Int} (d : decode M.2.1 pc = .ok (.ireturn, 1)) (hr : M.2.2.2.1 = some .int) (e : x = y) (em : m = m') (hc : c0 ≤ R.cells := by decide) (hs : s0 ≤ R.slots := by decide) : X G M R pc lv [.int (iI x)] (hp m) c0 s0 (.inl (some (.int (iI y)))) (hp m') := by
  subst e; subst em
  exact x_iret d hr hc hs
theorem y_zret {pc : Nat} {b c : Prop} [Decidable b] [Decidable c] (d : decode M.2.1 pc = .ok (.ireturn, 1)) (hr : M.2.2.2.1 = some .boolean) (e : b ↔ c) (em : m = m') (hc : c0 ≤ R.cells := by decide) (hs : s0 ≤ R.slots := by decide) : X G M R pc lv [.int (iI (if b then 1 else 0))] (hp m) c0 s0 (.inl (some (.int (iI (if c then 1 else 0))))) (hp m') := by
  subst em
  have e2 : (if b then (1 : Int) else 0) = if c then 1 else 0 := by by_cases h : b <;> simp [h, e.symm]
  rw [e2]
  exact x_zret d hr (by split <;> rfl) hc hs
theorem y_z1ret {pc : Nat} {c : Prop} [Decidable c] (d : decode M.2.1 pc = .ok (.ireturn, 1)) (hr : M.2.2.2.1 = some .boolean) (e : c) (em : m = m') (hc : c0 ≤ R.cells := by decide) (hs : s0 ≤ R.slots := by decide) : X G M R pc lv [.int (iI 1)] (hp m) c0 s0 (.inl (some (.int (iI (if c then 1 else 0))))) (hp m') := by
  subst em
  rw [if_pos e]
  exact x_zret d hr rfl hc hs
theorem y_z0ret {pc : Nat} {c : Prop} [Decidable c] (d : decode M.2.1 pc = .ok (.ireturn, 1)) (hr : M.2.2.2.1 = some .boolean) (e : ¬ c) (em : m = m') (hc : c0 ≤ R.cells := by decide) (hs : s0 ≤ R.slots := by decide) : X G M R pc lv [.int (iI 0)] (hp m) c0 s0 (.inl (some (.int (iI (if c then 1 else 0))))) (hp m') := by
  subst em
  rw [if_neg e]
  exact x_zret d hr rfl hc hs
theorem y_lret {pc : Nat} {x y : Int} (d : decode M.2.1 pc = .ok (.lreturn, 1)) (hr : M.2.2.2.1 = some .long) (e : x = y) (em : m = m') (hc : c0 ≤ R.cells := by decide) (hs : s0 ≤ R.slots := by decide) : X G M R pc lv [.long (lI x)] (hp m) c0 s0 (.inl (some (.long (lI y)))) (hp m') := by
  subst e; subst em
  exact x_lret d hr hc hs
theorem y_vret {pc : Nat} (d : decode M.2.1 pc = .ok (.return_, 1)) (hr : M.2.2.2.1 = none) (em : m = m') (hc : c0 ≤ R.cells := by decide) (hs : s0 ≤ R.slots := by decide) : X G M R pc lv [] (hp m) c0 s0 (.inl none) (hp m') := by
  subst em
  exact x_vret d hr hc hs
end YR
/-- rooms of methods that make nothing: d frames below -/
def rmD (d : Nat) : Room := { frames := d, cells := 0, slots := 0, locals := 39 * d }
theorem up3_same {m : Mem} {k i : Nat} {j z : Int} : up3 m k i j z k i j = z := up3_at
theorem up3_apply (m : Mem) (k i : Nat) (j z : Int) (k' i' : Nat) (j' : Int) : up3 m k i j z k' i' j' = if k' = k ∧ i' = i ∧ j' = j then z else m k' i' j' := rfl
