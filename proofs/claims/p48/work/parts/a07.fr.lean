/-! rows with the values wanted; what a piece of the walk leaves alone -/
section Y8
variable {G : GG} {M : Mth} {R : Room} {pc : Nat} {lv lv' : List (Nat × Value)} {st : List Value} {h : Hp} {c0 s0 : Nat} {Q : PP} {k i : Nat}
theorem o_topI {x y : Int} (e : x = y) (kk : YY G M R pc lv (.int (iI y) :: st) h c0 s0 Q) : YY G M R pc lv (.int (iI x) :: st) h c0 s0 Q := by rw [e]; exact kk
theorem o_topL {x y : Int} (e : x = y) (kk : YY G M R pc lv (.long (lI y) :: st) h c0 s0 Q) : YY G M R pc lv (.long (lI x) :: st) h c0 s0 Q := by rw [e]; exact kk
theorem o_gI {idx ci j : Nat} {kds : List Nat} {z : Int} (d : decode M.2.1 pc = .ok (.getfield idx, 3)) (fl : FL M.1.cls idx ci j) (hsh : shp k = .inr (ci, kds)) (hkd : kds[j]? = some 0) (hm : (k, i) ∈ h.1) (e : h.2.1 k i (j : Int) = z) (kk : YY G M R (pc + 3) lv (.int (iI z) :: st) h c0 s0 Q) : YY G M R pc lv (rf G k i :: st) h c0 s0 Q := by
  subst e
  exact o_getI d fl hsh hkd hm kk
theorem o_gL {idx ci j : Nat} {kds : List Nat} {z : Int} (d : decode M.2.1 pc = .ok (.getfield idx, 3)) (fl : FL M.1.cls idx ci j) (hsh : shp k = .inr (ci, kds)) (hkd : kds[j]? = some 1) (hm : (k, i) ∈ h.1) (e : h.2.1 k i (j : Int) = z) (kk : YY G M R (pc + 3) lv (.long (lI z) :: st) h c0 s0 Q) : YY G M R pc lv (rf G k i :: st) h c0 s0 Q := by
  subst e
  exact o_getL d fl hsh hkd hm kk
theorem o_gR {idx ci j : Nat} {kds : List Nat} (a b : Nat) (d : decode M.2.1 pc = .ok (.getfield idx, 3)) (fl : FL M.1.cls idx ci j) (hsh : shp k = .inr (ci, kds)) (hkd : kds[j]? = some 2) (hm : (k, i) ∈ h.1) (hr : h.2.2.1 k i j = some (a, b)) (kk : YY G M R (pc + 3) lv (rf G a b :: st) h c0 s0 Q) : YY G M R pc lv (rf G k i :: st) h c0 s0 Q := o_getR d fl hsh hkd hr hm kk
theorem o_pI {idx ci j : Nat} {kds : List Nat} {z : Int} (d : decode M.2.1 pc = .ok (.putfield idx, 3)) (fl : FLw M.1.cls idx ci j .int false) (hsh : shp k = .inr (ci, kds)) (hkd : kds[j]? = some 0) (hm : (k, i) ∈ h.1) (kk : YY G M R (pc + 3) lv st (hset h k i (j : Int) z) c0 s0 Q) : YY G M R pc lv (.int (iI z) :: rf G k i :: st) h c0 s0 Q := o_putI d fl hsh hkd hm kk
theorem o_pL {idx ci j : Nat} {kds : List Nat} {z : Int} (d : decode M.2.1 pc = .ok (.putfield idx, 3)) (fl : FLw M.1.cls idx ci j .long false) (hsh : shp k = .inr (ci, kds)) (hkd : kds[j]? = some 1) (hm : (k, i) ∈ h.1) (kk : YY G M R (pc + 3) lv st (hset h k i (j : Int) z) c0 s0 Q) : YY G M R pc lv (.long (lI z) :: rf G k i :: st) h c0 s0 Q := o_putL d fl hsh hkd hm kk
theorem o_pZ {idx ci j : Nat} {kds : List Nat} {z : Int} (d : decode M.2.1 pc = .ok (.putfield idx, 3)) (fl : FLw M.1.cls idx ci j .boolean false) (hsh : shp k = .inr (ci, kds)) (hkd : kds[j]? = some 0) (hm : (k, i) ∈ h.1) (hz : z = 0 ∨ z = 1) (kk : YY G M R (pc + 3) lv st (hset h k i (j : Int) z) c0 s0 Q) : YY G M R pc lv (.int (iI z) :: rf G k i :: st) h c0 s0 Q := by
  refine o_put (h1 := hset h k i j z) (j := j) (kd := 0) d fl hsh hkd hm ?_ ?_ rfl rfl (fun _ _ hn => hset_ne hn) (by show Value.int (iI (up3 h.2.1 k i (j : Int) z k i j)) = _; rw [up3_at]) (fun j' hj _ => hset_fo j' hj) kk
  · rcases hz with rfl | rfl <;> rfl
  · rcases hz with rfl | rfl <;> rfl
theorem fits_i8 {z : Int} (hz : -128 ≤ z ∧ z < 128) : narrow .byte (.int (iI z)) = .int (iI z) := by
  show Value.int (iI z).toInt8.toInt32 = _
  rw [iI_b]
  congr 2
  unfold bI
  omega
theorem o_pB {idx ci j : Nat} {kds : List Nat} {z : Int} (d : decode M.2.1 pc = .ok (.putfield idx, 3)) (fl : FLw M.1.cls idx ci j .byte false) (hsh : shp k = .inr (ci, kds)) (hkd : kds[j]? = some 0) (hm : (k, i) ∈ h.1) (hz : -128 ≤ z ∧ z < 128) (kk : YY G M R (pc + 3) lv st (hset h k i (j : Int) z) c0 s0 Q) : YY G M R pc lv (.int (iI z) :: rf G k i :: st) h c0 s0 Q :=
  o_put (h1 := hset h k i j z) (j := j) (kd := 0) d fl hsh hkd hm (fits_i8 hz) (fits_b hz) rfl rfl (fun _ _ hn => hset_ne hn) (by show Value.int (iI (up3 h.2.1 k i (j : Int) z k i j)) = _; rw [up3_at]) (fun j' hj _ => hset_fo j' hj) kk
/-- a final number, a final byte, a final reference, in a constructor -/
theorem o_pFI {idx ci j : Nat} {kds : List Nat} {z : Int} (d : decode M.2.1 pc = .ok (.putfield idx, 3)) (fl : FLw M.1.cls idx ci j .int true) (hnm1 : M.1.name = "<init>") (hcl1 : ∀ q, vwCl[ci]? = some q → M.1.cls = q.1) (hsh : shp k = .inr (ci, kds)) (hkd : kds[j]? = some 0) (hm : (k, i) ∈ h.1) (kk : YY G M R (pc + 3) lv st (hset h k i (j : Int) z) c0 s0 Q) : YY G M R pc lv (.int (iI z) :: rf G k i :: st) h c0 s0 Q :=
  o_putF (h1 := hset h k i j z) (j := j) (kd := 0) d fl hnm1 hcl1 hsh hkd hm rfl rfl rfl rfl (fun _ _ hn => hset_ne hn) (by show Value.int (iI (up3 h.2.1 k i (j : Int) z k i j)) = _; rw [up3_at]) (fun j' hj _ => hset_fo j' hj) kk
theorem o_pFB {idx ci j : Nat} {kds : List Nat} {z : Int} (d : decode M.2.1 pc = .ok (.putfield idx, 3)) (fl : FLw M.1.cls idx ci j .byte true) (hnm1 : M.1.name = "<init>") (hcl1 : ∀ q, vwCl[ci]? = some q → M.1.cls = q.1) (hsh : shp k = .inr (ci, kds)) (hkd : kds[j]? = some 0) (hm : (k, i) ∈ h.1) (hz : -128 ≤ z ∧ z < 128) (kk : YY G M R (pc + 3) lv st (hset h k i (j : Int) z) c0 s0 Q) : YY G M R pc lv (.int (iI z) :: rf G k i :: st) h c0 s0 Q :=
  o_putF (h1 := hset h k i j z) (j := j) (kd := 0) d fl hnm1 hcl1 hsh hkd hm (fits_i8 hz) (fits_b hz) rfl rfl (fun _ _ hn => hset_ne hn) (by show Value.int (iI (up3 h.2.1 k i (j : Int) z k i j)) = _; rw [up3_at]) (fun j' hj _ => hset_fo j' hj) kk
theorem o_pFR {idx ci j a b : Nat} {kds : List Nat} {ty : FieldType} (d : decode M.2.1 pc = .ok (.putfield idx, 3)) (fl : FLw M.1.cls idx ci j ty true) (hnm1 : M.1.name = "<init>") (hcl1 : ∀ q, vwCl[ci]? = some q → M.1.cls = q.1) (hsh : shp k = .inr (ci, kds)) (hkd : kds[j]? = some 2) (hm : (k, i) ∈ h.1) (hn : narrow ty (rf G a b) = rf G a b) (hfit : fits ty (rf G a b) = true) (kk : YY G M R (pc + 3) lv st (rset h k i j (some (a, b))) c0 s0 Q) : YY G M R pc lv (rf G a b :: rf G k i :: st) h c0 s0 Q := by
  refine o_putF (h1 := rset h k i j (some (a, b))) (j := j) (kd := 2) d fl hnm1 hcl1 hsh hkd hm hn hfit rfl rfl (fun _ _ q => rset_ne q) ?_ (fun j' hj kd' => rset_fo j' hj) kk
  show va_rf (((rset h k i j (some (a, b))).2.2.1 k i j).map fun q => gad G q.1 q.2) = rf G a b
  rw [rset_at]
  rfl
/-- rows -/
theorem o_iaI {N : Nat} {z v : Int} (d : decode M.2.1 pc = .ok (.iaload, 1)) (hsh : shp k = .inl (0, N)) (hm : (k, i) ∈ h.1) (hz : 0 ≤ z ∧ z < N) (hN : N < 2147483648) (e : h.2.1 k i z = v) (kk : YY G M R (pc + 1) lv (.int (iI v) :: st) h c0 s0 Q) : YY G M R pc lv (.int (iI z) :: rf G k i :: st) h c0 s0 Q := by
  subst e
  have e2 : ((z.toNat : Nat) : Int) = z := Int.toNat_of_nonneg hz.1
  exact o_iald d hsh hm z.toNat e2.symm (by omega) (by rw [e2]; exact kk) hN
theorem o_baI {N : Nat} {z v : Int} (d : decode M.2.1 pc = .ok (.baload, 1)) (hsh : shp k = .inl (1, N)) (hm : (k, i) ∈ h.1) (hz : 0 ≤ z ∧ z < N) (hN : N < 2147483648) (e : h.2.1 k i z = v) (kk : YY G M R (pc + 1) lv (.int (iI v) :: st) h c0 s0 Q) : YY G M R pc lv (.int (iI z) :: rf G k i :: st) h c0 s0 Q := by
  subst e
  have e2 : ((z.toNat : Nat) : Int) = z := Int.toNat_of_nonneg hz.1
  exact o_bald d hsh hm z.toNat e2.symm (by omega) (by rw [e2]; exact kk) hN
theorem o_laI {N : Nat} {z v : Int} (d : decode M.2.1 pc = .ok (.laload, 1)) (hsh : shp k = .inl (3, N)) (hm : (k, i) ∈ h.1) (hz : 0 ≤ z ∧ z < N) (hN : N < 2147483648) (e : h.2.1 k i z = v) (kk : YY G M R (pc + 1) lv (.long (lI v) :: st) h c0 s0 Q) : YY G M R pc lv (.int (iI z) :: rf G k i :: st) h c0 s0 Q := by
  subst e
  have e2 : ((z.toNat : Nat) : Int) = z := Int.toNat_of_nonneg hz.1
  exact o_lald d hsh hm z.toNat e2.symm (by omega) (by rw [e2]; exact kk) hN
theorem o_aaI {tag N a' b' : Nat} {z : Int} {CC : String} (d : decode M.2.1 pc = .ok (.aaload, 1)) (hsh : shp k = .inl (tag + 5, N)) (ht : (xtys G)[tag + 5]? = some (G.2.1 (tag + 5), .object CC)) (hm : (k, i) ∈ h.1) (hz : 0 ≤ z ∧ z < N) (hN : N < 2147483648) (hr : h.2.2.1 k i z.toNat = some (a', b')) (kk : YY G M R (pc + 1) lv (rf G a' b' :: st) h c0 s0 Q) : YY G M R pc lv (.int (iI z) :: rf G k i :: st) h c0 s0 Q := by
  have e2 : ((z.toNat : Nat) : Int) = z := Int.toNat_of_nonneg hz.1
  exact o_aald d hsh ht hm z.toNat e2.symm (by omega) hr kk hN
theorem o_isI {N : Nat} {z v : Int} (d : decode M.2.1 pc = .ok (.iastore, 1)) (hsh : shp k = .inl (0, N)) (hm : (k, i) ∈ h.1) (hz : 0 ≤ z ∧ z < N) (hN : N < 2147483648) (kk : YY G M R (pc + 1) lv st (hset h k i z v) c0 s0 Q) : YY G M R pc lv (.int (iI v) :: .int (iI z) :: rf G k i :: st) h c0 s0 Q := by
  have e2 : ((z.toNat : Nat) : Int) = z := Int.toNat_of_nonneg hz.1
  exact o_iast d hsh hm z.toNat e2.symm (by omega) (by rw [e2]; exact kk) hN
theorem o_lsI {N : Nat} {z v : Int} (d : decode M.2.1 pc = .ok (.lastore, 1)) (hsh : shp k = .inl (3, N)) (hm : (k, i) ∈ h.1) (hz : 0 ≤ z ∧ z < N) (hN : N < 2147483648) (kk : YY G M R (pc + 1) lv st (hset h k i z v) c0 s0 Q) : YY G M R pc lv (.long (lI v) :: .int (iI z) :: rf G k i :: st) h c0 s0 Q := by
  have e2 : ((z.toNat : Nat) : Int) = z := Int.toNat_of_nonneg hz.1
  exact o_last d hsh hm z.toNat e2.symm (by omega) (by rw [e2]; exact kk) hN
theorem o_bsI {N : Nat} {z v : Int} (d : decode M.2.1 pc = .ok (.bastore, 1)) (hsh : shp k = .inl (1, N)) (hm : (k, i) ∈ h.1) (hz : 0 ≤ z ∧ z < N) (hv : -128 ≤ v ∧ v < 128) (hN : N < 2147483648) (kk : YY G M R (pc + 1) lv st (hset h k i z v) c0 s0 Q) : YY G M R pc lv (.int (iI v) :: .int (iI z) :: rf G k i :: st) h c0 s0 Q := by
  have e2 : ((z.toNat : Nat) : Int) = z := Int.toNat_of_nonneg hz.1
  exact o_bast d hsh hm z.toNat e2.symm (by omega) hv (by rw [e2]; exact kk) hN
theorem o_alN {tag N : Nat} {ty : FieldType} (d : decode M.2.1 pc = .ok (.arraylength, 1)) (hsh : shp k = .inl (tag, N)) (hm : (k, i) ∈ h.1) (ht : (xtys G)[tag]? = some (G.2.1 tag, ty)) (kk : YY G M R (pc + 1) lv (.int (iI (N : Nat)) :: st) h c0 s0 Q) : YY G M R pc lv (rf G k i :: st) h c0 s0 Q := o_alen d hsh hm ht kk
/-- a branch of two equal numbers -/
theorem o_icmpS {a b off : Int} (tgt : Nat) (d : decode M.2.1 pc = .ok (.if_icmp .eq off, 3)) (ht : (pc : Int) + off = (tgt : Int)) (e : a = b) (kk : YY G M R tgt lv st h c0 s0 Q) : YY G M R pc lv (.int (iI b) :: .int (iI a) :: st) h c0 s0 Q := by
  intro p l e' s m args below meth c H locs ls hC hR hS hl
  subst e
  exact lv_icmp_eq hC.1 hC.2.1 d ht (fun _ => kk p l e' s m args below meth c H locs ls hC hR hS hl) (fun q => absurd rfl q)
theorem o_sizeD (kk : ∀ n, h.2.2.2 = some n → YY G M R pc lv st h c0 s0 Q) (he : ∃ n, h.2.2.2 = some n) : YY G M R pc lv st h c0 s0 Q := by
  obtain ⟨n, hn⟩ := he
  exact kk n hn
end Y8
/-- what a piece of the walk leaves alone: S the addresses that it may write at; what is new lies at new addresses -/
def fre (h : Hp) (a : Nat) : Prop := ∀ k, 51 ≤ k → (k, a) ∉ h.1
def Fr (S : Nat → Prop) (h h1 : Hp) : Prop := (∀ q ∈ h.1, q ∈ h1.1) ∧ (∀ k, k < 51 → h1.2.1 k = h.2.1 k ∧ h1.2.2.1 k = h.2.2.1 k) ∧ (∀ k i, 51 ≤ k → (k, i) ∈ h.1 → ¬ S i → h1.2.1 k i = h.2.1 k i ∧ h1.2.2.1 k i = h.2.2.1 k i) ∧ (∀ k i, (k, i) ∈ h1.1 → (k, i) ∉ h.1 → 51 ≤ k ∧ fre h i) ∧ ∃ n, h1.2.2.2 = some n
theorem Fr.rf {S : Nat → Prop} {h : Hp} (hn : ∃ n, h.2.2.2 = some n) : Fr S h h := ⟨fun _ a => a, fun _ _ => ⟨rfl, rfl⟩, fun _ _ _ _ _ => ⟨rfl, rfl⟩, fun _ _ a b => absurd a b, hn⟩
theorem Fr.tr {S S' : Nat → Prop} {h h1 h2 : Hp} (a : Fr S h h1) (b : Fr S' h1 h2) (hS : ∀ i, S' i → S i ∨ fre h i) : Fr S h h2 := by
  refine ⟨fun q hq => b.1 q (a.1 q hq), fun k hk => ⟨(b.2.1 k hk).1.trans (a.2.1 k hk).1, (b.2.1 k hk).2.trans (a.2.1 k hk).2⟩, fun k i hk hm hn => ?_, fun k i hm hn => ?_, b.2.2.2.2⟩
  · have h1 := a.2.2.1 k i hk hm hn
    have h2 := b.2.2.1 k i hk (a.1 _ hm) (fun z => (hS i z).elim hn (fun w => w k hk hm))
    exact ⟨h2.1.trans h1.1, h2.2.trans h1.2⟩
  · by_cases hm1 : (k, i) ∈ h1.1
    · exact a.2.2.2.1 k i hm1 hn
    · obtain ⟨g1, g2⟩ := b.2.2.2.1 k i hm hm1
      exact ⟨g1, fun k' hk' hm' => g2 k' hk' (a.1 _ hm')⟩
theorem Fr.t {S : Nat → Prop} {h h1 h2 : Hp} (a : Fr S h h1) (b : Fr S h1 h2) : Fr S h h2 := a.tr b (fun _ z => .inl z)
theorem Fr.w {S S' : Nat → Prop} {h h1 : Hp} (a : Fr S h h1) (hS : ∀ i, S i → S' i ∨ fre h i) : Fr S' h h1 := ⟨a.1, a.2.1, fun k i hk hm hn => a.2.2.1 k i hk hm (fun z => (hS i z).elim hn (fun w => w k hk hm)), a.2.2.2.1, a.2.2.2.2⟩
theorem Fr.cl {S : Nat → Prop} {h h1 : Hp} (a : Fr S h h1) (hc : CL h) : CL h1 := ⟨fun q hq => a.1 q (hc.1 q hq), fun q hq hk => by
  by_cases hm : q ∈ h.1
  · exact hc.2.1 q hm hk
  · exact absurd (a.2.2.2.1 q.1 q.2 hq hm).1 (by omega), fun k hk => (a.2.1 k hk).2.trans (hc.2.2 k hk)⟩
theorem Fr_fre {S : Nat → Prop} {h h1 : Hp} (a : Fr S h h1) {i : Nat} (hf : fre h1 i) : fre h i := fun k hk hm => hf k hk (a.1 _ hm)
theorem Fr_hset {S : Nat → Prop} {h h1 : Hp} (a : Fr S h h1) {k i : Nat} {j z : Int} (hk : 51 ≤ k) (hS : S i ∨ fre h i) : Fr S h (hset h1 k i j z) := by
  refine ⟨a.1, fun k' hk' => ⟨?_, (a.2.1 k' hk').2⟩, fun k' i' hk' hm hn => ⟨?_, (a.2.2.1 k' i' hk' hm hn).2⟩, a.2.2.2.1, a.2.2.2.2⟩
  · rw [← (a.2.1 k' hk').1]
    exact funext fun i' => up3_ne (fun z => by omega)
  · rw [← (a.2.2.1 k' i' hk' hm hn).1]
    exact up3_ne (fun z => hS.elim (fun w => hn (by rw [z.2]; exact w)) (fun w => w k' hk' (by rw [← z.2]; exact hm)))
theorem Fr_rset {S : Nat → Prop} {h h1 : Hp} (a : Fr S h h1) {k i j : Nat} {v : Option (Nat × Nat)} (hk : 51 ≤ k) (hS : S i ∨ fre h i) : Fr S h (rset h1 k i j v) := by
  refine ⟨a.1, fun k' hk' => ⟨(a.2.1 k' hk').1, ?_⟩, fun k' i' hk' hm hn => ⟨(a.2.2.1 k' i' hk' hm hn).1, ?_⟩, a.2.2.2.1, a.2.2.2.2⟩
  · rw [← (a.2.1 k' hk').2]
    exact funext fun i' => funext fun j' => if_neg (fun z => by omega)
  · rw [← (a.2.2.1 k' i' hk' hm hn).2]
    exact funext fun j' => if_neg (fun z => hS.elim (fun w => hn (by rw [z.2.1]; exact w)) (fun w => w k' hk' (by rw [← z.2.1]; exact hm)))
theorem Fr_nw {S : Nat → Prop} {h h1 : Hp} (a : Fr S h h1) {k n : Nat} (hk : 51 ≤ k) (hf : fre h1 n) : Fr S h (nw h1 k n) := by
  have e : Fr S h1 (nw h1 k n) := by
    refine ⟨fun q hq => List.mem_append_left _ hq, fun k' hk' => ⟨funext fun i' => if_neg (fun z => by omega), funext fun i' => if_neg (fun z => by omega)⟩, fun k' i' hk' hm hn => ⟨if_neg (fun z => hf k' hk' (by rw [← z.2]; exact hm)), if_neg (fun z => hf k' hk' (by rw [← z.2]; exact hm))⟩, fun k' i' hm hn => ?_, ⟨_, rfl⟩⟩
    rcases List.mem_append.mp hm with q | q
    · exact absurd q hn
    · have e := List.mem_singleton.mp q
      cases e
      exact ⟨hk, hf⟩
  exact a.t e
theorem Fr_size {S : Nat → Prop} {h h1 : Hp} (a : Fr S h h1) (n : Nat) : Fr S h (h1.1, h1.2.1, h1.2.2.1, some n) := ⟨a.1, a.2.1, a.2.2.1, a.2.2.2.1, ⟨n, rfl⟩⟩
theorem Fr_cpR {S : Nat → Prop} {h h1 : Hp} (a : Fr S h h1) {ks is k i sp dp c n : Nat} (hk : 51 ≤ k) (hS : S i ∨ fre h i) : Fr S h (cpR h1 ks is k i sp dp c n) := by
  refine ⟨a.1, fun k' hk' => ⟨(a.2.1 k' hk').1, ?_⟩, fun k' i' hk' hm hn => ⟨(a.2.2.1 k' i' hk' hm hn).1, ?_⟩, a.2.2.2.1, ⟨n, rfl⟩⟩
  · rw [← (a.2.1 k' hk').2]
    exact funext fun i' => funext fun j' => if_neg (fun z => by omega)
  · rw [← (a.2.2.1 k' i' hk' hm hn).2]
    exact funext fun j' => if_neg (fun z => hS.elim (fun w => hn (by rw [z.2.1]; exact w)) (fun w => w k' hk' (by rw [← z.2.1]; exact hm)))
theorem Fr_cpB {S : Nat → Prop} {h h1 : Hp} (a : Fr S h h1) {f : Nat → Int} {k i dp c n : Nat} (hk : 51 ≤ k) (hS : S i ∨ fre h i) : Fr S h (cpB h1 f k i dp c n) := by
  refine ⟨a.1, fun k' hk' => ⟨?_, (a.2.1 k' hk').2⟩, fun k' i' hk' hm hn => ⟨?_, (a.2.2.1 k' i' hk' hm hn).2⟩, a.2.2.2.1, ⟨n, rfl⟩⟩
  · rw [← (a.2.1 k' hk').1]
    exact funext fun i' => funext fun j' => if_neg (fun z => by omega)
  · rw [← (a.2.2.1 k' i' hk' hm hn).1]
    exact funext fun j' => if_neg (fun z => hS.elim (fun w => hn (by rw [z.2.1]; exact w)) (fun w => w k' hk' (by rw [← z.2.1]; exact hm)))
theorem Fr_cln {S : Nat → Prop} {h h1 : Hp} (a : Fr S h h1) {k i q n : Nat} (hk : 51 ≤ k) (hf : fre h1 q) : Fr S h (cln h1 k i q n) := by
  have e : Fr S h1 (cln h1 k i q n) := by
    refine ⟨fun p hp => List.mem_append_left _ hp, fun k' hk' => ⟨funext fun i' => if_neg (fun z => by omega), rfl⟩, fun k' i' hk' hm hn => ⟨if_neg (fun z => hf k' hk' (by rw [← z.2]; exact hm)), rfl⟩, fun k' i' hm hn => ?_, ⟨_, rfl⟩⟩
    rcases List.mem_append.mp hm with p | p
    · exact absurd p hn
    · have e := List.mem_singleton.mp p
      cases e
      exact ⟨hk, hf⟩
  exact a.t e
theorem nw_in {h : Hp} {k n : Nat} : (k, n) ∈ (nw h k n).1 := List.mem_append_right _ (List.mem_singleton.mpr rfl)
theorem nw_old {h : Hp} {k n : Nat} {q : Nat × Nat} (hq : q ∈ h.1) : q ∈ (nw h k n).1 := List.mem_append_left _ hq
theorem nw_m {h : Hp} {k n : Nat} : (nw h k n).2.1 k n = fun _ => 0 := zn_m
theorem nw_r {h : Hp} {k n : Nat} : (nw h k n).2.2.1 k n = fun _ => none := zn_r
theorem hset_at {h : Hp} {k i : Nat} {j z : Int} : (hset h k i j z).2.1 k i j = z := up3_at
theorem hset_off {h : Hp} {k i k' i' : Nat} {j j' z : Int} (hn : ¬ (k' = k ∧ i' = i ∧ j' = j)) : (hset h k i j z).2.1 k' i' j' = h.2.1 k' i' j' := if_neg hn
theorem rset_off {h : Hp} {k i j k' i' j' : Nat} {v : Option (Nat × Nat)} (hn : ¬ (k' = k ∧ i' = i ∧ j' = j)) : (rset h k i j v).2.2.1 k' i' j' = h.2.2.1 k' i' j' := if_neg hn
/-- rooms of the law's methods: d frames below, c cells and s places -/
def rmL (d c s : Nat) : Room := { frames := 40 + d, cells := c, slots := s, locals := 1500 + 60 * d }
