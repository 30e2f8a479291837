/-! the law's walk: the same heap of names, with posts as predicates; what the law makes lies at names (part, address) -/
abbrev PP : Type := Option Value → Hp → Prop
def yQ (G : GG) (Q : PP) : Array Value → State → Outcome → State → Prop := fun _ _ o t => ∃ v h1, o = .returned v ∧ Q v h1 ∧ xR G h1 t.heap
def yX : String → State → State → Prop := fun _ _ _ => False
def YY (G : GG) (M : Mth) (R : Room) (pc : Nat) (lv : List (Nat × Value)) (st : List Value) (h : Hp) (c0 s0 : Nat) (Q : PP) : Prop :=
  ∀ (p : Program) (l : Launch) (e : Env) (s : State) (m : MethodId) (args : Array Value) (below : List Frame) (meth : Method) (c : Code) (H : Heap) (locs : List Loc) (ls : Array Slot),
    xC G M p l s m args meth c → xR G h H → va_S (xA G) s.heap H locs → lv_has ls M.2.2.1 lv →
    W p l e R s m args below meth c H locs c0 s0 (vx_MQ below (yQ G Q) yX args s R.cells R.slots (xA G)) (F0 m pc ls st)
section YYR
variable {G : GG} {M M' : Mth} {R R' : Room} {pc : Nat} {lv lv' : List (Nat × Value)} {st : List Value} {h : Hp} {c0 s0 : Nat} {Q : PP} {k i : Nat}
theorem o_lv (is : List Nat) (hs : is.filterMap (fun i => lv[i]?) = lv') (k : YY G M R pc lv' st h c0 s0 Q) : YY G M R pc lv st h c0 s0 Q := by
  intro p l e s m args below meth c H locs ls hC hR hS hl
  exact k p l e s m args below meth c H locs ls hC hR hS (lv_sub hl is hs)
theorem o_top {v v' : Value} (e : v = v') (k : YY G M R pc lv (v' :: st) h c0 s0 Q) : YY G M R pc lv (v :: st) h c0 s0 Q := by rw [e]; exact k
theorem o_widen {k n : Nat} (h1 : c0 ≤ k) (h2 : s0 ≤ n) (kk : YY G M R pc lv st h k n Q) : YY G M R pc lv st h c0 s0 Q := by
  intro p l e s m args below meth c H locs ls hC hR hS hl
  exact W.widen h1 h2 (kk p l e s m args below meth c H locs ls hC hR hS hl)
theorem o_iconst {n : Int} (d : decode M.2.1 pc = .ok (.iconst n, 1)) (k : YY G M R (pc + 1) lv (.int (iI n) :: st) h c0 s0 Q) : YY G M R pc lv (st) h c0 s0 Q := by
  intro p l e s m args below meth c H locs ls hC hR hS hl
  exact lv_iconst hC.1 hC.2.1 d rfl (k p l e s m args below meth c H locs ls hC hR hS hl)
theorem o_bipush {n z : Int} (d : decode M.2.1 pc = .ok (.bipush n, 2)) (hv : (Int8.ofInt n).toInt32 = iI z) (k : YY G M R (pc + 2) lv (.int (iI z) :: st) h c0 s0 Q) : YY G M R pc lv (st) h c0 s0 Q := by
  intro p l e s m args below meth c H locs ls hC hR hS hl
  exact lv_bipush hC.1 hC.2.1 d hv (k p l e s m args below meth c H locs ls hC hR hS hl)
theorem o_sipush {n z : Int} (d : decode M.2.1 pc = .ok (.sipush n, 3)) (hv : (Int16.ofInt n).toInt32 = iI z) (k : YY G M R (pc + 3) lv (.int (iI z) :: st) h c0 s0 Q) : YY G M R pc lv (st) h c0 s0 Q := by
  intro p l e s m args below meth c H locs ls hC hR hS hl
  exact lv_sipush hC.1 hC.2.1 d hv (k p l e s m args below meth c H locs ls hC hR hS hl)
theorem o_lconst {n : Fin 2} {z : Int} (d : decode M.2.1 pc = .ok (.lconst n, 1)) (hv : Int64.ofNat (n : Nat) = lI z) (k : YY G M R (pc + 1) lv (.long (lI z) :: st) h c0 s0 Q) : YY G M R pc lv (st) h c0 s0 Q := by
  intro p l e s m args below meth c H locs ls hC hR hS hl
  exact lv_lconst hC.1 hC.2.1 d hv (k p l e s m args below meth c H locs ls hC hR hS hl)
theorem o_null (d : decode M.2.1 pc = .ok (.aconst_null, 1)) (k : YY G M R (pc + 1) lv (.null :: st) h c0 s0 Q) : YY G M R pc lv (st) h c0 s0 Q := by
  intro p l e s m args below meth c H locs ls hC hR hS hl
  exact lv_null hC.1 hC.2.1 d (k p l e s m args below meth c H locs ls hC hR hS hl)
theorem o_dconst0 (d : decode M.2.1 pc = .ok (.dconst 0, 1)) (k : YY G M R (pc + 1) lv (.double FP.dconst0 :: st) h c0 s0 Q) : YY G M R pc lv (st) h c0 s0 Q := by
  intro p l e s m args below meth c H locs ls hC hR hS hl
  exact lv_dconst0 hC.1 hC.2.1 d (k p l e s m args below meth c H locs ls hC hR hS hl)
theorem o_iload {i : Nat} {x : Int32} (d : decode M.2.1 pc = .ok (.iload i, 2)) (a : Nat) (hk : lv[a]? = some (i, .int x)) (k : YY G M R (pc + 2) lv (.int x :: st) h c0 s0 Q) : YY G M R pc lv (st) h c0 s0 Q := by
  intro p l e s m args below meth c H locs ls hC hR hS hl
  exact lv_iload hC.1 hC.2.1 d (lv_at hl a hk) (k p l e s m args below meth c H locs ls hC hR hS hl)
theorem o_iload_n {n : Fin 4} {x : Int32} (d : decode M.2.1 pc = .ok (.iload_n n, 1)) (a : Nat) (hk : lv[a]? = some ((n : Nat), .int x)) (k : YY G M R (pc + 1) lv (.int x :: st) h c0 s0 Q) : YY G M R pc lv (st) h c0 s0 Q := by
  intro p l e s m args below meth c H locs ls hC hR hS hl
  exact lv_iload_n hC.1 hC.2.1 d rfl (lv_at hl a hk) (k p l e s m args below meth c H locs ls hC hR hS hl)
theorem o_istore {i : Nat} {x : Int32} (d : decode M.2.1 pc = .ok (.istore i, 2)) (hn : i < M.2.2.1) (hlv : (i, Value.int x) :: lv.filter (fun q => !(q.1 == i) && !(q.1 + 1 == i && q.2.category == 2)) = lv') (k : YY G M R (pc + 2) lv' st h c0 s0 Q) : YY G M R pc lv (.int x :: st) h c0 s0 Q := by
  intro p l e s m args below meth c H locs ls hC hR hS hl
  exact lv_istore hC.1 hC.2.1 d hl hn hlv (fun ls' hl' => k p l e s m args below meth c H locs ls' hC hR hS hl')
theorem o_istore_n {n : Fin 4} {i : Nat} {x : Int32} (d : decode M.2.1 pc = .ok (.istore_n n, 1)) (hi : (n : Nat) = i) (hn : i < M.2.2.1) (hlv : (i, Value.int x) :: lv.filter (fun q => !(q.1 == i) && !(q.1 + 1 == i && q.2.category == 2)) = lv') (k : YY G M R (pc + 1) lv' st h c0 s0 Q) : YY G M R pc lv (.int x :: st) h c0 s0 Q := by
  intro p l e s m args below meth c H locs ls hC hR hS hl
  exact lv_istore_n hC.1 hC.2.1 d hi hl hn hlv (fun ls' hl' => k p l e s m args below meth c H locs ls' hC hR hS hl')
theorem o_aload {i : Nat} {x : Nat} (d : decode M.2.1 pc = .ok (.aload i, 2)) (a : Nat) (hk : lv[a]? = some (i, .ref x)) (k : YY G M R (pc + 2) lv (.ref x :: st) h c0 s0 Q) : YY G M R pc lv (st) h c0 s0 Q := by
  intro p l e s m args below meth c H locs ls hC hR hS hl
  exact lv_aload hC.1 hC.2.1 d (lv_at hl a hk) (k p l e s m args below meth c H locs ls hC hR hS hl)
theorem o_aload_n {n : Fin 4} {x : Nat} (d : decode M.2.1 pc = .ok (.aload_n n, 1)) (a : Nat) (hk : lv[a]? = some ((n : Nat), .ref x)) (k : YY G M R (pc + 1) lv (.ref x :: st) h c0 s0 Q) : YY G M R pc lv (st) h c0 s0 Q := by
  intro p l e s m args below meth c H locs ls hC hR hS hl
  exact lv_aload_n hC.1 hC.2.1 d rfl (lv_at hl a hk) (k p l e s m args below meth c H locs ls hC hR hS hl)
theorem o_astore {i : Nat} {x : Nat} (d : decode M.2.1 pc = .ok (.astore i, 2)) (hn : i < M.2.2.1) (hlv : (i, Value.ref x) :: lv.filter (fun q => !(q.1 == i) && !(q.1 + 1 == i && q.2.category == 2)) = lv') (k : YY G M R (pc + 2) lv' st h c0 s0 Q) : YY G M R pc lv (.ref x :: st) h c0 s0 Q := by
  intro p l e s m args below meth c H locs ls hC hR hS hl
  exact lv_astore hC.1 hC.2.1 d hl hn hlv (fun ls' hl' => k p l e s m args below meth c H locs ls' hC hR hS hl')
theorem o_astore_n {n : Fin 4} {i : Nat} {x : Nat} (d : decode M.2.1 pc = .ok (.astore_n n, 1)) (hi : (n : Nat) = i) (hn : i < M.2.2.1) (hlv : (i, Value.ref x) :: lv.filter (fun q => !(q.1 == i) && !(q.1 + 1 == i && q.2.category == 2)) = lv') (k : YY G M R (pc + 1) lv' st h c0 s0 Q) : YY G M R pc lv (.ref x :: st) h c0 s0 Q := by
  intro p l e s m args below meth c H locs ls hC hR hS hl
  exact lv_astore_n hC.1 hC.2.1 d hi hl hn hlv (fun ls' hl' => k p l e s m args below meth c H locs ls' hC hR hS hl')
theorem o_lload {i : Nat} {x : Int64} (d : decode M.2.1 pc = .ok (.lload i, 2)) (a : Nat) (hk : lv[a]? = some (i, .long x)) (k : YY G M R (pc + 2) lv (.long x :: st) h c0 s0 Q) : YY G M R pc lv (st) h c0 s0 Q := by
  intro p l e s m args below meth c H locs ls hC hR hS hl
  exact lv_lload hC.1 hC.2.1 d (lv_at hl a hk) (k p l e s m args below meth c H locs ls hC hR hS hl)
theorem o_lload_n {n : Fin 4} {x : Int64} (d : decode M.2.1 pc = .ok (.lload_n n, 1)) (a : Nat) (hk : lv[a]? = some ((n : Nat), .long x)) (k : YY G M R (pc + 1) lv (.long x :: st) h c0 s0 Q) : YY G M R pc lv (st) h c0 s0 Q := by
  intro p l e s m args below meth c H locs ls hC hR hS hl
  exact lv_lload_n hC.1 hC.2.1 d rfl (lv_at hl a hk) (k p l e s m args below meth c H locs ls hC hR hS hl)
theorem o_lstore {i : Nat} {x : Int64} (d : decode M.2.1 pc = .ok (.lstore i, 2)) (hn : i + 1 < M.2.2.1) (hlv : (i, Value.long x) :: lv.filter (fun q => !(q.1 == i) && (!(q.1 == i + 1) && !(q.1 + 1 == i && q.2.category == 2))) = lv') (k : YY G M R (pc + 2) lv' st h c0 s0 Q) : YY G M R pc lv (.long x :: st) h c0 s0 Q := by
  intro p l e s m args below meth c H locs ls hC hR hS hl
  exact lv_lstore hC.1 hC.2.1 d hl hn hlv (fun ls' hl' => k p l e s m args below meth c H locs ls' hC hR hS hl')
theorem o_lstore_n {n : Fin 4} {i : Nat} {x : Int64} (d : decode M.2.1 pc = .ok (.lstore_n n, 1)) (hi : (n : Nat) = i) (hn : i + 1 < M.2.2.1) (hlv : (i, Value.long x) :: lv.filter (fun q => !(q.1 == i) && (!(q.1 == i + 1) && !(q.1 + 1 == i && q.2.category == 2))) = lv') (k : YY G M R (pc + 1) lv' st h c0 s0 Q) : YY G M R pc lv (.long x :: st) h c0 s0 Q := by
  intro p l e s m args below meth c H locs ls hC hR hS hl
  exact lv_lstore_n hC.1 hC.2.1 d hi hl hn hlv (fun ls' hl' => k p l e s m args below meth c H locs ls' hC hR hS hl')
theorem o_iinc {i : Nat} {n z : Int} (d : decode M.2.1 pc = .ok (.iinc i n, 3)) (a : Nat) (hk : lv[a]? = some (i, .int (iI z))) (hn : i < M.2.2.1) (hlv : (i, Value.int (iI (z + n))) :: lv.filter (fun q => !(q.1 == i) && !(q.1 + 1 == i && q.2.category == 2)) = lv') (k : YY G M R (pc + 3) lv' st h c0 s0 Q) : YY G M R pc lv st h c0 s0 Q := by
  intro p l e s m args below meth c H locs ls hC hR hS hl
  exact lv_iinc hC.1 hC.2.1 d hl hk (iI_add z n) hn hlv (fun ls' hl' => k p l e s m args below meth c H locs ls' hC hR hS hl')
theorem o_iadd {a b : Int} (d : decode M.2.1 pc = .ok (.iadd, 1)) (k : YY G M R (pc + 1) lv (.int (iI (a + b)) :: st) h c0 s0 Q) : YY G M R pc lv (.int (iI b) :: .int (iI a) :: st) h c0 s0 Q := by
  intro p l e s m args below meth c H locs ls hC hR hS hl
  refine lv_iadd hC.1 hC.2.1 d ?_
  rw [iI_add]
  exact k p l e s m args below meth c H locs ls hC hR hS hl
theorem o_isub {a b : Int} (d : decode M.2.1 pc = .ok (.isub, 1)) (k : YY G M R (pc + 1) lv (.int (iI (a - b)) :: st) h c0 s0 Q) : YY G M R pc lv (.int (iI b) :: .int (iI a) :: st) h c0 s0 Q := by
  intro p l e s m args below meth c H locs ls hC hR hS hl
  refine lv_isub hC.1 hC.2.1 d ?_
  rw [iI_sub]
  exact k p l e s m args below meth c H locs ls hC hR hS hl
theorem o_imul {a b : Int} (d : decode M.2.1 pc = .ok (.imul, 1)) (k : YY G M R (pc + 1) lv (.int (iI (a * b)) :: st) h c0 s0 Q) : YY G M R pc lv (.int (iI b) :: .int (iI a) :: st) h c0 s0 Q := by
  intro p l e s m args below meth c H locs ls hC hR hS hl
  refine lv_imul hC.1 hC.2.1 d ?_
  rw [iI_mul]
  exact k p l e s m args below meth c H locs ls hC hR hS hl
theorem o_ineg {a : Int} (d : decode M.2.1 pc = .ok (.ineg, 1)) (k : YY G M R (pc + 1) lv (.int (iI (-a)) :: st) h c0 s0 Q) : YY G M R pc lv (.int (iI a) :: st) h c0 s0 Q := by
  intro p l e s m args below meth c H locs ls hC hR hS hl
  refine lv_ineg hC.1 hC.2.1 d ?_
  rw [iI_neg]
  exact k p l e s m args below meth c H locs ls hC hR hS hl
theorem o_idiv {a b : Int} (d : decode M.2.1 pc = .ok (.idiv, 1)) (ha : 0 ≤ a ∧ a < 2147483648) (hb : 0 < b ∧ b < 2147483648) (k : YY G M R (pc + 1) lv (.int (iI (a / b)) :: st) h c0 s0 Q) : YY G M R pc lv (.int (iI b) :: .int (iI a) :: st) h c0 s0 Q := by
  intro p l e s m args below meth c H locs ls hC hR hS hl
  refine lv_idiv hC.1 hC.2.1 d (iI_ne0 ⟨by omega, by omega⟩ (by omega)) ?_
  rw [iI_div ⟨by omega, by omega⟩ ⟨by omega, by omega⟩ ha.1 hb.1]
  exact k p l e s m args below meth c H locs ls hC hR hS hl
theorem o_irem {a b : Int} (d : decode M.2.1 pc = .ok (.irem, 1)) (ha : 0 ≤ a ∧ a < 2147483648) (hb : 0 < b ∧ b < 2147483648) (k : YY G M R (pc + 1) lv (.int (iI (a % b)) :: st) h c0 s0 Q) : YY G M R pc lv (.int (iI b) :: .int (iI a) :: st) h c0 s0 Q := by
  intro p l e s m args below meth c H locs ls hC hR hS hl
  refine lv_irem hC.1 hC.2.1 d (iI_ne0 ⟨by omega, by omega⟩ (by omega)) ?_
  rw [iI_rem ⟨by omega, by omega⟩ ⟨by omega, by omega⟩ ha.1 hb.1]
  exact k p l e s m args below meth c H locs ls hC hR hS hl
theorem o_ladd {a b : Int} (d : decode M.2.1 pc = .ok (.ladd, 1)) (k : YY G M R (pc + 1) lv (.long (lI (a + b)) :: st) h c0 s0 Q) : YY G M R pc lv (.long (lI b) :: .long (lI a) :: st) h c0 s0 Q := by
  intro p l e s m args below meth c H locs ls hC hR hS hl
  refine lv_ladd hC.1 hC.2.1 d ?_
  rw [lI_add]
  exact k p l e s m args below meth c H locs ls hC hR hS hl
theorem o_lsub {a b : Int} (d : decode M.2.1 pc = .ok (.lsub, 1)) (k : YY G M R (pc + 1) lv (.long (lI (a - b)) :: st) h c0 s0 Q) : YY G M R pc lv (.long (lI b) :: .long (lI a) :: st) h c0 s0 Q := by
  intro p l e s m args below meth c H locs ls hC hR hS hl
  refine lv_lsub hC.1 hC.2.1 d ?_
  rw [lI_sub]
  exact k p l e s m args below meth c H locs ls hC hR hS hl
theorem o_lmul {a b : Int} (d : decode M.2.1 pc = .ok (.lmul, 1)) (k : YY G M R (pc + 1) lv (.long (lI (a * b)) :: st) h c0 s0 Q) : YY G M R pc lv (.long (lI b) :: .long (lI a) :: st) h c0 s0 Q := by
  intro p l e s m args below meth c H locs ls hC hR hS hl
  refine lv_lmul hC.1 hC.2.1 d ?_
  rw [lI_mul]
  exact k p l e s m args below meth c H locs ls hC hR hS hl
theorem o_ldiv {a b : Int} (d : decode M.2.1 pc = .ok (.ldiv, 1)) (ha : 0 ≤ a ∧ a < 9223372036854775808) (hb : 0 < b ∧ b < 9223372036854775808) (k : YY G M R (pc + 1) lv (.long (lI (a / b)) :: st) h c0 s0 Q) : YY G M R pc lv (.long (lI b) :: .long (lI a) :: st) h c0 s0 Q := by
  intro p l e s m args below meth c H locs ls hC hR hS hl
  refine lv_ldiv hC.1 hC.2.1 d (lI_ne0 ⟨by omega, by omega⟩ (by omega)) ?_
  rw [lI_div ⟨by omega, by omega⟩ ⟨by omega, by omega⟩ ha.1 hb.1]
  exact k p l e s m args below meth c H locs ls hC hR hS hl
theorem o_i2l {a : Int} (d : decode M.2.1 pc = .ok (.i2l, 1)) (ha : inI a) (k : YY G M R (pc + 1) lv (.long (lI a) :: st) h c0 s0 Q) : YY G M R pc lv (.int (iI a) :: st) h c0 s0 Q := by
  intro p l e s m args below meth c H locs ls hC hR hS hl
  refine lv_i2l hC.1 hC.2.1 d (iI_l ha) ?_
  skip
  exact k p l e s m args below meth c H locs ls hC hR hS hl
theorem o_l2i {a : Int} (d : decode M.2.1 pc = .ok (.l2i, 1)) (k : YY G M R (pc + 1) lv (.int (iI a) :: st) h c0 s0 Q) : YY G M R pc lv (.long (lI a) :: st) h c0 s0 Q := by
  intro p l e s m args below meth c H locs ls hC hR hS hl
  refine lv_l2i hC.1 hC.2.1 d (lI_i a) ?_
  skip
  exact k p l e s m args below meth c H locs ls hC hR hS hl
theorem o_i2b {a : Int} (d : decode M.2.1 pc = .ok (.i2b, 1)) (k : YY G M R (pc + 1) lv (.int (iI (bI a)) :: st) h c0 s0 Q) : YY G M R pc lv (.int (iI a) :: st) h c0 s0 Q := by
  intro p l e s m args below meth c H locs ls hC hR hS hl
  refine lv_i2b hC.1 hC.2.1 d (iI_b a) ?_
  skip
  exact k p l e s m args below meth c H locs ls hC hR hS hl
theorem o_lcmp {a b : Int} (d : decode M.2.1 pc = .ok (.lcmp, 1)) (ha : inL a) (hb : inL b) (k : YY G M R (pc + 1) lv (.int (iI (if b < a then 1 else if a = b then 0 else -1)) :: st) h c0 s0 Q) : YY G M R pc lv (.long (lI b) :: .long (lI a) :: st) h c0 s0 Q := by
  intro p l e s m args below meth c H locs ls hC hR hS hl
  refine W.lcmp hC.1 hC.2.1 d ?_
  rw [lg_cmp_lI ha hb]
  exact k p l e s m args below meth c H locs ls hC hR hS hl
theorem o_iand_ {x y : Int32} (d : decode M.2.1 pc = .ok (.iand, 1)) (k : YY G M R (pc + 1) lv (.int (x &&& y) :: st) h c0 s0 Q) : YY G M R pc lv (.int y :: .int x :: st) h c0 s0 Q := by
  intro p l e s m args below meth c H locs ls hC hR hS hl
  exact lv_iand hC.1 hC.2.1 d (k p l e s m args below meth c H locs ls hC hR hS hl)
theorem o_land_ {x y : Int64} (d : decode M.2.1 pc = .ok (.land, 1)) (k : YY G M R (pc + 1) lv (.long (x &&& y) :: st) h c0 s0 Q) : YY G M R pc lv (.long y :: .long x :: st) h c0 s0 Q := by
  intro p l e s m args below meth c H locs ls hC hR hS hl
  exact lv_land hC.1 hC.2.1 d (k p l e s m args below meth c H locs ls hC hR hS hl)
theorem o_lor_ {x y : Int64} (d : decode M.2.1 pc = .ok (.lor, 1)) (k : YY G M R (pc + 1) lv (.long (x ||| y) :: st) h c0 s0 Q) : YY G M R pc lv (.long y :: .long x :: st) h c0 s0 Q := by
  intro p l e s m args below meth c H locs ls hC hR hS hl
  exact lv_lor hC.1 hC.2.1 d (k p l e s m args below meth c H locs ls hC hR hS hl)
theorem o_lshl_ {x : Int64} {y : Int32} (d : decode M.2.1 pc = .ok (.lshl, 1)) (k : YY G M R (pc + 1) lv (.long (x <<< (y.toInt64 &&& 63)) :: st) h c0 s0 Q) : YY G M R pc lv (.int y :: .long x :: st) h c0 s0 Q := by
  intro p l e s m args below meth c H locs ls hC hR hS hl
  exact lv_lshl hC.1 hC.2.1 d rfl (k p l e s m args below meth c H locs ls hC hR hS hl)
theorem o_lushr_ {x : Int64} {y : Int32} (d : decode M.2.1 pc = .ok (.lushr, 1)) (k : YY G M R (pc + 1) lv (.long ((x.toUInt64 >>> (y.toInt64.toUInt64 &&& Int64.toUInt64 63)).toInt64) :: st) h c0 s0 Q) : YY G M R pc lv (.int y :: .long x :: st) h c0 s0 Q := by
  intro p l e s m args below meth c H locs ls hC hR hS hl
  exact lv_lushr hC.1 hC.2.1 d rfl (k p l e s m args below meth c H locs ls hC hR hS hl)
theorem o_lshr_ {x : Int64} {y : Int32} (d : decode M.2.1 pc = .ok (.lshr, 1)) (k : YY G M R (pc + 1) lv (.long (x >>> (y.toInt64 &&& 63)) :: st) h c0 s0 Q) : YY G M R pc lv (.int y :: .long x :: st) h c0 s0 Q := by
  intro p l e s m args below meth c H locs ls hC hR hS hl
  exact lv_lshr hC.1 hC.2.1 d rfl (k p l e s m args below meth c H locs ls hC hR hS hl)
theorem o_i2l_ {x : Int32} (d : decode M.2.1 pc = .ok (.i2l, 1)) (k : YY G M R (pc + 1) lv (.long x.toInt64 :: st) h c0 s0 Q) : YY G M R pc lv (.int x :: st) h c0 s0 Q := by
  intro p l e s m args below meth c H locs ls hC hR hS hl
  exact lv_i2l hC.1 hC.2.1 d rfl (k p l e s m args below meth c H locs ls hC hR hS hl)
theorem o_l2i_ {x : Int64} (d : decode M.2.1 pc = .ok (.l2i, 1)) (k : YY G M R (pc + 1) lv (.int x.toInt32 :: st) h c0 s0 Q) : YY G M R pc lv (.long x :: st) h c0 s0 Q := by
  intro p l e s m args below meth c H locs ls hC hR hS hl
  exact lv_l2i hC.1 hC.2.1 d rfl (k p l e s m args below meth c H locs ls hC hR hS hl)
theorem o_i2b_ {x : Int32} (d : decode M.2.1 pc = .ok (.i2b, 1)) (k : YY G M R (pc + 1) lv (.int x.toInt8.toInt32 :: st) h c0 s0 Q) : YY G M R pc lv (.int x :: st) h c0 s0 Q := by
  intro p l e s m args below meth c H locs ls hC hR hS hl
  exact lv_i2b hC.1 hC.2.1 d rfl (k p l e s m args below meth c H locs ls hC hR hS hl)
theorem o_dup {v : Value} (d : decode M.2.1 pc = .ok (.dup, 1)) (hv : v.category = 1) (k : YY G M R (pc + 1) lv (v :: v :: st) h c0 s0 Q) : YY G M R pc lv (v :: st) h c0 s0 Q := by
  intro p l e s m args below meth c H locs ls hC hR hS hl
  exact lv_dup hC.1 hC.2.1 d hv (k p l e s m args below meth c H locs ls hC hR hS hl)
theorem o_pop {v : Value} (d : decode M.2.1 pc = .ok (.pop, 1)) (hv : v.category = 1) (k : YY G M R (pc + 1) lv (st) h c0 s0 Q) : YY G M R pc lv (v :: st) h c0 s0 Q := by
  intro p l e s m args below meth c H locs ls hC hR hS hl
  exact lv_pop hC.1 hC.2.1 d hv (k p l e s m args below meth c H locs ls hC hR hS hl)
theorem o_dup_x1 {v w : Value} (d : decode M.2.1 pc = .ok (.dup_x1, 1)) (hv : v.category = 1) (hw : w.category = 1) (k : YY G M R (pc + 1) lv (v :: w :: v :: st) h c0 s0 Q) : YY G M R pc lv (v :: w :: st) h c0 s0 Q := by
  intro p l e s m args below meth c H locs ls hC hR hS hl
  exact lv_dup_x1 hC.1 hC.2.1 d hv hw (k p l e s m args below meth c H locs ls hC hR hS hl)
theorem o_dup2 {v w : Value} (d : decode M.2.1 pc = .ok (.dup2, 1)) (hv : v.category = 1) (hw : w.category = 1) (k : YY G M R (pc + 1) lv (v :: w :: v :: w :: st) h c0 s0 Q) : YY G M R pc lv (v :: w :: st) h c0 s0 Q := by
  intro p l e s m args below meth c H locs ls hC hR hS hl
  exact lv_dup2_11 hC.1 hC.2.1 d hv hw (k p l e s m args below meth c H locs ls hC hR hS hl)
theorem o_goto {off : Int} (tgt : Nat) (d : decode M.2.1 pc = .ok (.goto off, 3)) (ht : (pc : Int) + off = (tgt : Int)) (k : YY G M R tgt lv st h c0 s0 Q) : YY G M R pc lv st h c0 s0 Q := by
  intro p l e s m args below meth c H locs ls hC hR hS hl
  exact lv_goto hC.1 hC.2.1 d ht (k p l e s m args below meth c H locs ls hC hR hS hl)
theorem o_if_eq {a off : Int} (tgt : Nat) (d : decode M.2.1 pc = .ok (.ifCond .eq off, 3)) (ht : (pc : Int) + off = (tgt : Int)) (ha : inI a) (kt : a = 0 → YY G M R tgt lv st h c0 s0 Q) (kf : ¬ a = 0 → YY G M R (pc + 3) lv st h c0 s0 Q) : YY G M R pc lv (.int (iI a) :: st) h c0 s0 Q := by
  intro p l e s m args below meth c H locs ls hC hR hS hl
  have i0 : inI 0 := ⟨by decide, by decide⟩
  exact lv_if_eq hC.1 hC.2.1 d ht (fun q => kt ((iI_eq ha (b := 0) i0).mp q) p l e s m args below meth c H locs ls hC hR hS hl) (fun q => kf (fun z => q ((iI_eq ha (b := 0) i0).mpr z)) p l e s m args below meth c H locs ls hC hR hS hl)
theorem o_if_ne {a off : Int} (tgt : Nat) (d : decode M.2.1 pc = .ok (.ifCond .ne off, 3)) (ht : (pc : Int) + off = (tgt : Int)) (ha : inI a) (kt : a ≠ 0 → YY G M R tgt lv st h c0 s0 Q) (kf : a = 0 → YY G M R (pc + 3) lv st h c0 s0 Q) : YY G M R pc lv (.int (iI a) :: st) h c0 s0 Q := by
  intro p l e s m args below meth c H locs ls hC hR hS hl
  have i0 : inI 0 := ⟨by decide, by decide⟩
  exact lv_if_ne hC.1 hC.2.1 d ht (fun q => kt (fun z => q ((iI_eq ha (b := 0) i0).mpr z)) p l e s m args below meth c H locs ls hC hR hS hl) (fun q => kf ((iI_eq ha (b := 0) i0).mp q) p l e s m args below meth c H locs ls hC hR hS hl)
theorem o_if_lt {a off : Int} (tgt : Nat) (d : decode M.2.1 pc = .ok (.ifCond .lt off, 3)) (ht : (pc : Int) + off = (tgt : Int)) (ha : inI a) (kt : a < 0 → YY G M R tgt lv st h c0 s0 Q) (kf : ¬ a < 0 → YY G M R (pc + 3) lv st h c0 s0 Q) : YY G M R pc lv (.int (iI a) :: st) h c0 s0 Q := by
  intro p l e s m args below meth c H locs ls hC hR hS hl
  have i0 : inI 0 := ⟨by decide, by decide⟩
  exact lv_if_lt hC.1 hC.2.1 d ht (fun q => kt ((iI_lt ha (b := 0) i0).mp q) p l e s m args below meth c H locs ls hC hR hS hl) (fun q => kf (fun z => q ((iI_lt ha (b := 0) i0).mpr z)) p l e s m args below meth c H locs ls hC hR hS hl)
theorem o_if_ge {a off : Int} (tgt : Nat) (d : decode M.2.1 pc = .ok (.ifCond .ge off, 3)) (ht : (pc : Int) + off = (tgt : Int)) (ha : inI a) (kt : 0 ≤ a → YY G M R tgt lv st h c0 s0 Q) (kf : ¬ 0 ≤ a → YY G M R (pc + 3) lv st h c0 s0 Q) : YY G M R pc lv (.int (iI a) :: st) h c0 s0 Q := by
  intro p l e s m args below meth c H locs ls hC hR hS hl
  have i0 : inI 0 := ⟨by decide, by decide⟩
  exact lv_if_ge hC.1 hC.2.1 d ht (fun q => kt ((iI_le (a := 0) i0 ha).mp q) p l e s m args below meth c H locs ls hC hR hS hl) (fun q => kf (fun z => q ((iI_le (a := 0) i0 ha).mpr z)) p l e s m args below meth c H locs ls hC hR hS hl)
theorem o_if_gt {a off : Int} (tgt : Nat) (d : decode M.2.1 pc = .ok (.ifCond .gt off, 3)) (ht : (pc : Int) + off = (tgt : Int)) (ha : inI a) (kt : 0 < a → YY G M R tgt lv st h c0 s0 Q) (kf : ¬ 0 < a → YY G M R (pc + 3) lv st h c0 s0 Q) : YY G M R pc lv (.int (iI a) :: st) h c0 s0 Q := by
  intro p l e s m args below meth c H locs ls hC hR hS hl
  have i0 : inI 0 := ⟨by decide, by decide⟩
  exact lv_if_gt hC.1 hC.2.1 d ht (fun q => kt ((iI_lt (a := 0) i0 ha).mp q) p l e s m args below meth c H locs ls hC hR hS hl) (fun q => kf (fun z => q ((iI_lt (a := 0) i0 ha).mpr z)) p l e s m args below meth c H locs ls hC hR hS hl)
theorem o_if_le {a off : Int} (tgt : Nat) (d : decode M.2.1 pc = .ok (.ifCond .le off, 3)) (ht : (pc : Int) + off = (tgt : Int)) (ha : inI a) (kt : a ≤ 0 → YY G M R tgt lv st h c0 s0 Q) (kf : ¬ a ≤ 0 → YY G M R (pc + 3) lv st h c0 s0 Q) : YY G M R pc lv (.int (iI a) :: st) h c0 s0 Q := by
  intro p l e s m args below meth c H locs ls hC hR hS hl
  have i0 : inI 0 := ⟨by decide, by decide⟩
  exact lv_if_le hC.1 hC.2.1 d ht (fun q => kt ((iI_le ha (b := 0) i0).mp q) p l e s m args below meth c H locs ls hC hR hS hl) (fun q => kf (fun z => q ((iI_le ha (b := 0) i0).mpr z)) p l e s m args below meth c H locs ls hC hR hS hl)
theorem o_icmp_eq {a b off : Int} (tgt : Nat) (d : decode M.2.1 pc = .ok (.if_icmp .eq off, 3)) (ht : (pc : Int) + off = (tgt : Int)) (ha : inI a) (hb : inI b) (kt : a = b → YY G M R tgt lv st h c0 s0 Q) (kf : ¬ a = b → YY G M R (pc + 3) lv st h c0 s0 Q) : YY G M R pc lv (.int (iI b) :: .int (iI a) :: st) h c0 s0 Q := by
  intro p l e s m args below meth c H locs ls hC hR hS hl
  exact lv_icmp_eq hC.1 hC.2.1 d ht (fun q => kt ((iI_eq ha hb).mp q) p l e s m args below meth c H locs ls hC hR hS hl) (fun q => kf (fun z => q ((iI_eq ha hb).mpr z)) p l e s m args below meth c H locs ls hC hR hS hl)
theorem o_icmp_ne {a b off : Int} (tgt : Nat) (d : decode M.2.1 pc = .ok (.if_icmp .ne off, 3)) (ht : (pc : Int) + off = (tgt : Int)) (ha : inI a) (hb : inI b) (kt : a ≠ b → YY G M R tgt lv st h c0 s0 Q) (kf : a = b → YY G M R (pc + 3) lv st h c0 s0 Q) : YY G M R pc lv (.int (iI b) :: .int (iI a) :: st) h c0 s0 Q := by
  intro p l e s m args below meth c H locs ls hC hR hS hl
  exact lv_icmp_ne hC.1 hC.2.1 d ht (fun q => kt (fun z => q ((iI_eq ha hb).mpr z)) p l e s m args below meth c H locs ls hC hR hS hl) (fun q => kf ((iI_eq ha hb).mp q) p l e s m args below meth c H locs ls hC hR hS hl)
theorem o_icmp_lt {a b off : Int} (tgt : Nat) (d : decode M.2.1 pc = .ok (.if_icmp .lt off, 3)) (ht : (pc : Int) + off = (tgt : Int)) (ha : inI a) (hb : inI b) (kt : a < b → YY G M R tgt lv st h c0 s0 Q) (kf : ¬ a < b → YY G M R (pc + 3) lv st h c0 s0 Q) : YY G M R pc lv (.int (iI b) :: .int (iI a) :: st) h c0 s0 Q := by
  intro p l e s m args below meth c H locs ls hC hR hS hl
  exact lv_icmp_lt hC.1 hC.2.1 d ht (fun q => kt ((iI_lt ha hb).mp q) p l e s m args below meth c H locs ls hC hR hS hl) (fun q => kf (fun z => q ((iI_lt ha hb).mpr z)) p l e s m args below meth c H locs ls hC hR hS hl)
theorem o_icmp_ge {a b off : Int} (tgt : Nat) (d : decode M.2.1 pc = .ok (.if_icmp .ge off, 3)) (ht : (pc : Int) + off = (tgt : Int)) (ha : inI a) (hb : inI b) (kt : b ≤ a → YY G M R tgt lv st h c0 s0 Q) (kf : ¬ b ≤ a → YY G M R (pc + 3) lv st h c0 s0 Q) : YY G M R pc lv (.int (iI b) :: .int (iI a) :: st) h c0 s0 Q := by
  intro p l e s m args below meth c H locs ls hC hR hS hl
  exact lv_icmp_ge hC.1 hC.2.1 d ht (fun q => kt ((iI_le hb ha).mp q) p l e s m args below meth c H locs ls hC hR hS hl) (fun q => kf (fun z => q ((iI_le hb ha).mpr z)) p l e s m args below meth c H locs ls hC hR hS hl)
theorem o_icmp_gt {a b off : Int} (tgt : Nat) (d : decode M.2.1 pc = .ok (.if_icmp .gt off, 3)) (ht : (pc : Int) + off = (tgt : Int)) (ha : inI a) (hb : inI b) (kt : b < a → YY G M R tgt lv st h c0 s0 Q) (kf : ¬ b < a → YY G M R (pc + 3) lv st h c0 s0 Q) : YY G M R pc lv (.int (iI b) :: .int (iI a) :: st) h c0 s0 Q := by
  intro p l e s m args below meth c H locs ls hC hR hS hl
  exact lv_icmp_gt hC.1 hC.2.1 d ht (fun q => kt ((iI_lt hb ha).mp q) p l e s m args below meth c H locs ls hC hR hS hl) (fun q => kf (fun z => q ((iI_lt hb ha).mpr z)) p l e s m args below meth c H locs ls hC hR hS hl)
theorem o_icmp_le {a b off : Int} (tgt : Nat) (d : decode M.2.1 pc = .ok (.if_icmp .le off, 3)) (ht : (pc : Int) + off = (tgt : Int)) (ha : inI a) (hb : inI b) (kt : a ≤ b → YY G M R tgt lv st h c0 s0 Q) (kf : ¬ a ≤ b → YY G M R (pc + 3) lv st h c0 s0 Q) : YY G M R pc lv (.int (iI b) :: .int (iI a) :: st) h c0 s0 Q := by
  intro p l e s m args below meth c H locs ls hC hR hS hl
  exact lv_icmp_le hC.1 hC.2.1 d ht (fun q => kt ((iI_le ha hb).mp q) p l e s m args below meth c H locs ls hC hR hS hl) (fun q => kf (fun z => q ((iI_le ha hb).mpr z)) p l e s m args below meth c H locs ls hC hR hS hl)
theorem o_ifb_eq {c : Prop} [Decidable c] {off : Int} (tgt : Nat) (d : decode M.2.1 pc = .ok (.ifCond .eq off, 3)) (ht : (pc : Int) + off = (tgt : Int)) (kt : ¬ c → YY G M R tgt lv st h c0 s0 Q) (kf : c → YY G M R (pc + 3) lv st h c0 s0 Q) : YY G M R pc lv (.int (iI (if c then 1 else 0)) :: st) h c0 s0 Q :=
  o_if_eq tgt d ht b01 (fun q => kt (fun z => by rw [if_pos z] at q; omega)) (fun q => kf (by by_cases z : c; exact z; rw [if_neg z] at q; omega))
theorem o_ifb_ne {c : Prop} [Decidable c] {off : Int} (tgt : Nat) (d : decode M.2.1 pc = .ok (.ifCond .ne off, 3)) (ht : (pc : Int) + off = (tgt : Int)) (kt : c → YY G M R tgt lv st h c0 s0 Q) (kf : ¬ c → YY G M R (pc + 3) lv st h c0 s0 Q) : YY G M R pc lv (.int (iI (if c then 1 else 0)) :: st) h c0 s0 Q :=
  o_if_ne tgt d ht b01 (fun q => kt (by by_cases z : c; exact z; rw [if_neg z] at q; omega)) (fun q => kf (fun z => by rw [if_pos z] at q; omega))
theorem o_tabIn {dflt lo hi : Int} {offs : Array Int} {len : Nat} {z off : Int} (tgt : Nat) (d : decode M.2.1 pc = .ok (.tableswitch dflt lo hi offs, len)) (hz : inI z) (h1 : lo ≤ z) (h2 : z ≤ hi) (ho : offs[(z - lo).toNat]? = some off) (ht : (pc : Int) + off = (tgt : Int)) (k : YY G M R tgt lv st h c0 s0 Q) : YY G M R pc lv (.int (iI z) :: st) h c0 s0 Q := by
  intro p l e s m args below meth c H locs ls hC hR hS hl
  exact lv_tableIn hC.1 hC.2.1 d (by rw [iI_toInt hz]; omega) (by rw [iI_toInt hz]; omega) (by rw [iI_toInt hz]; exact ho) ht (k p l e s m args below meth c H locs ls hC hR hS hl)
theorem o_tabOut {dflt lo hi : Int} {offs : Array Int} {len : Nat} {z : Int} (tgt : Nat) (d : decode M.2.1 pc = .ok (.tableswitch dflt lo hi offs, len)) (hz : inI z) (h1 : z < lo ∨ hi < z) (ht : (pc : Int) + dflt = (tgt : Int)) (k : YY G M R tgt lv st h c0 s0 Q) : YY G M R pc lv (.int (iI z) :: st) h c0 s0 Q := by
  intro p l e s m args below meth c H locs ls hC hR hS hl
  exact lv_tableOut hC.1 hC.2.1 d (by rw [iI_toInt hz]; exact h1) ht (k p l e s m args below meth c H locs ls hC hR hS hl)
theorem o_ldc {index : Nat} {v : Int32} {z : Int} (d : decode M.2.1 pc = .ok (.ldc index, 2)) (hw : Cond.constant M.1.cls index v ∈ lw_ctx) (hv : v = iI z) (k : YY G M R (pc + 2) lv (.int (iI z) :: st) h c0 s0 Q) : YY G M R pc lv st h c0 s0 Q := by
  intro p l e s m args below meth c H locs ls hC hR hS hl
  subst hv
  exact lv_ldc hC.1 hC.2.1 hC.2.2.2.2.1 (hC.2.2.2.2.2.1 _ hw) d (k p l e s m args below meth c H locs ls hC hR hS hl)
theorem o_ldc2 {index : Nat} {v : Int64} {z : Int} (d : decode M.2.1 pc = .ok (.ldc2_w index, 3)) (hw : Cond.constantLong M.1.cls index v ∈ lw_ctx) (hv : v = lI z) (k : YY G M R (pc + 3) lv (.long (lI z) :: st) h c0 s0 Q) : YY G M R pc lv st h c0 s0 Q := by
  intro p l e s m args below meth c H locs ls hC hR hS hl
  subst hv
  exact lv_ldc2 hC.1 hC.2.1 hC.2.2.2.2.1 (hC.2.2.2.2.2.1 _ hw) d (k p l e s m args below meth c H locs ls hC hR hS hl)
theorem o_get {idx ci j kd : Nat} {kds : List Nat} (d : decode M.2.1 pc = .ok (.getfield idx, 3)) (fl : FL M.1.cls idx ci j) (hsh : shp k = .inr (ci, kds)) (hkd : kds[j]? = some kd) (hm : (k, i) ∈ h.1) (kk : YY G M R (pc + 3) lv (xfv G h k i j kd :: st) h c0 s0 Q) : YY G M R pc lv (rf G k i :: st) h c0 s0 Q := by
  intro p l e s m args below meth c H locs ls hC hR hS hl
  obtain ⟨q, hc, hj, hlk⟩ := fl
  obtain ⟨pp, -, hw⟩ := xws_at (G := G) hm
  rw [xcell_obj hsh] at hw
  exact va_get (C := q.1) (T := q.2.1) (N := q.2.2) hC.1 hC.2.1 hC.2.2.2.2.2.1 (cl_ok ci q hc).1 hC.2.2.2.2.1 hC.2.2.2.2.2.2.2.2.2.2.1.1 hR.2.2.1 pp hw hc j hj (hC.2.2.2.2.2.1 _ hlk) (fun _ h9 => h9) (xfs_at hkd) d (kk p l e s m args below meth c H locs ls hC hR hS hl)
theorem o_getI {idx ci j : Nat} {kds : List Nat} (d : decode M.2.1 pc = .ok (.getfield idx, 3)) (fl : FL M.1.cls idx ci j) (hsh : shp k = .inr (ci, kds)) (hkd : kds[j]? = some 0) (hm : (k, i) ∈ h.1) (kk : YY G M R (pc + 3) lv (.int (iI (h.2.1 k i (j : Int))) :: st) h c0 s0 Q) : YY G M R pc lv (rf G k i :: st) h c0 s0 Q := o_get d fl hsh hkd hm kk
theorem o_getL {idx ci j : Nat} {kds : List Nat} (d : decode M.2.1 pc = .ok (.getfield idx, 3)) (fl : FL M.1.cls idx ci j) (hsh : shp k = .inr (ci, kds)) (hkd : kds[j]? = some 1) (hm : (k, i) ∈ h.1) (kk : YY G M R (pc + 3) lv (.long (lI (h.2.1 k i (j : Int))) :: st) h c0 s0 Q) : YY G M R pc lv (rf G k i :: st) h c0 s0 Q := o_get d fl hsh hkd hm kk
theorem o_getR {idx ci j a b : Nat} {kds : List Nat} (d : decode M.2.1 pc = .ok (.getfield idx, 3)) (fl : FL M.1.cls idx ci j) (hsh : shp k = .inr (ci, kds)) (hkd : kds[j]? = some 2) (hr : h.2.2.1 k i j = some (a, b)) (hm : (k, i) ∈ h.1) (kk : YY G M R (pc + 3) lv (rf G a b :: st) h c0 s0 Q) : YY G M R pc lv (rf G k i :: st) h c0 s0 Q := by
  refine o_get d fl hsh hkd hm ?_
  rw [show xfv G h k i j 2 = rf G a b by simp only [xfv, hr, Option.map_some, va_rf]]
  exact kk
/-- a store into a field, by the kit's own row below, with the heap's size -/
theorem o_put {idx ci j kd : Nat} {kds : List Nat} {ty : FieldType} {v : Value} {h1 : Hp} (d : decode M.2.1 pc = .ok (.putfield idx, 3)) (fl : FLw M.1.cls idx ci j ty false) (hsh : shp k = .inr (ci, kds)) (hkd : kds[j]? = some kd) (hm : (k, i) ∈ h.1)
    (hn : narrow ty v = v) (hfit : fits ty v = true) (hd : h1.1 = h.1) (hz : h1.2.2.2 = h.2.2.2) (hne : ∀ k' i', ¬ (k' = k ∧ i' = i) → xcell G h1 k' i' = xcell G h k' i') (hv : xfv G h1 k i j kd = v) (ho : ∀ j', j' ≠ j → ∀ kd', xfv G h1 k i j' kd' = xfv G h k i j' kd')
    (kk : YY G M R (pc + 3) lv st h1 c0 s0 Q) : YY G M R pc lv (v :: rf G k i :: st) h c0 s0 Q := by
  intro p l e s m args below meth c H locs ls hC hR hS hl
  obtain ⟨q, hc, hj, hlk, hty, hfin, -⟩ := fl
  obtain ⟨hin, ⟨ty0, hty0⟩, hnm⟩ := cl_ok ci q hc
  have hts := hC.2.2.2.2.2.1
  have hK := hC.2.2.2.2.2.2.2.2.2.2.1.1
  have hap := va_apart (own := M.1.cls) (T := q.2.1) (N := q.2.2) (C := q.1) hts hin ty0 hty0 hnm hK hc
  have hat := xR_at hR hm
  rw [xcell_obj hsh] at hat
  obtain ⟨r, g1, cell, q1, q2, q3, q4⟩ := hat
  have hr : r = q := Option.some.inj (g1.symm.trans hc)
  subst hr
  obtain ⟨hSl, hfc, kC, hkC, hkind⟩ := hK.1 ci _ hc
  obtain ⟨cf, kf, fi, f, hi, hsl⟩ := hSl j hj
  have hlay := hts _ (hin _ (u_in_lay hj))
  unfold u_lay at hlay
  rw [if_neg (by rw [hfin]; decide)] at hlay
  have hst := (u_facts hfc hkC (u_lays hts hin hj) hi).1
  have h6 := u_store hfc hkC hkind hlay hi hty hn hfit
  refine W.putK hC.1 hC.2.1 (f := f) ⟨hC.2.2.2.2.1, hts _ hlk, ⟨_, _, _, hi⟩, hst⟩ (by rw [q2]; exact h6) q1 q3 (by rw [hsl]; exact k2_hasslot (q4 j hj)) rfl rfl d fun H' e1 e2 e3 => ?_
  rw [hsl] at e1 ⊢
  have hR1 : xR G h1 H' := by
    refine xR_store hR hm hd hz hne ?_ e2 e3
    rw [xcell_obj hsh, ← xfs_set hkd hv ho]
    exact ⟨_, hc, t_OB.to (V := updV (vp_V (xfs G h k i kds)) j v) ⟨_, e1, q2, q3, t_set q4 hap hj v⟩ (fun j' _ => vp_updV_set (by rw [xfs_len]; exact (List.getElem?_eq_some_iff.mp hkd).1) v j')⟩
  exact kk p l e s m args below meth c H' _ ls hC hR1 (hS.put e2 e3 (xR_ge hR hm)) hl
theorem o_putI {idx ci j : Nat} {kds : List Nat} {z : Int} (d : decode M.2.1 pc = .ok (.putfield idx, 3)) (fl : FLw M.1.cls idx ci j .int false) (hsh : shp k = .inr (ci, kds)) (hkd : kds[j]? = some 0) (hm : (k, i) ∈ h.1)
    (kk : YY G M R (pc + 3) lv st (hset h k i j z) c0 s0 Q) : YY G M R pc lv (.int (iI z) :: rf G k i :: st) h c0 s0 Q :=
  o_put (h1 := hset h k i j z) d fl hsh hkd hm rfl rfl rfl rfl (fun _ _ hn => hset_ne hn) (by show Value.int (iI (up3 h.2.1 k i (j : Int) z k i j)) = _; rw [up3_at]) (fun j' hj _ => hset_fo j' hj) kk
theorem o_putL {idx ci j : Nat} {kds : List Nat} {z : Int} (d : decode M.2.1 pc = .ok (.putfield idx, 3)) (fl : FLw M.1.cls idx ci j .long false) (hsh : shp k = .inr (ci, kds)) (hkd : kds[j]? = some 1) (hm : (k, i) ∈ h.1)
    (kk : YY G M R (pc + 3) lv st (hset h k i j z) c0 s0 Q) : YY G M R pc lv (.long (lI z) :: rf G k i :: st) h c0 s0 Q :=
  o_put (h1 := hset h k i j z) d fl hsh hkd hm rfl rfl rfl rfl (fun _ _ hn => hset_ne hn) (by show Value.long (lI (up3 h.2.1 k i (j : Int) z k i j)) = _; rw [up3_at]) (fun j' hj _ => hset_fo j' hj) kk
theorem o_iald {n : Nat} {z : Int} (d : decode M.2.1 pc = .ok (.iaload, 1)) (hsh : shp k = .inl (0, n)) (hm : (k, i) ∈ h.1) (a : Nat) (hz : z = a) (ha : a < n) (kk : YY G M R (pc + 1) lv (.int (iI (h.2.1 k i a)) :: st) h c0 s0 Q) (hn : n < 2147483648 := by decide) : YY G M R pc lv (.int (iI z) :: rf G k i :: st) h c0 s0 Q := by
  intro p l e s m args below meth c H locs ls hC hR hS hl
  obtain ⟨pp, -, hw⟩ := xws_at (G := G) hm
  rw [xcell_arr hsh] at hw
  refine va_iald hC.1 hC.2.1 hC.2.2.2.2.2.2.2.2.2.2.1.1 hR.2.2.1 pp 0 hw rfl (in_nat hz ha hn) d ?_
  rw [cl_nat hz (by omega)]
  exact kk p l e s m args below meth c H locs ls hC hR hS hl
theorem o_bald {n : Nat} {z : Int} (d : decode M.2.1 pc = .ok (.baload, 1)) (hsh : shp k = .inl (1, n)) (hm : (k, i) ∈ h.1) (a : Nat) (hz : z = a) (ha : a < n) (kk : YY G M R (pc + 1) lv (.int (iI (h.2.1 k i a)) :: st) h c0 s0 Q) (hn : n < 2147483648 := by decide) : YY G M R pc lv (.int (iI z) :: rf G k i :: st) h c0 s0 Q := by
  intro p l e s m args below meth c H locs ls hC hR hS hl
  obtain ⟨pp, -, hw⟩ := xws_at (G := G) hm
  rw [xcell_arr hsh] at hw
  refine va_bald hC.1 hC.2.1 hC.2.2.2.2.2.2.2.2.2.2.1.1 hR.2.2.1 pp 1 hw rfl (in_nat hz ha hn) d ?_
  rw [cl_nat hz (by omega)]
  exact kk p l e s m args below meth c H locs ls hC hR hS hl
theorem o_zald {n : Nat} {z : Int} (d : decode M.2.1 pc = .ok (.baload, 1)) (hsh : shp k = .inl (2, n)) (hm : (k, i) ∈ h.1) (a : Nat) (hz : z = a) (ha : a < n) (kk : YY G M R (pc + 1) lv (.int (iI (h.2.1 k i a)) :: st) h c0 s0 Q) (hn : n < 2147483648 := by decide) : YY G M R pc lv (.int (iI z) :: rf G k i :: st) h c0 s0 Q := by
  intro p l e s m args below meth c H locs ls hC hR hS hl
  obtain ⟨pp, -, hw⟩ := xws_at (G := G) hm
  rw [xcell_arr hsh] at hw
  refine va_zald hC.1 hC.2.1 hC.2.2.2.2.2.2.2.2.2.2.1.1 hR.2.2.1 pp 2 hw rfl (in_nat hz ha hn) d ?_
  rw [cl_nat hz (by omega)]
  exact kk p l e s m args below meth c H locs ls hC hR hS hl
theorem o_lald {n : Nat} {z : Int} (d : decode M.2.1 pc = .ok (.laload, 1)) (hsh : shp k = .inl (3, n)) (hm : (k, i) ∈ h.1) (a : Nat) (hz : z = a) (ha : a < n) (kk : YY G M R (pc + 1) lv (.long (lI (h.2.1 k i a)) :: st) h c0 s0 Q) (hn : n < 2147483648 := by decide) : YY G M R pc lv (.int (iI z) :: rf G k i :: st) h c0 s0 Q := by
  intro p l e s m args below meth c H locs ls hC hR hS hl
  obtain ⟨pp, -, hw⟩ := xws_at (G := G) hm
  rw [xcell_arr hsh] at hw
  refine va_lald hC.1 hC.2.1 hC.2.2.2.2.2.2.2.2.2.2.1.1 hR.2.2.1 pp 3 hw rfl (in_nat hz ha hn) d ?_
  rw [cl_nat hz (by omega)]
  exact kk p l e s m args below meth c H locs ls hC hR hS hl
theorem o_alen {tag n : Nat} (d : decode M.2.1 pc = .ok (.arraylength, 1)) (hsh : shp k = .inl (tag, n)) (hm : (k, i) ∈ h.1) {ty : FieldType} (ht : (xtys G)[tag]? = some (G.2.1 tag, ty)) (kk : YY G M R (pc + 1) lv (.int (iI n) :: st) h c0 s0 Q) : YY G M R pc lv (rf G k i :: st) h c0 s0 Q := by
  intro p l e s m args below meth c H locs ls hC hR hS hl
  obtain ⟨pp, -, hw⟩ := xws_at (G := G) hm
  rw [xcell_arr hsh] at hw
  exact va_alen hC.1 hC.2.1 hC.2.2.2.2.2.2.2.2.2.2.1.1 hR.2.2.1 pp tag hw ht (show Int32.ofNat n = iI (n : Int) from (Int32.ofInt_eq_ofNat).symm) d (kk p l e s m args below meth c H locs ls hC hR hS hl)
theorem o_aald {tag n a' b' : Nat} {z : Int} {CC : String} (d : decode M.2.1 pc = .ok (.aaload, 1)) (hsh : shp k = .inl (tag + 5, n)) (ht : (xtys G)[tag + 5]? = some (G.2.1 (tag + 5), .object CC)) (hm : (k, i) ∈ h.1) (a : Nat) (hz : z = a) (ha : a < n) (hr : h.2.2.1 k i a = some (a', b')) (kk : YY G M R (pc + 1) lv (rf G a' b' :: st) h c0 s0 Q) (hn : n < 2147483648 := by decide) : YY G M R pc lv (.int (iI z) :: rf G k i :: st) h c0 s0 Q := by
  intro p l e s m args below meth c H locs ls hC hR hS hl
  obtain ⟨pp, -, hw⟩ := xws_at (G := G) hm
  rw [xcell_arr hsh] at hw
  refine va_aldq hC.1 hC.2.1 hC.2.2.2.2.2.2.2.2.2.2.1.1 hR.2.2.1 pp (tag + 5) hw ht (in_nat hz ha hn) d ?_
  rw [cl_nat hz (by omega), hr]
  exact kk p l e s m args below meth c H locs ls hC hR hS hl
/-- stores into arrays -/
theorem o_iast {n : Nat} {z v : Int} (d : decode M.2.1 pc = .ok (.iastore, 1)) (hsh : shp k = .inl (0, n)) (hm : (k, i) ∈ h.1) (a : Nat) (hz : z = a) (ha : a < n) (kk : YY G M R (pc + 1) lv st (hset h k i a v) c0 s0 Q) (hn : n < 2147483648 := by decide) : YY G M R pc lv (.int (iI v) :: .int (iI z) :: rf G k i :: st) h c0 s0 Q := by
  intro p l e s m args below meth c H locs ls hC hR hS hl
  have hat := xR_at hR hm
  rw [xcell_arr hsh] at hat
  have hcl := cl_nat hz (show a < 2147483648 by omega)
  refine W.iast hC.1 hC.2.1 hat ((hC.2.2.2.2.2.2.2.2.2.2.1.1.2 0 _ rfl).1 n (fun j : Nat => .int (iI (h.2.1 k i j)))) (fun q => by cases q) (by show ¬ (_ < 0 ∨ (arrV _ _ _).slots.size ≤ _); rw [arrV_size]; exact in_nat hz ha hn) rfl rfl d fun H1 eH z' oq => ?_
  refine kk p l e s m args below meth c H1 _ ls hC (xR_store hR hm rfl rfl (fun _ _ q => hset_ne q) ?_ z' oq) (hS.put z' oq (xR_ge hR hm)) hl
  rw [xcell_arr hsh]
  show H1[gad G k i]? = some (vp_cell _ _)
  rw [eH]
  show some _ = some (vp_cell (G.2.1 0) (n, Sum.inl fun j : Nat => iI (up3 h.2.1 k i a v k i j)))
  rw [vp_cell_i]
  show some _ = _
  rw [show vp_cell (G.2.1 0) (n, xcont G h.2.1 h.2.2.1 k i 0) = arrV (G.2.1 0) n (fun j : Nat => .int (iI (h.2.1 k i j))) from rfl, arrV_store, hcl]
  congr 2
  funext q
  by_cases hq : q = a
  · subst hq; simp [updV, up3_at]
  · have hq2 : ((q : Nat) : Int) ≠ (a : Int) := by omega
    simp [updV, up3_off hq2, hq]
theorem o_bast {n : Nat} {z v : Int} (d : decode M.2.1 pc = .ok (.bastore, 1)) (hsh : shp k = .inl (1, n)) (hm : (k, i) ∈ h.1) (a : Nat) (hz : z = a) (ha : a < n) (hv : -128 ≤ v ∧ v < 128) (kk : YY G M R (pc + 1) lv st (hset h k i a v) c0 s0 Q) (hn : n < 2147483648 := by decide) : YY G M R pc lv (.int (iI v) :: .int (iI z) :: rf G k i :: st) h c0 s0 Q := by
  intro p l e s m args below meth c H locs ls hC hR hS hl
  have hat := xR_at hR hm
  rw [xcell_arr hsh] at hat
  have hcl := cl_nat hz (show a < 2147483648 by omega)
  have hvb : (iI v).toInt8.toInt32 = iI v := by rw [iI_b]; congr 1; unfold bI; omega
  refine W.bast hC.1 hC.2.1 hat ((hC.2.2.2.2.2.2.2.2.2.2.1.1.2 1 _ rfl).1 n (fun j : Nat => .int (iI (h.2.1 k i j)))) (fun q => by cases q) (by show ¬ (_ < 0 ∨ (arrV _ _ _).slots.size ≤ _); rw [arrV_size]; exact in_nat hz ha hn) rfl rfl d fun H1 eH z' oq => ?_
  refine kk p l e s m args below meth c H1 _ ls hC (xR_store hR hm rfl rfl (fun _ _ q => hset_ne q) ?_ z' oq) (hS.put z' oq (xR_ge hR hm)) hl
  rw [xcell_arr hsh]
  show H1[gad G k i]? = some (vp_cell _ _)
  rw [eH]
  show some _ = some (vp_cell (G.2.1 1) (n, Sum.inl fun j : Nat => iI (up3 h.2.1 k i a v k i j)))
  rw [vp_cell_i]
  show some _ = _
  rw [show vp_cell (G.2.1 1) (n, xcont G h.2.1 h.2.2.1 k i 1) = arrV (G.2.1 1) n (fun j : Nat => .int (iI (h.2.1 k i j))) from rfl, arrV_store, hcl]
  congr 2
  funext q
  by_cases hq : q = a
  · subst hq
    simp only [updV, up3_at, if_true]
    show narrow .byte (.int (iI v)) = _
    show Value.int (iI v).toInt8.toInt32 = _
    rw [hvb]
  · have hq2 : ((q : Nat) : Int) ≠ (a : Int) := by omega
    simp [updV, up3_off hq2, hq]
theorem o_zast {n : Nat} {z v : Int} (d : decode M.2.1 pc = .ok (.bastore, 1)) (hsh : shp k = .inl (2, n)) (hm : (k, i) ∈ h.1) (a : Nat) (hz : z = a) (ha : a < n) (hv : v = 0 ∨ v = 1) (kk : YY G M R (pc + 1) lv st (hset h k i a v) c0 s0 Q) (hn : n < 2147483648 := by decide) : YY G M R pc lv (.int (iI v) :: .int (iI z) :: rf G k i :: st) h c0 s0 Q := by
  intro p l e s m args below meth c H locs ls hC hR hS hl
  have hat := xR_at hR hm
  rw [xcell_arr hsh] at hat
  have hcl := cl_nat hz (show a < 2147483648 by omega)
  have hvb : narrow .boolean (.int (iI v)) = .int (iI v) := by rcases hv with rfl | rfl <;> rfl
  refine W.zast hC.1 hC.2.1 hat ((hC.2.2.2.2.2.2.2.2.2.2.1.1.2 2 _ rfl).1 n (fun j : Nat => .int (iI (h.2.1 k i j)))) (fun q => by cases q) (by show ¬ (_ < 0 ∨ (arrV _ _ _).slots.size ≤ _); rw [arrV_size]; exact in_nat hz ha hn) rfl rfl d fun H1 eH z' oq => ?_
  refine kk p l e s m args below meth c H1 _ ls hC (xR_store hR hm rfl rfl (fun _ _ q => hset_ne q) ?_ z' oq) (hS.put z' oq (xR_ge hR hm)) hl
  rw [xcell_arr hsh]
  show H1[gad G k i]? = some (vp_cell _ _)
  rw [eH]
  show some _ = some (vp_cell (G.2.1 2) (n, Sum.inl fun j : Nat => iI (up3 h.2.1 k i a v k i j)))
  rw [vp_cell_i]
  show some _ = _
  rw [show vp_cell (G.2.1 2) (n, xcont G h.2.1 h.2.2.1 k i 2) = arrV (G.2.1 2) n (fun j : Nat => .int (iI (h.2.1 k i j))) from rfl, arrV_store, hcl]
  congr 2
  funext q
  by_cases hq : q = a
  · subst hq
    simp only [updV, up3_at, if_true]
    exact hvb
  · have hq2 : ((q : Nat) : Int) ≠ (a : Int) := by omega
    simp [updV, up3_off hq2, hq]
theorem o_last {n : Nat} {z v : Int} (d : decode M.2.1 pc = .ok (.lastore, 1)) (hsh : shp k = .inl (3, n)) (hm : (k, i) ∈ h.1) (a : Nat) (hz : z = a) (ha : a < n) (kk : YY G M R (pc + 1) lv st (hset h k i a v) c0 s0 Q) (hn : n < 2147483648 := by decide) : YY G M R pc lv (.long (lI v) :: .int (iI z) :: rf G k i :: st) h c0 s0 Q := by
  intro p l e s m args below meth c H locs ls hC hR hS hl
  have hat := xR_at hR hm
  rw [xcell_arr hsh] at hat
  have hcl := cl_nat hz (show a < 2147483648 by omega)
  refine W.last hC.1 hC.2.1 hat ((hC.2.2.2.2.2.2.2.2.2.2.1.1.2 3 _ rfl).1 n (fun j : Nat => .long (lI (h.2.1 k i j)))) (fun q => by cases q) (by show ¬ (_ < 0 ∨ (arrV _ _ _).slots.size ≤ _); rw [arrV_size]; exact in_nat hz ha hn) rfl rfl d fun H1 eH z' oq => ?_
  refine kk p l e s m args below meth c H1 _ ls hC (xR_store hR hm rfl rfl (fun _ _ q => hset_ne q) ?_ z' oq) (hS.put z' oq (xR_ge hR hm)) hl
  rw [xcell_arr hsh]
  show H1[gad G k i]? = some (vp_cell _ _)
  rw [eH]
  show some _ = some (vp_cell (G.2.1 3) (n, Sum.inr (Sum.inl fun j : Nat => lI (up3 h.2.1 k i a v k i j))))
  rw [vp_cell_l]
  show some _ = _
  rw [show vp_cell (G.2.1 3) (n, xcont G h.2.1 h.2.2.1 k i 3) = arrV (G.2.1 3) n (fun j : Nat => .long (lI (h.2.1 k i j))) from rfl, arrV_store, hcl]
  congr 2
  funext q
  by_cases hq : q = a
  · subst hq; simp [updV, up3_at]
  · have hq2 : ((q : Nat) : Int) ≠ (a : Int) := by omega
    simp [updV, up3_off hq2, hq]
theorem o_max {idx : Nat} {a b : Int} (d : decode M.2.1 pc = .ok (.invokestatic idx, 3)) (hL : LM M.1.cls idx Lib.Math.max.name Lib.Math.max.code 2 (some .int)) (ha : inI a) (hb : inI b) (hf : 1 ≤ R.frames) (hlo : (st.map fun v => v.category).sum + 13 ≤ R.locals) (hc : c0 ≤ R.cells) (hs : s0 ≤ R.slots) (kk : YY G M R (pc + 3) lv (.int (iI (max a b)) :: st) h c0 s0 Q) : YY G M R pc lv (.int (iI b) :: .int (iI a) :: st) h c0 s0 Q := by
  intro p l e s m args below meth c H locs ls hC hR hS hl
  have hts := hC.2.2.2.2.2.1
  refine va_mmax hC.1 hC.2.1 (hC.2.2.2.1.trans hl.1.symm) hC.2.2.2.2.1 (hts _ hL.1) (hts _ hL.2.1) (hts _ hL.2.2.1) (hts _ hL.2.2.2) hf hlo hc hs d ?_
  rw [show (if iI a < iI b then iI b else iI a) = iI (max a b) by
    by_cases q : a < b
    · rw [if_pos ((iI_lt ha hb).mpr q)]; congr 1; omega
    · rw [if_neg (fun z => q ((iI_lt ha hb).mp z))]; congr 1; omega]
  exact kk p l e s m args below meth c H locs ls hC hR hS hl
theorem o_min {idx : Nat} {a b : Int} (d : decode M.2.1 pc = .ok (.invokestatic idx, 3)) (hL : LM M.1.cls idx Lib.Math.min.name Lib.Math.min.code 2 (some .int)) (ha : inI a) (hb : inI b) (hf : 1 ≤ R.frames) (hlo : (st.map fun v => v.category).sum + 13 ≤ R.locals) (hc : c0 ≤ R.cells) (hs : s0 ≤ R.slots) (kk : YY G M R (pc + 3) lv (.int (iI (min a b)) :: st) h c0 s0 Q) : YY G M R pc lv (.int (iI b) :: .int (iI a) :: st) h c0 s0 Q := by
  intro p l e s m args below meth c H locs ls hC hR hS hl
  have hts := hC.2.2.2.2.2.1
  refine va_mmin hC.1 hC.2.1 (hC.2.2.2.1.trans hl.1.symm) hC.2.2.2.2.1 (hts _ hL.1) (hts _ hL.2.1) (hts _ hL.2.2.1) (hts _ hL.2.2.2) hf hlo hc hs d ?_
  rw [show (if iI b < iI a then iI b else iI a) = iI (min a b) by
    by_cases q : b < a
    · rw [if_pos ((iI_lt hb ha).mpr q)]; congr 1; omega
    · rw [if_neg (fun z => q ((iI_lt hb ha).mp z))]; congr 1; omega]
  exact kk p l e s m args below meth c H locs ls hC hR hS hl
theorem o_minl {idx : Nat} {a b : Int} (d : decode M.2.1 pc = .ok (.invokestatic idx, 3)) (hL : LM M.1.cls idx Lib.MathLoose.min_long.x Lib.MathLoose.min_long.code 4 (some .long)) (ha : inL a) (hb : inL b) (hf : 1 ≤ R.frames) (hlo : (st.map fun v => v.category).sum + 15 ≤ R.locals) (hc : c0 ≤ R.cells) (hs : s0 ≤ R.slots) (kk : YY G M R (pc + 3) lv (.long (lI (min a b)) :: st) h c0 s0 Q) : YY G M R pc lv (.long (lI b) :: .long (lI a) :: st) h c0 s0 Q := by
  intro p l e s m args below meth c H locs ls hC hR hS hl
  have hts := hC.2.2.2.2.2.1
  refine va_mmin_long hC.1 hC.2.1 (hC.2.2.2.1.trans hl.1.symm) hC.2.2.2.2.1 (hts _ hL.1) (hts _ hL.2.1) (hts _ hL.2.2.1) (hts _ hL.2.2.2) hf hlo hc hs d ?_
  rw [show (if lI b < lI a then lI b else lI a) = lI (min a b) by
    by_cases q : b < a
    · rw [if_pos ((lI_lt hb ha).mpr q)]; congr 1; omega
    · rw [if_neg (fun z => q ((lI_lt hb ha).mp z))]; congr 1; omega]
  exact kk p l e s m args below meth c H locs ls hC hR hS hl
end YYR
section YYC
variable {G : GG} {M M' : Mth} {R R' : Room} {pc : Nat} {lv lv' : List (Nat × Value)} {st : List Value} {h h1 : Hp} {c0 s0 : Nat} {Q P1 : PP} {k i : Nat}
theorem o_iret {x : Int32} (d : decode M.2.1 pc = .ok (.ireturn, 1)) (hr : M.2.2.2.1 = some .int) (hc : c0 ≤ R.cells) (hs : s0 ≤ R.slots) (hq : Q (some (.int x)) h) : YY G M R pc lv [.int x] h c0 s0 Q := by
  intro p l e s m args below meth c H locs ls hC hR hS hl
  refine W.widen hc hs (vx_ret ?_)
  exact W.iret hC.1 hC.2.1 (hC.2.2.1.trans hr) (fun t ht hW => ⟨_, _, rfl, hq, by rw [ht]; exact hR⟩) hS.2.2 d hC.2.2.2.2.2.2.1
theorem o_zret {x : Int32} {ty : FieldType} (d : decode M.2.1 pc = .ok (.ireturn, 1)) (hr : M.2.2.2.1 = some ty) (hn : narrow ty (.int x) = .int x) (hc : c0 ≤ R.cells) (hs : s0 ≤ R.slots) (hq : Q (some (.int x)) h) : YY G M R pc lv [.int x] h c0 s0 Q := by
  intro p l e s m args below meth c H locs ls hC hR hS hl
  refine W.widen hc hs (vx_ret ?_)
  exact W.zret hC.1 hC.2.1 (hC.2.2.1.trans hr) hn (fun t ht hW => ⟨_, _, rfl, hq, by rw [ht]; exact hR⟩) hS.2.2 d hC.2.2.2.2.2.2.1
theorem o_lret {x : Int64} (d : decode M.2.1 pc = .ok (.lreturn, 1)) (hr : M.2.2.2.1 = some .long) (hc : c0 ≤ R.cells) (hs : s0 ≤ R.slots) (hq : Q (some (.long x)) h) : YY G M R pc lv [.long x] h c0 s0 Q := by
  intro p l e s m args below meth c H locs ls hC hR hS hl
  refine W.widen hc hs (vx_ret ?_)
  exact W.lret hC.1 hC.2.1 (hC.2.2.1.trans hr) (fun t ht hW => ⟨_, _, rfl, hq, by rw [ht]; exact hR⟩) hS.2.2 d hC.2.2.2.2.2.2.1
theorem o_vret (d : decode M.2.1 pc = .ok (.return_, 1)) (hr : M.2.2.2.1 = none) (hc : c0 ≤ R.cells) (hs : s0 ≤ R.slots) (hq : Q none h) : YY G M R pc lv [] h c0 s0 Q := by
  intro p l e s m args below meth c H locs ls hC hR hS hl
  refine W.widen hc hs (vx_ret ?_)
  exact W.vret hC.1 hC.2.1 (hC.2.2.1.trans hr) (fun t ht hW => ⟨_, _, rfl, hq, by rw [ht]; exact hR⟩) hS.2.2 d hC.2.2.2.2.2.2.1
theorem o_aret {v : Value} {rt : FieldType} (d : decode M.2.1 pc = .ok (.areturn, 1)) (hr : M.2.2.2.1 = some rt) (hrt : (∃ n, rt = .object n) ∨ ∃ t, rt = .array t) (hv : v = .null ∨ ∃ a, v = .ref a) (hc : c0 ≤ R.cells) (hs : s0 ≤ R.slots) (hq : Q (some v) h) : YY G M R pc lv [v] h c0 s0 Q := by
  intro p l e s m args below meth c H locs ls hC hR hS hl
  refine W.widen hc hs (vx_ret ?_)
  exact W.aret hC.1 hC.2.1 (hC.2.2.1.trans hr) hrt hv (fun t ht hW => ⟨_, _, rfl, hq, by rw [ht]; exact hR⟩) hS.2.2 d hC.2.2.2.2.2.2.1
/-- weaker posts -/
theorem o_post (kk : YY G M R pc lv st h c0 s0 P1) (hq : ∀ v h1, P1 v h1 → Q v h1) : YY G M R pc lv st h c0 s0 Q := by
  intro p l e s m args below meth c H locs ls hC hR hS hl T hT X
  obtain ⟨t, a, b⟩ := kk p l e s m args below meth c H locs ls hC hR hS hl T hT X
  obtain ⟨o, h1, h2, h3⟩ := b
  refine ⟨t, a, o, h1, h2, ?_⟩
  rcases h3 with ⟨⟨v, h5, e5, q5, r5⟩, d2⟩ | h3
  · exact Or.inl ⟨⟨v, h5, e5, hq _ _ q5, r5⟩, d2⟩
  · exact Or.inr h3
/-- contracts of the law's methods, and of the lists' and texts': they come back -/
def Cy (G : GG) (M : Mth) (R : Room) (av : List Value) (h : Hp) (P : PP) : Prop :=
  Cond.code M.1 M.2.1 M.2.2.1 M.2.2.2.1 ∈ lw_all ∧ ∀ l : Launch, l.stackTraces = false → vx_Met l M.1 (xW M) R (xPc G av h) (yQ G P) yX R.cells R.slots (xA G)
theorem o_entry {av : List Value} (hy : plainName M.1.cls = true) (hw : Cond.code M.1 M.2.1 M.2.2.1 M.2.2.2.1 ∈ lw_all) (ht : M.2.2.2.2 = []) (hlen : (lg_sl av).length ≤ M.2.2.1) (kk : YY G M R 0 (lv_args 0 av) [] h 0 0 Q) : Cy G M R av h Q := by
  refine ⟨hw, fun l hst => ?_⟩
  refine vx_ofW (cc := M.2.1) (maxL := M.2.2.1) (ret := M.2.2.2.1) (ws' := lw_ctx) hy rfl ?_
  intro p e s m args below meth c s₁ B hml hno hv
  obtain ⟨rfl, hR, hK⟩ := hv
  have hts := atoms_spec (ws := xW M) B.pre
  have hctx : ∀ w ∈ lw_ctx, w.before av.toArray s = true := fun w hw => hts w (List.mem_cons_of_mem _ hw)
  have hown : s.vm.findClass M.1.cls = some m.cls := findClass_of_methodNamed B.named
  have hnm : meth.name = M.1.name := (name_of_methodNamed B.named B.method).1
  have hl := lv_entry av (n := M.2.2.1) hlen
  rw [lg_entry_eq]
  exact kk p l e s m av.toArray below meth c s.heap [] _ ⟨B.exec, B.bytes, B.returns, hml, hown, hctx, B.notSynchronized, hst, hnm, by rw [ht]; exact List.eq_nil_iff_forall_not_mem.mpr hno, hK, hR.1⟩ hR va_S.rf hl
theorem metY {l : Launch} {y : MethodName} {ws : List Cond} {rm : Room} {Pc : Array Value → State → Prop} {P : PP} {mc ms : Nat} {free : Addr → Prop} (hM : vx_Met l y ws rm Pc (yQ G P) yX mc ms free) : Met l y ws rm Pc (yQ G P) mc ms free := by
  intro p e ha hf hc s m args below g1 g2 g3 g4
  obtain ⟨n, o, a, b, c, d⟩ := hM p e ha hf hc s m args below g1 g2 g3 g4
  rcases d with ⟨d1, d2⟩ | ⟨q, -, E, ce, L, hx, -⟩
  · exact ⟨n, o, a, b, c, d1, d2⟩
  · exact absurd hx id
theorem o_backG {p : Program} {l : Launch} {e : Env} {s : State} {m : MethodId} {args : Array Value} {below : List Frame} {meth : Method} {c : Code} {H : Heap} {locs : List Loc} {ls : Array Slot} {mc ms w : Nat} {st0 : List Value} {Q2 : State → Prop}
    (hr : ∀ T : State, T.heap = H → Stand p l e R s m args below meth c T locs c0 s0 → ∃ (v : Option Value) (t T' : State) (L : List Loc), Stand p l e R s m args below meth c T' (locs ++ L) (c0 + mc) (s0 + ms) ∧ (∀ q ∈ L, xA G q.base) ∧ T'.heap = t.heap ∧ (∃ h1, P1 v h1 ∧ xR G h1 t.heap) ∧ Goes p e below T (F0 m pc ls st0) T' (F0 m (pc + w) ls (v.toList ++ st))) (hR : xR G h H) (hS : va_S (xA G) s.heap H locs)
    (kk : ∀ (v : Option Value) (h1 : Hp) (H1 : Heap) (locs1 : List Loc), P1 v h1 → xR G h1 H1 → va_S (xA G) s.heap H1 locs1 → W p l e R s m args below meth c H1 locs1 (c0 + mc) (s0 + ms) Q2 (F0 m (pc + w) ls (v.toList ++ st))) : W p l e R s m args below meth c H locs c0 s0 Q2 (F0 m pc ls st0) := by
  intro T hT X
  obtain ⟨v, t, T', L, X', hL, e1, ⟨h1, hq, hR1⟩, hgo⟩ := hr T hT X
  have hs2 : s.heap.size ≤ T'.heap.size := X'.same.2.1
  have hS1 : va_S (xA G) s.heap T'.heap (locs ++ L) := by
    refine ⟨hs2, fun q g1 g2 => ?_, fun q hq => ?_⟩
    · rw [e1, hR1.2.1 q g2, ← hR.2.1 q g2]
      exact hS.2.1 q g1 g2
    · rcases List.mem_append.mp hq with z | z
      · exact hS.2.2 q z
      · exact hL q z
  obtain ⟨t2, a1, b1⟩ := kk v h1 T'.heap (locs ++ L) hq (by rw [e1]; exact hR1) hS1 T' rfl X'
  exact ⟨t2, hgo t2 a1, b1⟩
theorem o_back {p : Program} {l : Launch} {e : Env} {s : State} {m : MethodId} {args : Array Value} {below : List Frame} {meth : Method} {c : Code} {H : Heap} {locs : List Loc} {ls : Array Slot} {mc ms : Nat} {st0 : List Value} {a : Array Value} {Q2 : State → Prop}
    (hr : va_Run p l e R s m args below meth c H locs c0 s0 mc ms (F0 m pc ls st0) st (yQ G P1 a) (xA G)) (hR : xR G h H) (hS : va_S (xA G) s.heap H locs)
    (kk : ∀ (v : Option Value) (h1 : Hp) (H1 : Heap) (locs1 : List Loc), P1 v h1 → xR G h1 H1 → va_S (xA G) s.heap H1 locs1 → W p l e R s m args below meth c H1 locs1 (c0 + mc) (s0 + ms) Q2 (F0 m (pc + 3) ls (v.toList ++ st))) : W p l e R s m args below meth c H locs c0 s0 Q2 (F0 m pc ls st0) := by
  refine o_backG (w := 3) (fun T hT X => ?_) hR hS kk
  obtain ⟨v', st₀, t, T', L, -, X', hL, e1, e2, ⟨v, h1, hv, hq, hR1⟩, hgo⟩ := hr T hT X
  cases hv
  exact ⟨_, t, T', L, X', hL, e1, ⟨h1, hq, hR1⟩, hgo⟩
theorem o_back5 {p : Program} {l : Launch} {e : Env} {s : State} {m : MethodId} {args : Array Value} {below : List Frame} {meth : Method} {c : Code} {H : Heap} {locs : List Loc} {ls : Array Slot} {mc ms : Nat} {st0 : List Value} {a : Array Value} {Q2 : State → Prop}
    (hr : va_Run5 p l e R s m args below meth c H locs c0 s0 mc ms (F0 m pc ls st0) st (yQ G P1 a) (xA G)) (hR : xR G h H) (hS : va_S (xA G) s.heap H locs)
    (kk : ∀ (v : Option Value) (h1 : Hp) (H1 : Heap) (locs1 : List Loc), P1 v h1 → xR G h1 H1 → va_S (xA G) s.heap H1 locs1 → W p l e R s m args below meth c H1 locs1 (c0 + mc) (s0 + ms) Q2 (F0 m (pc + 5) ls (v.toList ++ st))) : W p l e R s m args below meth c H locs c0 s0 Q2 (F0 m pc ls st0) := by
  refine o_backG (w := 5) (fun T hT X => ?_) hR hS kk
  obtain ⟨v', st₀, t, T', L, -, X', hL, e1, e2, ⟨v, h1, hv, hq, hR1⟩, hgo⟩ := hr T hT X
  cases hv
  exact ⟨_, t, T', L, X', hL, e1, ⟨h1, hq, hR1⟩, hgo⟩
/-- what a call may cost -/
def rmC (R R' : Room) (c0 s0 ml : Nat) : Prop := (R'.frames + 1 ≤ R.frames ∧ 8 + (ml + 11) + R'.locals ≤ R.locals) ∧ c0 + R'.cells ≤ R.cells ∧ s0 + R'.slots ≤ R.slots
theorem callB_o {args : Array Value} {s : State} {idx n : Nat} (hctx : ∀ w ∈ lw_ctx, w.before args s = true) (hcode : Cond.code M'.1 M'.2.1 M'.2.2.1 M'.2.2.2.1 ∈ lw_all) (hl : Cond.methodLink M.1.cls idx M'.1 ∈ lw_ctx) (hini : Cond.initialized M'.1.cls ∈ lw_ctx) (hd : M'.1.cls ≠ "java/lang/invoke/MethodHandle" ∧ M'.1.cls ≠ "java/lang/invoke/VarHandle" ∧ (parseMethodDescriptor M'.1.desc).map (fun d => d.parameters.length) = some n)
    (hR : R'.frames + 1 ≤ R.frames ∧ 8 + (M'.2.2.1 + 11) + R'.locals ≤ R.locals) : CallB R s args M.1.cls idx M'.1 M'.2.1 M'.2.2.1 M'.2.2.2.1 (xW M') R' R'.cells R'.slots n := callB_x hctx hcode hl hini hd hR
theorem o_callV {stk : List Value} {idx n ci : Nat} {kds : List Nat} {q : vw_C} (As : List Value) (d : decode M.2.1 pc = .ok (.invokevirtual idx, 3)) (hCt : Cy G M' R' (rf G k i :: As) h P1) (hL : LV M.1.cls idx M'.1 n) (hn : As.length = n) (hsh : shp k = .inr (ci, kds)) (hq : vwCl[ci]? = some q) (hcl : M'.1.cls = q.1) (hm : (k, i) ∈ h.1)
    (hroom : rmC R R' c0 s0 M'.2.2.1) (hst : (st.map fun v => v.category).sum ≤ 8) (hstk : stk = As.reverse ++ rf G k i :: st) (kk : ∀ v h1, P1 v h1 → YY G M R (pc + 3) lv (v.toList ++ st) h1 (c0 + R'.cells) (s0 + R'.slots) Q) : YY G M R pc lv stk h c0 s0 Q := by
  intro p l e s m args below meth c H locs ls hC hR hS hl
  obtain ⟨hrm1, hrm2⟩ := hroom
  have hts := hC.2.2.2.2.2.1
  have hKK := hC.2.2.2.2.2.2.2.2.2.2.1
  obtain ⟨pp, -, hw⟩ := xws_at (G := G) hm
  rw [xcell_obj hsh] at hw
  subst hstk
  refine o_back (va_runV (b := gad G k i) (C := M'.1.cls) (As := As) (rest := st) ⟨hC.1, hC.2.1, hC.2.2.2.1, hC.2.2.2.2.1, hts⟩ (metY (hCt.2 l hC.2.2.2.2.2.2.2.1)) ⟨callB_o hts hCt.1 hL.1 hL.2.2.2.1 hL.2.2.2.2 hrm1, hts _ hL.2.1, hts _ hL.2.2.1⟩ ⟨xPc_blind, ?_, fun U hU hW => ⟨rfl, by rw [hU]; exact hR, xK.warm hW hKK⟩⟩ rfl hn hl.1 rfl (lv_room hst) d hrm2) hR hS (fun v h1 H1 locs1 hq1 hR1 hS1 => kk v h1 hq1 p l e s m args below meth c H1 locs1 ls hC hR1 hS1 hl)
  rw [hcl]
  exact va_recv hKK.1 hR.2.2.1 hq hw
theorem o_callS {stk : List Value} {idx n : Nat} (As : List Value) (d : decode M.2.1 pc = .ok (.invokestatic idx, 3)) (hCt : Cy G M' R' As h P1) (hL : LSt M.1.cls idx M'.1 n) (hn : As.length = n)
    (hroom : rmC R R' c0 s0 M'.2.2.1) (hst : (st.map fun v => v.category).sum ≤ 8) (hstk : stk = As.reverse ++ st) (kk : ∀ v h1, P1 v h1 → YY G M R (pc + 3) lv (v.toList ++ st) h1 (c0 + R'.cells) (s0 + R'.slots) Q) : YY G M R pc lv stk h c0 s0 Q := by
  intro p l e s m args below meth c H locs ls hC hR hS hl
  obtain ⟨hrm1, hrm2⟩ := hroom
  have hts := hC.2.2.2.2.2.1
  have hKK := hC.2.2.2.2.2.2.2.2.2.2.1
  subst hstk
  exact o_back (va_runS (As := As) (rest := st) ⟨hC.1, hC.2.1, hC.2.2.2.1, hC.2.2.2.2.1, hts⟩ (metY (hCt.2 l hC.2.2.2.2.2.2.2.1)) ⟨callB_o hts hCt.1 hL.1 hL.2.2.1 hL.2.2.2 hrm1, hts _ hL.2.1⟩ ⟨xPc_blind, fun U hU hW => ⟨rfl, by rw [hU]; exact hR, xK.warm hW hKK⟩⟩ rfl hn hl.1 rfl (lv_room hst) d hrm2) hR hS (fun v h1 H1 locs1 hq1 hR1 hS1 => kk v h1 hq1 p l e s m args below meth c H1 locs1 ls hC hR1 hS1 hl)
theorem o_callI {stk : List Value} {idx n : Nat} (As : List Value) (d : decode M.2.1 pc = .ok (.invokespecial idx, 3)) (hCt : Cy G M' R' (rf G k i :: As) h P1) (hL : LI M.1.cls idx M'.1 n) (hret : M'.2.2.2.1 = none) (hn : As.length = n)
    (hroom : rmC R R' c0 s0 M'.2.2.1) (hst : (st.map fun v => v.category).sum ≤ 8) (hstk : stk = As.reverse ++ rf G k i :: st) (kk : ∀ v h1, P1 v h1 → YY G M R (pc + 3) lv (v.toList ++ st) h1 (c0 + R'.cells) (s0 + R'.slots) Q) : YY G M R pc lv stk h c0 s0 Q := by
  intro p l e s m args below meth c H locs ls hC hR hS hl
  obtain ⟨hrm1, hrm2⟩ := hroom
  have hts := hC.2.2.2.2.2.1
  have hKK := hC.2.2.2.2.2.2.2.2.2.2.1
  subst hstk
  have hB := callB_o (R := R) (M := M) (R' := R') hts hCt.1 hL.1 hL.2.2.2.1 hL.2.2.2.2 hrm1
  rw [hret] at hB
  exact o_back (va_runI (b := gad G k i) (As := As) (rest := st) ⟨hC.1, hC.2.1, hC.2.2.2.1, hC.2.2.2.2.1, hts⟩ (metY (hCt.2 l hC.2.2.2.2.2.2.2.1)) ⟨hB, hL.2.1, hts _ hL.2.2.1⟩ ⟨xPc_blind, fun U hU hW => ⟨rfl, by rw [hU]; exact hR, xK.warm hW hKK⟩⟩ rfl hn hl.1 rfl (lv_room hst) d hrm2) hR hS (fun v h1 H1 locs1 hq1 hR1 hS1 => kk v h1 hq1 p l e s m args below meth c H1 locs1 ls hC hR1 hS1 hl)
theorem o_callIN {stk : List Value} {idx n : Nat} {host : String} (As : List Value) (d : decode M.2.1 pc = .ok (.invokespecial idx, 3)) (hCt : Cy G M' R' (rf G k i :: As) h P1) (hL : LIN M.1.cls idx M'.1 host n) (hret : M'.2.2.2.1 = none) (hn : As.length = n)
    (hroom : rmC R R' c0 s0 M'.2.2.1) (hst : (st.map fun v => v.category).sum ≤ 8) (hstk : stk = As.reverse ++ rf G k i :: st) (kk : ∀ v h1, P1 v h1 → YY G M R (pc + 3) lv (v.toList ++ st) h1 (c0 + R'.cells) (s0 + R'.slots) Q) : YY G M R pc lv stk h c0 s0 Q := by
  intro p l e s m args below meth c H locs ls hC hR hS hl
  obtain ⟨hrm1, hrm2⟩ := hroom
  have hts := hC.2.2.2.2.2.1
  have hKK := hC.2.2.2.2.2.2.2.2.2.2.1
  subst hstk
  have hB : va_CN R s args M.1.cls idx M'.1 host M'.2.1 M'.2.2.1 M'.2.2.2.1 (xW M') R' R'.cells R'.slots n := ⟨⟨rfl, rfl, hrm1.1, hrm1.2, x_good hts hCt.1, List.mem_cons_self⟩, hts _ (all_ctx hCt.1), hts _ hL.2.2.2.1, ⟨hL.2.2.2.2.1, hL.2.2.2.2.2.1⟩, ml_n hL.2.2.2.2.2.2, va_Nw.use rfl (hKK.2.1 _ hL.1)⟩
  rw [hret] at hB
  exact o_back (va_runIN (host := host) (b := gad G k i) (As := As) (rest := st) ⟨hC.1, hC.2.1, hC.2.2.2.1, hC.2.2.2.2.1, hts⟩ (metY (hCt.2 l hC.2.2.2.2.2.2.2.1)) ⟨hB, hL.2.1, hts _ hL.2.2.1⟩ ⟨xPc_blind, fun U hU hW => ⟨rfl, by rw [hU]; exact hR, xK.warm hW hKK⟩⟩ rfl hn hl.1 rfl (lv_room hst) d hrm2) hR hS (fun v h1 H1 locs1 hq1 hR1 hS1 => kk v h1 hq1 p l e s m args below meth c H1 locs1 ls hC hR1 hS1 hl)
/-- a call by an interface: C the receiver's class, y the interface's method -/
def LFa (own : String) (idx : Nat) (C : String) (y : MethodName) (y' : MethodName) (n : Nat) : Prop := Cond.methodLink own idx y ∈ lw_ctx ∧ Cond.selects C y y' ∈ lw_ctx ∧ Cond.instanceMethod y' ∈ lw_ctx ∧ Cond.initialized y'.cls ∈ lw_ctx ∧ y.cls ≠ "java/lang/invoke/MethodHandle" ∧ y.cls ≠ "java/lang/invoke/VarHandle" ∧ (parseMethodDescriptor y.desc).map (fun d => d.parameters.length) = some n
theorem o_callF {stk : List Value} {idx n ci ct : Nat} {kds : List Nat} {q : vw_C} {y : MethodName} (As : List Value) (d : decode M.2.1 pc = .ok (.invokeinterface idx ct, 5)) (hCt : Cy G M' R' (rf G k i :: As) h P1) (hL : LFa M.1.cls idx q.1 y M'.1 n) (hF : ∀ s, xOl G s → va_Fw q.1 y M'.1 s) (hn : As.length = n) (hsh : shp k = .inr (ci, kds)) (hq : vwCl[ci]? = some q) (hm : (k, i) ∈ h.1)
    (hroom : rmC R R' c0 s0 M'.2.2.1) (hst : (st.map fun v => v.category).sum ≤ 8) (hstk : stk = As.reverse ++ rf G k i :: st) (kk : ∀ v h1, P1 v h1 → YY G M R (pc + 5) lv (v.toList ++ st) h1 (c0 + R'.cells) (s0 + R'.slots) Q) : YY G M R pc lv stk h c0 s0 Q := by
  intro p l e s m args below meth c H locs ls hC hR hS hl
  obtain ⟨hrm1, hrm2⟩ := hroom
  have hts := hC.2.2.2.2.2.1
  have hKK := hC.2.2.2.2.2.2.2.2.2.2.1
  obtain ⟨pp, -, hw⟩ := xws_at (G := G) hm
  rw [xcell_obj hsh] at hw
  subst hstk
  have hO := hKK.2.2.2.2.2.2.2.2.2.2.2.2.2.2.2.2
  have hFw := hF s hO
  have hcw : va_CI R s args M.1.cls q.1 idx y M'.1 M'.2.1 M'.2.2.1 M'.2.2.2.1 (xW M') R' R'.cells R'.slots n := ⟨⟨rfl, rfl, hrm1.1, hrm1.2, x_good hts hCt.1, List.mem_cons_self⟩, hts _ hL.1, va_any rfl hFw.1, va_any rfl hFw.2.1, hts _ hL.2.1, hts _ hL.2.2.1, va_any rfl hFw.2.2.1, va_any rfl hFw.2.2.2.1, va_any rfl hFw.2.2.2.2, hts _ hL.2.2.2.1, hts _ (all_ctx hCt.1), ⟨hL.2.2.2.2.1, hL.2.2.2.2.2.1⟩, ml_n hL.2.2.2.2.2.2⟩
  exact o_back5 (va_runF (b := gad G k i) (C := q.1) (As := As) (rest := st) (hKK.1.1 ci q hq).2 ⟨hC.1, hC.2.1, hC.2.2.2.1, hC.2.2.2.2.1, hts⟩ (metY (hCt.2 l hC.2.2.2.2.2.2.2.1)) hcw ⟨xPc_blind, va_recv hKK.1 hR.2.2.1 hq hw, fun U hU hW => ⟨rfl, by rw [hU]; exact hR, xK.warm hW hKK⟩⟩ rfl hn hl.1 rfl (lv_room hst) d hrm2) hR hS (fun v h1 H1 locs1 hq1 hR1 hS1 => kk v h1 hq1 p l e s m args below meth c H1 locs1 ls hC hR1 hS1 hl)
theorem o_ifnull {a : Nat} {off : Int} (d : decode M.2.1 pc = .ok (.ifnull off, 3)) (kk : YY G M R (pc + 3) lv st h c0 s0 Q) : YY G M R pc lv (.ref a :: st) h c0 s0 Q := by
  intro p l e s m args below meth c H locs ls hC hR hS hl
  exact lv_ifnull hC.1 hC.2.1 d (kk p l e s m args below meth c H locs ls hC hR hS hl)
theorem o_ifnullN {off : Int} (tgt : Nat) (d : decode M.2.1 pc = .ok (.ifnull off, 3)) (ht : (pc : Int) + off = (tgt : Int)) (kk : YY G M R tgt lv st h c0 s0 Q) : YY G M R pc lv (.null :: st) h c0 s0 Q := by
  intro p l e s m args below meth c H locs ls hC hR hS hl
  exact lv_ifnullN hC.1 hC.2.1 d ht (kk p l e s m args below meth c H locs ls hC hR hS hl)
theorem o_ifnonnull {a : Nat} {off : Int} (tgt : Nat) (d : decode M.2.1 pc = .ok (.ifnonnull off, 3)) (ht : (pc : Int) + off = (tgt : Int)) (kk : YY G M R tgt lv st h c0 s0 Q) : YY G M R pc lv (.ref a :: st) h c0 s0 Q := by
  intro p l e s m args below meth c H locs ls hC hR hS hl
  exact lv_ifnonnull hC.1 hC.2.1 d ht (kk p l e s m args below meth c H locs ls hC hR hS hl)
theorem o_castS {idx ci : Nat} {kds : List Nat} {q : vw_C} (d : decode M.2.1 pc = .ok (.checkcast idx, 3)) (hlk : Cond.classLink M.1.cls idx q.1 ∈ lw_ctx) (hsh : shp k = .inr (ci, kds)) (hq : vwCl[ci]? = some q) (hm : (k, i) ∈ h.1) (kk : YY G M R (pc + 3) lv (rf G k i :: st) h c0 s0 Q) : YY G M R pc lv (rf G k i :: st) h c0 s0 Q := by
  intro p l e s m args below meth c H locs ls hC hR hS hl
  have hts := hC.2.2.2.2.2.1
  have hKK := hC.2.2.2.2.2.2.2.2.2.2.1
  obtain ⟨pp, -, hw⟩ := xws_at (G := G) hm
  rw [xcell_obj hsh] at hw
  exact va_castS hC.1 hC.2.1 hC.2.2.2.2.1 (hts _ hlk) (hKK.1.1 ci q hq).2 (va_recv hKK.1 hR.2.2.1 hq hw) d (kk p l e s m args below meth c H locs ls hC hR hS hl)
theorem o_castI {idx n : Nat} (d : decode M.2.1 pc = .ok (.checkcast idx, 3)) (hlk : Cond.classLink M.1.cls idx "[I" ∈ lw_ctx) (hsh : shp k = .inl (0, n)) (hm : (k, i) ∈ h.1) (kk : YY G M R (pc + 3) lv (rf G k i :: st) h c0 s0 Q) : YY G M R pc lv (rf G k i :: st) h c0 s0 Q := by
  intro p l e s m args below meth c H locs ls hC hR hS hl
  have hts := hC.2.2.2.2.2.1
  have hKK := hC.2.2.2.2.2.2.2.2.2.2.1
  obtain ⟨pp, -, hw⟩ := xws_at (G := G) hm
  rw [xcell_arr hsh] at hw
  exact va_castA hC.1 hC.2.1 hC.2.2.2.2.1 (hts _ hlk) hR.2.2.1 pp hw (hKK.1.2 0 _ rfl).2 d (kk p l e s m args below meth c H locs ls hC hR hS hl)
end YYC
