/-! the heap as one memory of whole numbers: part k, instance i, index j -/
abbrev Mem : Type := Nat → Nat → Int → Int
def up3 (m : Mem) (k i : Nat) (j z : Int) : Mem := fun k' i' j' => if k' = k ∧ i' = i ∧ j' = j then z else m k' i' j'
abbrev Hp : Type := List (Nat × Nat) × Mem × (Nat → Nat → Nat → Option (Nat × Nat)) × Option Nat
abbrev GG : Type := va_G × (Nat → ClassId) × (Nat → Nat → Nat) × (Heap × (Nat → Prop)) × (Nat → Nat) × (Nat → Nat)
def gad (G : GG) (k i : Nat) : Nat := if 51 ≤ k then i else G.2.2.1 k i
abbrev gH (G : GG) : Heap := G.2.2.2.1.1
/-- what lies in the old heap and may change all the same: the class's own cells -/
def gO (G : GG) : Nat → Prop := G.2.2.2.1.2
def gB (G : GG) : Nat := (gH G).size
abbrev rf (G : GG) (k i : Nat) : Value := .ref (gad G k i)
/-- what a part is: an array (tag of its type, length), or an object (class, kinds of its fields: 0 int, 1 long, 2 reference) -/
def shp : Nat → (Nat × Nat) ⊕ (Nat × List Nat)
  | 0 => .inr (8, [0, 1, 1, 1, 2, 2, 2, 2, 2, 2, 2, 2, 2, 2])
  | 1 => .inr (9, [0, 2, 2, 2, 2])
  | 2 => .inr (5, [0, 2, 2, 2, 2, 2, 2, 2])
  | 3 => .inl (0, 8)
  | 4 => .inl (0, 8)
  | 5 => .inl (0, 8)
  | 6 => .inl (0, 12)
  | 7 => .inl (0, 12)
  | 8 => .inl (0, 12)
  | 9 => .inl (0, 12)
  | 10 => .inl (0, 8)
  | 11 => .inl (0, 16)
  | 12 => .inl (0, 16)
  | 13 => .inl (0, 16)
  | 14 => .inl (0, 16)
  | 15 => .inl (0, 16)
  | 16 => .inl (0, 16)
  | 17 => .inl (0, 16)
  | 18 => .inl (0, 16)
  | 19 => .inl (0, 16)
  | 20 => .inl (0, 16)
  | 21 => .inl (0, 16)
  | 22 => .inr (6, [0, 0, 0, 0, 0, 0, 0, 2, 2, 2, 2, 2, 2, 2, 2, 2, 2])
  | 23 => .inl (0, 8)
  | 24 => .inl (0, 8)
  | 25 => .inl (0, 16)
  | 26 => .inl (0, 192)
  | 27 => .inl (0, 64)
  | 28 => .inl (0, 8)
  | 29 => .inl (0, 8)
  | 30 => .inl (0, 8)
  | 31 => .inl (0, 8)
  | 32 => .inl (0, 8)
  | 33 => .inr (10, [2, 2])
  | 34 => .inr (7, [2, 0, 0, 0, 2, 0, 0, 0])
  | 35 => .inl (1, 500)
  | 36 => .inr (4, [0, 0, 2])
  | 37 => .inl (5, 8)
  | 38 => .inr (11, [2, 2, 2, 2, 2, 2])
  | 39 => .inl (6, 2)
  | 40 => .inl (2, 2)
  | 41 => .inl (4, 1)
  | 42 => .inl (0, 430)
  | 43 => .inl (0, 430)
  | 44 => .inl (0, 430)
  | 45 => .inl (0, 3440)
  | 46 => .inl (0, 860)
  | 47 => .inl (2, 2)
  | 48 => .inl (1, 500)
  | 49 => .inl (3, 1)
  | 50 => .inl (4, 1)
  | 51 => .inr (16, [0, 0, 0, 1, 1, 1, 1, 2, 2, 2, 2, 2, 2, 2])
  | 52 => .inr (15, [0, 0, 0, 0, 0, 0, 0])
  | 53 => .inr (12, [0, 0, 0, 0, 0, 0])
  | 54 => .inr (13, [0, 0, 0, 0, 0, 0])
  | 55 => .inr (14, [0, 0, 0, 0, 0, 0, 0])
  | 56 => .inr (3, [0, 2, 0])
  | 57 => .inr (2, [0, 0, 0, 2])
  | 58 => .inr (1, [2, 0, 0, 0])
  | 59 => .inr (0, [2, 0, 0, 0])
  | k => .inl (k % 10, k / 10 - 6)
def tgTy : Nat → FieldType
  | 0 => .int
  | 1 => .byte
  | 2 => .boolean
  | 3 => .long
  | 4 => .int
  | 5 => .object RX4
  | 6 => .object RX6
  | 7 => .object "java/lang/Object"
  | _ => .object RX12
def xtys (G : GG) : List (ClassId × FieldType) := [(G.2.1 0, tgTy 0), (G.2.1 1, tgTy 1), (G.2.1 2, tgTy 2), (G.2.1 3, tgTy 3), (G.2.1 4, tgTy 4), (G.2.1 5, tgTy 5), (G.2.1 6, tgTy 6), (G.2.1 7, tgTy 7), (G.2.1 8, tgTy 8)]
def xcont (G : GG) (m : Mem) (r : Nat → Nat → Nat → Option (Nat × Nat)) (k i : Nat) : Nat → ((Nat → Int32) ⊕ (Nat → Int64) ⊕ (Nat → UInt32) ⊕ (Nat → UInt64) ⊕ (Nat → Option Nat))
  | 0 => .inl fun j : Nat => iI (m k i j)
  | 1 => .inl fun j : Nat => iI (m k i j)
  | 2 => .inl fun j : Nat => iI (m k i j)
  | 3 => .inr (.inl fun j : Nat => lI (m k i j))
  | 4 => .inr (.inr (.inr (.inl fun j : Nat => UInt64.ofNat (m k i j).toNat)))
  | _ => .inr (.inr (.inr (.inr fun j => (r k i j).map fun q => gad G q.1 q.2)))
def xfv (G : GG) (h : Hp) (k i j : Nat) : Nat → Value
  | 0 => .int (iI (h.2.1 k i j))
  | 1 => .long (lI (h.2.1 k i j))
  | _ => va_rf ((h.2.2.1 k i j).map fun q => gad G q.1 q.2)
def xfs (G : GG) (h : Hp) (k i : Nat) (kds : List Nat) : List Value := (List.range kds.length).map fun j => xfv G h k i j (kds.getD j 0)
def xcell (G : GG) (h : Hp) (k i : Nat) : va_E := match shp k with
  | .inl a => .inl (G.2.1 a.1, a.2, xcont G h.2.1 h.2.2.1 k i a.1)
  | .inr o => .inr (o.1, xfs G h k i o.2)
def xws (G : GG) (h : Hp) : va_W := h.1.map fun q => (gad G q.1 q.2, xcell G h q.1 q.2)
def xA (G : GG) : Nat → Prop := fun q => gB G ≤ q ∨ gO G q
def xR (G : GG) (h : Hp) (H : Heap) : Prop :=
  gB G ≤ H.size ∧ (∀ q : Nat, ¬ xA G q → H[q]? = (gH G)[q]?) ∧ va_P G.1 vwCl (xws G h) H ∧ va_D (xA G) (xws G h) ∧ ∀ n, h.2.2.2 = some n → H.size = n
def lw_all : List Cond := tables_1.filter goodWord
/-- private methods of the text builder's super class, on objects of the class below: the selection goes there -/
def lw_sub : List MethodName := [⟨"java/lang/AbstractStringBuilder", "ensureCapacityInternal", "(I)V"⟩, ⟨"java/lang/AbstractStringBuilder", "newCapacity", "(I)I"⟩, ⟨"java/lang/AbstractStringBuilder", "putStringAt", "(ILjava/lang/String;)V"⟩, ⟨"java/lang/AbstractStringBuilder", "inflateIfNeededFor", "(Ljava/lang/String;)V"⟩]
def lw_below : List Cond := lw_sub.map fun y => Cond.selects "java/lang/StringBuilder" y y
def lw_ctx : List Cond := (k2_sels lw_privs ++ lw_below) ++ lw_all
/-- the words that are not good ones, of links between nest mates, and what lies in the old heap -/
def xNest : List (String × Nat × MethodName × String) := [("PackLoans$World", 11, ⟨"PackLoans$State", "<init>", "()V"⟩, "PackLoans"), ("PackLoans$State", 38, ⟨"PackLoans$Trips", "<init>", "()V"⟩, "PackLoans"), ("PackLoans$State", 45, ⟨"PackLoans$Loans", "<init>", "()V"⟩, "PackLoans"), ("PackLoans", 30, ⟨"PackLoans$Reader", "<init>", "()V"⟩, "PackLoans"), ("PackLoans$History", 17, ⟨"PackLoans$State", "<init>", "()V"⟩, "PackLoans"), ("PackLoans$State", 68, ⟨"PackLoans", "copyRow", "([I[I)V"⟩, "PackLoans"), ("PackLoans$Trips", 28, ⟨"PackLoans", "copyRow", "([I[I)V"⟩, "PackLoans"), ("PackLoans$Loans", 37, ⟨"PackLoans", "copyRow", "([I[I)V"⟩, "PackLoans"), ("PackLoansLaw", 29, ⟨"PackLoansLaw$World", "<init>", "()V"⟩, "PackLoansLaw"), ("PackLoans$Plan", 70, ⟨"PackLoans", "copyRow", "([I[I)V"⟩, "PackLoans")]
def xCast : List String := ["java/lang/IllegalArgumentException", "java/lang/IndexOutOfBoundsException"]
def xDecl : List MethodName := [⟨"java/lang/RuntimeException", "<init>", "()V"⟩, ⟨"java/lang/Exception", "<init>", "()V"⟩, ⟨"java/lang/Throwable", "<init>", "()V"⟩]
def xStr : List (String × Nat × String × Nat) := [("PackLoans$Reader", 100, "packs", 0), ("PackLoans$Reader", 106, "curve", 1), ("PackLoans$Reader", 108, "pack", 2), ("PackLoans$Reader", 110, "cable", 3), ("PackLoans$Reader", 112, "sun", 4), ("PackLoans$Reader", 114, "trip", 5), ("PackLoans$Reader", 116, "contract", 6), ("PackLoansLaw", 43, "packs ", 7), ("PackLoansLaw", 66, ";curve ", 8), ("PackLoansLaw", 91, ";pack ", 9), ("PackLoansLaw", 93, " ; pack ", 10), ("PackLoansLaw", 103, ";cable ", 11), ("PackLoansLaw", 121, ";sun ", 12), ("PackLoansLaw", 127, ";trip ", 13), ("PackLoansLaw", 142, ";contract ", 14)]
def xLen : List Nat := [5, 5, 4, 5, 3, 4, 8, 6, 7, 6, 8, 7, 5, 6, 10]
def xByt : List (List Int32) := [[112, 97, 99, 107, 115], [99, 117, 114, 118, 101], [112, 97, 99, 107], [99, 97, 98, 108, 101], [115, 117, 110], [116, 114, 105, 112], [99, 111, 110, 116, 114, 97, 99, 116], [112, 97, 99, 107, 115, 32], [59, 99, 117, 114, 118, 101, 32], [59, 112, 97, 99, 107, 32], [32, 59, 32, 112, 97, 99, 107, 32], [59, 99, 97, 98, 108, 101, 32], [59, 115, 117, 110, 32], [59, 116, 114, 105, 112, 32], [59, 99, 111, 110, 116, 114, 97, 99, 116, 32]]
def gK (G : GG) : Nat → Nat := G.2.2.2.2.1
def gV (G : GG) : Nat → Nat := G.2.2.2.2.2
/-- the script: where it lies, its length, its ints -/
def gSx (G : GG) : Nat → Int32 := fun j => Int32.ofInt (gV G (22 + j) : Int)
/-- the pairs of classes of which the one can be cast into the other -/
def xPair : List (String × String) := [("[B", "java/lang/Cloneable"), ("java/util/ArrayList$Itr", "java/util/Iterator"), ("java/util/ArrayList", "java/util/Collection"), ("[I", "java/lang/Cloneable"), ("PackLoansLaw$World", "java/lang/Object"), ("java/util/ArrayList", "java/lang/Object"), ("java/util/ArrayList$Itr", "java/lang/Object"), ("java/lang/StringBuilder", "java/lang/Object"), ("PackLoansLaw$Pack", "java/lang/Object"), ("PackLoansLaw$Cable", "java/lang/Object"), ("PackLoansLaw$Contract", "java/lang/Object"), ("java/lang/String", "java/lang/Object"), ("PackLoansLaw$Loan", "java/lang/Object"), ("[I", "java/lang/Object"), ("[B", "java/lang/Object"), ("[Z", "java/lang/Object"), ("[Ljava/lang/Object;", "java/lang/Object"), ("[J", "java/lang/Object"), ("[LPackLoansLaw$World;", "java/lang/Object")]
/-- what lies in the old heap for the law alone: the empty row of lists, the digits of numbers, what is known of rows of Object -/
def xOl (G : GG) (s : State) : Prop := va_Z "java/util/ArrayList" "DEFAULTCAPACITY_EMPTY_ELEMENTDATA" "[Ljava/lang/Object;" (.ref (gV G 15)) (xA G) s (gH G) ∧ va_T (.object "java/lang/Object") (gV G 15) 0 (fun _ => .null) (xA G) s (gH G) ∧ va_O "[Ljava/lang/Object;" (gV G 15) (xA G) s (gH G) ∧ va_Z "java/lang/Integer" "DigitOnes" "[B" (.ref (gV G 16)) (xA G) s (gH G) ∧ va_T .byte (gV G 16) 100 (fun j => .int (iI ((48 + j % 10 : Nat) : Int))) (xA G) s (gH G) ∧ va_Z "java/lang/Integer" "DigitTens" "[B" (.ref (gV G 17)) (xA G) s (gH G) ∧ va_T .byte (gV G 17) 100 (fun j => .int (iI ((48 + j / 10 : Nat) : Int))) (xA G) s (gH G) ∧ va_Mi "[Ljava/lang/Object;" (gV G 18) s ∧ va_Dc s ∧ (∀ q ∈ xPair, va_Nw (.castable q.1 q.2) s) ∧ va_Fw "java/util/ArrayList$Itr" ⟨"java/util/Iterator", "hasNext", "()Z"⟩ ⟨"java/util/ArrayList$Itr", "hasNext", "()Z"⟩ s ∧ va_Fw "java/util/ArrayList$Itr" ⟨"java/util/Iterator", "next", "()Ljava/lang/Object;"⟩ ⟨"java/util/ArrayList$Itr", "next", "()Ljava/lang/Object;"⟩ s ∧ va_Fw "java/util/ArrayList" ⟨"java/util/Collection", "toArray", "()[Ljava/lang/Object;"⟩ ⟨"java/util/ArrayList", "toArray", "()[Ljava/lang/Object;"⟩ s ∧ va_Nw (.fieldLinkNest "java/util/ArrayList$Itr" 28 "java/util/ArrayList" "size" "I" "java/util/ArrayList") s
def xOh (G : GG) (s : State) : Prop := vx_Zq Bundle.tN "UNASSIGNED_STACK" Bundle.steD (xA G) s (gH G) ∧ vx_Zq Bundle.tN "SUPPRESSED_SENTINEL" Bundle.listD (xA G) s (gH G) ∧ va_Z "java/lang/String" "COMPACT_STRINGS" "Z" (.int 1) (xA G) s (gH G) ∧ va_Zq "jdk/internal/util/Preconditions" "SIOOBE_FORMATTER" "Ljava/util/function/BiFunction;" (xA G) s (gH G) ∧ vk_S 15 xLen xByt (gK G) (gV G) (xA G) s (gH G) ∧ va_Nc "java/lang/IllegalArgumentException" "java/lang/IndexOutOfBoundsException" s ∧ va_X (gV G 20) (gV G 21) (gSx G) s (gH G) ∧ ¬ xA G (gV G 20) ∧ va_AO RX4 s ∧ va_AO RX6 s ∧ va_AO "java/lang/Object" s ∧ va_AO RX12 s ∧ xOl G s
def xO (G : GG) (s : State) : Prop := (∀ q ∈ xNest, va_Nw (.methodLinkNest q.1 q.2.1 q.2.2.1 q.2.2.2) s) ∧ ((∀ q ∈ xCast, va_Nw (.castable q q) s) ∧ ∀ q ∈ xDecl, va_Nw (.declares q) s) ∧ (∀ q ∈ xStr, vk_R q.1 q.2.1 q.2.2.1 (gK G q.2.2.2) s) ∧ xOh G s
def xK (G : GG) (s : State) : Prop := va_K G.1 vwCl (xtys G) s ∧ xO G s
abbrev Mth : Type := MethodName × ByteArray × Nat × Option FieldType × List ExceptionTableEntry
abbrev Res : Type := Option Value ⊕ String
def xQ (G : GG) (res : Res) (h' : Hp) : Array Value → State → Outcome → State → Prop := fun _ _ o t => match res with
  | .inl v => o = .returned v ∧ xR G h' t.heap
  | .inr _ => False
def xX (G : GG) (res : Res) (h' : Hp) : String → State → State → Prop := fun E _ t => match res with
  | .inl _ => False
  | .inr E' => E = E' ∧ xR G h' t.heap
def xC (G : GG) (M : Mth) (p : Program) (l : Launch) (s : State) (m : MethodId) (args : Array Value) (meth : Method) (c : Code) : Prop :=
  p.tables.exec = Jvm.exec ∧ c.code = M.2.1 ∧ meth.sig.returnType = M.2.2.2.1 ∧ c.maxLocals = M.2.2.1 ∧ s.vm.findClass M.1.cls = some m.cls ∧ (∀ w ∈ lw_ctx, w.before args s = true) ∧ meth.locks = false ∧ l.stackTraces = false ∧ meth.name = M.1.name ∧ c.exceptionTable.toList = M.2.2.2.2 ∧ xK G s ∧ gB G ≤ s.heap.size
def X (G : GG) (M : Mth) (R : Room) (pc : Nat) (lv : List (Nat × Value)) (st : List Value) (h : Hp) (c0 s0 : Nat) (res : Res) (h' : Hp) : Prop :=
  ∀ (p : Program) (l : Launch) (e : Env) (s : State) (m : MethodId) (args : Array Value) (below : List Frame) (meth : Method) (c : Code) (H : Heap) (locs : List Loc) (ls : Array Slot),
    xC G M p l s m args meth c → xR G h H → va_S (xA G) s.heap H locs → lv_has ls M.2.2.1 lv →
    W p l e R s m args below meth c H locs c0 s0 (vx_MQ below (xQ G res h') (xX G res h') args s R.cells R.slots (xA G)) (F0 m pc ls st)
section XR
variable {G : GG} {M : Mth} {R : Room} {pc : Nat} {lv lv' : List (Nat × Value)} {st : List Value} {h h' : Hp} {c0 s0 : Nat} {res : Res}
theorem x_lv (is : List Nat) (hs : is.filterMap (fun i => lv[i]?) = lv') (k : X G M R pc lv' st h c0 s0 res h') : X G M R pc lv st h c0 s0 res h' := by
  intro p l e s m args below meth c H locs ls hC hR hS hl
  exact k p l e s m args below meth c H locs ls hC hR hS (lv_sub hl is hs)
theorem x_top {v v' : Value} (e : v = v') (k : X G M R pc lv (v' :: st) h c0 s0 res h') : X G M R pc lv (v :: st) h c0 s0 res h' := by rw [e]; exact k
theorem x_widen {k n : Nat} (h1 : c0 ≤ k) (h2 : s0 ≤ n) (kk : X G M R pc lv st h k n res h') : X G M R pc lv st h c0 s0 res h' := by
  intro p l e s m args below meth c H locs ls hC hR hS hl
  exact W.widen h1 h2 (kk p l e s m args below meth c H locs ls hC hR hS hl)

theorem x_iconst {n : Int} (d : decode M.2.1 pc = .ok (.iconst n, 1)) (k : X G M R (pc + 1) lv (.int (iI n) :: st) h c0 s0 res h') : X G M R pc lv (st) h c0 s0 res h' := by
  intro p l e s m args below meth c H locs ls hC hR hS hl
  exact lv_iconst hC.1 hC.2.1 d rfl (k p l e s m args below meth c H locs ls hC hR hS hl)
theorem x_bipush {n z : Int} (d : decode M.2.1 pc = .ok (.bipush n, 2)) (hv : (Int8.ofInt n).toInt32 = iI z) (k : X G M R (pc + 2) lv (.int (iI z) :: st) h c0 s0 res h') : X G M R pc lv (st) h c0 s0 res h' := by
  intro p l e s m args below meth c H locs ls hC hR hS hl
  exact lv_bipush hC.1 hC.2.1 d hv (k p l e s m args below meth c H locs ls hC hR hS hl)
theorem x_sipush {n z : Int} (d : decode M.2.1 pc = .ok (.sipush n, 3)) (hv : (Int16.ofInt n).toInt32 = iI z) (k : X G M R (pc + 3) lv (.int (iI z) :: st) h c0 s0 res h') : X G M R pc lv (st) h c0 s0 res h' := by
  intro p l e s m args below meth c H locs ls hC hR hS hl
  exact lv_sipush hC.1 hC.2.1 d hv (k p l e s m args below meth c H locs ls hC hR hS hl)
theorem x_lconst {n : Fin 2} {z : Int} (d : decode M.2.1 pc = .ok (.lconst n, 1)) (hv : Int64.ofNat (n : Nat) = lI z) (k : X G M R (pc + 1) lv (.long (lI z) :: st) h c0 s0 res h') : X G M R pc lv (st) h c0 s0 res h' := by
  intro p l e s m args below meth c H locs ls hC hR hS hl
  exact lv_lconst hC.1 hC.2.1 d hv (k p l e s m args below meth c H locs ls hC hR hS hl)
theorem x_null (d : decode M.2.1 pc = .ok (.aconst_null, 1)) (k : X G M R (pc + 1) lv (.null :: st) h c0 s0 res h') : X G M R pc lv (st) h c0 s0 res h' := by
  intro p l e s m args below meth c H locs ls hC hR hS hl
  exact lv_null hC.1 hC.2.1 d (k p l e s m args below meth c H locs ls hC hR hS hl)
theorem x_fconst0 (d : decode M.2.1 pc = .ok (.fconst 0, 1)) (k : X G M R (pc + 1) lv (.float FP.fconst0 :: st) h c0 s0 res h') : X G M R pc lv (st) h c0 s0 res h' := by
  intro p l e s m args below meth c H locs ls hC hR hS hl
  exact lv_fconst0 hC.1 hC.2.1 d (k p l e s m args below meth c H locs ls hC hR hS hl)
theorem x_dconst0 (d : decode M.2.1 pc = .ok (.dconst 0, 1)) (k : X G M R (pc + 1) lv (.double FP.dconst0 :: st) h c0 s0 res h') : X G M R pc lv (st) h c0 s0 res h' := by
  intro p l e s m args below meth c H locs ls hC hR hS hl
  exact lv_dconst0 hC.1 hC.2.1 d (k p l e s m args below meth c H locs ls hC hR hS hl)
theorem x_iload {i : Nat} {x : Int32} (d : decode M.2.1 pc = .ok (.iload i, 2)) (a : Nat) (hk : lv[a]? = some (i, .int x)) (k : X G M R (pc + 2) lv (.int x :: st) h c0 s0 res h') : X G M R pc lv (st) h c0 s0 res h' := by
  intro p l e s m args below meth c H locs ls hC hR hS hl
  exact lv_iload hC.1 hC.2.1 d (lv_at hl a hk) (k p l e s m args below meth c H locs ls hC hR hS hl)
theorem x_iload_n {n : Fin 4} {x : Int32} (d : decode M.2.1 pc = .ok (.iload_n n, 1)) (a : Nat) (hk : lv[a]? = some ((n : Nat), .int x)) (k : X G M R (pc + 1) lv (.int x :: st) h c0 s0 res h') : X G M R pc lv (st) h c0 s0 res h' := by
  intro p l e s m args below meth c H locs ls hC hR hS hl
  exact lv_iload_n hC.1 hC.2.1 d rfl (lv_at hl a hk) (k p l e s m args below meth c H locs ls hC hR hS hl)
theorem x_istore {i : Nat} {x : Int32} (d : decode M.2.1 pc = .ok (.istore i, 2)) (hn : i < M.2.2.1) (hlv : (i, Value.int x) :: lv.filter (fun q => !(q.1 == i) && !(q.1 + 1 == i && q.2.category == 2)) = lv') (k : X G M R (pc + 2) lv' st h c0 s0 res h') : X G M R pc lv (.int x :: st) h c0 s0 res h' := by
  intro p l e s m args below meth c H locs ls hC hR hS hl
  exact lv_istore hC.1 hC.2.1 d hl hn hlv (fun ls' hl' => k p l e s m args below meth c H locs ls' hC hR hS hl')
theorem x_istore_n {n : Fin 4} {i : Nat} {x : Int32} (d : decode M.2.1 pc = .ok (.istore_n n, 1)) (hi : (n : Nat) = i) (hn : i < M.2.2.1) (hlv : (i, Value.int x) :: lv.filter (fun q => !(q.1 == i) && !(q.1 + 1 == i && q.2.category == 2)) = lv') (k : X G M R (pc + 1) lv' st h c0 s0 res h') : X G M R pc lv (.int x :: st) h c0 s0 res h' := by
  intro p l e s m args below meth c H locs ls hC hR hS hl
  exact lv_istore_n hC.1 hC.2.1 d hi hl hn hlv (fun ls' hl' => k p l e s m args below meth c H locs ls' hC hR hS hl')
theorem x_aload {i : Nat} {x : Nat} (d : decode M.2.1 pc = .ok (.aload i, 2)) (a : Nat) (hk : lv[a]? = some (i, .ref x)) (k : X G M R (pc + 2) lv (.ref x :: st) h c0 s0 res h') : X G M R pc lv (st) h c0 s0 res h' := by
  intro p l e s m args below meth c H locs ls hC hR hS hl
  exact lv_aload hC.1 hC.2.1 d (lv_at hl a hk) (k p l e s m args below meth c H locs ls hC hR hS hl)
theorem x_aload_n {n : Fin 4} {x : Nat} (d : decode M.2.1 pc = .ok (.aload_n n, 1)) (a : Nat) (hk : lv[a]? = some ((n : Nat), .ref x)) (k : X G M R (pc + 1) lv (.ref x :: st) h c0 s0 res h') : X G M R pc lv (st) h c0 s0 res h' := by
  intro p l e s m args below meth c H locs ls hC hR hS hl
  exact lv_aload_n hC.1 hC.2.1 d rfl (lv_at hl a hk) (k p l e s m args below meth c H locs ls hC hR hS hl)
theorem x_astore {i : Nat} {x : Nat} (d : decode M.2.1 pc = .ok (.astore i, 2)) (hn : i < M.2.2.1) (hlv : (i, Value.ref x) :: lv.filter (fun q => !(q.1 == i) && !(q.1 + 1 == i && q.2.category == 2)) = lv') (k : X G M R (pc + 2) lv' st h c0 s0 res h') : X G M R pc lv (.ref x :: st) h c0 s0 res h' := by
  intro p l e s m args below meth c H locs ls hC hR hS hl
  exact lv_astore hC.1 hC.2.1 d hl hn hlv (fun ls' hl' => k p l e s m args below meth c H locs ls' hC hR hS hl')
theorem x_astore_n {n : Fin 4} {i : Nat} {x : Nat} (d : decode M.2.1 pc = .ok (.astore_n n, 1)) (hi : (n : Nat) = i) (hn : i < M.2.2.1) (hlv : (i, Value.ref x) :: lv.filter (fun q => !(q.1 == i) && !(q.1 + 1 == i && q.2.category == 2)) = lv') (k : X G M R (pc + 1) lv' st h c0 s0 res h') : X G M R pc lv (.ref x :: st) h c0 s0 res h' := by
  intro p l e s m args below meth c H locs ls hC hR hS hl
  exact lv_astore_n hC.1 hC.2.1 d hi hl hn hlv (fun ls' hl' => k p l e s m args below meth c H locs ls' hC hR hS hl')
theorem x_lload {i : Nat} {x : Int64} (d : decode M.2.1 pc = .ok (.lload i, 2)) (a : Nat) (hk : lv[a]? = some (i, .long x)) (k : X G M R (pc + 2) lv (.long x :: st) h c0 s0 res h') : X G M R pc lv (st) h c0 s0 res h' := by
  intro p l e s m args below meth c H locs ls hC hR hS hl
  exact lv_lload hC.1 hC.2.1 d (lv_at hl a hk) (k p l e s m args below meth c H locs ls hC hR hS hl)
theorem x_lload_n {n : Fin 4} {x : Int64} (d : decode M.2.1 pc = .ok (.lload_n n, 1)) (a : Nat) (hk : lv[a]? = some ((n : Nat), .long x)) (k : X G M R (pc + 1) lv (.long x :: st) h c0 s0 res h') : X G M R pc lv (st) h c0 s0 res h' := by
  intro p l e s m args below meth c H locs ls hC hR hS hl
  exact lv_lload_n hC.1 hC.2.1 d rfl (lv_at hl a hk) (k p l e s m args below meth c H locs ls hC hR hS hl)
theorem x_lstore {i : Nat} {x : Int64} (d : decode M.2.1 pc = .ok (.lstore i, 2)) (hn : i + 1 < M.2.2.1) (hlv : (i, Value.long x) :: lv.filter (fun q => !(q.1 == i) && (!(q.1 == i + 1) && !(q.1 + 1 == i && q.2.category == 2))) = lv') (k : X G M R (pc + 2) lv' st h c0 s0 res h') : X G M R pc lv (.long x :: st) h c0 s0 res h' := by
  intro p l e s m args below meth c H locs ls hC hR hS hl
  exact lv_lstore hC.1 hC.2.1 d hl hn hlv (fun ls' hl' => k p l e s m args below meth c H locs ls' hC hR hS hl')
theorem x_lstore_n {n : Fin 4} {i : Nat} {x : Int64} (d : decode M.2.1 pc = .ok (.lstore_n n, 1)) (hi : (n : Nat) = i) (hn : i + 1 < M.2.2.1) (hlv : (i, Value.long x) :: lv.filter (fun q => !(q.1 == i) && (!(q.1 == i + 1) && !(q.1 + 1 == i && q.2.category == 2))) = lv') (k : X G M R (pc + 1) lv' st h c0 s0 res h') : X G M R pc lv (.long x :: st) h c0 s0 res h' := by
  intro p l e s m args below meth c H locs ls hC hR hS hl
  exact lv_lstore_n hC.1 hC.2.1 d hi hl hn hlv (fun ls' hl' => k p l e s m args below meth c H locs ls' hC hR hS hl')
theorem x_fload {i : Nat} {x : UInt32} (d : decode M.2.1 pc = .ok (.fload i, 2)) (a : Nat) (hk : lv[a]? = some (i, .float x)) (k : X G M R (pc + 2) lv (.float x :: st) h c0 s0 res h') : X G M R pc lv (st) h c0 s0 res h' := by
  intro p l e s m args below meth c H locs ls hC hR hS hl
  exact lv_fload hC.1 hC.2.1 d (lv_at hl a hk) (k p l e s m args below meth c H locs ls hC hR hS hl)
theorem x_fload_n {n : Fin 4} {x : UInt32} (d : decode M.2.1 pc = .ok (.fload_n n, 1)) (a : Nat) (hk : lv[a]? = some ((n : Nat), .float x)) (k : X G M R (pc + 1) lv (.float x :: st) h c0 s0 res h') : X G M R pc lv (st) h c0 s0 res h' := by
  intro p l e s m args below meth c H locs ls hC hR hS hl
  exact lv_fload_n hC.1 hC.2.1 d rfl (lv_at hl a hk) (k p l e s m args below meth c H locs ls hC hR hS hl)
theorem x_fstore {i : Nat} {x : UInt32} (d : decode M.2.1 pc = .ok (.fstore i, 2)) (hn : i < M.2.2.1) (hlv : (i, Value.float x) :: lv.filter (fun q => !(q.1 == i) && !(q.1 + 1 == i && q.2.category == 2)) = lv') (k : X G M R (pc + 2) lv' st h c0 s0 res h') : X G M R pc lv (.float x :: st) h c0 s0 res h' := by
  intro p l e s m args below meth c H locs ls hC hR hS hl
  exact lv_fstore hC.1 hC.2.1 d hl hn hlv (fun ls' hl' => k p l e s m args below meth c H locs ls' hC hR hS hl')
theorem x_fstore_n {n : Fin 4} {i : Nat} {x : UInt32} (d : decode M.2.1 pc = .ok (.fstore_n n, 1)) (hi : (n : Nat) = i) (hn : i < M.2.2.1) (hlv : (i, Value.float x) :: lv.filter (fun q => !(q.1 == i) && !(q.1 + 1 == i && q.2.category == 2)) = lv') (k : X G M R (pc + 1) lv' st h c0 s0 res h') : X G M R pc lv (.float x :: st) h c0 s0 res h' := by
  intro p l e s m args below meth c H locs ls hC hR hS hl
  exact lv_fstore_n hC.1 hC.2.1 d hi hl hn hlv (fun ls' hl' => k p l e s m args below meth c H locs ls' hC hR hS hl')
theorem x_dload {i : Nat} {x : UInt64} (d : decode M.2.1 pc = .ok (.dload i, 2)) (a : Nat) (hk : lv[a]? = some (i, .double x)) (k : X G M R (pc + 2) lv (.double x :: st) h c0 s0 res h') : X G M R pc lv (st) h c0 s0 res h' := by
  intro p l e s m args below meth c H locs ls hC hR hS hl
  exact lv_dload hC.1 hC.2.1 d (lv_at hl a hk) (k p l e s m args below meth c H locs ls hC hR hS hl)
theorem x_dload_n {n : Fin 4} {x : UInt64} (d : decode M.2.1 pc = .ok (.dload_n n, 1)) (a : Nat) (hk : lv[a]? = some ((n : Nat), .double x)) (k : X G M R (pc + 1) lv (.double x :: st) h c0 s0 res h') : X G M R pc lv (st) h c0 s0 res h' := by
  intro p l e s m args below meth c H locs ls hC hR hS hl
  exact lv_dload_n hC.1 hC.2.1 d rfl (lv_at hl a hk) (k p l e s m args below meth c H locs ls hC hR hS hl)
theorem x_dstore {i : Nat} {x : UInt64} (d : decode M.2.1 pc = .ok (.dstore i, 2)) (hn : i + 1 < M.2.2.1) (hlv : (i, Value.double x) :: lv.filter (fun q => !(q.1 == i) && (!(q.1 == i + 1) && !(q.1 + 1 == i && q.2.category == 2))) = lv') (k : X G M R (pc + 2) lv' st h c0 s0 res h') : X G M R pc lv (.double x :: st) h c0 s0 res h' := by
  intro p l e s m args below meth c H locs ls hC hR hS hl
  exact lv_dstore hC.1 hC.2.1 d hl hn hlv (fun ls' hl' => k p l e s m args below meth c H locs ls' hC hR hS hl')
theorem x_dstore_n {n : Fin 4} {i : Nat} {x : UInt64} (d : decode M.2.1 pc = .ok (.dstore_n n, 1)) (hi : (n : Nat) = i) (hn : i + 1 < M.2.2.1) (hlv : (i, Value.double x) :: lv.filter (fun q => !(q.1 == i) && (!(q.1 == i + 1) && !(q.1 + 1 == i && q.2.category == 2))) = lv') (k : X G M R (pc + 1) lv' st h c0 s0 res h') : X G M R pc lv (.double x :: st) h c0 s0 res h' := by
  intro p l e s m args below meth c H locs ls hC hR hS hl
  exact lv_dstore_n hC.1 hC.2.1 d hi hl hn hlv (fun ls' hl' => k p l e s m args below meth c H locs ls' hC hR hS hl')
theorem x_iinc {i : Nat} {n z : Int} (d : decode M.2.1 pc = .ok (.iinc i n, 3)) (a : Nat) (hk : lv[a]? = some (i, .int (iI z))) (hn : i < M.2.2.1) (hlv : (i, Value.int (iI (z + n))) :: lv.filter (fun q => !(q.1 == i) && !(q.1 + 1 == i && q.2.category == 2)) = lv') (k : X G M R (pc + 3) lv' st h c0 s0 res h') : X G M R pc lv st h c0 s0 res h' := by
  intro p l e s m args below meth c H locs ls hC hR hS hl
  exact lv_iinc hC.1 hC.2.1 d hl hk (iI_add z n) hn hlv (fun ls' hl' => k p l e s m args below meth c H locs ls' hC hR hS hl')
theorem x_iadd {a b : Int} (d : decode M.2.1 pc = .ok (.iadd, 1)) (k : X G M R (pc + 1) lv (.int (iI (a + b)) :: st) h c0 s0 res h') : X G M R pc lv (.int (iI b) :: .int (iI a) :: st) h c0 s0 res h' := by
  intro p l e s m args below meth c H locs ls hC hR hS hl
  refine lv_iadd hC.1 hC.2.1 d ?_
  rw [iI_add]
  exact k p l e s m args below meth c H locs ls hC hR hS hl
theorem x_isub {a b : Int} (d : decode M.2.1 pc = .ok (.isub, 1)) (k : X G M R (pc + 1) lv (.int (iI (a - b)) :: st) h c0 s0 res h') : X G M R pc lv (.int (iI b) :: .int (iI a) :: st) h c0 s0 res h' := by
  intro p l e s m args below meth c H locs ls hC hR hS hl
  refine lv_isub hC.1 hC.2.1 d ?_
  rw [iI_sub]
  exact k p l e s m args below meth c H locs ls hC hR hS hl
theorem x_imul {a b : Int} (d : decode M.2.1 pc = .ok (.imul, 1)) (k : X G M R (pc + 1) lv (.int (iI (a * b)) :: st) h c0 s0 res h') : X G M R pc lv (.int (iI b) :: .int (iI a) :: st) h c0 s0 res h' := by
  intro p l e s m args below meth c H locs ls hC hR hS hl
  refine lv_imul hC.1 hC.2.1 d ?_
  rw [iI_mul]
  exact k p l e s m args below meth c H locs ls hC hR hS hl
theorem x_ineg {a : Int} (d : decode M.2.1 pc = .ok (.ineg, 1)) (k : X G M R (pc + 1) lv (.int (iI (-a)) :: st) h c0 s0 res h') : X G M R pc lv (.int (iI a) :: st) h c0 s0 res h' := by
  intro p l e s m args below meth c H locs ls hC hR hS hl
  refine lv_ineg hC.1 hC.2.1 d ?_
  rw [iI_neg]
  exact k p l e s m args below meth c H locs ls hC hR hS hl
theorem x_idiv {a b : Int} (d : decode M.2.1 pc = .ok (.idiv, 1)) (ha : 0 ≤ a ∧ a < 2147483648) (hb : 0 < b ∧ b < 2147483648) (k : X G M R (pc + 1) lv (.int (iI (a / b)) :: st) h c0 s0 res h') : X G M R pc lv (.int (iI b) :: .int (iI a) :: st) h c0 s0 res h' := by
  intro p l e s m args below meth c H locs ls hC hR hS hl
  refine lv_idiv hC.1 hC.2.1 d (iI_ne0 ⟨by omega, by omega⟩ (by omega)) ?_
  rw [iI_div ⟨by omega, by omega⟩ ⟨by omega, by omega⟩ ha.1 hb.1]
  exact k p l e s m args below meth c H locs ls hC hR hS hl
theorem x_irem {a b : Int} (d : decode M.2.1 pc = .ok (.irem, 1)) (ha : 0 ≤ a ∧ a < 2147483648) (hb : 0 < b ∧ b < 2147483648) (k : X G M R (pc + 1) lv (.int (iI (a % b)) :: st) h c0 s0 res h') : X G M R pc lv (.int (iI b) :: .int (iI a) :: st) h c0 s0 res h' := by
  intro p l e s m args below meth c H locs ls hC hR hS hl
  refine lv_irem hC.1 hC.2.1 d (iI_ne0 ⟨by omega, by omega⟩ (by omega)) ?_
  rw [iI_rem ⟨by omega, by omega⟩ ⟨by omega, by omega⟩ ha.1 hb.1]
  exact k p l e s m args below meth c H locs ls hC hR hS hl
theorem x_ladd {a b : Int} (d : decode M.2.1 pc = .ok (.ladd, 1)) (k : X G M R (pc + 1) lv (.long (lI (a + b)) :: st) h c0 s0 res h') : X G M R pc lv (.long (lI b) :: .long (lI a) :: st) h c0 s0 res h' := by
  intro p l e s m args below meth c H locs ls hC hR hS hl
  refine lv_ladd hC.1 hC.2.1 d ?_
  rw [lI_add]
  exact k p l e s m args below meth c H locs ls hC hR hS hl
theorem x_lsub {a b : Int} (d : decode M.2.1 pc = .ok (.lsub, 1)) (k : X G M R (pc + 1) lv (.long (lI (a - b)) :: st) h c0 s0 res h') : X G M R pc lv (.long (lI b) :: .long (lI a) :: st) h c0 s0 res h' := by
  intro p l e s m args below meth c H locs ls hC hR hS hl
  refine lv_lsub hC.1 hC.2.1 d ?_
  rw [lI_sub]
  exact k p l e s m args below meth c H locs ls hC hR hS hl
theorem x_lmul {a b : Int} (d : decode M.2.1 pc = .ok (.lmul, 1)) (k : X G M R (pc + 1) lv (.long (lI (a * b)) :: st) h c0 s0 res h') : X G M R pc lv (.long (lI b) :: .long (lI a) :: st) h c0 s0 res h' := by
  intro p l e s m args below meth c H locs ls hC hR hS hl
  refine lv_lmul hC.1 hC.2.1 d ?_
  rw [lI_mul]
  exact k p l e s m args below meth c H locs ls hC hR hS hl
theorem x_ldiv {a b : Int} (d : decode M.2.1 pc = .ok (.ldiv, 1)) (ha : 0 ≤ a ∧ a < 9223372036854775808) (hb : 0 < b ∧ b < 9223372036854775808) (k : X G M R (pc + 1) lv (.long (lI (a / b)) :: st) h c0 s0 res h') : X G M R pc lv (.long (lI b) :: .long (lI a) :: st) h c0 s0 res h' := by
  intro p l e s m args below meth c H locs ls hC hR hS hl
  refine lv_ldiv hC.1 hC.2.1 d (lI_ne0 ⟨by omega, by omega⟩ (by omega)) ?_
  rw [lI_div ⟨by omega, by omega⟩ ⟨by omega, by omega⟩ ha.1 hb.1]
  exact k p l e s m args below meth c H locs ls hC hR hS hl
theorem x_i2l {a : Int} (d : decode M.2.1 pc = .ok (.i2l, 1)) (ha : inI a) (k : X G M R (pc + 1) lv (.long (lI a) :: st) h c0 s0 res h') : X G M R pc lv (.int (iI a) :: st) h c0 s0 res h' := by
  intro p l e s m args below meth c H locs ls hC hR hS hl
  refine lv_i2l hC.1 hC.2.1 d (iI_l ha) ?_
  skip
  exact k p l e s m args below meth c H locs ls hC hR hS hl
theorem x_l2i {a : Int} (d : decode M.2.1 pc = .ok (.l2i, 1)) (k : X G M R (pc + 1) lv (.int (iI a) :: st) h c0 s0 res h') : X G M R pc lv (.long (lI a) :: st) h c0 s0 res h' := by
  intro p l e s m args below meth c H locs ls hC hR hS hl
  refine lv_l2i hC.1 hC.2.1 d (lI_i a) ?_
  skip
  exact k p l e s m args below meth c H locs ls hC hR hS hl
theorem x_i2b {a : Int} (d : decode M.2.1 pc = .ok (.i2b, 1)) (k : X G M R (pc + 1) lv (.int (iI (bI a)) :: st) h c0 s0 res h') : X G M R pc lv (.int (iI a) :: st) h c0 s0 res h' := by
  intro p l e s m args below meth c H locs ls hC hR hS hl
  refine lv_i2b hC.1 hC.2.1 d (iI_b a) ?_
  skip
  exact k p l e s m args below meth c H locs ls hC hR hS hl
theorem x_lcmp {a b : Int} (d : decode M.2.1 pc = .ok (.lcmp, 1)) (ha : inL a) (hb : inL b) (k : X G M R (pc + 1) lv (.int (iI (if b < a then 1 else if a = b then 0 else -1)) :: st) h c0 s0 res h') : X G M R pc lv (.long (lI b) :: .long (lI a) :: st) h c0 s0 res h' := by
  intro p l e s m args below meth c H locs ls hC hR hS hl
  refine W.lcmp hC.1 hC.2.1 d ?_
  rw [lg_cmp_lI ha hb]
  exact k p l e s m args below meth c H locs ls hC hR hS hl
theorem x_iand_ {x y : Int32} (d : decode M.2.1 pc = .ok (.iand, 1)) (k : X G M R (pc + 1) lv (.int (x &&& y) :: st) h c0 s0 res h') : X G M R pc lv (.int y :: .int x :: st) h c0 s0 res h' := by
  intro p l e s m args below meth c H locs ls hC hR hS hl
  exact lv_iand hC.1 hC.2.1 d (k p l e s m args below meth c H locs ls hC hR hS hl)
theorem x_land_ {x y : Int64} (d : decode M.2.1 pc = .ok (.land, 1)) (k : X G M R (pc + 1) lv (.long (x &&& y) :: st) h c0 s0 res h') : X G M R pc lv (.long y :: .long x :: st) h c0 s0 res h' := by
  intro p l e s m args below meth c H locs ls hC hR hS hl
  exact lv_land hC.1 hC.2.1 d (k p l e s m args below meth c H locs ls hC hR hS hl)
theorem x_lor_ {x y : Int64} (d : decode M.2.1 pc = .ok (.lor, 1)) (k : X G M R (pc + 1) lv (.long (x ||| y) :: st) h c0 s0 res h') : X G M R pc lv (.long y :: .long x :: st) h c0 s0 res h' := by
  intro p l e s m args below meth c H locs ls hC hR hS hl
  exact lv_lor hC.1 hC.2.1 d (k p l e s m args below meth c H locs ls hC hR hS hl)
theorem x_lshl_ {x : Int64} {y : Int32} (d : decode M.2.1 pc = .ok (.lshl, 1)) (k : X G M R (pc + 1) lv (.long (x <<< (y.toInt64 &&& 63)) :: st) h c0 s0 res h') : X G M R pc lv (.int y :: .long x :: st) h c0 s0 res h' := by
  intro p l e s m args below meth c H locs ls hC hR hS hl
  exact lv_lshl hC.1 hC.2.1 d rfl (k p l e s m args below meth c H locs ls hC hR hS hl)
theorem x_lushr_ {x : Int64} {y : Int32} (d : decode M.2.1 pc = .ok (.lushr, 1)) (k : X G M R (pc + 1) lv (.long ((x.toUInt64 >>> (y.toInt64.toUInt64 &&& Int64.toUInt64 63)).toInt64) :: st) h c0 s0 res h') : X G M R pc lv (.int y :: .long x :: st) h c0 s0 res h' := by
  intro p l e s m args below meth c H locs ls hC hR hS hl
  exact lv_lushr hC.1 hC.2.1 d rfl (k p l e s m args below meth c H locs ls hC hR hS hl)
theorem x_lshr_ {x : Int64} {y : Int32} (d : decode M.2.1 pc = .ok (.lshr, 1)) (k : X G M R (pc + 1) lv (.long (x >>> (y.toInt64 &&& 63)) :: st) h c0 s0 res h') : X G M R pc lv (.int y :: .long x :: st) h c0 s0 res h' := by
  intro p l e s m args below meth c H locs ls hC hR hS hl
  exact lv_lshr hC.1 hC.2.1 d rfl (k p l e s m args below meth c H locs ls hC hR hS hl)
theorem x_i2l_ {x : Int32} (d : decode M.2.1 pc = .ok (.i2l, 1)) (k : X G M R (pc + 1) lv (.long x.toInt64 :: st) h c0 s0 res h') : X G M R pc lv (.int x :: st) h c0 s0 res h' := by
  intro p l e s m args below meth c H locs ls hC hR hS hl
  exact lv_i2l hC.1 hC.2.1 d rfl (k p l e s m args below meth c H locs ls hC hR hS hl)
theorem x_l2i_ {x : Int64} (d : decode M.2.1 pc = .ok (.l2i, 1)) (k : X G M R (pc + 1) lv (.int x.toInt32 :: st) h c0 s0 res h') : X G M R pc lv (.long x :: st) h c0 s0 res h' := by
  intro p l e s m args below meth c H locs ls hC hR hS hl
  exact lv_l2i hC.1 hC.2.1 d rfl (k p l e s m args below meth c H locs ls hC hR hS hl)
theorem x_i2b_ {x : Int32} (d : decode M.2.1 pc = .ok (.i2b, 1)) (k : X G M R (pc + 1) lv (.int x.toInt8.toInt32 :: st) h c0 s0 res h') : X G M R pc lv (.int x :: st) h c0 s0 res h' := by
  intro p l e s m args below meth c H locs ls hC hR hS hl
  exact lv_i2b hC.1 hC.2.1 d rfl (k p l e s m args below meth c H locs ls hC hR hS hl)
theorem x_i2f {x : Int32} (d : decode M.2.1 pc = .ok (.i2f, 1)) (k : X G M R (pc + 1) lv (.float (FP.i2f x) :: st) h c0 s0 res h') : X G M R pc lv (.int x :: st) h c0 s0 res h' := by
  intro p l e s m args below meth c H locs ls hC hR hS hl
  exact lv_i2f hC.1 hC.2.1 d (k p l e s m args below meth c H locs ls hC hR hS hl)
theorem x_i2d {x : Int32} (d : decode M.2.1 pc = .ok (.i2d, 1)) (k : X G M R (pc + 1) lv (.double (FP.i2d x) :: st) h c0 s0 res h') : X G M R pc lv (.int x :: st) h c0 s0 res h' := by
  intro p l e s m args below meth c H locs ls hC hR hS hl
  exact lv_i2d hC.1 hC.2.1 d (k p l e s m args below meth c H locs ls hC hR hS hl)
theorem x_l2d {x : Int64} (d : decode M.2.1 pc = .ok (.l2d, 1)) (k : X G M R (pc + 1) lv (.double (FP.l2d x) :: st) h c0 s0 res h') : X G M R pc lv (.long x :: st) h c0 s0 res h' := by
  intro p l e s m args below meth c H locs ls hC hR hS hl
  exact lv_l2d hC.1 hC.2.1 d (k p l e s m args below meth c H locs ls hC hR hS hl)
theorem x_fcmp {x y : UInt32} {op : CmpOp} (d : decode M.2.1 pc = .ok (.fcmp op, 1)) (k : X G M R (pc + 1) lv (.int (Op.cmpValue (FP.fcmp x y) op) :: st) h c0 s0 res h') : X G M R pc lv (.float y :: .float x :: st) h c0 s0 res h' := by
  intro p l e s m args below meth c H locs ls hC hR hS hl
  exact lv_fcmp hC.1 hC.2.1 d (k p l e s m args below meth c H locs ls hC hR hS hl)
theorem x_dcmp {x y : UInt64} {op : CmpOp} (d : decode M.2.1 pc = .ok (.dcmp op, 1)) (k : X G M R (pc + 1) lv (.int (Op.cmpValue (FP.dcmp x y) op) :: st) h c0 s0 res h') : X G M R pc lv (.double y :: .double x :: st) h c0 s0 res h' := by
  intro p l e s m args below meth c H locs ls hC hR hS hl
  exact lv_dcmp hC.1 hC.2.1 d (k p l e s m args below meth c H locs ls hC hR hS hl)
theorem x_f2d {x : UInt32} (d : decode M.2.1 pc = .ok (.f2d, 1)) (hne : vf_n64 (FP.f2d x)) (k : X G M R (pc + 1) lv (.double (FP.f2d x) :: st) h c0 s0 res h') : X G M R pc lv (.float x :: st) h c0 s0 res h' := by
  intro p l e s m args below meth c H locs ls hC hR hS hl
  exact lv_f2d hC.1 hC.2.1 d hne (k p l e s m args below meth c H locs ls hC hR hS hl)
theorem x_fdiv {x y : UInt32} (d : decode M.2.1 pc = .ok (.fdiv, 1)) (hne : vf_n32 (FP.fdiv x y)) (k : X G M R (pc + 1) lv (.float (FP.fdiv x y) :: st) h c0 s0 res h') : X G M R pc lv (.float y :: .float x :: st) h c0 s0 res h' := by
  intro p l e s m args below meth c H locs ls hC hR hS hl
  exact lv_fdiv hC.1 hC.2.1 d hne (k p l e s m args below meth c H locs ls hC hR hS hl)
theorem x_ddiv {x y : UInt64} (d : decode M.2.1 pc = .ok (.ddiv, 1)) (hne : vf_n64 (FP.ddiv x y)) (k : X G M R (pc + 1) lv (.double (FP.ddiv x y) :: st) h c0 s0 res h') : X G M R pc lv (.double y :: .double x :: st) h c0 s0 res h' := by
  intro p l e s m args below meth c H locs ls hC hR hS hl
  exact lv_ddiv hC.1 hC.2.1 d hne (k p l e s m args below meth c H locs ls hC hR hS hl)
theorem x_dup {v : Value} (d : decode M.2.1 pc = .ok (.dup, 1)) (hv : v.category = 1) (k : X G M R (pc + 1) lv (v :: v :: st) h c0 s0 res h') : X G M R pc lv (v :: st) h c0 s0 res h' := by
  intro p l e s m args below meth c H locs ls hC hR hS hl
  exact lv_dup hC.1 hC.2.1 d hv (k p l e s m args below meth c H locs ls hC hR hS hl)
theorem x_pop {v : Value} (d : decode M.2.1 pc = .ok (.pop, 1)) (hv : v.category = 1) (k : X G M R (pc + 1) lv (st) h c0 s0 res h') : X G M R pc lv (v :: st) h c0 s0 res h' := by
  intro p l e s m args below meth c H locs ls hC hR hS hl
  exact lv_pop hC.1 hC.2.1 d hv (k p l e s m args below meth c H locs ls hC hR hS hl)
theorem x_dup_x1 {v w : Value} (d : decode M.2.1 pc = .ok (.dup_x1, 1)) (hv : v.category = 1) (hw : w.category = 1) (k : X G M R (pc + 1) lv (v :: w :: v :: st) h c0 s0 res h') : X G M R pc lv (v :: w :: st) h c0 s0 res h' := by
  intro p l e s m args below meth c H locs ls hC hR hS hl
  exact lv_dup_x1 hC.1 hC.2.1 d hv hw (k p l e s m args below meth c H locs ls hC hR hS hl)
theorem x_dup2 {v w : Value} (d : decode M.2.1 pc = .ok (.dup2, 1)) (hv : v.category = 1) (hw : w.category = 1) (k : X G M R (pc + 1) lv (v :: w :: v :: w :: st) h c0 s0 res h') : X G M R pc lv (v :: w :: st) h c0 s0 res h' := by
  intro p l e s m args below meth c H locs ls hC hR hS hl
  exact lv_dup2_11 hC.1 hC.2.1 d hv hw (k p l e s m args below meth c H locs ls hC hR hS hl)
theorem x_goto {off : Int} (tgt : Nat) (d : decode M.2.1 pc = .ok (.goto off, 3)) (ht : (pc : Int) + off = (tgt : Int)) (k : X G M R tgt lv st h c0 s0 res h') : X G M R pc lv st h c0 s0 res h' := by
  intro p l e s m args below meth c H locs ls hC hR hS hl
  exact lv_goto hC.1 hC.2.1 d ht (k p l e s m args below meth c H locs ls hC hR hS hl)
theorem x_if_eq {a off : Int} (tgt : Nat) (d : decode M.2.1 pc = .ok (.ifCond .eq off, 3)) (ht : (pc : Int) + off = (tgt : Int)) (ha : inI a) (kt : a = 0 → X G M R tgt lv st h c0 s0 res h') (kf : ¬ a = 0 → X G M R (pc + 3) lv st h c0 s0 res h') : X G M R pc lv (.int (iI a) :: st) h c0 s0 res h' := by
  intro p l e s m args below meth c H locs ls hC hR hS hl
  have i0 : inI 0 := ⟨by decide, by decide⟩
  exact lv_if_eq hC.1 hC.2.1 d ht (fun q => kt ((iI_eq ha (b := 0) i0).mp q) p l e s m args below meth c H locs ls hC hR hS hl) (fun q => kf (fun z => q ((iI_eq ha (b := 0) i0).mpr z)) p l e s m args below meth c H locs ls hC hR hS hl)
theorem x_if_ne {a off : Int} (tgt : Nat) (d : decode M.2.1 pc = .ok (.ifCond .ne off, 3)) (ht : (pc : Int) + off = (tgt : Int)) (ha : inI a) (kt : a ≠ 0 → X G M R tgt lv st h c0 s0 res h') (kf : a = 0 → X G M R (pc + 3) lv st h c0 s0 res h') : X G M R pc lv (.int (iI a) :: st) h c0 s0 res h' := by
  intro p l e s m args below meth c H locs ls hC hR hS hl
  have i0 : inI 0 := ⟨by decide, by decide⟩
  exact lv_if_ne hC.1 hC.2.1 d ht (fun q => kt (fun z => q ((iI_eq ha (b := 0) i0).mpr z)) p l e s m args below meth c H locs ls hC hR hS hl) (fun q => kf ((iI_eq ha (b := 0) i0).mp q) p l e s m args below meth c H locs ls hC hR hS hl)
theorem x_if_lt {a off : Int} (tgt : Nat) (d : decode M.2.1 pc = .ok (.ifCond .lt off, 3)) (ht : (pc : Int) + off = (tgt : Int)) (ha : inI a) (kt : a < 0 → X G M R tgt lv st h c0 s0 res h') (kf : ¬ a < 0 → X G M R (pc + 3) lv st h c0 s0 res h') : X G M R pc lv (.int (iI a) :: st) h c0 s0 res h' := by
  intro p l e s m args below meth c H locs ls hC hR hS hl
  have i0 : inI 0 := ⟨by decide, by decide⟩
  exact lv_if_lt hC.1 hC.2.1 d ht (fun q => kt ((iI_lt ha (b := 0) i0).mp q) p l e s m args below meth c H locs ls hC hR hS hl) (fun q => kf (fun z => q ((iI_lt ha (b := 0) i0).mpr z)) p l e s m args below meth c H locs ls hC hR hS hl)
theorem x_if_ge {a off : Int} (tgt : Nat) (d : decode M.2.1 pc = .ok (.ifCond .ge off, 3)) (ht : (pc : Int) + off = (tgt : Int)) (ha : inI a) (kt : 0 ≤ a → X G M R tgt lv st h c0 s0 res h') (kf : ¬ 0 ≤ a → X G M R (pc + 3) lv st h c0 s0 res h') : X G M R pc lv (.int (iI a) :: st) h c0 s0 res h' := by
  intro p l e s m args below meth c H locs ls hC hR hS hl
  have i0 : inI 0 := ⟨by decide, by decide⟩
  exact lv_if_ge hC.1 hC.2.1 d ht (fun q => kt ((iI_le (a := 0) i0 ha).mp q) p l e s m args below meth c H locs ls hC hR hS hl) (fun q => kf (fun z => q ((iI_le (a := 0) i0 ha).mpr z)) p l e s m args below meth c H locs ls hC hR hS hl)
theorem x_if_gt {a off : Int} (tgt : Nat) (d : decode M.2.1 pc = .ok (.ifCond .gt off, 3)) (ht : (pc : Int) + off = (tgt : Int)) (ha : inI a) (kt : 0 < a → X G M R tgt lv st h c0 s0 res h') (kf : ¬ 0 < a → X G M R (pc + 3) lv st h c0 s0 res h') : X G M R pc lv (.int (iI a) :: st) h c0 s0 res h' := by
  intro p l e s m args below meth c H locs ls hC hR hS hl
  have i0 : inI 0 := ⟨by decide, by decide⟩
  exact lv_if_gt hC.1 hC.2.1 d ht (fun q => kt ((iI_lt (a := 0) i0 ha).mp q) p l e s m args below meth c H locs ls hC hR hS hl) (fun q => kf (fun z => q ((iI_lt (a := 0) i0 ha).mpr z)) p l e s m args below meth c H locs ls hC hR hS hl)
theorem x_if_le {a off : Int} (tgt : Nat) (d : decode M.2.1 pc = .ok (.ifCond .le off, 3)) (ht : (pc : Int) + off = (tgt : Int)) (ha : inI a) (kt : a ≤ 0 → X G M R tgt lv st h c0 s0 res h') (kf : ¬ a ≤ 0 → X G M R (pc + 3) lv st h c0 s0 res h') : X G M R pc lv (.int (iI a) :: st) h c0 s0 res h' := by
  intro p l e s m args below meth c H locs ls hC hR hS hl
  have i0 : inI 0 := ⟨by decide, by decide⟩
  exact lv_if_le hC.1 hC.2.1 d ht (fun q => kt ((iI_le ha (b := 0) i0).mp q) p l e s m args below meth c H locs ls hC hR hS hl) (fun q => kf (fun z => q ((iI_le ha (b := 0) i0).mpr z)) p l e s m args below meth c H locs ls hC hR hS hl)
theorem x_icmp_eq {a b off : Int} (tgt : Nat) (d : decode M.2.1 pc = .ok (.if_icmp .eq off, 3)) (ht : (pc : Int) + off = (tgt : Int)) (ha : inI a) (hb : inI b) (kt : a = b → X G M R tgt lv st h c0 s0 res h') (kf : ¬ a = b → X G M R (pc + 3) lv st h c0 s0 res h') : X G M R pc lv (.int (iI b) :: .int (iI a) :: st) h c0 s0 res h' := by
  intro p l e s m args below meth c H locs ls hC hR hS hl
  exact lv_icmp_eq hC.1 hC.2.1 d ht (fun q => kt ((iI_eq ha hb).mp q) p l e s m args below meth c H locs ls hC hR hS hl) (fun q => kf (fun z => q ((iI_eq ha hb).mpr z)) p l e s m args below meth c H locs ls hC hR hS hl)
theorem x_icmp_ne {a b off : Int} (tgt : Nat) (d : decode M.2.1 pc = .ok (.if_icmp .ne off, 3)) (ht : (pc : Int) + off = (tgt : Int)) (ha : inI a) (hb : inI b) (kt : a ≠ b → X G M R tgt lv st h c0 s0 res h') (kf : a = b → X G M R (pc + 3) lv st h c0 s0 res h') : X G M R pc lv (.int (iI b) :: .int (iI a) :: st) h c0 s0 res h' := by
  intro p l e s m args below meth c H locs ls hC hR hS hl
  exact lv_icmp_ne hC.1 hC.2.1 d ht (fun q => kt (fun z => q ((iI_eq ha hb).mpr z)) p l e s m args below meth c H locs ls hC hR hS hl) (fun q => kf ((iI_eq ha hb).mp q) p l e s m args below meth c H locs ls hC hR hS hl)
theorem x_icmp_lt {a b off : Int} (tgt : Nat) (d : decode M.2.1 pc = .ok (.if_icmp .lt off, 3)) (ht : (pc : Int) + off = (tgt : Int)) (ha : inI a) (hb : inI b) (kt : a < b → X G M R tgt lv st h c0 s0 res h') (kf : ¬ a < b → X G M R (pc + 3) lv st h c0 s0 res h') : X G M R pc lv (.int (iI b) :: .int (iI a) :: st) h c0 s0 res h' := by
  intro p l e s m args below meth c H locs ls hC hR hS hl
  exact lv_icmp_lt hC.1 hC.2.1 d ht (fun q => kt ((iI_lt ha hb).mp q) p l e s m args below meth c H locs ls hC hR hS hl) (fun q => kf (fun z => q ((iI_lt ha hb).mpr z)) p l e s m args below meth c H locs ls hC hR hS hl)
theorem x_icmp_ge {a b off : Int} (tgt : Nat) (d : decode M.2.1 pc = .ok (.if_icmp .ge off, 3)) (ht : (pc : Int) + off = (tgt : Int)) (ha : inI a) (hb : inI b) (kt : b ≤ a → X G M R tgt lv st h c0 s0 res h') (kf : ¬ b ≤ a → X G M R (pc + 3) lv st h c0 s0 res h') : X G M R pc lv (.int (iI b) :: .int (iI a) :: st) h c0 s0 res h' := by
  intro p l e s m args below meth c H locs ls hC hR hS hl
  exact lv_icmp_ge hC.1 hC.2.1 d ht (fun q => kt ((iI_le hb ha).mp q) p l e s m args below meth c H locs ls hC hR hS hl) (fun q => kf (fun z => q ((iI_le hb ha).mpr z)) p l e s m args below meth c H locs ls hC hR hS hl)
theorem x_icmp_gt {a b off : Int} (tgt : Nat) (d : decode M.2.1 pc = .ok (.if_icmp .gt off, 3)) (ht : (pc : Int) + off = (tgt : Int)) (ha : inI a) (hb : inI b) (kt : b < a → X G M R tgt lv st h c0 s0 res h') (kf : ¬ b < a → X G M R (pc + 3) lv st h c0 s0 res h') : X G M R pc lv (.int (iI b) :: .int (iI a) :: st) h c0 s0 res h' := by
  intro p l e s m args below meth c H locs ls hC hR hS hl
  exact lv_icmp_gt hC.1 hC.2.1 d ht (fun q => kt ((iI_lt hb ha).mp q) p l e s m args below meth c H locs ls hC hR hS hl) (fun q => kf (fun z => q ((iI_lt hb ha).mpr z)) p l e s m args below meth c H locs ls hC hR hS hl)
theorem x_icmp_le {a b off : Int} (tgt : Nat) (d : decode M.2.1 pc = .ok (.if_icmp .le off, 3)) (ht : (pc : Int) + off = (tgt : Int)) (ha : inI a) (hb : inI b) (kt : a ≤ b → X G M R tgt lv st h c0 s0 res h') (kf : ¬ a ≤ b → X G M R (pc + 3) lv st h c0 s0 res h') : X G M R pc lv (.int (iI b) :: .int (iI a) :: st) h c0 s0 res h' := by
  intro p l e s m args below meth c H locs ls hC hR hS hl
  exact lv_icmp_le hC.1 hC.2.1 d ht (fun q => kt ((iI_le ha hb).mp q) p l e s m args below meth c H locs ls hC hR hS hl) (fun q => kf (fun z => q ((iI_le ha hb).mpr z)) p l e s m args below meth c H locs ls hC hR hS hl)
theorem b01 {c : Prop} [Decidable c] : inI (if c then 1 else 0) := by split <;> exact ⟨by decide, by decide⟩
theorem x_ifb_eq {c : Prop} [Decidable c] {off : Int} (tgt : Nat) (d : decode M.2.1 pc = .ok (.ifCond .eq off, 3)) (ht : (pc : Int) + off = (tgt : Int)) (kt : ¬ c → X G M R tgt lv st h c0 s0 res h') (kf : c → X G M R (pc + 3) lv st h c0 s0 res h') : X G M R pc lv (.int (iI (if c then 1 else 0)) :: st) h c0 s0 res h' :=
  x_if_eq tgt d ht b01 (fun q => kt (fun z => by rw [if_pos z] at q; omega)) (fun q => kf (by by_cases z : c; exact z; rw [if_neg z] at q; omega))
theorem x_ifb_ne {c : Prop} [Decidable c] {off : Int} (tgt : Nat) (d : decode M.2.1 pc = .ok (.ifCond .ne off, 3)) (ht : (pc : Int) + off = (tgt : Int)) (kt : c → X G M R tgt lv st h c0 s0 res h') (kf : ¬ c → X G M R (pc + 3) lv st h c0 s0 res h') : X G M R pc lv (.int (iI (if c then 1 else 0)) :: st) h c0 s0 res h' :=
  x_if_ne tgt d ht b01 (fun q => kt (by by_cases z : c; exact z; rw [if_neg z] at q; omega)) (fun q => kf (fun z => by rw [if_pos z] at q; omega))
theorem x_tabIn {dflt lo hi : Int} {offs : Array Int} {len : Nat} {z off : Int} (tgt : Nat) (d : decode M.2.1 pc = .ok (.tableswitch dflt lo hi offs, len)) (hz : inI z) (h1 : lo ≤ z) (h2 : z ≤ hi) (ho : offs[(z - lo).toNat]? = some off) (ht : (pc : Int) + off = (tgt : Int)) (k : X G M R tgt lv st h c0 s0 res h') : X G M R pc lv (.int (iI z) :: st) h c0 s0 res h' := by
  intro p l e s m args below meth c H locs ls hC hR hS hl
  exact lv_tableIn hC.1 hC.2.1 d (by rw [iI_toInt hz]; omega) (by rw [iI_toInt hz]; omega) (by rw [iI_toInt hz]; exact ho) ht (k p l e s m args below meth c H locs ls hC hR hS hl)
theorem x_tabOut {dflt lo hi : Int} {offs : Array Int} {len : Nat} {z : Int} (tgt : Nat) (d : decode M.2.1 pc = .ok (.tableswitch dflt lo hi offs, len)) (hz : inI z) (h1 : z < lo ∨ hi < z) (ht : (pc : Int) + dflt = (tgt : Int)) (k : X G M R tgt lv st h c0 s0 res h') : X G M R pc lv (.int (iI z) :: st) h c0 s0 res h' := by
  intro p l e s m args below meth c H locs ls hC hR hS hl
  exact lv_tableOut hC.1 hC.2.1 d (by rw [iI_toInt hz]; exact h1) ht (k p l e s m args below meth c H locs ls hC hR hS hl)
theorem x_ldc {index : Nat} {v : Int32} {z : Int} (d : decode M.2.1 pc = .ok (.ldc index, 2)) (hw : Cond.constant M.1.cls index v ∈ lw_ctx) (hv : v = iI z) (k : X G M R (pc + 2) lv (.int (iI z) :: st) h c0 s0 res h') : X G M R pc lv st h c0 s0 res h' := by
  intro p l e s m args below meth c H locs ls hC hR hS hl
  subst hv
  exact lv_ldc hC.1 hC.2.1 hC.2.2.2.2.1 (hC.2.2.2.2.2.1 _ hw) d (k p l e s m args below meth c H locs ls hC hR hS hl)
theorem x_ldc2 {index : Nat} {v : Int64} {z : Int} (d : decode M.2.1 pc = .ok (.ldc2_w index, 3)) (hw : Cond.constantLong M.1.cls index v ∈ lw_ctx) (hv : v = lI z) (k : X G M R (pc + 3) lv (.long (lI z) :: st) h c0 s0 res h') : X G M R pc lv st h c0 s0 res h' := by
  intro p l e s m args below meth c H locs ls hC hR hS hl
  subst hv
  exact lv_ldc2 hC.1 hC.2.1 hC.2.2.2.2.1 (hC.2.2.2.2.2.1 _ hw) d (k p l e s m args below meth c H locs ls hC hR hS hl)
theorem x_iret {x : Int32} (d : decode M.2.1 pc = .ok (.ireturn, 1)) (hr : M.2.2.2.1 = some .int) (hc : c0 ≤ R.cells) (hs : s0 ≤ R.slots) : X G M R pc lv [.int x] h c0 s0 (.inl (some (.int x))) h := by
  intro p l e s m args below meth c H locs ls hC hR hS hl
  refine W.widen hc hs (vx_ret ?_)
  exact W.iret hC.1 hC.2.1 (hC.2.2.1.trans hr) (fun t ht hW => ⟨rfl, by rw [ht]; exact hR⟩) hS.2.2 d hC.2.2.2.2.2.2.1
theorem x_zret {x : Int32} {ty : FieldType} (d : decode M.2.1 pc = .ok (.ireturn, 1)) (hr : M.2.2.2.1 = some ty) (hn : narrow ty (.int x) = .int x) (hc : c0 ≤ R.cells) (hs : s0 ≤ R.slots) : X G M R pc lv [.int x] h c0 s0 (.inl (some (.int x))) h := by
  intro p l e s m args below meth c H locs ls hC hR hS hl
  refine W.widen hc hs (vx_ret ?_)
  exact W.zret hC.1 hC.2.1 (hC.2.2.1.trans hr) hn (fun t ht hW => ⟨rfl, by rw [ht]; exact hR⟩) hS.2.2 d hC.2.2.2.2.2.2.1
theorem x_lret {x : Int64} (d : decode M.2.1 pc = .ok (.lreturn, 1)) (hr : M.2.2.2.1 = some .long) (hc : c0 ≤ R.cells) (hs : s0 ≤ R.slots) : X G M R pc lv [.long x] h c0 s0 (.inl (some (.long x))) h := by
  intro p l e s m args below meth c H locs ls hC hR hS hl
  refine W.widen hc hs (vx_ret ?_)
  exact W.lret hC.1 hC.2.1 (hC.2.2.1.trans hr) (fun t ht hW => ⟨rfl, by rw [ht]; exact hR⟩) hS.2.2 d hC.2.2.2.2.2.2.1
theorem x_fret {x : UInt32} (d : decode M.2.1 pc = .ok (.freturn, 1)) (hr : M.2.2.2.1 = some .float) (hc : c0 ≤ R.cells) (hs : s0 ≤ R.slots) : X G M R pc lv [.float x] h c0 s0 (.inl (some (.float x))) h := by
  intro p l e s m args below meth c H locs ls hC hR hS hl
  refine W.widen hc hs (vx_ret ?_)
  exact W.fret hC.1 hC.2.1 (hC.2.2.1.trans hr) (fun t ht hW => ⟨rfl, by rw [ht]; exact hR⟩) hS.2.2 d hC.2.2.2.2.2.2.1
theorem x_dret {x : UInt64} (d : decode M.2.1 pc = .ok (.dreturn, 1)) (hr : M.2.2.2.1 = some .double) (hc : c0 ≤ R.cells) (hs : s0 ≤ R.slots) : X G M R pc lv [.double x] h c0 s0 (.inl (some (.double x))) h := by
  intro p l e s m args below meth c H locs ls hC hR hS hl
  refine W.widen hc hs (vx_ret ?_)
  exact W.dret hC.1 hC.2.1 (hC.2.2.1.trans hr) (fun t ht hW => ⟨rfl, by rw [ht]; exact hR⟩) hS.2.2 d hC.2.2.2.2.2.2.1
theorem x_vret (d : decode M.2.1 pc = .ok (.return_, 1)) (hr : M.2.2.2.1 = none) (hc : c0 ≤ R.cells) (hs : s0 ≤ R.slots) : X G M R pc lv [] h c0 s0 (.inl none) h := by
  intro p l e s m args below meth c H locs ls hC hR hS hl
  refine W.widen hc hs (vx_ret ?_)
  exact W.vret hC.1 hC.2.1 (hC.2.2.1.trans hr) (fun t ht hW => ⟨rfl, by rw [ht]; exact hR⟩) hS.2.2 d hC.2.2.2.2.2.2.1
end XR
