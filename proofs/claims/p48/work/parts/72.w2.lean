/-! undo, snapshots, load, append keep it -/
theorem cpX_q {m : Mem} {k k' : Nat} {a b n : Int} {q : Nat} (h : q ≠ k') : cpX m k k' a b n q = m q := by
  funext i j
  unfold cpX
  rw [if_neg (fun z => h z.1)]
theorem popT_b (m : Mem) (h : 0 ≤ m 36 0 1 ∧ m 36 0 1 < 8) : 0 ≤ popT m ∧ popT m < 8 := by unfold popT; omega
def svC (m : Mem) (s : Int) : Mem := up3 (cpS (cpP m 0 (1 + s.toNat)) 0 (2 + s.toNat)) 40 0 s 1
def rsC (m : Mem) (s : Int) : Mem := up3 (cpS (cpP m (1 + s.toNat) 0) (2 + s.toNat) 0) 36 0 0 0
