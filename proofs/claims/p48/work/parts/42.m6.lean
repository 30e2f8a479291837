theorem thr_thr {m : Mem} {a b : Int} : thr (thr m a) b = thr m b := by
  unfold thr
  funext k i j
  simp only [up3_apply]
  split <;> rfl
/-- what the model's public methods want of its row -/
def NF (N : Int → Int) : Prop := (0 ≤ N 3 ∧ N 3 ≤ 8) ∧ (0 ≤ N 7 ∧ N 7 ≤ 16) ∧ (0 ≤ N 8 ∧ N 8 ≤ 8) ∧ LNs N ∧ SU N ∧ (∀ q, 0 ≤ q → q < N 3 → PN N q ∧ QN N q ∧ (-100000000 ≤ aboveN N q ∧ aboveN N q ≤ 100000000)) ∧ (∀ c, 0 ≤ c → c < N 8 → (0 ≤ N (270 + 6 * c + 0) ∧ N (270 + 6 * c + 0) < N 3) ∧ (0 ≤ N (270 + 6 * c + 1) ∧ N (270 + 6 * c + 1) < N 3) ∧ (1 ≤ N (270 + 6 * c + 2) ∧ N (270 + 6 * c + 2) ≤ 100000) ∧ (0 ≤ N (270 + 6 * c + 5) ∧ N (270 + 6 * c + 5) ≤ 1)) ∧ (1 ≤ N 1 ∧ N 1 ≤ 10000)
def pckN (N : Int → Int) (q w : Int) : Int := if w = 0 then N (30 + 7 * q + 0) else if w = 1 then roomN N q else if w = 2 then N (30 + 7 * q + 1) else if w = 3 then N (30 + 7 * q + 2) else if w = 8 then quartN N q else N (30 + 7 * q + (w - 1))
def conN (N : Int → Int) (c w : Int) : Int := if w = 5 then sm (outFN N c) (N 9).toNat else if w = 6 then sm (openFN N c) (N 9).toNat else if w = 7 then N (270 + 6 * c + 5) else if w = 8 then sm (sumFN N c 2) (N 9).toNat else if w = 9 then sm (sumFN N c 4) (N 9).toNat else N (270 + 6 * c + w)
def loaN (N : Int → Int) (l w : Int) : Int := if w < 5 then N (318 + 7 * l + w) else if w = 5 then owedN N l else N (318 + 7 * l + (w - 1))
def cntN (m : Mem) (N : Int → Int) (w : Int) : Int := if w = 7 then sm (openFN N (-1)) (N 9).toNat else if w = 8 then m 41 0 6 else N (3 + w)
def cabN (N : Int → Int) (c w : Int) : Int := if c = -1 then -1 else N (86 + 6 * c + (2 + w))
theorem outN_b {N : Int → Int} (hL : LNs N) (c : Int) : 0 ≤ sm (outFN N c) (N 9).toNat ∧ sm (outFN N c) (N 9).toNat ≤ 2000000000 := by
  have n := hL.1
  have h := sm_b (f := outFN N c) (n := (N 9).toNat) (a := 0) (b := 100200000) (fun l a b => by
    have lf := hL.2 l a (by omega)
    have ob := owedN_b lf
    have l1 := lf.2.1
    have l2 := lf.2.2.1
    unfold outFN
    split
    · split <;> omega
    · omega)
  omega
