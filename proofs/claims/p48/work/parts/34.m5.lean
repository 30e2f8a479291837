def thr (m : Mem) (k : Int) : Mem := up3 m 41 0 7 k
def openFN (N : Int → Int) (c l : Int) : Int := if N (318 + 7 * l + 5) ≤ 2 ∧ (c = -1 ∨ N (318 + 7 * l + 0) = c) then 1 else 0
def sumFN (N : Int → Int) (c w l : Int) : Int := if N (318 + 7 * l + 0) = c then N (318 + 7 * l + w) else 0
def owedFN (N : Int → Int) (q w l : Int) : Int := if N (270 + 6 * N (318 + 7 * l + 0) + w) = q then owedN N l else 0
def outFN (N : Int → Int) (c l : Int) : Int := if N (318 + 7 * l + 0) = c then owedN N l + (if N (318 + 7 * l + 5) = 0 then N (318 + 7 * l + 1) - N (318 + 7 * l + 2) else 0) else 0
/-- what the model's sums over loans want -/
def LNs (N : Int → Int) : Prop := (0 ≤ N 9 ∧ N 9 ≤ 16) ∧ ∀ l, 0 ≤ l → l < N 9 → LN N l
def hinN (N : Int → Int) (c x : Int) : Int := if N (270 + 6 * c + 5) = 1 then 1 else if N (270 + 6 * c + 2) < sm (outFN N c) (N 9).toNat + x then 2 else if aboveN N (N (270 + 6 * c + 0)) < x then 3 else if N 9 = 16 then 4 else 0
def farF (N : Int → Int) (sg b i : Int) : Nat → Int
  | 0 => b
  | n + 1 => farF N sg (if b = -1 ∨ sg * aboveN N b < sg * aboveN N i then i else b) (i + 1) n
