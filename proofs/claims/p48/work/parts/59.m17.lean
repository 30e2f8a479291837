def totN (N : Int → Int) (w : Int) : Int := if w < 4 then N (10 + w) else sm (fun q => N (30 + 7 * q + (if w = 4 then 1 else 2))) (N 3).toNat
theorem sm_s (f : Int → Int) (n : Nat) : sm f (n + 1) = sm f n + f n := rfl
def cosN (N : Int → Int) (c x : Int) : Int := intN N (pfN N (N (270 + 6 * c + 0)) x) + x * N (86 + 6 * betN N (N (270 + 6 * c + 0)) (N (270 + 6 * c + 1)) + 2) / 1000
def chN (N : Int → Int) (q x b cost i : Int) : Nat → Int
  | 0 => b
  | n + 1 => if N (270 + 6 * i + 1) = q ∧ hinN N i x = 0 ∧ (b = -1 ∨ cosN N i x < cost) then chN N q x i (cosN N i x) (i + 1) n else chN N q x b cost (i + 1) n
def CAB (N : Int → Int) : Prop := ∀ c, 0 ≤ c → c < N 8 → (0 ≤ betN N (N (270 + 6 * c + 0)) (N (270 + 6 * c + 1)) ∧ betN N (N (270 + 6 * c + 0)) (N (270 + 6 * c + 1)) < 12) ∧ (0 ≤ N (86 + 6 * betN N (N (270 + 6 * c + 0)) (N (270 + 6 * c + 1)) + 2) ∧ N (86 + 6 * betN N (N (270 + 6 * c + 0)) (N (270 + 6 * c + 1)) + 2) ≤ 900)
def msN (N : Int → Int) (q w k : Int) : Nat → Int
  | 0 => -1
  | n + 1 => if w < tkN N (30 + 7 * q + 6) then k else msN (tkN N) q w (k + 1) n
def msE (N : Int → Int) (q w : Int) : Nat → Int → Int
  | 0 => N
  | n + 1 => if w < tkN N (30 + 7 * q + 6) then tkN N else msE (tkN N) q w n
def lkN (N : Int → Int) (t : Int) : Int → Int := trNL (shNL (tkNL N (N (206 + 4 * t + 1) - N 2).toNat) ((tkNL N (N (206 + 4 * t + 1) - N 2).toNat) 2 % 24) 0 ((tkNL N (N (206 + 4 * t + 1) - N 2).toNat) 3).toNat) 0 t.toNat
theorem trNL_s (N : Int → Int) (t : Int) (n : Nat) : trNL N t (n + 1) = trNL (trN N t) (t + 1) n := rfl
theorem as_cp {m : Mem} {N : Int → Int} : cpX (asX m N N) 42 44 0 0 430 = asX m N N := by
  funext k i j
  by_cases h2 : k = 44 ∧ i = 0 ∧ 430 * 0 ≤ j ∧ j < 430 * 0 + 430
  · have e3 : cpX (asX m N N) 42 44 0 0 430 k i j = asX m N N 42 0 (430 * 0 + (j - 430 * 0)) := by unfold cpX; rw [if_pos h2]
    have e4 : asX m N N k i = cpX (sr m N) 42 44 0 0 430 k i := sr_k (by omega)
    have e5 : cpX (sr m N) 42 44 0 0 430 k i j = sr m N 42 0 (430 * 0 + (j - 430 * 0)) := by unfold cpX; rw [if_pos h2]
    rw [e3, e4, e5]
    unfold asX
    rw [sr_42, sr_42]
  · unfold cpX
    rw [if_neg h2]
