theorem sr_keep {M : Mem} {N : Int → Int} (h : M 42 0 = N) : M = sr M N := by rw [← h, sr_self]
theorem sr_42 {m : Mem} {N : Int → Int} : sr m N 42 0 = N := by
  funext j
  unfold sr
  rw [if_pos ⟨rfl, rfl⟩]
theorem keX_42 {m : Mem} {pm : Int} : keX m pm 42 = m 42 := by
  unfold keX
  funext i j
  rw [up3_apply, if_neg (by omega), cpX_k (by decide)]
theorem keM_42 {m : Mem} : keM m 42 = m 42 := by
  unfold keM
  split
  · rw [keX_42]
    funext i j
    rw [up3_apply, if_neg (by omega), shX_k (by decide)]
  · exact keX_42
/-- the model's memory behind 'keeps' -/
def KM (m : Mem) (N : Int → Int) : Mem := keM (sr m N)
theorem thr_6 {m : Mem} {k : Int} : thr m k 41 0 6 = m 41 0 6 := up3_off (by decide)
def zeN (N : Int → Int) (l w : Int) : Nat → Int → Int
  | 0 => N
  | n + 1 => zeN (upN N (318 + 7 * l + w) 0) l (w + 1) n
def ldN3 (N : Int → Int) (c x : Int) : Int → Int := upN (upN (zeN N (N 9) 0 7) (318 + 7 * N 9 + 0) c) (318 + 7 * N 9 + 1) x
def ldN4 (N : Int → Int) (c x k : Int) : Int → Int := upN (ldN3 N c x) (318 + 7 * N 9 + 6) (ldN3 N c x 2 + k)
def ldN (N : Int → Int) (c x k : Int) : Int → Int := upN (ldN4 N c x k) 9 (ldN4 N c x k 9 + 1)
