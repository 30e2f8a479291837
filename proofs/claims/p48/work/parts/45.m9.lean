theorem hinN_in (N : Int → Int) (c x : Int) : inI (hinN N c x) := by
  unfold hinN inI
  split <;> (first | omega | (split <;> (first | omega | (split <;> (first | omega | (split <;> omega))))))
theorem hinN_lt {N : Int → Int} {c x : Int} (h9 : N 9 ≤ 16) (h : hinN N c x = 0) : N 9 < 16 := by
  unfold hinN at h
  split at h <;> (first | omega | (split at h <;> (first | omega | (split at h <;> (first | omega | (split at h <;> omega))))))
