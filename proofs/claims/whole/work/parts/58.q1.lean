/-! the two readers side by side: numbers, words -/
theorem scF_0 (T : Int → Int) (p : Int → Bool) (n : Nat) (a : Int) : scF T p n a = a ↔ (n = 0 ∨ p (T a) ≠ true) := by
  cases n with
  | zero => exact ⟨fun _ => .inl rfl, fun _ => rfl⟩
  | succ n =>
    show (if _ then _ else _) = a ↔ _
    have b := scF_b T p n (a + 1)
    by_cases h : p (T a) = true
    · rw [if_pos h]
      constructor
      · intro z; omega
      · rintro (z | z)
        · omega
        · exact absurd h z
    · rw [if_neg h]
      exact ⟨fun _ => .inr h, fun _ => rfl⟩
theorem scF_st (T : Int → Int) (p : Int → Bool) : ∀ (n : Nat) (a : Int), scF T p n a < a + n → p (T (scF T p n a)) ≠ true := by
  intro n
  induction n with
  | zero => intro a h; have e : scF T p 0 a = a := rfl; rw [e] at h; omega
  | succ n ih =>
    intro a
    show (if _ then _ else _) < _ → p (T (if _ then _ else _)) ≠ true
    by_cases h : p (T a) = true
    · rw [if_pos h]; intro z; exact ih _ (by omega)
    · rw [if_neg h]; intro _; exact h
theorem dv_dw (T : Int → Int) : ∀ (n : Nat) (a v w : Int), 0 ≤ v → 0 ≤ w → (v = w ∨ 1000000 ≤ v ∧ 1000000 ≤ w) → (dvF T n a v = dwF T n a w ∨ 1000000 ≤ dvF T n a v ∧ 1000000 ≤ dwF T n a w) := by
  intro n
  induction n with
  | zero => intro a v w _ _ h; exact h
  | succ n ih =>
    intro a v w h0 h1 h
    unfold dvF dwF
    by_cases hd : bD (T a) = true
    · rw [if_pos hd, if_pos hd]
      have z := of_decide_eq_true hd
      refine ih _ _ _ ?_ ?_ ?_
      · split <;> omega
      · omega
      · split <;> omega
    · rw [if_neg hd, if_neg hd]; exact h
/-- the readers' relation -/
def RdE (c m : Mem) : Prop := c 34 0 1 = m 41 0 12 ∧ (c 34 0 1 = 0 → c 34 0 6 = m 41 0 10) ∧ (c 34 0 1 ≠ 0 → c 34 0 2 = m 41 0 13)
def Rd (c m : Mem) : Prop := c 35 0 = m 48 0 ∧ c 34 0 5 = m 41 0 9 ∧ c 34 0 3 = m 41 0 14 ∧ RdE c m
theorem Rd.k {c c' m m' : Mem} (h : Rd c m) (e1 : c' 34 = c 34) (e2 : c' 35 = c 35) (e3 : m' 41 = m 41) (e4 : m' 48 = m 48) : Rd c' m' := by unfold Rd RdE; rw [e1, e2, e3, e4]; exact h
theorem R_fail {c m : Mem} {k q : Int} (h : Rd c m) (hk : k ≠ 0) (hq : c 34 0 1 = 0 → q = m 41 0 11) : Rd (failM c k q) (faM m k) := by
  obtain ⟨h1, h2, h3, h4, h5, h6⟩ := h
  refine ⟨?_, ?_, ?_, ?_⟩
  · rw [failM_k (by decide), faM_k (by decide)]; exact h1
  · rw [failM_j (by decide) (by decide), faM_j (by decide)]; exact h2
  · rw [failM_j (by decide) (by decide), faM_j (by decide)]; exact h3
  · unfold failM faM
    by_cases e : c 34 0 1 = 0
    · rw [if_pos e, if_pos (by rw [← h4]; exact e)]
      refine ⟨?_, fun z => ?_, fun _ => ?_⟩
      · rw [up3_off (by decide), up3_at, up3_off (by decide), up3_at]
      · rw [up3_off (by decide), up3_at] at z; exact absurd z hk
      · rw [up3_at, up3_at]; exact hq e
    · rw [if_neg e, if_neg (by rw [← h4]; exact e)]
      exact ⟨h4, h5, h6⟩
theorem R_sc {c m : Mem} {p : Int → Bool} (h : Rd c m) (e : c 34 0 1 = 0) : Rd (scM c p) (mcM m p) := by
  obtain ⟨h1, h2, h3, h4, h5, h6⟩ := h
  refine ⟨?_, ?_, ?_, ?_, fun _ => ?_, fun z => ?_⟩
  · rw [scM_k (by decide), mcM_k (by decide)]; exact h1
  · rw [scM_j (by decide), mcM_j (by decide)]; exact h2
  · rw [scM_j (by decide), mcM_j (by decide)]; exact h3
  · rw [scM_j (by decide), mcM_j (by decide)]; exact h4
  · unfold scM mcM; rw [up3_at, up3_at, h1, h2, h5 e]
  · rw [scM_j (by decide)] at z; exact absurd e z
theorem Rd_c7 {c m : Mem} {a : Int} (h : Rd c m) : Rd (up3 c 34 0 7 a) m := h
theorem Rd_m11 {c m : Mem} {a : Int} (h : Rd c m) : Rd c (up3 m 41 0 11 a) := h
theorem Rd_m15 {c m : Mem} {a : Int} (h : Rd c m) : Rd c (up3 m 41 0 15 a) := h
theorem R_nx {c m : Mem} (h : Rd c m) (e : c 34 0 1 = 0) : Rd (num1 c) (nxM m) ∧ num1 c 34 0 7 = nxM m 41 0 11 ∧ num1 c 34 0 7 = num1 c 34 0 6 := by
  have a := R_sc (p := bS) h e
  have a6 := a.2.2.2.2.1 (by rw [scM_j (by decide)]; exact e)
  refine ⟨Rd_m11 (Rd_c7 a), ?_, ?_⟩
  · show up3 _ _ _ _ _ _ _ _ = up3 _ _ _ _ _ _ _ _
    rw [up3_at, up3_at]
    exact a6
  · show up3 _ _ _ _ _ _ _ _ = up3 _ _ _ _ _ _ _ _
    rw [up3_at, up3_off (by decide)]
theorem R_num {c m : Mem} {lo hi lo' hi' : Int} (h : Rd c m) (hB : RB c) (hM : MB m) (hl : c 34 0 1 = 0 → lo' = lo ∧ hi' = hi ∧ hi ≤ 100000) :
    Rd (numM c lo hi) (nuM m lo' hi') ∧ (numM c lo hi 34 0 1 = 0 → numV c lo hi = nuV m lo' hi' ∧ numM c lo hi 34 0 7 = nuM m lo' hi' 41 0 11) := by
  have h4 := h.2.2.2.1
  by_cases e : c 34 0 1 = 0
  · obtain ⟨rfl, rfl, hh⟩ := hl e
    have e' : m 41 0 12 = 0 := by rw [← h4]; exact e
    obtain ⟨n1, n2, n3⟩ := R_nx h e
    have e1 : num1 c 34 0 1 = 0 := by unfold num1; rw [up3_off (by decide)]; unfold skM; rw [scM_j (by decide)]; exact e
    have s6 := n1.2.2.2.2.1 e1
    have hB1 : RB (num1 c) := RB_na (RB_sc hB)
    have hM1 : MB (nxM m) := MB_nx hM
    have r2 := R_sc (p := bD) n1 e1
    have c6 : num2 c 34 0 6 = scF (num1 c 35 0) bD (num1 c 34 0 5 - num1 c 34 0 6).toNat (num1 c 34 0 6) := by unfold num2 scM; exact up3_at
    have c7 : num2 c 34 0 7 = num1 c 34 0 6 := by rw [← n3]; exact scM_j (by decide)
    have m11 : nu2 m 41 0 11 = nxM m 41 0 11 := mcM_j (by decide)
    have b1 := hB1.1
    have b2 := hB1.2.1
    have hdig : num2 c 34 0 6 = num2 c 34 0 7 ↔ ¬ (48 ≤ hrV (nxM m) ∧ hrV (nxM m) ≤ 57) := by
      rw [c6, c7, scF_0]
      unfold hrV
      rw [← s6, ← n1.2.1, ← n1.1]
      by_cases q : num1 c 34 0 6 < num1 c 34 0 5
      · rw [if_pos q]
        have tx := hB1.2.2.1 (num1 c 34 0 6) (by omega) (by omega)
        constructor
        · rintro (z | z)
          · omega
          · intro y
            apply z
            exact decide_eq_true (by omega)
        · intro y
          right
          intro z
          have := of_decide_eq_true z
          omega
      · rw [if_neg q]
        constructor
        · intro _; omega
        · intro _; left; omega
    have hw : numW c = nuW m ∨ 1000000 ≤ numW c ∧ 1000000 ≤ nuW m := by
      unfold numW nuW
      rw [← s6, ← n1.2.1, ← n1.1]
      exact dv_dw _ _ _ _ _ (by decide) (by decide) (.inl rfl)
    unfold numM nuM numV nuV nfV nfM
    rw [if_pos e, if_pos e', if_pos e, if_pos e']
    by_cases q : 48 ≤ hrV (nxM m) ∧ hrV (nxM m) ≤ 57
    · rw [if_pos q, if_pos q, if_neg (fun z => hdig.mp z q), if_neg (fun z => hdig.mp z q)]
      by_cases w : lo' ≤ nuW m ∧ nuW m ≤ hi'
      · rw [if_pos w, if_pos w, if_neg (by omega), if_neg (by omega)]
        refine ⟨r2, fun _ => ⟨by omega, ?_⟩⟩
        rw [c7, m11, ← n2, n3]
      · rw [if_neg w, if_neg w, if_pos (by omega), if_pos (by omega)]
        refine ⟨R_fail r2 (by decide) (fun _ => ?_), fun z => absurd z (failM_e (by decide))⟩
        show num2 c 34 0 7 = nu2 m 41 0 11
        rw [c7, m11, ← n2, n3]
    · rw [if_neg q, if_neg q, if_pos (hdig.mpr q), if_pos (hdig.mpr q)]
      refine ⟨?_, fun z => absurd z (failM_e (by decide))⟩
      have r3 : Rd (num2 c) (nxM m) := by
        refine ⟨r2.1.trans (congrFun (mcM_k (k := 48) (by decide)) 0), r2.2.1.trans (mcM_j (by decide)), r2.2.2.1.trans (mcM_j (by decide)), ?_, fun _ => ?_, fun z => ?_⟩
        · exact r2.2.2.2.1.trans (mcM_j (by decide))
        · rw [hdig.mpr q, c7]; exact s6
        · exact absurd (by show scM _ _ 34 0 1 = 0; rw [scM_j (by decide)]; exact e1) z
      exact R_fail r3 (by decide) (fun _ => by rw [hdig.mpr q, c7, ← n2, n3])
  · have e' : ¬ m 41 0 12 = 0 := by rw [← h4]; exact e
    unfold numM nuM
    rw [if_neg e, if_neg e']
    exact ⟨h, fun z => absurd z e⟩
/-- the letters of a statement -/
theorem R_st1 {c m : Mem} (h : Rd c m) (e : c 34 0 1 = 0) : Rd (st1 c) (rsM m) ∧ stA c = rsM m 41 0 11 ∧ st1 c 34 0 6 = rsM m 41 0 10 := by
  have a := R_sc (p := bS) h e
  have e1 : scM c bS 34 0 1 = 0 := by rw [scM_j (by decide)]; exact e
  have a6 := a.2.2.2.2.1 e1
  have b := R_sc (p := bW) (Rd_m11 (a := mcM m bS 41 0 10) a) e1
  refine ⟨b, ?_, ?_⟩
  · show scM c bS 34 0 6 = mcM (nxM m) bW 41 0 11
    rw [mcM_j (by decide), a6]
    exact up3_at.symm
  · exact b.2.2.2.2.1 (by rw [scM_j (by decide)]; exact e1)
