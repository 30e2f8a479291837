/-! a known text, read by the class -/
def TXat (T : Int → Int) (p : Int) : List Int → Prop
  | [] => True
  | a :: A => T p = a ∧ TXat T (p + 1) A
theorem TXat_app {T : Int → Int} {B : List Int} : ∀ (A : List Int) (p : Int), TXat T p (A ++ B) ↔ TXat T p A ∧ TXat T (p + (A.length : Int)) B := by
  intro A
  induction A with
  | nil =>
    intro p
    show TXat T p B ↔ True ∧ TXat T (p + ((0 : Nat) : Int)) B
    rw [show p + ((0 : Nat) : Int) = p by omega]
    exact ⟨fun h => ⟨trivial, h⟩, fun h => h.2⟩
  | cons a A ih =>
    intro p
    show T p = a ∧ TXat T (p + 1) (A ++ B) ↔ (T p = a ∧ TXat T (p + 1) A) ∧ TXat T (p + ((A.length + 1 : Nat) : Int)) B
    rw [ih (p + 1), show p + 1 + (A.length : Int) = p + ((A.length + 1 : Nat) : Int) by omega]
    exact ⟨fun h => ⟨⟨h.1, h.2.1⟩, h.2.2⟩, fun h => ⟨h.1.1, h.1.2, h.2⟩⟩
theorem TXat.cg {T T' : Int → Int} : ∀ (A : List Int) (p : Int), TXat T p A → (∀ j, p ≤ j → j < p + (A.length : Int) → T' j = T j) → TXat T' p A := by
  intro A
  induction A with
  | nil => intro p _ _; trivial
  | cons a A ih =>
    intro p h e
    have hl : ((a :: A).length : Int) = (A.length : Int) + 1 := by simp
    exact ⟨by rw [e p (by omega) (by omega)]; exact h.1, ih (p + 1) h.2 (fun j j0 j1 => e j (by omega) (by omega))⟩
/-- the digits of a number below 1000 -/
def dg (n : Int) : List Int := if n < 10 then [48 + n] else if n < 100 then [48 + n / 10, 48 + n % 10] else [48 + n / 100, 48 + n / 10 % 10, 48 + n % 10]
theorem dg_len (n : Int) : 1 ≤ (dg n).length ∧ (dg n).length ≤ 3 := by
  unfold dg
  split
  · exact ⟨Nat.le_of_ble_eq_true rfl, Nat.le_of_ble_eq_true rfl⟩
  · split
    · exact ⟨Nat.le_of_ble_eq_true rfl, Nat.le_of_ble_eq_true rfl⟩
    · exact ⟨Nat.le_of_ble_eq_true rfl, Nat.le_of_ble_eq_true rfl⟩
theorem dg_b {n : Int} (h0 : 0 ≤ n) (h1 : n < 1000) : ∀ a ∈ dg n, 48 ≤ a ∧ a ≤ 57 := by
  intro a ha
  unfold dg at ha
  split at ha
  · rw [List.mem_singleton] at ha; omega
  · split at ha
    · simp only [List.mem_cons, List.not_mem_nil, or_false] at ha
      rcases ha with e | e <;> omega
    · simp only [List.mem_cons, List.not_mem_nil, or_false] at ha
      rcases ha with e | e | e <;> omega
theorem scF_run {T : Int → Int} {p : Int → Bool} : ∀ (k n : Nat) (a : Int), k ≤ n → (∀ j : Nat, j < k → p (T (a + (j : Int))) = true) → (k = n ∨ p (T (a + (k : Int))) ≠ true) → scF T p n a = a + (k : Int) := by
  intro k
  induction k with
  | zero =>
    intro n a _ _ h
    match n, h with
    | 0, _ => show a = a + ((0 : Nat) : Int); omega
    | n + 1, h =>
      rcases h with e | e
      · exact absurd e (by omega)
      · rw [show a + ((0 : Nat) : Int) = a by omega] at e
        show (if p (T a) = true then scF T p n (a + 1) else a) = _
        rw [if_neg e]
        omega
  | succ k ih =>
    intro n a hk h h2
    match n, hk with
    | n + 1, hk =>
      have h0 := h 0 (by omega)
      rw [show a + ((0 : Nat) : Int) = a by omega] at h0
      show (if p (T a) = true then scF T p n (a + 1) else a) = _
      rw [if_pos h0, ih n (a + 1) (by omega) (fun j hj => by
        have := h (j + 1) (by omega)
        rw [show a + 1 + (j : Int) = a + ((j + 1 : Nat) : Int) by omega]
        exact this) (by
        rcases h2 with e | e
        · exact .inl (by omega)
        · exact .inr (by rw [show a + 1 + (k : Int) = a + ((k + 1 : Nat) : Int) by omega]; exact e))]
      omega
theorem dvF_step {T : Int → Int} {f : Nat} {a v d : Int} (h : T a = 48 + d) (hd : 0 ≤ d ∧ d ≤ 9) (hv : v < 1000000) : dvF T (f + 1) a v = dvF T f (a + 1) (v * 10 + d) := by
  show (if bD (T a) = true then dvF T f (a + 1) (if v < 1000000 then v * 10 + (T a - 48) else v) else v) = _
  rw [if_pos (by unfold bD; exact decide_eq_true (by omega)), if_pos hv, h]
  congr 1
  omega
theorem dvF_stop {T : Int → Int} {f : Nat} {a v : Int} (h : f = 0 ∨ ¬ (48 ≤ T a ∧ T a ≤ 57)) : dvF T f a v = v := by
  match f, h with
  | 0, _ => rfl
  | f + 1, h =>
    rcases h with e | e
    · exact absurd e (by omega)
    · show (if bD (T a) = true then dvF T f (a + 1) (if v < 1000000 then v * 10 + (T a - 48) else v) else v) = v
      rw [if_neg (by unfold bD; intro z; exact e (of_decide_eq_true z))]
/-- a number's digits are read -/
theorem dg_read {T : Int → Int} {p n : Int} {f : Nat} (h0 : 0 ≤ n) (h1 : n < 1000) (ht : TXat T p (dg n)) (hf : (dg n).length ≤ f) (he : f = (dg n).length ∨ ¬ (48 ≤ T (p + ((dg n).length : Int)) ∧ T (p + ((dg n).length : Int)) ≤ 57)) : dvF T f p 0 = n ∧ scF T bD f p = p + ((dg n).length : Int) := by
  have bt : ∀ z : Int, (48 ≤ z ∧ z ≤ 57) → bD z = true := fun z hz => decide_eq_true hz
  have bn : ∀ z : Int, ¬ (48 ≤ z ∧ z ≤ 57) → bD z ≠ true := fun z hz w => hz (of_decide_eq_true w)
  unfold dg at *
  by_cases c1 : n < 10
  · rw [if_pos c1] at *
    change T p = 48 + n ∧ True at ht
    change 1 ≤ f at hf
    change f = 1 ∨ ¬ (48 ≤ T (p + 1) ∧ T (p + 1) ≤ 57) at he
    obtain ⟨g, rfl⟩ : ∃ g, f = g + 1 := ⟨f - 1, by omega⟩
    refine ⟨?_, ?_⟩
    · rw [dvF_step ht.1 (by omega) (by omega), dvF_stop (by rcases he with e | e; exact .inl (by omega); exact .inr e)]
      omega
    · refine scF_run 1 _ p (by omega) (fun j hj => ?_) (by rcases he with e | e; exact .inl (by omega); exact .inr (bn _ e))
      rw [show p + (j : Int) = p by omega, ht.1]
      exact bt _ (by omega)
  · rw [if_neg c1] at *
    by_cases c2 : n < 100
    · rw [if_pos c2] at *
      change T p = 48 + n / 10 ∧ T (p + 1) = 48 + n % 10 ∧ True at ht
      change 2 ≤ f at hf
      change f = 2 ∨ ¬ (48 ≤ T (p + 2) ∧ T (p + 2) ≤ 57) at he
      obtain ⟨g, rfl⟩ : ∃ g, f = g + 1 + 1 := ⟨f - 2, by omega⟩
      refine ⟨?_, ?_⟩
      · rw [dvF_step ht.1 (by omega) (by omega), dvF_step ht.2.1 (by omega) (by omega), dvF_stop (by rcases he with e | e; exact .inl (by omega); exact .inr (by rw [show p + 1 + 1 = p + 2 by omega]; exact e))]
        omega
      · refine scF_run 2 _ p (by omega) (fun j hj => ?_) (by rcases he with e | e; exact .inl (by omega); exact .inr (bn _ e))
        by_cases z : j = 0
        · rw [show p + (j : Int) = p by omega, ht.1]
          exact bt _ (by omega)
        · rw [show p + (j : Int) = p + 1 by omega, ht.2.1]
          exact bt _ (by omega)
    · rw [if_neg c2] at *
      change T p = 48 + n / 100 ∧ T (p + 1) = 48 + n / 10 % 10 ∧ T (p + 1 + 1) = 48 + n % 10 ∧ True at ht
      change 3 ≤ f at hf
      change f = 3 ∨ ¬ (48 ≤ T (p + 3) ∧ T (p + 3) ≤ 57) at he
      obtain ⟨g, rfl⟩ : ∃ g, f = g + 1 + 1 + 1 := ⟨f - 3, by omega⟩
      refine ⟨?_, ?_⟩
      · rw [dvF_step ht.1 (by omega) (by omega), dvF_step ht.2.1 (by omega) (by omega), dvF_step ht.2.2.1 (by omega) (by omega), dvF_stop (by rcases he with e | e; exact .inl (by omega); exact .inr (by rw [show p + 1 + 1 + 1 = p + 3 by omega]; exact e))]
        omega
      · refine scF_run 3 _ p (by omega) (fun j hj => ?_) (by rcases he with e | e; exact .inl (by omega); exact .inr (bn _ e))
        by_cases z : j = 0
        · rw [show p + (j : Int) = p by omega, ht.1]
          exact bt _ (by omega)
        · by_cases z1 : j = 1
          · rw [show p + (j : Int) = p + 1 by omega, ht.2.1]
            exact bt _ (by omega)
          · rw [show p + (j : Int) = p + 1 + 1 by omega, ht.2.2.1]
            exact bt _ (by omega)
theorem dg_hd {T : Int → Int} {p n : Int} (h0 : 0 ≤ n) (h1 : n < 1000) (ht : TXat T p (dg n)) : 48 ≤ T p ∧ T p ≤ 57 := by
  unfold dg at ht
  split at ht
  · have := ht.1; omega
  · split at ht
    · have := ht.1; omega
    · have := ht.1; omega
/-- the reader's place -/
def AT (m : Mem) (T : Int → Int) (len p : Int) : Prop := RB m ∧ m 35 0 = T ∧ m 34 0 5 = len ∧ m 34 0 6 = p ∧ m 34 0 1 = 0
theorem AT.k {m m' : Mem} {T : Int → Int} {len p : Int} (h : AT m T len p) (e34 : m' 34 = m 34) (e35 : m' 35 = m 35) : AT m' T len p := ⟨h.1.k e34 e35, by rw [e35]; exact h.2.1, by rw [e34]; exact h.2.2.1, by rw [e34]; exact h.2.2.2.1, by rw [e34]; exact h.2.2.2.2⟩
theorem AT.b {m : Mem} {T : Int → Int} {len p : Int} (h : AT m T len p) : 0 ≤ p ∧ p ≤ len ∧ len ≤ 500 := by
  have a := h.1.1
  have b := h.1.2.1
  have c := h.2.2.1
  have d := h.2.2.2.1
  omega
/-- a scan from p over k bytes -/
theorem AT.sc {m : Mem} {T : Int → Int} {len p : Int} {b : Int → Bool} (h : AT m T len p) (k : Nat) (hk : p + (k : Int) ≤ len) (h1 : ∀ j : Nat, j < k → b (T (p + (j : Int))) = true) (h2 : p + (k : Int) = len ∨ b (T (p + (k : Int))) ≠ true) : scM m b = up3 m 34 0 6 (p + (k : Int)) ∧ AT (scM m b) T len (p + (k : Int)) := by
  have hb := h.b
  have e : scM m b = up3 m 34 0 6 (p + (k : Int)) := by
    unfold scM
    rw [h.2.1, h.2.2.1, h.2.2.2.1, scF_run k _ p (by omega) h1 (by rcases h2 with z | z; exact .inl (by omega); exact .inr z)]
  refine ⟨e, RB_sc h.1, ?_, ?_, ?_, ?_⟩
  · rw [scM_k (by decide)]; exact h.2.1
  · rw [scM_j (by decide)]; exact h.2.2.1
  · rw [e, up3_at]
  · rw [scM_j (by decide)]; exact h.2.2.2.2
/-- a space and a number -/
theorem AT.num {m : Mem} {T : Int → Int} {len p a n lo hi : Int} (h : AT m T len p) (hs : p = a ∨ p + 1 = a ∧ T p = 32) (h0 : 0 ≤ n) (h1 : n < 1000) (ht : TXat T a (dg n)) (hl : a + ((dg n).length : Int) ≤ len) (he : a + ((dg n).length : Int) = len ∨ ¬ (48 ≤ T (a + ((dg n).length : Int)) ∧ T (a + ((dg n).length : Int)) ≤ 57)) (hlo : lo ≤ n) (hhi : n ≤ hi) :
    numV m lo hi = n ∧ AT (numM m lo hi) T len (a + ((dg n).length : Int)) ∧ numM m lo hi 34 0 7 = a := by
  have hb := h.b
  have dl := dg_len n
  have hd := dg_hd h0 h1 ht
  have S2 : AT (skM m) T len a := by
    rcases hs with e | ⟨e, z⟩
    · have S := (h.sc (b := bS) 0 (by omega) (fun j hj => absurd hj (by omega)) (.inr (fun q => by
        have := of_decide_eq_true q
        rw [show p + ((0 : Nat) : Int) = a by omega] at this
        omega))).2
      rw [show p + ((0 : Nat) : Int) = a by omega] at S
      exact S
    · have S := (h.sc (b := bS) 1 (by omega) (fun j hj => by rw [show p + (j : Int) = p by omega, z]; rfl) (.inr (fun q => by
        have := of_decide_eq_true q
        rw [show p + ((1 : Nat) : Int) = a by omega] at this
        omega))).2
      rw [show p + ((1 : Nat) : Int) = a by omega] at S
      exact S
  have n1 : AT (num1 m) T len (a) := ⟨RB_na S2.1, by show up3 (skM m) 34 0 7 _ 35 0 = T; rw [up3_k (by decide)]; exact S2.2.1, by show up3 (skM m) 34 0 7 _ 34 0 5 = len; rw [up3_off (by decide)]; exact S2.2.2.1, by show up3 (skM m) 34 0 7 _ 34 0 6 = a; rw [up3_off (by decide)]; exact S2.2.2.2.1, by show up3 (skM m) 34 0 7 _ 34 0 1 = 0; rw [up3_off (by decide)]; exact S2.2.2.2.2⟩
  have n7 : num1 m 34 0 7 = a := by show up3 (skM m) 34 0 7 _ 34 0 7 = a; rw [up3_at]; exact S2.2.2.2.1
  have rd := dg_read (f := (len - (a)).toNat) h0 h1 ht (by omega) (by rcases he with e | e; exact .inl (by omega); exact .inr e)
  have eW : numW m = n := by
    unfold numW
    rw [n1.2.1, n1.2.2.1, n1.2.2.2.1]
    exact rd.1
  have e6 : scF (num1 m 35 0) bD (num1 m 34 0 5 - num1 m 34 0 6).toNat (num1 m 34 0 6) = a + ((dg n).length : Int) := by
    rw [n1.2.1, n1.2.2.1, n1.2.2.2.1]
    exact rd.2
  have q6 : num2 m 34 0 6 = a + ((dg n).length : Int) := by
    show up3 (num1 m) 34 0 6 _ 34 0 6 = _
    rw [up3_at]
    exact e6
  have q7 : num2 m 34 0 7 = a := by
    have e9 : num2 m = up3 (num1 m) 34 0 6 (scF (num1 m 35 0) bD (num1 m 34 0 5 - num1 m 34 0 6).toNat (num1 m 34 0 6)) := rfl
    rw [e9, up3_off (by decide)]
    exact n7
  have c1 : ¬ num2 m 34 0 6 = num2 m 34 0 7 := by rw [q6, q7]; omega
  have c2 : ¬ (n < lo ∨ hi < n) := by omega
  have eM : numM m lo hi = num2 m := by
    unfold numM nfM
    rw [if_pos h.2.2.2.2, eW, if_neg c1, if_neg c2]
  refine ⟨?_, ?_, by rw [eM]; exact q7⟩
  · unfold numV nfV
    rw [if_pos h.2.2.2.2, eW, if_neg c1, if_neg c2]
  · rw [eM]
    refine ⟨RB_num2 h.1, ?_, ?_, q6, ?_⟩
    · rw [num2_k (by decide)]; exact h.2.1
    · rw [num2_j (by decide)]; exact h.2.2.1
    · rw [num2_j (by decide)]; exact h.2.2.2.2
