/-! the helpers and the model's methods, side by side -/
def nrI (r : Int) : Int := (iI r).toInt
theorem inI_nr (r : Int) : inI (nrI r) := inI_of _
theorem iI_nr (r : Int) : iI (nrI r) = iI r := iI_of _
section PRS
variable {G : GG} {M : Mth} {R : Room} {av : List Value} {h h1 h2 : Hp} {r r' : Int}
theorem Ct.vi (k : Ct G M R av h (.inl (some (.int (iI r)))) h1) (e : iI r = iI r') : Ct G M R av h (.inl (some (.int (iI r')))) h1 := by rw [← e]; exact k
theorem Ct.vl (k : Ct G M R av h (.inl (some (.long (lI r)))) h1) (e : lI r = lI r') : Ct G M R av h (.inl (some (.long (lI r')))) h1 := by rw [← e]; exact k
theorem Ct.at {m m' m1 : Mem} {v : Option Value} (k : Ct G M R av (hp m) (.inl v) (hp m1)) (e : m = m') : Ct G M R av (hp m') (.inl v) (hp m1) := by rw [← e]; exact k
end PRS
/-- a helper and the model's method: both answer the same, or both say the same no -/
def RO (R : Room) : Prop := R = rmD 9 ∨ R = rmD 10
theorem sr_of {m : Mem} {N : Int → Int} (h : m 42 0 = N) : sr m N = m := by rw [← h, sr_self]
section FIN
variable {m cm : Mem} {K : Nat}
theorem fin_o (k : Kp m cm) (r : Int) : (up3 cm 49 0 0 r) 42 0 = m 42 0 ∧ (thr (up3 cm 49 0 0 r) 0) 42 0 = m 42 0 ∧ (thr (up3 cm 49 0 0 r) 0) 49 0 0 = r ∧ (thr (up3 cm 49 0 0 r) 0) 41 0 7 = 0 := by
  have e42 := k.2.2.2.2.2.2.1
  have a : (up3 cm 49 0 0 r) 42 0 = m 42 0 := by rw [up3_k (by decide)]; exact e42
  refine ⟨a, ?_, ?_, ?_⟩
  · unfold thr; rw [up3_k (by decide)]; exact a
  · unfold thr; rw [up3_k (by decide), up3_at]
  · unfold thr; rw [up3_at]
theorem as_of {q : Mem} {N : Int → Int} (e : q 42 0 = N) : asX q N N = cpX q 42 44 0 0 430 := by
  unfold asX
  rw [sr_of e]
  exact sr_of (by rw [cpX_q (by decide)]; exact e)
theorem Kp_44 {q : Mem} : Kp q (cpX q 42 44 0 0 430) := Kp_k (fun _ a _ _ => cpX_q a)
end FIN
theorem con_in {m : Mem} {N : Int → Int} (hP : BP m 0) (hB : BS m 0 0) (hR : RP m 0 N) (hS : RS m 0 0 N) : (∀ l, 0 ≤ l → l < m 2 0 0 → inI (m 29 0 (m 15 0 l))) ∧ (∀ l, 0 ≤ l → l < m 2 0 0 → inI (m 28 0 (m 15 0 l))) ∧ (∀ l, 0 ≤ l → l < N 9 → inI (N (270 + 6 * N (318 + 7 * l + 0) + 1))) ∧ (∀ l, 0 ≤ l → l < N 9 → inI (N (270 + 6 * N (318 + 7 * l + 0) + 0))) := by
  have n8 := hP.2.2.1
  have b : ∀ l, 0 ≤ l → l < m 2 0 0 → inI (m 29 0 (m 15 0 l)) ∧ inI (m 28 0 (m 15 0 l)) := fun l a z => by
    have q := (hB.2.2.2.2.1.2 l a z).1
    have k := BP_c hP q.1 q.2
    have k1 := k.1
    have k2 := k.2.1
    unfold inI
    omega
  have e9 : N 9 = m 2 0 0 := hS.1.2.2.2.2.2.2
  refine ⟨fun l a z => (b l a z).1, fun l a z => (b l a z).2, fun l a z => ?_, fun l a z => ?_⟩
  · rw [e9] at z
    have q := (hB.2.2.2.2.1.2 l a z).1
    rw [(hS.2.2.2.2.2.2 l a z).1, (hR.2.2.2.2.2.1 _ q.1 q.2).2.1]
    exact (b l a z).1
  · rw [e9] at z
    have q := (hB.2.2.2.2.1.2 l a z).1
    rw [(hS.2.2.2.2.2.2 l a z).1, (hR.2.2.2.2.2.1 _ q.1 q.2).1]
    exact (b l a z).2
theorem sm_ge {f : Int → Int} : ∀ (n : Nat), (∀ i : Int, 0 ≤ i → i < n → 0 ≤ f i) → 0 ≤ sm f n ∧ ∀ i : Int, 0 ≤ i → i < n → f i ≤ sm f n := by
  intro n
  induction n with
  | zero => intro _; exact ⟨Int.le_refl _, fun i a b => by exfalso; omega⟩
  | succ n ih =>
    intro h
    have k := ih (fun i a b => h i a (by omega))
    have z := h n (by omega) (by omega)
    rw [sm_s]
    refine ⟨by omega, fun i a b => ?_⟩
    by_cases g : i = n
    · rw [g]; omega
    · have := k.2 i a (by omega); omega
/-- no sum grows out of an int -/
theorem tot_b {m : Mem} {N : Int → Int} {K : Nat} (h : ST m 0 0 N K) (hK : K ≤ 600) : (∀ j, 0 ≤ j → j < m 22 0 5 → inI (m 9 0 j)) ∧ ∀ a, 0 ≤ a → a < 4 → inI (N (10 + a)) := by
  obtain ⟨h1, h2, h3, h4, h5, h6, h7, h8⟩ := h
  obtain ⟨c1, c2, c3, c4⟩ := h6
  have n8 := h1.2.2.1
  have n12 := h1.2.2.2.2.2.1
  have s9 := sm_ge (f := m 9 0) (m 22 0 5).toNat (fun i a b => c4 i a (by omega))
  have s3 := sm_ge (f := m 3 0) (m 22 0 2).toNat (fun i a b => (h2.2.1 i a (by omega)).1.1)
  have r := h4.1
  have t0 := h2.1
  have hk : (100000 : Int) * K ≤ 60000000 := by omega
  have tb : m 0 0 1 ≤ 2000000000 := by omega
  refine ⟨fun j a b => ?_, fun a a0 a1 => ?_⟩
  · have x := s9.2 j a (by omega)
    have y := c4 j a b
    unfold inI
    omega
  · have q : a = 0 ∨ a = 1 ∨ a = 2 ∨ a = 3 := by omega
    have r1 := r.2.1
    have r2 := r.2.2.1
    have r3 := r.2.2.2.1
    have r4 := r.2.2.2.2.1
    unfold inI
    rcases q with rfl | rfl | rfl | rfl
    · rw [show (10 : Int) + 0 = 10 from rfl, r1]; omega
    · rw [show (10 : Int) + 1 = 11 from rfl, r2]; omega
    · rw [show (10 : Int) + 2 = 12 from rfl, r3]; omega
    · rw [show (10 : Int) + 3 = 13 from rfl, r4]; omega
