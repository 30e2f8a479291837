/-! what the model's statements keep; its load -/
theorem NB3_up {m : Mem} {j z : Int} (h : NB3 m) (hj : 9 < j) (hz : inI z) : NB3 (up3 m 43 0 j z) := by
  obtain ⟨h1, h2, h3, h4, h5, h6, h7⟩ := h
  refine ⟨?_, ?_, ?_, ?_, ?_, ?_, fun c c0 c1 => ?_⟩
  · rw [up3_off (by omega)]; exact h1
  · rw [up3_off (by omega)]; exact h2
  · rw [up3_off (by omega)]; exact h3
  · rw [up3_off (by omega)]; exact h4
  · rw [up3_off (by omega)]; exact h5
  · rw [up3_off (by omega)]; exact h6
  · have a := h7 c c0 c1
    rw [up3_apply, up3_apply]
    refine ⟨?_, ?_⟩
    · split
      · exact hz
      · exact a.1
    · split
      · exact hz
      · exact a.2
theorem NB3_sn {m : Mem} {j lo hi : Int} (h : NB3 m) (hj : 9 < j) (hl : 0 ≤ lo ∧ lo ≤ 10000000) : NB3 (snM m j lo hi) :=
  NB3_up (NB3_nu h) hj (by have := nuV_b m lo hi hl; unfold inI; omega)
def MK (m m' : Mem) : Prop := MB m' ∧ (∀ k, k ≠ 41 → k ≠ 43 → m' k = m k) ∧ (∀ j : Int, (j < 10 ∨ j = 14 ∨ 15 < j) → m' 41 0 j = m 41 0 j) ∧ m 41 0 10 ≤ m' 41 0 10
theorem MK.t {m m1 m2 : Mem} (h : MK m m1) (h2 : MK m1 m2) : MK m m2 := ⟨h2.1, fun k a b => (h2.2.1 k a b).trans (h.2.1 k a b), fun j a => (h2.2.2.1 j a).trans (h.2.2.1 j a), Int.le_trans h.2.2.2 h2.2.2.2⟩
theorem MK_r {m : Mem} (h : MB m) : MK m m := ⟨h, fun _ _ _ => rfl, fun _ _ => rfl, Int.le_refl _⟩
theorem MK_mc {m : Mem} {p : Int → Bool} (h : MB m) : MK m (mcM m p) := ⟨MB_mc h, fun k a _ => mcM_k a, fun j a => mcM_j (by omega), by
  unfold mcM
  rw [up3_at]
  exact (scF_b _ _ _ _).1⟩
theorem MK_nx {m : Mem} (h : MB m) : MK m (nxM m) := ⟨MB_nx h, fun k a _ => nxM_k a, fun j a => nxM_j (by omega), by
  have := (MK_mc (p := bS) h).2.2.2
  unfold nxM
  rw [up3_off (by decide)]
  exact this⟩
theorem MK_fa {m : Mem} {k : Int} (h : MB m) (hk : 0 ≤ k ∧ k ≤ 4) : MK m (faM m k) := ⟨MB_fa h hk, fun k a _ => faM_k a, fun j a => faM_j (by omega), by rw [faM_j (by decide)]; exact Int.le_refl _⟩
theorem MK_nu {m : Mem} {lo hi : Int} (h : MB m) : MK m (nuM m lo hi) := ⟨MB_nu h, fun k a _ => nuM_k a, fun j a => nuM_j (by omega), by
  have a := MK_nx h
  have b : MK m (nu2 m) := a.t (MK_mc a.1)
  unfold nuM
  split
  · split
    · split
      · exact b.2.2.2
      · exact (b.t (MK_fa b.1 (by decide))).2.2.2
    · exact (a.t (MK_fa a.1 (by decide))).2.2.2
  · exact Int.le_refl _⟩
theorem MK_43 {m : Mem} {j z : Int} (h : MB m) : MK m (up3 m 43 0 j z) := ⟨MB_43 h, fun k _ b => up3_k b, fun j _ => by rw [up3_k (by decide)], by rw [up3_k (by decide)]; exact Int.le_refl _⟩
theorem MK_sn {m : Mem} {j lo hi : Int} (h : MB m) : MK m (snM m j lo hi) := (MK_nu h).t (MK_43 (MB_nu h))
theorem MK_ro {m : Mem} (h : MB m) : MK m (roM m) := ⟨MB_ro h, fun k a _ => by unfold roM; rw [faM_k a, up3_k a], fun j a => by unfold roM; rw [faM_j (by omega), up3_off (by omega)], by unfold roM; rw [faM_j (by decide), up3_off (by decide)]; exact Int.le_refl _⟩
theorem NB3_ro {m : Mem} (h : NB3 m) : NB3 (roM m) := h.k (by unfold roM; rw [faM_k (by decide), up3_k (by decide)])
theorem MK_rs {m : Mem} (h : MB m) : MK m (rsM m) := (MK_nx h).t (MK_mc (MB_nx h))
theorem NB3_rs {m : Mem} (h : NB3 m) : NB3 (rsM m) := h.k (by unfold rsM; rw [mcM_k (by decide), nxM_k (by decide)])
theorem MK_kn {m : Mem} (h : MB m) : MK m (knM m) := MK_nu h
theorem MK_kkF {m : Mem} {c : Prop} [Decidable c] (h : MB m) : MK m (kkF m c) := by
  have a : MK m (kk2 m) := (MK_kn h).t (MK_kn (MB_nu h))
  unfold kkF
  split
  · exact a.t (MK_fa a.1 (by decide))
  · exact a
/-- a count of the row grows -/
theorem NB3_c {m m0 : Mem} {j : Int} (h : NB3 m) (hj : j = 3 ∨ j = 4 ∨ j = 5 ∨ j = 6 ∨ j = 7 ∨ j = 8) (hb : m 43 0 j = m0 43 0 j) (hl : m0 43 0 j < (if j = 3 ∨ j = 8 then 8 else if j = 4 then 4 else if j = 7 then 16 else 12)) : NB3 (up3 m 43 0 j (m 43 0 j + 1)) := by
  obtain ⟨h1, h2, h3, h4, h5, h6, h7⟩ := h
  rw [← hb] at hl
  rcases hj with rfl | rfl | rfl | rfl | rfl | rfl
  all_goals
    refine ⟨?_, ?_, ?_, ?_, ?_, ?_, fun c c0 c1 => ?_⟩
    all_goals first
      | (rw [up3_off (by decide)]; assumption)
      | (rw [up3_at]; simp at hl; omega)
      | (have a := h7 c c0 c1; rw [up3_off (by omega), up3_off (by omega)]; exact a)
theorem pt0_ok {m : Mem} (h : MB m) (hN : NB3 m) : MK m (pt0 m) ∧ NB3 (pt0 m) := by
  have a : MK m (p0r m) ∧ NB3 (p0r m) := by
    unfold p0r
    split
    · exact ⟨MK_rs h, NB3_rs hN⟩
    · exact ⟨(MK_rs h).t (MK_fa (MB_rs h) (by decide)), NB3_fa (NB3_rs hN)⟩
  have hz : ∀ {q : Mem} {z : Int} {j : Int}, NB3 q → (j = 0 ∨ j = 1) → NB3 (up3 q 43 0 j z) := fun {q z j} g gj => by
    obtain ⟨h1, h2, h3, h4, h5, h6, h7⟩ := g
    refine ⟨?_, ?_, ?_, ?_, ?_, ?_, fun c c0 c1 => ?_⟩
    · rw [up3_off (by omega)]; exact h1
    · rw [up3_off (by omega)]; exact h2
    · rw [up3_off (by omega)]; exact h3
    · rw [up3_off (by omega)]; exact h4
    · rw [up3_off (by omega)]; exact h5
    · rw [up3_off (by omega)]; exact h6
    · rw [up3_off (by omega), up3_off (by omega)]; exact h7 c c0 c1
  unfold pt0
  exact ⟨(a.1.t (MK_sn a.1.1)).t (MK_sn (MB_sn a.1.1)), hz (NB3_nu (hz (NB3_nu a.2) (.inl rfl))) (.inr rfl)⟩
theorem cuN_ok : ∀ (n : Nat) (m : Mem) (k : Int), MB m → NB3 m → 0 ≤ k → MK m (cuN m k n) ∧ NB3 (cuN m k n) := by
  intro n
  induction n with
  | zero => intro m k h hN h0; exact ⟨MK_r h, hN⟩
  | succ n ih =>
    intro m k h hN h0
    have n4 := hN.2.1
    have a := ih (snM m (14 + 4 * m 43 0 4 + k) 0 1000) (k + 1) (MB_sn h) (NB3_sn hN (by omega) (by decide)) (by omega)
    exact ⟨(MK_sn h).t a.1, a.2⟩
theorem pt1_ok {m : Mem} (h : MB m) (hN : NB3 m) : MK m (pt1 m) ∧ NB3 (pt1 m) := by
  unfold pt1
  have n4 := hN.2.1
  split
  · rename_i hl
    have a := cuN_ok 4 m 0 h hN (by decide)
    exact ⟨a.1.t (MK_43 a.1.1), NB3_c (m0 := m) a.2 (by decide) (cuN_4 4 m 0 n4.1 (by decide)) hl⟩
  · exact ⟨MK_ro h, NB3_ro hN⟩
theorem pt2_ok {m : Mem} (h : MB m) (hN : NB3 m) : MK m (pt2 m) ∧ NB3 (pt2 m) := by
  have n3 := hN.1
  unfold pt2
  split
  · rename_i hl
    have q0 : pq2 m = 30 + 7 * m 43 0 3 := rfl
    have a1 : MK m (pa1 m) := MK_sn h
    have b1 : NB3 (pa1 m) := NB3_sn hN (by omega) (by decide)
    have a2 : MK m (pa2 m) := a1.t (MK_sn a1.1)
    have b2 : NB3 (pa2 m) := NB3_sn b1 (by omega) (by decide)
    have a3 : MK m (pa3 m) := by
      unfold pa3
      split
      · exact a2.t (MK_nx a2.1)
      · exact a2
    have b3 : NB3 (pa3 m) := b2.k pa3_43
    have a4 : MK m (pa4 m) := by
      unfold pa4
      split
      · exact a3.t (MK_sn a3.1)
      · exact a3.t (MK_43 a3.1)
    have b4 : NB3 (pa4 m) := by
      unfold pa4
      split
      · exact NB3_sn b3 (by omega) (by decide)
      · exact NB3_up b3 (by omega) (by unfold inI; decide)
    have e4 : pa4 m 43 0 3 = m 43 0 3 := by
      have e3 : pa3 m 43 0 3 = m 43 0 3 := by rw [pa3_43, pa2_lo (by decide) (by omega)]
      unfold pa4
      split
      · rw [snM_a, if_neg (by omega)]; exact e3
      · rw [up3_off (by omega)]; exact e3
    have e5 : pa5 m 43 0 3 = m 43 0 3 := by unfold pa5; rw [up3_off (by decide)]; exact e4
    have hq : ∀ j : Int, NB3 (pa4 m) → NB3 (pa5 m) := fun _ g => by
      obtain ⟨h1, h2, h3, h4, h5, h6, h7⟩ := g
      unfold pa5
      refine ⟨?_, ?_, ?_, ?_, ?_, ?_, fun c c0 c1 => ?_⟩
      · rw [up3_off (by omega)]; exact h1
      · rw [up3_off (by omega)]; exact h2
      · rw [up3_off (by omega)]; exact h3
      · rw [up3_off (by omega)]; exact h4
      · rw [up3_off (by omega)]; exact h5
      · rw [up3_off (by omega)]; exact h6
      · rw [up3_off (by omega), up3_off (by omega)]; exact h7 c c0 c1
    have a5 : MK m (pa5 m) := a4.t (MK_43 a4.1)
    exact ⟨a5.t (MK_43 a5.1), NB3_c (m0 := m) (hq 0 b4) (by decide) e5 hl⟩
  · exact ⟨MK_ro h, NB3_ro hN⟩
theorem NB3_kkF {m : Mem} {c : Prop} [Decidable c] (h : NB3 m) : NB3 (kkF m c) := h.k (kkF_k (by decide))
theorem kk_b {m : Mem} : inI (kka m) ∧ inI (kkb m) := by
  have a := knV_b (m := m)
  have b := knV_b (m := knM m)
  unfold inI kka kkb
  omega
theorem pt3_ok {m : Mem} (h : MB m) (hN : NB3 m) : MK m (pt3 m) ∧ NB3 (pt3 m) := by
  have n5 := hN.2.2.2.1
  unfold pt3
  split
  · rename_i hl
    have q0 : cbq m = 86 + 6 * m 43 0 5 := rfl
    have a1 : MK m (cb1 m) := ((MK_kkF h).t (MK_43 (MB_kkF h))).t (MK_43 (MB_43 (MB_kkF h)))
    have b1 : NB3 (cb1 m) := NB3_up (NB3_up (NB3_kkF hN) (by omega) kk_b.1) (by omega) kk_b.2
    have a2 : MK m (cb2 m) := (a1.t (MK_sn a1.1)).t (MK_sn (MB_sn a1.1))
    have b2 : NB3 (cb2 m) := NB3_sn (NB3_sn b1 (by omega) (by decide)) (by omega) (by decide)
    have e : cb2 m 43 0 5 = m 43 0 5 := by
      unfold cb2
      rw [snM_a, if_neg (by omega), snM_a, if_neg (by omega)]
      unfold cb1
      rw [up3_off (by omega), up3_off (by omega), kkF_k (by decide)]
    exact ⟨a2.t (MK_43 a2.1), NB3_c (m0 := m) b2 (by decide) e hl⟩
  · exact ⟨MK_ro h, NB3_ro hN⟩
theorem pt6_ok {m : Mem} (h : MB m) (hN : NB3 m) : MK m (pt6 m) ∧ NB3 (pt6 m) := by
  have n8 := hN.2.2.2.2.1
  unfold pt6
  split
  · rename_i hl
    have q0 : ctq m = 270 + 6 * m 43 0 8 := rfl
    have a1 : MK m (ct1 m) := ((MK_kkF h).t (MK_43 (MB_kkF h))).t (MK_43 (MB_43 (MB_kkF h)))
    have b1 : NB3 (ct1 m) := NB3_up (NB3_up (NB3_kkF hN) (by omega) kk_b.1) (by omega) kk_b.2
    have a2 : MK m (ct2 m) := ((a1.t (MK_sn a1.1)).t (MK_sn (MB_sn a1.1))).t (MK_sn (MB_sn (MB_sn a1.1)))
    have b2 : NB3 (ct2 m) := NB3_sn (NB3_sn (NB3_sn b1 (by omega) (by decide)) (by omega) (by decide)) (by omega) (by decide)
    have e : ct2 m 43 0 8 = m 43 0 8 := by
      unfold ct2
      rw [snM_a, if_neg (by omega), snM_a, if_neg (by omega), snM_a, if_neg (by omega)]
      unfold ct1
      rw [up3_off (by omega), up3_off (by omega), kkF_k (by decide)]
    exact ⟨a2.t (MK_43 a2.1), NB3_c (m0 := m) b2 (by decide) e hl⟩
  · exact ⟨MK_ro h, NB3_ro hN⟩
theorem kn_i {m : Mem} : inI (knV m) := by have a := knV_b (m := m); unfold inI; omega
theorem pt4_ok {m : Mem} (h : MB m) (hN : NB3 m) : MK m (pt4 m) ∧ NB3 (pt4 m) := by
  have n6 := hN.2.2.1
  unfold pt4
  split
  · rename_i hl
    have q0 : suq m = 158 + 4 * m 43 0 6 := rfl
    have a1 : MK m (su1 m) := (MK_kn h).t (MK_43 (MB_nu h))
    have b1 : NB3 (su1 m) := NB3_up (NB3_nu hN) (by omega) kn_i
    have a4 : MK m (su4 m) := ((a1.t (MK_sn a1.1)).t (MK_sn (MB_sn a1.1))).t (MK_sn (MB_sn (MB_sn a1.1)))
    have b4 : NB3 (su4 m) := NB3_sn (NB3_sn (NB3_sn b1 (by omega) (by decide)) (by omega) su2_q) (by omega) (by decide)
    have e : su4 m 43 0 6 = m 43 0 6 := by
      unfold su4 su3 su2
      rw [snM_a, if_neg (by omega), snM_a, if_neg (by omega), snM_a, if_neg (by omega)]
      unfold su1 knM
      rw [up3_off (by omega), nuM_k (by decide)]
    exact ⟨a4.t (MK_43 a4.1), NB3_c (m0 := m) b4 (by decide) e hl⟩
  · exact ⟨MK_ro h, NB3_ro hN⟩
theorem pt5_ok {m : Mem} (h : MB m) (hN : NB3 m) : MK m (pt5 m) ∧ NB3 (pt5 m) := by
  have n7 := hN.2.2.2.2.2.1
  unfold pt5
  split
  · rename_i hl
    have q0 : trq m = 206 + 4 * m 43 0 7 := rfl
    have a1 : MK m (tp1 m) := (MK_kn h).t (MK_43 (MB_nu h))
    have b1 : NB3 (tp1 m) := NB3_up (NB3_nu hN) (by omega) kn_i
    have a4 : MK m (tp3 m) := (a1.t (MK_sn a1.1)).t (MK_sn (MB_sn a1.1))
    have b4 : NB3 (tp3 m) := NB3_sn (NB3_sn b1 (by omega) (by decide)) (by omega) (by decide)
    have e : tp3 m 43 0 7 = m 43 0 7 := by
      unfold tp3 tpp2
      rw [snM_a, if_neg (by omega), snM_a, if_neg (by omega)]
      unfold tp1 knM
      rw [up3_off (by omega), nuM_k (by decide)]
    exact ⟨a4.t (MK_43 a4.1), NB3_c (m0 := m) b4 (by decide) e hl⟩
  · exact ⟨MK_ro h, NB3_ro hN⟩
theorem MK_sm1 {m : Mem} (h : MB m) : MK m (sm1 m) := ⟨MB_sm1 h, fun k a _ => sm1_k a, fun j a => by unfold sm1; rw [up3_off (by omega)]; exact (MK_rs h).2.2.1 j a, by unfold sm1; rw [up3_off (by decide)]; exact (MK_rs h).2.2.2⟩
theorem sm_ok {m : Mem} (h : MB m) (hN : NB3 m) : MK m (smM m) ∧ NB3 (smM m) := by
  have a := MK_sm1 h
  have b : NB3 (sm1 m) := hN.k (sm1_k (by decide))
  have k : ∀ {q : Mem}, MK (sm1 m) q ∧ NB3 q → MK m q ∧ NB3 q := fun g => ⟨a.t g.1, g.2⟩
  unfold smM
  split
  · exact k (pt1_ok a.1 b)
  · split
    · exact k (pt2_ok a.1 b)
    · split
      · exact k (pt3_ok a.1 b)
      · split
        · exact k (pt4_ok a.1 b)
        · split
          · exact k (pt5_ok a.1 b)
          · split
            · exact k (pt6_ok a.1 b)
            · exact k ⟨MK_fa a.1 (by decide), NB3_fa b⟩
/-- another statement: what isMore leaves -/
def MJ (m m' : Mem) : Prop := MB m' ∧ (∀ k, k ≠ 41 → m' k = m k) ∧ (∀ j : Int, (j < 10 ∨ 15 < j) → m' 41 0 j = m 41 0 j)
theorem hr_at {m : Mem} (h : 0 ≤ hrV m) : m 41 0 10 < m 41 0 9 := by
  unfold hrV at h
  split at h
  · assumption
  · omega
theorem mo_ok {m : Mem} (h : MB m) : MJ m (moM m) ∧ (moP m → m 41 0 10 < moM m 41 0 10 ∧ moM m 41 0 14 = m 41 0 14 + 1) := by
  have a := MK_nx h
  unfold moM
  by_cases c1 : m 41 0 12 = 0
  · rw [if_pos c1]
    by_cases c2 : 0 ≤ hrV (nxM m)
    · rw [if_pos c2]
      have hl := hr_at c2
      have b1 := a.1.2.1
      by_cases c3 : hrV (nxM m) = 59
      · rw [if_pos c3]
        have b2 : MB (up3 (nxM m) 41 0 10 (nxM m 41 0 10 + 1)) := MB_at a.1 (by omega) (by omega)
        refine ⟨⟨b2, fun k hk => ?_, fun j hj => ?_⟩, fun _ => ⟨?_, ?_⟩⟩
        · rw [up3_k hk, up3_k hk]; exact nxM_k hk
        · rw [up3_off (by omega), up3_off (by omega)]; exact nxM_j (by omega)
        · rw [up3_off (by decide), up3_at]; have := a.2.2.2; omega
        · rw [up3_at, nxM_j (by decide)]
      · rw [if_neg c3]
        exact ⟨⟨MB_fa a.1 (by decide), fun k hk => by rw [faM_k hk]; exact nxM_k hk, fun j hj => by rw [faM_j (by omega)]; exact nxM_j (by omega)⟩, fun z => absurd z.2.2 c3⟩
    · rw [if_neg c2]
      exact ⟨⟨a.1, fun k hk => nxM_k hk, fun j hj => nxM_j (by omega)⟩, fun z => absurd z.2.1 c2⟩
  · rw [if_neg c1]
    exact ⟨⟨h, fun _ _ => rfl, fun _ _ => rfl⟩, fun z => absurd z.1 c1⟩
def moL (m : Mem) : Nat → Mem
  | 0 => moM m
  | n + 1 => if moP m then moL (smM (moM m)) n else moM m
def bgM (m : Mem) : Mem := up3 (up3 (fiN m 43 0 0 430) 43 0 0 100) 43 0 1 100
def lo0 (m : Mem) : Mem := bgM (up3 (up3 (up3 (up3 m 41 0 7 0) 41 0 10 0) 41 0 12 0) 41 0 14 0)
def loE (m : Mem) : Mem := moL (pt0 (lo0 m)) 500
def loF (q : Mem) : Mem := up3 (up3 (up3 q 41 0 9 0) 41 0 16 (q 41 0 12)) 41 0 17 (if q 41 0 12 = 0 then -1 else q 41 0 14)
def loZ (q : Mem) : Mem := up3 (cpX (loF q) 43 42 0 0 430) 41 0 6 0
theorem lp_beg3 {G : GG} {m : Mem} : ∀ (n : Nat) (z : Int), 0 ≤ z → z + n = 430 → X G MX8_begins (rmD 0) 2 [(1, .int (iI z)), (0, rf G 43 0)] [] (hp (fiN m 43 0 0 z)) 0 0 (.inl none) (hp (bgM m)) := by
  intro n
  induction n with
  | zero =>
    intro z h0 h1
    refine x_iload_n (pc := 2) dX8_begins_2 0 rfl ?_
    refine x_sipush (pc := 3) (z := 430) dX8_begins_3 (by decide) ?_
    refine x_icmp_ge (pc := 6) 19 dX8_begins_6 (by decide) (by unfold inI; omega) (by unfold inI; omega) (fun c_6 => ?_) (fun c_6 => (by exfalso; omega))
    refine x_aload_n (pc := 19) dX8_begins_19 1 rfl ?_
    refine x_iconst (pc := 20) dX8_begins_20 ?_
    refine x_bipush (pc := 21) (z := 100) dX8_begins_21 (by decide) ?_
    refine y_iast (pc := 23) dX8_begins_23 rfl (by decide) (by omega) ?_
    refine x_aload_n (pc := 24) dX8_begins_24 1 rfl ?_
    refine x_iconst (pc := 25) dX8_begins_25 ?_
    refine x_bipush (pc := 26) (z := 100) dX8_begins_26 (by decide) ?_
    refine y_iast (pc := 28) dX8_begins_28 rfl (by decide) (by omega) ?_
    exact y_vret (pc := 29) dX8_begins_29 rfl (by rw [show z = 430 by omega]; rfl)
  | succ n ih =>
    intro z h0 h1
    refine x_iload_n (pc := 2) dX8_begins_2 0 rfl ?_
    refine x_sipush (pc := 3) (z := 430) dX8_begins_3 (by decide) ?_
    refine x_icmp_ge (pc := 6) 19 dX8_begins_6 (by decide) (by unfold inI; omega) (by unfold inI; omega) (fun c_6 => (by exfalso; omega)) (fun c_6 => ?_)
    refine x_aload_n (pc := 9) dX8_begins_9 1 rfl ?_
    refine x_iload_n (pc := 10) dX8_begins_10 0 rfl ?_
    refine x_iconst (pc := 11) dX8_begins_11 ?_
    refine y_iast (pc := 12) dX8_begins_12 rfl (by decide) (by omega) ?_
    refine x_nil (m' := fiN m 43 0 0 (z + 1)) (fiN_s h0) ?_
    refine x_iinc (pc := 13) (lv' := [(1, _), (0, _)]) dX8_begins_13 0 rfl (by decide) rfl ?_
    refine x_goto (pc := 16) 2 dX8_begins_16 (by decide) ?_
    exact x_lv [0, 1] rfl (ih (z + 1) (by omega) (by omega))

theorem mp_beg3 {G : GG} {m : Mem} : Ct G MX8_begins (rmD 0) [rf G 43 0] (hp (m)) (.inl none) (hp (bgM m)) := by
  refine x_entry (by decide +kernel) mwX8_begins rfl (Nat.le_of_ble_eq_true rfl) ?_
  show X G MX8_begins (rmD 0) 0 [(0, rf G 43 0)] [] (hp (m)) 0 0 (.inl none) (hp (bgM m))
  refine x_iconst (pc := 0) dX8_begins_0 ?_
  refine x_istore_n (pc := 1) (lv' := [(1, _), (0, _)]) dX8_begins_1 rfl (by decide) rfl ?_
  refine x_nil (m' := fiN m 43 0 0 0) (fiN_0 m 43 0 0).symm ?_
  exact x_lv [0, 1] rfl (lp_beg3 430 0 (by omega) (by omega))

theorem lp_cp43_42 {G : GG} {m : Mem} (a b : Int) (ha : 0 ≤ a ∧ 430 * a + 430 ≤ 430) (hb : 0 ≤ b ∧ 430 * b + 430 ≤ 430) : ∀ (n : Nat) (z : Int), 0 ≤ z → z + n = 430 → X G MX8_copies (rmD 0) 3 [(4, .int (iI z)), (0, rf G 43 0), (1, .int (iI a)), (2, rf G 42 0), (3, .int (iI b))] [] (hp (cpX m 43 42 a b z)) 0 0 (.inl none) (hp (cpX m 43 42 a b 430)) := by
  intro n
  induction n with
  | zero =>
    intro z h0 h1
    refine x_iload (pc := 3) dX8_copies_3 0 rfl ?_
    refine x_sipush (pc := 5) (z := 430) dX8_copies_5 (by decide) ?_
    refine x_icmp_ge (pc := 8) 37 dX8_copies_8 (by decide) (by unfold inI; omega) (by unfold inI; omega) (fun c_8 => ?_) (fun c_8 => (by exfalso; omega))
    exact y_vret (pc := 37) dX8_copies_37 rfl (by rw [show z = 430 by omega])
  | succ n ih =>
    intro z h0 h1
    refine x_iload (pc := 3) dX8_copies_3 0 rfl ?_
    refine x_sipush (pc := 5) (z := 430) dX8_copies_5 (by decide) ?_
    refine x_icmp_ge (pc := 8) 37 dX8_copies_8 (by decide) (by unfold inI; omega) (by unfold inI; omega) (fun c_8 => (by exfalso; omega)) (fun c_8 => ?_)
    refine x_aload_n (pc := 11) dX8_copies_11 3 rfl ?_
    refine x_sipush (pc := 12) (z := 430) dX8_copies_12 (by decide) ?_
    refine x_iload_n (pc := 15) dX8_copies_15 4 rfl ?_
    refine x_imul (pc := 16) dX8_copies_16 ?_
    refine x_iload (pc := 17) dX8_copies_17 0 rfl ?_
    refine x_iadd (pc := 19) dX8_copies_19 ?_
    refine x_aload_n (pc := 20) dX8_copies_20 1 rfl ?_
    refine x_sipush (pc := 21) (z := 430) dX8_copies_21 (by decide) ?_
    refine x_iload_n (pc := 24) dX8_copies_24 2 rfl ?_
    refine x_imul (pc := 25) dX8_copies_25 ?_
    refine x_iload (pc := 26) dX8_copies_26 0 rfl ?_
    refine x_iadd (pc := 28) dX8_copies_28 ?_
    refine y_iald (pc := 29) dX8_copies_29 rfl (by decide) (by omega) ?_
    refine y_iast (pc := 30) dX8_copies_30 rfl (by decide) (by omega) ?_
    refine x_nil (m' := cpX m 43 42 a b (z + 1)) (cpX_s (by decide) h0) ?_
    refine x_iinc (pc := 31) (lv' := [(4, _), (0, _), (1, _), (2, _), (3, _)]) dX8_copies_31 0 rfl (by decide) rfl ?_
    refine x_goto (pc := 34) 3 dX8_copies_34 (by decide) ?_
    exact x_lv [0, 1, 2, 3, 4] rfl (ih (z + 1) (by omega) (by omega))

theorem mq_cp43_42 {G : GG} {m : Mem} (a b : Int) (ha : 0 ≤ a ∧ 430 * a + 430 ≤ 430) (hb : 0 ≤ b ∧ 430 * b + 430 ≤ 430) : Ct G MX8_copies (rmD 0) [rf G 43 0, .int (iI a), rf G 42 0, .int (iI b)] (hp (m)) (.inl none) (hp (cpX m 43 42 a b 430)) := by
  refine x_entry (by decide +kernel) mwX8_copies rfl (Nat.le_of_ble_eq_true rfl) ?_
  show X G MX8_copies (rmD 0) 0 [(0, rf G 43 0), (1, .int (iI a)), (2, rf G 42 0), (3, .int (iI b))] [] (hp (m)) 0 0 (.inl none) (hp (cpX m 43 42 a b 430))
  refine x_iconst (pc := 0) dX8_copies_0 ?_
  refine x_istore (pc := 1) (lv' := [(4, _), (0, _), (1, _), (2, _), (3, _)]) dX8_copies_1 (by decide) rfl ?_
  refine x_nil (m' := cpX m 43 42 a b 0) cpX_0.symm ?_
  exact x_lv [0, 1, 2, 3, 4] rfl (lp_cp43_42 a b ha hb 430 0 (by omega) (by omega))

/-- the model's text without the reader's place -/
def MW (m : Mem) : Prop := (0 ≤ m 41 0 9 ∧ m 41 0 9 ≤ 500) ∧ (∀ j, 0 ≤ j → j < 500 → -128 ≤ m 48 0 j ∧ m 48 0 j < 128) ∧ (0 ≤ m 41 0 11 ∧ m 41 0 11 ≤ 500) ∧ (0 ≤ m 41 0 15 ∧ m 41 0 15 ≤ 500)
theorem MB.w {m : Mem} (h : MB m) : MW m := ⟨h.1, h.2.2.1, h.2.2.2.2⟩
theorem MB_lo0 {m : Mem} (h : MW m) : MB (lo0 m) := ⟨h.1, ⟨Int.le_refl _, h.1.1⟩, h.2.1, show (0 : Int) ≤ 0 ∧ (0 : Int) ≤ 4 by decide, h.2.2⟩
theorem lo0_43 {m : Mem} (j : Int) (h0 : 2 ≤ j) (h1 : j < 430) : lo0 m 43 0 j = 0 := by
  unfold lo0 bgM
  rw [up3_off (by omega), up3_off (by omega)]
  unfold fiN
  rw [if_pos ⟨rfl, rfl, by omega, h1⟩]
theorem NB3_lo0 {m : Mem} : NB3 (lo0 m) := by
  refine ⟨?_, ?_, ?_, ?_, ?_, ?_, fun c c0 c1 => ?_⟩
  · rw [lo0_43 _ (by decide) (by decide)]; decide
  · rw [lo0_43 _ (by decide) (by decide)]; decide
  · rw [lo0_43 _ (by decide) (by decide)]; decide
  · rw [lo0_43 _ (by decide) (by decide)]; decide
  · rw [lo0_43 _ (by decide) (by decide)]; decide
  · rw [lo0_43 _ (by decide) (by decide)]; decide
  · rw [lo0_43 _ (by omega) (by omega), lo0_43 _ (by omega) (by omega)]; unfold inI; decide
theorem mo_no {m : Mem} (h : MB m) (e : m 41 0 10 = m 41 0 9) : ¬ moP m := by
  intro z
  have a := hr_at z.2.1
  have b := MK_nx h
  have c := b.2.2.1 9 (by omega)
  have d := b.2.2.2
  omega
theorem lp_load {G : GG} (m9 mE : Mem) (r9 : Option Value) (kk : X G MX8_load (rmD 9) 45 [(0, rf G 41 0)] [] (hp m9) 0 0 (.inl r9) (hp mE))  : ∀ (n : Nat) (m : Mem), MB m → NB3 m → m 41 0 9 - m 41 0 10 ≤ n → m9 = moL m n → X G MX8_load (rmD 9) 31 [(0, rf G 41 0)] [] (hp (m)) 0 0 (.inl r9) (hp (mE)) := by
  intro n
  induction n with
  | zero =>
    intro m hM hN hn h9
    refine x_aload_n (pc := 31) dX8_load_31 0 rfl ?_
    refine x_callV (pc := 32) _ dX8_load_32 (mp_more hM) lkX8_174 rfl rfl rfl rfl (mem_dom0 (by decide) (by decide)) (by decide) (Nat.le_of_ble_eq_true rfl) rfl ?_
    refine x_ifb_eq (pc := 35) 45 dX8_load_35 (by decide) (fun c_35 => ?_) (fun c_35 => absurd c_35 (mo_no hM (by have := hM.2.1; omega)))
    have e : m9 = moM m := h9
    rw [← e]
    exact x_lv [0] rfl kk
  | succ n ih =>
    intro m hM hN hn h9
    refine x_aload_n (pc := 31) dX8_load_31 0 rfl ?_
    refine x_callV (pc := 32) _ dX8_load_32 (mp_more hM) lkX8_174 rfl rfl rfl rfl (mem_dom0 (by decide) (by decide)) (by decide) (Nat.le_of_ble_eq_true rfl) rfl ?_
    have mo := mo_ok hM
    have hN1 : NB3 (moM m) := hN.k (mo.1.2.1 43 (by decide))
    refine x_ifb_eq (pc := 35) 45 dX8_load_35 (by decide) (fun c_35 => ?_) (fun c_35 => ?_)
    · have e : m9 = moM m := by rw [h9]; show (if _ then _ else _) = _; rw [if_neg c_35]
      rw [← e]
      exact x_lv [0] rfl kk
    · refine x_aload_n (pc := 38) dX8_load_38 0 rfl ?_
      refine x_callV (pc := 39) _ dX8_load_39 (mp_stm mo.1.1 hN1) lkX8_178 rfl rfl rfl rfl (mem_dom0 (by decide) (by decide)) (by decide) (Nat.le_of_ble_eq_true rfl) rfl ?_
      have so := sm_ok mo.1.1 hN1
      have m1 := mo.2 c_35
      have m9a := mo.1.2.2 9 (by omega)
      have m9b := so.1.2.2.1 9 (by omega)
      have m9c := so.1.2.2.2
      refine x_goto (pc := 42) 31 dX8_load_42 (by decide) ?_
      exact x_lv [0] rfl (ih (smM (moM m)) so.1.1 so.2 (by omega) (by rw [h9]; show (if _ then _ else _) = _; rw [if_pos c_35]))

theorem tl_load0 {G : GG} {q : Mem} (hi : inI (q 41 0 12)) (hz : q 41 0 12 ≠ 0)  : X G MX8_load (rmD 9) 45 [(0, rf G 41 0)] [] (hp (q)) 0 0 (.inl (some (.int (iI (-100 - q 41 0 13))))) (hp (loF q)) := by
  refine x_aload_n (pc := 45) dX8_load_45 0 rfl ?_
  refine x_iconst (pc := 46) dX8_load_46 ?_
  refine y_putI (pc := 47) 9 dX8_load_47 fwX8_63 rfl rfl rfl (by decide) ?_
  refine x_aload_n (pc := 50) dX8_load_50 0 rfl ?_
  refine x_aload_n (pc := 51) dX8_load_51 0 rfl ?_
  refine y_getI (pc := 52) 12 dX8_load_52 flX8_76 rfl rfl rfl (by decide) ?_
  refine y_putI (pc := 55) 16 dX8_load_55 fwX8_180 rfl rfl rfl (by decide) ?_
  refine x_aload_n (pc := 58) dX8_load_58 0 rfl ?_
  refine x_aload_n (pc := 59) dX8_load_59 0 rfl ?_
  refine y_getI (pc := 60) 12 dX8_load_60 flX8_76 rfl rfl rfl (by decide) ?_
  refine x_if_ne (pc := 63) 70 dX8_load_63 (by decide) hi (fun c_63 => ?_) (fun c_63 => absurd c_63 (fun z => hz z))
  refine x_aload_n (pc := 70) dX8_load_70 0 rfl ?_
  refine y_getI (pc := 71) 14 dX8_load_71 flX8_168 rfl rfl rfl (by decide) ?_
  refine y_putI (pc := 74) 17 dX8_load_74 fwX8_33 rfl rfl rfl (by decide) ?_
  refine x_nil (m' := loF q) (by unfold loF; rw [if_neg hz]; rfl) ?_
  refine x_aload_n (pc := 77) dX8_load_77 0 rfl ?_
  refine y_getI (pc := 78) 12 dX8_load_78 flX8_76 rfl rfl rfl (by decide) ?_
  refine x_if_eq (pc := 81) 92 dX8_load_81 (by decide) hi (fun c_81 => absurd c_81 hz) (fun c_81 => ?_)
  refine x_bipush (pc := 84) (z := (-100)) dX8_load_84 (by decide) ?_
  refine x_aload_n (pc := 86) dX8_load_86 0 rfl ?_
  refine y_getI (pc := 87) 13 dX8_load_87 flX8_79 rfl rfl rfl (by decide) ?_
  refine x_isub (pc := 90) dX8_load_90 ?_
  exact y_iret (pc := 91) dX8_load_91 rfl rfl rfl

theorem tl_load1 {G : GG} {q : Mem} (hz : q 41 0 12 = 0)  : X G MX8_load (rmD 9) 45 [(0, rf G 41 0)] [] (hp (q)) 0 0 (.inl (some (.int (iI (q 43 0 3))))) (hp (loZ q)) := by
  refine x_aload_n (pc := 45) dX8_load_45 0 rfl ?_
  refine x_iconst (pc := 46) dX8_load_46 ?_
  refine y_putI (pc := 47) 9 dX8_load_47 fwX8_63 rfl rfl rfl (by decide) ?_
  refine x_aload_n (pc := 50) dX8_load_50 0 rfl ?_
  refine x_aload_n (pc := 51) dX8_load_51 0 rfl ?_
  refine y_getI (pc := 52) 12 dX8_load_52 flX8_76 rfl rfl rfl (by decide) ?_
  refine y_putI (pc := 55) 16 dX8_load_55 fwX8_180 rfl rfl rfl (by decide) ?_
  refine x_aload_n (pc := 58) dX8_load_58 0 rfl ?_
  refine x_aload_n (pc := 59) dX8_load_59 0 rfl ?_
  refine y_getI (pc := 60) 12 dX8_load_60 flX8_76 rfl rfl rfl (by decide) ?_
  refine x_if_ne (pc := 63) 70 dX8_load_63 (by decide) (show inI (q 41 0 12) by rw [hz]; unfold inI; decide) (fun c_63 => absurd c_63 (fun z => z hz)) (fun c_63 => ?_)
  refine x_iconst (pc := 66) dX8_load_66 ?_
  refine x_goto (pc := 67) 74 dX8_load_67 (by decide) ?_
  refine y_putI (pc := 74) 17 dX8_load_74 fwX8_33 rfl rfl rfl (by decide) ?_
  refine x_nil (m' := loF q) (by unfold loF; rw [if_pos hz]; rfl) ?_
  refine x_aload_n (pc := 77) dX8_load_77 0 rfl ?_
  refine y_getI (pc := 78) 12 dX8_load_78 flX8_76 rfl rfl rfl (by decide) ?_
  refine x_if_eq (pc := 81) 92 dX8_load_81 (by decide) (show inI (q 41 0 12) by rw [hz]; unfold inI; decide) (fun c_81 => ?_) (fun c_81 => absurd c_81 (fun z => z hz))
  refine x_aload_n (pc := 92) dX8_load_92 0 rfl ?_
  refine y_getR (pc := 93) dX8_load_93 flX8_13 rfl rfl rfl (by decide) ?_
  refine x_iconst (pc := 96) dX8_load_96 ?_
  refine x_aload_n (pc := 97) dX8_load_97 0 rfl ?_
  refine y_getR (pc := 98) dX8_load_98 flX8_9 rfl rfl rfl (by decide) ?_
  refine x_iconst (pc := 101) dX8_load_101 ?_
  refine x_callS (pc := 102) _ dX8_load_102 (mq_cp43_42 0 0 (by omega) (by omega)) lkX8_183 rfl (by decide) (Nat.le_of_ble_eq_true rfl) rfl ?_
  refine x_aload_n (pc := 105) dX8_load_105 0 rfl ?_
  refine x_iconst (pc := 106) dX8_load_106 ?_
  refine y_putI (pc := 107) 6 dX8_load_107 fwX8_186 rfl rfl rfl (by decide) ?_
  refine x_aload_n (pc := 110) dX8_load_110 0 rfl ?_
  refine y_getR (pc := 111) dX8_load_111 flX8_9 rfl rfl rfl (by decide) ?_
  refine x_iconst (pc := 114) dX8_load_114 ?_
  refine y_iald (pc := 115) dX8_load_115 rfl (by decide) (by omega) ?_
  exact y_iret (pc := 116) dX8_load_116 rfl (by rw [up3_k (by decide)]; unfold cpX; rw [if_pos ⟨rfl, rfl, by decide, by decide⟩]; rfl) rfl

theorem Q_load0 {G : GG} {m : Mem} (hM : MW m) (hi : inI (loE m 41 0 12)) (hz : loE m 41 0 12 ≠ 0)  : Ct G MX8_load (rmD 9) [rf G 41 0] (hp (m)) (.inl (some (.int (iI (-100 - loE m 41 0 13))))) (hp (loF (loE m))) := by
  refine x_entry (by decide +kernel) mwX8_load rfl (Nat.le_of_ble_eq_true rfl) ?_
  show X G MX8_load (rmD 9) 0 [(0, rf G 41 0)] [] (hp (m)) 0 0 (.inl (some (.int (iI (-100 - loE m 41 0 13))))) (hp (loF (loE m)))
  refine x_aload_n (pc := 0) dX8_load_0 0 rfl ?_
  refine x_iconst (pc := 1) dX8_load_1 ?_
  refine y_putI (pc := 2) 7 dX8_load_2 fwX8_41 rfl rfl rfl (by decide) ?_
  refine x_aload_n (pc := 5) dX8_load_5 0 rfl ?_
  refine x_iconst (pc := 6) dX8_load_6 ?_
  refine y_putI (pc := 7) 10 dX8_load_7 fwX8_66 rfl rfl rfl (by decide) ?_
  refine x_aload_n (pc := 10) dX8_load_10 0 rfl ?_
  refine x_iconst (pc := 11) dX8_load_11 ?_
  refine y_putI (pc := 12) 12 dX8_load_12 fwX8_76 rfl rfl rfl (by decide) ?_
  refine x_aload_n (pc := 15) dX8_load_15 0 rfl ?_
  refine x_iconst (pc := 16) dX8_load_16 ?_
  refine y_putI (pc := 17) 14 dX8_load_17 fwX8_168 rfl rfl rfl (by decide) ?_
  refine x_aload_n (pc := 20) dX8_load_20 0 rfl ?_
  refine y_getR (pc := 21) dX8_load_21 flX8_13 rfl rfl rfl (by decide) ?_
  refine x_callS (pc := 24) _ dX8_load_24 (mp_beg3) lkX8_37 rfl (by decide) (Nat.le_of_ble_eq_true rfl) rfl ?_
  refine x_aload_n (pc := 27) dX8_load_27 0 rfl ?_
  refine x_nil (m' := lo0 m) rfl ?_
  refine x_callV (pc := 28) _ dX8_load_28 (mp_pt0 (MB_lo0 hM)) lkX8_171 rfl rfl rfl rfl (mem_dom0 (by decide) (by decide)) (by decide) (Nat.le_of_ble_eq_true rfl) rfl ?_
  have po := pt0_ok (MB_lo0 hM) NB3_lo0
  have p9 := po.1.1.1
  have p10 := po.1.1.2.1
  exact x_lv [0] rfl (lp_load _ _ _ (tl_load0 hi hz) 500 _ po.1.1 po.2 (by omega) rfl)

theorem Q_load1 {G : GG} {m : Mem} (hM : MW m) (hz : loE m 41 0 12 = 0)  : Ct G MX8_load (rmD 9) [rf G 41 0] (hp (m)) (.inl (some (.int (iI (loE m 43 0 3))))) (hp (loZ (loE m))) := by
  refine x_entry (by decide +kernel) mwX8_load rfl (Nat.le_of_ble_eq_true rfl) ?_
  show X G MX8_load (rmD 9) 0 [(0, rf G 41 0)] [] (hp (m)) 0 0 (.inl (some (.int (iI (loE m 43 0 3))))) (hp (loZ (loE m)))
  refine x_aload_n (pc := 0) dX8_load_0 0 rfl ?_
  refine x_iconst (pc := 1) dX8_load_1 ?_
  refine y_putI (pc := 2) 7 dX8_load_2 fwX8_41 rfl rfl rfl (by decide) ?_
  refine x_aload_n (pc := 5) dX8_load_5 0 rfl ?_
  refine x_iconst (pc := 6) dX8_load_6 ?_
  refine y_putI (pc := 7) 10 dX8_load_7 fwX8_66 rfl rfl rfl (by decide) ?_
  refine x_aload_n (pc := 10) dX8_load_10 0 rfl ?_
  refine x_iconst (pc := 11) dX8_load_11 ?_
  refine y_putI (pc := 12) 12 dX8_load_12 fwX8_76 rfl rfl rfl (by decide) ?_
  refine x_aload_n (pc := 15) dX8_load_15 0 rfl ?_
  refine x_iconst (pc := 16) dX8_load_16 ?_
  refine y_putI (pc := 17) 14 dX8_load_17 fwX8_168 rfl rfl rfl (by decide) ?_
  refine x_aload_n (pc := 20) dX8_load_20 0 rfl ?_
  refine y_getR (pc := 21) dX8_load_21 flX8_13 rfl rfl rfl (by decide) ?_
  refine x_callS (pc := 24) _ dX8_load_24 (mp_beg3) lkX8_37 rfl (by decide) (Nat.le_of_ble_eq_true rfl) rfl ?_
  refine x_aload_n (pc := 27) dX8_load_27 0 rfl ?_
  refine x_nil (m' := lo0 m) rfl ?_
  refine x_callV (pc := 28) _ dX8_load_28 (mp_pt0 (MB_lo0 hM)) lkX8_171 rfl rfl rfl rfl (mem_dom0 (by decide) (by decide)) (by decide) (Nat.le_of_ble_eq_true rfl) rfl ?_
  have po := pt0_ok (MB_lo0 hM) NB3_lo0
  have p9 := po.1.1.1
  have p10 := po.1.1.2.1
  exact x_lv [0] rfl (lp_load _ _ _ (tl_load1 hz) 500 _ po.1.1 po.2 (by omega) rfl)
