/-! what was taken in is what was used, lost and is held -/
def CE (m : Mem) (p s : Nat) (d : Int) : Prop := m 0 s 1 + d = m 0 s 2 + m 0 s 3 + sm (m 9 s) (m 22 p 5).toNat + sm (m 3 s) (m 22 p 2).toNat ∧ 0 ≤ m 0 s 2 ∧ 0 ≤ m 0 s 3 ∧ (∀ c, 0 ≤ c → c < m 22 p 5 → 0 ≤ m 9 s c)
theorem CE.k {m m' : Mem} {p s : Nat} {d : Int} (h : CE m p s d) (e0 : m' 0 s = m 0 s) (e3 : m' 3 s = m 3 s) (e9 : m' 9 s = m 9 s) (e22 : m' 22 p = m 22 p) : CE m' p s d := by unfold CE; rw [e0, e3, e9, e22]; exact h
theorem CE.d {m : Mem} {p s : Nat} {d d' : Int} (h : CE m p s d) (e : d = d') : CE m p s d' := e ▸ h
theorem CE_up1 {m : Mem} {p s : Nat} {d g : Int} (h : CE m p s d) : CE (up3 m 0 s 1 (m 0 s 1 + g)) p s (d - g) := by
  obtain ⟨h1, h2, h3, h4⟩ := h
  unfold CE
  rw [up3_at, up3_off (by decide), up3_off (by decide), up3_k (by decide), up3_k (by decide), up3_k (by decide)]
  exact ⟨by omega, h2, h3, h4⟩
theorem CE_up2 {m : Mem} {p s : Nat} {d x : Int} (h : CE m p s d) (hx : 0 ≤ x) : CE (up3 m 0 s 2 (m 0 s 2 + x)) p s (d + x) := by
  obtain ⟨h1, h2, h3, h4⟩ := h
  unfold CE
  rw [up3_off (by decide), up3_at, up3_off (by decide), up3_k (by decide), up3_k (by decide), up3_k (by decide)]
  exact ⟨by omega, by omega, h3, h4⟩
theorem CE_get {m : Mem} {p s : Nat} {d q x : Int} (h : CE m p s d) (h0 : 0 ≤ q) (h1 : q < m 22 p 2) : CE (getC m p s q x) p s (d + x) := by
  obtain ⟨a1, a2, a3, a4⟩ := h
  have u := sm_upd (f := m 3 s) (f' := getC m p s q x 3 s) (t := q) (m 22 p 2).toNat (fun i a b e => by rw [getC_3, if_neg e]) h0 (by omega)
  have v : getC m p s q x 3 s q = min (m 3 s q + x) (roomC m p s q) := by rw [getC_3, if_pos rfl]
  have g1 : getC m p s q x 0 s 1 = m 0 s 1 := by rw [getC_0, if_neg (by decide)]
  have g2 : getC m p s q x 0 s 2 = m 0 s 2 := by rw [getC_0, if_neg (by decide)]
  have g3 : getC m p s q x 0 s 3 = m 0 s 3 + max 0 (m 3 s q + x - roomC m p s q) := by rw [getC_0, if_pos rfl]
  unfold CE
  rw [g1, g2, g3, getC_k (k := 9) (by decide) (by decide), getC_k (k := 22) (by decide) (by decide), u, v]
  exact ⟨by omega, a2, by omega, a4⟩
theorem CE_give {m : Mem} {p s : Nat} {d q x : Int} (h : CE m p s d) (h0 : 0 ≤ q) (h1 : q < m 22 p 2) : CE (giveC m p s q x) p s (d - x) := by
  obtain ⟨a1, a2, a3, a4⟩ := h
  have u := sm_upd (f := m 3 s) (f' := giveC m p s q x 3 s) (t := q) (m 22 p 2).toNat (fun i a b e => by rw [giveC_3, if_neg e]) h0 (by omega)
  have v : giveC m p s q x 3 s q = min (m 3 s q - x) (rmF (m 23 p q) (ptC m p s q x) (m 22 p 0)) := by rw [giveC_3, if_pos rfl]
  have g1 : giveC m p s q x 0 s 1 = m 0 s 1 := by rw [giveC_0, if_neg (by decide)]
  have g2 : giveC m p s q x 0 s 2 = m 0 s 2 := by rw [giveC_0, if_neg (by decide)]
  have g3 : giveC m p s q x 0 s 3 = m 0 s 3 + max 0 (m 3 s q - x - rmF (m 23 p q) (ptC m p s q x) (m 22 p 0)) := by rw [giveC_0, if_pos rfl]
  unfold CE
  rw [g1, g2, g3, giveC_k (k := 9) (by decide) (by decide) (by decide), giveC_k (k := 22) (by decide) (by decide) (by decide), u, v]
  exact ⟨by omega, a2, by omega, a4⟩
theorem CE_carry {m : Mem} {p s : Nat} {d c x : Int} (h : CE m p s d) (h0 : 0 ≤ c) (h1 : c < m 22 p 5) (hx : 0 ≤ x * m 6 s c) : CE (carryC m s c x) p s (d + x * m 6 s c / 1000) := by
  obtain ⟨a1, a2, a3, a4⟩ := h
  have u := sm_upd (f := m 9 s) (f' := carryC m s c x 9 s) (t := c) (m 22 p 5).toNat (fun i a b e => by rw [carry_9, if_neg e]) h0 (by omega)
  have v : carryC m s c x 9 s c = m 9 s c + x * m 6 s c / 1000 := by rw [carry_9, if_pos rfl]
  have e : 0 ≤ x * m 6 s c / 1000 := Int.ediv_nonneg hx (by decide)
  unfold CE
  rw [carry_k (k := 0) (by decide) (by decide), carry_k (k := 3) (by decide) (by decide), carry_k (k := 22) (by decide) (by decide), u, v]
  refine ⟨by omega, a2, a3, fun i i0 i1 => ?_⟩
  have := a4 i i0 i1
  rw [carry_9]
  by_cases g : i = c
  · rw [if_pos g, ← g]; rw [← g] at e; omega
  · rw [if_neg g]; exact this
/-- a sum of suns' gains over the packs -/
theorem sm_add (f g : Int → Int) : ∀ n, sm (fun i => f i + g i) n = sm f n + sm g n := by
  intro n
  induction n with
  | zero => rfl
  | succ n ih => rw [sm_s, sm_s, sm_s, ih]; omega
theorem sm_one {a v : Int} {P : Prop} [Decidable P] (hv : 0 ≤ v) : ∀ n, 0 ≤ sm (fun q => if a = q ∧ P then v else 0) n ∧ sm (fun q => if a = q ∧ P then v else 0) n ≤ v ∧ ((n : Int) ≤ a → sm (fun q => if a = q ∧ P then v else 0) n = 0) := by
  intro n
  induction n with
  | zero => exact ⟨Int.le_refl _, hv, fun _ => rfl⟩
  | succ n ih =>
    rw [sm_s]
    by_cases g : a = n ∧ P
    · have z := ih.2.2 (by omega)
      rw [if_pos g, z]
      exact ⟨by omega, by omega, fun y => by exfalso; omega⟩
    · rw [if_neg g]
      exact ⟨by omega, by omega, fun y => by have := ih.2.2 (by omega); omega⟩
theorem gain_sum {N : Int → Int} {h : Int} (hU : SU N) (k : Nat) : ∀ n : Nat, (n : Int) ≤ N 6 → 0 ≤ sm (fun q => sm (gainT N q h) n) k ∧ sm (fun q => sm (gainT N q h) n) k ≤ 10000 * n := by
  intro n
  induction n with
  | zero =>
    intro _
    have z : sm (fun q => sm (gainT N q h) 0) k = 0 := sm_zero (fun i a b => rfl)
    rw [z]
    decide
  | succ n ih =>
    intro hn
    have i := ih (by omega)
    have e : (fun q => sm (gainT N q h) (n + 1)) = fun q => sm (gainT N q h) n + (if N (158 + 4 * (n : Int)) = q ∧ (N (158 + 4 * (n : Int) + 1) ≤ h ∧ h ≤ N (158 + 4 * (n : Int) + 2)) then N (158 + 4 * (n : Int) + 3) else 0) := by
      funext q
      rw [sm_s]
      rfl
    have u := (hU.2.2.1 n (by omega) (by omega)).2.2.2
    have o := sm_one (a := N (158 + 4 * (n : Int))) (v := N (158 + 4 * (n : Int) + 3)) (P := N (158 + 4 * (n : Int) + 1) ≤ h ∧ h ≤ N (158 + 4 * (n : Int) + 2)) u.1 k
    rw [e, sm_add]
    omega
theorem gain_all {m : Mem} {p : Nat} {N : Int → Int} (hP : BP m p) (hR : RP m p N) {h : Int} (h0 : 0 ≤ h) (h1 : h < 24) : sm (fun q => m 26 p (q * 24 + h)) (m 22 p 2).toNat ≤ 120000 := by
  have u := hR.2.2.2.2.2.2
  have g := gain_sum (h := h) u (m 22 p 2).toNat (N 6).toNat (by have := u.1; omega)
  have e : sm (fun q => m 26 p (q * 24 + h)) (m 22 p 2).toNat = sm (fun q => sm (gainT N q h) (N 6).toNat) (m 22 p 2).toNat :=
    sm_congr (fun q a b => (hR.2.2.2.1 q h a (by omega) h0 h1).symm)
  rw [e]
  have := u.1
  omega
/-- the suns -/
theorem CE_sh {m : Mem} {p s : Nat} {hr q : Int} (hP : BP m p) (h : CE m p s 0) (h0 : 0 ≤ q) (h1 : q < m 22 p 2) (hh : 0 ≤ hr ∧ hr < 24) : CE (shStep m p s hr q) p s 0 ∧ shStep m p s hr q 0 s 1 = m 0 s 1 + m 26 p (q * 24 + hr) := by
  have b := hP.2.2.2.2.2.2.2.2.2.1 q hr h0 h1 hh.1 hh.2
  unfold shStep
  split
  · have a := CE_get (x := m 26 p (q * 24 + hr)) (CE_up1 (g := m 26 p (q * 24 + hr)) h) h0 h1
    exact ⟨a.d (by omega), by rw [getC_0, if_neg (by decide), up3_at]⟩
  · exact ⟨h, by omega⟩
theorem CE_shL {p s : Nat} {hr : Int} (hh : 0 ≤ hr ∧ hr < 24) : ∀ (n : Nat) (m : Mem) (q : Int), BP m p → BS m p s → CE m p s 0 → 0 ≤ q → q + n = m 22 p 2 → CE (shL m p s hr q n) p s 0 ∧ shL m p s hr q n 0 s 1 = m 0 s 1 + sm (fun i => m 26 p ((q + i) * 24 + hr)) n := by
  intro n
  induction n with
  | zero => intro m q hP hB h h0 h1; exact ⟨h, (Int.add_zero _).symm⟩
  | succ n ih =>
    intro m q hP hB h h0 h1
    have a := CE_sh hP h h0 (by omega) hh
    have b := BS_shL (p := p) (s := s) (hr := hr) (m 22 p 2 - q).toNat m q hP hB h0 (by omega)
    have k : ∀ k, k ≠ 3 → k ≠ 0 → shStep m p s hr q k = m k := fun k a b => shStep_k a b
    have b1 : BP (shStep m p s hr q) p ∧ BS (shStep m p s hr q) p s := BS_sh hP hB h0 (by omega)
    have i := ih (shStep m p s hr q) (q + 1) b1.1 b1.2 a.1 (by omega) (by rw [k 22 (by decide) (by decide)]; omega)
    refine ⟨i.1, ?_⟩
    show shL (shStep m p s hr q) p s hr (q + 1) n 0 s 1 = _
    rw [i.2, a.2, k 26 (by decide) (by decide)]
    have e : ∀ n : Nat, sm (fun i => m 26 p ((q + i) * 24 + hr)) (n + 1) = m 26 p (q * 24 + hr) + sm (fun i => m 26 p ((q + 1 + i) * 24 + hr)) n := by
      intro n
      induction n with
      | zero => rw [sm_s]; show (0 : Int) + m 26 p ((q + ((0 : Nat) : Int)) * 24 + hr) = _ + 0; rw [show q + ((0 : Nat) : Int) = q by omega]; omega
      | succ n ih2 => rw [sm_s, ih2, sm_s, show q + ((n + 1 : Nat) : Int) = q + 1 + (n : Int) by omega]; omega
    rw [e n]
    omega
/-- the trips -/
theorem CE_tr {m : Mem} {p s : Nat} {t : Int} (hB : BS m p s) (h : CE m p s 0) (h0 : 0 ≤ t) (h1 : t < m 1 s 0) : CE (trStep m p s t) p s 0 ∧ trStep m p s t 0 s 1 = m 0 s 1 := by
  have b := hB.2.2.2.1.2 t h0 h1
  unfold trStep
  split
  · split
    · have x : CE (up3 m 14 s t 1) p s 0 := h.k (by rw [up3_k (by decide)]) (by rw [up3_k (by decide)]) (by rw [up3_k (by decide)]) (by rw [up3_k (by decide)])
      have y := CE_up2 (x := m 13 s t) x (by have := b.2.2.1; omega)
      have z := CE_give (x := m 13 s t) y b.1.1 b.1.2
      refine ⟨z.d (by omega), ?_⟩
      rw [giveC_0, if_neg (by decide), up3_off (by decide), up3_k (by decide)]
    · exact ⟨h.k (by rw [up3_k (by decide)]) (by rw [up3_k (by decide)]) (by rw [up3_k (by decide)]) (by rw [up3_k (by decide)]), by rw [up3_k (by decide)]⟩
  · exact ⟨h, rfl⟩
theorem CE_trL {p s : Nat} : ∀ (n : Nat) (m : Mem) (t : Int), BP m p → BS m p s → CE m p s 0 → 0 ≤ t → t + n ≤ m 1 s 0 → CE (trL m p s t n) p s 0 ∧ trL m p s t n 0 s 1 = m 0 s 1 := by
  intro n
  induction n with
  | zero => intro m t hP hB h h0 h1; exact ⟨h, rfl⟩
  | succ n ih =>
    intro m t hP hB h h0 h1
    have a := CE_tr hB h h0 (by omega)
    have b := BS_tr hP hB h0 (show t < m 1 s 0 by omega)
    have i := ih (trStep m p s t) (t + 1) b.1 b.2 a.1 (by omega) (by rw [trStep_k (by decide) (by decide) (by decide) (by decide)]; omega)
    exact ⟨i.1, i.2.trans a.2⟩
/-- the loans -/
theorem CE_so {m : Mem} {p s : Nat} {l : Int} (hP : BP m p) (hB : BS m p s) (hN : SN m p s) (h : CE m p s 0) (h0 : 0 ≤ l) (h1 : l < m 2 s 0) : CE (soC m p s l) p s 0 ∧ soC m p s l 0 s 1 = m 0 s 1 := by
  have hb := hB.2.2.2.2.1.2 l h0 h1
  have hc := BP_c hP hb.1.1 hb.1.2
  have ha := soA_b hP hB hN h0 h1
  have hcb := hc.2.2.2.2.2.2
  have a1 : CE (so1 m p s l) p s (0 - soA m p s l) := CE_give h hc.1.1 hc.1.2
  have k1 : ∀ k, k ≠ 3 → k ≠ 0 → k ≠ 4 → so1 m p s l k = m k := fun k a b c => giveC_k a b c
  have a2 : CE (so2 m p s l) p s (0 - soA m p s l) := a1.k (by unfold so2; rw [up3_k (by decide)]) (by unfold so2; rw [up3_k (by decide)]) (by unfold so2; rw [up3_k (by decide)]) (by unfold so2; rw [up3_k (by decide)])
  have k2 : ∀ k, k ≠ 3 → k ≠ 0 → k ≠ 4 → k ≠ 18 → so2 m p s l k = m k := fun k a b c d => by unfold so2; rw [up3_k d]; exact k1 k a b c
  have l6 : so2 m p s l 6 s (cbC m p s l) = m 6 s (cbC m p s l) := by rw [k2 6 (by decide) (by decide) (by decide) (by decide)]
  have b6 := (hB.2.2.1 (cbC m p s l) hcb.1 hcb.2).1
  have nn : 0 ≤ soA m p s l * so2 m p s l 6 s (cbC m p s l) := by rw [l6]; exact Int.mul_nonneg ha.1.1 b6.1
  have a3 : CE (so3 m p s l) p s (0 - soA m p s l + soA m p s l * so2 m p s l 6 s (cbC m p s l) / 1000) := CE_carry a2 hcb.1 (by rw [k2 22 (by decide) (by decide) (by decide) (by decide)]; exact hcb.2) nn
  have k3 : ∀ k, k ≠ 3 → k ≠ 0 → k ≠ 4 → k ≠ 18 → k ≠ 8 → k ≠ 9 → so3 m p s l k = m k := fun k a b c d e f => by unfold so3; rw [carry_k e f]; exact k2 k a b c d
  have a4 : CE (so4 m p s l) p s 0 := (CE_get (x := soA m p s l - soA m p s l * so2 m p s l 6 s (cbC m p s l) / 1000) a3 hc.2.1.1 (by rw [k3 22 (by decide) (by decide) (by decide) (by decide) (by decide) (by decide)]; exact hc.2.1.2)).d (by omega)
  have a5 : CE (so5 m p s l) p s 0 := a4.k (by unfold so5; rw [up3_k (by decide)]) (by unfold so5; rw [up3_k (by decide)]) (by unfold so5; rw [up3_k (by decide)]) (by unfold so5; rw [up3_k (by decide)])
  have t1 : so5 m p s l 0 s 1 = m 0 s 1 := by
    unfold so5
    rw [up3_k (by decide)]
    unfold so4
    rw [getC_0, if_neg (by decide)]
    unfold so3
    rw [carry_k (by decide) (by decide)]
    unfold so2
    rw [up3_k (by decide)]
    unfold so1
    rw [giveC_0, if_neg (by decide)]
  unfold soC
  split
  · exact ⟨a5.k (by rw [up3_k (by decide)]) (by rw [up3_k (by decide)]) (by rw [up3_k (by decide)]) (by rw [up3_k (by decide)]), by rw [up3_k (by decide)]; exact t1⟩
  · exact ⟨a5, t1⟩
theorem CE_sb {m : Mem} {p s : Nat} {l : Int} (hP : BP m p) (hB : BS m p s) (hN : SN m p s) (h : CE m p s 0) (h0 : 0 ≤ l) (h1 : l < m 2 s 0) : CE (sbC m p s l) p s 0 ∧ sbC m p s l 0 s 1 = m 0 s 1 := by
  have hb := hB.2.2.2.2.1.2 l h0 h1
  have hc := BP_c hP hb.1.1 hb.1.2
  have ha := sbA_b hP hB hN h0 h1
  have hcb := hc.2.2.2.2.2.2
  have a1 : CE (sb1 m p s l) p s (0 - sbA m p s l) := CE_give h hc.2.1.1 hc.2.1.2
  have k1 : ∀ k, k ≠ 3 → k ≠ 0 → k ≠ 4 → sb1 m p s l k = m k := fun k a b c => giveC_k a b c
  have l6 : sb1 m p s l 6 s (cbC m p s l) = m 6 s (cbC m p s l) := by rw [k1 6 (by decide) (by decide) (by decide)]
  have b6 := (hB.2.2.1 (cbC m p s l) hcb.1 hcb.2).1
  have nn : 0 ≤ sbA m p s l * sb1 m p s l 6 s (cbC m p s l) := by rw [l6]; exact Int.mul_nonneg ha.1.1 b6.1
  have a2 : CE (sb2 m p s l) p s (0 - sbA m p s l + sbA m p s l * sb1 m p s l 6 s (cbC m p s l) / 1000) := CE_carry a1 hcb.1 (by rw [k1 22 (by decide) (by decide) (by decide)]; exact hcb.2) nn
  have k2 : ∀ k, k ≠ 3 → k ≠ 0 → k ≠ 4 → k ≠ 8 → k ≠ 9 → sb2 m p s l k = m k := fun k a b c e f => by unfold sb2; rw [carry_k e f]; exact k1 k a b c
  have a3 : CE (sb3 m p s l) p s 0 := (CE_get (x := sbR m p s l) a2 hc.1.1 (by rw [k2 22 (by decide) (by decide) (by decide) (by decide) (by decide)]; exact hc.1.2)).d (by unfold sbR; omega)
  have a4 : CE (sb4 m p s l) p s 0 := a3.k (by unfold sb4; rw [up3_k (by decide)]) (by unfold sb4; rw [up3_k (by decide)]) (by unfold sb4; rw [up3_k (by decide)]) (by unfold sb4; rw [up3_k (by decide)])
  have t1 : sb4 m p s l 0 s 1 = m 0 s 1 := by
    unfold sb4
    rw [up3_k (by decide)]
    unfold sb3
    rw [getC_0, if_neg (by decide)]
    unfold sb2
    rw [carry_k (by decide) (by decide)]
    unfold sb1
    rw [giveC_0, if_neg (by decide)]
  unfold sbC
  split
  · exact ⟨a4.k (by rw [up3_k (by decide)]) (by rw [up3_k (by decide)]) (by rw [up3_k (by decide)]) (by rw [up3_k (by decide)]), by rw [up3_k (by decide)]; exact t1⟩
  · split
    · exact ⟨a4.k (by rw [up3_k (by decide), up3_k (by decide)]) (by rw [up3_k (by decide), up3_k (by decide)]) (by rw [up3_k (by decide), up3_k (by decide)]) (by rw [up3_k (by decide), up3_k (by decide)]), by rw [up3_k (by decide), up3_k (by decide)]; exact t1⟩
    · exact ⟨a4, t1⟩
theorem CE_ln {m : Mem} {p s : Nat} {l : Int} (hP : BP m p) (hB : BS m p s) (hN : SN m p s) (h : CE m p s 0) (h0 : 0 ≤ l) (h1 : l < m 2 s 0) : CE (lnStep m p s l) p s 0 ∧ lnStep m p s l 0 s 1 = m 0 s 1 := by
  have a := lnA_f hP hB hN h0 h1
  have h1' : l < lnA m s l 2 s 0 := by rw [lnA_k (by decide)]; exact h1
  have c : CE (lnA m s l) p s 0 := h.k (by rw [lnA_k (by decide)]) (by rw [lnA_k (by decide)]) (by rw [lnA_k (by decide)]) (by rw [lnA_k (by decide)])
  have e : lnA m s l 0 s 1 = m 0 s 1 := by rw [lnA_k (by decide)]
  unfold lnStep
  split
  · have z := CE_so a.1 a.2.1 a.2.2 c h0 h1'
    exact ⟨z.1, z.2.trans e⟩
  · split
    · have z := CE_sb a.1 a.2.1 a.2.2 c h0 h1'
      exact ⟨z.1, z.2.trans e⟩
    · exact ⟨c, e⟩
theorem CE_lnL {p s : Nat} : ∀ (n : Nat) (m : Mem) (l : Int), BP m p → BS m p s → SN m p s → CE m p s 0 → 0 ≤ l → l + n ≤ m 2 s 0 → CE (lnL m p s l n) p s 0 ∧ lnL m p s l n 0 s 1 = m 0 s 1 := by
  intro n
  induction n with
  | zero => intro m l hP hB hN h h0 h1; exact ⟨h, rfl⟩
  | succ n ih =>
    intro m l hP hB hN h h0 h1
    have b := ln_f hP hB hN h0 (show l < m 2 s 0 by omega)
    have a := CE_ln hP hB hN h h0 (by omega)
    have i := ih _ (l + 1) b.1 b.2.1 b.2.2 a.1 (by omega) (by rw [lnStep_k (by omega)]; omega)
    exact ⟨i.1, i.2.trans a.2⟩
/-- a tick -/
theorem CE_tk {m : Mem} {p s : Nat} {N : Int → Int} (hP : BP m p) (hB : BS m p s) (hR : RP m p N) (h : CE m p s 0) : CE (tkC m p s) p s 0 ∧ tkC m p s 0 s 1 ≤ m 0 s 1 + 120000 := by
  have f := tk_facts hP hB
  have n8 := hP.2.2.1
  have n16 := hB.2.2.2.1.1
  have nl := hB.2.2.2.2.1.1
  have t0 := hB.1
  have c0 : CE (tk0 m s) p s 0 := h.k (by rw [tk0_k (by decide)]) (by rw [tk0_k (by decide)]) (by rw [tk0_k (by decide)]) (by rw [tk0_k (by decide)])
  have c1 := CE_shL (p := p) (s := s) (hr := m 0 s 0 % 24) (by omega) (m 22 p 2).toNat (tk0 m s) 0 f.1.1 f.1.2 c0 (by decide) (by rw [tk0_k (by decide)]; omega)
  have c2 := CE_trL (m 1 s 0).toNat (tk1 m p s) 0 f.2.1.1 f.2.1.2 c1.1 (by decide) (by rw [tk1_k (by decide) (by decide) (by decide)]; omega)
  have c3 := CE_lnL (m 2 s 0).toNat (tk2 m p s) 0 f.2.2.1.1 f.2.2.1.2.1 f.2.2.1.2.2 c2.1 (by decide) (by rw [tk2_k (by decide) (by decide) (by decide) (by decide) (by decide)]; omega)
  have e1 : tk1 m p s 0 s 1 = m 0 s 1 + sm (fun q => m 26 p (q * 24 + m 0 s 0 % 24)) (m 22 p 2).toNat := by
    unfold tk1
    rw [c1.2, tk0_k (by decide), tk0_k (by decide)]
    congr 1
    exact sm_congr (fun i _ _ => by rw [Int.zero_add])
  have g := gain_all hP hR (h := m 0 s 0 % 24) (by omega) (by omega)
  have e3 : tk3 m p s 0 s 1 = tk1 m p s 0 s 1 := c3.2.trans c2.2
  have c4 : CE (tk3 m p s) p s 0 := c3.1
  refine ⟨?_, ?_⟩
  · unfold tkC
    obtain ⟨a1, a2, a3, a4⟩ := c4
    unfold CE
    rw [up3_off (by decide), up3_off (by decide), up3_off (by decide), up3_k (by decide), up3_k (by decide), up3_k (by decide)]
    exact ⟨a1, a2, a3, a4⟩
  · unfold tkC
    rw [up3_off (by decide), e3, e1]
    omega
