/-! the helpers and the model's methods, side by side -/
def nrI (r : Int) : Int := (iI r).toInt
theorem inI_nr (r : Int) : inI (nrI r) := inI_of _
theorem iI_nr (r : Int) : iI (nrI r) = iI r := iI_of _
section PRS
variable {G : GG} {M : Mth} {R : Room} {av : List Value} {h h1 h2 : Hp} {r r' : Int}
theorem Ct.vi (k : Ct G M R av h (.inl (some (.int (iI r)))) h1) (e : iI r = iI r') : Ct G M R av h (.inl (some (.int (iI r')))) h1 := by rw [← e]; exact k
theorem Ct.vl (k : Ct G M R av h (.inl (some (.long (lI r)))) h1) (e : lI r = lI r') : Ct G M R av h (.inl (some (.long (lI r')))) h1 := by rw [← e]; exact k
theorem Ct.at {m m' m1 : Mem} {v : Option Value} (k : Ct G M R av (hp m) (.inl v) (hp m1)) (e : m = m') : Ct G M R av (hp m') (.inl v) (hp m1) := by rw [← e]; exact k
end PRS
/-- a helper and the model's method: both answer the same, or both say the same no -/
def RO (R : Room) : Prop := R = rmD 9 ∨ R = rmD 10
def PO (G : GG) (ML : Mth) (hh : List (Nat × Nat × Nat × Nat)) (MX : Mth) (As : List Value) (m : Mem) (K : Nat) : Prop :=
  (∃ (R : Room) (r : Int) (c1 m2 : Mem), RO R ∧ inI r ∧ CtW G ML hh (rmD 10) (rf G 38 0 :: (As ++ [rf G 49 0])) (hp m) (.inl (some (.int (iI 0)))) (hp c1) ∧ Ct G MX R (rf G 41 0 :: As) (hp c1) (.inl (some (.int (iI r)))) (hp m2) ∧ m2 49 0 0 = r ∧ m2 41 0 7 = 0 ∧ IV m2 (K + 1)) ∨
  (∃ (R : Room) (e : Int) (m2 : Mem), RO R ∧ (e = 1 ∨ e = 2) ∧ CtW G ML hh (rmE 2) (rf G 38 0 :: (As ++ [rf G 49 0])) (hp m) (.inl (some (.int (iI e)))) (hp m) ∧ Ct G MX R (rf G 41 0 :: As) (hp m) (.inl (some (.int (iI 0)))) (hp m2) ∧ m2 41 0 7 = e ∧ IV m2 (K + 1))
def POL (G : GG) (ML : Mth) (hh : List (Nat × Nat × Nat × Nat)) (MX : Mth) (As : List Value) (m : Mem) (K : Nat) : Prop :=
  (∃ (R : Room) (r : Int) (c1 m2 : Mem), RO R ∧ CtW G ML hh (rmD 10) (rf G 38 0 :: (As ++ [rf G 49 0])) (hp m) (.inl (some (.int (iI 0)))) (hp c1) ∧ Ct G MX R (rf G 41 0 :: As) (hp c1) (.inl (some (.long (lI r)))) (hp m2) ∧ m2 49 0 0 = r ∧ m2 41 0 7 = 0 ∧ IV m2 (K + 1)) ∨
  (∃ (R : Room) (e : Int) (m2 : Mem), RO R ∧ (e = 1 ∨ e = 2) ∧ CtW G ML hh (rmE 2) (rf G 38 0 :: (As ++ [rf G 49 0])) (hp m) (.inl (some (.int (iI e)))) (hp m) ∧ Ct G MX R (rf G 41 0 :: As) (hp m) (.inl (some (.long (lI 0)))) (hp m2) ∧ m2 41 0 7 = e ∧ IV m2 (K + 1))
def POB (G : GG) (ML : Mth) (hh : List (Nat × Nat × Nat × Nat)) (MX : Mth) (As : List Value) (m : Mem) (K : Nat) : Prop :=
  (∃ (R : Room) (r : Int) (c1 m2 : Mem), RO R ∧ (r = 0 ∨ r = 1) ∧ CtW G ML hh (rmD 10) (rf G 38 0 :: (As ++ [rf G 49 0])) (hp m) (.inl (some (.int (iI 0)))) (hp c1) ∧ Ct G MX R (rf G 41 0 :: As) (hp c1) (.inl (some (.int (iI r)))) (hp m2) ∧ m2 49 0 0 = r ∧ m2 41 0 7 = 0 ∧ IV m2 (K + 1)) ∨
  (∃ (R : Room) (e : Int) (m2 : Mem), RO R ∧ (e = 1 ∨ e = 2) ∧ CtW G ML hh (rmE 2) (rf G 38 0 :: (As ++ [rf G 49 0])) (hp m) (.inl (some (.int (iI e)))) (hp m) ∧ Ct G MX R (rf G 41 0 :: As) (hp m) (.inl (some (.int (iI 0)))) (hp m2) ∧ m2 41 0 7 = e ∧ IV m2 (K + 1))
theorem sr_of {m : Mem} {N : Int → Int} (h : m 42 0 = N) : sr m N = m := by rw [← h, sr_self]
theorem fin_x {m : Mem} {K : Nat} (h : IV m K) (e : Int) : sr (thr m e) (m 42 0) 41 0 7 = e ∧ IV (sr (thr m e) (m 42 0)) (K + 1) := by
  have w : sr (thr m e) (m 42 0) = thr m e := sr_of (by unfold thr; rw [up3_k (by decide)])
  rw [w]
  exact ⟨by unfold thr; rw [up3_at], (h.k Kp_thr).more (by omega)⟩
section FIN
variable {m cm : Mem} {K : Nat}
theorem fin_o (k : Kp m cm) (r : Int) : (up3 cm 49 0 0 r) 42 0 = m 42 0 ∧ (thr (up3 cm 49 0 0 r) 0) 42 0 = m 42 0 ∧ (thr (up3 cm 49 0 0 r) 0) 49 0 0 = r ∧ (thr (up3 cm 49 0 0 r) 0) 41 0 7 = 0 := by
  have e42 := k.2.2.2.2.2.2.1
  have a : (up3 cm 49 0 0 r) 42 0 = m 42 0 := by rw [up3_k (by decide)]; exact e42
  refine ⟨a, ?_, ?_, ?_⟩
  · unfold thr; rw [up3_k (by decide)]; exact a
  · unfold thr; rw [up3_k (by decide), up3_at]
  · unfold thr; rw [up3_at]
theorem fin_r (h : IV m K) (k : Kp m cm) (r : Int) : sr (up3 cm 49 0 0 r) (m 42 0) = up3 cm 49 0 0 r ∧ sr (thr (up3 cm 49 0 0 r) 0) (m 42 0) 49 0 0 = r ∧ sr (thr (up3 cm 49 0 0 r) 0) (m 42 0) 41 0 7 = 0 ∧ IV (sr (thr (up3 cm 49 0 0 r) 0) (m 42 0)) (K + 1) := by
  have o := fin_o k r
  rw [sr_of o.1, sr_of o.2.1]
  exact ⟨rfl, o.2.2.1, o.2.2.2, (h.k (k.t (Kp_out.t Kp_thr))).more (by omega)⟩
theorem as_of {q : Mem} {N : Int → Int} (e : q 42 0 = N) : asX q N N = cpX q 42 44 0 0 430 := by
  unfold asX
  rw [sr_of e]
  exact sr_of (by rw [cpX_q (by decide)]; exact e)
theorem Kp_44 {q : Mem} : Kp q (cpX q 42 44 0 0 430) := Kp_k (fun _ a _ _ => cpX_q a)
theorem fin_s (h : IV m K) (k : Kp m cm) (r : Int) : sr (up3 cm 49 0 0 r) (m 42 0) = up3 cm 49 0 0 r ∧ asX (thr (up3 cm 49 0 0 r) 0) (m 42 0) (m 42 0) 49 0 0 = r ∧ asX (thr (up3 cm 49 0 0 r) 0) (m 42 0) (m 42 0) 41 0 7 = 0 ∧ IV (asX (thr (up3 cm 49 0 0 r) 0) (m 42 0) (m 42 0)) (K + 1) := by
  have o := fin_o k r
  rw [sr_of o.1, as_of o.2.1]
  exact ⟨rfl, by rw [cpX_q (by decide)]; exact o.2.2.1, by rw [cpX_q (by decide)]; exact o.2.2.2, (h.k ((k.t (Kp_out.t Kp_thr)).t Kp_44)).more (by omega)⟩
theorem fin_z (h : IV m K) (k : Kp m cm) (r z : Int) : sr (up3 cm 49 0 0 r) (m 42 0) = up3 cm 49 0 0 r ∧ asX (up3 (thr (up3 cm 49 0 0 r) 0) 41 0 18 z) (m 42 0) (m 42 0) 49 0 0 = r ∧ asX (up3 (thr (up3 cm 49 0 0 r) 0) 41 0 18 z) (m 42 0) (m 42 0) 41 0 7 = 0 ∧ IV (asX (up3 (thr (up3 cm 49 0 0 r) 0) 41 0 18 z) (m 42 0) (m 42 0)) (K + 1) := by
  have o := fin_o k r
  rw [sr_of o.1, as_of (q := up3 (thr (up3 cm 49 0 0 r) 0) 41 0 18 z) (by rw [up3_k (by decide)]; exact o.2.1)]
  refine ⟨rfl, ?_, ?_, (h.k (((k.t (Kp_out.t Kp_thr)).t (Kp_41 (Or.inr rfl))).t Kp_44)).more (by omega)⟩
  · rw [cpX_q (by decide), up3_k (by decide)]; exact o.2.2.1
  · rw [cpX_q (by decide), up3_off (by decide)]; exact o.2.2.2
/-- after an act -/
theorem fin_a {N' : Int → Int} (h : IV m K) (hc : ∀ k i, i ≠ 0 ∨ 22 ≤ k → cm k i = pushC m k i) (hS : ST cm 0 0 N' (K + 1)) (r : Int) : sr (up3 cm 49 0 0 r) (m 42 0) = up3 cm 49 0 0 r ∧ sr (KM (thr (up3 cm 49 0 0 r) 0) (m 42 0)) N' 49 0 0 = r ∧ sr (KM (thr (up3 cm 49 0 0 r) 0) (m 42 0)) N' 41 0 7 = 0 ∧ IV (sr (KM (thr (up3 cm 49 0 0 r) 0) (m 42 0)) N') (K + 1) := by
  refine ⟨sr_of ?_, ?_, ?_, h.act hc hS (by omega) (Kp_out (j := 0) (z := r)) rfl⟩
  · rw [up3_k (by decide), hc 42 0 (.inr (by decide)), pushC_k (.inr ⟨by decide, by decide⟩)]
  · rw [sr_k (by decide), KM_k (by decide)]
    unfold thr
    rw [up3_k (by decide), up3_at]
  · rw [sr_k (by decide), KM_41 (by decide)]
    unfold thr
    rw [up3_at]
theorem act_6 (h : IV m K) (hc : ∀ k i, i ≠ 0 ∨ 22 ≤ k → cm k i = pushC m k i) (r : Int) : 0 ≤ (up3 cm 49 0 0 r) 41 0 6 ∧ (up3 cm 49 0 0 r) 41 0 6 ≤ 8 := by
  rw [up3_k (by decide), hc 41 0 (.inr (by decide)), pushC_k (.inr ⟨by decide, by decide⟩), h.2.1.2.2]
  exact h.2.1.1
end FIN
theorem con_in {m : Mem} {N : Int → Int} (hP : BP m 0) (hB : BS m 0 0) (hR : RP m 0 N) (hS : RS m 0 0 N) : (∀ l, 0 ≤ l → l < m 2 0 0 → inI (m 29 0 (m 15 0 l))) ∧ (∀ l, 0 ≤ l → l < m 2 0 0 → inI (m 28 0 (m 15 0 l))) ∧ (∀ l, 0 ≤ l → l < N 9 → inI (N (270 + 6 * N (318 + 7 * l + 0) + 1))) ∧ (∀ l, 0 ≤ l → l < N 9 → inI (N (270 + 6 * N (318 + 7 * l + 0) + 0))) := by
  have n8 := hP.2.2.1
  have b : ∀ l, 0 ≤ l → l < m 2 0 0 → inI (m 29 0 (m 15 0 l)) ∧ inI (m 28 0 (m 15 0 l)) := fun l a z => by
    have q := (hB.2.2.2.2.1.2 l a z).1
    have k := BP_c hP q.1 q.2
    have k1 := k.1
    have k2 := k.2.1
    unfold inI
    omega
  have e9 : N 9 = m 2 0 0 := hS.1.2.2.2.2.2.2
  refine ⟨fun l a z => (b l a z).1, fun l a z => (b l a z).2, fun l a z => ?_, fun l a z => ?_⟩
  · rw [e9] at z
    have q := (hB.2.2.2.2.1.2 l a z).1
    rw [(hS.2.2.2.2.2.2 l a z).1, (hR.2.2.2.2.2.1 _ q.1 q.2).2.1]
    exact (b l a z).1
  · rw [e9] at z
    have q := (hB.2.2.2.2.1.2 l a z).1
    rw [(hS.2.2.2.2.2.2 l a z).1, (hR.2.2.2.2.2.1 _ q.1 q.2).1]
    exact (b l a z).2
theorem sm_ge {f : Int → Int} : ∀ (n : Nat), (∀ i : Int, 0 ≤ i → i < n → 0 ≤ f i) → 0 ≤ sm f n ∧ ∀ i : Int, 0 ≤ i → i < n → f i ≤ sm f n := by
  intro n
  induction n with
  | zero => intro _; exact ⟨Int.le_refl _, fun i a b => by exfalso; omega⟩
  | succ n ih =>
    intro h
    have k := ih (fun i a b => h i a (by omega))
    have z := h n (by omega) (by omega)
    rw [sm_s]
    refine ⟨by omega, fun i a b => ?_⟩
    by_cases g : i = n
    · rw [g]; omega
    · have := k.2 i a (by omega); omega
/-- no sum grows out of an int -/
theorem tot_b {m : Mem} {N : Int → Int} {K : Nat} (h : ST m 0 0 N K) (hK : K ≤ 600) : (∀ j, 0 ≤ j → j < m 22 0 5 → inI (m 9 0 j)) ∧ ∀ a, 0 ≤ a → a < 4 → inI (N (10 + a)) := by
  obtain ⟨h1, h2, h3, h4, h5, h6, h7, h8⟩ := h
  obtain ⟨c1, c2, c3, c4⟩ := h6
  have n8 := h1.2.2.1
  have n12 := h1.2.2.2.2.2.1
  have s9 := sm_ge (f := m 9 0) (m 22 0 5).toNat (fun i a b => c4 i a (by omega))
  have s3 := sm_ge (f := m 3 0) (m 22 0 2).toNat (fun i a b => (h2.2.1 i a (by omega)).1.1)
  have r := h4.1
  have t0 := h2.1
  have hk : (100000 : Int) * K ≤ 60000000 := by omega
  have tb : m 0 0 1 ≤ 2000000000 := by omega
  refine ⟨fun j a b => ?_, fun a a0 a1 => ?_⟩
  · have x := s9.2 j a (by omega)
    have y := c4 j a b
    unfold inI
    omega
  · have q : a = 0 ∨ a = 1 ∨ a = 2 ∨ a = 3 := by omega
    have r1 := r.2.1
    have r2 := r.2.2.1
    have r3 := r.2.2.2.1
    have r4 := r.2.2.2.2.1
    unfold inI
    rcases q with rfl | rfl | rfl | rfl
    · rw [show (10 : Int) + 0 = 10 from rfl, r1]; omega
    · rw [show (10 : Int) + 1 = 11 from rfl, r2]; omega
    · rw [show (10 : Int) + 2 = 12 from rfl, r3]; omega
    · rw [show (10 : Int) + 3 = 13 from rfl, r4]; omega
theorem pr_count {G : GG} {m : Mem} {K : Nat} (h : IV m K) (hK : K ≤ 600) {a0 : Int} (ha0 : inI a0) : PO G ML_count ML_count_h MX8_count [.int (iI a0)] m K := by
  have hP := h.1.1
  have hB := h.1.2.1
  have hR := h.1.2.2.1
  have hS := h.1.2.2.2.1
  have h8 := h.1.2.2.2.2.1
  have hT := h.1.2.2.2.2.2.2.1
  have hh0 := h.2.1.1
  have hh1 := h.2.1.2.1
  have hm6 := h.2.1.2.2
  have hF := h.nf
  have E2 : m 42 0 2 = m 0 0 0 := hS.1.1
  have E3 : m 42 0 3 = m 22 0 2 := hR.1.2.2.1
  have E7 : m 42 0 7 = m 1 0 0 := hS.1.2.2.2.2.2.1
  have E8 : m 42 0 8 = m 22 0 6 := hR.1.2.2.2.2.2.2
  have E9 : m 42 0 9 = m 2 0 0 := hS.1.2.2.2.2.2.2
  have n8 := hP.2.2.1
  have n12 := hP.2.2.2.2.2.1
  have nc := hP.2.2.2.2.2.2.1
  have nt := hB.2.2.2.1.1
  have nl := hB.2.2.2.2.1.1
  have t0 := hB.1
  by_cases h0 : 0 ≤ a0 ∧ a0 ≤ 8
  · have fn := fin_r (cm := (m)) h (Kp.r m) (nrI (cntC m a0))
    refine .inl ⟨_, (nrI (cntC m a0)), (up3 (m) 49 0 0 (nrI (cntC m a0))), _, .inl rfl, inI_nr _, hq_count (inI_nr _) (Ct.vi (P_count hP hB ha0 (by omega)) (iI_nr _).symm), Ct.vi (Ct.at (Q_count (m := (up3 (m) 49 0 0 (nrI (cntC m a0)))) hF ha0 (by omega)) fn.1) (by rw [iI_nr]; exact congrArg iI (Eq.symm (V_cnt hR hS h0 (by rw [up3_k (by decide)]; exact hm6)))), fn.2.1, fn.2.2.1, fn.2.2.2⟩
  · refine .inr ⟨_, 1, sr (thr m 1) (m 42 0), .inl rfl, by decide, hq_count_iaE (Px_count_0 hP hB ha0 (by omega)), ?_, (fin_x h 1).1, (fin_x h 1).2⟩
    exact Ct.at (Qx_count_0 (m := m) hF ha0 (by omega)) (sr_self m)
theorem pr_pack {G : GG} {m : Mem} {K : Nat} (h : IV m K) (hK : K ≤ 600) {a0 a1 : Int} (ha0 : inI a0) (ha1 : inI a1) : PO G ML_pack ML_pack_h MX8_pack [.int (iI a0), .int (iI a1)] m K := by
  have hP := h.1.1
  have hB := h.1.2.1
  have hR := h.1.2.2.1
  have hS := h.1.2.2.2.1
  have h8 := h.1.2.2.2.2.1
  have hT := h.1.2.2.2.2.2.2.1
  have hh0 := h.2.1.1
  have hh1 := h.2.1.2.1
  have hm6 := h.2.1.2.2
  have hF := h.nf
  have E2 : m 42 0 2 = m 0 0 0 := hS.1.1
  have E3 : m 42 0 3 = m 22 0 2 := hR.1.2.2.1
  have E7 : m 42 0 7 = m 1 0 0 := hS.1.2.2.2.2.2.1
  have E8 : m 42 0 8 = m 22 0 6 := hR.1.2.2.2.2.2.2
  have E9 : m 42 0 9 = m 2 0 0 := hS.1.2.2.2.2.2.2
  have n8 := hP.2.2.1
  have n12 := hP.2.2.2.2.2.1
  have nc := hP.2.2.2.2.2.2.1
  have nt := hB.2.2.2.1.1
  have nl := hB.2.2.2.2.1.1
  have t0 := hB.1
  by_cases h0 : 0 ≤ a0 ∧ a0 < m 22 0 2
  · by_cases h1 : 0 ≤ a1 ∧ a1 ≤ 8
    · have fn := fin_r (cm := (m)) h (Kp.r m) (nrI (pckC m a0 a1))
      refine .inl ⟨_, (nrI (pckC m a0 a1)), (up3 (m) 49 0 0 (nrI (pckC m a0 a1))), _, .inl rfl, inI_nr _, hq_pack (inI_nr _) (Ct.vi (P_pack hP hB ha0 ha1 (by omega) (by omega)) (iI_nr _).symm), Ct.vi (Ct.at (Q_pack (m := (up3 (m) 49 0 0 (nrI (pckC m a0 a1)))) hF ha0 ha1 (by omega) (by omega)) fn.1) (by rw [iI_nr]; exact congrArg iI (Eq.symm (V_pck hP hB hR hS h0.1 h0.2 h1))), fn.2.1, fn.2.2.1, fn.2.2.2⟩
    · refine .inr ⟨_, 2, sr (thr m 2) (m 42 0), .inl rfl, by decide, hq_pack_iaE (Px_pack_1 hP hB ha0 ha1 (by omega) (by omega)), ?_, (fin_x h 2).1, (fin_x h 2).2⟩
      exact Ct.at (Qx_pack_1 (m := m) hF ha0 ha1 (by omega) (by omega)) (sr_self m)
  · refine .inr ⟨_, 1, sr (thr m 1) (m 42 0), .inl rfl, by decide, hq_pack_ioE (Px_pack_0 hP hB ha0 ha1 (by omega)), ?_, (fin_x h 1).1, (fin_x h 1).2⟩
    exact Ct.at (Qx_pack_0 (m := m) hF ha0 ha1 (by omega)) (sr_self m)
theorem pr_cable {G : GG} {m : Mem} {K : Nat} (h : IV m K) (hK : K ≤ 600) {a0 a1 a2 : Int} (ha0 : inI a0) (ha1 : inI a1) (ha2 : inI a2) : PO G ML_cable ML_cable_h MX8_cable [.int (iI a0), .int (iI a1), .int (iI a2)] m K := by
  have hP := h.1.1
  have hB := h.1.2.1
  have hR := h.1.2.2.1
  have hS := h.1.2.2.2.1
  have h8 := h.1.2.2.2.2.1
  have hT := h.1.2.2.2.2.2.2.1
  have hh0 := h.2.1.1
  have hh1 := h.2.1.2.1
  have hm6 := h.2.1.2.2
  have hF := h.nf
  have E2 : m 42 0 2 = m 0 0 0 := hS.1.1
  have E3 : m 42 0 3 = m 22 0 2 := hR.1.2.2.1
  have E7 : m 42 0 7 = m 1 0 0 := hS.1.2.2.2.2.2.1
  have E8 : m 42 0 8 = m 22 0 6 := hR.1.2.2.2.2.2.2
  have E9 : m 42 0 9 = m 2 0 0 := hS.1.2.2.2.2.2.2
  have n8 := hP.2.2.1
  have n12 := hP.2.2.2.2.2.1
  have nc := hP.2.2.2.2.2.2.1
  have nt := hB.2.2.2.1.1
  have nl := hB.2.2.2.2.1.1
  have t0 := hB.1
  by_cases h0 : 0 ≤ a0 ∧ a0 < m 22 0 2
  · by_cases h1 : 0 ≤ a1 ∧ a1 < m 22 0 2
    · by_cases h2 : 0 ≤ a2 ∧ a2 ≤ 3
      · have kb := hP.2.2.2.2.2.2.2.2.2.2.1 a0 a1 h0.1 h0.2 h1.1 h1.2
        have eb := hR.2.2.2.2.1 a0 a1 h0.1 h0.2 h1.1 h1.2
        have fn := fin_r (cm := (m)) h (Kp.r m) (nrI (cabC m (m 27 0 (a0 * 8 + a1)) a2))
        refine .inl ⟨_, (nrI (cabC m (m 27 0 (a0 * 8 + a1)) a2)), (up3 (m) 49 0 0 (nrI (cabC m (m 27 0 (a0 * 8 + a1)) a2))), _, .inl rfl, inI_nr _, hq_cable (inI_nr _) (Ct.vi (P_cable hP hB ha0 ha1 ha2 (by omega) (by omega) (by omega)) (iI_nr _).symm), Ct.vi (Ct.at (Q_cable (m := (up3 (m) 49 0 0 (nrI (cabC m (m 27 0 (a0 * 8 + a1)) a2)))) hF ha0 ha1 ha2 (by omega) (by omega) (by rw [eb]; omega)) fn.1) (by rw [iI_nr]; exact congrArg iI (Eq.symm (V_cab hP hR hS h8 h0.1 h0.2 h1.1 h1.2 h2))), fn.2.1, fn.2.2.1, fn.2.2.2⟩
      · refine .inr ⟨_, 2, sr (thr m 2) (m 42 0), .inl rfl, by decide, hq_cable_iaE (Px_cable_2 hP hB ha0 ha1 ha2 (by omega) (by omega) (by omega)), ?_, (fin_x h 2).1, (fin_x h 2).2⟩
        exact Ct.at (Qx_cable_1 (m := m) hF ha0 ha1 ha2 (by omega) (by omega)) (sr_self m)
    · refine .inr ⟨_, 1, sr (thr m 1) (m 42 0), .inl rfl, by decide, hq_cable_ioE (Px_cable_1 hP hB ha0 ha1 ha2 (by omega) (by omega)), ?_, (fin_x h 1).1, (fin_x h 1).2⟩
      exact Ct.at (Qx_cable_0 (m := m) hF ha0 ha1 ha2 (by omega)) (sr_self m)
  · refine .inr ⟨_, 1, sr (thr m 1) (m 42 0), .inl rfl, by decide, hq_cable_ioE (Px_cable_0 hP hB ha0 ha1 ha2 (by omega)), ?_, (fin_x h 1).1, (fin_x h 1).2⟩
    exact Ct.at (Qx_cable_0 (m := m) hF ha0 ha1 ha2 (by omega)) (sr_self m)
theorem pr_gainAt {G : GG} {m : Mem} {K : Nat} (h : IV m K) (hK : K ≤ 600) {a0 a1 : Int} (ha0 : inI a0) (ha1 : inI a1) : PO G ML_gainAt ML_gainAt_h MX8_gainAt [.int (iI a0), .int (iI a1)] m K := by
  have hP := h.1.1
  have hB := h.1.2.1
  have hR := h.1.2.2.1
  have hS := h.1.2.2.2.1
  have h8 := h.1.2.2.2.2.1
  have hT := h.1.2.2.2.2.2.2.1
  have hh0 := h.2.1.1
  have hh1 := h.2.1.2.1
  have hm6 := h.2.1.2.2
  have hF := h.nf
  have E2 : m 42 0 2 = m 0 0 0 := hS.1.1
  have E3 : m 42 0 3 = m 22 0 2 := hR.1.2.2.1
  have E7 : m 42 0 7 = m 1 0 0 := hS.1.2.2.2.2.2.1
  have E8 : m 42 0 8 = m 22 0 6 := hR.1.2.2.2.2.2.2
  have E9 : m 42 0 9 = m 2 0 0 := hS.1.2.2.2.2.2.2
  have n8 := hP.2.2.1
  have n12 := hP.2.2.2.2.2.1
  have nc := hP.2.2.2.2.2.2.1
  have nt := hB.2.2.2.1.1
  have nl := hB.2.2.2.2.1.1
  have t0 := hB.1
  by_cases h0 : 0 ≤ a0 ∧ a0 < m 22 0 2
  · by_cases h1 : 0 ≤ a1 ∧ a1 ≤ 23
    · have fn := fin_r (cm := (m)) h (Kp.r m) (nrI (m 26 0 (a0 * 24 + a1)))
      refine .inl ⟨_, (nrI (m 26 0 (a0 * 24 + a1))), (up3 (m) 49 0 0 (nrI (m 26 0 (a0 * 24 + a1)))), _, .inl rfl, inI_nr _, hq_gainAt (inI_nr _) (Ct.vi (P_gainAt hP hB ha0 ha1 (by omega) (by omega)) (iI_nr _).symm), Ct.vi (Ct.at (Q_gainAt (m := (up3 (m) 49 0 0 (nrI (m 26 0 (a0 * 24 + a1))))) hF ha0 ha1 (by omega) (by omega)) fn.1) (by rw [iI_nr]; exact congrArg iI (Eq.symm ((hR.2.2.2.1 a0 a1 h0.1 h0.2 h1.1 (by omega)).symm))), fn.2.1, fn.2.2.1, fn.2.2.2⟩
    · refine .inr ⟨_, 2, sr (thr m 2) (m 42 0), .inl rfl, by decide, hq_gainAt_iaE (Px_gainAt_1 hP hB ha0 ha1 (by omega) (by omega)), ?_, (fin_x h 2).1, (fin_x h 2).2⟩
      exact Ct.at (Qx_gainAt_1 (m := m) hF ha0 ha1 (by omega) (by omega)) (sr_self m)
  · refine .inr ⟨_, 1, sr (thr m 1) (m 42 0), .inl rfl, by decide, hq_gainAt_ioE (Px_gainAt_0 hP hB ha0 ha1 (by omega)), ?_, (fin_x h 1).1, (fin_x h 1).2⟩
    exact Ct.at (Qx_gainAt_0 (m := m) hF ha0 ha1 (by omega)) (sr_self m)
theorem pr_trip {G : GG} {m : Mem} {K : Nat} (h : IV m K) (hK : K ≤ 600) {a0 a1 : Int} (ha0 : inI a0) (ha1 : inI a1) : PO G ML_trip ML_trip_h MX8_trip [.int (iI a0), .int (iI a1)] m K := by
  have hP := h.1.1
  have hB := h.1.2.1
  have hR := h.1.2.2.1
  have hS := h.1.2.2.2.1
  have h8 := h.1.2.2.2.2.1
  have hT := h.1.2.2.2.2.2.2.1
  have hh0 := h.2.1.1
  have hh1 := h.2.1.2.1
  have hm6 := h.2.1.2.2
  have hF := h.nf
  have E2 : m 42 0 2 = m 0 0 0 := hS.1.1
  have E3 : m 42 0 3 = m 22 0 2 := hR.1.2.2.1
  have E7 : m 42 0 7 = m 1 0 0 := hS.1.2.2.2.2.2.1
  have E8 : m 42 0 8 = m 22 0 6 := hR.1.2.2.2.2.2.2
  have E9 : m 42 0 9 = m 2 0 0 := hS.1.2.2.2.2.2.2
  have n8 := hP.2.2.1
  have n12 := hP.2.2.2.2.2.1
  have nc := hP.2.2.2.2.2.2.1
  have nt := hB.2.2.2.1.1
  have nl := hB.2.2.2.2.1.1
  have t0 := hB.1
  by_cases h0 : 0 ≤ a0 ∧ a0 < m 1 0 0
  · by_cases h1 : 0 ≤ a1 ∧ a1 ≤ 3
    · have fn := fin_r (cm := (m)) h (Kp.r m) (nrI (triC m a0 a1))
      refine .inl ⟨_, (nrI (triC m a0 a1)), (up3 (m) 49 0 0 (nrI (triC m a0 a1))), _, .inl rfl, inI_nr _, hq_trip (inI_nr _) (Ct.vi (P_trip hP hB ha0 ha1 (by omega) (by omega)) (iI_nr _).symm), Ct.vi (Ct.at (Q_trip (m := (up3 (m) 49 0 0 (nrI (triC m a0 a1)))) hF ha0 ha1 (by omega) (by omega)) fn.1) (by rw [iI_nr]; exact congrArg iI (Eq.symm (V_tri hS h0.1 h0.2 h1))), fn.2.1, fn.2.2.1, fn.2.2.2⟩
    · refine .inr ⟨_, 2, sr (thr m 2) (m 42 0), .inl rfl, by decide, hq_trip_iaE (Px_trip_1 hP hB ha0 ha1 (by omega) (by omega)), ?_, (fin_x h 2).1, (fin_x h 2).2⟩
      exact Ct.at (Qx_trip_1 (m := m) hF ha0 ha1 (by omega) (by omega)) (sr_self m)
  · refine .inr ⟨_, 1, sr (thr m 1) (m 42 0), .inl rfl, by decide, hq_trip_ioE (Px_trip_0 hP hB ha0 ha1 (by omega)), ?_, (fin_x h 1).1, (fin_x h 1).2⟩
    exact Ct.at (Qx_trip_0 (m := m) hF ha0 ha1 (by omega)) (sr_self m)
theorem pr_contract {G : GG} {m : Mem} {K : Nat} (h : IV m K) (hK : K ≤ 600) {a0 a1 : Int} (ha0 : inI a0) (ha1 : inI a1) : PO G ML_contract ML_contract_h MX8_contract [.int (iI a0), .int (iI a1)] m K := by
  have hP := h.1.1
  have hB := h.1.2.1
  have hR := h.1.2.2.1
  have hS := h.1.2.2.2.1
  have h8 := h.1.2.2.2.2.1
  have hT := h.1.2.2.2.2.2.2.1
  have hh0 := h.2.1.1
  have hh1 := h.2.1.2.1
  have hm6 := h.2.1.2.2
  have hF := h.nf
  have E2 : m 42 0 2 = m 0 0 0 := hS.1.1
  have E3 : m 42 0 3 = m 22 0 2 := hR.1.2.2.1
  have E7 : m 42 0 7 = m 1 0 0 := hS.1.2.2.2.2.2.1
  have E8 : m 42 0 8 = m 22 0 6 := hR.1.2.2.2.2.2.2
  have E9 : m 42 0 9 = m 2 0 0 := hS.1.2.2.2.2.2.2
  have n8 := hP.2.2.1
  have n12 := hP.2.2.2.2.2.1
  have nc := hP.2.2.2.2.2.2.1
  have nt := hB.2.2.2.1.1
  have nl := hB.2.2.2.2.1.1
  have t0 := hB.1
  by_cases h0 : 0 ≤ a0 ∧ a0 < m 22 0 6
  · by_cases h1 : 0 ≤ a1 ∧ a1 ≤ 9
    · have fn := fin_r (cm := (m)) h (Kp.r m) (nrI (conC m a0 a1))
      refine .inl ⟨_, (nrI (conC m a0 a1)), (up3 (m) 49 0 0 (nrI (conC m a0 a1))), _, .inl rfl, inI_nr _, hq_contract (inI_nr _) (Ct.vi (P_contract hP hB ha0 ha1 (by omega) (by omega)) (iI_nr _).symm), Ct.vi (Ct.at (Q_contract (m := (up3 (m) 49 0 0 (nrI (conC m a0 a1)))) hF ha0 ha1 (by omega) (by omega)) fn.1) (by rw [iI_nr]; exact congrArg iI (Eq.symm (V_con hP hR hS h0.1 h0.2 h1))), fn.2.1, fn.2.2.1, fn.2.2.2⟩
    · refine .inr ⟨_, 2, sr (thr m 2) (m 42 0), .inl rfl, by decide, hq_contract_iaE (Px_contract_1 hP hB ha0 ha1 (by omega) (by omega)), ?_, (fin_x h 2).1, (fin_x h 2).2⟩
      exact Ct.at (Qx_contract_1 (m := m) hF ha0 ha1 (by omega) (by omega)) (sr_self m)
  · refine .inr ⟨_, 1, sr (thr m 1) (m 42 0), .inl rfl, by decide, hq_contract_ioE (Px_contract_0 hP hB ha0 ha1 (by omega)), ?_, (fin_x h 1).1, (fin_x h 1).2⟩
    exact Ct.at (Qx_contract_0 (m := m) hF ha0 ha1 (by omega)) (sr_self m)
theorem pr_loan {G : GG} {m : Mem} {K : Nat} (h : IV m K) (hK : K ≤ 600) {a0 a1 : Int} (ha0 : inI a0) (ha1 : inI a1) : PO G ML_loan ML_loan_h MX8_loan [.int (iI a0), .int (iI a1)] m K := by
  have hP := h.1.1
  have hB := h.1.2.1
  have hR := h.1.2.2.1
  have hS := h.1.2.2.2.1
  have h8 := h.1.2.2.2.2.1
  have hT := h.1.2.2.2.2.2.2.1
  have hh0 := h.2.1.1
  have hh1 := h.2.1.2.1
  have hm6 := h.2.1.2.2
  have hF := h.nf
  have E2 : m 42 0 2 = m 0 0 0 := hS.1.1
  have E3 : m 42 0 3 = m 22 0 2 := hR.1.2.2.1
  have E7 : m 42 0 7 = m 1 0 0 := hS.1.2.2.2.2.2.1
  have E8 : m 42 0 8 = m 22 0 6 := hR.1.2.2.2.2.2.2
  have E9 : m 42 0 9 = m 2 0 0 := hS.1.2.2.2.2.2.2
  have n8 := hP.2.2.1
  have n12 := hP.2.2.2.2.2.1
  have nc := hP.2.2.2.2.2.2.1
  have nt := hB.2.2.2.1.1
  have nl := hB.2.2.2.2.1.1
  have t0 := hB.1
  by_cases h0 : 0 ≤ a0 ∧ a0 < m 2 0 0
  · by_cases h1 : 0 ≤ a1 ∧ a1 ≤ 7
    · have fn := fin_r (cm := (m)) h (Kp.r m) (nrI (loaC m a0 a1))
      refine .inl ⟨_, (nrI (loaC m a0 a1)), (up3 (m) 49 0 0 (nrI (loaC m a0 a1))), _, .inl rfl, inI_nr _, hq_loan (inI_nr _) (Ct.vi (P_loan hP hB ha0 ha1 (by omega) (by omega)) (iI_nr _).symm), Ct.vi (Ct.at (Q_loan (m := (up3 (m) 49 0 0 (nrI (loaC m a0 a1)))) hF ha0 ha1 (by omega) (by omega)) fn.1) (by rw [iI_nr]; exact congrArg iI (Eq.symm (V_loa hR hS h0.1 h0.2 h1))), fn.2.1, fn.2.2.1, fn.2.2.2⟩
    · refine .inr ⟨_, 2, sr (thr m 2) (m 42 0), .inl rfl, by decide, hq_loan_iaE (Px_loan_1 hP hB ha0 ha1 (by omega) (by omega)), ?_, (fin_x h 2).1, (fin_x h 2).2⟩
      exact Ct.at (Qx_loan_1 (m := m) hF ha0 ha1 (by omega) (by omega)) (sr_self m)
  · refine .inr ⟨_, 1, sr (thr m 1) (m 42 0), .inl rfl, by decide, hq_loan_ioE (Px_loan_0 hP hB ha0 ha1 (by omega)), ?_, (fin_x h 1).1, (fin_x h 1).2⟩
    exact Ct.at (Qx_loan_0 (m := m) hF ha0 ha1 (by omega)) (sr_self m)
theorem pr_interest {G : GG} {m : Mem} {K : Nat} (h : IV m K) (hK : K ≤ 600) {a0 a1 : Int} (ha0 : inI a0) (ha1 : inI a1) : PO G ML_interest ML_interest_h MX8_interest [.int (iI a0), .int (iI a1)] m K := by
  have hP := h.1.1
  have hB := h.1.2.1
  have hR := h.1.2.2.1
  have hS := h.1.2.2.2.1
  have h8 := h.1.2.2.2.2.1
  have hT := h.1.2.2.2.2.2.2.1
  have hh0 := h.2.1.1
  have hh1 := h.2.1.2.1
  have hm6 := h.2.1.2.2
  have hF := h.nf
  have E2 : m 42 0 2 = m 0 0 0 := hS.1.1
  have E3 : m 42 0 3 = m 22 0 2 := hR.1.2.2.1
  have E7 : m 42 0 7 = m 1 0 0 := hS.1.2.2.2.2.2.1
  have E8 : m 42 0 8 = m 22 0 6 := hR.1.2.2.2.2.2.2
  have E9 : m 42 0 9 = m 2 0 0 := hS.1.2.2.2.2.2.2
  have n8 := hP.2.2.1
  have n12 := hP.2.2.2.2.2.1
  have nc := hP.2.2.2.2.2.2.1
  have nt := hB.2.2.2.1.1
  have nl := hB.2.2.2.2.1.1
  have t0 := hB.1
  by_cases h0 : 0 ≤ a0 ∧ a0 < m 22 0 6
  · by_cases h1 : 1 ≤ a1 ∧ a1 ≤ 100000
    · have fn := fin_r (cm := (m)) h (Kp.r m) (nrI (intC m 0 (min 100000000 (wearC m 0 0 (m 28 0 a0) a1))))
      refine .inl ⟨_, (nrI (intC m 0 (min 100000000 (wearC m 0 0 (m 28 0 a0) a1)))), (up3 (m) 49 0 0 (nrI (intC m 0 (min 100000000 (wearC m 0 0 (m 28 0 a0) a1))))), _, .inl rfl, inI_nr _, hq_interest (inI_nr _) (Ct.vi (P_interest hP hB ha0 ha1 (by omega) (by omega)) (iI_nr _).symm), Ct.vi (Ct.at (Q_interest (m := (up3 (m) 49 0 0 (nrI (intC m 0 (min 100000000 (wearC m 0 0 (m 28 0 a0) a1)))))) hF ha0 ha1 (by omega) (by omega)) fn.1) (by rw [iI_nr]; exact congrArg iI (Eq.symm (V_int hP hB hR hS h0.1 h0.2))), fn.2.1, fn.2.2.1, fn.2.2.2⟩
    · refine .inr ⟨_, 2, sr (thr m 2) (m 42 0), .inl rfl, by decide, hq_interest_iaE (Px_interest_1 hP hB ha0 ha1 (by omega) (by omega)), ?_, (fin_x h 2).1, (fin_x h 2).2⟩
      exact Ct.at (Qx_interest_1 (m := m) hF ha0 ha1 (by omega) (by omega)) (sr_self m)
  · refine .inr ⟨_, 1, sr (thr m 1) (m 42 0), .inl rfl, by decide, hq_interest_ioE (Px_interest_0 hP hB ha0 ha1 (by omega)), ?_, (fin_x h 1).1, (fin_x h 1).2⟩
    exact Ct.at (Qx_interest_0 (m := m) hF ha0 ha1 (by omega)) (sr_self m)
theorem pr_hindrance {G : GG} {m : Mem} {K : Nat} (h : IV m K) (hK : K ≤ 600) {a0 a1 : Int} (ha0 : inI a0) (ha1 : inI a1) : PO G ML_hindrance ML_hindrance_h MX8_hindrance [.int (iI a0), .int (iI a1)] m K := by
  have hP := h.1.1
  have hB := h.1.2.1
  have hR := h.1.2.2.1
  have hS := h.1.2.2.2.1
  have h8 := h.1.2.2.2.2.1
  have hT := h.1.2.2.2.2.2.2.1
  have hh0 := h.2.1.1
  have hh1 := h.2.1.2.1
  have hm6 := h.2.1.2.2
  have hF := h.nf
  have E2 : m 42 0 2 = m 0 0 0 := hS.1.1
  have E3 : m 42 0 3 = m 22 0 2 := hR.1.2.2.1
  have E7 : m 42 0 7 = m 1 0 0 := hS.1.2.2.2.2.2.1
  have E8 : m 42 0 8 = m 22 0 6 := hR.1.2.2.2.2.2.2
  have E9 : m 42 0 9 = m 2 0 0 := hS.1.2.2.2.2.2.2
  have n8 := hP.2.2.1
  have n12 := hP.2.2.2.2.2.1
  have nc := hP.2.2.2.2.2.2.1
  have nt := hB.2.2.2.1.1
  have nl := hB.2.2.2.2.1.1
  have t0 := hB.1
  by_cases h0 : 0 ≤ a0 ∧ a0 < m 22 0 6
  · by_cases h1 : 1 ≤ a1 ∧ a1 ≤ 100000
    · have fn := fin_r (cm := (m)) h (Kp.r m) (nrI (hinC m 0 0 a0 a1))
      refine .inl ⟨_, (nrI (hinC m 0 0 a0 a1)), (up3 (m) 49 0 0 (nrI (hinC m 0 0 a0 a1))), _, .inl rfl, inI_nr _, hq_hindrance (inI_nr _) (Ct.vi (P_hindrance hP hB ha0 ha1 (by omega) (by omega)) (iI_nr _).symm), Ct.vi (Ct.at (Q_hindrance (m := (up3 (m) 49 0 0 (nrI (hinC m 0 0 a0 a1)))) hF ha0 ha1 (by omega) (by omega)) fn.1) (by rw [iI_nr]; exact congrArg iI (Eq.symm (V_hin hP hB hR hS h0.1 h0.2))), fn.2.1, fn.2.2.1, fn.2.2.2⟩
    · refine .inr ⟨_, 2, sr (thr m 2) (m 42 0), .inl rfl, by decide, hq_hindrance_iaE (Px_hindrance_1 hP hB ha0 ha1 (by omega) (by omega)), ?_, (fin_x h 2).1, (fin_x h 2).2⟩
      exact Ct.at (Qx_hindrance_1 (m := m) hF ha0 ha1 (by omega) (by omega)) (sr_self m)
  · refine .inr ⟨_, 1, sr (thr m 1) (m 42 0), .inl rfl, by decide, hq_hindrance_ioE (Px_hindrance_0 hP hB ha0 ha1 (by omega)), ?_, (fin_x h 1).1, (fin_x h 1).2⟩
    exact Ct.at (Qx_hindrance_0 (m := m) hF ha0 ha1 (by omega)) (sr_self m)
theorem pr_cheapest {G : GG} {m : Mem} {K : Nat} (h : IV m K) (hK : K ≤ 600) {a0 a1 : Int} (ha0 : inI a0) (ha1 : inI a1) : PO G ML_cheapest ML_cheapest_h MX8_cheapest [.int (iI a0), .int (iI a1)] m K := by
  have hP := h.1.1
  have hB := h.1.2.1
  have hR := h.1.2.2.1
  have hS := h.1.2.2.2.1
  have h8 := h.1.2.2.2.2.1
  have hT := h.1.2.2.2.2.2.2.1
  have hh0 := h.2.1.1
  have hh1 := h.2.1.2.1
  have hm6 := h.2.1.2.2
  have hF := h.nf
  have E2 : m 42 0 2 = m 0 0 0 := hS.1.1
  have E3 : m 42 0 3 = m 22 0 2 := hR.1.2.2.1
  have E7 : m 42 0 7 = m 1 0 0 := hS.1.2.2.2.2.2.1
  have E8 : m 42 0 8 = m 22 0 6 := hR.1.2.2.2.2.2.2
  have E9 : m 42 0 9 = m 2 0 0 := hS.1.2.2.2.2.2.2
  have n8 := hP.2.2.1
  have n12 := hP.2.2.2.2.2.1
  have nc := hP.2.2.2.2.2.2.1
  have nt := hB.2.2.2.1.1
  have nl := hB.2.2.2.2.1.1
  have t0 := hB.1
  by_cases h0 : 0 ≤ a0 ∧ a0 < m 22 0 2
  · by_cases h1 : 1 ≤ a1 ∧ a1 ≤ 100000
    · have fn := fin_r (cm := (m)) h (Kp.r m) (nrI (chF m a0 a1 (-1) 0 0 (m 22 0 6).toNat))
      refine .inl ⟨_, (nrI (chF m a0 a1 (-1) 0 0 (m 22 0 6).toNat)), (up3 (m) 49 0 0 (nrI (chF m a0 a1 (-1) 0 0 (m 22 0 6).toNat))), _, .inl rfl, inI_nr _, hq_cheapest (inI_nr _) (Ct.vi (P_cheapest hP hB hT hh0 hh1 ha0 ha1 (by omega) (by omega)) (iI_nr _).symm), Ct.vi (Ct.at (Q_cheapest (m := (up3 (m) 49 0 0 (nrI (chF m a0 a1 (-1) 0 0 (m 22 0 6).toNat)))) hF ha0 ha1 (by omega) (by omega) (CAB_of hP hB hR hS) (by rw [hR.1.2.1]; exact hP.2.1)) fn.1) (by rw [iI_nr]; exact congrArg iI (Eq.symm ((by rw [E8]; exact V_chp hP hB hR hS _ _ _ _ (by decide) (by omega))))), fn.2.1, fn.2.2.1, fn.2.2.2⟩
    · refine .inr ⟨_, 2, sr (thr m 2) (m 42 0), .inl rfl, by decide, hq_cheapest_iaE (Px_cheapest_1 hP hB hT hh0 hh1 ha0 ha1 (by omega) (by omega)), ?_, (fin_x h 2).1, (fin_x h 2).2⟩
      exact Ct.at (Qx_cheapest_1 (m := m) hF ha0 ha1 (by omega) (by omega)) (sr_self m)
  · refine .inr ⟨_, 1, sr (thr m 1) (m 42 0), .inl rfl, by decide, hq_cheapest_ioE (Px_cheapest_0 hP hB hT hh0 hh1 ha0 ha1 (by omega)), ?_, (fin_x h 1).1, (fin_x h 1).2⟩
    exact Ct.at (Qx_cheapest_0 (m := m) hF ha0 ha1 (by omega)) (sr_self m)
theorem pr_total {G : GG} {m : Mem} {K : Nat} (h : IV m K) (hK : K ≤ 600) {a0 : Int} (ha0 : inI a0) : POL G ML_total ML_total_h MX8_total [.int (iI a0)] m K := by
  have hP := h.1.1
  have hB := h.1.2.1
  have hR := h.1.2.2.1
  have hS := h.1.2.2.2.1
  have h8 := h.1.2.2.2.2.1
  have hT := h.1.2.2.2.2.2.2.1
  have hh0 := h.2.1.1
  have hh1 := h.2.1.2.1
  have hm6 := h.2.1.2.2
  have hF := h.nf
  have E2 : m 42 0 2 = m 0 0 0 := hS.1.1
  have E3 : m 42 0 3 = m 22 0 2 := hR.1.2.2.1
  have E7 : m 42 0 7 = m 1 0 0 := hS.1.2.2.2.2.2.1
  have E8 : m 42 0 8 = m 22 0 6 := hR.1.2.2.2.2.2.2
  have E9 : m 42 0 9 = m 2 0 0 := hS.1.2.2.2.2.2.2
  have n8 := hP.2.2.1
  have n12 := hP.2.2.2.2.2.1
  have nc := hP.2.2.2.2.2.2.1
  have nt := hB.2.2.2.1.1
  have nl := hB.2.2.2.2.1.1
  have t0 := hB.1
  by_cases h0 : 0 ≤ a0 ∧ a0 ≤ 5
  · have tb := tot_b h.1 hK
    have fn := fin_r (cm := (m)) h (Kp.r m) (totC m a0)
    refine .inl ⟨_, (totC m a0), (up3 (m) 49 0 0 (totC m a0)), _, .inl rfl, hq_total (P_total hP hB hT hh0 hh1 ha0 (by omega) (tb.1)), Ct.vl (Ct.at (Q_total (m := (up3 (m) 49 0 0 (totC m a0))) hF ha0 (by omega) (fun _ => tb.2 a0 (by omega) (by omega))) fn.1) (congrArg lI (Eq.symm (V_tot hR hS h0))), fn.2.1, fn.2.2.1, fn.2.2.2⟩
  · refine .inr ⟨_, 1, sr (thr m 1) (m 42 0), .inl rfl, by decide, hq_total_iaE (Px_total_0 hP hB hT hh0 hh1 ha0 (by omega)), ?_, (fin_x h 1).1, (fin_x h 1).2⟩
    exact Ct.at (Qx_total_0 (m := m) hF ha0 (by omega)) (sr_self m)
theorem pr_chargeIn {G : GG} {m : Mem} {K : Nat} (h : IV m K) (hK : K ≤ 600) {a0 a1 : Int} (ha0 : inI a0) (ha1 : inI a1) : PO G ML_chargeIn ML_chargeIn_h MX8_chargeIn [.int (iI a0), .int (iI a1)] m K := by
  have hP := h.1.1
  have hB := h.1.2.1
  have hR := h.1.2.2.1
  have hS := h.1.2.2.2.1
  have h8 := h.1.2.2.2.2.1
  have hT := h.1.2.2.2.2.2.2.1
  have hh0 := h.2.1.1
  have hh1 := h.2.1.2.1
  have hm6 := h.2.1.2.2
  have hF := h.nf
  have E2 : m 42 0 2 = m 0 0 0 := hS.1.1
  have E3 : m 42 0 3 = m 22 0 2 := hR.1.2.2.1
  have E7 : m 42 0 7 = m 1 0 0 := hS.1.2.2.2.2.2.1
  have E8 : m 42 0 8 = m 22 0 6 := hR.1.2.2.2.2.2.2
  have E9 : m 42 0 9 = m 2 0 0 := hS.1.2.2.2.2.2.2
  have n8 := hP.2.2.1
  have n12 := hP.2.2.2.2.2.1
  have nc := hP.2.2.2.2.2.2.1
  have nt := hB.2.2.2.1.1
  have nl := hB.2.2.2.2.1.1
  have t0 := hB.1
  by_cases h0 : 0 ≤ a0 ∧ a0 < m 22 0 2
  · by_cases h1 : 1 ≤ a1 ∧ a1 ≤ 500
    · have fn := fin_s (cm := (tkL (cpS m 0 1) 0 1 a1.toNat)) h (Kp_cpS.t Kp_tkL) (nrI (tkL (cpS m 0 1) 0 1 a1.toNat 3 1 a0))
      refine .inl ⟨_, (nrI (tkL (cpS m 0 1) 0 1 a1.toNat 3 1 a0)), (up3 (tkL (cpS m 0 1) 0 1 a1.toNat) 49 0 0 (nrI (tkL (cpS m 0 1) 0 1 a1.toNat 3 1 a0))), _, .inr rfl, inI_nr _, hq_chargeIn (inI_nr _) (Ct.vi (P_chargeIn hP hB hT hh0 hh1 ha0 ha1 (by omega) (by omega)) (iI_nr _).symm), Ct.vi (Ct.at (Q_chargeIn (m := (up3 (tkL (cpS m 0 1) 0 1 a1.toNat) 49 0 0 (nrI (tkL (cpS m 0 1) 0 1 a1.toNat 3 1 a0)))) hF ha0 ha1 (by omega) (by omega) hP hB hR hS hT) fn.1) (by rw [iI_nr]; exact congrArg iI (Eq.symm ((V_chargeIn h.1 h0.1 h0.2 h1).1))), fn.2.1, fn.2.2.1, fn.2.2.2⟩
    · refine .inr ⟨_, 2, sr (thr m 2) (m 42 0), .inr rfl, by decide, hq_chargeIn_iaE (Px_chargeIn_1 hP hB hT hh0 hh1 ha0 ha1 (by omega) (by omega)), ?_, (fin_x h 2).1, (fin_x h 2).2⟩
      exact Ct.at (Qx_chargeIn_1 (m := m) hF ha0 ha1 (by omega) (by omega)) (sr_self m)
  · refine .inr ⟨_, 1, sr (thr m 1) (m 42 0), .inr rfl, by decide, hq_chargeIn_ioE (Px_chargeIn_0 hP hB hT hh0 hh1 ha0 ha1 (by omega)), ?_, (fin_x h 1).1, (fin_x h 1).2⟩
    exact Ct.at (Qx_chargeIn_0 (m := m) hF ha0 ha1 (by omega)) (sr_self m)
theorem pr_wearIn {G : GG} {m : Mem} {K : Nat} (h : IV m K) (hK : K ≤ 600) {a0 a1 : Int} (ha0 : inI a0) (ha1 : inI a1) : PO G ML_wearIn ML_wearIn_h MX8_wearIn [.int (iI a0), .int (iI a1)] m K := by
  have hP := h.1.1
  have hB := h.1.2.1
  have hR := h.1.2.2.1
  have hS := h.1.2.2.2.1
  have h8 := h.1.2.2.2.2.1
  have hT := h.1.2.2.2.2.2.2.1
  have hh0 := h.2.1.1
  have hh1 := h.2.1.2.1
  have hm6 := h.2.1.2.2
  have hF := h.nf
  have E2 : m 42 0 2 = m 0 0 0 := hS.1.1
  have E3 : m 42 0 3 = m 22 0 2 := hR.1.2.2.1
  have E7 : m 42 0 7 = m 1 0 0 := hS.1.2.2.2.2.2.1
  have E8 : m 42 0 8 = m 22 0 6 := hR.1.2.2.2.2.2.2
  have E9 : m 42 0 9 = m 2 0 0 := hS.1.2.2.2.2.2.2
  have n8 := hP.2.2.1
  have n12 := hP.2.2.2.2.2.1
  have nc := hP.2.2.2.2.2.2.1
  have nt := hB.2.2.2.1.1
  have nl := hB.2.2.2.2.1.1
  have t0 := hB.1
  by_cases h0 : 0 ≤ a0 ∧ a0 < m 22 0 2
  · by_cases h1 : 1 ≤ a1 ∧ a1 ≤ 500
    · have vw := V_chargeIn h.1 h0.1 h0.2 h1
      have fn := fin_s (cm := (tkL (cpS m 0 1) 0 1 a1.toNat)) h (Kp_cpS.t Kp_tkL) (nrI (tkL (cpS m 0 1) 0 1 a1.toNat 4 1 a0 - tkL (cpS m 0 1) 0 1 a1.toNat 4 0 a0))
      refine .inl ⟨_, (nrI (tkL (cpS m 0 1) 0 1 a1.toNat 4 1 a0 - tkL (cpS m 0 1) 0 1 a1.toNat 4 0 a0)), (up3 (tkL (cpS m 0 1) 0 1 a1.toNat) 49 0 0 (nrI (tkL (cpS m 0 1) 0 1 a1.toNat 4 1 a0 - tkL (cpS m 0 1) 0 1 a1.toNat 4 0 a0))), _, .inr rfl, inI_nr _, hq_wearIn (inI_nr _) (Ct.vi (P_wearIn hP hB hT hh0 hh1 ha0 ha1 (by omega) (by omega)) (iI_nr _).symm), Ct.vi (Ct.at (Q_wearIn (m := (up3 (tkL (cpS m 0 1) 0 1 a1.toNat) 49 0 0 (nrI (tkL (cpS m 0 1) 0 1 a1.toNat 4 1 a0 - tkL (cpS m 0 1) 0 1 a1.toNat 4 0 a0)))) hF ha0 ha1 (by omega) (by omega) hP hB hR hS hT) fn.1) (by rw [iI_nr]; exact congrArg iI (Eq.symm ((by rw [vw.2.1, vw.2.2])))), fn.2.1, fn.2.2.1, fn.2.2.2⟩
    · refine .inr ⟨_, 2, sr (thr m 2) (m 42 0), .inr rfl, by decide, hq_wearIn_iaE (Px_wearIn_1 hP hB hT hh0 hh1 ha0 ha1 (by omega) (by omega)), ?_, (fin_x h 2).1, (fin_x h 2).2⟩
      exact Ct.at (Qx_wearIn_1 (m := m) hF ha0 ha1 (by omega) (by omega)) (sr_self m)
  · refine .inr ⟨_, 1, sr (thr m 1) (m 42 0), .inr rfl, by decide, hq_wearIn_ioE (Px_wearIn_0 hP hB hT hh0 hh1 ha0 ha1 (by omega)), ?_, (fin_x h 1).1, (fin_x h 1).2⟩
    exact Ct.at (Qx_wearIn_0 (m := m) hF ha0 ha1 (by omega)) (sr_self m)
theorem pr_endIn {G : GG} {m : Mem} {K : Nat} (h : IV m K) (hK : K ≤ 600) {a0 : Int} (ha0 : inI a0) : PO G ML_endIn ML_endIn_h MX8_endIn [.int (iI a0)] m K := by
  have hP := h.1.1
  have hB := h.1.2.1
  have hR := h.1.2.2.1
  have hS := h.1.2.2.2.1
  have h8 := h.1.2.2.2.2.1
  have hT := h.1.2.2.2.2.2.2.1
  have hh0 := h.2.1.1
  have hh1 := h.2.1.2.1
  have hm6 := h.2.1.2.2
  have hF := h.nf
  have E2 : m 42 0 2 = m 0 0 0 := hS.1.1
  have E3 : m 42 0 3 = m 22 0 2 := hR.1.2.2.1
  have E7 : m 42 0 7 = m 1 0 0 := hS.1.2.2.2.2.2.1
  have E8 : m 42 0 8 = m 22 0 6 := hR.1.2.2.2.2.2.2
  have E9 : m 42 0 9 = m 2 0 0 := hS.1.2.2.2.2.2.2
  have n8 := hP.2.2.1
  have n12 := hP.2.2.2.2.2.1
  have nc := hP.2.2.2.2.2.2.1
  have nt := hB.2.2.2.1.1
  have nl := hB.2.2.2.2.1.1
  have t0 := hB.1
  by_cases h0 : 0 ≤ a0 ∧ a0 < m 2 0 0
  · have ve := V_end h.1 h0.1 h0.2
    have fn := fin_z (cm := (teM (cpS m 0 1) 0 1 a0 (500 : Int).toNat)) h (Kp_cpS.t Kp_teM) (nrI (if teM (cpS m 0 1) 0 1 a0 (500 : Int).toNat 20 1 a0 ≤ 2 then -1 else teN (cpS m 0 1) 0 1 a0 (500 : Int).toNat)) (enR (m 42 0) a0 500 (318 + 7 * a0 + 5))
    refine .inl ⟨_, (nrI (if teM (cpS m 0 1) 0 1 a0 (500 : Int).toNat 20 1 a0 ≤ 2 then -1 else teN (cpS m 0 1) 0 1 a0 (500 : Int).toNat)), (up3 (teM (cpS m 0 1) 0 1 a0 (500 : Int).toNat) 49 0 0 (nrI (if teM (cpS m 0 1) 0 1 a0 (500 : Int).toNat 20 1 a0 ≤ 2 then -1 else teN (cpS m 0 1) 0 1 a0 (500 : Int).toNat))), _, .inr rfl, inI_nr _, hq_endIn (inI_nr _) (Ct.vi (P_endIn hP hB hT hh0 hh1 ha0 (by omega)) (iI_nr _).symm), Ct.vi (Ct.at (Q_endIn (m := (up3 (teM (cpS m 0 1) 0 1 a0 (500 : Int).toNat) 49 0 0 (nrI (if teM (cpS m 0 1) 0 1 a0 (500 : Int).toNat 20 1 a0 ≤ 2 then -1 else teN (cpS m 0 1) 0 1 a0 (500 : Int).toNat)))) hF ha0 (by omega) hP hB hR hS hT (by omega)) fn.1) (by rw [iI_nr]; exact congrArg iI (Eq.symm ((by rw [ve.1, ve.2])))), fn.2.1, fn.2.2.1, fn.2.2.2⟩
  · refine .inr ⟨_, 1, sr (thr m 1) (m 42 0), .inr rfl, by decide, hq_endIn_ioE (Px_endIn_0 hP hB hT hh0 hh1 ha0 (by omega)), ?_, (fin_x h 1).1, (fin_x h 1).2⟩
    exact Ct.at (Qx_endIn_0 (m := m) hF ha0 (by omega)) (sr_self m)
theorem pr_endAs {G : GG} {m : Mem} {K : Nat} (h : IV m K) (hK : K ≤ 600) {a0 : Int} (ha0 : inI a0) : PO G ML_endAs ML_endAs_h MX8_endAs [.int (iI a0)] m K := by
  have hP := h.1.1
  have hB := h.1.2.1
  have hR := h.1.2.2.1
  have hS := h.1.2.2.2.1
  have h8 := h.1.2.2.2.2.1
  have hT := h.1.2.2.2.2.2.2.1
  have hh0 := h.2.1.1
  have hh1 := h.2.1.2.1
  have hm6 := h.2.1.2.2
  have hF := h.nf
  have E2 : m 42 0 2 = m 0 0 0 := hS.1.1
  have E3 : m 42 0 3 = m 22 0 2 := hR.1.2.2.1
  have E7 : m 42 0 7 = m 1 0 0 := hS.1.2.2.2.2.2.1
  have E8 : m 42 0 8 = m 22 0 6 := hR.1.2.2.2.2.2.2
  have E9 : m 42 0 9 = m 2 0 0 := hS.1.2.2.2.2.2.2
  have n8 := hP.2.2.1
  have n12 := hP.2.2.2.2.2.1
  have nc := hP.2.2.2.2.2.2.1
  have nt := hB.2.2.2.1.1
  have nl := hB.2.2.2.2.1.1
  have t0 := hB.1
  by_cases h0 : 0 ≤ a0 ∧ a0 < m 2 0 0
  · have ve := V_end h.1 h0.1 h0.2
    have fn := fin_z (cm := (teM (cpS m 0 1) 0 1 a0 (500 : Int).toNat)) h (Kp_cpS.t Kp_teM) (nrI (teM (cpS m 0 1) 0 1 a0 (500 : Int).toNat 20 1 a0)) (enR (m 42 0) a0 500 (318 + 7 * a0 + 5))
    refine .inl ⟨_, (nrI (teM (cpS m 0 1) 0 1 a0 (500 : Int).toNat 20 1 a0)), (up3 (teM (cpS m 0 1) 0 1 a0 (500 : Int).toNat) 49 0 0 (nrI (teM (cpS m 0 1) 0 1 a0 (500 : Int).toNat 20 1 a0))), _, .inr rfl, inI_nr _, hq_endAs (inI_nr _) (Ct.vi (P_endAs hP hB hT hh0 hh1 ha0 (by omega)) (iI_nr _).symm), Ct.vi (Ct.at (Q_endAs (m := (up3 (teM (cpS m 0 1) 0 1 a0 (500 : Int).toNat) 49 0 0 (nrI (teM (cpS m 0 1) 0 1 a0 (500 : Int).toNat 20 1 a0)))) hF ha0 (by omega) hP hB hR hS hT (by omega)) fn.1) (by rw [iI_nr]; exact congrArg iI (Eq.symm (ve.1))), fn.2.1, fn.2.2.1, fn.2.2.2⟩
  · refine .inr ⟨_, 1, sr (thr m 1) (m 42 0), .inr rfl, by decide, hq_endAs_ioE (Px_endAs_0 hP hB hT hh0 hh1 ha0 (by omega)), ?_, (fin_x h 1).1, (fin_x h 1).2⟩
    exact Ct.at (Qx_endAs_0 (m := m) hF ha0 (by omega)) (sr_self m)
theorem pr_owes {G : GG} {m : Mem} {K : Nat} (h : IV m K) (hK : K ≤ 600) {a0 : Int} (ha0 : inI a0) : PO G ML_owes ML_owes_h MX8_owes [.int (iI a0)] m K := by
  have hP := h.1.1
  have hB := h.1.2.1
  have hR := h.1.2.2.1
  have hS := h.1.2.2.2.1
  have h8 := h.1.2.2.2.2.1
  have hT := h.1.2.2.2.2.2.2.1
  have hh0 := h.2.1.1
  have hh1 := h.2.1.2.1
  have hm6 := h.2.1.2.2
  have hF := h.nf
  have E2 : m 42 0 2 = m 0 0 0 := hS.1.1
  have E3 : m 42 0 3 = m 22 0 2 := hR.1.2.2.1
  have E7 : m 42 0 7 = m 1 0 0 := hS.1.2.2.2.2.2.1
  have E8 : m 42 0 8 = m 22 0 6 := hR.1.2.2.2.2.2.2
  have E9 : m 42 0 9 = m 2 0 0 := hS.1.2.2.2.2.2.2
  have n8 := hP.2.2.1
  have n12 := hP.2.2.2.2.2.1
  have nc := hP.2.2.2.2.2.2.1
  have nt := hB.2.2.2.1.1
  have nl := hB.2.2.2.2.1.1
  have t0 := hB.1
  by_cases h0 : 0 ≤ a0 ∧ a0 < m 22 0 2
  · have fn := fin_r (cm := (m)) h (Kp.r m) (nrI (sm (owedWC m 0 0 29 a0) (m 2 0 0).toNat))
    refine .inl ⟨_, (nrI (sm (owedWC m 0 0 29 a0) (m 2 0 0).toNat)), (up3 (m) 49 0 0 (nrI (sm (owedWC m 0 0 29 a0) (m 2 0 0).toNat))), _, .inl rfl, inI_nr _, hq_owes (inI_nr _) (Ct.vi (P_owes hP hB hT hh0 hh1 ha0 (by omega) ((con_in hP hB hR hS).1)) (iI_nr _).symm), Ct.vi (Ct.at (Q_owes (m := (up3 (m) 49 0 0 (nrI (sm (owedWC m 0 0 29 a0) (m 2 0 0).toNat)))) hF ha0 (by omega) ((con_in hP hB hR hS).2.2.1)) fn.1) (by rw [iI_nr]; exact congrArg iI (Eq.symm ((V_owed hP hB hR hS).1))), fn.2.1, fn.2.2.1, fn.2.2.2⟩
  · refine .inr ⟨_, 1, sr (thr m 1) (m 42 0), .inl rfl, by decide, hq_owes_ioE (Px_owes_0 hP hB hT hh0 hh1 ha0 (by omega)), ?_, (fin_x h 1).1, (fin_x h 1).2⟩
    exact Ct.at (Qx_owes_0 (m := m) hF ha0 (by omega)) (sr_self m)
theorem pr_isOwed {G : GG} {m : Mem} {K : Nat} (h : IV m K) (hK : K ≤ 600) {a0 : Int} (ha0 : inI a0) : PO G ML_isOwed ML_isOwed_h MX8_isOwed [.int (iI a0)] m K := by
  have hP := h.1.1
  have hB := h.1.2.1
  have hR := h.1.2.2.1
  have hS := h.1.2.2.2.1
  have h8 := h.1.2.2.2.2.1
  have hT := h.1.2.2.2.2.2.2.1
  have hh0 := h.2.1.1
  have hh1 := h.2.1.2.1
  have hm6 := h.2.1.2.2
  have hF := h.nf
  have E2 : m 42 0 2 = m 0 0 0 := hS.1.1
  have E3 : m 42 0 3 = m 22 0 2 := hR.1.2.2.1
  have E7 : m 42 0 7 = m 1 0 0 := hS.1.2.2.2.2.2.1
  have E8 : m 42 0 8 = m 22 0 6 := hR.1.2.2.2.2.2.2
  have E9 : m 42 0 9 = m 2 0 0 := hS.1.2.2.2.2.2.2
  have n8 := hP.2.2.1
  have n12 := hP.2.2.2.2.2.1
  have nc := hP.2.2.2.2.2.2.1
  have nt := hB.2.2.2.1.1
  have nl := hB.2.2.2.2.1.1
  have t0 := hB.1
  by_cases h0 : 0 ≤ a0 ∧ a0 < m 22 0 2
  · have fn := fin_r (cm := (m)) h (Kp.r m) (nrI (sm (owedWC m 0 0 28 a0) (m 2 0 0).toNat))
    refine .inl ⟨_, (nrI (sm (owedWC m 0 0 28 a0) (m 2 0 0).toNat)), (up3 (m) 49 0 0 (nrI (sm (owedWC m 0 0 28 a0) (m 2 0 0).toNat))), _, .inl rfl, inI_nr _, hq_isOwed (inI_nr _) (Ct.vi (P_isOwed hP hB hT hh0 hh1 ha0 (by omega) ((con_in hP hB hR hS).2.1)) (iI_nr _).symm), Ct.vi (Ct.at (Q_isOwed (m := (up3 (m) 49 0 0 (nrI (sm (owedWC m 0 0 28 a0) (m 2 0 0).toNat)))) hF ha0 (by omega) ((con_in hP hB hR hS).2.2.2)) fn.1) (by rw [iI_nr]; exact congrArg iI (Eq.symm ((V_owed hP hB hR hS).2))), fn.2.1, fn.2.2.1, fn.2.2.2⟩
  · refine .inr ⟨_, 1, sr (thr m 1) (m 42 0), .inl rfl, by decide, hq_isOwed_ioE (Px_isOwed_0 hP hB hT hh0 hh1 ha0 (by omega)), ?_, (fin_x h 1).1, (fin_x h 1).2⟩
    exact Ct.at (Qx_isOwed_0 (m := m) hF ha0 (by omega)) (sr_self m)
theorem pr_missIn {G : GG} {m : Mem} {K : Nat} (h : IV m K) (hK : K ≤ 600) {a0 : Int} (ha0 : inI a0) : PO G ML_missIn ML_missIn_h MX8_missIn [.int (iI a0)] m K := by
  have hP := h.1.1
  have hB := h.1.2.1
  have hR := h.1.2.2.1
  have hS := h.1.2.2.2.1
  have h8 := h.1.2.2.2.2.1
  have hT := h.1.2.2.2.2.2.2.1
  have hh0 := h.2.1.1
  have hh1 := h.2.1.2.1
  have hm6 := h.2.1.2.2
  have hF := h.nf
  have E2 : m 42 0 2 = m 0 0 0 := hS.1.1
  have E3 : m 42 0 3 = m 22 0 2 := hR.1.2.2.1
  have E7 : m 42 0 7 = m 1 0 0 := hS.1.2.2.2.2.2.1
  have E8 : m 42 0 8 = m 22 0 6 := hR.1.2.2.2.2.2.2
  have E9 : m 42 0 9 = m 2 0 0 := hS.1.2.2.2.2.2.2
  have n8 := hP.2.2.1
  have n12 := hP.2.2.2.2.2.1
  have nc := hP.2.2.2.2.2.2.1
  have nt := hB.2.2.2.1.1
  have nl := hB.2.2.2.2.1.1
  have t0 := hB.1
  by_cases h0 : 0 ≤ a0 ∧ a0 < m 22 0 2
  · have mb := num_b (m := m) (s := 0) (q := a0) (t := 2) (n := m 1 0 0) nt
    have em := (hS.2.2.1 a0 h0.1 h0.2).2
    have fn := fin_s (cm := (miM (cpS m 0 1) a0 (sm (numC m 0 a0 2) (m 1 0 0).toNat) 500)) h (Kp_cpS.t (Kp_miM _ _)) (nrI (miN (cpS m 0 1) a0 (sm (numC m 0 a0 2) (m 1 0 0).toNat) 1 500))
    refine .inl ⟨_, (nrI (miN (cpS m 0 1) a0 (sm (numC m 0 a0 2) (m 1 0 0).toNat) 1 500)), (up3 (miM (cpS m 0 1) a0 (sm (numC m 0 a0 2) (m 1 0 0).toNat) 500) 49 0 0 (nrI (miN (cpS m 0 1) a0 (sm (numC m 0 a0 2) (m 1 0 0).toNat) 1 500))), _, .inl rfl, inI_nr _, hq_missIn (inI_nr _) (Ct.vi (P_missIn hP hB hT hh0 hh1 ha0 (by omega)) (iI_nr _).symm), Ct.vi (Ct.at (Q_missIn (m := (up3 (miM (cpS m 0 1) a0 (sm (numC m 0 a0 2) (m 1 0 0).toNat) 500) 49 0 0 (nrI (miN (cpS m 0 1) a0 (sm (numC m 0 a0 2) (m 1 0 0).toNat) 1 500)))) hF ha0 (by omega) hP hB hR hS hT (by omega) (by rw [em]; unfold inI; omega)) fn.1) (by rw [iI_nr]; exact congrArg iI (Eq.symm (V_missIn h.1 h0.1 h0.2))), fn.2.1, fn.2.2.1, fn.2.2.2⟩
  · refine .inr ⟨_, 1, sr (thr m 1) (m 42 0), .inl rfl, by decide, hq_missIn_ioE (Px_missIn_0 hP hB hT hh0 hh1 ha0 (by omega)), ?_, (fin_x h 1).1, (fin_x h 1).2⟩
    exact Ct.at (Qx_missIn_0 (m := m) hF ha0 (by omega)) (sr_self m)
