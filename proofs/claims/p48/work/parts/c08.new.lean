/-! a new world -/
def n0 : Int → Int := upN (upN (fun _ => 0) 0 100) 1 100
theorem n0_j (j : Nat) : nj n0 j = 0 := by unfold nj; split <;> rfl
theorem nw_er {h : Hp} {k k' i i' : Nat} (hn : ¬ i' = i) : (nw h k i).2.2.1 k' i' = h.2.2.1 k' i' := if_neg (fun z => hn z.2)
def IW (G : GG) (hb : Hp) (a k : Nat) (b : Nat → Nat) (h : Hp) : Prop := (51, a) ∈ h.1 ∧ Fr (fun i => i = a) hb h ∧ (∀ f : Nat, f < 7 → h.2.1 51 a (f : Int) = n0 (hd f)) ∧ ∀ j, j < k → (56, b j) ∈ h.1 ∧ h.2.2.1 51 a (7 + j) = some (56, b j) ∧ h.2.2.1 56 (b j) 1 = some (ak 7 0, gV G 15) ∧ h.2.1 56 (b j) 2 = 0 ∧ fre hb (b j) ∧ ∀ j', j' < j → b j' ≠ b j
def ub (b : Nat → Nat) (k q : Nat) : Nat → Nat := fun j => if j = k then q else b j
theorem ub_at {b : Nat → Nat} {k q : Nat} : ub b k q k = q := if_pos rfl
theorem ub_ne {b : Nat → Nat} {k q j : Nat} (h : ¬ j = k) : ub b k q j = b j := if_neg h
theorem IW.step {G : GG} {hb h : Hp} {a k q : Nat} {b : Nat → Nat} (I : IW G hb a k b h) (fq : fre h q) : IW G hb a (k + 1) (ub b k q) (rset (rset (hset (nw h 56 q) 56 q 0 0) 56 q 1 (some (ak 7 0, gV G 15))) 51 a (7 + k) (some (56, q))) := by
  obtain ⟨i1, i2, i3, i4⟩ := I
  have hqa : ¬ a = q := fun z => fq 51 (by decide) (by rw [← z]; exact i1)
  have hqb : ∀ j, j < k → ¬ b j = q := fun j hj z => fq 56 (by decide) (by rw [← z]; exact (i4 j hj).1)
  have fb := Fr_fre i2 fq
  refine ⟨nw_old i1, Fr_rset (Fr_rset (Fr_hset (Fr_nw i2 (by decide) fq) (by decide) (.inr fb)) (by decide) (.inr fb)) (by decide) (.inl rfl), fun f hf => ?_, fun j hj => ?_⟩
  · show (hset (nw h 56 q) 56 q 0 0).2.1 51 a (f : Int) = _
    rw [hset_off (fun z => by omega), nw_e hqa]
    exact i3 f hf
  · by_cases c : j = k
    · subst c
      rw [ub_at]
      refine ⟨nw_in, rset_at, ?_, ?_, fb, fun j' hj' => ?_⟩
      · rw [rset_off (by omega)]
        exact rset_at
      · show (hset (nw h 56 q) 56 q 0 0).2.1 56 q 2 = 0
        rw [hset_off (by omega), nw_m]
      · rw [ub_ne (by omega)]
        exact hqb j' hj'
    · rw [ub_ne c]
      have hj' : j < k := by omega
      obtain ⟨j1, j2, j3, j4, j5, j6⟩ := i4 j hj'
      refine ⟨nw_old j1, ?_, ?_, ?_, j5, fun j' hj2 => ?_⟩
      · rw [rset_off (by omega), rset_off (by omega)]
        show (nw h 56 q).2.2.1 51 a (7 + j) = _
        rw [nw_er hqa]
        exact j2
      · rw [rset_off (by omega), rset_off (fun z => hqb j hj' z.2.1)]
        show (nw h 56 q).2.2.1 56 (b j) 1 = _
        rw [nw_er (hqb j hj')]
        exact j3
      · show (hset (nw h 56 q) 56 q 0 0).2.1 56 (b j) 2 = 0
        rw [hset_e (hqb j hj'), nw_e (hqb j hj')]
        exact j4
      · rw [ub_ne (by omega)]
        exact j6 j' hj2
/-- all that is new -/
def snew (h H : Hp) (i : Nat) : Prop := fre h i ∧ ∃ k, 51 ≤ k ∧ (k, i) ∈ H.1
theorem IW.wn {G : GG} {hb h : Hp} {a : Nat} {b : Nat → Nat} {S T : Nat → Prop} (I : IW G hb a 7 b h) (hS : ∀ i, S i → ¬ T i ∧ ∃ k, 51 ≤ k ∧ (k, i) ∈ h.1) (h1 : S a) (h2 : ∀ j, j < 7 → S (b j)) : WN G h a n0 (b, (fun _ => 0), (fun _ => gV G 15), fun _ _ => 0) S T := by
  obtain ⟨i1, i2, i3, i4⟩ := I
  refine ⟨i1, i3, fun j hj => (i4 j hj).2.1, fun j hj => ?_, fun j hj q hq => ?_, ⟨h1, fun j hj => ⟨h2 j hj, fun c => absurd c (Nat.lt_irrefl 0)⟩, fun j _ hj q hq => ?_, fun j hj q hq => ?_, hS⟩, fun j j' hj hj' e => ?_, fun j j' hj hj' c => absurd c (Nat.lt_irrefl 0), fun j _ hj q q' hq => ?_⟩
  · have m0 : 0 ≤ mxj j := by unfold mxj; split <;> decide
    rw [n0_j]
    refine ⟨⟨Int.le_refl _, m0⟩, (i4 j hj).1, (i4 j hj).2.2.1, (i4 j hj).2.2.2.1, Nat.le_refl _, by show 0 ≤ 1000; omega, fun c => absurd c (Nat.lt_irrefl 0), fun _ => rfl, fun q hq => absurd hq (Nat.not_lt_zero _), fun q _ hq => absurd hq (Nat.not_lt_zero _)⟩
  · rw [n0_j] at hq; omega
  · rw [n0_j] at hq; omega
  · rw [n0_j] at hq; omega
  · rcases Nat.lt_trichotomy j j' with c | c | c
    · exact absurd e ((i4 j' hj').2.2.2.2.2 j c)
    · exact c
    · exact absurd e.symm ((i4 j hj).2.2.2.2.2 j' c)
  · rw [n0_j] at hq; omega
theorem cw_init {G : GG} {h : Hp} {a : Nat} (hm : (51, a) ∈ h.1) (hz : ∀ f : Nat, f < 7 → h.2.1 51 a (f : Int) = 0) (hn : ∃ n, h.2.2.2 = some n) : Cy G MX12_init (rmL 3 7 21) [rf G 51 a] h (fun v h1 => v = none ∧ ∃ b, IW G h a 7 b h1) := by
  refine o_entry (by decide +kernel) mwX12_init rfl (Nat.le_of_ble_eq_true rfl) ?_
  show YY G MX12_init (rmL 3 7 21) 0 [(0, rf G 51 a)] [] h 0 0 _
  refine o_aload_n (pc := 0) dX12_init_0 0 rfl ?_
  refine o_obj (pc := 1) dX12_init_1 obX12_1 ob_i ob_c (Nat.le_of_ble_eq_true rfl) ⟨(Nat.le_of_ble_eq_true rfl), (Nat.le_of_ble_eq_true rfl)⟩ ?_
  refine o_aload_n (pc := 4) dX12_init_4 0 rfl ?_
  refine o_bipush (pc := 5) (z := 100) dX12_init_5 (by decide) ?_
  refine o_pI (pc := 7) (j := 0) dX12_init_7 fwX12_7 rfl rfl hm ?_
  refine o_aload_n (pc := 10) dX12_init_10 0 rfl ?_
  refine o_bipush (pc := 11) (z := 100) dX12_init_11 (by decide) ?_
  refine o_pI (pc := 13) (j := 1) dX12_init_13 fwX12_13 rfl rfl hm ?_
  have I0 : IW G h a 0 (fun _ => 0) (hset (hset h 51 a ((0 : Nat) : Int) 100) 51 a ((1 : Nat) : Int) 100) := ⟨hm, Fr_hset (S := fun i => i = a) (k := 51) (i := a) (Fr_hset (S := fun i => i = a) (k := 51) (i := a) (Fr.rf hn) (by decide) (.inl rfl)) (by decide) (.inl rfl), fun f hf => by
    rw [hset_q, hset_q]
    by_cases c1 : (f : Int) = ((1 : Nat) : Int)
    · rw [if_pos c1]
      have : f = 1 := by omega
      subst this
      rfl
    · rw [if_neg c1]
      by_cases c0 : (f : Int) = ((0 : Nat) : Int)
      · rw [if_pos c0]
        have : f = 0 := by omega
        subst this
        rfl
      · rw [if_neg c0, hz f hf]
        match f, hf with
        | 2, _ => rfl
        | 3, _ => rfl
        | 4, _ => rfl
        | 5, _ => rfl
        | 6, _ => rfl
        | 0, _ => exact absurd rfl c0
        | 1, _ => exact absurd rfl c1
        | n + 7, hf => exact absurd hf (by omega), fun j hj => absurd hj (Nat.not_lt_zero _)⟩
  refine o_gen (P := fun H => IW G h a 0 (fun _ => 0) H) I0 (fun H0 J0 => ?_)
  refine o_aload_n (pc := 16) dX12_init_16 0 rfl ?_
  refine o_sizeD (fun q0 hq0 => ?_) J0.2.1.2.2.2.2
  refine o_new (pc := 17) (k := 56) dX12_init_17 ncX12_16 rfl (by decide) hq0 (Nat.le_of_ble_eq_true rfl) (Nat.le_of_ble_eq_true rfl) (fun fq0 => ?_)
  refine o_dup (pc := 20) dX12_init_20 rfl ?_
  refine o_callI (pc := 21) _ dX12_init_21 (cl_init nw_in) lkX12_18 rfl rfl ⟨⟨(Nat.le_of_ble_eq_true rfl), (Nat.le_of_ble_eq_true rfl)⟩, (Nat.le_of_ble_eq_true rfl), (Nat.le_of_ble_eq_true rfl)⟩ (Nat.le_of_ble_eq_true rfl) rfl (fun v h1 hq0x => ?_)
  obtain ⟨rfl, rfl⟩ := hq0x
  refine o_putR (pc := 24) (j := 7) dX12_init_24 fxX12_19 rfl rfl (nw_old J0.1) rfl rfl ?_
  refine o_gen (P := fun H => IW G h a 1 (ub (fun _ => 0) 0 q0) H) (J0.step fq0) (fun H1 J1 => ?_)
  refine o_aload_n (pc := 27) dX12_init_27 0 rfl ?_
  refine o_sizeD (fun q1 hq1 => ?_) J1.2.1.2.2.2.2
  refine o_new (pc := 28) (k := 56) dX12_init_28 ncX12_16 rfl (by decide) hq1 (Nat.le_of_ble_eq_true rfl) (Nat.le_of_ble_eq_true rfl) (fun fq1 => ?_)
  refine o_dup (pc := 31) dX12_init_31 rfl ?_
  refine o_callI (pc := 32) _ dX12_init_32 (cl_init nw_in) lkX12_18 rfl rfl ⟨⟨(Nat.le_of_ble_eq_true rfl), (Nat.le_of_ble_eq_true rfl)⟩, (Nat.le_of_ble_eq_true rfl), (Nat.le_of_ble_eq_true rfl)⟩ (Nat.le_of_ble_eq_true rfl) rfl (fun v h1 hq1x => ?_)
  obtain ⟨rfl, rfl⟩ := hq1x
  refine o_putR (pc := 35) (j := 8) dX12_init_35 fxX12_23 rfl rfl (nw_old J1.1) rfl rfl ?_
  refine o_gen (P := fun H => IW G h a 2 (ub (ub (fun _ => 0) 0 q0) 1 q1) H) (J1.step fq1) (fun H2 J2 => ?_)
  refine o_aload_n (pc := 38) dX12_init_38 0 rfl ?_
  refine o_sizeD (fun q2 hq2 => ?_) J2.2.1.2.2.2.2
  refine o_new (pc := 39) (k := 56) dX12_init_39 ncX12_16 rfl (by decide) hq2 (Nat.le_of_ble_eq_true rfl) (Nat.le_of_ble_eq_true rfl) (fun fq2 => ?_)
  refine o_dup (pc := 42) dX12_init_42 rfl ?_
  refine o_callI (pc := 43) _ dX12_init_43 (cl_init nw_in) lkX12_18 rfl rfl ⟨⟨(Nat.le_of_ble_eq_true rfl), (Nat.le_of_ble_eq_true rfl)⟩, (Nat.le_of_ble_eq_true rfl), (Nat.le_of_ble_eq_true rfl)⟩ (Nat.le_of_ble_eq_true rfl) rfl (fun v h1 hq2x => ?_)
  obtain ⟨rfl, rfl⟩ := hq2x
  refine o_putR (pc := 46) (j := 9) dX12_init_46 fxX12_26 rfl rfl (nw_old J2.1) rfl rfl ?_
  refine o_gen (P := fun H => IW G h a 3 (ub (ub (ub (fun _ => 0) 0 q0) 1 q1) 2 q2) H) (J2.step fq2) (fun H3 J3 => ?_)
  refine o_aload_n (pc := 49) dX12_init_49 0 rfl ?_
  refine o_sizeD (fun q3 hq3 => ?_) J3.2.1.2.2.2.2
  refine o_new (pc := 50) (k := 56) dX12_init_50 ncX12_16 rfl (by decide) hq3 (Nat.le_of_ble_eq_true rfl) (Nat.le_of_ble_eq_true rfl) (fun fq3 => ?_)
  refine o_dup (pc := 53) dX12_init_53 rfl ?_
  refine o_callI (pc := 54) _ dX12_init_54 (cl_init nw_in) lkX12_18 rfl rfl ⟨⟨(Nat.le_of_ble_eq_true rfl), (Nat.le_of_ble_eq_true rfl)⟩, (Nat.le_of_ble_eq_true rfl), (Nat.le_of_ble_eq_true rfl)⟩ (Nat.le_of_ble_eq_true rfl) rfl (fun v h1 hq3x => ?_)
  obtain ⟨rfl, rfl⟩ := hq3x
  refine o_putR (pc := 57) (j := 10) dX12_init_57 fxX12_29 rfl rfl (nw_old J3.1) rfl rfl ?_
  refine o_gen (P := fun H => IW G h a 4 (ub (ub (ub (ub (fun _ => 0) 0 q0) 1 q1) 2 q2) 3 q3) H) (J3.step fq3) (fun H4 J4 => ?_)
  refine o_aload_n (pc := 60) dX12_init_60 0 rfl ?_
  refine o_sizeD (fun q4 hq4 => ?_) J4.2.1.2.2.2.2
  refine o_new (pc := 61) (k := 56) dX12_init_61 ncX12_16 rfl (by decide) hq4 (Nat.le_of_ble_eq_true rfl) (Nat.le_of_ble_eq_true rfl) (fun fq4 => ?_)
  refine o_dup (pc := 64) dX12_init_64 rfl ?_
  refine o_callI (pc := 65) _ dX12_init_65 (cl_init nw_in) lkX12_18 rfl rfl ⟨⟨(Nat.le_of_ble_eq_true rfl), (Nat.le_of_ble_eq_true rfl)⟩, (Nat.le_of_ble_eq_true rfl), (Nat.le_of_ble_eq_true rfl)⟩ (Nat.le_of_ble_eq_true rfl) rfl (fun v h1 hq4x => ?_)
  obtain ⟨rfl, rfl⟩ := hq4x
  refine o_putR (pc := 68) (j := 11) dX12_init_68 fxX12_32 rfl rfl (nw_old J4.1) rfl rfl ?_
  refine o_gen (P := fun H => IW G h a 5 (ub (ub (ub (ub (ub (fun _ => 0) 0 q0) 1 q1) 2 q2) 3 q3) 4 q4) H) (J4.step fq4) (fun H5 J5 => ?_)
  refine o_aload_n (pc := 71) dX12_init_71 0 rfl ?_
  refine o_sizeD (fun q5 hq5 => ?_) J5.2.1.2.2.2.2
  refine o_new (pc := 72) (k := 56) dX12_init_72 ncX12_16 rfl (by decide) hq5 (Nat.le_of_ble_eq_true rfl) (Nat.le_of_ble_eq_true rfl) (fun fq5 => ?_)
  refine o_dup (pc := 75) dX12_init_75 rfl ?_
  refine o_callI (pc := 76) _ dX12_init_76 (cl_init nw_in) lkX12_18 rfl rfl ⟨⟨(Nat.le_of_ble_eq_true rfl), (Nat.le_of_ble_eq_true rfl)⟩, (Nat.le_of_ble_eq_true rfl), (Nat.le_of_ble_eq_true rfl)⟩ (Nat.le_of_ble_eq_true rfl) rfl (fun v h1 hq5x => ?_)
  obtain ⟨rfl, rfl⟩ := hq5x
  refine o_putR (pc := 79) (j := 12) dX12_init_79 fxX12_35 rfl rfl (nw_old J5.1) rfl rfl ?_
  refine o_gen (P := fun H => IW G h a 6 (ub (ub (ub (ub (ub (ub (fun _ => 0) 0 q0) 1 q1) 2 q2) 3 q3) 4 q4) 5 q5) H) (J5.step fq5) (fun H6 J6 => ?_)
  refine o_aload_n (pc := 82) dX12_init_82 0 rfl ?_
  refine o_sizeD (fun q6 hq6 => ?_) J6.2.1.2.2.2.2
  refine o_new (pc := 83) (k := 56) dX12_init_83 ncX12_16 rfl (by decide) hq6 (Nat.le_of_ble_eq_true rfl) (Nat.le_of_ble_eq_true rfl) (fun fq6 => ?_)
  refine o_dup (pc := 86) dX12_init_86 rfl ?_
  refine o_callI (pc := 87) _ dX12_init_87 (cl_init nw_in) lkX12_18 rfl rfl ⟨⟨(Nat.le_of_ble_eq_true rfl), (Nat.le_of_ble_eq_true rfl)⟩, (Nat.le_of_ble_eq_true rfl), (Nat.le_of_ble_eq_true rfl)⟩ (Nat.le_of_ble_eq_true rfl) rfl (fun v h1 hq6x => ?_)
  obtain ⟨rfl, rfl⟩ := hq6x
  refine o_putR (pc := 90) (j := 13) dX12_init_90 fxX12_38 rfl rfl (nw_old J6.1) rfl rfl ?_
  refine o_gen (P := fun H => IW G h a 7 (ub (ub (ub (ub (ub (ub (ub (fun _ => 0) 0 q0) 1 q1) 2 q2) 3 q3) 4 q4) 5 q5) 6 q6) H) (J6.step fq6) (fun H7 J7 => ?_)
  exact o_vret (pc := 93) dX12_init_93 rfl (Nat.le_of_ble_eq_true rfl) (Nat.le_of_ble_eq_true rfl) ⟨rfl, _, J7⟩
