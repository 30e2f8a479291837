theorem BS_up0 {m : Mem} {p s : Nat} {j z : Int} (hj : j ≠ 0) (h : BS m p s) : BS (up3 m 0 s j z) p s := ⟨by rw [up3_off (Ne.symm hj)]; exact h.1, h.2⟩
theorem BS_time {m : Mem} {p s : Nat} {z : Int} (hz : 0 ≤ z ∧ z ≤ 11000) (h : BS m p s) : BS (up3 m 0 s 0 z) p s := ⟨by rw [up3_at]; exact hz, h.2⟩
theorem BS_up8 {m : Mem} {p s : Nat} {j z : Int} (hz : 0 ≤ z ∧ z ≤ 10000) (h : BS m p s) : BS (up3 m 8 s j z) p s := ⟨h.1, h.2.1, fun c a b => ⟨(h.2.2.1 c a b).1, (h.2.2.1 c a b).2.1, by
  by_cases q : c = j
  · subst q; rw [up3_at]; exact hz
  · rw [up3_off q]; exact (h.2.2.1 c a b).2.2⟩, h.2.2.2⟩
theorem BS_up14 {m : Mem} {p s : Nat} {j z : Int} (hz : 0 ≤ z ∧ z ≤ 2) (h : BS m p s) : BS (up3 m 14 s j z) p s := ⟨h.1, h.2.1, h.2.2.1, ⟨h.2.2.2.1.1, fun c a b => ⟨(h.2.2.2.1.2 c a b).1, (h.2.2.2.1.2 c a b).2.1, (h.2.2.2.1.2 c a b).2.2.1, by
  by_cases q : c = j
  · subst q; rw [up3_at]; exact hz
  · rw [up3_off q]; exact (h.2.2.2.1.2 c a b).2.2.2⟩⟩, h.2.2.2.2⟩
theorem BS_up10 {m : Mem} {p s : Nat} {j z : Int} (hz : 0 ≤ z ∧ z ≤ 1) (h : BS m p s) : BS (up3 m 10 s j z) p s := ⟨h.1, h.2.1, h.2.2.1, h.2.2.2.1, h.2.2.2.2.1, fun c a b => by
  by_cases q : c = j
  · subst q; rw [up3_at]; exact hz
  · rw [up3_off q]; exact h.2.2.2.2.2 c a b⟩
/-- a loan's numbers changed: its bounds anew -/
theorem BS_loan {m m1 : Mem} {p s : Nat} {l : Int} (h : BS m p s) (e : ∀ k, k < 15 ∨ 22 ≤ k → m1 k = m k) (hl : Bl m1 p s l) (ho : ∀ j, j ≠ l → ∀ k, m1 k s j = m k s j) : BS m1 p s := by
  have ee : ∀ k, k < 15 ∨ 22 ≤ k → m1 k = m k := e
  unfold BS at h ⊢
  rw [ee 0 (by decide), ee 22 (by decide), ee 1 (by decide), ee 2 (by decide), ee 10 (by decide)]
  refine ⟨h.1, fun q a b => ?_, fun c a b => ?_, ⟨h.2.2.2.1.1, fun t a b => ?_⟩, ⟨h.2.2.2.2.1.1, fun j a b => ?_⟩, h.2.2.2.2.2⟩
  · have := h.2.1 q a b
    unfold Bq roomC at this ⊢
    rw [ee 3 (by decide), ee 4 (by decide), ee 5 (by decide), ee 22 (by decide), ee 23 (by decide)]
    exact this
  · have := h.2.2.1 c a b
    unfold Bc at this ⊢
    rw [ee 6 (by decide), ee 7 (by decide), ee 8 (by decide)]
    exact this
  · have := h.2.2.2.1.2 t a b
    unfold Bt at this ⊢
    rw [ee 11 (by decide), ee 12 (by decide), ee 13 (by decide), ee 14 (by decide), ee 22 (by decide)]
    exact this
  · by_cases q : j = l
    · rw [q]; exact hl
    · have := h.2.2.2.2.1.2 j a b
      unfold Bl intC at this ⊢
      rw [ho j q 15, ho j q 16, ho j q 17, ho j q 18, ho j q 19, ho j q 20, ho j q 21, ee 22 (by decide)]
      exact this
theorem intC_mono {m : Mem} {p : Nat} {x y : Int} (hf : 1 ≤ m 22 p 1) (h : x ≤ y) : intC m p x ≤ intC m p y := by
  unfold intC
  exact Int.ediv_le_ediv (by omega) (by omega)
/-- the suns -/
def shStep (m : Mem) (p s : Nat) (hr q : Int) : Mem := if 0 < m 26 p (q * 24 + hr) then getC (up3 m 0 s 1 (m 0 s 1 + m 26 p (q * 24 + hr))) p s q (m 26 p (q * 24 + hr)) else m
def shL (m : Mem) (p s : Nat) (hr q : Int) : Nat → Mem
  | 0 => m
  | n + 1 => shL (shStep m p s hr q) p s hr (q + 1) n
theorem shStep_k {m : Mem} {p s k : Nat} {hr q : Int} (h3 : k ≠ 3) (h0 : k ≠ 0) : shStep m p s hr q k = m k := by
  unfold shStep
  split
  · rw [getC_k h3 h0]
    funext i j
    simp only [up3_apply, h0, false_and, if_false]
  · rfl
theorem BS_sh {m : Mem} {p s : Nat} {hr q : Int} (hP : BP m p) (hS : BS m p s) (h0 : 0 ≤ q) (h1 : q < m 22 p 2) : BP (shStep m p s hr q) p ∧ BS (shStep m p s hr q) p s := by
  unfold shStep
  split
  · exact BS_get (m := up3 m 0 s 1 (m 0 s 1 + m 26 p (q * 24 + hr))) hP (BS_up0 (by decide) hS) h0 h1 (by omega)
  · exact ⟨hP, hS⟩
theorem shL_k {p s k : Nat} {hr : Int} (h3 : k ≠ 3) (h0 : k ≠ 0) : ∀ (n : Nat) (m : Mem) (q : Int), shL m p s hr q n k = m k := by
  intro n
  induction n with
  | zero => intro m q; rfl
  | succ n ih => intro m q; show shL (shStep m p s hr q) p s hr (q + 1) n k = _; rw [ih, shStep_k h3 h0]
theorem BS_shL {p s : Nat} {hr : Int} : ∀ (n : Nat) (m : Mem) (q : Int), BP m p → BS m p s → 0 ≤ q → q + n = m 22 p 2 → BP (shL m p s hr q n) p ∧ BS (shL m p s hr q n) p s := by
  intro n
  induction n with
  | zero => intro m q hP hS h0 h1; exact ⟨hP, hS⟩
  | succ n ih =>
    intro m q hP hS h0 h1
    have b := BS_sh (hr := hr) hP hS h0 (by omega)
    exact ih _ (q + 1) b.1 b.2 (by omega) (by rw [shStep_k (by decide) (by decide)]; omega)
/-- trips -/
def trStep (m : Mem) (p s : Nat) (t : Int) : Mem := if m 12 s t = m 0 s 0 ∧ m 14 s t = 0 then (if m 13 s t ≤ m 3 s (m 11 s t) then giveC (up3 (up3 m 14 s t 1) 0 s 2 (m 0 s 2 + m 13 s t)) p s (m 11 s t) (m 13 s t) else up3 m 14 s t 2) else m
def trL (m : Mem) (p s : Nat) (t : Int) : Nat → Mem
  | 0 => m
  | n + 1 => trL (trStep m p s t) p s (t + 1) n
theorem trStep_k {m : Mem} {p s k : Nat} {t : Int} (h3 : k ≠ 3) (h0 : k ≠ 0) (h4 : k ≠ 4) (h14 : k ≠ 14) : trStep m p s t k = m k := by
  unfold trStep
  split
  · split
    · rw [giveC_k h3 h0 h4]
      funext i j
      simp only [up3_apply, h0, h14, false_and, if_false]
    · funext i j
      simp only [up3_apply, h14, false_and, if_false]
  · rfl
theorem BS_tr {m : Mem} {p s : Nat} {t : Int} (hP : BP m p) (hS : BS m p s) (h0 : 0 ≤ t) (h1 : t < m 1 s 0) : BP (trStep m p s t) p ∧ BS (trStep m p s t) p s := by
  have hb := hS.2.2.2.1.2 t h0 h1
  unfold trStep
  split
  · split
    · exact BS_give (m := up3 (up3 m 14 s t 1) 0 s 2 (m 0 s 2 + m 13 s t)) hP (BS_up0 (by decide) (BS_up14 (by decide) hS)) hb.1.1 hb.1.2 ⟨by have := hb.2.2.1; omega, by assumption⟩
    · exact ⟨hP, BS_up14 (by decide) hS⟩
  · exact ⟨hP, hS⟩
theorem trL_k {p s k : Nat} (h3 : k ≠ 3) (h0 : k ≠ 0) (h4 : k ≠ 4) (h14 : k ≠ 14) : ∀ (n : Nat) (m : Mem) (t : Int), trL m p s t n k = m k := by
  intro n
  induction n with
  | zero => intro m t; rfl
  | succ n ih => intro m t; show trL (trStep m p s t) p s (t + 1) n k = _; rw [ih, trStep_k h3 h0 h4 h14]
theorem BS_trL {p s : Nat} : ∀ (n : Nat) (m : Mem) (t : Int), BP m p → BS m p s → 0 ≤ t → t + n ≤ m 1 s 0 → BP (trL m p s t n) p ∧ BS (trL m p s t n) p s := by
  intro n
  induction n with
  | zero => intro m t hP hS h0 h1; exact ⟨hP, hS⟩
  | succ n ih =>
    intro m t hP hS h0 h1
    have b := BS_tr hP hS h0 (by omega)
    exact ih _ (t + 1) b.1 b.2 (by omega) (by rw [trStep_k (by decide) (by decide) (by decide) (by decide)]; omega)
theorem SN_k {m m1 : Mem} {p s : Nat} (h : SN m p s) (e8 : m1 8 = m 8) (e7 : m1 7 = m 7) (e22 : m1 22 = m 22) : SN m1 p s := by unfold SN; rw [e8, e7, e22]; exact h
/-- a loan is sent on: its amount, and the memories between -/
def cbC (m : Mem) (p s : Nat) (l : Int) : Int := m 27 p (m 28 p (m 15 s l) * 8 + m 29 p (m 15 s l))
def soA (m : Mem) (p s : Nat) (l : Int) : Int := min (m 16 s l - m 17 s l) (min (max 0 (m 3 s (m 28 p (m 15 s l)) - m 5 s (m 28 p (m 15 s l)))) (m 7 s (cbC m p s l) - m 8 s (cbC m p s l)))
def so1 (m : Mem) (p s : Nat) (l : Int) : Mem := giveC m p s (m 28 p (m 15 s l)) (soA m p s l)
def so2 (m : Mem) (p s : Nat) (l : Int) : Mem := up3 (so1 m p s l) 18 s l (min 100000000 (so1 m p s l 18 s l + wearC m p s (m 28 p (m 15 s l)) (soA m p s l)))
def so3 (m : Mem) (p s : Nat) (l : Int) : Mem := carryC (so2 m p s l) s (cbC m p s l) (soA m p s l)
def so4 (m : Mem) (p s : Nat) (l : Int) : Mem := getC (so3 m p s l) p s (m 29 p (m 15 s l)) (soA m p s l - soA m p s l * so2 m p s l 6 s (cbC m p s l) / 1000)
def so5 (m : Mem) (p s : Nat) (l : Int) : Mem := up3 (so4 m p s l) 17 s l (so4 m p s l 17 s l + soA m p s l)
def soC (m : Mem) (p s : Nat) (l : Int) : Mem := if so5 m p s l 16 s l ≤ so5 m p s l 17 s l then up3 (so5 m p s l) 20 s l 1 else so5 m p s l
/-- a loan is given back -/
def sbA (m : Mem) (p s : Nat) (l : Int) : Int := min ((owedC m p s l * 1000 + (1000 - m 6 s (cbC m p s l)) - 1) / (1000 - m 6 s (cbC m p s l))) (min (m 3 s (m 29 p (m 15 s l))) (m 7 s (cbC m p s l) - m 8 s (cbC m p s l)))
def sb1 (m : Mem) (p s : Nat) (l : Int) : Mem := giveC m p s (m 29 p (m 15 s l)) (sbA m p s l)
def sbR (m : Mem) (p s : Nat) (l : Int) : Int := sbA m p s l - sbA m p s l * sb1 m p s l 6 s (cbC m p s l) / 1000
def sb2 (m : Mem) (p s : Nat) (l : Int) : Mem := carryC (sb1 m p s l) s (cbC m p s l) (sbA m p s l)
def sb3 (m : Mem) (p s : Nat) (l : Int) : Mem := getC (sb2 m p s l) p s (m 28 p (m 15 s l)) (sbR m p s l)
def sb4 (m : Mem) (p s : Nat) (l : Int) : Mem := up3 (sb3 m p s l) 19 s l (sb3 m p s l 19 s l + sbR m p s l)
def sbC (m : Mem) (p s : Nat) (l : Int) : Mem := if owedC (sb4 m p s l) p s l = 0 then up3 (sb4 m p s l) 20 s l 3
  else if m 32 p (m 15 s l) ≤ sb4 m p s l 0 s 0 - sb4 m p s l 21 s l then up3 (up3 (sb4 m p s l) 20 s l 4) 10 s (m 15 s l) 1 else sb4 m p s l
def Bk (m : Mem) (p : Nat) (c : Int) : Prop := (0 ≤ m 28 p c ∧ m 28 p c < m 22 p 2) ∧ (0 ≤ m 29 p c ∧ m 29 p c < m 22 p 2) ∧ (1 ≤ m 30 p c ∧ m 30 p c ≤ 100000) ∧ (0 ≤ m 31 p c ∧ m 31 p c ≤ 99) ∧ (0 ≤ m 32 p c ∧ m 32 p c ≤ 99) ∧ m 28 p c ≠ m 29 p c ∧ (0 ≤ m 27 p (m 28 p c * 8 + m 29 p c) ∧ m 27 p (m 28 p c * 8 + m 29 p c) < m 22 p 5)
theorem BP_c {m : Mem} {p : Nat} (hP : BP m p) {c : Int} (h0 : 0 ≤ c) (h1 : c < m 22 p 6) : Bk m p c := hP.2.2.2.2.2.2.2.2.2.2.2 c h0 h1
theorem soA_b {m : Mem} {p s : Nat} {l : Int} (hP : BP m p) (hS : BS m p s) (hN : SN m p s) (h0 : 0 ≤ l) (h1 : l < m 2 s 0) :
    (0 ≤ soA m p s l ∧ soA m p s l ≤ m 3 s (m 28 p (m 15 s l))) ∧ soA m p s l ≤ m 16 s l - m 17 s l ∧ soA m p s l ≤ m 7 s (cbC m p s l) - m 8 s (cbC m p s l) := by
  have hb := hS.2.2.2.2.1.2 l h0 h1
  have hc := BP_c hP hb.1.1 hb.1.2
  have hq := hS.2.1 _ hc.1.1 hc.1.2
  have hcb := hS.2.2.1 (cbC m p s l) hc.2.2.2.2.2.2.1 hc.2.2.2.2.2.2.2
  have hn := hN (cbC m p s l) hc.2.2.2.2.2.2.1 hc.2.2.2.2.2.2.2
  have h2 := hb.2.2.1
  have h3 := hq.1.1
  have h5 := hq.2.2.1
  unfold soA
  omega
theorem carry_k {m : Mem} {s k : Nat} {c x : Int} (h8 : k ≠ 8) (h9 : k ≠ 9) : carryC m s c x k = m k := by
  funext i j
  simp only [carryC, up3_apply, h8, h9, false_and, if_false]
theorem carry_8 (m : Mem) (s : Nat) (c x j : Int) : carryC m s c x 8 s j = if j = c then m 8 s c + x else m 8 s j := by
  unfold carryC
  show up3 m 8 s c (m 8 s c + x) 8 s j = _
  by_cases h : j = c
  · rw [if_pos h, h, up3_at]
  · rw [if_neg h, up3_off h]
theorem so1_k {m : Mem} {p s k : Nat} {l : Int} (h3 : k ≠ 3) (h0 : k ≠ 0) (h4 : k ≠ 4) : so1 m p s l k = m k := giveC_k h3 h0 h4
theorem so2_k {m : Mem} {p s k : Nat} {l : Int} (h3 : k ≠ 3) (h0 : k ≠ 0) (h4 : k ≠ 4) (h18 : k ≠ 18) : so2 m p s l k = m k := by
  unfold so2
  rw [← so1_k (m := m) (p := p) (s := s) (l := l) h3 h0 h4]
  funext i j
  simp only [up3_apply, h18, false_and, if_false]
theorem so3_k {m : Mem} {p s k : Nat} {l : Int} (h3 : k ≠ 3) (h0 : k ≠ 0) (h4 : k ≠ 4) (h18 : k ≠ 18) (h8 : k ≠ 8) (h9 : k ≠ 9) : so3 m p s l k = m k := by
  unfold so3
  rw [carry_k h8 h9, so2_k h3 h0 h4 h18]
theorem so4_k {m : Mem} {p s k : Nat} {l : Int} (h3 : k ≠ 3) (h0 : k ≠ 0) (h4 : k ≠ 4) (h18 : k ≠ 18) (h8 : k ≠ 8) (h9 : k ≠ 9) : so4 m p s l k = m k := by
  unfold so4
  rw [getC_k h3 h0, so3_k h3 h0 h4 h18 h8 h9]
theorem so5_k {m : Mem} {p s k : Nat} {l : Int} (h3 : k ≠ 3) (h0 : k ≠ 0) (h4 : k ≠ 4) (h18 : k ≠ 18) (h8 : k ≠ 8) (h9 : k ≠ 9) (h17 : k ≠ 17) : so5 m p s l k = m k := by
  unfold so5
  rw [← so4_k (m := m) (p := p) (s := s) (l := l) h3 h0 h4 h18 h8 h9]
  funext i j
  simp only [up3_apply, h17, false_and, if_false]
theorem soC_k {m : Mem} {p s k : Nat} {l : Int} (h3 : k ≠ 3) (h0 : k ≠ 0) (h4 : k ≠ 4) (h18 : k ≠ 18) (h8 : k ≠ 8) (h9 : k ≠ 9) (h17 : k ≠ 17) (h20 : k ≠ 20) : soC m p s l k = m k := by
  unfold soC
  rw [← so5_k (m := m) (p := p) (s := s) (l := l) h3 h0 h4 h18 h8 h9 h17]
  split
  · funext i j
    simp only [up3_apply, h20, false_and, if_false]
  · rfl
theorem so_facts {m : Mem} {p s : Nat} {l : Int} (hP : BP m p) (hS : BS m p s) (hN : SN m p s) (h0 : 0 ≤ l) (h1 : l < m 2 s 0) :
    (BP (so1 m p s l) p ∧ BS (so1 m p s l) p s) ∧ (BP (so3 m p s l) p ∧ BS (so3 m p s l) p s) ∧ (BP (so4 m p s l) p ∧ BS (so4 m p s l) p s) ∧ (BP (soC m p s l) p ∧ BS (soC m p s l) p s ∧ SN (soC m p s l) p s) := by
  have hb := hS.2.2.2.2.1.2 l h0 h1
  have hc := BP_c hP hb.1.1 hb.1.2
  have ha := soA_b hP hS hN h0 h1
  have hpf := BS_pf hP hS hc.1.1 hc.1.2
  have hqf := BP_qf hP hc.1.1 hc.1.2
  have hcb := hS.2.2.1 (cbC m p s l) hc.2.2.2.2.2.2.1 hc.2.2.2.2.2.2.2
  have hw := wearC_b hpf hqf (x := soA m p s l) ⟨ha.1.1, by have := hpf.2.2.2.2; omega⟩
  have b1 : BP (so1 m p s l) p ∧ BS (so1 m p s l) p s := BS_give hP hS hc.1.1 hc.1.2 ha.1
  have hlf : Bl (so1 m p s l) p s l := b1.2.2.2.2.2.1.2 l h0 (by rw [so1_k (by decide) (by decide) (by decide)]; exact h1)
  have hP2 : BP (so2 m p s l) p := b1.1
  have hP3 : BP (so3 m p s l) p := b1.1
  have hP4 : BP (so4 m p s l) p := hP3.congr (fun k a b => by unfold so4; rw [getC_k (by omega) (by omega)])
  have b2 : BS (so2 m p s l) p s := by
    refine BS_loan (m := so1 m p s l) (l := l) b1.2 (fun k hk => ?_) ?_ (fun j hj k => ?_)
    · unfold so2; funext i j
      rw [up3_apply, if_neg (by omega)]
    · unfold so2
      have hm := intC_mono (m := so1 m p s l) (p := p) b1.1.2.1.1 (show so1 m p s l 18 s l ≤ min 100000000 (so1 m p s l 18 s l + wearC m p s (m 28 p (m 15 s l)) (soA m p s l)) by have := hlf.2.2.2.1; omega)
      refine ⟨hlf.1, hlf.2.1, hlf.2.2.1, ?_, ?_, hlf.2.2.2.2.2.1, hlf.2.2.2.2.2.2⟩
      · rw [up3_at]; have := hlf.2.2.2.1; omega
      · rw [up3_at]
        have h19 := hlf.2.2.2.2.1
        show 0 ≤ so1 m p s l 19 s l ∧ so1 m p s l 19 s l ≤ so1 m p s l 17 s l + intC (so1 m p s l) p _ + 10000
        omega
    · unfold so2
      rw [up3_apply, if_neg (fun z => hj z.2.2)]
  have b3 : BS (so3 m p s l) p s := by
    have e8 : so2 m p s l 8 s (cbC m p s l) = m 8 s (cbC m p s l) := by rw [so2_k (by decide) (by decide) (by decide) (by decide)]
    exact BS_up8 (m := so2 m p s l) (by rw [e8]; have := hcb.2.1; have := hcb.2.2; omega) b2
  have hx : 0 ≤ soA m p s l - soA m p s l * so2 m p s l 6 s (cbC m p s l) / 1000 := by
    rw [so2_k (by decide) (by decide) (by decide) (by decide)]
    have h1 : soA m p s l * m 6 s (cbC m p s l) ≤ soA m p s l * 900 := Int.mul_le_mul_of_nonneg_left hcb.1.2 ha.1.1
    omega
  have b4 : BP (so4 m p s l) p ∧ BS (so4 m p s l) p s := BS_get hP3 b3 (by exact hc.2.1.1) (by rw [so3_k (by decide) (by decide) (by decide) (by decide) (by decide) (by decide)]; exact hc.2.1.2) hx
  have hl4 : Bl (so4 m p s l) p s l := b4.2.2.2.2.2.1.2 l h0 (by rw [so4_k (by decide) (by decide) (by decide) (by decide) (by decide) (by decide)]; exact h1)
  have e16 : so4 m p s l 16 s l = m 16 s l := by rw [so4_k (by decide) (by decide) (by decide) (by decide) (by decide) (by decide)]
  have e17 : so4 m p s l 17 s l = m 17 s l := by rw [so4_k (by decide) (by decide) (by decide) (by decide) (by decide) (by decide)]
  have hl5 : Bl (so5 m p s l) p s l := by
    unfold so5
    refine ⟨hl4.1, hl4.2.1, ?_, hl4.2.2.2.1, ?_, hl4.2.2.2.2.2.1, hl4.2.2.2.2.2.2⟩
    · rw [up3_at]
      show 0 ≤ so4 m p s l 17 s l + soA m p s l ∧ so4 m p s l 17 s l + soA m p s l ≤ so4 m p s l 16 s l
      have := hb.2.2.1
      omega
    · rw [up3_at]
      have h19 := hl4.2.2.2.2.1
      show 0 ≤ so4 m p s l 19 s l ∧ so4 m p s l 19 s l ≤ so4 m p s l 17 s l + soA m p s l + intC (so4 m p s l) p (so4 m p s l 18 s l) + 10000
      omega
  have b5 : BS (so5 m p s l) p s := by
    refine BS_loan (m := so4 m p s l) (l := l) b4.2 (fun k hk => ?_) hl5 (fun j hj k => ?_)
    · unfold so5; funext i j
      rw [up3_apply, if_neg (by omega)]
    · unfold so5
      rw [up3_apply, if_neg (fun z => hj z.2.2)]
  have hP5 : BP (so5 m p s l) p := b4.1
  have hPC : BP (soC m p s l) p := hP5.congr (fun k a b => by unfold soC; split; funext j; rw [up3_apply, if_neg (by omega)]; rfl)
  have bC : BS (soC m p s l) p s := by
    unfold soC
    split
    · refine BS_loan (m := so5 m p s l) (l := l) b5 (fun k hk => ?_) ?_ (fun j hj k => ?_)
      · funext i j
        rw [up3_apply, if_neg (by omega)]
      · exact ⟨hl5.1, hl5.2.1, hl5.2.2.1, hl5.2.2.2.1, hl5.2.2.2.2.1, by rw [up3_at]; omega, hl5.2.2.2.2.2.2⟩
      · rw [up3_apply, if_neg (fun z => hj z.2.2)]
    · exact b5
  refine ⟨b1, ⟨hP3, b3⟩, b4, hPC, bC, fun c a b => ?_⟩
  have e7 : soC m p s l 7 = m 7 := soC_k (by decide) (by decide) (by decide) (by decide) (by decide) (by decide) (by decide) (by decide)
  have e22 : soC m p s l 22 = m 22 := soC_k (by decide) (by decide) (by decide) (by decide) (by decide) (by decide) (by decide) (by decide)
  have e8 : soC m p s l 8 s c = if c = cbC m p s l then m 8 s (cbC m p s l) + soA m p s l else m 8 s c := by
    have e1 : soC m p s l 8 = so5 m p s l 8 := by
      unfold soC; split
      · rfl
      · rfl
    rw [e1]
    show so4 m p s l 8 s c = _
    unfold so4
    rw [getC_k (by decide) (by decide)]
    unfold so3
    rw [carry_8, so2_k (by decide) (by decide) (by decide) (by decide)]
  rw [e7, e8]
  rw [e22] at b
  have hn := hN c a b
  split
  · rename_i e; subst e; omega
  · exact hn
