/-! the class's answers and the model's -/
theorem NF_of {m : Mem} {p s : Nat} {N : Int → Int} (hP : BP m p) (hB : BS m p s) (hR : RP m p N) (hS : RS m p s N) : NF N := by
  have e := hR.1
  have f7 : N 7 = m 1 s 0 := hS.1.2.2.2.2.2.1
  have f9 : N 9 = m 2 s 0 := hS.1.2.2.2.2.2.2
  have n8 := hP.2.2.1
  have nc := hP.2.2.2.2.2.2.1
  have nt := hB.2.2.2.1.1
  have nl := hB.2.2.2.2.1.1
  refine ⟨by omega, by omega, by omega, ⟨by omega, fun l a b => LN_of hP hB hR hS a (by omega)⟩, hR.2.2.2.2.2.2, fun q a b => ⟨PN_of hP hB hR hS a (by omega), QN_of hP hB hR hS a (by omega), ?_⟩, fun c a b => ?_, by rw [e.2.1]; exact hP.2.1⟩
  · have t := hS.2.1 q a (by omega)
    have bq := hB.2.1 q a (by omega)
    have pf := (BS_pf hP hB (q := q) a (by omega)).2.2.2.2
    unfold aboveN
    rw [t.1, t.2.2]
    have := bq.2.2
    omega
  · have k := hR.2.2.2.2.2.1 c a (by omega)
    have b2 := BP_c hP a (show c < m 22 p 6 by omega)
    have k6 := hS.2.2.2.2.2.1 c a (by omega)
    have b6 := hB.2.2.2.2.2 c a (by omega)
    rw [k.1, k.2.1, k.2.2.1, k6, e.2.2.1]
    exact ⟨b2.1, b2.2.1, b2.2.2.1, b6⟩
section VV
variable {m : Mem} {p s : Nat} {N : Int → Int}
theorem V_sum9 (hS : RS m p s N) {f g : Int → Int} (h : ∀ l, 0 ≤ l → l < m 2 s 0 → f l = g l) : sm f (m 2 s 0).toNat = sm g (N 9).toNat := by
  rw [hS.1.2.2.2.2.2.2]
  exact sm_congr (fun l a b => h l a (by omega))
theorem V_open (hS : RS m p s N) : sm (openC m s) (m 2 s 0).toNat = sm (openFN N (-1)) (N 9).toNat :=
  V_sum9 hS (fun l a b => by
    have k := hS.2.2.2.2.2.2 l a b
    unfold openC openFN
    rw [k.2.2.2.2.2.1]
    by_cases g : m 20 s l ≤ 2
    · rw [if_pos g, if_pos ⟨g, Or.inl rfl⟩]
    · rw [if_neg g, if_neg (fun z => g z.1)])
theorem V_openBy (hS : RS m p s N) {c : Int} (hc : 0 ≤ c) : sm (openByC m s c) (m 2 s 0).toNat = sm (openFN N c) (N 9).toNat :=
  V_sum9 hS (fun l a b => by
    have k := hS.2.2.2.2.2.2 l a b
    unfold openByC openFN
    rw [k.2.2.2.2.2.1, k.1]
    by_cases g : m 15 s l = c
    · rw [if_pos g]
      by_cases g2 : m 20 s l ≤ 2
      · rw [if_pos g2, if_pos ⟨g2, Or.inr g⟩]
      · rw [if_neg g2, if_neg (fun z => g2 z.1)]
    · rw [if_neg g, if_neg (fun z => by rcases z.2 with y | y; omega; exact g y)])
theorem V_by (hS : RS m p s N) {c : Int} : sm (byC m s 17 c) (m 2 s 0).toNat = sm (sumFN N c 2) (N 9).toNat ∧ sm (byC m s 19 c) (m 2 s 0).toNat = sm (sumFN N c 4) (N 9).toNat :=
  ⟨V_sum9 hS (fun l a b => by
    have k := hS.2.2.2.2.2.2 l a b
    unfold byC sumFN
    rw [k.1, k.2.2.1]),
   V_sum9 hS (fun l a b => by
    have k := hS.2.2.2.2.2.2 l a b
    unfold byC sumFN
    rw [k.1, k.2.2.2.2.1])⟩
theorem V_out (hR : RP m p N) (hS : RS m p s N) {c : Int} : sm (outC m p s c) (m 2 s 0).toNat = sm (outFN N c) (N 9).toNat :=
  V_sum9 hS (fun l a b => by
    have k := hS.2.2.2.2.2.2 l a b
    have o := R_owed hR hS a b
    unfold outC outFN
    rw [k.1, k.2.2.2.2.2.1, k.2.1, k.2.2.1, o]
    by_cases g : m 15 s l = c
    · rw [if_pos g, if_pos g]
      by_cases g2 : m 20 s l = 0
      · rw [if_pos g2, if_pos g2]
      · rw [if_neg g2, if_neg g2]; omega
    · rw [if_neg g, if_neg g])
theorem V_owed (hP : BP m p) (hB : BS m p s) (hR : RP m p N) (hS : RS m p s N) {q : Int} : sm (owedWC m p s 29 q) (m 2 s 0).toNat = sm (owedFN N q 1) (N 9).toNat ∧ sm (owedWC m p s 28 q) (m 2 s 0).toNat = sm (owedFN N q 0) (N 9).toNat := by
  refine ⟨V_sum9 hS (fun l a b => ?_), V_sum9 hS (fun l a b => ?_)⟩
  all_goals
    have k := hS.2.2.2.2.2.2 l a b
    have o := R_owed hR hS a b
    have bl := hB.2.2.2.2.1.2 l a b
    have c := hR.2.2.2.2.2.1 (m 15 s l) bl.1.1 bl.1.2
    unfold owedWC owedFN
    rw [k.1, o]
    first | rw [c.2.1] | rw [c.1]
theorem V_pck {m : Mem} (hP : BP m 0) (hB : BS m 0 0) (hR : RP m 0 N) (hS : RS m 0 0 N) {q w : Int} (h0 : 0 ≤ q) (h1 : q < m 22 0 2) (hw : 0 ≤ w ∧ w ≤ 8) : pckC m q w = pckN N q w := by
  have a := hR.2.1 q h0 h1
  have b := hS.2.1 q h0 h1
  have c := hS.2.2.1 q h0 h1
  have r := R_room hR hS h0 h1
  have t := R_quart hR hS h0 h1
  unfold pckC pckN
  have hw' : w = 0 ∨ w = 1 ∨ w = 2 ∨ w = 3 ∨ w = 4 ∨ w = 5 ∨ w = 6 ∨ w = 7 ∨ w = 8 := by omega
  rcases hw' with rfl | rfl | rfl | rfl | rfl | rfl | rfl | rfl | rfl
  · exact a.1.symm
  · exact r.symm
  · exact b.1.symm
  · exact b.2.1.symm
  · exact a.2.symm
  · exact b.2.2.symm
  · exact c.1.symm
  · exact c.2.symm
  · exact t.symm
theorem V_cab {m : Mem} (hP : BP m 0) (hR : RP m 0 N) (hS : RS m 0 0 N) (h8 : R8 m 0 0 N) {a b w : Int} (a0 : 0 ≤ a) (a1 : a < m 22 0 2) (b0 : 0 ≤ b) (b1 : b < m 22 0 2) (hw : 0 ≤ w ∧ w ≤ 3) : cabC m (m 27 0 (a * 8 + b)) w = cabN N (betN N a b) w := by
  have e := hR.2.2.2.2.1 a b a0 a1 b0 b1
  have r := hP.2.2.2.2.2.2.2.2.2.2.1 a b a0 a1 b0 b1
  rw [e]
  unfold cabC cabN
  by_cases g : m 27 0 (a * 8 + b) = -1
  · rw [if_pos g, if_pos g]
  · rw [if_neg g, if_neg g]
    have k := hS.2.2.2.1 (m 27 0 (a * 8 + b)) (by omega) (by omega)
    have k8 := h8 (m 27 0 (a * 8 + b)) (by omega) (by omega)
    have hw' : w = 0 ∨ w = 1 ∨ w = 2 ∨ w = 3 := by omega
    rcases hw' with rfl | rfl | rfl | rfl
    · exact k.1.symm
    · exact k.2.1.symm
    · exact k8.symm
    · exact k.2.2.symm
theorem V_tri {m : Mem} (hS : RS m 0 0 N) {t w : Int} (h0 : 0 ≤ t) (h1 : t < m 1 0 0) (hw : 0 ≤ w ∧ w ≤ 3) : triC m t w = N (206 + 4 * t + w) := by
  have k := hS.2.2.2.2.1 t h0 h1
  unfold triC
  have hw' : w = 0 ∨ w = 1 ∨ w = 2 ∨ w = 3 := by omega
  rcases hw' with rfl | rfl | rfl | rfl
  · exact k.1.symm
  · exact k.2.1.symm
  · exact k.2.2.1.symm
  · exact k.2.2.2.symm
theorem V_con {m : Mem} (hP : BP m 0) (hR : RP m 0 N) (hS : RS m 0 0 N) {c w : Int} (h0 : 0 ≤ c) (h1 : c < m 22 0 6) (hw : 0 ≤ w ∧ w ≤ 9) : conC m c w = conN N c w := by
  have k := hR.2.2.2.2.2.1 c h0 h1
  have k6 := hS.2.2.2.2.2.1 c h0 h1
  unfold conC conN
  have hw' : w = 0 ∨ w = 1 ∨ w = 2 ∨ w = 3 ∨ w = 4 ∨ w = 5 ∨ w = 6 ∨ w = 7 ∨ w = 8 ∨ w = 9 := by omega
  rcases hw' with rfl | rfl | rfl | rfl | rfl | rfl | rfl | rfl | rfl | rfl
  · exact k.1.symm
  · exact k.2.1.symm
  · exact k.2.2.1.symm
  · exact k.2.2.2.1.symm
  · exact k.2.2.2.2.symm
  · exact V_out hR hS
  · exact V_openBy hS h0
  · exact k6.symm
  · exact (V_by hS).1
  · exact (V_by hS).2
theorem V_loa {m : Mem} (hR : RP m 0 N) (hS : RS m 0 0 N) {l w : Int} (h0 : 0 ≤ l) (h1 : l < m 2 0 0) (hw : 0 ≤ w ∧ w ≤ 7) : loaC m l w = loaN N l w := by
  have k := hS.2.2.2.2.2.2 l h0 h1
  have o := R_owed hR hS h0 h1
  unfold loaC loaN
  have hw' : w = 0 ∨ w = 1 ∨ w = 2 ∨ w = 3 ∨ w = 4 ∨ w = 5 ∨ w = 6 ∨ w = 7 := by omega
  rcases hw' with rfl | rfl | rfl | rfl | rfl | rfl | rfl | rfl
  · exact k.1.symm
  · exact k.2.1.symm
  · exact k.2.2.1.symm
  · exact k.2.2.2.1.symm
  · exact k.2.2.2.2.1.symm
  · exact o.symm
  · exact k.2.2.2.2.2.1.symm
  · exact k.2.2.2.2.2.2.symm
theorem V_cnt {m m' : Mem} (hR : RP m 0 N) (hS : RS m 0 0 N) {w : Int} (hw : 0 ≤ w ∧ w ≤ 8) (h6 : m' 41 0 6 = m 36 0 0) : cntC m w = cntN m' N w := by
  have e := hR.1
  have f := hS.1
  unfold cntC cntN
  have hw' : w = 0 ∨ w = 1 ∨ w = 2 ∨ w = 3 ∨ w = 4 ∨ w = 5 ∨ w = 6 ∨ w = 7 ∨ w = 8 := by omega
  rcases hw' with rfl | rfl | rfl | rfl | rfl | rfl | rfl | rfl | rfl
  · exact e.2.2.1.symm
  · exact e.2.2.2.1.symm
  · exact e.2.2.2.2.2.1.symm
  · exact e.2.2.2.2.1.symm
  · exact f.2.2.2.2.2.1.symm
  · exact e.2.2.2.2.2.2.symm
  · exact f.2.2.2.2.2.2.symm
  · exact V_open hS
  · exact h6.symm
theorem V_int {m : Mem} (hP : BP m 0) (hB : BS m 0 0) (hR : RP m 0 N) (hS : RS m 0 0 N) {c x : Int} (h0 : 0 ≤ c) (h1 : c < m 22 0 6) : intC m 0 (min 100000000 (wearC m 0 0 (m 28 0 c) x)) = intN N (pfN N (N (270 + 6 * c + 0)) x) := by
  have k := hR.2.2.2.2.2.1 c h0 h1
  have b := BP_c hP h0 h1
  rw [← R_int hR, k.1]
  unfold pfN
  rw [R_wear hP hB hR hS x b.1.1 b.1.2]
theorem V_hin {m : Mem} (hP : BP m 0) (hB : BS m 0 0) (hR : RP m 0 N) (hS : RS m 0 0 N) {c x : Int} (h0 : 0 ≤ c) (h1 : c < m 22 0 6) : hinC m 0 0 c x = hinN N c x := by
  have k := hR.2.2.2.2.2.1 c h0 h1
  have k6 := hS.2.2.2.2.2.1 c h0 h1
  have b := BP_c hP h0 h1
  have b6 := hB.2.2.2.2.2 c h0 h1
  have q := hS.2.1 (m 28 0 c) b.1.1 b.1.2
  have nl := hB.2.2.2.2.1.1
  unfold hinC hinN aboveN
  rw [k6, k.2.2.1, k.1, q.1, q.2.2, ← V_out hR hS, hS.1.2.2.2.2.2.2]
  by_cases g1 : m 10 0 c = 1
  · rw [if_pos (by omega), if_pos g1]
  · rw [if_neg (by omega), if_neg g1]
    by_cases g2 : m 30 0 c < sm (outC m 0 0 c) (m 2 0 0).toNat + x
    · rw [if_pos (by omega), if_pos g2]
    · rw [if_neg (by omega), if_neg g2]
      by_cases g3 : m 3 0 (m 28 0 c) - m 5 0 (m 28 0 c) < x
      · rw [if_pos g3, if_pos g3]
      · rw [if_neg g3, if_neg g3]
        by_cases g4 : m 2 0 0 = 16
        · rw [if_pos (by omega), if_pos g4]
        · rw [if_neg (by omega), if_neg g4]
theorem V_abo {m : Mem} (hS : RS m 0 0 N) {q : Int} (h0 : 0 ≤ q) (h1 : q < m 22 0 2) : aboC m q = aboveN N q := by
  have k := hS.2.1 q h0 h1
  unfold aboC aboveN
  rw [k.1, k.2.2]
theorem V_low {m : Mem} (hS : RS m 0 0 N) : ∀ (n : Nat) (b i : Int), 0 ≤ i → i + n ≤ m 22 0 2 → (b = -1 ∨ 0 ≤ b ∧ b < m 22 0 2) → lowF m b i n = farF N (-1) b i n := by
  intro n
  induction n with
  | zero => intro b i _ _ _; rfl
  | succ n ih =>
    intro b i h0 h1 hb
    have ei := V_abo hS h0 (show i < m 22 0 2 by omega)
    show lowF m (if b = -1 ∨ aboC m i < aboC m b then i else b) (i + 1) n = farF N (-1) (if b = -1 ∨ -1 * aboveN N b < -1 * aboveN N i then i else b) (i + 1) n
    have e : (b = -1 ∨ aboC m i < aboC m b) ↔ (b = -1 ∨ -1 * aboveN N b < -1 * aboveN N i) := by
      rcases hb with hb | hb
      · exact ⟨fun _ => Or.inl hb, fun _ => Or.inl hb⟩
      · rw [ei, V_abo hS hb.1 hb.2]; omega
    by_cases g : b = -1 ∨ aboC m i < aboC m b
    · rw [if_pos g, if_pos (e.mp g)]; exact ih _ _ (by omega) (by omega) (by omega)
    · rw [if_neg g, if_neg (fun z => g (e.mpr z))]; exact ih _ _ (by omega) (by omega) hb
theorem V_hig {m : Mem} (hS : RS m 0 0 N) : ∀ (n : Nat) (b i : Int), 0 ≤ i → i + n ≤ m 22 0 2 → (b = -1 ∨ 0 ≤ b ∧ b < m 22 0 2) → higF m b i n = farF N 1 b i n := by
  intro n
  induction n with
  | zero => intro b i _ _ _; rfl
  | succ n ih =>
    intro b i h0 h1 hb
    have ei := V_abo hS h0 (show i < m 22 0 2 by omega)
    show higF m (if b = -1 ∨ aboC m b < aboC m i then i else b) (i + 1) n = farF N 1 (if b = -1 ∨ 1 * aboveN N b < 1 * aboveN N i then i else b) (i + 1) n
    have e : (b = -1 ∨ aboC m b < aboC m i) ↔ (b = -1 ∨ 1 * aboveN N b < 1 * aboveN N i) := by
      rcases hb with hb | hb
      · exact ⟨fun _ => Or.inl hb, fun _ => Or.inl hb⟩
      · rw [ei, V_abo hS hb.1 hb.2]; omega
    by_cases g : b = -1 ∨ aboC m b < aboC m i
    · rw [if_pos g, if_pos (e.mp g)]; exact ih _ _ (by omega) (by omega) (by omega)
    · rw [if_neg g, if_neg (fun z => g (e.mpr z))]; exact ih _ _ (by omega) (by omega) hb
theorem CAB_of {m : Mem} (hP : BP m 0) (hB : BS m 0 0) (hR : RP m 0 N) (hS : RS m 0 0 N) : CAB N := by
  intro c a b
  have nc := hR.1.2.2.2.2.2.2
  have k := hR.2.2.2.2.2.1 c a (by omega)
  have b2 := BP_c hP a (show c < m 22 0 6 by omega)
  have e := hR.2.2.2.2.1 (m 28 0 c) (m 29 0 c) b2.1.1 b2.1.2 b2.2.1.1 b2.2.1.2
  have r := b2.2.2.2.2.2.2
  have n12 := hP.2.2.2.2.2.1
  rw [k.1, k.2.1, e]
  have t := hS.2.2.2.1 _ r.1 r.2
  have bb := (hB.2.2.1 _ r.1 r.2).1
  rw [t.1]
  exact ⟨⟨r.1, by omega⟩, bb⟩
theorem V_cos {m : Mem} (hP : BP m 0) (hB : BS m 0 0) (hR : RP m 0 N) (hS : RS m 0 0 N) {c x : Int} (h0 : 0 ≤ c) (h1 : c < m 22 0 6) : cosC m 0 0 c x = cosN N c x := by
  have k := hR.2.2.2.2.2.1 c h0 h1
  have b2 := BP_c hP h0 h1
  have e := hR.2.2.2.2.1 (m 28 0 c) (m 29 0 c) b2.1.1 b2.1.2 b2.2.1.1 b2.2.1.2
  have r := b2.2.2.2.2.2.2
  have t := hS.2.2.2.1 _ r.1 r.2
  unfold cosC cosN
  rw [V_int hP hB hR hS h0 h1, if_neg (by omega), k.2.1]
  rw [show betN N (N (270 + 6 * c + 0)) (m 29 0 c) = m 27 0 (m 28 0 c * 8 + m 29 0 c) from by rw [k.1]; exact e, t.1]
theorem V_chp {m : Mem} (hP : BP m 0) (hB : BS m 0 0) (hR : RP m 0 N) (hS : RS m 0 0 N) {q x : Int} : ∀ (n : Nat) (b cost i : Int), 0 ≤ i → i + n ≤ m 22 0 6 → chF m q x b cost i n = chN N q x b cost i n := by
  intro n
  induction n with
  | zero => intro b cost i _ _; rfl
  | succ n ih =>
    intro b cost i h0 h1
    have k := hR.2.2.2.2.2.1 i h0 (show i < m 22 0 6 by omega)
    show (if m 29 0 i = q ∧ hinC m 0 0 i x = 0 ∧ (b = -1 ∨ cosC m 0 0 i x < cost) then chF m q x i (cosC m 0 0 i x) (i + 1) n else chF m q x b cost (i + 1) n) = (if N (270 + 6 * i + 1) = q ∧ hinN N i x = 0 ∧ (b = -1 ∨ cosN N i x < cost) then chN N q x i (cosN N i x) (i + 1) n else chN N q x b cost (i + 1) n)
    rw [k.2.1, V_hin hP hB hR hS h0 (by omega), V_cos hP hB hR hS h0 (by omega)]
    by_cases g : m 29 0 i = q ∧ hinN N i x = 0 ∧ (b = -1 ∨ cosN N i x < cost)
    · rw [if_pos g, if_pos g]; exact ih _ _ _ (by omega) (by omega)
    · rw [if_neg g, if_neg g]; exact ih _ _ _ (by omega) (by omega)
theorem V_tot {m : Mem} (hR : RP m 0 N) (hS : RS m 0 0 N) {w : Int} (hw : 0 ≤ w ∧ w ≤ 5) : totC m w = totN N w := by
  have f := hS.1
  have e3 := hR.1.2.2.1
  unfold totC totN
  have hw' : w = 0 ∨ w = 1 ∨ w = 2 ∨ w = 3 ∨ w = 4 ∨ w = 5 := by omega
  rcases hw' with rfl | rfl | rfl | rfl | rfl | rfl
  · exact f.2.1.symm
  · exact f.2.2.1.symm
  · exact f.2.2.2.1.symm
  · exact f.2.2.2.2.1.symm
  · show sumC m 3 (m 22 0 2) = sm (fun q => N (30 + 7 * q + (if (4 : Int) = 4 then 1 else 2))) (N 3).toNat
    unfold sumC
    rw [e3]
    exact sm_congr (fun q a b => by rw [if_pos rfl]; exact (hS.2.1 q a (by omega)).1.symm)
  · show sumC m 4 (m 22 0 2) = sm (fun q => N (30 + 7 * q + (if (5 : Int) = 4 then 1 else 2))) (N 3).toNat
    unfold sumC
    rw [e3]
    exact sm_congr (fun q a b => by rw [if_neg (by decide)]; exact (hS.2.1 q a (by omega)).2.1.symm)
/-- relations moved to another instance -/
theorem RS_move {m m1 : Mem} {p s s1 : Nat} (e : ∀ k, k < 22 → m1 k s1 = m k s) (e2 : m1 22 p = m 22 p) (hS : RS m p s N) : RS m1 p s1 N := by
  obtain ⟨r1, r2, r3, r4, r5, r6, r7⟩ := hS
  have en : ∀ q z, numC m1 s1 q z = numC m s q z := fun q z => by funext t; unfold numC; rw [e 11 (by decide), e 14 (by decide)]
  unfold RS R1 R2 R3 R4 R5 R6 R7
  simp only [en]
  rw [e 0 (by decide), e 1 (by decide), e 2 (by decide), e 3 (by decide), e 4 (by decide), e 5 (by decide), e 6 (by decide), e 7 (by decide), e 9 (by decide), e 10 (by decide), e 11 (by decide), e 12 (by decide), e 13 (by decide), e 14 (by decide), e 15 (by decide), e 16 (by decide), e 17 (by decide), e 18 (by decide), e 19 (by decide), e 20 (by decide), e 21 (by decide), e2]
  exact ⟨r1, r2, r3, r4, r5, r6, r7⟩
theorem RP_move {m m1 : Mem} {p p1 : Nat} (e : ∀ k, 22 ≤ k → k < 33 → m1 k p1 = m k p) (hR : RP m p N) : RP m1 p1 N := by
  unfold RP
  rw [e 22 (by decide) (by decide), e 23 (by decide) (by decide), e 24 (by decide) (by decide), e 25 (by decide) (by decide), e 26 (by decide) (by decide), e 27 (by decide) (by decide), e 28 (by decide) (by decide), e 29 (by decide) (by decide), e 30 (by decide) (by decide), e 31 (by decide) (by decide), e 32 (by decide) (by decide)]
  exact hR
theorem BP_move {m m1 : Mem} {p p1 : Nat} (e : ∀ k, 22 ≤ k → k < 33 → m1 k p1 = m k p) (hP : BP m p) : BP m1 p1 := by
  unfold BP
  rw [e 22 (by decide) (by decide), e 23 (by decide) (by decide), e 24 (by decide) (by decide), e 25 (by decide) (by decide), e 26 (by decide) (by decide), e 27 (by decide) (by decide), e 28 (by decide) (by decide), e 29 (by decide) (by decide), e 30 (by decide) (by decide), e 31 (by decide) (by decide), e 32 (by decide) (by decide)]
  exact hP
theorem BS_move {m m1 : Mem} {p p1 s s1 : Nat} (e : ∀ k, k < 22 → m1 k s1 = m k s) (e2 : ∀ k, 22 ≤ k → k < 33 → m1 k p1 = m k p) (hB : BS m p s) : BS m1 p1 s1 := by
  unfold BS Bq Bc Bt Bl roomC intC
  rw [e2 22 (by decide) (by decide), e2 23 (by decide) (by decide), e 0 (by decide), e 1 (by decide), e 2 (by decide), e 3 (by decide), e 4 (by decide), e 5 (by decide), e 6 (by decide), e 7 (by decide), e 8 (by decide), e 10 (by decide), e 11 (by decide), e 12 (by decide), e 13 (by decide), e 14 (by decide), e 15 (by decide), e 16 (by decide), e 17 (by decide), e 18 (by decide), e 19 (by decide), e 20 (by decide), e 21 (by decide)]
  exact hB
theorem RS_mv {m m1 : Mem} {p p1 s s1 : Nat} (e : ∀ k, k < 22 → m1 k s1 = m k s) (e2 : m1 22 p1 = m 22 p) (hS : RS m p s N) : RS m1 p1 s1 N := by
  obtain ⟨r1, r2, r3, r4, r5, r6, r7⟩ := hS
  have en : ∀ q z, numC m1 s1 q z = numC m s q z := fun q z => by funext t; unfold numC; rw [e 11 (by decide), e 14 (by decide)]
  unfold RS R1 R2 R3 R4 R5 R6 R7
  simp only [en]
  rw [e 0 (by decide), e 1 (by decide), e 2 (by decide), e 3 (by decide), e 4 (by decide), e 5 (by decide), e 6 (by decide), e 7 (by decide), e 9 (by decide), e 10 (by decide), e 11 (by decide), e 12 (by decide), e 13 (by decide), e 14 (by decide), e 15 (by decide), e 16 (by decide), e 17 (by decide), e 18 (by decide), e 19 (by decide), e 20 (by decide), e 21 (by decide), e2]
  exact ⟨r1, r2, r3, r4, r5, r6, r7⟩
theorem R8_move {m m1 : Mem} {p p1 s s1 : Nat} (e : m1 8 s1 = m 8 s) (e2 : m1 22 p1 = m 22 p) (h : R8 m p s N) : R8 m1 p1 s1 N := by unfold R8; rw [e, e2]; exact h
theorem CE_move {m m1 : Mem} {p p1 s s1 : Nat} {d : Int} (e : ∀ k, k < 22 → m1 k s1 = m k s) (e2 : m1 22 p1 = m 22 p) (h : CE m p s d) : CE m1 p1 s1 d := by
  unfold CE
  rw [e 0 (by decide), e 3 (by decide), e 9 (by decide), e2]
  exact h
/-- all that is known of one state and the row that stands for it; K: how many charges there may have been -/
def ST (m : Mem) (p s : Nat) (N : Int → Int) (K : Nat) : Prop := BP m p ∧ BS m p s ∧ RP m p N ∧ RS m p s N ∧ R8 m p s N ∧ CE m p s 0 ∧ m 0 s 0 ≤ 9999 ∧ m 0 s 1 ≤ 800000 + 120000 * m 0 s 0 + 100000 * K
theorem ST.mv {m m1 : Mem} {p p1 s s1 : Nat} {K : Nat} (h : ST m p s N K) (e : ∀ k, k < 22 → m1 k s1 = m k s) (e2 : ∀ k, 22 ≤ k → k < 33 → m1 k p1 = m k p) : ST m1 p1 s1 N K := by
  obtain ⟨h1, h2, h3, h4, h5, h6, h7, h8⟩ := h
  have e22 := e2 22 (by decide) (by decide)
  refine ⟨BP_move e2 h1, BS_move e e2 h2, RP_move e2 h3, RS_mv e e22 h4, R8_move (e 8 (by decide)) e22 h5, CE_move e e22 h6, ?_, ?_⟩
  · rw [e 0 (by decide)]; exact h7
  · rw [e 0 (by decide)]; exact h8
theorem ST.more {m : Mem} {p s : Nat} {K K' : Nat} (h : ST m p s N K) (hk : K ≤ K') : ST m p s N K' := by
  obtain ⟨h1, h2, h3, h4, h5, h6, h7, h8⟩ := h
  exact ⟨h1, h2, h3, h4, h5, h6, h7, by omega⟩
/-- a row that says the same, over the row's own length -/
theorem RS_frB {m : Mem} {p s : Nat} {N N' : Int → Int} (hP : BP m p) (hB : NB m s) (hN : ∀ j, 0 ≤ j → j < 430 → N' j = N j) (hR : RP m p N) (hS : RS m p s N) (h8 : R8 m p s N) : RP m p N' ∧ RS m p s N' ∧ R8 m p s N' := by
  have n8 := hP.2.2.1
  have n12 := hP.2.2.2.2.2.1
  have nc := hP.2.2.2.2.2.2.1
  have n16 := hB.1
  have n16b := hB.2
  refine ⟨hR.congr hP (fun k a b => rfl) (fun j hj => hN j (by unfold plI at hj; omega) (by unfold plI at hj; omega)), ?_, fun c a b => ?_⟩
  · obtain ⟨r1, r2, r3, r4, r5, r6, r7⟩ := hS
    refine ⟨?_, fun q' a b => ?_, fun q' a b => ?_, fun c a b => ?_, fun t' a b => ?_, fun c a b => ?_, fun l' a b => ?_⟩
    · obtain ⟨a1, a2, a3, a4, a5, a6, a7⟩ := r1
      exact ⟨by rw [hN _ (by omega) (by omega)]; exact a1, by rw [hN _ (by omega) (by omega)]; exact a2, by rw [hN _ (by omega) (by omega)]; exact a3, by rw [hN _ (by omega) (by omega)]; exact a4, by rw [hN _ (by omega) (by omega)]; exact a5, by rw [hN _ (by omega) (by omega)]; exact a6, by rw [hN _ (by omega) (by omega)]; exact a7⟩
    · rw [hN _ (by omega) (by omega), hN _ (by omega) (by omega), hN _ (by omega) (by omega)]; exact r2 q' a b
    · rw [hN _ (by omega) (by omega), hN _ (by omega) (by omega)]; exact r3 q' a b
    · rw [hN _ (by omega) (by omega), hN _ (by omega) (by omega), hN _ (by omega) (by omega)]; exact r4 c a b
    · rw [hN _ (by omega) (by omega), hN _ (by omega) (by omega), hN _ (by omega) (by omega), hN _ (by omega) (by omega)]; exact r5 t' a b
    · rw [hN _ (by omega) (by omega)]; exact r6 c a b
    · rw [hN _ (by omega) (by omega), hN _ (by omega) (by omega), hN _ (by omega) (by omega), hN _ (by omega) (by omega), hN _ (by omega) (by omega), hN _ (by omega) (by omega), hN _ (by omega) (by omega)]; exact r7 l' a b
  · rw [hN _ (by omega) (by omega)]; exact h8 c a b
/-- another row that says the same -/
theorem ST.rw {m : Mem} {p s : Nat} {K : Nat} {N N' : Int → Int} (h : ST m p s N K) (e : ∀ j, 0 ≤ j → j < 430 → N' j = N j) : ST m p s N' K := by
  obtain ⟨h1, h2, h3, h4, h5, h6, h7, h8⟩ := h
  have r := RS_frB (N' := N') h1 (BS_nb h2) e h3 h4 h5
  exact ⟨h1, h2, r.1, r.2.1, r.2.2, h6, h7, h8⟩
end VV
