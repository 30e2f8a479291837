/-! the statements of a known text, read by the class -/
def NS : List Int → List Int
  | [] => []
  | n :: l => 32 :: (dg n ++ NS l)
def NP (T : Int → Int) (len p : Int) (l : List Int) (e : Int) : Prop := TXat T p (NS l) ∧ p + ((NS l).length : Int) = e ∧ e ≤ len ∧ (e = len ∨ ¬ (48 ≤ T e ∧ T e ≤ 57))
theorem NP.nil {T : Int → Int} {len p e : Int} (h : NP T len p [] e) : p = e := by
  have := h.2.1
  change p + ((0 : Nat) : Int) = e at this
  omega
/-- one number more is read -/
theorem AT.np {m : Mem} {T : Int → Int} {len p a lo hi e : Int} {l : List Int} (h : AT m T len p) (hN : NP T len p (a :: l) e) (h0 : 0 ≤ a) (h1 : a < 1000) (hlo : lo ≤ a) (hhi : a ≤ hi) : numV m lo hi = a ∧ ∃ p', AT (numM m lo hi) T len p' ∧ NP T len p' l e ∧ numM m lo hi 34 0 7 = p + 1 := by
  obtain ⟨n1, n2, n3, n4⟩ := hN
  change T p = 32 ∧ TXat T (p + 1) (dg a ++ NS l) at n1
  have n5 := (TXat_app (dg a) (p + 1)).mp n1.2
  have el : ((NS (a :: l)).length : Int) = 1 + ((dg a).length : Int) + ((NS l).length : Int) := by
    show ((32 :: (dg a ++ NS l)).length : Int) = _
    rw [List.length_cons, List.length_append]
    omega
  rw [el] at n2
  have st : p + 1 + ((dg a).length : Int) = len ∨ ¬ (48 ≤ T (p + 1 + ((dg a).length : Int)) ∧ T (p + 1 + ((dg a).length : Int)) ≤ 57) := by
    match l, n2, n5 with
    | [], n2, _ =>
      change p + (1 + ((dg a).length : Int) + ((0 : Nat) : Int)) = e at n2
      rw [show p + 1 + ((dg a).length : Int) = e by omega]
      exact n4
    | b :: l, n2, n5 =>
      have z : T (p + 1 + ((dg a).length : Int)) = 32 := n5.2.1
      exact .inr (by omega)
  have R := h.num (.inr ⟨rfl, n1.1⟩) h0 h1 n5.1 (by omega) st hlo hhi
  exact ⟨R.1, _, R.2.1, ⟨n5.2, by omega, n3, n4⟩, R.2.2⟩
theorem wF_of {T : Int → Int} {a : Int} {i : Nat} : ∀ (n j : Nat), (∀ t : Nat, t < n → T (a + ((j + t : Nat) : Int)) = sB i (j + t)) → wF T a i n j = true := by
  intro n
  induction n with
  | zero => intro j _; rfl
  | succ n ih =>
    intro j h
    show (if T (a + (j : Int)) = sB i j then wF T a i n (j + 1) else false) = true
    have h0 : T (a + (j : Int)) = sB i j := h 0 (by omega)
    rw [if_pos h0]
    exact ih (j + 1) (fun t ht => by
      have := h (t + 1) (by omega)
      rw [show j + 1 + t = j + (t + 1) by omega]
      exact this)
theorem wF_all {T : Int → Int} {a : Int} {i : Nat} : ∀ (n j : Nat), wF T a i n j = true → ∀ t : Nat, t < n → T (a + ((j + t : Nat) : Int)) = sB i (j + t) := by
  intro n
  induction n with
  | zero => intro j _ t ht; exact absurd ht (by omega)
  | succ n ih =>
    intro j h t ht
    have h' : (if T (a + (j : Int)) = sB i j then wF T a i n (j + 1) else false) = true := h
    split at h'
    · rename_i g
      match t with
      | 0 => exact g
      | t + 1 =>
        have := ih (j + 1) h' t (by omega)
        rw [show j + (t + 1) = j + 1 + t by omega]
        exact this
    · exact absurd h' (by decide)
theorem wd_yes {T : Int → Int} {a b : Int} {i : Nat} (hl : b - a = sL i) (hw : ∀ j : Nat, (j : Int) < sL i → T (a + (j : Int)) = sB i j) : wdB T a b i = true := by
  unfold wdB
  rw [if_pos hl]
  exact wF_of _ 0 (fun t ht => by rw [show 0 + t = t by omega]; exact hw t (by omega))
theorem wd_no {T : Int → Int} {a b : Int} {i : Nat} (h : b - a ≠ sL i ∨ ∃ j : Nat, (j : Int) < sL i ∧ T (a + (j : Int)) ≠ sB i j) : ¬ wdB T a b i = true := by
  unfold wdB
  intro z
  split at z
  · rename_i g
    rcases h with h | ⟨j, h1, h2⟩
    · exact h g
    · have := wF_all _ 0 z j (by omega)
      rw [show 0 + j = j by omega] at this
      exact h2 this
  · exact absurd z (by decide)
theorem sL_v : sL 0 = 5 ∧ sL 1 = 5 ∧ sL 2 = 4 ∧ sL 3 = 5 ∧ sL 4 = 3 ∧ sL 5 = 4 ∧ sL 6 = 8 := by decide
theorem kd_of {T : Int → Int} {a : Int} {i : Nat} (hi : i < 7) (hw : ∀ j : Nat, (j : Int) < sL i → T (a + (j : Int)) = sB i j) : kdN T a (a + sL i) = (i : Int) := by
  have v := sL_v
  have yes := wd_yes (T := T) (a := a) (b := a + sL i) (i := i) (by omega) hw
  unfold kdN
  match i, hi, hw, yes with
  | 0, _, hw, yes =>
    rw [if_pos yes]
    rfl
  | 1, _, hw, yes =>
    rw [if_neg (wd_no (T := T) (a := a) (b := a + sL 1) (i := 0) (.inr ⟨0, by omega, by rw [hw 0 (by omega)]; decide⟩))]
    rw [if_pos yes]
    rfl
  | 2, _, hw, yes =>
    rw [if_neg (wd_no (T := T) (a := a) (b := a + sL 2) (i := 0) (.inl (by omega)))]
    rw [if_neg (wd_no (T := T) (a := a) (b := a + sL 2) (i := 1) (.inl (by omega)))]
    rw [if_pos yes]
    rfl
  | 3, _, hw, yes =>
    rw [if_neg (wd_no (T := T) (a := a) (b := a + sL 3) (i := 0) (.inr ⟨0, by omega, by rw [hw 0 (by omega)]; decide⟩))]
    rw [if_neg (wd_no (T := T) (a := a) (b := a + sL 3) (i := 1) (.inr ⟨1, by omega, by rw [hw 1 (by omega)]; decide⟩))]
    rw [if_neg (wd_no (T := T) (a := a) (b := a + sL 3) (i := 2) (.inl (by omega)))]
    rw [if_pos yes]
    rfl
  | 4, _, hw, yes =>
    rw [if_neg (wd_no (T := T) (a := a) (b := a + sL 4) (i := 0) (.inl (by omega)))]
    rw [if_neg (wd_no (T := T) (a := a) (b := a + sL 4) (i := 1) (.inl (by omega)))]
    rw [if_neg (wd_no (T := T) (a := a) (b := a + sL 4) (i := 2) (.inl (by omega)))]
    rw [if_neg (wd_no (T := T) (a := a) (b := a + sL 4) (i := 3) (.inl (by omega)))]
    rw [if_pos yes]
    rfl
  | 5, _, hw, yes =>
    rw [if_neg (wd_no (T := T) (a := a) (b := a + sL 5) (i := 0) (.inl (by omega)))]
    rw [if_neg (wd_no (T := T) (a := a) (b := a + sL 5) (i := 1) (.inl (by omega)))]
    rw [if_neg (wd_no (T := T) (a := a) (b := a + sL 5) (i := 2) (.inr ⟨0, by omega, by rw [hw 0 (by omega)]; decide⟩))]
    rw [if_neg (wd_no (T := T) (a := a) (b := a + sL 5) (i := 3) (.inl (by omega)))]
    rw [if_neg (wd_no (T := T) (a := a) (b := a + sL 5) (i := 4) (.inl (by omega)))]
    rw [if_pos yes]
    rfl
  | 6, _, hw, yes =>
    rw [if_neg (wd_no (T := T) (a := a) (b := a + sL 6) (i := 0) (.inl (by omega)))]
    rw [if_neg (wd_no (T := T) (a := a) (b := a + sL 6) (i := 1) (.inl (by omega)))]
    rw [if_neg (wd_no (T := T) (a := a) (b := a + sL 6) (i := 2) (.inl (by omega)))]
    rw [if_neg (wd_no (T := T) (a := a) (b := a + sL 6) (i := 3) (.inl (by omega)))]
    rw [if_neg (wd_no (T := T) (a := a) (b := a + sL 6) (i := 4) (.inl (by omega)))]
    rw [if_neg (wd_no (T := T) (a := a) (b := a + sL 6) (i := 5) (.inl (by omega)))]
    rw [if_pos yes]
    rfl
  | n + 7, h, _, _ => exact absurd h (by omega)
theorem sB_w {i j : Nat} (hi : i < 7) (hj : (j : Int) < sL i) : 97 ≤ sB i j ∧ sB i j ≤ 122 := by
  have v := sL_v
  have h : ∀ i : Fin 7, ∀ j : Fin 8, (j.val : Int) < sL i.val → 97 ≤ sB i.val j.val ∧ sB i.val j.val ≤ 122 := by decide
  have hj8 : j < 8 := by
    match i, hi with
    | 0, _ => omega
    | 1, _ => omega
    | 2, _ => omega
    | 3, _ => omega
    | 4, _ => omega
    | 5, _ => omega
    | 6, _ => omega
    | n + 7, h => exact absurd h (by omega)
  exact h ⟨i, hi⟩ ⟨j, hj8⟩ hj
/-- a statement's word -/
theorem AT.word {m : Mem} {T : Int → Int} {len p a : Int} {i : Nat} (h : AT m T len p) (hi : i < 7) (hsp : p = a ∨ p + 1 = a ∧ T p = 32) (hw : ∀ j : Nat, (j : Int) < sL i → T (a + (j : Int)) = sB i j) (he : T (a + sL i) = 32) (hl : a + sL i < len) : stA m = a ∧ stK m = (i : Int) ∧ AT (st1 m) T len (a + sL i) := by
  have v := sL_v
  have l3 : 3 ≤ sL i := by
    match i, hi with
    | 0, _ => omega
    | 1, _ => omega
    | 2, _ => omega
    | 3, _ => omega
    | 4, _ => omega
    | 5, _ => omega
    | 6, _ => omega
    | n + 7, h => exact absurd h (by omega)
  have hb := h.b
  have w0 := hw 0 (by omega)
  rw [show a + ((0 : Nat) : Int) = a by omega] at w0
  have c0 := sB_w (i := i) (j := 0) hi (by omega)
  have S : AT (skM m) T len a := by
    rcases hsp with e | ⟨e, z⟩
    · have S := (h.sc (b := bS) 0 (by omega) (fun j hj => absurd hj (by omega)) (.inr (fun q => by
        have := of_decide_eq_true q
        rw [show p + ((0 : Nat) : Int) = a by omega] at this
        omega))).2
      rw [show p + ((0 : Nat) : Int) = a by omega] at S
      exact S
    · have S := (h.sc (b := bS) 1 (by omega) (fun j hj => by rw [show p + (j : Int) = p by omega, z]; rfl) (.inr (fun q => by
        have := of_decide_eq_true q
        rw [show p + ((1 : Nat) : Int) = a by omega] at this
        omega))).2
      rw [show p + ((1 : Nat) : Int) = a by omega] at S
      exact S
  have el : ((sL i).toNat : Int) = sL i := by omega
  have S1 := (S.sc (b := bW) (sL i).toNat (by omega) (fun j hj => by
    rw [hw j (by omega)]
    exact decide_eq_true (sB_w hi (by omega))) (.inr (fun q => by
    have := of_decide_eq_true q
    rw [el, he] at this
    omega))).2
  rw [el] at S1
  have e1 : AT (st1 m) T len (a + sL i) := S1
  refine ⟨S.2.2.2.1, ?_, e1⟩
  unfold stK
  rw [e1.2.1, e1.2.2.2.1, show stA m = a from S.2.2.2.1]
  exact kd_of hi hw
/-- a semicolon is passed -/
theorem AT.semi {m : Mem} {T : Int → Int} {len p c : Int} (h : AT m T len p) (hc : p = c ∨ p + 1 = c ∧ T p = 32) (h59 : T c = 59) (hl : c < len) : seP m ∧ AT (nxt m) T len (c + 1) ∧ (∀ k, k ≠ 34 → nxt m k = m k) ∧ nxt m 34 0 3 = m 34 0 3 + 1 := by
  have hb := h.b
  have S : AT (skM m) T len c := by
    rcases hc with e | ⟨e, z⟩
    · have S := (h.sc (b := bS) 0 (by omega) (fun j hj => absurd hj (by omega)) (.inr (fun q => by
        have := of_decide_eq_true q
        rw [show p + ((0 : Nat) : Int) = c by omega] at this
        omega))).2
      rw [show p + ((0 : Nat) : Int) = c by omega] at S
      exact S
    · have S := (h.sc (b := bS) 1 (by omega) (fun j hj => by rw [show p + (j : Int) = p by omega, z]; rfl) (.inr (fun q => by
        have := of_decide_eq_true q
        rw [show p + ((1 : Nat) : Int) = c by omega] at this
        omega))).2
      rw [show p + ((1 : Nat) : Int) = c by omega] at S
      exact S
  have q6 := S.2.2.2.1
  have q5 := S.2.2.1
  have c1 : skM m 34 0 6 < skM m 34 0 5 := by omega
  have c2 : m 35 0 (skM m 34 0 6) = 59 := by rw [h.2.1, q6]; exact h59
  have eS : seM m = up3 (skM m) 34 0 6 (c + 1) := by
    unfold seM
    rw [if_pos h.2.2.2.2, if_pos c1, if_pos c2, q6]
  have AS : AT (seM m) T len (c + 1) := ⟨(RK_se h.1).1, by rw [seM_k (by decide)]; exact h.2.1, by rw [eS, up3_off (by decide)]; exact q5, by rw [eS, up3_at], by rw [eS, up3_off (by decide)]; exact S.2.2.2.2⟩
  refine ⟨⟨h.2.2.2.2, c1, c2⟩, ⟨RB_nxt h.1, ?_, ?_, ?_, ?_⟩, fun k hk => ?_, ?_⟩
  · show up3 (seM m) 34 0 3 _ 35 0 = T; rw [up3_k (by decide)]; exact AS.2.1
  · show up3 (seM m) 34 0 3 _ 34 0 5 = len; rw [up3_off (by decide)]; exact AS.2.2.1
  · show up3 (seM m) 34 0 3 _ 34 0 6 = c + 1; rw [up3_off (by decide)]; exact AS.2.2.2.1
  · show up3 (seM m) 34 0 3 _ 34 0 1 = 0; rw [up3_off (by decide)]; exact AS.2.2.2.2
  · show up3 (seM m) 34 0 3 _ k = m k; rw [up3_k hk, seM_k hk]
  · show up3 (seM m) 34 0 3 _ 34 0 3 = _; rw [up3_at, (RK_se h.1).2.2.1]
/-- where a statement may end -/
def BD (T : Int → Int) (len e : Int) : Prop := e = len ∨ e < len ∧ T e = 59 ∨ e + 1 < len ∧ T e = 32 ∧ T (e + 1) = 59
theorem BD.nd {T : Int → Int} {len e : Int} (h : BD T len e) : e = len ∨ ¬ (48 ≤ T e ∧ T e ≤ 57) := by
  rcases h with h | h | h
  · exact .inl h
  · exact .inr (by omega)
  · exact .inr (by omega)
def PR (L : List Int) (N : Int → Int) : Prop := ∀ m : Mem, RW m → TXat (m 35 0) 0 L → (L.length : Int) ≤ m 34 0 5 → BD (m 35 0) (m 34 0 5) (L.length : Int) →
  ∃ (m1 : Mem) (k : Nat), (∀ n, ldL (stM (ld0 m)) (k + n) = ldL m1 n) ∧ k ≤ L.length ∧ CB m1 ∧ (AT m1 (m 35 0) (m 34 0 5) (L.length : Int) ∨ AT m1 (m 35 0) (m 34 0 5) ((L.length : Int) + 1) ∧ m 35 0 (L.length : Int) = 32) ∧ 0 ≤ m1 34 0 3 ∧ DRN m1 N
/-- what a kind's reading does behind its word -/
def RDS (i : Nat) (ns : List Int) (N N' : Int → Int) : Prop := ∀ (q : Mem) (T : Int → Int) (len p e : Int), AT q T len p → NP T len p ns e → BD T len e → CB q → DRN q N → ¬ fuP q (i : Int) ∧ (AT (rdK q (i : Int)) T len e ∨ AT (rdK q (i : Int)) T len (e + 1) ∧ T e = 32) ∧ DRN (rdK q (i : Int)) N'
theorem PR.next {L sp wl ns : List Int} {N N' : Int → Int} {i : Nat} (hP : PR L N) (hi : 1 ≤ i ∧ i < 7) (hsp : sp = [59] ∨ sp = [32, 59, 32]) (hwl : ∀ (T : Int → Int) (a : Int), TXat T a wl → ∀ j : Nat, (j : Int) < sL i → T (a + (j : Int)) = sB i j) (hll : (wl.length : Int) = sL i) (hns : ns ≠ []) (hR : RDS i ns N N') : PR (L ++ (sp ++ (wl ++ NS ns))) N' := by
  intro m hB hT hl hE
  obtain ⟨T, eT⟩ : ∃ T, m 35 0 = T := ⟨_, rfl⟩
  obtain ⟨len, eL⟩ : ∃ len, m 34 0 5 = len := ⟨_, rfl⟩
  rw [eT] at hT hE
  rw [eL] at hl hE
  have t1 := (TXat_app L 0).mp hT
  have t2 := (TXat_app sp _).mp t1.2
  have t3 := (TXat_app wl _).mp t2.2
  rw [show (0 : Int) + (L.length : Int) = (L.length : Int) by omega] at t1 t2 t3
  have el : ((L ++ (sp ++ (wl ++ NS ns))).length : Int) = (L.length : Int) + (sp.length : Int) + sL i + ((NS ns).length : Int) := by
    rw [List.length_append, List.length_append, List.length_append]
    omega
  rw [el] at hl hE ⊢
  rw [hll] at t3
  have hNl : 1 ≤ ((NS ns).length : Int) ∧ TXat T ((L.length : Int) + (sp.length : Int) + sL i) (NS ns) ∧ T ((L.length : Int) + (sp.length : Int) + sL i) = 32 := by
    match ns, hns, t3 with
    | [], hns, _ => exact absurd rfl hns
    | a :: l, _, t3 =>
      refine ⟨?_, t3.2, t3.2.1⟩
      show 1 ≤ ((32 :: (dg a ++ NS l)).length : Int)
      rw [List.length_cons]
      omega
  have hsl : 1 ≤ (sp.length : Int) ∧ (sp.length : Int) ≤ 3 := by
    rcases hsp with e | e <;> (rw [e]; exact ⟨by decide, by decide⟩)
  have v := sL_v
  have l3 : 3 ≤ sL i ∧ sL i ≤ 8 := by
    match i, hi with
    | 0, _ => omega
    | 1, _ => omega
    | 2, _ => omega
    | 3, _ => omega
    | 4, _ => omega
    | 5, _ => omega
    | 6, _ => omega
    | n + 7, h => exact absurd h.2 (by omega)
  -- the place of the semicolon, and of what follows it
  obtain ⟨c, hbd, c59, cl, c1, c2⟩ : ∃ c : Int, BD T len (L.length : Int) ∧ T c = 59 ∧ ((L.length : Int) = c ∨ (L.length : Int) + 1 = c ∧ T (L.length : Int) = 32) ∧ c < (L.length : Int) + (sp.length : Int) ∧ (c + 1 = (L.length : Int) + (sp.length : Int) ∨ c + 1 + 1 = (L.length : Int) + (sp.length : Int) ∧ T (c + 1) = 32) := by
    rcases hsp with e | e
    · rw [e] at t2 hl ⊢
      have z : T (L.length : Int) = 59 := t2.1.1
      change _ + ((1 : Nat) : Int) + _ + _ ≤ len at hl
      exact ⟨(L.length : Int), .inr (.inl ⟨by omega, z⟩), z, .inl rfl, by show _ < _ + ((1 : Nat) : Int); omega, .inl (by show _ = _ + ((1 : Nat) : Int); omega)⟩
    · rw [e] at t2 hl ⊢
      obtain ⟨z0, z1, z2, -⟩ := t2.1
      change _ + ((3 : Nat) : Int) + _ + _ ≤ len at hl
      exact ⟨(L.length : Int) + 1, .inr (.inr ⟨by omega, z0, z1⟩), z1, .inr ⟨rfl, z0⟩, by show _ < _ + ((3 : Nat) : Int); omega, .inr ⟨by show _ = _ + ((3 : Nat) : Int); omega, z2⟩⟩
  obtain ⟨m1, k, g1, g2, g3, g4, g5, g6⟩ := hP m hB (by rw [eT]; exact t1.1) (by rw [eL]; omega) (by rw [eT, eL]; exact hbd)
  rw [eT, eL] at g4
  have pc : ∃ p, AT m1 T len p ∧ (p = c ∨ p + 1 = c ∧ T p = 32) := by
    rcases g4 with g | ⟨g, z⟩
    · exact ⟨_, g, cl⟩
    · rcases cl with w | ⟨w, z2⟩
      · exact absurd (w ▸ z : T c = 32) (by omega)
      · exact ⟨_, g, .inl w⟩
  obtain ⟨p, a1, pc1⟩ := pc
  obtain ⟨s1, s2, s3, s4⟩ := a1.semi pc1 c59 (by omega)
  have hw := hwl T _ t3.1
  have W := s2.word (i := i) hi.2 c2 hw (by exact hNl.2.2) (by omega)
  have nB := CB_nxt g3
  have n33 : 0 < nxt m1 34 0 3 := by omega
  have D2 : DRN (st1 (nxt m1)) N := g6.k (fun k hk => by rw [st1_k (by omega), s3 k (by omega)])
  have R := hR (st1 (nxt m1)) T len _ ((L.length : Int) + (sp.length : Int) + sL i + ((NS ns).length : Int)) W.2.2 ⟨hNl.2.1, rfl, hl, hE.nd⟩ hE (CB_st1 nB) D2
  have ns1 : ¬ stP (nxt m1) := by
    unfold stP
    rw [W.2.1]
    intro z
    rcases z with z | z
    · omega
    · exact z ⟨fun q => by omega, fun q => by omega⟩
  have eM : stM (nxt m1) = rdK (st1 (nxt m1)) (i : Int) := by
    unfold stM
    rw [if_neg ns1, W.2.1, if_neg R.1]
  have K := RK_st s2.1
  refine ⟨stM (nxt m1), k + 1, fun n => ?_, ?_, CB_st s2.1 nB, ?_, ?_, by rw [eM]; exact R.2.2⟩
  · rw [show k + 1 + n = k + (n + 1) by omega, g1]
    show (if seP m1 then ldL (stM (nxt m1)) n else seM m1) = _
    rw [if_pos s1]
  · rw [List.length_append, List.length_append]
    omega
  · rw [eM, eT, eL]
    exact R.2.1
  · rw [K.2.2.1]
    omega
