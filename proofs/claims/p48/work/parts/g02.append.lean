/-! the text builder: what is appended -/
theorem Cy.ofCt {G : GG} {M : Mth} {R : Room} {av : List Value} {h h1 : Hp} {v : Option Value} (hC : Ct G M R av h (.inl v) h1) : Cy G M R av h (fun v' h' => v' = v ∧ h' = h1) := by
  refine ⟨hC.1, fun l hst => ?_⟩
  intro p e ha hf hc s m args below g1 g2 g3 g4
  obtain ⟨n, o, a, b, c, d⟩ := hC.2 l hst p e ha hf hc s m args below g1 g2 g3 g4
  refine ⟨n, o, a, b, c, ?_⟩
  rcases d with ⟨d1, d2⟩ | ⟨q, x1, E, ce, L, hx, x2⟩
  · exact .inl ⟨⟨v, h1, d1.1, ⟨rfl, rfl⟩, d1.2⟩, d2⟩
  · exact absurd hx id
def tab (f : Nat → Int) : Nat → Nat → List Int
  | 0, _ => []
  | n + 1, j => f j :: tab f n (j + 1)
theorem tab_len (f : Nat → Int) : ∀ (n j : Nat), (tab f n j).length = n := by
  intro n
  induction n with
  | zero => intro j; rfl
  | succ n ih => intro j; show (tab f n (j + 1)).length + 1 = n + 1; rw [ih]
theorem tab_at {T : Int → Int} (f : Nat → Int) : ∀ (n j : Nat) (p : Int), (∀ i : Nat, i < n → T (p + (i : Int)) = f (j + i)) → TXat T p (tab f n j) := by
  intro n
  induction n with
  | zero => intro j p _; trivial
  | succ n ih =>
    intro j p h
    have h0 := h 0 (by omega)
    rw [show p + ((0 : Nat) : Int) = p by omega] at h0
    exact ⟨h0, ih (j + 1) (p + 1) (fun i hi => by
      have := h (i + 1) (by omega)
      rw [show p + 1 + (i : Int) = p + ((i + 1 : Nat) : Int) by omega, show j + 1 + i = j + (i + 1) by omega]
      exact this)⟩
def lit (t : Nat) : List Int := tab (sB t) (sL t).toNat 0
theorem lit_len {t : Nat} (ht : t < 15) : ((lit t).length : Int) = sL t := by
  have := sL_b ht
  unfold lit
  rw [tab_len]
  omega
theorem TXat_in {T : Int → Int} : ∀ (A : List Int) (p : Int), TXat T p A → ∀ j : Int, p ≤ j → j < p + (A.length : Int) → T j ∈ A := by
  intro A
  induction A with
  | nil => intro p _ j h1 h2; change j < p + ((0 : Nat) : Int) at h2; exfalso; omega
  | cons a A ih =>
    intro p h j h1 h2
    have hl : ((a :: A).length : Int) = (A.length : Int) + 1 := by simp
    by_cases e : j = p
    · rw [e, h.1]; exact List.mem_cons_self
    · exact List.mem_cons_of_mem _ (ih (p + 1) h.2 j (by omega) (by omega))
/-- more text behind what is there -/
theorem BB.more {h h2 : Hp} {b val cap : Nat} {L X : List Int} (hB : BB h b val cap L) (hn : L.length + X.length ≤ cap) (m1 : (58, b) ∈ h2.1) (m2 : (ak 1 cap, val) ∈ h2.1) (r : h2.2.2.1 58 b 0 = some (ak 1 cap, val)) (c : h2.2.1 58 b 1 = 0) (k : h2.2.1 58 b 3 = (L.length : Int) + (X.length : Int)) (v : ∀ j : Int, 0 ≤ j → j < cap → ¬ ((L.length : Int) ≤ j ∧ j < (L.length : Int) + (X.length : Int)) → h2.2.1 (ak 1 cap) val j = h.2.1 (ak 1 cap) val j) (w : TXat (h2.2.1 (ak 1 cap) val) (L.length : Int) X) (by_ : ∀ a ∈ X, -128 ≤ a ∧ a < 128) : BB h2 b val cap (L ++ X) := by
  obtain ⟨a1, a2, a3, a4, a5, a6, a7, a8, a9⟩ := hB
  refine ⟨m1, m2, r, c, by rw [k, List.length_append]; omega, by rw [List.length_append]; omega, a7, (TXat_app L 0).mpr ⟨a8.cg _ _ (fun j j0 j1 => v j j0 (by omega) (by omega)), by rw [show (0 : Int) + (L.length : Int) = (L.length : Int) by omega]; exact w⟩, fun j j0 j1 => ?_⟩
  by_cases g : (L.length : Int) ≤ j ∧ j < (L.length : Int) + (X.length : Int)
  · exact by_ _ (TXat_in X _ w j g.1 g.2)
  · rw [v j j0 j1 g]
    exact a9 j j0 j1
theorem BB.ne {h : Hp} {b val cap : Nat} {L : List Int} (hB : BB h b val cap L) (u : UQ h) : ¬ val = b := fun z => by
  have := u 58 (ak 1 cap) b (by decide) ak_ge hB.1 (by rw [← z]; exact hB.2.1)
  unfold ak at this
  omega
theorem cb_getB {G : GG} {h : Hp} {b val cap : Nat} {L : List Int} (hB : BB h b val cap L) {t : Nat} (ht : t < 15) (hfit : L.length + (sL t).toNat ≤ cap) : Cy G MJ0_getBytes_840e7 (rmL 1 0 0) [.ref (gK G t), rf G (ak 1 cap) val, .int (iI (L.length : Int)), .int (iI 0)] h (fun v h1 => v = none ∧ ∃ n', h1 = cpB h (fun j => sB t j) (ak 1 cap) val L.length (sL t).toNat n') := by
  refine o_entry (by decide +kernel) mwJ0_getBytes_840e7 rfl (Nat.le_of_ble_eq_true rfl) ?_
  show YY G MJ0_getBytes_840e7 (rmL 1 0 0) 0 [(0, .ref (gK G t)), (1, rf G (ak 1 cap) val), (2, .int (iI (L.length : Int))), (3, .int (iI 0))] [] h 0 0 _
  have hl := hB.2.2.2.2.2.1
  have hc := hB.2.2.2.2.2.2.1
  refine o_aload_n (pc := 0) dJ0_getBytes_840e7_0 0 rfl ?_
  refine o_callT (pc := 1) (t) ht _ dJ0_getBytes_840e7_1 (Cy.ofCt (ct_coder ht)) lkJ0_335 rfl rfl ⟨⟨by simp only [rmL, rmD]; omega, by simp only [rmL, rmD]; omega⟩, by simp only [rmL, rmD]; omega, by simp only [rmL, rmD]; omega⟩ (Nat.le_of_ble_eq_true rfl) rfl (fun v h1 hq => ?_)
  obtain ⟨rfl, e2⟩ := hq
  obtain rfl := e2.symm
  refine o_iload_n (pc := 4) dJ0_getBytes_840e7_4 3 rfl ?_
  refine o_icmp_ne (pc := 5) 28 dJ0_getBytes_840e7_5 (by decide) (by unfold inI; omega) (by unfold inI; omega) (fun c_5 => absurd rfl c_5) (fun c_5 => ?_)
  refine o_aload_n (pc := 8) dJ0_getBytes_840e7_8 0 rfl ?_
  refine o_strV (pc := 9) ht dJ0_getBytes_840e7_9 (in_ctx 1737 (by decide +kernel) rfl) ?_
  refine o_iconst (pc := 12) dJ0_getBytes_840e7_12 ?_
  refine o_aload_n (pc := 13) dJ0_getBytes_840e7_13 1 rfl ?_
  refine o_iload_n (pc := 14) dJ0_getBytes_840e7_14 2 rfl ?_
  refine o_iload_n (pc := 15) dJ0_getBytes_840e7_15 3 rfl ?_
  refine o_ishl (pc := 16) dJ0_getBytes_840e7_16 ishl0 ?_
  refine o_aload_n (pc := 17) dJ0_getBytes_840e7_17 0 rfl ?_
  refine o_strV (pc := 18) ht dJ0_getBytes_840e7_18 (in_ctx 1737 (by decide +kernel) rfl) ?_
  refine o_strN (pc := 21) ht dJ0_getBytes_840e7_21 ?_
  refine o_copyT (pc := 22) ht dJ0_getBytes_840e7_22 acJ0_212 (shp_ak (by decide)) hB.2.1 hfit (by omega) (Nat.le_of_ble_eq_true rfl) (Nat.le_of_ble_eq_true rfl) (fun n1 => ?_)
  refine o_goto (pc := 25) 43 dJ0_getBytes_840e7_25 (by decide) ?_
  exact o_vret (pc := 43) dJ0_getBytes_840e7_43 rfl (by first | omega | (simp only [rmL, rmD]; omega)) (by first | omega | (simp only [rmL, rmD]; omega)) ⟨rfl, n1, rfl⟩
theorem cb_infl {G : GG} {h : Hp} {b val cap : Nat} {L : List Int} (hB : BB h b val cap L) {t : Nat} (ht : t < 15) : Cy G MJ5_inflateIfNeededFor_a7421 (rmL 1 0 0) [rf G 58 b, .ref (gK G t)] h (fun v h1 => v = none ∧ h1 = h) := by
  refine o_entry (by decide +kernel) mwJ5_inflateIfNeededFor_a7421 rfl (Nat.le_of_ble_eq_true rfl) ?_
  show YY G MJ5_inflateIfNeededFor_a7421 (rmL 1 0 0) 0 [(0, rf G 58 b), (1, .ref (gK G t))] [] h 0 0 _
  refine o_compact (pc := 0) dJ5_inflateIfNeededFor_a7421_0 fsJ5_18 ?_
  refine o_if_eq (pc := 3) 21 dJ5_inflateIfNeededFor_a7421_3 (by decide) (by unfold inI; omega) (fun c_3 => (by exfalso; omega)) (fun c_3 => ?_)
  refine o_aload_n (pc := 6) dJ5_inflateIfNeededFor_a7421_6 0 rfl ?_
  refine o_gI (pc := 7) (j := 1) dJ5_inflateIfNeededFor_a7421_7 flJ5_22 rfl rfl hB.1 hB.2.2.2.1 ?_
  refine o_aload_n (pc := 10) dJ5_inflateIfNeededFor_a7421_10 1 rfl ?_
  refine o_callT (pc := 11) (t) ht _ dJ5_inflateIfNeededFor_a7421_11 (Cy.ofCt (ct_coder ht)) lkJ5_40 rfl rfl ⟨⟨by simp only [rmL, rmD]; omega, by simp only [rmL, rmD]; omega⟩, by simp only [rmL, rmD]; omega, by simp only [rmL, rmD]; omega⟩ (Nat.le_of_ble_eq_true rfl) rfl (fun v h1 hq => ?_)
  obtain ⟨rfl, e2⟩ := hq
  obtain rfl := e2.symm
  refine o_icmp_eq (pc := 14) 21 dJ5_inflateIfNeededFor_a7421_14 (by decide) (by unfold inI; omega) (by unfold inI; omega) (fun c_14 => ?_) (fun c_14 => (by exfalso; omega))
  exact o_vret (pc := 21) dJ5_inflateIfNeededFor_a7421_21 rfl (by first | omega | (simp only [rmL, rmD]; omega)) (by first | omega | (simp only [rmL, rmD]; omega)) ⟨rfl, rfl⟩
theorem cb_put {G : GG} {h : Hp} {b val cap : Nat} {L : List Int} (hB : BB h b val cap L) {t : Nat} (ht : t < 15) (hfit : L.length + (sL t).toNat ≤ cap) : Cy G MJ5_putStringAt_47b60 (rmL 2 0 0) [rf G 58 b, .int (iI (L.length : Int)), .ref (gK G t)] h (fun v h1 => v = none ∧ ∃ n', h1 = cpB h (fun j => sB t j) (ak 1 cap) val L.length (sL t).toNat n') := by
  refine o_entry (by decide +kernel) mwJ5_putStringAt_47b60 rfl (Nat.le_of_ble_eq_true rfl) ?_
  show YY G MJ5_putStringAt_47b60 (rmL 2 0 0) 0 [(0, rf G 58 b), (1, .int (iI (L.length : Int))), (2, .ref (gK G t))] [] h 0 0 _
  refine o_aload_n (pc := 0) dJ5_putStringAt_47b60_0 0 rfl ?_
  refine o_aload_n (pc := 1) dJ5_putStringAt_47b60_1 2 rfl ?_
  refine o_callP (pc := 2) (q := (RJ4, TJ4, 4)) _ dJ5_putStringAt_47b60_2 (cb_infl hB ht) lpJ5_397 rfl rfl rfl hB.1 ⟨⟨by simp only [rmL, rmD]; omega, by simp only [rmL, rmD]; omega⟩, by simp only [rmL, rmD]; omega, by simp only [rmL, rmD]; omega⟩ (Nat.le_of_ble_eq_true rfl) rfl (fun v h1 hq => ?_)
  obtain ⟨rfl, e2⟩ := hq
  obtain rfl := e2.symm
  refine o_aload_n (pc := 5) dJ5_putStringAt_47b60_5 2 rfl ?_
  refine o_aload_n (pc := 6) dJ5_putStringAt_47b60_6 0 rfl ?_
  refine o_gR (pc := 7) (j := 0) ((ak 1 cap)) (val) dJ5_putStringAt_47b60_7 flJ5_15 rfl rfl hB.1 hB.2.2.1 ?_
  refine o_iload_n (pc := 10) dJ5_putStringAt_47b60_10 1 rfl ?_
  refine o_aload_n (pc := 11) dJ5_putStringAt_47b60_11 0 rfl ?_
  refine o_gI (pc := 12) (j := 1) dJ5_putStringAt_47b60_12 flJ5_22 rfl rfl hB.1 hB.2.2.2.1 ?_
  refine o_callT (pc := 15) (t) ht _ dJ5_putStringAt_47b60_15 (cb_getB hB ht hfit) lkJ5_399 rfl rfl ⟨⟨by simp only [rmL, rmD]; omega, by simp only [rmL, rmD]; omega⟩, by simp only [rmL, rmD]; omega, by simp only [rmL, rmD]; omega⟩ (Nat.le_of_ble_eq_true rfl) rfl (fun v h1 hq => ?_)
  obtain ⟨rfl, n1, rfl⟩ := hq
  exact o_vret (pc := 18) dJ5_putStringAt_47b60_18 rfl (by first | omega | (simp only [rmL, rmD]; omega)) (by first | omega | (simp only [rmL, rmD]; omega)) ⟨rfl, n1, rfl⟩
theorem cb_lat {G : GG} {h : Hp} {b val cap : Nat} {L : List Int} (hB : BB h b val cap L) : Cy G MJ5_isLatin1_aae02 (rmL 0 0 0) [rf G 58 b] h (fun v h1 => v = some (.int (iI 1)) ∧ h1 = h) := by
  refine o_entry (by decide +kernel) mwJ5_isLatin1_aae02 rfl (Nat.le_of_ble_eq_true rfl) ?_
  show YY G MJ5_isLatin1_aae02 (rmL 0 0 0) 0 [(0, rf G 58 b)] [] h 0 0 _
  refine o_compact (pc := 0) dJ5_isLatin1_aae02_0 fsJ5_18 ?_
  refine o_if_eq (pc := 3) 17 dJ5_isLatin1_aae02_3 (by decide) (by unfold inI; omega) (fun c_3 => (by exfalso; omega)) (fun c_3 => ?_)
  refine o_aload_n (pc := 6) dJ5_isLatin1_aae02_6 0 rfl ?_
  refine o_gI (pc := 7) (j := 1) dJ5_isLatin1_aae02_7 flJ5_22 rfl rfl hB.1 hB.2.2.2.1 ?_
  refine o_if_ne (pc := 10) 17 dJ5_isLatin1_aae02_10 (by decide) (by unfold inI; omega) (fun c_10 => (by exfalso; omega)) (fun c_10 => ?_)
  refine o_iconst (pc := 13) dJ5_isLatin1_aae02_13 ?_
  refine o_goto (pc := 14) 18 dJ5_isLatin1_aae02_14 (by decide) ?_
  exact o_zret (pc := 18) dJ5_isLatin1_aae02_18 rfl rfl (Nat.le_of_ble_eq_true rfl) (Nat.le_of_ble_eq_true rfl) ⟨rfl, rfl⟩
