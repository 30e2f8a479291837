/-! the law's start -/
def lsD : List (Nat × Nat) := (((((pkD ++ [(41, 0)]) ++ [(42, 0), (43, 0), (44, 0), (45, 0), (46, 0), (47, 0), (48, 0)]) ++ [(49, 0)]) ++ [(50, 0)]))
def lsS : List (Nat × Nat × Nat) := pkS ++ [(41, 0, 0), (41, 0, 1), (41, 0, 2), (41, 0, 3), (41, 0, 4), (41, 0, 5), (41, 0, 8)]
def lsL : List (Nat × Nat) := (38, 0) :: (pkL ++ ((41, 0) :: ([(42, 0), (43, 0), (44, 0), (45, 0), (46, 0), (47, 0), (48, 0)] ++ [(49, 0), (50, 0)])))
theorem ls_1 : ∀ q ∈ dom0, q ∈ lsD := by decide +kernel
theorem ls_n : dom0.Nodup := by decide +kernel
theorem ls_2 : ∀ (a b : Nat) (q : Nat × Nat), dom0[a]? = some q → dom0[b]? = some q → a = b := by
  intro a b q ha hb
  obtain ⟨h1, e1⟩ := List.getElem?_eq_some_iff.mp ha
  obtain ⟨h2, e2⟩ := List.getElem?_eq_some_iff.mp hb
  have hp := List.pairwise_iff_getElem.mp ls_n
  rcases Nat.lt_trichotomy a b with h | h | h
  · exact absurd (e1.trans e2.symm) (hp a b h1 h2 h)
  · exact h
  · exact absurd (e2.trans e1.symm) (hp b a h2 h1 h)
theorem ls_16 {k i j : Nat} (h : jn k j = true) (h2 : (MR0 k i j).isSome = true) : j < 17 := by
  by_cases e37 : k = 37
  · subst e37
    have : j < 8 := of_decide_eq_true h
    omega
  · by_cases e39 : k = 39
    · subst e39
      have : j < 2 := of_decide_eq_true h
      omega
    · revert h2
      unfold MR0
      split <;> intro h2 <;> first | omega | (exfalso; revert h2; decide) | (exfalso; exact absurd rfl e37) | (exfalso; exact absurd rfl e39)
theorem ls_3b : (dom0.all fun q => (List.range 17).all fun j => !(MR0 q.1 q.2 j).isSome || (!jn q.1 j || decide ((q.1, q.2, j) ∈ lsS))) = true := by decide +kernel
theorem ls_3 (k i : Nat) (hm : (k, i) ∈ dom0) (j : Nat) (hj : j < 17) (h1 : (MR0 k i j).isSome = true) (h2 : jn k j = true) : (k, i, j) ∈ lsS := by
  have a := List.all_eq_true.mp (List.all_eq_true.mp ls_3b (k, i) hm) j (List.mem_range.mpr hj)
  dsimp only at a
  rw [h1, h2] at a
  exact of_decide_eq_true a
theorem ls_4 : ∀ k i, (k, i) ∈ dom0 → ∀ j, jn k j = true → rS lsS k i j = MR0 k i j := by
  intro k i hm j hj
  unfold rS
  by_cases g : (k, i, j) ∈ lsS
  · rw [if_pos g]
  · rw [if_neg g]
    cases hr : MR0 k i j with
    | none => rfl
    | some q =>
      have e : (MR0 k i j).isSome = true := by rw [hr]; rfl
      exact absurd (ls_3 k i hm j (ls_16 hj e) e hj) g
theorem FRe_0 : FRe [] m00 [] := ⟨fun _ _ _ h => (by cases h), fun _ _ _ _ => rfl⟩
theorem ls_28 {G : GG} (hL : gV G 8 ≤ 2560) (ha : HA G (gB G) lsL) : ∃ h', X G ML_law room_1 0 [(0, .ref (gV G 7))] [] (hN [] m00 [] (gB G)) 0 0 (.inl (some (.int (iI 1)))) h' := by
  have hI := IV_0
  obtain ⟨h', hl⟩ := law_loop (G := G) hL 512 m28 0 352 11711 0 IV_0 (by decide) (by decide) (by omega) (by decide) (by decide)
  refine ⟨h', ?_⟩
  have f0 : FRe [(38, 0)] m00 [] := FRe_0.dd [(38, 0)]
  have f1 := fr_ct_Pack f0
  have f2 := f1.dd [(41, 0)]
  have hap : HA G (gB G + 1) pkL := ha.sub 1 (by decide +kernel)
  have ham : HA G (gB G + 343) [(42, 0), (43, 0), (44, 0), (45, 0), (46, 0), (47, 0), (48, 0)] := ha.sub 343 (by decide +kernel)
  refine n_new (pc := 0) (k := 38) (i := 0) (q := vwQ7) dL_law_0 (in_ctx 22 (by decide +kernel) rfl) (in_ctx 23 (by decide +kernel) rfl) (in_ctx 1 (by decide +kernel) rfl) rfl rfl nf_7 (ha.get 0 (38, 0) (by decide +kernel)) FRe_0 (by decide) (by decide) (by decide) ?_
  refine x_dup (pc := 3) dL_law_3 rfl ?_
  have hc4 := ct_Packu (G := G) (n := gB G + 1) f0 hap
  refine x_callI (pc := 4) [] dL_law_4 hc4 lkL_128 rfl rfl (by decide +kernel) (Nat.le_of_ble_eq_true rfl) rfl ?_
  refine x_astore_n (pc := 7) (lv' := [(1, _), (0, _)]) dL_law_7 rfl (by decide) rfl ?_
  refine n_new (pc := 8) (k := 41) (i := 0) (q := vwQ8) dL_law_8 (in_ctx 1142 (by decide +kernel) rfl) (in_ctx 1143 (by decide +kernel) rfl) (in_ctx 10 (by decide +kernel) rfl) rfl rfl nf_8 (ha.get 342 (41, 0) (by decide +kernel)) f1 (by decide +kernel) (by decide +kernel) (by decide +kernel) ?_
  refine x_dup (pc := 11) dL_law_11 rfl ?_
  have hc12 := ct_Modelu (G := G) (D := pkD ++ [(41, 0)]) (m := pkM m00) (S := pkS) (n := gB G + 343) (by decide +kernel) f2 (by decide +kernel) ham
  refine x_callI (pc := 12) [] dL_law_12 hc12 lkL_131 rfl rfl (by decide +kernel) (Nat.le_of_ble_eq_true rfl) rfl ?_
  have f3 : FRe ((pkD ++ [(41, 0)]) ++ [(42, 0), (43, 0), (44, 0), (45, 0), (46, 0), (47, 0), (48, 0)]) m28 lsS := by
    have a1 := f2.dd [(42, 0), (43, 0), (44, 0), (45, 0), (46, 0), (47, 0), (48, 0)]
    have a2 := (a1.m (k := 41) (i := 0) (j := 17) (z := -1) (by decide +kernel)).bg (by decide +kernel)
    exact a2.ss (L := [(41, 0, 0), (41, 0, 1), (41, 0, 2), (41, 0, 3), (41, 0, 4), (41, 0, 5), (41, 0, 8)]) (by decide +kernel)
  refine x_astore_n (pc := 15) (lv' := [(2, _), (1, _), (0, _)]) dL_law_15 rfl (by decide) rfl ?_
  refine x_iconst (pc := 16) dL_law_16 ?_
  refine n_arrJ (pc := 17) (k := 49) (i := 0) dL_law_17 rfl (ha.get 350 (49, 0) (by decide +kernel)) f3 (by decide +kernel) rfl (by decide) (by decide +kernel) (by decide +kernel) ?_
  refine x_astore_n (pc := 19) (lv' := [(3, _), (2, _), (1, _), (0, _)]) dL_law_19 rfl (by decide) rfl ?_
  refine x_iconst (pc := 20) dL_law_20 ?_
  refine n_arrD (pc := 21) (k := 50) (i := 0) dL_law_21 rfl (ha.get 351 (50, 0) (by decide +kernel)) (f3.dd _) (by decide +kernel) rfl (by decide) (by decide +kernel) (by decide +kernel) ?_
  refine x_astore (pc := 23) (lv' := [(4, _), (3, _), (2, _), (1, _), (0, _)]) dL_law_23 (by decide) rfl ?_
  refine x_iconst (pc := 25) dL_law_25 ?_
  refine x_istore (pc := 26) (lv' := [(5, _), (4, _), (3, _), (2, _), (1, _), (0, _)]) dL_law_26 (by decide) rfl ?_
  refine x_dom (D := lsD) (m := m28) (S := lsS) ls_1 ls_2 ls_4 ?_
  exact x_lv [0, 5, 4, 3, 2, 1] rfl hl
