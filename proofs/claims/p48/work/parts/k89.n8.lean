/-! History -/
def stB (s : Nat) : List (Nat × Nat) := [(3, s), (4, s), (5, s), (6, s), (7, s), (8, s), (9, s), (10, s), (1, s), (11, s), (12, s), (13, s), (14, s), (2, s), (15, s), (16, s), (17, s), (18, s), (19, s), (20, s), (21, s)]
def stQ (s : Nat) : List (Nat × Nat × Nat) := [(0, s, 4), (0, s, 5), (0, s, 6), (0, s, 7), (0, s, 8), (0, s, 9), (0, s, 10), (0, s, 11), (1, s, 1), (1, s, 2), (1, s, 3), (1, s, 4), (0, s, 12), (2, s, 1), (2, s, 2), (2, s, 3), (2, s, 4), (2, s, 5), (2, s, 6), (2, s, 7), (0, s, 13)]
def hbD : Nat → Nat → List (Nat × Nat)
  | _, 0 => []
  | t, c + 1 => (0, 5 + t) :: (stB (5 + t) ++ hbD (t + 1) c)
def hbS : Nat → Nat → List (Nat × Nat × Nat)
  | _, 0 => []
  | t, c + 1 => stQ (5 + t) ++ (37, 0, t) :: hbS (t + 1) c
theorem x_cs {G : GG} {M : Mth} {R : Room} {pc : Nat} {lv : List (Nat × Value)} {st : List Value} {h h' : Hp} {c0 s0 c1 s1 : Nat} {res : Res} (e1 : c1 = c0) (e2 : s1 = s0) (k : X G M R pc lv st h c1 s1 res h') : X G M R pc lv st h c0 s0 res h' := by subst e1 e2; exact k
theorem stB_2 {s : Nat} : ∀ q ∈ stB s, q.2 = s := by
  intro q hq
  simp only [stB, List.mem_cons, List.not_mem_nil, or_false] at hq
  rcases hq with rfl | rfl | rfl | rfl | rfl | rfl | rfl | rfl | rfl | rfl | rfl | rfl | rfl | rfl | rfl | rfl | rfl | rfl | rfl | rfl | rfl <;> rfl
theorem stB_1 {s : Nat} : ∀ q ∈ stB s, q.1 < 22 ∧ q.1 ≠ 0 := by
  intro q hq
  simp only [stB, List.mem_cons, List.not_mem_nil, or_false] at hq
  rcases hq with rfl | rfl | rfl | rfl | rfl | rfl | rfl | rfl | rfl | rfl | rfl | rfl | rfl | rfl | rfl | rfl | rfl | rfl | rfl | rfl | rfl <;> simp
theorem h_rm : ∀ t, t < 8 → roomOk { frames := 5, cells := 177, slots := 2272, locals := 280 } { frames := 3, cells := 21, slots := 269, locals := 160 } (1 + 22 * t + 1) (8 + 283 * t + 14) MX4_init.2.2.1 = true := by decide +kernel
theorem lp_hist {G : GG} {m : Mem} : ∀ (c t n : Nat) (D : List (Nat × Nat)) (S : List (Nat × Nat × Nat)), t + c = 8 → (36, 0) ∈ D → (37, 0) ∈ D → (36, 0, 2) ∈ S → FRe D m S → (∀ k i, k < 22 → 5 + t ≤ i → (k, i) ∉ D) → HA G n (hbD t c) → X G MX0_init { frames := 5, cells := 177, slots := 2272, locals := 280 } 15 [(1, .int (iI (t : Int))), (0, rf G 36 0)] [] (hN D m S n) (1 + 22 * t) (8 + 283 * t) (.inl none) (hN (D ++ hbD t c) m (S ++ hbS t c) (n + 22 * c)) := by
  intro c
  induction c with
  | zero =>
    intro t n D S h8 h36 h37 hS hf hn ha
    have e : t = 8 := by omega
    subst e
    refine x_iload_n (pc := 15) dX0_init_15 0 rfl ?_
    refine x_bipush (pc := 16) (z := 8) dX0_init_16 (by decide +kernel) ?_
    refine x_icmp_ge (pc := 18) 40 dX0_init_18 (by decide) (by unfold inI; decide) (by unfold inI; decide) (fun _ => ?_) (fun q => absurd (by decide) q)
    refine x_hp (h' := hN D m S n) (by simp only [hbD, hbS, List.append_nil, Nat.mul_zero, Nat.add_zero]) ?_
    exact x_vret (pc := 40) dX0_init_40 rfl (by decide) (by decide)
  | succ c ih =>
    intro t n D S h8 h36 h37 hS hf hn ha
    have ht : t < 8 := by omega
    have ha1 : HA G n ((0, 5 + t) :: (stB (5 + t) ++ hbD (t + 1) c)) := ha
    refine x_iload_n (pc := 15) dX0_init_15 0 rfl ?_
    refine x_bipush (pc := 16) (z := 8) dX0_init_16 (by decide +kernel) ?_
    refine x_icmp_ge (pc := 18) 40 dX0_init_18 (by decide) (by unfold inI; omega) (by unfold inI; omega) (fun q => (by exfalso; omega)) (fun _ => ?_)
    refine x_aload_n (pc := 21) dX0_init_21 1 rfl ?_
    refine n_getR (pc := 22) (j := 2) (a := 37) (b := 0) dX0_init_22 flX0_11 rfl rfl h36 hS rfl ?_
    refine x_iload_n (pc := 25) dX0_init_25 0 rfl ?_
    refine n_new (pc := 26) (k := 0) (i := 5 + t) (q := vwQ8) dX0_init_26 (in_ctx 356 (by decide +kernel) rfl) (in_ctx 142 (by decide +kernel) rfl) (in_ctx 5 (by decide +kernel) rfl) rfl rfl nf_8 ha1.1 hf (hn 0 (5 + t) (by omega) (by omega)) (by show _ ≤ 177; omega) (by show 8 + 283 * t + 14 ≤ 2272; omega) ?_
    refine x_dup (pc := 29) dX0_init_29 rfl ?_
    have hnn : ∀ q ∈ stB (5 + t), q ∉ D ++ [(0, 5 + t)] := fun q hq => nin_app (hn q.1 q.2 (stB_1 q hq).1 (by have := stB_2 q hq; omega)) (fun z => (stB_1 q hq).2 (congrArg Prod.fst (List.mem_singleton.mp z)))
    have hm0 : (0, 5 + t) ∈ D ++ [(0, 5 + t)] := List.mem_append_right _ (List.mem_singleton.mpr rfl)
    have hf1 : FRe (D ++ [(0, 5 + t)]) m S := hf.dd _
    have hf2 : FRe (D ++ [(0, 5 + t)] ++ stB (5 + t)) m (S ++ stQ (5 + t)) := fr_ct_State hm0 hf1
    have h37b : (37, 0) ∈ D ++ [(0, 5 + t)] ++ stB (5 + t) := List.mem_append_left _ (List.mem_append_left _ h37)
    have hf3 : FRe (D ++ [(0, 5 + t)] ++ stB (5 + t)) m (S ++ stQ (5 + t) ++ [(37, 0, t)]) := hf2.s h37b
    have ha2 : HA G (n + 22) (hbD (t + 1) c) := by
      have k := HA.post (l1 := stB (5 + t)) ha1.2
      have e : (stB (5 + t)).length = 21 := rfl
      rw [e] at k
      exact k
    have hc30 := ct_Stateu (G := G) (D := D ++ [(0, 5 + t)]) (m := m) (S := S) (n := n + 1) (by omega) hm0 hf1 hnn (HA.pre (l1 := stB (5 + t)) ha1.2)
    refine x_callIN (pc := 30) [] dX0_init_30 (hc30) lkX0_17 rfl rfl (h_rm t ht) (Nat.le_of_ble_eq_true rfl) rfl ?_
    refine x_aastR (pc := 33) (tag := 0) (q := vwQ8) (CC := RX4) t dX0_init_33 rfl rfl h37b (List.mem_append_left _ hm0) rfl rfl rfl rfl ht rfl (by decide) ?_
    refine x_iinc (pc := 34) (lv' := [(1, .int (iI ((t : Int) + 1))), (0, _)]) dX0_init_34 0 rfl (by decide) rfl ?_
    refine x_goto (pc := 37) 15 dX0_init_37 (by decide) ?_
    have k2 := ih (t + 1) (n + 22) (D ++ [(0, 5 + t)] ++ stB (5 + t)) (S ++ stQ (5 + t) ++ [(37, 0, t)]) (by omega) (List.mem_append_left _ (List.mem_append_left _ h36)) h37b (List.mem_append_left _ (List.mem_append_left _ hS)) hf3 (fun k i hk hi => nin_app (nin_app (hn k i hk (by omega)) (fun z => by have := congrArg Prod.snd (List.mem_singleton.mp z); dsimp only at this; omega)) (fun z => by have := stB_2 _ z; dsimp only at this; omega)) ha2
    rw [show ((t + 1 : Nat) : Int) = (t : Int) + 1 by omega] at k2
    refine x_hp (h' := hN (D ++ [(0, 5 + t)] ++ stB (5 + t) ++ hbD (t + 1) c) m (S ++ stQ (5 + t) ++ [(37, 0, t)] ++ hbS (t + 1) c) (n + 22 + 22 * c)) (by rw [show hbD t (c + 1) = (0, 5 + t) :: (stB (5 + t) ++ hbD (t + 1) c) from rfl, show hbS t (c + 1) = stQ (5 + t) ++ (37, 0, t) :: hbS (t + 1) c from rfl, show n + 22 * (c + 1) = n + 22 + 22 * c by omega]; simp only [List.append_assoc, List.cons_append, List.nil_append]) ?_
    refine x_cs (c1 := 1 + 22 * (t + 1)) (s1 := 8 + 283 * (t + 1)) (by show _ = 1 + 22 * t + 1 + 21; omega) (by show _ = 8 + 283 * t + 14 + 269; omega) ?_
    exact x_lv [0, 1] rfl k2
theorem ct_Historyu {G : GG} {D : List (Nat × Nat)} {m : Mem} {S : List (Nat × Nat × Nat)} {n : Nat} (hs : (36, 0) ∈ D) (hf : FRe D m S) (h37 : (37, 0) ∉ D) (hn : ∀ k i, k < 22 → 5 ≤ i → (k, i) ∉ D) (ha : HA G n ((37, 0) :: hbD 0 8)) : Ct G MX0_init { frames := 5, cells := 177, slots := 2272, locals := 280 } [rf G 36 0] (hN D m S n) (.inl none) (hN (D ++ (37, 0) :: hbD 0 8) m (S ++ (36, 0, 2) :: hbS 0 8) (n + 177)) := by
  refine x_entry (by decide +kernel) mwX0_init rfl (Nat.le_of_ble_eq_true rfl) ?_
  show X G MX0_init { frames := 5, cells := 177, slots := 2272, locals := 280 } 0 [(0, rf G 36 0)] [] (hN D m S n) 0 0 (.inl none) _
  refine x_aload_n (pc := 0) dX0_init_0 0 rfl ?_
  refine x_obj (pc := 1) dX0_init_1 (in_ctx 355 (by decide +kernel) rfl) ob_in ob_co (by decide) ⟨rfl, rfl⟩ ?_
  refine x_aload_n (pc := 4) dX0_init_4 0 rfl ?_
  refine x_bipush (pc := 5) (z := 8) dX0_init_5 (by decide +kernel) ?_
  refine n_anew (pc := 7) (k := 37) (i := 0) (tag := 0) (N := 8) (C := "PackLoans$State") dX0_init_7 (in_ctx 356 (by decide +kernel) rfl) (fun s h => h.2.2.2.2.2.2.2.2.1) rfl rfl ha.1 hf h37 rfl (by decide) (by decide) (by decide) ?_
  refine x_putR (pc := 10) (j := 2) dX0_init_10 ffX0_11 rfl (fun q z => by cases z; rfl) rfl rfl (List.mem_append_left _ hs) rfl rfl rfl ?_
  refine x_iconst (pc := 13) dX0_init_13 ?_
  refine x_istore_n (pc := 14) (lv' := [(1, _), (0, _)]) dX0_init_14 rfl (by decide) rfl ?_
  have k2 := lp_hist (G := G) (m := m) 8 0 (n + 1) (D ++ [(37, 0)]) (S ++ [(36, 0, 2)]) rfl (List.mem_append_left _ hs) (List.mem_append_right _ (List.mem_singleton.mpr rfl)) (List.mem_append_right _ (List.mem_singleton.mpr rfl)) ((hf.dd _).s (List.mem_append_left _ hs)) (fun k i hk hi => nin_app (hn k i hk hi) (fun z => by have := congrArg Prod.fst (List.mem_singleton.mp z); dsimp only at this; omega)) ha.2
  refine x_hp (h' := hN (D ++ [(37, 0)] ++ hbD 0 8) m (S ++ [(36, 0, 2)] ++ hbS 0 8) (n + 1 + 22 * 8)) (by simp only [List.append_assoc, List.cons_append, List.nil_append]) ?_
  exact x_lv [0, 1] rfl k2
