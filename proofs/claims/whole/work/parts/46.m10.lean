def tkNL (N : Int → Int) : Nat → Int → Int
  | 0 => N
  | n + 1 => tkNL (tkN N) n
theorem R_tkL {p s : Nat} : ∀ (n : Nat) (c9 : Mem) (N : Int → Int), BP c9 p → BS c9 p s → RP c9 p N → RS c9 p s N → c9 0 s 0 + n ≤ 11000 → RP (tkL c9 p s n) p (tkNL N n) ∧ RS (tkL c9 p s n) p s (tkNL N n) := by
  intro n
  induction n with
  | zero => intro c9 N hP hB hR hS ht; exact ⟨hR, hS⟩
  | succ n ih =>
    intro c9 N hP hB hR hS ht
    have b := tkC_f hP hB (by omega)
    have r := (R_tk hP hB hR hS).2.2.2.2.2
    exact ih _ _ b.1 b.2 r.1 r.2.1 (by rw [tkC_t]; omega)
theorem lp_run {G : GG} {m : Mem} {p s : Nat} (k : Int) (hk : 0 ≤ k ∧ k ≤ 11000) (N9 : Int → Int) : ∀ (n : Nat) (c9 : Mem) (N : Int → Int) (i : Int), BP c9 p → BS c9 p s → RP c9 p N → RS c9 p s N → c9 0 s 0 + n ≤ 11000 → 0 ≤ i → i + n = k → N9 = tkNL N n → X G MX8_run (rmD 9) 47 [(2, .int (iI i)), (0, rf G 41 0), (1, .int (iI k))] [] (hp (sr m N)) 0 0 (.inl (some (.int (iI (N9 2))))) (hp (sr m N9)) := by
  intro n
  induction n with
  | zero =>
    intro c9 N i hP hB hR hS ht h0 h1 h9
    refine x_iload_n (pc := 47) dX8_run_47 0 rfl ?_
    refine x_iload_n (pc := 48) dX8_run_48 2 rfl ?_
    refine x_icmp_ge (pc := 49) 62 dX8_run_49 (by decide) (by unfold inI; omega) (by unfold inI; omega) (fun c_49 => ?_) (fun c_49 => (by exfalso; omega))
    refine x_aload_n (pc := 62) dX8_run_62 1 rfl ?_
    refine y_getR (pc := 63) dX8_run_63 flX8_9 rfl rfl rfl (by decide) ?_
    refine x_iconst (pc := 66) dX8_run_66 ?_
    refine y_nald (pc := 67) dX8_run_67 (by omega) ?_
    exact y_iret (pc := 68) dX8_run_68 rfl (by rw [h9]; rfl) (by rw [h9]; rfl)
  | succ n ih =>
    intro c9 N i hP hB hR hS ht h0 h1 h9
    have b := tkC_f hP hB (by omega)
    have r := (R_tk hP hB hR hS).2.2.2.2.2
    refine x_iload_n (pc := 47) dX8_run_47 0 rfl ?_
    refine x_iload_n (pc := 48) dX8_run_48 2 rfl ?_
    refine x_icmp_ge (pc := 49) 62 dX8_run_49 (by decide) (by unfold inI; omega) (by unfold inI; omega) (fun c_49 => (by exfalso; omega)) (fun c_49 => ?_)
    refine x_aload_n (pc := 52) dX8_run_52 1 rfl ?_
    refine x_callV (pc := 53) _ dX8_run_53 (mq_passes hP hB hR hS) lkX8_360 rfl rfl rfl rfl (mem_dom0 (by decide) (by decide)) (by decide) (Nat.le_of_ble_eq_true rfl) rfl ?_
    refine x_iinc (pc := 56) (lv' := [(2, _), (0, _), (1, _)]) dX8_run_56 0 rfl (by decide) rfl ?_
    refine x_goto (pc := 59) 47 dX8_run_59 (by decide) ?_
    exact x_lv [0, 1, 2] rfl (ih _ _ (i + 1) b.1 b.2 r.1 r.2.1 (by rw [tkC_t]; omega) (by omega) (by omega) (by rw [h9]; rfl))

def asX (m : Mem) (N N' : Int → Int) : Mem := sr (cpX (sr m N) 42 44 0 0 430) N'
theorem as_sr {m : Mem} {N : Int → Int} : cpX (sr m N) 42 44 0 0 430 = asX m N N := sr_keep (by rw [cpX_k (by decide)]; exact sr_42)
theorem as_back {m : Mem} {N N' : Int → Int} : meq (cpX (asX m N N') 44 42 0 0 430) (asX m N N) := by
  intro k i hk hi j hj
  by_cases h : k = 42
  · subst h
    have hi0 : i = 0 := by
      have : cntP 42 = 1 := by decide
      omega
    subst hi0
    have hj2 : j < 430 := by
      have h2 : rel 42 j = decide (j < 430) := rfl
      rw [h2] at hj
      exact of_decide_eq_true hj
    have e1 : asX m N N 42 0 (j : Int) = N j := by unfold asX; rw [sr_42]
    have e2 : cpX (asX m N N') 44 42 0 0 430 42 0 (j : Int) = asX m N N' 44 0 (j : Int) := by
      unfold cpX
      rw [if_pos ⟨rfl, rfl, by omega, by omega⟩]
      congr 1
      omega
    have e3 : asX m N N' 44 0 (j : Int) = N j := by
      unfold asX
      rw [sr_k (by decide)]
      unfold cpX
      rw [if_pos ⟨rfl, rfl, by omega, by omega⟩, show (430 * 0 + ((j : Int) - 430 * 0)) = j by omega, sr_42]
    rw [e1, e2, e3]
  · rw [cpX_k h]
    unfold asX
    rw [sr_k h, sr_k h]
theorem lp_grown {G : GG} {m : Mem} {N0 : Int → Int} {p s : Nat} (q w k : Int) (hq : 0 ≤ q ∧ q < 8) (hw : 0 ≤ w ∧ w < 7) (hk : 0 ≤ k ∧ k ≤ 11000) (N9 : Int → Int) : ∀ (n : Nat) (c9 : Mem) (N : Int → Int) (i : Int), BP c9 p → BS c9 p s → RP c9 p N → RS c9 p s N → c9 0 s 0 + n ≤ 11000 → 0 ≤ i → i + n = k → N9 = tkNL N n → X G MX8_grownIn (rmD 9) 7 [(4, .int (iI i)), (0, rf G 41 0), (1, .int (iI q)), (2, .int (iI w)), (3, .int (iI k))] [] (hp (asX m N0 N)) 0 0 (.inl (some (.int (iI (N9 (30 + 7 * q + w) - N0 (30 + 7 * q + w)))))) (hp (asX m N0 N0)) := by
  intro n
  induction n with
  | zero =>
    intro c9 N i hP hB hR hS ht h0 h1 h9
    refine x_iload (pc := 7) dX8_grownIn_7 0 rfl ?_
    refine x_iload_n (pc := 9) dX8_grownIn_9 4 rfl ?_
    refine x_icmp_ge (pc := 10) 23 dX8_grownIn_10 (by decide) (by unfold inI; omega) (by unfold inI; omega) (fun c_10 => ?_) (fun c_10 => (by exfalso; omega))
    refine x_aload_n (pc := 23) dX8_grownIn_23 1 rfl ?_
    refine x_iload_n (pc := 24) dX8_grownIn_24 2 rfl ?_
    refine x_iload_n (pc := 25) dX8_grownIn_25 3 rfl ?_
    refine x_callV (pc := 26) _ dX8_grownIn_26 (mq_ofPack q w (by omega)) lkX8_189 rfl rfl rfl rfl (mem_dom0 (by decide) (by decide)) (by decide) (Nat.le_of_ble_eq_true rfl) rfl ?_
    refine x_istore (pc := 29) (lv' := [(4, _), (0, _), (1, _), (2, _), (3, _)]) dX8_grownIn_29 (by decide) rfl ?_
    refine x_aload_n (pc := 31) dX8_grownIn_31 1 rfl ?_
    refine x_callV (pc := 32) _ dX8_grownIn_32 (mq_putsBack) lkX8_366 rfl rfl rfl rfl (mem_dom0 (by decide) (by decide)) (by decide) (Nat.le_of_ble_eq_true rfl) rfl ?_
    refine x_meq as_back ?_
    refine x_iload (pc := 35) dX8_grownIn_35 0 rfl ?_
    refine x_aload_n (pc := 37) dX8_grownIn_37 1 rfl ?_
    refine x_iload_n (pc := 38) dX8_grownIn_38 2 rfl ?_
    refine x_iload_n (pc := 39) dX8_grownIn_39 3 rfl ?_
    refine x_callV (pc := 40) _ dX8_grownIn_40 (mq_ofPack q w (by omega)) lkX8_189 rfl rfl rfl rfl (mem_dom0 (by decide) (by decide)) (by decide) (Nat.le_of_ble_eq_true rfl) rfl ?_
    refine x_isub (pc := 43) dX8_grownIn_43 ?_
    exact y_iret (pc := 44) dX8_grownIn_44 rfl (by rw [h9]; rfl) rfl
  | succ n ih =>
    intro c9 N i hP hB hR hS ht h0 h1 h9
    have b := tkC_f hP hB (by omega)
    have r := (R_tk hP hB hR hS).2.2.2.2.2
    refine x_iload (pc := 7) dX8_grownIn_7 0 rfl ?_
    refine x_iload_n (pc := 9) dX8_grownIn_9 4 rfl ?_
    refine x_icmp_ge (pc := 10) 23 dX8_grownIn_10 (by decide) (by unfold inI; omega) (by unfold inI; omega) (fun c_10 => (by exfalso; omega)) (fun c_10 => ?_)
    refine x_aload_n (pc := 13) dX8_grownIn_13 1 rfl ?_
    refine x_callV (pc := 14) _ dX8_grownIn_14 (mq_passes hP hB hR hS) lkX8_360 rfl rfl rfl rfl (mem_dom0 (by decide) (by decide)) (by decide) (Nat.le_of_ble_eq_true rfl) rfl ?_
    refine x_iinc (pc := 17) (lv' := [(4, _), (0, _), (1, _), (2, _), (3, _)]) dX8_grownIn_17 0 rfl (by decide) rfl ?_
    refine x_goto (pc := 20) 7 dX8_grownIn_20 (by decide) ?_
    exact x_lv [0, 1, 2, 3, 4] rfl (ih _ _ (i + 1) b.1 b.2 r.1 r.2.1 (by rw [tkC_t]; omega) (by omega) (by omega) (by rw [h9]; rfl))

theorem mq_grownIn {G : GG} {m : Mem} {N : Int → Int} {c9 : Mem} {p s : Nat} (hP : BP c9 p) (hB : BS c9 p s) (hR : RP c9 p N) (hS : RS c9 p s N) (q w k : Int) (hq : 0 ≤ q ∧ q < 8) (hw : 0 ≤ w ∧ w < 7) (hk : 0 ≤ k) (ht : c9 0 s 0 + k ≤ 11000) : Ct G MX8_grownIn (rmD 9) [rf G 41 0, .int (iI q), .int (iI w), .int (iI k)] (hp (sr m N)) (.inl (some (.int (iI (tkNL N k.toNat (30 + 7 * q + w) - N (30 + 7 * q + w)))))) (hp (asX m N N)) := by
  refine x_entry (by decide +kernel) mwX8_grownIn rfl (Nat.le_of_ble_eq_true rfl) ?_
  show X G MX8_grownIn (rmD 9) 0 [(0, rf G 41 0), (1, .int (iI q)), (2, .int (iI w)), (3, .int (iI k))] [] (hp (sr m N)) 0 0 (.inl (some (.int (iI (tkNL N k.toNat (30 + 7 * q + w) - N (30 + 7 * q + w)))))) (hp (asX m N N))
  refine x_aload_n (pc := 0) dX8_grownIn_0 0 rfl ?_
  refine x_callV (pc := 1) _ dX8_grownIn_1 (mq_putsAside) lkX8_363 rfl rfl rfl rfl (mem_dom0 (by decide) (by decide)) (by decide) (Nat.le_of_ble_eq_true rfl) rfl ?_
  refine x_nil (m' := asX m N N) as_sr ?_
  refine x_iconst (pc := 4) dX8_grownIn_4 ?_
  refine x_istore (pc := 5) (lv' := [(4, _), (0, _), (1, _), (2, _), (3, _)]) dX8_grownIn_5 (by decide) rfl ?_
  have t0 := hB.1
  exact x_lv [0, 1, 2, 3, 4] rfl (lp_grown q w k hq hw (by omega) _ k.toNat c9 N 0 hP hB hR hS (by omega) (by omega) (by omega) rfl)
