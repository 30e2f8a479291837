theorem sm_succ (f : Int → Int) {i : Int} (h : 0 ≤ i) : sm f (i + 1).toNat = sm f i.toNat + f i := by
  have e : (i + 1).toNat = i.toNat + 1 := by omega
  rw [e]
  show sm f i.toNat + f (i.toNat : Int) = _
  rw [Int.toNat_of_nonneg h]
theorem sm_0 (f : Int → Int) : sm f (0 : Int).toNat = 0 := rfl
theorem sm_congr {f g : Int → Int} {n : Nat} (h : ∀ i : Int, 0 ≤ i → i < n → f i = g i) : sm f n = sm g n := by
  induction n with
  | zero => rfl
  | succ n ih =>
    show sm f n + f n = sm g n + g n
    rw [ih (fun i h0 h1 => h i h0 (by omega)), h n (by omega) (by omega)]
theorem sm_b {f : Int → Int} {n : Nat} {a b : Int} (h : ∀ i : Int, 0 ≤ i → i < n → a ≤ f i ∧ f i ≤ b) : a * n ≤ sm f n ∧ sm f n ≤ b * n := by
  induction n with
  | zero => exact ⟨by show a * 0 ≤ 0; omega, by show 0 ≤ b * 0; omega⟩
  | succ n ih =>
    have h1 := ih (fun i h0 h1 => h i h0 (by omega))
    have h2 := h n (by omega) (by omega)
    have e1 : a * ((n + 1 : Nat) : Int) = a * n + a := by rw [Int.natCast_add, Int.mul_add]; omega
    have e2 : b * ((n + 1 : Nat) : Int) = b * n + b := by rw [Int.natCast_add, Int.mul_add]; omega
    rw [e1, e2]
    show _ ≤ sm f n + f n ∧ sm f n + f n ≤ _
    omega
/-- facts of one loan -/
def LF (m : Mem) (p s : Nat) (l : Int) : Prop := (0 ≤ m 15 s l ∧ m 15 s l < 8) ∧ (0 ≤ m 16 s l ∧ m 16 s l ≤ 100000) ∧ (0 ≤ m 17 s l ∧ m 17 s l ≤ m 16 s l) ∧ (0 ≤ m 18 s l ∧ m 18 s l ≤ 100000000) ∧ (0 ≤ m 19 s l ∧ m 19 s l ≤ 200000000) ∧ (0 ≤ m 20 s l ∧ m 20 s l ≤ 5) ∧ (1 ≤ m 22 p 1 ∧ m 22 p 1 ≤ 10000)
theorem intC_b {m : Mem} {p : Nat} {x : Int} (hx : 0 ≤ x ∧ x ≤ 100000000) (hf : 1 ≤ m 22 p 1 ∧ m 22 p 1 ≤ 10000) : 0 ≤ intC m p x ∧ intC m p x ≤ x := by
  unfold intC
  refine ⟨Int.ediv_nonneg (by omega) (by omega), ?_⟩
  have h1 : x + m 22 p 1 - 1 < (x + 1) * m 22 p 1 := by
    have : x * 1 ≤ x * m 22 p 1 := Int.mul_le_mul_of_nonneg_left hf.1 hx.1
    rw [Int.add_mul]; omega
  have h2 := Int.ediv_lt_of_lt_mul (by omega : 0 < m 22 p 1) h1
  omega
theorem owedC_b {m : Mem} {p s : Nat} {l : Int} (h : LF m p s l) : 0 ≤ owedC m p s l ∧ owedC m p s l ≤ 100100000 := by
  obtain ⟨h1, h2, h3, h4, h5, h6, h7⟩ := h
  have hb := intC_b h4 h7
  unfold owedC
  split <;> omega
theorem ct_owed {G : GG} {m : Mem} {w : Nat} (hw : w < 5) (l : Int) (hl : 0 ≤ l ∧ l < 16) (h : LF m (pl w) w l) : Ct G MX6_owed (rmD 1) [rf G 33 w, .int (iI l)] (hp (m)) (.inl (some (.int (iI (owedC m (pl w) w l))))) (hp (m)) := by
  refine x_entry (by decide +kernel) mwX6_owed rfl (Nat.le_of_ble_eq_true rfl) ?_
  show X G MX6_owed (rmD 1) 0 [(0, rf G 33 w), (1, .int (iI l))] [] (hp (m)) 0 0 (.inl (some (.int (iI (owedC m (pl w) w l))))) (hp (m))
  obtain ⟨h1, h2, h3, h4, h5, h6, h7⟩ := h
  have hb := intC_b h4 h7
  refine x_aload_n (pc := 0) dX6_owed_0 0 rfl ?_
  refine y_getR (pc := 1) dX6_owed_1 flX6_12 rfl rfl rfl hw ?_
  refine y_getR (pc := 4) dX6_owed_4 flX6_89 rfl rfl rfl (h13 hw) ?_
  refine x_astore_n (pc := 7) (lv' := [(2, _), (0, _), (1, _)]) dX6_owed_7 rfl (by decide) rfl ?_
  refine x_aload_n (pc := 8) dX6_owed_8 0 rfl ?_
  refine x_iload_n (pc := 9) dX6_owed_9 2 rfl ?_
  refine x_callV (pc := 10) _ dX6_owed_10 (ct_isOpen (h13 hw) l hl (by unfold inI; omega)) lkX6_93 rfl rfl rfl rfl (mem_dom0 (by decide) (h13 hw)) (by decide) (Nat.le_of_ble_eq_true rfl) rfl ?_
  refine x_ifb_ne (pc := 13) 18 dX6_owed_13 (by decide) (fun c_13 => ?_) (fun c_13 => ?_)
  · refine x_aload_n (pc := 18) dX6_owed_18 0 rfl ?_
    refine y_getR (pc := 19) dX6_owed_19 flX6_99 rfl rfl rfl (h13 hw) ?_
    refine x_iload_n (pc := 22) dX6_owed_22 2 rfl ?_
    refine y_iald (pc := 23) dX6_owed_23 rfl (h13 hw) (by omega) ?_
    refine x_aload_n (pc := 24) dX6_owed_24 1 rfl ?_
    refine x_aload_n (pc := 25) dX6_owed_25 0 rfl ?_
    refine y_getR (pc := 26) dX6_owed_26 flX6_102 rfl rfl rfl (h13 hw) ?_
    refine x_iload_n (pc := 29) dX6_owed_29 2 rfl ?_
    refine y_iald (pc := 30) dX6_owed_30 rfl (h13 hw) (by omega) ?_
    refine x_callV (pc := 31) _ dX6_owed_31 (ct_interestOf hw _ h4 h7) lkX6_77 rfl rfl rfl rfl (mem_dom0 (by decide) hw) (by decide) (Nat.le_of_ble_eq_true rfl) rfl ?_
    refine x_iadd (pc := 34) dX6_owed_34 ?_
    refine x_aload_n (pc := 35) dX6_owed_35 0 rfl ?_
    refine y_getR (pc := 36) dX6_owed_36 flX6_103 rfl rfl rfl (h13 hw) ?_
    refine x_iload_n (pc := 39) dX6_owed_39 2 rfl ?_
    refine y_iald (pc := 40) dX6_owed_40 rfl (h13 hw) (by omega) ?_
    refine x_isub (pc := 41) dX6_owed_41 ?_
    refine x_istore_n (pc := 42) (lv' := [(3, _), (2, _), (0, _), (1, _)]) dX6_owed_42 rfl (by decide) rfl ?_
    refine x_iload_n (pc := 43) dX6_owed_43 0 rfl ?_
    refine x_if_le (pc := 44) 51 dX6_owed_44 (by decide) (by unfold inI; omega) (fun c_44 => ?_) (fun c_44 => ?_)
    · refine x_iconst (pc := 51) dX6_owed_51 ?_
      exact y_iret (pc := 52) dX6_owed_52 rfl (by unfold owedC; first | rw [if_pos (by assumption)]; omega | rw [if_neg (by assumption)]) rfl
    · refine x_iload_n (pc := 47) dX6_owed_47 0 rfl ?_
      refine x_goto (pc := 48) 52 dX6_owed_48 (by decide) ?_
      exact y_iret (pc := 52) dX6_owed_52 rfl (by unfold owedC; first | rw [if_pos (by assumption)]; omega | rw [if_neg (by assumption)]) rfl
  · refine x_iconst (pc := 16) dX6_owed_16 ?_
    exact y_iret (pc := 17) dX6_owed_17 rfl (by unfold owedC; first | rw [if_pos (by assumption)]; omega | rw [if_neg (by assumption)]) rfl
def owedWC (m : Mem) (p s : Nat) (k : Nat) (q : Int) (l : Int) : Int := if m k p (m 15 s l) = q then owedC m p s l else 0
def outC (m : Mem) (p s : Nat) (c : Int) (l : Int) : Int := if m 15 s l = c then (if m 20 s l = 0 then owedC m p s l + (m 16 s l - m 17 s l) else owedC m p s l) else 0
def openC (m : Mem) (s : Nat) (l : Int) : Int := if m 20 s l ≤ 2 then 1 else 0
theorem lp_outstanding {G : GG} {m : Mem} {w : Nat} (hw : w < 5) (c : Int) (hc : inI c) (hn : 0 ≤ m 2 w 0 ∧ m 2 w 0 ≤ 16) (hl : ∀ l, 0 ≤ l → l < m 2 w 0 → LF m (pl w) w l) : ∀ (n : Nat) (i a : Int), i + n = m 2 w 0 → 0 ≤ i → a = sm (outC m (pl w) w c) i.toNat → X G MX6_outstanding (rmD 2) 13 [(0, rf G 33 w), (1, .int (iI c)), (2, rf G 2 w), (3, .int (iI a)), (4, .int (iI i))] [] (hp (m)) 0 0 (.inl (some (.int (iI (sm (outC m (pl w) w c) (m 2 w 0).toNat))))) (hp (m)) := by
  intro n
  induction n with
  | zero =>
    intro i a hi h0 ha
    refine x_iload (pc := 13) dX6_outstanding_13 4 rfl ?_
    refine x_aload_n (pc := 15) dX6_outstanding_15 2 rfl ?_
    refine y_getI (pc := 16) 0 dX6_outstanding_16 flX6_106 rfl rfl rfl (h13 hw) ?_
    refine x_icmp_ge (pc := 19) 76 dX6_outstanding_19 (by decide) (by unfold inI; omega) (by unfold inI; omega) (fun c_19 => ?_) (fun c_19 => (by exfalso; omega))
    refine x_iload_n (pc := 76) dX6_outstanding_76 3 rfl ?_
    exact y_iret (pc := 77) dX6_outstanding_77 rfl (by rw [ha]; congr 2; omega) rfl
  | succ n ih =>
    intro i a hi h0 ha
    have hL := hl i h0 (by omega)
    have h6 := hL.2.2.2.2.2.1
    have h1 := hL.1
    refine x_iload (pc := 13) dX6_outstanding_13 4 rfl ?_
    refine x_aload_n (pc := 15) dX6_outstanding_15 2 rfl ?_
    refine y_getI (pc := 16) 0 dX6_outstanding_16 flX6_106 rfl rfl rfl (h13 hw) ?_
    refine x_icmp_ge (pc := 19) 76 dX6_outstanding_19 (by decide) (by unfold inI; omega) (by unfold inI; omega) (fun c_19 => (by exfalso; omega)) (fun c_19 => ?_)
    refine x_aload_n (pc := 22) dX6_outstanding_22 2 rfl ?_
    refine y_getR (pc := 23) dX6_outstanding_23 flX6_109 rfl rfl rfl (h13 hw) ?_
    refine x_iload (pc := 26) dX6_outstanding_26 4 rfl ?_
    refine y_iald (pc := 28) dX6_outstanding_28 rfl (h13 hw) (by omega) ?_
    refine x_iload_n (pc := 29) dX6_outstanding_29 1 rfl ?_
    refine x_icmp_ne (pc := 30) 70 dX6_outstanding_30 (by decide) (by unfold inI; omega) hc (fun c_30 => ?_) (fun c_30 => ?_)
    · refine x_iinc (pc := 70) (lv' := [(4, _), (0, _), (1, _), (2, _), (3, _)]) dX6_outstanding_70 4 rfl (by decide) rfl ?_
      refine x_goto (pc := 73) 13 dX6_outstanding_73 (by decide) ?_
      exact x_lv [1, 2, 3, 4, 0] rfl (ih (i + 1) (a) (by omega) (by omega) (by rw [sm_succ _ h0, ← ha]; unfold outC; rw [if_neg c_30]; omega))
    · refine x_iload_n (pc := 33) dX6_outstanding_33 3 rfl ?_
      refine x_aload_n (pc := 34) dX6_outstanding_34 0 rfl ?_
      refine x_iload (pc := 35) dX6_outstanding_35 4 rfl ?_
      refine x_callV (pc := 37) _ dX6_outstanding_37 (ct_owed hw i (by omega) hL) lkX6_112 rfl rfl rfl rfl (mem_dom0 (by decide) hw) (by decide) (Nat.le_of_ble_eq_true rfl) rfl ?_
      refine x_iadd (pc := 40) dX6_outstanding_40 ?_
      refine x_istore_n (pc := 41) (lv' := [(3, _), (0, _), (1, _), (2, _), (4, _)]) dX6_outstanding_41 rfl (by decide) rfl ?_
      refine x_aload_n (pc := 42) dX6_outstanding_42 3 rfl ?_
      refine y_getR (pc := 43) dX6_outstanding_43 flX6_115 rfl rfl rfl (h13 hw) ?_
      refine x_iload (pc := 46) dX6_outstanding_46 4 rfl ?_
      refine y_iald (pc := 48) dX6_outstanding_48 rfl (h13 hw) (by omega) ?_
      refine x_if_ne (pc := 49) 70 dX6_outstanding_49 (by decide) (by unfold inI; omega) (fun c_49 => ?_) (fun c_49 => ?_)
      · refine x_iinc (pc := 70) (lv' := [(4, _), (3, _), (0, _), (1, _), (2, _)]) dX6_outstanding_70 4 rfl (by decide) rfl ?_
        refine x_goto (pc := 73) 13 dX6_outstanding_73 (by decide) ?_
        exact x_lv [2, 3, 4, 1, 0] rfl (ih (i + 1) (a + owedC m (pl w) w i) (by omega) (by omega) (by rw [sm_succ _ h0, ← ha]; unfold outC; rw [if_pos c_30, if_neg c_49]))
      · refine x_iload_n (pc := 52) dX6_outstanding_52 0 rfl ?_
        refine x_aload_n (pc := 53) dX6_outstanding_53 3 rfl ?_
        refine y_getR (pc := 54) dX6_outstanding_54 flX6_117 rfl rfl rfl (h13 hw) ?_
        refine x_iload (pc := 57) dX6_outstanding_57 4 rfl ?_
        refine y_iald (pc := 59) dX6_outstanding_59 rfl (h13 hw) (by omega) ?_
        refine x_aload_n (pc := 60) dX6_outstanding_60 3 rfl ?_
        refine y_getR (pc := 61) dX6_outstanding_61 flX6_99 rfl rfl rfl (h13 hw) ?_
        refine x_iload (pc := 64) dX6_outstanding_64 4 rfl ?_
        refine y_iald (pc := 66) dX6_outstanding_66 rfl (h13 hw) (by omega) ?_
        refine x_isub (pc := 67) dX6_outstanding_67 ?_
        refine x_iadd (pc := 68) dX6_outstanding_68 ?_
        refine x_istore_n (pc := 69) (lv' := [(3, _), (0, _), (1, _), (2, _), (4, _)]) dX6_outstanding_69 rfl (by decide) rfl ?_
        refine x_iinc (pc := 70) (lv' := [(4, _), (3, _), (0, _), (1, _), (2, _)]) dX6_outstanding_70 4 rfl (by decide) rfl ?_
        refine x_goto (pc := 73) 13 dX6_outstanding_73 (by decide) ?_
        exact x_lv [2, 3, 4, 1, 0] rfl (ih (i + 1) (a + owedC m (pl w) w i + (m 16 w i - m 17 w i)) (by omega) (by omega) (by rw [sm_succ _ h0, ← ha]; unfold outC; rw [if_pos c_30, if_pos c_49]; omega))
theorem ct_outstanding {G : GG} {m : Mem} {w : Nat} (hw : w < 5) (c : Int) (hc : inI c) (hn : 0 ≤ m 2 w 0 ∧ m 2 w 0 ≤ 16) (hl : ∀ l, 0 ≤ l → l < m 2 w 0 → LF m (pl w) w l) : Ct G MX6_outstanding (rmD 2) [rf G 33 w, .int (iI c)] (hp (m)) (.inl (some (.int (iI (sm (outC m (pl w) w c) (m 2 w 0).toNat))))) (hp (m)) := by
  refine x_entry (by decide +kernel) mwX6_outstanding rfl (Nat.le_of_ble_eq_true rfl) ?_
  show X G MX6_outstanding (rmD 2) 0 [(0, rf G 33 w), (1, .int (iI c))] [] (hp (m)) 0 0 (.inl (some (.int (iI (sm (outC m (pl w) w c) (m 2 w 0).toNat))))) (hp (m))
  refine x_aload_n (pc := 0) dX6_outstanding_0 0 rfl ?_
  refine y_getR (pc := 1) dX6_outstanding_1 flX6_12 rfl rfl rfl hw ?_
  refine y_getR (pc := 4) dX6_outstanding_4 flX6_89 rfl rfl rfl (h13 hw) ?_
  refine x_astore_n (pc := 7) (lv' := [(2, _), (0, _), (1, _)]) dX6_outstanding_7 rfl (by decide) rfl ?_
  refine x_iconst (pc := 8) dX6_outstanding_8 ?_
  refine x_istore_n (pc := 9) (lv' := [(3, _), (2, _), (0, _), (1, _)]) dX6_outstanding_9 rfl (by decide) rfl ?_
  refine x_iconst (pc := 10) dX6_outstanding_10 ?_
  refine x_istore (pc := 11) (lv' := [(4, _), (3, _), (2, _), (0, _), (1, _)]) dX6_outstanding_11 (by decide) rfl ?_
  exact x_lv [3, 4, 2, 1, 0] rfl (lp_outstanding hw c hc hn hl (m 2 w 0).toNat 0 0 (by omega) (by omega) rfl)
theorem lp_openLoans {G : GG} {m : Mem} {w : Nat} (hw : w < 5) (hn : 0 ≤ m 2 w 0 ∧ m 2 w 0 ≤ 16) (hl : ∀ l, 0 ≤ l → l < m 2 w 0 → inI (m 20 w l)) : ∀ (n : Nat) (i a : Int), i + n = m 2 w 0 → 0 ≤ i → a = sm (openC m w) i.toNat → X G MX6_openLoans (rmD 1) 4 [(0, rf G 33 w), (1, .int (iI a)), (2, .int (iI i))] [] (hp (m)) 0 0 (.inl (some (.int (iI (sm (openC m w) (m 2 w 0).toNat))))) (hp (m)) := by
  intro n
  induction n with
  | zero =>
    intro i a hi h0 ha
    refine x_iload_n (pc := 4) dX6_openLoans_4 2 rfl ?_
    refine x_aload_n (pc := 5) dX6_openLoans_5 0 rfl ?_
    refine y_getR (pc := 6) dX6_openLoans_6 flX6_12 rfl rfl rfl hw ?_
    refine y_getR (pc := 9) dX6_openLoans_9 flX6_89 rfl rfl rfl (h13 hw) ?_
    refine y_getI (pc := 12) 0 dX6_openLoans_12 flX6_106 rfl rfl rfl (h13 hw) ?_
    refine x_icmp_ge (pc := 15) 41 dX6_openLoans_15 (by decide) (by unfold inI; omega) (by unfold inI; omega) (fun c_15 => ?_) (fun c_15 => (by exfalso; omega))
    refine x_iload_n (pc := 41) dX6_openLoans_41 1 rfl ?_
    exact y_iret (pc := 42) dX6_openLoans_42 rfl (by rw [ha]; congr 2; omega) rfl
  | succ n ih =>
    intro i a hi h0 ha
    refine x_iload_n (pc := 4) dX6_openLoans_4 2 rfl ?_
    refine x_aload_n (pc := 5) dX6_openLoans_5 0 rfl ?_
    refine y_getR (pc := 6) dX6_openLoans_6 flX6_12 rfl rfl rfl hw ?_
    refine y_getR (pc := 9) dX6_openLoans_9 flX6_89 rfl rfl rfl (h13 hw) ?_
    refine y_getI (pc := 12) 0 dX6_openLoans_12 flX6_106 rfl rfl rfl (h13 hw) ?_
    refine x_icmp_ge (pc := 15) 41 dX6_openLoans_15 (by decide) (by unfold inI; omega) (by unfold inI; omega) (fun c_15 => (by exfalso; omega)) (fun c_15 => ?_)
    refine x_aload_n (pc := 18) dX6_openLoans_18 0 rfl ?_
    refine y_getR (pc := 19) dX6_openLoans_19 flX6_12 rfl rfl rfl hw ?_
    refine y_getR (pc := 22) dX6_openLoans_22 flX6_89 rfl rfl rfl (h13 hw) ?_
    refine x_iload_n (pc := 25) dX6_openLoans_25 2 rfl ?_
    refine x_callV (pc := 26) _ dX6_openLoans_26 (ct_isOpen (h13 hw) i (by omega) (hl i h0 (by omega))) lkX6_93 rfl rfl rfl rfl (mem_dom0 (by decide) (h13 hw)) (by decide) (Nat.le_of_ble_eq_true rfl) rfl ?_
    refine x_ifb_eq (pc := 29) 35 dX6_openLoans_29 (by decide) (fun c_29 => ?_) (fun c_29 => ?_)
    · refine x_iinc (pc := 35) (lv' := [(2, _), (0, _), (1, _)]) dX6_openLoans_35 2 rfl (by decide) rfl ?_
      refine x_goto (pc := 38) 4 dX6_openLoans_38 (by decide) ?_
      exact x_lv [1, 2, 0] rfl (ih (i + 1) (a) (by omega) (by omega) (by rw [sm_succ _ h0, ← ha]; unfold openC; rw [if_neg c_29]; omega))
    · refine x_iinc (pc := 32) (lv' := [(1, _), (0, _), (2, _)]) dX6_openLoans_32 1 rfl (by decide) rfl ?_
      refine x_iinc (pc := 35) (lv' := [(2, _), (1, _), (0, _)]) dX6_openLoans_35 2 rfl (by decide) rfl ?_
      refine x_goto (pc := 38) 4 dX6_openLoans_38 (by decide) ?_
      exact x_lv [2, 1, 0] rfl (ih (i + 1) (a + 1) (by omega) (by omega) (by rw [sm_succ _ h0, ← ha]; unfold openC; rw [if_pos c_29]))
theorem ct_openLoans {G : GG} {m : Mem} {w : Nat} (hw : w < 5) (hn : 0 ≤ m 2 w 0 ∧ m 2 w 0 ≤ 16) (hl : ∀ l, 0 ≤ l → l < m 2 w 0 → inI (m 20 w l)) : Ct G MX6_openLoans (rmD 1) [rf G 33 w] (hp (m)) (.inl (some (.int (iI (sm (openC m w) (m 2 w 0).toNat))))) (hp (m)) := by
  refine x_entry (by decide +kernel) mwX6_openLoans rfl (Nat.le_of_ble_eq_true rfl) ?_
  show X G MX6_openLoans (rmD 1) 0 [(0, rf G 33 w)] [] (hp (m)) 0 0 (.inl (some (.int (iI (sm (openC m w) (m 2 w 0).toNat))))) (hp (m))
  refine x_iconst (pc := 0) dX6_openLoans_0 ?_
  refine x_istore_n (pc := 1) (lv' := [(1, _), (0, _)]) dX6_openLoans_1 rfl (by decide) rfl ?_
  refine x_iconst (pc := 2) dX6_openLoans_2 ?_
  refine x_istore_n (pc := 3) (lv' := [(2, _), (1, _), (0, _)]) dX6_openLoans_3 rfl (by decide) rfl ?_
  exact x_lv [2, 1, 0] rfl (lp_openLoans hw hn hl (m 2 w 0).toNat 0 0 (by omega) (by omega) rfl)
def openByC (m : Mem) (s : Nat) (c l : Int) : Int := if m 15 s l = c then (if m 20 s l ≤ 2 then 1 else 0) else 0
def byC (m : Mem) (s k : Nat) (c l : Int) : Int := if m 15 s l = c then m k s l else 0
def numC (m : Mem) (s : Nat) (q st t : Int) : Int := if m 11 s t = q ∧ m 14 s t = st then 1 else 0
theorem lp_numberOf {G : GG} {m : Mem} {s : Nat} (hs : s < 13) (q st : Int) (hq : inI q) (hst : inI st) (hn : 0 ≤ m 1 s 0 ∧ m 1 s 0 ≤ 16) (hl : ∀ l, 0 ≤ l → l < m 1 s 0 → inI (m 11 s l) ∧ inI (m 14 s l)) : ∀ (n : Nat) (i a : Int), i + n = m 1 s 0 → 0 ≤ i → a = sm (numC m s q st) i.toNat → X G MX5_numberOf (rmD 0) 5 [(0, rf G 1 s), (1, .int (iI q)), (2, .int (iI st)), (3, .int (iI a)), (4, .int (iI i))] [] (hp (m)) 0 0 (.inl (some (.int (iI (sm (numC m s q st) (m 1 s 0).toNat))))) (hp (m)) := by
  intro n
  induction n with
  | zero =>
    intro i a hi h0 ha
    refine x_iload (pc := 5) dX5_numberOf_5 4 rfl ?_
    refine x_aload_n (pc := 7) dX5_numberOf_7 0 rfl ?_
    refine y_getI (pc := 8) 0 dX5_numberOf_8 flX5_24 rfl rfl rfl hs ?_
    refine x_icmp_ge (pc := 11) 45 dX5_numberOf_11 (by decide) (by unfold inI; omega) (by unfold inI; omega) (fun c_11 => ?_) (fun c_11 => (by exfalso; omega))
    refine x_iload_n (pc := 45) dX5_numberOf_45 3 rfl ?_
    exact y_iret (pc := 46) dX5_numberOf_46 rfl (by rw [ha]; congr 2; omega) rfl
  | succ n ih =>
    intro i a hi h0 ha
    have hL := hl i h0 (by omega)
    refine x_iload (pc := 5) dX5_numberOf_5 4 rfl ?_
    refine x_aload_n (pc := 7) dX5_numberOf_7 0 rfl ?_
    refine y_getI (pc := 8) 0 dX5_numberOf_8 flX5_24 rfl rfl rfl hs ?_
    refine x_icmp_ge (pc := 11) 45 dX5_numberOf_11 (by decide) (by unfold inI; omega) (by unfold inI; omega) (fun c_11 => (by exfalso; omega)) (fun c_11 => ?_)
    refine x_aload_n (pc := 14) dX5_numberOf_14 0 rfl ?_
    refine y_getR (pc := 15) dX5_numberOf_15 flX5_9 rfl rfl rfl hs ?_
    refine x_iload (pc := 18) dX5_numberOf_18 4 rfl ?_
    refine y_iald (pc := 20) dX5_numberOf_20 rfl hs (by omega) ?_
    refine x_iload_n (pc := 21) dX5_numberOf_21 1 rfl ?_
    refine x_icmp_ne (pc := 22) 39 dX5_numberOf_22 (by decide) hL.1 hq (fun c_22 => ?_) (fun c_22 => ?_)
    · refine x_iinc (pc := 39) (lv' := [(4, _), (0, _), (1, _), (2, _), (3, _)]) dX5_numberOf_39 4 rfl (by decide) rfl ?_
      refine x_goto (pc := 42) 5 dX5_numberOf_42 (by decide) ?_
      exact x_lv [1, 2, 3, 4, 0] rfl (ih (i + 1) (a) (by omega) (by omega) (by rw [sm_succ _ h0, ← ha]; unfold numC; rw [if_neg (fun z => c_22 z.1)]; omega))
    · refine x_aload_n (pc := 25) dX5_numberOf_25 0 rfl ?_
      refine y_getR (pc := 26) dX5_numberOf_26 flX5_21 rfl rfl rfl hs ?_
      refine x_iload (pc := 29) dX5_numberOf_29 4 rfl ?_
      refine y_iald (pc := 31) dX5_numberOf_31 rfl hs (by omega) ?_
      refine x_iload_n (pc := 32) dX5_numberOf_32 2 rfl ?_
      refine x_icmp_ne (pc := 33) 39 dX5_numberOf_33 (by decide) hL.2 hst (fun c_33 => ?_) (fun c_33 => ?_)
      · refine x_iinc (pc := 39) (lv' := [(4, _), (0, _), (1, _), (2, _), (3, _)]) dX5_numberOf_39 4 rfl (by decide) rfl ?_
        refine x_goto (pc := 42) 5 dX5_numberOf_42 (by decide) ?_
        exact x_lv [1, 2, 3, 4, 0] rfl (ih (i + 1) (a) (by omega) (by omega) (by rw [sm_succ _ h0, ← ha]; unfold numC; rw [if_neg (fun z => c_33 z.2)]; omega))
      · refine x_iinc (pc := 36) (lv' := [(3, _), (0, _), (1, _), (2, _), (4, _)]) dX5_numberOf_36 3 rfl (by decide) rfl ?_
        refine x_iinc (pc := 39) (lv' := [(4, _), (3, _), (0, _), (1, _), (2, _)]) dX5_numberOf_39 4 rfl (by decide) rfl ?_
        refine x_goto (pc := 42) 5 dX5_numberOf_42 (by decide) ?_
        exact x_lv [2, 3, 4, 1, 0] rfl (ih (i + 1) (a + 1) (by omega) (by omega) (by rw [sm_succ _ h0, ← ha]; unfold numC; rw [if_pos ⟨c_22, c_33⟩]))
theorem ct_numberOf {G : GG} {m : Mem} {s : Nat} (hs : s < 13) (q st : Int) (hq : inI q) (hst : inI st) (hn : 0 ≤ m 1 s 0 ∧ m 1 s 0 ≤ 16) (hl : ∀ l, 0 ≤ l → l < m 1 s 0 → inI (m 11 s l) ∧ inI (m 14 s l)) : Ct G MX5_numberOf (rmD 0) [rf G 1 s, .int (iI q), .int (iI st)] (hp (m)) (.inl (some (.int (iI (sm (numC m s q st) (m 1 s 0).toNat))))) (hp (m)) := by
  refine x_entry (by decide +kernel) mwX5_numberOf rfl (Nat.le_of_ble_eq_true rfl) ?_
  show X G MX5_numberOf (rmD 0) 0 [(0, rf G 1 s), (1, .int (iI q)), (2, .int (iI st))] [] (hp (m)) 0 0 (.inl (some (.int (iI (sm (numC m s q st) (m 1 s 0).toNat))))) (hp (m))
  refine x_iconst (pc := 0) dX5_numberOf_0 ?_
  refine x_istore_n (pc := 1) (lv' := [(3, _), (0, _), (1, _), (2, _)]) dX5_numberOf_1 rfl (by decide) rfl ?_
  refine x_iconst (pc := 2) dX5_numberOf_2 ?_
  refine x_istore (pc := 3) (lv' := [(4, _), (3, _), (0, _), (1, _), (2, _)]) dX5_numberOf_3 (by decide) rfl ?_
  exact x_lv [2, 3, 4, 1, 0] rfl (lp_numberOf hs q st hq hst hn hl (m 1 s 0).toNat 0 0 (by omega) (by omega) rfl)
