/-! the model's reading -/
def MB (m : Mem) : Prop := (0 ≤ m 41 0 9 ∧ m 41 0 9 ≤ 500) ∧ (0 ≤ m 41 0 10 ∧ m 41 0 10 ≤ m 41 0 9) ∧ (∀ j, 0 ≤ j → j < 500 → -128 ≤ m 48 0 j ∧ m 48 0 j < 128) ∧ (0 ≤ m 41 0 12 ∧ m 41 0 12 ≤ 4) ∧ (0 ≤ m 41 0 11 ∧ m 41 0 11 ≤ 500) ∧ (0 ≤ m 41 0 15 ∧ m 41 0 15 ≤ 500)
theorem MB_at {m : Mem} {a : Int} (h : MB m) (h0 : 0 ≤ a) (h1 : a ≤ m 41 0 9) : MB (up3 m 41 0 10 a) := ⟨h.1, ⟨h0, h1⟩, h.2.2.1, h.2.2.2⟩
theorem MB_be {m : Mem} {a : Int} (h : MB m) (h0 : 0 ≤ a) (h1 : a ≤ 500) : MB (up3 m 41 0 11 a) := ⟨h.1, h.2.1, h.2.2.1, h.2.2.2.1, ⟨h0, h1⟩, h.2.2.2.2.2⟩
theorem MB_sa {m : Mem} {a : Int} (h : MB m) (h0 : 0 ≤ a) (h1 : a ≤ 500) : MB (up3 m 41 0 15 a) := ⟨h.1, h.2.1, h.2.2.1, h.2.2.2.1, h.2.2.2.2.1, ⟨h0, h1⟩⟩
theorem MB.k {m m' : Mem} (h : MB m) (e1 : m' 41 = m 41) (e2 : m' 48 = m 48) : MB m' := by unfold MB; rw [e1, e2]; exact h
def hrV (m : Mem) : Int := if m 41 0 10 < m 41 0 9 then m 48 0 (m 41 0 10) % 256 else -1
theorem hrV_b (m : Mem) : -1 ≤ hrV m ∧ hrV m < 256 := by unfold hrV; split <;> omega
theorem and255 (v : Int) (h : -128 ≤ v ∧ v < 128) : iI v &&& iI 255 = iI (v % 256) := by
  have h1 : ∀ n < 256, iI ((n : Nat) - 128 : Int) &&& iI 255 = iI (((n : Nat) - 128 : Int) % 256) := by decide +kernel
  have h2 := h1 (v + 128).toNat (by omega)
  have e : (((v + 128).toNat : Nat) : Int) - 128 = v := by omega
  rw [e] at h2
  exact h2
def mcM (m : Mem) (p : Int → Bool) : Mem := up3 m 41 0 10 (scF (m 48 0) p (m 41 0 9 - m 41 0 10).toNat (m 41 0 10))
theorem MB_mc {m : Mem} {p : Int → Bool} (h : MB m) : MB (mcM m p) := by
  have b := scF_b (m 48 0) p (m 41 0 9 - m 41 0 10).toNat (m 41 0 10)
  have h1 := h.2.1
  exact MB_at h (by omega) (by omega)
theorem mcM_k {m : Mem} {p : Int → Bool} {k : Nat} (h : k ≠ 41) : mcM m p k = m k := up3_k h
theorem mcM_j {m : Mem} {p : Int → Bool} {j : Int} (h : j ≠ 10) : mcM m p 41 0 j = m 41 0 j := up3_off h
def nxM (m : Mem) : Mem := up3 (mcM m bS) 41 0 11 (mcM m bS 41 0 10)
theorem MB_nx {m : Mem} (h : MB m) : MB (nxM m) := by
  have b := (MB_mc (p := bS) h)
  exact MB_be b b.2.1.1 (by have := b.2.1.2; have := b.1.2; omega)
theorem nxM_k {m : Mem} {k : Nat} (h : k ≠ 41) : nxM m k = m k := by unfold nxM; rw [up3_k h, mcM_k h]
theorem nxM_j {m : Mem} {j : Int} (h : j ≠ 10 ∧ j ≠ 11) : nxM m 41 0 j = m 41 0 j := by unfold nxM; rw [up3_off h.2, mcM_j h.1]
def rsM (m : Mem) : Mem := mcM (nxM m) bW
theorem MB_rs {m : Mem} (h : MB m) : MB (rsM m) := MB_mc (MB_nx h)
def faM (m : Mem) (k : Int) : Mem := if m 41 0 12 = 0 then up3 (up3 m 41 0 12 k) 41 0 13 (m 41 0 11) else m
theorem faM_k {m : Mem} {k : Int} {p : Nat} (h : p ≠ 41) : faM m k p = m p := by
  unfold faM
  split
  · rw [up3_k h, up3_k h]
  · rfl
theorem faM_j {m : Mem} {k j : Int} (h : j ≠ 12 ∧ j ≠ 13) : faM m k 41 0 j = m 41 0 j := by
  unfold faM
  split
  · rw [up3_off h.2, up3_off h.1]
  · rfl
theorem faM_e {m : Mem} {k : Int} (hk : k ≠ 0) : faM m k 41 0 12 ≠ 0 := by
  unfold faM
  split
  · rw [up3_off (by decide), up3_at]; exact hk
  · rename_i h; exact h
theorem MB_fa {m : Mem} {k : Int} (h : MB m) (hk : 0 ≤ k ∧ k ≤ 4) : MB (faM m k) := by
  unfold MB
  rw [faM_j (j := 9) (by decide), faM_j (j := 10) (by decide), faM_j (j := 11) (by decide), faM_j (j := 15) (by decide), faM_k (by decide)]
  refine ⟨h.1, h.2.1, h.2.2.1, ?_, h.2.2.2.2⟩
  unfold faM
  split
  · rw [up3_off (by decide), up3_at]; exact hk
  · exact h.2.2.2.1
def dwF (T : Int → Int) : Nat → Int → Int → Int
  | 0, _, v => v
  | n + 1, a, v => if bD (T a) = true then dwF T n (a + 1) (min 10000000 (10 * v + T a - 48)) else v
theorem dwF_b (T : Int → Int) : ∀ (n : Nat) (a v : Int), 0 ≤ v → v ≤ 10000000 → 0 ≤ dwF T n a v ∧ dwF T n a v ≤ 10000000 := by
  intro n
  induction n with
  | zero => intro a v h0 h1; exact ⟨h0, h1⟩
  | succ n ih =>
    intro a v h0 h1
    unfold dwF
    by_cases h : bD (T a) = true
    · rw [if_pos h]
      have h2 := of_decide_eq_true h
      exact ih _ _ (by omega) (by omega)
    · rw [if_neg h]; exact ⟨h0, h1⟩
def nuW (m : Mem) : Int := dwF (nxM m 48 0) (nxM m 41 0 9 - nxM m 41 0 10).toNat (nxM m 41 0 10) 0
def nu2 (m : Mem) : Mem := mcM (nxM m) bD
def nuV (m : Mem) (lo hi : Int) : Int := if m 41 0 12 = 0 then (if 48 ≤ hrV (nxM m) ∧ hrV (nxM m) ≤ 57 then (if lo ≤ nuW m ∧ nuW m ≤ hi then nuW m else lo) else lo) else lo
def nuM (m : Mem) (lo hi : Int) : Mem := if m 41 0 12 = 0 then (if 48 ≤ hrV (nxM m) ∧ hrV (nxM m) ≤ 57 then (if lo ≤ nuW m ∧ nuW m ≤ hi then nu2 m else faM (nu2 m) 2) else faM (nxM m) 1) else m
theorem nuW_b (m : Mem) : 0 ≤ nuW m ∧ nuW m ≤ 10000000 := dwF_b _ _ _ _ (by decide) (by decide)
theorem MB_nu {m : Mem} {lo hi : Int} (h : MB m) : MB (nuM m lo hi) := by
  unfold nuM
  split
  · split
    · split
      · exact MB_mc (MB_nx h)
      · exact MB_fa (MB_mc (MB_nx h)) (by decide)
    · exact MB_fa (MB_nx h) (by decide)
  · exact h
theorem nuM_k {m : Mem} {lo hi : Int} {k : Nat} (h : k ≠ 41) : nuM m lo hi k = m k := by
  unfold nuM nu2
  split
  · split
    · split
      · rw [mcM_k h, nxM_k h]
      · rw [faM_k h, mcM_k h, nxM_k h]
    · rw [faM_k h, nxM_k h]
  · rfl
theorem nuM_j {m : Mem} {lo hi j : Int} (h : j ≠ 10 ∧ j ≠ 11 ∧ j ≠ 12 ∧ j ≠ 13) : nuM m lo hi 41 0 j = m 41 0 j := by
  unfold nuM nu2
  split
  · split
    · split
      · rw [mcM_j h.1, nxM_j ⟨h.1, h.2.1⟩]
      · rw [faM_j ⟨h.2.2.1, h.2.2.2⟩, mcM_j h.1, nxM_j ⟨h.1, h.2.1⟩]
    · rw [faM_j ⟨h.2.2.1, h.2.2.2⟩, nxM_j ⟨h.1, h.2.1⟩]
  · rfl
theorem nuV_b (m : Mem) (lo hi : Int) (hl : 0 ≤ lo ∧ lo ≤ 10000000) : 0 ≤ nuV m lo hi ∧ nuV m lo hi ≤ 10000000 := by
  have h := nuW_b m
  unfold nuV
  split
  · split
    · split <;> omega
    · omega
  · omega
theorem mp_here {G : GG} {m : Mem} (hM : MB m)  : Ct G MX8_here (rmD 0) [rf G 41 0] (hp (m)) (.inl (some (.int (iI (hrV m))))) (hp (m)) := by
  refine x_entry (by decide +kernel) mwX8_here rfl (Nat.le_of_ble_eq_true rfl) ?_
  show X G MX8_here (rmD 0) 0 [(0, rf G 41 0)] [] (hp (m)) 0 0 (.inl (some (.int (iI (hrV m))))) (hp (m))
  have b1 := hM.1
  have b2 := hM.2.1
  have b4 := hM.2.2.2.1
  have b5 := hM.2.2.2.2.1
  refine x_aload_n (pc := 0) dX8_here_0 0 rfl ?_
  refine y_getI (pc := 1) 10 dX8_here_1 flX8_66 rfl rfl rfl (by decide) ?_
  refine x_aload_n (pc := 4) dX8_here_4 0 rfl ?_
  refine y_getI (pc := 5) 9 dX8_here_5 flX8_63 rfl rfl rfl (by decide) ?_
  refine x_icmp_ge (pc := 8) 27 dX8_here_8 (by decide) (by unfold inI; omega) (by unfold inI; omega) (fun c_8 => ?_) (fun c_8 => ?_)
  · refine x_iconst (pc := 27) dX8_here_27 ?_
    exact y_iret (pc := 28) dX8_here_28 rfl (by unfold hrV; rw [if_neg (by omega)]) rfl
  · refine x_aload_n (pc := 11) dX8_here_11 0 rfl ?_
    refine y_getR (pc := 12) dX8_here_12 flX8_29 rfl rfl rfl (by decide) ?_
    refine x_aload_n (pc := 15) dX8_here_15 0 rfl ?_
    refine y_getI (pc := 16) 10 dX8_here_16 flX8_66 rfl rfl rfl (by decide) ?_
    have tx := hM.2.2.1 (m 41 0 10) (by omega) (by omega)
    refine y_bald (pc := 19) dX8_here_19 rfl (by decide) (by omega) ?_
    refine x_sipush (pc := 20) (z := 255) dX8_here_20 (by decide) ?_
    refine x_iand_ (pc := 23) dX8_here_23 ?_
    rw [and255 _ tx]
    refine x_goto (pc := 24) 28 dX8_here_24 (by decide) ?_
    exact y_iret (pc := 28) dX8_here_28 rfl (by unfold hrV; rw [if_pos (by omega)]) rfl

theorem lp_next {G : GG} (m9 : Mem) : ∀ (n : Nat) (m : Mem), MB m → m 41 0 10 + n = m 41 0 9 → m9 = up3 m 41 0 10 (scF (m 48 0) bS n (m 41 0 10)) → X G MX8_next (rmD 1) 0 [(0, rf G 41 0)] [] (hp (m)) 0 0 (.inl (some (.int (iI (hrV (up3 m9 41 0 11 (m9 41 0 10))))))) (hp (up3 m9 41 0 11 (m9 41 0 10))) := by
  intro n
  induction n with
  | zero =>
    intro m hM hn h9
    have b1 := hM.1
    have b2 := hM.2.1
    have b4 := hM.2.2.2.1
    have b5 := hM.2.2.2.2.1
    refine x_aload_n (pc := 0) dX8_next_0 0 rfl ?_
    refine x_callV (pc := 1) _ dX8_next_1 (mp_here hM) lkX8_69 rfl rfl rfl rfl (mem_dom0 (by decide) (by decide)) (by decide) (Nat.le_of_ble_eq_true rfl) rfl ?_
    have hv := hrV_b m
    have hh : hrV m = -1 := by unfold hrV; rw [if_neg (by omega)]
    refine x_bipush (pc := 4) (z := 32) dX8_next_4 (by decide) ?_
    refine x_icmp_ne (pc := 6) 22 dX8_next_6 (by decide) (by unfold inI; omega) (by unfold inI; omega) (fun c_6 => ?_) (fun c_6 => absurd c_6 (by omega))
    have e2 : m9 = m := by rw [h9]; exact up3_id
    rw [← e2]
    rw [← e2] at hM
    refine x_aload_n (pc := 22) dX8_next_22 0 rfl ?_
    refine x_aload_n (pc := 23) dX8_next_23 0 rfl ?_
    refine y_getI (pc := 24) 10 dX8_next_24 flX8_66 rfl rfl rfl (by decide) ?_
    refine y_putI (pc := 27) 11 dX8_next_27 fwX8_73 rfl rfl rfl (by decide) ?_
    refine x_aload_n (pc := 30) dX8_next_30 0 rfl ?_
    refine x_callV (pc := 31) _ dX8_next_31 (mp_here (MB_be hM hM.2.1.1 (by have := hM.2.1.2; have := hM.1.2; omega))) lkX8_69 rfl rfl rfl rfl (mem_dom0 (by decide) (by decide)) (by decide) (Nat.le_of_ble_eq_true rfl) rfl ?_
    exact y_iret (pc := 34) dX8_next_34 rfl rfl rfl
  | succ n ih =>
    intro m hM hn h9
    have b1 := hM.1
    have b2 := hM.2.1
    have b4 := hM.2.2.2.1
    have b5 := hM.2.2.2.2.1
    refine x_aload_n (pc := 0) dX8_next_0 0 rfl ?_
    refine x_callV (pc := 1) _ dX8_next_1 (mp_here hM) lkX8_69 rfl rfl rfl rfl (mem_dom0 (by decide) (by decide)) (by decide) (Nat.le_of_ble_eq_true rfl) rfl ?_
    have hv := hrV_b m
    refine x_bipush (pc := 4) (z := 32) dX8_next_4 (by decide) ?_
    refine x_icmp_ne (pc := 6) 22 dX8_next_6 (by decide) (by unfold inI; omega) (by unfold inI; omega) (fun c_6 => ?_) (fun c_6 => ?_)
    · have e1 : bS (m 48 0 (m 41 0 10)) ≠ true := by intro z; have z2 := of_decide_eq_true z; apply c_6; unfold hrV; rw [if_pos (by omega), z2]; rfl
      have e2 : m9 = m := by rw [h9]; show up3 _ _ _ _ (if _ then _ else _) = _; rw [if_neg e1, up3_id]
      rw [← e2]
      rw [← e2] at hM
      refine x_aload_n (pc := 22) dX8_next_22 0 rfl ?_
      refine x_aload_n (pc := 23) dX8_next_23 0 rfl ?_
      refine y_getI (pc := 24) 10 dX8_next_24 flX8_66 rfl rfl rfl (by decide) ?_
      refine y_putI (pc := 27) 11 dX8_next_27 fwX8_73 rfl rfl rfl (by decide) ?_
      refine x_aload_n (pc := 30) dX8_next_30 0 rfl ?_
      refine x_callV (pc := 31) _ dX8_next_31 (mp_here (MB_be hM hM.2.1.1 (by have := hM.2.1.2; have := hM.1.2; omega))) lkX8_69 rfl rfl rfl rfl (mem_dom0 (by decide) (by decide)) (by decide) (Nat.le_of_ble_eq_true rfl) rfl ?_
      exact y_iret (pc := 34) dX8_next_34 rfl rfl rfl
    · refine x_aload_n (pc := 9) dX8_next_9 0 rfl ?_
      refine x_dup (pc := 10) dX8_next_10 rfl ?_
      refine y_getI (pc := 11) 10 dX8_next_11 flX8_66 rfl rfl rfl (by decide) ?_
      refine x_iconst (pc := 14) dX8_next_14 ?_
      refine x_iadd (pc := 15) dX8_next_15 ?_
      refine y_putI (pc := 16) 10 dX8_next_16 fwX8_66 rfl rfl rfl (by decide) ?_
      refine x_goto (pc := 19) 0 dX8_next_19 (by decide) ?_
      have e1 : bS (m 48 0 (m 41 0 10)) = true := by unfold bS; unfold hrV at c_6; rw [if_pos (by omega)] at c_6; exact decide_eq_true (by have tx := hM.2.2.1 (m 41 0 10) (by omega) (by omega); omega)
      exact ih (up3 m 41 0 10 (m 41 0 10 + 1)) (MB_at hM (by omega) (by omega)) (by rw [up3_at, up3_off (by decide)]; omega) (by rw [h9, up3_up3, up3_at, up3_k (by decide)]; show up3 _ _ _ _ (if _ then _ else _) = _; rw [if_pos e1])

theorem mp_next {G : GG} {m : Mem} (hM : MB m) : Ct G MX8_next (rmD 1) [rf G 41 0] (hp m) (.inl (some (.int (iI (hrV (nxM m)))))) (hp (nxM m)) := by
  refine x_entry (by decide +kernel) mwX8_next rfl (Nat.le_of_ble_eq_true rfl) ?_
  have b2 := hM.2.1
  exact lp_next _ (m 41 0 9 - m 41 0 10).toNat m hM (by omega) rfl
theorem mp_fails {G : GG} {m : Mem} (k : Int) (hM : MB m)  : Ct G MX8_fails (rmD 0) [rf G 41 0, .int (iI k)] (hp (m)) (.inl none) (hp (faM m k)) := by
  refine x_entry (by decide +kernel) mwX8_fails rfl (Nat.le_of_ble_eq_true rfl) ?_
  show X G MX8_fails (rmD 0) 0 [(0, rf G 41 0), (1, .int (iI k))] [] (hp (m)) 0 0 (.inl none) (hp (faM m k))
  have b1 := hM.1
  have b2 := hM.2.1
  have b4 := hM.2.2.2.1
  have b5 := hM.2.2.2.2.1
  refine x_aload_n (pc := 0) dX8_fails_0 0 rfl ?_
  refine y_getI (pc := 1) 12 dX8_fails_1 flX8_76 rfl rfl rfl (by decide) ?_
  refine x_if_ne (pc := 4) 20 dX8_fails_4 (by decide) (by unfold inI; omega) (fun c_4 => ?_) (fun c_4 => ?_)
  · exact y_vret (pc := 20) dX8_fails_20 rfl (by unfold faM; rw [if_neg c_4])
  · refine x_aload_n (pc := 7) dX8_fails_7 0 rfl ?_
    refine x_iload_n (pc := 8) dX8_fails_8 1 rfl ?_
    refine y_putI (pc := 9) 12 dX8_fails_9 fwX8_76 rfl rfl rfl (by decide) ?_
    refine x_aload_n (pc := 12) dX8_fails_12 0 rfl ?_
    refine x_aload_n (pc := 13) dX8_fails_13 0 rfl ?_
    refine y_getI (pc := 14) 11 dX8_fails_14 flX8_73 rfl rfl rfl (by decide) ?_
    refine y_putI (pc := 17) 13 dX8_fails_17 fwX8_79 rfl rfl rfl (by decide) ?_
    exact y_vret (pc := 20) dX8_fails_20 rfl (by unfold faM; rw [if_pos c_4]; rfl)

theorem lp_reads {G : GG} (m9 : Mem) : ∀ (n : Nat) (m : Mem), MB m → m 41 0 10 + n = m 41 0 9 → m9 = up3 m 41 0 10 (scF (m 48 0) bW n (m 41 0 10)) → X G MX8_reads (rmD 2) 5 [(0, rf G 41 0)] [] (hp (m)) 0 0 (.inl none) (hp (m9)) := by
  intro n
  induction n with
  | zero =>
    intro m hM hn h9
    have b1 := hM.1
    have b2 := hM.2.1
    have b4 := hM.2.2.2.1
    have b5 := hM.2.2.2.2.1
    refine x_aload_n (pc := 5) dX8_reads_5 0 rfl ?_
    refine x_callV (pc := 6) _ dX8_reads_6 (mp_here hM) lkX8_69 rfl rfl rfl rfl (mem_dom0 (by decide) (by decide)) (by decide) (Nat.le_of_ble_eq_true rfl) rfl ?_
    have hv := hrV_b m
    have hh : hrV m = -1 := by unfold hrV; rw [if_neg (by omega)]
    refine x_i2l (pc := 9) dX8_reads_9 (by unfold inI; omega) ?_
    refine x_ldc2 (pc := 10) (z := 97) dX8_reads_10 kcX8_85 (by decide) ?_
    refine x_ldc2 (pc := 13) (z := 122) dX8_reads_13 kcX8_87 (by decide) ?_
    refine x_callS (pc := 16) _ dX8_reads_16 (mq_in (hrV m) (97) (122) (by unfold inL; omega) (by unfold inL; omega) (by unfold inL; omega)) lkX8_44 rfl (by decide) (Nat.le_of_ble_eq_true rfl) rfl ?_
    refine x_ifb_eq (pc := 19) 35 dX8_reads_19 (by decide) (fun c_19 => ?_) (fun c_19 => absurd c_19 (by omega))
    exact y_vret (pc := 35) dX8_reads_35 rfl (by rw [h9]; exact up3_id.symm)
  | succ n ih =>
    intro m hM hn h9
    have b1 := hM.1
    have b2 := hM.2.1
    have b4 := hM.2.2.2.1
    have b5 := hM.2.2.2.2.1
    refine x_aload_n (pc := 5) dX8_reads_5 0 rfl ?_
    refine x_callV (pc := 6) _ dX8_reads_6 (mp_here hM) lkX8_69 rfl rfl rfl rfl (mem_dom0 (by decide) (by decide)) (by decide) (Nat.le_of_ble_eq_true rfl) rfl ?_
    have hv := hrV_b m
    refine x_i2l (pc := 9) dX8_reads_9 (by unfold inI; omega) ?_
    refine x_ldc2 (pc := 10) (z := 97) dX8_reads_10 kcX8_85 (by decide) ?_
    refine x_ldc2 (pc := 13) (z := 122) dX8_reads_13 kcX8_87 (by decide) ?_
    refine x_callS (pc := 16) _ dX8_reads_16 (mq_in (hrV m) (97) (122) (by unfold inL; omega) (by unfold inL; omega) (by unfold inL; omega)) lkX8_44 rfl (by decide) (Nat.le_of_ble_eq_true rfl) rfl ?_
    refine x_ifb_eq (pc := 19) 35 dX8_reads_19 (by decide) (fun c_19 => ?_) (fun c_19 => ?_)
    · have e1 : bW (m 48 0 (m 41 0 10)) ≠ true := by intro z; have z2 := of_decide_eq_true z; apply c_19; unfold hrV; rw [if_pos (by omega)]; omega
      exact y_vret (pc := 35) dX8_reads_35 rfl (by rw [h9]; show _ = up3 _ _ _ _ (if _ then _ else _); rw [if_neg e1, up3_id])
    · refine x_aload_n (pc := 22) dX8_reads_22 0 rfl ?_
      refine x_dup (pc := 23) dX8_reads_23 rfl ?_
      refine y_getI (pc := 24) 10 dX8_reads_24 flX8_66 rfl rfl rfl (by decide) ?_
      refine x_iconst (pc := 27) dX8_reads_27 ?_
      refine x_iadd (pc := 28) dX8_reads_28 ?_
      refine y_putI (pc := 29) 10 dX8_reads_29 fwX8_66 rfl rfl rfl (by decide) ?_
      refine x_goto (pc := 32) 5 dX8_reads_32 (by decide) ?_
      have e1 : bW (m 48 0 (m 41 0 10)) = true := by unfold bW; have z := c_19; unfold hrV at z; rw [if_pos (by omega)] at z; exact decide_eq_true (by have tx := hM.2.2.1 (m 41 0 10) (by omega) (by omega); omega)
      exact ih (up3 m 41 0 10 (m 41 0 10 + 1)) (MB_at hM (by omega) (by omega)) (by rw [up3_at, up3_off (by decide)]; omega) (by rw [h9, up3_up3, up3_at, up3_k (by decide)]; show up3 _ _ _ _ (if _ then _ else _) = _; rw [if_pos e1])

theorem mp_reads {G : GG} {m : Mem} (hM : MB m)  : Ct G MX8_reads (rmD 2) [rf G 41 0] (hp (m)) (.inl none) (hp (rsM m)) := by
  refine x_entry (by decide +kernel) mwX8_reads rfl (Nat.le_of_ble_eq_true rfl) ?_
  show X G MX8_reads (rmD 2) 0 [(0, rf G 41 0)] [] (hp (m)) 0 0 (.inl none) (hp (rsM m))
  refine x_aload_n (pc := 0) dX8_reads_0 0 rfl ?_
  refine x_callV (pc := 1) _ dX8_reads_1 (mp_next hM) lkX8_82 rfl rfl rfl rfl (mem_dom0 (by decide) (by decide)) (by decide) (Nat.le_of_ble_eq_true rfl) rfl ?_
  refine x_pop (pc := 4) dX8_reads_4 rfl ?_
  have hM1 := MB_nx hM
  have c2 := hM1.2.1
  exact lp_reads _ (nxM m 41 0 9 - nxM m 41 0 10).toNat (nxM m) hM1 (by omega) rfl

theorem lp_numb {G : GG} (m9 mE : Mem) (w9 lo hi : Int) (r9 : Option Value) (kk : X G MX8_number (rmD 2) 83 [(3, .int (iI w9)), (0, rf G 41 0), (1, .int (iI lo)), (2, .int (iI hi))] [] (hp m9) 0 0 (.inl r9) (hp mE))  : ∀ (n : Nat) (m : Mem) (v : Int), MB m → 0 ≤ v ∧ v ≤ 10000000 → m 41 0 10 + n = m 41 0 9 → m9 = up3 m 41 0 10 (scF (m 48 0) bD n (m 41 0 10)) → w9 = dwF (m 48 0) n (m 41 0 10) v → X G MX8_number (rmD 2) 35 [(3, .int (iI v)), (0, rf G 41 0), (1, .int (iI lo)), (2, .int (iI hi))] [] (hp (m)) 0 0 (.inl r9) (hp (mE)) := by
  intro n
  induction n with
  | zero =>
    intro m v hM hv0 hn h9 hw
    have b1 := hM.1
    have b2 := hM.2.1
    have b4 := hM.2.2.2.1
    have b5 := hM.2.2.2.2.1
    refine x_aload_n (pc := 35) dX8_number_35 1 rfl ?_
    refine x_callV (pc := 36) _ dX8_number_36 (mp_here hM) lkX8_69 rfl rfl rfl rfl (mem_dom0 (by decide) (by decide)) (by decide) (Nat.le_of_ble_eq_true rfl) rfl ?_
    have hv := hrV_b m
    have hh : hrV m = -1 := by unfold hrV; rw [if_neg (by omega)]
    refine x_i2l (pc := 39) dX8_number_39 (by unfold inI; omega) ?_
    refine x_ldc2 (pc := 40) (z := 48) dX8_number_40 kcX8_97 (by decide) ?_
    refine x_ldc2 (pc := 43) (z := 57) dX8_number_43 kcX8_99 (by decide) ?_
    refine x_callS (pc := 46) _ dX8_number_46 (mq_in (hrV m) (48) (57) (by unfold inL; omega) (by unfold inL; omega) (by unfold inL; omega)) lkX8_44 rfl (by decide) (Nat.le_of_ble_eq_true rfl) rfl ?_
    refine x_ifb_eq (pc := 49) 83 dX8_number_49 (by decide) (fun c_49 => ?_) (fun c_49 => absurd c_49 (by omega))
    have e2 : m9 = m := by rw [h9]; exact up3_id
    have e3 : w9 = v := hw
    rw [← e2, ← e3]
    exact x_lv [0, 1, 2, 3] rfl kk
  | succ n ih =>
    intro m v hM hv0 hn h9 hw
    have b1 := hM.1
    have b2 := hM.2.1
    have b4 := hM.2.2.2.1
    have b5 := hM.2.2.2.2.1
    refine x_aload_n (pc := 35) dX8_number_35 1 rfl ?_
    refine x_callV (pc := 36) _ dX8_number_36 (mp_here hM) lkX8_69 rfl rfl rfl rfl (mem_dom0 (by decide) (by decide)) (by decide) (Nat.le_of_ble_eq_true rfl) rfl ?_
    have hv := hrV_b m
    refine x_i2l (pc := 39) dX8_number_39 (by unfold inI; omega) ?_
    refine x_ldc2 (pc := 40) (z := 48) dX8_number_40 kcX8_97 (by decide) ?_
    refine x_ldc2 (pc := 43) (z := 57) dX8_number_43 kcX8_99 (by decide) ?_
    refine x_callS (pc := 46) _ dX8_number_46 (mq_in (hrV m) (48) (57) (by unfold inL; omega) (by unfold inL; omega) (by unfold inL; omega)) lkX8_44 rfl (by decide) (Nat.le_of_ble_eq_true rfl) rfl ?_
    refine x_ifb_eq (pc := 49) 83 dX8_number_49 (by decide) (fun c_49 => ?_) (fun c_49 => ?_)
    · have e1 : bD (m 48 0 (m 41 0 10)) ≠ true := by intro z; have z2 := of_decide_eq_true z; apply c_49; unfold hrV; rw [if_pos (by omega)]; omega
      have e2 : m9 = m := by rw [h9]; show up3 _ _ _ _ (if _ then _ else _) = _; rw [if_neg e1, up3_id]
      have e3 : w9 = v := by rw [hw]; show (if _ then _ else _) = _; rw [if_neg e1]
      rw [← e2, ← e3]
      exact x_lv [0, 1, 2, 3] rfl kk
    · have e1 : bD (m 48 0 (m 41 0 10)) = true := by unfold bD; have z := c_49; unfold hrV at z; rw [if_pos (by omega)] at z; exact decide_eq_true (by have tx := hM.2.2.1 (m 41 0 10) (by omega) (by omega); omega)
      have eh : hrV m = m 48 0 (m 41 0 10) := by have z := of_decide_eq_true e1; unfold hrV; rw [if_pos (by omega)]; omega
      refine x_ldc (pc := 52) (z := 10000000) dX8_number_52 kcX8_105 (by decide) ?_
      refine x_bipush (pc := 54) (z := 10) dX8_number_54 (by decide) ?_
      refine x_iload_n (pc := 56) dX8_number_56 0 rfl ?_
      refine x_imul (pc := 57) dX8_number_57 ?_
      refine x_aload_n (pc := 58) dX8_number_58 1 rfl ?_
      refine x_callV (pc := 59) _ dX8_number_59 (mp_here hM) lkX8_69 rfl rfl rfl rfl (mem_dom0 (by decide) (by decide)) (by decide) (Nat.le_of_ble_eq_true rfl) rfl ?_
      rw [eh]
      refine x_iadd (pc := 62) dX8_number_62 ?_
      refine x_bipush (pc := 63) (z := 48) dX8_number_63 (by decide) ?_
      refine x_isub (pc := 65) dX8_number_65 ?_
      refine x_min (pc := 66) dX8_number_66 lmX8_106 (by unfold inI; omega) (by unfold inI; omega) (by decide) (Nat.le_of_ble_eq_true rfl) (by decide) (by decide) ?_
      refine x_istore_n (pc := 69) (lv' := [(3, _), (0, _), (1, _), (2, _)]) dX8_number_69 rfl (by decide) rfl ?_
      refine x_aload_n (pc := 70) dX8_number_70 1 rfl ?_
      refine x_dup (pc := 71) dX8_number_71 rfl ?_
      refine y_getI (pc := 72) 10 dX8_number_72 flX8_66 rfl rfl rfl (by decide) ?_
      refine x_iconst (pc := 75) dX8_number_75 ?_
      refine x_iadd (pc := 76) dX8_number_76 ?_
      refine y_putI (pc := 77) 10 dX8_number_77 fwX8_66 rfl rfl rfl (by decide) ?_
      refine x_goto (pc := 80) 35 dX8_number_80 (by decide) ?_
      have z := of_decide_eq_true e1
      exact x_lv [0, 1, 2, 3] rfl (ih (up3 m 41 0 10 (m 41 0 10 + 1)) (min 10000000 (10 * v + m 48 0 (m 41 0 10) - 48)) (MB_at hM (by omega) (by omega)) (by omega) (by rw [up3_at, up3_off (by decide)]; omega) (by rw [h9, up3_up3, up3_at, up3_k (by decide)]; show up3 _ _ _ _ (if _ then _ else _) = _; rw [if_pos e1]) (by rw [hw, up3_at, up3_k (by decide)]; show (if _ then _ else _) = _; rw [if_pos e1]))

theorem tl_numb {G : GG} {m : Mem} (v lo hi : Int) (hv : 0 ≤ v ∧ v ≤ 10000000) (hlo : inI lo) (hhi : inI hi) (r9 : Option Value) (mE : Mem) (hy : lo ≤ v ∧ v ≤ hi → r9 = some (.int (iI v)) ∧ mE = m) (hn : ¬ (lo ≤ v ∧ v ≤ hi) → r9 = some (.int (iI lo)) ∧ mE = faM m 2) (hM : MB m)  : X G MX8_number (rmD 2) 83 [(3, .int (iI v)), (0, rf G 41 0), (1, .int (iI lo)), (2, .int (iI hi))] [] (hp (m)) 0 0 (.inl r9) (hp (mE)) := by
  have b1 := hM.1
  have b2 := hM.2.1
  have b4 := hM.2.2.2.1
  have b5 := hM.2.2.2.2.1
  refine x_iload_n (pc := 83) dX8_number_83 0 rfl ?_
  refine x_i2l (pc := 84) dX8_number_84 (by unfold inI; omega) ?_
  refine x_iload_n (pc := 85) dX8_number_85 2 rfl ?_
  refine x_i2l (pc := 86) dX8_number_86 hlo ?_
  refine x_iload_n (pc := 87) dX8_number_87 3 rfl ?_
  refine x_i2l (pc := 88) dX8_number_88 hhi ?_
  refine x_callS (pc := 89) _ dX8_number_89 (mq_in (v) (lo) (hi) (by unfold inL; omega) (by unfold inI at hlo; unfold inL; omega) (by unfold inI at hhi; unfold inL; omega)) lkX8_44 rfl (by decide) (Nat.le_of_ble_eq_true rfl) rfl ?_
  refine x_ifb_ne (pc := 92) 102 dX8_number_92 (by decide) (fun c_92 => ?_) (fun c_92 => ?_)
  · refine x_iload_n (pc := 102) dX8_number_102 0 rfl ?_
    rw [(hy c_92).1, (hy c_92).2]
    exact y_iret (pc := 103) dX8_number_103 rfl rfl rfl
  · refine x_aload_n (pc := 95) dX8_number_95 1 rfl ?_
    refine x_iconst (pc := 96) dX8_number_96 ?_
    refine x_callV (pc := 97) _ dX8_number_97 (mp_fails 2 hM) lkX8_101 rfl rfl rfl rfl (mem_dom0 (by decide) (by decide)) (by decide) (Nat.le_of_ble_eq_true rfl) rfl ?_
    refine x_iload_n (pc := 100) dX8_number_100 2 rfl ?_
    rw [(hn c_92).1, (hn c_92).2]
    exact y_iret (pc := 101) dX8_number_101 rfl rfl rfl

theorem mp_num {G : GG} {m : Mem} (lo hi : Int) (hlo : inI lo) (hhi : inI hi) (hM : MB m)  : Ct G MX8_number (rmD 2) [rf G 41 0, .int (iI lo), .int (iI hi)] (hp (m)) (.inl (some (.int (iI (nuV m lo hi))))) (hp (nuM m lo hi)) := by
  refine x_entry (by decide +kernel) mwX8_number rfl (Nat.le_of_ble_eq_true rfl) ?_
  show X G MX8_number (rmD 2) 0 [(0, rf G 41 0), (1, .int (iI lo)), (2, .int (iI hi))] [] (hp (m)) 0 0 (.inl (some (.int (iI (nuV m lo hi))))) (hp (nuM m lo hi))
  have b1 := hM.1
  have b2 := hM.2.1
  have b4 := hM.2.2.2.1
  have b5 := hM.2.2.2.2.1
  refine x_aload_n (pc := 0) dX8_number_0 0 rfl ?_
  refine y_getI (pc := 1) 12 dX8_number_1 flX8_76 rfl rfl rfl (by decide) ?_
  refine x_if_eq (pc := 4) 9 dX8_number_4 (by decide) (by unfold inI; omega) (fun c_4 => ?_) (fun c_4 => ?_)
  · refine x_aload_n (pc := 9) dX8_number_9 0 rfl ?_
    refine x_callV (pc := 10) _ dX8_number_10 (mp_next hM) lkX8_82 rfl rfl rfl rfl (mem_dom0 (by decide) (by decide)) (by decide) (Nat.le_of_ble_eq_true rfl) rfl ?_
    have hM1 := MB_nx hM
    have hv := hrV_b (nxM m)
    refine x_i2l (pc := 13) dX8_number_13 (by unfold inI; omega) ?_
    refine x_ldc2 (pc := 14) (z := 48) dX8_number_14 kcX8_97 (by decide) ?_
    refine x_ldc2 (pc := 17) (z := 57) dX8_number_17 kcX8_99 (by decide) ?_
    refine x_callS (pc := 20) _ dX8_number_20 (mq_in (hrV (nxM m)) (48) (57) (by unfold inL; omega) (by unfold inL; omega) (by unfold inL; omega)) lkX8_44 rfl (by decide) (Nat.le_of_ble_eq_true rfl) rfl ?_
    refine x_ifb_ne (pc := 23) 33 dX8_number_23 (by decide) (fun c_23 => ?_) (fun c_23 => ?_)
    · refine x_iconst (pc := 33) dX8_number_33 ?_
      refine x_istore_n (pc := 34) (lv' := [(3, _), (0, _), (1, _), (2, _)]) dX8_number_34 rfl (by decide) rfl ?_
      have c2 := hM1.2.1
      have w := nuW_b m
      exact x_lv [0, 1, 2, 3] rfl (lp_numb _ _ _ lo hi _ (tl_numb (m := nu2 m) (nuW m) lo hi w hlo hhi _ _ (fun z => ⟨by unfold nuV; rw [if_pos c_4, if_pos c_23, if_pos z], by unfold nuM; rw [if_pos c_4, if_pos c_23, if_pos z]⟩) (fun z => ⟨by unfold nuV; rw [if_pos c_4, if_pos c_23, if_neg z], by unfold nuM; rw [if_pos c_4, if_pos c_23, if_neg z]⟩) (MB_mc hM1)) (nxM m 41 0 9 - nxM m 41 0 10).toNat (nxM m) 0 hM1 (by omega) (by omega) rfl rfl)
    · refine x_aload_n (pc := 26) dX8_number_26 0 rfl ?_
      refine x_iconst (pc := 27) dX8_number_27 ?_
      refine x_callV (pc := 28) _ dX8_number_28 (mp_fails 1 hM1) lkX8_101 rfl rfl rfl rfl (mem_dom0 (by decide) (by decide)) (by decide) (Nat.le_of_ble_eq_true rfl) rfl ?_
      refine x_iload_n (pc := 31) dX8_number_31 1 rfl ?_
      exact y_iret (pc := 32) dX8_number_32 rfl (by unfold nuV; rw [if_pos c_4, if_neg c_23]) (by unfold nuM; rw [if_pos c_4, if_neg c_23])
  · refine x_iload_n (pc := 7) dX8_number_7 1 rfl ?_
    exact y_iret (pc := 8) dX8_number_8 rfl (by unfold nuV; rw [if_neg c_4]) (by unfold nuM; rw [if_neg c_4])

def knM (m : Mem) : Mem := nuM m 0 (m 43 0 3 - 1)
def knV (m : Mem) : Int := nuV m 0 (m 43 0 3 - 1)
/-- counts of the row that is read -/
def NB3 (m : Mem) : Prop := (0 ≤ m 43 0 3 ∧ m 43 0 3 ≤ 8) ∧ (0 ≤ m 43 0 4 ∧ m 43 0 4 ≤ 4) ∧ (0 ≤ m 43 0 6 ∧ m 43 0 6 ≤ 12) ∧ (0 ≤ m 43 0 5 ∧ m 43 0 5 ≤ 12) ∧ (0 ≤ m 43 0 8 ∧ m 43 0 8 ≤ 8) ∧ (0 ≤ m 43 0 7 ∧ m 43 0 7 ≤ 16) ∧ (∀ c, 0 ≤ c → c < 12 → inI (m 43 0 (86 + 6 * c + 0)) ∧ inI (m 43 0 (86 + 6 * c + 1)))
theorem NB3.k {m m' : Mem} (h : NB3 m) (e : m' 43 = m 43) : NB3 m' := by unfold NB3; rw [e]; exact h
theorem NB3_nu {m : Mem} {lo hi : Int} (h : NB3 m) : NB3 (nuM m lo hi) := h.k (nuM_k (by decide))
theorem NB3_fa {m : Mem} {k : Int} (h : NB3 m) : NB3 (faM m k) := h.k (faM_k (by decide))
/-- a number put into the row that is read -/
def snM (m : Mem) (j lo hi : Int) : Mem := up3 (nuM m lo hi) 43 0 j (nuV m lo hi)
theorem MB_43 {m : Mem} {j z : Int} (h : MB m) : MB (up3 m 43 0 j z) := h.k (up3_k (by decide)) (up3_k (by decide))
theorem MB_sn {m : Mem} {j lo hi : Int} (h : MB m) : MB (snM m j lo hi) := MB_43 (MB_nu h)
theorem snM_a {m : Mem} {j lo hi i : Int} : snM m j lo hi 43 0 i = if i = j then nuV m lo hi else m 43 0 i := by
  unfold snM
  rw [up3_apply, nuM_k (by decide)]
  by_cases h : i = j
  · rw [if_pos ⟨rfl, rfl, h⟩, if_pos h]
  · rw [if_neg (fun z => h z.2.2), if_neg h]
theorem mp_kn {G : GG} {m : Mem} (hM : MB m) (hN : NB3 m)  : Ct G MX8_knownPack (rmD 3) [rf G 41 0] (hp (m)) (.inl (some (.int (iI (knV m))))) (hp (knM m)) := by
  refine x_entry (by decide +kernel) mwX8_knownPack rfl (Nat.le_of_ble_eq_true rfl) ?_
  show X G MX8_knownPack (rmD 3) 0 [(0, rf G 41 0)] [] (hp (m)) 0 0 (.inl (some (.int (iI (knV m))))) (hp (knM m))
  have n3 := hN.1
  have n4 := hN.2.1
  have n6 := hN.2.2.1
  have n5 := hN.2.2.2.1
  have n8 := hN.2.2.2.2.1
  have n7 := hN.2.2.2.2.2.1
  refine x_aload_n (pc := 0) dX8_knownPack_0 0 rfl ?_
  refine x_iconst (pc := 1) dX8_knownPack_1 ?_
  refine x_aload_n (pc := 2) dX8_knownPack_2 0 rfl ?_
  refine y_getR (pc := 3) dX8_knownPack_3 flX8_13 rfl rfl rfl (by decide) ?_
  refine x_iconst (pc := 6) dX8_knownPack_6 ?_
  refine y_iald (pc := 7) dX8_knownPack_7 rfl (by decide) (by omega) ?_
  refine x_iconst (pc := 8) dX8_knownPack_8 ?_
  refine x_isub (pc := 9) dX8_knownPack_9 ?_
  refine x_callV (pc := 10) _ dX8_knownPack_10 (mp_num 0 (m 43 0 3 - 1) (by unfold inI; omega) (by unfold inI; omega) hM) lkX8_111 rfl rfl rfl rfl (mem_dom0 (by decide) (by decide)) (by decide) (Nat.le_of_ble_eq_true rfl) rfl ?_
  exact y_iret (pc := 13) dX8_knownPack_13 rfl rfl rfl

theorem knV_b {m : Mem} : 0 ≤ knV m ∧ knV m ≤ 10000000 := nuV_b _ _ _ (by decide)
def roM (m : Mem) : Mem := faM (up3 m 41 0 11 (m 41 0 15)) 4
theorem MB_ro {m : Mem} (h : MB m) : MB (roM m) := MB_fa (MB_be h h.2.2.2.2.2.1 h.2.2.2.2.2.2) (by decide)
theorem mp_room {G : GG} {m : Mem} (k x : Int) (hk : 0 ≤ k ∧ k < 430) (hx : inI x) (hi : inI (m 43 0 k)) (hM : MB m)  : Ct G MX8_isRoom (rmD 1) [rf G 41 0, .int (iI k), .int (iI x)] (hp (m)) (.inl (some (.int (iI (if m 43 0 k < x then 1 else 0))))) (hp (if m 43 0 k < x then m else roM m)) := by
  refine x_entry (by decide +kernel) mwX8_isRoom rfl (Nat.le_of_ble_eq_true rfl) ?_
  show X G MX8_isRoom (rmD 1) 0 [(0, rf G 41 0), (1, .int (iI k)), (2, .int (iI x))] [] (hp (m)) 0 0 (.inl (some (.int (iI (if m 43 0 k < x then 1 else 0))))) (hp (if m 43 0 k < x then m else roM m))
  refine x_aload_n (pc := 0) dX8_isRoom_0 0 rfl ?_
  refine y_getR (pc := 1) dX8_isRoom_1 flX8_13 rfl rfl rfl (by decide) ?_
  refine x_iload_n (pc := 4) dX8_isRoom_4 1 rfl ?_
  refine y_iald (pc := 5) dX8_isRoom_5 rfl (by decide) (by omega) ?_
  refine x_iload_n (pc := 6) dX8_isRoom_6 2 rfl ?_
  refine x_icmp_ge (pc := 7) 12 dX8_isRoom_7 (by decide) hi hx (fun c_7 => ?_) (fun c_7 => ?_)
  · refine x_aload_n (pc := 12) dX8_isRoom_12 0 rfl ?_
    refine x_aload_n (pc := 13) dX8_isRoom_13 0 rfl ?_
    refine y_getI (pc := 14) 15 dX8_isRoom_14 flX8_114 rfl rfl rfl (by decide) ?_
    refine y_putI (pc := 17) 11 dX8_isRoom_17 fwX8_73 rfl rfl rfl (by decide) ?_
    refine x_aload_n (pc := 20) dX8_isRoom_20 0 rfl ?_
    refine x_iconst (pc := 21) dX8_isRoom_21 ?_
    refine x_callV (pc := 22) _ dX8_isRoom_22 (mp_fails 4 (MB_be hM hM.2.2.2.2.2.1 hM.2.2.2.2.2.2)) lkX8_101 rfl rfl rfl rfl (mem_dom0 (by decide) (by decide)) (by decide) (Nat.le_of_ble_eq_true rfl) rfl ?_
    refine x_iconst (pc := 25) dX8_isRoom_25 ?_
    exact y_z0ret (pc := 26) dX8_isRoom_26 rfl (by omega) (by rw [if_neg (by omega)]; rfl)
  · refine x_iconst (pc := 10) dX8_isRoom_10 ?_
    exact y_z1ret (pc := 11) dX8_isRoom_11 rfl (by omega) (by rw [if_pos (by omega)])

theorem lp_betw3 {G : GG} {m : Mem} (a b : Int) (ha : inI a) (hb : inI b) (hN : NB3 m)  (z9 : Int) : ∀ (n : Nat) (c : Int), c + n = m 43 0 5 → 0 ≤ c → z9 = betF (m 43 0) a b c n → X G MX8_between (rmD 0) 2 [(0, rf G 43 0), (1, .int (iI a)), (2, .int (iI b)), (3, .int (iI c))] [] (hp (m)) 0 0 (.inl (some (.int (iI (z9))))) (hp (m)) := by
  intro n
  induction n with
  | zero =>
    intro c h1 h0 hz
    have u2 := hN.2.2.2.1
    refine x_iload_n (pc := 2) dX8_between_2 3 rfl ?_
    refine x_aload_n (pc := 3) dX8_between_3 0 rfl ?_
    refine x_iconst (pc := 4) dX8_between_4 ?_
    refine y_iald (pc := 5) dX8_between_5 rfl (by decide) (by omega) ?_
    refine x_icmp_ge (pc := 6) 67 dX8_between_6 (by decide) (by unfold inI; omega) (by unfold inI; omega) (fun c_6 => ?_) (fun c_6 => (by exfalso; omega))
    refine x_iconst (pc := 67) dX8_between_67 ?_
    exact y_iret (pc := 68) dX8_between_68 rfl (by rw [hz]; rfl) rfl
  | succ n ih =>
    intro c h1 h0 hz
    have u2 := hN.2.2.2.1
    have uc := hN.2.2.2.2.2.2 c h0 (by omega)
    refine x_iload_n (pc := 2) dX8_between_2 3 rfl ?_
    refine x_aload_n (pc := 3) dX8_between_3 0 rfl ?_
    refine x_iconst (pc := 4) dX8_between_4 ?_
    refine y_iald (pc := 5) dX8_between_5 rfl (by decide) (by omega) ?_
    refine x_icmp_ge (pc := 6) 67 dX8_between_6 (by decide) (by unfold inI; omega) (by unfold inI; omega) (fun c_6 => (by exfalso; omega)) (fun c_6 => ?_)
    refine x_aload_n (pc := 9) dX8_between_9 0 rfl ?_
    refine x_bipush (pc := 10) (z := 86) dX8_between_10 (by decide) ?_
    refine x_bipush (pc := 12) (z := 6) dX8_between_12 (by decide) ?_
    refine x_iload_n (pc := 14) dX8_between_14 3 rfl ?_
    refine x_imul (pc := 15) dX8_between_15 ?_
    refine x_iadd (pc := 16) dX8_between_16 ?_
    refine x_iconst (pc := 17) dX8_between_17 ?_
    refine x_iadd (pc := 18) dX8_between_18 ?_
    refine y_iald (pc := 19) dX8_between_19 rfl (by decide) (by omega) ?_
    refine x_istore (pc := 20) (lv' := [(4, _), (0, _), (1, _), (2, _), (3, _)]) dX8_between_20 (by decide) rfl ?_
    refine x_aload_n (pc := 22) dX8_between_22 1 rfl ?_
    refine x_bipush (pc := 23) (z := 86) dX8_between_23 (by decide) ?_
    refine x_bipush (pc := 25) (z := 6) dX8_between_25 (by decide) ?_
    refine x_iload_n (pc := 27) dX8_between_27 4 rfl ?_
    refine x_imul (pc := 28) dX8_between_28 ?_
    refine x_iadd (pc := 29) dX8_between_29 ?_
    refine x_iconst (pc := 30) dX8_between_30 ?_
    refine x_iadd (pc := 31) dX8_between_31 ?_
    refine y_iald (pc := 32) dX8_between_32 rfl (by decide) (by omega) ?_
    refine x_istore (pc := 33) (lv' := [(5, _), (4, _), (0, _), (1, _), (2, _), (3, _)]) dX8_between_33 (by decide) rfl ?_
    refine x_iload (pc := 35) dX8_between_35 1 rfl ?_
    refine x_iload_n (pc := 37) dX8_between_37 3 rfl ?_
    refine x_icmp_ne (pc := 38) 47 dX8_between_38 (by decide) uc.1 ha (fun c_38 => ?_) (fun c_38 => ?_)
    · refine x_iload (pc := 47) dX8_between_47 1 rfl ?_
      refine x_iload_n (pc := 49) dX8_between_49 4 rfl ?_
      refine x_icmp_ne (pc := 50) 61 dX8_between_50 (by decide) uc.1 hb (fun c_50 => ?_) (fun c_50 => ?_)
      · refine x_iinc (pc := 61) (lv' := [(3, _), (5, _), (4, _), (0, _), (1, _), (2, _)]) dX8_between_61 5 rfl (by decide) rfl ?_
        refine x_goto (pc := 64) 2 dX8_between_64 (by decide) ?_
        have e : ¬ ((m 43 0 (86 + 6 * c + 0) = a ∧ m 43 0 (86 + 6 * c + 1) = b) ∨ (m 43 0 (86 + 6 * c + 0) = b ∧ m 43 0 (86 + 6 * c + 1) = a)) := by omega
        exact x_lv [3, 4, 5, 0] rfl (ih (c + 1) (by omega) (by omega) (by rw [hz]; show (if _ then _ else _) = _; rw [if_neg e]))
      · refine x_iload (pc := 53) dX8_between_53 0 rfl ?_
        refine x_iload_n (pc := 55) dX8_between_55 3 rfl ?_
        refine x_icmp_ne (pc := 56) 61 dX8_between_56 (by decide) uc.2 ha (fun c_56 => ?_) (fun c_56 => ?_)
        · refine x_iinc (pc := 61) (lv' := [(3, _), (5, _), (4, _), (0, _), (1, _), (2, _)]) dX8_between_61 5 rfl (by decide) rfl ?_
          refine x_goto (pc := 64) 2 dX8_between_64 (by decide) ?_
          have e : ¬ ((m 43 0 (86 + 6 * c + 0) = a ∧ m 43 0 (86 + 6 * c + 1) = b) ∨ (m 43 0 (86 + 6 * c + 0) = b ∧ m 43 0 (86 + 6 * c + 1) = a)) := by omega
          exact x_lv [3, 4, 5, 0] rfl (ih (c + 1) (by omega) (by omega) (by rw [hz]; show (if _ then _ else _) = _; rw [if_neg e]))
        · refine x_iload_n (pc := 59) dX8_between_59 5 rfl ?_
          exact y_iret (pc := 60) dX8_between_60 rfl (by rw [hz]; show _ = (if _ then _ else _); rw [if_pos (by omega)]) rfl
    · refine x_iload (pc := 41) dX8_between_41 0 rfl ?_
      refine x_iload_n (pc := 43) dX8_between_43 4 rfl ?_
      refine x_icmp_eq (pc := 44) 59 dX8_between_44 (by decide) uc.2 hb (fun c_44 => ?_) (fun c_44 => ?_)
      · refine x_iload_n (pc := 59) dX8_between_59 5 rfl ?_
        exact y_iret (pc := 60) dX8_between_60 rfl (by rw [hz]; show _ = (if _ then _ else _); rw [if_pos (by omega)]) rfl
      · refine x_iload (pc := 47) dX8_between_47 1 rfl ?_
        refine x_iload_n (pc := 49) dX8_between_49 4 rfl ?_
        refine x_icmp_ne (pc := 50) 61 dX8_between_50 (by decide) uc.1 hb (fun c_50 => ?_) (fun c_50 => ?_)
        · refine x_iinc (pc := 61) (lv' := [(3, _), (5, _), (4, _), (0, _), (1, _), (2, _)]) dX8_between_61 5 rfl (by decide) rfl ?_
          refine x_goto (pc := 64) 2 dX8_between_64 (by decide) ?_
          have e : ¬ ((m 43 0 (86 + 6 * c + 0) = a ∧ m 43 0 (86 + 6 * c + 1) = b) ∨ (m 43 0 (86 + 6 * c + 0) = b ∧ m 43 0 (86 + 6 * c + 1) = a)) := by omega
          exact x_lv [3, 4, 5, 0] rfl (ih (c + 1) (by omega) (by omega) (by rw [hz]; show (if _ then _ else _) = _; rw [if_neg e]))
        · refine x_iload (pc := 53) dX8_between_53 0 rfl ?_
          refine x_iload_n (pc := 55) dX8_between_55 3 rfl ?_
          refine x_icmp_ne (pc := 56) 61 dX8_between_56 (by decide) uc.2 ha (fun c_56 => ?_) (fun c_56 => ?_)
          · refine x_iinc (pc := 61) (lv' := [(3, _), (5, _), (4, _), (0, _), (1, _), (2, _)]) dX8_between_61 5 rfl (by decide) rfl ?_
            refine x_goto (pc := 64) 2 dX8_between_64 (by decide) ?_
            have e : ¬ ((m 43 0 (86 + 6 * c + 0) = a ∧ m 43 0 (86 + 6 * c + 1) = b) ∨ (m 43 0 (86 + 6 * c + 0) = b ∧ m 43 0 (86 + 6 * c + 1) = a)) := by omega
            exact x_lv [3, 4, 5, 0] rfl (ih (c + 1) (by omega) (by omega) (by rw [hz]; show (if _ then _ else _) = _; rw [if_neg e]))
          · refine x_iload_n (pc := 59) dX8_between_59 5 rfl ?_
            exact y_iret (pc := 60) dX8_between_60 rfl (by rw [hz]; show _ = (if _ then _ else _); rw [if_pos (by omega)]) rfl

theorem mp_betw {G : GG} {m : Mem} (a b : Int) (ha : inI a) (hb : inI b) (hN : NB3 m)  : Ct G MX8_between (rmD 0) [rf G 43 0, .int (iI a), .int (iI b)] (hp (m)) (.inl (some (.int (iI (betN (m 43 0) a b))))) (hp (m)) := by
  refine x_entry (by decide +kernel) mwX8_between rfl (Nat.le_of_ble_eq_true rfl) ?_
  show X G MX8_between (rmD 0) 0 [(0, rf G 43 0), (1, .int (iI a)), (2, .int (iI b))] [] (hp (m)) 0 0 (.inl (some (.int (iI (betN (m 43 0) a b))))) (hp (m))
  refine x_iconst (pc := 0) dX8_between_0 ?_
  refine x_istore_n (pc := 1) (lv' := [(3, _), (0, _), (1, _), (2, _)]) dX8_between_1 rfl (by decide) rfl ?_
  have u2 := hN.2.2.2.1
  exact x_lv [1, 2, 3, 0] rfl (lp_betw3 a b ha hb hN _ (m 43 0 5).toNat 0 (by omega) (by omega) rfl)

theorem lp_wordM {G : GG} {m : Mem} {i : Nat} (hi : i < 7) (hab : m 41 0 10 - m 41 0 11 = sL i) (z9 : Bool) (hM : MB m) : ∀ (n : Nat) (j : Nat), (j : Int) + n = sL i → z9 = wF (m 48 0) (m 41 0 11) i n j → X G MX8_isWord (rmD 4) 24 [(3, .int (iI (j : Nat))), (2, .int (iI 1)), (0, rf G 41 0), (1, .ref (gK G i))] [] (hp m) 0 0 (.inl (some (.int (iI (if z9 = true then 1 else 0))))) (hp m) := by
  have bl := sL_b hi
  have b1 := hM.1
  have b2 := hM.2.1
  have b5 := hM.2.2.2.2.1
  intro n
  induction n with
  | zero =>
    intro j hn h9
    refine x_iload_n (pc := 24) dX8_isWord_24 1 rfl ?_
    refine x_if_eq (pc := 25) 67 dX8_isWord_25 (by decide) (by unfold inI; decide) (fun c_25 => absurd c_25 (by decide)) (fun c_25 => ?_)
    refine x_iload_n (pc := 28) dX8_isWord_28 0 rfl ?_
    refine x_aload_n (pc := 29) dX8_isWord_29 3 rfl ?_
    refine x_callVs (pc := 30) _ hi dX8_isWord_30 (ct_slen hi) lkX8_89 rfl rfl (by decide) (Nat.le_of_ble_eq_true rfl) rfl ?_
    refine x_icmp_ge (pc := 33) 67 dX8_isWord_33 (by decide) (by unfold inI; omega) (by unfold inI; omega) (fun c_33 => ?_) (fun c_33 => (by exfalso; omega))
    refine x_iload_n (pc := 67) dX8_isWord_67 1 rfl ?_
    exact y_z1ret (pc := 68) dX8_isWord_68 rfl (by rw [h9]; rfl) rfl
  | succ n ih =>
    intro j hn h9
    refine x_iload_n (pc := 24) dX8_isWord_24 1 rfl ?_
    refine x_if_eq (pc := 25) 67 dX8_isWord_25 (by decide) (by unfold inI; decide) (fun c_25 => absurd c_25 (by decide)) (fun c_25 => ?_)
    refine x_iload_n (pc := 28) dX8_isWord_28 0 rfl ?_
    refine x_aload_n (pc := 29) dX8_isWord_29 3 rfl ?_
    refine x_callVs (pc := 30) _ hi dX8_isWord_30 (ct_slen hi) lkX8_89 rfl rfl (by decide) (Nat.le_of_ble_eq_true rfl) rfl ?_
    refine x_icmp_ge (pc := 33) 67 dX8_isWord_33 (by decide) (by unfold inI; omega) (by unfold inI; omega) (fun c_33 => (by exfalso; omega)) (fun c_33 => ?_)
    have sb := sB_b i j hi (by omega)
    have tx := hM.2.2.1 (m 41 0 11 + j) (by omega) (by omega)
    refine x_aload_n (pc := 36) dX8_isWord_36 2 rfl ?_
    refine y_getR (pc := 37) dX8_isWord_37 flX8_29 rfl rfl rfl (by decide) ?_
    refine x_aload_n (pc := 40) dX8_isWord_40 2 rfl ?_
    refine y_getI (pc := 41) 11 dX8_isWord_41 flX8_73 rfl rfl rfl (by decide) ?_
    refine x_iload_n (pc := 44) dX8_isWord_44 0 rfl ?_
    refine x_iadd (pc := 45) dX8_isWord_45 ?_
    refine y_bald (pc := 46) dX8_isWord_46 rfl (by decide) (by omega) ?_
    refine x_aload_n (pc := 47) dX8_isWord_47 3 rfl ?_
    refine x_iload_n (pc := 48) dX8_isWord_48 0 rfl ?_
    refine x_callVs (pc := 49) _ hi dX8_isWord_49 (ct_char hi j (by omega)) lkX8_93 rfl rfl (by decide) (Nat.le_of_ble_eq_true rfl) rfl ?_
    refine x_icmp_ne (pc := 52) 59 dX8_isWord_52 (by decide) (by unfold inI; omega) (by unfold inI; omega) (fun c_52 => ?_) (fun c_52 => ?_)
    · refine x_iconst (pc := 59) dX8_isWord_59 ?_
      refine x_istore_n (pc := 60) (lv' := [(2, _), (3, _), (0, _), (1, _)]) dX8_isWord_60 rfl (by decide) rfl ?_
      refine x_iinc (pc := 61) (lv' := [(3, _), (2, _), (0, _), (1, _)]) dX8_isWord_61 1 rfl (by decide) rfl ?_
      refine x_goto (pc := 64) 24 dX8_isWord_64 (by decide) ?_
      refine x_iload_n (pc := 24) dX8_isWord_24 1 rfl ?_
      refine x_if_eq (pc := 25) 67 dX8_isWord_25 (by decide) (by unfold inI; decide) (fun c_25 => ?_) (fun c_25 => absurd c_25 (fun z => z rfl))
      refine x_iload_n (pc := 67) dX8_isWord_67 1 rfl ?_
      exact y_z0ret (pc := 68) dX8_isWord_68 rfl (by rw [h9]; show ¬ (if _ then _ else _) = true; rw [if_neg c_52]; decide) rfl
    · refine x_iconst (pc := 55) dX8_isWord_55 ?_
      refine x_goto (pc := 56) 60 dX8_isWord_56 (by decide) ?_
      refine x_istore_n (pc := 60) (lv' := [(2, _), (3, _), (0, _), (1, _)]) dX8_isWord_60 rfl (by decide) rfl ?_
      refine x_iinc (pc := 61) (lv' := [(3, _), (2, _), (0, _), (1, _)]) dX8_isWord_61 1 rfl (by decide) rfl ?_
      refine x_goto (pc := 64) 24 dX8_isWord_64 (by decide) ?_
      exact x_lv [0, 1, 2, 3] rfl (ih (j + 1) (by omega) (by rw [h9]; show (if _ then _ else _) = _; rw [if_pos c_52]))

theorem mp_isWord {G : GG} {m : Mem} {i : Nat} (hi : i < 7) (hM : MB m)  : Ct G MX8_isWord (rmD 4) [rf G 41 0, .ref (gK G i)] (hp (m)) (.inl (some (.int (iI (if wdB (m 48 0) (m 41 0 11) (m 41 0 10) i = true then 1 else 0))))) (hp (m)) := by
  refine x_entry (by decide +kernel) mwX8_isWord rfl (Nat.le_of_ble_eq_true rfl) ?_
  show X G MX8_isWord (rmD 4) 0 [(0, rf G 41 0), (1, .ref (gK G i))] [] (hp (m)) 0 0 (.inl (some (.int (iI (if wdB (m 48 0) (m 41 0 11) (m 41 0 10) i = true then 1 else 0))))) (hp (m))
  have bl := sL_b hi
  have b1 := hM.1
  have b2 := hM.2.1
  have b5 := hM.2.2.2.2.1
  refine x_aload_n (pc := 0) dX8_isWord_0 0 rfl ?_
  refine y_getI (pc := 1) 10 dX8_isWord_1 flX8_66 rfl rfl rfl (by decide) ?_
  refine x_aload_n (pc := 4) dX8_isWord_4 0 rfl ?_
  refine y_getI (pc := 5) 11 dX8_isWord_5 flX8_73 rfl rfl rfl (by decide) ?_
  refine x_isub (pc := 8) dX8_isWord_8 ?_
  refine x_aload_n (pc := 9) dX8_isWord_9 1 rfl ?_
  refine x_callVs (pc := 10) _ hi dX8_isWord_10 (ct_slen hi) lkX8_89 rfl rfl (by decide) (Nat.le_of_ble_eq_true rfl) rfl ?_
  refine x_icmp_ne (pc := 13) 20 dX8_isWord_13 (by decide) (by unfold inI; omega) (by unfold inI; omega) (fun c_13 => ?_) (fun c_13 => ?_)
  · refine x_iconst (pc := 20) dX8_isWord_20 ?_
    refine x_istore_n (pc := 21) (lv' := [(2, _), (0, _), (1, _)]) dX8_isWord_21 rfl (by decide) rfl ?_
    refine x_iconst (pc := 22) dX8_isWord_22 ?_
    refine x_istore_n (pc := 23) (lv' := [(3, _), (2, _), (0, _), (1, _)]) dX8_isWord_23 rfl (by decide) rfl ?_
    refine x_iload_n (pc := 24) dX8_isWord_24 1 rfl ?_
    refine x_if_eq (pc := 25) 67 dX8_isWord_25 (by decide) (by unfold inI; decide) (fun c_25 => ?_) (fun c_25 => absurd c_25 (fun z => z rfl))
    refine x_iload_n (pc := 67) dX8_isWord_67 1 rfl ?_
    exact y_z0ret (pc := 68) dX8_isWord_68 rfl (by unfold wdB; rw [if_neg c_13]; decide) rfl
  · refine x_iconst (pc := 16) dX8_isWord_16 ?_
    refine x_goto (pc := 17) 21 dX8_isWord_17 (by decide) ?_
    refine x_istore_n (pc := 21) (lv' := [(2, _), (0, _), (1, _)]) dX8_isWord_21 rfl (by decide) rfl ?_
    refine x_iconst (pc := 22) dX8_isWord_22 ?_
    refine x_istore_n (pc := 23) (lv' := [(3, _), (2, _), (0, _), (1, _)]) dX8_isWord_23 rfl (by decide) rfl ?_
    have e9 : wdB (m 48 0) (m 41 0 11) (m 41 0 10) i = wF (m 48 0) (m 41 0 11) i (sL i).toNat 0 := by unfold wdB; rw [if_pos c_13]
    rw [e9]
    exact x_lv [0, 1, 2, 3] rfl (lp_wordM hi c_13 _ hM (sL i).toNat 0 (by omega) rfl)
