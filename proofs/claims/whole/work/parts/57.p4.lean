/-! the model's statements -/
def p0r (m : Mem) : Mem := if wdB (rsM m 48 0) (rsM m 41 0 11) (rsM m 41 0 10) 0 = true then rsM m else faM (rsM m) 1
def pt0 (m : Mem) : Mem := snM (snM (p0r m) 0 1 10000) 1 1 10000
theorem MB_p0r {m : Mem} (h : MB m) : MB (p0r m) := by
  unfold p0r
  split
  · exact MB_rs h
  · exact MB_fa (MB_rs h) (by decide)
theorem tl_pt0 {G : GG} {m : Mem} (hM : MB m)  : X G MX8_packsPart (rmD 5) 18 [(0, rf G 41 0)] [] (hp (m)) 0 0 (.inl none) (hp (snM (snM m 0 1 10000) 1 1 10000)) := by
  refine x_aload_n (pc := 18) dX8_packsPart_18 0 rfl ?_
  refine y_getR (pc := 19) dX8_packsPart_19 flX8_13 rfl rfl rfl (by decide) ?_
  refine x_iconst (pc := 22) dX8_packsPart_22 ?_
  refine x_aload_n (pc := 23) dX8_packsPart_23 0 rfl ?_
  refine x_iconst (pc := 24) dX8_packsPart_24 ?_
  refine x_sipush (pc := 25) (z := 10000) dX8_packsPart_25 (by decide) ?_
  refine x_callV (pc := 28) _ dX8_packsPart_28 (mp_num 1 10000 (by unfold inI; omega) (by unfold inI; omega) hM) lkX8_111 rfl rfl rfl rfl (mem_dom0 (by decide) (by decide)) (by decide) (Nat.le_of_ble_eq_true rfl) rfl ?_
  refine y_iast (pc := 31) dX8_packsPart_31 rfl (by decide) (by omega) ?_
  refine x_nil (m' := snM m 0 1 10000) rfl ?_
  refine x_aload_n (pc := 32) dX8_packsPart_32 0 rfl ?_
  refine y_getR (pc := 33) dX8_packsPart_33 flX8_13 rfl rfl rfl (by decide) ?_
  refine x_iconst (pc := 36) dX8_packsPart_36 ?_
  refine x_aload_n (pc := 37) dX8_packsPart_37 0 rfl ?_
  refine x_iconst (pc := 38) dX8_packsPart_38 ?_
  refine x_sipush (pc := 39) (z := 10000) dX8_packsPart_39 (by decide) ?_
  refine x_callV (pc := 42) _ dX8_packsPart_42 (mp_num 1 10000 (by unfold inI; omega) (by unfold inI; omega) (MB_sn hM)) lkX8_111 rfl rfl rfl rfl (mem_dom0 (by decide) (by decide)) (by decide) (Nat.le_of_ble_eq_true rfl) rfl ?_
  refine y_iast (pc := 45) dX8_packsPart_45 rfl (by decide) (by omega) ?_
  exact y_vret (pc := 46) dX8_packsPart_46 rfl rfl

theorem mp_pt0 {G : GG} {m : Mem} (hM : MB m)  : Ct G MX8_packsPart (rmD 5) [rf G 41 0] (hp (m)) (.inl none) (hp (pt0 m)) := by
  refine x_entry (by decide +kernel) mwX8_packsPart rfl (Nat.le_of_ble_eq_true rfl) ?_
  show X G MX8_packsPart (rmD 5) 0 [(0, rf G 41 0)] [] (hp (m)) 0 0 (.inl none) (hp (pt0 m))
  refine x_aload_n (pc := 0) dX8_packsPart_0 0 rfl ?_
  refine x_callV (pc := 1) _ dX8_packsPart_1 (mp_reads hM) lkX8_117 rfl rfl rfl rfl (mem_dom0 (by decide) (by decide)) (by decide) (Nat.le_of_ble_eq_true rfl) rfl ?_
  have hM1 := MB_rs hM
  refine x_aload_n (pc := 4) dX8_packsPart_4 0 rfl ?_
  refine x_ldcS (pc := 5) "packs" 0 dX8_packsPart_5 (by decide +kernel) ?_
  refine x_callV (pc := 7) _ dX8_packsPart_7 (mp_isWord (i := 0) (by decide) hM1) lkX8_122 rfl rfl rfl rfl (mem_dom0 (by decide) (by decide)) (by decide) (Nat.le_of_ble_eq_true rfl) rfl ?_
  refine x_ifb_ne (pc := 10) 18 dX8_packsPart_10 (by decide) (fun c_10 => ?_) (fun c_10 => ?_)
  · have e : rsM m = p0r m := by unfold p0r; rw [if_pos c_10]
    have hM2 := MB_p0r hM
    unfold pt0
    rw [← e] at hM2 ⊢
    exact x_lv [0] rfl (tl_pt0 hM2)
  · refine x_aload_n (pc := 13) dX8_packsPart_13 0 rfl ?_
    refine x_iconst (pc := 14) dX8_packsPart_14 ?_
    refine x_callV (pc := 15) _ dX8_packsPart_15 (mp_fails 1 hM1) lkX8_101 rfl rfl rfl rfl (mem_dom0 (by decide) (by decide)) (by decide) (Nat.le_of_ble_eq_true rfl) rfl ?_
    have e : faM (rsM m) 1 = p0r m := by unfold p0r; rw [if_neg c_10]
    have hM2 := MB_p0r hM
    unfold pt0
    rw [← e] at hM2 ⊢
    exact x_lv [0] rfl (tl_pt0 hM2)

def cuN (m : Mem) (k : Int) : Nat → Mem
  | 0 => m
  | n + 1 => cuN (snM m (14 + 4 * m 43 0 4 + k) 0 1000) (k + 1) n
def pt1 (m : Mem) : Mem := if m 43 0 4 < 4 then up3 (cuN m 0 4) 43 0 4 (cuN m 0 4 43 0 4 + 1) else roM m
theorem cuN_4 : ∀ (n : Nat) (m : Mem) (k : Int), 0 ≤ m 43 0 4 → 0 ≤ k → cuN m k n 43 0 4 = m 43 0 4 := by
  intro n
  induction n with
  | zero => intro m k h0 h1; rfl
  | succ n ih =>
    intro m k h0 h1
    have e : snM m (14 + 4 * m 43 0 4 + k) 0 1000 43 0 4 = m 43 0 4 := by rw [snM_a, if_neg (by omega)]
    show cuN (snM _ _ _ _) _ n 43 0 4 = _
    rw [ih _ _ (by rw [e]; exact h0) (by omega), e]
theorem lp_cuN {G : GG} (m9 : Mem) : ∀ (n : Nat) (m : Mem) (k : Int), MB m → 0 ≤ m 43 0 4 ∧ m 43 0 4 < 4 → 0 ≤ k → k + n = 4 → m9 = cuN m k n → X G MX8_curvePart (rmD 5) 12 [(1, .int (iI k)), (0, rf G 41 0)] [] (hp (m)) 0 0 (.inl none) (hp (up3 m9 43 0 4 (m9 43 0 4 + 1))) := by
  intro n
  induction n with
  | zero =>
    intro m k hM hc h0 hn h9
    refine x_iload_n (pc := 12) dX8_curvePart_12 0 rfl ?_
    refine x_iconst (pc := 13) dX8_curvePart_13 ?_
    refine x_icmp_ge (pc := 14) 49 dX8_curvePart_14 (by decide) (by unfold inI; omega) (by unfold inI; omega) (fun c_14 => ?_) (fun c_14 => (by exfalso; omega))
    refine x_aload_n (pc := 49) dX8_curvePart_49 1 rfl ?_
    refine y_getR (pc := 50) dX8_curvePart_50 flX8_13 rfl rfl rfl (by decide) ?_
    refine x_iconst (pc := 53) dX8_curvePart_53 ?_
    refine x_dup2 (pc := 54) dX8_curvePart_54 rfl rfl ?_
    refine y_iald (pc := 55) dX8_curvePart_55 rfl (by decide) (by omega) ?_
    refine x_iconst (pc := 56) dX8_curvePart_56 ?_
    refine x_iadd (pc := 57) dX8_curvePart_57 ?_
    refine y_iast (pc := 58) dX8_curvePart_58 rfl (by decide) (by omega) ?_
    exact y_vret (pc := 59) dX8_curvePart_59 rfl (by rw [h9]; rfl)
  | succ n ih =>
    intro m k hM hc h0 hn h9
    refine x_iload_n (pc := 12) dX8_curvePart_12 0 rfl ?_
    refine x_iconst (pc := 13) dX8_curvePart_13 ?_
    refine x_icmp_ge (pc := 14) 49 dX8_curvePart_14 (by decide) (by unfold inI; omega) (by unfold inI; omega) (fun c_14 => (by exfalso; omega)) (fun c_14 => ?_)
    refine x_aload_n (pc := 17) dX8_curvePart_17 1 rfl ?_
    refine y_getR (pc := 18) dX8_curvePart_18 flX8_13 rfl rfl rfl (by decide) ?_
    refine x_bipush (pc := 21) (z := 14) dX8_curvePart_21 (by decide) ?_
    refine x_iconst (pc := 23) dX8_curvePart_23 ?_
    refine x_aload_n (pc := 24) dX8_curvePart_24 1 rfl ?_
    refine y_getR (pc := 25) dX8_curvePart_25 flX8_13 rfl rfl rfl (by decide) ?_
    refine x_iconst (pc := 28) dX8_curvePart_28 ?_
    refine y_iald (pc := 29) dX8_curvePart_29 rfl (by decide) (by omega) ?_
    refine x_imul (pc := 30) dX8_curvePart_30 ?_
    refine x_iadd (pc := 31) dX8_curvePart_31 ?_
    refine x_iload_n (pc := 32) dX8_curvePart_32 0 rfl ?_
    refine x_iadd (pc := 33) dX8_curvePart_33 ?_
    refine x_aload_n (pc := 34) dX8_curvePart_34 1 rfl ?_
    refine x_iconst (pc := 35) dX8_curvePart_35 ?_
    refine x_sipush (pc := 36) (z := 1000) dX8_curvePart_36 (by decide) ?_
    refine x_callV (pc := 39) _ dX8_curvePart_39 (mp_num 0 1000 (by unfold inI; omega) (by unfold inI; omega) hM) lkX8_111 rfl rfl rfl rfl (mem_dom0 (by decide) (by decide)) (by decide) (Nat.le_of_ble_eq_true rfl) rfl ?_
    refine y_iast (pc := 42) dX8_curvePart_42 rfl (by decide) (by omega) ?_
    refine x_nil (m' := snM m (14 + 4 * m 43 0 4 + k) 0 1000) rfl ?_
    refine x_iinc (pc := 43) (lv' := [(1, _), (0, _)]) dX8_curvePart_43 0 rfl (by decide) rfl ?_
    refine x_goto (pc := 46) 12 dX8_curvePart_46 (by decide) ?_
    have e : snM m (14 + 4 * m 43 0 4 + k) 0 1000 43 0 4 = m 43 0 4 := by rw [snM_a, if_neg (by omega)]
    exact x_lv [0, 1] rfl (ih _ (k + 1) (MB_sn hM) (by rw [e]; exact hc) (by omega) (by omega) (by rw [h9]; rfl))

theorem mp_pt1 {G : GG} {m : Mem} (hM : MB m) (hN : NB3 m)  : Ct G MX8_curvePart (rmD 5) [rf G 41 0] (hp (m)) (.inl none) (hp (pt1 m)) := by
  refine x_entry (by decide +kernel) mwX8_curvePart rfl (Nat.le_of_ble_eq_true rfl) ?_
  show X G MX8_curvePart (rmD 5) 0 [(0, rf G 41 0)] [] (hp (m)) 0 0 (.inl none) (hp (pt1 m))
  have n3 := hN.1
  have n4 := hN.2.1
  have n6 := hN.2.2.1
  have n5 := hN.2.2.2.1
  have n8 := hN.2.2.2.2.1
  have n7 := hN.2.2.2.2.2.1
  refine x_aload_n (pc := 0) dX8_curvePart_0 0 rfl ?_
  refine x_iconst (pc := 1) dX8_curvePart_1 ?_
  refine x_iconst (pc := 2) dX8_curvePart_2 ?_
  refine x_callV (pc := 3) _ dX8_curvePart_3 (mp_room 4 4 (by decide) (by unfold inI; decide) (by unfold inI; omega) hM) lkX8_126 rfl rfl rfl rfl (mem_dom0 (by decide) (by decide)) (by decide) (Nat.le_of_ble_eq_true rfl) rfl ?_
  refine x_ifb_ne (pc := 6) 10 dX8_curvePart_6 (by decide) (fun c_6 => ?_) (fun c_6 => ?_)
  · rw [if_pos c_6]
    refine x_iconst (pc := 10) dX8_curvePart_10 ?_
    refine x_istore_n (pc := 11) (lv' := [(1, _), (0, _)]) dX8_curvePart_11 rfl (by decide) rfl ?_
    unfold pt1
    rw [if_pos c_6]
    exact x_lv [0, 1] rfl (lp_cuN _ 4 m 0 hM (by omega) (by omega) (by omega) rfl)
  · exact y_vret (pc := 9) dX8_curvePart_9 rfl (by unfold pt1; rw [if_neg c_6, if_neg c_6])

def pq2 (m : Mem) : Int := 30 + 7 * m 43 0 3
def pa1 (m : Mem) : Mem := snM m (pq2 m + 0) 2 100000
def pa2 (m : Mem) : Mem := snM (pa1 m) (pq2 m + 1) 0 (pa1 m 43 0 (pq2 m + 0))
def pa3 (m : Mem) : Mem := if pa2 m 41 0 12 = 0 then nxM (pa2 m) else pa2 m
abbrev paD (m : Mem) : Prop := pa2 m 41 0 12 = 0 ∧ 48 ≤ hrV (pa3 m) ∧ hrV (pa3 m) ≤ 57
def pa4 (m : Mem) : Mem := if paD m then snM (pa3 m) (pq2 m + 3) 0 (pa3 m 43 0 4 - 1) else up3 (pa3 m) 43 0 (pq2 m + 3) (-1)
def pa5 (m : Mem) : Mem := up3 (pa4 m) 43 0 10 (pa4 m 43 0 10 + pa4 m 43 0 (pq2 m + 1))
def pt2 (m : Mem) : Mem := if m 43 0 3 < 8 then up3 (pa5 m) 43 0 3 (pa5 m 43 0 3 + 1) else roM m
theorem MB_pa2 {m : Mem} (h : MB m) : MB (pa2 m) := MB_sn (MB_sn h)
theorem MB_pa3 {m : Mem} (h : MB m) : MB (pa3 m) := by
  unfold pa3
  split
  · exact MB_nx (MB_pa2 h)
  · exact MB_pa2 h
theorem pa3_43 {m : Mem} : pa3 m 43 = pa2 m 43 := by
  unfold pa3
  split
  · exact nxM_k (by decide)
  · rfl
theorem pa2_lo {m : Mem} {j : Int} (h : j < 30) (h0 : 0 ≤ m 43 0 3) : pa2 m 43 0 j = m 43 0 j := by
  unfold pa2 pa1 pq2
  rw [snM_a, if_neg (by omega), snM_a, if_neg (by omega)]
theorem pa1_q {m : Mem} : 0 ≤ pa1 m 43 0 (pq2 m + 0) ∧ pa1 m 43 0 (pq2 m + 0) ≤ 10000000 := by
  unfold pa1
  rw [snM_a, if_pos rfl]
  exact nuV_b _ _ _ (by decide)
theorem tl_pt2 {G : GG} {m : Mem} (d : Int) (hd : d = 0 ∧ ¬ paD m ∨ d = 1 ∧ paD m) (hr : m 43 0 3 < 8) (hM : MB m) (hN : NB3 m)  : X G MX8_packPart (rmD 5) 90 [(2, .int (iI d)), (1, .int (iI (pq2 m))), (0, rf G 41 0)] [] (hp (pa3 m)) 0 0 (.inl none) (hp (pt2 m)) := by
  have n3 := hN.1
  have n4 := hN.2.1
  have n6 := hN.2.2.1
  have n5 := hN.2.2.2.1
  have n8 := hN.2.2.2.2.1
  have n7 := hN.2.2.2.2.2.1
  have q0 : pq2 m = 30 + 7 * m 43 0 3 := rfl
  have e4 : pa3 m 43 0 4 = m 43 0 4 := by rw [pa3_43, pa2_lo (by decide) (by omega)]
  refine x_aload_n (pc := 90) dX8_packPart_90 2 rfl ?_
  refine y_getR (pc := 91) dX8_packPart_91 flX8_13 rfl rfl rfl (by decide) ?_
  refine x_iload_n (pc := 94) dX8_packPart_94 1 rfl ?_
  refine x_iconst (pc := 95) dX8_packPart_95 ?_
  refine x_iadd (pc := 96) dX8_packPart_96 ?_
  refine x_iload_n (pc := 97) dX8_packPart_97 0 rfl ?_
  refine x_if_eq (pc := 98) 117 dX8_packPart_98 (by decide) (by unfold inI; omega) (fun c_98 => ?_) (fun c_98 => ?_)
  · have hd2 : ¬ paD m := by rcases hd with h | h; exact h.2; have := h.1; omega
    refine x_iconst (pc := 117) dX8_packPart_117 ?_
    refine y_iast (pc := 118) dX8_packPart_118 rfl (by decide) (by omega) ?_
    have e5 : up3 (pa3 m) 43 0 (pq2 m + 3) (-1) = pa4 m := by unfold pa4; rw [if_neg hd2]
    rw [e5]
    refine x_aload_n (pc := 119) dX8_packPart_119 2 rfl ?_
    refine y_getR (pc := 120) dX8_packPart_120 flX8_13 rfl rfl rfl (by decide) ?_
    refine x_bipush (pc := 123) (z := 10) dX8_packPart_123 (by decide) ?_
    refine x_dup2 (pc := 125) dX8_packPart_125 rfl rfl ?_
    refine y_iald (pc := 126) dX8_packPart_126 rfl (by decide) (by omega) ?_
    refine x_aload_n (pc := 127) dX8_packPart_127 2 rfl ?_
    refine y_getR (pc := 128) dX8_packPart_128 flX8_13 rfl rfl rfl (by decide) ?_
    refine x_iload_n (pc := 131) dX8_packPart_131 1 rfl ?_
    refine x_iconst (pc := 132) dX8_packPart_132 ?_
    refine x_iadd (pc := 133) dX8_packPart_133 ?_
    refine y_iald (pc := 134) dX8_packPart_134 rfl (by decide) (by omega) ?_
    refine x_iadd (pc := 135) dX8_packPart_135 ?_
    refine y_iast (pc := 136) dX8_packPart_136 rfl (by decide) (by omega) ?_
    refine x_nil (m' := pa5 m) rfl ?_
    refine x_aload_n (pc := 137) dX8_packPart_137 2 rfl ?_
    refine y_getR (pc := 138) dX8_packPart_138 flX8_13 rfl rfl rfl (by decide) ?_
    refine x_iconst (pc := 141) dX8_packPart_141 ?_
    refine x_dup2 (pc := 142) dX8_packPart_142 rfl rfl ?_
    refine y_iald (pc := 143) dX8_packPart_143 rfl (by decide) (by omega) ?_
    refine x_iconst (pc := 144) dX8_packPart_144 ?_
    refine x_iadd (pc := 145) dX8_packPart_145 ?_
    refine y_iast (pc := 146) dX8_packPart_146 rfl (by decide) (by omega) ?_
    exact y_vret (pc := 147) dX8_packPart_147 rfl (by unfold pt2; rw [if_pos hr])
  · refine x_aload_n (pc := 101) dX8_packPart_101 2 rfl ?_
    refine x_iconst (pc := 102) dX8_packPart_102 ?_
    refine x_aload_n (pc := 103) dX8_packPart_103 2 rfl ?_
    refine y_getR (pc := 104) dX8_packPart_104 flX8_13 rfl rfl rfl (by decide) ?_
    refine x_iconst (pc := 107) dX8_packPart_107 ?_
    refine y_iald (pc := 108) dX8_packPart_108 rfl (by decide) (by omega) ?_
    refine x_iconst (pc := 109) dX8_packPart_109 ?_
    refine x_isub (pc := 110) dX8_packPart_110 ?_
    have hd2 : paD m := by rcases hd with h | h; exact absurd h.1 c_98; exact h.2
    refine x_callV (pc := 111) _ dX8_packPart_111 (mp_num 0 (pa3 m 43 0 4 - 1) (by unfold inI; omega) (by rw [e4]; unfold inI; omega) (MB_pa3 hM)) lkX8_111 rfl rfl rfl rfl (mem_dom0 (by decide) (by decide)) (by decide) (Nat.le_of_ble_eq_true rfl) rfl ?_
    refine x_goto (pc := 114) 118 dX8_packPart_114 (by decide) ?_
    refine y_iast (pc := 118) dX8_packPart_118 rfl (by decide) (by omega) ?_
    have e5 : up3 (nuM (pa3 m) 0 (pa3 m 43 0 4 - 1)) 43 0 (pq2 m + 3) (nuV (pa3 m) 0 (pa3 m 43 0 4 - 1)) = pa4 m := by unfold pa4; rw [if_pos hd2]; rfl
    rw [e5]
    refine x_aload_n (pc := 119) dX8_packPart_119 2 rfl ?_
    refine y_getR (pc := 120) dX8_packPart_120 flX8_13 rfl rfl rfl (by decide) ?_
    refine x_bipush (pc := 123) (z := 10) dX8_packPart_123 (by decide) ?_
    refine x_dup2 (pc := 125) dX8_packPart_125 rfl rfl ?_
    refine y_iald (pc := 126) dX8_packPart_126 rfl (by decide) (by omega) ?_
    refine x_aload_n (pc := 127) dX8_packPart_127 2 rfl ?_
    refine y_getR (pc := 128) dX8_packPart_128 flX8_13 rfl rfl rfl (by decide) ?_
    refine x_iload_n (pc := 131) dX8_packPart_131 1 rfl ?_
    refine x_iconst (pc := 132) dX8_packPart_132 ?_
    refine x_iadd (pc := 133) dX8_packPart_133 ?_
    refine y_iald (pc := 134) dX8_packPart_134 rfl (by decide) (by omega) ?_
    refine x_iadd (pc := 135) dX8_packPart_135 ?_
    refine y_iast (pc := 136) dX8_packPart_136 rfl (by decide) (by omega) ?_
    refine x_nil (m' := pa5 m) rfl ?_
    refine x_aload_n (pc := 137) dX8_packPart_137 2 rfl ?_
    refine y_getR (pc := 138) dX8_packPart_138 flX8_13 rfl rfl rfl (by decide) ?_
    refine x_iconst (pc := 141) dX8_packPart_141 ?_
    refine x_dup2 (pc := 142) dX8_packPart_142 rfl rfl ?_
    refine y_iald (pc := 143) dX8_packPart_143 rfl (by decide) (by omega) ?_
    refine x_iconst (pc := 144) dX8_packPart_144 ?_
    refine x_iadd (pc := 145) dX8_packPart_145 ?_
    refine y_iast (pc := 146) dX8_packPart_146 rfl (by decide) (by omega) ?_
    exact y_vret (pc := 147) dX8_packPart_147 rfl (by unfold pt2; rw [if_pos hr])

theorem mp_pt2 {G : GG} {m : Mem} (hM : MB m) (hN : NB3 m)  : Ct G MX8_packPart (rmD 5) [rf G 41 0] (hp (m)) (.inl none) (hp (pt2 m)) := by
  refine x_entry (by decide +kernel) mwX8_packPart rfl (Nat.le_of_ble_eq_true rfl) ?_
  show X G MX8_packPart (rmD 5) 0 [(0, rf G 41 0)] [] (hp (m)) 0 0 (.inl none) (hp (pt2 m))
  have n3 := hN.1
  have n4 := hN.2.1
  have n6 := hN.2.2.1
  have n5 := hN.2.2.2.1
  have n8 := hN.2.2.2.2.1
  have n7 := hN.2.2.2.2.2.1
  have q0 : pq2 m = 30 + 7 * m 43 0 3 := rfl
  have e3a : pa1 m 43 0 3 = m 43 0 3 := by unfold pa1; rw [snM_a, if_neg (by omega)]
  refine x_aload_n (pc := 0) dX8_packPart_0 0 rfl ?_
  refine x_iconst (pc := 1) dX8_packPart_1 ?_
  refine x_bipush (pc := 2) (z := 8) dX8_packPart_2 (by decide) ?_
  refine x_callV (pc := 4) _ dX8_packPart_4 (mp_room 3 8 (by decide) (by unfold inI; decide) (by unfold inI; omega) hM) lkX8_126 rfl rfl rfl rfl (mem_dom0 (by decide) (by decide)) (by decide) (Nat.le_of_ble_eq_true rfl) rfl ?_
  refine x_ifb_ne (pc := 7) 11 dX8_packPart_7 (by decide) (fun c_7 => ?_) (fun c_7 => ?_)
  · rw [if_pos c_7]
    refine x_bipush (pc := 11) (z := 30) dX8_packPart_11 (by decide) ?_
    refine x_bipush (pc := 13) (z := 7) dX8_packPart_13 (by decide) ?_
    refine x_aload_n (pc := 15) dX8_packPart_15 0 rfl ?_
    refine y_getR (pc := 16) dX8_packPart_16 flX8_13 rfl rfl rfl (by decide) ?_
    refine x_iconst (pc := 19) dX8_packPart_19 ?_
    refine y_iald (pc := 20) dX8_packPart_20 rfl (by decide) (by omega) ?_
    refine x_imul (pc := 21) dX8_packPart_21 ?_
    refine x_iadd (pc := 22) dX8_packPart_22 ?_
    refine x_top (v' := .int (iI (pq2 m))) rfl ?_
    refine x_istore_n (pc := 23) (lv' := [(1, _), (0, _)]) dX8_packPart_23 rfl (by decide) rfl ?_
    refine x_aload_n (pc := 24) dX8_packPart_24 1 rfl ?_
    refine y_getR (pc := 25) dX8_packPart_25 flX8_13 rfl rfl rfl (by decide) ?_
    refine x_iload_n (pc := 28) dX8_packPart_28 0 rfl ?_
    refine x_iconst (pc := 29) dX8_packPart_29 ?_
    refine x_iadd (pc := 30) dX8_packPart_30 ?_
    refine x_aload_n (pc := 31) dX8_packPart_31 1 rfl ?_
    refine x_iconst (pc := 32) dX8_packPart_32 ?_
    refine x_ldc (pc := 33) (z := 100000) dX8_packPart_33 kcX8_130 (by decide) ?_
    refine x_callV (pc := 35) _ dX8_packPart_35 (mp_num 2 100000 (by unfold inI; omega) (by unfold inI; omega) hM) lkX8_111 rfl rfl rfl rfl (mem_dom0 (by decide) (by decide)) (by decide) (Nat.le_of_ble_eq_true rfl) rfl ?_
    refine y_iast (pc := 38) dX8_packPart_38 rfl (by decide) (by omega) ?_
    refine x_nil (m' := pa1 m) rfl ?_
    refine x_aload_n (pc := 39) dX8_packPart_39 1 rfl ?_
    refine y_getR (pc := 40) dX8_packPart_40 flX8_13 rfl rfl rfl (by decide) ?_
    refine x_iload_n (pc := 43) dX8_packPart_43 0 rfl ?_
    refine x_iconst (pc := 44) dX8_packPart_44 ?_
    refine x_iadd (pc := 45) dX8_packPart_45 ?_
    refine x_aload_n (pc := 46) dX8_packPart_46 1 rfl ?_
    refine x_iconst (pc := 47) dX8_packPart_47 ?_
    refine x_aload_n (pc := 48) dX8_packPart_48 1 rfl ?_
    refine y_getR (pc := 49) dX8_packPart_49 flX8_13 rfl rfl rfl (by decide) ?_
    refine x_iload_n (pc := 52) dX8_packPart_52 0 rfl ?_
    refine x_iconst (pc := 53) dX8_packPart_53 ?_
    refine x_iadd (pc := 54) dX8_packPart_54 ?_
    refine y_iald (pc := 55) dX8_packPart_55 rfl (by decide) (by omega) ?_
    refine x_callV (pc := 56) _ dX8_packPart_56 (mp_num 0 (pa1 m 43 0 (pq2 m + 0)) (by unfold inI; omega) (by have := pa1_q (m := m); unfold inI; omega) (MB_sn hM)) lkX8_111 rfl rfl rfl rfl (mem_dom0 (by decide) (by decide)) (by decide) (Nat.le_of_ble_eq_true rfl) rfl ?_
    refine y_iast (pc := 59) dX8_packPart_59 rfl (by decide) (by omega) ?_
    refine x_nil (m' := pa2 m) rfl ?_
    refine x_aload_n (pc := 60) dX8_packPart_60 1 rfl ?_
    refine y_getI (pc := 61) 12 dX8_packPart_61 flX8_76 rfl rfl rfl (by decide) ?_
    refine x_if_ne (pc := 64) 88 dX8_packPart_64 (by decide) (by have := (MB_pa2 hM).2.2.2.1; unfold inI; omega) (fun c_64 => ?_) (fun c_64 => ?_)
    · refine x_iconst (pc := 88) dX8_packPart_88 ?_
      refine x_istore_n (pc := 89) (lv' := [(2, _), (1, _), (0, _)]) dX8_packPart_89 rfl (by decide) rfl ?_
      have e3 : pa2 m = pa3 m := by unfold pa3; rw [if_neg c_64]
      rw [e3]
      exact x_lv [0, 1, 2] rfl (tl_pt2 0 (.inl ⟨rfl, fun z => c_64 z.1⟩) c_7 hM hN)
    · refine x_aload_n (pc := 67) dX8_packPart_67 1 rfl ?_
      refine x_callV (pc := 68) _ dX8_packPart_68 (mp_next (MB_pa2 hM)) lkX8_82 rfl rfl rfl rfl (mem_dom0 (by decide) (by decide)) (by decide) (Nat.le_of_ble_eq_true rfl) rfl ?_
      have e3 : nxM (pa2 m) = pa3 m := by unfold pa3; rw [if_pos c_64]
      rw [e3]
      have hv := hrV_b (pa3 m)
      refine x_i2l (pc := 71) dX8_packPart_71 (by unfold inI; omega) ?_
      refine x_ldc2 (pc := 72) (z := 48) dX8_packPart_72 kcX8_97 (by decide) ?_
      refine x_ldc2 (pc := 75) (z := 57) dX8_packPart_75 kcX8_99 (by decide) ?_
      refine x_callS (pc := 78) _ dX8_packPart_78 (mq_in (hrV (pa3 m)) (48) (57) (by unfold inL; omega) (by unfold inL; omega) (by unfold inL; omega)) lkX8_44 rfl (by decide) (Nat.le_of_ble_eq_true rfl) rfl ?_
      refine x_ifb_eq (pc := 81) 88 dX8_packPart_81 (by decide) (fun c_81 => ?_) (fun c_81 => ?_)
      · refine x_iconst (pc := 88) dX8_packPart_88 ?_
        refine x_istore_n (pc := 89) (lv' := [(2, _), (1, _), (0, _)]) dX8_packPart_89 rfl (by decide) rfl ?_
        exact x_lv [0, 1, 2] rfl (tl_pt2 0 (.inl ⟨rfl, fun z => c_81 z.2⟩) c_7 hM hN)
      · refine x_iconst (pc := 84) dX8_packPart_84 ?_
        refine x_goto (pc := 85) 89 dX8_packPart_85 (by decide) ?_
        refine x_istore_n (pc := 89) (lv' := [(2, _), (1, _), (0, _)]) dX8_packPart_89 rfl (by decide) rfl ?_
        exact x_lv [0, 1, 2] rfl (tl_pt2 1 (.inr ⟨rfl, c_64, c_81⟩) c_7 hM hN)
  · exact y_vret (pc := 10) dX8_packPart_10 rfl (by unfold pt2; rw [if_neg c_7, if_neg c_7])

def kk2 (m : Mem) : Mem := knM (knM m)
def kka (m : Mem) : Int := knV m
def kkb (m : Mem) : Int := knV (knM m)
abbrev kcP (m : Mem) : Prop := kka m = kkb m ∨ betN (m 43 0) (kka m) (kkb m) ≠ -1
abbrev ktP (m : Mem) : Prop := kka m = kkb m ∨ betN (m 43 0) (kka m) (kkb m) = -1
def kkF (m : Mem) (c : Prop) [Decidable c] : Mem := if kk2 m 41 0 12 = 0 ∧ c then faM (kk2 m) 3 else kk2 m
theorem MB_kk2 {m : Mem} (h : MB m) : MB (kk2 m) := MB_nu (MB_nu h)
theorem kk2_k {m : Mem} {k : Nat} (h : k ≠ 41) : kk2 m k = m k := by unfold kk2 knM; rw [nuM_k h, nuM_k h]
theorem MB_kkF {m : Mem} {c : Prop} [Decidable c] (h : MB m) : MB (kkF m c) := by
  unfold kkF
  split
  · exact MB_fa (MB_kk2 h) (by decide)
  · exact MB_kk2 h
theorem kkF_k {m : Mem} {c : Prop} [Decidable c] {k : Nat} (h : k ≠ 41) : kkF m c k = m k := by
  unfold kkF
  split
  · rw [faM_k h]; exact kk2_k h
  · exact kk2_k h
def cbq (m : Mem) : Int := 86 + 6 * m 43 0 5
def cb1 (m : Mem) : Mem := up3 (up3 (kkF m (kcP m)) 43 0 (cbq m + 0) (kka m)) 43 0 (cbq m + 1) (kkb m)
def cb2 (m : Mem) : Mem := snM (snM (cb1 m) (cbq m + 2) 0 900) (cbq m + 3) 1 10000
def pt3 (m : Mem) : Mem := if m 43 0 5 < 12 then up3 (cb2 m) 43 0 5 (cb2 m 43 0 5 + 1) else roM m
def ctq (m : Mem) : Int := 270 + 6 * m 43 0 8
def ct1 (m : Mem) : Mem := up3 (up3 (kkF m (ktP m)) 43 0 (ctq m + 0) (kka m)) 43 0 (ctq m + 1) (kkb m)
def ct2 (m : Mem) : Mem := snM (snM (snM (ct1 m) (ctq m + 2) 1 100000) (ctq m + 3) 0 99) (ctq m + 4) 0 99
def pt6 (m : Mem) : Mem := if m 43 0 8 < 8 then up3 (ct2 m) 43 0 8 (ct2 m 43 0 8 + 1) else roM m
theorem betF_b {N : Int → Int} {a b : Int} : ∀ (n : Nat) (c : Int), 0 ≤ c → -1 ≤ betF N a b c n ∧ betF N a b c n < c + n ∨ betF N a b c n = -1 := by
  intro n
  induction n with
  | zero => intro c h; exact Or.inr rfl
  | succ n ih =>
    intro c h
    show -1 ≤ (if _ then _ else _) ∧ (if _ then _ else _) < _ ∨ (if _ then _ else _) = -1
    split
    · left; omega
    · have := ih (c + 1) (by omega)
      omega
theorem betN_i {N : Int → Int} {a b : Int} (h : 0 ≤ N 5 ∧ N 5 ≤ 12) : inI (betN N a b) := by
  have := betF_b (N := N) (a := a) (b := b) (N 5).toNat 0 (by omega)
  unfold betN inI
  omega
theorem tl_pt3 {G : GG} {m : Mem} (hr : m 43 0 5 < 12) (hM : MB m) (hN : NB3 m)  : X G MX8_cablePart (rmD 5) 64 [(3, .int (iI (kkb m))), (2, .int (iI (kka m))), (1, .int (iI (cbq m))), (0, rf G 41 0)] [] (hp (kkF m (kcP m))) 0 0 (.inl none) (hp (pt3 m)) := by
  have n3 := hN.1
  have n4 := hN.2.1
  have n6 := hN.2.2.1
  have n5 := hN.2.2.2.1
  have n8 := hN.2.2.2.2.1
  have n7 := hN.2.2.2.2.2.1
  have q0 : cbq m = 86 + 6 * m 43 0 5 := rfl
  refine x_aload_n (pc := 64) dX8_cablePart_64 3 rfl ?_
  refine y_getR (pc := 65) dX8_cablePart_65 flX8_13 rfl rfl rfl (by decide) ?_
  refine x_iload_n (pc := 68) dX8_cablePart_68 2 rfl ?_
  refine x_iconst (pc := 69) dX8_cablePart_69 ?_
  refine x_iadd (pc := 70) dX8_cablePart_70 ?_
  refine x_iload_n (pc := 71) dX8_cablePart_71 1 rfl ?_
  refine y_iast (pc := 72) dX8_cablePart_72 rfl (by decide) (by omega) ?_
  refine x_aload_n (pc := 73) dX8_cablePart_73 3 rfl ?_
  refine y_getR (pc := 74) dX8_cablePart_74 flX8_13 rfl rfl rfl (by decide) ?_
  refine x_iload_n (pc := 77) dX8_cablePart_77 2 rfl ?_
  refine x_iconst (pc := 78) dX8_cablePart_78 ?_
  refine x_iadd (pc := 79) dX8_cablePart_79 ?_
  refine x_iload_n (pc := 80) dX8_cablePart_80 0 rfl ?_
  refine y_iast (pc := 81) dX8_cablePart_81 rfl (by decide) (by omega) ?_
  refine x_nil (m' := cb1 m) rfl ?_
  refine x_aload_n (pc := 82) dX8_cablePart_82 3 rfl ?_
  refine y_getR (pc := 83) dX8_cablePart_83 flX8_13 rfl rfl rfl (by decide) ?_
  refine x_iload_n (pc := 86) dX8_cablePart_86 2 rfl ?_
  refine x_iconst (pc := 87) dX8_cablePart_87 ?_
  refine x_iadd (pc := 88) dX8_cablePart_88 ?_
  refine x_aload_n (pc := 89) dX8_cablePart_89 3 rfl ?_
  refine x_iconst (pc := 90) dX8_cablePart_90 ?_
  refine x_sipush (pc := 91) (z := 900) dX8_cablePart_91 (by decide) ?_
  refine x_callV (pc := 94) _ dX8_cablePart_94 (mp_num 0 900 (by unfold inI; omega) (by unfold inI; omega) (MB_43 (MB_43 (MB_kkF hM)))) lkX8_111 rfl rfl rfl rfl (mem_dom0 (by decide) (by decide)) (by decide) (Nat.le_of_ble_eq_true rfl) rfl ?_
  refine y_iast (pc := 97) dX8_cablePart_97 rfl (by decide) (by omega) ?_
  refine x_nil (m' := snM (cb1 m) (cbq m + 2) 0 900) rfl ?_
  refine x_aload_n (pc := 98) dX8_cablePart_98 3 rfl ?_
  refine y_getR (pc := 99) dX8_cablePart_99 flX8_13 rfl rfl rfl (by decide) ?_
  refine x_iload_n (pc := 102) dX8_cablePart_102 2 rfl ?_
  refine x_iconst (pc := 103) dX8_cablePart_103 ?_
  refine x_iadd (pc := 104) dX8_cablePart_104 ?_
  refine x_aload_n (pc := 105) dX8_cablePart_105 3 rfl ?_
  refine x_iconst (pc := 106) dX8_cablePart_106 ?_
  refine x_sipush (pc := 107) (z := 10000) dX8_cablePart_107 (by decide) ?_
  refine x_callV (pc := 110) _ dX8_cablePart_110 (mp_num 1 10000 (by unfold inI; omega) (by unfold inI; omega) (MB_sn (MB_43 (MB_43 (MB_kkF hM))))) lkX8_111 rfl rfl rfl rfl (mem_dom0 (by decide) (by decide)) (by decide) (Nat.le_of_ble_eq_true rfl) rfl ?_
  refine y_iast (pc := 113) dX8_cablePart_113 rfl (by decide) (by omega) ?_
  refine x_nil (m' := cb2 m) rfl ?_
  refine x_aload_n (pc := 114) dX8_cablePart_114 3 rfl ?_
  refine y_getR (pc := 115) dX8_cablePart_115 flX8_13 rfl rfl rfl (by decide) ?_
  refine x_iconst (pc := 118) dX8_cablePart_118 ?_
  refine x_dup2 (pc := 119) dX8_cablePart_119 rfl rfl ?_
  refine y_iald (pc := 120) dX8_cablePart_120 rfl (by decide) (by omega) ?_
  refine x_iconst (pc := 121) dX8_cablePart_121 ?_
  refine x_iadd (pc := 122) dX8_cablePart_122 ?_
  refine y_iast (pc := 123) dX8_cablePart_123 rfl (by decide) (by omega) ?_
  exact y_vret (pc := 124) dX8_cablePart_124 rfl (by unfold pt3; rw [if_pos hr])

theorem mp_pt3 {G : GG} {m : Mem} (hM : MB m) (hN : NB3 m)  : Ct G MX8_cablePart (rmD 5) [rf G 41 0] (hp (m)) (.inl none) (hp (pt3 m)) := by
  refine x_entry (by decide +kernel) mwX8_cablePart rfl (Nat.le_of_ble_eq_true rfl) ?_
  show X G MX8_cablePart (rmD 5) 0 [(0, rf G 41 0)] [] (hp (m)) 0 0 (.inl none) (hp (pt3 m))
  have n3 := hN.1
  have n4 := hN.2.1
  have n6 := hN.2.2.1
  have n5 := hN.2.2.2.1
  have n8 := hN.2.2.2.2.1
  have n7 := hN.2.2.2.2.2.1
  refine x_aload_n (pc := 0) dX8_cablePart_0 0 rfl ?_
  refine x_iconst (pc := 1) dX8_cablePart_1 ?_
  refine x_bipush (pc := 2) (z := 12) dX8_cablePart_2 (by decide) ?_
  refine x_callV (pc := 4) _ dX8_cablePart_4 (mp_room 5 12 (by decide) (by unfold inI; decide) (by unfold inI; omega) hM) lkX8_126 rfl rfl rfl rfl (mem_dom0 (by decide) (by decide)) (by decide) (Nat.le_of_ble_eq_true rfl) rfl ?_
  refine x_ifb_ne (pc := 7) 11 dX8_cablePart_7 (by decide) (fun c_7 => ?_) (fun c_7 => ?_)
  · rw [if_pos c_7]
    refine x_bipush (pc := 11) (z := 86) dX8_cablePart_11 (by decide) ?_
    refine x_bipush (pc := 13) (z := 6) dX8_cablePart_13 (by decide) ?_
    refine x_aload_n (pc := 15) dX8_cablePart_15 0 rfl ?_
    refine y_getR (pc := 16) dX8_cablePart_16 flX8_13 rfl rfl rfl (by decide) ?_
    refine x_iconst (pc := 19) dX8_cablePart_19 ?_
    refine y_iald (pc := 20) dX8_cablePart_20 rfl (by decide) (by omega) ?_
    refine x_imul (pc := 21) dX8_cablePart_21 ?_
    refine x_iadd (pc := 22) dX8_cablePart_22 ?_
    refine x_top (v' := .int (iI (cbq m))) rfl ?_
    refine x_istore_n (pc := 23) (lv' := [(1, _), (0, _)]) dX8_cablePart_23 rfl (by decide) rfl ?_
    refine x_aload_n (pc := 24) dX8_cablePart_24 1 rfl ?_
    refine x_callV (pc := 25) _ dX8_cablePart_25 (mp_kn hM hN) lkX8_131 rfl rfl rfl rfl (mem_dom0 (by decide) (by decide)) (by decide) (Nat.le_of_ble_eq_true rfl) rfl ?_
    refine x_istore_n (pc := 28) (lv' := [(2, _), (1, _), (0, _)]) dX8_cablePart_28 rfl (by decide) rfl ?_
    refine x_aload_n (pc := 29) dX8_cablePart_29 2 rfl ?_
    refine x_callV (pc := 30) _ dX8_cablePart_30 (mp_kn (MB_nu hM) (NB3_nu hN)) lkX8_131 rfl rfl rfl rfl (mem_dom0 (by decide) (by decide)) (by decide) (Nat.le_of_ble_eq_true rfl) rfl ?_
    refine x_nil (m' := kk2 m) rfl ?_
    have b2 := (MB_kk2 hM).2.2.2.1
    have va := knV_b (m := m)
    have vb := knV_b (m := knM m)
    have ea : knV m = kka m := rfl
    have eb : knV (knM m) = kkb m := rfl
    rw [ea] at va ⊢
    rw [eb] at vb ⊢
    refine x_istore_n (pc := 33) (lv' := [(3, _), (2, _), (1, _), (0, _)]) dX8_cablePart_33 rfl (by decide) rfl ?_
    refine x_aload_n (pc := 34) dX8_cablePart_34 3 rfl ?_
    refine y_getI (pc := 35) 12 dX8_cablePart_35 flX8_76 rfl rfl rfl (by decide) ?_
    refine x_if_ne (pc := 38) 64 dX8_cablePart_38 (by decide) (by unfold inI; omega) (fun c_38 => ?_) (fun c_38 => ?_)
    · have e1 : kk2 m = kkF m (kcP m) := by unfold kkF; rw [if_neg (fun z => c_38 z.1)]
      refine x_nil e1 ?_
      exact x_lv [0, 1, 2, 3] rfl (tl_pt3 c_7 hM hN)
    · refine x_iload_n (pc := 41) dX8_cablePart_41 1 rfl ?_
      refine x_iload_n (pc := 42) dX8_cablePart_42 0 rfl ?_
      refine x_icmp_eq (pc := 43) 59 dX8_cablePart_43 (by decide) (by unfold inI; omega) (by unfold inI; omega) (fun c_43 => ?_) (fun c_43 => ?_)
      · refine x_aload_n (pc := 59) dX8_cablePart_59 3 rfl ?_
        refine x_iconst (pc := 60) dX8_cablePart_60 ?_
        refine x_callV (pc := 61) _ dX8_cablePart_61 (mp_fails 3 (MB_kk2 hM)) lkX8_101 rfl rfl rfl rfl (mem_dom0 (by decide) (by decide)) (by decide) (Nat.le_of_ble_eq_true rfl) rfl ?_
        have e1 : faM (kk2 m) 3 = kkF m (kcP m) := by unfold kkF; rw [if_pos ⟨c_38, Or.inl c_43⟩]
        refine x_nil e1 ?_
        exact x_lv [0, 1, 2, 3] rfl (tl_pt3 c_7 hM hN)
      · refine x_aload_n (pc := 46) dX8_cablePart_46 3 rfl ?_
        refine y_getR (pc := 47) dX8_cablePart_47 flX8_13 rfl rfl rfl (by decide) ?_
        refine x_iload_n (pc := 50) dX8_cablePart_50 1 rfl ?_
        refine x_iload_n (pc := 51) dX8_cablePart_51 0 rfl ?_
        have e43 : kk2 m 43 = m 43 := kk2_k (by decide)
        have bi := betN_i (N := m 43 0) (a := kka m) (b := kkb m) n5
        refine x_callS (pc := 52) _ dX8_cablePart_52 (mp_betw (kka m) (kkb m) (by unfold inI; omega) (by unfold inI; omega) (hN.k e43)) lkX8_134 rfl (by decide) (Nat.le_of_ble_eq_true rfl) rfl ?_
        rw [e43]
        refine x_iconst (pc := 55) dX8_cablePart_55 ?_
        refine x_icmp_eq (pc := 56) 64 dX8_cablePart_56 (by decide) bi (by unfold inI; omega) (fun c_56 => ?_) (fun c_56 => ?_)
        · have e1 : kk2 m = kkF m (kcP m) := by unfold kkF; rw [if_neg (fun z => z.2.elim c_43 (fun y => y c_56))]
          refine x_nil e1 ?_
          exact x_lv [0, 1, 2, 3] rfl (tl_pt3 c_7 hM hN)
        · refine x_aload_n (pc := 59) dX8_cablePart_59 3 rfl ?_
          refine x_iconst (pc := 60) dX8_cablePart_60 ?_
          refine x_callV (pc := 61) _ dX8_cablePart_61 (mp_fails 3 (MB_kk2 hM)) lkX8_101 rfl rfl rfl rfl (mem_dom0 (by decide) (by decide)) (by decide) (Nat.le_of_ble_eq_true rfl) rfl ?_
          have e1 : faM (kk2 m) 3 = kkF m (kcP m) := by unfold kkF; rw [if_pos ⟨c_38, Or.inr c_56⟩]
          refine x_nil e1 ?_
          exact x_lv [0, 1, 2, 3] rfl (tl_pt3 c_7 hM hN)
  · exact y_vret (pc := 10) dX8_cablePart_10 rfl (by unfold pt3; rw [if_neg c_7, if_neg c_7])

theorem tl_pt6 {G : GG} {m : Mem} (hr : m 43 0 8 < 8) (hM : MB m) (hN : NB3 m)  : X G MX8_contractPart (rmD 5) 67 [(3, .int (iI (kkb m))), (2, .int (iI (kka m))), (1, .int (iI (ctq m))), (0, rf G 41 0)] [] (hp (kkF m (ktP m))) 0 0 (.inl none) (hp (pt6 m)) := by
  have n3 := hN.1
  have n4 := hN.2.1
  have n6 := hN.2.2.1
  have n5 := hN.2.2.2.1
  have n8 := hN.2.2.2.2.1
  have n7 := hN.2.2.2.2.2.1
  have q0 : ctq m = 270 + 6 * m 43 0 8 := rfl
  refine x_aload_n (pc := 67) dX8_contractPart_67 3 rfl ?_
  refine y_getR (pc := 68) dX8_contractPart_68 flX8_13 rfl rfl rfl (by decide) ?_
  refine x_iload_n (pc := 71) dX8_contractPart_71 2 rfl ?_
  refine x_iconst (pc := 72) dX8_contractPart_72 ?_
  refine x_iadd (pc := 73) dX8_contractPart_73 ?_
  refine x_iload_n (pc := 74) dX8_contractPart_74 1 rfl ?_
  refine y_iast (pc := 75) dX8_contractPart_75 rfl (by decide) (by omega) ?_
  refine x_aload_n (pc := 76) dX8_contractPart_76 3 rfl ?_
  refine y_getR (pc := 77) dX8_contractPart_77 flX8_13 rfl rfl rfl (by decide) ?_
  refine x_iload_n (pc := 80) dX8_contractPart_80 2 rfl ?_
  refine x_iconst (pc := 81) dX8_contractPart_81 ?_
  refine x_iadd (pc := 82) dX8_contractPart_82 ?_
  refine x_iload_n (pc := 83) dX8_contractPart_83 0 rfl ?_
  refine y_iast (pc := 84) dX8_contractPart_84 rfl (by decide) (by omega) ?_
  refine x_nil (m' := ct1 m) rfl ?_
  refine x_aload_n (pc := 85) dX8_contractPart_85 3 rfl ?_
  refine y_getR (pc := 86) dX8_contractPart_86 flX8_13 rfl rfl rfl (by decide) ?_
  refine x_iload_n (pc := 89) dX8_contractPart_89 2 rfl ?_
  refine x_iconst (pc := 90) dX8_contractPart_90 ?_
  refine x_iadd (pc := 91) dX8_contractPart_91 ?_
  refine x_aload_n (pc := 92) dX8_contractPart_92 3 rfl ?_
  refine x_iconst (pc := 93) dX8_contractPart_93 ?_
  refine x_ldc (pc := 94) (z := 100000) dX8_contractPart_94 kcX8_130 (by decide) ?_
  refine x_callV (pc := 96) _ dX8_contractPart_96 (mp_num 1 100000 (by unfold inI; omega) (by unfold inI; omega) (MB_43 (MB_43 (MB_kkF hM)))) lkX8_111 rfl rfl rfl rfl (mem_dom0 (by decide) (by decide)) (by decide) (Nat.le_of_ble_eq_true rfl) rfl ?_
  refine y_iast (pc := 99) dX8_contractPart_99 rfl (by decide) (by omega) ?_
  refine x_nil (m' := snM (ct1 m) (ctq m + 2) 1 100000) rfl ?_
  refine x_aload_n (pc := 100) dX8_contractPart_100 3 rfl ?_
  refine y_getR (pc := 101) dX8_contractPart_101 flX8_13 rfl rfl rfl (by decide) ?_
  refine x_iload_n (pc := 104) dX8_contractPart_104 2 rfl ?_
  refine x_iconst (pc := 105) dX8_contractPart_105 ?_
  refine x_iadd (pc := 106) dX8_contractPart_106 ?_
  refine x_aload_n (pc := 107) dX8_contractPart_107 3 rfl ?_
  refine x_iconst (pc := 108) dX8_contractPart_108 ?_
  refine x_bipush (pc := 109) (z := 99) dX8_contractPart_109 (by decide) ?_
  refine x_callV (pc := 111) _ dX8_contractPart_111 (mp_num 0 99 (by unfold inI; omega) (by unfold inI; omega) (MB_sn (MB_43 (MB_43 (MB_kkF hM))))) lkX8_111 rfl rfl rfl rfl (mem_dom0 (by decide) (by decide)) (by decide) (Nat.le_of_ble_eq_true rfl) rfl ?_
  refine y_iast (pc := 114) dX8_contractPart_114 rfl (by decide) (by omega) ?_
  refine x_nil (m' := snM (snM (ct1 m) (ctq m + 2) 1 100000) (ctq m + 3) 0 99) rfl ?_
  refine x_aload_n (pc := 115) dX8_contractPart_115 3 rfl ?_
  refine y_getR (pc := 116) dX8_contractPart_116 flX8_13 rfl rfl rfl (by decide) ?_
  refine x_iload_n (pc := 119) dX8_contractPart_119 2 rfl ?_
  refine x_iconst (pc := 120) dX8_contractPart_120 ?_
  refine x_iadd (pc := 121) dX8_contractPart_121 ?_
  refine x_aload_n (pc := 122) dX8_contractPart_122 3 rfl ?_
  refine x_iconst (pc := 123) dX8_contractPart_123 ?_
  refine x_bipush (pc := 124) (z := 99) dX8_contractPart_124 (by decide) ?_
  refine x_callV (pc := 126) _ dX8_contractPart_126 (mp_num 0 99 (by unfold inI; omega) (by unfold inI; omega) (MB_sn (MB_sn (MB_43 (MB_43 (MB_kkF hM)))))) lkX8_111 rfl rfl rfl rfl (mem_dom0 (by decide) (by decide)) (by decide) (Nat.le_of_ble_eq_true rfl) rfl ?_
  refine y_iast (pc := 129) dX8_contractPart_129 rfl (by decide) (by omega) ?_
  refine x_nil (m' := ct2 m) rfl ?_
  refine x_aload_n (pc := 130) dX8_contractPart_130 3 rfl ?_
  refine y_getR (pc := 131) dX8_contractPart_131 flX8_13 rfl rfl rfl (by decide) ?_
  refine x_bipush (pc := 134) (z := 8) dX8_contractPart_134 (by decide) ?_
  refine x_dup2 (pc := 136) dX8_contractPart_136 rfl rfl ?_
  refine y_iald (pc := 137) dX8_contractPart_137 rfl (by decide) (by omega) ?_
  refine x_iconst (pc := 138) dX8_contractPart_138 ?_
  refine x_iadd (pc := 139) dX8_contractPart_139 ?_
  refine y_iast (pc := 140) dX8_contractPart_140 rfl (by decide) (by omega) ?_
  exact y_vret (pc := 141) dX8_contractPart_141 rfl (by unfold pt6; rw [if_pos hr])

theorem mp_pt6 {G : GG} {m : Mem} (hM : MB m) (hN : NB3 m)  : Ct G MX8_contractPart (rmD 5) [rf G 41 0] (hp (m)) (.inl none) (hp (pt6 m)) := by
  refine x_entry (by decide +kernel) mwX8_contractPart rfl (Nat.le_of_ble_eq_true rfl) ?_
  show X G MX8_contractPart (rmD 5) 0 [(0, rf G 41 0)] [] (hp (m)) 0 0 (.inl none) (hp (pt6 m))
  have n3 := hN.1
  have n4 := hN.2.1
  have n6 := hN.2.2.1
  have n5 := hN.2.2.2.1
  have n8 := hN.2.2.2.2.1
  have n7 := hN.2.2.2.2.2.1
  refine x_aload_n (pc := 0) dX8_contractPart_0 0 rfl ?_
  refine x_bipush (pc := 1) (z := 8) dX8_contractPart_1 (by decide) ?_
  refine x_bipush (pc := 3) (z := 8) dX8_contractPart_3 (by decide) ?_
  refine x_callV (pc := 5) _ dX8_contractPart_5 (mp_room 8 8 (by decide) (by unfold inI; decide) (by unfold inI; omega) hM) lkX8_126 rfl rfl rfl rfl (mem_dom0 (by decide) (by decide)) (by decide) (Nat.le_of_ble_eq_true rfl) rfl ?_
  refine x_ifb_ne (pc := 8) 12 dX8_contractPart_8 (by decide) (fun c_8 => ?_) (fun c_8 => ?_)
  · rw [if_pos c_8]
    refine x_sipush (pc := 12) (z := 270) dX8_contractPart_12 (by decide) ?_
    refine x_bipush (pc := 15) (z := 6) dX8_contractPart_15 (by decide) ?_
    refine x_aload_n (pc := 17) dX8_contractPart_17 0 rfl ?_
    refine y_getR (pc := 18) dX8_contractPart_18 flX8_13 rfl rfl rfl (by decide) ?_
    refine x_bipush (pc := 21) (z := 8) dX8_contractPart_21 (by decide) ?_
    refine y_iald (pc := 23) dX8_contractPart_23 rfl (by decide) (by omega) ?_
    refine x_imul (pc := 24) dX8_contractPart_24 ?_
    refine x_iadd (pc := 25) dX8_contractPart_25 ?_
    refine x_top (v' := .int (iI (ctq m))) rfl ?_
    refine x_istore_n (pc := 26) (lv' := [(1, _), (0, _)]) dX8_contractPart_26 rfl (by decide) rfl ?_
    refine x_aload_n (pc := 27) dX8_contractPart_27 1 rfl ?_
    refine x_callV (pc := 28) _ dX8_contractPart_28 (mp_kn hM hN) lkX8_131 rfl rfl rfl rfl (mem_dom0 (by decide) (by decide)) (by decide) (Nat.le_of_ble_eq_true rfl) rfl ?_
    refine x_istore_n (pc := 31) (lv' := [(2, _), (1, _), (0, _)]) dX8_contractPart_31 rfl (by decide) rfl ?_
    refine x_aload_n (pc := 32) dX8_contractPart_32 2 rfl ?_
    refine x_callV (pc := 33) _ dX8_contractPart_33 (mp_kn (MB_nu hM) (NB3_nu hN)) lkX8_131 rfl rfl rfl rfl (mem_dom0 (by decide) (by decide)) (by decide) (Nat.le_of_ble_eq_true rfl) rfl ?_
    refine x_nil (m' := kk2 m) rfl ?_
    have b2 := (MB_kk2 hM).2.2.2.1
    have va := knV_b (m := m)
    have vb := knV_b (m := knM m)
    have ea : knV m = kka m := rfl
    have eb : knV (knM m) = kkb m := rfl
    rw [ea] at va ⊢
    rw [eb] at vb ⊢
    refine x_istore_n (pc := 36) (lv' := [(3, _), (2, _), (1, _), (0, _)]) dX8_contractPart_36 rfl (by decide) rfl ?_
    refine x_aload_n (pc := 37) dX8_contractPart_37 3 rfl ?_
    refine y_getI (pc := 38) 12 dX8_contractPart_38 flX8_76 rfl rfl rfl (by decide) ?_
    refine x_if_ne (pc := 41) 67 dX8_contractPart_41 (by decide) (by unfold inI; omega) (fun c_41 => ?_) (fun c_41 => ?_)
    · have e1 : kk2 m = kkF m (ktP m) := by unfold kkF; rw [if_neg (fun z => c_41 z.1)]
      refine x_nil e1 ?_
      exact x_lv [0, 1, 2, 3] rfl (tl_pt6 c_8 hM hN)
    · refine x_iload_n (pc := 44) dX8_contractPart_44 1 rfl ?_
      refine x_iload_n (pc := 45) dX8_contractPart_45 0 rfl ?_
      refine x_icmp_eq (pc := 46) 62 dX8_contractPart_46 (by decide) (by unfold inI; omega) (by unfold inI; omega) (fun c_46 => ?_) (fun c_46 => ?_)
      · refine x_aload_n (pc := 62) dX8_contractPart_62 3 rfl ?_
        refine x_iconst (pc := 63) dX8_contractPart_63 ?_
        refine x_callV (pc := 64) _ dX8_contractPart_64 (mp_fails 3 (MB_kk2 hM)) lkX8_101 rfl rfl rfl rfl (mem_dom0 (by decide) (by decide)) (by decide) (Nat.le_of_ble_eq_true rfl) rfl ?_
        have e1 : faM (kk2 m) 3 = kkF m (ktP m) := by unfold kkF; rw [if_pos ⟨c_41, Or.inl c_46⟩]
        refine x_nil e1 ?_
        exact x_lv [0, 1, 2, 3] rfl (tl_pt6 c_8 hM hN)
      · refine x_aload_n (pc := 49) dX8_contractPart_49 3 rfl ?_
        refine y_getR (pc := 50) dX8_contractPart_50 flX8_13 rfl rfl rfl (by decide) ?_
        refine x_iload_n (pc := 53) dX8_contractPart_53 1 rfl ?_
        refine x_iload_n (pc := 54) dX8_contractPart_54 0 rfl ?_
        have e43 : kk2 m 43 = m 43 := kk2_k (by decide)
        have bi := betN_i (N := m 43 0) (a := kka m) (b := kkb m) n5
        refine x_callS (pc := 55) _ dX8_contractPart_55 (mp_betw (kka m) (kkb m) (by unfold inI; omega) (by unfold inI; omega) (hN.k e43)) lkX8_134 rfl (by decide) (Nat.le_of_ble_eq_true rfl) rfl ?_
        rw [e43]
        refine x_iconst (pc := 58) dX8_contractPart_58 ?_
        refine x_icmp_ne (pc := 59) 67 dX8_contractPart_59 (by decide) bi (by unfold inI; omega) (fun c_59 => ?_) (fun c_59 => ?_)
        · have e1 : kk2 m = kkF m (ktP m) := by unfold kkF; rw [if_neg (fun z => z.2.elim c_46 (fun y => c_59 y))]
          refine x_nil e1 ?_
          exact x_lv [0, 1, 2, 3] rfl (tl_pt6 c_8 hM hN)
        · refine x_aload_n (pc := 62) dX8_contractPart_62 3 rfl ?_
          refine x_iconst (pc := 63) dX8_contractPart_63 ?_
          refine x_callV (pc := 64) _ dX8_contractPart_64 (mp_fails 3 (MB_kk2 hM)) lkX8_101 rfl rfl rfl rfl (mem_dom0 (by decide) (by decide)) (by decide) (Nat.le_of_ble_eq_true rfl) rfl ?_
          have e1 : faM (kk2 m) 3 = kkF m (ktP m) := by unfold kkF; rw [if_pos ⟨c_41, Or.inr c_59⟩]
          refine x_nil e1 ?_
          exact x_lv [0, 1, 2, 3] rfl (tl_pt6 c_8 hM hN)
  · exact y_vret (pc := 11) dX8_contractPart_11 rfl (by unfold pt6; rw [if_neg c_8, if_neg c_8])

def suq (m : Mem) : Int := 158 + 4 * m 43 0 6
def su1 (m : Mem) : Mem := up3 (knM m) 43 0 (suq m) (knV m)
def su2 (m : Mem) : Mem := snM (su1 m) (suq m + 1) 0 23
def su3 (m : Mem) : Mem := snM (su2 m) (suq m + 2) (su2 m 43 0 (suq m + 1)) 23
def su4 (m : Mem) : Mem := snM (su3 m) (suq m + 3) 1 10000
def pt4 (m : Mem) : Mem := if m 43 0 6 < 12 then up3 (su4 m) 43 0 6 (su4 m 43 0 6 + 1) else roM m
theorem su2_q {m : Mem} : 0 ≤ su2 m 43 0 (suq m + 1) ∧ su2 m 43 0 (suq m + 1) ≤ 10000000 := by
  unfold su2
  rw [snM_a, if_pos rfl]
  exact nuV_b _ _ _ (by decide)
def trq (m : Mem) : Int := 206 + 4 * m 43 0 7
def tp1 (m : Mem) : Mem := up3 (knM m) 43 0 (trq m) (knV m)
def tpp2 (m : Mem) : Mem := snM (tp1 m) (trq m + 1) 0 9999
def tp3 (m : Mem) : Mem := snM (tpp2 m) (trq m + 2) 1 100000
def pt5 (m : Mem) : Mem := if m 43 0 7 < 16 then up3 (tp3 m) 43 0 7 (tp3 m 43 0 7 + 1) else roM m
theorem mp_pt4 {G : GG} {m : Mem} (hM : MB m) (hN : NB3 m)  : Ct G MX8_sunPart (rmD 5) [rf G 41 0] (hp (m)) (.inl none) (hp (pt4 m)) := by
  refine x_entry (by decide +kernel) mwX8_sunPart rfl (Nat.le_of_ble_eq_true rfl) ?_
  show X G MX8_sunPart (rmD 5) 0 [(0, rf G 41 0)] [] (hp (m)) 0 0 (.inl none) (hp (pt4 m))
  have n3 := hN.1
  have n4 := hN.2.1
  have n6 := hN.2.2.1
  have n5 := hN.2.2.2.1
  have n8 := hN.2.2.2.2.1
  have n7 := hN.2.2.2.2.2.1
  have q0 : suq m = 158 + 4 * m 43 0 6 := rfl
  refine x_aload_n (pc := 0) dX8_sunPart_0 0 rfl ?_
  refine x_bipush (pc := 1) (z := 6) dX8_sunPart_1 (by decide) ?_
  refine x_bipush (pc := 3) (z := 12) dX8_sunPart_3 (by decide) ?_
  refine x_callV (pc := 5) _ dX8_sunPart_5 (mp_room 6 12 (by decide) (by unfold inI; decide) (by unfold inI; omega) hM) lkX8_126 rfl rfl rfl rfl (mem_dom0 (by decide) (by decide)) (by decide) (Nat.le_of_ble_eq_true rfl) rfl ?_
  refine x_ifb_ne (pc := 8) 12 dX8_sunPart_8 (by decide) (fun c_8 => ?_) (fun c_8 => ?_)
  · rw [if_pos c_8]
    refine x_sipush (pc := 12) (z := 158) dX8_sunPart_12 (by decide) ?_
    refine x_iconst (pc := 15) dX8_sunPart_15 ?_
    refine x_aload_n (pc := 16) dX8_sunPart_16 0 rfl ?_
    refine y_getR (pc := 17) dX8_sunPart_17 flX8_13 rfl rfl rfl (by decide) ?_
    refine x_bipush (pc := 20) (z := 6) dX8_sunPart_20 (by decide) ?_
    refine y_iald (pc := 22) dX8_sunPart_22 rfl (by decide) (by omega) ?_
    refine x_imul (pc := 23) dX8_sunPart_23 ?_
    refine x_iadd (pc := 24) dX8_sunPart_24 ?_
    refine x_top (v' := .int (iI (suq m))) rfl ?_
    refine x_istore_n (pc := 25) (lv' := [(1, _), (0, _)]) dX8_sunPart_25 rfl (by decide) rfl ?_
    refine x_aload_n (pc := 26) dX8_sunPart_26 1 rfl ?_
    refine y_getR (pc := 27) dX8_sunPart_27 flX8_13 rfl rfl rfl (by decide) ?_
    refine x_iload_n (pc := 30) dX8_sunPart_30 0 rfl ?_
    refine x_aload_n (pc := 31) dX8_sunPart_31 1 rfl ?_
    refine x_callV (pc := 32) _ dX8_sunPart_32 (mp_kn hM hN) lkX8_131 rfl rfl rfl rfl (mem_dom0 (by decide) (by decide)) (by decide) (Nat.le_of_ble_eq_true rfl) rfl ?_
    refine y_iast (pc := 35) dX8_sunPart_35 rfl (by decide) (by omega) ?_
    refine x_nil (m' := su1 m) rfl ?_
    refine x_aload_n (pc := 36) dX8_sunPart_36 1 rfl ?_
    refine y_getR (pc := 37) dX8_sunPart_37 flX8_13 rfl rfl rfl (by decide) ?_
    refine x_iload_n (pc := 40) dX8_sunPart_40 0 rfl ?_
    refine x_iconst (pc := 41) dX8_sunPart_41 ?_
    refine x_iadd (pc := 42) dX8_sunPart_42 ?_
    refine x_aload_n (pc := 43) dX8_sunPart_43 1 rfl ?_
    refine x_iconst (pc := 44) dX8_sunPart_44 ?_
    refine x_bipush (pc := 45) (z := 23) dX8_sunPart_45 (by decide) ?_
    refine x_callV (pc := 47) _ dX8_sunPart_47 (mp_num 0 23 (by unfold inI; omega) (by unfold inI; omega) (MB_43 (MB_nu hM))) lkX8_111 rfl rfl rfl rfl (mem_dom0 (by decide) (by decide)) (by decide) (Nat.le_of_ble_eq_true rfl) rfl ?_
    refine y_iast (pc := 50) dX8_sunPart_50 rfl (by decide) (by omega) ?_
    refine x_nil (m' := su2 m) rfl ?_
    refine x_aload_n (pc := 51) dX8_sunPart_51 1 rfl ?_
    refine y_getR (pc := 52) dX8_sunPart_52 flX8_13 rfl rfl rfl (by decide) ?_
    refine x_iload_n (pc := 55) dX8_sunPart_55 0 rfl ?_
    refine x_iconst (pc := 56) dX8_sunPart_56 ?_
    refine x_iadd (pc := 57) dX8_sunPart_57 ?_
    refine x_aload_n (pc := 58) dX8_sunPart_58 1 rfl ?_
    refine x_aload_n (pc := 59) dX8_sunPart_59 1 rfl ?_
    refine y_getR (pc := 60) dX8_sunPart_60 flX8_13 rfl rfl rfl (by decide) ?_
    refine x_iload_n (pc := 63) dX8_sunPart_63 0 rfl ?_
    refine x_iconst (pc := 64) dX8_sunPart_64 ?_
    refine x_iadd (pc := 65) dX8_sunPart_65 ?_
    refine y_iald (pc := 66) dX8_sunPart_66 rfl (by decide) (by omega) ?_
    refine x_bipush (pc := 67) (z := 23) dX8_sunPart_67 (by decide) ?_
    refine x_callV (pc := 69) _ dX8_sunPart_69 (mp_num (su2 m 43 0 (suq m + 1)) 23 (by have := su2_q (m := m); unfold inI; omega) (by unfold inI; omega) (MB_sn (MB_43 (MB_nu hM)))) lkX8_111 rfl rfl rfl rfl (mem_dom0 (by decide) (by decide)) (by decide) (Nat.le_of_ble_eq_true rfl) rfl ?_
    refine y_iast (pc := 72) dX8_sunPart_72 rfl (by decide) (by omega) ?_
    refine x_nil (m' := su3 m) rfl ?_
    refine x_aload_n (pc := 73) dX8_sunPart_73 1 rfl ?_
    refine y_getR (pc := 74) dX8_sunPart_74 flX8_13 rfl rfl rfl (by decide) ?_
    refine x_iload_n (pc := 77) dX8_sunPart_77 0 rfl ?_
    refine x_iconst (pc := 78) dX8_sunPart_78 ?_
    refine x_iadd (pc := 79) dX8_sunPart_79 ?_
    refine x_aload_n (pc := 80) dX8_sunPart_80 1 rfl ?_
    refine x_iconst (pc := 81) dX8_sunPart_81 ?_
    refine x_sipush (pc := 82) (z := 10000) dX8_sunPart_82 (by decide) ?_
    refine x_callV (pc := 85) _ dX8_sunPart_85 (mp_num 1 10000 (by unfold inI; omega) (by unfold inI; omega) (MB_sn (MB_sn (MB_43 (MB_nu hM))))) lkX8_111 rfl rfl rfl rfl (mem_dom0 (by decide) (by decide)) (by decide) (Nat.le_of_ble_eq_true rfl) rfl ?_
    refine y_iast (pc := 88) dX8_sunPart_88 rfl (by decide) (by omega) ?_
    refine x_nil (m' := su4 m) rfl ?_
    refine x_aload_n (pc := 89) dX8_sunPart_89 1 rfl ?_
    refine y_getR (pc := 90) dX8_sunPart_90 flX8_13 rfl rfl rfl (by decide) ?_
    refine x_bipush (pc := 93) (z := 6) dX8_sunPart_93 (by decide) ?_
    refine x_dup2 (pc := 95) dX8_sunPart_95 rfl rfl ?_
    refine y_iald (pc := 96) dX8_sunPart_96 rfl (by decide) (by omega) ?_
    refine x_iconst (pc := 97) dX8_sunPart_97 ?_
    refine x_iadd (pc := 98) dX8_sunPart_98 ?_
    refine y_iast (pc := 99) dX8_sunPart_99 rfl (by decide) (by omega) ?_
    exact y_vret (pc := 100) dX8_sunPart_100 rfl (by unfold pt4; rw [if_pos c_8])
  · exact y_vret (pc := 11) dX8_sunPart_11 rfl (by unfold pt4; rw [if_neg c_8, if_neg c_8])

theorem mp_pt5 {G : GG} {m : Mem} (hM : MB m) (hN : NB3 m)  : Ct G MX8_tripPart (rmD 5) [rf G 41 0] (hp (m)) (.inl none) (hp (pt5 m)) := by
  refine x_entry (by decide +kernel) mwX8_tripPart rfl (Nat.le_of_ble_eq_true rfl) ?_
  show X G MX8_tripPart (rmD 5) 0 [(0, rf G 41 0)] [] (hp (m)) 0 0 (.inl none) (hp (pt5 m))
  have n3 := hN.1
  have n4 := hN.2.1
  have n6 := hN.2.2.1
  have n5 := hN.2.2.2.1
  have n8 := hN.2.2.2.2.1
  have n7 := hN.2.2.2.2.2.1
  have q0 : trq m = 206 + 4 * m 43 0 7 := rfl
  refine x_aload_n (pc := 0) dX8_tripPart_0 0 rfl ?_
  refine x_bipush (pc := 1) (z := 7) dX8_tripPart_1 (by decide) ?_
  refine x_bipush (pc := 3) (z := 16) dX8_tripPart_3 (by decide) ?_
  refine x_callV (pc := 5) _ dX8_tripPart_5 (mp_room 7 16 (by decide) (by unfold inI; decide) (by unfold inI; omega) hM) lkX8_126 rfl rfl rfl rfl (mem_dom0 (by decide) (by decide)) (by decide) (Nat.le_of_ble_eq_true rfl) rfl ?_
  refine x_ifb_ne (pc := 8) 12 dX8_tripPart_8 (by decide) (fun c_8 => ?_) (fun c_8 => ?_)
  · rw [if_pos c_8]
    refine x_sipush (pc := 12) (z := 206) dX8_tripPart_12 (by decide) ?_
    refine x_iconst (pc := 15) dX8_tripPart_15 ?_
    refine x_aload_n (pc := 16) dX8_tripPart_16 0 rfl ?_
    refine y_getR (pc := 17) dX8_tripPart_17 flX8_13 rfl rfl rfl (by decide) ?_
    refine x_bipush (pc := 20) (z := 7) dX8_tripPart_20 (by decide) ?_
    refine y_iald (pc := 22) dX8_tripPart_22 rfl (by decide) (by omega) ?_
    refine x_imul (pc := 23) dX8_tripPart_23 ?_
    refine x_iadd (pc := 24) dX8_tripPart_24 ?_
    refine x_top (v' := .int (iI (trq m))) rfl ?_
    refine x_istore_n (pc := 25) (lv' := [(1, _), (0, _)]) dX8_tripPart_25 rfl (by decide) rfl ?_
    refine x_aload_n (pc := 26) dX8_tripPart_26 1 rfl ?_
    refine y_getR (pc := 27) dX8_tripPart_27 flX8_13 rfl rfl rfl (by decide) ?_
    refine x_iload_n (pc := 30) dX8_tripPart_30 0 rfl ?_
    refine x_aload_n (pc := 31) dX8_tripPart_31 1 rfl ?_
    refine x_callV (pc := 32) _ dX8_tripPart_32 (mp_kn hM hN) lkX8_131 rfl rfl rfl rfl (mem_dom0 (by decide) (by decide)) (by decide) (Nat.le_of_ble_eq_true rfl) rfl ?_
    refine y_iast (pc := 35) dX8_tripPart_35 rfl (by decide) (by omega) ?_
    refine x_nil (m' := tp1 m) rfl ?_
    refine x_aload_n (pc := 36) dX8_tripPart_36 1 rfl ?_
    refine y_getR (pc := 37) dX8_tripPart_37 flX8_13 rfl rfl rfl (by decide) ?_
    refine x_iload_n (pc := 40) dX8_tripPart_40 0 rfl ?_
    refine x_iconst (pc := 41) dX8_tripPart_41 ?_
    refine x_iadd (pc := 42) dX8_tripPart_42 ?_
    refine x_aload_n (pc := 43) dX8_tripPart_43 1 rfl ?_
    refine x_iconst (pc := 44) dX8_tripPart_44 ?_
    refine x_sipush (pc := 45) (z := 9999) dX8_tripPart_45 (by decide) ?_
    refine x_callV (pc := 48) _ dX8_tripPart_48 (mp_num 0 9999 (by unfold inI; omega) (by unfold inI; omega) (MB_43 (MB_nu hM))) lkX8_111 rfl rfl rfl rfl (mem_dom0 (by decide) (by decide)) (by decide) (Nat.le_of_ble_eq_true rfl) rfl ?_
    refine y_iast (pc := 51) dX8_tripPart_51 rfl (by decide) (by omega) ?_
    refine x_nil (m' := tpp2 m) rfl ?_
    refine x_aload_n (pc := 52) dX8_tripPart_52 1 rfl ?_
    refine y_getR (pc := 53) dX8_tripPart_53 flX8_13 rfl rfl rfl (by decide) ?_
    refine x_iload_n (pc := 56) dX8_tripPart_56 0 rfl ?_
    refine x_iconst (pc := 57) dX8_tripPart_57 ?_
    refine x_iadd (pc := 58) dX8_tripPart_58 ?_
    refine x_aload_n (pc := 59) dX8_tripPart_59 1 rfl ?_
    refine x_iconst (pc := 60) dX8_tripPart_60 ?_
    refine x_ldc (pc := 61) (z := 100000) dX8_tripPart_61 kcX8_130 (by decide) ?_
    refine x_callV (pc := 63) _ dX8_tripPart_63 (mp_num 1 100000 (by unfold inI; omega) (by unfold inI; omega) (MB_sn (MB_43 (MB_nu hM)))) lkX8_111 rfl rfl rfl rfl (mem_dom0 (by decide) (by decide)) (by decide) (Nat.le_of_ble_eq_true rfl) rfl ?_
    refine y_iast (pc := 66) dX8_tripPart_66 rfl (by decide) (by omega) ?_
    refine x_nil (m' := tp3 m) rfl ?_
    refine x_aload_n (pc := 67) dX8_tripPart_67 1 rfl ?_
    refine y_getR (pc := 68) dX8_tripPart_68 flX8_13 rfl rfl rfl (by decide) ?_
    refine x_bipush (pc := 71) (z := 7) dX8_tripPart_71 (by decide) ?_
    refine x_dup2 (pc := 73) dX8_tripPart_73 rfl rfl ?_
    refine y_iald (pc := 74) dX8_tripPart_74 rfl (by decide) (by omega) ?_
    refine x_iconst (pc := 75) dX8_tripPart_75 ?_
    refine x_iadd (pc := 76) dX8_tripPart_76 ?_
    refine y_iast (pc := 77) dX8_tripPart_77 rfl (by decide) (by omega) ?_
    exact y_vret (pc := 78) dX8_tripPart_78 rfl (by unfold pt5; rw [if_pos c_8])
  · exact y_vret (pc := 11) dX8_tripPart_11 rfl (by unfold pt5; rw [if_neg c_8, if_neg c_8])

def sm1 (m : Mem) : Mem := up3 (rsM m) 41 0 15 (rsM m 41 0 11)
def smW (m : Mem) (i : Nat) : Bool := wdB (sm1 m 48 0) (sm1 m 41 0 11) (sm1 m 41 0 10) i
def smM (m : Mem) : Mem := if smW m 1 = true then pt1 (sm1 m) else if smW m 2 = true then pt2 (sm1 m) else if smW m 3 = true then pt3 (sm1 m) else if smW m 4 = true then pt4 (sm1 m) else if smW m 5 = true then pt5 (sm1 m) else if smW m 6 = true then pt6 (sm1 m) else faM (sm1 m) 1
theorem MB_sm1 {m : Mem} (h : MB m) : MB (sm1 m) := MB_sa (MB_rs h) (MB_rs h).2.2.2.2.1.1 (MB_rs h).2.2.2.2.1.2
theorem sm1_k {m : Mem} {k : Nat} (h : k ≠ 41) : sm1 m k = m k := by unfold sm1 rsM; rw [up3_k h, mcM_k h, nxM_k h]
theorem mp_stm {G : GG} {m : Mem} (hM : MB m) (hN : NB3 m)  : Ct G MX8_statement (rmD 6) [rf G 41 0] (hp (m)) (.inl none) (hp (smM m)) := by
  refine x_entry (by decide +kernel) mwX8_statement rfl (Nat.le_of_ble_eq_true rfl) ?_
  show X G MX8_statement (rmD 6) 0 [(0, rf G 41 0)] [] (hp (m)) 0 0 (.inl none) (hp (smM m))
  refine x_aload_n (pc := 0) dX8_statement_0 0 rfl ?_
  refine x_callV (pc := 1) _ dX8_statement_1 (mp_reads hM) lkX8_117 rfl rfl rfl rfl (mem_dom0 (by decide) (by decide)) (by decide) (Nat.le_of_ble_eq_true rfl) rfl ?_
  refine x_aload_n (pc := 4) dX8_statement_4 0 rfl ?_
  refine x_aload_n (pc := 5) dX8_statement_5 0 rfl ?_
  refine y_getI (pc := 6) 11 dX8_statement_6 flX8_73 rfl rfl rfl (by decide) ?_
  refine y_putI (pc := 9) 15 dX8_statement_9 fwX8_114 rfl rfl rfl (by decide) ?_
  refine x_nil (m' := sm1 m) rfl ?_
  have hM1 := MB_sm1 hM
  have hN1 : NB3 (sm1 m) := hN.k (sm1_k (by decide))
  refine x_aload_n (pc := 12) dX8_statement_12 0 rfl ?_
  refine x_ldcS (pc := 13) "curve" 1 dX8_statement_13 (by decide +kernel) ?_
  refine x_callV (pc := 15) _ dX8_statement_15 (mp_isWord (i := 1) (by decide) hM1) lkX8_122 rfl rfl rfl rfl (mem_dom0 (by decide) (by decide)) (by decide) (Nat.le_of_ble_eq_true rfl) rfl ?_
  refine x_ifb_eq (pc := 18) 28 dX8_statement_18 (by decide) (fun c_18 => ?_) (fun c_18 => ?_)
  · refine x_aload_n (pc := 28) dX8_statement_28 0 rfl ?_
    refine x_ldcS (pc := 29) "pack" 2 dX8_statement_29 (by decide +kernel) ?_
    refine x_callV (pc := 31) _ dX8_statement_31 (mp_isWord (i := 2) (by decide) hM1) lkX8_122 rfl rfl rfl rfl (mem_dom0 (by decide) (by decide)) (by decide) (Nat.le_of_ble_eq_true rfl) rfl ?_
    refine x_ifb_eq (pc := 34) 44 dX8_statement_34 (by decide) (fun c_34 => ?_) (fun c_34 => ?_)
    · refine x_aload_n (pc := 44) dX8_statement_44 0 rfl ?_
      refine x_ldcS (pc := 45) "cable" 3 dX8_statement_45 (by decide +kernel) ?_
      refine x_callV (pc := 47) _ dX8_statement_47 (mp_isWord (i := 3) (by decide) hM1) lkX8_122 rfl rfl rfl rfl (mem_dom0 (by decide) (by decide)) (by decide) (Nat.le_of_ble_eq_true rfl) rfl ?_
      refine x_ifb_eq (pc := 50) 60 dX8_statement_50 (by decide) (fun c_50 => ?_) (fun c_50 => ?_)
      · refine x_aload_n (pc := 60) dX8_statement_60 0 rfl ?_
        refine x_ldcS (pc := 61) "sun" 4 dX8_statement_61 (by decide +kernel) ?_
        refine x_callV (pc := 63) _ dX8_statement_63 (mp_isWord (i := 4) (by decide) hM1) lkX8_122 rfl rfl rfl rfl (mem_dom0 (by decide) (by decide)) (by decide) (Nat.le_of_ble_eq_true rfl) rfl ?_
        refine x_ifb_eq (pc := 66) 76 dX8_statement_66 (by decide) (fun c_66 => ?_) (fun c_66 => ?_)
        · refine x_aload_n (pc := 76) dX8_statement_76 0 rfl ?_
          refine x_ldcS (pc := 77) "trip" 5 dX8_statement_77 (by decide +kernel) ?_
          refine x_callV (pc := 79) _ dX8_statement_79 (mp_isWord (i := 5) (by decide) hM1) lkX8_122 rfl rfl rfl rfl (mem_dom0 (by decide) (by decide)) (by decide) (Nat.le_of_ble_eq_true rfl) rfl ?_
          refine x_ifb_eq (pc := 82) 92 dX8_statement_82 (by decide) (fun c_82 => ?_) (fun c_82 => ?_)
          · refine x_aload_n (pc := 92) dX8_statement_92 0 rfl ?_
            refine x_ldcS (pc := 93) "contract" 6 dX8_statement_93 (by decide +kernel) ?_
            refine x_callV (pc := 95) _ dX8_statement_95 (mp_isWord (i := 6) (by decide) hM1) lkX8_122 rfl rfl rfl rfl (mem_dom0 (by decide) (by decide)) (by decide) (Nat.le_of_ble_eq_true rfl) rfl ?_
            refine x_ifb_eq (pc := 98) 108 dX8_statement_98 (by decide) (fun c_98 => ?_) (fun c_98 => ?_)
            · refine x_aload_n (pc := 108) dX8_statement_108 0 rfl ?_
              refine x_iconst (pc := 109) dX8_statement_109 ?_
              refine x_callV (pc := 110) _ dX8_statement_110 (mp_fails 1 hM1) lkX8_101 rfl rfl rfl rfl (mem_dom0 (by decide) (by decide)) (by decide) (Nat.le_of_ble_eq_true rfl) rfl ?_
              exact y_vret (pc := 113) dX8_statement_113 rfl (by unfold smM; rw [if_neg (show ¬ smW m 1 = true from c_18), if_neg (show ¬ smW m 2 = true from c_34), if_neg (show ¬ smW m 3 = true from c_50), if_neg (show ¬ smW m 4 = true from c_66), if_neg (show ¬ smW m 5 = true from c_82), if_neg (show ¬ smW m 6 = true from c_98)])
            · refine x_aload_n (pc := 101) dX8_statement_101 0 rfl ?_
              refine x_callV (pc := 102) _ dX8_statement_102 (mp_pt6 hM1 hN1) lkX8_165 rfl rfl rfl rfl (mem_dom0 (by decide) (by decide)) (by decide) (Nat.le_of_ble_eq_true rfl) rfl ?_
              refine x_goto (pc := 105) 113 dX8_statement_105 (by decide) ?_
              exact y_vret (pc := 113) dX8_statement_113 rfl (by unfold smM; rw [if_neg (show ¬ smW m 1 = true from c_18), if_neg (show ¬ smW m 2 = true from c_34), if_neg (show ¬ smW m 3 = true from c_50), if_neg (show ¬ smW m 4 = true from c_66), if_neg (show ¬ smW m 5 = true from c_82), if_pos (show smW m 6 = true from c_98)])
          · refine x_aload_n (pc := 85) dX8_statement_85 0 rfl ?_
            refine x_callV (pc := 86) _ dX8_statement_86 (mp_pt5 hM1 hN1) lkX8_160 rfl rfl rfl rfl (mem_dom0 (by decide) (by decide)) (by decide) (Nat.le_of_ble_eq_true rfl) rfl ?_
            refine x_goto (pc := 89) 113 dX8_statement_89 (by decide) ?_
            exact y_vret (pc := 113) dX8_statement_113 rfl (by unfold smM; rw [if_neg (show ¬ smW m 1 = true from c_18), if_neg (show ¬ smW m 2 = true from c_34), if_neg (show ¬ smW m 3 = true from c_50), if_neg (show ¬ smW m 4 = true from c_66), if_pos (show smW m 5 = true from c_82)])
        · refine x_aload_n (pc := 69) dX8_statement_69 0 rfl ?_
          refine x_callV (pc := 70) _ dX8_statement_70 (mp_pt4 hM1 hN1) lkX8_155 rfl rfl rfl rfl (mem_dom0 (by decide) (by decide)) (by decide) (Nat.le_of_ble_eq_true rfl) rfl ?_
          refine x_goto (pc := 73) 113 dX8_statement_73 (by decide) ?_
          exact y_vret (pc := 113) dX8_statement_113 rfl (by unfold smM; rw [if_neg (show ¬ smW m 1 = true from c_18), if_neg (show ¬ smW m 2 = true from c_34), if_neg (show ¬ smW m 3 = true from c_50), if_pos (show smW m 4 = true from c_66)])
      · refine x_aload_n (pc := 53) dX8_statement_53 0 rfl ?_
        refine x_callV (pc := 54) _ dX8_statement_54 (mp_pt3 hM1 hN1) lkX8_150 rfl rfl rfl rfl (mem_dom0 (by decide) (by decide)) (by decide) (Nat.le_of_ble_eq_true rfl) rfl ?_
        refine x_goto (pc := 57) 113 dX8_statement_57 (by decide) ?_
        exact y_vret (pc := 113) dX8_statement_113 rfl (by unfold smM; rw [if_neg (show ¬ smW m 1 = true from c_18), if_neg (show ¬ smW m 2 = true from c_34), if_pos (show smW m 3 = true from c_50)])
    · refine x_aload_n (pc := 37) dX8_statement_37 0 rfl ?_
      refine x_callV (pc := 38) _ dX8_statement_38 (mp_pt2 hM1 hN1) lkX8_145 rfl rfl rfl rfl (mem_dom0 (by decide) (by decide)) (by decide) (Nat.le_of_ble_eq_true rfl) rfl ?_
      refine x_goto (pc := 41) 113 dX8_statement_41 (by decide) ?_
      exact y_vret (pc := 113) dX8_statement_113 rfl (by unfold smM; rw [if_neg (show ¬ smW m 1 = true from c_18), if_pos (show smW m 2 = true from c_34)])
  · refine x_aload_n (pc := 21) dX8_statement_21 0 rfl ?_
    refine x_callV (pc := 22) _ dX8_statement_22 (mp_pt1 hM1 hN1) lkX8_140 rfl rfl rfl rfl (mem_dom0 (by decide) (by decide)) (by decide) (Nat.le_of_ble_eq_true rfl) rfl ?_
    refine x_goto (pc := 25) 113 dX8_statement_25 (by decide) ?_
    exact y_vret (pc := 113) dX8_statement_113 rfl (by unfold smM; rw [if_pos (show smW m 1 = true from c_18)])

abbrev moP (m : Mem) : Prop := m 41 0 12 = 0 ∧ 0 ≤ hrV (nxM m) ∧ hrV (nxM m) = 59
def moM (m : Mem) : Mem := if m 41 0 12 = 0 then (if 0 ≤ hrV (nxM m) then (if hrV (nxM m) = 59 then up3 (up3 (nxM m) 41 0 10 (nxM m 41 0 10 + 1)) 41 0 14 (nxM m 41 0 14 + 1) else faM (nxM m) 1) else nxM m) else m
theorem mp_more {G : GG} {m : Mem} (hM : MB m)  : Ct G MX8_isMore (rmD 2) [rf G 41 0] (hp (m)) (.inl (some (.int (iI (if moP m then 1 else 0))))) (hp (moM m)) := by
  refine x_entry (by decide +kernel) mwX8_isMore rfl (Nat.le_of_ble_eq_true rfl) ?_
  show X G MX8_isMore (rmD 2) 0 [(0, rf G 41 0)] [] (hp (m)) 0 0 (.inl (some (.int (iI (if moP m then 1 else 0))))) (hp (moM m))
  have b4 := hM.2.2.2.1
  refine x_aload_n (pc := 0) dX8_isMore_0 0 rfl ?_
  refine y_getI (pc := 1) 12 dX8_isMore_1 flX8_76 rfl rfl rfl (by decide) ?_
  refine x_if_ne (pc := 4) 14 dX8_isMore_4 (by decide) (by unfold inI; omega) (fun c_4 => ?_) (fun c_4 => ?_)
  · refine x_iconst (pc := 14) dX8_isMore_14 ?_
    exact y_z0ret (pc := 15) dX8_isMore_15 rfl (fun z => c_4 z.1) (by unfold moM; rw [if_neg c_4])
  · refine x_aload_n (pc := 7) dX8_isMore_7 0 rfl ?_
    refine x_callV (pc := 8) _ dX8_isMore_8 (mp_next hM) lkX8_82 rfl rfl rfl rfl (mem_dom0 (by decide) (by decide)) (by decide) (Nat.le_of_ble_eq_true rfl) rfl ?_
    have hM1 := MB_nx hM
    have hv := hrV_b (nxM m)
    refine x_if_ge (pc := 11) 16 dX8_isMore_11 (by decide) (by unfold inI; omega) (fun c_11 => ?_) (fun c_11 => ?_)
    · refine x_aload_n (pc := 16) dX8_isMore_16 0 rfl ?_
      refine x_callV (pc := 17) _ dX8_isMore_17 (mp_here hM1) lkX8_69 rfl rfl rfl rfl (mem_dom0 (by decide) (by decide)) (by decide) (Nat.le_of_ble_eq_true rfl) rfl ?_
      refine x_bipush (pc := 20) (z := 59) dX8_isMore_20 (by decide) ?_
      refine x_icmp_eq (pc := 22) 32 dX8_isMore_22 (by decide) (by unfold inI; omega) (by unfold inI; omega) (fun c_22 => ?_) (fun c_22 => ?_)
      · refine x_aload_n (pc := 32) dX8_isMore_32 0 rfl ?_
        refine x_dup (pc := 33) dX8_isMore_33 rfl ?_
        refine y_getI (pc := 34) 10 dX8_isMore_34 flX8_66 rfl rfl rfl (by decide) ?_
        refine x_iconst (pc := 37) dX8_isMore_37 ?_
        refine x_iadd (pc := 38) dX8_isMore_38 ?_
        refine y_putI (pc := 39) 10 dX8_isMore_39 fwX8_66 rfl rfl rfl (by decide) ?_
        refine x_aload_n (pc := 42) dX8_isMore_42 0 rfl ?_
        refine x_dup (pc := 43) dX8_isMore_43 rfl ?_
        refine y_getI (pc := 44) 14 dX8_isMore_44 flX8_168 rfl rfl rfl (by decide) ?_
        refine x_iconst (pc := 47) dX8_isMore_47 ?_
        refine x_iadd (pc := 48) dX8_isMore_48 ?_
        refine y_putI (pc := 49) 14 dX8_isMore_49 fwX8_168 rfl rfl rfl (by decide) ?_
        refine x_iconst (pc := 52) dX8_isMore_52 ?_
        exact y_z1ret (pc := 53) dX8_isMore_53 rfl ⟨c_4, c_11, c_22⟩ (by unfold moM; rw [if_pos c_4, if_pos c_11, if_pos c_22]; rfl)
      · refine x_aload_n (pc := 25) dX8_isMore_25 0 rfl ?_
        refine x_iconst (pc := 26) dX8_isMore_26 ?_
        refine x_callV (pc := 27) _ dX8_isMore_27 (mp_fails 1 hM1) lkX8_101 rfl rfl rfl rfl (mem_dom0 (by decide) (by decide)) (by decide) (Nat.le_of_ble_eq_true rfl) rfl ?_
        refine x_iconst (pc := 30) dX8_isMore_30 ?_
        exact y_z0ret (pc := 31) dX8_isMore_31 rfl (fun z => c_22 z.2.2) (by unfold moM; rw [if_pos c_4, if_pos c_11, if_neg c_22])
    · refine x_iconst (pc := 14) dX8_isMore_14 ?_
      exact y_z0ret (pc := 15) dX8_isMore_15 rfl (fun z => c_11 z.2.1) (by unfold moM; rw [if_pos c_4, if_neg c_11])
