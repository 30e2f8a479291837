theorem lp_shine {G : GG} {w : Nat} (hw : w < 5) (hr : Int) (hh : 0 ≤ hr ∧ hr < 24) (m9 : Mem) : ∀ (n : Nat) (m : Mem) (q : Int), BP m (pl w) → BS m (pl w) w → 0 ≤ q → q + n = m 22 (pl w) 2 → m9 = shL m (pl w) w hr q n → X G MX6_shine (rmD 3) 13 [(0, rf G 33 w), (1, .int (iI hr)), (2, .int (iI q))] [] (hp (m)) 0 0 (.inl none) (hp (m9)) := by
  intro n
  induction n with
  | zero =>
    intro m q hP hS h0 h1 hm9
    have n8 := hP.2.2.1
    refine x_iload_n (pc := 13) dX6_shine_13 2 rfl ?_
    refine x_aload_n (pc := 14) dX6_shine_14 0 rfl ?_
    refine y_getR (pc := 15) dX6_shine_15 flX6_18 rfl rfl rfl hw ?_
    refine y_getI (pc := 18) 2 dX6_shine_18 flX6_169 rfl rfl rfl (pl_lt hw) ?_
    refine x_icmp_ge (pc := 21) 64 dX6_shine_21 (by decide) (by unfold inI; omega) (by unfold inI; omega) (fun c_21 => ?_) (fun c_21 => (by exfalso; omega))
    exact y_vret (pc := 64) dX6_shine_64 rfl (by rw [hm9]; rfl)
  | succ n ih =>
    intro m q hP hS h0 h1 hm9
    have n8 := hP.2.2.1
    have b := BS_sh (hr := hr) hP hS h0 (by omega)
    have hpf := BS_pf hP hS h0 (by omega)
    have hrb := roomC_b hpf
    have hcq := (hS.2.1 q h0 (by omega)).1
    have hcap := hpf.2.1
    have hg := hP.2.2.2.2.2.2.2.2.2.1 q hr h0 (by omega) hh.1 hh.2
    refine x_iload_n (pc := 13) dX6_shine_13 2 rfl ?_
    refine x_aload_n (pc := 14) dX6_shine_14 0 rfl ?_
    refine y_getR (pc := 15) dX6_shine_15 flX6_18 rfl rfl rfl hw ?_
    refine y_getI (pc := 18) 2 dX6_shine_18 flX6_169 rfl rfl rfl (pl_lt hw) ?_
    refine x_icmp_ge (pc := 21) 64 dX6_shine_21 (by decide) (by unfold inI; omega) (by unfold inI; omega) (fun c_21 => (by exfalso; omega)) (fun c_21 => ?_)
    refine x_aload_n (pc := 24) dX6_shine_24 0 rfl ?_
    refine y_getR (pc := 25) dX6_shine_25 flX6_18 rfl rfl rfl hw ?_
    refine x_iload_n (pc := 28) dX6_shine_28 2 rfl ?_
    refine x_iload_n (pc := 29) dX6_shine_29 1 rfl ?_
    refine x_callV (pc := 30) _ dX6_shine_30 (ct_gain (pl_lt hw) q hr (by omega) hh) lkX6_172 rfl rfl rfl rfl (mem_dom0 (by decide) (pl_lt hw)) (by decide) (Nat.le_of_ble_eq_true rfl) rfl ?_
    refine x_istore_n (pc := 33) (lv' := [(3, _), (0, _), (1, _), (2, _)]) dX6_shine_33 rfl (by decide) rfl ?_
    refine x_iload_n (pc := 34) dX6_shine_34 0 rfl ?_
    refine x_if_le (pc := 35) 58 dX6_shine_35 (by decide) (by unfold inI; omega) (fun c_35 => ?_) (fun c_35 => ?_)
    · refine x_iinc (pc := 58) (lv' := [(2, _), (3, _), (0, _), (1, _)]) dX6_shine_58 3 rfl (by decide) rfl ?_
      refine x_goto (pc := 61) 13 dX6_shine_61 (by decide) ?_
      have e : shStep m (pl w) w hr q = m := by unfold shStep; rw [if_neg (by omega)]
      exact x_lv [2, 3, 0] rfl (ih _ (q + 1) hP hS (by omega) (by omega) (by rw [hm9]; show shL (shStep m (pl w) w hr q) _ _ _ _ _ = _; rw [e]))
    · refine x_aload_n (pc := 38) dX6_shine_38 1 rfl ?_
      refine y_getR (pc := 39) dX6_shine_39 flX6_12 rfl rfl rfl hw ?_
      refine x_dup (pc := 42) dX6_shine_42 rfl ?_
      refine y_getL (pc := 43) 1 dX6_shine_43 flX6_175 rfl rfl rfl (h13 hw) ?_
      refine x_iload_n (pc := 46) dX6_shine_46 0 rfl ?_
      refine x_i2l (pc := 47) dX6_shine_47 (by unfold inI; omega) ?_
      refine x_ladd (pc := 48) dX6_shine_48 ?_
      refine y_putL (pc := 49) 1 dX6_shine_49 fwX6_175 rfl rfl rfl (h13 hw) ?_
      refine x_aload_n (pc := 52) dX6_shine_52 1 rfl ?_
      refine x_iload_n (pc := 53) dX6_shine_53 3 rfl ?_
      refine x_iload_n (pc := 54) dX6_shine_54 0 rfl ?_
      refine x_callV (pc := 55) _ dX6_shine_55 (ct_get hw q _ (BS_pf (m := up3 m 0 w 1 (m 0 w 1 + m 26 (pl w) (q * 24 + hr))) hP (BS_up0 (by decide) hS) h0 (show q < m 22 (pl w) 2 by omega)) (by exact ⟨by show 0 ≤ m 3 w q + _; omega, by show m 3 w q + _ ≤ _; omega⟩)) lkX6_178 rfl rfl rfl rfl (mem_dom0 (by decide) hw) (by decide) (Nat.le_of_ble_eq_true rfl) rfl ?_
      refine x_iinc (pc := 58) (lv' := [(2, _), (3, _), (0, _), (1, _)]) dX6_shine_58 3 rfl (by decide) rfl ?_
      refine x_goto (pc := 61) 13 dX6_shine_61 (by decide) ?_
      have e : shStep m (pl w) w hr q = getC (up3 m 0 w 1 (m 0 w 1 + m 26 (pl w) (q * 24 + hr))) (pl w) w q (m 26 (pl w) (q * 24 + hr)) := by unfold shStep; rw [if_pos (by omega)]
      exact x_lv [2, 3, 0] rfl (ih _ (q + 1) (e ▸ b.1) (e ▸ b.2) (by omega) (by rw [← e, shStep_k (by decide) (by decide)]; omega) (by rw [hm9]; show shL (shStep m (pl w) w hr q) _ _ _ _ _ = _; rw [e]))
theorem ct_shine {G : GG} {m : Mem} {w : Nat} (hw : w < 5) (hP : BP m (pl w)) (hS : BS m (pl w) w) : Ct G MX6_shine (rmD 3) [rf G 33 w] (hp (m)) (.inl none) (hp (shL m (pl w) w (m 0 w 0 % 24) 0 (m 22 (pl w) 2).toNat)) := by
  refine x_entry (by decide +kernel) mwX6_shine rfl (Nat.le_of_ble_eq_true rfl) ?_
  show X G MX6_shine (rmD 3) 0 [(0, rf G 33 w)] [] (hp (m)) 0 0 (.inl none) (hp (shL m (pl w) w (m 0 w 0 % 24) 0 (m 22 (pl w) 2).toNat))
  have t0 := hS.1
  refine x_aload_n (pc := 0) dX6_shine_0 0 rfl ?_
  refine y_getR (pc := 1) dX6_shine_1 flX6_12 rfl rfl rfl hw ?_
  refine y_getI (pc := 4) 0 dX6_shine_4 flX6_157 rfl rfl rfl (h13 hw) ?_
  refine x_bipush (pc := 7) (z := 24) dX6_shine_7 (by decide) ?_
  refine x_irem (pc := 9) dX6_shine_9 (by omega) (by omega) ?_
  refine x_istore_n (pc := 10) (lv' := [(1, _), (0, _)]) dX6_shine_10 rfl (by decide) rfl ?_
  refine x_iconst (pc := 11) dX6_shine_11 ?_
  refine x_istore_n (pc := 12) (lv' := [(2, _), (1, _), (0, _)]) dX6_shine_12 rfl (by decide) rfl ?_
  have n8 := hP.2.2.1
  exact x_lv [2, 1, 0] rfl (lp_shine hw (m 0 w 0 % 24) (by omega) _ (m 22 (pl w) 2).toNat m 0 hP hS (by omega) (by omega) rfl)
theorem lp_makeTrips {G : GG} {w : Nat} (hw : w < 5) (e9 : Int) (m9 : Mem) : ∀ (n : Nat) (m : Mem) (t : Int), BP m (pl w) → BS m (pl w) w → 0 ≤ t → e9 ≤ m 1 w 0 → t + n = e9 → m9 = trL m (pl w) w t n → X G MX6_makeTrips (rmD 3) 10 [(0, rf G 33 w), (1, .int (iI e9)), (2, rf G 1 w), (3, .int (iI t))] [] (hp (m)) 0 0 (.inl none) (hp (m9)) := by
  intro n
  induction n with
  | zero =>
    intro m t hP hS h0 h2 h1 hm9
    have n16 := hS.2.2.2.1.1
    refine x_iload_n (pc := 10) dX6_makeTrips_10 3 rfl ?_
    refine x_iload_n (pc := 11) dX6_makeTrips_11 1 rfl ?_
    refine x_icmp_ge (pc := 12) 121 dX6_makeTrips_12 (by decide) (by unfold inI; omega) (by unfold inI; omega) (fun c_12 => ?_) (fun c_12 => (by exfalso; omega))
    exact y_vret (pc := 121) dX6_makeTrips_121 rfl (by rw [hm9]; rfl)
  | succ n ih =>
    intro m t hP hS h0 h2 h1 hm9
    have n8 := hP.2.2.1
    have n16 := hS.2.2.2.1.1
    have t0 := hS.1
    have b := BS_tr hP hS h0 (by omega)
    have hb := hS.2.2.2.1.2 t h0 (by omega)
    have hb1 := hb.1
    have hb2 := hb.2.1
    have hb3 := hb.2.2.1
    have hb4 := hb.2.2.2
    have hq := (BS_pf hP hS hb.1.1 hb.1.2).2.2.2.2
    refine x_iload_n (pc := 10) dX6_makeTrips_10 3 rfl ?_
    refine x_iload_n (pc := 11) dX6_makeTrips_11 1 rfl ?_
    refine x_icmp_ge (pc := 12) 121 dX6_makeTrips_12 (by decide) (by unfold inI; omega) (by unfold inI; omega) (fun c_12 => (by exfalso; omega)) (fun c_12 => ?_)
    refine x_aload_n (pc := 15) dX6_makeTrips_15 2 rfl ?_
    refine y_getR (pc := 16) dX6_makeTrips_16 flX6_182 rfl rfl rfl (h13 hw) ?_
    refine x_iload_n (pc := 19) dX6_makeTrips_19 3 rfl ?_
    refine y_iald (pc := 20) dX6_makeTrips_20 rfl (h13 hw) (by omega) ?_
    refine x_aload_n (pc := 21) dX6_makeTrips_21 0 rfl ?_
    refine y_getR (pc := 22) dX6_makeTrips_22 flX6_12 rfl rfl rfl hw ?_
    refine y_getI (pc := 25) 0 dX6_makeTrips_25 flX6_157 rfl rfl rfl (h13 hw) ?_
    refine x_icmp_ne (pc := 28) 115 dX6_makeTrips_28 (by decide) (by unfold inI; omega) (by unfold inI; omega) (fun c_28 => ?_) (fun c_28 => ?_)
    · refine x_iinc (pc := 115) (lv' := [(3, _), (0, _), (1, _), (2, _)]) dX6_makeTrips_115 3 rfl (by decide) rfl ?_
      refine x_goto (pc := 118) 10 dX6_makeTrips_118 (by decide) ?_
      have e : trStep m (pl w) w t = m := by unfold trStep; rw [if_neg (fun z => c_28 z.1)]
      exact x_lv [1, 2, 3, 0] rfl (ih _ (t + 1) (e ▸ b.1) (e ▸ b.2) (by omega) (by rw [← e, trStep_k (by decide) (by decide) (by decide) (by decide)]; omega) (by omega) (by rw [hm9]; show trL (trStep m (pl w) w t) _ _ _ _ = _; rw [e]))
    · refine x_aload_n (pc := 31) dX6_makeTrips_31 2 rfl ?_
      refine y_getR (pc := 32) dX6_makeTrips_32 flX6_184 rfl rfl rfl (h13 hw) ?_
      refine x_iload_n (pc := 35) dX6_makeTrips_35 3 rfl ?_
      refine y_iald (pc := 36) dX6_makeTrips_36 rfl (h13 hw) (by omega) ?_
      refine x_if_eq (pc := 37) 43 dX6_makeTrips_37 (by decide) (by unfold inI; omega) (fun c_37 => ?_) (fun c_37 => ?_)
      · refine x_aload_n (pc := 43) dX6_makeTrips_43 2 rfl ?_
        refine y_getR (pc := 44) dX6_makeTrips_44 flX6_185 rfl rfl rfl (h13 hw) ?_
        refine x_iload_n (pc := 47) dX6_makeTrips_47 3 rfl ?_
        refine y_iald (pc := 48) dX6_makeTrips_48 rfl (h13 hw) (by omega) ?_
        refine x_istore (pc := 49) (lv' := [(4, _), (0, _), (1, _), (2, _), (3, _)]) dX6_makeTrips_49 (by decide) rfl ?_
        refine x_aload_n (pc := 51) dX6_makeTrips_51 1 rfl ?_
        refine y_getR (pc := 52) dX6_makeTrips_52 flX6_12 rfl rfl rfl hw ?_
        refine y_getR (pc := 55) dX6_makeTrips_55 flX6_46 rfl rfl rfl (h13 hw) ?_
        refine x_aload_n (pc := 58) dX6_makeTrips_58 3 rfl ?_
        refine y_getR (pc := 59) dX6_makeTrips_59 flX6_188 rfl rfl rfl (h13 hw) ?_
        refine x_iload_n (pc := 62) dX6_makeTrips_62 4 rfl ?_
        refine y_iald (pc := 63) dX6_makeTrips_63 rfl (h13 hw) (by omega) ?_
        refine y_iald (pc := 64) dX6_makeTrips_64 rfl (h13 hw) (by omega) ?_
        refine x_iload (pc := 65) dX6_makeTrips_65 0 rfl ?_
        refine x_icmp_lt (pc := 67) 108 dX6_makeTrips_67 (by decide) (by unfold inI; omega) (by unfold inI; omega) (fun c_67 => ?_) (fun c_67 => ?_)
        · refine x_aload_n (pc := 108) dX6_makeTrips_108 3 rfl ?_
          refine y_getR (pc := 109) dX6_makeTrips_109 flX6_184 rfl rfl rfl (h13 hw) ?_
          refine x_iload_n (pc := 112) dX6_makeTrips_112 4 rfl ?_
          refine x_iconst (pc := 113) dX6_makeTrips_113 ?_
          refine y_iast (pc := 114) dX6_makeTrips_114 rfl (h13 hw) (by omega) ?_
          refine x_iinc (pc := 115) (lv' := [(3, _), (4, _), (0, _), (1, _), (2, _)]) dX6_makeTrips_115 4 rfl (by decide) rfl ?_
          refine x_goto (pc := 118) 10 dX6_makeTrips_118 (by decide) ?_
          have e : trStep m (pl w) w t = up3 m 14 w t 2 := by unfold trStep; rw [if_pos ⟨c_28, c_37⟩, if_neg (by omega)]
          exact x_lv [2, 3, 4, 0] rfl (ih _ (t + 1) (e ▸ b.1) (e ▸ b.2) (by omega) (by rw [← e, trStep_k (by decide) (by decide) (by decide) (by decide)]; omega) (by omega) (by rw [hm9]; show trL (trStep m (pl w) w t) _ _ _ _ = _; rw [e]))
        · refine x_aload_n (pc := 70) dX6_makeTrips_70 3 rfl ?_
          refine y_getR (pc := 71) dX6_makeTrips_71 flX6_184 rfl rfl rfl (h13 hw) ?_
          refine x_iload_n (pc := 74) dX6_makeTrips_74 4 rfl ?_
          refine x_iconst (pc := 75) dX6_makeTrips_75 ?_
          refine y_iast (pc := 76) dX6_makeTrips_76 rfl (h13 hw) (by omega) ?_
          refine x_aload_n (pc := 77) dX6_makeTrips_77 1 rfl ?_
          refine y_getR (pc := 78) dX6_makeTrips_78 flX6_12 rfl rfl rfl hw ?_
          refine x_dup (pc := 81) dX6_makeTrips_81 rfl ?_
          refine y_getL (pc := 82) 2 dX6_makeTrips_82 flX6_191 rfl rfl rfl (h13 hw) ?_
          refine x_top (v' := .long (lI (m 0 w 2))) rfl ?_
          refine x_iload (pc := 85) dX6_makeTrips_85 0 rfl ?_
          refine x_i2l (pc := 87) dX6_makeTrips_87 (by unfold inI; omega) ?_
          refine x_ladd (pc := 88) dX6_makeTrips_88 ?_
          refine y_putL (pc := 89) 2 dX6_makeTrips_89 fwX6_191 rfl rfl rfl (h13 hw) ?_
          refine x_aload_n (pc := 92) dX6_makeTrips_92 1 rfl ?_
          refine x_aload_n (pc := 93) dX6_makeTrips_93 3 rfl ?_
          refine y_getR (pc := 94) dX6_makeTrips_94 flX6_188 rfl rfl rfl (h13 hw) ?_
          refine x_iload_n (pc := 97) dX6_makeTrips_97 4 rfl ?_
          refine y_iald (pc := 98) dX6_makeTrips_98 rfl (h13 hw) (by omega) ?_
          refine x_iload (pc := 99) dX6_makeTrips_99 0 rfl ?_
          refine x_callV (pc := 101) _ dX6_makeTrips_101 (ct_give hw (m 11 w t) (m 13 w t) (BS_pf (m := up3 (up3 m 14 w t 1) 0 w 2 (m 0 w 2 + m 13 w t)) hP (BS_up0 (by decide) (BS_up14 (by decide) hS)) hb.1.1 hb.1.2) (BP_qf hP hb.1.1 hb.1.2) (by have := hb.2.2.1; exact ⟨by omega, by show m 13 w t ≤ m 3 w (m 11 w t); omega, by omega⟩)) lkX6_194 rfl rfl rfl rfl (mem_dom0 (by decide) hw) (by decide) (Nat.le_of_ble_eq_true rfl) rfl ?_
          refine x_pop (pc := 104) dX6_makeTrips_104 rfl ?_
          refine x_goto (pc := 105) 115 dX6_makeTrips_105 (by decide) ?_
          refine x_iinc (pc := 115) (lv' := [(3, _), (4, _), (0, _), (1, _), (2, _)]) dX6_makeTrips_115 4 rfl (by decide) rfl ?_
          refine x_goto (pc := 118) 10 dX6_makeTrips_118 (by decide) ?_
          have e : trStep m (pl w) w t = giveC (up3 (up3 m 14 w t 1) 0 w 2 (m 0 w 2 + m 13 w t)) (pl w) w (m 11 w t) (m 13 w t) := by unfold trStep; rw [if_pos ⟨c_28, c_37⟩, if_pos (by omega)]
          exact x_lv [2, 3, 4, 0] rfl (ih _ (t + 1) (e ▸ b.1) (e ▸ b.2) (by omega) (by rw [← e, trStep_k (by decide) (by decide) (by decide) (by decide)]; omega) (by omega) (by rw [hm9]; show trL (trStep m (pl w) w t) _ _ _ _ = _; rw [e]))
      · refine x_goto (pc := 40) 115 dX6_makeTrips_40 (by decide) ?_
        refine x_iinc (pc := 115) (lv' := [(3, _), (0, _), (1, _), (2, _)]) dX6_makeTrips_115 3 rfl (by decide) rfl ?_
        refine x_goto (pc := 118) 10 dX6_makeTrips_118 (by decide) ?_
        have e : trStep m (pl w) w t = m := by unfold trStep; rw [if_neg (fun z => c_37 z.2)]
        exact x_lv [1, 2, 3, 0] rfl (ih _ (t + 1) (e ▸ b.1) (e ▸ b.2) (by omega) (by rw [← e, trStep_k (by decide) (by decide) (by decide) (by decide)]; omega) (by omega) (by rw [hm9]; show trL (trStep m (pl w) w t) _ _ _ _ = _; rw [e]))
theorem ct_makeTrips {G : GG} {m : Mem} {w : Nat} (hw : w < 5) (e9 : Int) (he : 0 ≤ e9 ∧ e9 ≤ m 1 w 0) (hP : BP m (pl w)) (hS : BS m (pl w) w) : Ct G MX6_makeTrips (rmD 3) [rf G 33 w, .int (iI e9)] (hp (m)) (.inl none) (hp (trL m (pl w) w 0 e9.toNat)) := by
  refine x_entry (by decide +kernel) mwX6_makeTrips rfl (Nat.le_of_ble_eq_true rfl) ?_
  show X G MX6_makeTrips (rmD 3) 0 [(0, rf G 33 w), (1, .int (iI e9))] [] (hp (m)) 0 0 (.inl none) (hp (trL m (pl w) w 0 e9.toNat))
  refine x_aload_n (pc := 0) dX6_makeTrips_0 0 rfl ?_
  refine y_getR (pc := 1) dX6_makeTrips_1 flX6_12 rfl rfl rfl hw ?_
  refine y_getR (pc := 4) dX6_makeTrips_4 flX6_147 rfl rfl rfl (h13 hw) ?_
  refine x_astore_n (pc := 7) (lv' := [(2, _), (0, _), (1, _)]) dX6_makeTrips_7 rfl (by decide) rfl ?_
  refine x_iconst (pc := 8) dX6_makeTrips_8 ?_
  refine x_istore_n (pc := 9) (lv' := [(3, _), (2, _), (0, _), (1, _)]) dX6_makeTrips_9 rfl (by decide) rfl ?_
  exact x_lv [2, 3, 1, 0] rfl (lp_makeTrips hw e9 _ e9.toNat m 0 hP hS (by omega) (by omega) (by omega) rfl)
