theorem mq_isDueNow {G : GG} {m : Mem} {N : Int → Int} {c9 : Mem} {p s : Nat} (i : Int) (hP : BP c9 p) (hB : BS c9 p s) (hR : RP c9 p N) (hS : RS c9 p s N) (h0 : 0 ≤ i) (h1 : i < c9 1 s 0) : Ct G MX8_isDueNow (rmD 1) [rf G 41 0, .int (iI i)] (hp (sr m N)) (.inl (some (.int (iI (if N (206 + 4 * i + 1) = N 2 ∧ N (206 + 4 * i + 3) = 0 then 1 else 0))))) (hp (sr m N)) := by
  refine x_entry (by decide +kernel) mwX8_isDueNow rfl (Nat.le_of_ble_eq_true rfl) ?_
  show X G MX8_isDueNow (rmD 1) 0 [(0, rf G 41 0), (1, .int (iI i))] [] (hp (sr m N)) 0 0 (.inl (some (.int (iI (if N (206 + 4 * i + 1) = N 2 ∧ N (206 + 4 * i + 3) = 0 then 1 else 0))))) (hp (sr m N))
  have n8 := hP.2.2.1
  have n16 := hB.2.2.2.1.1
  have t0 := hB.1
  have ht := hS.2.2.2.2.1 i h0 h1
  have hb := hB.2.2.2.1.2 i h0 h1
  have k1 := hb.1
  have k2 := hb.2.1
  have k3 := hb.2.2.1
  have k4 := hb.2.2.2
  have e0 := ht.1
  have e1 := ht.2.1
  have e2 := ht.2.2.1
  have e3 := ht.2.2.2
  have et := hS.1.1
  refine x_aload_n (pc := 0) dX8_isDueNow_0 0 rfl ?_
  refine x_iload_n (pc := 1) dX8_isDueNow_1 1 rfl ?_
  refine x_iconst (pc := 2) dX8_isDueNow_2 ?_
  refine x_callV (pc := 3) _ dX8_isDueNow_3 (mq_ofTrip (i) 1 (by omega)) lkX8_248 rfl rfl rfl rfl (mem_dom0 (by decide) (by decide)) (by decide) (Nat.le_of_ble_eq_true rfl) rfl ?_
  refine x_aload_n (pc := 6) dX8_isDueNow_6 0 rfl ?_
  refine y_getR (pc := 7) dX8_isDueNow_7 flX8_9 rfl rfl rfl (by decide) ?_
  refine x_iconst (pc := 10) dX8_isDueNow_10 ?_
  refine y_nald (pc := 11) dX8_isDueNow_11 (by omega) ?_
  refine x_icmp_ne (pc := 12) 28 dX8_isDueNow_12 (by decide) (by unfold inI; omega) (by unfold inI; omega) (fun c_12 => ?_) (fun c_12 => ?_)
  · refine x_iconst (pc := 28) dX8_isDueNow_28 ?_
    exact y_z0ret (pc := 29) dX8_isDueNow_29 rfl (by omega) rfl
  · refine x_aload_n (pc := 15) dX8_isDueNow_15 0 rfl ?_
    refine x_iload_n (pc := 16) dX8_isDueNow_16 1 rfl ?_
    refine x_iconst (pc := 17) dX8_isDueNow_17 ?_
    refine x_callV (pc := 18) _ dX8_isDueNow_18 (mq_ofTrip (i) 3 (by omega)) lkX8_248 rfl rfl rfl rfl (mem_dom0 (by decide) (by decide)) (by decide) (Nat.le_of_ble_eq_true rfl) rfl ?_
    refine x_if_ne (pc := 21) 28 dX8_isDueNow_21 (by decide) (by unfold inI; omega) (fun c_21 => ?_) (fun c_21 => ?_)
    · refine x_iconst (pc := 28) dX8_isDueNow_28 ?_
      exact y_z0ret (pc := 29) dX8_isDueNow_29 rfl (by omega) rfl
    · refine x_iconst (pc := 24) dX8_isDueNow_24 ?_
      refine x_goto (pc := 25) 29 dX8_isDueNow_25 (by decide) ?_
      exact y_z1ret (pc := 29) dX8_isDueNow_29 rfl (by omega) rfl

theorem mq_travels {G : GG} {m : Mem} {N : Int → Int} {c9 : Mem} {p s : Nat} (i : Int) (hP : BP c9 p) (hB : BS c9 p s) (hR : RP c9 p N) (hS : RS c9 p s N) (h0 : 0 ≤ i) (h1 : i < c9 1 s 0) (hz : c9 14 s i = 0) : Ct G MX8_travels (rmD 5) [rf G 41 0, .int (iI i)] (hp (sr m N)) (.inl none) (hp (sr m (trN3 N i))) := by
  refine x_entry (by decide +kernel) mwX8_travels rfl (Nat.le_of_ble_eq_true rfl) ?_
  show X G MX8_travels (rmD 5) 0 [(0, rf G 41 0), (1, .int (iI i))] [] (hp (sr m N)) 0 0 (.inl none) (hp (sr m (trN3 N i)))
  have n8 := hP.2.2.1
  have n16 := hB.2.2.2.1.1
  have t0 := hB.1
  have ht := hS.2.2.2.2.1 i h0 h1
  have hb := hB.2.2.2.1.2 i h0 h1
  have k1 := hb.1
  have k2 := hb.2.1
  have k3 := hb.2.2.1
  have k4 := hb.2.2.2
  have e0 := ht.1
  have e1 := ht.2.1
  have e2 := ht.2.2.1
  have e3 := ht.2.2.2
  have et := hS.1.1
  have q0 := hS.2.1 _ k1.1 k1.2
  have q1 := q0.1
  have qb := (BS_pf hP hB k1.1 k1.2).2.2.2.2
  have eP : N (30 + 7 * N (206 + 4 * i + 0) + 1) = c9 3 s (c9 11 s i) := by rw [e0]; exact q1
  have hk1 : trS N i = 1 → RP (up3 c9 14 s i 1) p (trN2 N i) ∧ RS (up3 c9 14 s i 1) p s (trN2 N i) := fun e => by
    have u := R_mark (z := 1) hP hB hR hS h0 h1 (Or.inl rfl) hz
    unfold trN2 trN1; rw [e]; exact u
  refine x_aload_n (pc := 0) dX8_travels_0 0 rfl ?_
  refine x_iload_n (pc := 1) dX8_travels_1 1 rfl ?_
  refine x_iconst (pc := 2) dX8_travels_2 ?_
  refine x_callV (pc := 3) _ dX8_travels_3 (mq_ofTrip (i) 0 (by omega)) lkX8_248 rfl rfl rfl rfl (mem_dom0 (by decide) (by decide)) (by decide) (Nat.le_of_ble_eq_true rfl) rfl ?_
  refine x_istore_n (pc := 6) (lv' := [(2, _), (0, _), (1, _)]) dX8_travels_6 rfl (by decide) rfl ?_
  refine x_aload_n (pc := 7) dX8_travels_7 1 rfl ?_
  refine x_iload_n (pc := 8) dX8_travels_8 2 rfl ?_
  refine x_iconst (pc := 9) dX8_travels_9 ?_
  refine x_callV (pc := 10) _ dX8_travels_10 (mq_ofTrip (i) 2 (by omega)) lkX8_248 rfl rfl rfl rfl (mem_dom0 (by decide) (by decide)) (by decide) (Nat.le_of_ble_eq_true rfl) rfl ?_
  refine x_istore_n (pc := 13) (lv' := [(3, _), (2, _), (0, _), (1, _)]) dX8_travels_13 rfl (by decide) rfl ?_
  refine x_aload_n (pc := 14) dX8_travels_14 2 rfl ?_
  refine x_iload_n (pc := 15) dX8_travels_15 1 rfl ?_
  refine x_iconst (pc := 16) dX8_travels_16 ?_
  refine x_callV (pc := 17) _ dX8_travels_17 (mq_ofPack (N (206 + 4 * i + 0)) 1 (by omega)) lkX8_189 rfl rfl rfl rfl (mem_dom0 (by decide) (by decide)) (by decide) (Nat.le_of_ble_eq_true rfl) rfl ?_
  refine x_iload_n (pc := 20) dX8_travels_20 0 rfl ?_
  refine x_icmp_lt (pc := 21) 28 dX8_travels_21 (by decide) (by unfold inI; omega) (by unfold inI; omega) (fun c_21 => ?_) (fun c_21 => ?_)
  · refine x_iconst (pc := 28) dX8_travels_28 ?_
    refine x_istore (pc := 29) (lv' := [(4, _), (3, _), (2, _), (0, _), (1, _)]) dX8_travels_29 (by decide) rfl ?_
    refine x_aload_n (pc := 31) dX8_travels_31 3 rfl ?_
    refine y_getR (pc := 32) dX8_travels_32 flX8_9 rfl rfl rfl (by decide) ?_
    refine x_sipush (pc := 35) (z := 206) dX8_travels_35 (by decide) ?_
    refine x_iconst (pc := 38) dX8_travels_38 ?_
    refine x_iload_n (pc := 39) dX8_travels_39 4 rfl ?_
    refine x_imul (pc := 40) dX8_travels_40 ?_
    refine x_iadd (pc := 41) dX8_travels_41 ?_
    refine x_iconst (pc := 42) dX8_travels_42 ?_
    refine x_iadd (pc := 43) dX8_travels_43 ?_
    refine x_iload (pc := 44) dX8_travels_44 0 rfl ?_
    refine x_if_eq (pc := 46) 53 dX8_travels_46 (by decide) (by unfold inI; omega) (fun c_46 => ?_) (fun c_46 => (by exfalso; omega))
    refine x_iconst (pc := 53) dX8_travels_53 ?_
    refine y_nast (pc := 54) dX8_travels_54 (by omega) ?_
    have es : trS N i = 2 := by unfold trS; rw [if_neg (by omega)]
    refine x_nil (m' := sr m (trN1 N i)) (by unfold trN1; rw [es]) ?_
    refine x_aload_n (pc := 55) dX8_travels_55 3 rfl ?_
    refine x_iload_n (pc := 56) dX8_travels_56 2 rfl ?_
    refine x_iload (pc := 57) dX8_travels_57 0 rfl ?_
    refine x_if_eq (pc := 59) 66 dX8_travels_59 (by decide) (by unfold inI; omega) (fun c_59 => ?_) (fun c_59 => (by exfalso; omega))
    refine x_bipush (pc := 66) (z := 6) dX8_travels_66 (by decide) ?_
    refine x_iconst (pc := 68) dX8_travels_68 ?_
    refine x_callV (pc := 69) _ dX8_travels_69 (mq_growsPack (N (206 + 4 * i + 0)) 6 1 (by omega)) lkX8_209 rfl rfl rfl rfl (mem_dom0 (by decide) (by decide)) (by decide) (Nat.le_of_ble_eq_true rfl) rfl ?_
    refine x_nil (m' := sr m (trN2 N i)) (by unfold trN2; rw [es]; rfl) ?_
    refine x_iload (pc := 72) dX8_travels_72 0 rfl ?_
    refine x_if_eq (pc := 74) 94 dX8_travels_74 (by decide) (by unfold inI; omega) (fun c_74 => ?_) (fun c_74 => (by exfalso; omega))
    exact y_vret (pc := 94) dX8_travels_94 rfl (by unfold trN3; rw [if_neg (by omega)])
  · refine x_iconst (pc := 24) dX8_travels_24 ?_
    refine x_goto (pc := 25) 29 dX8_travels_25 (by decide) ?_
    refine x_istore (pc := 29) (lv' := [(4, _), (3, _), (2, _), (0, _), (1, _)]) dX8_travels_29 (by decide) rfl ?_
    refine x_aload_n (pc := 31) dX8_travels_31 3 rfl ?_
    refine y_getR (pc := 32) dX8_travels_32 flX8_9 rfl rfl rfl (by decide) ?_
    refine x_sipush (pc := 35) (z := 206) dX8_travels_35 (by decide) ?_
    refine x_iconst (pc := 38) dX8_travels_38 ?_
    refine x_iload_n (pc := 39) dX8_travels_39 4 rfl ?_
    refine x_imul (pc := 40) dX8_travels_40 ?_
    refine x_iadd (pc := 41) dX8_travels_41 ?_
    refine x_iconst (pc := 42) dX8_travels_42 ?_
    refine x_iadd (pc := 43) dX8_travels_43 ?_
    refine x_iload (pc := 44) dX8_travels_44 0 rfl ?_
    refine x_if_eq (pc := 46) 53 dX8_travels_46 (by decide) (by unfold inI; omega) (fun c_46 => (by exfalso; omega)) (fun c_46 => ?_)
    refine x_iconst (pc := 49) dX8_travels_49 ?_
    refine x_goto (pc := 50) 54 dX8_travels_50 (by decide) ?_
    refine y_nast (pc := 54) dX8_travels_54 (by omega) ?_
    have es : trS N i = 1 := by unfold trS; rw [if_pos (by omega)]
    refine x_nil (m' := sr m (trN1 N i)) (by unfold trN1; rw [es]) ?_
    have rr := hk1 es
    refine x_aload_n (pc := 55) dX8_travels_55 3 rfl ?_
    refine x_iload_n (pc := 56) dX8_travels_56 2 rfl ?_
    refine x_iload (pc := 57) dX8_travels_57 0 rfl ?_
    refine x_if_eq (pc := 59) 66 dX8_travels_59 (by decide) (by unfold inI; omega) (fun c_59 => (by exfalso; omega)) (fun c_59 => ?_)
    refine x_iconst (pc := 62) dX8_travels_62 ?_
    refine x_goto (pc := 63) 68 dX8_travels_63 (by decide) ?_
    refine x_iconst (pc := 68) dX8_travels_68 ?_
    refine x_callV (pc := 69) _ dX8_travels_69 (mq_growsPack (N (206 + 4 * i + 0)) 5 1 (by omega)) lkX8_209 rfl rfl rfl rfl (mem_dom0 (by decide) (by decide)) (by decide) (Nat.le_of_ble_eq_true rfl) rfl ?_
    refine x_nil (m' := sr m (trN2 N i)) (by unfold trN2; rw [es]; rfl) ?_
    have v := R_up11 (m := up3 c9 14 s i 1) (z := c9 0 s 2 + c9 13 s i) (z' := trN2 N i 11 + N (206 + 4 * i + 2)) (by rw [rr.2.1.2.2.1, e2]; rfl) hP (BS_up14 (by decide) hB) rr.1 rr.2
    have B9 : BS (up3 (up3 c9 14 s i 1) 0 s 2 (c9 0 s 2 + c9 13 s i)) p s := BS_up0 (by decide) (BS_up14 (by decide) hB)
    have P9 : BP (up3 (up3 c9 14 s i 1) 0 s 2 (c9 0 s 2 + c9 13 s i)) p := hP
    have w1 := PN_of P9 B9 v.1 v.2 k1.1 k1.2
    have w2 := QN_of P9 B9 v.1 v.2 k1.1 k1.2
    have w3 := (v.2.2.1 _ k1.1 k1.2).1
    rw [← e0] at w1 w2 w3
    have w4 : up3 (up3 c9 14 s i 1) 0 s 2 (c9 0 s 2 + c9 13 s i) 3 s (N (206 + 4 * i + 0)) = c9 3 s (N (206 + 4 * i + 0)) := rfl
    have w5 : c9 3 s (N (206 + 4 * i + 0)) = c9 3 s (c9 11 s i) := by rw [e0]
    refine x_iload (pc := 72) dX8_travels_72 0 rfl ?_
    refine x_if_eq (pc := 74) 94 dX8_travels_74 (by decide) (by unfold inI; omega) (fun c_74 => (by exfalso; omega)) (fun c_74 => ?_)
    refine x_aload_n (pc := 77) dX8_travels_77 3 rfl ?_
    refine y_getR (pc := 78) dX8_travels_78 flX8_9 rfl rfl rfl (by decide) ?_
    refine x_bipush (pc := 81) (z := 11) dX8_travels_81 (by decide) ?_
    refine x_dup2 (pc := 83) dX8_travels_83 rfl rfl ?_
    refine y_nald (pc := 84) dX8_travels_84 (by omega) ?_
    refine x_iload_n (pc := 85) dX8_travels_85 1 rfl ?_
    refine x_iadd (pc := 86) dX8_travels_86 ?_
    refine y_nast (pc := 87) dX8_travels_87 (by omega) ?_
    refine x_aload_n (pc := 88) dX8_travels_88 3 rfl ?_
    refine x_iload_n (pc := 89) dX8_travels_89 2 rfl ?_
    refine x_iload_n (pc := 90) dX8_travels_90 1 rfl ?_
    refine x_callV (pc := 91) _ dX8_travels_91 (mq_gives (N (206 + 4 * i + 0)) (N (206 + 4 * i + 2)) w1 w2 (by rw [w3, w4, w5]; omega)) lkX8_305 rfl rfl rfl rfl (mem_dom0 (by decide) (by decide)) (by decide) (Nat.le_of_ble_eq_true rfl) rfl ?_
    exact y_vret (pc := 94) dX8_travels_94 rfl (by unfold trN3; rw [if_pos (by omega)])

theorem lp_mshine {G : GG} {m : Mem} {p s : Nat} (hr : Int) (hh : 0 ≤ hr ∧ hr < 24) (N9 : Int → Int) : ∀ (n : Nat) (c9 : Mem) (N : Int → Int) (q : Int), BP c9 p → BS c9 p s → RP c9 p N → RS c9 p s N → c9 0 s 0 % 24 = hr → 0 ≤ q → q + n = c9 22 p 2 → N9 = shNL N hr q n → X G MX8_shine (rmD 4) 2 [(0, rf G 41 0), (1, .int (iI q))] [] (hp (sr m N)) 0 0 (.inl none) (hp (sr m N9)) := by
  intro n
  induction n with
  | zero =>
    intro c9 N q hP hB hR hS ht h0 h1 h9
    have n8 := hP.2.2.1
    have np := hR.1.2.2.1
    refine x_iload_n (pc := 2) dX8_shine_2 1 rfl ?_
    refine x_aload_n (pc := 3) dX8_shine_3 0 rfl ?_
    refine y_getR (pc := 4) dX8_shine_4 flX8_9 rfl rfl rfl (by decide) ?_
    refine x_iconst (pc := 7) dX8_shine_7 ?_
    refine y_nald (pc := 8) dX8_shine_8 (by omega) ?_
    refine x_icmp_ge (pc := 9) 50 dX8_shine_9 (by decide) (by unfold inI; omega) (by unfold inI; omega) (fun c_9 => ?_) (fun c_9 => (by exfalso; omega))
    exact y_vret (pc := 50) dX8_shine_50 rfl (by rw [h9]; rfl)
  | succ n ih =>
    intro c9 N q hP hB hR hS ht h0 h1 h9
    have n8 := hP.2.2.1
    have np := hR.1.2.2.1
    have t0 := hB.1
    have et := hS.1.1
    have hq1 : q < c9 22 p 2 := by omega
    have b := BS_sh (hr := hr) hP hB h0 hq1
    have r := R_sh (hr := hr) hP hB hR hS h0 hq1 hh
    have g := hR.2.2.2.1 q hr h0 hq1 hh.1 hh.2
    have gb := hP.2.2.2.2.2.2.2.2.2.1 q hr h0 hq1 hh.1 hh.2
    have u := R_up10 (m := c9) (s := s) (N := N) (z := c9 0 s 1 + gainN N q hr) (z' := N 10 + gainN N q hr) (by rw [hS.1.2.1]) hP hB hR hS
    have pn : PN (upN N 10 (N 10 + gainN N q hr)) q := PN_of (m := up3 c9 0 s 1 (c9 0 s 1 + gainN N q hr)) hP (BS_up0 (by decide) hB) u.1 u.2 h0 hq1
    have qc : upN N 10 (N 10 + gainN N q hr) (30 + 7 * q + 1) = up3 c9 0 s 1 (c9 0 s 1 + gainN N q hr) 3 s q := (u.2.2.1 q h0 hq1).1
    have upc : up3 c9 0 s 1 (c9 0 s 1 + gainN N q hr) 3 s q = c9 3 s q := rfl
    have cq := (hB.2.1 q h0 hq1).1
    have rb := roomC_b (BS_pf hP hB h0 hq1)
    have cp := (BS_pf hP hB h0 hq1).2.1
    refine x_iload_n (pc := 2) dX8_shine_2 1 rfl ?_
    refine x_aload_n (pc := 3) dX8_shine_3 0 rfl ?_
    refine y_getR (pc := 4) dX8_shine_4 flX8_9 rfl rfl rfl (by decide) ?_
    refine x_iconst (pc := 7) dX8_shine_7 ?_
    refine y_nald (pc := 8) dX8_shine_8 (by omega) ?_
    refine x_icmp_ge (pc := 9) 50 dX8_shine_9 (by decide) (by unfold inI; omega) (by unfold inI; omega) (fun c_9 => (by exfalso; omega)) (fun c_9 => ?_)
    refine x_aload_n (pc := 12) dX8_shine_12 0 rfl ?_
    refine x_iload_n (pc := 13) dX8_shine_13 1 rfl ?_
    refine x_aload_n (pc := 14) dX8_shine_14 0 rfl ?_
    refine y_getR (pc := 15) dX8_shine_15 flX8_9 rfl rfl rfl (by decide) ?_
    refine x_iconst (pc := 18) dX8_shine_18 ?_
    refine y_nald (pc := 19) dX8_shine_19 (by omega) ?_
    refine x_bipush (pc := 20) (z := 24) dX8_shine_20 (by decide) ?_
    refine x_irem (pc := 22) dX8_shine_22 (by omega) (by omega) ?_
    refine x_top (v' := .int (iI (hr))) (by rw [et, ht]) ?_
    refine x_callV (pc := 23) _ dX8_shine_23 (mq_gainOf q hr (by unfold inI; omega) hh hR.2.2.2.2.2.2) lkX8_242 rfl rfl rfl rfl (mem_dom0 (by decide) (by decide)) (by decide) (Nat.le_of_ble_eq_true rfl) rfl ?_
    refine x_istore_n (pc := 26) (lv' := [(2, _), (0, _), (1, _)]) dX8_shine_26 rfl (by decide) rfl ?_
    refine x_aload_n (pc := 27) dX8_shine_27 1 rfl ?_
    refine y_getR (pc := 28) dX8_shine_28 flX8_9 rfl rfl rfl (by decide) ?_
    refine x_bipush (pc := 31) (z := 10) dX8_shine_31 (by decide) ?_
    refine x_dup2 (pc := 33) dX8_shine_33 rfl rfl ?_
    refine y_nald (pc := 34) dX8_shine_34 (by omega) ?_
    refine x_iload_n (pc := 35) dX8_shine_35 0 rfl ?_
    refine x_iadd (pc := 36) dX8_shine_36 ?_
    refine y_nast (pc := 37) dX8_shine_37 (by omega) ?_
    refine x_aload_n (pc := 38) dX8_shine_38 1 rfl ?_
    refine x_iload_n (pc := 39) dX8_shine_39 2 rfl ?_
    refine x_iload_n (pc := 40) dX8_shine_40 0 rfl ?_
    refine x_callV (pc := 41) _ dX8_shine_41 (mq_gets q _ pn (by rw [qc, upc]; omega)) lkX8_301 rfl rfl rfl rfl (mem_dom0 (by decide) (by decide)) (by decide) (Nat.le_of_ble_eq_true rfl) rfl ?_
    refine x_iinc (pc := 44) (lv' := [(1, _), (2, _), (0, _)]) dX8_shine_44 2 rfl (by decide) rfl ?_
    refine x_goto (pc := 47) 2 dX8_shine_47 (by decide) ?_
    exact x_lv [2, 0] rfl (ih _ _ (q + 1) b.1 b.2 r.1 r.2 (by rw [shStep_t]; exact ht) (by omega) (by rw [shStep_k (by decide) (by decide)]; omega) (by rw [h9]; rfl))

theorem mq_shine {G : GG} {m : Mem} {N : Int → Int} {c9 : Mem} {p s : Nat} (hP : BP c9 p) (hB : BS c9 p s) (hR : RP c9 p N) (hS : RS c9 p s N) : Ct G MX8_shine (rmD 4) [rf G 41 0] (hp (sr m N)) (.inl none) (hp (sr m (shNL N (N 2 % 24) 0 (N 3).toNat))) := by
  refine x_entry (by decide +kernel) mwX8_shine rfl (Nat.le_of_ble_eq_true rfl) ?_
  show X G MX8_shine (rmD 4) 0 [(0, rf G 41 0)] [] (hp (sr m N)) 0 0 (.inl none) (hp (sr m (shNL N (N 2 % 24) 0 (N 3).toNat)))
  refine x_iconst (pc := 0) dX8_shine_0 ?_
  refine x_istore_n (pc := 1) (lv' := [(1, _), (0, _)]) dX8_shine_1 rfl (by decide) rfl ?_
  have n8 := hP.2.2.1
  have np := hR.1.2.2.1
  have t0 := hB.1
  have et := hS.1.1
  exact x_lv [1, 0] rfl (lp_mshine (N 2 % 24) (by omega) _ (N 3).toNat c9 N 0 hP hB hR hS (by rw [et]) (by omega) (by omega) rfl)

def fin1 (N : Int → Int) : Int → Int := upN N 2 (N 2 + 1)
def fin2 (N : Int → Int) : Int → Int := fin1 (lnNL N 0 (N 9).toNat)

theorem lp_mp3 {G : GG} {m : Mem} {p s : Nat} (N9 : Int → Int) : ∀ (n : Nat) (c9 : Mem) (N : Int → Int) (l : Int), BP c9 p → BS c9 p s → SN c9 p s → RP c9 p N → RS c9 p s N → R8 c9 p s N → 0 ≤ l → l + n = c9 2 s 0 → N9 = fin1 (lnNL N l n) → X G MX8_passes (rmD 8) 71 [(0, rf G 41 0), (1, .int (iI l))] [] (hp (sr m N)) 0 0 (.inl none) (hp (sr m N9)) := by
  intro n
  induction n with
  | zero =>
    intro c9 N l hP hB hN hR hS h8 h0 h1 h9
    have n16 := hB.2.2.2.2.1.1
    have nl := hS.1.2.2.2.2.2.2
    refine x_iload_n (pc := 71) dX8_passes_71 1 rfl ?_
    refine x_aload_n (pc := 72) dX8_passes_72 0 rfl ?_
    refine y_getR (pc := 73) dX8_passes_73 flX8_9 rfl rfl rfl (by decide) ?_
    refine x_bipush (pc := 76) (z := 9) dX8_passes_76 (by decide) ?_
    refine y_nald (pc := 78) dX8_passes_78 (by omega) ?_
    refine x_icmp_ge (pc := 79) 93 dX8_passes_79 (by decide) (by unfold inI; omega) (by unfold inI; omega) (fun c_79 => ?_) (fun c_79 => (by exfalso; omega))
    refine x_aload_n (pc := 93) dX8_passes_93 0 rfl ?_
    refine y_getR (pc := 94) dX8_passes_94 flX8_9 rfl rfl rfl (by decide) ?_
    refine x_iconst (pc := 97) dX8_passes_97 ?_
    refine x_dup2 (pc := 98) dX8_passes_98 rfl rfl ?_
    refine y_nald (pc := 99) dX8_passes_99 (by omega) ?_
    refine x_iconst (pc := 100) dX8_passes_100 ?_
    refine x_iadd (pc := 101) dX8_passes_101 ?_
    refine y_nast (pc := 102) dX8_passes_102 (by omega) ?_
    exact y_vret (pc := 103) dX8_passes_103 rfl (by rw [h9]; rfl)
  | succ n ih =>
    intro c9 N l hP hB hN hR hS h8 h0 h1 h9
    have n16 := hB.2.2.2.2.1.1
    have nl := hS.1.2.2.2.2.2.2
    have b := ln_f hP hB hN h0 (by omega)
    have r := R_ln hP hB hN hR hS h8 h0 (by omega)
    refine x_iload_n (pc := 71) dX8_passes_71 1 rfl ?_
    refine x_aload_n (pc := 72) dX8_passes_72 0 rfl ?_
    refine y_getR (pc := 73) dX8_passes_73 flX8_9 rfl rfl rfl (by decide) ?_
    refine x_bipush (pc := 76) (z := 9) dX8_passes_76 (by decide) ?_
    refine y_nald (pc := 78) dX8_passes_78 (by omega) ?_
    refine x_icmp_ge (pc := 79) 93 dX8_passes_79 (by decide) (by unfold inI; omega) (by unfold inI; omega) (fun c_79 => (by exfalso; omega)) (fun c_79 => ?_)
    refine x_aload_n (pc := 82) dX8_passes_82 0 rfl ?_
    refine x_iload_n (pc := 83) dX8_passes_83 1 rfl ?_
    refine x_callV (pc := 84) _ dX8_passes_84 (mq_goesOn l hP hB hR hS hN h8 h0 (by omega)) lkX8_336 rfl rfl rfl rfl (mem_dom0 (by decide) (by decide)) (by decide) (Nat.le_of_ble_eq_true rfl) rfl ?_
    refine x_iinc (pc := 87) (lv' := [(1, _), (0, _)]) dX8_passes_87 1 rfl (by decide) rfl ?_
    refine x_goto (pc := 90) 71 dX8_passes_90 (by decide) ?_
    exact x_lv [1, 0] rfl (ih _ _ (l + 1) b.1 b.2.1 b.2.2 r.1 r.2.1 r.2.2 (by omega) (by rw [lnStep_k (by omega)]; omega) (by rw [h9]; rfl))

theorem lp_mp2 {G : GG} {m : Mem} (N9 N8 : Int → Int) (k5 : Int) (h5 : 0 ≤ k5 ∧ k5 ≤ 12) (K : ∀ c : Int, X G MX8_passes (rmD 8) 69 [(0, rf G 41 0), (1, .int (iI c))] [] (hp (sr m N9)) 0 0 (.inl none) (hp (sr m N8))) : ∀ (n : Nat) (N : Int → Int) (c : Int), N 5 = k5 → 0 ≤ c → c + n = k5 → N9 = clNL N c n → X G MX8_passes (rmD 8) 38 [(0, rf G 41 0), (1, .int (iI c))] [] (hp (sr m N)) 0 0 (.inl none) (hp (sr m N8)) := by
  intro n
  induction n with
  | zero =>
    intro N c e5 h0 h1 h9
    refine x_iload_n (pc := 38) dX8_passes_38 1 rfl ?_
    refine x_aload_n (pc := 39) dX8_passes_39 0 rfl ?_
    refine y_getR (pc := 40) dX8_passes_40 flX8_9 rfl rfl rfl (by decide) ?_
    refine x_iconst (pc := 43) dX8_passes_43 ?_
    refine y_nald (pc := 44) dX8_passes_44 (by omega) ?_
    refine x_icmp_ge (pc := 45) 69 dX8_passes_45 (by decide) (by unfold inI; omega) (by unfold inI; omega) (fun c_45 => ?_) (fun c_45 => (by exfalso; omega))
    have e : N9 = N := h9
    subst e
    exact x_lv [0, 1] rfl (K c)
  | succ n ih =>
    intro N c e5 h0 h1 h9
    refine x_iload_n (pc := 38) dX8_passes_38 1 rfl ?_
    refine x_aload_n (pc := 39) dX8_passes_39 0 rfl ?_
    refine y_getR (pc := 40) dX8_passes_40 flX8_9 rfl rfl rfl (by decide) ?_
    refine x_iconst (pc := 43) dX8_passes_43 ?_
    refine y_nald (pc := 44) dX8_passes_44 (by omega) ?_
    refine x_icmp_ge (pc := 45) 69 dX8_passes_45 (by decide) (by unfold inI; omega) (by unfold inI; omega) (fun c_45 => (by exfalso; omega)) (fun c_45 => ?_)
    refine x_aload_n (pc := 48) dX8_passes_48 0 rfl ?_
    refine y_getR (pc := 49) dX8_passes_49 flX8_9 rfl rfl rfl (by decide) ?_
    refine x_bipush (pc := 52) (z := 86) dX8_passes_52 (by decide) ?_
    refine x_bipush (pc := 54) (z := 6) dX8_passes_54 (by decide) ?_
    refine x_iload_n (pc := 56) dX8_passes_56 1 rfl ?_
    refine x_imul (pc := 57) dX8_passes_57 ?_
    refine x_iadd (pc := 58) dX8_passes_58 ?_
    refine x_iconst (pc := 59) dX8_passes_59 ?_
    refine x_iadd (pc := 60) dX8_passes_60 ?_
    refine x_iconst (pc := 61) dX8_passes_61 ?_
    refine y_nast (pc := 62) dX8_passes_62 (by omega) ?_
    refine x_iinc (pc := 63) (lv' := [(1, _), (0, _)]) dX8_passes_63 1 rfl (by decide) rfl ?_
    refine x_goto (pc := 66) 38 dX8_passes_66 (by decide) ?_
    exact x_lv [1, 0] rfl (ih _ (c + 1) (by rw [upN_off (by omega)]; exact e5) (by omega) (by omega) (by rw [h9]; rfl))

theorem lp_mp1 {G : GG} {m : Mem} {p s : Nat} (N9 N8 : Int → Int) (K : ∀ i : Int, X G MX8_passes (rmD 8) 36 [(0, rf G 41 0), (1, .int (iI i))] [] (hp (sr m N9)) 0 0 (.inl none) (hp (sr m N8))) : ∀ (n : Nat) (c9 : Mem) (N : Int → Int) (i : Int), BP c9 p → BS c9 p s → RP c9 p N → RS c9 p s N → 0 ≤ i → i + n = c9 1 s 0 → N9 = trNL N i n → X G MX8_passes (rmD 8) 6 [(0, rf G 41 0), (1, .int (iI i))] [] (hp (sr m N)) 0 0 (.inl none) (hp (sr m N8)) := by
  intro n
  induction n with
  | zero =>
    intro c9 N i hP hB hR hS h0 h1 h9
    have n16 := hB.2.2.2.1.1
    have nt := hS.1.2.2.2.2.2.1
    refine x_iload_n (pc := 6) dX8_passes_6 1 rfl ?_
    refine x_aload_n (pc := 7) dX8_passes_7 0 rfl ?_
    refine y_getR (pc := 8) dX8_passes_8 flX8_9 rfl rfl rfl (by decide) ?_
    refine x_bipush (pc := 11) (z := 7) dX8_passes_11 (by decide) ?_
    refine y_nald (pc := 13) dX8_passes_13 (by omega) ?_
    refine x_icmp_ge (pc := 14) 36 dX8_passes_14 (by decide) (by unfold inI; omega) (by unfold inI; omega) (fun c_14 => ?_) (fun c_14 => (by exfalso; omega))
    have e : N9 = N := h9
    subst e
    exact x_lv [0, 1] rfl (K i)
  | succ n ih =>
    intro c9 N i hP hB hR hS h0 h1 h9
    have n16 := hB.2.2.2.1.1
    have nt := hS.1.2.2.2.2.2.1
    have hi1 : i < c9 1 s 0 := by omega
    have b := BS_tr hP hB h0 hi1
    have r := R_tr hP hB hR hS h0 hi1
    have ht := hS.2.2.2.2.1 i h0 hi1
    have e3 := ht.2.2.2
    refine x_iload_n (pc := 6) dX8_passes_6 1 rfl ?_
    refine x_aload_n (pc := 7) dX8_passes_7 0 rfl ?_
    refine y_getR (pc := 8) dX8_passes_8 flX8_9 rfl rfl rfl (by decide) ?_
    refine x_bipush (pc := 11) (z := 7) dX8_passes_11 (by decide) ?_
    refine y_nald (pc := 13) dX8_passes_13 (by omega) ?_
    refine x_icmp_ge (pc := 14) 36 dX8_passes_14 (by decide) (by unfold inI; omega) (by unfold inI; omega) (fun c_14 => (by exfalso; omega)) (fun c_14 => ?_)
    refine x_aload_n (pc := 17) dX8_passes_17 0 rfl ?_
    refine x_iload_n (pc := 18) dX8_passes_18 1 rfl ?_
    refine x_callV (pc := 19) _ dX8_passes_19 (mq_isDueNow i hP hB hR hS h0 hi1) lkX8_330 rfl rfl rfl rfl (mem_dom0 (by decide) (by decide)) (by decide) (Nat.le_of_ble_eq_true rfl) rfl ?_
    refine x_ifb_eq (pc := 22) 30 dX8_passes_22 (by decide) (fun c_22 => ?_) (fun c_22 => ?_)
    · refine x_iinc (pc := 30) (lv' := [(1, _), (0, _)]) dX8_passes_30 1 rfl (by decide) rfl ?_
      refine x_goto (pc := 33) 6 dX8_passes_33 (by decide) ?_
      have e : trN N i = N := by unfold trN; rw [if_neg c_22]
      exact x_lv [1, 0] rfl (ih _ _ (i + 1) b.1 b.2 (e ▸ r.1) (e ▸ r.2) (by omega) (by rw [trStep_k (by decide) (by decide) (by decide) (by decide)]; omega) (by rw [h9]; show trNL (trN N i) _ _ = _; rw [e]))
    · refine x_aload_n (pc := 25) dX8_passes_25 0 rfl ?_
      refine x_iload_n (pc := 26) dX8_passes_26 1 rfl ?_
      refine x_callV (pc := 27) _ dX8_passes_27 (mq_travels i hP hB hR hS h0 hi1 (by omega)) lkX8_333 rfl rfl rfl rfl (mem_dom0 (by decide) (by decide)) (by decide) (Nat.le_of_ble_eq_true rfl) rfl ?_
      refine x_iinc (pc := 30) (lv' := [(1, _), (0, _)]) dX8_passes_30 1 rfl (by decide) rfl ?_
      refine x_goto (pc := 33) 6 dX8_passes_33 (by decide) ?_
      have e : trN N i = trN3 N i := by unfold trN; rw [if_pos c_22]
      exact x_lv [1, 0] rfl (ih _ _ (i + 1) b.1 b.2 (e ▸ r.1) (e ▸ r.2) (by omega) (by rw [trStep_k (by decide) (by decide) (by decide) (by decide)]; omega) (by rw [h9]; show trNL (trN N i) _ _ = _; rw [e]))

theorem mq_passes {G : GG} {m : Mem} {N : Int → Int} {c9 : Mem} {p s : Nat} (hP : BP c9 p) (hB : BS c9 p s) (hR : RP c9 p N) (hS : RS c9 p s N) : Ct G MX8_passes (rmD 8) [rf G 41 0] (hp (sr m N)) (.inl none) (hp (sr m (tkN N))) := by
  refine x_entry (by decide +kernel) mwX8_passes rfl (Nat.le_of_ble_eq_true rfl) ?_
  show X G MX8_passes (rmD 8) 0 [(0, rf G 41 0)] [] (hp (sr m N)) 0 0 (.inl none) (hp (sr m (tkN N)))
  have f := tk_facts hP hB
  have R9 := R_tk hP hB hR hS
  have n8 := hP.2.2.1
  have n12 := hP.2.2.2.2.2.1
  have n16 := hB.2.2.2.1.1
  have n16b := hB.2.2.2.2.1.1
  have e5 := R9.2.2.1.1.1.2.2.2.2.2.1
  have e9 := R9.2.2.2.1.2.1.1.2.2.2.2.2.2
  have e7 := hS.1.2.2.2.2.2.1
  have x5 := hR.1.2.2.2.2.2.1
  have x9 := hS.1.2.2.2.2.2.2
  rw [tk2_k (by decide) (by decide) (by decide) (by decide) (by decide)] at e5 e9
  refine x_aload_n (pc := 0) dX8_passes_0 0 rfl ?_
  refine x_callV (pc := 1) _ dX8_passes_1 (mq_shine hP hB hR hS) lkX8_327 rfl rfl rfl rfl (mem_dom0 (by decide) (by decide)) (by decide) (Nat.le_of_ble_eq_true rfl) rfl ?_
  refine x_nil (m' := sr m (tn1 N)) rfl ?_
  refine x_iconst (pc := 4) dX8_passes_4 ?_
  refine x_istore_n (pc := 5) (lv' := [(1, _), (0, _)]) dX8_passes_5 rfl (by decide) rfl ?_
  refine x_lv [1, 0] rfl (lp_mp1 (tn2 N) (tkN N) (fun i => ?_) (N 7).toNat _ (tn1 N) 0 f.2.1.1 f.2.1.2 R9.2.1.1 R9.2.1.2 (by omega) (by rw [tk1_k (by decide) (by decide) (by decide)]; omega) rfl)
  refine x_iconst (pc := 36) dX8_passes_36 ?_
  refine x_istore_n (pc := 37) (lv' := [(1, _), (0, _)]) dX8_passes_37 rfl (by decide) rfl ?_
  refine x_lv [1, 0] rfl (lp_mp2 (tn3 N) (tkN N) (tn2 N 5) (by omega) (fun c => ?_) (tn2 N 5).toNat (tn2 N) 0 rfl (by omega) (by omega) (by unfold tn3; rw [x5, e5]))
  refine x_iconst (pc := 69) dX8_passes_69 ?_
  refine x_istore_n (pc := 70) (lv' := [(1, _), (0, _)]) dX8_passes_70 rfl (by decide) rfl ?_
  exact x_lv [1, 0] rfl (lp_mp3 (tkN N) (N 9).toNat _ (tn3 N) 0 f.2.2.1.1 f.2.2.1.2.1 f.2.2.1.2.2 R9.2.2.2.1.1 R9.2.2.2.1.2.1 R9.2.2.2.1.2.2 (by omega) (by rw [tk2_k (by decide) (by decide) (by decide) (by decide) (by decide)]; omega) rfl)
