def totN (N : Int → Int) (w : Int) : Int := if w < 4 then N (10 + w) else sm (fun q => N (30 + 7 * q + (if w = 4 then 1 else 2))) (N 3).toNat
theorem sm_s (f : Int → Int) (n : Nat) : sm f (n + 1) = sm f n + f n := rfl
theorem lp_total {G : GG} {m : Mem} {N : Int → Int} (hF : NF N) (w : Int) (hw : inI w) : ∀ (n : Nat) (i a : Int), i + n = N 3 → 0 ≤ i → a = sm (fun q => N (30 + 7 * q + (if w = 4 then 1 else 2))) i.toNat → X G MX8_total (rmD 9) 40 [(4, .int (iI i)), (2, .long (lI a)), (0, rf G 41 0), (1, .int (iI w))] [] (hp (sr m N)) 0 0 (.inl (some (.long (lI (sm (fun q => N (30 + 7 * q + (if w = 4 then 1 else 2))) (N 3).toNat))))) (hp (sr m N)) := by
  intro n
  induction n with
  | zero =>
    intro i a hn h0 ha
    have n8 := hF.1
    refine x_iload (pc := 40) dX8_total_40 0 rfl ?_
    refine x_aload_n (pc := 42) dX8_total_42 2 rfl ?_
    refine y_getR (pc := 43) dX8_total_43 flX8_9 rfl rfl rfl (by decide) ?_
    refine x_iconst (pc := 46) dX8_total_46 ?_
    refine y_nald (pc := 47) dX8_total_47 (by omega) ?_
    refine x_icmp_ge (pc := 48) 77 dX8_total_48 (by decide) (by unfold inI; omega) (by unfold inI; omega) (fun c_48 => ?_) (fun c_48 => (by exfalso; omega))
    refine x_lload_n (pc := 77) dX8_total_77 1 rfl ?_
    exact y_lret (pc := 78) dX8_total_78 rfl (by rw [ha, show i = N 3 by omega]) rfl
  | succ n ih =>
    intro i a hn h0 ha
    have n8 := hF.1
    have pn := (hF.2.2.2.2.2.1 i h0 (by omega)).1
    have p1 := pn.2.2.1
    have p2 := pn.2.2.2.2
    have q1 : inI (N (30 + 7 * i + 1)) := by unfold inI; omega
    have q2 : inI (N (30 + 7 * i + 2)) := by unfold inI; omega
    refine x_iload (pc := 40) dX8_total_40 0 rfl ?_
    refine x_aload_n (pc := 42) dX8_total_42 2 rfl ?_
    refine y_getR (pc := 43) dX8_total_43 flX8_9 rfl rfl rfl (by decide) ?_
    refine x_iconst (pc := 46) dX8_total_46 ?_
    refine y_nald (pc := 47) dX8_total_47 (by omega) ?_
    refine x_icmp_ge (pc := 48) 77 dX8_total_48 (by decide) (by unfold inI; omega) (by unfold inI; omega) (fun c_48 => (by exfalso; omega)) (fun c_48 => ?_)
    refine x_lload_n (pc := 51) dX8_total_51 1 rfl ?_
    refine x_aload_n (pc := 52) dX8_total_52 2 rfl ?_
    refine x_iload (pc := 53) dX8_total_53 0 rfl ?_
    refine x_iload_n (pc := 55) dX8_total_55 3 rfl ?_
    refine x_iconst (pc := 56) dX8_total_56 ?_
    refine x_icmp_ne (pc := 57) 64 dX8_total_57 (by decide) hw (by unfold inI; omega) (fun c_57 => ?_) (fun c_57 => ?_)
    · refine x_iconst (pc := 64) dX8_total_64 ?_
      refine x_callV (pc := 65) _ dX8_total_65 (mq_ofPack i 2 (by omega)) lkX8_189 rfl rfl rfl rfl (mem_dom0 (by decide) (by decide)) (by decide) (Nat.le_of_ble_eq_true rfl) rfl ?_
      refine x_i2l (pc := 68) dX8_total_68 (by unfold inI; omega) ?_
      refine x_ladd (pc := 69) dX8_total_69 ?_
      refine x_lstore_n (pc := 70) (lv' := [(2, _), (4, _), (0, _), (1, _)]) dX8_total_70 rfl (by decide) rfl ?_
      refine x_iinc (pc := 71) (lv' := [(4, _), (2, _), (0, _), (1, _)]) dX8_total_71 1 rfl (by decide) rfl ?_
      refine x_goto (pc := 74) 40 dX8_total_74 (by decide) ?_
      exact x_lv [0, 1, 2, 3] rfl (ih (i + 1) _ (by omega) (by omega) (by rw [ha, show (i + 1).toNat = i.toNat + 1 by omega, sm_s, show ((i.toNat : Nat) : Int) = i by omega, if_neg c_57]))
    · refine x_iconst (pc := 60) dX8_total_60 ?_
      refine x_goto (pc := 61) 65 dX8_total_61 (by decide) ?_
      refine x_callV (pc := 65) _ dX8_total_65 (mq_ofPack i 1 (by omega)) lkX8_189 rfl rfl rfl rfl (mem_dom0 (by decide) (by decide)) (by decide) (Nat.le_of_ble_eq_true rfl) rfl ?_
      refine x_i2l (pc := 68) dX8_total_68 (by unfold inI; omega) ?_
      refine x_ladd (pc := 69) dX8_total_69 ?_
      refine x_lstore_n (pc := 70) (lv' := [(2, _), (4, _), (0, _), (1, _)]) dX8_total_70 rfl (by decide) rfl ?_
      refine x_iinc (pc := 71) (lv' := [(4, _), (2, _), (0, _), (1, _)]) dX8_total_71 1 rfl (by decide) rfl ?_
      refine x_goto (pc := 74) 40 dX8_total_74 (by decide) ?_
      exact x_lv [0, 1, 2, 3] rfl (ih (i + 1) _ (by omega) (by omega) (by rw [ha, show (i + 1).toNat = i.toNat + 1 by omega, sm_s, show ((i.toNat : Nat) : Int) = i by omega, if_pos c_57]))

theorem Q_total {G : GG} {m : Mem} {N : Int → Int} (hF : NF N) {a0 : Int} (ha0 : inI a0) (h0 : 0 ≤ a0 ∧ a0 ≤ 5) (hi : a0 < 4 → inI (N (10 + a0))) : Ct G MX8_total (rmD 9) [rf G 41 0, .int (iI a0)] (hp (sr m N)) (.inl (some (.long (lI (totN N a0))))) (hp (sr (thr m 0) N)) := by
  refine x_entry (by decide +kernel) mwX8_total rfl (Nat.le_of_ble_eq_true rfl) ?_
  show X G MX8_total (rmD 9) 0 [(0, rf G 41 0), (1, .int (iI a0))] [] (hp (sr m N)) 0 0 (.inl (some (.long (lI (totN N a0))))) (hp (sr (thr m 0) N))
  have n8 := hF.1
  have n16 := hF.2.1
  have nc8 := hF.2.2.1
  have nl16 := hF.2.2.2.1.1
  refine x_aload_n (pc := 0) dX8_total_0 0 rfl ?_
  refine x_iload_n (pc := 1) dX8_total_1 1 rfl ?_
  refine x_i2l (pc := 2) dX8_total_2 ha0 ?_
  refine x_lconst (pc := 3) (z := 0) dX8_total_3 (by decide) ?_
  refine x_ldc2 (pc := 4) (z := 5) dX8_total_4 kcX8_274 (by decide) ?_
  refine x_callS (pc := 7) _ dX8_total_7 (mq_in a0 0 5 (by unfold inL; unfold inI at ha0; omega) (by unfold inL; omega) (by unfold inL; omega)) lkX8_44 rfl (by decide) (Nat.le_of_ble_eq_true rfl) rfl ?_
  refine x_iconst (pc := 10) dX8_total_10 ?_
  refine x_callV (pc := 11) _ dX8_total_11 (mq_isThrown (b := 0 ≤ a0 ∧ a0 ≤ 5) 1) lkX8_227 rfl rfl rfl rfl (mem_dom0 (by decide) (by decide)) (by decide) (Nat.le_of_ble_eq_true rfl) rfl ?_
  refine x_nil (m' := sr (thr m 0) N) (by rw [if_pos h0]) ?_
  refine x_ifb_eq (pc := 14) 19 dX8_total_14 (by decide) (fun c_14 => ?_) (fun c_14 => absurd c_14 (fun z => z h0))
  refine x_iload_n (pc := 19) dX8_total_19 1 rfl ?_
  refine x_iconst (pc := 20) dX8_total_20 ?_
  refine x_icmp_ge (pc := 21) 35 dX8_total_21 (by decide) (by unfold inI; omega) (by unfold inI; omega) (fun c_21 => ?_) (fun c_21 => ?_)
  · refine x_lconst (pc := 35) (z := 0) dX8_total_35 (by decide) ?_
    refine x_lstore_n (pc := 36) (lv' := [(2, _), (0, _), (1, _)]) dX8_total_36 rfl (by decide) rfl ?_
    refine x_iconst (pc := 37) dX8_total_37 ?_
    refine x_istore (pc := 38) (lv' := [(4, _), (2, _), (0, _), (1, _)]) dX8_total_38 (by decide) rfl ?_
    have e9 : totN N a0 = sm (fun q => N (30 + 7 * q + (if a0 = 4 then 1 else 2))) (N 3).toNat := by unfold totN; rw [if_neg (by omega)]
    rw [e9]
    exact x_lv [0, 1, 2, 3] rfl (lp_total hF a0 ha0 (N 3).toNat 0 0 (by omega) (by omega) rfl)
  · refine x_aload_n (pc := 24) dX8_total_24 0 rfl ?_
    refine y_getR (pc := 25) dX8_total_25 flX8_9 rfl rfl rfl (by decide) ?_
    refine x_bipush (pc := 28) (z := 10) dX8_total_28 (by decide) ?_
    refine x_iload_n (pc := 30) dX8_total_30 1 rfl ?_
    refine x_iadd (pc := 31) dX8_total_31 ?_
    refine y_nald (pc := 32) dX8_total_32 (by omega) ?_
    refine x_i2l (pc := 33) dX8_total_33 (hi (by omega)) ?_
    exact y_lret (pc := 34) dX8_total_34 rfl (by unfold totN; rw [if_pos (by omega)]) rfl

theorem Qx_total_0 {G : GG} {m : Mem} {N : Int → Int} (hF : NF N) {a0 : Int} (ha0 : inI a0)  (h0 : ¬ (0 ≤ a0 ∧ a0 ≤ 5)) : Ct G MX8_total (rmD 9) [rf G 41 0, .int (iI a0)] (hp (sr m N)) (.inl (some (.long (lI (0))))) (hp (sr (thr m 1) N)) := by
  refine x_entry (by decide +kernel) mwX8_total rfl (Nat.le_of_ble_eq_true rfl) ?_
  show X G MX8_total (rmD 9) 0 [(0, rf G 41 0), (1, .int (iI a0))] [] (hp (sr m N)) 0 0 (.inl (some (.long (lI (0))))) (hp (sr (thr m 1) N))
  have n8 := hF.1
  have n16 := hF.2.1
  have nc8 := hF.2.2.1
  have nl16 := hF.2.2.2.1.1
  refine x_aload_n (pc := 0) dX8_total_0 0 rfl ?_
  refine x_iload_n (pc := 1) dX8_total_1 1 rfl ?_
  refine x_i2l (pc := 2) dX8_total_2 ha0 ?_
  refine x_lconst (pc := 3) (z := 0) dX8_total_3 (by decide) ?_
  refine x_ldc2 (pc := 4) (z := 5) dX8_total_4 kcX8_274 (by decide) ?_
  refine x_callS (pc := 7) _ dX8_total_7 (mq_in a0 0 5 (by unfold inL; unfold inI at ha0; omega) (by unfold inL; omega) (by unfold inL; omega)) lkX8_44 rfl (by decide) (Nat.le_of_ble_eq_true rfl) rfl ?_
  refine x_iconst (pc := 10) dX8_total_10 ?_
  refine x_callV (pc := 11) _ dX8_total_11 (mq_isThrown (b := 0 ≤ a0 ∧ a0 ≤ 5) 1) lkX8_227 rfl rfl rfl rfl (mem_dom0 (by decide) (by decide)) (by decide) (Nat.le_of_ble_eq_true rfl) rfl ?_
  refine x_nil (m' := sr (thr m 1) N) (by rw [if_neg h0]) ?_
  refine x_ifb_eq (pc := 14) 19 dX8_total_14 (by decide) (fun c_14 => absurd c_14 (fun z => z h0)) (fun c_14 => ?_)
  refine x_lconst (pc := 17) (z := 0) dX8_total_17 (by decide) ?_
  exact y_lret (pc := 18) dX8_total_18 rfl rfl rfl

theorem Q_loadStatement {G : GG} {m : Mem} {N : Int → Int} (hF : NF N)    : Ct G MX8_loadStatement (rmD 9) [rf G 41 0] (hp (sr m N)) (.inl (some (.int (iI (m 41 0 17))))) (hp (sr (thr m 0) N)) := by
  refine x_entry (by decide +kernel) mwX8_loadStatement rfl (Nat.le_of_ble_eq_true rfl) ?_
  show X G MX8_loadStatement (rmD 9) 0 [(0, rf G 41 0)] [] (hp (sr m N)) 0 0 (.inl (some (.int (iI (m 41 0 17))))) (hp (sr (thr m 0) N))
  have n8 := hF.1
  have n16 := hF.2.1
  have nc8 := hF.2.2.1
  have nl16 := hF.2.2.2.1.1
  refine x_aload_n (pc := 0) dX8_loadStatement_0 0 rfl ?_
  refine x_iconst (pc := 1) dX8_loadStatement_1 ?_
  refine y_putM (pc := 2) 7 dX8_loadStatement_2 fwX8_41 rfl rfl rfl ?_
  refine x_aload_n (pc := 5) dX8_loadStatement_5 0 rfl ?_
  refine y_getM (pc := 6) 17 dX8_loadStatement_6 flX8_33 rfl rfl rfl ?_
  refine x_top (v' := .int (iI (m 41 0 17))) (by rw [up3_off (by decide)]) ?_
  exact y_iret (pc := 9) dX8_loadStatement_9 rfl rfl rfl

def cosN (N : Int → Int) (c x : Int) : Int := intN N (pfN N (N (270 + 6 * c + 0)) x) + x * N (86 + 6 * betN N (N (270 + 6 * c + 0)) (N (270 + 6 * c + 1)) + 2) / 1000
def chN (N : Int → Int) (q x b cost i : Int) : Nat → Int
  | 0 => b
  | n + 1 => if N (270 + 6 * i + 1) = q ∧ hinN N i x = 0 ∧ (b = -1 ∨ cosN N i x < cost) then chN N q x i (cosN N i x) (i + 1) n else chN N q x b cost (i + 1) n
def CAB (N : Int → Int) : Prop := ∀ c, 0 ≤ c → c < N 8 → (0 ≤ betN N (N (270 + 6 * c + 0)) (N (270 + 6 * c + 1)) ∧ betN N (N (270 + 6 * c + 0)) (N (270 + 6 * c + 1)) < 12) ∧ (0 ≤ N (86 + 6 * betN N (N (270 + 6 * c + 0)) (N (270 + 6 * c + 1)) + 2) ∧ N (86 + 6 * betN N (N (270 + 6 * c + 0)) (N (270 + 6 * c + 1)) + 2) ≤ 900)
theorem lp_cheapN {G : GG} {m : Mem} {N : Int → Int} (hF : NF N) (hA : CAB N) (hW : 1 ≤ N 1 ∧ N 1 ≤ 10000) (q x : Int) (hq : inI q) (hx : 0 ≤ x ∧ x ≤ 1000000) (z9 : Int) : ∀ (n : Nat) (i b cost : Int), i + n = N 8 → 0 ≤ i → inI b → inI cost → z9 = chN N q x b cost i n → X G MX8_cheapest (rmD 9) 35 [(5, .int (iI i)), (4, .int (iI cost)), (3, .int (iI b)), (0, rf G 41 0), (1, .int (iI q)), (2, .int (iI x))] [] (hp (sr m N)) 0 0 (.inl (some (.int (iI (z9))))) (hp (sr m N)) := by
  intro n
  induction n with
  | zero =>
    intro i b cost hn h0 hb hc h9
    have nc8 := hF.2.2.1
    refine x_iload (pc := 35) dX8_cheapest_35 0 rfl ?_
    refine x_aload_n (pc := 37) dX8_cheapest_37 3 rfl ?_
    refine y_getR (pc := 38) dX8_cheapest_38 flX8_9 rfl rfl rfl (by decide) ?_
    refine x_bipush (pc := 41) (z := 8) dX8_cheapest_41 (by decide) ?_
    refine y_nald (pc := 43) dX8_cheapest_43 (by omega) ?_
    refine x_icmp_ge (pc := 44) 121 dX8_cheapest_44 (by decide) (by unfold inI; omega) (by unfold inI; omega) (fun c_44 => ?_) (fun c_44 => (by exfalso; omega))
    refine x_iload_n (pc := 121) dX8_cheapest_121 2 rfl ?_
    exact y_iret (pc := 122) dX8_cheapest_122 rfl (by rw [h9]; rfl) rfl
  | succ n ih =>
    intro i b cost hn h0 hb hc h9
    have n8 := hF.1
    have nc8 := hF.2.2.1
    have kc := hF.2.2.2.2.2.2.1 i h0 (by omega)
    have kc0 := kc.1
    have kc1 := kc.2.1
    have kp := hF.2.2.2.2.2.1 _ kc0.1 kc0.2
    have kc2 := kc.2.2.1
    have kc5 := kc.2.2.2
    have kab := kp.2.2
    have pn := kp.1
    have qn := kp.2.1
    have cb := hA i h0 (by omega)
    have w0 : 0 ≤ x * weightN N (N (270 + 6 * i + 0)) := Int.mul_nonneg hx.1 qn.2.1
    have ib := intN_b (N := N) (x := pfN N (N (270 + 6 * i + 0)) x) (by unfold pfN; omega) hW
    have m0 : 0 ≤ x * N (86 + 6 * betN N (N (270 + 6 * i + 0)) (N (270 + 6 * i + 1)) + 2) := Int.mul_nonneg hx.1 cb.2.1
    have m1 : x * N (86 + 6 * betN N (N (270 + 6 * i + 0)) (N (270 + 6 * i + 1)) + 2) ≤ 1000000 * 900 := Int.mul_le_mul hx.2 cb.2.2 cb.2.1 (by decide)
    have ib2 : pfN N (N (270 + 6 * i + 0)) x ≤ 100000000 := by unfold pfN; omega
    have cI : inI (cosN N i x) := by unfold inI cosN; omega
    refine x_iload (pc := 35) dX8_cheapest_35 0 rfl ?_
    refine x_aload_n (pc := 37) dX8_cheapest_37 3 rfl ?_
    refine y_getR (pc := 38) dX8_cheapest_38 flX8_9 rfl rfl rfl (by decide) ?_
    refine x_bipush (pc := 41) (z := 8) dX8_cheapest_41 (by decide) ?_
    refine y_nald (pc := 43) dX8_cheapest_43 (by omega) ?_
    refine x_icmp_ge (pc := 44) 121 dX8_cheapest_44 (by decide) (by unfold inI; omega) (by unfold inI; omega) (fun c_44 => (by exfalso; omega)) (fun c_44 => ?_)
    refine x_aload_n (pc := 47) dX8_cheapest_47 3 rfl ?_
    refine x_iload (pc := 48) dX8_cheapest_48 0 rfl ?_
    refine x_iconst (pc := 50) dX8_cheapest_50 ?_
    refine x_callV (pc := 51) _ dX8_cheapest_51 (mq_ofContract i 1 (by omega)) lkX8_54 rfl rfl rfl rfl (mem_dom0 (by decide) (by decide)) (by decide) (Nat.le_of_ble_eq_true rfl) rfl ?_
    refine x_iload_n (pc := 54) dX8_cheapest_54 4 rfl ?_
    refine x_icmp_ne (pc := 55) 115 dX8_cheapest_55 (by decide) (by unfold inI; omega) hq (fun c_55 => ?_) (fun c_55 => ?_)
    · refine x_iinc (pc := 115) (lv' := [(5, _), (4, _), (3, _), (0, _), (1, _), (2, _)]) dX8_cheapest_115 0 rfl (by decide) rfl ?_
      refine x_goto (pc := 118) 35 dX8_cheapest_118 (by decide) ?_
      exact x_lv [0, 1, 2, 3, 4, 5] rfl (ih (i + 1) b cost (by omega) (by omega) hb hc (by rw [h9]; show (if _ then _ else _) = _; rw [if_neg (fun z => c_55 z.1)]))
    · refine x_aload_n (pc := 58) dX8_cheapest_58 3 rfl ?_
      refine x_iload (pc := 59) dX8_cheapest_59 0 rfl ?_
      refine x_iload_n (pc := 61) dX8_cheapest_61 5 rfl ?_
      refine x_callV (pc := 62) _ dX8_cheapest_62 (mq_hindered i x (by omega) hx hF.2.2.2.1 (by omega) (by unfold inI; omega) (by unfold inI; omega) (by unfold inI; omega) (outN_b hF.2.2.2.1 i)) lkX8_290 rfl rfl rfl rfl (mem_dom0 (by decide) (by decide)) (by decide) (Nat.le_of_ble_eq_true rfl) rfl ?_
      refine x_if_eq (pc := 65) 71 dX8_cheapest_65 (by decide) (hinN_in _ _ _) (fun c_65 => ?_) (fun c_65 => ?_)
      · refine x_aload_n (pc := 71) dX8_cheapest_71 3 rfl ?_
        refine x_iload (pc := 72) dX8_cheapest_72 0 rfl ?_
        refine x_iload_n (pc := 74) dX8_cheapest_74 5 rfl ?_
        refine x_callV (pc := 75) _ dX8_cheapest_75 (mq_interestFor i x (by omega) pn qn hx hW) lkX8_284 rfl rfl rfl rfl (mem_dom0 (by decide) (by decide)) (by decide) (Nat.le_of_ble_eq_true rfl) rfl ?_
        refine x_iload_n (pc := 78) dX8_cheapest_78 5 rfl ?_
        refine x_aload_n (pc := 79) dX8_cheapest_79 3 rfl ?_
        refine x_aload_n (pc := 80) dX8_cheapest_80 3 rfl ?_
        refine x_iload (pc := 81) dX8_cheapest_81 0 rfl ?_
        refine x_callV (pc := 83) _ dX8_cheapest_83 (mq_cableOf i (by omega) (by unfold inI; omega) (by unfold inI; omega) hF.2.2.2.2.1) lkX8_295 rfl rfl rfl rfl (mem_dom0 (by decide) (by decide)) (by decide) (Nat.le_of_ble_eq_true rfl) rfl ?_
        refine x_iconst (pc := 86) dX8_cheapest_86 ?_
        refine x_callV (pc := 87) _ dX8_cheapest_87 (mq_ofCable (betN N (N (270 + 6 * i + 0)) (N (270 + 6 * i + 1))) 2 (by omega)) lkX8_237 rfl rfl rfl rfl (mem_dom0 (by decide) (by decide)) (by decide) (Nat.le_of_ble_eq_true rfl) rfl ?_
        refine x_callS (pc := 90) _ dX8_cheapest_90 (mq_lossOf x _ hx cb.2) lkX8_298 rfl (by decide) (Nat.le_of_ble_eq_true rfl) rfl ?_
        refine x_top (v' := .int (iI (x * N (86 + 6 * betN N (N (270 + 6 * i + 0)) (N (270 + 6 * i + 1)) + 2) / 1000))) rfl ?_
        refine x_iadd (pc := 93) dX8_cheapest_93 ?_
        refine x_top (v' := .int (iI (cosN N i x))) rfl ?_
        refine x_istore (pc := 94) (lv' := [(6, _), (5, _), (4, _), (3, _), (0, _), (1, _), (2, _)]) dX8_cheapest_94 (by decide) rfl ?_
        refine x_iload_n (pc := 96) dX8_cheapest_96 3 rfl ?_
        refine x_iconst (pc := 97) dX8_cheapest_97 ?_
        refine x_icmp_eq (pc := 98) 108 dX8_cheapest_98 (by decide) hb (by unfold inI; omega) (fun c_98 => ?_) (fun c_98 => ?_)
        · refine x_iload (pc := 108) dX8_cheapest_108 1 rfl ?_
          refine x_istore_n (pc := 110) (lv' := [(3, _), (6, _), (5, _), (4, _), (0, _), (1, _), (2, _)]) dX8_cheapest_110 rfl (by decide) rfl ?_
          refine x_iload (pc := 111) dX8_cheapest_111 1 rfl ?_
          refine x_istore (pc := 113) (lv' := [(4, _), (3, _), (6, _), (5, _), (0, _), (1, _), (2, _)]) dX8_cheapest_113 (by decide) rfl ?_
          refine x_iinc (pc := 115) (lv' := [(5, _), (4, _), (3, _), (6, _), (0, _), (1, _), (2, _)]) dX8_cheapest_115 3 rfl (by decide) rfl ?_
          refine x_goto (pc := 118) 35 dX8_cheapest_118 (by decide) ?_
          exact x_lv [0, 1, 2, 4, 5, 6] rfl (ih (i + 1) i (cosN N i x) (by omega) (by omega) (by unfold inI; omega) cI (by rw [h9]; show (if _ then _ else _) = _; rw [if_pos ⟨c_55, c_65, Or.inl c_98⟩]))
        · refine x_iload (pc := 101) dX8_cheapest_101 0 rfl ?_
          refine x_iload (pc := 103) dX8_cheapest_103 2 rfl ?_
          refine x_icmp_ge (pc := 105) 115 dX8_cheapest_105 (by decide) cI hc (fun c_105 => ?_) (fun c_105 => ?_)
          · refine x_iinc (pc := 115) (lv' := [(5, _), (6, _), (4, _), (3, _), (0, _), (1, _), (2, _)]) dX8_cheapest_115 1 rfl (by decide) rfl ?_
            refine x_goto (pc := 118) 35 dX8_cheapest_118 (by decide) ?_
            exact x_lv [0, 2, 3, 4, 5, 6] rfl (ih (i + 1) b cost (by omega) (by omega) hb hc (by rw [h9]; show (if _ then _ else _) = _; rw [if_neg (fun z => by rcases z.2.2 with e | e; exact c_98 e; omega)]))
          · refine x_iload (pc := 108) dX8_cheapest_108 1 rfl ?_
            refine x_istore_n (pc := 110) (lv' := [(3, _), (6, _), (5, _), (4, _), (0, _), (1, _), (2, _)]) dX8_cheapest_110 rfl (by decide) rfl ?_
            refine x_iload (pc := 111) dX8_cheapest_111 1 rfl ?_
            refine x_istore (pc := 113) (lv' := [(4, _), (3, _), (6, _), (5, _), (0, _), (1, _), (2, _)]) dX8_cheapest_113 (by decide) rfl ?_
            refine x_iinc (pc := 115) (lv' := [(5, _), (4, _), (3, _), (6, _), (0, _), (1, _), (2, _)]) dX8_cheapest_115 3 rfl (by decide) rfl ?_
            refine x_goto (pc := 118) 35 dX8_cheapest_118 (by decide) ?_
            exact x_lv [0, 1, 2, 4, 5, 6] rfl (ih (i + 1) i (cosN N i x) (by omega) (by omega) (by unfold inI; omega) cI (by rw [h9]; show (if _ then _ else _) = _; rw [if_pos ⟨c_55, c_65, Or.inr (by omega)⟩]))
      · refine x_goto (pc := 68) 115 dX8_cheapest_68 (by decide) ?_
        refine x_iinc (pc := 115) (lv' := [(5, _), (4, _), (3, _), (0, _), (1, _), (2, _)]) dX8_cheapest_115 0 rfl (by decide) rfl ?_
        refine x_goto (pc := 118) 35 dX8_cheapest_118 (by decide) ?_
        exact x_lv [0, 1, 2, 3, 4, 5] rfl (ih (i + 1) b cost (by omega) (by omega) hb hc (by rw [h9]; show (if _ then _ else _) = _; rw [if_neg (fun z => c_65 z.2.1)]))

theorem Q_cheapest {G : GG} {m : Mem} {N : Int → Int} (hF : NF N) {a0 a1 : Int} (ha0 : inI a0) (ha1 : inI a1) (h0 : 0 ≤ a0 ∧ a0 < N 3) (h1 : 1 ≤ a1 ∧ a1 ≤ 100000) (hA : CAB N) (hW : 1 ≤ N 1 ∧ N 1 ≤ 10000) : Ct G MX8_cheapest (rmD 9) [rf G 41 0, .int (iI a0), .int (iI a1)] (hp (sr m N)) (.inl (some (.int (iI (chN N a0 a1 (-1) 0 0 (N 8).toNat))))) (hp (sr (thr m 0) N)) := by
  refine x_entry (by decide +kernel) mwX8_cheapest rfl (Nat.le_of_ble_eq_true rfl) ?_
  show X G MX8_cheapest (rmD 9) 0 [(0, rf G 41 0), (1, .int (iI a0)), (2, .int (iI a1))] [] (hp (sr m N)) 0 0 (.inl (some (.int (iI (chN N a0 a1 (-1) 0 0 (N 8).toNat))))) (hp (sr (thr m 0) N))
  have n8 := hF.1
  have n16 := hF.2.1
  have nc8 := hF.2.2.1
  have nl16 := hF.2.2.2.1.1
  refine x_aload_n (pc := 0) dX8_cheapest_0 0 rfl ?_
  refine x_aload_n (pc := 1) dX8_cheapest_1 0 rfl ?_
  refine x_iload_n (pc := 2) dX8_cheapest_2 1 rfl ?_
  refine x_callV (pc := 3) _ dX8_cheapest_3 (mq_isPack a0 ha0 (by omega)) lkX8_234 rfl rfl rfl rfl (mem_dom0 (by decide) (by decide)) (by decide) (Nat.le_of_ble_eq_true rfl) rfl ?_
  refine x_iconst (pc := 6) dX8_cheapest_6 ?_
  refine x_callV (pc := 7) _ dX8_cheapest_7 (mq_isThrown (b := 0 ≤ a0 ∧ a0 < N 3) 1) lkX8_227 rfl rfl rfl rfl (mem_dom0 (by decide) (by decide)) (by decide) (Nat.le_of_ble_eq_true rfl) rfl ?_
  refine x_nil (m' := sr (thr m 0) N) (by rw [if_pos h0]) ?_
  refine x_ifb_ne (pc := 10) 25 dX8_cheapest_10 (by decide) (fun c_10 => absurd c_10 (fun z => z h0)) (fun c_10 => ?_)
  refine x_aload_n (pc := 13) dX8_cheapest_13 0 rfl ?_
  refine x_iload_n (pc := 14) dX8_cheapest_14 2 rfl ?_
  refine x_callS (pc := 15) _ dX8_cheapest_15 (mq_isAmount a1 ha1) lkX8_281 rfl (by decide) (Nat.le_of_ble_eq_true rfl) rfl ?_
  refine x_iconst (pc := 18) dX8_cheapest_18 ?_
  refine x_callV (pc := 19) _ dX8_cheapest_19 (mq_isThrown (b := 1 ≤ a1 ∧ a1 ≤ 100000) 2) lkX8_227 rfl rfl rfl rfl (mem_dom0 (by decide) (by decide)) (by decide) (Nat.le_of_ble_eq_true rfl) rfl ?_
  refine x_nil (m' := sr (thr m 0) N) (by rw [if_pos h1, thr_thr]) ?_
  refine x_ifb_eq (pc := 22) 27 dX8_cheapest_22 (by decide) (fun c_22 => ?_) (fun c_22 => absurd c_22 (fun z => z h1))
  refine x_iconst (pc := 27) dX8_cheapest_27 ?_
  refine x_istore_n (pc := 28) (lv' := [(3, _), (0, _), (1, _), (2, _)]) dX8_cheapest_28 rfl (by decide) rfl ?_
  refine x_iconst (pc := 29) dX8_cheapest_29 ?_
  refine x_istore (pc := 30) (lv' := [(4, _), (3, _), (0, _), (1, _), (2, _)]) dX8_cheapest_30 (by decide) rfl ?_
  refine x_iconst (pc := 32) dX8_cheapest_32 ?_
  refine x_istore (pc := 33) (lv' := [(5, _), (4, _), (3, _), (0, _), (1, _), (2, _)]) dX8_cheapest_33 (by decide) rfl ?_
  exact x_lv [0, 1, 2, 3, 4, 5] rfl (lp_cheapN hF hA hW a0 a1 ha0 (by omega) _ (N 8).toNat 0 (-1) 0 (by omega) (by omega) (by unfold inI; omega) (by unfold inI; omega) rfl)

theorem Qx_cheapest_0 {G : GG} {m : Mem} {N : Int → Int} (hF : NF N) {a0 a1 : Int} (ha0 : inI a0) (ha1 : inI a1)  (h0 : ¬ (0 ≤ a0 ∧ a0 < N 3)) : Ct G MX8_cheapest (rmD 9) [rf G 41 0, .int (iI a0), .int (iI a1)] (hp (sr m N)) (.inl (some (.int (iI (0))))) (hp (sr (thr m 1) N)) := by
  refine x_entry (by decide +kernel) mwX8_cheapest rfl (Nat.le_of_ble_eq_true rfl) ?_
  show X G MX8_cheapest (rmD 9) 0 [(0, rf G 41 0), (1, .int (iI a0)), (2, .int (iI a1))] [] (hp (sr m N)) 0 0 (.inl (some (.int (iI (0))))) (hp (sr (thr m 1) N))
  have n8 := hF.1
  have n16 := hF.2.1
  have nc8 := hF.2.2.1
  have nl16 := hF.2.2.2.1.1
  refine x_aload_n (pc := 0) dX8_cheapest_0 0 rfl ?_
  refine x_aload_n (pc := 1) dX8_cheapest_1 0 rfl ?_
  refine x_iload_n (pc := 2) dX8_cheapest_2 1 rfl ?_
  refine x_callV (pc := 3) _ dX8_cheapest_3 (mq_isPack a0 ha0 (by omega)) lkX8_234 rfl rfl rfl rfl (mem_dom0 (by decide) (by decide)) (by decide) (Nat.le_of_ble_eq_true rfl) rfl ?_
  refine x_iconst (pc := 6) dX8_cheapest_6 ?_
  refine x_callV (pc := 7) _ dX8_cheapest_7 (mq_isThrown (b := 0 ≤ a0 ∧ a0 < N 3) 1) lkX8_227 rfl rfl rfl rfl (mem_dom0 (by decide) (by decide)) (by decide) (Nat.le_of_ble_eq_true rfl) rfl ?_
  refine x_nil (m' := sr (thr m 1) N) (by rw [if_neg h0]) ?_
  refine x_ifb_ne (pc := 10) 25 dX8_cheapest_10 (by decide) (fun c_10 => ?_) (fun c_10 => absurd c_10 (fun z => z h0))
  refine x_iconst (pc := 25) dX8_cheapest_25 ?_
  exact y_iret (pc := 26) dX8_cheapest_26 rfl rfl rfl

theorem Qx_cheapest_1 {G : GG} {m : Mem} {N : Int → Int} (hF : NF N) {a0 a1 : Int} (ha0 : inI a0) (ha1 : inI a1) (h0 : 0 ≤ a0 ∧ a0 < N 3) (h1 : ¬ (1 ≤ a1 ∧ a1 ≤ 100000)) : Ct G MX8_cheapest (rmD 9) [rf G 41 0, .int (iI a0), .int (iI a1)] (hp (sr m N)) (.inl (some (.int (iI (0))))) (hp (sr (thr m 2) N)) := by
  refine x_entry (by decide +kernel) mwX8_cheapest rfl (Nat.le_of_ble_eq_true rfl) ?_
  show X G MX8_cheapest (rmD 9) 0 [(0, rf G 41 0), (1, .int (iI a0)), (2, .int (iI a1))] [] (hp (sr m N)) 0 0 (.inl (some (.int (iI (0))))) (hp (sr (thr m 2) N))
  have n8 := hF.1
  have n16 := hF.2.1
  have nc8 := hF.2.2.1
  have nl16 := hF.2.2.2.1.1
  refine x_aload_n (pc := 0) dX8_cheapest_0 0 rfl ?_
  refine x_aload_n (pc := 1) dX8_cheapest_1 0 rfl ?_
  refine x_iload_n (pc := 2) dX8_cheapest_2 1 rfl ?_
  refine x_callV (pc := 3) _ dX8_cheapest_3 (mq_isPack a0 ha0 (by omega)) lkX8_234 rfl rfl rfl rfl (mem_dom0 (by decide) (by decide)) (by decide) (Nat.le_of_ble_eq_true rfl) rfl ?_
  refine x_iconst (pc := 6) dX8_cheapest_6 ?_
  refine x_callV (pc := 7) _ dX8_cheapest_7 (mq_isThrown (b := 0 ≤ a0 ∧ a0 < N 3) 1) lkX8_227 rfl rfl rfl rfl (mem_dom0 (by decide) (by decide)) (by decide) (Nat.le_of_ble_eq_true rfl) rfl ?_
  refine x_nil (m' := sr (thr m 0) N) (by rw [if_pos h0]) ?_
  refine x_ifb_ne (pc := 10) 25 dX8_cheapest_10 (by decide) (fun c_10 => absurd c_10 (fun z => z h0)) (fun c_10 => ?_)
  refine x_aload_n (pc := 13) dX8_cheapest_13 0 rfl ?_
  refine x_iload_n (pc := 14) dX8_cheapest_14 2 rfl ?_
  refine x_callS (pc := 15) _ dX8_cheapest_15 (mq_isAmount a1 ha1) lkX8_281 rfl (by decide) (Nat.le_of_ble_eq_true rfl) rfl ?_
  refine x_iconst (pc := 18) dX8_cheapest_18 ?_
  refine x_callV (pc := 19) _ dX8_cheapest_19 (mq_isThrown (b := 1 ≤ a1 ∧ a1 ≤ 100000) 2) lkX8_227 rfl rfl rfl rfl (mem_dom0 (by decide) (by decide)) (by decide) (Nat.le_of_ble_eq_true rfl) rfl ?_
  refine x_nil (m' := sr (thr m 2) N) (by rw [if_neg h1, thr_thr]) ?_
  refine x_ifb_eq (pc := 22) 27 dX8_cheapest_22 (by decide) (fun c_22 => absurd c_22 (fun z => z h1)) (fun c_22 => ?_)
  refine x_iconst (pc := 25) dX8_cheapest_25 ?_
  exact y_iret (pc := 26) dX8_cheapest_26 rfl rfl rfl

def msN (N : Int → Int) (q w k : Int) : Nat → Int
  | 0 => -1
  | n + 1 => if w < tkN N (30 + 7 * q + 6) then k else msN (tkN N) q w (k + 1) n
def msE (N : Int → Int) (q w : Int) : Nat → Int → Int
  | 0 => N
  | n + 1 => if w < tkN N (30 + 7 * q + 6) then tkN N else msE (tkN N) q w n
theorem lp_missN {G : GG} {m : Mem} {N0 : Int → Int} {p s : Nat} (q w z9 : Int) (hq : 0 ≤ q) (hw : inI w) : ∀ (n : Nat) (c9 : Mem) (N : Int → Int) (k : Int), BP c9 p → BS c9 p s → RP c9 p N → RS c9 p s N → q < c9 22 p 2 → c9 0 s 0 + n ≤ 11000 → 1 ≤ k → k + n = 501 → z9 = msN N q w k n → X G MX8_missIn (rmD 9) 32 [(4, .int (iI k)), (3, .int (iI (-1))), (2, .int (iI w)), (0, rf G 41 0), (1, .int (iI q))] [] (hp (asX m N0 N)) 0 0 (.inl (some (.int (iI (z9))))) (hp (asX m N0 N0)) := by
  intro n
  induction n with
  | zero =>
    intro c9 N k hP hB hR hS h2 ht h0 hk hz
    refine x_iload (pc := 32) dX8_missIn_32 0 rfl ?_
    refine x_sipush (pc := 34) (z := 500) dX8_missIn_34 (by decide) ?_
    refine x_icmp_gt (pc := 37) 73 dX8_missIn_37 (by decide) (by unfold inI; omega) (by unfold inI; omega) (fun c_37 => ?_) (fun c_37 => (by exfalso; omega))
    refine x_aload_n (pc := 73) dX8_missIn_73 3 rfl ?_
    refine x_callV (pc := 74) _ dX8_missIn_74 (mq_putsBack) lkX8_366 rfl rfl rfl rfl (mem_dom0 (by decide) (by decide)) (by decide) (Nat.le_of_ble_eq_true rfl) rfl ?_
    refine x_meq as_back ?_
    refine x_iload_n (pc := 77) dX8_missIn_77 1 rfl ?_
    exact y_iret (pc := 78) dX8_missIn_78 rfl (by rw [hz]; rfl) rfl
  | succ n ih =>
    intro c9 N k hP hB hR hS h2 ht h0 hk hz
    have b := tkC_f hP hB (by omega)
    have r := (R_tk hP hB hR hS).2.2.2.2.2
    have n8 := hP.2.2.1
    have n16 := b.2.2.2.2.1.1
    have r6 := (r.2.1.2.2.1 q hq (by rw [tkC_k (by omega)]; exact h2)).2
    have nb := num_b (m := tkC c9 p s) (s := s) (q := q) (t := 2) n16
    have i6 : inI (tkN N (30 + 7 * q + 6)) := by rw [r6]; unfold inI; omega
    refine x_iload (pc := 32) dX8_missIn_32 0 rfl ?_
    refine x_sipush (pc := 34) (z := 500) dX8_missIn_34 (by decide) ?_
    refine x_icmp_gt (pc := 37) 73 dX8_missIn_37 (by decide) (by unfold inI; omega) (by unfold inI; omega) (fun c_37 => (by exfalso; omega)) (fun c_37 => ?_)
    refine x_iload_n (pc := 40) dX8_missIn_40 1 rfl ?_
    refine x_iconst (pc := 41) dX8_missIn_41 ?_
    refine x_icmp_ne (pc := 42) 73 dX8_missIn_42 (by decide) (by unfold inI; decide) (by unfold inI; decide) (fun c_42 => absurd c_42 (fun z => z rfl)) (fun c_42 => ?_)
    refine x_aload_n (pc := 45) dX8_missIn_45 3 rfl ?_
    refine x_callV (pc := 46) _ dX8_missIn_46 (mq_passes hP hB hR hS) lkX8_360 rfl rfl rfl rfl (mem_dom0 (by decide) (by decide)) (by decide) (Nat.le_of_ble_eq_true rfl) rfl ?_
    refine x_aload_n (pc := 49) dX8_missIn_49 3 rfl ?_
    refine x_iload_n (pc := 50) dX8_missIn_50 4 rfl ?_
    refine x_bipush (pc := 51) (z := 6) dX8_missIn_51 (by decide) ?_
    refine x_callV (pc := 53) _ dX8_missIn_53 (mq_ofPack q 6 (by omega)) lkX8_189 rfl rfl rfl rfl (mem_dom0 (by decide) (by decide)) (by decide) (Nat.le_of_ble_eq_true rfl) rfl ?_
    refine x_iload_n (pc := 56) dX8_missIn_56 2 rfl ?_
    refine x_icmp_le (pc := 57) 65 dX8_missIn_57 (by decide) i6 hw (fun c_57 => ?_) (fun c_57 => ?_)
    · refine x_iconst (pc := 65) dX8_missIn_65 ?_
      refine x_istore_n (pc := 66) (lv' := [(3, _), (4, _), (2, _), (0, _), (1, _)]) dX8_missIn_66 rfl (by decide) rfl ?_
      refine x_iinc (pc := 67) (lv' := [(4, _), (3, _), (2, _), (0, _), (1, _)]) dX8_missIn_67 1 rfl (by decide) rfl ?_
      refine x_goto (pc := 70) 32 dX8_missIn_70 (by decide) ?_
      exact x_lv [0, 1, 2, 3, 4] rfl (ih _ _ (k + 1) b.1 b.2 r.1 r.2.1 (by rw [tkC_k (by omega)]; exact h2) (by rw [tkC_t]; omega) (by omega) (by omega) (by rw [hz]; show (if _ then _ else _) = _; rw [if_neg (by omega)]))
    · refine x_iload (pc := 60) dX8_missIn_60 0 rfl ?_
      refine x_goto (pc := 62) 66 dX8_missIn_62 (by decide) ?_
      refine x_istore_n (pc := 66) (lv' := [(3, _), (4, _), (2, _), (0, _), (1, _)]) dX8_missIn_66 rfl (by decide) rfl ?_
      refine x_iinc (pc := 67) (lv' := [(4, _), (3, _), (2, _), (0, _), (1, _)]) dX8_missIn_67 1 rfl (by decide) rfl ?_
      refine x_goto (pc := 70) 32 dX8_missIn_70 (by decide) ?_
      refine x_iload (pc := 32) dX8_missIn_32 0 rfl ?_
      refine x_sipush (pc := 34) (z := 500) dX8_missIn_34 (by decide) ?_
      refine x_icmp_gt (pc := 37) 73 dX8_missIn_37 (by decide) (by unfold inI; omega) (by unfold inI; omega) (fun c_37 => ?_) (fun c_37 => ?_)
      · refine x_aload_n (pc := 73) dX8_missIn_73 3 rfl ?_
        refine x_callV (pc := 74) _ dX8_missIn_74 (mq_putsBack) lkX8_366 rfl rfl rfl rfl (mem_dom0 (by decide) (by decide)) (by decide) (Nat.le_of_ble_eq_true rfl) rfl ?_
        refine x_meq as_back ?_
        refine x_iload_n (pc := 77) dX8_missIn_77 1 rfl ?_
        exact y_iret (pc := 78) dX8_missIn_78 rfl (by rw [hz]; show _ = (if _ then _ else _); rw [if_pos (by omega)]) rfl
      · refine x_iload_n (pc := 40) dX8_missIn_40 1 rfl ?_
        refine x_iconst (pc := 41) dX8_missIn_41 ?_
        refine x_icmp_ne (pc := 42) 73 dX8_missIn_42 (by decide) (by unfold inI; omega) (by unfold inI; omega) (fun c_42 => ?_) (fun c_42 => (by exfalso; omega))
        refine x_aload_n (pc := 73) dX8_missIn_73 3 rfl ?_
        refine x_callV (pc := 74) _ dX8_missIn_74 (mq_putsBack) lkX8_366 rfl rfl rfl rfl (mem_dom0 (by decide) (by decide)) (by decide) (Nat.le_of_ble_eq_true rfl) rfl ?_
        refine x_meq as_back ?_
        refine x_iload_n (pc := 77) dX8_missIn_77 1 rfl ?_
        exact y_iret (pc := 78) dX8_missIn_78 rfl (by rw [hz]; show _ = (if _ then _ else _); rw [if_pos (by omega)]) rfl

theorem Q_missIn {G : GG} {m : Mem} {N : Int → Int} (hF : NF N) {a0 : Int} (ha0 : inI a0) (h0 : 0 ≤ a0 ∧ a0 < N 3) {c9 : Mem} {p s : Nat} (hP : BP c9 p) (hB : BS c9 p s) (hR : RP c9 p N) (hS : RS c9 p s N) (ht : c9 0 s 0 ≤ 9999) (hpk : a0 < c9 22 p 2) (hi : inI (N (30 + 7 * a0 + 6))) : Ct G MX8_missIn (rmD 9) [rf G 41 0, .int (iI a0)] (hp (sr m N)) (.inl (some (.int (iI (msN N a0 (N (30 + 7 * a0 + 6)) 1 500))))) (hp (asX (thr m 0) N N)) := by
  refine x_entry (by decide +kernel) mwX8_missIn rfl (Nat.le_of_ble_eq_true rfl) ?_
  show X G MX8_missIn (rmD 9) 0 [(0, rf G 41 0), (1, .int (iI a0))] [] (hp (sr m N)) 0 0 (.inl (some (.int (iI (msN N a0 (N (30 + 7 * a0 + 6)) 1 500))))) (hp (asX (thr m 0) N N))
  have n8 := hF.1
  have n16 := hF.2.1
  have nc8 := hF.2.2.1
  have nl16 := hF.2.2.2.1.1
  have t0 := hB.1
  refine x_aload_n (pc := 0) dX8_missIn_0 0 rfl ?_
  refine x_aload_n (pc := 1) dX8_missIn_1 0 rfl ?_
  refine x_iload_n (pc := 2) dX8_missIn_2 1 rfl ?_
  refine x_callV (pc := 3) _ dX8_missIn_3 (mq_isPack a0 ha0 (by omega)) lkX8_234 rfl rfl rfl rfl (mem_dom0 (by decide) (by decide)) (by decide) (Nat.le_of_ble_eq_true rfl) rfl ?_
  refine x_iconst (pc := 6) dX8_missIn_6 ?_
  refine x_callV (pc := 7) _ dX8_missIn_7 (mq_isThrown (b := 0 ≤ a0 ∧ a0 < N 3) 1) lkX8_227 rfl rfl rfl rfl (mem_dom0 (by decide) (by decide)) (by decide) (Nat.le_of_ble_eq_true rfl) rfl ?_
  refine x_nil (m' := sr (thr m 0) N) (by rw [if_pos h0]) ?_
  refine x_ifb_eq (pc := 10) 15 dX8_missIn_10 (by decide) (fun c_10 => ?_) (fun c_10 => absurd c_10 (fun z => z h0))
  refine x_aload_n (pc := 15) dX8_missIn_15 0 rfl ?_
  refine x_callV (pc := 16) _ dX8_missIn_16 (mq_putsAside) lkX8_363 rfl rfl rfl rfl (mem_dom0 (by decide) (by decide)) (by decide) (Nat.le_of_ble_eq_true rfl) rfl ?_
  refine x_nil (m' := asX (thr m 0) N N) as_sr ?_
  refine x_aload_n (pc := 19) dX8_missIn_19 0 rfl ?_
  refine x_iload_n (pc := 20) dX8_missIn_20 1 rfl ?_
  refine x_bipush (pc := 21) (z := 6) dX8_missIn_21 (by decide) ?_
  refine x_callV (pc := 23) _ dX8_missIn_23 (mq_ofPack a0 6 (by omega)) lkX8_189 rfl rfl rfl rfl (mem_dom0 (by decide) (by decide)) (by decide) (Nat.le_of_ble_eq_true rfl) rfl ?_
  refine x_istore_n (pc := 26) (lv' := [(2, _), (0, _), (1, _)]) dX8_missIn_26 rfl (by decide) rfl ?_
  refine x_iconst (pc := 27) dX8_missIn_27 ?_
  refine x_istore_n (pc := 28) (lv' := [(3, _), (2, _), (0, _), (1, _)]) dX8_missIn_28 rfl (by decide) rfl ?_
  refine x_iconst (pc := 29) dX8_missIn_29 ?_
  refine x_istore (pc := 30) (lv' := [(4, _), (3, _), (2, _), (0, _), (1, _)]) dX8_missIn_30 (by decide) rfl ?_
  exact x_lv [0, 1, 2, 3, 4] rfl (lp_missN a0 (N (30 + 7 * a0 + 6)) _ h0.1 hi 500 c9 N 1 hP hB hR hS hpk (by omega) (by omega) (by omega) rfl)

theorem Qx_missIn_0 {G : GG} {m : Mem} {N : Int → Int} (hF : NF N) {a0 : Int} (ha0 : inI a0)  (h0 : ¬ (0 ≤ a0 ∧ a0 < N 3)) : Ct G MX8_missIn (rmD 9) [rf G 41 0, .int (iI a0)] (hp (sr m N)) (.inl (some (.int (iI (0))))) (hp (sr (thr m 1) N)) := by
  refine x_entry (by decide +kernel) mwX8_missIn rfl (Nat.le_of_ble_eq_true rfl) ?_
  show X G MX8_missIn (rmD 9) 0 [(0, rf G 41 0), (1, .int (iI a0))] [] (hp (sr m N)) 0 0 (.inl (some (.int (iI (0))))) (hp (sr (thr m 1) N))
  have n8 := hF.1
  have n16 := hF.2.1
  have nc8 := hF.2.2.1
  have nl16 := hF.2.2.2.1.1
  refine x_aload_n (pc := 0) dX8_missIn_0 0 rfl ?_
  refine x_aload_n (pc := 1) dX8_missIn_1 0 rfl ?_
  refine x_iload_n (pc := 2) dX8_missIn_2 1 rfl ?_
  refine x_callV (pc := 3) _ dX8_missIn_3 (mq_isPack a0 ha0 (by omega)) lkX8_234 rfl rfl rfl rfl (mem_dom0 (by decide) (by decide)) (by decide) (Nat.le_of_ble_eq_true rfl) rfl ?_
  refine x_iconst (pc := 6) dX8_missIn_6 ?_
  refine x_callV (pc := 7) _ dX8_missIn_7 (mq_isThrown (b := 0 ≤ a0 ∧ a0 < N 3) 1) lkX8_227 rfl rfl rfl rfl (mem_dom0 (by decide) (by decide)) (by decide) (Nat.le_of_ble_eq_true rfl) rfl ?_
  refine x_nil (m' := sr (thr m 1) N) (by rw [if_neg h0]) ?_
  refine x_ifb_eq (pc := 10) 15 dX8_missIn_10 (by decide) (fun c_10 => absurd c_10 (fun z => z h0)) (fun c_10 => ?_)
  refine x_iconst (pc := 13) dX8_missIn_13 ?_
  exact y_iret (pc := 14) dX8_missIn_14 rfl rfl rfl

def lkN (N : Int → Int) (t : Int) : Int → Int := trNL (shNL (tkNL N (N (206 + 4 * t + 1) - N 2).toNat) ((tkNL N (N (206 + 4 * t + 1) - N 2).toNat) 2 % 24) 0 ((tkNL N (N (206 + 4 * t + 1) - N 2).toNat) 3).toNat) 0 t.toNat
theorem trNL_s (N : Int → Int) (t : Int) (n : Nat) : trNL N t (n + 1) = trNL (trN N t) (t + 1) n := rfl
theorem lp_lack {G : GG} {m : Mem} {N0 : Int → Int} {p s : Nat} (q : Int) (hq : 0 ≤ q ∧ q < 16) (N9 : Int → Int) (hr : inI (N9 (206 + 4 * q + 2)) ∧ inI (N9 (206 + 4 * q + 0)) ∧ (0 ≤ N9 (206 + 4 * q + 0) ∧ N9 (206 + 4 * q + 0) < 8) ∧ inI (N9 (30 + 7 * N9 (206 + 4 * q + 0) + 1)) ∧ inI (N9 (206 + 4 * q + 2) - N9 (30 + 7 * N9 (206 + 4 * q + 0) + 1))) : ∀ (n : Nat) (c9 : Mem) (N : Int → Int) (k : Int), BP c9 p → BS c9 p s → RP c9 p N → RS c9 p s N → q ≤ c9 1 s 0 → 0 ≤ k → k + n = q → N9 = trNL N k n → X G MX8_lacks (rmD 9) 77 [(2, .int (iI k)), (0, rf G 41 0), (1, .int (iI q))] [] (hp (asX m N0 N)) 0 0 (.inl (some (.int (iI (max 0 (N9 (206 + 4 * q + 2) - N9 (30 + 7 * N9 (206 + 4 * q + 0) + 1))))))) (hp (asX m N0 N0)) := by
  intro n
  induction n with
  | zero =>
    intro c9 N k hP hB hR hS h1 h0 hk h9
    have n16 := hB.2.2.2.1.1
    refine x_iload_n (pc := 77) dX8_lacks_77 0 rfl ?_
    refine x_iload_n (pc := 78) dX8_lacks_78 2 rfl ?_
    refine x_icmp_ge (pc := 79) 101 dX8_lacks_79 (by decide) (by unfold inI; omega) (by unfold inI; omega) (fun c_79 => ?_) (fun c_79 => (by exfalso; omega))
    refine x_iconst (pc := 101) dX8_lacks_101 ?_
    refine x_aload_n (pc := 102) dX8_lacks_102 1 rfl ?_
    refine x_iload_n (pc := 103) dX8_lacks_103 2 rfl ?_
    refine x_iconst (pc := 104) dX8_lacks_104 ?_
    have e9 : N9 = N := h9
    rw [e9] at hr ⊢
    obtain ⟨r1, r2, r3, r4, r5⟩ := hr
    refine x_callV (pc := 105) _ dX8_lacks_105 (mq_ofTrip q 2 (by omega)) lkX8_248 rfl rfl rfl rfl (mem_dom0 (by decide) (by decide)) (by decide) (Nat.le_of_ble_eq_true rfl) rfl ?_
    refine x_aload_n (pc := 108) dX8_lacks_108 1 rfl ?_
    refine x_aload_n (pc := 109) dX8_lacks_109 1 rfl ?_
    refine x_iload_n (pc := 110) dX8_lacks_110 2 rfl ?_
    refine x_iconst (pc := 111) dX8_lacks_111 ?_
    refine x_callV (pc := 112) _ dX8_lacks_112 (mq_ofTrip q 0 (by omega)) lkX8_248 rfl rfl rfl rfl (mem_dom0 (by decide) (by decide)) (by decide) (Nat.le_of_ble_eq_true rfl) rfl ?_
    refine x_iconst (pc := 115) dX8_lacks_115 ?_
    refine x_callV (pc := 116) _ dX8_lacks_116 (mq_ofPack (N (206 + 4 * q + 0)) 1 (by omega)) lkX8_189 rfl rfl rfl rfl (mem_dom0 (by decide) (by decide)) (by decide) (Nat.le_of_ble_eq_true rfl) rfl ?_
    refine x_isub (pc := 119) dX8_lacks_119 ?_
    refine x_max (pc := 120) dX8_lacks_120 lmX8_192 (by unfold inI; omega) r5 (by decide) (Nat.le_of_ble_eq_true rfl) (by decide) (by decide) ?_
    refine x_istore_n (pc := 123) (lv' := [(2, _), (0, _), (1, _)]) dX8_lacks_123 rfl (by decide) rfl ?_
    refine x_aload_n (pc := 124) dX8_lacks_124 1 rfl ?_
    refine x_callV (pc := 125) _ dX8_lacks_125 (mq_putsBack) lkX8_366 rfl rfl rfl rfl (mem_dom0 (by decide) (by decide)) (by decide) (Nat.le_of_ble_eq_true rfl) rfl ?_
    refine x_meq as_back ?_
    refine x_iload_n (pc := 128) dX8_lacks_128 0 rfl ?_
    exact y_iret (pc := 129) dX8_lacks_129 rfl rfl rfl
  | succ n ih =>
    intro c9 N k hP hB hR hS h1 h0 hk h9
    have n16 := hB.2.2.2.1.1
    have tf := BS_tr hP hB h0 (show k < c9 1 s 0 by omega)
    have tr := R_tr hP hB hR hS h0 (show k < c9 1 s 0 by omega)
    refine x_iload_n (pc := 77) dX8_lacks_77 0 rfl ?_
    refine x_iload_n (pc := 78) dX8_lacks_78 2 rfl ?_
    refine x_icmp_ge (pc := 79) 101 dX8_lacks_79 (by decide) (by unfold inI; omega) (by unfold inI; omega) (fun c_79 => (by exfalso; omega)) (fun c_79 => ?_)
    refine x_aload_n (pc := 82) dX8_lacks_82 1 rfl ?_
    refine x_iload_n (pc := 83) dX8_lacks_83 0 rfl ?_
    refine x_callV (pc := 84) _ dX8_lacks_84 (mq_isDueNow k hP hB hR hS h0 (by omega)) lkX8_330 rfl rfl rfl rfl (mem_dom0 (by decide) (by decide)) (by decide) (Nat.le_of_ble_eq_true rfl) rfl ?_
    refine x_ifb_eq (pc := 87) 95 dX8_lacks_87 (by decide) (fun c_87 => ?_) (fun c_87 => ?_)
    · refine x_iinc (pc := 95) (lv' := [(2, _), (0, _), (1, _)]) dX8_lacks_95 0 rfl (by decide) rfl ?_
      refine x_goto (pc := 98) 77 dX8_lacks_98 (by decide) ?_
      have e3 : trN N k = N := by unfold trN; rw [if_neg c_87]
      exact x_lv [0, 1, 2] rfl (ih c9 N (k + 1) hP hB hR hS h1 (by omega) (by omega) (by rw [h9, trNL_s, e3]))
    · refine x_aload_n (pc := 90) dX8_lacks_90 1 rfl ?_
      refine x_iload_n (pc := 91) dX8_lacks_91 0 rfl ?_
      have tz : c9 14 s k = 0 := by have := (hS.2.2.2.2.1 k h0 (by omega)).2.2.2; rw [← this]; exact c_87.2
      refine x_callV (pc := 92) _ dX8_lacks_92 (mq_travels k hP hB hR hS h0 (by omega) tz) lkX8_333 rfl rfl rfl rfl (mem_dom0 (by decide) (by decide)) (by decide) (Nat.le_of_ble_eq_true rfl) rfl ?_
      have e3 : trN3 N k = trN N k := by unfold trN; rw [if_pos c_87]
      rw [e3]
      refine x_iinc (pc := 95) (lv' := [(2, _), (0, _), (1, _)]) dX8_lacks_95 0 rfl (by decide) rfl ?_
      refine x_goto (pc := 98) 77 dX8_lacks_98 (by decide) ?_
      exact x_lv [0, 1, 2] rfl (ih _ _ (k + 1) tf.1 tf.2 tr.1 tr.2 (by rw [trStep_k (by decide) (by decide) (by decide) (by decide)]; exact h1) (by omega) (by omega) (by rw [h9, trNL_s]))

theorem lp_lackT {G : GG} {m mE : Mem} {N0 : Int → Int} {p s : Nat} (q : Int) (hq : 0 ≤ q ∧ q < 16) (N9 : Int → Int) (r9 : Option Value) (kk : ∀ (c9 : Mem) (N : Int → Int), BP c9 p → BS c9 p s → RP c9 p N → RS c9 p s N → q < c9 1 s 0 → c9 0 s 0 ≤ 11000 → N9 = N → X G MX8_lacks (rmD 9) 71 [(0, rf G 41 0), (1, .int (iI q))] [] (hp (asX m N0 N)) 0 0 (.inl r9) (hp mE)) : ∀ (n : Nat) (c9 : Mem) (N : Int → Int), BP c9 p → BS c9 p s → RP c9 p N → RS c9 p s N → q < c9 1 s 0 → c9 0 s 0 + n ≤ 11000 → n = (N (206 + 4 * q + 1) - N 2).toNat → N9 = tkNL N n → X G MX8_lacks (rmD 9) 49 [(0, rf G 41 0), (1, .int (iI q))] [] (hp (asX m N0 N)) 0 0 (.inl r9) (hp (mE)) := by
  intro n
  induction n with
  | zero =>
    intro c9 N hP hB hR hS h1 ht hn h9
    have n16 := hB.2.2.2.1.1
    have e1 := (hS.2.2.2.2.1 q hq.1 h1).2.1
    have k2 := (hB.2.2.2.1.2 q hq.1 h1).2.1
    have e0 := hS.1.1
    have t0 := hB.1
    refine x_aload_n (pc := 49) dX8_lacks_49 0 rfl ?_
    refine y_getR (pc := 50) dX8_lacks_50 flX8_9 rfl rfl rfl (by decide) ?_
    refine x_iconst (pc := 53) dX8_lacks_53 ?_
    refine y_nald (pc := 54) dX8_lacks_54 (by omega) ?_
    refine x_aload_n (pc := 55) dX8_lacks_55 0 rfl ?_
    refine x_iload_n (pc := 56) dX8_lacks_56 1 rfl ?_
    refine x_iconst (pc := 57) dX8_lacks_57 ?_
    refine x_callV (pc := 58) _ dX8_lacks_58 (mq_ofTrip q 1 (by omega)) lkX8_248 rfl rfl rfl rfl (mem_dom0 (by decide) (by decide)) (by decide) (Nat.le_of_ble_eq_true rfl) rfl ?_
    refine x_icmp_ge (pc := 61) 71 dX8_lacks_61 (by decide) (by unfold inI; omega) (by unfold inI; omega) (fun c_61 => ?_) (fun c_61 => (by exfalso; omega))
    exact x_lv [0, 1] rfl (kk c9 N hP hB hR hS h1 (by omega) h9)
  | succ n ih =>
    intro c9 N hP hB hR hS h1 ht hn h9
    have n16 := hB.2.2.2.1.1
    have e1 := (hS.2.2.2.2.1 q hq.1 h1).2.1
    have k2 := (hB.2.2.2.1.2 q hq.1 h1).2.1
    have e0 := hS.1.1
    have t0 := hB.1
    have b := tkC_f hP hB (by omega)
    have r := (R_tk hP hB hR hS).2.2.2.2.2
    have er1 := (r.2.1.2.2.2.2.1 q hq.1 (by rw [tkC_k (by omega)]; exact h1)).2.1
    have e12 : tkN N (206 + 4 * q + 1) = N (206 + 4 * q + 1) := by rw [er1, tkC_k (by omega), e1]
    have er2 := r.2.1.1.1
    have er0 : tkC c9 p s 0 s 0 = c9 0 s 0 + 1 := tkC_t
    refine x_aload_n (pc := 49) dX8_lacks_49 0 rfl ?_
    refine y_getR (pc := 50) dX8_lacks_50 flX8_9 rfl rfl rfl (by decide) ?_
    refine x_iconst (pc := 53) dX8_lacks_53 ?_
    refine y_nald (pc := 54) dX8_lacks_54 (by omega) ?_
    refine x_aload_n (pc := 55) dX8_lacks_55 0 rfl ?_
    refine x_iload_n (pc := 56) dX8_lacks_56 1 rfl ?_
    refine x_iconst (pc := 57) dX8_lacks_57 ?_
    refine x_callV (pc := 58) _ dX8_lacks_58 (mq_ofTrip q 1 (by omega)) lkX8_248 rfl rfl rfl rfl (mem_dom0 (by decide) (by decide)) (by decide) (Nat.le_of_ble_eq_true rfl) rfl ?_
    refine x_icmp_ge (pc := 61) 71 dX8_lacks_61 (by decide) (by unfold inI; omega) (by unfold inI; omega) (fun c_61 => (by exfalso; omega)) (fun c_61 => ?_)
    refine x_aload_n (pc := 64) dX8_lacks_64 0 rfl ?_
    refine x_callV (pc := 65) _ dX8_lacks_65 (mq_passes hP hB hR hS) lkX8_360 rfl rfl rfl rfl (mem_dom0 (by decide) (by decide)) (by decide) (Nat.le_of_ble_eq_true rfl) rfl ?_
    refine x_goto (pc := 68) 49 dX8_lacks_68 (by decide) ?_
    exact x_lv [0, 1] rfl (ih _ _ b.1 b.2 r.1 r.2.1 (by rw [tkC_k (by omega)]; exact h1) (by rw [tkC_t]; omega) (by rw [e12, er2, er0]; omega) (by rw [h9]; rfl))

theorem Q_lacks0 {G : GG} {m : Mem} {N : Int → Int} (hF : NF N) {a0 : Int} (ha0 : inI a0) (h0 : 0 ≤ a0 ∧ a0 < N 7) (hi3 : inI (N (206 + 4 * a0 + 3))) (hi1 : inI (N (206 + 4 * a0 + 1) - N 2)) (hz : N (206 + 4 * a0 + 3) ≠ 0 ∨ 500 ≤ N (206 + 4 * a0 + 1) - N 2) : Ct G MX8_lacks (rmD 9) [rf G 41 0, .int (iI a0)] (hp (sr m N)) (.inl (some (.int (iI (-1))))) (hp (sr (thr m 0) N)) := by
  refine x_entry (by decide +kernel) mwX8_lacks rfl (Nat.le_of_ble_eq_true rfl) ?_
  show X G MX8_lacks (rmD 9) 0 [(0, rf G 41 0), (1, .int (iI a0))] [] (hp (sr m N)) 0 0 (.inl (some (.int (iI (-1))))) (hp (sr (thr m 0) N))
  have n8 := hF.1
  have n16 := hF.2.1
  have nc8 := hF.2.2.1
  have nl16 := hF.2.2.2.1.1
  refine x_aload_n (pc := 0) dX8_lacks_0 0 rfl ?_
  refine x_aload_n (pc := 1) dX8_lacks_1 0 rfl ?_
  refine x_iload_n (pc := 2) dX8_lacks_2 1 rfl ?_
  refine x_callV (pc := 3) _ dX8_lacks_3 (mq_isTrip a0 ha0 (by omega)) lkX8_245 rfl rfl rfl rfl (mem_dom0 (by decide) (by decide)) (by decide) (Nat.le_of_ble_eq_true rfl) rfl ?_
  refine x_iconst (pc := 6) dX8_lacks_6 ?_
  refine x_callV (pc := 7) _ dX8_lacks_7 (mq_isThrown (b := 0 ≤ a0 ∧ a0 < N 7) 1) lkX8_227 rfl rfl rfl rfl (mem_dom0 (by decide) (by decide)) (by decide) (Nat.le_of_ble_eq_true rfl) rfl ?_
  refine x_nil (m' := sr (thr m 0) N) (by rw [if_pos h0]) ?_
  refine x_ifb_eq (pc := 10) 15 dX8_lacks_10 (by decide) (fun c_10 => ?_) (fun c_10 => absurd c_10 (fun z => z h0))
  refine x_aload_n (pc := 15) dX8_lacks_15 0 rfl ?_
  refine x_iload_n (pc := 16) dX8_lacks_16 1 rfl ?_
  refine x_iconst (pc := 17) dX8_lacks_17 ?_
  refine x_callV (pc := 18) _ dX8_lacks_18 (mq_ofTrip a0 3 (by omega)) lkX8_248 rfl rfl rfl rfl (mem_dom0 (by decide) (by decide)) (by decide) (Nat.le_of_ble_eq_true rfl) rfl ?_
  refine x_if_ne (pc := 21) 43 dX8_lacks_21 (by decide) hi3 (fun c_21 => ?_) (fun c_21 => ?_)
  · refine x_iconst (pc := 43) dX8_lacks_43 ?_
    exact y_iret (pc := 44) dX8_lacks_44 rfl rfl rfl
  · refine x_aload_n (pc := 24) dX8_lacks_24 0 rfl ?_
    refine x_iload_n (pc := 25) dX8_lacks_25 1 rfl ?_
    refine x_iconst (pc := 26) dX8_lacks_26 ?_
    refine x_callV (pc := 27) _ dX8_lacks_27 (mq_ofTrip a0 1 (by omega)) lkX8_248 rfl rfl rfl rfl (mem_dom0 (by decide) (by decide)) (by decide) (Nat.le_of_ble_eq_true rfl) rfl ?_
    refine x_aload_n (pc := 30) dX8_lacks_30 0 rfl ?_
    refine y_getR (pc := 31) dX8_lacks_31 flX8_9 rfl rfl rfl (by decide) ?_
    refine x_iconst (pc := 34) dX8_lacks_34 ?_
    refine y_nald (pc := 35) dX8_lacks_35 (by omega) ?_
    refine x_isub (pc := 36) dX8_lacks_36 ?_
    refine x_sipush (pc := 37) (z := 500) dX8_lacks_37 (by decide) ?_
    refine x_icmp_lt (pc := 40) 45 dX8_lacks_40 (by decide) hi1 (by unfold inI; omega) (fun c_40 => (by exfalso; omega)) (fun c_40 => ?_)
    refine x_iconst (pc := 43) dX8_lacks_43 ?_
    exact y_iret (pc := 44) dX8_lacks_44 rfl rfl rfl

theorem Qx_lacks_0 {G : GG} {m : Mem} {N : Int → Int} (hF : NF N) {a0 : Int} (ha0 : inI a0)  (h0 : ¬ (0 ≤ a0 ∧ a0 < N 7)) : Ct G MX8_lacks (rmD 9) [rf G 41 0, .int (iI a0)] (hp (sr m N)) (.inl (some (.int (iI (0))))) (hp (sr (thr m 1) N)) := by
  refine x_entry (by decide +kernel) mwX8_lacks rfl (Nat.le_of_ble_eq_true rfl) ?_
  show X G MX8_lacks (rmD 9) 0 [(0, rf G 41 0), (1, .int (iI a0))] [] (hp (sr m N)) 0 0 (.inl (some (.int (iI (0))))) (hp (sr (thr m 1) N))
  have n8 := hF.1
  have n16 := hF.2.1
  have nc8 := hF.2.2.1
  have nl16 := hF.2.2.2.1.1
  refine x_aload_n (pc := 0) dX8_lacks_0 0 rfl ?_
  refine x_aload_n (pc := 1) dX8_lacks_1 0 rfl ?_
  refine x_iload_n (pc := 2) dX8_lacks_2 1 rfl ?_
  refine x_callV (pc := 3) _ dX8_lacks_3 (mq_isTrip a0 ha0 (by omega)) lkX8_245 rfl rfl rfl rfl (mem_dom0 (by decide) (by decide)) (by decide) (Nat.le_of_ble_eq_true rfl) rfl ?_
  refine x_iconst (pc := 6) dX8_lacks_6 ?_
  refine x_callV (pc := 7) _ dX8_lacks_7 (mq_isThrown (b := 0 ≤ a0 ∧ a0 < N 7) 1) lkX8_227 rfl rfl rfl rfl (mem_dom0 (by decide) (by decide)) (by decide) (Nat.le_of_ble_eq_true rfl) rfl ?_
  refine x_nil (m' := sr (thr m 1) N) (by rw [if_neg h0]) ?_
  refine x_ifb_eq (pc := 10) 15 dX8_lacks_10 (by decide) (fun c_10 => absurd c_10 (fun z => z h0)) (fun c_10 => ?_)
  refine x_iconst (pc := 13) dX8_lacks_13 ?_
  exact y_iret (pc := 14) dX8_lacks_14 rfl rfl rfl

theorem tl_lack {G : GG} {m : Mem} {N0 N N9 : Int → Int} {c9 : Mem} {p s : Nat} (q : Int) (hq : 0 ≤ q ∧ q < 16) (hP : BP c9 p) (hB : BS c9 p s) (hR : RP c9 p N) (hS : RS c9 p s N) (h1 : q < c9 1 s 0) (hr : inI (N9 (206 + 4 * q + 2)) ∧ inI (N9 (206 + 4 * q + 0)) ∧ (0 ≤ N9 (206 + 4 * q + 0) ∧ N9 (206 + 4 * q + 0) < 8) ∧ inI (N9 (30 + 7 * N9 (206 + 4 * q + 0) + 1)) ∧ inI (N9 (206 + 4 * q + 2) - N9 (30 + 7 * N9 (206 + 4 * q + 0) + 1))) (h9 : N9 = trNL (shNL N (N 2 % 24) 0 (N 3).toNat) 0 q.toNat) : X G MX8_lacks (rmD 9) 71 [(0, rf G 41 0), (1, .int (iI q))] [] (hp (asX m N0 N)) 0 0 (.inl (some (.int (iI (max 0 (N9 (206 + 4 * q + 2) - N9 (30 + 7 * N9 (206 + 4 * q + 0) + 1))))))) (hp (asX m N0 N0)) := by
  have t0 := hB.1
  have e3 := hR.1.2.2.1
  have e0 := hS.1.1
  have n8 := hP.2.2.1
  have sf := BS_shL (p := p) (s := s) (hr := c9 0 s 0 % 24) (c9 22 p 2).toNat c9 0 hP hB (by omega) (by omega)
  have sr := R_shL (p := p) (s := s) (hr := c9 0 s 0 % 24) (by omega) (c9 22 p 2).toNat c9 N 0 hP hB hR hS (by omega) (by omega)
  rw [← e0, ← e3] at sf sr
  refine x_aload_n (pc := 71) dX8_lacks_71 0 rfl ?_
  refine x_callV (pc := 72) _ dX8_lacks_72 (mq_shine hP hB hR hS) lkX8_327 rfl rfl rfl rfl (mem_dom0 (by decide) (by decide)) (by decide) (Nat.le_of_ble_eq_true rfl) rfl ?_
  refine x_iconst (pc := 75) dX8_lacks_75 ?_
  refine x_istore_n (pc := 76) (lv' := [(2, _), (0, _), (1, _)]) dX8_lacks_76 rfl (by decide) rfl ?_
  exact x_lv [0, 1, 2] rfl (lp_lack q (by omega) N9 hr q.toNat _ _ 0 sf.1 sf.2 sr.1 sr.2 (by rw [shL_k (by decide) (by decide)]; omega) (by omega) (by omega) h9)

theorem Q_lacks1 {G : GG} {m : Mem} {N : Int → Int} (hF : NF N) {a0 : Int} (ha0 : inI a0) (h0 : 0 ≤ a0 ∧ a0 < N 7) {c9 : Mem} {p s : Nat} (hP : BP c9 p) (hB : BS c9 p s) (hR : RP c9 p N) (hS : RS c9 p s N) (ht : c9 0 s 0 ≤ 9999) (h1 : a0 < c9 1 s 0) (hz : N (206 + 4 * a0 + 3) = 0) (hz2 : N (206 + 4 * a0 + 1) - N 2 < 500) (hr : inI (lkN N a0 (206 + 4 * a0 + 2)) ∧ inI (lkN N a0 (206 + 4 * a0 + 0)) ∧ (0 ≤ lkN N a0 (206 + 4 * a0 + 0) ∧ lkN N a0 (206 + 4 * a0 + 0) < 8) ∧ inI (lkN N a0 (30 + 7 * lkN N a0 (206 + 4 * a0 + 0) + 1)) ∧ inI (lkN N a0 (206 + 4 * a0 + 2) - lkN N a0 (30 + 7 * lkN N a0 (206 + 4 * a0 + 0) + 1))) : Ct G MX8_lacks (rmD 9) [rf G 41 0, .int (iI a0)] (hp (sr m N)) (.inl (some (.int (iI (max 0 (lkN N a0 (206 + 4 * a0 + 2) - lkN N a0 (30 + 7 * lkN N a0 (206 + 4 * a0 + 0) + 1))))))) (hp (asX (thr m 0) N N)) := by
  refine x_entry (by decide +kernel) mwX8_lacks rfl (Nat.le_of_ble_eq_true rfl) ?_
  show X G MX8_lacks (rmD 9) 0 [(0, rf G 41 0), (1, .int (iI a0))] [] (hp (sr m N)) 0 0 (.inl (some (.int (iI (max 0 (lkN N a0 (206 + 4 * a0 + 2) - lkN N a0 (30 + 7 * lkN N a0 (206 + 4 * a0 + 0) + 1))))))) (hp (asX (thr m 0) N N))
  have n8 := hF.1
  have n16 := hF.2.1
  have nc8 := hF.2.2.1
  have nl16 := hF.2.2.2.1.1
  have n16b := hB.2.2.2.1.1
  have e1 := (hS.2.2.2.2.1 a0 h0.1 h1).2.1
  have k2 := (hB.2.2.2.1.2 a0 h0.1 h1).2.1
  have e0 := hS.1.1
  have t0 := hB.1
  refine x_aload_n (pc := 0) dX8_lacks_0 0 rfl ?_
  refine x_aload_n (pc := 1) dX8_lacks_1 0 rfl ?_
  refine x_iload_n (pc := 2) dX8_lacks_2 1 rfl ?_
  refine x_callV (pc := 3) _ dX8_lacks_3 (mq_isTrip a0 ha0 (by omega)) lkX8_245 rfl rfl rfl rfl (mem_dom0 (by decide) (by decide)) (by decide) (Nat.le_of_ble_eq_true rfl) rfl ?_
  refine x_iconst (pc := 6) dX8_lacks_6 ?_
  refine x_callV (pc := 7) _ dX8_lacks_7 (mq_isThrown (b := 0 ≤ a0 ∧ a0 < N 7) 1) lkX8_227 rfl rfl rfl rfl (mem_dom0 (by decide) (by decide)) (by decide) (Nat.le_of_ble_eq_true rfl) rfl ?_
  refine x_nil (m' := sr (thr m 0) N) (by rw [if_pos h0]) ?_
  refine x_ifb_eq (pc := 10) 15 dX8_lacks_10 (by decide) (fun c_10 => ?_) (fun c_10 => absurd c_10 (fun z => z h0))
  refine x_aload_n (pc := 15) dX8_lacks_15 0 rfl ?_
  refine x_iload_n (pc := 16) dX8_lacks_16 1 rfl ?_
  refine x_iconst (pc := 17) dX8_lacks_17 ?_
  refine x_callV (pc := 18) _ dX8_lacks_18 (mq_ofTrip a0 3 (by omega)) lkX8_248 rfl rfl rfl rfl (mem_dom0 (by decide) (by decide)) (by decide) (Nat.le_of_ble_eq_true rfl) rfl ?_
  refine x_if_ne (pc := 21) 43 dX8_lacks_21 (by decide) (by rw [hz]; unfold inI; decide) (fun c_21 => absurd c_21 (fun z => z hz)) (fun c_21 => ?_)
  refine x_aload_n (pc := 24) dX8_lacks_24 0 rfl ?_
  refine x_iload_n (pc := 25) dX8_lacks_25 1 rfl ?_
  refine x_iconst (pc := 26) dX8_lacks_26 ?_
  refine x_callV (pc := 27) _ dX8_lacks_27 (mq_ofTrip a0 1 (by omega)) lkX8_248 rfl rfl rfl rfl (mem_dom0 (by decide) (by decide)) (by decide) (Nat.le_of_ble_eq_true rfl) rfl ?_
  refine x_aload_n (pc := 30) dX8_lacks_30 0 rfl ?_
  refine y_getR (pc := 31) dX8_lacks_31 flX8_9 rfl rfl rfl (by decide) ?_
  refine x_iconst (pc := 34) dX8_lacks_34 ?_
  refine y_nald (pc := 35) dX8_lacks_35 (by omega) ?_
  refine x_isub (pc := 36) dX8_lacks_36 ?_
  refine x_sipush (pc := 37) (z := 500) dX8_lacks_37 (by decide) ?_
  refine x_icmp_lt (pc := 40) 45 dX8_lacks_40 (by decide) (by unfold inI; omega) (by unfold inI; omega) (fun c_40 => ?_) (fun c_40 => (by exfalso; omega))
  refine x_aload_n (pc := 45) dX8_lacks_45 0 rfl ?_
  refine x_callV (pc := 46) _ dX8_lacks_46 (mq_putsAside) lkX8_363 rfl rfl rfl rfl (mem_dom0 (by decide) (by decide)) (by decide) (Nat.le_of_ble_eq_true rfl) rfl ?_
  refine x_nil (m' := asX (thr m 0) N N) as_sr ?_
  exact x_lv [0, 1] rfl (lp_lackT a0 (by omega) _ _ (fun c9 N2 hP hB hR hS h1 ht he => tl_lack a0 (by omega) hP hB hR hS h1 hr (by rw [← he]; rfl)) (N (206 + 4 * a0 + 1) - N 2).toNat c9 N hP hB hR hS h1 (by omega) rfl rfl)

theorem lp_safeN {G : GG} {m : Mem} {N0 : Int → Int} {p s : Nat} (l w q c x k : Int) (hq : 0 ≤ q ∧ q < 8) (hw : inI w) (hk : 0 ≤ k ∧ k ≤ 11000) (N9 : Int → Int) (hd : inI (N9 (30 + 7 * q + 6) - N0 (30 + 7 * q + 6))) : ∀ (n : Nat) (c9 : Mem) (N : Int → Int) (i : Int), BP c9 p → BS c9 p s → RP c9 p N → RS c9 p s N → c9 0 s 0 + n ≤ 11000 → 0 ≤ i → i + n = k → N9 = tkNL N n → X G MX8_isSafe (rmD 10) 88 [(7, .int (iI i)), (6, .int (iI l)), (5, .int (iI w)), (4, .int (iI q)), (0, rf G 41 0), (1, .int (iI c)), (2, .int (iI x)), (3, .int (iI k))] [] (hp (asX m N0 N)) 0 0 (.inl (some (.int (iI (if N9 (30 + 7 * q + 6) - N0 (30 + 7 * q + 6) ≤ w then 1 else 0))))) (hp (asX m N0 N0)) := by
  intro n
  induction n with
  | zero =>
    intro c9 N i hP hB hR hS ht h0 h1 h9
    refine x_iload (pc := 88) dX8_isSafe_88 0 rfl ?_
    refine x_iload_n (pc := 90) dX8_isSafe_90 7 rfl ?_
    refine x_icmp_ge (pc := 91) 104 dX8_isSafe_91 (by decide) (by unfold inI; omega) (by unfold inI; omega) (fun c_91 => ?_) (fun c_91 => (by exfalso; omega))
    refine x_aload_n (pc := 104) dX8_isSafe_104 4 rfl ?_
    refine x_iload (pc := 105) dX8_isSafe_105 3 rfl ?_
    refine x_bipush (pc := 107) (z := 6) dX8_isSafe_107 (by decide) ?_
    have e9 : N9 = N := h9
    rw [e9] at hd ⊢
    refine x_callV (pc := 109) _ dX8_isSafe_109 (mq_ofPack q 6 (by omega)) lkX8_189 rfl rfl rfl rfl (mem_dom0 (by decide) (by decide)) (by decide) (Nat.le_of_ble_eq_true rfl) rfl ?_
    refine x_istore (pc := 112) (lv' := [(7, _), (6, _), (5, _), (4, _), (0, _), (1, _), (2, _), (3, _)]) dX8_isSafe_112 (by decide) rfl ?_
    refine x_aload_n (pc := 114) dX8_isSafe_114 4 rfl ?_
    refine x_callV (pc := 115) _ dX8_isSafe_115 (mq_putsBack) lkX8_366 rfl rfl rfl rfl (mem_dom0 (by decide) (by decide)) (by decide) (Nat.le_of_ble_eq_true rfl) rfl ?_
    refine x_meq as_back ?_
    refine x_iload (pc := 118) dX8_isSafe_118 0 rfl ?_
    refine x_aload_n (pc := 120) dX8_isSafe_120 4 rfl ?_
    refine x_iload (pc := 121) dX8_isSafe_121 3 rfl ?_
    refine x_bipush (pc := 123) (z := 6) dX8_isSafe_123 (by decide) ?_
    refine x_callV (pc := 125) _ dX8_isSafe_125 (mq_ofPack q 6 (by omega)) lkX8_189 rfl rfl rfl rfl (mem_dom0 (by decide) (by decide)) (by decide) (Nat.le_of_ble_eq_true rfl) rfl ?_
    refine x_isub (pc := 128) dX8_isSafe_128 ?_
    refine x_iload (pc := 129) dX8_isSafe_129 2 rfl ?_
    refine x_icmp_gt (pc := 131) 138 dX8_isSafe_131 (by decide) hd hw (fun c_131 => ?_) (fun c_131 => ?_)
    · refine x_iconst (pc := 138) dX8_isSafe_138 ?_
      exact y_z0ret (pc := 139) dX8_isSafe_139 rfl (by omega) rfl
    · refine x_iconst (pc := 134) dX8_isSafe_134 ?_
      refine x_goto (pc := 135) 139 dX8_isSafe_135 (by decide) ?_
      exact y_z1ret (pc := 139) dX8_isSafe_139 rfl (by omega) rfl
  | succ n ih =>
    intro c9 N i hP hB hR hS ht h0 h1 h9
    have b := tkC_f hP hB (by omega)
    have r := (R_tk hP hB hR hS).2.2.2.2.2
    refine x_iload (pc := 88) dX8_isSafe_88 0 rfl ?_
    refine x_iload_n (pc := 90) dX8_isSafe_90 7 rfl ?_
    refine x_icmp_ge (pc := 91) 104 dX8_isSafe_91 (by decide) (by unfold inI; omega) (by unfold inI; omega) (fun c_91 => (by exfalso; omega)) (fun c_91 => ?_)
    refine x_aload_n (pc := 94) dX8_isSafe_94 4 rfl ?_
    refine x_callV (pc := 95) _ dX8_isSafe_95 (mq_passes hP hB hR hS) lkX8_360 rfl rfl rfl rfl (mem_dom0 (by decide) (by decide)) (by decide) (Nat.le_of_ble_eq_true rfl) rfl ?_
    refine x_iinc (pc := 98) (lv' := [(7, _), (6, _), (5, _), (4, _), (0, _), (1, _), (2, _), (3, _)]) dX8_isSafe_98 0 rfl (by decide) rfl ?_
    refine x_goto (pc := 101) 88 dX8_isSafe_101 (by decide) ?_
    exact x_lv [0, 1, 2, 3, 4, 5, 6, 7] rfl (ih _ _ (i + 1) b.1 b.2 r.1 r.2.1 (by rw [tkC_t]; omega) (by omega) (by omega) (by rw [h9]; rfl))

theorem Q_isSafe0 {G : GG} {m : Mem} {N : Int → Int} (hF : NF N) {a0 a1 a2 : Int} (ha0 : inI a0) (ha1 : inI a1) (ha2 : inI a2) (h0 : 0 ≤ a0 ∧ a0 < N 8) (h1 : (1 ≤ a1 ∧ a1 ≤ 100000) ∧ (1 ≤ a2 ∧ a2 ≤ 500)) (hz : hinN N a0 a1 ≠ 0) : Ct G MX8_isSafe (rmD 9) [rf G 41 0, .int (iI a0), .int (iI a1), .int (iI a2)] (hp (sr m N)) (.inl (some (.int (iI (if False then 1 else 0))))) (hp (sr (thr m 0) N)) := by
  refine x_entry (by decide +kernel) mwX8_isSafe rfl (Nat.le_of_ble_eq_true rfl) ?_
  show X G MX8_isSafe (rmD 9) 0 [(0, rf G 41 0), (1, .int (iI a0)), (2, .int (iI a1)), (3, .int (iI a2))] [] (hp (sr m N)) 0 0 (.inl (some (.int (iI (if False then 1 else 0))))) (hp (sr (thr m 0) N))
  have n8 := hF.1
  have n16 := hF.2.1
  have nc8 := hF.2.2.1
  have nl16 := hF.2.2.2.1.1
  have kc := hF.2.2.2.2.2.2.1 a0 h0.1 h0.2
  have kc0 := kc.1
  have kp := hF.2.2.2.2.2.1 _ kc0.1 kc0.2
  have kc2 := kc.2.2.1
  have kc5 := kc.2.2.2
  have kab := kp.2.2
  have h1a := h1.1
  refine x_aload_n (pc := 0) dX8_isSafe_0 0 rfl ?_
  refine x_aload_n (pc := 1) dX8_isSafe_1 0 rfl ?_
  refine x_iload_n (pc := 2) dX8_isSafe_2 1 rfl ?_
  refine x_callV (pc := 3) _ dX8_isSafe_3 (mq_isContract a0 ha0 (by omega)) lkX8_257 rfl rfl rfl rfl (mem_dom0 (by decide) (by decide)) (by decide) (Nat.le_of_ble_eq_true rfl) rfl ?_
  refine x_iconst (pc := 6) dX8_isSafe_6 ?_
  refine x_callV (pc := 7) _ dX8_isSafe_7 (mq_isThrown (b := 0 ≤ a0 ∧ a0 < N 8) 1) lkX8_227 rfl rfl rfl rfl (mem_dom0 (by decide) (by decide)) (by decide) (Nat.le_of_ble_eq_true rfl) rfl ?_
  refine x_nil (m' := sr (thr m 0) N) (by rw [if_pos h0]) ?_
  refine x_ifb_ne (pc := 10) 40 dX8_isSafe_10 (by decide) (fun c_10 => absurd c_10 (fun z => z h0)) (fun c_10 => ?_)
  refine x_aload_n (pc := 13) dX8_isSafe_13 0 rfl ?_
  refine x_iload_n (pc := 14) dX8_isSafe_14 2 rfl ?_
  refine x_callS (pc := 15) _ dX8_isSafe_15 (mq_isAmount a1 ha1) lkX8_281 rfl (by decide) (Nat.le_of_ble_eq_true rfl) rfl ?_
  refine x_ifb_eq (pc := 18) 32 dX8_isSafe_18 (by decide) (fun c_18 => absurd c_18 (fun z => z h1.1)) (fun c_18 => ?_)
  refine x_iload_n (pc := 21) dX8_isSafe_21 3 rfl ?_
  refine x_callS (pc := 22) _ dX8_isSafe_22 (mq_areTicks a2 ha2) lkX8_371 rfl (by decide) (Nat.le_of_ble_eq_true rfl) rfl ?_
  refine x_ifb_eq (pc := 25) 32 dX8_isSafe_25 (by decide) (fun c_25 => absurd c_25 (fun z => z h1.2)) (fun c_25 => ?_)
  refine x_iconst (pc := 28) dX8_isSafe_28 ?_
  refine x_goto (pc := 29) 33 dX8_isSafe_29 (by decide) ?_
  refine x_iconst (pc := 33) dX8_isSafe_33 ?_
  refine x_callV (pc := 34) _ dX8_isSafe_34 (mq_isThrown (b := True) 2) lkX8_227 rfl rfl rfl rfl (mem_dom0 (by decide) (by decide)) (by decide) (Nat.le_of_ble_eq_true rfl) rfl ?_
  refine x_nil (m' := sr (thr m 0) N) (by rw [if_pos trivial, thr_thr]) ?_
  refine x_ifb_eq (pc := 37) 42 dX8_isSafe_37 (by decide) (fun c_37 => ?_) (fun c_37 => absurd c_37 (fun z => z trivial))
  refine x_aload_n (pc := 42) dX8_isSafe_42 0 rfl ?_
  refine x_iload_n (pc := 43) dX8_isSafe_43 1 rfl ?_
  refine x_iload_n (pc := 44) dX8_isSafe_44 2 rfl ?_
  refine x_callV (pc := 45) _ dX8_isSafe_45 (mq_hindered a0 a1 (by omega) (by omega) hF.2.2.2.1 (by omega) (by unfold inI; omega) (by unfold inI; omega) (by unfold inI; omega) (outN_b hF.2.2.2.1 a0)) lkX8_290 rfl rfl rfl rfl (mem_dom0 (by decide) (by decide)) (by decide) (Nat.le_of_ble_eq_true rfl) rfl ?_
  refine x_if_eq (pc := 48) 53 dX8_isSafe_48 (by decide) (hinN_in _ _ _) (fun c_48 => absurd c_48 hz) (fun c_48 => ?_)
  refine x_iconst (pc := 51) dX8_isSafe_51 ?_
  exact y_z0ret (pc := 52) dX8_isSafe_52 rfl id rfl

theorem Qx_isSafe_0 {G : GG} {m : Mem} {N : Int → Int} (hF : NF N) {a0 a1 a2 : Int} (ha0 : inI a0) (ha1 : inI a1) (ha2 : inI a2)  (h0 : ¬ (0 ≤ a0 ∧ a0 < N 8)) : Ct G MX8_isSafe (rmD 9) [rf G 41 0, .int (iI a0), .int (iI a1), .int (iI a2)] (hp (sr m N)) (.inl (some (.int (iI (if False then 1 else 0))))) (hp (sr (thr m 1) N)) := by
  refine x_entry (by decide +kernel) mwX8_isSafe rfl (Nat.le_of_ble_eq_true rfl) ?_
  show X G MX8_isSafe (rmD 9) 0 [(0, rf G 41 0), (1, .int (iI a0)), (2, .int (iI a1)), (3, .int (iI a2))] [] (hp (sr m N)) 0 0 (.inl (some (.int (iI (if False then 1 else 0))))) (hp (sr (thr m 1) N))
  have n8 := hF.1
  have n16 := hF.2.1
  have nc8 := hF.2.2.1
  have nl16 := hF.2.2.2.1.1
  refine x_aload_n (pc := 0) dX8_isSafe_0 0 rfl ?_
  refine x_aload_n (pc := 1) dX8_isSafe_1 0 rfl ?_
  refine x_iload_n (pc := 2) dX8_isSafe_2 1 rfl ?_
  refine x_callV (pc := 3) _ dX8_isSafe_3 (mq_isContract a0 ha0 (by omega)) lkX8_257 rfl rfl rfl rfl (mem_dom0 (by decide) (by decide)) (by decide) (Nat.le_of_ble_eq_true rfl) rfl ?_
  refine x_iconst (pc := 6) dX8_isSafe_6 ?_
  refine x_callV (pc := 7) _ dX8_isSafe_7 (mq_isThrown (b := 0 ≤ a0 ∧ a0 < N 8) 1) lkX8_227 rfl rfl rfl rfl (mem_dom0 (by decide) (by decide)) (by decide) (Nat.le_of_ble_eq_true rfl) rfl ?_
  refine x_nil (m' := sr (thr m 1) N) (by rw [if_neg h0]) ?_
  refine x_ifb_ne (pc := 10) 40 dX8_isSafe_10 (by decide) (fun c_10 => ?_) (fun c_10 => absurd c_10 (fun z => z h0))
  refine x_iconst (pc := 40) dX8_isSafe_40 ?_
  exact y_z0ret (pc := 41) dX8_isSafe_41 rfl id rfl

theorem Qx_isSafe_1 {G : GG} {m : Mem} {N : Int → Int} (hF : NF N) {a0 a1 a2 : Int} (ha0 : inI a0) (ha1 : inI a1) (ha2 : inI a2) (h0 : 0 ≤ a0 ∧ a0 < N 8) (h1 : ¬ ((1 ≤ a1 ∧ a1 ≤ 100000) ∧ (1 ≤ a2 ∧ a2 ≤ 500))) : Ct G MX8_isSafe (rmD 9) [rf G 41 0, .int (iI a0), .int (iI a1), .int (iI a2)] (hp (sr m N)) (.inl (some (.int (iI (if False then 1 else 0))))) (hp (sr (thr m 2) N)) := by
  refine x_entry (by decide +kernel) mwX8_isSafe rfl (Nat.le_of_ble_eq_true rfl) ?_
  show X G MX8_isSafe (rmD 9) 0 [(0, rf G 41 0), (1, .int (iI a0)), (2, .int (iI a1)), (3, .int (iI a2))] [] (hp (sr m N)) 0 0 (.inl (some (.int (iI (if False then 1 else 0))))) (hp (sr (thr m 2) N))
  have n8 := hF.1
  have n16 := hF.2.1
  have nc8 := hF.2.2.1
  have nl16 := hF.2.2.2.1.1
  refine x_aload_n (pc := 0) dX8_isSafe_0 0 rfl ?_
  refine x_aload_n (pc := 1) dX8_isSafe_1 0 rfl ?_
  refine x_iload_n (pc := 2) dX8_isSafe_2 1 rfl ?_
  refine x_callV (pc := 3) _ dX8_isSafe_3 (mq_isContract a0 ha0 (by omega)) lkX8_257 rfl rfl rfl rfl (mem_dom0 (by decide) (by decide)) (by decide) (Nat.le_of_ble_eq_true rfl) rfl ?_
  refine x_iconst (pc := 6) dX8_isSafe_6 ?_
  refine x_callV (pc := 7) _ dX8_isSafe_7 (mq_isThrown (b := 0 ≤ a0 ∧ a0 < N 8) 1) lkX8_227 rfl rfl rfl rfl (mem_dom0 (by decide) (by decide)) (by decide) (Nat.le_of_ble_eq_true rfl) rfl ?_
  refine x_nil (m' := sr (thr m 0) N) (by rw [if_pos h0]) ?_
  refine x_ifb_ne (pc := 10) 40 dX8_isSafe_10 (by decide) (fun c_10 => absurd c_10 (fun z => z h0)) (fun c_10 => ?_)
  refine x_aload_n (pc := 13) dX8_isSafe_13 0 rfl ?_
  refine x_iload_n (pc := 14) dX8_isSafe_14 2 rfl ?_
  refine x_callS (pc := 15) _ dX8_isSafe_15 (mq_isAmount a1 ha1) lkX8_281 rfl (by decide) (Nat.le_of_ble_eq_true rfl) rfl ?_
  refine x_ifb_eq (pc := 18) 32 dX8_isSafe_18 (by decide) (fun c_18 => ?_) (fun c_18 => ?_)
  · refine x_iconst (pc := 32) dX8_isSafe_32 ?_
    refine x_iconst (pc := 33) dX8_isSafe_33 ?_
    refine x_callV (pc := 34) _ dX8_isSafe_34 (mq_isThrown (b := False) 2) lkX8_227 rfl rfl rfl rfl (mem_dom0 (by decide) (by decide)) (by decide) (Nat.le_of_ble_eq_true rfl) rfl ?_
    refine x_nil (m' := sr (thr m 2) N) (by rw [if_neg id, thr_thr]) ?_
    refine x_ifb_eq (pc := 37) 42 dX8_isSafe_37 (by decide) (fun c_37 => absurd c_37 (fun z => z id)) (fun c_37 => ?_)
    refine x_iconst (pc := 40) dX8_isSafe_40 ?_
    exact y_z0ret (pc := 41) dX8_isSafe_41 rfl id rfl
  · refine x_iload_n (pc := 21) dX8_isSafe_21 3 rfl ?_
    refine x_callS (pc := 22) _ dX8_isSafe_22 (mq_areTicks a2 ha2) lkX8_371 rfl (by decide) (Nat.le_of_ble_eq_true rfl) rfl ?_
    refine x_ifb_eq (pc := 25) 32 dX8_isSafe_25 (by decide) (fun c_25 => ?_) (fun c_25 => absurd c_25 (fun z => h1 ⟨c_18, z⟩))
    refine x_iconst (pc := 32) dX8_isSafe_32 ?_
    refine x_iconst (pc := 33) dX8_isSafe_33 ?_
    refine x_callV (pc := 34) _ dX8_isSafe_34 (mq_isThrown (b := False) 2) lkX8_227 rfl rfl rfl rfl (mem_dom0 (by decide) (by decide)) (by decide) (Nat.le_of_ble_eq_true rfl) rfl ?_
    refine x_nil (m' := sr (thr m 2) N) (by rw [if_neg id, thr_thr]) ?_
    refine x_ifb_eq (pc := 37) 42 dX8_isSafe_37 (by decide) (fun c_37 => absurd c_37 (fun z => z id)) (fun c_37 => ?_)
    refine x_iconst (pc := 40) dX8_isSafe_40 ?_
    exact y_z0ret (pc := 41) dX8_isSafe_41 rfl id rfl

theorem as_cp {m : Mem} {N : Int → Int} : cpX (asX m N N) 42 44 0 0 430 = asX m N N := by
  funext k i j
  by_cases h2 : k = 44 ∧ i = 0 ∧ 430 * 0 ≤ j ∧ j < 430 * 0 + 430
  · have e3 : cpX (asX m N N) 42 44 0 0 430 k i j = asX m N N 42 0 (430 * 0 + (j - 430 * 0)) := by unfold cpX; rw [if_pos h2]
    have e4 : asX m N N k i = cpX (sr m N) 42 44 0 0 430 k i := sr_k (by omega)
    have e5 : cpX (sr m N) 42 44 0 0 430 k i j = sr m N 42 0 (430 * 0 + (j - 430 * 0)) := by unfold cpX; rw [if_pos h2]
    rw [e3, e4, e5]
    unfold asX
    rw [sr_42, sr_42]
  · unfold cpX
    rw [if_neg h2]
theorem Q_isSafe1 {G : GG} {m : Mem} {N : Int → Int} (hF : NF N) {a0 a1 a2 : Int} (ha0 : inI a0) (ha1 : inI a1) (ha2 : inI a2) (h0 : 0 ≤ a0 ∧ a0 < N 8) (h1 : (1 ≤ a1 ∧ a1 ≤ 100000) ∧ (1 ≤ a2 ∧ a2 ≤ 500)) {c9 : Mem} {p s : Nat} (hP : BP c9 p) (hB : BS c9 p s) (hR : RP c9 p N) (hS : RS c9 p s N) (ht : c9 0 s 0 ≤ 9999) {d9 : Mem} (gP : BP d9 p) (gB : BS d9 p s) (gR : RP d9 p (ldN N a0 a1 a2)) (gS : RS d9 p s (ldN N a0 a1 a2)) (gt : d9 0 s 0 ≤ 9999) (hw : inI (tkNL N a2.toNat (30 + 7 * N (270 + 6 * a0 + 0) + 6) - N (30 + 7 * N (270 + 6 * a0 + 0) + 6))) (hd : inI (tkNL (ldN N a0 a1 a2) a2.toNat (30 + 7 * N (270 + 6 * a0 + 0) + 6) - N (30 + 7 * N (270 + 6 * a0 + 0) + 6))) (hz : hinN N a0 a1 = 0) : Ct G MX8_isSafe (rmD 10) [rf G 41 0, .int (iI a0), .int (iI a1), .int (iI a2)] (hp (sr m N)) (.inl (some (.int (iI (if (tkNL (ldN N a0 a1 a2) a2.toNat (30 + 7 * N (270 + 6 * a0 + 0) + 6) - N (30 + 7 * N (270 + 6 * a0 + 0) + 6)) ≤ (tkNL N a2.toNat (30 + 7 * N (270 + 6 * a0 + 0) + 6) - N (30 + 7 * N (270 + 6 * a0 + 0) + 6)) then 1 else 0))))) (hp (asX (thr m 0) N N)) := by
  refine x_entry (by decide +kernel) mwX8_isSafe rfl (Nat.le_of_ble_eq_true rfl) ?_
  show X G MX8_isSafe (rmD 10) 0 [(0, rf G 41 0), (1, .int (iI a0)), (2, .int (iI a1)), (3, .int (iI a2))] [] (hp (sr m N)) 0 0 (.inl (some (.int (iI (if (tkNL (ldN N a0 a1 a2) a2.toNat (30 + 7 * N (270 + 6 * a0 + 0) + 6) - N (30 + 7 * N (270 + 6 * a0 + 0) + 6)) ≤ (tkNL N a2.toNat (30 + 7 * N (270 + 6 * a0 + 0) + 6) - N (30 + 7 * N (270 + 6 * a0 + 0) + 6)) then 1 else 0))))) (hp (asX (thr m 0) N N))
  have n8 := hF.1
  have n16 := hF.2.1
  have nc8 := hF.2.2.1
  have nl16 := hF.2.2.2.1.1
  have kc := hF.2.2.2.2.2.2.1 a0 h0.1 h0.2
  have kc0 := kc.1
  have kp := hF.2.2.2.2.2.1 _ kc0.1 kc0.2
  have kc2 := kc.2.2.1
  have kc5 := kc.2.2.2
  have kab := kp.2.2
  have h1a := h1.1
  have t0 := hB.1
  have g0 := gB.1
  have h1b := h1.2
  refine x_aload_n (pc := 0) dX8_isSafe_0 0 rfl ?_
  refine x_aload_n (pc := 1) dX8_isSafe_1 0 rfl ?_
  refine x_iload_n (pc := 2) dX8_isSafe_2 1 rfl ?_
  refine x_callV (pc := 3) _ dX8_isSafe_3 (mq_isContract a0 ha0 (by omega)) lkX8_257 rfl rfl rfl rfl (mem_dom0 (by decide) (by decide)) (by decide) (Nat.le_of_ble_eq_true rfl) rfl ?_
  refine x_iconst (pc := 6) dX8_isSafe_6 ?_
  refine x_callV (pc := 7) _ dX8_isSafe_7 (mq_isThrown (b := 0 ≤ a0 ∧ a0 < N 8) 1) lkX8_227 rfl rfl rfl rfl (mem_dom0 (by decide) (by decide)) (by decide) (Nat.le_of_ble_eq_true rfl) rfl ?_
  refine x_nil (m' := sr (thr m 0) N) (by rw [if_pos h0]) ?_
  refine x_ifb_ne (pc := 10) 40 dX8_isSafe_10 (by decide) (fun c_10 => absurd c_10 (fun z => z h0)) (fun c_10 => ?_)
  refine x_aload_n (pc := 13) dX8_isSafe_13 0 rfl ?_
  refine x_iload_n (pc := 14) dX8_isSafe_14 2 rfl ?_
  refine x_callS (pc := 15) _ dX8_isSafe_15 (mq_isAmount a1 ha1) lkX8_281 rfl (by decide) (Nat.le_of_ble_eq_true rfl) rfl ?_
  refine x_ifb_eq (pc := 18) 32 dX8_isSafe_18 (by decide) (fun c_18 => absurd c_18 (fun z => z h1.1)) (fun c_18 => ?_)
  refine x_iload_n (pc := 21) dX8_isSafe_21 3 rfl ?_
  refine x_callS (pc := 22) _ dX8_isSafe_22 (mq_areTicks a2 ha2) lkX8_371 rfl (by decide) (Nat.le_of_ble_eq_true rfl) rfl ?_
  refine x_ifb_eq (pc := 25) 32 dX8_isSafe_25 (by decide) (fun c_25 => absurd c_25 (fun z => z h1.2)) (fun c_25 => ?_)
  refine x_iconst (pc := 28) dX8_isSafe_28 ?_
  refine x_goto (pc := 29) 33 dX8_isSafe_29 (by decide) ?_
  refine x_iconst (pc := 33) dX8_isSafe_33 ?_
  refine x_callV (pc := 34) _ dX8_isSafe_34 (mq_isThrown (b := True) 2) lkX8_227 rfl rfl rfl rfl (mem_dom0 (by decide) (by decide)) (by decide) (Nat.le_of_ble_eq_true rfl) rfl ?_
  refine x_nil (m' := sr (thr m 0) N) (by rw [if_pos trivial, thr_thr]) ?_
  refine x_ifb_eq (pc := 37) 42 dX8_isSafe_37 (by decide) (fun c_37 => ?_) (fun c_37 => absurd c_37 (fun z => z trivial))
  refine x_aload_n (pc := 42) dX8_isSafe_42 0 rfl ?_
  refine x_iload_n (pc := 43) dX8_isSafe_43 1 rfl ?_
  refine x_iload_n (pc := 44) dX8_isSafe_44 2 rfl ?_
  refine x_callV (pc := 45) _ dX8_isSafe_45 (mq_hindered a0 a1 (by omega) (by omega) hF.2.2.2.1 (by omega) (by unfold inI; omega) (by unfold inI; omega) (by unfold inI; omega) (outN_b hF.2.2.2.1 a0)) lkX8_290 rfl rfl rfl rfl (mem_dom0 (by decide) (by decide)) (by decide) (Nat.le_of_ble_eq_true rfl) rfl ?_
  refine x_if_eq (pc := 48) 53 dX8_isSafe_48 (by decide) (hinN_in _ _ _) (fun c_48 => ?_) (fun c_48 => absurd c_48 (fun z => z hz))
  refine x_aload_n (pc := 53) dX8_isSafe_53 0 rfl ?_
  refine x_iload_n (pc := 54) dX8_isSafe_54 1 rfl ?_
  refine x_iconst (pc := 55) dX8_isSafe_55 ?_
  refine x_callV (pc := 56) _ dX8_isSafe_56 (mq_ofContract a0 0 (by omega)) lkX8_54 rfl rfl rfl rfl (mem_dom0 (by decide) (by decide)) (by decide) (Nat.le_of_ble_eq_true rfl) rfl ?_
  refine x_istore (pc := 59) (lv' := [(4, _), (0, _), (1, _), (2, _), (3, _)]) dX8_isSafe_59 (by decide) rfl ?_
  refine x_aload_n (pc := 61) dX8_isSafe_61 1 rfl ?_
  refine x_iload (pc := 62) dX8_isSafe_62 0 rfl ?_
  refine x_bipush (pc := 64) (z := 6) dX8_isSafe_64 (by decide) ?_
  refine x_iload_n (pc := 66) dX8_isSafe_66 4 rfl ?_
  refine x_callV (pc := 67) _ dX8_isSafe_67 (mq_grownIn (m := thr m 0) hP hB hR hS (N (270 + 6 * a0 + 0)) 6 a2 (by omega) (by omega) (by omega) (by omega)) lkX8_374 rfl rfl rfl rfl (mem_dom0 (by decide) (by decide)) (by decide) (Nat.le_of_ble_eq_true rfl) rfl ?_
  refine x_istore (pc := 70) (lv' := [(5, _), (4, _), (0, _), (1, _), (2, _), (3, _)]) dX8_isSafe_70 (by decide) rfl ?_
  refine x_aload_n (pc := 72) dX8_isSafe_72 2 rfl ?_
  refine x_callV (pc := 73) _ dX8_isSafe_73 (mq_putsAside) lkX8_363 rfl rfl rfl rfl (mem_dom0 (by decide) (by decide)) (by decide) (Nat.le_of_ble_eq_true rfl) rfl ?_
  refine x_nil (m' := asX (thr m 0) N N) as_cp ?_
  refine x_aload_n (pc := 76) dX8_isSafe_76 2 rfl ?_
  refine x_iload_n (pc := 77) dX8_isSafe_77 3 rfl ?_
  refine x_iload_n (pc := 78) dX8_isSafe_78 4 rfl ?_
  refine x_iload_n (pc := 79) dX8_isSafe_79 5 rfl ?_
  refine x_callV (pc := 80) _ dX8_isSafe_80 (mq_lends a0 a1 a2 (by have := hinN_lt nl16.2 hz; omega)) lkX8_344 rfl rfl rfl rfl (mem_dom0 (by decide) (by decide)) (by decide) (Nat.le_of_ble_eq_true rfl) rfl ?_
  refine x_istore (pc := 83) (lv' := [(6, _), (5, _), (4, _), (0, _), (1, _), (2, _), (3, _)]) dX8_isSafe_83 (by decide) rfl ?_
  refine x_iconst (pc := 85) dX8_isSafe_85 ?_
  refine x_istore (pc := 86) (lv' := [(7, _), (6, _), (5, _), (4, _), (0, _), (1, _), (2, _), (3, _)]) dX8_isSafe_86 (by decide) rfl ?_
  exact x_lv [0, 1, 2, 3, 4, 5, 6, 7] rfl (lp_safeN (N 9) (tkNL N a2.toNat (30 + 7 * N (270 + 6 * a0 + 0) + 6) - N (30 + 7 * N (270 + 6 * a0 + 0) + 6)) (N (270 + 6 * a0 + 0)) a0 a1 a2 (by omega) hw (by omega) _ hd a2.toNat d9 (ldN N a0 a1 a2) 0 gP gB gR gS (by omega) (by omega) (by omega) rfl)
