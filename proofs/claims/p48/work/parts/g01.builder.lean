/-! the text builder: its row of bytes -/
def BB (h : Hp) (b val cap : Nat) (L : List Int) : Prop := (58, b) ∈ h.1 ∧ (ak 1 cap, val) ∈ h.1 ∧ h.2.2.1 58 b 0 = some (ak 1 cap, val) ∧ h.2.1 58 b 1 = 0 ∧ h.2.1 58 b 3 = (L.length : Int) ∧ L.length ≤ cap ∧ cap ≤ 1300 ∧ TXat (h.2.1 (ak 1 cap) val) 0 L ∧ ∀ j : Int, 0 ≤ j → j < cap → -128 ≤ h.2.1 (ak 1 cap) val j ∧ h.2.1 (ak 1 cap) val j < 128
theorem BB.fr {S : Nat → Prop} {h h1 : Hp} {b val cap : Nat} {L : List Int} (hB : BB h b val cap L) (F : Fr S h h1) (h1' : ¬ S b) (h2 : ¬ S val) : BB h1 b val cap L := by
  obtain ⟨a1, a2, a3, a4, a5, a6, a7, a8, a9⟩ := hB
  have e1 := F.2.2.1 58 b (by decide) a1 h1'
  have e2 := F.2.2.1 (ak 1 cap) val ak_ge a2 h2
  exact ⟨F.1 _ a1, F.1 _ a2, by rw [e1.2]; exact a3, by rw [e1.1]; exact a4, by rw [e1.1]; exact a5, a6, a7, by rw [e2.1]; exact a8, by rw [e2.1]; exact a9⟩
theorem ishr0 {z : Int} : iI z >>> (iI 0 &&& 31) = iI z := by
  have e : iI 0 &&& 31 = 0 := by decide
  rw [e]
  apply Int32.toBitVec_inj.mp
  show (iI z).toBitVec.sshiftRight' ((0 : Int32).toBitVec.smod 32) = (iI z).toBitVec
  rw [show ((0 : Int32).toBitVec.smod 32) = 0#32 by decide]
  show (iI z).toBitVec.sshiftRight 0 = _
  exact BitVec.sshiftRight_zero
theorem ishl0 {z : Int} : iI z <<< (iI 0 &&& 31) = iI z := by
  have e : iI 0 &&& 31 = 0 := by decide
  rw [e]
  apply Int32.toBitVec_inj.mp
  show (iI z).toBitVec <<< ((0 : Int32).toBitVec.smod 32) = (iI z).toBitVec
  rw [show ((0 : Int32).toBitVec.smod 32) = 0#32 by decide]
  exact BitVec.shiftLeft_zero _
theorem cb_cpB {G : GG} {h : Hp} {c b N : Nat} (hm : (ak 1 c, b) ∈ h.1) (hel : ∀ j : Int, 0 ≤ j → j < c → -128 ≤ h.2.1 (ak 1 c) b j ∧ h.2.1 (ak 1 c) b j < 128) (he : ∃ n, h.2.2.2 = some n) (hN : c < N) (hN2 : N ≤ 1300) : Cy G MJ7_copyOf_9075b (rmL 0 1 N) [rf G (ak 1 c) b, .int (iI (N : Nat))] h (fun v h1 => ∃ q, fre h q ∧ v = some (rf G (ak 1 N) q) ∧ (ak 1 N, q) ∈ h1.1 ∧ Fr (fun _ => False) h h1 ∧ ∀ j : Nat, h1.2.1 (ak 1 N) q (j : Int) = if j < c then h.2.1 (ak 1 c) b (j : Int) else 0) := by
  refine o_entry (by decide +kernel) mwJ7_copyOf_9075b rfl (Nat.le_of_ble_eq_true rfl) ?_
  show YY G MJ7_copyOf_9075b (rmL 0 1 N) 0 [(0, rf G (ak 1 c) b), (1, .int (iI (N : Nat)))] [] h 0 0 _
  refine o_iload_n (pc := 0) dJ7_copyOf_9075b_0 1 rfl ?_
  refine o_aload_n (pc := 1) dJ7_copyOf_9075b_1 0 rfl ?_
  refine o_alN (pc := 2) (tag := 1) dJ7_copyOf_9075b_2 (shp_ak (by decide)) hm rfl ?_
  refine o_icmp_ne (pc := 3) 14 dJ7_copyOf_9075b_3 (by decide) (by unfold inI; omega) (by unfold inI; omega) (fun c_3 => ?_) (fun c_3 => (by exfalso; omega))
  refine o_iload_n (pc := 14) dJ7_copyOf_9075b_14 1 rfl ?_
  refine o_sizeD (fun q hq => ?_) he
  refine o_newB (pc := 15) (N := N) dJ7_copyOf_9075b_15 hq rfl (by omega) (by first | omega | (simp only [rmL, rmD]; omega)) (by first | omega | (simp only [rmL, rmD]; omega)) (fun fq => ?_)
  have hne : ¬ b = q := fun z => fq _ ak_ge (by rw [← z]; exact hm)
  refine o_astore_n (pc := 17) (lv' := [(2, _), (0, _), (1, _)]) dJ7_copyOf_9075b_17 rfl (by decide) rfl ?_
  refine o_aload_n (pc := 18) dJ7_copyOf_9075b_18 1 rfl ?_
  refine o_iconst (pc := 19) dJ7_copyOf_9075b_19 ?_
  refine o_aload_n (pc := 20) dJ7_copyOf_9075b_20 0 rfl ?_
  refine o_iconst (pc := 21) dJ7_copyOf_9075b_21 ?_
  refine o_aload_n (pc := 22) dJ7_copyOf_9075b_22 1 rfl ?_
  refine o_alN (pc := 23) (tag := 1) dJ7_copyOf_9075b_23 (shp_ak (by decide)) (nw_old hm) rfl ?_
  refine o_iload_n (pc := 24) dJ7_copyOf_9075b_24 2 rfl ?_
  refine o_min (pc := 25) dJ7_copyOf_9075b_25 lmJ7_304 (by unfold inI; omega) (by unfold inI; omega) (Nat.le_of_ble_eq_true rfl) (Nat.le_of_ble_eq_true rfl) (by first | omega | (simp only [rmL, rmD]; omega)) (by first | omega | (simp only [rmL, rmD]; omega)) ?_
  rw [show min (c : Int) (N : Int) = ((c : Nat) : Int) by omega]
  refine o_copyB (pc := 28) (sp := 0) (dp := 0) dJ7_copyOf_9075b_28 acJ7_150 (shp_ak (by decide)) (shp_ak (by decide)) (nw_old hm) nw_in (by omega) (by omega) (by omega) (fun j hj => ?_) (Nat.le_of_ble_eq_true rfl) (Nat.le_of_ble_eq_true rfl) (fun n1 => ?_)
  · rw [nw_e hne]
    exact hel _ (by omega) (by omega)
  refine o_aload_n (pc := 31) dJ7_copyOf_9075b_31 0 rfl ?_
  refine o_aret (pc := 32) dJ7_copyOf_9075b_32 rfl (.inr ⟨_, rfl⟩) (.inr ⟨_, rfl⟩) (by first | omega | (simp only [rmL, rmD]; omega)) (by first | omega | (simp only [rmL, rmD]; omega)) ?_
  refine ⟨q, fq, rfl, nw_in, Fr_cpB (Fr_nw (Fr.rf he) ak_ge fq) ak_ge (.inr fq), fun j => ?_⟩
  rw [cpB_at, nw_m, nw_e hne]
  by_cases z : j < c
  · rw [if_pos (by omega), if_pos z, show 0 + (j - 0) = j by omega]
  · rw [if_neg (by omega), if_neg z]
theorem cb_newCap {G : GG} {h : Hp} {b val cap : Nat} {L : List Int} (hB : BB h b val cap L) {m : Int} (hm0 : (cap : Int) < m) (hm1 : m ≤ 600) : Cy G MJ5_newCapacity_0f7a4 (rmL 2 0 0) [rf G 58 b, .int (iI m)] h (fun v h1 => v = some (.int (iI (max m (2 * cap + 2)))) ∧ h1 = h) := by
  refine o_entry (by decide +kernel) mwJ5_newCapacity_0f7a4 rfl (Nat.le_of_ble_eq_true rfl) ?_
  show YY G MJ5_newCapacity_0f7a4 (rmL 2 0 0) 0 [(0, rf G 58 b), (1, .int (iI m))] [] h 0 0 _
  have hc := hB.2.2.2.2.2.2.1
  refine o_aload_n (pc := 0) dJ5_newCapacity_0f7a4_0 0 rfl ?_
  refine o_gR (pc := 1) (j := 0) ((ak 1 cap)) (val) dJ5_newCapacity_0f7a4_1 flJ5_15 rfl rfl hB.1 hB.2.2.1 ?_
  refine o_alN (pc := 4) (tag := 1) dJ5_newCapacity_0f7a4_4 (shp_ak (by decide)) hB.2.1 rfl ?_
  refine o_istore_n (pc := 5) (lv' := [(2, _), (0, _), (1, _)]) dJ5_newCapacity_0f7a4_5 rfl (by decide) rfl ?_
  refine o_iload_n (pc := 6) dJ5_newCapacity_0f7a4_6 2 rfl ?_
  refine o_aload_n (pc := 7) dJ5_newCapacity_0f7a4_7 1 rfl ?_
  refine o_gI (pc := 8) (j := 1) dJ5_newCapacity_0f7a4_8 flJ5_22 rfl rfl hB.1 hB.2.2.2.1 ?_
  refine o_ishl (pc := 11) dJ5_newCapacity_0f7a4_11 ishl0 ?_
  refine o_istore_n (pc := 12) (lv' := [(3, _), (2, _), (0, _), (1, _)]) dJ5_newCapacity_0f7a4_12 rfl (by decide) rfl ?_
  refine o_iload_n (pc := 13) dJ5_newCapacity_0f7a4_13 0 rfl ?_
  refine o_iload_n (pc := 14) dJ5_newCapacity_0f7a4_14 1 rfl ?_
  refine o_isub (pc := 15) dJ5_newCapacity_0f7a4_15 ?_
  refine o_istore (pc := 16) (lv' := [(4, _), (3, _), (2, _), (0, _), (1, _)]) dJ5_newCapacity_0f7a4_16 (by decide) rfl ?_
  refine o_iload_n (pc := 18) dJ5_newCapacity_0f7a4_18 2 rfl ?_
  refine o_iload (pc := 19) dJ5_newCapacity_0f7a4_19 0 rfl ?_
  refine o_iload_n (pc := 21) dJ5_newCapacity_0f7a4_21 2 rfl ?_
  refine o_iconst (pc := 22) dJ5_newCapacity_0f7a4_22 ?_
  refine o_aload_n (pc := 23) dJ5_newCapacity_0f7a4_23 3 rfl ?_
  refine o_gI (pc := 24) (j := 1) dJ5_newCapacity_0f7a4_24 flJ5_22 rfl rfl hB.1 hB.2.2.2.1 ?_
  refine o_ishl (pc := 27) dJ5_newCapacity_0f7a4_27 ishl0 ?_
  refine o_iadd (pc := 28) dJ5_newCapacity_0f7a4_28 ?_
  refine o_callS (pc := 29) _ dJ5_newCapacity_0f7a4_29 (cl_newLen (by omega) (by omega) (by omega)) lkJ5_114 rfl ⟨⟨(Nat.le_of_ble_eq_true rfl), (Nat.le_of_ble_eq_true rfl)⟩, (Nat.le_of_ble_eq_true rfl), (Nat.le_of_ble_eq_true rfl)⟩ (Nat.le_of_ble_eq_true rfl) rfl (fun v h1 hq => ?_)
  obtain ⟨rfl, e2⟩ := hq
  obtain rfl := e2.symm
  rw [show (cap : Int) + max (m - cap) (cap + 2) = max m (2 * cap + 2) by omega]
  refine o_istore (pc := 32) (lv' := [(5, _), (4, _), (3, _), (2, _), (0, _), (1, _)]) dJ5_newCapacity_0f7a4_32 (by decide) rfl ?_
  refine o_iload (pc := 34) dJ5_newCapacity_0f7a4_34 0 rfl ?_
  refine o_ldc (pc := 36) (z := 2147483647) dJ5_newCapacity_0f7a4_36 kcJ5_39 (by decide) ?_
  refine o_icmp_ne (pc := 38) 51 dJ5_newCapacity_0f7a4_38 (by decide) (by unfold inI; omega) (by unfold inI; omega) (fun c_38 => ?_) (fun c_38 => (by exfalso; omega))
  refine o_iload (pc := 51) dJ5_newCapacity_0f7a4_51 0 rfl ?_
  refine o_aload_n (pc := 53) dJ5_newCapacity_0f7a4_53 4 rfl ?_
  refine o_gI (pc := 54) (j := 1) dJ5_newCapacity_0f7a4_54 flJ5_22 rfl rfl hB.1 hB.2.2.2.1 ?_
  refine o_ishr (pc := 57) dJ5_newCapacity_0f7a4_57 ishr0 ?_
  exact o_iret (pc := 58) dJ5_newCapacity_0f7a4_58 rfl (Nat.le_of_ble_eq_true rfl) (Nat.le_of_ble_eq_true rfl) ⟨rfl, rfl⟩
theorem cb_ens {G : GG} {h : Hp} {b val cap : Nat} {L : List Int} (hB : BB h b val cap L) (he : ∃ n, h.2.2.2 = some n) {m : Int} (hm : 0 ≤ m ∧ m ≤ 600) : Cy G MJ5_ensureCapacityInternal_d00df (rmL 4 1 1300) [rf G 58 b, .int (iI m)] h (fun v h1 => v = none ∧ ∃ val1 cap1, BB h1 b val1 cap1 L ∧ m ≤ (cap1 : Int) ∧ Fr (fun i => i = b) h h1 ∧ (val1 = val ∧ cap1 = cap ∨ fre h val1)) := by
  refine o_entry (by decide +kernel) mwJ5_ensureCapacityInternal_d00df rfl (Nat.le_of_ble_eq_true rfl) ?_
  show YY G MJ5_ensureCapacityInternal_d00df (rmL 4 1 1300) 0 [(0, rf G 58 b), (1, .int (iI m))] [] h 0 0 _
  have hc := hB.2.2.2.2.2.2.1
  refine o_aload_n (pc := 0) dJ5_ensureCapacityInternal_d00df_0 0 rfl ?_
  refine o_gR (pc := 1) (j := 0) ((ak 1 cap)) (val) dJ5_ensureCapacityInternal_d00df_1 flJ5_15 rfl rfl hB.1 hB.2.2.1 ?_
  refine o_alN (pc := 4) (tag := 1) dJ5_ensureCapacityInternal_d00df_4 (shp_ak (by decide)) hB.2.1 rfl ?_
  refine o_aload_n (pc := 5) dJ5_ensureCapacityInternal_d00df_5 0 rfl ?_
  refine o_gI (pc := 6) (j := 1) dJ5_ensureCapacityInternal_d00df_6 flJ5_22 rfl rfl hB.1 hB.2.2.2.1 ?_
  refine o_ishr (pc := 9) dJ5_ensureCapacityInternal_d00df_9 ishr0 ?_
  refine o_istore_n (pc := 10) (lv' := [(2, _), (0, _), (1, _)]) dJ5_ensureCapacityInternal_d00df_10 rfl (by decide) rfl ?_
  refine o_iload_n (pc := 11) dJ5_ensureCapacityInternal_d00df_11 2 rfl ?_
  refine o_iload_n (pc := 12) dJ5_ensureCapacityInternal_d00df_12 0 rfl ?_
  refine o_isub (pc := 13) dJ5_ensureCapacityInternal_d00df_13 ?_
  refine o_if_le (pc := 14) 38 dJ5_ensureCapacityInternal_d00df_14 (by decide) (by unfold inI; omega) (fun c_14 => ?_) (fun c_14 => ?_)
  · refine o_vret (pc := 38) dJ5_ensureCapacityInternal_d00df_38 rfl (by first | omega | (simp only [rmL, rmD]; omega)) (by first | omega | (simp only [rmL, rmD]; omega)) ?_
    exact ⟨rfl, val, cap, hB, by omega, Fr.rf he, .inl ⟨rfl, rfl⟩⟩
  · refine o_aload_n (pc := 17) dJ5_ensureCapacityInternal_d00df_17 1 rfl ?_
    refine o_aload_n (pc := 18) dJ5_ensureCapacityInternal_d00df_18 1 rfl ?_
    refine o_gR (pc := 19) (j := 0) ((ak 1 cap)) (val) dJ5_ensureCapacityInternal_d00df_19 flJ5_15 rfl rfl hB.1 hB.2.2.1 ?_
    refine o_aload_n (pc := 22) dJ5_ensureCapacityInternal_d00df_22 1 rfl ?_
    refine o_iload_n (pc := 23) dJ5_ensureCapacityInternal_d00df_23 2 rfl ?_
    refine o_callP (pc := 24) (q := (RJ4, TJ4, 4)) _ dJ5_ensureCapacityInternal_d00df_24 (cb_newCap hB (by omega) hm.2) lpJ5_104 rfl rfl rfl hB.1 ⟨⟨(Nat.le_of_ble_eq_true rfl), (Nat.le_of_ble_eq_true rfl)⟩, (Nat.le_of_ble_eq_true rfl), (Nat.le_of_ble_eq_true rfl)⟩ (Nat.le_of_ble_eq_true rfl) rfl (fun v h1 hq => ?_)
    obtain ⟨rfl, e2⟩ := hq
    obtain rfl := e2.symm
    refine o_aload_n (pc := 27) dJ5_ensureCapacityInternal_d00df_27 1 rfl ?_
    refine o_gI (pc := 28) (j := 1) dJ5_ensureCapacityInternal_d00df_28 flJ5_22 rfl rfl hB.1 hB.2.2.2.1 ?_
    refine o_ishl (pc := 31) dJ5_ensureCapacityInternal_d00df_31 ishl0 ?_
    obtain ⟨N, eN⟩ : ∃ N : Nat, max m (2 * (cap : Int) + 2) = (N : Int) := ⟨(max m (2 * (cap : Int) + 2)).toNat, by omega⟩
    refine o_topI (y := (N : Int)) eN ?_
    refine o_callS (pc := 32) _ dJ5_ensureCapacityInternal_d00df_32 (cb_cpB hB.2.1 hB.2.2.2.2.2.2.2.2 he (N := N) (by omega) (by omega)) lkJ5_108 rfl ⟨⟨by simp only [rmL, rmD]; omega, by simp only [rmL, rmD]; omega⟩, by simp only [rmL, rmD]; omega, by simp only [rmL, rmD]; omega⟩ (Nat.le_of_ble_eq_true rfl) rfl (fun v h1 hq => ?_)
    obtain ⟨q, fq, rfl, f2, f3, f4⟩ := hq
    have nb : ¬ b = q := fun z => fq 58 (by decide) (by rw [← z]; exact hB.1)
    have B1 := hB.fr f3 id id
    refine o_putR (pc := 35) (j := 0) dJ5_ensureCapacityInternal_d00df_35 fxJ5_15 rfl rfl (f3.1 _ hB.1) rfl rfl ?_
    refine o_vret (pc := 38) dJ5_ensureCapacityInternal_d00df_38 rfl (by first | omega | (simp only [rmL, rmD]; omega)) (by first | omega | (simp only [rmL, rmD]; omega)) ?_
    have e2 : (rset h1 58 b 0 (some (ak 1 N, q))).2.2.1 58 b 0 = some (ak 1 N, q) := rset_at
    refine ⟨rfl, q, N, ⟨B1.1, f2, e2, B1.2.2.2.1, B1.2.2.2.2.1, by have := hB.2.2.2.2.2.1; omega, by omega, hB.2.2.2.2.2.2.2.1.cg _ _ (fun j j0 j1 => ?_), fun j j0 j1 => ?_⟩, by omega, Fr_rset (f3.w (fun _ z => z.elim)) (by decide) (.inl rfl), .inr fq⟩
    · obtain ⟨t, rfl⟩ : ∃ t : Nat, j = (t : Int) := ⟨j.toNat, by omega⟩
      exact (f4 t).trans (if_pos (by have := hB.2.2.2.2.2.1; omega))
    · obtain ⟨t, rfl⟩ : ∃ t : Nat, j = (t : Int) := ⟨j.toNat, by omega⟩
      show -128 ≤ h1.2.1 (ak 1 N) q (t : Int) ∧ h1.2.1 (ak 1 N) q (t : Int) < 128
      rw [f4 t]
      split
      · exact hB.2.2.2.2.2.2.2.2 _ (by omega) (by omega)
      · omega
