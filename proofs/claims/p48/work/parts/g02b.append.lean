/-! the text builder: strings and characters appended -/
theorem hset_eq {h : Hp} {k i : Nat} {j j' z : Int} (e : j' = j) : (hset h k i j z).2.1 k i j' = z := by rw [e]; exact hset_at
theorem cpB_e {h : Hp} {f : Nat → Int} {k i k' i' dp c n' : Nat} (hn : ¬ i' = i) : (cpB h f k i dp c n').2.1 k' i' = h.2.1 k' i' := funext fun j => if_neg (fun z => hn z.2.1)
theorem tab_mem (f : Nat → Int) {a : Int} : ∀ (n j : Nat), a ∈ tab f n j → ∃ i, i < n ∧ a = f (j + i) := by
  intro n
  induction n with
  | zero => intro j h; cases h
  | succ n ih =>
    intro j h
    rcases List.mem_cons.mp h with e | e
    · exact ⟨0, by omega, e⟩
    · obtain ⟨i, h1, h2⟩ := ih (j + 1) e
      exact ⟨i + 1, by omega, by rw [h2, show j + 1 + i = j + (i + 1) by omega]⟩
theorem lit_mem {t : Nat} {a : Int} (h : a ∈ lit t) : ∃ i : Nat, (i : Int) < sL t ∧ a = sB t i := by
  obtain ⟨i, h1, h2⟩ := tab_mem _ _ _ h
  exact ⟨i, by omega, by rw [h2, Nat.zero_add]⟩
theorem cb_appS {G : GG} {h : Hp} {b val cap : Nat} {L : List Int} (hB : BB h b val cap L) (he : ∃ n, h.2.2.2 = some n) (hL : L.length ≤ 580) {t : Nat} (ht : t < 15) : Cy G MJ5_append_cf1ce (rmL 5 1 1300) [rf G 58 b, .ref (gK G t)] h (fun v h1 => v = some (rf G 58 b) ∧ ∃ val1 cap1, BB h1 b val1 cap1 (L ++ lit t) ∧ Fr (fun i => i = b ∨ i = val) h h1 ∧ (val1 = val ∨ fre h val1)) := by
  refine o_entry (by decide +kernel) mwJ5_append_cf1ce rfl (Nat.le_of_ble_eq_true rfl) ?_
  show YY G MJ5_append_cf1ce (rmL 5 1 1300) 0 [(0, rf G 58 b), (1, .ref (gK G t))] [] h 0 0 _
  have hl := hB.2.2.2.2.2.1
  have hc := hB.2.2.2.2.2.2.1
  have hsb := sL_b ht
  refine o_aload_n (pc := 0) dJ5_append_cf1ce_0 1 rfl ?_
  refine o_ifnonnull (pc := 1) 9 dJ5_append_cf1ce_1 (by decide) ?_
  refine o_aload_n (pc := 9) dJ5_append_cf1ce_9 1 rfl ?_
  refine o_callT (pc := 10) (t) ht _ dJ5_append_cf1ce_10 (Cy.ofCt (ct_slen ht)) lkJ5_32 rfl rfl ⟨⟨by simp only [rmL, rmD]; omega, by simp only [rmL, rmD]; omega⟩, by simp only [rmL, rmD]; omega, by simp only [rmL, rmD]; omega⟩ (Nat.le_of_ble_eq_true rfl) rfl (fun v h1 hq => ?_)
  obtain ⟨rfl, e2⟩ := hq
  obtain rfl := e2.symm
  refine o_istore_n (pc := 13) (lv' := [(2, _), (0, _), (1, _)]) dJ5_append_cf1ce_13 rfl (by decide) rfl ?_
  refine o_aload_n (pc := 14) dJ5_append_cf1ce_14 1 rfl ?_
  refine o_aload_n (pc := 15) dJ5_append_cf1ce_15 1 rfl ?_
  refine o_gI (pc := 16) (j := 3) dJ5_append_cf1ce_16 flJ5_79 rfl rfl hB.1 hB.2.2.2.2.1 ?_
  refine o_iload_n (pc := 19) dJ5_append_cf1ce_19 0 rfl ?_
  refine o_iadd (pc := 20) dJ5_append_cf1ce_20 ?_
  refine o_callP (pc := 21) (q := (RJ4, TJ4, 4)) _ dJ5_append_cf1ce_21 (cb_ens hB he (by omega)) lpJ5_100 rfl rfl rfl hB.1 ⟨⟨by simp only [rmL, rmD]; omega, by simp only [rmL, rmD]; omega⟩, by simp only [rmL, rmD]; omega, by simp only [rmL, rmD]; omega⟩ (Nat.le_of_ble_eq_true rfl) rfl (fun v h1 hq => ?_)
  obtain ⟨rfl, v1, c1, B1, hm1, F1, hv⟩ := hq
  refine o_uq (fun hu1 => ?_)
  have hne := B1.ne hu1
  have hl1 := B1.2.2.2.2.2.1
  have hc1 := B1.2.2.2.2.2.2.1
  refine o_aload_n (pc := 24) dJ5_append_cf1ce_24 1 rfl ?_
  refine o_aload_n (pc := 25) dJ5_append_cf1ce_25 1 rfl ?_
  refine o_gI (pc := 26) (j := 3) dJ5_append_cf1ce_26 flJ5_79 rfl rfl B1.1 B1.2.2.2.2.1 ?_
  refine o_aload_n (pc := 29) dJ5_append_cf1ce_29 2 rfl ?_
  refine o_callP (pc := 30) (q := (RJ4, TJ4, 4)) _ dJ5_append_cf1ce_30 (cb_put B1 ht (by omega)) lpJ5_208 rfl rfl rfl B1.1 ⟨⟨by simp only [rmL, rmD]; omega, by simp only [rmL, rmD]; omega⟩, by simp only [rmL, rmD]; omega, by simp only [rmL, rmD]; omega⟩ (Nat.le_of_ble_eq_true rfl) rfl (fun v h1 hq => ?_)
  obtain ⟨rfl, n2, rfl⟩ := hq
  refine o_aload_n (pc := 33) dJ5_append_cf1ce_33 1 rfl ?_
  refine o_dup (pc := 34) dJ5_append_cf1ce_34 rfl ?_
  refine o_gI (pc := 35) (j := 3) dJ5_append_cf1ce_35 flJ5_79 rfl rfl B1.1 B1.2.2.2.2.1 ?_
  refine o_iload_n (pc := 38) dJ5_append_cf1ce_38 0 rfl ?_
  refine o_iadd (pc := 39) dJ5_append_cf1ce_39 ?_
  refine o_pI (pc := 40) (j := 3) dJ5_append_cf1ce_40 fwJ5_79 rfl rfl B1.1 ?_
  refine o_aload_n (pc := 43) dJ5_append_cf1ce_43 1 rfl ?_
  refine o_aret (pc := 44) dJ5_append_cf1ce_44 rfl (.inl ⟨_, rfl⟩) (.inr ⟨_, rfl⟩) (by first | omega | (simp only [rmL, rmD]; omega)) (by first | omega | (simp only [rmL, rmD]; omega)) ?_
  have hX := lit_len ht
  have F2 : Fr (fun i => i = b ∨ i = val) h (hset (cpB _ (fun j => sB t j) (ak 1 c1) v1 L.length (sL t).toNat n2) 58 b 3 (L.length + sL t)) := Fr_hset (Fr_cpB (F1.w (fun i z => .inl (.inl z))) ak_ge (by rcases hv with z | z; exact .inl (.inr z.1); exact .inr z)) (by decide) (.inl (.inl rfl))
  refine ⟨rfl, v1, c1, B1.more (by omega) (by exact B1.1) (by exact B1.2.1) (by exact B1.2.2.1) ?_ ?_ (fun j j0 j1 g => ?_) (tab_at _ _ _ _ (fun i hi => ?_)) (fun a ha => ?_), F2, hv.imp And.left id⟩
  · rw [hset_off (by omega), cpB_e (fun z => hne z.symm)]
    exact B1.2.2.2.1
  · exact (hset_eq rfl).trans (by omega)
  · obtain ⟨i, rfl⟩ : ∃ i : Nat, j = (i : Int) := ⟨j.toNat, by omega⟩
    rw [hset_off (fun z => hne z.2.1), cpB_at, if_neg (by omega)]
  · rw [show ((L.length : Int) + (i : Int)) = ((L.length + i : Nat) : Int) by omega, hset_off (fun z => hne z.2.1), cpB_at, if_pos (by omega), show L.length + i - L.length = i by omega, Nat.zero_add]
  · obtain ⟨i, hi, rfl⟩ := lit_mem ha
    have := sB_b t i ht hi
    omega
theorem cb_addS {G : GG} {h : Hp} {b val cap : Nat} {L : List Int} (hB : BB h b val cap L) (he : ∃ n, h.2.2.2 = some n) (hL : L.length ≤ 580) {t : Nat} (ht : t < 15) : Cy G MJ4_append_15ec4 (rmL 6 1 1300) [rf G 58 b, .ref (gK G t)] h (fun v h1 => v = some (rf G 58 b) ∧ ∃ val1 cap1, BB h1 b val1 cap1 (L ++ lit t) ∧ Fr (fun i => i = b ∨ i = val) h h1 ∧ (val1 = val ∨ fre h val1)) := by
  refine o_entry (by decide +kernel) mwJ4_append_15ec4 rfl (Nat.le_of_ble_eq_true rfl) ?_
  show YY G MJ4_append_15ec4 (rmL 6 1 1300) 0 [(0, rf G 58 b), (1, .ref (gK G t))] [] h 0 0 _
  refine o_aload_n (pc := 0) dJ4_append_15ec4_0 0 rfl ?_
  refine o_aload_n (pc := 1) dJ4_append_15ec4_1 1 rfl ?_
  refine o_callSu (pc := 2) _ dJ4_append_15ec4_2 (cb_appS hB he hL ht) suJ4_29 rfl rfl rfl hB.1 ⟨⟨by simp only [rmL, rmD]; omega, by simp only [rmL, rmD]; omega⟩, by simp only [rmL, rmD]; omega, by simp only [rmL, rmD]; omega⟩ (Nat.le_of_ble_eq_true rfl) rfl (fun v h1 hq => ?_)
  obtain ⟨rfl, v1, c1, B1, F1, hv⟩ := hq
  refine o_pop (pc := 5) dJ4_append_15ec4_5 rfl ?_
  refine o_aload_n (pc := 6) dJ4_append_15ec4_6 0 rfl ?_
  refine o_aret (pc := 7) dJ4_append_15ec4_7 rfl (.inl ⟨_, rfl⟩) (.inr ⟨_, rfl⟩) (by first | omega | (simp only [rmL, rmD]; omega)) (by first | omega | (simp only [rmL, rmD]; omega)) ?_
  exact ⟨rfl, v1, c1, B1, F1, hv⟩
theorem cb_enc {G : GG} {h : Hp} {z : Int} (hz : 0 ≤ z ∧ z < 128) : Cy G MJ1_canEncode_fc78d (rmL 0 0 0) [.int (iI z)] h (fun v h1 => v = some (.int (iI 1)) ∧ h1 = h) := by
  refine o_entry (by decide +kernel) mwJ1_canEncode_fc78d rfl (Nat.le_of_ble_eq_true rfl) ?_
  show YY G MJ1_canEncode_fc78d (rmL 0 0 0) 0 [(0, .int (iI z))] [] h 0 0 _
  refine o_iload_n (pc := 0) dJ1_canEncode_fc78d_0 0 rfl ?_
  refine o_sipush (pc := 1) (z := 255) dJ1_canEncode_fc78d_1 (by decide) ?_
  refine o_icmp_gt (pc := 4) 11 dJ1_canEncode_fc78d_4 (by decide) (by unfold inI; omega) (by unfold inI; omega) (fun c_4 => (by exfalso; omega)) (fun c_4 => ?_)
  refine o_iconst (pc := 7) dJ1_canEncode_fc78d_7 ?_
  refine o_goto (pc := 8) 12 dJ1_canEncode_fc78d_8 (by decide) ?_
  exact o_zret (pc := 12) dJ1_canEncode_fc78d_12 rfl rfl (Nat.le_of_ble_eq_true rfl) (Nat.le_of_ble_eq_true rfl) ⟨rfl, rfl⟩
theorem cb_appC {G : GG} {h : Hp} {b val cap : Nat} {L : List Int} (hB : BB h b val cap L) (he : ∃ n, h.2.2.2 = some n) (hL : L.length ≤ 580) {z : Int} (hz : 0 ≤ z ∧ z < 128) : Cy G MJ5_append_3fe6f (rmL 5 1 1300) [rf G 58 b, .int (iI z)] h (fun v h1 => v = some (rf G 58 b) ∧ ∃ val1 cap1, BB h1 b val1 cap1 (L ++ [z]) ∧ Fr (fun i => i = b ∨ i = val) h h1 ∧ (val1 = val ∨ fre h val1)) := by
  refine o_entry (by decide +kernel) mwJ5_append_3fe6f rfl (Nat.le_of_ble_eq_true rfl) ?_
  show YY G MJ5_append_3fe6f (rmL 5 1 1300) 0 [(0, rf G 58 b), (1, .int (iI z))] [] h 0 0 _
  have hl := hB.2.2.2.2.2.1
  have hc := hB.2.2.2.2.2.2.1
  refine o_aload_n (pc := 0) dJ5_append_3fe6f_0 0 rfl ?_
  refine o_aload_n (pc := 1) dJ5_append_3fe6f_1 0 rfl ?_
  refine o_gI (pc := 2) (j := 3) dJ5_append_3fe6f_2 flJ5_79 rfl rfl hB.1 hB.2.2.2.2.1 ?_
  refine o_iconst (pc := 5) dJ5_append_3fe6f_5 ?_
  refine o_iadd (pc := 6) dJ5_append_3fe6f_6 ?_
  refine o_callP (pc := 7) (q := (RJ4, TJ4, 4)) _ dJ5_append_3fe6f_7 (cb_ens hB he (by omega)) lpJ5_100 rfl rfl rfl hB.1 ⟨⟨by simp only [rmL, rmD]; omega, by simp only [rmL, rmD]; omega⟩, by simp only [rmL, rmD]; omega, by simp only [rmL, rmD]; omega⟩ (Nat.le_of_ble_eq_true rfl) rfl (fun v h1 hq => ?_)
  obtain ⟨rfl, v1, c1, B1, hm1, F1, hv⟩ := hq
  refine o_uq (fun hu1 => ?_)
  have hne := B1.ne hu1
  have hl1 := B1.2.2.2.2.2.1
  have hc1 := B1.2.2.2.2.2.2.1
  refine o_aload_n (pc := 10) dJ5_append_3fe6f_10 0 rfl ?_
  refine o_callU (pc := 11) (q := (RJ4, TJ4, 4)) _ dJ5_append_3fe6f_11 (cb_lat B1) luJ5_83 rfl rfl rfl B1.1 ⟨⟨by simp only [rmL, rmD]; omega, by simp only [rmL, rmD]; omega⟩, by simp only [rmL, rmD]; omega, by simp only [rmL, rmD]; omega⟩ (Nat.le_of_ble_eq_true rfl) rfl (fun v h1 hq => ?_)
  obtain ⟨rfl, e2⟩ := hq
  obtain rfl := e2.symm
  refine o_if_eq (pc := 14) 45 dJ5_append_3fe6f_14 (by decide) (by unfold inI; omega) (fun c_14 => (by exfalso; omega)) (fun c_14 => ?_)
  refine o_iload_n (pc := 17) dJ5_append_3fe6f_17 1 rfl ?_
  refine o_callS (pc := 18) _ dJ5_append_3fe6f_18 (cb_enc hz) lkJ5_191 rfl ⟨⟨by simp only [rmL, rmD]; omega, by simp only [rmL, rmD]; omega⟩, by simp only [rmL, rmD]; omega, by simp only [rmL, rmD]; omega⟩ (Nat.le_of_ble_eq_true rfl) rfl (fun v h1 hq => ?_)
  obtain ⟨rfl, e2⟩ := hq
  obtain rfl := e2.symm
  refine o_if_eq (pc := 21) 45 dJ5_append_3fe6f_21 (by decide) (by unfold inI; omega) (fun c_21 => (by exfalso; omega)) (fun c_21 => ?_)
  refine o_aload_n (pc := 24) dJ5_append_3fe6f_24 0 rfl ?_
  refine o_gR (pc := 25) (j := 0) ((ak 1 c1)) (v1) dJ5_append_3fe6f_25 flJ5_15 rfl rfl B1.1 B1.2.2.1 ?_
  refine o_aload_n (pc := 28) dJ5_append_3fe6f_28 0 rfl ?_
  refine o_dup (pc := 29) dJ5_append_3fe6f_29 rfl ?_
  refine o_gI (pc := 30) (j := 3) dJ5_append_3fe6f_30 flJ5_79 rfl rfl B1.1 B1.2.2.2.2.1 ?_
  refine o_dup_x1 (pc := 33) dJ5_append_3fe6f_33 rfl rfl ?_
  refine o_iconst (pc := 34) dJ5_append_3fe6f_34 ?_
  refine o_iadd (pc := 35) dJ5_append_3fe6f_35 ?_
  refine o_pI (pc := 36) (j := 3) dJ5_append_3fe6f_36 fwJ5_79 rfl rfl B1.1 ?_
  refine o_iload_n (pc := 39) dJ5_append_3fe6f_39 1 rfl ?_
  refine o_i2b (pc := 40) dJ5_append_3fe6f_40 ?_
  refine o_topI (y := z) (by unfold bI; omega) ?_
  refine o_bsI (pc := 41) dJ5_append_3fe6f_41 (shp_ak (by decide)) B1.2.1 (by omega) (by omega) (by omega) ?_
  refine o_goto (pc := 42) 75 dJ5_append_3fe6f_42 (by decide) ?_
  refine o_aload_n (pc := 75) dJ5_append_3fe6f_75 0 rfl ?_
  refine o_aret (pc := 76) dJ5_append_3fe6f_76 rfl (.inl ⟨_, rfl⟩) (.inr ⟨_, rfl⟩) (by first | omega | (simp only [rmL, rmD]; omega)) (by first | omega | (simp only [rmL, rmD]; omega)) ?_
  have F2 : Fr (fun i => i = b ∨ i = val) h (hset (hset _ 58 b 3 (L.length + 1)) (ak 1 c1) v1 (L.length : Int) z) := Fr_hset (Fr_hset (F1.w (fun i z => .inl (.inl z))) (by decide) (.inl (.inl rfl))) ak_ge (by rcases hv with z | z; exact .inl (.inr z.1); exact .inr z)
  refine ⟨rfl, v1, c1, B1.more (X := [z]) (by show L.length + 1 ≤ c1; omega) (by exact B1.1) (by exact B1.2.1) (by exact B1.2.2.1) ?_ ?_ (fun j j0 j1 g => ?_) ⟨hset_at, trivial⟩ (fun a ha => by rw [List.mem_singleton] at ha; omega), F2, hv.imp And.left id⟩
  · rw [hset_off (fun w => hne w.2.1.symm), hset_off (by omega)]
    exact B1.2.2.2.1
  · rw [hset_off (fun w => hne w.2.1.symm)]
    exact (hset_eq rfl).trans rfl
  · change ¬ ((L.length : Int) ≤ j ∧ j < (L.length : Int) + 1) at g
    rw [hset_off (fun w => g (by omega)), hset_off (fun w => hne w.2.1)]
theorem cb_addC {G : GG} {h : Hp} {b val cap : Nat} {L : List Int} (hB : BB h b val cap L) (he : ∃ n, h.2.2.2 = some n) (hL : L.length ≤ 580) {z : Int} (hz : 0 ≤ z ∧ z < 128) : Cy G MJ4_append_cf468 (rmL 6 1 1300) [rf G 58 b, .int (iI z)] h (fun v h1 => v = some (rf G 58 b) ∧ ∃ val1 cap1, BB h1 b val1 cap1 (L ++ [z]) ∧ Fr (fun i => i = b ∨ i = val) h h1 ∧ (val1 = val ∨ fre h val1)) := by
  refine o_entry (by decide +kernel) mwJ4_append_cf468 rfl (Nat.le_of_ble_eq_true rfl) ?_
  show YY G MJ4_append_cf468 (rmL 6 1 1300) 0 [(0, rf G 58 b), (1, .int (iI z))] [] h 0 0 _
  refine o_aload_n (pc := 0) dJ4_append_cf468_0 0 rfl ?_
  refine o_iload_n (pc := 1) dJ4_append_cf468_1 1 rfl ?_
  refine o_callSu (pc := 2) _ dJ4_append_cf468_2 (cb_appC hB he hL hz) suJ4_50 rfl rfl rfl hB.1 ⟨⟨by simp only [rmL, rmD]; omega, by simp only [rmL, rmD]; omega⟩, by simp only [rmL, rmD]; omega, by simp only [rmL, rmD]; omega⟩ (Nat.le_of_ble_eq_true rfl) rfl (fun v h1 hq => ?_)
  obtain ⟨rfl, v1, c1, B1, F1, hv⟩ := hq
  refine o_pop (pc := 5) dJ4_append_cf468_5 rfl ?_
  refine o_aload_n (pc := 6) dJ4_append_cf468_6 0 rfl ?_
  refine o_aret (pc := 7) dJ4_append_cf468_7 rfl (.inl ⟨_, rfl⟩) (.inr ⟨_, rfl⟩) (by first | omega | (simp only [rmL, rmD]; omega)) (by first | omega | (simp only [rmL, rmD]; omega)) ?_
  exact ⟨rfl, v1, c1, B1, F1, hv⟩
