/-! texts made of the builder -/
theorem o_castB {G : GG} {M : Mth} {R : Room} {pc : Nat} {lv : List (Nat × Value)} {st : List Value} {h : Hp} {c0 s0 : Nat} {Q : PP} {k i : Nat} {idx n : Nat} (d : decode M.2.1 pc = .ok (.checkcast idx, 3)) (hlk : Cond.classLink M.1.cls idx "[B" ∈ lw_ctx) (hsh : shp k = .inl (1, n)) (hm : (k, i) ∈ h.1) (kk : YY G M R (pc + 3) lv (rf G k i :: st) h c0 s0 Q) : YY G M R pc lv (rf G k i :: st) h c0 s0 Q := by
  intro p l e s m args below meth c H locs ls hC hR hS hl
  have hts := hC.2.2.2.2.2.1
  have hKK := hC.2.2.2.2.2.2.2.2.2.2.1
  obtain ⟨pp, -, hw⟩ := xws_at (G := G) hm
  rw [xcell_arr hsh] at hw
  exact va_castA hC.1 hC.2.1 hC.2.2.2.2.1 (hts _ hlk) hR.2.2.1 pp hw (hKK.1.2 1 _ rfl).2 d (kk p l e s m args below meth c H locs ls hC hR hS hl)
theorem ch_all : ∀ z : Fin 128, (((iI (z.val : Int) &&& iI 255).toUInt32 % 65536).toInt32) = iI (z.val : Int) ∧ ((iI (z.val : Int)).toUInt32 % 65536).toInt32 = iI (z.val : Int) := by decide +kernel
theorem ch_and {z : Int} (hz : 0 ≤ z ∧ z < 128) : (((iI z &&& iI 255).toUInt32 % 65536).toInt32) = iI z := by
  have h := (ch_all ⟨z.toNat, by omega⟩).1
  rw [show (((⟨z.toNat, by omega⟩ : Fin 128).val : Nat) : Int) = z by show ((z.toNat : Nat) : Int) = z; omega] at h
  exact h
theorem ch_nar {z : Int} (hz : 0 ≤ z ∧ z < 128) : narrow .char (.int (iI z)) = .int (iI z) := by
  have h := (ch_all ⟨z.toNat, by omega⟩).2
  rw [show (((⟨z.toNat, by omega⟩ : Fin 128).val : Nat) : Int) = z by show ((z.toNat : Nat) : Int) = z; omega] at h
  show Value.int _ = _
  exact congrArg Value.int h
/-- a text that was made -/
def SQ (h : Hp) (s sv n : Nat) (T : Int → Int) : Prop := (59, s) ∈ h.1 ∧ (ak 1 n, sv) ∈ h.1 ∧ h.2.2.1 59 s 0 = some (ak 1 n, sv) ∧ h.2.1 59 s 1 = 0 ∧ n ≤ 1300 ∧ ∀ j : Int, 0 ≤ j → j < n → h.2.1 (ak 1 n) sv j = T j
theorem SQ.fr {S : Nat → Prop} {h h1 : Hp} {s sv n : Nat} {T : Int → Int} (hB : SQ h s sv n T) (F : Fr S h h1) (h1' : ¬ S s) (h2 : ¬ S sv) : SQ h1 s sv n T := by
  obtain ⟨a1, a2, a3, a4, a5, a6⟩ := hB
  have e1 := F.2.2.1 59 s (by decide) a1 h1'
  have e2 := F.2.2.1 (ak 1 n) sv ak_ge a2 h2
  exact ⟨F.1 _ a1, F.1 _ a2, by rw [e1.2]; exact a3, by rw [e1.1]; exact a4, a5, by rw [e2.1]; exact a6⟩
theorem SQ.cs {h : Hp} {s sv n n' : Nat} {T : Int → Int} {m1 : Mem} (hB : SQ h s sv n T) : SQ (cs h m1 n') s sv n T := by
  obtain ⟨a1, a2, a3, a4, a5, a6⟩ := hB
  exact ⟨a1, a2, a3, by rw [cs_hi (by decide)]; exact a4, a5, fun j j0 j1 => by rw [cs_hi ak_ge]; exact a6 j j0 j1⟩
theorem cs_coder {G : GG} {h : Hp} {s sv n : Nat} {T : Int → Int} (hs : SQ h s sv n T) : Cy G MJ0_coder_7d493 (rmL 0 0 0) [rf G 59 s] h (fun v h1 => v = some (.int (iI 0)) ∧ h1 = h) := by
  refine o_entry (by decide +kernel) mwJ0_coder_7d493 rfl (Nat.le_of_ble_eq_true rfl) ?_
  show YY G MJ0_coder_7d493 (rmL 0 0 0) 0 [(0, rf G 59 s)] [] h 0 0 _
  refine o_compact (pc := 0) dJ0_coder_7d493_0 fsJ0_38 ?_
  refine o_if_eq (pc := 3) 13 dJ0_coder_7d493_3 (by decide) (by unfold inI; omega) (fun c_3 => (by exfalso; omega)) (fun c_3 => ?_)
  refine o_aload_n (pc := 6) dJ0_coder_7d493_6 0 rfl ?_
  refine o_gI (pc := 7) (j := 1) dJ0_coder_7d493_7 flJ0_15 rfl rfl hs.1 hs.2.2.2.1 ?_
  refine o_goto (pc := 10) 14 dJ0_coder_7d493_10 (by decide) ?_
  exact o_zret (pc := 14) dJ0_coder_7d493_14 rfl rfl (Nat.le_of_ble_eq_true rfl) (Nat.le_of_ble_eq_true rfl) ⟨rfl, rfl⟩
theorem cs_length {G : GG} {h : Hp} {s sv n : Nat} {T : Int → Int} (hs : SQ h s sv n T) : Cy G MJ0_length_8abf5 (rmL 1 0 0) [rf G 59 s] h (fun v h1 => v = some (.int (iI (n : Int))) ∧ h1 = h) := by
  refine o_entry (by decide +kernel) mwJ0_length_8abf5 rfl (Nat.le_of_ble_eq_true rfl) ?_
  show YY G MJ0_length_8abf5 (rmL 1 0 0) 0 [(0, rf G 59 s)] [] h 0 0 _
  refine o_aload_n (pc := 0) dJ0_length_8abf5_0 0 rfl ?_
  refine o_gR (pc := 1) (j := 0) ((ak 1 n)) (sv) dJ0_length_8abf5_1 flJ0_9 rfl rfl hs.1 hs.2.2.1 ?_
  refine o_alN (pc := 4) (tag := 1) dJ0_length_8abf5_4 (shp_ak (by decide)) hs.2.1 rfl ?_
  refine o_aload_n (pc := 5) dJ0_length_8abf5_5 0 rfl ?_
  refine o_callV (pc := 6) _ dJ0_length_8abf5_6 (cs_coder hs) lkJ0_335 rfl rfl rfl rfl hs.1 ⟨⟨by simp only [rmL, rmD]; omega, by simp only [rmL, rmD]; omega⟩, by simp only [rmL, rmD]; omega, by simp only [rmL, rmD]; omega⟩ (Nat.le_of_ble_eq_true rfl) rfl (fun v h1 hq => ?_)
  obtain ⟨rfl, e2⟩ := hq
  obtain rfl := e2.symm
  refine o_ishr (pc := 9) dJ0_length_8abf5_9 ishr0 ?_
  exact o_iret (pc := 10) dJ0_length_8abf5_10 rfl (Nat.le_of_ble_eq_true rfl) (Nat.le_of_ble_eq_true rfl) ⟨rfl, rfl⟩
theorem cs_lat {G : GG} {h : Hp} {s sv n : Nat} {T : Int → Int} (hs : SQ h s sv n T) : Cy G MJ0_isLatin1_aae02 (rmL 0 0 0) [rf G 59 s] h (fun v h1 => v = some (.int (iI 1)) ∧ h1 = h) := by
  refine o_entry (by decide +kernel) mwJ0_isLatin1_aae02 rfl (Nat.le_of_ble_eq_true rfl) ?_
  show YY G MJ0_isLatin1_aae02 (rmL 0 0 0) 0 [(0, rf G 59 s)] [] h 0 0 _
  refine o_compact (pc := 0) dJ0_isLatin1_aae02_0 fsJ0_38 ?_
  refine o_if_eq (pc := 3) 17 dJ0_isLatin1_aae02_3 (by decide) (by unfold inI; omega) (fun c_3 => (by exfalso; omega)) (fun c_3 => ?_)
  refine o_aload_n (pc := 6) dJ0_isLatin1_aae02_6 0 rfl ?_
  refine o_gI (pc := 7) (j := 1) dJ0_isLatin1_aae02_7 flJ0_15 rfl rfl hs.1 hs.2.2.2.1 ?_
  refine o_if_ne (pc := 10) 17 dJ0_isLatin1_aae02_10 (by decide) (by unfold inI; omega) (fun c_10 => (by exfalso; omega)) (fun c_10 => ?_)
  refine o_iconst (pc := 13) dJ0_isLatin1_aae02_13 ?_
  refine o_goto (pc := 14) 18 dJ0_isLatin1_aae02_14 (by decide) ?_
  exact o_zret (pc := 18) dJ0_isLatin1_aae02_18 rfl rfl (Nat.le_of_ble_eq_true rfl) (Nat.le_of_ble_eq_true rfl) ⟨rfl, rfl⟩
theorem cs_ck {G : GG} {h : Hp} {a m : Int} (h0 : 0 ≤ a) (h1 : a < m) (h2 : m < 100000) : Cy G MJ0_checkIndex_df160 (rmL 1 0 0) [.int (iI a), .int (iI m)] h (fun v h1 => v = none ∧ h1 = h) := by
  refine o_entry (by decide +kernel) mwJ0_checkIndex_df160 rfl (Nat.le_of_ble_eq_true rfl) ?_
  show YY G MJ0_checkIndex_df160 (rmL 1 0 0) 0 [(0, .int (iI a)), (1, .int (iI m))] [] h 0 0 _
  refine o_iload_n (pc := 0) dJ0_checkIndex_df160_0 0 rfl ?_
  refine o_iload_n (pc := 1) dJ0_checkIndex_df160_1 1 rfl ?_
  refine o_sioobe (pc := 2) dJ0_checkIndex_df160_2 fsJ0_1053 (fun v hv => ?_)
  have hk : Cy G MJ3_checkIndex_8e157 (rmL 0 0 0) [.int (iI a), .int (iI m), v] h (fun v1 h1 => v1 = some (.int (iI a)) ∧ h1 = h) := by
    rcases hv with rfl | ⟨t, rfl⟩
    · exact cl_pckN h0 h1 h2
    · exact cl_pckR h0 h1 h2
  refine o_callS (pc := 5) _ dJ0_checkIndex_df160_5 (hk) lkJ0_1059 rfl ⟨⟨by simp only [rmL, rmD]; omega, by simp only [rmL, rmD]; omega⟩, by simp only [rmL, rmD]; omega, by simp only [rmL, rmD]; omega⟩ (Nat.le_of_ble_eq_true rfl) rfl (fun v2 h3 hq => ?_)
  obtain ⟨rfl, e2⟩ := hq
  obtain rfl := e2.symm
  refine o_pop (pc := 8) dJ0_checkIndex_df160_8 rfl ?_
  exact o_vret (pc := 9) dJ0_checkIndex_df160_9 rfl (Nat.le_of_ble_eq_true rfl) (Nat.le_of_ble_eq_true rfl) ⟨rfl, rfl⟩
theorem cs_lchar {G : GG} {h : Hp} {n sv : Nat} {z j : Int} (hm : (ak 1 n, sv) ∈ h.1) (hn : n ≤ 1300) (h0 : 0 ≤ j) (h1 : j < n) (hz : 0 ≤ z ∧ z < 128) (e : h.2.1 (ak 1 n) sv j = z) : Cy G MJ1_charAt_3b067 (rmL 2 0 0) [rf G (ak 1 n) sv, .int (iI j)] h (fun v h1 => v = some (.int (iI z)) ∧ h1 = h) := by
  refine o_entry (by decide +kernel) mwJ1_charAt_3b067 rfl (Nat.le_of_ble_eq_true rfl) ?_
  show YY G MJ1_charAt_3b067 (rmL 2 0 0) 0 [(0, rf G (ak 1 n) sv), (1, .int (iI j))] [] h 0 0 _
  refine o_iload_n (pc := 0) dJ1_charAt_3b067_0 1 rfl ?_
  refine o_aload_n (pc := 1) dJ1_charAt_3b067_1 0 rfl ?_
  refine o_alN (pc := 2) (tag := 1) dJ1_charAt_3b067_2 (shp_ak (by decide)) hm rfl ?_
  refine o_callS (pc := 3) _ dJ1_charAt_3b067_3 (cs_ck h0 h1 (by omega)) lkJ1_9 rfl ⟨⟨by simp only [rmL, rmD]; omega, by simp only [rmL, rmD]; omega⟩, by simp only [rmL, rmD]; omega, by simp only [rmL, rmD]; omega⟩ (Nat.le_of_ble_eq_true rfl) rfl (fun v h1 hq => ?_)
  obtain ⟨rfl, e2⟩ := hq
  obtain rfl := e2.symm
  refine o_aload_n (pc := 6) dJ1_charAt_3b067_6 0 rfl ?_
  refine o_iload_n (pc := 7) dJ1_charAt_3b067_7 1 rfl ?_
  refine o_baI (pc := 8) dJ1_charAt_3b067_8 (shp_ak (by decide)) hm (by omega) (by omega) e ?_
  refine o_sipush (pc := 9) (z := 255) dJ1_charAt_3b067_9 (by decide) ?_
  refine o_iand_ (pc := 12) dJ1_charAt_3b067_12 ?_
  refine o_i2c (pc := 13) dJ1_charAt_3b067_13 (ch_and hz) ?_
  exact o_zret (pc := 14) dJ1_charAt_3b067_14 rfl (ch_nar hz) (Nat.le_of_ble_eq_true rfl) (Nat.le_of_ble_eq_true rfl) ⟨rfl, rfl⟩
theorem cs_char {G : GG} {h : Hp} {s sv n : Nat} {T : Int → Int} (hs : SQ h s sv n T) {z j : Int} (h0 : 0 ≤ j) (h1 : j < n) (hz : 0 ≤ z ∧ z < 128) (e : T j = z) : Cy G MJ0_charAt_5068e (rmL 3 0 0) [rf G 59 s, .int (iI j)] h (fun v h1 => v = some (.int (iI z)) ∧ h1 = h) := by
  refine o_entry (by decide +kernel) mwJ0_charAt_5068e rfl (Nat.le_of_ble_eq_true rfl) ?_
  show YY G MJ0_charAt_5068e (rmL 3 0 0) 0 [(0, rf G 59 s), (1, .int (iI j))] [] h 0 0 _
  refine o_aload_n (pc := 0) dJ0_charAt_5068e_0 0 rfl ?_
  refine o_callV (pc := 1) _ dJ0_charAt_5068e_1 (cs_lat hs) lkJ0_492 rfl rfl rfl rfl hs.1 ⟨⟨by simp only [rmL, rmD]; omega, by simp only [rmL, rmD]; omega⟩, by simp only [rmL, rmD]; omega, by simp only [rmL, rmD]; omega⟩ (Nat.le_of_ble_eq_true rfl) rfl (fun v h1 hq => ?_)
  obtain ⟨rfl, e2⟩ := hq
  obtain rfl := e2.symm
  refine o_if_eq (pc := 4) 16 dJ0_charAt_5068e_4 (by decide) (by unfold inI; omega) (fun c_4 => (by exfalso; omega)) (fun c_4 => ?_)
  refine o_aload_n (pc := 7) dJ0_charAt_5068e_7 0 rfl ?_
  refine o_gR (pc := 8) (j := 0) ((ak 1 n)) (sv) dJ0_charAt_5068e_8 flJ0_9 rfl rfl hs.1 hs.2.2.1 ?_
  refine o_iload_n (pc := 11) dJ0_charAt_5068e_11 1 rfl ?_
  refine o_callS (pc := 12) _ dJ0_charAt_5068e_12 (cs_lchar hs.2.1 hs.2.2.2.2.1 h0 h1 hz ((hs.2.2.2.2.2 j h0 h1).trans e)) lkJ0_495 rfl ⟨⟨by simp only [rmL, rmD]; omega, by simp only [rmL, rmD]; omega⟩, by simp only [rmL, rmD]; omega, by simp only [rmL, rmD]; omega⟩ (Nat.le_of_ble_eq_true rfl) rfl (fun v h1 hq => ?_)
  obtain ⟨rfl, e2⟩ := hq
  obtain rfl := e2.symm
  exact o_zret (pc := 15) dJ0_charAt_5068e_15 rfl (ch_nar hz) (Nat.le_of_ble_eq_true rfl) (Nat.le_of_ble_eq_true rfl) ⟨rfl, rfl⟩
theorem cb_ckl {G : GG} {h : Hp} {a m : Int} (h0 : 0 ≤ a) (h1 : a ≤ m) (h2 : m < 100000) : Cy G MJ7_checkLength_df160 (rmL 0 0 0) [.int (iI a), .int (iI m)] h (fun v h1 => v = none ∧ h1 = h) := by
  refine o_entry (by decide +kernel) mwJ7_checkLength_df160 rfl (Nat.le_of_ble_eq_true rfl) ?_
  show YY G MJ7_checkLength_df160 (rmL 0 0 0) 0 [(0, .int (iI a)), (1, .int (iI m))] [] h 0 0 _
  refine o_iload_n (pc := 0) dJ7_checkLength_df160_0 1 rfl ?_
  refine o_iload_n (pc := 1) dJ7_checkLength_df160_1 0 rfl ?_
  refine o_icmp_ge (pc := 2) 37 dJ7_checkLength_df160_2 (by decide) (by unfold inI; omega) (by unfold inI; omega) (fun c_2 => ?_) (fun c_2 => (by exfalso; omega))
  exact o_vret (pc := 37) dJ7_checkLength_df160_37 rfl (Nat.le_of_ble_eq_true rfl) (Nat.le_of_ble_eq_true rfl) ⟨rfl, rfl⟩
theorem cb_cprB {G : GG} {h : Hp} {cap val n : Nat} (hm : (ak 1 cap, val) ∈ h.1) (hel : ∀ j : Int, 0 ≤ j → j < cap → -128 ≤ h.2.1 (ak 1 cap) val j ∧ h.2.1 (ak 1 cap) val j < 128) (he : ∃ n, h.2.2.2 = some n) (hn : n ≤ cap) (hc : cap ≤ 1300) : Cy G MJ7_copyOfRangeByte_39247 (rmL 1 1 1300) [rf G (ak 1 cap) val, .int (iI 0), .int (iI (n : Int))] h (fun v h1 => ∃ q, fre h q ∧ v = some (rf G (ak 1 n) q) ∧ (ak 1 n, q) ∈ h1.1 ∧ Fr (fun _ => False) h h1 ∧ ∀ j : Int, 0 ≤ j → j < n → h1.2.1 (ak 1 n) q j = h.2.1 (ak 1 cap) val j) := by
  refine o_entry (by decide +kernel) mwJ7_copyOfRangeByte_39247 rfl (Nat.le_of_ble_eq_true rfl) ?_
  show YY G MJ7_copyOfRangeByte_39247 (rmL 1 1 1300) 0 [(0, rf G (ak 1 cap) val), (1, .int (iI 0)), (2, .int (iI (n : Int)))] [] h 0 0 _
  refine o_iload_n (pc := 0) dJ7_copyOfRangeByte_39247_0 1 rfl ?_
  refine o_iload_n (pc := 1) dJ7_copyOfRangeByte_39247_1 2 rfl ?_
  refine o_callS (pc := 2) _ dJ7_copyOfRangeByte_39247_2 (cb_ckl (by omega) (by omega) (by omega)) lkJ7_343 rfl ⟨⟨by simp only [rmL, rmD]; omega, by simp only [rmL, rmD]; omega⟩, by simp only [rmL, rmD]; omega, by simp only [rmL, rmD]; omega⟩ (Nat.le_of_ble_eq_true rfl) rfl (fun v h1 hq => ?_)
  obtain ⟨rfl, e2⟩ := hq
  obtain rfl := e2.symm
  refine o_iload_n (pc := 5) dJ7_copyOfRangeByte_39247_5 2 rfl ?_
  refine o_iload_n (pc := 6) dJ7_copyOfRangeByte_39247_6 1 rfl ?_
  refine o_isub (pc := 7) dJ7_copyOfRangeByte_39247_7 ?_
  refine o_topI (y := (n : Int)) (by omega) ?_
  refine o_istore_n (pc := 8) (lv' := [(3, _), (0, _), (1, _), (2, _)]) dJ7_copyOfRangeByte_39247_8 rfl (by decide) rfl ?_
  refine o_iload_n (pc := 9) dJ7_copyOfRangeByte_39247_9 0 rfl ?_
  refine o_sizeD (fun q hq => ?_) he
  refine o_newB (pc := 10) (N := n) dJ7_copyOfRangeByte_39247_10 hq rfl (by omega) (by first | omega | (simp only [rmL, rmD]; omega)) (by first | omega | (simp only [rmL, rmD]; omega)) (fun fq => ?_)
  have hne : ¬ val = q := fun z => fq _ ak_ge (by rw [← z]; exact hm)
  refine o_astore (pc := 12) (lv' := [(4, _), (3, _), (0, _), (1, _), (2, _)]) dJ7_copyOfRangeByte_39247_12 (by decide) rfl ?_
  refine o_aload_n (pc := 14) dJ7_copyOfRangeByte_39247_14 2 rfl ?_
  refine o_iload_n (pc := 15) dJ7_copyOfRangeByte_39247_15 3 rfl ?_
  refine o_aload (pc := 16) dJ7_copyOfRangeByte_39247_16 0 rfl ?_
  refine o_iconst (pc := 18) dJ7_copyOfRangeByte_39247_18 ?_
  refine o_aload_n (pc := 19) dJ7_copyOfRangeByte_39247_19 2 rfl ?_
  refine o_alN (pc := 20) (tag := 1) dJ7_copyOfRangeByte_39247_20 (shp_ak (by decide)) (nw_old hm) rfl ?_
  refine o_iload_n (pc := 21) dJ7_copyOfRangeByte_39247_21 3 rfl ?_
  refine o_isub (pc := 22) dJ7_copyOfRangeByte_39247_22 ?_
  refine o_iload_n (pc := 23) dJ7_copyOfRangeByte_39247_23 1 rfl ?_
  refine o_min (pc := 24) dJ7_copyOfRangeByte_39247_24 lmJ7_304 (by unfold inI; omega) (by unfold inI; omega) (Nat.le_of_ble_eq_true rfl) (Nat.le_of_ble_eq_true rfl) (by first | omega | (simp only [rmL, rmD]; omega)) (by first | omega | (simp only [rmL, rmD]; omega)) ?_
  rw [show min ((cap : Int) - 0) (n : Int) = ((n : Nat) : Int) by omega]
  refine o_copyB (pc := 27) (sp := 0) (dp := 0) dJ7_copyOfRangeByte_39247_27 acJ7_150 (shp_ak (by decide)) (shp_ak (by decide)) (nw_old hm) nw_in (by omega) (by omega) (by omega) (fun j hj => ?_) (Nat.le_of_ble_eq_true rfl) (Nat.le_of_ble_eq_true rfl) (fun n1 => ?_)
  · rw [nw_e hne]
    exact hel _ (by omega) (by omega)
  refine o_aload (pc := 30) dJ7_copyOfRangeByte_39247_30 0 rfl ?_
  refine o_aret (pc := 32) dJ7_copyOfRangeByte_39247_32 rfl (.inr ⟨_, rfl⟩) (.inr ⟨_, rfl⟩) (by first | omega | (simp only [rmL, rmD]; omega)) (by first | omega | (simp only [rmL, rmD]; omega)) ?_
  refine ⟨q, fq, rfl, nw_in, Fr_cpB (Fr_nw (Fr.rf he) ak_ge fq) ak_ge (.inr fq), fun j j0 j1 => ?_⟩
  obtain ⟨i, rfl⟩ : ∃ i : Nat, j = (i : Int) := ⟨j.toNat, by omega⟩
  rw [cpB_at, if_pos (by omega), nw_e hne, show 0 + (i - 0) = i by omega]
theorem cb_cpr {G : GG} {h : Hp} {cap val n : Nat} (hm : (ak 1 cap, val) ∈ h.1) (hel : ∀ j : Int, 0 ≤ j → j < cap → -128 ≤ h.2.1 (ak 1 cap) val j ∧ h.2.1 (ak 1 cap) val j < 128) (he : ∃ n, h.2.2.2 = some n) (hn : n ≤ cap) (hc : cap ≤ 1300) : Cy G MJ7_copyOfRange_39247 (rmL 2 1 1300) [rf G (ak 1 cap) val, .int (iI 0), .int (iI (n : Int))] h (fun v h1 => ∃ q, fre h q ∧ v = some (rf G (ak 1 n) q) ∧ (ak 1 n, q) ∈ h1.1 ∧ Fr (fun _ => False) h h1 ∧ ∀ j : Int, 0 ≤ j → j < n → h1.2.1 (ak 1 n) q j = h.2.1 (ak 1 cap) val j) := by
  refine o_entry (by decide +kernel) mwJ7_copyOfRange_39247 rfl (Nat.le_of_ble_eq_true rfl) ?_
  show YY G MJ7_copyOfRange_39247 (rmL 2 1 1300) 0 [(0, rf G (ak 1 cap) val), (1, .int (iI 0)), (2, .int (iI (n : Int)))] [] h 0 0 _
  refine o_iload_n (pc := 0) dJ7_copyOfRange_39247_0 1 rfl ?_
  refine o_if_ne (pc := 1) 10 dJ7_copyOfRange_39247_1 (by decide) (by unfold inI; omega) (fun c_1 => (by exfalso; omega)) (fun c_1 => ?_)
  refine o_iload_n (pc := 4) dJ7_copyOfRange_39247_4 2 rfl ?_
  refine o_aload_n (pc := 5) dJ7_copyOfRange_39247_5 0 rfl ?_
  refine o_alN (pc := 6) (tag := 1) dJ7_copyOfRange_39247_6 (shp_ak (by decide)) hm rfl ?_
  refine o_icmp_eq (pc := 7) 17 dJ7_copyOfRange_39247_7 (by decide) (by unfold inI; omega) (by unfold inI; omega) (fun c_7 => ?_) (fun c_7 => ?_)
  · refine o_aload_n (pc := 17) dJ7_copyOfRange_39247_17 0 rfl ?_
    obtain rfl : n = cap := by omega
    refine o_clone (pc := 18) (tag := 1) (N := n) dJ7_copyOfRange_39247_18 cnJ7_310.1 cnJ7_310.2.1 cnJ7_310.2.2 (by decide +kernel) (by decide) rfl (fun _ z => z) rfl hm (fun j hj => fits_b (hel j (by omega) (by omega))) (Nat.le_of_ble_eq_true rfl) (Nat.le_of_ble_eq_true rfl) (by first | omega | (simp only [rmL, rmD]; omega)) (by first | omega | (simp only [rmL, rmD]; omega)) (fun q n9 fq => ?_)
    have F1 : Fr (fun _ => False) h (cln h (ak 1 n) val q n9) := Fr_cln (Fr.rf he) ak_ge fq
    have me : (ak 1 n, q) ∈ (cln h (ak 1 n) val q n9).1 := List.mem_append_right _ (List.mem_singleton.mpr rfl)
    refine o_castB (pc := 21) dJ7_copyOfRange_39247_21 clJ7_311 (shp_ak (by decide)) me ?_
    refine o_aret (pc := 24) dJ7_copyOfRange_39247_24 rfl (.inr ⟨_, rfl⟩) (.inr ⟨_, rfl⟩) (by first | omega | (simp only [rmL, rmD]; omega)) (by first | omega | (simp only [rmL, rmD]; omega)) ?_
    refine ⟨q, fq, rfl, me, F1, fun j j0 j1 => ?_⟩
    show (if ak 1 n = ak 1 n ∧ q = q then h.2.1 (ak 1 n) val else _) j = _
    rw [if_pos ⟨rfl, rfl⟩]
  · refine o_aload_n (pc := 10) dJ7_copyOfRange_39247_10 0 rfl ?_
    refine o_iload_n (pc := 11) dJ7_copyOfRange_39247_11 1 rfl ?_
    refine o_iload_n (pc := 12) dJ7_copyOfRange_39247_12 2 rfl ?_
    refine o_callS (pc := 13) _ dJ7_copyOfRange_39247_13 (cb_cprB hm hel he hn hc) lkJ7_339 rfl ⟨⟨by simp only [rmL, rmD]; omega, by simp only [rmL, rmD]; omega⟩, by simp only [rmL, rmD]; omega, by simp only [rmL, rmD]; omega⟩ (Nat.le_of_ble_eq_true rfl) rfl (fun v h1 hq => ?_)
    obtain ⟨q, fq, rfl, f2, f3, f4⟩ := hq
    refine o_aret (pc := 16) dJ7_copyOfRange_39247_16 rfl (.inr ⟨_, rfl⟩) (.inr ⟨_, rfl⟩) (by first | omega | (simp only [rmL, rmD]; omega)) (by first | omega | (simp only [rmL, rmD]; omega)) ?_
    exact ⟨q, fq, rfl, f2, f3, f4⟩
theorem cb_gv {G : GG} {h : Hp} {b val cap : Nat} {L : List Int} (hB : BB h b val cap L) : Cy G MJ5_getValue_6d5f1 (rmL 0 0 0) [rf G 58 b] h (fun v h1 => v = some (rf G (ak 1 cap) val) ∧ h1 = h) := by
  refine o_entry (by decide +kernel) mwJ5_getValue_6d5f1 rfl (Nat.le_of_ble_eq_true rfl) ?_
  show YY G MJ5_getValue_6d5f1 (rmL 0 0 0) 0 [(0, rf G 58 b)] [] h 0 0 _
  refine o_aload_n (pc := 0) dJ5_getValue_6d5f1_0 0 rfl ?_
  refine o_gR (pc := 1) (j := 0) ((ak 1 cap)) (val) dJ5_getValue_6d5f1_1 flJ5_15 rfl rfl hB.1 hB.2.2.1 ?_
  exact o_aret (pc := 4) dJ5_getValue_6d5f1_4 rfl (.inr ⟨_, rfl⟩) (.inr ⟨_, rfl⟩) (Nat.le_of_ble_eq_true rfl) (Nat.le_of_ble_eq_true rfl) ⟨rfl, rfl⟩
theorem cb_len0 {G : GG} {h : Hp} {b val cap : Nat} {L : List Int} (hB : BB h b val cap L) : Cy G MJ5_length_8abf5 (rmL 0 0 0) [rf G 58 b] h (fun v h1 => v = some (.int (iI (L.length : Int))) ∧ h1 = h) := by
  refine o_entry (by decide +kernel) mwJ5_length_8abf5 rfl (Nat.le_of_ble_eq_true rfl) ?_
  show YY G MJ5_length_8abf5 (rmL 0 0 0) 0 [(0, rf G 58 b)] [] h 0 0 _
  refine o_aload_n (pc := 0) dJ5_length_8abf5_0 0 rfl ?_
  refine o_gI (pc := 1) (j := 3) dJ5_length_8abf5_1 flJ5_79 rfl rfl hB.1 hB.2.2.2.2.1 ?_
  exact o_iret (pc := 4) dJ5_length_8abf5_4 rfl (Nat.le_of_ble_eq_true rfl) (Nat.le_of_ble_eq_true rfl) ⟨rfl, rfl⟩
theorem cb_len {G : GG} {h : Hp} {b val cap : Nat} {L : List Int} (hB : BB h b val cap L) : Cy G MJ4_length_8abf5 (rmL 1 0 0) [rf G 58 b] h (fun v h1 => v = some (.int (iI (L.length : Int))) ∧ h1 = h) := by
  refine o_entry (by decide +kernel) mwJ4_length_8abf5 rfl (Nat.le_of_ble_eq_true rfl) ?_
  show YY G MJ4_length_8abf5 (rmL 1 0 0) 0 [(0, rf G 58 b)] [] h 0 0 _
  refine o_aload_n (pc := 0) dJ4_length_8abf5_0 0 rfl ?_
  refine o_callSu (pc := 1) _ dJ4_length_8abf5_1 (cb_len0 hB) suJ4_343 rfl rfl rfl hB.1 ⟨⟨by simp only [rmL, rmD]; omega, by simp only [rmL, rmD]; omega⟩, by simp only [rmL, rmD]; omega, by simp only [rmL, rmD]; omega⟩ (Nat.le_of_ble_eq_true rfl) rfl (fun v h1 hq => ?_)
  obtain ⟨rfl, e2⟩ := hq
  obtain rfl := e2.symm
  exact o_iret (pc := 4) dJ4_length_8abf5_4 rfl (Nat.le_of_ble_eq_true rfl) (Nat.le_of_ble_eq_true rfl) ⟨rfl, rfl⟩
theorem cs_init2 {G : GG} {h : Hp} {b val cap s : Nat} {L : List Int} (hB : BB h b val cap L) (hm : (59, s) ∈ h.1) (he : ∃ n, h.2.2.2 = some n) : Cy G MJ0_init_db425 (rmL 3 1 1300) [rf G 59 s, rf G 58 b, .null] h (fun v h1 => v = none ∧ ∃ sv, SQ h1 s sv L.length (h.2.1 (ak 1 cap) val) ∧ Fr (fun i => i = s) h h1) := by
  refine o_entry (by decide +kernel) mwJ0_init_db425 rfl (Nat.le_of_ble_eq_true rfl) ?_
  show YY G MJ0_init_db425 (rmL 3 1 1300) 0 [(0, rf G 59 s), (1, rf G 58 b), (2, .null)] [] h 0 0 _
  refine o_aload_n (pc := 0) dJ0_init_db425_0 0 rfl ?_
  refine o_obj (pc := 1) dJ0_init_db425_1 obJ0_1 ob_i ob_c (Nat.le_of_ble_eq_true rfl) ⟨(Nat.le_of_ble_eq_true rfl), (Nat.le_of_ble_eq_true rfl)⟩ ?_
  refine o_aload_n (pc := 4) dJ0_init_db425_4 1 rfl ?_
  refine o_callU (pc := 5) (q := (RJ4, TJ4, 4)) _ dJ0_init_db425_5 (cb_gv hB) luJ0_552 rfl rfl rfl hB.1 ⟨⟨by simp only [rmL, rmD]; omega, by simp only [rmL, rmD]; omega⟩, by simp only [rmL, rmD]; omega, by simp only [rmL, rmD]; omega⟩ (Nat.le_of_ble_eq_true rfl) rfl (fun v h1 hq => ?_)
  obtain ⟨rfl, e2⟩ := hq
  obtain rfl := e2.symm
  refine o_astore_n (pc := 8) (lv' := [(3, _), (0, _), (1, _), (2, _)]) dJ0_init_db425_8 rfl (by decide) rfl ?_
  refine o_aload_n (pc := 9) dJ0_init_db425_9 2 rfl ?_
  refine o_callU (pc := 10) (q := (RJ4, TJ4, 4)) _ dJ0_init_db425_10 (cb_len hB) luJ0_549 rfl rfl rfl hB.1 ⟨⟨by simp only [rmL, rmD]; omega, by simp only [rmL, rmD]; omega⟩, by simp only [rmL, rmD]; omega, by simp only [rmL, rmD]; omega⟩ (Nat.le_of_ble_eq_true rfl) rfl (fun v h1 hq => ?_)
  obtain ⟨rfl, e2⟩ := hq
  obtain rfl := e2.symm
  refine o_istore (pc := 13) (lv' := [(4, _), (3, _), (0, _), (1, _), (2, _)]) dJ0_init_db425_13 (by decide) rfl ?_
  refine o_aload_n (pc := 15) dJ0_init_db425_15 3 rfl ?_
  refine o_callU (pc := 16) (q := (RJ4, TJ4, 4)) _ dJ0_init_db425_16 (cb_lat hB) luJ0_1047 rfl rfl rfl hB.1 ⟨⟨by simp only [rmL, rmD]; omega, by simp only [rmL, rmD]; omega⟩, by simp only [rmL, rmD]; omega, by simp only [rmL, rmD]; omega⟩ (Nat.le_of_ble_eq_true rfl) rfl (fun v h1 hq => ?_)
  obtain ⟨rfl, e2⟩ := hq
  obtain rfl := e2.symm
  refine o_if_eq (pc := 19) 41 dJ0_init_db425_19 (by decide) (by unfold inI; omega) (fun c_19 => (by exfalso; omega)) (fun c_19 => ?_)
  refine o_aload_n (pc := 22) dJ0_init_db425_22 2 rfl ?_
  refine o_iconst (pc := 23) dJ0_init_db425_23 ?_
  refine o_pFB (pc := 24) (j := 1) dJ0_init_db425_24 fxJ0_15 rfl (fun q hq => by cases hq; rfl) rfl rfl hm (by omega) ?_
  refine o_uq (fun hu => ?_)
  have n1 : ¬ val = s := fun z => by
    have := hu 59 (ak 1 cap) s (by decide) ak_ge (by exact hm) (by rw [← z]; exact hB.2.1)
    unfold ak at this
    omega
  have FA : Fr (fun i => i = s) h (hset h 59 s 1 0) := Fr_hset (Fr.rf he) (by decide) (.inl rfl)
  refine o_aload_n (pc := 27) dJ0_init_db425_27 2 rfl ?_
  refine o_aload_n (pc := 28) dJ0_init_db425_28 1 rfl ?_
  refine o_iconst (pc := 29) dJ0_init_db425_29 ?_
  refine o_iload (pc := 30) dJ0_init_db425_30 0 rfl ?_
  refine o_callS (pc := 32) _ dJ0_init_db425_32 (cb_cpr (h := hset h 59 s 1 0) (n := L.length) (by exact hB.2.1) (fun j j0 j1 => by rw [hset_n (fun z => n1 z.2)]; exact hB.2.2.2.2.2.2.2.2 j j0 j1) he hB.2.2.2.2.2.1 hB.2.2.2.2.2.2.1) lkJ0_54 rfl ⟨⟨by simp only [rmL, rmD]; omega, by simp only [rmL, rmD]; omega⟩, by simp only [rmL, rmD]; omega, by simp only [rmL, rmD]; omega⟩ (Nat.le_of_ble_eq_true rfl) rfl (fun v h2 hq => ?_)
  obtain ⟨q, fq, rfl, f2, f3, f4⟩ := hq
  have m2 : (59, s) ∈ h2.1 := f3.1 _ hm
  refine o_pFR (pc := 35) (j := 0) dJ0_init_db425_35 fxJ0_9 rfl (fun q hq => by cases hq; rfl) rfl rfl m2 rfl rfl ?_
  refine o_goto (pc := 38) 97 dJ0_init_db425_38 (by decide) ?_
  refine o_vret (pc := 97) dJ0_init_db425_97 rfl (by first | omega | (simp only [rmL, rmD]; omega)) (by first | omega | (simp only [rmL, rmD]; omega)) ?_
  refine ⟨rfl, q, ⟨m2, f2, rset_at, ?_, by have := hB.2.2.2.2.2.1; have := hB.2.2.2.2.2.2.1; omega, fun j j0 j1 => ?_⟩, Fr_rset (FA.tr f3 (fun _ z => z.elim)) (by decide) (.inl rfl)⟩
  · show h2.2.1 59 s 1 = 0
    rw [(f3.2.2.1 59 s (by decide) hm (fun z => z)).1, hset_at]
  · show h2.2.1 (ak 1 L.length) q j = _
    rw [f4 j j0 j1, hset_n (fun z => n1 z.2)]
theorem cs_init1 {G : GG} {h : Hp} {b val cap s : Nat} {L : List Int} (hB : BB h b val cap L) (hm : (59, s) ∈ h.1) (he : ∃ n, h.2.2.2 = some n) : Cy G MJ0_init_81219 (rmL 4 1 1300) [rf G 59 s, rf G 58 b] h (fun v h1 => v = none ∧ ∃ sv, SQ h1 s sv L.length (h.2.1 (ak 1 cap) val) ∧ Fr (fun i => i = s) h h1) := by
  refine o_entry (by decide +kernel) mwJ0_init_81219 rfl (Nat.le_of_ble_eq_true rfl) ?_
  show YY G MJ0_init_81219 (rmL 4 1 1300) 0 [(0, rf G 59 s), (1, rf G 58 b)] [] h 0 0 _
  refine o_aload_n (pc := 0) dJ0_init_81219_0 0 rfl ?_
  refine o_aload_n (pc := 1) dJ0_init_81219_1 1 rfl ?_
  refine o_null (pc := 2) dJ0_init_81219_2 ?_
  refine o_callI (pc := 3) _ dJ0_init_81219_3 (cs_init2 hB hm he) lkJ0_489 rfl rfl ⟨⟨by simp only [rmL, rmD]; omega, by simp only [rmL, rmD]; omega⟩, by simp only [rmL, rmD]; omega, by simp only [rmL, rmD]; omega⟩ (Nat.le_of_ble_eq_true rfl) rfl (fun v h1 hq => ?_)
  obtain ⟨rfl, sv, q1, q2⟩ := hq
  refine o_vret (pc := 6) dJ0_init_81219_6 rfl (by first | omega | (simp only [rmL, rmD]; omega)) (by first | omega | (simp only [rmL, rmD]; omega)) ?_
  exact ⟨rfl, sv, q1, q2⟩
theorem cs_toString {G : GG} {h : Hp} {b val cap : Nat} {L : List Int} (hB : BB h b val cap L) (he : ∃ n, h.2.2.2 = some n) : Cy G MJ4_toString_0e30d (rmL 5 2 1310) [rf G 58 b] h (fun v h1 => ∃ s sv, v = some (rf G 59 s) ∧ SQ h1 s sv L.length (h.2.1 (ak 1 cap) val) ∧ Fr (fun _ => False) h h1) := by
  refine o_entry (by decide +kernel) mwJ4_toString_0e30d rfl (Nat.le_of_ble_eq_true rfl) ?_
  show YY G MJ4_toString_0e30d (rmL 5 2 1310) 0 [(0, rf G 58 b)] [] h 0 0 _
  refine o_sizeD (fun s hs => ?_) he
  refine o_new (pc := 0) (k := 59) dJ4_toString_0e30d_0 ncJ4_18 rfl (by decide) hs (by simp only [rmL, List.length_cons, List.length_nil]; omega) (by simp only [rmL, List.length_cons, List.length_nil]; omega) (fun fs => ?_)
  have FN : Fr (fun _ => False) h (nw h 59 s) := Fr_nw (Fr.rf he) (by decide) fs
  have B1 := hB.fr FN id id
  have hne : ¬ val = s := fun z => fs _ ak_ge (by rw [← z]; exact hB.2.1)
  refine o_dup (pc := 3) dJ4_toString_0e30d_3 rfl ?_
  refine o_aload_n (pc := 4) dJ4_toString_0e30d_4 0 rfl ?_
  refine o_callI (pc := 5) _ dJ4_toString_0e30d_5 (cs_init1 B1 nw_in FN.2.2.2.2) lkJ4_137 rfl rfl ⟨⟨by simp only [rmL, rmD, List.length_cons, List.length_nil]; omega, by simp only [rmL, rmD, List.length_cons, List.length_nil]; omega⟩, by simp only [rmL, rmD, List.length_cons, List.length_nil]; omega, by simp only [rmL, rmD, List.length_cons, List.length_nil]; omega⟩ (Nat.le_of_ble_eq_true rfl) rfl (fun v h2 hq => ?_)
  obtain ⟨rfl, sv, q1, q2⟩ := hq
  refine o_aret (pc := 8) dJ4_toString_0e30d_8 rfl (.inl ⟨_, rfl⟩) (.inr ⟨_, rfl⟩) (by simp only [rmL, List.length_cons, List.length_nil]; omega) (by simp only [rmL, List.length_cons, List.length_nil]; omega) ?_
  refine ⟨s, sv, rfl, ?_, FN.tr q2 (fun i z => .inr (by rw [z]; exact fs))⟩
  rw [nw_e hne] at q1
  exact q1
