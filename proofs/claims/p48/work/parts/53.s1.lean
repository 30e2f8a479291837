/-! strings of the old heap: length, charAt -/
section XS
variable {G : GG} {M M' : Mth} {R R' : Room} {pc : Nat} {lv lv' : List (Nat × Value)} {st : List Value} {h h' h1 : Hp} {c0 s0 : Nat} {res : Res} {i : Nat}
def sL (i : Nat) : Int := (xLen.getD i 0 : Nat)
def sB (i j : Nat) : Int := ((xByt.getD i []).getD j 0).toInt
theorem xS_old {p : Program} {l : Launch} {s : State} {m : MethodId} {args : Array Value} {meth : Method} {c : Code} {H : Heap} {locs : List Loc} (hC : xC G M p l s m args meth c) (hR : xR G h H) (hS : va_S (xA G) s.heap H locs) : ∀ a : Nat, a < (gH G).size → ¬ xA G a → s.heap[a]? = (gH G)[a]? := by
  intro a ha hA
  have h2 : a < s.heap.size := Nat.lt_of_lt_of_le ha hC.2.2.2.2.2.2.2.2.2.2.2
  rw [← hS.2.1 a h2 hA]
  exact hR.2.1 a hA
theorem xS_vk {p : Program} {l : Launch} {s : State} {m : MethodId} {args : Array Value} {meth : Method} {c : Code} {H : Heap} {locs : List Loc} (hC : xC G M p l s m args meth c) (hR : xR G h H) (hS : va_S (xA G) s.heap H locs) : vk_S 15 xLen xByt (gK G) (gV G) (xA G) s s.heap :=
  (hC.2.2.2.2.2.2.2.2.2.2.1.2.2.2.2.2.2.2.2.1).kept (xS_old hC hR hS)
theorem x_ldcS {idx : Nat} (tx : String) (i : Nat) (d : decode M.2.1 pc = .ok (.ldc idx, 2)) (hq : (M.1.cls, idx, tx, i) ∈ xStr) (k : X G M R (pc + 2) lv (.ref (gK G i) :: st) h c0 s0 res h') : X G M R pc lv st h c0 s0 res h' := by
  intro p l e s m args below meth c H locs ls hC hR hS hl
  exact va_ldcS hC.1 hC.2.1 hC.2.2.2.2.1 (hC.2.2.2.2.2.2.2.2.2.2.1.2.2.2.1 _ hq) d (k p l e s m args below meth c H locs ls hC hR hS hl)
theorem x_strV {idx : Nat} (hi : i < 15) (d : decode M.2.1 pc = .ok (.getfield idx, 3)) (hq : Cond.fieldLink M.1.cls idx "java/lang/String" "value" "[B" ∈ lw_ctx) (k : X G M R (pc + 3) lv (.ref (gV G i) :: st) h c0 s0 res h') : X G M R pc lv (.ref (gK G i) :: st) h c0 s0 res h' := by
  intro p l e s m args below meth c H locs ls hC hR hS hl
  exact vk_getf hC.1 hC.2.1 ((xS_vk hC hR hS).1 i hi).2.2.1 hS hC.2.2.2.2.1 (hC.2.2.2.2.2.1 _ hq) (fun _ z => z) d (k p l e s m args below meth c H locs ls hC hR hS hl)
theorem x_strC {idx : Nat} (hi : i < 15) (d : decode M.2.1 pc = .ok (.getfield idx, 3)) (hq : Cond.fieldLink M.1.cls idx "java/lang/String" "coder" "B" ∈ lw_ctx) (k : X G M R (pc + 3) lv (.int (iI 0) :: st) h c0 s0 res h') : X G M R pc lv (.ref (gK G i) :: st) h c0 s0 res h' := by
  intro p l e s m args below meth c H locs ls hC hR hS hl
  exact vk_getf hC.1 hC.2.1 ((xS_vk hC hR hS).1 i hi).2.1 hS hC.2.2.2.2.1 (hC.2.2.2.2.2.1 _ hq) (fun _ z => z) d (k p l e s m args below meth c H locs ls hC hR hS hl)
theorem x_compact {idx : Nat} (d : decode M.2.1 pc = .ok (.getstatic idx, 3)) (hq : Cond.fieldLink M.1.cls idx "java/lang/String" "COMPACT_STRINGS" "Z" ∈ lw_ctx) (k : X G M R (pc + 3) lv (.int (iI 1) :: st) h c0 s0 res h') : X G M R pc lv st h c0 s0 res h' := by
  intro p l e s m args below meth c H locs ls hC hR hS hl
  exact va_gets hC.1 hC.2.1 ((hC.2.2.2.2.2.2.2.2.2.2.1.2.2.2.2.2.2.1).kept (xS_old hC hR hS)) hS hC.2.2.2.2.1 (hC.2.2.2.2.2.1 _ hq) (fun _ z => z) d (k p l e s m args below meth c H locs ls hC hR hS hl)
theorem x_sioobe {idx : Nat} (d : decode M.2.1 pc = .ok (.getstatic idx, 3)) (hq : Cond.fieldLink M.1.cls idx "jdk/internal/util/Preconditions" "SIOOBE_FORMATTER" "Ljava/util/function/BiFunction;" ∈ lw_ctx) (k : ∀ v : Value, (v = .null ∨ ∃ t, v = .ref t) → X G M R (pc + 3) lv (v :: st) h c0 s0 res h') : X G M R pc lv st h c0 s0 res h' := by
  intro p l e s m args below meth c H locs ls hC hR hS hl
  rcases (hC.2.2.2.2.2.2.2.2.2.2.1.2.2.2.2.2.2.2.1).kept (xS_old hC hR hS) with hz | ⟨t, hz⟩
  · exact va_gets hC.1 hC.2.1 hz hS hC.2.2.2.2.1 (hC.2.2.2.2.2.1 _ hq) (fun _ z => z) d (k _ (.inl rfl) p l e s m args below meth c H locs ls hC hR hS hl)
  · exact va_gets hC.1 hC.2.1 hz hS hC.2.2.2.2.1 (hC.2.2.2.2.2.1 _ hq) (fun _ z => z) d (k _ (.inr ⟨t, rfl⟩) p l e s m args below meth c H locs ls hC hR hS hl)
theorem sL_i {i : Nat} (hi : i < 15) : Int32.ofNat (xLen.getD i 0) = iI (sL i) := by
  match i, hi with
  | 0, _ => rfl
  | 1, _ => rfl
  | 2, _ => rfl
  | 3, _ => rfl
  | 4, _ => rfl
  | 5, _ => rfl
  | 6, _ => rfl
  | 7, _ => rfl
  | 8, _ => rfl
  | 9, _ => rfl
  | 10, _ => rfl
  | 11, _ => rfl
  | 12, _ => rfl
  | 13, _ => rfl
  | 14, _ => rfl
  | n + 15, hi => exact absurd hi (by omega)
theorem sL_b {i : Nat} (hi : i < 15) : 0 ≤ sL i ∧ sL i ≤ 10 := by
  match i, hi with
  | 0, _ => decide
  | 1, _ => decide
  | 2, _ => decide
  | 3, _ => decide
  | 4, _ => decide
  | 5, _ => decide
  | 6, _ => decide
  | 7, _ => decide
  | 8, _ => decide
  | 9, _ => decide
  | 10, _ => decide
  | 11, _ => decide
  | 12, _ => decide
  | 13, _ => decide
  | 14, _ => decide
  | n + 15, hi => exact absurd hi (by omega)
theorem sB_b (i j : Nat) (hi : i < 15) (hj : (j : Int) < sL i) : 32 ≤ sB i j ∧ sB i j ≤ 122 := by
  have h : ∀ i : Nat, i < 15 → ∀ j : Nat, j < 10 → (j : Int) < sL i → 32 ≤ sB i j ∧ sB i j ≤ 122 := by decide +kernel
  exact h i hi j (by have := sL_b hi; omega) hj
theorem sB_and (i j : Nat) (hi : i < 15) (hj : (j : Int) < sL i) : (((iI (sB i j) &&& iI 255).toUInt32 % 65536).toInt32) = iI (sB i j) := by
  have h : ∀ i : Nat, i < 15 → ∀ j : Nat, j < 10 → (j : Int) < sL i → (((iI (sB i j) &&& iI 255).toUInt32 % 65536).toInt32) = iI (sB i j) := by decide +kernel
  exact h i hi j (by have := sL_b hi; omega) hj
theorem sB_nar (i j : Nat) (hi : i < 15) (hj : (j : Int) < sL i) : narrow .char (.int (iI (sB i j))) = .int (iI (sB i j)) := by
  have h : ∀ i : Nat, i < 15 → ∀ j : Nat, j < 10 → (j : Int) < sL i → ((iI (sB i j)).toUInt32 % 65536).toInt32 = iI (sB i j) := by decide +kernel
  have h2 := h i hi j (by have := sL_b hi; omega) hj
  show Value.int _ = _
  exact congrArg Value.int h2
theorem x_strN (hi : i < 15) (d : decode M.2.1 pc = .ok (.arraylength, 1)) (k : X G M R (pc + 1) lv (.int (iI (sL i)) :: st) h c0 s0 res h') : X G M R pc lv (.ref (gV G i) :: st) h c0 s0 res h' := by
  intro p l e s m args below meth c H locs ls hC hR hS hl
  exact va_tlen hC.1 hC.2.1 ((xS_vk hC hR hS).1 i hi).2.2.2 hS (sL_i hi) d (k p l e s m args below meth c H locs ls hC hR hS hl)
theorem x_strB (hi : i < 15) (j : Nat) (hj : (j : Int) < sL i) (d : decode M.2.1 pc = .ok (.baload, 1)) (k : X G M R (pc + 1) lv (.int (iI (sB i j)) :: st) h c0 s0 res h') : X G M R pc lv (.int (iI j) :: .ref (gV G i) :: st) h c0 s0 res h' := by
  intro p l e s m args below meth c H locs ls hC hR hS hl
  have hb := sL_b hi
  have hcl : (iI (j : Int)).toNatClampNeg = j := by rw [iI_clamp ⟨by omega, by omega⟩]; omega
  refine va_tb hC.1 hC.2.1 ((xS_vk hC hR hS).1 i hi).2.2.2 hS (iI_in ⟨by omega, by omega⟩ (by omega) hj) (v := .int (iI (sB i j))) ?_ d (k p l e s m args below meth c H locs ls hC hR hS hl)
  rw [hcl]
  show Value.int _ = Value.int _
  rw [sB, iI_of]
theorem x_ishr0 {a : Int} (d : decode M.2.1 pc = .ok (.ishr, 1)) (k : X G M R (pc + 1) lv (.int (iI a) :: st) h c0 s0 res h') : X G M R pc lv (.int (iI 0) :: .int (iI a) :: st) h c0 s0 res h' := by
  intro p l e s m args below meth c H locs ls hC hR hS hl
  refine lv_ishr hC.1 hC.2.1 d ?_
  have e9 : iI a >>> (iI 0 &&& 31) = iI a := by
    rw [show (iI 0 &&& 31) = (0 : Int32) from by decide]
    exact Int32.shiftRight_zero
  rw [e9]
  exact k p l e s m args below meth c H locs ls hC hR hS hl
theorem x_i2c {x v : Int32} (d : decode M.2.1 pc = .ok (.i2c, 1)) (hv : (x.toUInt32 % 65536).toInt32 = v) (k : X G M R (pc + 1) lv (.int v :: st) h c0 s0 res h') : X G M R pc lv (.int x :: st) h c0 s0 res h' := by
  intro p l e s m args below meth c H locs ls hC hR hS hl
  exact lv_i2c hC.1 hC.2.1 d hv (k p l e s m args below meth c H locs ls hC hR hS hl)
theorem x_callVs {stk : List Value} {idx n : Nat} {v : Option Value} (As : List Value) (hi : i < 15) (d : decode M.2.1 pc = .ok (.invokevirtual idx, 3)) (hCt : Ct G M' R' (.ref (gK G i) :: As) h (.inl v) h1) (hL : LV M.1.cls idx M'.1 n) (hn : As.length = n) (hcl : M'.1.cls = "java/lang/String")
    (hroom : roomOk R R' c0 s0 M'.2.2.1 = true) (hst : (st.map fun v => v.category).sum ≤ 8) (hstk : stk = As.reverse ++ .ref (gK G i) :: st) (kk : X G M R (pc + 3) lv (v.toList ++ st) h1 (c0 + R'.cells) (s0 + R'.slots) res h') : X G M R pc lv stk h c0 s0 res h' := by
  intro p l e s m args below meth c H locs ls hC hR hS hl
  obtain ⟨hrm1, hrm2, hrm3⟩ := roomOk_spec hroom
  have hts := hC.2.2.2.2.2.1
  have hKK := hC.2.2.2.2.2.2.2.2.2.2.1
  subst hstk
  refine x_back (va_runV (b := gK G i) (C := M'.1.cls) (As := As) (rest := st) ⟨hC.1, hC.2.1, hC.2.2.2.1, hC.2.2.2.2.1, hts⟩ (met_of (hCt.2 l hC.2.2.2.2.2.2.2.1)) ⟨callB_x hts hCt.1 hL.1 hL.2.2.2.1 hL.2.2.2.2 hrm1, hts _ hL.2.1, hts _ hL.2.2.1⟩ ⟨xPc_blind, ?_, fun U hU hW => ⟨rfl, by rw [hU]; exact hR, xK.warm hW hKK⟩⟩ rfl hn hl.1 rfl (lv_room hst) d ⟨hrm2, hrm3⟩) hR hS (fun H1 locs1 hR1 hS1 => kk p l e s m args below meth c H1 locs1 ls hC hR1 hS1 hl)
  rw [hcl]
  exact vk_recv (xS_vk hC hR hS) hi hS
end XS
theorem ct_coder {G : GG} {h : Hp} {i : Nat} (hi : i < 15)  : Ct G MJ0_coder_7d493 (rmD 0) [.ref (gK G i)] h (.inl (some (.int (iI (0))))) h := by
  refine x_entry (by decide +kernel) mwJ0_coder_7d493 rfl (Nat.le_of_ble_eq_true rfl) ?_
  show X G MJ0_coder_7d493 (rmD 0) 0 [(0, .ref (gK G i))] [] h 0 0 (.inl (some (.int (iI (0))))) h
  refine x_compact (pc := 0) dJ0_coder_7d493_0 (in_ctx 553 (by decide +kernel) rfl) ?_
  refine x_if_eq (pc := 3) 13 dJ0_coder_7d493_3 (by decide) (by unfold inI; decide) (fun c_3 => absurd c_3 (by decide)) (fun c_3 => ?_)
  refine x_aload_n (pc := 6) dJ0_coder_7d493_6 0 rfl ?_
  refine x_strC (pc := 7) hi dJ0_coder_7d493_7 (in_ctx 1738 (by decide +kernel) rfl) ?_
  refine x_goto (pc := 10) 14 dJ0_coder_7d493_10 (by decide) ?_
  exact x_zret (pc := 14) dJ0_coder_7d493_14 rfl rfl (by decide) (by decide)
theorem ct_latin {G : GG} {h : Hp} {i : Nat} (hi : i < 15)  : Ct G MJ0_isLatin1_aae02 (rmD 0) [.ref (gK G i)] h (.inl (some (.int (iI (1))))) h := by
  refine x_entry (by decide +kernel) mwJ0_isLatin1_aae02 rfl (Nat.le_of_ble_eq_true rfl) ?_
  show X G MJ0_isLatin1_aae02 (rmD 0) 0 [(0, .ref (gK G i))] [] h 0 0 (.inl (some (.int (iI (1))))) h
  refine x_compact (pc := 0) dJ0_isLatin1_aae02_0 (in_ctx 553 (by decide +kernel) rfl) ?_
  refine x_if_eq (pc := 3) 17 dJ0_isLatin1_aae02_3 (by decide) (by unfold inI; decide) (fun c_3 => absurd c_3 (by decide)) (fun c_3 => ?_)
  refine x_aload_n (pc := 6) dJ0_isLatin1_aae02_6 0 rfl ?_
  refine x_strC (pc := 7) hi dJ0_isLatin1_aae02_7 (in_ctx 1738 (by decide +kernel) rfl) ?_
  refine x_if_ne (pc := 10) 17 dJ0_isLatin1_aae02_10 (by decide) (by unfold inI; decide) (fun c_10 => absurd c_10 (by decide)) (fun c_10 => ?_)
  refine x_iconst (pc := 13) dJ0_isLatin1_aae02_13 ?_
  refine x_goto (pc := 14) 18 dJ0_isLatin1_aae02_14 (by decide) ?_
  exact x_zret (pc := 18) dJ0_isLatin1_aae02_18 rfl rfl (by decide) (by decide)
theorem ct_slen {G : GG} {h : Hp} {i : Nat} (hi : i < 15)  : Ct G MJ0_length_8abf5 (rmD 1) [.ref (gK G i)] h (.inl (some (.int (iI (sL i))))) h := by
  refine x_entry (by decide +kernel) mwJ0_length_8abf5 rfl (Nat.le_of_ble_eq_true rfl) ?_
  show X G MJ0_length_8abf5 (rmD 1) 0 [(0, .ref (gK G i))] [] h 0 0 (.inl (some (.int (iI (sL i))))) h
  refine x_aload_n (pc := 0) dJ0_length_8abf5_0 0 rfl ?_
  refine x_strV (pc := 1) hi dJ0_length_8abf5_1 (in_ctx 1737 (by decide +kernel) rfl) ?_
  refine x_strN (pc := 4) hi dJ0_length_8abf5_4 ?_
  refine x_aload_n (pc := 5) dJ0_length_8abf5_5 0 rfl ?_
  refine x_callVs (pc := 6) _ hi dJ0_length_8abf5_6 (ct_coder hi) lkJ0_335 rfl rfl (by decide) (Nat.le_of_ble_eq_true rfl) rfl ?_
  refine x_ishr0 (pc := 9) dJ0_length_8abf5_9 ?_
  exact x_iret (pc := 10) dJ0_length_8abf5_10 rfl (by decide) (by decide)
theorem ct_pck_n {G : GG} {h : Hp} {a b : Int} (ha : inI a) (hb : inI b) (h0 : 0 ≤ a) (h1 : a < b)  : Ct G MJ3_checkIndex_8e157 (rmD 0) [.int (iI a), .int (iI b), .null] h (.inl (some (.int (iI (a))))) h := by
  refine x_entry (by decide +kernel) mwJ3_checkIndex_8e157 rfl (Nat.le_of_ble_eq_true rfl) ?_
  show X G MJ3_checkIndex_8e157 (rmD 0) 0 [(0, .int (iI a)), (1, .int (iI b)), (2, .null)] [] h 0 0 (.inl (some (.int (iI (a))))) h
  refine x_iload_n (pc := 0) dJ3_checkIndex_8e157_0 0 rfl ?_
  refine x_if_lt (pc := 1) 9 dJ3_checkIndex_8e157_1 (by decide) ha (fun c_1 => absurd c_1 (by omega)) (fun c_1 => ?_)
  refine x_iload_n (pc := 4) dJ3_checkIndex_8e157_4 0 rfl ?_
  refine x_iload_n (pc := 5) dJ3_checkIndex_8e157_5 1 rfl ?_
  refine x_icmp_lt (pc := 6) 16 dJ3_checkIndex_8e157_6 (by decide) ha hb (fun c_6 => ?_) (fun c_6 => absurd c_6 (by omega))
  refine x_iload_n (pc := 16) dJ3_checkIndex_8e157_16 0 rfl ?_
  exact x_iret (pc := 17) dJ3_checkIndex_8e157_17 rfl (by decide) (by decide)
theorem ct_pck_r {G : GG} {h : Hp} {t : Nat} {a b : Int} (ha : inI a) (hb : inI b) (h0 : 0 ≤ a) (h1 : a < b)  : Ct G MJ3_checkIndex_8e157 (rmD 0) [.int (iI a), .int (iI b), .ref t] h (.inl (some (.int (iI (a))))) h := by
  refine x_entry (by decide +kernel) mwJ3_checkIndex_8e157 rfl (Nat.le_of_ble_eq_true rfl) ?_
  show X G MJ3_checkIndex_8e157 (rmD 0) 0 [(0, .int (iI a)), (1, .int (iI b)), (2, .ref t)] [] h 0 0 (.inl (some (.int (iI (a))))) h
  refine x_iload_n (pc := 0) dJ3_checkIndex_8e157_0 0 rfl ?_
  refine x_if_lt (pc := 1) 9 dJ3_checkIndex_8e157_1 (by decide) ha (fun c_1 => absurd c_1 (by omega)) (fun c_1 => ?_)
  refine x_iload_n (pc := 4) dJ3_checkIndex_8e157_4 0 rfl ?_
  refine x_iload_n (pc := 5) dJ3_checkIndex_8e157_5 1 rfl ?_
  refine x_icmp_lt (pc := 6) 16 dJ3_checkIndex_8e157_6 (by decide) ha hb (fun c_6 => ?_) (fun c_6 => absurd c_6 (by omega))
  refine x_iload_n (pc := 16) dJ3_checkIndex_8e157_16 0 rfl ?_
  exact x_iret (pc := 17) dJ3_checkIndex_8e157_17 rfl (by decide) (by decide)
theorem ct_sck {G : GG} {h : Hp} {a b : Int} (ha : inI a) (hb : inI b) (h0 : 0 ≤ a) (h1 : a < b)  : Ct G MJ0_checkIndex_df160 (rmD 1) [.int (iI a), .int (iI b)] h (.inl none) h := by
  refine x_entry (by decide +kernel) mwJ0_checkIndex_df160 rfl (Nat.le_of_ble_eq_true rfl) ?_
  show X G MJ0_checkIndex_df160 (rmD 1) 0 [(0, .int (iI a)), (1, .int (iI b))] [] h 0 0 (.inl none) h
  refine x_iload_n (pc := 0) dJ0_checkIndex_df160_0 0 rfl ?_
  refine x_iload_n (pc := 1) dJ0_checkIndex_df160_1 1 rfl ?_
  refine x_sioobe (pc := 2) dJ0_checkIndex_df160_2 (in_ctx 569 (by decide +kernel) rfl) (fun v hv => ?_)
  have hk : Ct G MJ3_checkIndex_8e157 (rmD 0) [.int (iI a), .int (iI b), v] h (.inl (some (.int (iI a)))) h := by
    rcases hv with rfl | ⟨t, rfl⟩
    · exact ct_pck_n ha hb h0 h1
    · exact ct_pck_r ha hb h0 h1
  refine x_callS (pc := 5) _ dJ0_checkIndex_df160_5 hk lkJ0_1059 rfl (by decide) (Nat.le_of_ble_eq_true rfl) rfl ?_
  refine x_pop (pc := 8) dJ0_checkIndex_df160_8 rfl ?_
  exact x_vret (pc := 9) dJ0_checkIndex_df160_9 rfl (by decide) (by decide)
theorem ct_lchar {G : GG} {h : Hp} {i : Nat} (hi : i < 15) (j : Nat) (hj : (j : Int) < sL i)  : Ct G MJ1_charAt_3b067 (rmD 2) [.ref (gV G i), .int (iI j)] h (.inl (some (.int (iI (sB i j))))) h := by
  refine x_entry (by decide +kernel) mwJ1_charAt_3b067 rfl (Nat.le_of_ble_eq_true rfl) ?_
  show X G MJ1_charAt_3b067 (rmD 2) 0 [(0, .ref (gV G i)), (1, .int (iI j))] [] h 0 0 (.inl (some (.int (iI (sB i j))))) h
  have hb := sL_b hi
  refine x_iload_n (pc := 0) dJ1_charAt_3b067_0 1 rfl ?_
  refine x_aload_n (pc := 1) dJ1_charAt_3b067_1 0 rfl ?_
  refine x_strN (pc := 2) hi dJ1_charAt_3b067_2 ?_
  refine x_callS (pc := 3) _ dJ1_charAt_3b067_3 (ct_sck (by unfold inI; omega) (by unfold inI; omega) (by omega) hj) lkJ1_9 rfl (by decide) (Nat.le_of_ble_eq_true rfl) rfl ?_
  refine x_aload_n (pc := 6) dJ1_charAt_3b067_6 0 rfl ?_
  refine x_iload_n (pc := 7) dJ1_charAt_3b067_7 1 rfl ?_
  refine x_strB (pc := 8) hi j hj dJ1_charAt_3b067_8 ?_
  refine x_sipush (pc := 9) (z := 255) dJ1_charAt_3b067_9 (by decide) ?_
  refine x_iand_ (pc := 12) dJ1_charAt_3b067_12 ?_
  refine x_i2c (pc := 13) dJ1_charAt_3b067_13 (sB_and i j hi hj) ?_
  exact x_zret (pc := 14) dJ1_charAt_3b067_14 rfl (sB_nar i j hi hj) (by decide) (by decide)
theorem ct_char {G : GG} {h : Hp} {i : Nat} (hi : i < 15) (j : Nat) (hj : (j : Int) < sL i)  : Ct G MJ0_charAt_5068e (rmD 3) [.ref (gK G i), .int (iI j)] h (.inl (some (.int (iI (sB i j))))) h := by
  refine x_entry (by decide +kernel) mwJ0_charAt_5068e rfl (Nat.le_of_ble_eq_true rfl) ?_
  show X G MJ0_charAt_5068e (rmD 3) 0 [(0, .ref (gK G i)), (1, .int (iI j))] [] h 0 0 (.inl (some (.int (iI (sB i j))))) h
  refine x_aload_n (pc := 0) dJ0_charAt_5068e_0 0 rfl ?_
  refine x_callVs (pc := 1) _ hi dJ0_charAt_5068e_1 (ct_latin hi) lkJ0_492 rfl rfl (by decide) (Nat.le_of_ble_eq_true rfl) rfl ?_
  refine x_if_eq (pc := 4) 16 dJ0_charAt_5068e_4 (by decide) (by unfold inI; decide) (fun c_4 => absurd c_4 (by decide)) (fun c_4 => ?_)
  refine x_aload_n (pc := 7) dJ0_charAt_5068e_7 0 rfl ?_
  refine x_strV (pc := 8) hi dJ0_charAt_5068e_8 (in_ctx 1737 (by decide +kernel) rfl) ?_
  refine x_iload_n (pc := 11) dJ0_charAt_5068e_11 1 rfl ?_
  refine x_callS (pc := 12) _ dJ0_charAt_5068e_12 (ct_lchar hi j hj) lkJ0_495 rfl (by decide) (Nat.le_of_ble_eq_true rfl) rfl ?_
  exact x_zret (pc := 15) dJ0_charAt_5068e_15 rfl (sB_nar i j hi hj) (by decide) (by decide)
