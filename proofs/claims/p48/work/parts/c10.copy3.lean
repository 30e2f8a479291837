/-! World.copy from its start -/
theorem WN.cpAll {G : GG} {h H1 H2 : Hp} {a w : Nat} {N : Int → Int} {B B2 : Bok} {S T : Nat → Prop} {j c1 b1 : Nat} (hW : WN G H1 w (cnt N (kc N j 0)) B2 (snew h H1) T) (hs : WN G H1 a N B S T) (hT : ∀ i, T i → ¬ fre h i) (F : Fr (fun _ => False) h H1) (hu : UQ H2) (hj : j < 2) (hA : LA G H2 (B2.1 j) c1 b1 (nj N j).toNat (fun q => (pk j, bE B j q))) (hF : Fr (fun i => i = B2.1 j) H1 H2) (hb : c1 = 0 ∨ fre H1 b1) :
    WN G H2 w (cnt N (kc N (j + 1) 0)) (B2.1, (fun i => if i = j then c1 else B2.2.1 i), (fun i => if i = j then b1 else B2.2.2.1 i), fun i q => if i = j then bE B j q else B2.2.2.2 i q) (snew h H2) T ∧ Fr (fun _ => False) h H2 := by
  have nb := hs.nb j (by omega)
  have sl := (hW.2.2.2.2.2.1.2.1 j (by omega)).1.1
  refine ⟨WN.all (N' := cnt N (kc N (j + 1) 0)) (x := fun q => bE B j q) hW hu j hj (by rw [cnt_j j (by omega), kc_at]) hA hF hb (fun q hq => ⟨hs.mE j (by omega) (by omega), hs.2.2.2.2.2.1.2.2.2.1 j hj q (by omega)⟩) (fun _ => snew_mono hF) (fun c => ?_) (fun i hi => ⟨fun z => hT i z hi.1, hi.2⟩) (fun f hf => by rw [cnt_o (by have := hd_b (f := f); omega), cnt_o (by have := hd_b (f := f); omega)]) (fun i hi => ?_) (by omega) (fun i hi q hq f hf => ?_) (fun q hq f hf => ?_), F.tr hF (fun i z => .inr (by rw [z]; exact sl))⟩
  · rcases hb with z | z
    · omega
    · exact ⟨Fr_fre F z, ak 7 c1, ak_ge, hA.2.2.2.2.2.1 c⟩
  · rw [cnt_j i hi, cnt_j i hi]
    unfold kc
    by_cases c : i = j
    · rw [if_pos (by omega), if_pos c, c, Int.toNat_of_nonneg nb.1]
    · rw [if_neg c]
      by_cases d : i < j
      · rw [if_pos (by omega), if_pos d]
      · rw [if_neg (by omega), if_neg d, if_neg c]
        split <;> rfl
  · have b := ix_lo (q := q) hi (by have := (hW.nb i hi); omega) hf
    rw [cnt_o (by omega), cnt_o (by omega)]
  · have b := ix_lo (q := q) (f := f) (j := j) (by omega) (by omega) hf
    rw [cnt_o (by omega)]
    exact hs.e j (by omega) f hf (by omega)
theorem cw_copy {G : GG} {h : Hp} {a : Nat} {N : Int → Int} {B : Bok} {S T : Nat → Prop} (hW : WN G h a N B S T) (hT : ∀ i, T i → ¬ fre h i) (hbk : ∀ k : Nat, 0 ≤ (k : Int) → (k : Int) < N 8 → N (270 + 6 * (k : Int) + 5) = 0 ∨ N (270 + 6 * (k : Int) + 5) = 1) (hn : ∃ n, h.2.2.2 = some n) : Cy G MX12_copy (rmL 9 740 14000) [rf G 51 a] h (fun v h1 => ∃ w B2, v = some (rf G 51 w) ∧ WN G h1 w N B2 (snew h h1) T ∧ Fr (fun _ => False) h h1) := by
  refine o_entry (by decide +kernel) mwX12_copy rfl (Nat.le_of_ble_eq_true rfl) ?_
  show YY G MX12_copy (rmL 9 740 14000) 0 [(0, rf G 51 a)] [] h 0 0 _
  refine o_sizeD (fun w hw => ?_) hn
  refine o_new (pc := 0) (k := 51) dX12_copy_0 ncX12_8 rfl (by decide) hw (Nat.le_of_ble_eq_true rfl) (Nat.le_of_ble_eq_true rfl) (fun fw => ?_)
  refine o_dup (pc := 3) dX12_copy_3 rfl ?_
  refine o_callI (pc := 4) _ dX12_copy_4 (cw_init nw_in (fun f _ => congrFun nw_m _) ⟨_, rfl⟩) lkX12_41 rfl rfl ⟨⟨(Nat.le_of_ble_eq_true rfl), (Nat.le_of_ble_eq_true rfl)⟩, (Nat.le_of_ble_eq_true rfl), (Nat.le_of_ble_eq_true rfl)⟩ (Nat.le_of_ble_eq_true rfl) rfl (fun v h1 hq2 => ?_)
  obtain ⟨rfl, b, I⟩ := hq2
  have Fa : Fr (fun _ => False) h h1 := (Fr_nw (Fr.rf hn) (by decide) fw).tr I.2.1 (fun i e => .inr (by rw [e]; exact fw))
  have Wa : WN G h1 w n0 (b, (fun _ => 0), (fun _ => gV G 15), fun _ _ => 0) (snew h h1) T := I.wn (fun i hi => ⟨fun z => hT i z hi.1, hi.2⟩) ⟨fw, 51, by decide, I.1⟩ (fun j hj => ⟨fun k hk hm => (I.2.2.2 j hj).2.2.2.2.1 k hk (nw_old hm), 56, by decide, (I.2.2.2 j hj).1⟩)
  refine o_gen (P := fun H => WN G H w n0 (b, (fun _ => 0), (fun _ => gV G 15), fun _ _ => 0) (snew h H) T ∧ Fr (fun _ => False) h H) ⟨Wa, Fa⟩ (fun H0 HH0 => ?_)
  obtain ⟨W0, F0⟩ := HH0
  have hWs0 := hW.fr0 F0
  refine o_astore_n (pc := 7) (lv' := [(1, _), (0, _)]) dX12_copy_7 rfl (by decide) rfl ?_
  refine o_aload_n (pc := 8) dX12_copy_8 0 rfl ?_
  refine o_aload_n (pc := 9) dX12_copy_9 1 rfl ?_
  refine o_gI (pc := 10) (j := 0) dX12_copy_10 flX12_7 rfl rfl hWs0.mW hWs0.w0 ?_
  refine o_pI (pc := 13) (j := 0) dX12_copy_13 fwX12_7 rfl rfl W0.mW ?_
  have W1 := (W0.setH 0 (N 0)).reS rfl
  have F1 := Fr_hset (k := 51) (i := w) (j := ((0 : Nat) : Int)) (z := N 0) F0 (by decide) (.inr fw)
  have hWs1 := hW.fr0 F1
  refine o_aload_n (pc := 16) dX12_copy_16 0 rfl ?_
  refine o_aload_n (pc := 17) dX12_copy_17 1 rfl ?_
  refine o_gI (pc := 18) (j := 1) dX12_copy_18 flX12_13 rfl rfl hWs1.mW hWs1.w1 ?_
  refine o_pI (pc := 21) (j := 1) dX12_copy_21 fwX12_13 rfl rfl W1.mW ?_
  have W2 := (W1.setH 1 (N 1)).reS rfl
  have F2 := Fr_hset (k := 51) (i := w) (j := ((1 : Nat) : Int)) (z := N 1) F1 (by decide) (.inr fw)
  have hWs2 := hW.fr0 F2
  refine o_aload_n (pc := 24) dX12_copy_24 0 rfl ?_
  refine o_aload_n (pc := 25) dX12_copy_25 1 rfl ?_
  refine o_gI (pc := 26) (j := 2) dX12_copy_26 flX12_42 rfl rfl hWs2.mW hWs2.w2 ?_
  refine o_pI (pc := 29) (j := 2) dX12_copy_29 fwX12_42 rfl rfl W2.mW ?_
  have W3 := (W2.setH 2 (N 2)).reS rfl
  have F3 := Fr_hset (k := 51) (i := w) (j := ((2 : Nat) : Int)) (z := N 2) F2 (by decide) (.inr fw)
  have hWs3 := hW.fr0 F3
  refine o_aload_n (pc := 32) dX12_copy_32 0 rfl ?_
  refine o_aload_n (pc := 33) dX12_copy_33 1 rfl ?_
  refine o_gL (pc := 34) (j := 3) dX12_copy_34 flX12_45 rfl rfl hWs3.mW hWs3.w3 ?_
  refine o_pL (pc := 37) (j := 3) dX12_copy_37 fwX12_45 rfl rfl W3.mW ?_
  have W4 := (W3.setH 3 (N 10)).reS rfl
  have F4 := Fr_hset (k := 51) (i := w) (j := ((3 : Nat) : Int)) (z := N 10) F3 (by decide) (.inr fw)
  have hWs4 := hW.fr0 F4
  refine o_aload_n (pc := 40) dX12_copy_40 0 rfl ?_
  refine o_aload_n (pc := 41) dX12_copy_41 1 rfl ?_
  refine o_gL (pc := 42) (j := 4) dX12_copy_42 flX12_49 rfl rfl hWs4.mW hWs4.w4 ?_
  refine o_pL (pc := 45) (j := 4) dX12_copy_45 fwX12_49 rfl rfl W4.mW ?_
  have W5 := (W4.setH 4 (N 11)).reS rfl
  have F5 := Fr_hset (k := 51) (i := w) (j := ((4 : Nat) : Int)) (z := N 11) F4 (by decide) (.inr fw)
  have hWs5 := hW.fr0 F5
  refine o_aload_n (pc := 48) dX12_copy_48 0 rfl ?_
  refine o_aload_n (pc := 49) dX12_copy_49 1 rfl ?_
  refine o_gL (pc := 50) (j := 5) dX12_copy_50 flX12_52 rfl rfl hWs5.mW hWs5.w5 ?_
  refine o_pL (pc := 53) (j := 5) dX12_copy_53 fwX12_52 rfl rfl W5.mW ?_
  have W6 := (W5.setH 5 (N 12)).reS rfl
  have F6 := Fr_hset (k := 51) (i := w) (j := ((5 : Nat) : Int)) (z := N 12) F5 (by decide) (.inr fw)
  have hWs6 := hW.fr0 F6
  refine o_aload_n (pc := 56) dX12_copy_56 0 rfl ?_
  refine o_aload_n (pc := 57) dX12_copy_57 1 rfl ?_
  refine o_gL (pc := 58) (j := 6) dX12_copy_58 flX12_55 rfl rfl hWs6.mW hWs6.w6 ?_
  refine o_pL (pc := 61) (j := 6) dX12_copy_61 fwX12_55 rfl rfl W6.mW ?_
  have W7 := (W6.setH 6 (N 13)).reS rfl
  have F7 := Fr_hset (k := 51) (i := w) (j := ((6 : Nat) : Int)) (z := N 13) F6 (by decide) (.inr fw)
  have hWs7 := hW.fr0 F7
  have W8 : WN G _ w (cnt N (kc N 0 0)) (b, (fun _ => 0), (fun _ => gV G 15), fun _ _ => 0) (snew h _) T := W7.eqN (fun f hf => by
      rw [cnt_o (by have := hd_b (f := f); omega)]
      match f, hf with
      | 0, _ => rfl
      | 1, _ => rfl
      | 2, _ => rfl
      | 3, _ => rfl
      | 4, _ => rfl
      | 5, _ => rfl
      | 6, _ => rfl
      | n + 7, hf => exact absurd hf (by omega)) (fun j hj => by
      rw [cnt_j j hj]
      match j, hj with
      | 0, _ => rfl
      | 1, _ => rfl
      | 2, _ => rfl
      | 3, _ => rfl
      | 4, _ => rfl
      | 5, _ => rfl
      | 6, _ => rfl
      | n + 7, hj => exact absurd hj (by omega)) (fun j hj q hq => by
      have e : nj (upN (upN (upN (upN (upN (upN (upN n0 (hd 0) (N 0)) (hd 1) (N 1)) (hd 2) (N 2)) (hd 3) (N 10)) (hd 4) (N 11)) (hd 5) (N 12)) (hd 6) (N 13)) j = 0 := by
        match j, hj with
        | 0, _ => rfl
        | 1, _ => rfl
        | 2, _ => rfl
        | 3, _ => rfl
        | 4, _ => rfl
        | 5, _ => rfl
        | 6, _ => rfl
        | n + 7, hj => exact absurd hj (by omega)
      rw [e] at hq
      omega)
  refine o_gen (P := fun H => WN G H w (cnt N (kc N 0 0)) (b, (fun _ => 0), (fun _ => gV G 15), fun _ _ => 0) (snew h H) T ∧ Fr (fun _ => False) h H) ⟨W8, F7⟩ (fun H8 HH8 => ?_)
  obtain ⟨W9, F9⟩ := HH8
  have hWs9 := hW.fr0 F9
  refine o_aload_n (pc := 64) dX12_copy_64 0 rfl ?_
  refine o_gR (pc := 65) (j := 7) (56) ((b 0)) dX12_copy_65 flX12_19 rfl rfl W9.mW (W9.r 0) ?_
  refine o_aload_n (pc := 68) dX12_copy_68 1 rfl ?_
  refine o_gR (pc := 69) (j := 7) (56) ((B.1 0)) dX12_copy_69 flX12_19 rfl rfl hWs9.mW (hWs9.r 0) ?_
  refine o_callV (pc := 72) _ dX12_copy_72 (cl_addAll (W9.lc (j := 0) (cur := 0) (by decide) rfl) (hWs9.l 0) F9.2.2.2.2 (by have := hW.nb 0; change 0 ≤ nj N 0 ∧ nj N 0 ≤ 4 at this; omega)) lkX12_58 rfl rfl rfl rfl (W9.l 0).1 ⟨⟨(Nat.le_of_ble_eq_true rfl), (Nat.le_of_ble_eq_true rfl)⟩, (Nat.le_of_ble_eq_true rfl), (Nat.le_of_ble_eq_true rfl)⟩ (Nat.le_of_ble_eq_true rfl) rfl (fun v h2 hq2 => ?_)
  obtain ⟨⟨z0, rfl⟩, c1, b1, LA1, FA1, hb1⟩ := hq2
  refine o_uq (fun hu => ?_)
  obtain ⟨W10, F10⟩ := W9.cpAll (c1 := c1) (b1 := b1) hWs9 hT F9 hu (by decide) LA1 FA1 hb1
  have hWs10 := hW.fr0 F10
  refine o_pop (pc := 75) dX12_copy_75 rfl ?_
  refine o_aload_n (pc := 76) dX12_copy_76 0 rfl ?_
  refine o_gR (pc := 77) (j := 8) (56) ((b 1)) dX12_copy_77 flX12_23 rfl rfl W10.mW (W10.r 1) ?_
  refine o_aload_n (pc := 80) dX12_copy_80 1 rfl ?_
  refine o_gR (pc := 81) (j := 8) (56) ((B.1 1)) dX12_copy_81 flX12_23 rfl rfl hWs10.mW (hWs10.r 1) ?_
  refine o_callV (pc := 84) _ dX12_copy_84 (cl_addAll (W10.lc (j := 1) (cur := 0) (by decide) rfl) (hWs10.l 1) F10.2.2.2.2 (by have := hW.nb 1; change 0 ≤ nj N 1 ∧ nj N 1 ≤ 12 at this; omega)) lkX12_58 rfl rfl rfl rfl (W10.l 1).1 ⟨⟨(Nat.le_of_ble_eq_true rfl), (Nat.le_of_ble_eq_true rfl)⟩, (Nat.le_of_ble_eq_true rfl), (Nat.le_of_ble_eq_true rfl)⟩ (Nat.le_of_ble_eq_true rfl) rfl (fun v h2 hq2 => ?_)
  obtain ⟨⟨z1, rfl⟩, c2, b2, LA2, FA2, hb2⟩ := hq2
  refine o_uq (fun hu2 => ?_)
  obtain ⟨W11, F11⟩ := W10.cpAll (c1 := c2) (b1 := b2) hWs10 hT F10 hu2 (by decide) LA2 FA2 hb2
  refine o_pop (pc := 87) dX12_copy_87 rfl ?_
  refine o_post (o_lv [1, 0] rfl (cp_88 hW hT hbk F11 W11 (Nat.le_of_ble_eq_true rfl) (Nat.le_of_ble_eq_true rfl))) (fun v h3 q => ?_)
  obtain ⟨B3, q1, q2, q3⟩ := q
  exact ⟨w, B3, q1, q2, q3⟩
