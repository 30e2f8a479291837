/-! the law: its text is drawn and loaded -/
theorem cs_init5 {G : GG} {h : Hp} {b : Nat} (hm : (58, b) ∈ h.1) (hn : ∃ n, h.2.2.2 = some n) : Cy G MJ5_init_d00df (rmL 0 1 16) [rf G 58 b, .int (iI 16)] h (fun v h1 => v = none ∧ ∃ val, fre h val ∧ h1 = hset (rset (nw h (ak 1 16) val) 58 b 0 (some (ak 1 16, val))) 58 b 1 0) := by
  refine o_entry (by decide +kernel) mwJ5_init_d00df rfl (Nat.le_of_ble_eq_true rfl) ?_
  show YY G MJ5_init_d00df (rmL 0 1 16) 0 [(0, rf G 58 b), (1, .int (iI 16))] [] h 0 0 _
  refine o_aload_n (pc := 0) dJ5_init_d00df_0 0 rfl ?_
  refine o_obj (pc := 1) dJ5_init_d00df_1 obJ5_3 ob_i ob_c (Nat.le_of_ble_eq_true rfl) ⟨(Nat.le_of_ble_eq_true rfl), (Nat.le_of_ble_eq_true rfl)⟩ ?_
  refine o_compact (pc := 4) dJ5_init_d00df_4 fsJ5_18 ?_
  refine o_if_eq (pc := 7) 25 dJ5_init_d00df_7 (by decide) (by unfold inI; omega) (fun c_7 => (by exfalso; omega)) (fun c_7 => ?_)
  refine o_aload_n (pc := 10) dJ5_init_d00df_10 0 rfl ?_
  refine o_iload_n (pc := 11) dJ5_init_d00df_11 1 rfl ?_
  refine o_sizeD (fun q hq => ?_) hn
  refine o_newB (pc := 12) (N := 16) dJ5_init_d00df_12 hq rfl (Nat.le_of_ble_eq_true rfl) (Nat.le_of_ble_eq_true rfl) (Nat.le_of_ble_eq_true rfl) (fun fq => ?_)
  refine o_putR (pc := 14) (j := 0) dJ5_init_d00df_14 fxJ5_15 rfl rfl (nw_old hm) rfl rfl ?_
  refine o_aload_n (pc := 17) dJ5_init_d00df_17 0 rfl ?_
  refine o_iconst (pc := 18) dJ5_init_d00df_18 ?_
  refine o_pB (pc := 19) (j := 1) dJ5_init_d00df_19 fxJ5_22 rfl rfl (nw_old hm) (by omega) ?_
  refine o_goto (pc := 22) 38 dJ5_init_d00df_22 (by decide) ?_
  exact o_vret (pc := 38) dJ5_init_d00df_38 rfl (Nat.le_of_ble_eq_true rfl) (Nat.le_of_ble_eq_true rfl) ⟨rfl, q, fq, rfl⟩
theorem cs_init4 {G : GG} {h : Hp} {b : Nat} (hm : (58, b) ∈ h.1) (h3 : h.2.1 58 b 3 = 0) (hn : ∃ n, h.2.2.2 = some n) : Cy G MJ4_init_da8c8 (rmL 1 1 16) [rf G 58 b] h (fun v h1 => v = none ∧ ∃ val, BB h1 b val 16 [] ∧ Fr (fun i => i = b) h h1 ∧ fre h val) := by
  refine o_entry (by decide +kernel) mwJ4_init_da8c8 rfl (Nat.le_of_ble_eq_true rfl) ?_
  show YY G MJ4_init_da8c8 (rmL 1 1 16) 0 [(0, rf G 58 b)] [] h 0 0 _
  refine o_aload_n (pc := 0) dJ4_init_da8c8_0 0 rfl ?_
  refine o_bipush (pc := 1) (z := 16) dJ4_init_da8c8_1 (by decide) ?_
  refine o_callI (pc := 3) _ dJ4_init_da8c8_3 (cs_init5 hm hn) lkJ4_1 rfl rfl ⟨⟨(Nat.le_of_ble_eq_true rfl), (Nat.le_of_ble_eq_true rfl)⟩, (Nat.le_of_ble_eq_true rfl), (Nat.le_of_ble_eq_true rfl)⟩ (Nat.le_of_ble_eq_true rfl) rfl (fun v h1 hq => ?_)
  obtain ⟨rfl, val, fv, e2⟩ := hq
  have F0 : Fr (fun _ => False) h (nw h (ak 1 16) val) := Fr_nw (Fr.rf hn) ak_ge fv
  have e0 := (F0.2.2.1 58 b (by decide) hm id).1
  have F1 : Fr (fun i => i = b) h h1 := by rw [e2]; exact Fr_hset (S := fun i => i = b) (Fr_rset (Fr_nw (Fr.rf hn) ak_ge fv) (show 51 ≤ 58 by decide) (.inl rfl)) (show 51 ≤ 58 by decide) (.inl rfl)
  have hB : BB h1 b val 16 [] := by
    rw [e2]
    refine ⟨nw_old hm, nw_in, rset_at, by rw [hset_q]; rfl, ?_, Nat.zero_le _, by decide, trivial, fun j _ _ => ?_⟩
    · rw [hset_q, if_neg (by decide)]
      show (nw h (ak 1 16) val).2.1 58 b 3 = _
      rw [e0, h3]
      rfl
    · rw [hset_n (fun z => by have := z.1; unfold ak at this; omega)]
      show -128 ≤ (nw h (ak 1 16) val).2.1 (ak 1 16) val j ∧ (nw h (ak 1 16) val).2.1 (ak 1 16) val j < 128
      rw [nw_m]
      show -128 ≤ (0 : Int) ∧ (0 : Int) < 128
      decide
  exact o_vret (pc := 6) dJ4_init_da8c8_6 rfl (Nat.le_of_ble_eq_true rfl) (Nat.le_of_ble_eq_true rfl) ⟨rfl, val, hB, F1, fv⟩
def CI (h : Hp) : Prop := CL h ∧ SH h.2.1 n0 0 ∧ RW h.2.1 ∧ h.2.1 34 0 5 = 0 ∧ h.2.1 36 0 0 = 0 ∧ ∃ n, h.2.2.2 = some n
theorem CI.fr {S : Nat → Prop} {h H : Hp} (c : CI h) (F : Fr S h H) : CI H := by
  obtain ⟨c1, c2, c3, c4, c5, c6⟩ := c
  have e34 := (F.2.1 34 (by decide)).1
  have e35 := (F.2.1 35 (by decide)).1
  have e36 := (F.2.1 36 (by decide)).1
  refine ⟨F.cl c1, c2.fr F, ?_, by rw [e34]; exact c4, by rw [e36]; exact c5, F.2.2.2.2⟩
  unfold RW at *
  rw [e34, e35]
  exact c3
theorem CI.lq {h : Hp} (c : CI h) (T : Int → Int) : LQ h h T 0 := ⟨CO.rf c.2.2.2.2.2, c.2.2.1, c.2.2.2.1, fun j j0 j1 => by omega, fun _ _ _ _ _ => rfl, c.1⟩
theorem SH_cs {h : Hp} {N : Int → Int} {K n : Nat} (hs : SH h.2.1 N K) : SH (cs h h.2.1 n).2.1 N K := hs.k (fun k hk => cs_lo hk)
/-- the invariant of the loop, before its first turn -/
theorem AI.first {G : GG} {h : Hp} {a : Nat} {N : Int → Int} {B : Bok} {S T : Nat → Prop} {pl aw : Nat} (hcl : CL h) (hs : SH h.2.1 N 0) (h36 : h.2.1 36 0 0 = 0) (hU : UC N) (h2 : N 2 = 0) (hW : WN G h a N B S T) (hp1 : ¬ S pl) (hp2 : ¬ T pl) (ha1 : ¬ S aw) (ha2 : ¬ T aw) (hl : LA G h pl 0 (gV G 15) 0 (fun q => (51, a))) (har : (ak 8 1, aw) ∈ h.1 ∧ h.2.2.1 (ak 8 1) aw 0 = some (51, a)) (hT : ∀ x, T x → ¬ fre h x) (hn : ∃ n, h.2.2.2 = some n) : AI G h (fun _ => (a, B, S)) (fun _ => N) 0 T pl 0 (gV G 15) aw 0 := by
  refine ⟨hcl, ⟨hs, h36, fun i hi => absurd hi (Nat.not_lt_zero i)⟩, fun i _ => ⟨hU, by show N 2 ≤ _; rw [h2]; decide⟩, ⟨fun i _ => hW, fun i j hi hj hn => absurd (by omega) hn, fun i _ x hx => ?_, fun x hx => ?_⟩, hl, har, hT, hn⟩
  · rcases hx with rfl | ⟨z, -⟩ | rfl
    · exact hp1
    · exact absurd z (Nat.lt_irrefl 0)
    · exact ha1
  · rcases hx with rfl | ⟨z, -⟩ | rfl
    · exact hp2
    · exact absurd z (Nat.lt_irrefl 0)
    · exact ha2
set_option maxRecDepth 20000 in
theorem lw_57 {G : GG} {h : Hp} (hL : gV G 21 ≤ 300) (hc : CI h) {c0 s0 : Nat} (hcs : c0 ≤ 10000) (hss : s0 ≤ 200000) : YY G ML_law room_1 57 [(0, .ref (gV G 20)), (1, rf G 38 0)] [] h c0 s0 (fun v _ => v = some (.int (iI 1))) := by
  refine o_sizeD (fun b hb => ?_) hc.2.2.2.2.2
  refine o_new (pc := 57) (k := 58) dL_law_57 ncL_46 rfl (by decide) hb (by (try simp only [rmL, room_1, List.length_cons, List.length_nil, Nat.add_assoc, Nat.reduceAdd, Nat.add_zero, Nat.zero_add]); first | exact ckp hcs (by decide) | exact Nat.le_trans hcs (by decide)) (by (try simp only [rmL, room_1, List.length_cons, List.length_nil, Nat.add_assoc, Nat.reduceAdd, Nat.add_zero, Nat.zero_add]); first | exact ckp hss (by decide) | exact Nat.le_trans hss (by decide)) (fun fb => ?_)
  refine o_dup (pc := 60) dL_law_60 rfl ?_
  refine o_callI (pc := 61) _ dL_law_61 (cs_init4 nw_in (congrFun nw_m 3) ⟨_, rfl⟩) lkL_370 rfl rfl ⟨⟨(Nat.le_of_ble_eq_true rfl), (Nat.le_of_ble_eq_true rfl)⟩, (by (try simp only [rmL, room_1, List.length_cons, List.length_nil, Nat.add_assoc, Nat.reduceAdd, Nat.add_zero, Nat.zero_add]); first | exact ckp hcs (by decide) | exact Nat.le_trans hcs (by decide)), (by (try simp only [rmL, room_1, List.length_cons, List.length_nil, Nat.add_assoc, Nat.reduceAdd, Nat.add_zero, Nat.zero_add]); first | exact ckp hss (by decide) | exact Nat.le_trans hss (by decide))⟩ (Nat.le_of_ble_eq_true rfl) rfl (fun v h1 hq => ?_)
  obtain ⟨rfl, v0, hB, FB, fv⟩ := hq
  have c1 := (hc.fr (Fr_nw (S := fun _ => False) (Fr.rf hc.2.2.2.2.2) (by decide) fb)).fr FB
  refine o_astore_n (pc := 64) (lv' := [(2, _), (0, _), (1, _)]) dL_law_64 rfl (by decide) rfl ?_
  refine o_iconst (pc := 65) dL_law_65 ?_
  refine o_sizeD (fun aw haw => ?_) c1.2.2.2.2.2
  refine o_anew (pc := 66) (tag := 3) (N := 1) dL_law_66 clL_27 (fun s hs => hs.2.2.2.2.2.2.2.2.2.2.2.1) (by decide) rfl haw rfl (Nat.le_of_ble_eq_true rfl) (by (try simp only [rmL, room_1, List.length_cons, List.length_nil, Nat.add_assoc, Nat.reduceAdd, Nat.add_zero, Nat.zero_add]); first | exact ckp hcs (by decide) | exact Nat.le_trans hcs (by decide)) (by (try simp only [rmL, room_1, List.length_cons, List.length_nil, Nat.add_assoc, Nat.reduceAdd, Nat.add_zero, Nat.zero_add]); first | exact ckp hss (by decide) | exact Nat.le_trans hss (by decide)) (fun faw => ?_)
  have FA : Fr (fun _ => False) h1 (nw h1 (ak 8 1) aw) := Fr_nw (Fr.rf c1.2.2.2.2.2) ak_ge faw
  have c2 := c1.fr FA
  have hB2 := hB.fr FA id id
  have mb := hB.1
  have mv := hB.2.1
  refine o_dup (pc := 69) dL_law_69 rfl ?_
  refine o_iconst (pc := 70) dL_law_70 ?_
  refine o_aload_n (pc := 71) dL_law_71 1 rfl ?_
  refine o_iconst (pc := 72) dL_law_72 ?_
  refine o_aload_n (pc := 73) dL_law_73 0 rfl ?_
  refine o_callS (pc := 74) _ dL_law_74 (cw_drawn hL hB2 c2.2.2.2.2.2) lkL_371 rfl ⟨⟨(Nat.le_of_ble_eq_true rfl), (Nat.le_of_ble_eq_true rfl)⟩, (by (try simp only [rmL, room_1, List.length_cons, List.length_nil, Nat.add_assoc, Nat.reduceAdd, Nat.add_zero, Nat.zero_add]); first | exact ckp hcs (by decide) | exact Nat.le_trans hcs (by decide)), (by (try simp only [rmL, room_1, List.length_cons, List.length_nil, Nat.add_assoc, Nat.reduceAdd, Nat.add_zero, Nat.zero_add]); first | exact ckp hss (by decide) | exact Nat.le_trans hss (by decide))⟩ (Nat.le_of_ble_eq_true rfl) rfl (fun v H hq => ?_)
  obtain ⟨a, L, N, B, S, T, rfl, D, hP, hlen, hby, hU, h9, h20⟩ := hq
  have c3 := c2.fr D.2.2.2
  have maw : (ak 8 1, aw) ∈ H.1 := D.2.2.2.1 _ nw_in
  have naw : ∀ x, S x ∨ T x → x ≠ aw := fun x hx e => (D.2.1 x hx).1 (ak 8 1) ak_ge (by rw [e]; exact nw_in)
  refine o_aast (pc := 77) (tag := 3) (0) dL_law_77 (shp_ak (by decide)) rfl maw (any_same (q := (RX12, TX12, 14)) rfl rfl D.1.mW) rfl (by omega) (by omega) ?_
  have F4 : Fr (fun i => i = aw) H (rset H (ak 8 1) aw 0 (some (51, a))) := Fr_rset (Fr.rf D.n) ak_ge (.inl rfl)
  have c4 := c3.fr F4
  have W4 := D.1.fr F4 (fun i hi => ⟨fun z => naw i (.inl z) hi, fun z => naw i (.inr z) hi⟩)
  have hT4 : ∀ x, T x → ¬ fre (rset H (ak 8 1) aw 0 (some (51, a))) x := fun x hx => ((D.2.1 x (.inr hx)).2.fr F4).nf
  have r4 : (rset H (ak 8 1) aw 0 (some (51, a))).2.2.1 (ak 8 1) aw 0 = some (51, a) := rset_at
  obtain ⟨val, cap, hB3, hvv⟩ := D.2.2.1
  have hB4 := hB3.fr F4 (fun e => faw 58 (by decide) (by rw [← e]; exact mb)) (fun e => by
    rcases hvv with z | z
    · exact faw (ak 1 16) ak_ge (by rw [← e, z]; exact mv)
    · exact z (ak 8 1) ak_ge (by rw [e]; exact nw_in))
  refine o_gen (P := fun H4 => CI H4 ∧ WN G H4 a N B S T ∧ (∀ x, T x → ¬ fre H4 x) ∧ H4.2.2.1 (ak 8 1) aw 0 = some (51, a) ∧ BB H4 b val cap L ∧ (ak 8 1, aw) ∈ H4.1) ⟨c4, W4, hT4, r4, hB4, maw⟩ (fun H4 hH4 => ?_)
  clear c4 W4 hT4 r4 hB4 F4
  obtain ⟨c4, W4, hT4, r4, hB4, m4⟩ := hH4
  refine o_astore_n (pc := 78) (lv' := [(3, _), (2, _), (0, _), (1, _)]) dL_law_78 rfl (by decide) rfl ?_
  refine o_aload_n (pc := 79) dL_law_79 3 rfl ?_
  refine o_aload_n (pc := 80) dL_law_80 1 rfl ?_
  refine o_callV (pc := 81) _ dL_law_81 (cs_toString hB4 c4.2.2.2.2.2) lkL_375 rfl rfl rfl rfl hB4.1 ⟨⟨(Nat.le_of_ble_eq_true rfl), (Nat.le_of_ble_eq_true rfl)⟩, (by (try simp only [rmL, room_1, List.length_cons, List.length_nil, Nat.add_assoc, Nat.reduceAdd, Nat.add_zero, Nat.zero_add]); first | exact ckp hcs (by decide) | exact Nat.le_trans hcs (by decide)), (by (try simp only [rmL, room_1, List.length_cons, List.length_nil, Nat.add_assoc, Nat.reduceAdd, Nat.add_zero, Nat.zero_add]); first | exact ckp hss (by decide) | exact Nat.le_trans hss (by decide))⟩ (Nat.le_of_ble_eq_true rfl) rfl (fun v H5 hq => ?_)
  obtain ⟨sq, sv, rfl, hSQ, F5⟩ := hq
  have c5 := c4.fr F5
  have W5 := W4.fr0 F5
  have hT5 : ∀ x, T x → ¬ fre H5 x := fun x hx hf => hT4 x hx (Fr_fre F5 hf)
  have m5 := F5.1 _ m4
  have r5 : H5.2.2.1 (ak 8 1) aw 0 = some (51, a) := by rw [(F5.2.2.1 (ak 8 1) aw ak_ge m4 id).2]; exact r4
  have hLT := hB4.2.2.2.2.2.2.2.1
  refine o_callS (pc := 84) _ dL_law_84 (cw_load hP hLT (Nat.le_trans hlen (by decide)) (fun j j0 j1 => hby _ (TXat_in L 0 hLT j j0 (by omega))) c5.2.1.2.2 (c5.lq _) hSQ) lkL_379 rfl ⟨⟨(Nat.le_of_ble_eq_true rfl), (Nat.le_of_ble_eq_true rfl)⟩, (by (try simp only [rmL, room_1, List.length_cons, List.length_nil, Nat.add_assoc, Nat.reduceAdd, Nat.add_zero, Nat.zero_add]); first | exact ckp hcs (by decide) | exact Nat.le_trans hcs (by decide)), (by (try simp only [rmL, room_1, List.length_cons, List.length_nil, Nat.add_assoc, Nat.reduceAdd, Nat.add_zero, Nat.zero_add]); first | exact ckp hss (by decide) | exact Nat.le_trans hss (by decide))⟩ (Nat.le_of_ble_eq_true rfl) rfl (fun v H6 hq => ?_)
  obtain ⟨rfl, d, hcl, hs, h360, h341⟩ := hq
  have W6 := d.wn W5
  have hT6 : ∀ x, T x → ¬ fre H6 x := fun x hx hf => hT5 x hx (fun k hk z => hf k hk (by rw [d.1]; exact z))
  have m6 : (ak 8 1, aw) ∈ H6.1 := by rw [d.1]; exact m5
  have r6 : H6.2.2.1 (ak 8 1) aw 0 = some (51, a) := by rw [d.2.1]; exact r5
  have n6 := d.2.2.2
  clear d W5 hT5 m5 r5 hSQ W4 hT4 r4 m4
  have n3 : 0 ≤ N 3 ∧ N 3 ≤ 8 := W6.nb 3
  refine o_aload_n (pc := 87) dL_law_87 0 rfl ?_
  refine o_iconst (pc := 88) dL_law_88 ?_
  refine o_aaI (pc := 89) (tag := 3) (a' := 51) (b' := a) dL_law_89 (shp_ak (by decide)) rfl m6 (by omega) (by omega) r6 ?_
  refine o_gR (pc := 90) (j := 10) (56) ((B.1 3)) dL_law_90 flL_81 rfl rfl W6.mW (W6.r 3) ?_
  refine o_callV (pc := 93) _ dL_law_93 (cl_size (W6.l 3)) lkL_73 rfl rfl rfl rfl (W6.l 3).1 ⟨⟨(Nat.le_of_ble_eq_true rfl), (Nat.le_of_ble_eq_true rfl)⟩, (by (try simp only [rmL, room_1, List.length_cons, List.length_nil, Nat.add_assoc, Nat.reduceAdd, Nat.add_zero, Nat.zero_add]); first | exact ckp hcs (by decide) | exact Nat.le_trans hcs (by decide)), (by (try simp only [rmL, room_1, List.length_cons, List.length_nil, Nat.add_assoc, Nat.reduceAdd, Nat.add_zero, Nat.zero_add]); first | exact ckp hss (by decide) | exact Nat.le_trans hss (by decide))⟩ (Nat.le_of_ble_eq_true rfl) rfl (fun v h2 hq => ?_)
  obtain ⟨rfl, e2⟩ := hq
  obtain rfl := e2.symm
  refine o_topI (y := N 3) (by show (((N 3).toNat : Nat) : Int) = _; omega) ?_
  refine o_icmp_ne (pc := 96) 124 dL_law_96 (by decide) (by unfold inI; omega) (by unfold inI; omega) (fun c_96 => (by exfalso; omega)) (fun c_96 => ?_)
  refine o_aload_n (pc := 99) dL_law_99 3 rfl ?_
  refine o_callC (pc := 100) _ dL_law_100 (fun G' hG => P_loadError (m := _) hs.1.1 hs.1.2.1) lkL_382 rfl rfl hcl ⟨⟨(Nat.le_of_ble_eq_true rfl), (Nat.le_of_ble_eq_true rfl)⟩, (by (try simp only [rmL, room_1, List.length_cons, List.length_nil, Nat.add_assoc, Nat.reduceAdd, Nat.add_zero, Nat.zero_add]); first | exact ckp hcs (by decide) | exact Nat.le_trans hcs (by decide)), (by (try simp only [rmL, room_1, List.length_cons, List.length_nil, Nat.add_assoc, Nat.reduceAdd, Nat.add_zero, Nat.zero_add]); first | exact ckp hss (by decide) | exact Nat.le_trans hss (by decide))⟩ (Nat.le_of_ble_eq_true rfl) rfl (fun n1 => ?_)
  
  refine o_topI (y := 0) h341 ?_
  have hcl1 := CL_cs (n := n1) (m1 := H6.2.1) hcl
  have hs1 := SH_cs (n := n1) hs
  refine o_if_ne (pc := 103) 124 dL_law_103 (by decide) (by unfold inI; omega) (fun c_103 => (by exfalso; omega)) (fun c_103 => ?_)
  refine o_aload_n (pc := 106) dL_law_106 3 rfl ?_
  refine o_callC (pc := 107) _ dL_law_107 (fun G' hG => P_loadStatement (m := _) hs1.1.1 hs1.1.2.1 hs1.1.2.2.2.2.2.2.1 hs1.2.1 hs1.2.2 (by rw [cs_lo (by decide), h341]; unfold inI; decide)) lkL_385 rfl rfl hcl1 ⟨⟨(Nat.le_of_ble_eq_true rfl), (Nat.le_of_ble_eq_true rfl)⟩, (by (try simp only [rmL, room_1, List.length_cons, List.length_nil, Nat.add_assoc, Nat.reduceAdd, Nat.add_zero, Nat.zero_add]); first | exact ckp hcs (by decide) | exact Nat.le_trans hcs (by decide)), (by (try simp only [rmL, room_1, List.length_cons, List.length_nil, Nat.add_assoc, Nat.reduceAdd, Nat.add_zero, Nat.zero_add]); first | exact ckp hss (by decide) | exact Nat.le_trans hss (by decide))⟩ (Nat.le_of_ble_eq_true rfl) rfl (fun n2 => ?_)
  refine o_topI (y := (-1)) (by rw [cs_lo (by decide)]; exact if_pos h341) ?_
  have W7 := (W6.cs (m1 := H6.2.1) (n' := n1)).cs (m1 := (cs H6 H6.2.1 n1).2.1) (n' := n2)
  have hcl7 := CL_cs (n := n2) (m1 := (cs H6 H6.2.1 n1).2.1) hcl1
  have hs7 := SH_cs (n := n2) hs1
  have e7 : (cs (cs H6 H6.2.1 n1) (cs H6 H6.2.1 n1).2.1 n2).2.1 36 0 0 = 0 := by rw [cs_lo (by decide), cs_lo (by decide)]; exact h360
  refine o_gen (P := fun H7 => CL H7 ∧ SH H7.2.1 N 0 ∧ H7.2.1 36 0 0 = 0 ∧ WN G H7 a N B S T ∧ (∀ x, T x → ¬ fre H7 x) ∧ H7.2.2.1 (ak 8 1) aw 0 = some (51, a) ∧ (ak 8 1, aw) ∈ H7.1 ∧ ∃ n, H7.2.2.2 = some n) ⟨hcl7, hs7, e7, W7, hT6, r6, m6, ⟨_, rfl⟩⟩ (fun H7 hH7 => ?_)
  clear hcl7 hs7 e7 W7 hT6 r6 m6 W6 hcl hs hcl1 hs1 h341 h360
  obtain ⟨hcl7, hs7, e7, W7, hT7, r7, m7, n7⟩ := hH7
  refine o_iconst (pc := 110) dL_law_110 ?_
  refine o_icmp_ne (pc := 111) 124 dL_law_111 (by decide) (by unfold inI; omega) (by unfold inI; omega) (fun c_111 => (by exfalso; omega)) (fun c_111 => ?_)
  refine o_aload_n (pc := 114) dL_law_114 3 rfl ?_
  refine o_aload_n (pc := 115) dL_law_115 0 rfl ?_
  refine o_iconst (pc := 116) dL_law_116 ?_
  refine o_aaI (pc := 117) (tag := 3) (a' := 51) (b' := a) dL_law_117 (shp_ak (by decide)) rfl m7 (by omega) (by omega) r7 ?_
  refine o_callS (pc := 118) _ dL_law_118 (cw_isSame W7 hs7 hcl7 (by decide) hU (LNs_of hs7) n7) lkL_356 rfl ⟨⟨(Nat.le_of_ble_eq_true rfl), (Nat.le_of_ble_eq_true rfl)⟩, (by (try simp only [rmL, room_1, List.length_cons, List.length_nil, Nat.add_assoc, Nat.reduceAdd, Nat.add_zero, Nat.zero_add]); first | exact ckp hcs (by decide) | exact Nat.le_trans hcs (by decide)), (by (try simp only [rmL, room_1, List.length_cons, List.length_nil, Nat.add_assoc, Nat.reduceAdd, Nat.add_zero, Nat.zero_add]); first | exact ckp hss (by decide) | exact Nat.le_trans hss (by decide))⟩ (Nat.le_of_ble_eq_true rfl) rfl (fun v H8 hq => ?_)
  obtain ⟨rfl, F8⟩ := hq
  have hcl8 := F8.cl hcl7
  have hs8 := hs7.fr F8
  have e8 : H8.2.1 36 0 0 = 0 := by rw [(F8.2.1 36 (by decide)).1]; exact e7
  have W8 := W7.fr0 F8
  have hT8 : ∀ x, T x → ¬ fre H8 x := fun x hx hf => hT7 x hx (Fr_fre F8 hf)
  have m8 := F8.1 _ m7
  have r8 : H8.2.2.1 (ak 8 1) aw 0 = some (51, a) := by rw [(F8.2.2.1 (ak 8 1) aw ak_ge m7 id).2]; exact r7
  have n8 := F8.2.2.2.2
  refine o_if_ne (pc := 121) 126 dL_law_121 (by decide) (by unfold inI; omega) (fun c_121 => ?_) (fun c_121 => (by exfalso; omega))
  refine o_sizeD (fun pl hpl => ?_) n8
  refine o_new (pc := 126) (k := 56) dL_law_126 ncL_61 rfl (by decide) hpl (by (try simp only [rmL, room_1, List.length_cons, List.length_nil, Nat.add_assoc, Nat.reduceAdd, Nat.add_zero, Nat.zero_add]); first | exact ckp hcs (by decide) | exact Nat.le_trans hcs (by decide)) (by (try simp only [rmL, room_1, List.length_cons, List.length_nil, Nat.add_assoc, Nat.reduceAdd, Nat.add_zero, Nat.zero_add]); first | exact ckp hss (by decide) | exact Nat.le_trans hss (by decide)) (fun fpl => ?_)
  refine o_dup (pc := 129) dL_law_129 rfl ?_
  refine o_callI (pc := 130) _ dL_law_130 (cl_init nw_in) lkL_388 rfl rfl ⟨⟨(Nat.le_of_ble_eq_true rfl), (Nat.le_of_ble_eq_true rfl)⟩, (by (try simp only [rmL, room_1, List.length_cons, List.length_nil, Nat.add_assoc, Nat.reduceAdd, Nat.add_zero, Nat.zero_add]); first | exact ckp hcs (by decide) | exact Nat.le_trans hcs (by decide)), (by (try simp only [rmL, room_1, List.length_cons, List.length_nil, Nat.add_assoc, Nat.reduceAdd, Nat.add_zero, Nat.zero_add]); first | exact ckp hss (by decide) | exact Nat.le_trans hss (by decide))⟩ (Nat.le_of_ble_eq_true rfl) rfl (fun v H9 hq => ?_)
  obtain ⟨rfl, e2⟩ := hq
  have hl9 := LA.new (G := G) (E := fun q => (51, a)) (q := pl) (h := nw H8 56 pl) nw_in (congrFun nw_m 2)
  rw [← e2] at hl9
  have F9 : Fr (fun _ => False) H8 H9 := by rw [e2]; exact Fr_rset (Fr_hset (Fr_nw (Fr.rf n8) (by decide) fpl) (by decide) (.inr fpl)) (by decide) (.inr fpl)
  have I := AI.first (F9.cl hcl8) (hs8.fr F9) (by rw [(F9.2.1 36 (by decide)).1]; exact e8) hU h20 (W8.fr0 F9) (W8.sn fpl) (fun z => hT8 pl z fpl) (fun z => naw aw (.inl z) rfl) (fun z => naw aw (.inr z) rfl) hl9 ⟨F9.1 _ m8, by rw [(F9.2.2.1 (ak 8 1) aw ak_ge m8 id).2]; exact r8⟩ (fun x hx hf => hT8 x hx (Fr_fre F9 hf)) F9.2.2.2.2
  refine o_astore (pc := 133) (lv' := [(4, _), (3, _), (2, _), (0, _), (1, _)]) dL_law_133 (by decide) rfl ?_
  refine o_iconst (pc := 135) dL_law_135 ?_
  refine o_istore (pc := 136) (lv' := [(5, _), (4, _), (3, _), (2, _), (0, _), (1, _)]) dL_law_136 (by decide) rfl ?_
  exact o_lv [4, 5, 2, 1, 0] rfl (lw_138 hL 50 I rfl (by (try simp only [rmL, room_1, List.length_cons, List.length_nil, Nat.add_assoc, Nat.reduceAdd, Nat.add_zero, Nat.zero_add]); first | exact ckp hcs (by decide) | exact Nat.le_trans hcs (by decide)) (by (try simp only [rmL, room_1, List.length_cons, List.length_nil, Nat.add_assoc, Nat.reduceAdd, Nat.add_zero, Nat.zero_add]); first | exact ckp hss (by decide) | exact Nat.le_trans hss (by decide)))
