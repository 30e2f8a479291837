/-! acts: undo -/
theorem LA.rs {G : GG} {h : Hp} {l c b n k i j : Nat} {v : Option (Nat × Nat)} {E : Nat → Nat × Nat} (hA : LA G h l c b n E) (h1 : k ≠ 56) (h2 : ∀ c, k ≠ ak 7 c) : LA G (rset h k i j v) l c b n E := by
  obtain ⟨a1, a2, a3, a4, a5, a6, a7, a8, a9⟩ := hA
  refine ⟨a1, by rw [rset_off (fun e => h1 e.1.symm)]; exact a2, a3, a4, a5, a6, a7, fun q hq => ⟨by rw [rset_off (fun e => h2 c e.1.symm)]; exact (a8 q hq).1, (a8 q hq).2⟩, fun q hq hc => by rw [rset_off (fun e => h2 c e.1.symm)]; exact a9 q hq hc⟩
theorem ac_14n {G : GG} {h : Hp} {V : Nat → Vw} {R : Nat → Int → Int} {p : Nat} {T : Nat → Prop} {pl c b aw K : Nat} (I : AI G h V R 0 T pl c b aw K) {c0 s0 : Nat} (hcs : c0 ≤ 10) (hss : s0 ≤ 10) : YY G ML_act (rmL 12 2500 24000) 54 [(0, rf G 38 0), (1, rf G (ak 8 1) aw), (2, rf G 56 pl)] [] h c0 s0 (fun v h1 => v = some (.int (iI 1)) ∧ ∃ V' R' p' c' b', AI G h1 V' R' p' T pl c' b' aw (K + 1)) := by
  refine o_aload_n (pc := 54) dL_act_54 2 rfl ?_
  refine o_callV (pc := 55) _ dL_act_55 (cl_size I.2.2.2.2.1) lkL_73 rfl rfl rfl rfl I.2.2.2.2.1.1 ⟨⟨by simp only [rmL, rmD]; omega, by simp only [rmL, rmD]; omega⟩, by simp only [rmL, rmD]; omega, by simp only [rmL, rmD]; omega⟩ (Nat.le_of_ble_eq_true rfl) rfl (fun v h2 hq2 => ?_)
  obtain ⟨rfl, e2⟩ := hq2
  obtain rfl := e2.symm
  refine o_iconst (pc := 58) dL_act_58 ?_
  refine o_isub (pc := 59) dL_act_59 ?_
  refine o_topI (y := -1) (by omega) ?_
  refine o_istore (pc := 60) (lv' := [(10, _), (0, _), (1, _), (2, _)]) dL_act_60 (by decide) rfl ?_
  refine o_iload (pc := 62) dL_act_62 0 rfl ?_
  refine o_if_lt (pc := 64) 79 dL_act_64 (by decide) (by unfold inI; omega) (fun c_64 => ?_) (fun c_64 => (by exfalso; omega))
  refine o_aload_n (pc := 79) dL_act_79 1 rfl ?_
  refine o_callC (pc := 80) _ dL_act_80 (fun G' hG => P_undo0 (m := h.2.1) I.2.1.1.1.1 I.2.1.1.1.2.1 I.2.1.1.1.2.2.2.2.2.2.1 I.2.1.1.2.1 I.2.1.1.2.2 I.2.1.2.1) lkL_275 rfl rfl I.1 ⟨⟨by simp only [rmL, rmD]; omega, by simp only [rmL, rmD]; omega⟩, by simp only [rmL, rmD]; omega, by simp only [rmL, rmD]; omega⟩ (Nat.le_of_ble_eq_true rfl) rfl (fun n1 => ?_)
  refine o_iload (pc := 83) dL_act_83 0 rfl ?_
  refine o_icmpN (pc := 85) 92 dL_act_85 (by decide) rfl ?_
  refine o_iconst (pc := 88) dL_act_88 ?_
  refine o_goto (pc := 89) 93 dL_act_89 (by decide) ?_
  exact o_zret (pc := 93) dL_act_93 rfl rfl (by first | omega | (simp only [rmL, rmD]; omega)) (by first | omega | (simp only [rmL, rmD]; omega)) ⟨rfl, _, _, _, _, _, (I.size).more (Nat.le_succ K)⟩
theorem ac_14y {G : GG} {h : Hp} {V : Nat → Vw} {R : Nat → Int → Int} {p : Nat} {T : Nat → Prop} {pl c b aw K : Nat} (I : AI G h V R (p + 1) T pl c b aw K) {c0 s0 : Nat} (hcs : c0 ≤ 10) (hss : s0 ≤ 10) : YY G ML_act (rmL 12 2500 24000) 54 [(0, rf G 38 0), (1, rf G (ak 8 1) aw), (2, rf G 56 pl)] [] h c0 s0 (fun v h1 => v = some (.int (iI 1)) ∧ ∃ V' R' p' c' b', AI G h1 V' R' p' T pl c' b' aw (K + 1)) := by
  have p8 := I.2.1.p8
  refine o_aload_n (pc := 54) dL_act_54 2 rfl ?_
  refine o_callV (pc := 55) _ dL_act_55 (cl_size I.2.2.2.2.1) lkL_73 rfl rfl rfl rfl I.2.2.2.2.1.1 ⟨⟨by simp only [rmL, rmD]; omega, by simp only [rmL, rmD]; omega⟩, by simp only [rmL, rmD]; omega, by simp only [rmL, rmD]; omega⟩ (Nat.le_of_ble_eq_true rfl) rfl (fun v h2 hq2 => ?_)
  obtain ⟨rfl, e2⟩ := hq2
  obtain rfl := e2.symm
  refine o_iconst (pc := 58) dL_act_58 ?_
  refine o_isub (pc := 59) dL_act_59 ?_
  refine o_topI (y := (p : Int)) (by omega) ?_
  refine o_istore (pc := 60) (lv' := [(10, _), (0, _), (1, _), (2, _)]) dL_act_60 (by decide) rfl ?_
  refine o_iload (pc := 62) dL_act_62 0 rfl ?_
  refine o_if_lt (pc := 64) 79 dL_act_64 (by decide) (by unfold inI; omega) (fun c_64 => (by exfalso; omega)) (fun c_64 => ?_)
  refine o_aload_n (pc := 67) dL_act_67 2 rfl ?_
  refine o_iconst (pc := 68) dL_act_68 ?_
  refine o_aload_n (pc := 69) dL_act_69 3 rfl ?_
  refine o_iload (pc := 70) dL_act_70 0 rfl ?_
  refine o_callV (pc := 72) _ dL_act_72 (cl_remove I.2.2.2.2.1 I.2.2.2.2.2.2.2 (i := p) (by omega) (by omega)) lkL_272 rfl rfl rfl rfl I.2.2.2.2.1.1 ⟨⟨by simp only [rmL, rmD]; omega, by simp only [rmL, rmD]; omega⟩, by simp only [rmL, rmD]; omega, by simp only [rmL, rmD]; omega⟩ (Nat.le_of_ble_eq_true rfl) rfl (fun v H1 hq2 => ?_)
  obtain ⟨rfl, hA1, FR⟩ := hq2
  show YY _ _ _ _ _ (rf G 51 (V p).1 :: _) _ _ _ _
  have hc1 : 0 < c := by have := I.2.2.2.2.1.2.2.2.1; omega
  have FO : Fr (OO pl c b aw) h H1 := FR.w (fun i q => .inl (by rcases q with q | q; exact .inl q; exact .inr (.inl ⟨hc1, q⟩)))
  have W1 := I.2.2.2.1.fO FO
  have hmw := (W1.1 p (by omega)).mW
  have har := FR.1 _ I.2.2.2.2.2.1.1
  refine o_castO (pc := 75) dL_act_75 clL_27 rfl rfl hmw ?_
  refine o_aast (pc := 78) (tag := 3) (0) dL_act_78 (shp_ak (by decide)) rfl har (any_same (q := (RX12, TX12, 14)) rfl rfl hmw) rfl (by omega) (by omega) ?_
  have F2 : Fr (OO pl c b aw) h (rset H1 (ak 8 1) aw 0 (some (51, (V p).1))) := Fr_rset FO ak_ge (.inl (.inr (.inr rfl)))
  have hA2 : LA G (rset H1 (ak 8 1) aw 0 (some (51, (V p).1))) pl c b p (fun q => (51, (V q).1)) := (hA1.E (fun q hq => by
    show (51, (V q).1) = drE _ p q
    unfold drE
    rw [if_pos (by omega)])).rs (by unfold ak; omega) (fun c => by unfold ak; omega)
  have W2 := (I.2.2.2.1.fO F2).less
  have H0 := I.2.1.k (fun k hk => (F2.2.1 k hk).1)
  have cl2 := F2.cl I.1
  have ar2 : (ak 8 1, aw) ∈ (rset H1 (ak 8 1) aw 0 (some (51, (V p).1))).1 ∧ (rset H1 (ak 8 1) aw 0 (some (51, (V p).1))).2.2.1 (ak 8 1) aw 0 = some (51, (V p).1) := ⟨har, rset_at⟩
  generalize rset H1 (ak 8 1) aw 0 (some (51, (V p).1)) = H2 at F2 hA2 W2 H0 cl2 ar2 ⊢
  refine o_aload_n (pc := 79) dL_act_79 1 rfl ?_
  refine o_callC (pc := 80) _ dL_act_80 (fun G' hG => P_undo1 (m := H2.2.1) H0.1.1.1 H0.1.1.2.1 H0.1.1.2.2.2.2.2.2.1 H0.1.2.1 H0.1.2.2 (by rw [H0.2.1]; omega)) lkL_275 rfl rfl cl2 ⟨⟨by simp only [rmL, rmD]; omega, by simp only [rmL, rmD]; omega⟩, by simp only [rmL, rmD]; omega, by simp only [rmL, rmD]; omega⟩ (Nat.le_of_ble_eq_true rfl) rfl (fun n1 => ?_)
  refine o_topI (y := (p : Int)) (by rw [H0.2.1]; omega) ?_
  refine o_iload (pc := 83) dL_act_83 0 rfl ?_
  refine o_icmpN (pc := 85) 92 dL_act_85 (by decide) rfl ?_
  refine o_iconst (pc := 88) dL_act_88 ?_
  refine o_goto (pc := 89) 93 dL_act_89 (by decide) ?_
  exact o_zret (pc := 93) dL_act_93 rfl rfl (by first | omega | (simp only [rmL, rmD]; omega)) (by first | omega | (simp only [rmL, rmD]; omega)) ⟨rfl, V, R, p, c, b, CL_cs cl2, (H0.undo.more (Nat.le_succ K)).k (fun k hk => cs_lo hk), fun i hi => (I.2.2.1 i (by omega)).more (Nat.le_succ K), W2.cs, hA2.cs, ar2, fun x hx hf => I.2.2.2.2.2.2.1 x hx (Fr_fre F2 hf), ⟨n1, rfl⟩⟩
