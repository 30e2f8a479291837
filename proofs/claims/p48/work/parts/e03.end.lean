/-! the end of an act -/
theorem AI.size {G : GG} {h : Hp} {V : Nat → Vw} {R : Nat → Int → Int} {p : Nat} {T : Nat → Prop} {pl c b aw K n : Nat} (I : AI G h V R p T pl c b aw K) : AI G (cs h h.2.1 n) V R p T pl c b aw K := by
  obtain ⟨i1, i2, i3, i4, i5, i6, i7, i8⟩ := I
  refine ⟨CL_cs i1, ?_, i3, i4.cs, i5.cs, i6, i7, ⟨n, rfl⟩⟩
  rw [cs_self]
  exact i2
theorem ac_end0 {G : GG} {H : Hp} {V : Nat → Vw} {R : Nat → Int → Int} {p : Nat} {T : Nat → Prop} {pl c b aw K : Nat} (I : AI G H V R p T pl c b aw K) {c0 s0 : Nat} (hcs : c0 ≤ 2490) (hss : s0 ≤ 23000) {z : Int} : YY G ML_act (rmL 12 2500 24000) 1327 [(0, rf G 38 0), (1, rf G (ak 8 1) aw), (2, rf G 56 pl), (11, .int (iI 0)), (12, .int (iI z)), (13, .int (iI z))] [] H c0 s0 (fun v h1 => v = some (.int (iI 1)) ∧ ∃ V' R' p' c' b', AI G h1 V' R' p' T pl c' b' aw K) := by
  have p8 := I.2.1.p8
  refine o_iload (pc := 1327) dL_act_1327 3 rfl ?_
  refine o_if_eq (pc := 1329) 1339 dL_act_1329 (by decide) (by unfold inI; omega) (fun c_1329 => ?_) (fun c_1329 => (by exfalso; omega))
  refine o_aload_n (pc := 1339) dL_act_1339 2 rfl ?_
  refine o_callV (pc := 1340) _ dL_act_1340 (cl_size I.2.2.2.2.1) lkL_73 rfl rfl rfl rfl I.2.2.2.2.1.1 ⟨⟨by simp only [rmL, rmD]; omega, by simp only [rmL, rmD]; omega⟩, by simp only [rmL, rmD]; omega, by simp only [rmL, rmD]; omega⟩ (Nat.le_of_ble_eq_true rfl) rfl (fun v h2 hq2 => ?_)
  obtain ⟨rfl, e2⟩ := hq2
  obtain rfl := e2.symm
  refine o_bipush (pc := 1343) (z := 8) dL_act_1343 (by decide) ?_
  refine o_icmp_le (pc := 1345) 1358 dL_act_1345 (by decide) (by unfold inI; omega) (by unfold inI; omega) (fun c_1345 => ?_) (fun c_1345 => (by exfalso; omega))
  refine o_iload (pc := 1358) dL_act_1358 5 rfl ?_
  refine o_iload (pc := 1360) dL_act_1360 4 rfl ?_
  refine o_icmpN (pc := 1362) 1382 dL_act_1362 (by decide) rfl ?_
  refine o_aload_n (pc := 1365) dL_act_1365 0 rfl ?_
  refine o_bipush (pc := 1366) (z := 8) dL_act_1366 (by decide) ?_
  refine o_callC (pc := 1368) _ dL_act_1368 (fun G' hG => P_count (m := _) I.2.1.1.1.1 I.2.1.1.1.2.1 (by unfold inI; omega) (by omega)) lkL_187 rfl rfl I.1 ⟨⟨by simp only [rmL, rmD]; omega, by simp only [rmL, rmD]; omega⟩, by simp only [rmL, rmD]; omega, by simp only [rmL, rmD]; omega⟩ (Nat.le_of_ble_eq_true rfl) rfl (fun n1 => ?_)
  have I2 := I.size (n := n1)
  refine o_aload_n (pc := 1371) dL_act_1371 2 rfl ?_
  refine o_callV (pc := 1372) _ dL_act_1372 (cl_size I2.2.2.2.2.1) lkL_73 rfl rfl rfl rfl I2.2.2.2.2.1.1 ⟨⟨by simp only [rmL, rmD]; omega, by simp only [rmL, rmD]; omega⟩, by simp only [rmL, rmD]; omega, by simp only [rmL, rmD]; omega⟩ (Nat.le_of_ble_eq_true rfl) rfl (fun v h2 hq2 => ?_)
  obtain ⟨rfl, e2⟩ := hq2
  obtain rfl := e2.symm
  refine o_icmpN (pc := 1375) 1382 dL_act_1375 (by decide) I.2.1.2.1 ?_
  refine o_iconst (pc := 1378) dL_act_1378 ?_
  refine o_goto (pc := 1379) 1383 dL_act_1379 (by decide) ?_
  exact o_zret (pc := 1383) dL_act_1383 rfl rfl (by first | omega | (simp only [rmL, rmD]; omega)) (by first | omega | (simp only [rmL, rmD]; omega)) ⟨rfl, _, _, _, _, _, I2⟩
theorem ac_tail {G : GG} {H : Hp} {V : Nat → Vw} {R : Nat → Int → Int} {p : Nat} {T : Nat → Prop} {pl c b aw K : Nat} (I : AI G H V R p T pl c b aw K) {c0 s0 : Nat} (hcs : c0 ≤ 2495) (hss : s0 ≤ 23500) {z : Int} : YY G ML_act (rmL 12 2500 24000) 1358 [(0, rf G 38 0), (1, rf G (ak 8 1) aw), (2, rf G 56 pl), (12, .int (iI z)), (13, .int (iI z))] [] H c0 s0 (fun v h1 => v = some (.int (iI 1)) ∧ ∃ V' R' p' c' b', AI G h1 V' R' p' T pl c' b' aw K) := by
  have p8 := I.2.1.p8
  refine o_iload (pc := 1358) dL_act_1358 4 rfl ?_
  refine o_iload (pc := 1360) dL_act_1360 3 rfl ?_
  refine o_icmpN (pc := 1362) 1382 dL_act_1362 (by decide) rfl ?_
  refine o_aload_n (pc := 1365) dL_act_1365 0 rfl ?_
  refine o_bipush (pc := 1366) (z := 8) dL_act_1366 (by decide) ?_
  refine o_callC (pc := 1368) _ dL_act_1368 (fun G' hG => P_count (m := _) I.2.1.1.1.1 I.2.1.1.1.2.1 (by unfold inI; omega) (by omega)) lkL_187 rfl rfl I.1 ⟨⟨by simp only [rmL, rmD]; omega, by simp only [rmL, rmD]; omega⟩, by simp only [rmL, rmD]; omega, by simp only [rmL, rmD]; omega⟩ (Nat.le_of_ble_eq_true rfl) rfl (fun n1 => ?_)
  have I2 := I.size (n := n1)
  refine o_aload_n (pc := 1371) dL_act_1371 2 rfl ?_
  refine o_callV (pc := 1372) _ dL_act_1372 (cl_size I2.2.2.2.2.1) lkL_73 rfl rfl rfl rfl I2.2.2.2.2.1.1 ⟨⟨by simp only [rmL, rmD]; omega, by simp only [rmL, rmD]; omega⟩, by simp only [rmL, rmD]; omega, by simp only [rmL, rmD]; omega⟩ (Nat.le_of_ble_eq_true rfl) rfl (fun v h2 hq2 => ?_)
  obtain ⟨rfl, e2⟩ := hq2
  obtain rfl := e2.symm
  refine o_icmpN (pc := 1375) 1382 dL_act_1375 (by decide) I.2.1.2.1 ?_
  refine o_iconst (pc := 1378) dL_act_1378 ?_
  refine o_goto (pc := 1379) 1383 dL_act_1379 (by decide) ?_
  exact o_zret (pc := 1383) dL_act_1383 rfl rfl (by first | omega | (simp only [rmL, rmD]; omega)) (by first | omega | (simp only [rmL, rmD]; omega)) ⟨rfl, _, _, _, _, _, I2⟩
theorem ac_end1 {G : GG} {H : Hp} {V : Nat → Vw} {R : Nat → Int → Int} {N' : Int → Int} {p : Nat} {T : Nat → Prop} {pl c b aw K : Nat} (hcl : CL H) (p8 : p ≤ 8) (hI1 : p < 8 → HI H.2.1 (ext R p N') (p + 1) K) (hI2 : p = 8 → HI H.2.1 (shf (ext R p N')) p K) (hU : ∀ i, i ≤ p + 1 → UT K (ext R p N' i)) (hW : WS G H V (ext R p N') (p + 2) T (OO pl c b aw)) (hA : LA G H pl c b p (fun q => (51, (V q).1))) (harr : (ak 8 1, aw) ∈ H.1 ∧ H.2.2.1 (ak 8 1) aw 0 = some (51, (V (p + 1)).1)) (hT : ∀ x, T x → ¬ fre H x) (hn : ∃ n, H.2.2.2 = some n) {c0 s0 : Nat} (hcs : c0 ≤ 2490) (hss : s0 ≤ 23000) {z : Int} : YY G ML_act (rmL 12 2500 24000) 1327 [(0, rf G 38 0), (1, rf G (ak 8 1) aw), (2, rf G 56 pl), (10, rf G 51 (V p).1), (11, .int (iI 1)), (12, .int (iI z)), (13, .int (iI z))] [] H c0 s0 (fun v h1 => v = some (.int (iI 1)) ∧ ∃ V' R' p' c' b', AI G h1 V' R' p' T pl c' b' aw K) := by
  refine o_iload (pc := 1327) dL_act_1327 4 rfl ?_
  refine o_if_eq (pc := 1329) 1339 dL_act_1329 (by decide) (by unfold inI; omega) (fun c_1329 => (by exfalso; omega)) (fun c_1329 => ?_)
  refine o_aload_n (pc := 1332) dL_act_1332 2 rfl ?_
  refine o_aload (pc := 1333) dL_act_1333 3 rfl ?_
  refine o_callV (pc := 1335) _ dL_act_1335 (cl_add hA hn (by omega) (a := 51) (.inl ⟨16, _, _, rfl, rfl, by decide +kernel⟩) (hW.1 p (by omega)).mW) lkL_60 rfl rfl rfl rfl hA.1 ⟨⟨by simp only [rmL, rmD]; omega, by simp only [rmL, rmD]; omega⟩, by simp only [rmL, rmD]; omega, by simp only [rmL, rmD]; omega⟩ (Nat.le_of_ble_eq_true rfl) rfl (fun v h2 hq2 => ?_)
  obtain ⟨rfl, c1, b1, hA1, FA, hb⟩ := hq2
  refine o_uq (fun hu => ?_)
  have FO : Fr (OO pl c b aw) H h2 := FA.w (fun i q => .inl (by rcases q with q | q; exact .inl q; exact .inr (.inl q)))
  have hW1 := hW.fO FO
  have hcl1 := FA.cl hcl
  have exS : ∀ i, i < p + 2 → ∀ x, (V i).2.2 x → ¬ fre H x := fun i hi x hx hf => by
    obtain ⟨k, k1, k2⟩ := ((hW.1 i hi).2.2.2.2.2.1.2.2.2.2 x hx).2
    exact hf k k1 k2
  have hW2 : WS G h2 V (ext R p N') (p + 2) T (OO pl c1 b1 aw) := hW1.o (fun i hi x hx => by
    rcases hx with q | ⟨q1, q⟩ | q
    · exact hW.2.2.1 i hi x (.inl q)
    · rcases hb with ⟨e1, e2, e3⟩ | ⟨e1, e2⟩
      · exact hW.2.2.1 i hi x (.inr (.inl ⟨e3, q.trans e1⟩))
      · exact fun hy => exS i hi x hy (by rw [q]; exact e1)
    · exact hW.2.2.1 i hi x (.inr (.inr q))) (fun x hx => by
    rcases hx with q | ⟨q1, q⟩ | q
    · exact hW.2.2.2 x (.inl q)
    · rcases hb with ⟨e1, e2, e3⟩ | ⟨e1, e2⟩
      · exact hW.2.2.2 x (.inr (.inl ⟨e3, q.trans e1⟩))
      · exact fun hy => hT x hy (by rw [q]; exact e1)
    · exact hW.2.2.2 x (.inr (.inr q)))
  have hA2 : LA G h2 pl c1 b1 (p + 1) (fun q => (51, (V q).1)) := hA1.E (fun q hq => by
    by_cases e : q = p
    · rw [e, adE_at]
    · rw [adE_lo e])
  have hpl : ∀ k, 51 ≤ k → k ≠ 56 → (∀ c, k ≠ ak 7 c) → ∀ i, (k, i) ∈ H.1 → h2.2.2.1 k i = H.2.2.1 k i := fun k k1 k2 k3 i hm => (FA.2.2.1 k i k1 hm (fun q => by
    rcases q with q | ⟨q1, q⟩
    · exact k2 (hu k 56 i k1 (by decide) (FA.1 _ hm) (by rw [q]; exact FA.1 _ hA.1))
    · exact k3 _ (hu k _ i k1 ak_ge (FA.1 _ hm) (by rw [q]; exact FA.1 _ (hA.2.2.2.2.2.1 q1))))).2
  have harr1 : (ak 8 1, aw) ∈ h2.1 ∧ h2.2.2.1 (ak 8 1) aw 0 = some (51, (V (p + 1)).1) := ⟨FA.1 _ harr.1, by rw [hpl (ak 8 1) ak_ge (by unfold ak; omega) (fun c => by unfold ak; omega) aw harr.1]; exact harr.2⟩
  have hT1 : ∀ x, T x → ¬ fre h2 x := fun x hx hf => hT x hx (Fr_fre FA hf)
  have e51 : ∀ k, k < 51 → h2.2.1 k = H.2.1 k := fun k hk => (FA.2.1 k hk).1
  refine o_pop (pc := 1338) dL_act_1338 rfl ?_
  refine o_aload_n (pc := 1339) dL_act_1339 2 rfl ?_
  refine o_callV (pc := 1340) _ dL_act_1340 (cl_size hA2) lkL_73 rfl rfl rfl rfl hA2.1 ⟨⟨by simp only [rmL, rmD]; omega, by simp only [rmL, rmD]; omega⟩, by simp only [rmL, rmD]; omega, by simp only [rmL, rmD]; omega⟩ (Nat.le_of_ble_eq_true rfl) rfl (fun v h3 hq2 => ?_)
  obtain ⟨rfl, e2⟩ := hq2
  obtain rfl := e2.symm
  refine o_bipush (pc := 1343) (z := 8) dL_act_1343 (by decide) ?_
  refine o_icmp_le (pc := 1345) 1358 dL_act_1345 (by decide) (by unfold inI; omega) (by unfold inI; omega) (fun c_1345 => ?_) (fun c_1345 => ?_)
  · have I : AI G _ V (ext R p N') (p + 1) T pl c1 b1 aw K := ⟨hcl1, (hI1 (by omega)).k e51, hU, hW2, hA2, harr1, hT1, FA.2.2.2.2⟩
    exact o_lv [0, 1, 2, 5, 6] rfl (ac_tail I (by simp only [rmL]; omega) (by simp only [rmL]; omega))
  · refine o_aload_n (pc := 1348) dL_act_1348 2 rfl ?_
    refine o_iconst (pc := 1349) dL_act_1349 ?_
    refine o_callV (pc := 1350) _ dL_act_1350 (cl_remove hA2 FA.2.2.2.2 (i := 0) (by omega) (by omega)) lkL_272 rfl rfl rfl rfl hA2.1 ⟨⟨by simp only [rmL, rmD]; omega, by simp only [rmL, rmD]; omega⟩, by simp only [rmL, rmD]; omega, by simp only [rmL, rmD]; omega⟩ (Nat.le_of_ble_eq_true rfl) rfl (fun v h3 hq2 => ?_)
    obtain ⟨rfl, hA3, FR⟩ := hq2
    show YY _ _ _ _ _ (rf G 51 (V 0).1 :: _) _ _ _ _
    have e8 : p = 8 := by omega
    refine o_castO (pc := 1353) dL_act_1353 clL_27 rfl rfl (FR.1 _ (hW2.1 0 (by omega)).mW) ?_
    refine o_astore (pc := 1356) (lv' := [(14, _), (0, _), (1, _), (2, _), (10, _), (11, _), (12, _), (13, _)]) dL_act_1356 (by decide) rfl ?_
    refine o_uq (fun hu3 => ?_)
    have hc1 : 0 < c1 := by have := hA2.2.2.2.1; omega
    have FO3 : Fr (OO pl c1 b1 aw) h2 h3 := FR.w (fun i q => .inl (by rcases q with q | q; exact .inl q; exact .inr (.inl ⟨hc1, q⟩)))
    have hW3 := (hW2.fO FO3).shift
    have harr3 : (ak 8 1, aw) ∈ h3.1 ∧ h3.2.2.1 (ak 8 1) aw 0 = some (51, (V (p + 1)).1) := ⟨FR.1 _ harr1.1, by
      rw [(FR.2.2.1 (ak 8 1) aw ak_ge harr1.1 (fun q => by
        rcases q with q | q
        · have := hu3 (ak 8 1) 56 aw ak_ge (by decide) (FR.1 _ harr1.1) (by rw [q]; exact FR.1 _ hA2.1)
          unfold ak at this
          omega
        · have := hu3 (ak 8 1) _ aw ak_ge ak_ge (FR.1 _ harr1.1) (by rw [q]; exact FR.1 _ (hA2.2.2.2.2.2.1 hc1))
          unfold ak at this
          omega)).2]
      exact harr1.2⟩
    have I : AI G h3 (shf V) (shf (ext R p N')) p T pl c1 b1 aw K := ⟨FR.cl hcl1, (hI2 e8).k (fun k hk => ((FR.2.1 k hk).1).trans (e51 k hk)), fun i hi => hU (i + 1) (by omega), hW3, hA3.E (fun q hq => by
      show (51, (V (q + 1)).1) = drE _ 0 q
      unfold drE
      rw [if_neg (by omega)]), harr3, fun x hx hf => hT1 x hx (Fr_fre FR hf), FR.2.2.2.2⟩
    exact o_lv [1, 2, 3, 6, 7] rfl (ac_tail I (by simp only [rmL]; omega) (by simp only [rmL]; omega))
