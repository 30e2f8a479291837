/-! rows that grow, and the statements that let them grow -/
def cj : Nat → Int
  | 0 => 4
  | 1 => 6
  | 2 => 7
  | 3 => 3
  | 4 => 5
  | 5 => 8
  | _ => 9
def v5 (a b c d e : Int) : Int → Int := fun i => if i = 0 then a else if i = 1 then b else if i = 2 then c else if i = 3 then d else if i = 4 then e else 0
def adN (N : Int → Int) (j : Nat) (v : Int → Int) : Int → Int := fun i => if i = cj j then nj N j + 1 else if bs j + sd j * nj N j ≤ i ∧ i < bs j + sd j * nj N j + sd j then v (i - (bs j + sd j * nj N j)) else N i
theorem cj_b (j : Nat) : 3 ≤ cj j ∧ cj j ≤ 9 := by unfold cj; split <;> decide
theorem bs_ge (j : Nat) : 14 ≤ bs j := by unfold bs; split <;> decide
theorem adN_c {N : Int → Int} {j : Nat} {v : Int → Int} : adN N j v (cj j) = nj N j + 1 := if_pos rfl
theorem adN_v {N : Int → Int} {j : Nat} {v : Int → Int} (h : 0 ≤ sd j * nj N j) {o : Int} (h0 : 0 ≤ o) (h1 : o < sd j) : adN N j v (bs j + sd j * nj N j + o) = v o := by
  have a := cj_b j
  have b := bs_ge j
  unfold adN
  rw [if_neg (by omega), if_pos (by omega)]
  congr 1
  omega
theorem adN_o {N : Int → Int} {j : Nat} {v : Int → Int} {i : Int} (h1 : i ≠ cj j) (h2 : ¬ (bs j + sd j * nj N j ≤ i ∧ i < bs j + sd j * nj N j + sd j)) : adN N j v i = N i := by
  unfold adN
  rw [if_neg h1, if_neg h2]
theorem AT.bd {m : Mem} {T : Int → Int} {len e : Int} (h : AT m T len e) (hB : BD T len e) : ¬ dgP (skM m) ∧ (AT (skM m) T len e ∨ AT (skM m) T len (e + 1) ∧ T e = 32) := by
  have z0 : e + ((0 : Nat) : Int) = e := by omega
  rcases hB with z | ⟨z1, z2⟩ | ⟨z1, z2, z3⟩
  · have S := (h.sc (b := bS) 0 (by omega) (fun j hj => absurd hj (by omega)) (.inl (by omega))).2
    rw [z0] at S
    have S' : AT (skM m) T len e := S
    exact ⟨fun q => by have := q.1; have := S'.2.2.1; have := S'.2.2.2.1; omega, .inl S'⟩
  · have S := (h.sc (b := bS) 0 (by omega) (fun j hj => absurd hj (by omega)) (.inr (fun q => by
      have := of_decide_eq_true q
      rw [z0] at this
      omega))).2
    rw [z0] at S
    have S' : AT (skM m) T len e := S
    refine ⟨fun q => ?_, .inl S'⟩
    have q2 := q.2
    rw [S'.2.1, S'.2.2.2.1] at q2
    omega
  · have S := (h.sc (b := bS) 1 (by omega) (fun j hj => by rw [show e + (j : Int) = e by omega, z2]; rfl) (.inr (fun q => by
      have := of_decide_eq_true q
      rw [show e + ((1 : Nat) : Int) = e + 1 by omega] at this
      omega))).2
    rw [show e + ((1 : Nat) : Int) = e + 1 by omega] at S
    have S' : AT (skM m) T len (e + 1) := S
    refine ⟨fun q => ?_, .inr ⟨S', z2⟩⟩
    have q2 := q.2
    rw [S'.2.1, S'.2.2.2.1] at q2
    omega
theorem num_r {m : Mem} {lo hi j z f : Int} : up3 (numM m lo hi) 25 3 j z 25 3 f = if f = j then z else m 25 3 f := by
  by_cases c : f = j
  · rw [if_pos c, c, up3_at]
  · rw [if_neg c, up3_off c, numM_k (by decide)]
theorem rdK_1 (q : Mem) : rdK q ((1 : Nat) : Int) = rd1 q := by
  show rdK q 1 = rd1 q
  unfold rdK
  rw [if_neg (by decide), if_pos rfl]
theorem rdK_2 (q : Mem) : rdK q ((2 : Nat) : Int) = rd2 q := by
  show rdK q 2 = rd2 q
  unfold rdK
  rw [if_neg (by decide), if_neg (by decide), if_pos rfl]
theorem rdK_3 (q : Mem) : rdK q ((3 : Nat) : Int) = rd3 q := by
  show rdK q 3 = rd3 q
  unfold rdK
  rw [if_neg (by decide), if_neg (by decide), if_neg (by decide), if_pos rfl]
theorem rdK_4 (q : Mem) : rdK q ((4 : Nat) : Int) = rd4 q := by
  show rdK q 4 = rd4 q
  unfold rdK
  rw [if_neg (by decide), if_neg (by decide), if_neg (by decide), if_neg (by decide), if_pos rfl]
theorem rdK_5 (q : Mem) : rdK q ((5 : Nat) : Int) = rd5 q := by
  show rdK q 5 = rd5 q
  unfold rdK
  rw [if_neg (by decide), if_neg (by decide), if_neg (by decide), if_neg (by decide), if_neg (by decide), if_pos rfl]
theorem rdK_6 (q : Mem) : rdK q ((6 : Nat) : Int) = rd6 q := by
  show rdK q 6 = rd6 q
  unfold rdK
  rw [if_neg (by decide), if_neg (by decide), if_neg (by decide), if_neg (by decide), if_neg (by decide), if_neg (by decide)]
theorem DRN.cnt {q : Mem} {N : Int → Int} (h : DRN q N) : N 3 = q 22 3 2 ∧ N 4 = q 22 3 3 ∧ N 6 = q 22 3 4 ∧ N 5 = q 22 3 5 ∧ N 8 = q 22 3 6 ∧ N 7 = q 1 4 0 := ⟨h.2.2.1.1.2.2.1, h.2.2.1.1.2.2.2.1, h.2.2.1.1.2.2.2.2.1, h.2.2.1.1.2.2.2.2.2.1, h.2.2.1.1.2.2.2.2.2.2, h.2.2.2.1.1.2.2.2.2.2.1⟩
theorem DRN.nb {q : Mem} {N : Int → Int} (h : DRN q N) : (0 ≤ N 3 ∧ N 3 ≤ 8) ∧ (0 ≤ N 4 ∧ N 4 ≤ 4) ∧ (0 ≤ N 6 ∧ N 6 ≤ 12) ∧ (0 ≤ N 5 ∧ N 5 ≤ 12) ∧ (0 ≤ N 8 ∧ N 8 ≤ 8) ∧ (0 ≤ N 7 ∧ N 7 ≤ 16) := by
  obtain ⟨c3, c4, c6, c5, c8, c7⟩ := h.cnt
  have b := h.1
  have b7 := h.2.1.2.2.2.1.1
  have b3 := b.2.2.1
  have b4 := b.2.2.2.1
  have b6 := b.2.2.2.2.1
  have b5 := b.2.2.2.2.2.1
  have b8 := b.2.2.2.2.2.2.1
  omega
/-- the row of the draft is zero behind what it holds -/
theorem DRN.z {q : Mem} {N : Int → Int} (h : DRN q N) : (∀ j, 30 + 7 * N 3 ≤ j → j < 86 → N j = 0) ∧ (∀ j, 86 + 6 * N 5 ≤ j → j < 158 → N j = 0) ∧ (∀ j, 206 + 4 * N 7 ≤ j → j < 270 → N j = 0) ∧ (∀ j, 270 + 6 * N 8 ≤ j → j < 318 → N j = 0) := h.2.2.2.2.2.2.2.2.2.1
theorem RDS.curve {N : Int → Int} {w0 w1 w2 w3 : Int} (h4 : N 4 < 4) (h0 : 0 ≤ w0 ∧ w0 < 1000) (h1 : 0 ≤ w1 ∧ w1 < 1000) (h2 : 0 ≤ w2 ∧ w2 < 1000) (h3 : 0 ≤ w3 ∧ w3 < 1000) : RDS 1 [w0, w1, w2, w3] N (adN N 0 (v5 w0 w1 w2 w3 0)) := by
  intro q T len p e hA hN hE hC hD
  obtain ⟨c3, c4, c6, c5, c8, c7⟩ := hD.cnt
  obtain ⟨b3, b4, b6, b5, b8, b7⟩ := hD.nb
  rw [rdK_1]
  obtain ⟨e0, p1, A1, N1, -⟩ := hA.np hN h0.1 h0.2 (lo := 0) (hi := 1000) (by omega) (by omega)
  obtain ⟨r, er⟩ : ∃ r, q 22 3 3 * 4 = r := ⟨_, rfl⟩
  obtain ⟨q1, eq1⟩ : ∃ q1, up3 (numM q 0 1000) 25 3 (r + 0) (numV q 0 1000) = q1 := ⟨_, rfl⟩
  have B1 : AT q1 T len p1 := by rw [← eq1]; exact A1.k (up3_k (by decide)) (up3_k (by decide))
  obtain ⟨e1, p2, A2, N2, -⟩ := B1.np N1 h1.1 h1.2 (lo := 0) (hi := 1000) (by omega) (by omega)
  obtain ⟨q2, eq2⟩ : ∃ q2, up3 (numM q1 0 1000) 25 3 (r + (0 + 1)) (numV q1 0 1000) = q2 := ⟨_, rfl⟩
  have B2 : AT q2 T len p2 := by rw [← eq2]; exact A2.k (up3_k (by decide)) (up3_k (by decide))
  obtain ⟨e2, p3, A3, N3, -⟩ := B2.np N2 h2.1 h2.2 (lo := 0) (hi := 1000) (by omega) (by omega)
  obtain ⟨q3, eq3⟩ : ∃ q3, up3 (numM q2 0 1000) 25 3 (r + (0 + 1 + 1)) (numV q2 0 1000) = q3 := ⟨_, rfl⟩
  have B3 : AT q3 T len p3 := by rw [← eq3]; exact A3.k (up3_k (by decide)) (up3_k (by decide))
  obtain ⟨e3, p4, A4, N4, -⟩ := B3.np N3 h3.1 h3.2 (lo := 0) (hi := 1000) (by omega) (by omega)
  obtain ⟨q4, eq4⟩ : ∃ q4, up3 (numM q3 0 1000) 25 3 (r + (0 + 1 + 1 + 1)) (numV q3 0 1000) = q4 := ⟨_, rfl⟩
  have B4 : AT q4 T len p4 := by rw [← eq4]; exact A4.k (up3_k (by decide)) (up3_k (by decide))
  have pe := N4.nil
  have eC : cuL q (q 22 3 3 * 4) 0 4 = q4 := by
    rw [er]
    show up3 (numM (up3 (numM (up3 (numM (up3 (numM q 0 1000) 25 3 (r + 0) (numV q 0 1000)) 0 1000) 25 3 (r + (0 + 1)) (numV (up3 (numM q 0 1000) 25 3 (r + 0) (numV q 0 1000)) 0 1000)) 0 1000) 25 3 (r + (0 + 1 + 1)) (numV (up3 (numM (up3 (numM q 0 1000) 25 3 (r + 0) (numV q 0 1000)) 0 1000) 25 3 (r + (0 + 1)) (numV (up3 (numM q 0 1000) 25 3 (r + 0) (numV q 0 1000)) 0 1000)) 0 1000)) 0 1000) 25 3 (r + (0 + 1 + 1 + 1)) (numV (up3 (numM (up3 (numM (up3 (numM q 0 1000) 25 3 (r + 0) (numV q 0 1000)) 0 1000) 25 3 (r + (0 + 1)) (numV (up3 (numM q 0 1000) 25 3 (r + 0) (numV q 0 1000)) 0 1000)) 0 1000) 25 3 (r + (0 + 1 + 1)) (numV (up3 (numM (up3 (numM q 0 1000) 25 3 (r + 0) (numV q 0 1000)) 0 1000) 25 3 (r + (0 + 1)) (numV (up3 (numM q 0 1000) 25 3 (r + 0) (numV q 0 1000)) 0 1000)) 0 1000)) 0 1000) = q4
    rw [eq1, eq2, eq3, eq4]
  have eR : rd1 q = up3 q4 22 3 3 (q4 22 3 3 + 1) := by unfold rd1; rw [eC]
  have kq : ∀ k, k ≠ 34 → k ≠ 25 → q4 k = q k := fun k k1 k2 => by
    rw [← eq4, up3_k k2, numM_k k1, ← eq3, up3_k k2, numM_k k1, ← eq2, up3_k k2, numM_k k1, ← eq1, up3_k k2, numM_k k1]
  have v25 : ∀ f, q4 25 3 f = if f = r + (0 + 1 + 1 + 1) then w3 else if f = r + (0 + 1 + 1) then w2 else if f = r + (0 + 1) then w1 else if f = r + 0 then w0 else q 25 3 f := fun f => by
    rw [← eq4, num_r, e3, ← eq3, num_r, e2, ← eq2, num_r, e1, ← eq1, num_r, e0]
  rw [eR]
  refine ⟨(fun z => by unfold fuP at z; omega), .inl ?_, ?_⟩
  · rw [← pe]
    exact B4.k (up3_k (by decide)) (up3_k (by decide))
  · refine DR_curve hD (by omega) ?_ (fun k k1 k2 k3 => by rw [up3_k k2, kq k (by omega) k3]) (by rw [up3_at, kq 22 (by decide) (by decide)]) (fun j hj => by rw [up3_off hj, kq 22 (by decide) (by decide)]) (fun f hf => ?_) (fun f f0 f1 => ?_) (fun j hj => ?_)
    · exact adN_c
    · rw [up3_k (by decide), v25, if_neg (by omega), if_neg (by omega), if_neg (by omega), if_neg (by omega)]
    · rw [up3_k (by decide), v25]
      have hv := adN_v (N := N) (j := 0) (v := v5 w0 w1 w2 w3 0) (by show 0 ≤ 4 * N 4; omega) (o := f - 4 * N 4) (by omega) (by show _ < (4 : Int); omega)
      have ei : bs 0 + sd 0 * nj N 0 + (f - 4 * N 4) = 14 + f := by show 14 + 4 * N 4 + (f - 4 * N 4) = _; omega
      rw [ei] at hv
      rw [hv]
      unfold v5
      by_cases z3 : f = r + (0 + 1 + 1 + 1)
      · rw [if_pos z3, if_neg (by omega), if_neg (by omega), if_neg (by omega), if_pos (by omega)]; omega
      · by_cases z2 : f = r + (0 + 1 + 1)
        · rw [if_neg z3, if_pos z2, if_neg (by omega), if_neg (by omega), if_pos (by omega)]; omega
        · by_cases z1 : f = r + (0 + 1)
          · rw [if_neg z3, if_neg z2, if_pos z1, if_neg (by omega), if_pos (by omega)]; omega
          · rw [if_neg z3, if_neg z2, if_neg z1, if_pos (by omega), if_pos (by omega)]; omega
    · exact adN_o (by show j ≠ 4; omega) (by show ¬ (14 + 4 * N 4 ≤ j ∧ j < 14 + 4 * N 4 + 4); omega)
def pkN (N : Int → Int) (cap ch cv : Int) : Int → Int := upN (adN N 3 (v5 cap ch 0 cv 0)) 10 (N 10 + ch)
theorem pkN_o {N : Int → Int} {cap ch cv j : Int} (h3 : j ≠ 3) (h10 : j ≠ 10) (h : ¬ (30 + 7 * N 3 ≤ j ∧ j < 37 + 7 * N 3)) : pkN N cap ch cv j = N j := by
  unfold pkN
  rw [upN_off h10]
  exact adN_o h3 (by show ¬ (30 + 7 * N 3 ≤ j ∧ j < 30 + 7 * N 3 + 7); omega)
theorem pkN_v {N : Int → Int} {cap ch cv o : Int} (h : 0 ≤ N 3) (h0 : 0 ≤ o) (h1 : o < 7) : pkN N cap ch cv (30 + 7 * N 3 + o) = v5 cap ch 0 cv 0 o := by
  unfold pkN
  rw [upN_off (by omega)]
  exact adN_v (N := N) (j := 3) (by show 0 ≤ 7 * N 3; omega) h0 (by show o < (7 : Int); exact h1)
theorem pk_dr {c : Mem} {N : Int → Int} {cap ch cv : Int} (h : DRN c N) (hn : N 3 < 8) (h1 : 2 ≤ cap ∧ cap ≤ 100000) (h2 : 0 ≤ ch ∧ ch ≤ cap) (h3 : cv = -1 ∨ 0 ≤ cv ∧ cv < N 4) : DRN (addP (begP c 4 (c 22 3 2) ch) 3 cap cv) (pkN N cap ch cv) := by
  obtain ⟨c3, c4, c6, c5, c8, c7⟩ := h.cnt
  obtain ⟨b3, b4, b6, b5, b8, b7⟩ := h.nb
  have z := h.z.1
  refine DR_pack h (by omega) h1 h2 (by omega) ⟨?_, upN_at _ _ _, ?_, ?_, ?_⟩ (fun j hj => ?_)
  · unfold pkN
    rw [upN_off (by omega)]
    exact adN_c (j := 3)
  · exact pkN_v b3.1 (by omega) (by omega)
  · exact pkN_v b3.1 (by omega) (by omega)
  · exact pkN_v b3.1 (by omega) (by omega)
  · by_cases g : 30 + 7 * N 3 ≤ j ∧ j < 37 + 7 * N 3
    · obtain ⟨o, eo⟩ : ∃ o, j = 30 + 7 * N 3 + o := ⟨j - (30 + 7 * N 3), by omega⟩
      rw [z j g.1 (by omega), eo, pkN_v b3.1 (by omega) (by omega)]
      unfold v5
      rw [if_neg (by omega), if_neg (by omega)]
      repeat' split
      all_goals omega
    · exact pkN_o hj.1 hj.2.1 g
theorem AT.add {m m' : Mem} {T : Int → Int} {len p : Int} (h : AT m T len p) (e : ∀ k, k = 34 ∨ k = 35 → m' k = m k) : AT m' T len p := h.k (e 34 (.inl rfl)) (e 35 (.inr rfl))
theorem RDS.pack0 {N : Int → Int} {cap ch : Int} (hn : N 3 < 8) (h1 : 2 ≤ cap ∧ cap < 1000) (h2 : 0 ≤ ch ∧ ch ≤ cap) : RDS 2 [cap, ch] N (pkN N cap ch (-1)) := by
  intro q T len p e hA hN hE hC hD
  obtain ⟨c3, c4, c6, c5, c8, c7⟩ := hD.cnt
  obtain ⟨b3, b4, b6, b5, b8, b7⟩ := hD.nb
  rw [rdK_2]
  obtain ⟨e0, p1, A1, N1, -⟩ := hA.np hN (by omega) h1.2 (lo := 2) (hi := 100000) (by omega) (by omega)
  obtain ⟨e1, p2, A2, N2, -⟩ := A1.np N1 h2.1 (by omega) (lo := 0) (hi := cap) (by omega) (by omega)
  have eP : pk2 q = numM (numM q 2 100000) 0 cap := by unfold pk2; rw [e0]
  rw [← eP] at A2
  have pe := N2.nil
  rw [pe] at A2
  have S := A2.bd hE
  have e4 : pk4 q = pk3 q := if_neg S.1
  have ev : pkv q = -1 := if_neg S.1
  have ec : pkc q = cap := e0
  have eh : pkh q = ch := by unfold pkh; rw [e0]; exact e1
  have er0 : pk4 q 34 0 1 = 0 := by
    rw [e4]
    rcases S.2 with s | s
    · exact s.2.2.2.2
    · exact s.1.2.2.2.2
  have eR : rd2 q = addP (begP (pk4 q) 4 (pk4 q 22 3 2) ch) 3 cap (-1) := by
    unfold rd2
    rw [if_pos er0, ec, eh, ev]
  rw [eR]
  have kk : ∀ k, k = 34 ∨ k = 35 → addP (begP (pk4 q) 4 (pk4 q 22 3 2) ch) 3 cap (-1) k = pk3 q k := fun k hk => by
    rw [addP_k (by omega), begP_k (by omega), e4]
  refine ⟨(fun z => by unfold fuP at z; omega), ?_, ?_⟩
  · rcases S.2 with s | s
    · exact .inl (AT.add (m := pk3 q) s kk)
    · exact .inr ⟨AT.add (m := pk3 q) s.1 kk, s.2⟩
  · exact pk_dr (hD.k (fun k hk => pk4_k (by omega))) hn (by omega) h2 (.inl rfl)
theorem RDS.pack1 {N : Int → Int} {cap ch cv : Int} (hn : N 3 < 8) (h1 : 2 ≤ cap ∧ cap < 1000) (h2 : 0 ≤ ch ∧ ch ≤ cap) (h3 : 0 ≤ cv ∧ cv < N 4) : RDS 2 [cap, ch, cv] N (pkN N cap ch cv) := by
  intro q T len p e hA hN hE hC hD
  obtain ⟨c3, c4, c6, c5, c8, c7⟩ := hD.cnt
  obtain ⟨b3, b4, b6, b5, b8, b7⟩ := hD.nb
  rw [rdK_2]
  obtain ⟨e0, p1, A1, N1, -⟩ := hA.np hN (by omega) h1.2 (lo := 2) (hi := 100000) (by omega) (by omega)
  obtain ⟨e1, p2, A2, N2, -⟩ := A1.np N1 h2.1 (by omega) (lo := 0) (hi := cap) (by omega) (by omega)
  have eP : pk2 q = numM (numM q 2 100000) 0 cap := by unfold pk2; rw [e0]
  rw [← eP] at A2
  have dl := dg_len cv
  obtain ⟨n1, n2, n3, n4⟩ := id N2
  change T p2 = 32 ∧ TXat T (p2 + 1) (dg cv ++ []) at n1
  rw [List.append_nil] at n1
  have el : ((NS [cv]).length : Int) = 1 + ((dg cv).length : Int) := by
    show ((32 :: (dg cv ++ [])).length : Int) = _
    rw [List.append_nil, List.length_cons]
    omega
  rw [el] at n2
  have hd := dg_hd h3.1 (by omega) n1.2
  have S : AT (pk3 q) T len (p2 + 1) := by
    have S := (A2.sc (b := bS) 1 (by omega) (fun j hj => by rw [show p2 + (j : Int) = p2 by omega, n1.1]; rfl) (.inr (fun z => by
      have := of_decide_eq_true z
      rw [show p2 + ((1 : Nat) : Int) = p2 + 1 by omega] at this
      omega))).2
    rw [show p2 + ((1 : Nat) : Int) = p2 + 1 by omega] at S
    exact S
  have hdg : dgP (pk3 q) := by
    refine ⟨?_, ?_, ?_⟩
    · rw [S.2.2.1, S.2.2.2.1]; omega
    · rw [S.2.1, S.2.2.2.1]; exact hd.1
    · rw [S.2.1, S.2.2.2.1]; exact hd.2
  have k22 : pk3 q 22 3 3 - 1 = N 4 - 1 := by rw [pk3_k (by decide)]; omega
  have R := S.num (.inl rfl) h3.1 (by omega) n1.2 (by omega) (by rw [show p2 + 1 + ((dg cv).length : Int) = e by omega]; exact n4) (lo := 0) (hi := N 4 - 1) (by omega) (by omega)
  rw [show p2 + 1 + ((dg cv).length : Int) = e by omega] at R
  have e4 : pk4 q = numM (pk3 q) 0 (N 4 - 1) := by unfold pk4; rw [if_pos hdg, k22]
  have ev : pkv q = cv := by unfold pkv; rw [if_pos hdg, k22]; exact R.1
  have ec : pkc q = cap := e0
  have eh : pkh q = ch := by unfold pkh; rw [e0]; exact e1
  have er0 : pk4 q 34 0 1 = 0 := by rw [e4]; exact R.2.1.2.2.2.2
  have eR : rd2 q = addP (begP (pk4 q) 4 (pk4 q 22 3 2) ch) 3 cap cv := by
    unfold rd2
    rw [if_pos er0, ec, eh, ev]
  rw [eR]
  refine ⟨(fun z => by unfold fuP at z; omega), .inl ?_, ?_⟩
  · exact AT.add (m := numM (pk3 q) 0 (N 4 - 1)) R.2.1 (fun k hk => by rw [addP_k (by omega), begP_k (by omega), e4])
  · exact pk_dr (hD.k (fun k hk => pk4_k (by omega))) hn (by omega) h2 (.inr h3)
theorem AT.two {q : Mem} {N : Int → Int} {T : Int → Int} {len p x y e : Int} {l : List Int} (hA : AT q T len p) (hN : NP T len p (x :: y :: l) e) (hD : DRN q N) (hx : 0 ≤ x ∧ x < N 3) (hy : 0 ≤ y ∧ y < N 3) : tpa q = x ∧ tpb q = y ∧ ∃ p', AT (tp2 q) T len p' ∧ NP T len p' l e := by
  obtain ⟨c3, c4, c6, c5, c8, c7⟩ := hD.cnt
  obtain ⟨b3, b4, b6, b5, b8, b7⟩ := hD.nb
  obtain ⟨e0, p1, A1, N1, -⟩ := hA.np hN hx.1 (by omega) (lo := 0) (hi := q 22 3 2 - 1) (by omega) (by omega)
  have k22 : numM q 0 (q 22 3 2 - 1) 22 3 2 = q 22 3 2 := by rw [numM_k (by decide)]
  obtain ⟨e1, p2, A2, N2, -⟩ := A1.np N1 hy.1 (by omega) (lo := 0) (hi := q 22 3 2 - 1) (by omega) (by omega)
  refine ⟨e0, ?_, p2, ?_, N2⟩
  · unfold tpb npV npM
    rw [k22]
    exact e1
  · unfold tp2 npM
    rw [k22]
    exact A2
theorem RDS.cable {N : Int → Int} {x y lo ra : Int} (hn : N 5 < 12) (hx : 0 ≤ x ∧ x < N 3) (hy : 0 ≤ y ∧ y < N 3) (hl : 0 ≤ lo ∧ lo ≤ 900) (hr : 1 ≤ ra ∧ ra < 1000) (hne : x ≠ y) (hb : betN N x y = -1) : RDS 3 [x, y, lo, ra] N (adN N 4 (v5 x y lo ra 0)) := by
  intro q T len p e hA hN hE hC hD
  obtain ⟨c3, c4, c6, c5, c8, c7⟩ := hD.cnt
  obtain ⟨b3, b4, b6, b5, b8, b7⟩ := hD.nb
  rw [rdK_3]
  obtain ⟨ea, eb, p2, A2, N2⟩ := hA.two hN hD hx hy
  have e27 : q 27 3 (x * 8 + y) = -1 := by rw [← hD.2.2.1.2.2.2.2.1 x y hx.1 (by omega) hy.1 (by omega)]; exact hb
  have eF : tpF q (cbP q) = tp2 q := if_neg (fun z => by
    have z2 := z.2
    unfold cbP at z2
    rw [ea, eb] at z2
    rcases z2 with g | g
    · exact hne g.symm
    · exact g e27)
  obtain ⟨e2, p3, A3, N3, -⟩ := A2.np N2 hl.1 (by omega) (lo := 0) (hi := 900) (by omega) (by omega)
  obtain ⟨e3, p4, A4, N4, -⟩ := A3.np N3 (by omega) hr.2 (lo := 1) (hi := 10000) (by omega) (by omega)
  have pe := N4.nil
  obtain ⟨c, ec⟩ : ∃ c, numM (numM (tp2 q) 0 900) 1 10000 = c := ⟨_, rfl⟩
  rw [ec] at A4
  have eR : rd3 q = addB (begC c 4 (c 22 3 5) lo ra) 3 x y := by
    unfold rd3
    rw [eF, ec, if_pos A4.2.2.2.2, e2, e3, ea, eb]
  have kc : ∀ k, k ≠ 34 → c k = q k := fun k hk => by rw [← ec, numM_k hk, numM_k hk, tp2_k hk]
  rw [eR]
  refine ⟨(fun z => by unfold fuP at z; omega), .inl ?_, ?_⟩
  · rw [← pe]
    exact A4.add (fun k hk => by rw [addB_k (by omega), begC_k (by omega)])
  · have Dc : DRN c N := hD.k (fun k hk => kc k (by omega))
    have z := hD.z.2.1
    refine DR_cable Dc (by rw [kc 22 (by decide)]; omega) (by rw [kc 22 (by decide)]; omega) (by rw [kc 22 (by decide)]; omega) hl (by omega) hne (by rw [kc 27 (by decide)]; exact e27) ⟨adN_c, ?_, ?_, ?_, ?_⟩ (fun j hj => ?_)
    · exact adN_v (N := N) (j := 4) (by show 0 ≤ 6 * N 5; omega) (o := 0) (by omega) (by decide)
    · exact adN_v (N := N) (j := 4) (by show 0 ≤ 6 * N 5; omega) (o := 1) (by omega) (by decide)
    · exact adN_v (N := N) (j := 4) (by show 0 ≤ 6 * N 5; omega) (o := 2) (by omega) (by decide)
    · exact adN_v (N := N) (j := 4) (by show 0 ≤ 6 * N 5; omega) (o := 3) (by omega) (by decide)
    · by_cases g : 86 + 6 * N 5 ≤ j ∧ j < 86 + 6 * N 5 + 6
      · obtain ⟨o, eo⟩ : ∃ o, j = 86 + 6 * N 5 + o := ⟨j - (86 + 6 * N 5), by omega⟩
        rw [z j g.1 (by omega), eo]
        refine (adN_v (N := N) (j := 4) (by show 0 ≤ 6 * N 5; omega) (o := o) (by omega) (by show o < (6 : Int); omega)).trans ?_
        unfold v5
        rw [if_neg (by omega), if_neg (by omega), if_neg (by omega), if_neg (by omega)]
        repeat' split
        all_goals omega
      · exact adN_o (by show j ≠ 5; omega) g
theorem RDS.contract {N : Int → Int} {x y li no gr : Int} (hn : N 8 < 8) (hx : 0 ≤ x ∧ x < N 3) (hy : 0 ≤ y ∧ y < N 3) (hl : 1 ≤ li ∧ li < 1000) (ho : 0 ≤ no ∧ no ≤ 99) (hg : 0 ≤ gr ∧ gr ≤ 99) (hne : x ≠ y) (hb : 0 ≤ betN N x y ∧ betN N x y < N 5) : RDS 6 [x, y, li, no, gr] N (adN N 5 (v5 x y li no gr)) := by
  intro q T len p e hA hN hE hC hD
  obtain ⟨c3, c4, c6, c5, c8, c7⟩ := hD.cnt
  obtain ⟨b3, b4, b6, b5, b8, b7⟩ := hD.nb
  rw [rdK_6]
  obtain ⟨ea, eb, p2, A2, N2⟩ := hA.two hN hD hx hy
  have e27 : q 27 3 (x * 8 + y) = betN N x y := (hD.2.2.1.2.2.2.2.1 x y hx.1 (by omega) hy.1 (by omega)).symm
  have eF : tpF q (ctP q) = tp2 q := if_neg (fun z => by
    have z2 := z.2
    unfold ctP at z2
    rw [ea, eb, e27] at z2
    rcases z2 with g | g
    · exact hne g.symm
    · omega)
  obtain ⟨e2, p3, A3, N3, -⟩ := A2.np N2 (by omega) hl.2 (lo := 1) (hi := 100000) (by omega) (by omega)
  obtain ⟨e3, p4, A4, N4, -⟩ := A3.np N3 ho.1 (by omega) (lo := 0) (hi := 99) (by omega) (by omega)
  obtain ⟨e4, p5, A5, N5, -⟩ := A4.np N4 hg.1 (by omega) (lo := 0) (hi := 99) (by omega) (by omega)
  have pe := N5.nil
  obtain ⟨c, ec⟩ : ∃ c, numM (numM (numM (tp2 q) 1 100000) 0 99) 0 99 = c := ⟨_, rfl⟩
  rw [ec] at A5
  have eR : rd6 q = addK c x y li no gr := by
    unfold rd6
    rw [eF, ec, if_pos A5.2.2.2.2, e2, e3, e4, ea, eb]
  have kc : ∀ k, k ≠ 34 → c k = q k := fun k hk => by rw [← ec, numM_k hk, numM_k hk, numM_k hk, tp2_k hk]
  rw [eR]
  refine ⟨(fun z => by unfold fuP at z; omega), .inl ?_, ?_⟩
  · rw [← pe]
    exact A5.add (fun k hk => by rw [addK_k (by omega)])
  · have Dc : DRN c N := hD.k (fun k hk => kc k (by omega))
    have z := hD.z.2.2.2
    refine DR_contract Dc (by rw [kc 22 (by decide)]; omega) (by rw [kc 22 (by decide)]; omega) (by rw [kc 22 (by decide)]; omega) (by omega) ho hg hne (by rw [kc 27 (by decide), kc 22 (by decide), e27]; omega) ⟨adN_c, ?_, ?_, ?_, ?_, ?_⟩ (fun j hj => ?_)
    · exact adN_v (N := N) (j := 5) (by show 0 ≤ 6 * N 8; omega) (o := 0) (by omega) (by decide)
    · exact adN_v (N := N) (j := 5) (by show 0 ≤ 6 * N 8; omega) (o := 1) (by omega) (by decide)
    · exact adN_v (N := N) (j := 5) (by show 0 ≤ 6 * N 8; omega) (o := 2) (by omega) (by decide)
    · exact adN_v (N := N) (j := 5) (by show 0 ≤ 6 * N 8; omega) (o := 3) (by omega) (by decide)
    · exact adN_v (N := N) (j := 5) (by show 0 ≤ 6 * N 8; omega) (o := 4) (by omega) (by decide)
    · by_cases g : 270 + 6 * N 8 ≤ j ∧ j < 270 + 6 * N 8 + 6
      · obtain ⟨o, eo⟩ : ∃ o, j = 270 + 6 * N 8 + o := ⟨j - (270 + 6 * N 8), by omega⟩
        rw [z j g.1 (by omega), eo]
        refine (adN_v (N := N) (j := 5) (by show 0 ≤ 6 * N 8; omega) (o := o) (by omega) (by show o < (6 : Int); omega)).trans ?_
        unfold v5
        rw [if_neg (by omega), if_neg (by omega), if_neg (by omega), if_neg (by omega), if_neg (by omega)]
      · exact adN_o (by show j ≠ 8; omega) g
theorem AT.one {q : Mem} {N : Int → Int} {T : Int → Int} {len p x e : Int} {l : List Int} (hA : AT q T len p) (hN : NP T len p (x :: l) e) (hD : DRN q N) (hx : 0 ≤ x ∧ x < N 3) : npV q = x ∧ ∃ p', AT (npM q) T len p' ∧ NP T len p' l e := by
  obtain ⟨c3, c4, c6, c5, c8, c7⟩ := hD.cnt
  obtain ⟨b3, b4, b6, b5, b8, b7⟩ := hD.nb
  obtain ⟨e0, p1, A1, N1, -⟩ := hA.np hN hx.1 (by omega) (lo := 0) (hi := q 22 3 2 - 1) (by omega) (by omega)
  exact ⟨e0, p1, A1, N1⟩
theorem RDS.sun {N : Int → Int} {x fr to g : Int} (hn : N 6 < 12) (hx : 0 ≤ x ∧ x < N 3) (hf : 0 ≤ fr ∧ fr ≤ to) (ht : to < 24) (hg : 1 ≤ g ∧ g < 1000) : RDS 4 [x, fr, to, g] N (adN N 1 (v5 x fr to g 0)) := by
  intro q T len p e hA hN hE hC hD
  obtain ⟨c3, c4, c6, c5, c8, c7⟩ := hD.cnt
  obtain ⟨b3, b4, b6, b5, b8, b7⟩ := hD.nb
  rw [rdK_4]
  obtain ⟨ea, p2, A2, N2⟩ := hA.one hN hD hx
  obtain ⟨e2, p3, A3, N3, -⟩ := A2.np N2 hf.1 (by omega) (lo := 0) (hi := 23) (by omega) (by omega)
  obtain ⟨e3, p4, A4, N4, -⟩ := A3.np N3 (by omega) (by omega) (lo := fr) (hi := 23) (by omega) (by omega)
  obtain ⟨e4, p5, A5, N5, -⟩ := A4.np N4 (by omega) hg.2 (lo := 1) (hi := 10000) (by omega) (by omega)
  have pe := N5.nil
  obtain ⟨c, ec⟩ : ∃ c, numM (numM (numM (npM q) 0 23) fr 23) 1 10000 = c := ⟨_, rfl⟩
  rw [ec] at A5
  have eR : rd4 q = addU c 3 x fr to g := by
    unfold rd4
    rw [e2, ec, if_pos A5.2.2.2.2, e3, e4, ea]
  have kc : ∀ k, k ≠ 34 → c k = q k := fun k hk => by rw [← ec, numM_k hk, numM_k hk, numM_k hk]; unfold npM; rw [numM_k hk]
  rw [eR]
  refine ⟨(fun z => by unfold fuP at z; omega), .inl ?_, ?_⟩
  · rw [← pe]
    exact A5.add (fun k hk => by rw [addU_k (by omega)])
  · have Dc : DRN c N := hD.k (fun k hk => kc k (by omega))
    refine DR_sun Dc (by rw [kc 22 (by decide)]; omega) (by rw [kc 22 (by decide)]; omega) hf ht (by omega) ⟨adN_c, ?_, ?_, ?_, ?_⟩ (fun j hj => ?_)
    · exact adN_v (N := N) (j := 1) (by show 0 ≤ 4 * N 6; omega) (o := 0) (by omega) (by decide)
    · exact adN_v (N := N) (j := 1) (by show 0 ≤ 4 * N 6; omega) (o := 1) (by omega) (by decide)
    · exact adN_v (N := N) (j := 1) (by show 0 ≤ 4 * N 6; omega) (o := 2) (by omega) (by decide)
    · exact adN_v (N := N) (j := 1) (by show 0 ≤ 4 * N 6; omega) (o := 3) (by omega) (by decide)
    · exact adN_o (by show j ≠ 6; omega) (by show ¬ (158 + 4 * N 6 ≤ j ∧ j < 158 + 4 * N 6 + 4); omega)
theorem RDS.trip {N : Int → Int} {x t n : Int} (hn : N 7 < 16) (hx : 0 ≤ x ∧ x < N 3) (ht : 0 ≤ t ∧ t < 1000) (hg : 1 ≤ n ∧ n < 1000) : RDS 5 [x, t, n] N (adN N 2 (v5 x t n 0 0)) := by
  intro q T len p e hA hN hE hC hD
  obtain ⟨c3, c4, c6, c5, c8, c7⟩ := hD.cnt
  obtain ⟨b3, b4, b6, b5, b8, b7⟩ := hD.nb
  rw [rdK_5]
  obtain ⟨ea, p2, A2, N2⟩ := hA.one hN hD hx
  obtain ⟨e2, p3, A3, N3, -⟩ := A2.np N2 ht.1 ht.2 (lo := 0) (hi := 9999) (by omega) (by omega)
  obtain ⟨e3, p4, A4, N4, -⟩ := A3.np N3 (by omega) hg.2 (lo := 1) (hi := 100000) (by omega) (by omega)
  have pe := N4.nil
  obtain ⟨c, ec⟩ : ∃ c, numM (numM (npM q) 0 9999) 1 100000 = c := ⟨_, rfl⟩
  rw [ec] at A4
  have eR : rd5 q = addT c 4 x t n := by
    unfold rd5
    rw [ec, if_pos A4.2.2.2.2, e2, e3, ea]
  have kc : ∀ k, k ≠ 34 → c k = q k := fun k hk => by rw [← ec, numM_k hk, numM_k hk]; unfold npM; rw [numM_k hk]
  rw [eR]
  refine ⟨(fun z => by unfold fuP at z; omega), .inl ?_, ?_⟩
  · rw [← pe]
    exact A4.add (fun k hk => by rw [addT_k (by omega)])
  · have Dc : DRN c N := hD.k (fun k hk => kc k (by omega))
    have z := hD.z.2.2.1
    refine DR_trip Dc (by rw [kc 1 (by decide)]; omega) (by rw [kc 22 (by decide)]; omega) (by omega) (by omega) ⟨adN_c, ?_, ?_, ?_⟩ (fun j hj => ?_)
    · exact adN_v (N := N) (j := 2) (by show 0 ≤ 4 * N 7; omega) (o := 0) (by omega) (by decide)
    · exact adN_v (N := N) (j := 2) (by show 0 ≤ 4 * N 7; omega) (o := 1) (by omega) (by decide)
    · exact adN_v (N := N) (j := 2) (by show 0 ≤ 4 * N 7; omega) (o := 2) (by omega) (by decide)
    · by_cases g : 206 + 4 * N 7 ≤ j ∧ j < 206 + 4 * N 7 + 4
      · obtain ⟨o, eo⟩ : ∃ o, j = 206 + 4 * N 7 + o := ⟨j - (206 + 4 * N 7), by omega⟩
        rw [z j g.1 (by omega), eo]
        refine (adN_v (N := N) (j := 2) (by show 0 ≤ 4 * N 7; omega) (o := o) (by omega) (by show o < (4 : Int); omega)).trans ?_
        unfold v5
        rw [if_neg (by omega), if_neg (by omega), if_neg (by omega)]
        repeat' split
        all_goals omega
      · exact adN_o (by show j ≠ 7; omega) g
