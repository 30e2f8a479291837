/-! lists: LA G h l c b n E: at l a list of n things E 0 .. E (n - 1), its row of c places at b (the empty row where c is 0) -/
def isE (a : Nat) : Prop := (∃ ci kds q, shp a = .inr (ci, kds) ∧ vwCl[ci]? = some q ∧ (q.1, "java/lang/Object") ∈ xPair) ∨ ∃ N, a = ak 0 N
theorem isE.any {G : GG} {h : Hp} {a b : Nat} (he : isE a) (hm : (a, b) ∈ h.1) : anyE G h "java/lang/Object" a b := by
  rcases he with ⟨ci, kds, q, h1, h2, h3⟩ | ⟨N, rfl⟩
  · exact any_obj h1 h2 hm h3
  · exact any_arr hm (by decide +kernel)
def LA (G : GG) (h : Hp) (l c b n : Nat) (E : Nat → Nat × Nat) : Prop := (56, l) ∈ h.1 ∧ h.2.2.1 56 l 1 = some (ak 7 c, b) ∧ h.2.1 56 l 2 = (n : Int) ∧ n ≤ c ∧ c ≤ 1000 ∧ (0 < c → (ak 7 c, b) ∈ h.1) ∧ (c = 0 → b = gV G 15) ∧ (∀ j, j < n → h.2.2.1 (ak 7 c) b j = some (E j) ∧ isE (E j).1 ∧ E j ∈ h.1) ∧ ∀ j, n ≤ j → j < c → h.2.2.1 (ak 7 c) b j = none
theorem LA.fr {G : GG} {h h1 : Hp} {S : Nat → Prop} {l c b n : Nat} {E : Nat → Nat × Nat} (hA : LA G h l c b n E) (hF : Fr S h h1) (hl : ¬ S l) (hb : 0 < c → ¬ S b) : LA G h1 l c b n E := by
  obtain ⟨a1, a2, a3, a4, a5, a6, a7, a8, a9⟩ := hA
  have e := hF.2.2.1 56 l (by decide) a1 hl
  refine ⟨hF.1 _ a1, by rw [e.2]; exact a2, by rw [e.1]; exact a3, a4, a5, fun z => hF.1 _ (a6 z), a7, fun j hj => ⟨?_, (a8 j hj).2.1, hF.1 _ (a8 j hj).2.2⟩, fun j hj hc => ?_⟩
  · have hc : 0 < c := by omega
    rw [(hF.2.2.1 (ak 7 c) b ak_ge (a6 hc) (hb hc)).2]
    exact (a8 j hj).1
  · rw [(hF.2.2.1 (ak 7 c) b ak_ge (a6 (by omega)) (hb (by omega))).2]
    exact a9 j hj hc
theorem LA.E {G : GG} {h : Hp} {l c b n : Nat} {E E' : Nat → Nat × Nat} (hA : LA G h l c b n E) (he : ∀ j, j < n → E' j = E j) : LA G h l c b n E' := by
  obtain ⟨a1, a2, a3, a4, a5, a6, a7, a8, a9⟩ := hA
  exact ⟨a1, a2, a3, a4, a5, a6, a7, fun j hj => by rw [he j hj]; exact a8 j hj, a9⟩
/-- an iterator at q over the list at l, before its cur-th thing -/
def IT (h : Hp) (q l cur : Nat) : Prop := (57, q) ∈ h.1 ∧ h.2.2.1 57 q 3 = some (56, l) ∧ h.2.1 57 q 0 = (cur : Int) ∧ h.2.1 57 q 2 = h.2.1 56 l 0
theorem IT.fr {h h1 : Hp} {S : Nat → Prop} {q l cur : Nat} (hI : IT h q l cur) (hF : Fr S h h1) (hl : (56, l) ∈ h.1) (h2 : ¬ S l) (h3 : ¬ S q) : IT h1 q l cur := by
  obtain ⟨a1, a2, a3, a4⟩ := hI
  have e := hF.2.2.1 57 q (by decide) a1 h3
  have e2 := hF.2.2.1 56 l (by decide) hl h2
  exact ⟨hF.1 _ a1, by rw [e.2]; exact a2, by rw [e.1]; exact a3, by rw [e.1, e2.1]; exact a4⟩
theorem iI_sz {n : Nat} (h : n ≤ 1000) : inI (n : Int) := ⟨by omega, by omega⟩
theorem cl_size {G : GG} {h : Hp} {l c b n : Nat} {E : Nat → Nat × Nat} (hA : LA G h l c b n E) : Cy G MJx4a65c_size_8abf5 (rmL 0 0 0) [rf G 56 l] h (fun v h1 => v = some (.int (iI (n : Int))) ∧ h1 = h) := by
  refine o_entry (by decide +kernel) mwJx4a65c_size_8abf5 rfl (Nat.le_of_ble_eq_true rfl) ?_
  show YY G MJx4a65c_size_8abf5 (rmL 0 0 0) 0 [(0, rf G 56 l)] [] h 0 0 _
  refine o_aload_n (pc := 0) dJx4a65c_size_8abf5_0 0 rfl ?_
  refine o_gI (pc := 1) (j := 2) dJx4a65c_size_8abf5_1 flJx4a65c_48 rfl rfl hA.1 hA.2.2.1 ?_
  exact o_iret (pc := 4) dJx4a65c_size_8abf5_4 rfl (Nat.le_of_ble_eq_true rfl) (Nat.le_of_ble_eq_true rfl) ⟨rfl, rfl⟩
theorem cl_isEmpty {G : GG} {h : Hp} {l c b n : Nat} {E : Nat → Nat × Nat} (hA : LA G h l c b n E) : Cy G MJx4a65c_isEmpty_aae02 (rmL 0 0 0) [rf G 56 l] h (fun v h1 => v = some (.int (iI (if n = 0 then 1 else 0))) ∧ h1 = h) := by
  refine o_entry (by decide +kernel) mwJx4a65c_isEmpty_aae02 rfl (Nat.le_of_ble_eq_true rfl) ?_
  show YY G MJx4a65c_isEmpty_aae02 (rmL 0 0 0) 0 [(0, rf G 56 l)] [] h 0 0 _
  refine o_aload_n (pc := 0) dJx4a65c_isEmpty_aae02_0 0 rfl ?_
  refine o_gI (pc := 1) (j := 2) dJx4a65c_isEmpty_aae02_1 flJx4a65c_48 rfl rfl hA.1 hA.2.2.1 ?_
  refine o_if_ne (pc := 4) 11 dJx4a65c_isEmpty_aae02_4 (by decide) (iI_sz (Nat.le_trans hA.2.2.2.1 hA.2.2.2.2.1)) (fun c_4 => ?_) (fun c_4 => ?_)
  · refine o_iconst (pc := 11) dJx4a65c_isEmpty_aae02_11 ?_
    exact o_zret (pc := 12) dJx4a65c_isEmpty_aae02_12 rfl rfl (Nat.le_of_ble_eq_true rfl) (Nat.le_of_ble_eq_true rfl) ⟨by rw [if_neg (by omega)], rfl⟩
  · refine o_iconst (pc := 7) dJx4a65c_isEmpty_aae02_7 ?_
    refine o_goto (pc := 8) 12 dJx4a65c_isEmpty_aae02_8 (by decide) ?_
    exact o_zret (pc := 12) dJx4a65c_isEmpty_aae02_12 rfl rfl (Nat.le_of_ble_eq_true rfl) (Nat.le_of_ble_eq_true rfl) ⟨by rw [if_pos (by omega)], rfl⟩
theorem cl_pckN {G : GG} {h : Hp} {i m : Int} (hi0 : 0 ≤ i) (hi1 : i < m) (hi2 : m < 100000) : Cy G MJ3_checkIndex_8e157 (rmL 0 0 0) [.int (iI i), .int (iI m), .null] h (fun v h1 => v = some (.int (iI i)) ∧ h1 = h) := by
  refine o_entry (by decide +kernel) mwJ3_checkIndex_8e157 rfl (Nat.le_of_ble_eq_true rfl) ?_
  show YY G MJ3_checkIndex_8e157 (rmL 0 0 0) 0 [(0, .int (iI i)), (1, .int (iI m)), (2, .null)] [] h 0 0 _
  refine o_iload_n (pc := 0) dJ3_checkIndex_8e157_0 0 rfl ?_
  refine o_if_lt (pc := 1) 9 dJ3_checkIndex_8e157_1 (by decide) (by unfold inI; omega) (fun c_1 => (by exfalso; omega)) (fun c_1 => ?_)
  refine o_iload_n (pc := 4) dJ3_checkIndex_8e157_4 0 rfl ?_
  refine o_iload_n (pc := 5) dJ3_checkIndex_8e157_5 1 rfl ?_
  refine o_icmp_lt (pc := 6) 16 dJ3_checkIndex_8e157_6 (by decide) (by unfold inI; omega) (by unfold inI; omega) (fun c_6 => ?_) (fun c_6 => (by exfalso; omega))
  refine o_iload_n (pc := 16) dJ3_checkIndex_8e157_16 0 rfl ?_
  exact o_iret (pc := 17) dJ3_checkIndex_8e157_17 rfl (Nat.le_of_ble_eq_true rfl) (Nat.le_of_ble_eq_true rfl) ⟨rfl, rfl⟩
theorem cl_pckR {G : GG} {h : Hp} {i m : Int} {t : Nat} (hi0 : 0 ≤ i) (hi1 : i < m) (hi2 : m < 100000) : Cy G MJ3_checkIndex_8e157 (rmL 0 0 0) [.int (iI i), .int (iI m), .ref t] h (fun v h1 => v = some (.int (iI i)) ∧ h1 = h) := by
  refine o_entry (by decide +kernel) mwJ3_checkIndex_8e157 rfl (Nat.le_of_ble_eq_true rfl) ?_
  show YY G MJ3_checkIndex_8e157 (rmL 0 0 0) 0 [(0, .int (iI i)), (1, .int (iI m)), (2, .ref t)] [] h 0 0 _
  refine o_iload_n (pc := 0) dJ3_checkIndex_8e157_0 0 rfl ?_
  refine o_if_lt (pc := 1) 9 dJ3_checkIndex_8e157_1 (by decide) (by unfold inI; omega) (fun c_1 => (by exfalso; omega)) (fun c_1 => ?_)
  refine o_iload_n (pc := 4) dJ3_checkIndex_8e157_4 0 rfl ?_
  refine o_iload_n (pc := 5) dJ3_checkIndex_8e157_5 1 rfl ?_
  refine o_icmp_lt (pc := 6) 16 dJ3_checkIndex_8e157_6 (by decide) (by unfold inI; omega) (by unfold inI; omega) (fun c_6 => ?_) (fun c_6 => (by exfalso; omega))
  refine o_iload_n (pc := 16) dJ3_checkIndex_8e157_16 0 rfl ?_
  exact o_iret (pc := 17) dJ3_checkIndex_8e157_17 rfl (Nat.le_of_ble_eq_true rfl) (Nat.le_of_ble_eq_true rfl) ⟨rfl, rfl⟩
theorem cl_ock {G : GG} {h : Hp} {i m : Int} (hi0 : 0 ≤ i) (hi1 : i < m) (hi2 : m < 100000) : Cy G MJ15_checkIndex_7cf53 (rmL 1 0 0) [.int (iI i), .int (iI m)] h (fun v h1 => v = some (.int (iI i)) ∧ h1 = h) := by
  refine o_entry (by decide +kernel) mwJ15_checkIndex_7cf53 rfl (Nat.le_of_ble_eq_true rfl) ?_
  show YY G MJ15_checkIndex_7cf53 (rmL 1 0 0) 0 [(0, .int (iI i)), (1, .int (iI m))] [] h 0 0 _
  refine o_iload_n (pc := 0) dJ15_checkIndex_7cf53_0 0 rfl ?_
  refine o_iload_n (pc := 1) dJ15_checkIndex_7cf53_1 1 rfl ?_
  refine o_null (pc := 2) dJ15_checkIndex_7cf53_2 ?_
  refine o_callS (pc := 3) _ dJ15_checkIndex_7cf53_3 (cl_pckN hi0 hi1 hi2) lkJ15_105 rfl ⟨⟨(Nat.le_of_ble_eq_true rfl), (Nat.le_of_ble_eq_true rfl)⟩, (Nat.le_of_ble_eq_true rfl), (Nat.le_of_ble_eq_true rfl)⟩ (Nat.le_of_ble_eq_true rfl) rfl (fun v h1 hq => ?_)
  obtain ⟨rfl, rfl⟩ := hq
  exact o_iret (pc := 6) dJ15_checkIndex_7cf53_6 rfl (Nat.le_of_ble_eq_true rfl) (Nat.le_of_ble_eq_true rfl) ⟨rfl, rfl⟩
theorem cl_elem {G : GG} {h : Hp} {l c b n : Nat} {E : Nat → Nat × Nat} (hA : LA G h l c b n E) {i : Int} (hi0 : 0 ≤ i) (hi1 : i < n) : Cy G MJx4a65c_elementData_915e3 (rmL 0 0 0) [rf G 56 l, .int (iI i)] h (fun v h1 => v = some (rf G (E i.toNat).1 (E i.toNat).2) ∧ h1 = h) := by
  refine o_entry (by decide +kernel) mwJx4a65c_elementData_915e3 rfl (Nat.le_of_ble_eq_true rfl) ?_
  show YY G MJx4a65c_elementData_915e3 (rmL 0 0 0) 0 [(0, rf G 56 l), (1, .int (iI i))] [] h 0 0 _
  have hb := hA.2.2.2.1
  have hb2 := hA.2.2.2.2.1
  refine o_aload_n (pc := 0) dJx4a65c_elementData_915e3_0 0 rfl ?_
  refine o_gR (pc := 1) (j := 1) (ak 7 c) (b) dJx4a65c_elementData_915e3_1 flJx4a65c_9 rfl rfl hA.1 hA.2.1 ?_
  refine o_iload_n (pc := 4) dJx4a65c_elementData_915e3_4 1 rfl ?_
  refine o_aaI (pc := 5) (tag := 2) (a' := (E i.toNat).1) (b' := (E i.toNat).2) dJx4a65c_elementData_915e3_5 (shp_ak (by decide)) rfl (hA.2.2.2.2.2.1 (by omega)) (by omega) (by omega) (hA.2.2.2.2.2.2.2.1 i.toNat (by omega)).1 ?_
  exact o_aret (pc := 6) dJx4a65c_elementData_915e3_6 rfl (.inl ⟨_, rfl⟩) (.inr ⟨_, rfl⟩) (Nat.le_of_ble_eq_true rfl) (Nat.le_of_ble_eq_true rfl) ⟨rfl, rfl⟩
theorem cl_get {G : GG} {h : Hp} {l c b n : Nat} {E : Nat → Nat × Nat} (hA : LA G h l c b n E) {i : Int} (hi0 : 0 ≤ i) (hi1 : i < n) : Cy G MJx4a65c_get_915e3 (rmL 2 0 0) [rf G 56 l, .int (iI i)] h (fun v h1 => v = some (rf G (E i.toNat).1 (E i.toNat).2) ∧ h1 = h) := by
  refine o_entry (by decide +kernel) mwJx4a65c_get_915e3 rfl (Nat.le_of_ble_eq_true rfl) ?_
  show YY G MJx4a65c_get_915e3 (rmL 2 0 0) 0 [(0, rf G 56 l), (1, .int (iI i))] [] h 0 0 _
  have hb := hA.2.2.2.1
  have hb2 := hA.2.2.2.2.1
  refine o_iload_n (pc := 0) dJx4a65c_get_915e3_0 1 rfl ?_
  refine o_aload_n (pc := 1) dJx4a65c_get_915e3_1 0 rfl ?_
  refine o_gI (pc := 2) (j := 2) dJx4a65c_get_915e3_2 flJx4a65c_48 rfl rfl hA.1 hA.2.2.1 ?_
  refine o_callS (pc := 5) _ dJx4a65c_get_915e3_5 (cl_ock hi0 hi1 (by omega)) lkJx4a65c_118 rfl ⟨⟨(Nat.le_of_ble_eq_true rfl), (Nat.le_of_ble_eq_true rfl)⟩, (Nat.le_of_ble_eq_true rfl), (Nat.le_of_ble_eq_true rfl)⟩ (Nat.le_of_ble_eq_true rfl) rfl (fun v h1 hq => ?_)
  obtain ⟨rfl, rfl⟩ := hq
  refine o_pop (pc := 8) dJx4a65c_get_915e3_8 rfl ?_
  refine o_aload_n (pc := 9) dJx4a65c_get_915e3_9 0 rfl ?_
  refine o_iload_n (pc := 10) dJx4a65c_get_915e3_10 1 rfl ?_
  refine o_callV (pc := 11) _ dJx4a65c_get_915e3_11 (cl_elem hA hi0 hi1) lkJx4a65c_123 rfl rfl rfl rfl hA.1 ⟨⟨(Nat.le_of_ble_eq_true rfl), (Nat.le_of_ble_eq_true rfl)⟩, (Nat.le_of_ble_eq_true rfl), (Nat.le_of_ble_eq_true rfl)⟩ (Nat.le_of_ble_eq_true rfl) rfl (fun v h1 hq => ?_)
  obtain ⟨rfl, rfl⟩ := hq
  exact o_aret (pc := 14) dJx4a65c_get_915e3_14 rfl (.inl ⟨_, rfl⟩) (.inr ⟨_, rfl⟩) (Nat.le_of_ble_eq_true rfl) (Nat.le_of_ble_eq_true rfl) ⟨rfl, rfl⟩
theorem cl_itInit {G : GG} {h : Hp} {q l : Nat} (hq0 : (57, q) ∈ h.1) (hl : (56, l) ∈ h.1) : Cy G MJx35411_init_45d68 (rmL 1 0 0) [rf G 57 q, rf G 56 l] h (fun v h1 => v = none ∧ h1 = hset (hset (rset h 57 q 3 (some (56, l))) 57 q 1 (-1)) 57 q 2 (h.2.1 56 l 0)) := by
  refine o_entry (by decide +kernel) mwJx35411_init_45d68 rfl (Nat.le_of_ble_eq_true rfl) ?_
  show YY G MJx35411_init_45d68 (rmL 1 0 0) 0 [(0, rf G 57 q), (1, rf G 56 l)] [] h 0 0 _
  refine o_aload_n (pc := 0) dJx35411_init_45d68_0 0 rfl ?_
  refine o_aload_n (pc := 1) dJx35411_init_45d68_1 1 rfl ?_
  refine o_pFR (pc := 2) (j := 3) dJx35411_init_45d68_2 fxJx35411_1 rfl (fun q hq => by cases hq; rfl) rfl rfl hq0 rfl rfl ?_
  refine o_aload_n (pc := 5) dJx35411_init_45d68_5 0 rfl ?_
  refine o_obj (pc := 6) dJx35411_init_45d68_6 obJx35411_7 ob_i ob_c (Nat.le_of_ble_eq_true rfl) ⟨(Nat.le_of_ble_eq_true rfl), (Nat.le_of_ble_eq_true rfl)⟩ ?_
  refine o_aload_n (pc := 9) dJx35411_init_45d68_9 0 rfl ?_
  refine o_iconst (pc := 10) dJx35411_init_45d68_10 ?_
  refine o_pI (pc := 11) (j := 1) dJx35411_init_45d68_11 fwJx35411_13 rfl rfl hq0 ?_
  refine o_aload_n (pc := 14) dJx35411_init_45d68_14 0 rfl ?_
  refine o_aload_n (pc := 15) dJx35411_init_45d68_15 0 rfl ?_
  refine o_gR (pc := 16) (j := 3) (56) (l) dJx35411_init_45d68_16 flJx35411_1 rfl rfl hq0 rset_at ?_
  refine o_getMod (pc := 19) dJx35411_init_45d68_19 flm_i hl rfl ?_
  refine o_pI (pc := 22) (j := 2) dJx35411_init_45d68_22 fwJx35411_22 rfl rfl hq0 ?_
  exact o_vret (pc := 25) dJx35411_init_45d68_25 rfl (Nat.le_of_ble_eq_true rfl) (Nat.le_of_ble_eq_true rfl) ⟨rfl, rfl⟩
theorem cl_iterator {G : GG} {h : Hp} {l c b n : Nat} {E : Nat → Nat × Nat} (hA : LA G h l c b n E) (he : ∃ n, h.2.2.2 = some n) : Cy G MJx4a65c_iterator_32c93 (rmL 2 1 4) [rf G 56 l] h (fun v h1 => ∃ q, v = some (rf G 57 q) ∧ fre h q ∧ IT h1 q l 0 ∧ Fr (fun _ => False) h h1) := by
  refine o_entry (by decide +kernel) mwJx4a65c_iterator_32c93 rfl (Nat.le_of_ble_eq_true rfl) ?_
  show YY G MJx4a65c_iterator_32c93 (rmL 2 1 4) 0 [(0, rf G 56 l)] [] h 0 0 _
  refine o_sizeD (fun q hq => ?_) he
  refine o_new (pc := 0) (k := 57) dJx4a65c_iterator_32c93_0 ncJx4a65c_267 rfl (by decide) hq (Nat.le_of_ble_eq_true rfl) (Nat.le_of_ble_eq_true rfl) (fun fq => ?_)
  refine o_dup (pc := 3) dJx4a65c_iterator_32c93_3 rfl ?_
  refine o_aload_n (pc := 4) dJx4a65c_iterator_32c93_4 0 rfl ?_
  refine o_callI (pc := 5) _ dJx4a65c_iterator_32c93_5 (cl_itInit nw_in (nw_old hA.1)) lkJx4a65c_269 rfl rfl ⟨⟨(Nat.le_of_ble_eq_true rfl), (Nat.le_of_ble_eq_true rfl)⟩, (Nat.le_of_ble_eq_true rfl), (Nat.le_of_ble_eq_true rfl)⟩ (Nat.le_of_ble_eq_true rfl) rfl (fun v h1 hq2 => ?_)
  obtain ⟨rfl, rfl⟩ := hq2
  refine o_aret (pc := 8) dJx4a65c_iterator_32c93_8 rfl (.inl ⟨_, rfl⟩) (.inr ⟨_, rfl⟩) (Nat.le_of_ble_eq_true rfl) (Nat.le_of_ble_eq_true rfl) ⟨q, rfl, fq, ?_, ?_⟩
  · refine ⟨nw_in, ?_, ?_, ?_⟩
    · show (hset (hset (rset (nw h 57 q) 57 q 3 (some (56, l))) 57 q 1 (-1)) 57 q 2 _).2.2.1 57 q 3 = _
      exact rset_at
    · rw [hset_off (by omega), hset_off (by omega)]
      show (nw h 57 q).2.1 57 q 0 = _
      rw [nw_m]
      rfl
    · rw [hset_at, hset_off (by omega), hset_off (by omega)]
      rfl
  · exact Fr_hset (Fr_hset (Fr_rset (Fr_nw (Fr.rf he) (by decide) fq) (by decide) (.inr fq)) (by decide) (.inr fq)) (by decide) (.inr fq)
theorem cl_hasNext {G : GG} {h : Hp} {l c b n q cur : Nat} {E : Nat → Nat × Nat} (hA : LA G h l c b n E) (hI : IT h q l cur) (hc : cur ≤ n) : Cy G MJx35411_hasNext_aae02 (rmL 0 0 0) [rf G 57 q] h (fun v h1 => v = some (.int (iI (if cur = n then 0 else 1))) ∧ h1 = h) := by
  refine o_entry (by decide +kernel) mwJx35411_hasNext_aae02 rfl (Nat.le_of_ble_eq_true rfl) ?_
  show YY G MJx35411_hasNext_aae02 (rmL 0 0 0) 0 [(0, rf G 57 q)] [] h 0 0 _
  have hb := hA.2.2.2.1
  have hb2 := hA.2.2.2.2.1
  refine o_aload_n (pc := 0) dJx35411_hasNext_aae02_0 0 rfl ?_
  refine o_gI (pc := 1) (j := 0) dJx35411_hasNext_aae02_1 flJx35411_25 rfl rfl hI.1 hI.2.2.1 ?_
  refine o_aload_n (pc := 4) dJx35411_hasNext_aae02_4 0 rfl ?_
  refine o_gR (pc := 5) (j := 3) (56) (l) dJx35411_hasNext_aae02_5 flJx35411_1 rfl rfl hI.1 hI.2.1 ?_
  refine o_getSize (pc := 8) rfl dJx35411_hasNext_aae02_8 hA.1 hA.2.2.1 ?_
  refine o_icmp_eq (pc := 11) 18 dJx35411_hasNext_aae02_11 (by decide) (iI_sz (by omega)) (iI_sz (by omega)) (fun c_11 => ?_) (fun c_11 => ?_)
  · refine o_iconst (pc := 18) dJx35411_hasNext_aae02_18 ?_
    exact o_zret (pc := 19) dJx35411_hasNext_aae02_19 rfl rfl (Nat.le_of_ble_eq_true rfl) (Nat.le_of_ble_eq_true rfl) ⟨by rw [if_pos (by omega)], rfl⟩
  · refine o_iconst (pc := 14) dJx35411_hasNext_aae02_14 ?_
    refine o_goto (pc := 15) 19 dJx35411_hasNext_aae02_15 (by decide) ?_
    exact o_zret (pc := 19) dJx35411_hasNext_aae02_19 rfl rfl (Nat.le_of_ble_eq_true rfl) (Nat.le_of_ble_eq_true rfl) ⟨by rw [if_neg (by omega)], rfl⟩
theorem cl_comod {G : GG} {h : Hp} {l c b n q cur : Nat} {E : Nat → Nat × Nat} (hA : LA G h l c b n E) (hI : IT h q l cur) : Cy G MJx35411_checkForComodification_da8c8 (rmL 0 0 0) [rf G 57 q] h (fun v h1 => v = none ∧ h1 = h) := by
  refine o_entry (by decide +kernel) mwJx35411_checkForComodification_da8c8 rfl (Nat.le_of_ble_eq_true rfl) ?_
  show YY G MJx35411_checkForComodification_da8c8 (rmL 0 0 0) 0 [(0, rf G 57 q)] [] h 0 0 _
  refine o_aload_n (pc := 0) dJx35411_checkForComodification_da8c8_0 0 rfl ?_
  refine o_gR (pc := 1) (j := 3) (56) (l) dJx35411_checkForComodification_da8c8_1 flJx35411_1 rfl rfl hI.1 hI.2.1 ?_
  refine o_getMod (pc := 4) dJx35411_checkForComodification_da8c8_4 flm_i hA.1 rfl ?_
  refine o_aload_n (pc := 7) dJx35411_checkForComodification_da8c8_7 0 rfl ?_
  refine o_gI (pc := 8) (j := 2) dJx35411_checkForComodification_da8c8_8 flJx35411_22 rfl rfl hI.1 hI.2.2.2 ?_
  refine o_icmpS (pc := 11) 22 dJx35411_checkForComodification_da8c8_11 (by decide) rfl ?_
  exact o_vret (pc := 22) dJx35411_checkForComodification_da8c8_22 rfl (Nat.le_of_ble_eq_true rfl) (Nat.le_of_ble_eq_true rfl) ⟨rfl, rfl⟩
theorem cl_next {G : GG} {h : Hp} {l c b n q cur : Nat} {E : Nat → Nat × Nat} (hA : LA G h l c b n E) (hI : IT h q l cur) (hc : cur < n) : Cy G MJx35411_next_0502b (rmL 1 0 0) [rf G 57 q] h (fun v h1 => v = some (rf G (E cur).1 (E cur).2) ∧ h1 = hset (hset h 57 q 0 (cur + 1)) 57 q 1 cur) := by
  refine o_entry (by decide +kernel) mwJx35411_next_0502b rfl (Nat.le_of_ble_eq_true rfl) ?_
  show YY G MJx35411_next_0502b (rmL 1 0 0) 0 [(0, rf G 57 q)] [] h 0 0 _
  have hb := hA.2.2.2.1
  have hb2 := hA.2.2.2.2.1
  refine o_aload_n (pc := 0) dJx35411_next_0502b_0 0 rfl ?_
  refine o_callV (pc := 1) _ dJx35411_next_0502b_1 (cl_comod hA hI) lkJx35411_31 rfl rfl rfl rfl hI.1 ⟨⟨(Nat.le_of_ble_eq_true rfl), (Nat.le_of_ble_eq_true rfl)⟩, (Nat.le_of_ble_eq_true rfl), (Nat.le_of_ble_eq_true rfl)⟩ (Nat.le_of_ble_eq_true rfl) rfl (fun v h1 hq => ?_)
  obtain ⟨rfl, rfl⟩ := hq
  refine o_aload_n (pc := 4) dJx35411_next_0502b_4 0 rfl ?_
  refine o_gI (pc := 5) (j := 0) dJx35411_next_0502b_5 flJx35411_25 rfl rfl hI.1 hI.2.2.1 ?_
  refine o_istore_n (pc := 8) (lv' := [(1, _), (0, _)]) dJx35411_next_0502b_8 rfl (by decide) rfl ?_
  refine o_iload_n (pc := 9) dJx35411_next_0502b_9 0 rfl ?_
  refine o_aload_n (pc := 10) dJx35411_next_0502b_10 1 rfl ?_
  refine o_gR (pc := 11) (j := 3) (56) (l) dJx35411_next_0502b_11 flJx35411_1 rfl rfl hI.1 hI.2.1 ?_
  refine o_getSize (pc := 14) rfl dJx35411_next_0502b_14 hA.1 hA.2.2.1 ?_
  refine o_icmp_lt (pc := 17) 28 dJx35411_next_0502b_17 (by decide) (by unfold inI; omega) (by unfold inI; omega) (fun c_17 => ?_) (fun c_17 => (by exfalso; omega))
  refine o_aload_n (pc := 28) dJx35411_next_0502b_28 1 rfl ?_
  refine o_gR (pc := 29) (j := 3) (56) (l) dJx35411_next_0502b_29 flJx35411_1 rfl rfl hI.1 hI.2.1 ?_
  refine o_gR (pc := 32) (j := 1) (ak 7 c) (b) dJx35411_next_0502b_32 flJx35411_37 rfl rfl hA.1 hA.2.1 ?_
  refine o_astore_n (pc := 35) (lv' := [(2, _), (1, _), (0, _)]) dJx35411_next_0502b_35 rfl (by decide) rfl ?_
  refine o_iload_n (pc := 36) dJx35411_next_0502b_36 1 rfl ?_
  refine o_aload_n (pc := 37) dJx35411_next_0502b_37 0 rfl ?_
  refine o_alN (pc := 38) (tag := 7) dJx35411_next_0502b_38 (shp_ak (by decide)) (hA.2.2.2.2.2.1 (by omega)) rfl ?_
  refine o_icmp_lt (pc := 39) 50 dJx35411_next_0502b_39 (by decide) (by unfold inI; omega) (by unfold inI; omega) (fun c_39 => ?_) (fun c_39 => (by exfalso; omega))
  refine o_aload_n (pc := 50) dJx35411_next_0502b_50 2 rfl ?_
  refine o_iload_n (pc := 51) dJx35411_next_0502b_51 1 rfl ?_
  refine o_iconst (pc := 52) dJx35411_next_0502b_52 ?_
  refine o_iadd (pc := 53) dJx35411_next_0502b_53 ?_
  refine o_pI (pc := 54) (j := 0) dJx35411_next_0502b_54 fwJx35411_25 rfl rfl hI.1 ?_
  refine o_aload_n (pc := 57) dJx35411_next_0502b_57 0 rfl ?_
  refine o_aload_n (pc := 58) dJx35411_next_0502b_58 2 rfl ?_
  refine o_iload_n (pc := 59) dJx35411_next_0502b_59 1 rfl ?_
  refine o_dup_x1 (pc := 60) dJx35411_next_0502b_60 rfl rfl ?_
  refine o_pI (pc := 61) (j := 1) dJx35411_next_0502b_61 fwJx35411_13 rfl rfl hI.1 ?_
  refine o_aaI (pc := 64) (tag := 2) (a' := (E cur).1) (b' := (E cur).2) dJx35411_next_0502b_64 (shp_ak (by decide)) rfl (hA.2.2.2.2.2.1 (by omega)) (by omega) (by omega) (by rw [Int.toNat_natCast]; exact (hA.2.2.2.2.2.2.2.1 cur hc).1) ?_
  exact o_aret (pc := 65) dJx35411_next_0502b_65 rfl (.inl ⟨_, rfl⟩) (.inr ⟨_, rfl⟩) (Nat.le_of_ble_eq_true rfl) (Nat.le_of_ble_eq_true rfl) ⟨rfl, rfl⟩
/-- the iterator goes on -/
theorem IT.next {h : Hp} {q l cur : Nat} (hI : IT h q l cur) : IT (hset (hset h 57 q 0 (cur + 1)) 57 q 1 cur) q l (cur + 1) := by
  obtain ⟨a1, a2, a3, a4⟩ := hI
  refine ⟨a1, a2, ?_, ?_⟩
  · rw [hset_off (by omega), hset_at]
    rfl
  · rw [hset_off (by omega), hset_off (by omega), hset_off (by omega), hset_off (by omega)]
    exact a4
theorem Fr_next {h h1 : Hp} {S : Nat → Prop} {q : Nat} {z w : Int} (hF : Fr S h h1) (hq : fre h q) : Fr S h (hset (hset h1 57 q 0 z) 57 q 1 w) := Fr_hset (Fr_hset hF (by decide) (.inr hq)) (by decide) (.inr hq)
