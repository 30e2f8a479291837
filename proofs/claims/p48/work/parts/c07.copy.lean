/-! one kind of thing at an address; a thing more in a list of a world; the small constructors and copies -/
def UQ (h : Hp) : Prop := ∀ k k' i, 51 ≤ k → 51 ≤ k' → (k, i) ∈ h.1 → (k', i) ∈ h.1 → k = k'
theorem UQ.fr {S : Nat → Prop} {h h1 : Hp} (u : UQ h1) (hF : Fr S h h1) : UQ h := fun k k' i a b c d => u k k' i a b (hF.1 _ c) (hF.1 _ d)
section UQr
variable {G : GG} {M : Mth} {R : Room} {pc : Nat} {lv : List (Nat × Value)} {st : List Value} {h : Hp} {c0 s0 : Nat} {Q : PP}
theorem o_uq (kk : UQ h → YY G M R pc lv st h c0 s0 Q) : YY G M R pc lv st h c0 s0 Q := by
  intro p l e s m args below meth c H locs ls hC hR hS hl
  have u : UQ h := by
    intro k k' i a b hm hm'
    obtain ⟨p1, q1, w1⟩ := xws_at (G := G) hm
    obtain ⟨p2, q2, w2⟩ := xws_at (G := G) hm'
    have e := hR.2.2.2.1.1 p1 p2 _ _ w1 w2 (by show gad G k i = gad G k' i; unfold gad; rw [if_pos a, if_pos b])
    subst e
    rw [q1] at q2
    have e2 := Option.some.inj q2
    exact congrArg Prod.fst e2
  exact kk u p l e s m args below meth c H locs ls hC hR hS hl
theorem o_gen {P : Hp → Prop} (hp : P h) (kk : ∀ H, P H → YY G M R pc lv st H c0 s0 Q) : YY G M R pc lv st h c0 s0 Q := kk h hp
end UQr
def adB (B : Bok) (j c1 b1 n e : Nat) : Bok := (B.1, (fun i => if i = j then c1 else B.2.1 i), (fun i => if i = j then b1 else B.2.2.1 i), fun i q => if i = j ∧ q = n then e else B.2.2.2 i q)
/-- a thing more at the end of the list j -/
theorem WN.add {G : GG} {h h1 : Hp} {a : Nat} {N N' : Int → Int} {B : Bok} {S T S' T' : Nat → Prop} (hW : WN G h a N B S T) (hu : UQ h1) (j : Nat) (hj : j < 7) {c1 b1 e : Nat}
    (hA : LA G h1 (B.1 j) c1 b1 ((nj N j).toNat + 1) (adE (fun q => (pk j, bE B j q)) (nj N j).toNat (pk j, e))) (hF : Fr (fun i => i = B.1 j ∨ 0 < B.2.1 j ∧ i = B.2.2.1 j) h h1) (hb : b1 = B.2.2.1 j ∧ c1 = B.2.1 j ∧ 0 < B.2.1 j ∨ fre h b1 ∧ 0 < c1)
    (hme : (pk j, e) ∈ h.1) (heS : 2 ≤ j → ¬ S e) (hS1 : ∀ i, S i → S' i) (hS2 : S' b1) (hS3 : 2 ≤ j → S' e) (hT1 : ∀ i, T i → T' i) (hT2 : j < 2 → T' e) (hST : ∀ i, S' i → ¬ T' i ∧ ∃ k, 51 ≤ k ∧ (k, i) ∈ h1.1)
    (hN0 : ∀ f, f < 7 → N' (hd f) = N (hd f)) (hNj : ∀ i, i < 7 → nj N' i = nj N i + (if i = j then 1 else 0)) (hmx : nj N j + 1 ≤ mxj j) (hNe : ∀ i, i < 7 → ∀ q : Nat, (q : Int) < nj N i → ∀ f, f < nf i → N' (ix i q f) = N (ix i q f)) (hNn : ∀ f : Nat, f < nf j → h.2.1 (pk j) e (f : Int) = N' (ix j (nj N j).toNat f)) :
    WN G h1 a N' (adB B j c1 b1 (nj N j).toNat e) S' T' := by
  have u0 := hu.fr hF
  obtain ⟨w1, w2, w3, w4, w5, ⟨s1, s2, s3, s4, s5⟩, w7, w8, w9⟩ := hW
  have l56 : ∀ i, i < 7 → (56, B.1 i) ∈ h.1 := fun i hi => (w4 i hi).2.1
  have l7 : ∀ i, i < 7 → 0 < B.2.1 i → (ak 7 (B.2.1 i), B.2.2.1 i) ∈ h.1 := fun i hi => (w4 i hi).2.2.2.2.2.2.1
  have n0 := (w4 j hj).1
  -- what lies elsewhere stays
  have st : ∀ k i, 51 ≤ k → k ≠ 56 → (∀ c, k ≠ ak 7 c) → (k, i) ∈ h.1 → h1.2.1 k i = h.2.1 k i ∧ h1.2.2.1 k i = h.2.2.1 k i := fun k i hk h56 h7 hm => hF.2.2.1 k i hk hm (fun z => by
    rcases z with z | ⟨z1, z2⟩
    · exact h56 (u0 k 56 i hk (by decide) hm (by rw [z]; exact l56 j hj))
    · exact h7 _ (u0 k _ i hk ak_ge hm (by rw [z2]; exact l7 j hj z1)))
  have sa := st 51 a (by decide) (by decide) (fun c => by unfold ak; omega) w1
  have se : ∀ i, i < 7 → ∀ q : Nat, (q : Int) < nj N i → h1.2.1 (pk i) (bE B i q) = h.2.1 (pk i) (bE B i q) := fun i hi q hq => (st _ _ (pk_ge i) (pk_n56 i) (pk_n7 i) (((w4 i hi).2.2.2.2.2.2.2.2.1 q (by have := (w4 i hi).1; omega)).2.2)).1
  have sn := (st (pk j) e (pk_ge j) (pk_n56 j) (pk_n7 j) hme).1
  have ebE : ∀ i q, ¬ (i = j ∧ q = (nj N j).toNat) → bE (adB B j c1 b1 (nj N j).toNat e) i q = bE B i q := fun i q c => if_neg c
  have ebN : bE (adB B j c1 b1 (nj N j).toNat e) j (nj N j).toNat = e := if_pos ⟨rfl, rfl⟩
  have lt : ∀ i, i < 7 → ∀ q : Nat, (q : Int) < nj N' i → (q : Int) < nj N i ∧ ¬ (i = j ∧ q = (nj N j).toNat) ∨ i = j ∧ q = (nj N j).toNat := fun i hi q hq => by
    rw [hNj i hi] at hq
    by_cases c : i = j
    · subst c
      rw [if_pos rfl] at hq
      by_cases d : q = (nj N i).toNat
      · exact .inr ⟨rfl, d⟩
      · exact .inl ⟨by omega, fun z => d z.2⟩
    · rw [if_neg c] at hq
      exact .inl ⟨by omega, fun z => c z.1⟩
  refine ⟨hF.1 _ w1, fun f hf => by rw [sa.1, hN0 f hf]; exact w2 f hf, fun i hi => by rw [sa.2]; exact w3 i hi, fun i hi => ?_, fun i hi q hq f hf => ?_, ⟨hS1 _ s1, fun i hi => ⟨hS1 _ (s2 i hi).1, fun c => ?_⟩, fun i h2 hi q hq => ?_, fun i h2 q hq => ?_, hST⟩, w7, fun i i' hi hi' c c' ee => ?_, fun i h2 hi q q' hq hq' ee => ?_⟩
  · rw [hNj i hi]
    by_cases c : i = j
    · subst c
      rw [if_pos rfl]
      refine ⟨by omega, ?_⟩
      have e1 : (nj N i + 1).toNat = (nj N i).toNat + 1 := by omega
      rw [e1]
      show LA G h1 (B.1 i) (if i = i then c1 else B.2.1 i) (if i = i then b1 else B.2.2.1 i) _ _
      rw [if_pos rfl, if_pos rfl]
      refine hA.E (fun q hq => ?_)
      by_cases d : q = (nj N i).toNat
      · rw [d, adE_at]
        show (pk i, bE (adB B i c1 b1 (nj N i).toNat e) i (nj N i).toNat) = _
        rw [ebN]
      · rw [adE_lo d]
        show (pk i, bE (adB B i c1 b1 (nj N i).toNat e) i q) = _
        rw [ebE i q (fun z => d z.2)]
    · rw [if_neg c, Int.add_zero]
      refine ⟨(w4 i hi).1, ?_⟩
      show LA G h1 (B.1 i) (if i = j then c1 else B.2.1 i) (if i = j then b1 else B.2.2.1 i) _ _
      rw [if_neg c, if_neg c]
      refine LA.E ((w4 i hi).2.fr hF (fun z => ?_) (fun d z => ?_)) (fun q hq => ?_)
      · rcases z with z | ⟨z1, z2⟩
        · exact c (w7 i j hi hj z)
        · have := u0 56 _ _ (by decide) ak_ge (l56 i hi) (by rw [z2]; exact l7 j hj z1)
          unfold ak at this
          omega
      · rcases z with z | ⟨z1, z2⟩
        · have := u0 56 _ _ (by decide) ak_ge (l56 j hj) (by rw [← z]; exact l7 i hi d)
          unfold ak at this
          omega
        · exact c (w8 i j hi hj d z1 z2)
      · show (pk i, bE (adB B j c1 b1 (nj N j).toNat e) i q) = _
        rw [ebE i q (fun z => c z.1)]
  · rcases lt i hi q hq with ⟨l1, l2⟩ | ⟨rfl, rfl⟩
    · rw [ebE i q l2, se i hi q l1, hNe i hi q l1 f hf]
      exact w5 i hi q l1 f hf
    · rw [ebN, sn]
      exact hNn f hf
  · show S' (if i = j then b1 else B.2.2.1 i)
    have c' : 0 < (if i = j then c1 else B.2.1 i) := c
    by_cases d : i = j
    · rw [if_pos d]; exact hS2
    · rw [if_neg d]
      rw [if_neg d] at c'
      exact hS1 _ ((s2 i hi).2 c')
  · rcases lt i hi q hq with ⟨l1, l2⟩ | ⟨rfl, rfl⟩
    · rw [ebE i q l2]
      exact hS1 _ (s3 i h2 hi q l1)
    · rw [ebN]
      exact hS3 h2
  · rcases lt i (by omega) q hq with ⟨l1, l2⟩ | ⟨rfl, rfl⟩
    · rw [ebE i q l2]
      exact hT1 _ (s4 i h2 q l1)
    · rw [ebN]
      exact hT2 h2
  · have c2 : 0 < (if i = j then c1 else B.2.1 i) := c
    have c3 : 0 < (if i' = j then c1 else B.2.1 i') := c'
    have e2 : (if i = j then b1 else B.2.2.1 i) = (if i' = j then b1 else B.2.2.1 i') := ee
    have no : ∀ x, x < 7 → x ≠ j → 0 < B.2.1 x → b1 ≠ B.2.2.1 x := fun x hx hxj hc z => by
      rcases hb with ⟨z1, z2, z3⟩ | ⟨z1, z2⟩
      · exact hxj (w8 x j hx hj hc z3 (z.symm.trans z1))
      · exact z1 _ ak_ge (by rw [z]; exact l7 x hx hc)
    by_cases d : i = j
    · by_cases d' : i' = j
      · rw [d, d']
      · rw [if_pos d, if_neg d'] at e2
        rw [if_neg d'] at c3
        exact absurd e2 (no i' hi' d' c3)
    · by_cases d' : i' = j
      · rw [if_neg d, if_pos d'] at e2
        rw [if_neg d] at c2
        exact absurd e2.symm (no i hi d c2)
      · rw [if_neg d, if_neg d'] at e2
        rw [if_neg d] at c2
        rw [if_neg d'] at c3
        exact w8 i i' hi hi' c2 c3 e2
  · rcases lt i hi q hq with ⟨l1, l2⟩ | ⟨z1, z2⟩
    · rcases lt i hi q' hq' with ⟨m1, m2⟩ | ⟨z1, z2⟩
      · rw [ebE i q l2, ebE i q' m2] at ee
        exact w9 i h2 hi q q' l1 m1 ee
      · subst z1
        rw [ebE i q l2, z2, ebN] at ee
        exact absurd (ee ▸ s3 i h2 hi q l1) (heS h2)
    · rcases lt i hi q' hq' with ⟨m1, m2⟩ | ⟨y1, y2⟩
      · subst z1
        rw [ebE i q' m2, z2, ebN] at ee
        exact absurd (ee ▸ s3 i h2 hi q' m1) (heS h2)
      · rw [z2, y2]
theorem hset_e {h : Hp} {k i i' : Nat} {j z : Int} (hn : ¬ i' = i) : (hset h k i j z).2.1 k i' = h.2.1 k i' := funext fun _ => hset_off (fun e => hn e.2.1)
theorem nw_e {h : Hp} {k k' i i' : Nat} (hn : ¬ i' = i) : (nw h k i).2.1 k' i' = h.2.1 k' i' := if_neg (fun z => hn z.2)
theorem hset_q {h : Hp} {k i : Nat} {j j' z : Int} : (hset h k i j z).2.1 k i j' = if j' = j then z else h.2.1 k i j' := by
  by_cases e : j' = j
  · rw [if_pos e, e, hset_at]
  · rw [if_neg e, hset_off (fun z => e z.2.2)]
theorem cw_ini52 {G : GG} {h : Hp} {q : Nat} (hm : (52, q) ∈ h.1) {z0 z2 z1 : Int} : Cy G MX11_init (rmL 0 0 0) [rf G 52 q, .int (iI z0), .int (iI z2), .int (iI z1)] h (fun v h1 => v = none ∧ h1 = hset (hset (hset (h) 52 q 0 z0) 52 q 2 z2) 52 q 1 z1) := by
  refine o_entry (by decide +kernel) mwX11_init rfl (Nat.le_of_ble_eq_true rfl) ?_
  show YY G MX11_init (rmL 0 0 0) 0 [(0, rf G 52 q), (1, .int (iI z0)), (2, .int (iI z2)), (3, .int (iI z1))] [] h 0 0 _
  refine o_aload_n (pc := 0) dX11_init_0 0 rfl ?_
  refine o_obj (pc := 1) dX11_init_1 obX11_1 ob_i ob_c (Nat.le_of_ble_eq_true rfl) ⟨(Nat.le_of_ble_eq_true rfl), (Nat.le_of_ble_eq_true rfl)⟩ ?_
  refine o_aload_n (pc := 4) dX11_init_4 0 rfl ?_
  refine o_iload_n (pc := 5) dX11_init_5 1 rfl ?_
  refine o_pFI (pc := 6) (j := 0) dX11_init_6 fxX11_7 rfl (fun q hq => by cases hq; rfl) rfl rfl hm ?_
  refine o_aload_n (pc := 9) dX11_init_9 0 rfl ?_
  refine o_iload_n (pc := 10) dX11_init_10 2 rfl ?_
  refine o_pI (pc := 11) (j := 2) dX11_init_11 fwX11_13 rfl rfl hm ?_
  refine o_aload_n (pc := 14) dX11_init_14 0 rfl ?_
  refine o_iload_n (pc := 15) dX11_init_15 3 rfl ?_
  refine o_pFI (pc := 16) (j := 1) dX11_init_16 fxX11_16 rfl (fun q hq => by cases hq; rfl) rfl rfl hm ?_
  exact o_vret (pc := 19) dX11_init_19 rfl (Nat.le_of_ble_eq_true rfl) (Nat.le_of_ble_eq_true rfl) ⟨rfl, rfl⟩
theorem cw_cp52 {G : GG} {h : Hp} {e : Nat} (hm : (52, e) ∈ h.1) (hn : ∃ n, h.2.2.2 = some n) : Cy G MX11_copy (rmL 1 1 7) [rf G 52 e] h (fun v h1 => ∃ q, v = some (rf G 52 q) ∧ fre h q ∧ (52, q) ∈ h1.1 ∧ Fr (fun _ => False) h h1 ∧ ∀ f : Nat, f < 7 → h1.2.1 52 q (f : Int) = h.2.1 52 e (f : Int)) := by
  refine o_entry (by decide +kernel) mwX11_copy rfl (Nat.le_of_ble_eq_true rfl) ?_
  show YY G MX11_copy (rmL 1 1 7) 0 [(0, rf G 52 e)] [] h 0 0 _
  refine o_sizeD (fun q hq => ?_) hn
  refine o_new (pc := 0) (k := 52) dX11_copy_0 ncX11_8 rfl (by decide) hq (Nat.le_of_ble_eq_true rfl) (Nat.le_of_ble_eq_true rfl) (fun fq => ?_)
  have hne : ¬ e = q := fun z => fq 52 (by decide) (by rw [← z]; exact hm)
  refine o_dup (pc := 3) dX11_copy_3 rfl ?_
  refine o_aload_n (pc := 4) dX11_copy_4 0 rfl ?_
  refine o_gI (pc := 5) (j := 0) dX11_copy_5 flX11_7 rfl rfl (nw_old hm) rfl ?_
  refine o_topI (y := h.2.1 52 e 0) (by simp only [hset_e hne, nw_e hne]; rfl) ?_
  refine o_aload_n (pc := 8) dX11_copy_8 0 rfl ?_
  refine o_gI (pc := 9) (j := 2) dX11_copy_9 flX11_13 rfl rfl (nw_old hm) rfl ?_
  refine o_topI (y := h.2.1 52 e 2) (by simp only [hset_e hne, nw_e hne]; rfl) ?_
  refine o_aload_n (pc := 12) dX11_copy_12 0 rfl ?_
  refine o_gI (pc := 13) (j := 1) dX11_copy_13 flX11_16 rfl rfl (nw_old hm) rfl ?_
  refine o_topI (y := h.2.1 52 e 1) (by simp only [hset_e hne, nw_e hne]; rfl) ?_
  refine o_callI (pc := 16) _ dX11_copy_16 (cw_ini52 nw_in) lkX11_19 rfl rfl ⟨⟨(Nat.le_of_ble_eq_true rfl), (Nat.le_of_ble_eq_true rfl)⟩, (Nat.le_of_ble_eq_true rfl), (Nat.le_of_ble_eq_true rfl)⟩ (Nat.le_of_ble_eq_true rfl) rfl (fun v h1 hq2 => ?_)
  obtain ⟨rfl, rfl⟩ := hq2
  refine o_astore_n (pc := 19) (lv' := [(1, _), (0, _)]) dX11_copy_19 rfl (by decide) rfl ?_
  refine o_aload_n (pc := 20) dX11_copy_20 0 rfl ?_
  refine o_aload_n (pc := 21) dX11_copy_21 1 rfl ?_
  refine o_gI (pc := 22) (j := 3) dX11_copy_22 flX11_22 rfl rfl (nw_old hm) rfl ?_
  refine o_topI (y := h.2.1 52 e 3) (by simp only [hset_e hne, nw_e hne]; rfl) ?_
  refine o_pI (pc := 25) (j := 3) dX11_copy_25 fwX11_22 rfl rfl nw_in ?_
  refine o_aload_n (pc := 28) dX11_copy_28 0 rfl ?_
  refine o_aload_n (pc := 29) dX11_copy_29 1 rfl ?_
  refine o_gI (pc := 30) (j := 4) dX11_copy_30 flX11_25 rfl rfl (nw_old hm) rfl ?_
  refine o_topI (y := h.2.1 52 e 4) (by simp only [hset_e hne, nw_e hne]; rfl) ?_
  refine o_pI (pc := 33) (j := 4) dX11_copy_33 fwX11_25 rfl rfl nw_in ?_
  refine o_aload_n (pc := 36) dX11_copy_36 0 rfl ?_
  refine o_aload_n (pc := 37) dX11_copy_37 1 rfl ?_
  refine o_gI (pc := 38) (j := 5) dX11_copy_38 flX11_28 rfl rfl (nw_old hm) rfl ?_
  refine o_topI (y := h.2.1 52 e 5) (by simp only [hset_e hne, nw_e hne]; rfl) ?_
  refine o_pI (pc := 41) (j := 5) dX11_copy_41 fwX11_28 rfl rfl nw_in ?_
  refine o_aload_n (pc := 44) dX11_copy_44 0 rfl ?_
  refine o_aload_n (pc := 45) dX11_copy_45 1 rfl ?_
  refine o_gI (pc := 46) (j := 6) dX11_copy_46 flX11_31 rfl rfl (nw_old hm) rfl ?_
  refine o_topI (y := h.2.1 52 e 6) (by simp only [hset_e hne, nw_e hne]; rfl) ?_
  refine o_pI (pc := 49) (j := 6) dX11_copy_49 fwX11_31 rfl rfl nw_in ?_
  refine o_aload_n (pc := 52) dX11_copy_52 0 rfl ?_
  refine o_aret (pc := 53) dX11_copy_53 rfl (.inl ⟨_, rfl⟩) (.inr ⟨_, rfl⟩) (Nat.le_of_ble_eq_true rfl) (Nat.le_of_ble_eq_true rfl) ?_
  refine ⟨q, rfl, fq, nw_in, (Fr_hset (Fr_hset (Fr_hset (Fr_hset (Fr_hset (Fr_hset (Fr_hset (Fr_nw (Fr.rf hn) (by decide) fq) (by decide) (.inr fq)) (by decide) (.inr fq)) (by decide) (.inr fq)) (by decide) (.inr fq)) (by decide) (.inr fq)) (by decide) (.inr fq)) (by decide) (.inr fq)), fun f hf => ?_⟩
  match f, hf with
  | 0, _ => simp only [hset_q]; rfl
  | 1, _ => simp only [hset_q]; rfl
  | 2, _ => simp only [hset_q]; rfl
  | 3, _ => simp only [hset_q]; rfl
  | 4, _ => simp only [hset_q]; rfl
  | 5, _ => simp only [hset_q]; rfl
  | 6, _ => simp only [hset_q]; rfl
  | n + 7, hf => exact absurd hf (by omega)
theorem cw_ini53 {G : GG} {h : Hp} {q : Nat} (hm : (53, q) ∈ h.1) {z0 z1 z2 z3 : Int} : Cy G MX8_init (rmL 0 0 0) [rf G 53 q, .int (iI z0), .int (iI z1), .int (iI z2), .int (iI z3)] h (fun v h1 => v = none ∧ h1 = hset (hset (hset (hset (h) 53 q 0 z0) 53 q 1 z1) 53 q 2 z2) 53 q 3 z3) := by
  refine o_entry (by decide +kernel) mwX8_init rfl (Nat.le_of_ble_eq_true rfl) ?_
  show YY G MX8_init (rmL 0 0 0) 0 [(0, rf G 53 q), (1, .int (iI z0)), (2, .int (iI z1)), (3, .int (iI z2)), (4, .int (iI z3))] [] h 0 0 _
  refine o_aload_n (pc := 0) dX8_init_0 0 rfl ?_
  refine o_obj (pc := 1) dX8_init_1 obX8_1 ob_i ob_c (Nat.le_of_ble_eq_true rfl) ⟨(Nat.le_of_ble_eq_true rfl), (Nat.le_of_ble_eq_true rfl)⟩ ?_
  refine o_aload_n (pc := 4) dX8_init_4 0 rfl ?_
  refine o_iload_n (pc := 5) dX8_init_5 1 rfl ?_
  refine o_pFI (pc := 6) (j := 0) dX8_init_6 fxX8_7 rfl (fun q hq => by cases hq; rfl) rfl rfl hm ?_
  refine o_aload_n (pc := 9) dX8_init_9 0 rfl ?_
  refine o_iload_n (pc := 10) dX8_init_10 2 rfl ?_
  refine o_pFI (pc := 11) (j := 1) dX8_init_11 fxX8_13 rfl (fun q hq => by cases hq; rfl) rfl rfl hm ?_
  refine o_aload_n (pc := 14) dX8_init_14 0 rfl ?_
  refine o_iload_n (pc := 15) dX8_init_15 3 rfl ?_
  refine o_pI (pc := 16) (j := 2) dX8_init_16 fwX8_16 rfl rfl hm ?_
  refine o_aload_n (pc := 19) dX8_init_19 0 rfl ?_
  refine o_iload (pc := 20) dX8_init_20 4 rfl ?_
  refine o_pI (pc := 22) (j := 3) dX8_init_22 fwX8_19 rfl rfl hm ?_
  exact o_vret (pc := 25) dX8_init_25 rfl (Nat.le_of_ble_eq_true rfl) (Nat.le_of_ble_eq_true rfl) ⟨rfl, rfl⟩
theorem cw_cp53 {G : GG} {h : Hp} {e : Nat} (hm : (53, e) ∈ h.1) (hn : ∃ n, h.2.2.2 = some n) : Cy G MX8_copy (rmL 1 1 6) [rf G 53 e] h (fun v h1 => ∃ q, v = some (rf G 53 q) ∧ fre h q ∧ (53, q) ∈ h1.1 ∧ Fr (fun _ => False) h h1 ∧ ∀ f : Nat, f < 6 → h1.2.1 53 q (f : Int) = h.2.1 53 e (f : Int)) := by
  refine o_entry (by decide +kernel) mwX8_copy rfl (Nat.le_of_ble_eq_true rfl) ?_
  show YY G MX8_copy (rmL 1 1 6) 0 [(0, rf G 53 e)] [] h 0 0 _
  refine o_sizeD (fun q hq => ?_) hn
  refine o_new (pc := 0) (k := 53) dX8_copy_0 ncX8_8 rfl (by decide) hq (Nat.le_of_ble_eq_true rfl) (Nat.le_of_ble_eq_true rfl) (fun fq => ?_)
  have hne : ¬ e = q := fun z => fq 53 (by decide) (by rw [← z]; exact hm)
  refine o_dup (pc := 3) dX8_copy_3 rfl ?_
  refine o_aload_n (pc := 4) dX8_copy_4 0 rfl ?_
  refine o_gI (pc := 5) (j := 0) dX8_copy_5 flX8_7 rfl rfl (nw_old hm) rfl ?_
  refine o_topI (y := h.2.1 53 e 0) (by simp only [hset_e hne, nw_e hne]; rfl) ?_
  refine o_aload_n (pc := 8) dX8_copy_8 0 rfl ?_
  refine o_gI (pc := 9) (j := 1) dX8_copy_9 flX8_13 rfl rfl (nw_old hm) rfl ?_
  refine o_topI (y := h.2.1 53 e 1) (by simp only [hset_e hne, nw_e hne]; rfl) ?_
  refine o_aload_n (pc := 12) dX8_copy_12 0 rfl ?_
  refine o_gI (pc := 13) (j := 2) dX8_copy_13 flX8_16 rfl rfl (nw_old hm) rfl ?_
  refine o_topI (y := h.2.1 53 e 2) (by simp only [hset_e hne, nw_e hne]; rfl) ?_
  refine o_aload_n (pc := 16) dX8_copy_16 0 rfl ?_
  refine o_gI (pc := 17) (j := 3) dX8_copy_17 flX8_19 rfl rfl (nw_old hm) rfl ?_
  refine o_topI (y := h.2.1 53 e 3) (by simp only [hset_e hne, nw_e hne]; rfl) ?_
  refine o_callI (pc := 20) _ dX8_copy_20 (cw_ini53 nw_in) lkX8_22 rfl rfl ⟨⟨(Nat.le_of_ble_eq_true rfl), (Nat.le_of_ble_eq_true rfl)⟩, (Nat.le_of_ble_eq_true rfl), (Nat.le_of_ble_eq_true rfl)⟩ (Nat.le_of_ble_eq_true rfl) rfl (fun v h1 hq2 => ?_)
  obtain ⟨rfl, rfl⟩ := hq2
  refine o_astore_n (pc := 23) (lv' := [(1, _), (0, _)]) dX8_copy_23 rfl (by decide) rfl ?_
  refine o_aload_n (pc := 24) dX8_copy_24 0 rfl ?_
  refine o_aload_n (pc := 25) dX8_copy_25 1 rfl ?_
  refine o_gI (pc := 26) (j := 4) dX8_copy_26 flX8_25 rfl rfl (nw_old hm) rfl ?_
  refine o_topI (y := h.2.1 53 e 4) (by simp only [hset_e hne, nw_e hne]; rfl) ?_
  refine o_pI (pc := 29) (j := 4) dX8_copy_29 fwX8_25 rfl rfl nw_in ?_
  refine o_aload_n (pc := 32) dX8_copy_32 0 rfl ?_
  refine o_aload_n (pc := 33) dX8_copy_33 1 rfl ?_
  refine o_gI (pc := 34) (j := 5) dX8_copy_34 flX8_28 rfl rfl (nw_old hm) rfl ?_
  refine o_topI (y := h.2.1 53 e 5) (by simp only [hset_e hne, nw_e hne]; rfl) ?_
  refine o_pI (pc := 37) (j := 5) dX8_copy_37 fwX8_28 rfl rfl nw_in ?_
  refine o_aload_n (pc := 40) dX8_copy_40 0 rfl ?_
  refine o_aret (pc := 41) dX8_copy_41 rfl (.inl ⟨_, rfl⟩) (.inr ⟨_, rfl⟩) (Nat.le_of_ble_eq_true rfl) (Nat.le_of_ble_eq_true rfl) ?_
  refine ⟨q, rfl, fq, nw_in, (Fr_hset (Fr_hset (Fr_hset (Fr_hset (Fr_hset (Fr_hset (Fr_nw (Fr.rf hn) (by decide) fq) (by decide) (.inr fq)) (by decide) (.inr fq)) (by decide) (.inr fq)) (by decide) (.inr fq)) (by decide) (.inr fq)) (by decide) (.inr fq)), fun f hf => ?_⟩
  match f, hf with
  | 0, _ => simp only [hset_q]; rfl
  | 1, _ => simp only [hset_q]; rfl
  | 2, _ => simp only [hset_q]; rfl
  | 3, _ => simp only [hset_q]; rfl
  | 4, _ => simp only [hset_q]; rfl
  | 5, _ => simp only [hset_q]; rfl
  | n + 6, hf => exact absurd hf (by omega)
theorem cw_ini54 {G : GG} {h : Hp} {q : Nat} (hm : (54, q) ∈ h.1) {z0 z1 z2 z3 z4 : Int} : Cy G MX9_init (rmL 0 0 0) [rf G 54 q, .int (iI z0), .int (iI z1), .int (iI z2), .int (iI z3), .int (iI z4)] h (fun v h1 => v = none ∧ h1 = hset (hset (hset (hset (hset (h) 54 q 0 z0) 54 q 1 z1) 54 q 2 z2) 54 q 3 z3) 54 q 4 z4) := by
  refine o_entry (by decide +kernel) mwX9_init rfl (Nat.le_of_ble_eq_true rfl) ?_
  show YY G MX9_init (rmL 0 0 0) 0 [(0, rf G 54 q), (1, .int (iI z0)), (2, .int (iI z1)), (3, .int (iI z2)), (4, .int (iI z3)), (5, .int (iI z4))] [] h 0 0 _
  refine o_aload_n (pc := 0) dX9_init_0 0 rfl ?_
  refine o_obj (pc := 1) dX9_init_1 obX9_1 ob_i ob_c (Nat.le_of_ble_eq_true rfl) ⟨(Nat.le_of_ble_eq_true rfl), (Nat.le_of_ble_eq_true rfl)⟩ ?_
  refine o_aload_n (pc := 4) dX9_init_4 0 rfl ?_
  refine o_iload_n (pc := 5) dX9_init_5 1 rfl ?_
  refine o_pFI (pc := 6) (j := 0) dX9_init_6 fxX9_7 rfl (fun q hq => by cases hq; rfl) rfl rfl hm ?_
  refine o_aload_n (pc := 9) dX9_init_9 0 rfl ?_
  refine o_iload_n (pc := 10) dX9_init_10 2 rfl ?_
  refine o_pFI (pc := 11) (j := 1) dX9_init_11 fxX9_13 rfl (fun q hq => by cases hq; rfl) rfl rfl hm ?_
  refine o_aload_n (pc := 14) dX9_init_14 0 rfl ?_
  refine o_iload_n (pc := 15) dX9_init_15 3 rfl ?_
  refine o_pFI (pc := 16) (j := 2) dX9_init_16 fxX9_16 rfl (fun q hq => by cases hq; rfl) rfl rfl hm ?_
  refine o_aload_n (pc := 19) dX9_init_19 0 rfl ?_
  refine o_iload (pc := 20) dX9_init_20 4 rfl ?_
  refine o_pFI (pc := 22) (j := 3) dX9_init_22 fxX9_19 rfl (fun q hq => by cases hq; rfl) rfl rfl hm ?_
  refine o_aload_n (pc := 25) dX9_init_25 0 rfl ?_
  refine o_iload (pc := 26) dX9_init_26 5 rfl ?_
  refine o_pFI (pc := 28) (j := 4) dX9_init_28 fxX9_22 rfl (fun q hq => by cases hq; rfl) rfl rfl hm ?_
  exact o_vret (pc := 31) dX9_init_31 rfl (Nat.le_of_ble_eq_true rfl) (Nat.le_of_ble_eq_true rfl) ⟨rfl, rfl⟩
theorem cw_cp54 {G : GG} {h : Hp} {e : Nat} (hm : (54, e) ∈ h.1) (hn : ∃ n, h.2.2.2 = some n) (hb : h.2.1 54 e 5 = 0 ∨ h.2.1 54 e 5 = 1) : Cy G MX9_copy (rmL 1 1 6) [rf G 54 e] h (fun v h1 => ∃ q, v = some (rf G 54 q) ∧ fre h q ∧ (54, q) ∈ h1.1 ∧ Fr (fun _ => False) h h1 ∧ ∀ f : Nat, f < 6 → h1.2.1 54 q (f : Int) = h.2.1 54 e (f : Int)) := by
  refine o_entry (by decide +kernel) mwX9_copy rfl (Nat.le_of_ble_eq_true rfl) ?_
  show YY G MX9_copy (rmL 1 1 6) 0 [(0, rf G 54 e)] [] h 0 0 _
  refine o_sizeD (fun q hq => ?_) hn
  refine o_new (pc := 0) (k := 54) dX9_copy_0 ncX9_8 rfl (by decide) hq (Nat.le_of_ble_eq_true rfl) (Nat.le_of_ble_eq_true rfl) (fun fq => ?_)
  have hne : ¬ e = q := fun z => fq 54 (by decide) (by rw [← z]; exact hm)
  refine o_dup (pc := 3) dX9_copy_3 rfl ?_
  refine o_aload_n (pc := 4) dX9_copy_4 0 rfl ?_
  refine o_gI (pc := 5) (j := 0) dX9_copy_5 flX9_7 rfl rfl (nw_old hm) rfl ?_
  refine o_topI (y := h.2.1 54 e 0) (by simp only [hset_e hne, nw_e hne]; rfl) ?_
  refine o_aload_n (pc := 8) dX9_copy_8 0 rfl ?_
  refine o_gI (pc := 9) (j := 1) dX9_copy_9 flX9_13 rfl rfl (nw_old hm) rfl ?_
  refine o_topI (y := h.2.1 54 e 1) (by simp only [hset_e hne, nw_e hne]; rfl) ?_
  refine o_aload_n (pc := 12) dX9_copy_12 0 rfl ?_
  refine o_gI (pc := 13) (j := 2) dX9_copy_13 flX9_16 rfl rfl (nw_old hm) rfl ?_
  refine o_topI (y := h.2.1 54 e 2) (by simp only [hset_e hne, nw_e hne]; rfl) ?_
  refine o_aload_n (pc := 16) dX9_copy_16 0 rfl ?_
  refine o_gI (pc := 17) (j := 3) dX9_copy_17 flX9_19 rfl rfl (nw_old hm) rfl ?_
  refine o_topI (y := h.2.1 54 e 3) (by simp only [hset_e hne, nw_e hne]; rfl) ?_
  refine o_aload_n (pc := 20) dX9_copy_20 0 rfl ?_
  refine o_gI (pc := 21) (j := 4) dX9_copy_21 flX9_22 rfl rfl (nw_old hm) rfl ?_
  refine o_topI (y := h.2.1 54 e 4) (by simp only [hset_e hne, nw_e hne]; rfl) ?_
  refine o_callI (pc := 24) _ dX9_copy_24 (cw_ini54 nw_in) lkX9_25 rfl rfl ⟨⟨(Nat.le_of_ble_eq_true rfl), (Nat.le_of_ble_eq_true rfl)⟩, (Nat.le_of_ble_eq_true rfl), (Nat.le_of_ble_eq_true rfl)⟩ (Nat.le_of_ble_eq_true rfl) rfl (fun v h1 hq2 => ?_)
  obtain ⟨rfl, rfl⟩ := hq2
  refine o_astore_n (pc := 27) (lv' := [(1, _), (0, _)]) dX9_copy_27 rfl (by decide) rfl ?_
  refine o_aload_n (pc := 28) dX9_copy_28 0 rfl ?_
  refine o_aload_n (pc := 29) dX9_copy_29 1 rfl ?_
  refine o_gI (pc := 30) (j := 5) dX9_copy_30 flX9_28 rfl rfl (nw_old hm) rfl ?_
  refine o_topI (y := h.2.1 54 e 5) (by simp only [hset_e hne, nw_e hne]; rfl) ?_
  refine o_pZ (pc := 33) (j := 5) dX9_copy_33 fwX9_28 rfl rfl nw_in hb ?_
  refine o_aload_n (pc := 36) dX9_copy_36 0 rfl ?_
  refine o_aret (pc := 37) dX9_copy_37 rfl (.inl ⟨_, rfl⟩) (.inr ⟨_, rfl⟩) (Nat.le_of_ble_eq_true rfl) (Nat.le_of_ble_eq_true rfl) ?_
  refine ⟨q, rfl, fq, nw_in, (Fr_hset (Fr_hset (Fr_hset (Fr_hset (Fr_hset (Fr_hset (Fr_nw (Fr.rf hn) (by decide) fq) (by decide) (.inr fq)) (by decide) (.inr fq)) (by decide) (.inr fq)) (by decide) (.inr fq)) (by decide) (.inr fq)) (by decide) (.inr fq)), fun f hf => ?_⟩
  match f, hf with
  | 0, _ => simp only [hset_q]; rfl
  | 1, _ => simp only [hset_q]; rfl
  | 2, _ => simp only [hset_q]; rfl
  | 3, _ => simp only [hset_q]; rfl
  | 4, _ => simp only [hset_q]; rfl
  | 5, _ => simp only [hset_q]; rfl
  | n + 6, hf => exact absurd hf (by omega)
theorem cw_ini55 {G : GG} {h : Hp} {q : Nat} (hm : (55, q) ∈ h.1) {z0 z1 z6 : Int} : Cy G MX10_init (rmL 0 0 0) [rf G 55 q, .int (iI z0), .int (iI z1), .int (iI z6)] h (fun v h1 => v = none ∧ h1 = hset (hset (hset (h) 55 q 0 z0) 55 q 1 z1) 55 q 6 z6) := by
  refine o_entry (by decide +kernel) mwX10_init rfl (Nat.le_of_ble_eq_true rfl) ?_
  show YY G MX10_init (rmL 0 0 0) 0 [(0, rf G 55 q), (1, .int (iI z0)), (2, .int (iI z1)), (3, .int (iI z6))] [] h 0 0 _
  refine o_aload_n (pc := 0) dX10_init_0 0 rfl ?_
  refine o_obj (pc := 1) dX10_init_1 obX10_1 ob_i ob_c (Nat.le_of_ble_eq_true rfl) ⟨(Nat.le_of_ble_eq_true rfl), (Nat.le_of_ble_eq_true rfl)⟩ ?_
  refine o_aload_n (pc := 4) dX10_init_4 0 rfl ?_
  refine o_iload_n (pc := 5) dX10_init_5 1 rfl ?_
  refine o_pFI (pc := 6) (j := 0) dX10_init_6 fxX10_7 rfl (fun q hq => by cases hq; rfl) rfl rfl hm ?_
  refine o_aload_n (pc := 9) dX10_init_9 0 rfl ?_
  refine o_iload_n (pc := 10) dX10_init_10 2 rfl ?_
  refine o_pFI (pc := 11) (j := 1) dX10_init_11 fxX10_13 rfl (fun q hq => by cases hq; rfl) rfl rfl hm ?_
  refine o_aload_n (pc := 14) dX10_init_14 0 rfl ?_
  refine o_iload_n (pc := 15) dX10_init_15 3 rfl ?_
  refine o_pI (pc := 16) (j := 6) dX10_init_16 fwX10_16 rfl rfl hm ?_
  exact o_vret (pc := 19) dX10_init_19 rfl (Nat.le_of_ble_eq_true rfl) (Nat.le_of_ble_eq_true rfl) ⟨rfl, rfl⟩
theorem cw_cp55 {G : GG} {h : Hp} {e : Nat} (hm : (55, e) ∈ h.1) (hn : ∃ n, h.2.2.2 = some n) : Cy G MX10_copy (rmL 1 1 7) [rf G 55 e] h (fun v h1 => ∃ q, v = some (rf G 55 q) ∧ fre h q ∧ (55, q) ∈ h1.1 ∧ Fr (fun _ => False) h h1 ∧ ∀ f : Nat, f < 7 → h1.2.1 55 q (f : Int) = h.2.1 55 e (f : Int)) := by
  refine o_entry (by decide +kernel) mwX10_copy rfl (Nat.le_of_ble_eq_true rfl) ?_
  show YY G MX10_copy (rmL 1 1 7) 0 [(0, rf G 55 e)] [] h 0 0 _
  refine o_sizeD (fun q hq => ?_) hn
  refine o_new (pc := 0) (k := 55) dX10_copy_0 ncX10_8 rfl (by decide) hq (Nat.le_of_ble_eq_true rfl) (Nat.le_of_ble_eq_true rfl) (fun fq => ?_)
  have hne : ¬ e = q := fun z => fq 55 (by decide) (by rw [← z]; exact hm)
  refine o_dup (pc := 3) dX10_copy_3 rfl ?_
  refine o_aload_n (pc := 4) dX10_copy_4 0 rfl ?_
  refine o_gI (pc := 5) (j := 0) dX10_copy_5 flX10_7 rfl rfl (nw_old hm) rfl ?_
  refine o_topI (y := h.2.1 55 e 0) (by simp only [hset_e hne, nw_e hne]; rfl) ?_
  refine o_aload_n (pc := 8) dX10_copy_8 0 rfl ?_
  refine o_gI (pc := 9) (j := 1) dX10_copy_9 flX10_13 rfl rfl (nw_old hm) rfl ?_
  refine o_topI (y := h.2.1 55 e 1) (by simp only [hset_e hne, nw_e hne]; rfl) ?_
  refine o_aload_n (pc := 12) dX10_copy_12 0 rfl ?_
  refine o_gI (pc := 13) (j := 6) dX10_copy_13 flX10_16 rfl rfl (nw_old hm) rfl ?_
  refine o_topI (y := h.2.1 55 e 6) (by simp only [hset_e hne, nw_e hne]; rfl) ?_
  refine o_callI (pc := 16) _ dX10_copy_16 (cw_ini55 nw_in) lkX10_19 rfl rfl ⟨⟨(Nat.le_of_ble_eq_true rfl), (Nat.le_of_ble_eq_true rfl)⟩, (Nat.le_of_ble_eq_true rfl), (Nat.le_of_ble_eq_true rfl)⟩ (Nat.le_of_ble_eq_true rfl) rfl (fun v h1 hq2 => ?_)
  obtain ⟨rfl, rfl⟩ := hq2
  refine o_astore_n (pc := 19) (lv' := [(1, _), (0, _)]) dX10_copy_19 rfl (by decide) rfl ?_
  refine o_aload_n (pc := 20) dX10_copy_20 0 rfl ?_
  refine o_aload_n (pc := 21) dX10_copy_21 1 rfl ?_
  refine o_gI (pc := 22) (j := 2) dX10_copy_22 flX10_22 rfl rfl (nw_old hm) rfl ?_
  refine o_topI (y := h.2.1 55 e 2) (by simp only [hset_e hne, nw_e hne]; rfl) ?_
  refine o_pI (pc := 25) (j := 2) dX10_copy_25 fwX10_22 rfl rfl nw_in ?_
  refine o_aload_n (pc := 28) dX10_copy_28 0 rfl ?_
  refine o_aload_n (pc := 29) dX10_copy_29 1 rfl ?_
  refine o_gI (pc := 30) (j := 3) dX10_copy_30 flX10_25 rfl rfl (nw_old hm) rfl ?_
  refine o_topI (y := h.2.1 55 e 3) (by simp only [hset_e hne, nw_e hne]; rfl) ?_
  refine o_pI (pc := 33) (j := 3) dX10_copy_33 fwX10_25 rfl rfl nw_in ?_
  refine o_aload_n (pc := 36) dX10_copy_36 0 rfl ?_
  refine o_aload_n (pc := 37) dX10_copy_37 1 rfl ?_
  refine o_gI (pc := 38) (j := 4) dX10_copy_38 flX10_28 rfl rfl (nw_old hm) rfl ?_
  refine o_topI (y := h.2.1 55 e 4) (by simp only [hset_e hne, nw_e hne]; rfl) ?_
  refine o_pI (pc := 41) (j := 4) dX10_copy_41 fwX10_28 rfl rfl nw_in ?_
  refine o_aload_n (pc := 44) dX10_copy_44 0 rfl ?_
  refine o_aload_n (pc := 45) dX10_copy_45 1 rfl ?_
  refine o_gI (pc := 46) (j := 5) dX10_copy_46 flX10_31 rfl rfl (nw_old hm) rfl ?_
  refine o_topI (y := h.2.1 55 e 5) (by simp only [hset_e hne, nw_e hne]; rfl) ?_
  refine o_pI (pc := 49) (j := 5) dX10_copy_49 fwX10_31 rfl rfl nw_in ?_
  refine o_aload_n (pc := 52) dX10_copy_52 0 rfl ?_
  refine o_aret (pc := 53) dX10_copy_53 rfl (.inl ⟨_, rfl⟩) (.inr ⟨_, rfl⟩) (Nat.le_of_ble_eq_true rfl) (Nat.le_of_ble_eq_true rfl) ?_
  refine ⟨q, rfl, fq, nw_in, (Fr_hset (Fr_hset (Fr_hset (Fr_hset (Fr_hset (Fr_hset (Fr_hset (Fr_nw (Fr.rf hn) (by decide) fq) (by decide) (.inr fq)) (by decide) (.inr fq)) (by decide) (.inr fq)) (by decide) (.inr fq)) (by decide) (.inr fq)) (by decide) (.inr fq)) (by decide) (.inr fq)), fun f hf => ?_⟩
  match f, hf with
  | 0, _ => simp only [hset_q]; rfl
  | 1, _ => simp only [hset_q]; rfl
  | 2, _ => simp only [hset_q]; rfl
  | 3, _ => simp only [hset_q]; rfl
  | 4, _ => simp only [hset_q]; rfl
  | 5, _ => simp only [hset_q]; rfl
  | 6, _ => simp only [hset_q]; rfl
  | n + 7, hf => exact absurd hf (by omega)
