/-! serve -/
theorem lI_rem {a b : Int} (ha : inL a) (hb : inL b) (h0 : 0 ≤ a) (h1 : 0 < b) : lI a - lI a / lI b * lI b = lI (a % b) := by
  rw [lI_div ha hb h0 h1, lI_mul, lI_sub]
  congr 1
  rw [Int.emod_def, Int.mul_comm]
theorem o_lrem {G : GG} {M : Mth} {R : Room} {pc : Nat} {lv : List (Nat × Value)} {st : List Value} {h : Hp} {c0 s0 : Nat} {Q : PP} {a b : Int} (d : decode M.2.1 pc = .ok (.lrem, 1)) (ha : 0 ≤ a ∧ a < 9223372036854775808) (hb : 0 < b ∧ b < 9223372036854775808) (k : YY G M R (pc + 1) lv (.long (lI (a % b)) :: st) h c0 s0 Q) : YY G M R pc lv (.long (lI b) :: .long (lI a) :: st) h c0 s0 Q := by
  intro p l e s m args below meth c H locs ls hC hR hS hl
  refine lv_lrem hC.1 hC.2.1 d (lI_ne0 ⟨by omega, by omega⟩ (by omega)) ?_
  rw [lI_rem ⟨by omega, by omega⟩ ⟨by omega, by omega⟩ ha.1 hb.1]
  exact k p l e s m args below meth c H locs ls hC hR hS hl
def G8 (N : Int → Int) : Prop := ∃ (m : Mem) (p s : Nat), BP m p ∧ BS m p s ∧ SN m p s ∧ RP m p N ∧ RS m p s N ∧ R8 m p s N
theorem G8.gn {N : Int → Int} (h : G8 N) : GN N := by
  obtain ⟨m, p, s, a, b, c, d, e, f⟩ := h
  exact ⟨m, p, s, a, b, d, e⟩
theorem G8.lnA {N : Int → Int} (h : G8 N) {l : Int} (h0 : 0 ≤ l) (h1 : l < N 9) : G8 (lnA' N l) := by
  obtain ⟨m, p, s, a, b, c, d, e, f⟩ := h
  have h1' : l < m 2 s 0 := by rw [← e.1.2.2.2.2.2.2]; exact h1
  have x := lnA_f a b c h0 h1'
  have y := R_lnA a b d e f h0 h1'
  exact ⟨_, p, s, x.1, x.2.1, x.2.2, y.1, y.2.1, y.2.2⟩
theorem G8.ln1 {N : Int → Int} (h : G8 N) {l : Int} (h0 : 0 ≤ l) (h1 : l < N 9) : G8 (lnN N l) := by
  obtain ⟨m, p, s, a, b, c, d, e, f⟩ := h
  have h1' : l < m 2 s 0 := by rw [← e.1.2.2.2.2.2.2]; exact h1
  have x := ln_f a b c h0 h1'
  have y := R_ln a b c d e f h0 h1'
  exact ⟨_, p, s, x.1, x.2.1, x.2.2, y.1, y.2.1, y.2.2⟩
/-- what a loan's row says -/
theorem G8.loan {N : Int → Int} (h : G8 N) {l : Int} (h0 : 0 ≤ l) (h1 : l < N 9) : ∃ k x y c : Nat, N (318 + 7 * l + 0) = k ∧ N (270 + 6 * (k : Int) + 0) = x ∧ N (270 + 6 * (k : Int) + 1) = y ∧ betN N x y = c ∧ (k : Int) < N 8 ∧ (x : Int) < N 3 ∧ (y : Int) < N 3 ∧ (c : Int) < N 5 := by
  obtain ⟨m, p, s, a, b, c, d, e, f⟩ := h
  have h1' : l < m 2 s 0 := by rw [← e.1.2.2.2.2.2.2]; exact h1
  have hb := b.2.2.2.2.1.2 l h0 h1'
  have hc := BP_c a hb.1.1 hb.1.2
  have rc := R_cb a b d e h0 h1'
  have c0 : 0 ≤ cbC m p s l ∧ cbC m p s l < m 22 p 5 := ⟨hc.2.2.2.2.2.2.1, hc.2.2.2.2.2.2.2⟩
  have hb1 := hb.1
  have hc1 := hc.1
  have hc2 := hc.2.1
  have e4 := rc.2.2.2.2
  unfold cbN at e4
  rw [rc.1, rc.2.1, rc.2.2.1] at e4
  refine ⟨(m 15 s l).toNat, (m 28 p (m 15 s l)).toNat, (m 29 p (m 15 s l)).toNat, (cbC m p s l).toNat, ?_, ?_, ?_, ?_, ?_, ?_, ?_, ?_⟩
  · rw [rc.1, Int.toNat_of_nonneg hb1.1]
  · rw [Int.toNat_of_nonneg hb1.1, rc.2.1, Int.toNat_of_nonneg hc1.1]
  · rw [Int.toNat_of_nonneg hb1.1, rc.2.2.1, Int.toNat_of_nonneg hc2.1]
  · rw [Int.toNat_of_nonneg hc1.1, Int.toNat_of_nonneg hc2.1, e4, Int.toNat_of_nonneg c0.1]
  · rw [Int.toNat_of_nonneg hb1.1, d.1.2.2.2.2.2.2]; exact hb1.2
  · rw [Int.toNat_of_nonneg hc1.1, d.1.2.2.1]; exact hc1.2
  · rw [Int.toNat_of_nonneg hc2.1, d.1.2.2.1]; exact hc2.2
  · rw [Int.toNat_of_nonneg c0.1, d.1.2.2.2.2.2.1]; exact c0.2
theorem G8.cab {N : Int → Int} (h : G8 N) {c : Int} (h0 : 0 ≤ c) (h1 : c < N 5) : (0 ≤ N (86 + 6 * c + 2) ∧ N (86 + 6 * c + 2) ≤ 900) ∧ (1 ≤ N (86 + 6 * c + 3) ∧ N (86 + 6 * c + 3) ≤ 10000) ∧ (0 ≤ N (86 + 6 * c + 4) ∧ N (86 + 6 * c + 4) ≤ N (86 + 6 * c + 3)) := by
  obtain ⟨m, p, s, a, b, s9, d, e, f⟩ := h
  have h1' : c < m 22 p 5 := by rw [← d.1.2.2.2.2.2.1]; exact h1
  have g := e.2.2.2.1 c h0 h1'
  have k := b.2.2.1 c h0 h1'
  rw [g.1, g.2.1, f c h0 h1']
  exact ⟨k.1, k.2.1, k.2.2.1, s9 c h0 h1'⟩
theorem GN.res {N : Int → Int} (h : GN N) {q : Int} (h0 : 0 ≤ q) (h1 : q < N 3) : 0 ≤ N (30 + 7 * q + 4) ∧ N (30 + 7 * q + 4) ≤ 100000 := by
  obtain ⟨m, p, s, a, b, c, d⟩ := h
  have h1' : q < m 22 p 2 := by rw [← c.1.2.2.1]; exact h1
  rw [(d.2.1 q h0 h1').2.2]
  exact (b.2.1 q h0 h1').2.2
theorem GN.loan {N : Int → Int} (h : GN N) {l : Int} (h0 : 0 ≤ l) (h1 : l < N 9) : (1 ≤ N (318 + 7 * l + 1)) ∧ (0 ≤ N (318 + 7 * l + 6) ∧ N (318 + 7 * l + 6) ≤ 11000) ∧ (0 ≤ N (318 + 7 * l + 4) ∧ N (318 + 7 * l + 4) ≤ 100110000) := by
  have hl := h.ln h0 h1
  obtain ⟨m, p, s, a, b, c, d⟩ := h
  have h1' : l < m 2 s 0 := by rw [← d.1.2.2.2.2.2.2]; exact h1
  have g := d.2.2.2.2.2.2 l h0 h1'
  have k := b.2.2.2.2.1.2 l h0 h1'
  have i := R_int c (m 18 s l)
  have ib := intN_b (N := N) k.2.2.2.1 hl.2.2.2.2.2.2
  rw [i] at ib
  have k1 := k.2.1
  have k2 := k.2.2.1
  have k3 := k.2.2.2.1
  have k4 := k.2.2.2.2.1
  have k5 := k.2.2.2.2.2.2
  rw [g.2.1, g.2.2.2.2.1, g.2.2.2.2.2.2]
  omega
theorem GN.con {N : Int → Int} (h : GN N) {k : Int} (h0 : 0 ≤ k) (h1 : k < N 8) : (0 ≤ N (270 + 6 * k + 4) ∧ N (270 + 6 * k + 4) ≤ 99) ∧ (0 ≤ N (270 + 6 * k + 3) ∧ N (270 + 6 * k + 3) ≤ 99) := by
  obtain ⟨m, p, s, a, b, c, d⟩ := h
  have h1' : k < m 22 p 6 := by rw [← c.1.2.2.2.2.2.2]; exact h1
  have g := c.2.2.2.2.2.1 k h0 h1'
  have e := BP_c a h0 h1'
  rw [g.2.2.2.2, g.2.2.2.1]
  exact ⟨e.2.2.2.2.1, e.2.2.2.1⟩
theorem G8.sd {N : Int → Int} (h : G8 N) {c a b x : Int} (c0 : 0 ≤ c) (c1 : c < N 5) (a0 : 0 ≤ a) (a1 : a < N 3) (b0 : 0 ≤ b) (b1 : b < N 3) (hx : 0 ≤ x ∧ x ≤ N (30 + 7 * a + 1)) (hx2 : x ≤ N (86 + 6 * c + 3) - N (86 + 6 * c + 4)) :
    PN (carryN (giveN N a x) c x (x * N (86 + 6 * c + 2) / 1000)) b ∧ carryN (giveN N a x) c x (x * N (86 + 6 * c + 2) / 1000) (30 + 7 * b + 1) + (x - x * N (86 + 6 * c + 2) / 1000) ≤ 1000000 := by
  obtain ⟨m, p, s, a', b', s9, d, e, f⟩ := h
  have k3 := d.1.2.2.1
  have k5 := d.1.2.2.2.2.2.1
  have c1' : c < m 22 p 5 := by rw [← k5]; exact c1
  have a1' : a < m 22 p 2 := by rw [← k3]; exact a1
  have b1' : b < m 22 p 2 := by rw [← k3]; exact b1
  have g := e.2.2.2.1 c c0 c1'
  exact sends_PN a' b' d e f c0 c1' a0 a1' b0 b1' (by rw [← (e.2.1 a a0 a1').1]; exact hx) (by rw [← g.2.1, ← f c c0 c1']; exact hx2)
theorem upN_cm {N : Int → Int} {i j v z : Int} (h : i ≠ j) : upN (upN N i v) j z = upN (upN N j z) i v := by
  funext k
  rw [upN_ap, upN_ap, upN_ap, upN_ap]
  by_cases e : k = j
  · rw [if_pos e, if_neg (by omega), if_pos e]
  · rw [if_neg e, if_neg e]
section UP
variable {N : Int → Int} {q i v x : Int}
theorem roomN_u (hi : 318 ≤ i) (hq : 0 ≤ q ∧ q < 8) : roomN (upN N i v) q = roomN N q := by unfold roomN; rw [upN_off (by omega), upN_off (by omega), upN_off (show (0 : Int) ≠ i by omega)]
theorem spillN_u (hi : 318 ≤ i) (hq : 0 ≤ q ∧ q < 8) : spillN (upN N i v) q = upN (spillN N q) i v := by
  have e : spillA (upN N i v) q = spillA N q := by unfold spillA; rw [roomN_u hi hq, upN_off (by omega)]
  have e2 : spill1 (upN N i v) q = upN (spill1 N q) i v := by unfold spill1; rw [e, upN_off (by omega), upN_cm (by omega)]
  unfold spillN
  rw [e, e2, upN_off (by omega), upN_cm (by omega)]
theorem getN_u (hi : 318 ≤ i) (hq : 0 ≤ q ∧ q < 8) : getN (upN N i v) q x = upN (getN N q x) i v := by
  unfold getN
  rw [upN_off (by omega), upN_cm (by omega), spillN_u hi hq]
theorem giveN_u (hi : 318 ≤ i) (hq : 0 ≤ q ∧ q < 8) (hc : N (30 + 7 * q + 3) < 4 ∧ -1 ≤ N (30 + 7 * q + 3)) (hk : 0 ≤ quartN N q ∧ quartN N q < 4) : giveN (upN N i v) q x = upN (giveN N q x) i v := by
  have e2 : quartN (upN N i v) q = quartN N q := by unfold quartN; rw [roomN_u hi hq, upN_off (by omega)]
  have e3 : weightN (upN N i v) q = weightN N q := by
    unfold weightN
    rw [e2, upN_off (by omega), upN_off (by omega)]
  have e4 : give1 (upN N i v) q x = upN (give1 N q x) i v := by unfold give1; rw [e3, upN_off (by omega), upN_cm (by omega)]
  unfold giveN
  rw [e4, upN_off (by omega), upN_cm (by omega), spillN_u hi hq]
end UP
theorem carryN_u {N : Int → Int} {c i v x y : Int} (hi : 318 ≤ i) (hc : 0 ≤ c ∧ c < 12) : carryN (upN N i v) c x y = upN (carryN N c x y) i v := by
  funext j
  by_cases e : j = i
  · subst e
    rw [upN_at, carryN_lo hc.1 (by omega) (by omega) (by omega), upN_at]
  · rw [upN_off e, carryN_ap hc.1, carryN_ap hc.1, upN_off (show 86 + 6 * c + 4 ≠ i by omega), upN_off (show 86 + 6 * c + 5 ≠ i by omega), upN_off (show (12 : Int) ≠ i by omega), upN_off e]
theorem PQ.u {N : Int → Int} {q i v : Int} (h : PQ N q) (hi : 318 ≤ i) : PQ (upN N i v) q := by
  have hq := h.1.1
  exact h.cg (fun j hj => upN_off (by omega))
theorem PN.u {N : Int → Int} {q i v : Int} (h : PN N q) (hi : 318 ≤ i) : PN (upN N i v) q := by
  have hq := h.1
  unfold PN
  rw [upN_off (by omega), upN_off (by omega), upN_off (show (0 : Int) ≠ _ by omega), upN_off (by omega)]
  exact h
theorem sendsN_hd {N : Int → Int} {c a b x j : Int} (hj : 0 ≤ j ∧ j < 10) (hc : 0 ≤ c) (ha : 0 ≤ a) (hb : 0 ≤ b) : sendsN N c a b x j = N j := by
  unfold sendsN
  rw [getN_lo hb (by omega) (by omega), carryN_lo hc (by omega) (by omega) (by omega), giveN_lo ha (by omega) (by omega) (by omega)]
/-- nothing is given back where nothing is owed -/
theorem G8.gbq {N : Int → Int} (h : G8 N) {l : Int} (h0 : 0 ≤ l) (h1 : l < N 9) (h2 : N (318 + 7 * l + 5) = 2) : gb3 N l = gb2 N l ∧ GN (gb3 N l) ∧ (0 ≤ gbA N l ∧ gbA N l ≤ 10000) := by
  obtain ⟨m, p, s, hP, hB, hN, hR, hS, h8⟩ := h
  have h1' : l < m 2 s 0 := by rw [← hS.1.2.2.2.2.2.2]; exact h1
  have hl := hS.2.2.2.2.2.2 l h0 h1'
  have h2' : m 20 s l = 2 := by rw [← hl.2.2.2.2.2.1]; exact h2
  have R := R_sb hP hB hN hR hS h8 h0 h1' h2'
  have F := sb_facts hP hB hN h0 h1' h2'
  have hb := hB.2.2.2.2.1.2 l h0 h1'
  have hc := BP_c hP hb.1.1 hb.1.2
  have ha := sbA_b hP hB hN h0 h1'
  have rc := R_cb hP hB hR hS h0 h1'
  have c0 : 0 ≤ cbC m p s l ∧ cbC m p s l < m 22 p 5 := ⟨hc.2.2.2.2.2.2.1, hc.2.2.2.2.2.2.2⟩
  have rq := hS.2.1 _ hc.2.1.1 hc.2.1.2
  have eo := R_owed hR hS h0 h1'
  have ob := owedC_b (BS_lf hP hB h0 h1')
  have eA := R.2.1
  have e1 : gb1 N l = sendsN N (cbC m p s l) (m 29 p (m 15 s l)) (m 28 p (m 15 s l)) (sbA m p s l) := by unfold gb1; rw [eA, rc.2.2.2.2, rc.1, rc.2.1, rc.2.2.1]
  have bc := hB.2.2.1 _ c0.1 c0.2
  have bc1 := bc.2.1
  have bc2 := bc.2.2
  refine ⟨?_, ⟨_, p, s, F.2.2.2.1.1, F.2.2.2.1.2, R.1.1, R.1.2⟩, by rw [eA]; omega⟩
  unfold gb3
  by_cases d : 0 < owedN N l
  · rw [if_pos d]
  · rw [if_neg d]
    have z := ha.2.2 (by omega)
    have q3 := hB.2.1 _ hc.2.1.1 hc.2.1.2
    have q4 := hB.2.1 _ hc.1.1 hc.1.2
    have rr := R_room hR hS hc.2.1.1 hc.2.1.2
    have rr2 := R_room hR hS hc.1.1 hc.1.2
    have rq2 := hS.2.1 _ hc.1.1 hc.1.2
    have s0 : gb1 N l = N := by
      rw [e1, z]
      unfold sendsN
      rw [Int.zero_mul, giveN_0 hc.2.1.1 (by rw [rq.1, rr]; exact q3.1.2) (by rw [rq.2.1]; exact q3.2.1.2)]
      rw [show (0 : Int) / 1000 = 0 from rfl, carryN_0 c0.1, show (0 : Int) - 0 = 0 from rfl, getN_0 hc.1.1 (by rw [rq2.1, rr2]; exact q4.1.2)]
    have r0 : gbR N l = 0 := by unfold gbR; rw [eA, z, Int.zero_mul]; rfl
    unfold gb2
    rw [s0, r0, Int.add_zero, upN_same]
theorem sv_send {G : GG} {h h1 : Hp} {a : Nat} {N : Int → Int} {B : Bok} {S T : Nat → Prop} (hW : WN G h1 a N B S T) (hF : Fg S h h1) (hg : G8 N) {l k x y c : Nat} (hl : (l : Int) < N 9) (fk : N (318 + 7 * (l : Int) + 0) = k) (fx : N (270 + 6 * (k : Int) + 0) = x) (fy : N (270 + 6 * (k : Int) + 1) = y) (fc : betN N x y = c) (hk : (k : Int) < N 8) (hx : (x : Int) < N 3) (hy : (y : Int) < N 3) (hc : (c : Int) < N 5) (h5 : N (318 + 7 * (l : Int) + 5) = 0) : YY G MX12_serve (rmL 6 1 4) 84 [(0, rf G 51 a), (1, rf G 55 (bE B 6 l)), (2, rf G 54 (bE B 5 k)), (3, rf G 52 (bE B 3 x)), (4, rf G 52 (bE B 3 y)), (5, rf G 53 (bE B 4 c))] [] h1 1 4 (fun v h2 => v = none ∧ WN G h2 a (snN N l) B S T ∧ Fg S h h2) := by
  have gn := hg.gn
  have n9 := hW.nb 6
  change 0 ≤ N 9 ∧ N 9 ≤ 16 at n9
  have n8 := hW.nb 5
  change 0 ≤ N 8 ∧ N 8 ≤ 8 at n8
  have n3 := hW.nb 3
  change 0 ≤ N 3 ∧ N 3 ≤ 8 at n3
  have n5 := hW.nb 4
  change 0 ≤ N 5 ∧ N 5 ≤ 12 at n5
  have LL := gn.ln (q := (l : Int)) (by omega) hl
  obtain ⟨l1, l2, l3, l4, l5, l6, l7⟩ := id LL
  have LG := gn.loan (l := (l : Int)) (by omega) hl
  have CB := hg.cab (c := (c : Int)) (by omega) hc
  have CK := gn.con (k := (k : Int)) (by omega) hk
  have TM := gn.time
  have CX := gn.chg (q := (x : Int)) (by omega) hx
  have RX := gn.res (q := (x : Int)) (by omega) hx
  have QX := gn.pq (q := (x : Int)) (by omega) hx
  have wx := QX.2.1.2
  have fb : freeN N c = max 0 (N (86 + 6 * (c : Int) + 3) - N (86 + 6 * (c : Int) + 4)) := rfl
  have ab : aboveN N x = N (30 + 7 * (x : Int) + 1) - N (30 + 7 * (x : Int) + 4) := rfl
  have eA : snA N l = min (N (318 + 7 * (l : Int) + 1) - N (318 + 7 * (l : Int) + 2)) (min (max 0 (aboveN N x)) (freeN N c)) := by { unfold snA cbN; rw [fk, fx, fy, fc] }
  have sb0 : 0 ≤ snA N l ∧ snA N l ≤ N (30 + 7 * (x : Int) + 1) ∧ snA N l ≤ 10000 ∧ snA N l ≤ N (86 + 6 * (c : Int) + 3) - N (86 + 6 * (c : Int) + 4) := by omega
  have w0 : 0 ≤ snA N l * weightN N x := Int.mul_nonneg sb0.1 wx.1
  have w1 : snA N l * weightN N x ≤ 10000 * 1000 := Int.mul_le_mul sb0.2.2.1 wx.2 wx.1 (by omega)
  have SD := hg.sd (c := (c : Int)) (a := (x : Int)) (b := (y : Int)) (x := snA N l) (by omega) hc (by omega) hx (by omega) hy ⟨sb0.1, sb0.2.1⟩ sb0.2.2.2
  have eP : pfN N x (snA N l) = snA N l * weightN N x := by { unfold pfN; omega }
  refine o_iconst (pc := 84) dX12_serve_84 ?_
  refine o_aload (pc := 85) dX12_serve_85 5 rfl ?_
  refine o_gI (pc := 87) (j := 3) dX12_serve_87 flX12_238 rfl rfl (hW.mE 4 hc) (hW.c3 hc) ?_
  refine o_aload (pc := 90) dX12_serve_90 5 rfl ?_
  refine o_gI (pc := 92) (j := 4) dX12_serve_92 flX12_212 rfl rfl (hW.mE 4 hc) (hW.c4 hc) ?_
  refine o_isub (pc := 95) dX12_serve_95 ?_
  refine o_max (pc := 96) dX12_serve_96 lmX12_157 (by unfold inI; omega) (by unfold inI; omega) (Nat.le_of_ble_eq_true rfl) (Nat.le_of_ble_eq_true rfl) (Nat.le_of_ble_eq_true rfl) (Nat.le_of_ble_eq_true rfl) ?_
  refine o_topI (y := freeN N c) rfl ?_
  refine o_istore (pc := 99) (lv' := [(6, _), (0, _), (1, _), (2, _), (3, _), (4, _), (5, _)]) dX12_serve_99 (by decide) rfl ?_
  refine o_aload_n (pc := 101) dX12_serve_101 2 rfl ?_
  refine o_gI (pc := 102) (j := 5) dX12_serve_102 flX12_147 rfl rfl (hW.mE 6 hl) (hW.n5 hl) ?_
  refine o_if_ne (pc := 105) 204 dX12_serve_105 (by decide) (by unfold inI; omega) (fun c_105 => absurd c_105 (by omega)) (fun c_105 => ?_)
  refine o_aload_n (pc := 108) dX12_serve_108 2 rfl ?_
  refine o_gI (pc := 109) (j := 1) dX12_serve_109 flX12_170 rfl rfl (hW.mE 6 hl) (hW.n1 hl) ?_
  refine o_aload_n (pc := 112) dX12_serve_112 2 rfl ?_
  refine o_gI (pc := 113) (j := 2) dX12_serve_113 flX12_151 rfl rfl (hW.mE 6 hl) (hW.n2 hl) ?_
  refine o_isub (pc := 116) dX12_serve_116 ?_
  refine o_iconst (pc := 117) dX12_serve_117 ?_
  refine o_aload_n (pc := 118) dX12_serve_118 1 rfl ?_
  refine o_aload_n (pc := 119) dX12_serve_119 4 rfl ?_
  refine o_callV (pc := 120) _ dX12_serve_120 (cw_above hW hx) lkX12_190 rfl rfl rfl rfl hW.mW ⟨⟨(Nat.le_of_ble_eq_true rfl), (Nat.le_of_ble_eq_true rfl)⟩, (Nat.le_of_ble_eq_true rfl), (Nat.le_of_ble_eq_true rfl)⟩ (Nat.le_of_ble_eq_true rfl) rfl (fun v h2 hq2 => ?_)
  obtain ⟨rfl, rfl⟩ := hq2
  refine o_max (pc := 123) dX12_serve_123 lmX12_157 (by unfold inI; omega) (by unfold inI; omega) (Nat.le_of_ble_eq_true rfl) (Nat.le_of_ble_eq_true rfl) (Nat.le_of_ble_eq_true rfl) (Nat.le_of_ble_eq_true rfl) ?_
  refine o_min (pc := 126) dX12_serve_126 lmX12_241 (by unfold inI; omega) (by unfold inI; omega) (Nat.le_of_ble_eq_true rfl) (Nat.le_of_ble_eq_true rfl) (Nat.le_of_ble_eq_true rfl) (Nat.le_of_ble_eq_true rfl) ?_
  refine o_iload (pc := 129) dX12_serve_129 0 rfl ?_
  refine o_min (pc := 131) dX12_serve_131 lmX12_241 (by unfold inI; omega) (by unfold inI; omega) (Nat.le_of_ble_eq_true rfl) (Nat.le_of_ble_eq_true rfl) (Nat.le_of_ble_eq_true rfl) (Nat.le_of_ble_eq_true rfl) ?_
  refine o_topI (y := snA N l) (by rw [eA]; omega) ?_
  refine o_istore (pc := 134) (lv' := [(7, _), (6, _), (0, _), (1, _), (2, _), (3, _), (4, _), (5, _)]) dX12_serve_134 (by decide) rfl ?_
  refine o_aload_n (pc := 136) dX12_serve_136 3 rfl ?_
  refine o_ldc2 (pc := 137) (z := 100000000) dX12_serve_137 kcX12_197 (by decide) ?_
  refine o_aload_n (pc := 140) dX12_serve_140 3 rfl ?_
  refine o_gI (pc := 141) (j := 3) dX12_serve_141 flX12_150 rfl rfl (hW.mE 6 hl) (hW.n3 hl) ?_
  refine o_i2l (pc := 144) dX12_serve_144 (by unfold inI; omega) ?_
  refine o_iload (pc := 145) dX12_serve_145 0 rfl ?_
  refine o_i2l (pc := 147) dX12_serve_147 (by unfold inI; omega) ?_
  refine o_aload_n (pc := 148) dX12_serve_148 2 rfl ?_
  refine o_aload_n (pc := 149) dX12_serve_149 5 rfl ?_
  refine o_callV (pc := 150) _ dX12_serve_150 (cw_weight hW hx QX.1 QX.2.1 QX.2.2) lkX12_135 rfl rfl rfl rfl hW.mW ⟨⟨(Nat.le_of_ble_eq_true rfl), (Nat.le_of_ble_eq_true rfl)⟩, (Nat.le_of_ble_eq_true rfl), (Nat.le_of_ble_eq_true rfl)⟩ (Nat.le_of_ble_eq_true rfl) rfl (fun v h2 hq2 => ?_)
  obtain ⟨rfl, rfl⟩ := hq2
  refine o_i2l (pc := 153) dX12_serve_153 (by unfold inI; omega) ?_
  refine o_lmul (pc := 154) dX12_serve_154 ?_
  refine o_ladd (pc := 155) dX12_serve_155 ?_
  refine o_minl (pc := 156) dX12_serve_156 lmX12_199 (by unfold inL; omega) (by unfold inL; omega) (Nat.le_of_ble_eq_true rfl) (Nat.le_of_ble_eq_true rfl) (Nat.le_of_ble_eq_true rfl) (Nat.le_of_ble_eq_true rfl) ?_
  refine o_l2i (pc := 159) dX12_serve_159 ?_
  refine o_topI (y := (min 100000000 (N (318 + 7 * (l : Int) + 3) + pfN N x (snA N l)))) (by rw [eP]) ?_
  refine o_pI (pc := 160) (j := 3) dX12_serve_160 fwX12_150 rfl rfl (hW.mE 6 hl) ?_
  have W1 : WN G _ a (upN N (318 + 7 * (l : Int) + 3) (min 100000000 (N (318 + 7 * (l : Int) + 3) + pfN N x (snA N l)))) B S T := hW.setE 6 hl 3 (min 100000000 (N (318 + 7 * (l : Int) + 3) + pfN N x (snA N l)))
  have F1 := Fg_hset (k := 55) (j := ((3 : Nat) : Int)) (z := (min 100000000 (N (318 + 7 * (l : Int) + 3) + pfN N x (snA N l)))) hF (by decide) (.inl (hW.sE 6 hl))
  have hx1 := up_lt (N := N) (i := 318 + 7 * (l : Int) + 3) (z := (min 100000000 (N (318 + 7 * (l : Int) + 3) + pfN N x (snA N l)))) (n := 3) (by omega) (by omega) hx
  have hy1 := up_lt (N := N) (i := 318 + 7 * (l : Int) + 3) (z := (min 100000000 (N (318 + 7 * (l : Int) + 3) + pfN N x (snA N l)))) (n := 3) (by omega) (by omega) hy
  have hc1 := up_lt (N := N) (i := 318 + 7 * (l : Int) + 3) (z := (min 100000000 (N (318 + 7 * (l : Int) + 3) + pfN N x (snA N l)))) (n := 5) (by omega) (by omega) hc
  have QX1 : PQ (upN N (318 + 7 * (l : Int) + 3) (min 100000000 (N (318 + 7 * (l : Int) + 3) + pfN N x (snA N l)))) x := QX.u (by omega)
  have gu : giveN (upN N (318 + 7 * (l : Int) + 3) (min 100000000 (N (318 + 7 * (l : Int) + 3) + pfN N x (snA N l)))) x (snA N l) = upN (giveN N x (snA N l)) (318 + 7 * (l : Int) + 3) (min 100000000 (N (318 + 7 * (l : Int) + 3) + pfN N x (snA N l))) := giveN_u (by omega) (by omega) (by have q1 := QX.2.1.1; omega) (quartN_b QX.1)
  have e2 : upN N (318 + 7 * (l : Int) + 3) (min 100000000 (N (318 + 7 * (l : Int) + 3) + pfN N x (snA N l))) (86 + 6 * (c : Int) + 2) = N (86 + 6 * (c : Int) + 2) := upN_off (by omega)
  refine o_aload_n (pc := 163) dX12_serve_163 2 rfl ?_
  refine o_aload (pc := 164) dX12_serve_164 7 rfl ?_
  refine o_aload_n (pc := 166) dX12_serve_166 5 rfl ?_
  refine o_aload (pc := 167) dX12_serve_167 6 rfl ?_
  refine o_iload (pc := 169) dX12_serve_169 0 rfl ?_
  refine o_callV (pc := 171) _ dX12_serve_171 (cw_through W1 hc1 hx1 hy1 (x := snA N l) (by rw [e2]; exact CB.1) QX1.1 QX1.2.1 QX1.2.2 (by rw [upN_off (by omega)]; omega) (by rw [e2, gu, carryN_u (by omega) (by omega)]; exact SD.1.u (by omega)) (by rw [e2, gu, carryN_u (by omega) (by omega), upN_off (by omega)]; exact SD.2) F1.n) lkX12_243 rfl rfl rfl rfl W1.mW ⟨⟨(Nat.le_of_ble_eq_true rfl), (Nat.le_of_ble_eq_true rfl)⟩, (Nat.le_of_ble_eq_true rfl), (Nat.le_of_ble_eq_true rfl)⟩ (Nat.le_of_ble_eq_true rfl) rfl (fun v h2 hq2 => ?_)
  obtain ⟨rfl, hW2x, F2⟩ := hq2
  have e9 : sendsN (upN N (318 + 7 * (l : Int) + 3) (min 100000000 (N (318 + 7 * (l : Int) + 3) + pfN N x (snA N l)))) c x y (snA N l) = sn2 N l := by
    unfold sn2 sn1 cbN
    rw [fk, fx, fy, fc]
    unfold sendsN
    rw [e2, gu, carryN_u (by omega) (by omega), getN_u (by omega) (by omega)]
  have W2 := hW2x.to e9
  have lo2 : ∀ j, 158 ≤ j → j ≠ 318 + 7 * (l : Int) + 3 → sn2 N l j = N j := fun j j1 j2 => by { rw [← e9, sendsN_lo (by omega) (by omega) (by omega) j1 (by omega) (by omega) (by omega), upN_off j2] }
  have hl2 : (l : Int) < sn2 N l 9 := by { rw [← e9, sendsN_hd (by omega) (by omega) (by omega) (by omega), upN_off (by omega)]; exact hl }
  refine o_istore (pc := 174) (lv' := [(8, _), (7, _), (6, _), (0, _), (1, _), (2, _), (3, _), (4, _), (5, _)]) dX12_serve_174 (by decide) rfl ?_
  refine o_aload_n (pc := 176) dX12_serve_176 4 rfl ?_
  refine o_dup (pc := 177) dX12_serve_177 rfl ?_
  refine o_gI (pc := 178) (j := 2) dX12_serve_178 flX12_151 rfl rfl (W2.mE 6 hl2) ((W2.n2 hl2).trans (lo2 _ (by omega) (by omega))) ?_
  refine o_iload (pc := 181) dX12_serve_181 1 rfl ?_
  refine o_iadd (pc := 183) dX12_serve_183 ?_
  refine o_pI (pc := 184) (j := 2) dX12_serve_184 fwX12_151 rfl rfl (W2.mE 6 hl2) ?_
  have W3 := (W2.setE 6 hl2 2 (N (318 + 7 * (l : Int) + 2) + snA N l)).to (N' := sn3 N l) (by unfold sn3; rw [lo2 (318 + 7 * (l : Int) + 2) (by omega) (by omega)]; rfl)
  have e3 : ∀ j, 158 ≤ j → j ≠ 318 + 7 * (l : Int) + 3 → j ≠ 318 + 7 * (l : Int) + 2 → sn3 N l j = N j := fun j j1 j2 j3 => by { unfold sn3; rw [upN_off j3, lo2 j j1 j2] }
  have e3b : sn3 N l (318 + 7 * (l : Int) + 2) = N (318 + 7 * (l : Int) + 2) + snA N l := by { unfold sn3; rw [upN_at, lo2 _ (by omega) (by omega)] }
  have hl3 : (l : Int) < sn3 N l 9 := by { unfold sn3; rw [upN_off (by omega)]; exact hl2 }
  have F3 := Fg_hset (k := 55) (j := ((2 : Nat) : Int)) (z := N (318 + 7 * (l : Int) + 2) + snA N l) (F1.t F2) (by decide) (.inl (hW.sE 6 hl))
  refine o_aload_n (pc := 187) dX12_serve_187 4 rfl ?_
  refine o_gI (pc := 188) (j := 2) dX12_serve_188 flX12_151 rfl rfl (W3.mE 6 hl3) ((W3.n2 hl3).trans e3b) ?_
  refine o_aload_n (pc := 191) dX12_serve_191 4 rfl ?_
  refine o_gI (pc := 192) (j := 1) dX12_serve_192 flX12_170 rfl rfl (W3.mE 6 hl3) ((W3.n1 hl3).trans (e3 _ (by omega) (by omega) (by omega))) ?_
  refine o_icmp_ne (pc := 195) 203 dX12_serve_195 (by decide) (by unfold inI; omega) (by unfold inI; omega) (fun c_195 => ?_) (fun c_195 => ?_)
  · exact o_vret (pc := 203) dX12_serve_203 rfl (Nat.le_of_ble_eq_true rfl) (Nat.le_of_ble_eq_true rfl) ⟨rfl, W3.to (by unfold snN; rw [if_neg (by omega)]), F3⟩
  · refine o_aload_n (pc := 198) dX12_serve_198 4 rfl ?_
    refine o_iconst (pc := 199) dX12_serve_199 ?_
    refine o_pI (pc := 200) (j := 5) dX12_serve_200 fwX12_147 rfl rfl (W3.mE 6 hl3) ?_
    exact o_vret (pc := 203) dX12_serve_203 rfl (Nat.le_of_ble_eq_true rfl) (Nat.le_of_ble_eq_true rfl) ⟨rfl, (W3.setE 6 hl3 5 1).to (by unfold snN; rw [if_pos (by omega)]; rfl), Fg_hset F3 (by decide) (.inl (hW.sE 6 hl))⟩
theorem sv_back {G : GG} {h h1 : Hp} {a : Nat} {N : Int → Int} {B : Bok} {S T : Nat → Prop} (hW : WN G h1 a N B S T) (hF : Fg S h h1) (hg : G8 N) {l k x y c : Nat} (hl : (l : Int) < N 9) (fk : N (318 + 7 * (l : Int) + 0) = k) (fx : N (270 + 6 * (k : Int) + 0) = x) (fy : N (270 + 6 * (k : Int) + 1) = y) (fc : betN N x y = c) (hk : (k : Int) < N 8) (hx : (x : Int) < N 3) (hy : (y : Int) < N 3) (hc : (c : Int) < N 5) (h5 : N (318 + 7 * (l : Int) + 5) = 2) : YY G MX12_serve (rmL 6 1 4) 84 [(0, rf G 51 a), (1, rf G 55 (bE B 6 l)), (2, rf G 54 (bE B 5 k)), (3, rf G 52 (bE B 3 x)), (4, rf G 52 (bE B 3 y)), (5, rf G 53 (bE B 4 c))] [] h1 1 4 (fun v h2 => v = none ∧ WN G h2 a (gbN N l) B S T ∧ Fg S h h2) := by
  have gn := hg.gn
  have n9 := hW.nb 6
  change 0 ≤ N 9 ∧ N 9 ≤ 16 at n9
  have n8 := hW.nb 5
  change 0 ≤ N 8 ∧ N 8 ≤ 8 at n8
  have n3 := hW.nb 3
  change 0 ≤ N 3 ∧ N 3 ≤ 8 at n3
  have n5 := hW.nb 4
  change 0 ≤ N 5 ∧ N 5 ≤ 12 at n5
  have LL := gn.ln (q := (l : Int)) (by omega) hl
  obtain ⟨l1, l2, l3, l4, l5, l6, l7⟩ := id LL
  have LG := gn.loan (l := (l : Int)) (by omega) hl
  have CB := hg.cab (c := (c : Int)) (by omega) hc
  have CK := gn.con (k := (k : Int)) (by omega) hk
  have TM := gn.time
  have CY := gn.chg (q := (y : Int)) (by omega) hy
  have QY := gn.pq (q := (y : Int)) (by omega) hy
  have fb : freeN N c = max 0 (N (86 + 6 * (c : Int) + 3) - N (86 + 6 * (c : Int) + 4)) := rfl
  have eA : gbA N l = min ((owedN N l * 1000 + (1000 - N (86 + 6 * (c : Int) + 2)) - 1) / (1000 - N (86 + 6 * (c : Int) + 2))) (min (N (30 + 7 * (y : Int) + 1)) (freeN N c)) := by { unfold gbA cbN; rw [fk, fx, fy, fc] }
  have eR : gbR N l = gbA N l - gbA N l * N (86 + 6 * (c : Int) + 2) / 1000 := by { unfold gbR cbN; rw [fk, fx, fy, fc] }
  have GB := hg.gbq (l := (l : Int)) (by omega) hl h5
  have ob := owedN_b LL
  have m0 := Int.emod_nonneg (owedN N l * 1000) (show 1000 - N (86 + 6 * (c : Int) + 2) ≠ 0 by omega)
  have m1 := Int.emod_lt_of_pos (owedN N l * 1000) (show 0 < 1000 - N (86 + 6 * (c : Int) + 2) by omega)
  have nd0 : 0 ≤ (owedN N l * 1000 + (1000 - N (86 + 6 * (c : Int) + 2)) - 1) / (1000 - N (86 + 6 * (c : Int) + 2)) := Int.ediv_nonneg (by omega) (by omega)
  have nd1 : (owedN N l * 1000 + (1000 - N (86 + 6 * (c : Int) + 2)) - 1) / (1000 - N (86 + 6 * (c : Int) + 2)) ≤ owedN N l * 1000 + (1000 - N (86 + 6 * (c : Int) + 2)) - 1 := Int.ediv_le_self _ (by omega)
  have SD := hg.sd (c := (c : Int)) (a := (y : Int)) (b := (x : Int)) (x := gbA N l) (by omega) hc (by omega) hy (by omega) hx ⟨GB.2.2.1, by omega⟩ (by omega)
  refine o_iconst (pc := 84) dX12_serve_84 ?_
  refine o_aload (pc := 85) dX12_serve_85 5 rfl ?_
  refine o_gI (pc := 87) (j := 3) dX12_serve_87 flX12_238 rfl rfl (hW.mE 4 hc) (hW.c3 hc) ?_
  refine o_aload (pc := 90) dX12_serve_90 5 rfl ?_
  refine o_gI (pc := 92) (j := 4) dX12_serve_92 flX12_212 rfl rfl (hW.mE 4 hc) (hW.c4 hc) ?_
  refine o_isub (pc := 95) dX12_serve_95 ?_
  refine o_max (pc := 96) dX12_serve_96 lmX12_157 (by unfold inI; omega) (by unfold inI; omega) (Nat.le_of_ble_eq_true rfl) (Nat.le_of_ble_eq_true rfl) (Nat.le_of_ble_eq_true rfl) (Nat.le_of_ble_eq_true rfl) ?_
  refine o_topI (y := freeN N c) rfl ?_
  refine o_istore (pc := 99) (lv' := [(6, _), (0, _), (1, _), (2, _), (3, _), (4, _), (5, _)]) dX12_serve_99 (by decide) rfl ?_
  refine o_aload_n (pc := 101) dX12_serve_101 2 rfl ?_
  refine o_gI (pc := 102) (j := 5) dX12_serve_102 flX12_147 rfl rfl (hW.mE 6 hl) (hW.n5 hl) ?_
  refine o_if_ne (pc := 105) 204 dX12_serve_105 (by decide) (by unfold inI; omega) (fun c_105 => ?_) (fun c_105 => absurd c_105 (by omega))
  refine o_aload_n (pc := 204) dX12_serve_204 2 rfl ?_
  refine o_gI (pc := 205) (j := 5) dX12_serve_205 flX12_147 rfl rfl (hW.mE 6 hl) (hW.n5 hl) ?_
  refine o_iconst (pc := 208) dX12_serve_208 ?_
  refine o_icmp_eq (pc := 209) 213 dX12_serve_209 (by decide) (by unfold inI; omega) (by unfold inI; omega) (fun c_209 => ?_) (fun c_209 => absurd c_209 (by omega))
  refine o_ldc2 (pc := 213) (z := 1000) dX12_serve_213 kcX12_206 (by decide) ?_
  refine o_aload (pc := 216) dX12_serve_216 6 rfl ?_
  refine o_gI (pc := 218) (j := 2) dX12_serve_218 flX12_203 rfl rfl (hW.mE 4 hc) (hW.c2 hc) ?_
  refine o_i2l (pc := 221) dX12_serve_221 (by unfold inI; omega) ?_
  refine o_lsub (pc := 222) dX12_serve_222 ?_
  refine o_lstore (pc := 223) (lv' := [(7, _), (6, _), (0, _), (1, _), (2, _), (3, _), (4, _), (5, _)]) dX12_serve_223 (by decide) rfl ?_
  refine o_aload_n (pc := 225) dX12_serve_225 2 rfl ?_
  refine o_aload_n (pc := 226) dX12_serve_226 3 rfl ?_
  refine o_callV (pc := 227) _ dX12_serve_227 (cw_owed hW hl LL) lkX12_166 rfl rfl rfl rfl hW.mW ⟨⟨(Nat.le_of_ble_eq_true rfl), (Nat.le_of_ble_eq_true rfl)⟩, (Nat.le_of_ble_eq_true rfl), (Nat.le_of_ble_eq_true rfl)⟩ (Nat.le_of_ble_eq_true rfl) rfl (fun v h2 hq2 => ?_)
  obtain ⟨rfl, rfl⟩ := hq2
  refine o_i2l (pc := 230) dX12_serve_230 (by unfold inI; omega) ?_
  refine o_ldc2 (pc := 231) (z := 1000) dX12_serve_231 kcX12_206 (by decide) ?_
  refine o_lmul (pc := 234) dX12_serve_234 ?_
  refine o_lload (pc := 235) dX12_serve_235 0 rfl ?_
  refine o_ldiv (pc := 237) dX12_serve_237 (by omega) (by omega) ?_
  refine o_aload_n (pc := 238) dX12_serve_238 2 rfl ?_
  refine o_aload_n (pc := 239) dX12_serve_239 3 rfl ?_
  refine o_callV (pc := 240) _ dX12_serve_240 (cw_owed hW hl LL) lkX12_166 rfl rfl rfl rfl hW.mW ⟨⟨(Nat.le_of_ble_eq_true rfl), (Nat.le_of_ble_eq_true rfl)⟩, (Nat.le_of_ble_eq_true rfl), (Nat.le_of_ble_eq_true rfl)⟩ (Nat.le_of_ble_eq_true rfl) rfl (fun v h2 hq2 => ?_)
  obtain ⟨rfl, rfl⟩ := hq2
  refine o_i2l (pc := 243) dX12_serve_243 (by unfold inI; omega) ?_
  refine o_ldc2 (pc := 244) (z := 1000) dX12_serve_244 kcX12_206 (by decide) ?_
  refine o_lmul (pc := 247) dX12_serve_247 ?_
  refine o_lload (pc := 248) dX12_serve_248 0 rfl ?_
  refine o_lrem (pc := 250) dX12_serve_250 (by omega) (by omega) ?_
  refine o_lconst (pc := 251) (z := 0) dX12_serve_251 (by decide) ?_
  refine o_lcmp (pc := 252) dX12_serve_252 (by unfold inL; omega) (by unfold inL; omega) ?_
  refine o_if_le (pc := 253) 260 dX12_serve_253 (by decide) (by unfold inI; omega) (fun c_253 => ?_) (fun c_253 => ?_)
  · refine o_lconst (pc := 260) (z := 0) dX12_serve_260 (by decide) ?_
    refine o_ladd (pc := 261) dX12_serve_261 ?_
    refine o_topL (y := (owedN N l * 1000 + (1000 - N (86 + 6 * (c : Int) + 2)) - 1) / (1000 - N (86 + 6 * (c : Int) + 2))) (by rw [ceil_c (by omega) (by omega), if_pos (by omega)]) ?_
    refine o_lstore (pc := 262) (lv' := [(9, _), (7, _), (6, _), (0, _), (1, _), (2, _), (3, _), (4, _), (5, _)]) dX12_serve_262 (by decide) rfl ?_
    refine o_lload (pc := 264) dX12_serve_264 0 rfl ?_
    refine o_aload (pc := 266) dX12_serve_266 7 rfl ?_
    refine o_gI (pc := 268) (j := 2) dX12_serve_268 flX12_114 rfl rfl (hW.mE 3 hy) (hW.p2 hy) ?_
    refine o_i2l (pc := 271) dX12_serve_271 (by unfold inI; omega) ?_
    refine o_minl (pc := 272) dX12_serve_272 lmX12_199 (by unfold inL; omega) (by unfold inL; omega) (Nat.le_of_ble_eq_true rfl) (Nat.le_of_ble_eq_true rfl) (Nat.le_of_ble_eq_true rfl) (Nat.le_of_ble_eq_true rfl) ?_
    refine o_iload (pc := 275) dX12_serve_275 2 rfl ?_
    refine o_i2l (pc := 277) dX12_serve_277 (by unfold inI; omega) ?_
    refine o_minl (pc := 278) dX12_serve_278 lmX12_199 (by unfold inL; omega) (by unfold inL; omega) (Nat.le_of_ble_eq_true rfl) (Nat.le_of_ble_eq_true rfl) (Nat.le_of_ble_eq_true rfl) (Nat.le_of_ble_eq_true rfl) ?_
    refine o_l2i (pc := 281) dX12_serve_281 ?_
    refine o_topI (y := gbA N l) (by rw [eA]; omega) ?_
    refine o_istore (pc := 282) (lv' := [(11, _), (9, _), (7, _), (6, _), (0, _), (1, _), (2, _), (3, _), (4, _), (5, _)]) dX12_serve_282 (by decide) rfl ?_
    refine o_aload_n (pc := 284) dX12_serve_284 5 rfl ?_
    refine o_dup (pc := 285) dX12_serve_285 rfl ?_
    refine o_gI (pc := 286) (j := 4) dX12_serve_286 flX12_154 rfl rfl (hW.mE 6 hl) (hW.n4 hl) ?_
    refine o_aload_n (pc := 289) dX12_serve_289 4 rfl ?_
    refine o_aload (pc := 290) dX12_serve_290 9 rfl ?_
    refine o_aload (pc := 292) dX12_serve_292 8 rfl ?_
    refine o_aload_n (pc := 294) dX12_serve_294 7 rfl ?_
    refine o_iload (pc := 295) dX12_serve_295 0 rfl ?_
    refine o_callV (pc := 297) _ dX12_serve_297 (cw_through hW hc hy hx (x := gbA N l) CB.1 QY.1 QY.2.1 QY.2.2 (by omega) SD.1 SD.2 hF.n) lkX12_243 rfl rfl rfl rfl hW.mW ⟨⟨(Nat.le_of_ble_eq_true rfl), (Nat.le_of_ble_eq_true rfl)⟩, (Nat.le_of_ble_eq_true rfl), (Nat.le_of_ble_eq_true rfl)⟩ (Nat.le_of_ble_eq_true rfl) rfl (fun v h2 hq2 => ?_)
    obtain ⟨rfl, hW2x, F2⟩ := hq2
    have e9 : sendsN N c y x (gbA N l) = gb1 N l := by
      unfold gb1 cbN
      rw [fk, fx, fy, fc]
    have W2 := hW2x.to e9
    have lo2 : ∀ j, 158 ≤ j → gb1 N l j = N j := fun j j1 => by { rw [← e9, sendsN_lo (by omega) (by omega) (by omega) j1 (by omega) (by omega) (by omega)] }
    have hd2 : ∀ j, 0 ≤ j ∧ j < 10 → gb1 N l j = N j := fun j j1 => by { rw [← e9, sendsN_hd j1 (by omega) (by omega) (by omega)] }
    have hl2 : (l : Int) < gb1 N l 9 := by { rw [hd2 _ (by omega)]; exact hl }
    refine o_iadd (pc := 300) dX12_serve_300 ?_
    refine o_topI (y := gb1 N l (318 + 7 * (l : Int) + 4) + gbR N l) (by rw [lo2 _ (by omega), eR]) ?_
    refine o_pI (pc := 301) (j := 4) dX12_serve_301 fwX12_154 rfl rfl (W2.mE 6 hl2) ?_
    have W3 : WN G _ a (gb2 N l) B S T := W2.setE 6 hl2 4 (gb1 N l (318 + 7 * (l : Int) + 4) + gbR N l)
    have F3 := Fg_hset (k := 55) (j := ((4 : Nat) : Int)) (z := gb1 N l (318 + 7 * (l : Int) + 4) + gbR N l) (hF.t F2) (by decide) (.inl (hW.sE 6 hl))
    have lo3 : ∀ j, 158 ≤ j → j ≠ 318 + 7 * (l : Int) + 4 → gb2 N l j = N j := fun j j1 j2 => by { unfold gb2; rw [upN_off j2, lo2 j j1] }
    have hd3 : ∀ j, 0 ≤ j ∧ j < 10 → gb2 N l j = N j := fun j j1 => by { unfold gb2; rw [upN_off (by omega), hd2 _ j1] }
    have hl3 : (l : Int) < gb2 N l 9 := by { rw [hd3 _ (by omega)]; exact hl }
    have hk3 : (k : Int) < gb2 N l 8 := by { rw [hd3 _ (by omega)]; exact hk }
    have GN3 : GN (gb2 N l) := GB.1 ▸ GB.2.1
    have LL3 := GN3.ln (q := (l : Int)) (by omega) hl3
    have ob3 := owedN_b LL3
    have eN : gbN N l = gbE (gb2 N l) l := by { unfold gbN; rw [GB.1] }
    have fk3 : gb2 N l (318 + 7 * (l : Int) + 0) = k := by { rw [lo3 _ (by omega) (by omega)]; exact fk }
    refine o_aload_n (pc := 304) dX12_serve_304 4 rfl ?_
    refine o_aload_n (pc := 305) dX12_serve_305 5 rfl ?_
    refine o_callV (pc := 306) _ dX12_serve_306 (cw_owed W3 hl3 LL3) lkX12_166 rfl rfl rfl rfl W3.mW ⟨⟨(Nat.le_of_ble_eq_true rfl), (Nat.le_of_ble_eq_true rfl)⟩, (Nat.le_of_ble_eq_true rfl), (Nat.le_of_ble_eq_true rfl)⟩ (Nat.le_of_ble_eq_true rfl) rfl (fun v h2 hq2 => ?_)
    obtain ⟨rfl, rfl⟩ := hq2
    refine o_if_ne (pc := 309) 320 dX12_serve_309 (by decide) (by unfold inI; omega) (fun c_309 => ?_) (fun c_309 => ?_)
    · refine o_aload_n (pc := 320) dX12_serve_320 4 rfl ?_
      refine o_gI (pc := 321) (j := 2) dX12_serve_321 flX12_42 rfl rfl W3.mW (W3.w2.trans (hd3 _ (by omega))) ?_
      refine o_aload_n (pc := 324) dX12_serve_324 5 rfl ?_
      refine o_gI (pc := 325) (j := 6) dX12_serve_325 flX12_235 rfl rfl (W3.mE 6 hl3) ((W3.n6 hl3).trans (lo3 _ (by omega) (by omega))) ?_
      refine o_aload_n (pc := 328) dX12_serve_328 6 rfl ?_
      refine o_gI (pc := 329) (j := 4) dX12_serve_329 flX12_247 rfl rfl (W3.mE 5 hk3) ((W3.k4 hk3).trans (lo3 _ (by omega) (by omega))) ?_
      refine o_iadd (pc := 332) dX12_serve_332 ?_
      refine o_icmp_lt (pc := 333) 346 dX12_serve_333 (by decide) (by unfold inI; omega) (by unfold inI; omega) (fun c_333 => ?_) (fun c_333 => ?_)
      · exact o_vret (pc := 346) dX12_serve_346 rfl (Nat.le_of_ble_eq_true rfl) (Nat.le_of_ble_eq_true rfl) ⟨rfl, W3.to (by rw [eN]; unfold gbE; rw [fk3, if_neg (by omega), hd3 2 (by omega), lo3 (318 + 7 * (l : Int) + 6) (by omega) (by omega), lo3 (270 + 6 * (k : Int) + 4) (by omega) (by omega), if_neg (by omega)]), F3⟩
      · refine o_aload_n (pc := 336) dX12_serve_336 5 rfl ?_
        refine o_iconst (pc := 337) dX12_serve_337 ?_
        refine o_pI (pc := 338) (j := 5) dX12_serve_338 fwX12_147 rfl rfl (W3.mE 6 hl3) ?_
        have W4 : WN G _ a (upN (gb2 N l) (318 + 7 * (l : Int) + 5) 4) B S T := W3.setE 6 hl3 5 4
        have hk4 := up_lt (N := gb2 N l) (i := 318 + 7 * (l : Int) + 5) (z := 4) (n := 8) (by omega) (by omega) hk3
        refine o_aload_n (pc := 341) dX12_serve_341 6 rfl ?_
        refine o_iconst (pc := 342) dX12_serve_342 ?_
        refine o_pZ (pc := 343) (j := 5) dX12_serve_343 fwX12_176 rfl rfl (W4.mE 5 hk4) (by omega) ?_
        exact o_vret (pc := 346) dX12_serve_346 rfl (Nat.le_of_ble_eq_true rfl) (Nat.le_of_ble_eq_true rfl) ⟨rfl, (W4.setE 5 hk4 5 1).to (by rw [eN]; unfold gbE; rw [fk3, if_neg (by omega), hd3 2 (by omega), lo3 (318 + 7 * (l : Int) + 6) (by omega) (by omega), lo3 (270 + 6 * (k : Int) + 4) (by omega) (by omega), if_pos (by omega)]; rfl), Fg_hset (Fg_hset F3 (by decide) (.inl (hW.sE 6 hl))) (by decide) (.inl (hW.sE 5 hk))⟩
    · refine o_aload_n (pc := 312) dX12_serve_312 5 rfl ?_
      refine o_iconst (pc := 313) dX12_serve_313 ?_
      refine o_pI (pc := 314) (j := 5) dX12_serve_314 fwX12_147 rfl rfl (W3.mE 6 hl3) ?_
      refine o_goto (pc := 317) 346 dX12_serve_317 (by decide) ?_
      exact o_vret (pc := 346) dX12_serve_346 rfl (Nat.le_of_ble_eq_true rfl) (Nat.le_of_ble_eq_true rfl) ⟨rfl, (W3.setE 6 hl3 5 3).to (by rw [eN]; unfold gbE; rw [fk3, if_pos (by omega)]; rfl), Fg_hset F3 (by decide) (.inl (hW.sE 6 hl))⟩
  · refine o_lconst (pc := 256) (z := 1) dX12_serve_256 (by decide) ?_
    refine o_goto (pc := 257) 261 dX12_serve_257 (by decide) ?_
    refine o_ladd (pc := 261) dX12_serve_261 ?_
    refine o_topL (y := (owedN N l * 1000 + (1000 - N (86 + 6 * (c : Int) + 2)) - 1) / (1000 - N (86 + 6 * (c : Int) + 2))) (by rw [ceil_c (by omega) (by omega), if_neg (by omega)]) ?_
    refine o_lstore (pc := 262) (lv' := [(9, _), (7, _), (6, _), (0, _), (1, _), (2, _), (3, _), (4, _), (5, _)]) dX12_serve_262 (by decide) rfl ?_
    refine o_lload (pc := 264) dX12_serve_264 0 rfl ?_
    refine o_aload (pc := 266) dX12_serve_266 7 rfl ?_
    refine o_gI (pc := 268) (j := 2) dX12_serve_268 flX12_114 rfl rfl (hW.mE 3 hy) (hW.p2 hy) ?_
    refine o_i2l (pc := 271) dX12_serve_271 (by unfold inI; omega) ?_
    refine o_minl (pc := 272) dX12_serve_272 lmX12_199 (by unfold inL; omega) (by unfold inL; omega) (Nat.le_of_ble_eq_true rfl) (Nat.le_of_ble_eq_true rfl) (Nat.le_of_ble_eq_true rfl) (Nat.le_of_ble_eq_true rfl) ?_
    refine o_iload (pc := 275) dX12_serve_275 2 rfl ?_
    refine o_i2l (pc := 277) dX12_serve_277 (by unfold inI; omega) ?_
    refine o_minl (pc := 278) dX12_serve_278 lmX12_199 (by unfold inL; omega) (by unfold inL; omega) (Nat.le_of_ble_eq_true rfl) (Nat.le_of_ble_eq_true rfl) (Nat.le_of_ble_eq_true rfl) (Nat.le_of_ble_eq_true rfl) ?_
    refine o_l2i (pc := 281) dX12_serve_281 ?_
    refine o_topI (y := gbA N l) (by rw [eA]; omega) ?_
    refine o_istore (pc := 282) (lv' := [(11, _), (9, _), (7, _), (6, _), (0, _), (1, _), (2, _), (3, _), (4, _), (5, _)]) dX12_serve_282 (by decide) rfl ?_
    refine o_aload_n (pc := 284) dX12_serve_284 5 rfl ?_
    refine o_dup (pc := 285) dX12_serve_285 rfl ?_
    refine o_gI (pc := 286) (j := 4) dX12_serve_286 flX12_154 rfl rfl (hW.mE 6 hl) (hW.n4 hl) ?_
    refine o_aload_n (pc := 289) dX12_serve_289 4 rfl ?_
    refine o_aload (pc := 290) dX12_serve_290 9 rfl ?_
    refine o_aload (pc := 292) dX12_serve_292 8 rfl ?_
    refine o_aload_n (pc := 294) dX12_serve_294 7 rfl ?_
    refine o_iload (pc := 295) dX12_serve_295 0 rfl ?_
    refine o_callV (pc := 297) _ dX12_serve_297 (cw_through hW hc hy hx (x := gbA N l) CB.1 QY.1 QY.2.1 QY.2.2 (by omega) SD.1 SD.2 hF.n) lkX12_243 rfl rfl rfl rfl hW.mW ⟨⟨(Nat.le_of_ble_eq_true rfl), (Nat.le_of_ble_eq_true rfl)⟩, (Nat.le_of_ble_eq_true rfl), (Nat.le_of_ble_eq_true rfl)⟩ (Nat.le_of_ble_eq_true rfl) rfl (fun v h2 hq2 => ?_)
    obtain ⟨rfl, hW2x, F2⟩ := hq2
    have e9 : sendsN N c y x (gbA N l) = gb1 N l := by
      unfold gb1 cbN
      rw [fk, fx, fy, fc]
    have W2 := hW2x.to e9
    have lo2 : ∀ j, 158 ≤ j → gb1 N l j = N j := fun j j1 => by { rw [← e9, sendsN_lo (by omega) (by omega) (by omega) j1 (by omega) (by omega) (by omega)] }
    have hd2 : ∀ j, 0 ≤ j ∧ j < 10 → gb1 N l j = N j := fun j j1 => by { rw [← e9, sendsN_hd j1 (by omega) (by omega) (by omega)] }
    have hl2 : (l : Int) < gb1 N l 9 := by { rw [hd2 _ (by omega)]; exact hl }
    refine o_iadd (pc := 300) dX12_serve_300 ?_
    refine o_topI (y := gb1 N l (318 + 7 * (l : Int) + 4) + gbR N l) (by rw [lo2 _ (by omega), eR]) ?_
    refine o_pI (pc := 301) (j := 4) dX12_serve_301 fwX12_154 rfl rfl (W2.mE 6 hl2) ?_
    have W3 : WN G _ a (gb2 N l) B S T := W2.setE 6 hl2 4 (gb1 N l (318 + 7 * (l : Int) + 4) + gbR N l)
    have F3 := Fg_hset (k := 55) (j := ((4 : Nat) : Int)) (z := gb1 N l (318 + 7 * (l : Int) + 4) + gbR N l) (hF.t F2) (by decide) (.inl (hW.sE 6 hl))
    have lo3 : ∀ j, 158 ≤ j → j ≠ 318 + 7 * (l : Int) + 4 → gb2 N l j = N j := fun j j1 j2 => by { unfold gb2; rw [upN_off j2, lo2 j j1] }
    have hd3 : ∀ j, 0 ≤ j ∧ j < 10 → gb2 N l j = N j := fun j j1 => by { unfold gb2; rw [upN_off (by omega), hd2 _ j1] }
    have hl3 : (l : Int) < gb2 N l 9 := by { rw [hd3 _ (by omega)]; exact hl }
    have hk3 : (k : Int) < gb2 N l 8 := by { rw [hd3 _ (by omega)]; exact hk }
    have GN3 : GN (gb2 N l) := GB.1 ▸ GB.2.1
    have LL3 := GN3.ln (q := (l : Int)) (by omega) hl3
    have ob3 := owedN_b LL3
    have eN : gbN N l = gbE (gb2 N l) l := by { unfold gbN; rw [GB.1] }
    have fk3 : gb2 N l (318 + 7 * (l : Int) + 0) = k := by { rw [lo3 _ (by omega) (by omega)]; exact fk }
    refine o_aload_n (pc := 304) dX12_serve_304 4 rfl ?_
    refine o_aload_n (pc := 305) dX12_serve_305 5 rfl ?_
    refine o_callV (pc := 306) _ dX12_serve_306 (cw_owed W3 hl3 LL3) lkX12_166 rfl rfl rfl rfl W3.mW ⟨⟨(Nat.le_of_ble_eq_true rfl), (Nat.le_of_ble_eq_true rfl)⟩, (Nat.le_of_ble_eq_true rfl), (Nat.le_of_ble_eq_true rfl)⟩ (Nat.le_of_ble_eq_true rfl) rfl (fun v h2 hq2 => ?_)
    obtain ⟨rfl, rfl⟩ := hq2
    refine o_if_ne (pc := 309) 320 dX12_serve_309 (by decide) (by unfold inI; omega) (fun c_309 => ?_) (fun c_309 => ?_)
    · refine o_aload_n (pc := 320) dX12_serve_320 4 rfl ?_
      refine o_gI (pc := 321) (j := 2) dX12_serve_321 flX12_42 rfl rfl W3.mW (W3.w2.trans (hd3 _ (by omega))) ?_
      refine o_aload_n (pc := 324) dX12_serve_324 5 rfl ?_
      refine o_gI (pc := 325) (j := 6) dX12_serve_325 flX12_235 rfl rfl (W3.mE 6 hl3) ((W3.n6 hl3).trans (lo3 _ (by omega) (by omega))) ?_
      refine o_aload_n (pc := 328) dX12_serve_328 6 rfl ?_
      refine o_gI (pc := 329) (j := 4) dX12_serve_329 flX12_247 rfl rfl (W3.mE 5 hk3) ((W3.k4 hk3).trans (lo3 _ (by omega) (by omega))) ?_
      refine o_iadd (pc := 332) dX12_serve_332 ?_
      refine o_icmp_lt (pc := 333) 346 dX12_serve_333 (by decide) (by unfold inI; omega) (by unfold inI; omega) (fun c_333 => ?_) (fun c_333 => ?_)
      · exact o_vret (pc := 346) dX12_serve_346 rfl (Nat.le_of_ble_eq_true rfl) (Nat.le_of_ble_eq_true rfl) ⟨rfl, W3.to (by rw [eN]; unfold gbE; rw [fk3, if_neg (by omega), hd3 2 (by omega), lo3 (318 + 7 * (l : Int) + 6) (by omega) (by omega), lo3 (270 + 6 * (k : Int) + 4) (by omega) (by omega), if_neg (by omega)]), F3⟩
      · refine o_aload_n (pc := 336) dX12_serve_336 5 rfl ?_
        refine o_iconst (pc := 337) dX12_serve_337 ?_
        refine o_pI (pc := 338) (j := 5) dX12_serve_338 fwX12_147 rfl rfl (W3.mE 6 hl3) ?_
        have W4 : WN G _ a (upN (gb2 N l) (318 + 7 * (l : Int) + 5) 4) B S T := W3.setE 6 hl3 5 4
        have hk4 := up_lt (N := gb2 N l) (i := 318 + 7 * (l : Int) + 5) (z := 4) (n := 8) (by omega) (by omega) hk3
        refine o_aload_n (pc := 341) dX12_serve_341 6 rfl ?_
        refine o_iconst (pc := 342) dX12_serve_342 ?_
        refine o_pZ (pc := 343) (j := 5) dX12_serve_343 fwX12_176 rfl rfl (W4.mE 5 hk4) (by omega) ?_
        exact o_vret (pc := 346) dX12_serve_346 rfl (Nat.le_of_ble_eq_true rfl) (Nat.le_of_ble_eq_true rfl) ⟨rfl, (W4.setE 5 hk4 5 1).to (by rw [eN]; unfold gbE; rw [fk3, if_neg (by omega), hd3 2 (by omega), lo3 (318 + 7 * (l : Int) + 6) (by omega) (by omega), lo3 (270 + 6 * (k : Int) + 4) (by omega) (by omega), if_pos (by omega)]; rfl), Fg_hset (Fg_hset F3 (by decide) (.inl (hW.sE 6 hl))) (by decide) (.inl (hW.sE 5 hk))⟩
    · refine o_aload_n (pc := 312) dX12_serve_312 5 rfl ?_
      refine o_iconst (pc := 313) dX12_serve_313 ?_
      refine o_pI (pc := 314) (j := 5) dX12_serve_314 fwX12_147 rfl rfl (W3.mE 6 hl3) ?_
      refine o_goto (pc := 317) 346 dX12_serve_317 (by decide) ?_
      exact o_vret (pc := 346) dX12_serve_346 rfl (Nat.le_of_ble_eq_true rfl) (Nat.le_of_ble_eq_true rfl) ⟨rfl, (W3.setE 6 hl3 5 3).to (by rw [eN]; unfold gbE; rw [fk3, if_pos (by omega)]; rfl), Fg_hset F3 (by decide) (.inl (hW.sE 6 hl))⟩
theorem sv_none {G : GG} {h h1 : Hp} {a : Nat} {N : Int → Int} {B : Bok} {S T : Nat → Prop} (hW : WN G h1 a N B S T) (hF : Fg S h h1) (hg : G8 N) {l k x y c : Nat} (hl : (l : Int) < N 9) (fk : N (318 + 7 * (l : Int) + 0) = k) (fx : N (270 + 6 * (k : Int) + 0) = x) (fy : N (270 + 6 * (k : Int) + 1) = y) (fc : betN N x y = c) (hk : (k : Int) < N 8) (hx : (x : Int) < N 3) (hy : (y : Int) < N 3) (hc : (c : Int) < N 5) (h5 : N (318 + 7 * (l : Int) + 5) ≠ 0 ∧ N (318 + 7 * (l : Int) + 5) ≠ 2) : YY G MX12_serve (rmL 6 1 4) 84 [(0, rf G 51 a), (1, rf G 55 (bE B 6 l)), (2, rf G 54 (bE B 5 k)), (3, rf G 52 (bE B 3 x)), (4, rf G 52 (bE B 3 y)), (5, rf G 53 (bE B 4 c))] [] h1 1 4 (fun v h2 => v = none ∧ WN G h2 a (N) B S T ∧ Fg S h h2) := by
  have gn := hg.gn
  have n9 := hW.nb 6
  change 0 ≤ N 9 ∧ N 9 ≤ 16 at n9
  have n8 := hW.nb 5
  change 0 ≤ N 8 ∧ N 8 ≤ 8 at n8
  have n3 := hW.nb 3
  change 0 ≤ N 3 ∧ N 3 ≤ 8 at n3
  have n5 := hW.nb 4
  change 0 ≤ N 5 ∧ N 5 ≤ 12 at n5
  have LL := gn.ln (q := (l : Int)) (by omega) hl
  obtain ⟨l1, l2, l3, l4, l5, l6, l7⟩ := id LL
  have LG := gn.loan (l := (l : Int)) (by omega) hl
  have CB := hg.cab (c := (c : Int)) (by omega) hc
  have CK := gn.con (k := (k : Int)) (by omega) hk
  have TM := gn.time
  have fb : freeN N c = max 0 (N (86 + 6 * (c : Int) + 3) - N (86 + 6 * (c : Int) + 4)) := rfl
  refine o_iconst (pc := 84) dX12_serve_84 ?_
  refine o_aload (pc := 85) dX12_serve_85 5 rfl ?_
  refine o_gI (pc := 87) (j := 3) dX12_serve_87 flX12_238 rfl rfl (hW.mE 4 hc) (hW.c3 hc) ?_
  refine o_aload (pc := 90) dX12_serve_90 5 rfl ?_
  refine o_gI (pc := 92) (j := 4) dX12_serve_92 flX12_212 rfl rfl (hW.mE 4 hc) (hW.c4 hc) ?_
  refine o_isub (pc := 95) dX12_serve_95 ?_
  refine o_max (pc := 96) dX12_serve_96 lmX12_157 (by unfold inI; omega) (by unfold inI; omega) (Nat.le_of_ble_eq_true rfl) (Nat.le_of_ble_eq_true rfl) (Nat.le_of_ble_eq_true rfl) (Nat.le_of_ble_eq_true rfl) ?_
  refine o_topI (y := freeN N c) rfl ?_
  refine o_istore (pc := 99) (lv' := [(6, _), (0, _), (1, _), (2, _), (3, _), (4, _), (5, _)]) dX12_serve_99 (by decide) rfl ?_
  refine o_aload_n (pc := 101) dX12_serve_101 2 rfl ?_
  refine o_gI (pc := 102) (j := 5) dX12_serve_102 flX12_147 rfl rfl (hW.mE 6 hl) (hW.n5 hl) ?_
  refine o_if_ne (pc := 105) 204 dX12_serve_105 (by decide) (by unfold inI; omega) (fun c_105 => ?_) (fun c_105 => absurd c_105 (by omega))
  refine o_aload_n (pc := 204) dX12_serve_204 2 rfl ?_
  refine o_gI (pc := 205) (j := 5) dX12_serve_205 flX12_147 rfl rfl (hW.mE 6 hl) (hW.n5 hl) ?_
  refine o_iconst (pc := 208) dX12_serve_208 ?_
  refine o_icmp_eq (pc := 209) 213 dX12_serve_209 (by decide) (by unfold inI; omega) (by unfold inI; omega) (fun c_209 => absurd c_209 (by omega)) (fun c_209 => ?_)
  exact o_vret (pc := 212) dX12_serve_212 rfl (Nat.le_of_ble_eq_true rfl) (Nat.le_of_ble_eq_true rfl) ⟨rfl, hW, hF⟩
theorem sv_84 {G : GG} {h h1 : Hp} {a : Nat} {N : Int → Int} {B : Bok} {S T : Nat → Prop} (hW : WN G h1 a N B S T) (hF : Fg S h h1) (hg : G8 N) {l k x y c : Nat} (hl : (l : Int) < N 9) (fk : N (318 + 7 * (l : Int) + 0) = k) (fx : N (270 + 6 * (k : Int) + 0) = x) (fy : N (270 + 6 * (k : Int) + 1) = y) (fc : betN N x y = c) (hk : (k : Int) < N 8) (hx : (x : Int) < N 3) (hy : (y : Int) < N 3) (hc : (c : Int) < N 5) : YY G MX12_serve (rmL 6 1 4) 84 [(0, rf G 51 a), (1, rf G 55 (bE B 6 l)), (2, rf G 54 (bE B 5 k)), (3, rf G 52 (bE B 3 x)), (4, rf G 52 (bE B 3 y)), (5, rf G 53 (bE B 4 c))] [] h1 1 4 (fun v h2 => v = none ∧ WN G h2 a (if N (318 + 7 * (l : Int) + 5) = 0 then snN N l else if N (318 + 7 * (l : Int) + 5) = 2 then gbN N l else N) B S T ∧ Fg S h h2) := by
  by_cases c0 : N (318 + 7 * (l : Int) + 5) = 0
  · rw [if_pos c0]
    exact sv_send hW hF hg hl fk fx fy fc hk hx hy hc c0
  · rw [if_neg c0]
    by_cases c2 : N (318 + 7 * (l : Int) + 5) = 2
    · rw [if_pos c2]
      exact sv_back hW hF hg hl fk fx fy fc hk hx hy hc c2
    · rw [if_neg c2]
      exact sv_none hW hF hg hl fk fx fy fc hk hx hy hc ⟨c0, c2⟩
