/-! the law's world: its numbers by name; room, quarter, weight, spill, take, give, above, owed -/
section WA
variable {G : GG} {h : Hp} {a : Nat} {N : Int → Int} {B : Bok} {S T : Nat → Prop}
theorem WN.w0 (hW : WN G h a N B S T) : h.2.1 51 a 0 = N 0 := hW.wf 0
theorem WN.w1 (hW : WN G h a N B S T) : h.2.1 51 a 1 = N 1 := hW.wf 1
theorem WN.w2 (hW : WN G h a N B S T) : h.2.1 51 a 2 = N 2 := hW.wf 2
theorem WN.w3 (hW : WN G h a N B S T) : h.2.1 51 a 3 = N 10 := hW.wf 3
theorem WN.w4 (hW : WN G h a N B S T) : h.2.1 51 a 4 = N 11 := hW.wf 4
theorem WN.w5 (hW : WN G h a N B S T) : h.2.1 51 a 5 = N 12 := hW.wf 5
theorem WN.w6 (hW : WN G h a N B S T) : h.2.1 51 a 6 = N 13 := hW.wf 6
theorem WN.p0 (hW : WN G h a N B S T) {q : Nat} (hq : (q : Int) < N 3) : h.2.1 52 (bE B 3 q) 0 = N (30 + 7 * (q : Int) + 0) := hW.e 3 hq 0
theorem WN.p1 (hW : WN G h a N B S T) {q : Nat} (hq : (q : Int) < N 3) : h.2.1 52 (bE B 3 q) 1 = N (30 + 7 * (q : Int) + 3) := hW.e 3 hq 1
theorem WN.p2 (hW : WN G h a N B S T) {q : Nat} (hq : (q : Int) < N 3) : h.2.1 52 (bE B 3 q) 2 = N (30 + 7 * (q : Int) + 1) := hW.e 3 hq 2
theorem WN.p3 (hW : WN G h a N B S T) {q : Nat} (hq : (q : Int) < N 3) : h.2.1 52 (bE B 3 q) 3 = N (30 + 7 * (q : Int) + 2) := hW.e 3 hq 3
theorem WN.p4 (hW : WN G h a N B S T) {q : Nat} (hq : (q : Int) < N 3) : h.2.1 52 (bE B 3 q) 4 = N (30 + 7 * (q : Int) + 4) := hW.e 3 hq 4
theorem WN.p5 (hW : WN G h a N B S T) {q : Nat} (hq : (q : Int) < N 3) : h.2.1 52 (bE B 3 q) 5 = N (30 + 7 * (q : Int) + 5) := hW.e 3 hq 5
theorem WN.p6 (hW : WN G h a N B S T) {q : Nat} (hq : (q : Int) < N 3) : h.2.1 52 (bE B 3 q) 6 = N (30 + 7 * (q : Int) + 6) := hW.e 3 hq 6
theorem WN.c0 (hW : WN G h a N B S T) {q : Nat} (hq : (q : Int) < N 5) : h.2.1 53 (bE B 4 q) 0 = N (86 + 6 * (q : Int) + 0) := hW.e 4 hq 0
theorem WN.c1 (hW : WN G h a N B S T) {q : Nat} (hq : (q : Int) < N 5) : h.2.1 53 (bE B 4 q) 1 = N (86 + 6 * (q : Int) + 1) := hW.e 4 hq 1
theorem WN.c2 (hW : WN G h a N B S T) {q : Nat} (hq : (q : Int) < N 5) : h.2.1 53 (bE B 4 q) 2 = N (86 + 6 * (q : Int) + 2) := hW.e 4 hq 2
theorem WN.c3 (hW : WN G h a N B S T) {q : Nat} (hq : (q : Int) < N 5) : h.2.1 53 (bE B 4 q) 3 = N (86 + 6 * (q : Int) + 3) := hW.e 4 hq 3
theorem WN.c4 (hW : WN G h a N B S T) {q : Nat} (hq : (q : Int) < N 5) : h.2.1 53 (bE B 4 q) 4 = N (86 + 6 * (q : Int) + 4) := hW.e 4 hq 4
theorem WN.c5 (hW : WN G h a N B S T) {q : Nat} (hq : (q : Int) < N 5) : h.2.1 53 (bE B 4 q) 5 = N (86 + 6 * (q : Int) + 5) := hW.e 4 hq 5
theorem WN.k0 (hW : WN G h a N B S T) {q : Nat} (hq : (q : Int) < N 8) : h.2.1 54 (bE B 5 q) 0 = N (270 + 6 * (q : Int) + 0) := hW.e 5 hq 0
theorem WN.k1 (hW : WN G h a N B S T) {q : Nat} (hq : (q : Int) < N 8) : h.2.1 54 (bE B 5 q) 1 = N (270 + 6 * (q : Int) + 1) := hW.e 5 hq 1
theorem WN.k2 (hW : WN G h a N B S T) {q : Nat} (hq : (q : Int) < N 8) : h.2.1 54 (bE B 5 q) 2 = N (270 + 6 * (q : Int) + 2) := hW.e 5 hq 2
theorem WN.k3 (hW : WN G h a N B S T) {q : Nat} (hq : (q : Int) < N 8) : h.2.1 54 (bE B 5 q) 3 = N (270 + 6 * (q : Int) + 3) := hW.e 5 hq 3
theorem WN.k4 (hW : WN G h a N B S T) {q : Nat} (hq : (q : Int) < N 8) : h.2.1 54 (bE B 5 q) 4 = N (270 + 6 * (q : Int) + 4) := hW.e 5 hq 4
theorem WN.k5 (hW : WN G h a N B S T) {q : Nat} (hq : (q : Int) < N 8) : h.2.1 54 (bE B 5 q) 5 = N (270 + 6 * (q : Int) + 5) := hW.e 5 hq 5
theorem WN.n0 (hW : WN G h a N B S T) {q : Nat} (hq : (q : Int) < N 9) : h.2.1 55 (bE B 6 q) 0 = N (318 + 7 * (q : Int) + 0) := hW.e 6 hq 0
theorem WN.n1 (hW : WN G h a N B S T) {q : Nat} (hq : (q : Int) < N 9) : h.2.1 55 (bE B 6 q) 1 = N (318 + 7 * (q : Int) + 1) := hW.e 6 hq 1
theorem WN.n2 (hW : WN G h a N B S T) {q : Nat} (hq : (q : Int) < N 9) : h.2.1 55 (bE B 6 q) 2 = N (318 + 7 * (q : Int) + 2) := hW.e 6 hq 2
theorem WN.n3 (hW : WN G h a N B S T) {q : Nat} (hq : (q : Int) < N 9) : h.2.1 55 (bE B 6 q) 3 = N (318 + 7 * (q : Int) + 3) := hW.e 6 hq 3
theorem WN.n4 (hW : WN G h a N B S T) {q : Nat} (hq : (q : Int) < N 9) : h.2.1 55 (bE B 6 q) 4 = N (318 + 7 * (q : Int) + 4) := hW.e 6 hq 4
theorem WN.n5 (hW : WN G h a N B S T) {q : Nat} (hq : (q : Int) < N 9) : h.2.1 55 (bE B 6 q) 5 = N (318 + 7 * (q : Int) + 5) := hW.e 6 hq 5
theorem WN.n6 (hW : WN G h a N B S T) {q : Nat} (hq : (q : Int) < N 9) : h.2.1 55 (bE B 6 q) 6 = N (318 + 7 * (q : Int) + 6) := hW.e 6 hq 6
theorem WN.cv (hW : WN G h a N B S T) {q : Nat} (hq : (q : Int) < N 4) {z : Int} (hz : 0 ≤ z ∧ z < 4) : h.2.1 (ak 0 4) (bE B 0 q) z = N (14 + 4 * (q : Int) + z) := by
  have e : ((z.toNat : Nat) : Int) = z := Int.toNat_of_nonneg hz.1
  have k := hW.e 0 hq z.toNat (show z.toNat < 4 by omega)
  rw [e] at k
  refine k.trans ?_
  show N (14 + 4 * (q : Int) + ((z.toNat : Nat) : Int)) = _
  rw [e]
theorem WN.sv (hW : WN G h a N B S T) {q : Nat} (hq : (q : Int) < N 6) {z : Int} (hz : 0 ≤ z ∧ z < 4) : h.2.1 (ak 0 4) (bE B 1 q) z = N (158 + 4 * (q : Int) + z) := by
  have e : ((z.toNat : Nat) : Int) = z := Int.toNat_of_nonneg hz.1
  have k := hW.e 1 hq z.toNat (show z.toNat < 4 by omega)
  rw [e] at k
  refine k.trans ?_
  show N (158 + 4 * (q : Int) + ((z.toNat : Nat) : Int)) = _
  rw [e]
theorem WN.tv (hW : WN G h a N B S T) {q : Nat} (hq : (q : Int) < N 7) {z : Int} (hz : 0 ≤ z ∧ z < 4) : h.2.1 (ak 0 4) (bE B 2 q) z = N (206 + 4 * (q : Int) + z) := by
  have e : ((z.toNat : Nat) : Int) = z := Int.toNat_of_nonneg hz.1
  have k := hW.e 2 hq z.toNat (show z.toNat < 4 by omega)
  rw [e] at k
  refine k.trans ?_
  show N (206 + 4 * (q : Int) + ((z.toNat : Nat) : Int)) = _
  rw [e]
theorem up_lt {N : Int → Int} {n i z : Int} {q : Nat} (hi : i < 3 ∨ 10 ≤ i) (hn : 3 ≤ n ∧ n < 10) (hq : (q : Int) < N n) : (q : Int) < upN N i z n := by rw [upN_off (by omega)]; exact hq
end WA
/-- a row that a memory of the class's kind stands behind -/
def GN (N : Int → Int) : Prop := ∃ (m : Mem) (p s : Nat), BP m p ∧ BS m p s ∧ RP m p N ∧ RS m p s N
theorem GN.pn {N : Int → Int} (h : GN N) {q : Int} (h0 : 0 ≤ q) (h1 : q < N 3) : PN N q := by
  obtain ⟨m, p, s, a, b, c, d⟩ := h
  exact PN_of a b c d h0 (by rw [← c.1.2.2.1]; exact h1)
theorem GN.qn {N : Int → Int} (h : GN N) {q : Int} (h0 : 0 ≤ q) (h1 : q < N 3) : QN N q := by
  obtain ⟨m, p, s, a, b, c, d⟩ := h
  exact QN_of a b c d h0 (by rw [← c.1.2.2.1]; exact h1)
theorem GN.ln {N : Int → Int} (h : GN N) {q : Int} (h0 : 0 ≤ q) (h1 : q < N 9) : LN N q := by
  obtain ⟨m, p, s, a, b, c, d⟩ := h
  exact LN_of a b c d h0 (by rw [← d.1.2.2.2.2.2.2]; exact h1)
theorem GN.cur {N : Int → Int} (h : GN N) {q : Int} (h0 : 0 ≤ q) (h1 : q < N 3) : N (30 + 7 * q + 3) = -1 ∨ 0 ≤ N (30 + 7 * q + 3) ∧ N (30 + 7 * q + 3) < N 4 := by
  obtain ⟨m, p, s, a, b, c, d⟩ := h
  have h1' : q < m 22 p 2 := by rw [← c.1.2.2.1]; exact h1
  have e := (a.2.2.2.2.2.2.2.1 q h0 h1').2
  rw [(c.2.1 q h0 h1').2, c.1.2.2.2.1]
  exact e
def CW (N : Int → Int) (q : Int) : Prop := N (30 + 7 * q + 3) = -1 ∨ 0 ≤ N (30 + 7 * q + 3) ∧ N (30 + 7 * q + 3) < N 4
theorem cw_room {G : GG} {h : Hp} {a : Nat} {N : Int → Int} {B : Bok} {S T : Nat → Prop} (hW : WN G h a N B S T) {q : Nat} (hq : (q : Int) < N 3) (hp : PN N q) : Cy G MX12_room (rmL 0 0 0) [rf G 51 a, rf G 52 (bE B 3 q)] h (fun v h1 => v = some (.int (iI (roomN N q))) ∧ h1 = h) := by
  refine o_entry (by decide +kernel) mwX12_room rfl (Nat.le_of_ble_eq_true rfl) ?_
  show YY G MX12_room (rmL 0 0 0) 0 [(0, rf G 51 a), (1, rf G 52 (bE B 3 q))] [] h 0 0 _
  obtain ⟨p1, p2, p3, p4, p5⟩ := id hp
  have d0 : 0 ≤ N (30 + 7 * (q : Int) + 2) / N 0 := Int.ediv_nonneg (by omega) (by omega)
  have d1 : N (30 + 7 * (q : Int) + 2) / N 0 ≤ N (30 + 7 * (q : Int) + 2) := Int.ediv_le_self _ (by omega)
  refine o_aload_n (pc := 0) dX12_room_0 1 rfl ?_
  refine o_gI (pc := 1) (j := 0) dX12_room_1 flX12_106 rfl rfl (hW.mE 3 hq) (hW.p0 hq) ?_
  refine o_aload_n (pc := 4) dX12_room_4 1 rfl ?_
  refine o_gI (pc := 5) (j := 3) dX12_room_5 flX12_109 rfl rfl (hW.mE 3 hq) (hW.p3 hq) ?_
  refine o_aload_n (pc := 8) dX12_room_8 0 rfl ?_
  refine o_gI (pc := 9) (j := 0) dX12_room_9 flX12_7 rfl rfl hW.mW (hW.w0) ?_
  refine o_idiv (pc := 12) dX12_room_12 (by omega) (by omega) ?_
  refine o_isub (pc := 13) dX12_room_13 ?_
  refine o_istore_n (pc := 14) (lv' := [(2, _), (0, _), (1, _)]) dX12_room_14 rfl (by decide) rfl ?_
  refine o_aload_n (pc := 15) dX12_room_15 2 rfl ?_
  refine o_gI (pc := 16) (j := 0) dX12_room_16 flX12_106 rfl rfl (hW.mE 3 hq) (hW.p0 hq) ?_
  refine o_iconst (pc := 19) dX12_room_19 ?_
  refine o_iadd (pc := 20) dX12_room_20 ?_
  refine o_iconst (pc := 21) dX12_room_21 ?_
  refine o_idiv (pc := 22) dX12_room_22 (by omega) (by omega) ?_
  refine o_istore_n (pc := 23) (lv' := [(3, _), (2, _), (0, _), (1, _)]) dX12_room_23 rfl (by decide) rfl ?_
  refine o_iload_n (pc := 24) dX12_room_24 1 rfl ?_
  refine o_iload_n (pc := 25) dX12_room_25 0 rfl ?_
  refine o_icmp_le (pc := 26) 33 dX12_room_26 (by decide) (by unfold inI; omega) (by unfold inI; omega) (fun c_26 => ?_) (fun c_26 => ?_)
  · refine o_iload_n (pc := 33) dX12_room_33 0 rfl ?_
    exact o_iret (pc := 34) dX12_room_34 rfl (Nat.le_of_ble_eq_true rfl) (Nat.le_of_ble_eq_true rfl) ⟨by congr 3; unfold roomN; omega, rfl⟩
  · refine o_iload_n (pc := 29) dX12_room_29 1 rfl ?_
    refine o_goto (pc := 30) 34 dX12_room_30 (by decide) ?_
    exact o_iret (pc := 34) dX12_room_34 rfl (Nat.le_of_ble_eq_true rfl) (Nat.le_of_ble_eq_true rfl) ⟨by congr 3; unfold roomN; omega, rfl⟩
theorem cw_quarter {G : GG} {h : Hp} {a : Nat} {N : Int → Int} {B : Bok} {S T : Nat → Prop} (hW : WN G h a N B S T) {q : Nat} (hq : (q : Int) < N 3) (hp : PN N q) : Cy G MX12_quarter (rmL 1 0 0) [rf G 51 a, rf G 52 (bE B 3 q)] h (fun v h1 => v = some (.int (iI (quartN N q))) ∧ h1 = h) := by
  refine o_entry (by decide +kernel) mwX12_quarter rfl (Nat.le_of_ble_eq_true rfl) ?_
  show YY G MX12_quarter (rmL 1 0 0) 0 [(0, rf G 51 a), (1, rf G 52 (bE B 3 q))] [] h 0 0 _
  have rb := roomN_b hp
  obtain ⟨p1, p2, p3, p4, p5⟩ := id hp
  have d0 : 0 ≤ 4 * N (30 + 7 * (q : Int) + 1) / roomN N q := Int.ediv_nonneg (by omega) (by omega)
  have d1 : 4 * N (30 + 7 * (q : Int) + 1) / roomN N q ≤ 4 * N (30 + 7 * (q : Int) + 1) := Int.ediv_le_self _ (by omega)
  refine o_ldc2 (pc := 0) (z := 4) dX12_quarter_0 kcX12_112 (by decide) ?_
  refine o_aload_n (pc := 3) dX12_quarter_3 1 rfl ?_
  refine o_gI (pc := 4) (j := 2) dX12_quarter_4 flX12_114 rfl rfl (hW.mE 3 hq) (hW.p2 hq) ?_
  refine o_i2l (pc := 7) dX12_quarter_7 (by unfold inI; omega) ?_
  refine o_lmul (pc := 8) dX12_quarter_8 ?_
  refine o_aload_n (pc := 9) dX12_quarter_9 0 rfl ?_
  refine o_aload_n (pc := 10) dX12_quarter_10 1 rfl ?_
  refine o_callV (pc := 11) _ dX12_quarter_11 (cw_room hW hq hp) lkX12_117 rfl rfl rfl rfl hW.mW ⟨⟨(Nat.le_of_ble_eq_true rfl), (Nat.le_of_ble_eq_true rfl)⟩, (Nat.le_of_ble_eq_true rfl), (Nat.le_of_ble_eq_true rfl)⟩ (Nat.le_of_ble_eq_true rfl) rfl (fun v h1 hq2 => ?_)
  obtain ⟨rfl, rfl⟩ := hq2
  refine o_i2l (pc := 14) dX12_quarter_14 (by unfold inI; omega) ?_
  refine o_ldiv (pc := 15) dX12_quarter_15 (by omega) (by omega) ?_
  refine o_l2i (pc := 16) dX12_quarter_16 ?_
  refine o_istore_n (pc := 17) (lv' := [(2, _), (0, _), (1, _)]) dX12_quarter_17 rfl (by decide) rfl ?_
  refine o_iload_n (pc := 18) dX12_quarter_18 0 rfl ?_
  refine o_iconst (pc := 19) dX12_quarter_19 ?_
  refine o_icmp_le (pc := 20) 27 dX12_quarter_20 (by decide) (by unfold inI; omega) (by unfold inI; omega) (fun c_20 => ?_) (fun c_20 => ?_)
  · refine o_iload_n (pc := 27) dX12_quarter_27 0 rfl ?_
    exact o_iret (pc := 28) dX12_quarter_28 rfl (Nat.le_of_ble_eq_true rfl) (Nat.le_of_ble_eq_true rfl) ⟨by congr 3; unfold quartN; omega, rfl⟩
  · refine o_iconst (pc := 23) dX12_quarter_23 ?_
    refine o_goto (pc := 24) 28 dX12_quarter_24 (by decide) ?_
    exact o_iret (pc := 28) dX12_quarter_28 rfl (Nat.le_of_ble_eq_true rfl) (Nat.le_of_ble_eq_true rfl) ⟨by congr 3; unfold quartN; omega, rfl⟩
theorem cw_weight {G : GG} {h : Hp} {a : Nat} {N : Int → Int} {B : Bok} {S T : Nat → Prop} (hW : WN G h a N B S T) {q : Nat} (hq : (q : Int) < N 3) (hp : PN N q) (hk : QN N q) (hc : CW N q) : Cy G MX12_weight (rmL 3 0 0) [rf G 51 a, rf G 52 (bE B 3 q)] h (fun v h1 => v = some (.int (iI (weightN N q))) ∧ h1 = h) := by
  refine o_entry (by decide +kernel) mwX12_weight rfl (Nat.le_of_ble_eq_true rfl) ?_
  show YY G MX12_weight (rmL 3 0 0) 0 [(0, rf G 51 a), (1, rf G 52 (bE B 3 q))] [] h 0 0 _
  have qb := quartN_b hp
  have n4 := hW.nb 0
  change 0 ≤ N 4 ∧ N 4 ≤ 4 at n4
  unfold CW at hc
  refine o_aload_n (pc := 0) dX12_weight_0 1 rfl ?_
  refine o_gI (pc := 1) (j := 1) dX12_weight_1 flX12_121 rfl rfl (hW.mE 3 hq) (hW.p1 hq) ?_
  refine o_if_ge (pc := 4) 11 dX12_weight_4 (by decide) (by unfold inI; omega) (fun c_4 => ?_) (fun c_4 => ?_)
  · refine o_aload_n (pc := 11) dX12_weight_11 0 rfl ?_
    refine o_gR (pc := 12) (j := 7) (56) ((B.1 0)) dX12_weight_12 flX12_19 rfl rfl hW.mW (hW.r 0) ?_
    refine o_aload_n (pc := 15) dX12_weight_15 1 rfl ?_
    refine o_gI (pc := 16) (j := 1) dX12_weight_16 flX12_121 rfl rfl (hW.mE 3 hq) (hW.p1 hq) ?_
    refine o_callV (pc := 19) _ dX12_weight_19 (cl_get (hW.l 0) (by omega) (by show _ < (((N 4).toNat : Nat) : Int); omega)) lkX12_124 rfl rfl rfl rfl (hW.l 0).1 ⟨⟨(Nat.le_of_ble_eq_true rfl), (Nat.le_of_ble_eq_true rfl)⟩, (Nat.le_of_ble_eq_true rfl), (Nat.le_of_ble_eq_true rfl)⟩ (Nat.le_of_ble_eq_true rfl) rfl (fun v h1 hq2 => ?_)
    obtain ⟨rfl, rfl⟩ := hq2
    refine o_castI (pc := 22) dX12_weight_22 clX12_76 (shp_ak (by decide)) (hW.mE 0 (q := (N (30 + 7 * (q : Int) + 3)).toNat) (by show _ < N 4; omega)) ?_
    refine o_aload_n (pc := 25) dX12_weight_25 0 rfl ?_
    refine o_aload_n (pc := 26) dX12_weight_26 1 rfl ?_
    refine o_callV (pc := 27) _ dX12_weight_27 (cw_quarter hW hq hp) lkX12_128 rfl rfl rfl rfl hW.mW ⟨⟨(Nat.le_of_ble_eq_true rfl), (Nat.le_of_ble_eq_true rfl)⟩, (Nat.le_of_ble_eq_true rfl), (Nat.le_of_ble_eq_true rfl)⟩ (Nat.le_of_ble_eq_true rfl) rfl (fun v h1 hq2 => ?_)
    obtain ⟨rfl, rfl⟩ := hq2
    refine o_iaI (pc := 30) dX12_weight_30 (shp_ak (by decide)) (hW.mE 0 (q := (N (30 + 7 * (q : Int) + 3)).toNat) (by show _ < N 4; omega)) (by omega) (by omega) (hW.cv (by omega) qb) ?_
    exact o_iret (pc := 31) dX12_weight_31 rfl (Nat.le_of_ble_eq_true rfl) (Nat.le_of_ble_eq_true rfl) ⟨by congr 3; unfold weightN; rw [if_neg (by omega), Int.toNat_of_nonneg (by omega)], rfl⟩
  · refine o_iconst (pc := 7) dX12_weight_7 ?_
    refine o_goto (pc := 8) 31 dX12_weight_8 (by decide) ?_
    exact o_iret (pc := 31) dX12_weight_31 rfl (Nat.le_of_ble_eq_true rfl) (Nat.le_of_ble_eq_true rfl) ⟨by congr 3; unfold weightN; rw [if_pos (by omega)], rfl⟩
/-- what a method of the world leaves alone: lists too -/
def Fg (S : Nat → Prop) (h h1 : Hp) : Prop := Fr S h h1 ∧ ∀ l, (56, l) ∈ h.1 → h1.2.1 56 l = h.2.1 56 l
theorem Fg.rf {S : Nat → Prop} {h : Hp} (hn : ∃ n, h.2.2.2 = some n) : Fg S h h := ⟨Fr.rf hn, fun _ _ => rfl⟩
theorem Fg.t {S : Nat → Prop} {h h1 h2 : Hp} (a : Fg S h h1) (b : Fg S h1 h2) : Fg S h h2 := ⟨a.1.t b.1, fun l hl => (b.2 l (a.1.1 _ hl)).trans (a.2 l hl)⟩
theorem Fg.f0 {S : Nat → Prop} {h h1 h2 : Hp} (a : Fg S h h1) (b : Fr (fun _ => False) h1 h2) : Fg S h h2 := ⟨a.1.tr b (fun _ z => z.elim), fun l hl => ((b.2.2.1 56 l (by decide) (a.1.1 _ hl) (fun z => z)).1).trans (a.2 l hl)⟩
theorem Fg.n {S : Nat → Prop} {h h1 : Hp} (a : Fg S h h1) : ∃ n, h1.2.2.2 = some n := a.1.2.2.2.2
theorem Fg_hset {S : Nat → Prop} {h h1 : Hp} (a : Fg S h h1) {k i : Nat} {j z : Int} (hk : 51 ≤ k ∧ k ≠ 56) (hS : S i ∨ fre h i) : Fg S h (hset h1 k i j z) := ⟨Fr_hset a.1 hk.1 hS, fun l hl => (funext fun j' => hset_off (fun e => hk.2 e.1.symm)).trans (a.2 l hl)⟩
theorem IT.fg {S : Nat → Prop} {h h1 : Hp} {q l cur : Nat} (hI : IT h q l cur) (hF : Fg S h h1) (hl : (56, l) ∈ h.1) (h3 : ¬ S q) : IT h1 q l cur := by
  obtain ⟨a1, a2, a3, a4⟩ := hI
  have e := hF.1.2.2.1 57 q (by decide) a1 h3
  exact ⟨hF.1.1 _ a1, by rw [e.2]; exact a2, by rw [e.1]; exact a3, by rw [e.1, hF.2 l hl]; exact a4⟩
theorem WN.sn {G : GG} {h : Hp} {a : Nat} {N : Int → Int} {B : Bok} {S T : Nat → Prop} (hW : WN G h a N B S T) {q : Nat} (hf : fre h q) : ¬ S q := fun z => by
  obtain ⟨k, k1, k2⟩ := (hW.2.2.2.2.2.1.2.2.2.2 q z).2
  exact hf k k1 k2
theorem WN.to {G : GG} {h : Hp} {a : Nat} {N N' : Int → Int} {B : Bok} {S T : Nat → Prop} (hW : WN G h a N B S T) (e : N = N') : WN G h a N' B S T := e ▸ hW
theorem WN.sA {G : GG} {h : Hp} {a : Nat} {N : Int → Int} {B : Bok} {S T : Nat → Prop} (hW : WN G h a N B S T) : S a := hW.2.2.2.2.2.1.1
theorem spillN_0 {N : Int → Int} {q : Int} (h : N (30 + 7 * q + 1) ≤ roomN N q) : spillN N q = N := by
  have e : spillA N q = 0 := by unfold spillA; omega
  unfold spillN spill1
  rw [e, show N (30 + 7 * q + 1) + -0 = N (30 + 7 * q + 1) by omega, upN_same, Int.add_zero, upN_same]
theorem PN_chg {N : Int → Int} {q x : Int} (h : PN N q) (hx : 0 ≤ N (30 + 7 * q + 1) + x ∧ N (30 + 7 * q + 1) + x ≤ 1000000) : PN (upN N (30 + 7 * q + 1) (N (30 + 7 * q + 1) + x)) q := by
  have hq := h.1
  unfold PN
  rw [upN_off (by omega), upN_off (by omega), upN_off (show (0 : Int) ≠ _ by omega), upN_at]
  exact ⟨h.1, h.2.1, h.2.2.1, h.2.2.2.1, hx⟩
theorem PN_give {N : Int → Int} {q x : Int} (h : PN N q) (h5 : QN N q) (hx : 0 ≤ x ∧ x ≤ N (30 + 7 * q + 1) ∧ x ≤ 1000000) : PN (upN (give1 N q x) (30 + 7 * q + 1) (give1 N q x (30 + 7 * q + 1) + -x)) q := by
  have hq := h.1
  have hp := h.2.2.1
  have w0 : 0 ≤ x * weightN N q := Int.mul_nonneg hx.1 h5.2.1
  unfold PN give1
  rw [upN_off (by omega), upN_off (by omega), upN_off (by omega), upN_at, upN_off (show (0 : Int) ≠ _ by omega), upN_off (show (0 : Int) ≠ _ by omega), upN_at, upN_off (by omega)]
  have := h.2.2.2.2
  exact ⟨h.1, h.2.1, by omega, h.2.2.2.1, by omega⟩
theorem cw_spill {G : GG} {h : Hp} {a : Nat} {N : Int → Int} {B : Bok} {S T : Nat → Prop} (hW : WN G h a N B S T) {q : Nat} (hq : (q : Int) < N 3) (hp : PN N q) (hn : ∃ n, h.2.2.2 = some n) : Cy G MX12_spill (rmL 1 0 0) [rf G 51 a, rf G 52 (bE B 3 q)] h (fun v h1 => v = none ∧ WN G h1 a (spillN N q) B S T ∧ Fg S h h1) := by
  refine o_entry (by decide +kernel) mwX12_spill rfl (Nat.le_of_ble_eq_true rfl) ?_
  show YY G MX12_spill (rmL 1 0 0) 0 [(0, rf G 51 a), (1, rf G 52 (bE B 3 q))] [] h 0 0 _
  have rb := roomN_b hp
  obtain ⟨p1, p2, p3, p4, p5⟩ := id hp
  refine o_aload_n (pc := 0) dX12_spill_0 1 rfl ?_
  refine o_gI (pc := 1) (j := 2) dX12_spill_1 flX12_114 rfl rfl (hW.mE 3 hq) (hW.p2 hq) ?_
  refine o_aload_n (pc := 4) dX12_spill_4 0 rfl ?_
  refine o_aload_n (pc := 5) dX12_spill_5 1 rfl ?_
  refine o_callV (pc := 6) _ dX12_spill_6 (cw_room hW hq hp) lkX12_117 rfl rfl rfl rfl hW.mW ⟨⟨(Nat.le_of_ble_eq_true rfl), (Nat.le_of_ble_eq_true rfl)⟩, (Nat.le_of_ble_eq_true rfl), (Nat.le_of_ble_eq_true rfl)⟩ (Nat.le_of_ble_eq_true rfl) rfl (fun v h1 hq2 => ?_)
  obtain ⟨rfl, rfl⟩ := hq2
  refine o_isub (pc := 9) dX12_spill_9 ?_
  refine o_istore_n (pc := 10) (lv' := [(2, _), (0, _), (1, _)]) dX12_spill_10 rfl (by decide) rfl ?_
  refine o_iload_n (pc := 11) dX12_spill_11 0 rfl ?_
  refine o_if_gt (pc := 12) 16 dX12_spill_12 (by decide) (by unfold inI; omega) (fun c_12 => ?_) (fun c_12 => ?_)
  · refine o_aload_n (pc := 16) dX12_spill_16 2 rfl ?_
    refine o_dup (pc := 17) dX12_spill_17 rfl ?_
    refine o_gI (pc := 18) (j := 2) dX12_spill_18 flX12_114 rfl rfl (hW.mE 3 hq) (hW.p2 hq) ?_
    refine o_iload_n (pc := 21) dX12_spill_21 0 rfl ?_
    refine o_isub (pc := 22) dX12_spill_22 ?_
    refine o_pI (pc := 23) (j := 2) dX12_spill_23 fwX12_114 rfl rfl (hW.mE 3 hq) ?_
    have W1 := hW.setE 3 hq 2 (N (30 + 7 * (q : Int) + 1) - (N (30 + 7 * (q : Int) + 1) - roomN N q))
    have eA : spillA N q = N (30 + 7 * (q : Int) + 1) - roomN N q := by unfold spillA; omega
    refine o_aload_n (pc := 26) dX12_spill_26 1 rfl ?_
    refine o_dup (pc := 27) dX12_spill_27 rfl ?_
    refine o_gL (pc := 28) (j := 6) dX12_spill_28 flX12_55 rfl rfl W1.mW W1.w6 ?_
    refine o_iload_n (pc := 31) dX12_spill_31 0 rfl ?_
    refine o_i2l (pc := 32) dX12_spill_32 (by unfold inI; omega) ?_
    refine o_ladd (pc := 33) dX12_spill_33 ?_
    refine o_pL (pc := 34) (j := 6) dX12_spill_34 fwX12_55 rfl rfl W1.mW ?_
    exact o_vret (pc := 37) dX12_spill_37 rfl (Nat.le_of_ble_eq_true rfl) (Nat.le_of_ble_eq_true rfl) ⟨rfl, (W1.setH 6 _).to (by unfold spillN spill1; rw [eA, ← Int.sub_eq_add_neg]; rfl), Fg_hset (Fg_hset (Fg.rf hn) (by decide) (.inl (hW.sE 3 hq))) (by decide) (.inl hW.sA)⟩
  · exact o_vret (pc := 15) dX12_spill_15 rfl (Nat.le_of_ble_eq_true rfl) (Nat.le_of_ble_eq_true rfl) ⟨rfl, hW.to (spillN_0 (by omega)).symm, Fg.rf hn⟩
theorem cw_take {G : GG} {h : Hp} {a : Nat} {N : Int → Int} {B : Bok} {S T : Nat → Prop} (hW : WN G h a N B S T) {q : Nat} (hq : (q : Int) < N 3) (hp : PN N q) {x : Int} (hx : 0 ≤ N (30 + 7 * (q : Int) + 1) + x ∧ N (30 + 7 * (q : Int) + 1) + x ≤ 1000000) (hn : ∃ n, h.2.2.2 = some n) : Cy G MX12_take (rmL 2 0 0) [rf G 51 a, rf G 52 (bE B 3 q), .int (iI x)] h (fun v h1 => v = none ∧ WN G h1 a (getN N q x) B S T ∧ Fg S h h1) := by
  refine o_entry (by decide +kernel) mwX12_take rfl (Nat.le_of_ble_eq_true rfl) ?_
  show YY G MX12_take (rmL 2 0 0) 0 [(0, rf G 51 a), (1, rf G 52 (bE B 3 q)), (2, .int (iI x))] [] h 0 0 _
  refine o_aload_n (pc := 0) dX12_take_0 1 rfl ?_
  refine o_dup (pc := 1) dX12_take_1 rfl ?_
  refine o_gI (pc := 2) (j := 2) dX12_take_2 flX12_114 rfl rfl (hW.mE 3 hq) (hW.p2 hq) ?_
  refine o_iload_n (pc := 5) dX12_take_5 2 rfl ?_
  refine o_iadd (pc := 6) dX12_take_6 ?_
  refine o_pI (pc := 7) (j := 2) dX12_take_7 fwX12_114 rfl rfl (hW.mE 3 hq) ?_
  have W1 := hW.setE 3 hq 2 (N (30 + 7 * (q : Int) + 1) + x)
  refine o_aload_n (pc := 10) dX12_take_10 0 rfl ?_
  refine o_aload_n (pc := 11) dX12_take_11 1 rfl ?_
  refine o_callV (pc := 12) _ dX12_take_12 (cw_spill W1 (up_lt (i := 30 + 7 * (q : Int) + 1) (by omega) (by omega) hq) (PN_chg hp hx) hn) lkX12_131 rfl rfl rfl rfl W1.mW ⟨⟨(Nat.le_of_ble_eq_true rfl), (Nat.le_of_ble_eq_true rfl)⟩, (Nat.le_of_ble_eq_true rfl), (Nat.le_of_ble_eq_true rfl)⟩ (Nat.le_of_ble_eq_true rfl) rfl (fun v h1 hq2 => ?_)
  obtain ⟨rfl, hW1, hF1⟩ := hq2
  exact o_vret (pc := 15) dX12_take_15 rfl (Nat.le_of_ble_eq_true rfl) (Nat.le_of_ble_eq_true rfl) ⟨rfl, hW1, (Fg_hset (Fg.rf hn) (by decide) (.inl (hW.sE 3 hq))).t hF1⟩
theorem cw_give {G : GG} {h : Hp} {a : Nat} {N : Int → Int} {B : Bok} {S T : Nat → Prop} (hW : WN G h a N B S T) {q : Nat} (hq : (q : Int) < N 3) (hp : PN N q) (hk : QN N q) (hc : CW N q) {x : Int} (hx : 0 ≤ x ∧ x ≤ N (30 + 7 * (q : Int) + 1) ∧ x ≤ 1000000) (hn : ∃ n, h.2.2.2 = some n) : Cy G MX12_give (rmL 4 0 0) [rf G 51 a, rf G 52 (bE B 3 q), .int (iI x)] h (fun v h1 => v = none ∧ WN G h1 a (giveN N q x) B S T ∧ Fg S h h1) := by
  refine o_entry (by decide +kernel) mwX12_give rfl (Nat.le_of_ble_eq_true rfl) ?_
  show YY G MX12_give (rmL 4 0 0) 0 [(0, rf G 51 a), (1, rf G 52 (bE B 3 q)), (2, .int (iI x))] [] h 0 0 _
  obtain ⟨p1, p2, p3, p4, p5⟩ := id hp
  have hk2 := hk.2
  have w0 : 0 ≤ x * weightN N q := Int.mul_nonneg hx.1 hk2.1
  have w1 : x * weightN N q ≤ 1000000 * 1000 := Int.mul_le_mul hx.2.2 hk2.2 hk2.1 (by omega)
  refine o_aload_n (pc := 0) dX12_give_0 1 rfl ?_
  refine o_gI (pc := 1) (j := 3) dX12_give_1 flX12_109 rfl rfl (hW.mE 3 hq) (hW.p3 hq) ?_
  refine o_i2l (pc := 4) dX12_give_4 (by unfold inI; omega) ?_
  refine o_iload_n (pc := 5) dX12_give_5 2 rfl ?_
  refine o_i2l (pc := 6) dX12_give_6 (by unfold inI; omega) ?_
  refine o_aload_n (pc := 7) dX12_give_7 0 rfl ?_
  refine o_aload_n (pc := 8) dX12_give_8 1 rfl ?_
  refine o_callV (pc := 9) _ dX12_give_9 (cw_weight hW hq hp hk hc) lkX12_135 rfl rfl rfl rfl hW.mW ⟨⟨(Nat.le_of_ble_eq_true rfl), (Nat.le_of_ble_eq_true rfl)⟩, (Nat.le_of_ble_eq_true rfl), (Nat.le_of_ble_eq_true rfl)⟩ (Nat.le_of_ble_eq_true rfl) rfl (fun v h1 hq2 => ?_)
  obtain ⟨rfl, rfl⟩ := hq2
  refine o_i2l (pc := 12) dX12_give_12 (by unfold inI; omega) ?_
  refine o_lmul (pc := 13) dX12_give_13 ?_
  refine o_ladd (pc := 14) dX12_give_14 ?_
  refine o_lstore_n (pc := 15) (lv' := [(3, _), (0, _), (1, _), (2, _)]) dX12_give_15 rfl (by decide) rfl ?_
  refine o_aload_n (pc := 16) dX12_give_16 2 rfl ?_
  refine o_lload_n (pc := 17) dX12_give_17 0 rfl ?_
  refine o_ldc2 (pc := 18) (z := 1000000000) dX12_give_18 kcX12_138 (by decide) ?_
  refine o_lcmp (pc := 21) dX12_give_21 (by unfold inL; omega) (by unfold inL; omega) ?_
  refine o_if_le (pc := 22) 30 dX12_give_22 (by decide) (by unfold inI; omega) (fun c_22 => ?_) (fun c_22 => ?_)
  · refine o_lload_n (pc := 30) dX12_give_30 0 rfl ?_
    refine o_l2i (pc := 31) dX12_give_31 ?_
    refine o_topI (y := min 1000000000 (N (30 + 7 * (q : Int) + 2) + x * weightN N q)) (by omega) ?_
    refine o_pI (pc := 32) (j := 3) dX12_give_32 fwX12_109 rfl rfl (hW.mE 3 hq) ?_
    have W1 := hW.setE 3 hq 3 (min 1000000000 (N (30 + 7 * (q : Int) + 2) + x * weightN N q))
    have hq1 := up_lt (N := N) (i := 30 + 7 * (q : Int) + 2) (z := min 1000000000 (N (30 + 7 * (q : Int) + 2) + x * weightN N q)) (by omega) (by omega) hq
    refine o_aload_n (pc := 35) dX12_give_35 2 rfl ?_
    refine o_dup (pc := 36) dX12_give_36 rfl ?_
    refine o_gI (pc := 37) (j := 2) dX12_give_37 flX12_114 rfl rfl (hW.mE 3 hq) (W1.p2 hq1) ?_
    refine o_iload_n (pc := 40) dX12_give_40 3 rfl ?_
    refine o_isub (pc := 41) dX12_give_41 ?_
    refine o_pI (pc := 42) (j := 2) dX12_give_42 fwX12_114 rfl rfl (hW.mE 3 hq) ?_
    have W2 := W1.setE 3 hq1 2 (give1 N q x (30 + 7 * (q : Int) + 1) - x)
    have W3 := W2.to (N' := upN (give1 N q x) (30 + 7 * (q : Int) + 1) (give1 N q x (30 + 7 * (q : Int) + 1) + -x)) (by rw [← Int.sub_eq_add_neg]; rfl)
    refine o_aload_n (pc := 45) dX12_give_45 1 rfl ?_
    refine o_aload_n (pc := 46) dX12_give_46 2 rfl ?_
    refine o_callV (pc := 47) _ dX12_give_47 (cw_spill W3 (up_lt (i := 30 + 7 * (q : Int) + 1) (by omega) (by omega) hq1) (PN_give hp hk hx) hn) lkX12_131 rfl rfl rfl rfl W3.mW ⟨⟨(Nat.le_of_ble_eq_true rfl), (Nat.le_of_ble_eq_true rfl)⟩, (Nat.le_of_ble_eq_true rfl), (Nat.le_of_ble_eq_true rfl)⟩ (Nat.le_of_ble_eq_true rfl) rfl (fun v h1 hq2 => ?_)
    obtain ⟨rfl, hW1, hF1⟩ := hq2
    exact o_vret (pc := 50) dX12_give_50 rfl (Nat.le_of_ble_eq_true rfl) (Nat.le_of_ble_eq_true rfl) ⟨rfl, hW1, (Fg_hset (Fg_hset (Fg.rf hn) (by decide) (.inl (hW.sE 3 hq))) (by decide) (.inl (hW.sE 3 hq))).t hF1⟩
  · refine o_ldc (pc := 25) (z := 1000000000) dX12_give_25 kcX12_140 (by decide) ?_
    refine o_topI (y := min 1000000000 (N (30 + 7 * (q : Int) + 2) + x * weightN N q)) (by omega) ?_
    refine o_goto (pc := 27) 32 dX12_give_27 (by decide) ?_
    refine o_pI (pc := 32) (j := 3) dX12_give_32 fwX12_109 rfl rfl (hW.mE 3 hq) ?_
    have W1 := hW.setE 3 hq 3 (min 1000000000 (N (30 + 7 * (q : Int) + 2) + x * weightN N q))
    have hq1 := up_lt (N := N) (i := 30 + 7 * (q : Int) + 2) (z := min 1000000000 (N (30 + 7 * (q : Int) + 2) + x * weightN N q)) (by omega) (by omega) hq
    refine o_aload_n (pc := 35) dX12_give_35 2 rfl ?_
    refine o_dup (pc := 36) dX12_give_36 rfl ?_
    refine o_gI (pc := 37) (j := 2) dX12_give_37 flX12_114 rfl rfl (hW.mE 3 hq) (W1.p2 hq1) ?_
    refine o_iload_n (pc := 40) dX12_give_40 3 rfl ?_
    refine o_isub (pc := 41) dX12_give_41 ?_
    refine o_pI (pc := 42) (j := 2) dX12_give_42 fwX12_114 rfl rfl (hW.mE 3 hq) ?_
    have W2 := W1.setE 3 hq1 2 (give1 N q x (30 + 7 * (q : Int) + 1) - x)
    have W3 := W2.to (N' := upN (give1 N q x) (30 + 7 * (q : Int) + 1) (give1 N q x (30 + 7 * (q : Int) + 1) + -x)) (by rw [← Int.sub_eq_add_neg]; rfl)
    refine o_aload_n (pc := 45) dX12_give_45 1 rfl ?_
    refine o_aload_n (pc := 46) dX12_give_46 2 rfl ?_
    refine o_callV (pc := 47) _ dX12_give_47 (cw_spill W3 (up_lt (i := 30 + 7 * (q : Int) + 1) (by omega) (by omega) hq1) (PN_give hp hk hx) hn) lkX12_131 rfl rfl rfl rfl W3.mW ⟨⟨(Nat.le_of_ble_eq_true rfl), (Nat.le_of_ble_eq_true rfl)⟩, (Nat.le_of_ble_eq_true rfl), (Nat.le_of_ble_eq_true rfl)⟩ (Nat.le_of_ble_eq_true rfl) rfl (fun v h1 hq2 => ?_)
    obtain ⟨rfl, hW1, hF1⟩ := hq2
    exact o_vret (pc := 50) dX12_give_50 rfl (Nat.le_of_ble_eq_true rfl) (Nat.le_of_ble_eq_true rfl) ⟨rfl, hW1, (Fg_hset (Fg_hset (Fg.rf hn) (by decide) (.inl (hW.sE 3 hq))) (by decide) (.inl (hW.sE 3 hq))).t hF1⟩
theorem cw_above {G : GG} {h : Hp} {a : Nat} {N : Int → Int} {B : Bok} {S T : Nat → Prop} (hW : WN G h a N B S T) {q : Nat} (hq : (q : Int) < N 3) : Cy G MX12_above (rmL 0 0 0) [rf G 51 a, rf G 52 (bE B 3 q)] h (fun v h1 => v = some (.int (iI (aboveN N q))) ∧ h1 = h) := by
  refine o_entry (by decide +kernel) mwX12_above rfl (Nat.le_of_ble_eq_true rfl) ?_
  show YY G MX12_above (rmL 0 0 0) 0 [(0, rf G 51 a), (1, rf G 52 (bE B 3 q))] [] h 0 0 _
  refine o_aload_n (pc := 0) dX12_above_0 1 rfl ?_
  refine o_gI (pc := 1) (j := 2) dX12_above_1 flX12_114 rfl rfl (hW.mE 3 hq) (hW.p2 hq) ?_
  refine o_aload_n (pc := 4) dX12_above_4 1 rfl ?_
  refine o_gI (pc := 5) (j := 4) dX12_above_5 flX12_173 rfl rfl (hW.mE 3 hq) (hW.p4 hq) ?_
  refine o_isub (pc := 8) dX12_above_8 ?_
  exact o_iret (pc := 9) dX12_above_9 rfl (Nat.le_of_ble_eq_true rfl) (Nat.le_of_ble_eq_true rfl) ⟨rfl, rfl⟩
theorem ceil_c {x w : Int} (hw : 0 < w) (hx : 0 ≤ x) : (x + w - 1) / w = x / w + (if x % w ≤ 0 then 0 else 1) := by
  have h0 := Int.emod_def x w
  have h1 : x + w - 1 = (x % w + w - 1) + w * (x / w) := by omega
  have h2 := Int.emod_nonneg x (show w ≠ 0 by omega)
  have h3 := Int.emod_lt_of_pos x hw
  rw [h1, Int.add_mul_ediv_left _ _ (show w ≠ 0 by omega)]
  by_cases c : x % w ≤ 0
  · rw [if_pos c, show x % w + w - 1 = w - 1 by omega, Int.ediv_eq_zero_of_lt (by omega) (by omega)]
    omega
  · rw [if_neg c, show x % w + w - 1 = (x % w - 1) + w * 1 by omega, Int.add_mul_ediv_left _ _ (show w ≠ 0 by omega), Int.ediv_eq_zero_of_lt (by omega) (by omega)]
    omega
theorem cw_owed {G : GG} {h : Hp} {a : Nat} {N : Int → Int} {B : Bok} {S T : Nat → Prop} (hW : WN G h a N B S T) {q : Nat} (hq : (q : Int) < N 9) (hl : LN N q) : Cy G MX12_owed (rmL 1 0 0) [rf G 51 a, rf G 55 (bE B 6 q)] h (fun v h1 => v = some (.int (iI (owedN N q))) ∧ h1 = h) := by
  refine o_entry (by decide +kernel) mwX12_owed rfl (Nat.le_of_ble_eq_true rfl) ?_
  show YY G MX12_owed (rmL 1 0 0) 0 [(0, rf G 51 a), (1, rf G 55 (bE B 6 q))] [] h 0 0 _
  obtain ⟨p1, p2, p3, p4, p5, p6, p7⟩ := id hl
  have ib := intN_b p4 p7
  have e0 := Int.emod_nonneg (N (318 + 7 * (q : Int) + 3)) (show N 1 ≠ 0 by omega)
  have e1 := Int.emod_lt_of_pos (N (318 + 7 * (q : Int) + 3)) (show 0 < N 1 by omega)
  refine o_aload_n (pc := 0) dX12_owed_0 1 rfl ?_
  refine o_gI (pc := 1) (j := 5) dX12_owed_1 flX12_147 rfl rfl (hW.mE 6 hq) (hW.n5 hq) ?_
  refine o_iconst (pc := 4) dX12_owed_4 ?_
  refine o_icmp_le (pc := 5) 10 dX12_owed_5 (by decide) (by unfold inI; omega) (by unfold inI; omega) (fun c_5 => ?_) (fun c_5 => ?_)
  · refine o_aload_n (pc := 10) dX12_owed_10 1 rfl ?_
    refine o_gI (pc := 11) (j := 3) dX12_owed_11 flX12_150 rfl rfl (hW.mE 6 hq) (hW.n3 hq) ?_
    refine o_aload_n (pc := 14) dX12_owed_14 0 rfl ?_
    refine o_gI (pc := 15) (j := 1) dX12_owed_15 flX12_13 rfl rfl hW.mW (hW.w1) ?_
    refine o_idiv (pc := 18) dX12_owed_18 (by omega) (by omega) ?_
    refine o_aload_n (pc := 19) dX12_owed_19 1 rfl ?_
    refine o_gI (pc := 20) (j := 3) dX12_owed_20 flX12_150 rfl rfl (hW.mE 6 hq) (hW.n3 hq) ?_
    refine o_aload_n (pc := 23) dX12_owed_23 0 rfl ?_
    refine o_gI (pc := 24) (j := 1) dX12_owed_24 flX12_13 rfl rfl hW.mW (hW.w1) ?_
    refine o_irem (pc := 27) dX12_owed_27 (by omega) (by omega) ?_
    refine o_if_le (pc := 28) 35 dX12_owed_28 (by decide) (by unfold inI; omega) (fun c_28 => ?_) (fun c_28 => ?_)
    · refine o_iconst (pc := 35) dX12_owed_35 ?_
      refine o_iadd (pc := 36) dX12_owed_36 ?_
      refine o_topI (y := intN N (N (318 + 7 * (q : Int) + 3))) (by unfold intN; rw [ceil_c (by omega) (by omega), if_pos (by omega)]) ?_
      refine o_istore_n (pc := 37) (lv' := [(2, _), (0, _), (1, _)]) dX12_owed_37 rfl (by decide) rfl ?_
      refine o_iconst (pc := 38) dX12_owed_38 ?_
      refine o_aload_n (pc := 39) dX12_owed_39 2 rfl ?_
      refine o_gI (pc := 40) (j := 2) dX12_owed_40 flX12_151 rfl rfl (hW.mE 6 hq) (hW.n2 hq) ?_
      refine o_iload_n (pc := 43) dX12_owed_43 0 rfl ?_
      refine o_iadd (pc := 44) dX12_owed_44 ?_
      refine o_aload_n (pc := 45) dX12_owed_45 2 rfl ?_
      refine o_gI (pc := 46) (j := 4) dX12_owed_46 flX12_154 rfl rfl (hW.mE 6 hq) (hW.n4 hq) ?_
      refine o_isub (pc := 49) dX12_owed_49 ?_
      refine o_max (pc := 50) dX12_owed_50 lmX12_157 (by unfold inI; omega) (by unfold inI; omega) (Nat.le_of_ble_eq_true rfl) (Nat.le_of_ble_eq_true rfl) (Nat.le_of_ble_eq_true rfl) (Nat.le_of_ble_eq_true rfl) ?_
      exact o_iret (pc := 53) dX12_owed_53 rfl (Nat.le_of_ble_eq_true rfl) (Nat.le_of_ble_eq_true rfl) ⟨by congr 3; unfold owedN; rw [if_pos (by omega)], rfl⟩
    · refine o_iconst (pc := 31) dX12_owed_31 ?_
      refine o_goto (pc := 32) 36 dX12_owed_32 (by decide) ?_
      refine o_iadd (pc := 36) dX12_owed_36 ?_
      refine o_topI (y := intN N (N (318 + 7 * (q : Int) + 3))) (by unfold intN; rw [ceil_c (by omega) (by omega), if_neg (by omega)]) ?_
      refine o_istore_n (pc := 37) (lv' := [(2, _), (0, _), (1, _)]) dX12_owed_37 rfl (by decide) rfl ?_
      refine o_iconst (pc := 38) dX12_owed_38 ?_
      refine o_aload_n (pc := 39) dX12_owed_39 2 rfl ?_
      refine o_gI (pc := 40) (j := 2) dX12_owed_40 flX12_151 rfl rfl (hW.mE 6 hq) (hW.n2 hq) ?_
      refine o_iload_n (pc := 43) dX12_owed_43 0 rfl ?_
      refine o_iadd (pc := 44) dX12_owed_44 ?_
      refine o_aload_n (pc := 45) dX12_owed_45 2 rfl ?_
      refine o_gI (pc := 46) (j := 4) dX12_owed_46 flX12_154 rfl rfl (hW.mE 6 hq) (hW.n4 hq) ?_
      refine o_isub (pc := 49) dX12_owed_49 ?_
      refine o_max (pc := 50) dX12_owed_50 lmX12_157 (by unfold inI; omega) (by unfold inI; omega) (Nat.le_of_ble_eq_true rfl) (Nat.le_of_ble_eq_true rfl) (Nat.le_of_ble_eq_true rfl) (Nat.le_of_ble_eq_true rfl) ?_
      exact o_iret (pc := 53) dX12_owed_53 rfl (Nat.le_of_ble_eq_true rfl) (Nat.le_of_ble_eq_true rfl) ⟨by congr 3; unfold owedN; rw [if_pos (by omega)], rfl⟩
  · refine o_iconst (pc := 8) dX12_owed_8 ?_
    exact o_iret (pc := 9) dX12_owed_9 rfl (Nat.le_of_ble_eq_true rfl) (Nat.le_of_ble_eq_true rfl) ⟨by congr 3; unfold owedN; rw [if_neg (by omega)], rfl⟩
