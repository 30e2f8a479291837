/-! the law's own code -/
abbrev ML_law : Mth := (yL_law, cL_law, 10, some .boolean, [])
theorem rmLd {d c0 s0 ml : Nat} (hd : d ≤ 10) (hc : c0 ≤ 500000) (hs : s0 ≤ 7000000) (hm : ml ≤ 20) : roomOk room_1 (rmD d) c0 s0 ml = true := by
  unfold roomOk
  simp only [Bool.and_eq_true]
  refine ⟨⟨⟨Nat.ble_eq_true_of_le ?_, Nat.ble_eq_true_of_le ?_⟩, Nat.ble_eq_true_of_le ?_⟩, Nat.ble_eq_true_of_le ?_⟩
  · show d + 1 ≤ 13; omega
  · show 8 + (ml + 11) + 39 * d ≤ 514; omega
  · show c0 + 0 ≤ 601024; omega
  · show s0 + 0 ≤ 7293033; omega
theorem rmLe {c0 s0 ml : Nat} (hc : c0 ≤ 500000) (hs : s0 ≤ 7000000) (hm : ml ≤ 20) : roomOk room_1 (rmE 2) c0 s0 ml = true := by
  unfold roomOk
  simp only [Bool.and_eq_true]
  refine ⟨⟨⟨Nat.ble_eq_true_of_le ?_, Nat.ble_eq_true_of_le ?_⟩, Nat.ble_eq_true_of_le ?_⟩, Nat.ble_eq_true_of_le ?_⟩
  · show 8 + 1 ≤ 13; omega
  · show 8 + (ml + 11) + (81 + 39 * 2) ≤ 514; omega
  · show c0 + 1 ≤ 601024; omega
  · show s0 + 6 ≤ 7293033; omega
def sx (G : GG) (a : Nat) : Int := (gSx G a).toInt
section LAW
variable {G : GG} {M' : Mth} {pc : Nat} {lv lv' : List (Nat × Value)} {st stk : List Value} {h h' h1 : Hp} {c0 s0 : Nat} {res : Res}
theorem x_sld {z : Int} {a : Nat} (d : decode cL_law pc = .ok (.iaload, 1)) (hz : z = a) (ha : a < gV G 8) (hL : gV G 8 < 2147483648) (kk : X G ML_law room_1 (pc + 1) lv (.int (iI (sx G a)) :: st) h c0 s0 res h') : X G ML_law room_1 pc lv (.int (iI z) :: .ref (gV G 7) :: st) h c0 s0 res h' := by
  intro p l e s m args below meth c H locs ls hC hR hS hl
  have hK := hC.2.2.2.2.2.2.2.2.2.2.1
  have hO : xOh G s := hK.2.2.2.2
  have hX := hO.2.2.2.2.2.2.1
  have hb : gV G 7 < gB G := hO.2.2.2.2.2.2.2.1
  have hA : ¬ xA G (gV G 7) := by unfold xA; omega
  have hlt : gV G 7 < s.heap.size := by have := hC.2.2.2.2.2.2.2.2.2.2.2; omega
  have ex : s.heap[gV G 7]? = (gH G)[gV G 7]? := (hS.2.1 _ hlt hA).symm.trans (hR.2.1 _ hb)
  refine va_sld hC.1 hC.2.1 (hX.kept ex) hlt hA hS (in_nat hz ha hL) d ?_
  rw [cl_nat hz (by omega)]
  have kk' := kk
  rw [show iI (sx G a) = gSx G a from iI_of _] at kk'
  exact kk' p l e s m args below meth c H locs ls hC hR hS hl
theorem x_slen (d : decode cL_law pc = .ok (.arraylength, 1)) (kk : X G ML_law room_1 (pc + 1) lv (.int (iI (gV G 8 : Nat)) :: st) h c0 s0 res h') : X G ML_law room_1 pc lv (.ref (gV G 7) :: st) h c0 s0 res h' := by
  intro p l e s m args below meth c H locs ls hC hR hS hl
  have hK := hC.2.2.2.2.2.2.2.2.2.2.1
  have hO : xOh G s := hK.2.2.2.2
  have hX := hO.2.2.2.2.2.2.1
  have hb : gV G 7 < gB G := hO.2.2.2.2.2.2.2.1
  have hA : ¬ xA G (gV G 7) := by unfold xA; omega
  have hlt : gV G 7 < s.heap.size := by have := hC.2.2.2.2.2.2.2.2.2.2.2; omega
  have ex : s.heap[gV G 7]? = (gH G)[gV G 7]? := (hS.2.1 _ hlt hA).symm.trans (hR.2.1 _ hb)
  refine va_slen hC.1 hC.2.1 (hX.kept ex) hlt hA hS d ?_
  have kk' := kk
  rw [show iI ((gV G 8 : Nat) : Int) = Int32.ofNat (gV G 8) from Int32.ofInt_eq_ofNat] at kk'
  exact kk' p l e s m args below meth c H locs ls hC hR hS hl
/-- calls from the law -/
theorem l_callW {idx n : Nat} {hh : List (Nat × Nat × Nat × Nat)} {v : Option Value} (As : List Value) (d : decode cL_law pc = .ok (.invokestatic idx, 3)) (hCt : CtW G M' hh (rmD 10) As h (.inl v) h1) (hL : LSt RL idx M'.1 n) (hn : As.length = n) (hm : M'.2.2.1 ≤ 20) (hst : (st.map fun v => v.category).sum ≤ 8) (hstk : stk = As.reverse ++ st) (hc : c0 ≤ 500000) (hs : s0 ≤ 7000000) (kk : X G ML_law room_1 (pc + 3) lv (v.toList ++ st) h1 c0 s0 res h') : X G ML_law room_1 pc lv stk h c0 s0 res h' :=
  x_callSW As d hCt hL hn (rmLd (by decide) hc hs hm) hst hstk kk
theorem l_callE {idx n : Nat} {hh : List (Nat × Nat × Nat × Nat)} {v : Option Value} (As : List Value) (d : decode cL_law pc = .ok (.invokestatic idx, 3)) (hCt : CtW G M' hh (rmE 2) As h (.inl v) h1) (hL : LSt RL idx M'.1 n) (hn : As.length = n) (hm : M'.2.2.1 ≤ 20) (hst : (st.map fun v => v.category).sum ≤ 8) (hstk : stk = As.reverse ++ st) (hc : c0 ≤ 500000) (hs : s0 ≤ 7000000) (kk : X G ML_law room_1 (pc + 3) lv (v.toList ++ st) h1 (c0 + 1) (s0 + 6) res h') : X G ML_law room_1 pc lv stk h c0 s0 res h' :=
  x_callSW As d hCt hL hn (rmLe hc hs hm) hst hstk kk
theorem l_callV {k i idx n ci : Nat} {R : Room} {kds : List Nat} {q : vw_C} {v : Option Value} (As : List Value) (d : decode cL_law pc = .ok (.invokevirtual idx, 3)) (hRO : RO R ∨ R = rmD 0) (hCt : Ct G M' R (rf G k i :: As) h (.inl v) h1) (hL : LV RL idx M'.1 n) (hn : As.length = n) (hsh : shp k = .inr (ci, kds)) (hq : vwCl[ci]? = some q) (hcl : M'.1.cls = q.1) (hmm : (k, i) ∈ h.1) (hm : M'.2.2.1 ≤ 20) (hst : (st.map fun v => v.category).sum ≤ 8) (hstk : stk = As.reverse ++ rf G k i :: st) (hc : c0 ≤ 500000) (hs : s0 ≤ 7000000) (kk : X G ML_law room_1 (pc + 3) lv (v.toList ++ st) h1 c0 s0 res h') : X G ML_law room_1 pc lv stk h c0 s0 res h' := by
  rcases hRO with (rfl | rfl) | rfl
  · exact x_callV As d hCt hL hn hsh hq hcl hmm (rmLd (by decide) hc hs hm) hst hstk kk
  · exact x_callV As d hCt hL hn hsh hq hcl hmm (rmLd (by decide) hc hs hm) hst hstk kk
  · exact x_callV As d hCt hL hn hsh hq hcl hmm (rmLd (by decide) hc hs hm) hst hstk kk
end LAW
theorem ct_thrown {G : GG} {m : Mem} {z : Int} (e : m 41 0 7 = z) : Ct G MX8_thrown (rmD 0) [rf G 41 0] (hp m) (.inl (some (.int (iI z)))) (hp m) := by
  refine x_entry (by decide +kernel) mwX8_thrown rfl (Nat.le_of_ble_eq_true rfl) ?_
  show X G MX8_thrown (rmD 0) 0 [(0, rf G 41 0)] [] (hp m) 0 0 (.inl (some (.int (iI z)))) (hp m)
  refine x_aload_n (pc := 0) dX8_thrown_0 0 rfl ?_
  refine y_getI (pc := 1) 7 dX8_thrown_1 flX8_41 rfl rfl rfl (by decide) ?_
  exact y_iret (pc := 4) dX8_thrown_4 rfl e rfl
def lvL (G : GG) (i : Int) : List (Nat × Value) := [(5, .int (iI i)), (0, .ref (gV G 7)), (1, rf G 38 0), (2, rf G 41 0), (3, rf G 49 0), (4, rf G 50 0)]
/-- a case of the law: the line's end is reached with both sides alike -/
def LST (G : GG) (m : Mem) (K : Nat) (c0 s0 : Nat) (i : Int) (pc : Nat) : Prop := ∃ m2, IV m2 (K + 1) ∧ ∀ (res : Res) (h' : Hp), X G ML_law room_1 2773 (lvL G i) [] (hp m2) (c0 + 1) (s0 + 6) res h' → X G ML_law room_1 pc (lvL G i) [] (hp m) c0 s0 res h'
theorem in_01 : inI 0 := by unfold inI; decide
theorem in_12 {e : Int} (h : e = 1 ∨ e = 2) : inI e := by unfold inI; omega
theorem in_ae {a b : Int} : inI (if b < a then 1 else if a = b then 0 else -1) := by unfold inI; split; omega; split <;> omega
theorem ae_0 (r : Int) : (if r < r then (1 : Int) else if r = r then 0 else -1) = 0 := by rw [if_neg (Int.lt_irrefl r), if_pos rfl]
theorem x_lcmp2 {G : GG} {pc : Nat} {lv : List (Nat × Value)} {st : List Value} {h h' : Hp} {c0 s0 : Nat} {res : Res} {r : Int} (d : decode cL_law pc = .ok (.lcmp, 1)) (k : X G ML_law room_1 (pc + 1) lv (.int (iI 0) :: st) h c0 s0 res h') : X G ML_law room_1 pc lv (.long (lI r) :: .long (lI r) :: st) h c0 s0 res h' := by
  have e : lI r = lI (lI r).toInt := (lI_of _).symm
  rw [e]
  refine x_lcmp d (inL_of _) (inL_of _) ?_
  rw [if_neg (Int.lt_irrefl _), if_pos rfl]
  exact k
theorem in_IL {a : Int} (h : inI a) : inL a := by unfold inI at h; unfold inL; omega
theorem lsL_152 : LSt RL 152 yL_count 3 := ⟨in_ctx 631 (by decide +kernel) rfl, in_ctx 632 (by decide +kernel) rfl, in_ctx 0 (by decide +kernel) rfl, by decide +kernel, by decide +kernel, by decide +kernel⟩
theorem lsL_161 : LSt RL 161 yL_pack 4 := ⟨in_ctx 712 (by decide +kernel) rfl, in_ctx 713 (by decide +kernel) rfl, in_ctx 0 (by decide +kernel) rfl, by decide +kernel, by decide +kernel, by decide +kernel⟩
theorem lsL_165 : LSt RL 165 yL_cable 5 := ⟨in_ctx 751 (by decide +kernel) rfl, in_ctx 752 (by decide +kernel) rfl, in_ctx 0 (by decide +kernel) rfl, by decide +kernel, by decide +kernel, by decide +kernel⟩
theorem lsL_169 : LSt RL 169 yL_gainAt 4 := ⟨in_ctx 759 (by decide +kernel) rfl, in_ctx 760 (by decide +kernel) rfl, in_ctx 0 (by decide +kernel) rfl, by decide +kernel, by decide +kernel, by decide +kernel⟩
theorem lsL_172 : LSt RL 172 yL_trip 4 := ⟨in_ctx 770 (by decide +kernel) rfl, in_ctx 771 (by decide +kernel) rfl, in_ctx 0 (by decide +kernel) rfl, by decide +kernel, by decide +kernel, by decide +kernel⟩
theorem lsL_175 : LSt RL 175 yL_contract 4 := ⟨in_ctx 777 (by decide +kernel) rfl, in_ctx 778 (by decide +kernel) rfl, in_ctx 0 (by decide +kernel) rfl, by decide +kernel, by decide +kernel, by decide +kernel⟩
theorem lsL_178 : LSt RL 178 yL_loan 4 := ⟨in_ctx 809 (by decide +kernel) rfl, in_ctx 810 (by decide +kernel) rfl, in_ctx 0 (by decide +kernel) rfl, by decide +kernel, by decide +kernel, by decide +kernel⟩
theorem lsL_185 : LSt RL 185 yL_total 3 := ⟨in_ctx 817 (by decide +kernel) rfl, in_ctx 818 (by decide +kernel) rfl, in_ctx 0 (by decide +kernel) rfl, by decide +kernel, by decide +kernel, by decide +kernel⟩
theorem lsL_193 : LSt RL 193 yL_fullness 3 := ⟨in_ctx 827 (by decide +kernel) rfl, in_ctx 828 (by decide +kernel) rfl, in_ctx 0 (by decide +kernel) rfl, by decide +kernel, by decide +kernel, by decide +kernel⟩
theorem lsL_197 : LSt RL 197 yL_interest 4 := ⟨in_ctx 834 (by decide +kernel) rfl, in_ctx 835 (by decide +kernel) rfl, in_ctx 0 (by decide +kernel) rfl, by decide +kernel, by decide +kernel, by decide +kernel⟩
theorem lsL_200 : LSt RL 200 yL_hindrance 4 := ⟨in_ctx 853 (by decide +kernel) rfl, in_ctx 854 (by decide +kernel) rfl, in_ctx 0 (by decide +kernel) rfl, by decide +kernel, by decide +kernel, by decide +kernel⟩
theorem lsL_203 : LSt RL 203 yL_cheapest 4 := ⟨in_ctx 866 (by decide +kernel) rfl, in_ctx 867 (by decide +kernel) rfl, in_ctx 0 (by decide +kernel) rfl, by decide +kernel, by decide +kernel, by decide +kernel⟩
theorem lsL_206 : LSt RL 206 yL_lend 5 := ⟨in_ctx 883 (by decide +kernel) rfl, in_ctx 884 (by decide +kernel) rfl, in_ctx 0 (by decide +kernel) rfl, by decide +kernel, by decide +kernel, by decide +kernel⟩
theorem lsL_209 : LSt RL 209 yL_recall 3 := ⟨in_ctx 899 (by decide +kernel) rfl, in_ctx 900 (by decide +kernel) rfl, in_ctx 0 (by decide +kernel) rfl, by decide +kernel, by decide +kernel, by decide +kernel⟩
theorem lsL_212 : LSt RL 212 yL_giveBack 3 := ⟨in_ctx 911 (by decide +kernel) rfl, in_ctx 912 (by decide +kernel) rfl, in_ctx 0 (by decide +kernel) rfl, by decide +kernel, by decide +kernel, by decide +kernel⟩
theorem lsL_215 : LSt RL 215 yL_forgive 3 := ⟨in_ctx 918 (by decide +kernel) rfl, in_ctx 919 (by decide +kernel) rfl, in_ctx 0 (by decide +kernel) rfl, by decide +kernel, by decide +kernel, by decide +kernel⟩
theorem lsL_218 : LSt RL 218 yL_mend 3 := ⟨in_ctx 925 (by decide +kernel) rfl, in_ctx 926 (by decide +kernel) rfl, in_ctx 0 (by decide +kernel) rfl, by decide +kernel, by decide +kernel, by decide +kernel⟩
theorem lsL_221 : LSt RL 221 yL_charge 4 := ⟨in_ctx 932 (by decide +kernel) rfl, in_ctx 933 (by decide +kernel) rfl, in_ctx 0 (by decide +kernel) rfl, by decide +kernel, by decide +kernel, by decide +kernel⟩
theorem lsL_224 : LSt RL 224 yL_drain 4 := ⟨in_ctx 947 (by decide +kernel) rfl, in_ctx 948 (by decide +kernel) rfl, in_ctx 0 (by decide +kernel) rfl, by decide +kernel, by decide +kernel, by decide +kernel⟩
theorem lsL_227 : LSt RL 227 yL_setReserve 4 := ⟨in_ctx 959 (by decide +kernel) rfl, in_ctx 960 (by decide +kernel) rfl, in_ctx 0 (by decide +kernel) rfl, by decide +kernel, by decide +kernel, by decide +kernel⟩
theorem lsL_230 : LSt RL 230 yL_setCable 6 := ⟨in_ctx 966 (by decide +kernel) rfl, in_ctx 967 (by decide +kernel) rfl, in_ctx 0 (by decide +kernel) rfl, by decide +kernel, by decide +kernel, by decide +kernel⟩
theorem lsL_234 : LSt RL 234 yL_addTrip 5 := ⟨in_ctx 973 (by decide +kernel) rfl, in_ctx 974 (by decide +kernel) rfl, in_ctx 0 (by decide +kernel) rfl, by decide +kernel, by decide +kernel, by decide +kernel⟩
theorem lsL_237 : LSt RL 237 yL_dropTrip 3 := ⟨in_ctx 981 (by decide +kernel) rfl, in_ctx 982 (by decide +kernel) rfl, in_ctx 0 (by decide +kernel) rfl, by decide +kernel, by decide +kernel, by decide +kernel⟩
theorem lsL_240 : LSt RL 240 yL_run 3 := ⟨in_ctx 992 (by decide +kernel) rfl, in_ctx 993 (by decide +kernel) rfl, in_ctx 0 (by decide +kernel) rfl, by decide +kernel, by decide +kernel, by decide +kernel⟩
theorem lsL_243 : LSt RL 243 yL_runToClosed 4 := ⟨in_ctx 1045 (by decide +kernel) rfl, in_ctx 1046 (by decide +kernel) rfl, in_ctx 0 (by decide +kernel) rfl, by decide +kernel, by decide +kernel, by decide +kernel⟩
theorem lsL_246 : LSt RL 246 yL_chargeIn 4 := ⟨in_ctx 1056 (by decide +kernel) rfl, in_ctx 1057 (by decide +kernel) rfl, in_ctx 0 (by decide +kernel) rfl, by decide +kernel, by decide +kernel, by decide +kernel⟩
theorem lsL_249 : LSt RL 249 yL_missIn 3 := ⟨in_ctx 1064 (by decide +kernel) rfl, in_ctx 1065 (by decide +kernel) rfl, in_ctx 0 (by decide +kernel) rfl, by decide +kernel, by decide +kernel, by decide +kernel⟩
theorem lsL_252 : LSt RL 252 yL_endIn 3 := ⟨in_ctx 1072 (by decide +kernel) rfl, in_ctx 1073 (by decide +kernel) rfl, in_ctx 0 (by decide +kernel) rfl, by decide +kernel, by decide +kernel, by decide +kernel⟩
theorem lsL_255 : LSt RL 255 yL_endAs 3 := ⟨in_ctx 1079 (by decide +kernel) rfl, in_ctx 1080 (by decide +kernel) rfl, in_ctx 0 (by decide +kernel) rfl, by decide +kernel, by decide +kernel, by decide +kernel⟩
theorem lsL_258 : LSt RL 258 yL_lacks 3 := ⟨in_ctx 1086 (by decide +kernel) rfl, in_ctx 1087 (by decide +kernel) rfl, in_ctx 0 (by decide +kernel) rfl, by decide +kernel, by decide +kernel, by decide +kernel⟩
theorem lsL_261 : LSt RL 261 yL_isSafe 5 := ⟨in_ctx 1096 (by decide +kernel) rfl, in_ctx 1097 (by decide +kernel) rfl, in_ctx 0 (by decide +kernel) rfl, by decide +kernel, by decide +kernel, by decide +kernel⟩
theorem lsL_264 : LSt RL 264 yL_wearIn 4 := ⟨in_ctx 1103 (by decide +kernel) rfl, in_ctx 1104 (by decide +kernel) rfl, in_ctx 0 (by decide +kernel) rfl, by decide +kernel, by decide +kernel, by decide +kernel⟩
theorem lsL_275 : LSt RL 275 yL_owes 3 := ⟨in_ctx 1110 (by decide +kernel) rfl, in_ctx 1111 (by decide +kernel) rfl, in_ctx 0 (by decide +kernel) rfl, by decide +kernel, by decide +kernel, by decide +kernel⟩
theorem lsL_278 : LSt RL 278 yL_isOwed 3 := ⟨in_ctx 1121 (by decide +kernel) rfl, in_ctx 1122 (by decide +kernel) rfl, in_ctx 0 (by decide +kernel) rfl, by decide +kernel, by decide +kernel, by decide +kernel⟩
theorem lsL_285 : LSt RL 285 yL_saveSnapshot 3 := ⟨in_ctx 1128 (by decide +kernel) rfl, in_ctx 1129 (by decide +kernel) rfl, in_ctx 0 (by decide +kernel) rfl, by decide +kernel, by decide +kernel, by decide +kernel⟩
theorem lsL_288 : LSt RL 288 yL_restoreSnapshot 3 := ⟨in_ctx 1135 (by decide +kernel) rfl, in_ctx 1136 (by decide +kernel) rfl, in_ctx 0 (by decide +kernel) rfl, by decide +kernel, by decide +kernel, by decide +kernel⟩
