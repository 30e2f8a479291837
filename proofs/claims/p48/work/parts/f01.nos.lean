/-! what does not exist is thrown -/
/-- contracts of the law's methods that catch -/
def CyW (G : GG) (M : Mth) (hh : List (Nat × Nat × Nat × Nat)) (R : Room) (av : List Value) (h : Hp) (P : PP) : Prop :=
  Cond.codeWith M.1 M.2.1 M.2.2.1 M.2.2.2.1 hh ∈ lw_all ∧ ∀ l : Launch, l.stackTraces = false → vx_Met l M.1 (xWW M hh) R (xPc G av h) (yQ G P) yX R.cells R.slots (xA G)
theorem o_entryW {G : GG} {M : Mth} {R : Room} {h : Hp} {Q : PP} {hh : List (Nat × Nat × Nat × Nat)} {av : List Value} (hy : plainName M.1.cls = true) (hw : Cond.codeWith M.1 M.2.1 M.2.2.1 M.2.2.2.1 hh ∈ lw_all) (ht : M.2.2.2.2 = tableOf hh) (hlen : (lg_sl av).length ≤ M.2.2.1) (kk : YY G M R 0 (lv_args 0 av) [] h 0 0 Q) : CyW G M hh R av h Q := by
  refine ⟨hw, fun l hst => ?_⟩
  refine vx_ofWH (cc := M.2.1) (maxL := M.2.2.1) (ret := M.2.2.2.1) (hh := hh) (ws' := lw_ctx) hy rfl ?_
  intro p e s m args below meth c s₁ B hml hv
  obtain ⟨rfl, hR, hK⟩ := hv
  have hts := atoms_spec (ws := xWW M hh) B.pre
  have hctx : ∀ w ∈ lw_ctx, w.before av.toArray s = true := fun w hw => hts w (List.mem_cons_of_mem _ hw)
  have hown : s.vm.findClass M.1.cls = some m.cls := findClass_of_methodNamed B.named
  have hnm : meth.name = M.1.name := (name_of_methodNamed B.named B.method).1
  have hl := lv_entry av (n := M.2.2.1) hlen
  rw [lg_entry_eq]
  exact kk p l e s m av.toArray below meth c s.heap [] _ ⟨B.exec, B.bytes, B.returns, hml, hown, hctx, B.notSynchronized, hst, hnm, by rw [ht]; exact vx_table (x := M.1) B (hts _ List.mem_cons_self), hK, hR.1⟩ hR va_S.rf hl
theorem o_callSW {G : GG} {M M' : Mth} {R R' : Room} {pc : Nat} {lv : List (Nat × Value)} {st : List Value} {h : Hp} {c0 s0 : Nat} {Q P1 : PP} {stk : List Value} {idx n : Nat} {hh : List (Nat × Nat × Nat × Nat)} (As : List Value) (d : decode M.2.1 pc = .ok (.invokestatic idx, 3)) (hCt : CyW G M' hh R' As h P1) (hL : LSt M.1.cls idx M'.1 n) (hn : As.length = n)
    (hroom : rmC R R' c0 s0 M'.2.2.1) (hst : (st.map fun v => v.category).sum ≤ 8) (hstk : stk = As.reverse ++ st) (kk : ∀ v h1, P1 v h1 → YY G M R (pc + 3) lv (v.toList ++ st) h1 (c0 + R'.cells) (s0 + R'.slots) Q) : YY G M R pc lv stk h c0 s0 Q := by
  intro p l e s m args below meth c H locs ls hC hR hS hl
  obtain ⟨hrm1, hrm2⟩ := hroom
  have hts := hC.2.2.2.2.2.1
  have hKK := hC.2.2.2.2.2.2.2.2.2.2.1
  subst hstk
  exact o_back (vx_runSW (As := As) (rest := st) ⟨hC.1, hC.2.1, hC.2.2.2.1, hC.2.2.2.2.1, hts⟩ (metY (hCt.2 l hC.2.2.2.2.2.2.2.1)) (callW_x hts hCt.1 hL hrm1) ⟨xPc_blind, fun U hU hW => ⟨rfl, by rw [hU]; exact hR, xK.warm hW hKK⟩⟩ rfl hn hl.1 rfl (lv_room hst) d hrm2) hR hS (fun v h1 H1 locs1 hq1 hR1 hS1 => kk v h1 hq1 p l e s m args below meth c H1 locs1 ls hC hR1 hS1 hl)
abbrev ML_isNoPack_h : List (Nat × Nat × Nat × Nat) := [(0, 7, 10, 351), (0, 7, 14, 353)]
abbrev ML_isNoPack : Mth := (yL_isNoPack, cL_isNoPack, 5, some .boolean, tableOf ML_isNoPack_h)
theorem mwL_isNoPack : Cond.codeWith ML_isNoPack.1 ML_isNoPack.2.1 ML_isNoPack.2.2.1 ML_isNoPack.2.2.2.1 ML_isNoPack_h ∈ lw_all := in_all 1642 (by decide +kernel) rfl
abbrev ML_isNoLoan_h : List (Nat × Nat × Nat × Nat) := [(0, 8, 11, 351), (0, 8, 16, 353)]
abbrev ML_isNoLoan : Mth := (yL_isNoLoan, cL_isNoLoan, 6, some .boolean, tableOf ML_isNoLoan_h)
theorem mwL_isNoLoan : Cond.codeWith ML_isNoLoan.1 ML_isNoLoan.2.1 ML_isNoLoan.2.2.1 ML_isNoLoan.2.2.2.1 ML_isNoLoan_h ∈ lw_all := in_all 1647 (by decide +kernel) rfl
abbrev ML_isNoRun_h : List (Nat × Nat × Nat × Nat) := [(0, 6, 9, 353)]
abbrev ML_isNoRun : Mth := (yL_isNoRun, cL_isNoRun, 3, some .boolean, tableOf ML_isNoRun_h)
theorem mwL_isNoRun : Cond.codeWith ML_isNoRun.1 ML_isNoRun.2.1 ML_isNoRun.2.2.1 ML_isNoRun.2.2.2.1 ML_isNoRun_h ∈ lw_all := in_all 1650 (by decide +kernel) rfl
theorem lkL_393 : LSt RL 393 yL_isNoPack 4 := ⟨in_ctx 1640 (by decide +kernel) rfl, in_ctx 1641 (by decide +kernel) rfl, in_ctx 0 (by decide +kernel) rfl, by decide +kernel, by decide +kernel, by decide +kernel⟩
theorem lkL_397 : LSt RL 397 yL_isNoLoan 5 := ⟨in_ctx 1645 (by decide +kernel) rfl, in_ctx 1646 (by decide +kernel) rfl, in_ctx 0 (by decide +kernel) rfl, by decide +kernel, by decide +kernel, by decide +kernel⟩
theorem lkL_401 : LSt RL 401 yL_isNoRun 2 := ⟨in_ctx 1648 (by decide +kernel) rfl, in_ctx 1649 (by decide +kernel) rfl, in_ctx 0 (by decide +kernel) rfl, by decide +kernel, by decide +kernel, by decide +kernel⟩
theorem cw_noPack0 {G : GG} {h : Hp} (hcl : CL h) {N : Int → Int} {K : Nat} (hs : SH h.2.1 N K) {a x : Int} (ha : inI a) (hx : inI x) (h0 : ¬ (0 ≤ a ∧ a < N 3)) : CyW G ML_isNoPack ML_isNoPack_h (rmL 12 1 6) [rf G 38 0, .int (iI a), .int (iI x), .int (iI 1)] h (fun v h1 => v = some (.int (iI 1)) ∧ ∃ n', h1 = cs h h.2.1 n') := by
  refine o_entryW (by decide +kernel) mwL_isNoPack rfl (Nat.le_of_ble_eq_true rfl) ?_
  show YY G ML_isNoPack (rmL 12 1 6) 0 [(0, rf G 38 0), (1, .int (iI a)), (2, .int (iI x)), (3, .int (iI 1))] [] h 0 0 _
  refine o_aload_n (pc := 0) dL_isNoPack_0 0 rfl ?_
  refine o_iload_n (pc := 1) dL_isNoPack_1 1 rfl ?_
  refine o_iload_n (pc := 2) dL_isNoPack_2 2 rfl ?_
  refine o_callCX (pc := 3) _ dL_isNoPack_3 (fun G' hG => Px_pack_0 (m := h.2.1) hs.1.1 hs.1.2.1 ha hx (by rw [← hs.1.2.2.1.1.2.2.1]; exact h0)) lkL_216 rfl rfl hcl ⟨⟨by simp only [rmL, rmD, rmE]; omega, by simp only [rmL, rmD, rmE]; omega⟩, by simp only [rmL, rmD, rmE]; omega, by simp only [rmL, rmD, rmE]; omega⟩ (Nat.le_of_ble_eq_true rfl) rfl [] _ _ rfl (fun z hz => nomatch hz) (by decide) (by decide) clL_351 (by decide) (fun q n1 => ?_)
  refine o_astore (pc := 10) (lv' := [(4, _), (0, _), (1, _), (2, _), (3, _)]) dL_isNoPack_10 (by decide) rfl ?_
  refine o_iload_n (pc := 12) dL_isNoPack_12 4 rfl ?_
  exact o_zret (pc := 13) dL_isNoPack_13 rfl rfl (by first | omega | (simp only [rmL, rmD, rmE]; omega)) (by first | omega | (simp only [rmL, rmD, rmE]; omega)) ⟨rfl, n1, rfl⟩
theorem cw_noPack1 {G : GG} {h : Hp} (hcl : CL h) {N : Int → Int} {K : Nat} (hs : SH h.2.1 N K) {a x : Int} (ha : inI a) (hx : inI x) (h0 : 0 ≤ a ∧ a < N 3) (h1 : ¬ (0 ≤ x ∧ x ≤ 8)) : CyW G ML_isNoPack ML_isNoPack_h (rmL 12 1 6) [rf G 38 0, .int (iI a), .int (iI x), .int (iI 0)] h (fun v h1 => v = some (.int (iI 1)) ∧ ∃ n', h1 = cs h h.2.1 n') := by
  refine o_entryW (by decide +kernel) mwL_isNoPack rfl (Nat.le_of_ble_eq_true rfl) ?_
  show YY G ML_isNoPack (rmL 12 1 6) 0 [(0, rf G 38 0), (1, .int (iI a)), (2, .int (iI x)), (3, .int (iI 0))] [] h 0 0 _
  refine o_aload_n (pc := 0) dL_isNoPack_0 0 rfl ?_
  refine o_iload_n (pc := 1) dL_isNoPack_1 1 rfl ?_
  refine o_iload_n (pc := 2) dL_isNoPack_2 2 rfl ?_
  refine o_callCX (pc := 3) _ dL_isNoPack_3 (fun G' hG => Px_pack_1 (m := h.2.1) hs.1.1 hs.1.2.1 ha hx (by rw [← hs.1.2.2.1.1.2.2.1]; exact h0) h1) lkL_216 rfl rfl hcl ⟨⟨by simp only [rmL, rmD, rmE]; omega, by simp only [rmL, rmD, rmE]; omega⟩, by simp only [rmL, rmD, rmE]; omega, by simp only [rmL, rmD, rmE]; omega⟩ (Nat.le_of_ble_eq_true rfl) rfl [_] _ _ rfl (fun z hz => by cases List.mem_singleton.mp hz; exact ⟨by decide, clL_351, rfl⟩) (by decide) (by decide) clL_353 (by decide) (fun q n1 => ?_)
  refine o_astore (pc := 14) (lv' := [(4, _), (0, _), (1, _), (2, _), (3, _)]) dL_isNoPack_14 (by decide) rfl ?_
  refine o_iload_n (pc := 16) dL_isNoPack_16 4 rfl ?_
  refine o_if_ne (pc := 17) 24 dL_isNoPack_17 (by decide) (by unfold inI; omega) (fun c_17 => (by exfalso; omega)) (fun c_17 => ?_)
  refine o_iconst (pc := 20) dL_isNoPack_20 ?_
  refine o_goto (pc := 21) 25 dL_isNoPack_21 (by decide) ?_
  exact o_zret (pc := 25) dL_isNoPack_25 rfl rfl (by first | omega | (simp only [rmL, rmD, rmE]; omega)) (by first | omega | (simp only [rmL, rmD, rmE]; omega)) ⟨rfl, n1, rfl⟩
theorem cw_noLoan0 {G : GG} {h : Hp} (hcl : CL h) {N : Int → Int} {K : Nat} (hs : SH h.2.1 N K) {a x t : Int} (ha : inI a) (hx : inI x) (ht : inI t) (h0 : ¬ (0 ≤ a ∧ a < N 8)) : CyW G ML_isNoLoan ML_isNoLoan_h (rmL 12 1 6) [rf G 38 0, .int (iI a), .int (iI x), .int (iI t), .int (iI 1)] h (fun v h1 => v = some (.int (iI 1)) ∧ ∃ n', h1 = cs h h.2.1 n') := by
  refine o_entryW (by decide +kernel) mwL_isNoLoan rfl (Nat.le_of_ble_eq_true rfl) ?_
  show YY G ML_isNoLoan (rmL 12 1 6) 0 [(0, rf G 38 0), (1, .int (iI a)), (2, .int (iI x)), (3, .int (iI t)), (4, .int (iI 1))] [] h 0 0 _
  refine o_aload_n (pc := 0) dL_isNoLoan_0 0 rfl ?_
  refine o_iload_n (pc := 1) dL_isNoLoan_1 1 rfl ?_
  refine o_iload_n (pc := 2) dL_isNoLoan_2 2 rfl ?_
  refine o_iload_n (pc := 3) dL_isNoLoan_3 3 rfl ?_
  refine o_callCX (pc := 4) _ dL_isNoLoan_4 (fun G' hG => Px_lend_0 (m := h.2.1) hs.1.1 hs.1.2.1 hs.1.2.2.2.2.2.2.1 hs.2.1 hs.2.2 ha hx ht (by rw [← hs.1.2.2.1.1.2.2.2.2.2.2]; exact h0)) lkL_329 rfl rfl hcl ⟨⟨by simp only [rmL, rmD, rmE]; omega, by simp only [rmL, rmD, rmE]; omega⟩, by simp only [rmL, rmD, rmE]; omega, by simp only [rmL, rmD, rmE]; omega⟩ (Nat.le_of_ble_eq_true rfl) rfl [] _ _ rfl (fun z hz => nomatch hz) (by decide) (by decide) clL_351 (by decide) (fun q n1 => ?_)
  refine o_astore (pc := 11) (lv' := [(5, _), (0, _), (1, _), (2, _), (3, _), (4, _)]) dL_isNoLoan_11 (by decide) rfl ?_
  refine o_iload (pc := 13) dL_isNoLoan_13 5 rfl ?_
  exact o_zret (pc := 15) dL_isNoLoan_15 rfl rfl (by first | omega | (simp only [rmL, rmD, rmE]; omega)) (by first | omega | (simp only [rmL, rmD, rmE]; omega)) ⟨rfl, n1, rfl⟩
theorem cw_noLoan1 {G : GG} {h : Hp} (hcl : CL h) {N : Int → Int} {K : Nat} (hs : SH h.2.1 N K) {a x t : Int} (ha : inI a) (hx : inI x) (ht : inI t) (h0 : 0 ≤ a ∧ a < N 8) (h1 : ¬ (1 ≤ x ∧ x ≤ 100000)) : CyW G ML_isNoLoan ML_isNoLoan_h (rmL 12 1 6) [rf G 38 0, .int (iI a), .int (iI x), .int (iI t), .int (iI 0)] h (fun v h1 => v = some (.int (iI 1)) ∧ ∃ n', h1 = cs h h.2.1 n') := by
  refine o_entryW (by decide +kernel) mwL_isNoLoan rfl (Nat.le_of_ble_eq_true rfl) ?_
  show YY G ML_isNoLoan (rmL 12 1 6) 0 [(0, rf G 38 0), (1, .int (iI a)), (2, .int (iI x)), (3, .int (iI t)), (4, .int (iI 0))] [] h 0 0 _
  refine o_aload_n (pc := 0) dL_isNoLoan_0 0 rfl ?_
  refine o_iload_n (pc := 1) dL_isNoLoan_1 1 rfl ?_
  refine o_iload_n (pc := 2) dL_isNoLoan_2 2 rfl ?_
  refine o_iload_n (pc := 3) dL_isNoLoan_3 3 rfl ?_
  refine o_callCX (pc := 4) _ dL_isNoLoan_4 (fun G' hG => Px_lend_1 (m := h.2.1) hs.1.1 hs.1.2.1 hs.1.2.2.2.2.2.2.1 hs.2.1 hs.2.2 ha hx ht (by rw [← hs.1.2.2.1.1.2.2.2.2.2.2]; exact h0) h1) lkL_329 rfl rfl hcl ⟨⟨by simp only [rmL, rmD, rmE]; omega, by simp only [rmL, rmD, rmE]; omega⟩, by simp only [rmL, rmD, rmE]; omega, by simp only [rmL, rmD, rmE]; omega⟩ (Nat.le_of_ble_eq_true rfl) rfl [_] _ _ rfl (fun z hz => by cases List.mem_singleton.mp hz; exact ⟨by decide, clL_351, rfl⟩) (by decide) (by decide) clL_353 (by decide) (fun q n1 => ?_)
  refine o_astore (pc := 16) (lv' := [(5, _), (0, _), (1, _), (2, _), (3, _), (4, _)]) dL_isNoLoan_16 (by decide) rfl ?_
  refine o_iload (pc := 18) dL_isNoLoan_18 5 rfl ?_
  refine o_if_ne (pc := 20) 27 dL_isNoLoan_20 (by decide) (by unfold inI; omega) (fun c_20 => (by exfalso; omega)) (fun c_20 => ?_)
  refine o_iconst (pc := 23) dL_isNoLoan_23 ?_
  refine o_goto (pc := 24) 28 dL_isNoLoan_24 (by decide) ?_
  exact o_zret (pc := 28) dL_isNoLoan_28 rfl rfl (by first | omega | (simp only [rmL, rmD, rmE]; omega)) (by first | omega | (simp only [rmL, rmD, rmE]; omega)) ⟨rfl, n1, rfl⟩
theorem cw_noLoan2 {G : GG} {h : Hp} (hcl : CL h) {N : Int → Int} {K : Nat} (hs : SH h.2.1 N K) {a x t : Int} (ha : inI a) (hx : inI x) (ht : inI t) (h0 : 0 ≤ a ∧ a < N 8) (h1 : 1 ≤ x ∧ x ≤ 100000) (h2 : ¬ (1 ≤ t ∧ t ≤ 999)) : CyW G ML_isNoLoan ML_isNoLoan_h (rmL 12 1 6) [rf G 38 0, .int (iI a), .int (iI x), .int (iI t), .int (iI 0)] h (fun v h1 => v = some (.int (iI 1)) ∧ ∃ n', h1 = cs h h.2.1 n') := by
  refine o_entryW (by decide +kernel) mwL_isNoLoan rfl (Nat.le_of_ble_eq_true rfl) ?_
  show YY G ML_isNoLoan (rmL 12 1 6) 0 [(0, rf G 38 0), (1, .int (iI a)), (2, .int (iI x)), (3, .int (iI t)), (4, .int (iI 0))] [] h 0 0 _
  refine o_aload_n (pc := 0) dL_isNoLoan_0 0 rfl ?_
  refine o_iload_n (pc := 1) dL_isNoLoan_1 1 rfl ?_
  refine o_iload_n (pc := 2) dL_isNoLoan_2 2 rfl ?_
  refine o_iload_n (pc := 3) dL_isNoLoan_3 3 rfl ?_
  refine o_callCX (pc := 4) _ dL_isNoLoan_4 (fun G' hG => Px_lend_2 (m := h.2.1) hs.1.1 hs.1.2.1 hs.1.2.2.2.2.2.2.1 hs.2.1 hs.2.2 ha hx ht (by rw [← hs.1.2.2.1.1.2.2.2.2.2.2]; exact h0) h1 h2) lkL_329 rfl rfl hcl ⟨⟨by simp only [rmL, rmD, rmE]; omega, by simp only [rmL, rmD, rmE]; omega⟩, by simp only [rmL, rmD, rmE]; omega, by simp only [rmL, rmD, rmE]; omega⟩ (Nat.le_of_ble_eq_true rfl) rfl [_] _ _ rfl (fun z hz => by cases List.mem_singleton.mp hz; exact ⟨by decide, clL_351, rfl⟩) (by decide) (by decide) clL_353 (by decide) (fun q n1 => ?_)
  refine o_astore (pc := 16) (lv' := [(5, _), (0, _), (1, _), (2, _), (3, _), (4, _)]) dL_isNoLoan_16 (by decide) rfl ?_
  refine o_iload (pc := 18) dL_isNoLoan_18 5 rfl ?_
  refine o_if_ne (pc := 20) 27 dL_isNoLoan_20 (by decide) (by unfold inI; omega) (fun c_20 => (by exfalso; omega)) (fun c_20 => ?_)
  refine o_iconst (pc := 23) dL_isNoLoan_23 ?_
  refine o_goto (pc := 24) 28 dL_isNoLoan_24 (by decide) ?_
  exact o_zret (pc := 28) dL_isNoLoan_28 rfl rfl (by first | omega | (simp only [rmL, rmD, rmE]; omega)) (by first | omega | (simp only [rmL, rmD, rmE]; omega)) ⟨rfl, n1, rfl⟩
theorem cw_noRun {G : GG} {h : Hp} (hcl : CL h) {N : Int → Int} {K : Nat} (hs : SH h.2.1 N K) {t : Int} (ht : inI t) (h0 : t < 1 ∨ 1000 < t) : CyW G ML_isNoRun ML_isNoRun_h (rmL 12 1 6) [rf G 38 0, .int (iI t)] h (fun v h1 => v = some (.int (iI 1)) ∧ ∃ n', h1 = cs h h.2.1 n') := by
  refine o_entryW (by decide +kernel) mwL_isNoRun rfl (Nat.le_of_ble_eq_true rfl) ?_
  show YY G ML_isNoRun (rmL 12 1 6) 0 [(0, rf G 38 0), (1, .int (iI t))] [] h 0 0 _
  refine o_aload_n (pc := 0) dL_isNoRun_0 0 rfl ?_
  refine o_iload_n (pc := 1) dL_isNoRun_1 1 rfl ?_
  refine o_callCX (pc := 2) _ dL_isNoRun_2 (fun G' hG => Px_run_0 (m := h.2.1) hs.1.1 hs.1.2.1 hs.1.2.2.2.2.2.2.1 hs.2.1 hs.2.2 ht (by omega)) lkL_285 rfl rfl hcl ⟨⟨by simp only [rmL, rmD, rmE]; omega, by simp only [rmL, rmD, rmE]; omega⟩, by simp only [rmL, rmD, rmE]; omega, by simp only [rmL, rmD, rmE]; omega⟩ (Nat.le_of_ble_eq_true rfl) rfl [] _ _ rfl (fun z hz => nomatch hz) (by decide) (by decide) clL_353 (by decide) (fun q n1 => ?_)
  refine o_astore_n (pc := 9) (lv' := [(2, _), (0, _), (1, _)]) dL_isNoRun_9 rfl (by decide) rfl ?_
  refine o_iconst (pc := 10) dL_isNoRun_10 ?_
  exact o_zret (pc := 11) dL_isNoRun_11 rfl rfl (by first | omega | (simp only [rmL, rmD, rmE]; omega)) (by first | omega | (simp only [rmL, rmD, rmE]; omega)) ⟨rfl, n1, rfl⟩
