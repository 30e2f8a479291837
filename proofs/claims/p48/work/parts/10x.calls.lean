section XKC
variable {G : GG} {M M' : Mth} {R R' : Room} {pc : Nat} {lv lv' : List (Nat × Value)} {st : List Value} {h h' h1 : Hp} {c0 s0 : Nat} {res : Res} {k i : Nat}
theorem x_callV {stk : List Value} {idx n ci : Nat} {kds : List Nat} {q : vw_C} {v : Option Value} (As : List Value) (d : decode M.2.1 pc = .ok (.invokevirtual idx, 3)) (hCt : Ct G M' R' (rf G k i :: As) h (.inl v) h1) (hL : LV M.1.cls idx M'.1 n) (hn : As.length = n) (hsh : shp k = .inr (ci, kds)) (hq : vwCl[ci]? = some q) (hcl : M'.1.cls = q.1) (hm : (k, i) ∈ h.1)
    (hroom : roomOk R R' c0 s0 M'.2.2.1 = true) (hst : (st.map fun v => v.category).sum ≤ 8) (hstk : stk = As.reverse ++ rf G k i :: st) (kk : X G M R (pc + 3) lv (v.toList ++ st) h1 (c0 + R'.cells) (s0 + R'.slots) res h') : X G M R pc lv stk h c0 s0 res h' := by
  intro p l e s m args below meth c H locs ls hC hR hS hl
  obtain ⟨hrm1, hrm2, hrm3⟩ := roomOk_spec hroom
  have hts := hC.2.2.2.2.2.1
  have hKK := hC.2.2.2.2.2.2.2.2.2.2.1
  obtain ⟨pp, -, hw⟩ := xws_at (G := G) hm
  rw [xcell_obj hsh] at hw
  subst hstk
  refine x_back (va_runV (b := gad G k i) (C := M'.1.cls) (As := As) (rest := st) ⟨hC.1, hC.2.1, hC.2.2.2.1, hC.2.2.2.2.1, hts⟩ (met_of (hCt.2 l hC.2.2.2.2.2.2.2.1)) ⟨callB_x hts hCt.1 hL.1 hL.2.2.2.1 hL.2.2.2.2 hrm1, hts _ hL.2.1, hts _ hL.2.2.1⟩ ⟨xPc_blind, ?_, fun U hU hW => ⟨rfl, by rw [hU]; exact hR, xK.warm hW hKK⟩⟩ rfl hn hl.1 rfl (lv_room hst) d ⟨hrm2, hrm3⟩) hR hS (fun H1 locs1 hR1 hS1 => kk p l e s m args below meth c H1 locs1 ls hC hR1 hS1 hl)
  rw [hcl]
  exact va_recv hKK.1 hR.2.2.1 hq hw
theorem x_callS {stk : List Value} {idx n : Nat} {v : Option Value} (As : List Value) (d : decode M.2.1 pc = .ok (.invokestatic idx, 3)) (hCt : Ct G M' R' As h (.inl v) h1) (hL : LSt M.1.cls idx M'.1 n) (hn : As.length = n)
    (hroom : roomOk R R' c0 s0 M'.2.2.1 = true) (hst : (st.map fun v => v.category).sum ≤ 8) (hstk : stk = As.reverse ++ st) (kk : X G M R (pc + 3) lv (v.toList ++ st) h1 (c0 + R'.cells) (s0 + R'.slots) res h') : X G M R pc lv stk h c0 s0 res h' := by
  intro p l e s m args below meth c H locs ls hC hR hS hl
  obtain ⟨hrm1, hrm2, hrm3⟩ := roomOk_spec hroom
  have hts := hC.2.2.2.2.2.1
  have hKK := hC.2.2.2.2.2.2.2.2.2.2.1
  subst hstk
  exact x_back (va_runS (As := As) (rest := st) ⟨hC.1, hC.2.1, hC.2.2.2.1, hC.2.2.2.2.1, hts⟩ (met_of (hCt.2 l hC.2.2.2.2.2.2.2.1)) ⟨callB_x hts hCt.1 hL.1 hL.2.2.1 hL.2.2.2 hrm1, hts _ hL.2.1⟩ ⟨xPc_blind, fun U hU hW => ⟨rfl, by rw [hU]; exact hR, xK.warm hW hKK⟩⟩ rfl hn hl.1 rfl (lv_room hst) d ⟨hrm2, hrm3⟩) hR hS (fun H1 locs1 hR1 hS1 => kk p l e s m args below meth c H1 locs1 ls hC hR1 hS1 hl)
theorem x_callSN {stk : List Value} {idx n : Nat} {host : String} {v : Option Value} (As : List Value) (d : decode M.2.1 pc = .ok (.invokestatic idx, 3)) (hCt : Ct G M' R' As h (.inl v) h1) (hL : LSN M.1.cls idx M'.1 host n) (hn : As.length = n)
    (hroom : roomOk R R' c0 s0 M'.2.2.1 = true) (hst : (st.map fun v => v.category).sum ≤ 8) (hstk : stk = As.reverse ++ st) (kk : X G M R (pc + 3) lv (v.toList ++ st) h1 (c0 + R'.cells) (s0 + R'.slots) res h') : X G M R pc lv stk h c0 s0 res h' := by
  intro p l e s m args below meth c H locs ls hC hR hS hl
  obtain ⟨hrm1, hrm2, hrm3⟩ := roomOk_spec hroom
  have hts := hC.2.2.2.2.2.1
  have hKK := hC.2.2.2.2.2.2.2.2.2.2.1
  subst hstk
  exact x_back (va_runSN (host := host) (As := As) (rest := st) ⟨hC.1, hC.2.1, hC.2.2.2.1, hC.2.2.2.2.1, hts⟩ (met_of (hCt.2 l hC.2.2.2.2.2.2.2.1)) ⟨⟨⟨rfl, rfl, hrm1.1, hrm1.2, x_good hts hCt.1, List.mem_cons_self⟩, hts _ (all_ctx hCt.1), hts _ hL.2.2.1, ⟨hL.2.2.2.1, hL.2.2.2.2.1⟩, ml_n hL.2.2.2.2.2, va_Nw.use rfl (hKK.2.1 _ hL.1)⟩, hts _ hL.2.1, trivial⟩ ⟨xPc_blind, fun U hU hW => ⟨rfl, by rw [hU]; exact hR, xK.warm hW hKK⟩⟩ rfl hn hl.1 rfl (lv_room hst) d ⟨hrm2, hrm3⟩) hR hS (fun H1 locs1 hR1 hS1 => kk p l e s m args below meth c H1 locs1 ls hC hR1 hS1 hl)
theorem x_callI {stk : List Value} {idx n : Nat} (As : List Value) (d : decode M.2.1 pc = .ok (.invokespecial idx, 3)) (hCt : Ct G M' R' (rf G k i :: As) h (.inl none) h1) (hL : LI M.1.cls idx M'.1 n) (hret : M'.2.2.2.1 = none) (hn : As.length = n)
    (hroom : roomOk R R' c0 s0 M'.2.2.1 = true) (hst : (st.map fun v => v.category).sum ≤ 8) (hstk : stk = As.reverse ++ rf G k i :: st) (kk : X G M R (pc + 3) lv st h1 (c0 + R'.cells) (s0 + R'.slots) res h') : X G M R pc lv stk h c0 s0 res h' := by
  intro p l e s m args below meth c H locs ls hC hR hS hl
  obtain ⟨hrm1, hrm2, hrm3⟩ := roomOk_spec hroom
  have hts := hC.2.2.2.2.2.1
  have hKK := hC.2.2.2.2.2.2.2.2.2.2.1
  subst hstk
  have hB := callB_x (R := R) (M := M) (R' := R') hts hCt.1 hL.1 hL.2.2.2.1 hL.2.2.2.2 hrm1
  rw [hret] at hB
  exact x_back (va_runI (b := gad G k i) (As := As) (rest := st) ⟨hC.1, hC.2.1, hC.2.2.2.1, hC.2.2.2.2.1, hts⟩ (met_of (hCt.2 l hC.2.2.2.2.2.2.2.1)) ⟨hB, hL.2.1, hts _ hL.2.2.1⟩ ⟨xPc_blind, fun U hU hW => ⟨rfl, by rw [hU]; exact hR, xK.warm hW hKK⟩⟩ rfl hn hl.1 rfl (lv_room hst) d ⟨hrm2, hrm3⟩) hR hS (fun H1 locs1 hR1 hS1 => kk p l e s m args below meth c H1 locs1 ls hC hR1 hS1 hl)
theorem x_callIN {stk : List Value} {idx n : Nat} {host : String} (As : List Value) (d : decode M.2.1 pc = .ok (.invokespecial idx, 3)) (hCt : Ct G M' R' (rf G k i :: As) h (.inl none) h1) (hL : LIN M.1.cls idx M'.1 host n) (hret : M'.2.2.2.1 = none) (hn : As.length = n)
    (hroom : roomOk R R' c0 s0 M'.2.2.1 = true) (hst : (st.map fun v => v.category).sum ≤ 8) (hstk : stk = As.reverse ++ rf G k i :: st) (kk : X G M R (pc + 3) lv st h1 (c0 + R'.cells) (s0 + R'.slots) res h') : X G M R pc lv stk h c0 s0 res h' := by
  intro p l e s m args below meth c H locs ls hC hR hS hl
  obtain ⟨hrm1, hrm2, hrm3⟩ := roomOk_spec hroom
  have hts := hC.2.2.2.2.2.1
  have hKK := hC.2.2.2.2.2.2.2.2.2.2.1
  subst hstk
  have hB : va_CN R s args M.1.cls idx M'.1 host M'.2.1 M'.2.2.1 M'.2.2.2.1 (xW M') R' R'.cells R'.slots n := ⟨⟨rfl, rfl, hrm1.1, hrm1.2, x_good hts hCt.1, List.mem_cons_self⟩, hts _ (all_ctx hCt.1), hts _ hL.2.2.2.1, ⟨hL.2.2.2.2.1, hL.2.2.2.2.2.1⟩, ml_n hL.2.2.2.2.2.2, va_Nw.use rfl (hKK.2.1 _ hL.1)⟩
  rw [hret] at hB
  exact x_back (va_runIN (host := host) (b := gad G k i) (As := As) (rest := st) ⟨hC.1, hC.2.1, hC.2.2.2.1, hC.2.2.2.2.1, hts⟩ (met_of (hCt.2 l hC.2.2.2.2.2.2.2.1)) ⟨hB, hL.2.1, hts _ hL.2.2.1⟩ ⟨xPc_blind, fun U hU hW => ⟨rfl, by rw [hU]; exact hR, xK.warm hW hKK⟩⟩ rfl hn hl.1 rfl (lv_room hst) d ⟨hrm2, hrm3⟩) hR hS (fun H1 locs1 hR1 hS1 => kk p l e s m args below meth c H1 locs1 ls hC hR1 hS1 hl)
end XKC
