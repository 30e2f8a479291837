/-! the cases without a helper -/
def PD (G : GG) (MC MX : Mth) (As : List Value) (m : Mem) (K : Nat) : Prop := ∃ (R : Room) (r : Int) (c1 m2 : Mem), RO R ∧ inI r ∧ Ct G MC (rmD 9) (rf G 38 0 :: As) (hp m) (.inl (some (.int (iI r)))) (hp c1) ∧ Ct G MX R (rf G 41 0 :: As) (hp c1) (.inl (some (.int (iI r)))) (hp m2) ∧ IV m2 (K + 1)
section DIR
variable {G : GG} {m : Mem} {K : Nat}
theorem pd_of {MC MX : Mth} {As : List Value} {R : Room} {c1 m2 : Mem} {r r' : Int} (hR : RO R) (hC : Ct G MC (rmD 9) (rf G 38 0 :: As) (hp m) (.inl (some (.int (iI r)))) (hp c1)) (hM : Ct G MX R (rf G 41 0 :: As) (hp c1) (.inl (some (.int (iI r')))) (hp m2)) (e : r = r') (hI : IV m2 (K + 1)) : PD G MC MX As m K := by
  subst e
  exact ⟨R, nrI r, c1, m2, hR, inI_nr _, Ct.vi hC (iI_nr _).symm, Ct.vi hM (iI_nr _).symm, hI⟩
theorem pd_now (h : IV m K) : PD G MX7_now MX8_now [] m K :=
  pd_of (.inl rfl) (P_now h.1.1 h.1.2.1) (Ct.at (Q_now (m := m) h.nf) (sr_self m)) h.1.2.2.2.1.1.1.symm (fin_x h 0).2
theorem pd_loadError (h : IV m K) : PD G MX7_loadError MX8_loadError [] m K :=
  pd_of (.inl rfl) (P_loadError h.1.1 h.1.2.1) (Ct.at (Q_loadError (m := m) h.nf) (sr_self m)) h.2.2.2.2.2.2.2.2.1 (fin_x h 0).2
theorem pd_loadStatement (h : IV m K) : PD G MX7_loadStatement MX8_loadStatement [] m K :=
  pd_of (.inl rfl) (P_loadStatement h.1.1 h.1.2.1 h.1.2.2.2.2.2.2.1 h.2.1.1 h.2.1.2.1 (by have := h.2.2.2.2.1.2.2; unfold inI; omega)) (Ct.at (Q_loadStatement (m := m) h.nf) (sr_self m)) h.2.2.2.2.2.2.2.2.2.1.symm (fin_x h 0).2
theorem pd_neediest (h : IV m K) : PD G MX7_neediest MX8_neediest [] m K :=
  pd_of (.inl rfl) (P_neediest h.1.1 h.1.2.1 h.1.2.2.2.2.2.2.1 h.2.1.1 h.2.1.2.1) (Ct.at (Q_neediest (m := m) h.nf) (sr_self m)) (by
    have e3 : m 42 0 3 = m 22 0 2 := h.1.2.2.1.1.2.2.1
    have n8 := h.1.1.2.2.1
    rw [e3]
    exact V_low h.1.2.2.2.1 _ _ _ (by decide) (by omega) (.inl rfl)) (fin_x h 0).2
theorem pd_richest (h : IV m K) : PD G MX7_richest MX8_richest [] m K :=
  pd_of (.inl rfl) (P_richest h.1.1 h.1.2.1 h.1.2.2.2.2.2.2.1 h.2.1.1 h.2.1.2.1) (Ct.at (Q_richest (m := m) h.nf) (sr_self m)) (by
    have e3 : m 42 0 3 = m 22 0 2 := h.1.2.2.1.1.2.2.1
    have n8 := h.1.1.2.2.1
    rw [e3]
    exact V_hig h.1.2.2.2.1 _ _ _ (by decide) (by omega) (.inl rfl)) (fin_x h 0).2
theorem pd_undo (h : IV m K) : PD G MX7_undo MX8_undo [] m K := by
  have h6 := h.2.1.2.2
  have h0 := h.2.1.1
  by_cases hz : m 36 0 0 = 0
  · exact pd_of (.inl rfl) (P_undo0 h.1.1 h.1.2.1 h.1.2.2.2.2.2.2.1 h.2.1.1 h.2.1.2.1 hz) (Ct.at (Q_undo0 (m := m) h.nf (by omega)) (sr_self m)) rfl (fin_x h 0).2
  · have e42 : popC m 42 0 = m 42 0 := by unfold popC; rw [cpS_hi (by decide), up3_k (by decide), up3_k (by decide)]
    have e41 : popC m 41 0 = m 41 0 := by unfold popC; rw [cpS_hi (by decide), up3_k (by decide), up3_k (by decide)]
    have q6 : popC m 41 0 6 = m 36 0 0 := by rw [e41]; exact h6
    exact pd_of (.inl rfl) (P_undo1 h.1.1 h.1.2.1 h.1.2.2.2.2.2.2.1 h.2.1.1 h.2.1.2.1 hz) (Ct.at (Q_undo1 (m := popC m) (N := popC m 42 0) (by rw [e42]; exact h.nf) (by omega)) (sr_self _)) (by rw [q6]) ((h.undo hz rfl).more (by omega))
theorem pd_load (h : IV m K) : PD G MX7_load MX8_load [] m K := by
  by_cases hz : txM m 34 0 1 = 0
  · have L := h.load1 hz
    exact pd_of (.inl rfl) (P_load1 h.2.2.2.2.1 hz) (Q_load1 (m := ldX m) L.2.2.2.2 L.2.1) L.2.2.1 (L.1.more (by omega))
  · have L := h.load0
    have t2 := h.2.2.2.2.2.1
    have hMW : MW (txM m) := by
      unfold MW
      rw [FD_txM 41 0 (by omega) (by omega) (by decide), FD_txM 48 0 (by omega) (by omega) (by decide)]
      exact t2
    exact pd_of (.inl rfl) (P_load0 h.2.2.2.2.1 hz L.2.2.2) (Q_load0 (m := txM m) hMW (by rw [← L.2.1]; exact L.2.2.2) (by rw [← L.2.1]; exact hz)) (by rw [L.2.2.1 hz]) (L.1.more (by omega))
theorem pd_append (h : IV m K) (x : Int64) : PD G MX7_append MX8_append [.long x] m K := by
  have t4 := h.2.2.2.2.2.2.2.1
  by_cases hf : apF x m
  · have hg : apG x m := by
      have hf' : 500 < m 34 0 5 + cnR x 0 8 := hf
      show 500 < m 41 0 9 + cnR x 0 8
      omega
    exact pd_of (.inl rfl) (P_append0 x h.2.2.2.2.1 hf) (Q_append0 x h.2.2.2.2.2.1 hg) rfl ((h.k (Kp_thr (z := 0))).more (by omega))
  · have A := h.app x hf
    exact pd_of (.inl rfl) (P_append1 x h.2.2.2.2.1 hf) (Q_append1 x A.2.2.2.2 A.2.2.1) A.2.1 (A.1.more (by omega))
end DIR
theorem law_0 {G : GG} {m : Mem} {K : Nat} {c0 s0 : Nat} {i : Int} (h : IV m K) (hK : K ≤ 600) (hi : 0 ≤ i ∧ i + 5 ≤ (gV G 8 : Nat)) (hL : gV G 8 < 2147483648) (hc : c0 ≤ 400000) (hs : s0 ≤ 6000000) : LST G m K c0 s0 i 240 := by
  rcases pd_append (G := G) h ((lI (sx G (i + 1).toNat) <<< ((iI 32).toInt64 &&& 63)) ||| (lI (sx G (i + 2).toNat) &&& lI 4294967295)) with ⟨R, r, c1, m2, hR, hr, hC, hM, hI⟩
  refine ⟨m2, hI, fun res h' kk => ?_⟩
  unfold lvL at kk ⊢
  refine x_aload_n (pc := 240) dL_law_240 2 rfl ?_
  refine x_aload_n (pc := 241) dL_law_241 1 rfl ?_
  refine x_iload (pc := 242) dL_law_242 0 rfl ?_
  refine x_iconst (pc := 244) dL_law_244 ?_
  refine x_iadd (pc := 245) dL_law_245 ?_
  refine x_sld (pc := 246) (a := (i + 1).toNat) dL_law_246 (by omega) (by omega) hL ?_
  refine x_i2l (pc := 247) dL_law_247 (inI_of _) ?_
  refine x_bipush (pc := 248) (z := 32) dL_law_248 (by decide +kernel) ?_
  refine x_lshl_ (pc := 250) dL_law_250 ?_
  refine x_aload_n (pc := 251) dL_law_251 1 rfl ?_
  refine x_iload (pc := 252) dL_law_252 0 rfl ?_
  refine x_iconst (pc := 254) dL_law_254 ?_
  refine x_iadd (pc := 255) dL_law_255 ?_
  refine x_sld (pc := 256) (a := (i + 2).toNat) dL_law_256 (by omega) (by omega) hL ?_
  refine x_i2l (pc := 257) dL_law_257 (inI_of _) ?_
  refine x_ldc2 (pc := 258) (z := 4294967295) dL_law_258 kcL_132 (by decide +kernel) ?_
  refine x_land_ (pc := 261) dL_law_261 ?_
  refine x_lor_ (pc := 262) dL_law_262 ?_
  refine l_callV (pc := 263) _ dL_law_263 (.inl (.inl rfl)) hC lkL_134 rfl rfl rfl rfl (mem_dom0 (by decide) (by decide)) (Nat.le_of_ble_eq_true rfl) (by decide) rfl (by omega) (by omega) ?_
  refine x_aload_n (pc := 266) dL_law_266 3 rfl ?_
  refine x_aload_n (pc := 267) dL_law_267 1 rfl ?_
  refine x_iload (pc := 268) dL_law_268 0 rfl ?_
  refine x_iconst (pc := 270) dL_law_270 ?_
  refine x_iadd (pc := 271) dL_law_271 ?_
  refine x_sld (pc := 272) (a := (i + 1).toNat) dL_law_272 (by omega) (by omega) hL ?_
  refine x_i2l (pc := 273) dL_law_273 (inI_of _) ?_
  refine x_bipush (pc := 274) (z := 32) dL_law_274 (by decide +kernel) ?_
  refine x_lshl_ (pc := 276) dL_law_276 ?_
  refine x_aload_n (pc := 277) dL_law_277 1 rfl ?_
  refine x_iload (pc := 278) dL_law_278 0 rfl ?_
  refine x_iconst (pc := 280) dL_law_280 ?_
  refine x_iadd (pc := 281) dL_law_281 ?_
  refine x_sld (pc := 282) (a := (i + 2).toNat) dL_law_282 (by omega) (by omega) hL ?_
  refine x_i2l (pc := 283) dL_law_283 (inI_of _) ?_
  refine x_ldc2 (pc := 284) (z := 4294967295) dL_law_284 kcL_132 (by decide +kernel) ?_
  refine x_land_ (pc := 287) dL_law_287 ?_
  refine x_lor_ (pc := 288) dL_law_288 ?_
  refine l_callV (pc := 289) _ dL_law_289 (.inl hR) hM lkL_138 rfl rfl rfl rfl (mem_dom0 (by decide) (by decide)) (Nat.le_of_ble_eq_true rfl) (Nat.le_of_ble_eq_true rfl) rfl (by omega) (by omega) ?_
  refine x_icmp_eq (pc := 292) 2773 dL_law_292 (by decide) hr hr (fun _ => ?_) (fun q => absurd rfl q)
  exact x_lv [0, 1, 2, 3, 4, 5] rfl (x_widen (by omega) (by omega) kk)
theorem law_1 {G : GG} {m : Mem} {K : Nat} {c0 s0 : Nat} {i : Int} (h : IV m K) (hK : K ≤ 600) (hi : 0 ≤ i ∧ i + 5 ≤ (gV G 8 : Nat)) (hL : gV G 8 < 2147483648) (hc : c0 ≤ 400000) (hs : s0 ≤ 6000000) : LST G m K c0 s0 i 297 := by
  rcases pd_load (G := G) h with ⟨R, r, c1, m2, hR, hr, hC, hM, hI⟩
  refine ⟨m2, hI, fun res h' kk => ?_⟩
  unfold lvL at kk ⊢
  refine x_aload_n (pc := 297) dL_law_297 2 rfl ?_
  refine l_callV (pc := 298) _ dL_law_298 (.inl (.inl rfl)) hC lkL_139 rfl rfl rfl rfl (mem_dom0 (by decide) (by decide)) (Nat.le_of_ble_eq_true rfl) (by decide) rfl (by omega) (by omega) ?_
  refine x_aload_n (pc := 301) dL_law_301 3 rfl ?_
  refine l_callV (pc := 302) _ dL_law_302 (.inl hR) hM lkL_143 rfl rfl rfl rfl (mem_dom0 (by decide) (by decide)) (Nat.le_of_ble_eq_true rfl) (Nat.le_of_ble_eq_true rfl) rfl (by omega) (by omega) ?_
  refine x_icmp_eq (pc := 305) 2773 dL_law_305 (by decide) hr hr (fun _ => ?_) (fun q => absurd rfl q)
  exact x_lv [0, 1, 2, 3, 4, 5] rfl (x_widen (by omega) (by omega) kk)
theorem law_2 {G : GG} {m : Mem} {K : Nat} {c0 s0 : Nat} {i : Int} (h : IV m K) (hK : K ≤ 600) (hi : 0 ≤ i ∧ i + 5 ≤ (gV G 8 : Nat)) (hL : gV G 8 < 2147483648) (hc : c0 ≤ 400000) (hs : s0 ≤ 6000000) : LST G m K c0 s0 i 310 := by
  rcases pd_loadError (G := G) h with ⟨R, r, c1, m2, hR, hr, hC, hM, hI⟩
  refine ⟨m2, hI, fun res h' kk => ?_⟩
  unfold lvL at kk ⊢
  refine x_aload_n (pc := 310) dL_law_310 2 rfl ?_
  refine l_callV (pc := 311) _ dL_law_311 (.inl (.inl rfl)) hC lkL_144 rfl rfl rfl rfl (mem_dom0 (by decide) (by decide)) (Nat.le_of_ble_eq_true rfl) (by decide) rfl (by omega) (by omega) ?_
  refine x_aload_n (pc := 314) dL_law_314 3 rfl ?_
  refine l_callV (pc := 315) _ dL_law_315 (.inl hR) hM lkL_147 rfl rfl rfl rfl (mem_dom0 (by decide) (by decide)) (Nat.le_of_ble_eq_true rfl) (Nat.le_of_ble_eq_true rfl) rfl (by omega) (by omega) ?_
  refine x_icmp_eq (pc := 318) 2773 dL_law_318 (by decide) hr hr (fun _ => ?_) (fun q => absurd rfl q)
  exact x_lv [0, 1, 2, 3, 4, 5] rfl (x_widen (by omega) (by omega) kk)
theorem law_3 {G : GG} {m : Mem} {K : Nat} {c0 s0 : Nat} {i : Int} (h : IV m K) (hK : K ≤ 600) (hi : 0 ≤ i ∧ i + 5 ≤ (gV G 8 : Nat)) (hL : gV G 8 < 2147483648) (hc : c0 ≤ 400000) (hs : s0 ≤ 6000000) : LST G m K c0 s0 i 323 := by
  rcases pd_loadStatement (G := G) h with ⟨R, r, c1, m2, hR, hr, hC, hM, hI⟩
  refine ⟨m2, hI, fun res h' kk => ?_⟩
  unfold lvL at kk ⊢
  refine x_aload_n (pc := 323) dL_law_323 2 rfl ?_
  refine l_callV (pc := 324) _ dL_law_324 (.inl (.inl rfl)) hC lkL_148 rfl rfl rfl rfl (mem_dom0 (by decide) (by decide)) (Nat.le_of_ble_eq_true rfl) (by decide) rfl (by omega) (by omega) ?_
  refine x_aload_n (pc := 327) dL_law_327 3 rfl ?_
  refine l_callV (pc := 328) _ dL_law_328 (.inl hR) hM lkL_151 rfl rfl rfl rfl (mem_dom0 (by decide) (by decide)) (Nat.le_of_ble_eq_true rfl) (Nat.le_of_ble_eq_true rfl) rfl (by omega) (by omega) ?_
  refine x_icmp_eq (pc := 331) 2773 dL_law_331 (by decide) hr hr (fun _ => ?_) (fun q => absurd rfl q)
  exact x_lv [0, 1, 2, 3, 4, 5] rfl (x_widen (by omega) (by omega) kk)
theorem law_11 {G : GG} {m : Mem} {K : Nat} {c0 s0 : Nat} {i : Int} (h : IV m K) (hK : K ≤ 600) (hi : 0 ≤ i ∧ i + 5 ≤ (gV G 8 : Nat)) (hL : gV G 8 < 2147483648) (hc : c0 ≤ 400000) (hs : s0 ≤ 6000000) : LST G m K c0 s0 i 812 := by
  rcases pd_now (G := G) h with ⟨R, r, c1, m2, hR, hr, hC, hM, hI⟩
  refine ⟨m2, hI, fun res h' kk => ?_⟩
  unfold lvL at kk ⊢
  refine x_aload_n (pc := 812) dL_law_812 2 rfl ?_
  refine l_callV (pc := 813) _ dL_law_813 (.inl (.inl rfl)) hC lkL_181 rfl rfl rfl rfl (mem_dom0 (by decide) (by decide)) (Nat.le_of_ble_eq_true rfl) (by decide) rfl (by omega) (by omega) ?_
  refine x_aload_n (pc := 816) dL_law_816 3 rfl ?_
  refine l_callV (pc := 817) _ dL_law_817 (.inl hR) hM lkL_184 rfl rfl rfl rfl (mem_dom0 (by decide) (by decide)) (Nat.le_of_ble_eq_true rfl) (Nat.le_of_ble_eq_true rfl) rfl (by omega) (by omega) ?_
  refine x_icmp_eq (pc := 820) 2773 dL_law_820 (by decide) hr hr (fun _ => ?_) (fun q => absurd rfl q)
  exact x_lv [0, 1, 2, 3, 4, 5] rfl (x_widen (by omega) (by omega) kk)
theorem law_38 {G : GG} {m : Mem} {K : Nat} {c0 s0 : Nat} {i : Int} (h : IV m K) (hK : K ≤ 600) (hi : 0 ≤ i ∧ i + 5 ≤ (gV G 8 : Nat)) (hL : gV G 8 < 2147483648) (hc : c0 ≤ 400000) (hs : s0 ≤ 6000000) : LST G m K c0 s0 i 2510 := by
  rcases pd_neediest (G := G) h with ⟨R, r, c1, m2, hR, hr, hC, hM, hI⟩
  refine ⟨m2, hI, fun res h' kk => ?_⟩
  unfold lvL at kk ⊢
  refine x_aload_n (pc := 2510) dL_law_2510 2 rfl ?_
  refine l_callV (pc := 2511) _ dL_law_2511 (.inl (.inl rfl)) hC lkL_267 rfl rfl rfl rfl (mem_dom0 (by decide) (by decide)) (Nat.le_of_ble_eq_true rfl) (by decide) rfl (by omega) (by omega) ?_
  refine x_aload_n (pc := 2514) dL_law_2514 3 rfl ?_
  refine l_callV (pc := 2515) _ dL_law_2515 (.inl hR) hM lkL_270 rfl rfl rfl rfl (mem_dom0 (by decide) (by decide)) (Nat.le_of_ble_eq_true rfl) (Nat.le_of_ble_eq_true rfl) rfl (by omega) (by omega) ?_
  refine x_icmp_eq (pc := 2518) 2773 dL_law_2518 (by decide) hr hr (fun _ => ?_) (fun q => absurd rfl q)
  exact x_lv [0, 1, 2, 3, 4, 5] rfl (x_widen (by omega) (by omega) kk)
theorem law_39 {G : GG} {m : Mem} {K : Nat} {c0 s0 : Nat} {i : Int} (h : IV m K) (hK : K ≤ 600) (hi : 0 ≤ i ∧ i + 5 ≤ (gV G 8 : Nat)) (hL : gV G 8 < 2147483648) (hc : c0 ≤ 400000) (hs : s0 ≤ 6000000) : LST G m K c0 s0 i 2523 := by
  rcases pd_richest (G := G) h with ⟨R, r, c1, m2, hR, hr, hC, hM, hI⟩
  refine ⟨m2, hI, fun res h' kk => ?_⟩
  unfold lvL at kk ⊢
  refine x_aload_n (pc := 2523) dL_law_2523 2 rfl ?_
  refine l_callV (pc := 2524) _ dL_law_2524 (.inl (.inl rfl)) hC lkL_271 rfl rfl rfl rfl (mem_dom0 (by decide) (by decide)) (Nat.le_of_ble_eq_true rfl) (by decide) rfl (by omega) (by omega) ?_
  refine x_aload_n (pc := 2527) dL_law_2527 3 rfl ?_
  refine l_callV (pc := 2528) _ dL_law_2528 (.inl hR) hM lkL_274 rfl rfl rfl rfl (mem_dom0 (by decide) (by decide)) (Nat.le_of_ble_eq_true rfl) (Nat.le_of_ble_eq_true rfl) rfl (by omega) (by omega) ?_
  refine x_icmp_eq (pc := 2531) 2773 dL_law_2531 (by decide) hr hr (fun _ => ?_) (fun q => absurd rfl q)
  exact x_lv [0, 1, 2, 3, 4, 5] rfl (x_widen (by omega) (by omega) kk)
theorem law_42 {G : GG} {m : Mem} {K : Nat} {c0 s0 : Nat} {i : Int} (h : IV m K) (hK : K ≤ 600) (hi : 0 ≤ i ∧ i + 5 ≤ (gV G 8 : Nat)) (hL : gV G 8 < 2147483648) (hc : c0 ≤ 400000) (hs : s0 ≤ 6000000) : LST G m K c0 s0 i 2648 := by
  rcases pd_undo (G := G) h with ⟨R, r, c1, m2, hR, hr, hC, hM, hI⟩
  refine ⟨m2, hI, fun res h' kk => ?_⟩
  unfold lvL at kk ⊢
  refine x_aload_n (pc := 2648) dL_law_2648 2 rfl ?_
  refine l_callV (pc := 2649) _ dL_law_2649 (.inl (.inl rfl)) hC lkL_281 rfl rfl rfl rfl (mem_dom0 (by decide) (by decide)) (Nat.le_of_ble_eq_true rfl) (by decide) rfl (by omega) (by omega) ?_
  refine x_aload_n (pc := 2652) dL_law_2652 3 rfl ?_
  refine l_callV (pc := 2653) _ dL_law_2653 (.inl hR) hM lkL_284 rfl rfl rfl rfl (mem_dom0 (by decide) (by decide)) (Nat.le_of_ble_eq_true rfl) (Nat.le_of_ble_eq_true rfl) rfl (by omega) (by omega) ?_
  refine x_icmp_eq (pc := 2656) 2773 dL_law_2656 (by decide) hr hr (fun _ => ?_) (fun q => absurd rfl q)
  exact x_lv [0, 1, 2, 3, 4, 5] rfl (x_widen (by omega) (by omega) kk)
