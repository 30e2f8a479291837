/-! drawn: packs and curves -/
theorem ckq {c c' w n C : Nat} (h : c + w * (n + 1) ≤ C) (u : c' ≤ c + w) : c' + w * n ≤ C := by
  rw [Nat.mul_add, Nat.mul_one] at h
  omega
theorem ckx {c w n C T : Nat} (h : c + w * (n + 1) ≤ C) (e : C ≤ T) : c ≤ T := by omega

set_option maxRecDepth 20000 in
theorem lp_pak {G : GG} {h : Hp} {a b v0 : Nat} (hL : gV G 21 ≤ 300) (m58 : (58, b) ∈ h.1) {v : Int} (hv : 0 ≤ v ∧ v < 2147483648) {cc pq : Int} (hpq : 0 ≤ pq ∧ pq ≤ 4) : ∀ (n : Nat) {H : Hp} {N : Int → Int} {B : Bok} {S T : Nat → Prop} {L : List Int} {k c0 s0 : Nat} (D : DW G h H a N B S T b v0 L) (hP : PR L N) (hb : BY L) (hR : RC N cc 0 0 (k : Int) 0 0) (hk : (k : Int) + n = pq) (hl : L.length + 19 * n ≤ 139) (hcs : c0 + 10 * n ≤ 114) (hss : s0 + 8100 * n ≤ 62400), YY G ML_drawn (rmL 12 300 200000) 221 [(0, .ref (gV G 20)), (1, .int (iI 0)), (2, rf G 58 b), (3, rf G 51 a), (4, .int (iI v)), (5, .int (iI pq)), (6, .int (iI (k : Int)))] [] H c0 s0 (fun v h1 => ∃ L N B S T, v = some (rf G 51 a) ∧ DW G h h1 a N B S T b v0 L ∧ PR L N ∧ L.length ≤ 420 ∧ BY L ∧ UC N ∧ N 9 = 0 ∧ N 2 = 0) := by
  intro n
  induction n with
  | zero =>
    intro H N B S T L k c0 s0 D hP hb hR hk hl hcs hss
    have hkp : (k : Int) = pq := by omega
    have hm : ∀ i, i < 7 → 0 ≤ nj N i ∧ nj N i ≤ mxj i := fun i hi => (D.1.2.2.2.1 i hi).1
    refine o_uq (fun uH => ?_)
    refine o_iload (pc := 221) dL_drawn_221 6 rfl ?_
    refine o_iload (pc := 223) dL_drawn_223 5 rfl ?_
    refine o_icmp_ge (pc := 225) 400 dL_drawn_225 (by decide) (by unfold inI; omega) (by unfold inI; omega) (fun c_225 => ?_) (fun c_225 => (by exfalso; omega))
    exact o_lv [0, 1, 2, 3, 4, 5] rfl (dr_400 hL m58 hv hpq D hP hb (by rw [← hkp]; exact hR) (lzs hl) (by (try simp only [rmL, List.length_cons, List.length_nil, Nat.add_assoc, Nat.reduceAdd, Nat.add_zero]); first | exact ckl hcs (Nat.le_of_ble_eq_true rfl) (Nat.le_of_ble_eq_true rfl) | exact ckl hss (Nat.le_of_ble_eq_true rfl) (Nat.le_of_ble_eq_true rfl) | exact ck0 hcs (Nat.le_of_ble_eq_true rfl) | exact ck0 hss (Nat.le_of_ble_eq_true rfl) | exact ckr hcs (Nat.le_of_ble_eq_true rfl) | exact ckr hss (Nat.le_of_ble_eq_true rfl) | exact ckz hcs (Nat.le_of_ble_eq_true rfl) | exact ckz hss (Nat.le_of_ble_eq_true rfl)) (by (try simp only [rmL, List.length_cons, List.length_nil, Nat.add_assoc, Nat.reduceAdd, Nat.add_zero]); first | exact ckl hcs (Nat.le_of_ble_eq_true rfl) (Nat.le_of_ble_eq_true rfl) | exact ckl hss (Nat.le_of_ble_eq_true rfl) (Nat.le_of_ble_eq_true rfl) | exact ck0 hcs (Nat.le_of_ble_eq_true rfl) | exact ck0 hss (Nat.le_of_ble_eq_true rfl) | exact ckr hcs (Nat.le_of_ble_eq_true rfl) | exact ckr hss (Nat.le_of_ble_eq_true rfl) | exact ckz hcs (Nat.le_of_ble_eq_true rfl) | exact ckz hss (Nat.le_of_ble_eq_true rfl)))
  | succ n ih =>
    intro H N B S T L k c0 s0 D hP hb hR hk hl hcs hss
    have hm : ∀ i, i < 7 → 0 ≤ nj N i ∧ nj N i ≤ mxj i := fun i hi => (D.1.2.2.2.1 i hi).1
    refine o_uq (fun uH => ?_)
    refine o_iload (pc := 221) dL_drawn_221 6 rfl ?_
    refine o_iload (pc := 223) dL_drawn_223 5 rfl ?_
    refine o_icmp_ge (pc := 225) 400 dL_drawn_225 (by decide) (by unfold inI; omega) (by unfold inI; omega) (fun c_225 => (by exfalso; omega)) (fun c_225 => ?_)
    refine o_aload_n (pc := 228) dL_drawn_228 0 rfl ?_
    refine o_iload_n (pc := 229) dL_drawn_229 1 rfl ?_
    refine o_iconst (pc := 230) dL_drawn_230 ?_
    refine o_iadd (pc := 231) dL_drawn_231 ?_
    refine o_iload (pc := 232) dL_drawn_232 6 rfl ?_
    refine o_iadd (pc := 234) dL_drawn_234 ?_
    refine o_callS (pc := 235) _ dL_drawn_235 (cw_at hL (k := 0 + 4 + (k : Int)) (by omega)) lkL_30 rfl ⟨⟨(Nat.le_of_ble_eq_true rfl), (Nat.le_of_ble_eq_true rfl)⟩, (by (try simp only [rmL, List.length_cons, List.length_nil, Nat.add_assoc, Nat.reduceAdd, Nat.add_zero]); first | exact ckl hcs (Nat.le_of_ble_eq_true rfl) (Nat.le_of_ble_eq_true rfl) | exact ckl hss (Nat.le_of_ble_eq_true rfl) (Nat.le_of_ble_eq_true rfl) | exact ck0 hcs (Nat.le_of_ble_eq_true rfl) | exact ck0 hss (Nat.le_of_ble_eq_true rfl) | exact ckr hcs (Nat.le_of_ble_eq_true rfl) | exact ckr hss (Nat.le_of_ble_eq_true rfl) | exact ckz hcs (Nat.le_of_ble_eq_true rfl) | exact ckz hss (Nat.le_of_ble_eq_true rfl)), (by (try simp only [rmL, List.length_cons, List.length_nil, Nat.add_assoc, Nat.reduceAdd, Nat.add_zero]); first | exact ckl hcs (Nat.le_of_ble_eq_true rfl) (Nat.le_of_ble_eq_true rfl) | exact ckl hss (Nat.le_of_ble_eq_true rfl) (Nat.le_of_ble_eq_true rfl) | exact ck0 hcs (Nat.le_of_ble_eq_true rfl) | exact ck0 hss (Nat.le_of_ble_eq_true rfl) | exact ckr hcs (Nat.le_of_ble_eq_true rfl) | exact ckr hss (Nat.le_of_ble_eq_true rfl) | exact ckz hcs (Nat.le_of_ble_eq_true rfl) | exact ckz hss (Nat.le_of_ble_eq_true rfl))⟩ (Nat.le_of_ble_eq_true rfl) rfl (fun v h1 hq => ?_)
    obtain ⟨x, rfl, hx, e2⟩ := hq
    obtain rfl := e2.symm
    obtain ⟨cap, hcp, hcap⟩ : ∃ cap : Int, 2 + x % 300 = cap ∧ 2 ≤ cap ∧ cap < 1000 := ⟨_, rfl, by omega, by omega⟩
    have hk4 : k < 4 := by omega
    have hk2 : ((k + 1 : Nat) : Int) + n = pq := by omega
    have z0 : L.length ≤ 120 := lz0 hl rfl
    refine o_istore (pc := 238) (lv' := [(7, _), (0, _), (1, _), (2, _), (3, _), (4, _), (5, _), (6, _)]) dL_drawn_238 (by decide) rfl ?_
    refine o_iconst (pc := 240) dL_drawn_240 ?_
    refine o_iload (pc := 241) dL_drawn_241 0 rfl ?_
    refine o_sipush (pc := 243) (z := 300) dL_drawn_243 (by decide) ?_
    refine o_irem (pc := 246) dL_drawn_246 (by omega) (by omega) ?_
    refine o_iadd (pc := 247) dL_drawn_247 ?_
    refine o_topI (y := cap) hcp ?_
    refine o_istore (pc := 248) (lv' := [(8, _), (7, _), (0, _), (1, _), (2, _), (3, _), (4, _), (5, _), (6, _)]) dL_drawn_248 (by decide) rfl ?_
    refine o_aload_n (pc := 250) dL_drawn_250 5 rfl ?_
    refine o_gR (pc := 251) (j := 7) (56) ((B.1 0)) dL_drawn_251 flL_56 rfl rfl D.1.mW (D.1.r 0) ?_
    refine o_callV (pc := 254) _ dL_drawn_254 (cl_isEmpty (D.1.l 0)) lkL_69 rfl rfl rfl rfl (D.1.l 0).1 ⟨⟨(Nat.le_of_ble_eq_true rfl), (Nat.le_of_ble_eq_true rfl)⟩, (by (try simp only [rmL, List.length_cons, List.length_nil, Nat.add_assoc, Nat.reduceAdd, Nat.add_zero]); first | exact ckl hcs (Nat.le_of_ble_eq_true rfl) (Nat.le_of_ble_eq_true rfl) | exact ckl hss (Nat.le_of_ble_eq_true rfl) (Nat.le_of_ble_eq_true rfl) | exact ck0 hcs (Nat.le_of_ble_eq_true rfl) | exact ck0 hss (Nat.le_of_ble_eq_true rfl) | exact ckr hcs (Nat.le_of_ble_eq_true rfl) | exact ckr hss (Nat.le_of_ble_eq_true rfl) | exact ckz hcs (Nat.le_of_ble_eq_true rfl) | exact ckz hss (Nat.le_of_ble_eq_true rfl)), (by (try simp only [rmL, List.length_cons, List.length_nil, Nat.add_assoc, Nat.reduceAdd, Nat.add_zero]); first | exact ckl hcs (Nat.le_of_ble_eq_true rfl) (Nat.le_of_ble_eq_true rfl) | exact ckl hss (Nat.le_of_ble_eq_true rfl) (Nat.le_of_ble_eq_true rfl) | exact ck0 hcs (Nat.le_of_ble_eq_true rfl) | exact ck0 hss (Nat.le_of_ble_eq_true rfl) | exact ckr hcs (Nat.le_of_ble_eq_true rfl) | exact ckr hss (Nat.le_of_ble_eq_true rfl) | exact ckz hcs (Nat.le_of_ble_eq_true rfl) | exact ckz hss (Nat.le_of_ble_eq_true rfl))⟩ (Nat.le_of_ble_eq_true rfl) rfl (fun v h2 hq => ?_)
    obtain ⟨rfl, e2⟩ := hq
    obtain rfl := e2.symm
    refine o_ifb_ne (pc := 257) 271 dL_drawn_257 (by decide) (fun c_257 => ?_) (fun c_257 => ?_)
    · refine o_iconst (pc := 271) dL_drawn_271 ?_
      refine o_goto (pc := 272) 289 dL_drawn_272 (by decide) ?_
      refine o_lv [2, 3, 4, 5, 6, 7, 8, 1, 0] rfl (pk_289 hL m58 hv hpq hx hcap (.inl rfl) hk4 hP hb z0 D hR (by simp only [rmL, Nat.add_zero]; exact ckx hcs (Nat.le_of_ble_eq_true rfl)) (by simp only [rmL, Nat.add_zero]; exact ckx hss (Nat.le_of_ble_eq_true rfl)) (fun H1 N1 B1 S1 T1 L1 c1 s1 u1 u2 u3 u4 u5 u6 u7 => ?_))
      refine o_iinc (pc := 394) (lv' := [(6, _), (0, _), (1, _), (2, _), (3, _), (4, _), (5, _)]) dL_drawn_394 6 rfl (by decide) rfl ?_
      refine o_goto (pc := 397) 221 dL_drawn_397 (by decide) ?_
      exact o_lv [1, 2, 3, 4, 5, 6, 0] rfl (ih (k := k + 1) u1 u2 u3 u4 hk2 (lzn hl u5) (ckq hcs (by simp only [rmL, List.length_cons, List.length_nil, Nat.add_assoc, Nat.reduceAdd, Nat.add_zero] at u6; exact u6)) (ckq hss (by simp only [rmL, List.length_cons, List.length_nil, Nat.add_assoc, Nat.reduceAdd, Nat.add_zero] at u7; exact u7)))
    · refine o_iload (pc := 260) dL_drawn_260 1 rfl ?_
      refine o_sipush (pc := 262) (z := 512) dL_drawn_262 (by decide) ?_
      refine o_idiv (pc := 265) dL_drawn_265 (by omega) (by omega) ?_
      refine o_iconst (pc := 266) dL_drawn_266 ?_
      refine o_irem (pc := 267) dL_drawn_267 (by omega) (by omega) ?_
      refine o_if_ne (pc := 268) 275 dL_drawn_268 (by decide) (by unfold inI; omega) (fun c_268 => ?_) (fun c_268 => ?_)
      · refine o_iload (pc := 275) dL_drawn_275 1 rfl ?_
        refine o_sipush (pc := 277) (z := 2048) dL_drawn_277 (by decide) ?_
        refine o_idiv (pc := 280) dL_drawn_280 (by omega) (by omega) ?_
        refine o_aload_n (pc := 281) dL_drawn_281 5 rfl ?_
        refine o_gR (pc := 282) (j := 7) (56) ((B.1 0)) dL_drawn_282 flL_56 rfl rfl D.1.mW (D.1.r 0) ?_
        refine o_callV (pc := 285) _ dL_drawn_285 (cl_size (D.1.l 0)) lkL_73 rfl rfl rfl rfl (D.1.l 0).1 ⟨⟨(Nat.le_of_ble_eq_true rfl), (Nat.le_of_ble_eq_true rfl)⟩, (by (try simp only [rmL, List.length_cons, List.length_nil, Nat.add_assoc, Nat.reduceAdd, Nat.add_zero]); first | exact ckl hcs (Nat.le_of_ble_eq_true rfl) (Nat.le_of_ble_eq_true rfl) | exact ckl hss (Nat.le_of_ble_eq_true rfl) (Nat.le_of_ble_eq_true rfl) | exact ck0 hcs (Nat.le_of_ble_eq_true rfl) | exact ck0 hss (Nat.le_of_ble_eq_true rfl) | exact ckr hcs (Nat.le_of_ble_eq_true rfl) | exact ckr hss (Nat.le_of_ble_eq_true rfl) | exact ckz hcs (Nat.le_of_ble_eq_true rfl) | exact ckz hss (Nat.le_of_ble_eq_true rfl)), (by (try simp only [rmL, List.length_cons, List.length_nil, Nat.add_assoc, Nat.reduceAdd, Nat.add_zero]); first | exact ckl hcs (Nat.le_of_ble_eq_true rfl) (Nat.le_of_ble_eq_true rfl) | exact ckl hss (Nat.le_of_ble_eq_true rfl) (Nat.le_of_ble_eq_true rfl) | exact ck0 hcs (Nat.le_of_ble_eq_true rfl) | exact ck0 hss (Nat.le_of_ble_eq_true rfl) | exact ckr hcs (Nat.le_of_ble_eq_true rfl) | exact ckr hss (Nat.le_of_ble_eq_true rfl) | exact ckz hcs (Nat.le_of_ble_eq_true rfl) | exact ckz hss (Nat.le_of_ble_eq_true rfl))⟩ (Nat.le_of_ble_eq_true rfl) rfl (fun v h2 hq => ?_)
        obtain ⟨rfl, e2⟩ := hq
        obtain rfl := e2.symm
        have n4 : 0 < N 4 := by change ¬ (N 4).toNat = 0 at c_257; have := (D.1.nb 0).1; change 0 ≤ N 4 at this; omega
        refine o_topI (y := N 4) (by show (((N 4).toNat : Nat) : Int) = _; omega) ?_
        have n4b := (D.1.nb 0).2
        change N 4 ≤ 4 at n4b
        obtain ⟨cv, hce, hcv⟩ : ∃ cv : Int, x / 2048 % N 4 = cv ∧ (cv = -1 ∨ 0 ≤ cv ∧ cv < N 4) := ⟨_, rfl, .inr ⟨Int.emod_nonneg _ (by omega), Int.emod_lt_of_pos _ n4⟩⟩
        refine o_irem (pc := 288) dL_drawn_288 (by omega) (by omega) ?_
        refine o_topI (y := cv) hce ?_
        refine o_lv [2, 3, 4, 5, 6, 7, 8, 1, 0] rfl (pk_289 hL m58 hv hpq hx hcap hcv hk4 hP hb z0 D hR (by simp only [rmL, Nat.add_zero]; exact ckx hcs (Nat.le_of_ble_eq_true rfl)) (by simp only [rmL, Nat.add_zero]; exact ckx hss (Nat.le_of_ble_eq_true rfl)) (fun H1 N1 B1 S1 T1 L1 c1 s1 u1 u2 u3 u4 u5 u6 u7 => ?_))
        refine o_iinc (pc := 394) (lv' := [(6, _), (0, _), (1, _), (2, _), (3, _), (4, _), (5, _)]) dL_drawn_394 6 rfl (by decide) rfl ?_
        refine o_goto (pc := 397) 221 dL_drawn_397 (by decide) ?_
        exact o_lv [1, 2, 3, 4, 5, 6, 0] rfl (ih (k := k + 1) u1 u2 u3 u4 hk2 (lzn hl u5) (ckq hcs (by simp only [rmL, List.length_cons, List.length_nil, Nat.add_assoc, Nat.reduceAdd, Nat.add_zero] at u6; exact u6)) (ckq hss (by simp only [rmL, List.length_cons, List.length_nil, Nat.add_assoc, Nat.reduceAdd, Nat.add_zero] at u7; exact u7)))
      · refine o_iconst (pc := 271) dL_drawn_271 ?_
        refine o_goto (pc := 272) 289 dL_drawn_272 (by decide) ?_
        refine o_lv [2, 3, 4, 5, 6, 7, 8, 1, 0] rfl (pk_289 hL m58 hv hpq hx hcap (.inl rfl) hk4 hP hb z0 D hR (by simp only [rmL, Nat.add_zero]; exact ckx hcs (Nat.le_of_ble_eq_true rfl)) (by simp only [rmL, Nat.add_zero]; exact ckx hss (Nat.le_of_ble_eq_true rfl)) (fun H1 N1 B1 S1 T1 L1 c1 s1 u1 u2 u3 u4 u5 u6 u7 => ?_))
        refine o_iinc (pc := 394) (lv' := [(6, _), (0, _), (1, _), (2, _), (3, _), (4, _), (5, _)]) dL_drawn_394 6 rfl (by decide) rfl ?_
        refine o_goto (pc := 397) 221 dL_drawn_397 (by decide) ?_
        exact o_lv [1, 2, 3, 4, 5, 6, 0] rfl (ih (k := k + 1) u1 u2 u3 u4 hk2 (lzn hl u5) (ckq hcs (by simp only [rmL, List.length_cons, List.length_nil, Nat.add_assoc, Nat.reduceAdd, Nat.add_zero] at u6; exact u6)) (ckq hss (by simp only [rmL, List.length_cons, List.length_nil, Nat.add_assoc, Nat.reduceAdd, Nat.add_zero] at u7; exact u7)))
set_option maxRecDepth 20000 in
theorem dr_209 {G : GG} {h : Hp} {a b v0 : Nat} (hL : gV G 21 ≤ 300) (m58 : (58, b) ∈ h.1) {v : Int} (hv : 0 ≤ v ∧ v < 2147483648) {cc : Int} {H : Hp} {N : Int → Int} {B : Bok} {S T : Nat → Prop} {L : List Int} {c0 s0 : Nat} (D : DW G h H a N B S T b v0 L) (hP : PR L N) (hb : BY L) (hR : RC N cc 0 0 0 0 0) (hl : L.length ≤ 63) (hcs : c0 ≤ 74) (hss : s0 ≤ 30000) : YY G ML_drawn (rmL 12 300 200000) 209 [(0, .ref (gV G 20)), (1, .int (iI 0)), (2, rf G 58 b), (3, rf G 51 a), (4, .int (iI v))] [] H c0 s0 (fun v h1 => ∃ L N B S T, v = some (rf G 51 a) ∧ DW G h h1 a N B S T b v0 L ∧ PR L N ∧ L.length ≤ 420 ∧ BY L ∧ UC N ∧ N 9 = 0 ∧ N 2 = 0) := by
  obtain ⟨pq, hp0, hpq⟩ : ∃ pq : Int, v / 65536 % 5 = pq ∧ 0 ≤ pq ∧ pq ≤ 4 := ⟨_, rfl, by omega, by omega⟩
  have e8 : ((pq.toNat : Nat) : Int) = pq ∧ pq.toNat ≤ 4 := by omega
  refine o_iload (pc := 209) dL_drawn_209 4 rfl ?_
  refine o_ldc (pc := 211) (z := 65536) dL_drawn_211 kcL_68 (by decide) ?_
  refine o_idiv (pc := 213) dL_drawn_213 (by omega) (by omega) ?_
  refine o_iconst (pc := 214) dL_drawn_214 ?_
  refine o_irem (pc := 215) dL_drawn_215 (by omega) (by omega) ?_
  refine o_topI (y := pq) hp0 ?_
  refine o_istore (pc := 216) (lv' := [(5, _), (0, _), (1, _), (2, _), (3, _), (4, _)]) dL_drawn_216 (by decide) rfl ?_
  refine o_iconst (pc := 218) dL_drawn_218 ?_
  refine o_istore (pc := 219) (lv' := [(6, _), (5, _), (0, _), (1, _), (2, _), (3, _), (4, _)]) dL_drawn_219 (by decide) rfl ?_
  exact o_lv [2, 3, 4, 5, 6, 1, 0] rfl (lp_pak hL m58 hv hpq pq.toNat (k := 0) D hP hb hR (by omega) (by omega) (by omega) (by omega))

set_option maxRecDepth 20000 in
theorem lp_crv {G : GG} {h : Hp} {a b v0 : Nat} (hL : gV G 21 ≤ 300) (m58 : (58, b) ∈ h.1) {v : Int} (hv : 0 ≤ v ∧ v < 2147483648) : ∀ (n : Nat) {H : Hp} {N : Int → Int} {B : Bok} {S T : Nat → Prop} {L : List Int} {k c0 s0 : Nat} (D : DW G h H a N B S T b v0 L) (hP : PR L N) (hb : BY L) (hR : RC N (k : Int) 0 0 0 0 0) (hk : (k : Int) + n = v / 16384 % 3) (hl : L.length + 22 * n ≤ 63) (hcs : c0 + 10 * n ≤ 74) (hss : s0 + 10700 * n ≤ 30000), YY G ML_drawn (rmL 12 300 200000) 71 [(0, .ref (gV G 20)), (1, .int (iI 0)), (2, rf G 58 b), (3, rf G 51 a), (4, .int (iI v)), (5, .int (iI (k : Int)))] [] H c0 s0 (fun v h1 => ∃ L N B S T, v = some (rf G 51 a) ∧ DW G h h1 a N B S T b v0 L ∧ PR L N ∧ L.length ≤ 420 ∧ BY L ∧ UC N ∧ N 9 = 0 ∧ N 2 = 0) := by
  intro n
  induction n with
  | zero =>
    intro H N B S T L k c0 s0 D hP hb hR hk hl hcs hss
    have hm : ∀ i, i < 7 → 0 ≤ nj N i ∧ nj N i ≤ mxj i := fun i hi => (D.1.2.2.2.1 i hi).1
    refine o_uq (fun uH => ?_)
    refine o_iload (pc := 71) dL_drawn_71 5 rfl ?_
    refine o_iload (pc := 73) dL_drawn_73 4 rfl ?_
    refine o_sipush (pc := 75) (z := 16384) dL_drawn_75 (by decide) ?_
    refine o_idiv (pc := 78) dL_drawn_78 (by omega) (by omega) ?_
    refine o_iconst (pc := 79) dL_drawn_79 ?_
    refine o_irem (pc := 80) dL_drawn_80 (by omega) (by omega) ?_
    refine o_icmp_ge (pc := 81) 209 dL_drawn_81 (by decide) (by unfold inI; omega) (by unfold inI; omega) (fun c_81 => ?_) (fun c_81 => (by exfalso; omega))
    exact o_lv [0, 1, 2, 3, 4] rfl (dr_209 hL m58 hv D hP hb hR (lzs hl) (by (try simp only [rmL, List.length_cons, List.length_nil, Nat.add_assoc, Nat.reduceAdd, Nat.add_zero]); first | exact ckl hcs (Nat.le_of_ble_eq_true rfl) (Nat.le_of_ble_eq_true rfl) | exact ckl hss (Nat.le_of_ble_eq_true rfl) (Nat.le_of_ble_eq_true rfl) | exact ck0 hcs (Nat.le_of_ble_eq_true rfl) | exact ck0 hss (Nat.le_of_ble_eq_true rfl) | exact ckr hcs (Nat.le_of_ble_eq_true rfl) | exact ckr hss (Nat.le_of_ble_eq_true rfl) | exact ckz hcs (Nat.le_of_ble_eq_true rfl) | exact ckz hss (Nat.le_of_ble_eq_true rfl)) (by (try simp only [rmL, List.length_cons, List.length_nil, Nat.add_assoc, Nat.reduceAdd, Nat.add_zero]); first | exact ckl hcs (Nat.le_of_ble_eq_true rfl) (Nat.le_of_ble_eq_true rfl) | exact ckl hss (Nat.le_of_ble_eq_true rfl) (Nat.le_of_ble_eq_true rfl) | exact ck0 hcs (Nat.le_of_ble_eq_true rfl) | exact ck0 hss (Nat.le_of_ble_eq_true rfl) | exact ckr hcs (Nat.le_of_ble_eq_true rfl) | exact ckr hss (Nat.le_of_ble_eq_true rfl) | exact ckz hcs (Nat.le_of_ble_eq_true rfl) | exact ckz hss (Nat.le_of_ble_eq_true rfl)))
  | succ n ih =>
    intro H N B S T L k c0 s0 D hP hb hR hk hl hcs hss
    have hm : ∀ i, i < 7 → 0 ≤ nj N i ∧ nj N i ≤ mxj i := fun i hi => (D.1.2.2.2.1 i hi).1
    refine o_uq (fun uH => ?_)
    refine o_iload (pc := 71) dL_drawn_71 5 rfl ?_
    refine o_iload (pc := 73) dL_drawn_73 4 rfl ?_
    refine o_sipush (pc := 75) (z := 16384) dL_drawn_75 (by decide) ?_
    refine o_idiv (pc := 78) dL_drawn_78 (by omega) (by omega) ?_
    refine o_iconst (pc := 79) dL_drawn_79 ?_
    refine o_irem (pc := 80) dL_drawn_80 (by omega) (by omega) ?_
    refine o_icmp_ge (pc := 81) 209 dL_drawn_81 (by decide) (by unfold inI; omega) (by unfold inI; omega) (fun c_81 => (by exfalso; omega)) (fun c_81 => ?_)
    refine o_aload_n (pc := 84) dL_drawn_84 0 rfl ?_
    refine o_iload_n (pc := 85) dL_drawn_85 1 rfl ?_
    refine o_iconst (pc := 86) dL_drawn_86 ?_
    refine o_iadd (pc := 87) dL_drawn_87 ?_
    refine o_iload (pc := 88) dL_drawn_88 5 rfl ?_
    refine o_iadd (pc := 90) dL_drawn_90 ?_
    refine o_callS (pc := 91) _ dL_drawn_91 (cw_at hL (k := 0 + 1 + (k : Int)) (by omega)) lkL_30 rfl ⟨⟨(Nat.le_of_ble_eq_true rfl), (Nat.le_of_ble_eq_true rfl)⟩, (by (try simp only [rmL, List.length_cons, List.length_nil, Nat.add_assoc, Nat.reduceAdd, Nat.add_zero]); first | exact ckl hcs (Nat.le_of_ble_eq_true rfl) (Nat.le_of_ble_eq_true rfl) | exact ckl hss (Nat.le_of_ble_eq_true rfl) (Nat.le_of_ble_eq_true rfl) | exact ck0 hcs (Nat.le_of_ble_eq_true rfl) | exact ck0 hss (Nat.le_of_ble_eq_true rfl) | exact ckr hcs (Nat.le_of_ble_eq_true rfl) | exact ckr hss (Nat.le_of_ble_eq_true rfl) | exact ckz hcs (Nat.le_of_ble_eq_true rfl) | exact ckz hss (Nat.le_of_ble_eq_true rfl)), (by (try simp only [rmL, List.length_cons, List.length_nil, Nat.add_assoc, Nat.reduceAdd, Nat.add_zero]); first | exact ckl hcs (Nat.le_of_ble_eq_true rfl) (Nat.le_of_ble_eq_true rfl) | exact ckl hss (Nat.le_of_ble_eq_true rfl) (Nat.le_of_ble_eq_true rfl) | exact ck0 hcs (Nat.le_of_ble_eq_true rfl) | exact ck0 hss (Nat.le_of_ble_eq_true rfl) | exact ckr hcs (Nat.le_of_ble_eq_true rfl) | exact ckr hss (Nat.le_of_ble_eq_true rfl) | exact ckz hcs (Nat.le_of_ble_eq_true rfl) | exact ckz hss (Nat.le_of_ble_eq_true rfl))⟩ (Nat.le_of_ble_eq_true rfl) rfl (fun v h1 hq => ?_)
    obtain ⟨x, rfl, hx, e2⟩ := hq
    obtain rfl := e2.symm
    obtain ⟨wa, hw0, a0⟩ : ∃ w : Int, x % 8 = w ∧ 0 ≤ w ∧ w < 1000 := ⟨_, rfl, by omega, by omega⟩
    obtain ⟨wb, hw1, a1⟩ : ∃ w : Int, x / 8 % 8 = w ∧ 0 ≤ w ∧ w < 1000 := ⟨_, rfl, by omega, by omega⟩
    obtain ⟨wc, hw2, a2⟩ : ∃ w : Int, x / 64 % 8 = w ∧ 0 ≤ w ∧ w < 1000 := ⟨_, rfl, by omega, by omega⟩
    obtain ⟨wd, hw3, a3⟩ : ∃ w : Int, x / 512 % 30 = w ∧ 0 ≤ w ∧ w < 1000 := ⟨_, rfl, by omega, by omega⟩
    have n4 : N 4 < 2 := by rw [hR.1.1]; omega
    have qwa := a0
    have qwb := a1
    have qwc := a2
    have qwd := a3
    have hN := RDS.curve (N := N) (by omega) a0 a1 a2 a3
    have n0 : 0 ≤ nj N 0 := (hm 0 (by decide)).1
    have z0 : L.length ≤ 41 := lz0 hl rfl
    refine o_istore (pc := 94) (lv' := [(6, _), (0, _), (1, _), (2, _), (3, _), (4, _), (5, _)]) dL_drawn_94 (by decide) rfl ?_
    refine o_iconst (pc := 96) dL_drawn_96 ?_
    refine o_sizeD (fun e he => ?_) D.n
    refine o_newI (pc := 97) (N := 4) dL_drawn_97 he rfl (Nat.le_of_ble_eq_true rfl) (by (try simp only [rmL, List.length_cons, List.length_nil, Nat.add_assoc, Nat.reduceAdd, Nat.add_zero]); first | exact ckl hcs (Nat.le_of_ble_eq_true rfl) (Nat.le_of_ble_eq_true rfl) | exact ckl hss (Nat.le_of_ble_eq_true rfl) (Nat.le_of_ble_eq_true rfl) | exact ck0 hcs (Nat.le_of_ble_eq_true rfl) | exact ck0 hss (Nat.le_of_ble_eq_true rfl) | exact ckr hcs (Nat.le_of_ble_eq_true rfl) | exact ckr hss (Nat.le_of_ble_eq_true rfl) | exact ckz hcs (Nat.le_of_ble_eq_true rfl) | exact ckz hss (Nat.le_of_ble_eq_true rfl)) (by (try simp only [rmL, List.length_cons, List.length_nil, Nat.add_assoc, Nat.reduceAdd, Nat.add_zero]); first | exact ckl hcs (Nat.le_of_ble_eq_true rfl) (Nat.le_of_ble_eq_true rfl) | exact ckl hss (Nat.le_of_ble_eq_true rfl) (Nat.le_of_ble_eq_true rfl) | exact ck0 hcs (Nat.le_of_ble_eq_true rfl) | exact ck0 hss (Nat.le_of_ble_eq_true rfl) | exact ckr hcs (Nat.le_of_ble_eq_true rfl) | exact ckr hss (Nat.le_of_ble_eq_true rfl) | exact ckz hcs (Nat.le_of_ble_eq_true rfl) | exact ckz hss (Nat.le_of_ble_eq_true rfl)) (fun fe => ?_)
    have S0 := SA.nw (tg := 0) (len := 4) (Fr.rf (S := fun _ => False) D.n) fe
    refine o_dup (pc := 99) dL_drawn_99 rfl ?_
    refine o_iconst (pc := 100) dL_drawn_100 ?_
    refine o_iload (pc := 101) dL_drawn_101 0 rfl ?_
    refine o_bipush (pc := 103) (z := 8) dL_drawn_103 (by decide) ?_
    refine o_irem (pc := 105) dL_drawn_105 (by omega) (by omega) ?_
    refine o_topI (y := wa) hw0 ?_
    refine o_isI (pc := 106) dL_drawn_106 (shp_ak (by decide)) nw_in (by omega) (by omega) ?_
    have S1 := S0.set fe 0 wa
    refine o_dup (pc := 107) dL_drawn_107 rfl ?_
    refine o_iconst (pc := 108) dL_drawn_108 ?_
    refine o_iload (pc := 109) dL_drawn_109 0 rfl ?_
    refine o_bipush (pc := 111) (z := 8) dL_drawn_111 (by decide) ?_
    refine o_idiv (pc := 113) dL_drawn_113 (by omega) (by omega) ?_
    refine o_bipush (pc := 114) (z := 8) dL_drawn_114 (by decide) ?_
    refine o_irem (pc := 116) dL_drawn_116 (by omega) (by omega) ?_
    refine o_topI (y := wb) hw1 ?_
    refine o_isI (pc := 117) dL_drawn_117 (shp_ak (by decide)) nw_in (by omega) (by omega) ?_
    have S2 := S1.set fe 1 wb
    refine o_dup (pc := 118) dL_drawn_118 rfl ?_
    refine o_iconst (pc := 119) dL_drawn_119 ?_
    refine o_iload (pc := 120) dL_drawn_120 0 rfl ?_
    refine o_bipush (pc := 122) (z := 64) dL_drawn_122 (by decide) ?_
    refine o_idiv (pc := 124) dL_drawn_124 (by omega) (by omega) ?_
    refine o_bipush (pc := 125) (z := 8) dL_drawn_125 (by decide) ?_
    refine o_irem (pc := 127) dL_drawn_127 (by omega) (by omega) ?_
    refine o_topI (y := wc) hw2 ?_
    refine o_isI (pc := 128) dL_drawn_128 (shp_ak (by decide)) nw_in (by omega) (by omega) ?_
    have S3 := S2.set fe 2 wc
    refine o_dup (pc := 129) dL_drawn_129 rfl ?_
    refine o_iconst (pc := 130) dL_drawn_130 ?_
    refine o_iload (pc := 131) dL_drawn_131 0 rfl ?_
    refine o_sipush (pc := 133) (z := 512) dL_drawn_133 (by decide) ?_
    refine o_idiv (pc := 136) dL_drawn_136 (by omega) (by omega) ?_
    refine o_bipush (pc := 137) (z := 30) dL_drawn_137 (by decide) ?_
    refine o_irem (pc := 139) dL_drawn_139 (by omega) (by omega) ?_
    refine o_topI (y := wd) hw3 ?_
    refine o_isI (pc := 140) dL_drawn_140 (shp_ak (by decide)) nw_in (by omega) (by omega) ?_
    have S4 := S3.set fe 3 wd
    refine o_gen (P := fun H9 => SA 0 H e 4 _ H9) S4 (fun H9 S9 => ?_)
    clear S0 S1 S2 S3 S4
    have Da := D.f0 S9.1
    refine o_astore (pc := 141) (lv' := [(7, _), (6, _), (0, _), (1, _), (2, _), (3, _), (4, _), (5, _)]) dL_drawn_141 (by decide) rfl ?_
    refine o_aload_n (pc := 143) dL_drawn_143 5 rfl ?_
    refine o_gR (pc := 144) (j := 7) (56) ((B.1 0)) dL_drawn_144 flL_56 rfl rfl Da.1.mW (Da.1.r 0) ?_
    refine o_aload (pc := 147) dL_drawn_147 0 rfl ?_
    refine o_callV (pc := 149) _ dL_drawn_149 (cl_add (Da.1.l 0) Da.n (by have := Da.1.nb 0; have e9 : mxj 0 ≤ 16 := (by decide); omega) (a := pk 0) (e := e) (pk_isE 0) S9.2.1) lkL_60 rfl rfl rfl rfl (Da.1.l 0).1 ⟨⟨(Nat.le_of_ble_eq_true rfl), (Nat.le_of_ble_eq_true rfl)⟩, (by (try simp only [rmL, List.length_cons, List.length_nil, Nat.add_assoc, Nat.reduceAdd, Nat.add_zero]); first | exact ckl hcs (Nat.le_of_ble_eq_true rfl) (Nat.le_of_ble_eq_true rfl) | exact ckl hss (Nat.le_of_ble_eq_true rfl) (Nat.le_of_ble_eq_true rfl) | exact ck0 hcs (Nat.le_of_ble_eq_true rfl) | exact ck0 hss (Nat.le_of_ble_eq_true rfl) | exact ckr hcs (Nat.le_of_ble_eq_true rfl) | exact ckr hss (Nat.le_of_ble_eq_true rfl) | exact ckz hcs (Nat.le_of_ble_eq_true rfl) | exact ckz hss (Nat.le_of_ble_eq_true rfl)), (by (try simp only [rmL, List.length_cons, List.length_nil, Nat.add_assoc, Nat.reduceAdd, Nat.add_zero]); first | exact ckl hcs (Nat.le_of_ble_eq_true rfl) (Nat.le_of_ble_eq_true rfl) | exact ckl hss (Nat.le_of_ble_eq_true rfl) (Nat.le_of_ble_eq_true rfl) | exact ck0 hcs (Nat.le_of_ble_eq_true rfl) | exact ck0 hss (Nat.le_of_ble_eq_true rfl) | exact ckr hcs (Nat.le_of_ble_eq_true rfl) | exact ckr hss (Nat.le_of_ble_eq_true rfl) | exact ckz hcs (Nat.le_of_ble_eq_true rfl) | exact ckz hss (Nat.le_of_ble_eq_true rfl))⟩ (Nat.le_of_ble_eq_true rfl) rfl (fun v H0 hq => ?_)
    obtain ⟨rfl, k1, b1, hA0, FA0, hbb⟩ := hq
    refine o_uq (fun u0 => ?_)
    have D0 := D.add uH S9.1 u0 0 (by decide) hA0 FA0 hbb S9.2.1 fe (by show N 4 + 1 ≤ 4; omega) (v := v5 wa wb wc wd 0) (fun f hf => S9.v4 f hf)
    obtain ⟨y0, q0, B0, hv0⟩ := D0.2.2.1
    refine o_pop (pc := 152) dL_drawn_152 rfl ?_
    refine o_aload_n (pc := 153) dL_drawn_153 4 rfl ?_
    refine o_ldcS (pc := 154) ";curve " 8 dL_drawn_154 (by decide +kernel) ?_
    refine o_callV (pc := 156) _ dL_drawn_156 (cb_addS (t := 8) B0 D0.n (Nat.le_trans z0 (Nat.le_of_ble_eq_true rfl)) (by decide)) lkL_45 rfl rfl rfl rfl B0.1 ⟨⟨(Nat.le_of_ble_eq_true rfl), (Nat.le_of_ble_eq_true rfl)⟩, (by (try simp only [rmL, List.length_cons, List.length_nil, Nat.add_assoc, Nat.reduceAdd, Nat.add_zero]); first | exact ckl hcs (Nat.le_of_ble_eq_true rfl) (Nat.le_of_ble_eq_true rfl) | exact ckl hss (Nat.le_of_ble_eq_true rfl) (Nat.le_of_ble_eq_true rfl) | exact ck0 hcs (Nat.le_of_ble_eq_true rfl) | exact ck0 hss (Nat.le_of_ble_eq_true rfl) | exact ckr hcs (Nat.le_of_ble_eq_true rfl) | exact ckr hss (Nat.le_of_ble_eq_true rfl) | exact ckz hcs (Nat.le_of_ble_eq_true rfl) | exact ckz hss (Nat.le_of_ble_eq_true rfl)), (by (try simp only [rmL, List.length_cons, List.length_nil, Nat.add_assoc, Nat.reduceAdd, Nat.add_zero]); first | exact ckl hcs (Nat.le_of_ble_eq_true rfl) (Nat.le_of_ble_eq_true rfl) | exact ckl hss (Nat.le_of_ble_eq_true rfl) (Nat.le_of_ble_eq_true rfl) | exact ck0 hcs (Nat.le_of_ble_eq_true rfl) | exact ck0 hss (Nat.le_of_ble_eq_true rfl) | exact ckr hcs (Nat.le_of_ble_eq_true rfl) | exact ckr hss (Nat.le_of_ble_eq_true rfl) | exact ckz hcs (Nat.le_of_ble_eq_true rfl) | exact ckz hss (Nat.le_of_ble_eq_true rfl))⟩ (Nat.le_of_ble_eq_true rfl) rfl (fun v H1 hq => ?_)
    obtain ⟨rfl, y1, q1, B1, G1, w1⟩ := hq
    refine o_uq (fun u1 => ?_)
    obtain ⟨D1, hv1⟩ := D0.app u0 B0 hv0 B1 G1 w1
    have z1 := lz (m' := 48) z0 (Nat.le_of_eq lit_l8) rfl
    refine o_aload (pc := 159) dL_drawn_159 0 rfl ?_
    refine o_iconst (pc := 161) dL_drawn_161 ?_
    refine o_iaI (pc := 162) dL_drawn_162 (shp_ak (by decide)) (DW.new D1 (by decide) n0).1 (by omega) (by omega) ((DW.new D1 (by decide) n0).2 0 (by decide)) ?_
    refine o_topI (y := wa) rfl ?_
    refine o_callV (pc := 163) _ dL_drawn_163 (cb_addI B1 D1.n (Nat.le_trans z1 (Nat.le_of_ble_eq_true rfl)) (n := wa) qwa.1 qwa.2) lkL_50 rfl rfl rfl rfl B1.1 ⟨⟨(Nat.le_of_ble_eq_true rfl), (Nat.le_of_ble_eq_true rfl)⟩, (by (try simp only [rmL, List.length_cons, List.length_nil, Nat.add_assoc, Nat.reduceAdd, Nat.add_zero]); first | exact ckl hcs (Nat.le_of_ble_eq_true rfl) (Nat.le_of_ble_eq_true rfl) | exact ckl hss (Nat.le_of_ble_eq_true rfl) (Nat.le_of_ble_eq_true rfl) | exact ck0 hcs (Nat.le_of_ble_eq_true rfl) | exact ck0 hss (Nat.le_of_ble_eq_true rfl) | exact ckr hcs (Nat.le_of_ble_eq_true rfl) | exact ckr hss (Nat.le_of_ble_eq_true rfl) | exact ckz hcs (Nat.le_of_ble_eq_true rfl) | exact ckz hss (Nat.le_of_ble_eq_true rfl)), (by (try simp only [rmL, List.length_cons, List.length_nil, Nat.add_assoc, Nat.reduceAdd, Nat.add_zero]); first | exact ckl hcs (Nat.le_of_ble_eq_true rfl) (Nat.le_of_ble_eq_true rfl) | exact ckl hss (Nat.le_of_ble_eq_true rfl) (Nat.le_of_ble_eq_true rfl) | exact ck0 hcs (Nat.le_of_ble_eq_true rfl) | exact ck0 hss (Nat.le_of_ble_eq_true rfl) | exact ckr hcs (Nat.le_of_ble_eq_true rfl) | exact ckr hss (Nat.le_of_ble_eq_true rfl) | exact ckz hcs (Nat.le_of_ble_eq_true rfl) | exact ckz hss (Nat.le_of_ble_eq_true rfl))⟩ (Nat.le_of_ble_eq_true rfl) rfl (fun v H2 hq => ?_)
    obtain ⟨rfl, y2, q2, B2, G2, w2⟩ := hq
    refine o_uq (fun u2 => ?_)
    obtain ⟨D2, hv2⟩ := D1.app u1 B1 hv1 B2 G2 w2
    have z2 := lz (m' := 51) z1 (dg_len wa).2 rfl
    refine o_bipush (pc := 166) (z := 32) dL_drawn_166 (by decide) ?_
    refine o_callV (pc := 168) _ dL_drawn_168 (cb_addC B2 D2.n (Nat.le_trans z2 (Nat.le_of_ble_eq_true rfl)) (z := 32) (by decide)) lkL_53 rfl rfl rfl rfl B2.1 ⟨⟨(Nat.le_of_ble_eq_true rfl), (Nat.le_of_ble_eq_true rfl)⟩, (by (try simp only [rmL, List.length_cons, List.length_nil, Nat.add_assoc, Nat.reduceAdd, Nat.add_zero]); first | exact ckl hcs (Nat.le_of_ble_eq_true rfl) (Nat.le_of_ble_eq_true rfl) | exact ckl hss (Nat.le_of_ble_eq_true rfl) (Nat.le_of_ble_eq_true rfl) | exact ck0 hcs (Nat.le_of_ble_eq_true rfl) | exact ck0 hss (Nat.le_of_ble_eq_true rfl) | exact ckr hcs (Nat.le_of_ble_eq_true rfl) | exact ckr hss (Nat.le_of_ble_eq_true rfl) | exact ckz hcs (Nat.le_of_ble_eq_true rfl) | exact ckz hss (Nat.le_of_ble_eq_true rfl)), (by (try simp only [rmL, List.length_cons, List.length_nil, Nat.add_assoc, Nat.reduceAdd, Nat.add_zero]); first | exact ckl hcs (Nat.le_of_ble_eq_true rfl) (Nat.le_of_ble_eq_true rfl) | exact ckl hss (Nat.le_of_ble_eq_true rfl) (Nat.le_of_ble_eq_true rfl) | exact ck0 hcs (Nat.le_of_ble_eq_true rfl) | exact ck0 hss (Nat.le_of_ble_eq_true rfl) | exact ckr hcs (Nat.le_of_ble_eq_true rfl) | exact ckr hss (Nat.le_of_ble_eq_true rfl) | exact ckz hcs (Nat.le_of_ble_eq_true rfl) | exact ckz hss (Nat.le_of_ble_eq_true rfl))⟩ (Nat.le_of_ble_eq_true rfl) rfl (fun v H3 hq => ?_)
    obtain ⟨rfl, y3, q3, B3, G3, w3⟩ := hq
    refine o_uq (fun u3 => ?_)
    obtain ⟨D3, hv3⟩ := D2.app u2 B2 hv2 B3 G3 w3
    have z3 := lz (m' := 52) z2 (show ([32] : List Int).length ≤ 1 from Nat.le_refl 1) rfl
    refine o_aload (pc := 171) dL_drawn_171 0 rfl ?_
    refine o_iconst (pc := 173) dL_drawn_173 ?_
    refine o_iaI (pc := 174) dL_drawn_174 (shp_ak (by decide)) (DW.new D3 (by decide) n0).1 (by omega) (by omega) ((DW.new D3 (by decide) n0).2 1 (by decide)) ?_
    refine o_topI (y := wb) rfl ?_
    refine o_callV (pc := 175) _ dL_drawn_175 (cb_addI B3 D3.n (Nat.le_trans z3 (Nat.le_of_ble_eq_true rfl)) (n := wb) qwb.1 qwb.2) lkL_50 rfl rfl rfl rfl B3.1 ⟨⟨(Nat.le_of_ble_eq_true rfl), (Nat.le_of_ble_eq_true rfl)⟩, (by (try simp only [rmL, List.length_cons, List.length_nil, Nat.add_assoc, Nat.reduceAdd, Nat.add_zero]); first | exact ckl hcs (Nat.le_of_ble_eq_true rfl) (Nat.le_of_ble_eq_true rfl) | exact ckl hss (Nat.le_of_ble_eq_true rfl) (Nat.le_of_ble_eq_true rfl) | exact ck0 hcs (Nat.le_of_ble_eq_true rfl) | exact ck0 hss (Nat.le_of_ble_eq_true rfl) | exact ckr hcs (Nat.le_of_ble_eq_true rfl) | exact ckr hss (Nat.le_of_ble_eq_true rfl) | exact ckz hcs (Nat.le_of_ble_eq_true rfl) | exact ckz hss (Nat.le_of_ble_eq_true rfl)), (by (try simp only [rmL, List.length_cons, List.length_nil, Nat.add_assoc, Nat.reduceAdd, Nat.add_zero]); first | exact ckl hcs (Nat.le_of_ble_eq_true rfl) (Nat.le_of_ble_eq_true rfl) | exact ckl hss (Nat.le_of_ble_eq_true rfl) (Nat.le_of_ble_eq_true rfl) | exact ck0 hcs (Nat.le_of_ble_eq_true rfl) | exact ck0 hss (Nat.le_of_ble_eq_true rfl) | exact ckr hcs (Nat.le_of_ble_eq_true rfl) | exact ckr hss (Nat.le_of_ble_eq_true rfl) | exact ckz hcs (Nat.le_of_ble_eq_true rfl) | exact ckz hss (Nat.le_of_ble_eq_true rfl))⟩ (Nat.le_of_ble_eq_true rfl) rfl (fun v H4 hq => ?_)
    obtain ⟨rfl, y4, q4, B4, G4, w4⟩ := hq
    refine o_uq (fun u4 => ?_)
    obtain ⟨D4, hv4⟩ := D3.app u3 B3 hv3 B4 G4 w4
    have z4 := lz (m' := 55) z3 (dg_len wb).2 rfl
    refine o_bipush (pc := 178) (z := 32) dL_drawn_178 (by decide) ?_
    refine o_callV (pc := 180) _ dL_drawn_180 (cb_addC B4 D4.n (Nat.le_trans z4 (Nat.le_of_ble_eq_true rfl)) (z := 32) (by decide)) lkL_53 rfl rfl rfl rfl B4.1 ⟨⟨(Nat.le_of_ble_eq_true rfl), (Nat.le_of_ble_eq_true rfl)⟩, (by (try simp only [rmL, List.length_cons, List.length_nil, Nat.add_assoc, Nat.reduceAdd, Nat.add_zero]); first | exact ckl hcs (Nat.le_of_ble_eq_true rfl) (Nat.le_of_ble_eq_true rfl) | exact ckl hss (Nat.le_of_ble_eq_true rfl) (Nat.le_of_ble_eq_true rfl) | exact ck0 hcs (Nat.le_of_ble_eq_true rfl) | exact ck0 hss (Nat.le_of_ble_eq_true rfl) | exact ckr hcs (Nat.le_of_ble_eq_true rfl) | exact ckr hss (Nat.le_of_ble_eq_true rfl) | exact ckz hcs (Nat.le_of_ble_eq_true rfl) | exact ckz hss (Nat.le_of_ble_eq_true rfl)), (by (try simp only [rmL, List.length_cons, List.length_nil, Nat.add_assoc, Nat.reduceAdd, Nat.add_zero]); first | exact ckl hcs (Nat.le_of_ble_eq_true rfl) (Nat.le_of_ble_eq_true rfl) | exact ckl hss (Nat.le_of_ble_eq_true rfl) (Nat.le_of_ble_eq_true rfl) | exact ck0 hcs (Nat.le_of_ble_eq_true rfl) | exact ck0 hss (Nat.le_of_ble_eq_true rfl) | exact ckr hcs (Nat.le_of_ble_eq_true rfl) | exact ckr hss (Nat.le_of_ble_eq_true rfl) | exact ckz hcs (Nat.le_of_ble_eq_true rfl) | exact ckz hss (Nat.le_of_ble_eq_true rfl))⟩ (Nat.le_of_ble_eq_true rfl) rfl (fun v H5 hq => ?_)
    obtain ⟨rfl, y5, q5, B5, G5, w5⟩ := hq
    refine o_uq (fun u5 => ?_)
    obtain ⟨D5, hv5⟩ := D4.app u4 B4 hv4 B5 G5 w5
    have z5 := lz (m' := 56) z4 (show ([32] : List Int).length ≤ 1 from Nat.le_refl 1) rfl
    refine o_aload (pc := 183) dL_drawn_183 0 rfl ?_
    refine o_iconst (pc := 185) dL_drawn_185 ?_
    refine o_iaI (pc := 186) dL_drawn_186 (shp_ak (by decide)) (DW.new D5 (by decide) n0).1 (by omega) (by omega) ((DW.new D5 (by decide) n0).2 2 (by decide)) ?_
    refine o_topI (y := wc) rfl ?_
    refine o_callV (pc := 187) _ dL_drawn_187 (cb_addI B5 D5.n (Nat.le_trans z5 (Nat.le_of_ble_eq_true rfl)) (n := wc) qwc.1 qwc.2) lkL_50 rfl rfl rfl rfl B5.1 ⟨⟨(Nat.le_of_ble_eq_true rfl), (Nat.le_of_ble_eq_true rfl)⟩, (by (try simp only [rmL, List.length_cons, List.length_nil, Nat.add_assoc, Nat.reduceAdd, Nat.add_zero]); first | exact ckl hcs (Nat.le_of_ble_eq_true rfl) (Nat.le_of_ble_eq_true rfl) | exact ckl hss (Nat.le_of_ble_eq_true rfl) (Nat.le_of_ble_eq_true rfl) | exact ck0 hcs (Nat.le_of_ble_eq_true rfl) | exact ck0 hss (Nat.le_of_ble_eq_true rfl) | exact ckr hcs (Nat.le_of_ble_eq_true rfl) | exact ckr hss (Nat.le_of_ble_eq_true rfl) | exact ckz hcs (Nat.le_of_ble_eq_true rfl) | exact ckz hss (Nat.le_of_ble_eq_true rfl)), (by (try simp only [rmL, List.length_cons, List.length_nil, Nat.add_assoc, Nat.reduceAdd, Nat.add_zero]); first | exact ckl hcs (Nat.le_of_ble_eq_true rfl) (Nat.le_of_ble_eq_true rfl) | exact ckl hss (Nat.le_of_ble_eq_true rfl) (Nat.le_of_ble_eq_true rfl) | exact ck0 hcs (Nat.le_of_ble_eq_true rfl) | exact ck0 hss (Nat.le_of_ble_eq_true rfl) | exact ckr hcs (Nat.le_of_ble_eq_true rfl) | exact ckr hss (Nat.le_of_ble_eq_true rfl) | exact ckz hcs (Nat.le_of_ble_eq_true rfl) | exact ckz hss (Nat.le_of_ble_eq_true rfl))⟩ (Nat.le_of_ble_eq_true rfl) rfl (fun v H6 hq => ?_)
    obtain ⟨rfl, y6, q6, B6, G6, w6⟩ := hq
    refine o_uq (fun u6 => ?_)
    obtain ⟨D6, hv6⟩ := D5.app u5 B5 hv5 B6 G6 w6
    have z6 := lz (m' := 59) z5 (dg_len wc).2 rfl
    refine o_bipush (pc := 190) (z := 32) dL_drawn_190 (by decide) ?_
    refine o_callV (pc := 192) _ dL_drawn_192 (cb_addC B6 D6.n (Nat.le_trans z6 (Nat.le_of_ble_eq_true rfl)) (z := 32) (by decide)) lkL_53 rfl rfl rfl rfl B6.1 ⟨⟨(Nat.le_of_ble_eq_true rfl), (Nat.le_of_ble_eq_true rfl)⟩, (by (try simp only [rmL, List.length_cons, List.length_nil, Nat.add_assoc, Nat.reduceAdd, Nat.add_zero]); first | exact ckl hcs (Nat.le_of_ble_eq_true rfl) (Nat.le_of_ble_eq_true rfl) | exact ckl hss (Nat.le_of_ble_eq_true rfl) (Nat.le_of_ble_eq_true rfl) | exact ck0 hcs (Nat.le_of_ble_eq_true rfl) | exact ck0 hss (Nat.le_of_ble_eq_true rfl) | exact ckr hcs (Nat.le_of_ble_eq_true rfl) | exact ckr hss (Nat.le_of_ble_eq_true rfl) | exact ckz hcs (Nat.le_of_ble_eq_true rfl) | exact ckz hss (Nat.le_of_ble_eq_true rfl)), (by (try simp only [rmL, List.length_cons, List.length_nil, Nat.add_assoc, Nat.reduceAdd, Nat.add_zero]); first | exact ckl hcs (Nat.le_of_ble_eq_true rfl) (Nat.le_of_ble_eq_true rfl) | exact ckl hss (Nat.le_of_ble_eq_true rfl) (Nat.le_of_ble_eq_true rfl) | exact ck0 hcs (Nat.le_of_ble_eq_true rfl) | exact ck0 hss (Nat.le_of_ble_eq_true rfl) | exact ckr hcs (Nat.le_of_ble_eq_true rfl) | exact ckr hss (Nat.le_of_ble_eq_true rfl) | exact ckz hcs (Nat.le_of_ble_eq_true rfl) | exact ckz hss (Nat.le_of_ble_eq_true rfl))⟩ (Nat.le_of_ble_eq_true rfl) rfl (fun v H7 hq => ?_)
    obtain ⟨rfl, y7, q7, B7, G7, w7⟩ := hq
    refine o_uq (fun u7 => ?_)
    obtain ⟨D7, hv7⟩ := D6.app u6 B6 hv6 B7 G7 w7
    have z7 := lz (m' := 60) z6 (show ([32] : List Int).length ≤ 1 from Nat.le_refl 1) rfl
    refine o_aload (pc := 195) dL_drawn_195 0 rfl ?_
    refine o_iconst (pc := 197) dL_drawn_197 ?_
    refine o_iaI (pc := 198) dL_drawn_198 (shp_ak (by decide)) (DW.new D7 (by decide) n0).1 (by omega) (by omega) ((DW.new D7 (by decide) n0).2 3 (by decide)) ?_
    refine o_topI (y := wd) rfl ?_
    refine o_callV (pc := 199) _ dL_drawn_199 (cb_addI B7 D7.n (Nat.le_trans z7 (Nat.le_of_ble_eq_true rfl)) (n := wd) qwd.1 qwd.2) lkL_50 rfl rfl rfl rfl B7.1 ⟨⟨(Nat.le_of_ble_eq_true rfl), (Nat.le_of_ble_eq_true rfl)⟩, (by (try simp only [rmL, List.length_cons, List.length_nil, Nat.add_assoc, Nat.reduceAdd, Nat.add_zero]); first | exact ckl hcs (Nat.le_of_ble_eq_true rfl) (Nat.le_of_ble_eq_true rfl) | exact ckl hss (Nat.le_of_ble_eq_true rfl) (Nat.le_of_ble_eq_true rfl) | exact ck0 hcs (Nat.le_of_ble_eq_true rfl) | exact ck0 hss (Nat.le_of_ble_eq_true rfl) | exact ckr hcs (Nat.le_of_ble_eq_true rfl) | exact ckr hss (Nat.le_of_ble_eq_true rfl) | exact ckz hcs (Nat.le_of_ble_eq_true rfl) | exact ckz hss (Nat.le_of_ble_eq_true rfl)), (by (try simp only [rmL, List.length_cons, List.length_nil, Nat.add_assoc, Nat.reduceAdd, Nat.add_zero]); first | exact ckl hcs (Nat.le_of_ble_eq_true rfl) (Nat.le_of_ble_eq_true rfl) | exact ckl hss (Nat.le_of_ble_eq_true rfl) (Nat.le_of_ble_eq_true rfl) | exact ck0 hcs (Nat.le_of_ble_eq_true rfl) | exact ck0 hss (Nat.le_of_ble_eq_true rfl) | exact ckr hcs (Nat.le_of_ble_eq_true rfl) | exact ckr hss (Nat.le_of_ble_eq_true rfl) | exact ckz hcs (Nat.le_of_ble_eq_true rfl) | exact ckz hss (Nat.le_of_ble_eq_true rfl))⟩ (Nat.le_of_ble_eq_true rfl) rfl (fun v H8 hq => ?_)
    obtain ⟨rfl, y8, q8, B8, G8, w8⟩ := hq
    refine o_uq (fun u8 => ?_)
    obtain ⟨D8, hv8⟩ := D7.app u7 B7 hv7 B8 G8 w8
    have z8 := lz (m' := 63) z7 (dg_len wd).2 rfl
    refine o_pop (pc := 202) dL_drawn_202 rfl ?_
    refine o_iinc (pc := 203) (lv' := [(5, _), (7, _), (6, _), (0, _), (1, _), (2, _), (3, _), (4, _)]) dL_drawn_203 7 rfl (by decide) rfl ?_
    refine o_goto (pc := 206) 71 dL_drawn_206 (by decide) ?_
    obtain ⟨hP2, hb2, hl2⟩ := k_cur hP hb hN qwa qwb qwc qwd
    exact o_lv [3, 4, 5, 6, 7, 0] rfl (ih (k := k + 1) D8 hP2 hb2 (hR.n0 (by show N 4 + 1 ≤ 4; omega) hm rfl) (by omega) (lzn hl hl2) (by (try simp only [rmL, List.length_cons, List.length_nil, Nat.add_assoc, Nat.reduceAdd, Nat.add_zero]); first | exact ckl hcs (Nat.le_of_ble_eq_true rfl) (Nat.le_of_ble_eq_true rfl) | exact ckl hss (Nat.le_of_ble_eq_true rfl) (Nat.le_of_ble_eq_true rfl) | exact ck0 hcs (Nat.le_of_ble_eq_true rfl) | exact ck0 hss (Nat.le_of_ble_eq_true rfl) | exact ckr hcs (Nat.le_of_ble_eq_true rfl) | exact ckr hss (Nat.le_of_ble_eq_true rfl) | exact ckz hcs (Nat.le_of_ble_eq_true rfl) | exact ckz hss (Nat.le_of_ble_eq_true rfl)) (by (try simp only [rmL, List.length_cons, List.length_nil, Nat.add_assoc, Nat.reduceAdd, Nat.add_zero]); first | exact ckl hcs (Nat.le_of_ble_eq_true rfl) (Nat.le_of_ble_eq_true rfl) | exact ckl hss (Nat.le_of_ble_eq_true rfl) (Nat.le_of_ble_eq_true rfl) | exact ck0 hcs (Nat.le_of_ble_eq_true rfl) | exact ck0 hss (Nat.le_of_ble_eq_true rfl) | exact ckr hcs (Nat.le_of_ble_eq_true rfl) | exact ckr hss (Nat.le_of_ble_eq_true rfl) | exact ckz hcs (Nat.le_of_ble_eq_true rfl) | exact ckz hss (Nat.le_of_ble_eq_true rfl)))
