/-! acts: run to closed -/
theorem lp_close {G : GG} {H : Hp} {V : Nat → Vw} {R : Nat → Int → Int} {p : Nat} {T : Nat → Prop} {pl aw K w2 q : Nat} {x t : Int} {Q : PP} (htt : 0 ≤ t ∧ t ≤ 100) (kk : ∀ H1 c0 s0, Fg (V p).2.2 H H1 → WN G H1 (V p).1 (enR (R p) (q : Int) t.toNat) (V p).2.1 (V p).2.2 T → UC (enR (R p) (q : Int) t.toNat) → (enR (R p) (q : Int) t.toNat) 2 ≤ R p 2 + t → (q : Int) < (enR (R p) (q : Int) t.toNat) 9 → (0 ≤ (enC (R p) (q : Int) t.toNat) ∧ (enC (R p) (q : Int) t.toNat) ≤ t) → c0 ≤ 2450 → s0 ≤ 22000 → YY G ML_act (rmL 12 2500 24000) 1302 [(0, rf G 38 0), (1, rf G (ak 8 1) aw), (2, rf G 56 pl), (4, rf G 51 (V p).1), (5, .int (iI x)), (9, .int (iI (R p 9))), (10, rf G 51 w2), (11, .int (iI 1)), (14, rf G 55 (bE (V p).2.1 6 q)), (15, .int (iI t)), (12, .int (iI (enC (R p) (q : Int) t.toNat)))] [] H1 c0 s0 Q) : ∀ (n : Nat) {H1 : Hp} {N1 : Int → Int} {cm : Mem} {k c0 s0 : Nat} (F1 : Fg (V p).2.2 H H1) (W1 : WN G H1 (V p).1 N1 (V p).2.1 (V p).2.2 T) (hS1 : ST cm 0 0 N1 K) (ht : cm 0 0 0 + n ≤ 9999) (hU1 : UC N1) (hl1 : (q : Int) < N1 9) (hk : (k : Int) + n = t) (hz : (enR (R p) (q : Int) t.toNat) = enR N1 (q : Int) n) (hd : (enC (R p) (q : Int) t.toNat) = k + enC N1 (q : Int) n) (h2 : N1 2 = R p 2 + k) (hcs : c0 + 27 * n ≤ 2450) (hss : s0 + 108 * n ≤ 22000), YY G ML_act (rmL 12 2500 24000) 1275 [(0, rf G 38 0), (1, rf G (ak 8 1) aw), (2, rf G 56 pl), (4, rf G 51 (V p).1), (5, .int (iI x)), (9, .int (iI (R p 9))), (10, rf G 51 w2), (11, .int (iI 1)), (14, rf G 55 (bE (V p).2.1 6 q)), (15, .int (iI t)), (12, .int (iI (k : Int)))] [] H1 c0 s0 Q := by
  intro n
  induction n with
  | zero =>
    intro H1 N1 cm k c0 s0 F1 W1 hS1 ht hU1 hl1 hk hz hd h2 hcs hss
    have LN1 := hS1.gn.ln (q := (q : Int)) (by omega) hl1
    obtain ⟨l1, l2, l3, l4, l5, l6, l7⟩ := id LN1
    refine o_iload (pc := 1275) dL_act_1275 10 rfl ?_
    refine o_iload (pc := 1277) dL_act_1277 9 rfl ?_
    refine o_icmp_ge (pc := 1279) 1302 dL_act_1279 (by decide) (by unfold inI; omega) (by unfold inI; omega) (fun c_1279 => ?_) (fun c_1279 => (by exfalso; omega))
    have eR : (enR (R p) (q : Int) t.toNat) = N1 := hz
    have eC : (enC (R p) (q : Int) t.toNat) = (k : Int) := by rw [hd]; show (k : Int) + 0 = _; omega
    rw [← eC]
    exact o_lv [0, 1, 2, 3, 4, 5, 6, 7, 8, 9, 10] rfl (kk H1 c0 s0 F1 (W1.to eR.symm) (by rw [eR]; exact hU1) (by rw [eR]; omega) (by rw [eR]; exact hl1) (by rw [eC]; omega) (by first | omega | (simp only [rmL, rmD]; omega)) (by first | omega | (simp only [rmL, rmD]; omega)))
  | succ n ih =>
    intro H1 N1 cm k c0 s0 F1 W1 hS1 ht hU1 hl1 hk hz hd h2 hcs hss
    have LN1 := hS1.gn.ln (q := (q : Int)) (by omega) hl1
    obtain ⟨l1, l2, l3, l4, l5, l6, l7⟩ := id LN1
    refine o_iload (pc := 1275) dL_act_1275 10 rfl ?_
    refine o_iload (pc := 1277) dL_act_1277 9 rfl ?_
    refine o_icmp_ge (pc := 1279) 1302 dL_act_1279 (by decide) (by unfold inI; omega) (by unfold inI; omega) (fun c_1279 => (by exfalso; omega)) (fun c_1279 => ?_)
    refine o_aload (pc := 1282) dL_act_1282 8 rfl ?_
    refine o_gI (pc := 1284) (j := 5) dL_act_1284 flL_177 rfl rfl (W1.mE 6 hl1) (W1.n5 hl1) ?_
    refine o_iconst (pc := 1287) dL_act_1287 ?_
    refine o_icmp_ge (pc := 1288) 1302 dL_act_1288 (by decide) (by unfold inI; omega) (by unfold inI; omega) (fun c_1288 => ?_) (fun c_1288 => ?_)
    · have eR : (enR (R p) (q : Int) t.toNat) = N1 := hz.trans (if_neg (by omega))
      have eC : (enC (R p) (q : Int) t.toNat) = (k : Int) := by rw [hd, show enC N1 (q : Int) (n + 1) = 0 from if_neg (by omega)]; omega
      rw [← eC]
      exact o_lv [0, 1, 2, 3, 4, 5, 6, 7, 8, 9, 10] rfl (kk H1 c0 s0 F1 (W1.to eR.symm) (by rw [eR]; exact hU1) (by rw [eR]; omega) (by rw [eR]; exact hl1) (by rw [eC]; omega) (by first | omega | (simp only [rmL, rmD]; omega)) (by first | omega | (simp only [rmL, rmD]; omega)))
    · refine o_aload (pc := 1291) dL_act_1291 3 rfl ?_
      refine o_callV (pc := 1293) _ dL_act_1293 (cw_pass W1 hS1.gn F1.n) lkL_282 rfl rfl rfl rfl W1.mW ⟨⟨by simp only [rmL, rmD]; omega, by simp only [rmL, rmD]; omega⟩, by simp only [rmL, rmD]; omega, by simp only [rmL, rmD]; omega⟩ (Nat.le_of_ble_eq_true rfl) rfl (fun v H2 hq2 => ?_)
      obtain ⟨rfl, W3, F3⟩ := hq2
      have hh := hS1.tkhd (by omega)
      refine o_iinc (pc := 1296) (lv' := [(12, _), (0, _), (1, _), (2, _), (4, _), (5, _), (9, _), (10, _), (11, _), (14, _), (15, _)]) dL_act_1296 10 rfl (by decide) rfl ?_
      refine o_goto (pc := 1299) 1275 dL_act_1299 (by decide) ?_
      exact o_lv [1, 2, 3, 4, 5, 6, 7, 8, 9, 10, 0] rfl (ih (k := k + 1) (F1.t F3) W3 (hS1.tick (by omega)) (by rw [tkC_t]; omega) (hU1.tk hS1 (by omega)) (by rw [hh.2.2.2]; exact hl1) (by omega) (hz.trans (if_pos (by omega))) (by rw [hd, show enC N1 (q : Int) (n + 1) = enC (tkN N1) (q : Int) n + 1 from if_pos (by omega)]; omega) (by rw [hh.2.2.1]; omega) (by first | omega | (simp only [rmL, rmD]; omega)) (by first | omega | (simp only [rmL, rmD]; omega)))
theorem ac_13 {G : GG} {h H : Hp} {V : Nat → Vw} {R : Nat → Int → Int} {p : Nat} {T : Nat → Prop} {pl c b aw K w2 : Nat} {B2 : Bok} (I : AI G h V R p T pl c b aw K) (F : Fr (fun _ => False) h H) (W2 : WN G H w2 (R p) B2 (snew h H) T) (hK : K ≤ 99) {x : Int} (hx : 0 ≤ x ∧ x < 134217728) {c0 s0 : Nat} (hcs : c0 ≤ 760) (hss : s0 ≤ 14500) (h9 : 0 < R p 9) : YY G ML_act (rmL 12 2500 24000) 1242 [(0, rf G 38 0), (1, rf G (ak 8 1) aw), (2, rf G 56 pl), (4, rf G 51 (V p).1), (5, .int (iI x)), (7, .int (iI (R p 3))), (8, .int (iI (R p 8))), (9, .int (iI (R p 9))), (10, rf G 51 w2), (11, .int (iI 1))] [] H c0 s0 (fun v h1 => v = some (.int (iI 1)) ∧ ∃ V' R' p' c' b', AI G h1 V' R' p' T pl c' b' aw (K + 1)) := by
  have p8 := I.2.1.p8
  have hW := I.w.fr0 F
  have hs := I.2.1.1.fr F
  have hcH := F.cl I.1
  have gn := hs.gn
  have hU := I.2.2.1 p (Nat.le_refl p)
  have hn := F.2.2.2.2
  have r3 := hs.1.2.2.1.1.2.2.1
  have r5 := hs.1.2.2.1.1.2.2.2.2.2.1
  have r8 := hs.1.2.2.1.1.2.2.2.2.2.2
  have r7 := hs.1.2.2.2.1.1.2.2.2.2.2.1
  have r9 := hs.1.2.2.2.1.1.2.2.2.2.2.2
  have r2 := hs.1.2.2.2.1.1.1
  have b2 := hs.1.2.1.1
  have b3 := hs.1.1.2.2.1
  have b5 := hs.1.1.2.2.2.2.2.1
  have b8 := hs.1.1.2.2.2.2.2.2.1
  have b7 := hs.1.2.1.2.2.2.1.1
  have b9 := hs.1.2.1.2.2.2.2.1.1
  have nn3 : 0 ≤ R p 3 ∧ R p 3 ≤ 8 := by omega
  have nn5 : 0 ≤ R p 5 ∧ R p 5 ≤ 12 := by omega
  have nn7 : 0 ≤ R p 7 ∧ R p 7 ≤ 16 := by omega
  have nn8 : 0 ≤ R p 8 ∧ R p 8 ≤ 8 := by omega
  have nn9 : 0 ≤ R p 9 ∧ R p 9 ≤ 16 := by omega
  have nn2 : 0 ≤ R p 2 ∧ R p 2 ≤ 6000 := by have := hU.2; omega
  have em0 := Int.emod_nonneg x (show R p 9 ≠ 0 by omega)
  have em1 := Int.emod_lt_of_pos x (show 0 < R p 9 by omega)
  obtain ⟨q, hqe⟩ : ∃ q : Nat, x % R p 9 = (q : Int) := ⟨(x % R p 9).toNat, by omega⟩
  have hq : (q : Int) < R p 9 := by omega
  obtain ⟨t, hte⟩ : ∃ t : Int, 1 + x / 32 % 60 = t := ⟨_, rfl⟩
  have ht1 : 1 ≤ t ∧ t ≤ 60 := by omega
  refine o_aload (pc := 1242) dL_act_1242 3 rfl ?_
  refine o_gR (pc := 1244) (j := 13) (56) (((V p).2.1.1 6)) dL_act_1244 flL_159 rfl rfl hW.mW (hW.r 6) ?_
  refine o_iload (pc := 1247) dL_act_1247 4 rfl ?_
  refine o_iload (pc := 1249) dL_act_1249 7 rfl ?_
  refine o_irem (pc := 1251) dL_act_1251 (by omega) (by omega) ?_
  refine o_topI (y := (q : Int)) hqe ?_
  refine o_callV (pc := 1252) _ dL_act_1252 (hW.get 6 hq) lkL_130 rfl rfl rfl rfl (hW.l 6).1 ⟨⟨by simp only [rmL, rmD]; omega, by simp only [rmL, rmD]; omega⟩, by simp only [rmL, rmD]; omega, by simp only [rmL, rmD]; omega⟩ (Nat.le_of_ble_eq_true rfl) rfl (fun v h2 hq2 => ?_)
  obtain ⟨rfl, e2⟩ := hq2
  obtain rfl := e2.symm
  show YY _ _ _ _ _ (rf G 55 (bE (V p).2.1 6 q) :: _) _ _ _ _
  refine o_castO (pc := 1255) dL_act_1255 clL_175 rfl rfl (hW.mE 6 hq) ?_
  refine o_astore (pc := 1258) (lv' := [(14, _), (0, _), (1, _), (2, _), (4, _), (5, _), (7, _), (8, _), (9, _), (10, _), (11, _)]) dL_act_1258 (by decide) rfl ?_
  refine o_iconst (pc := 1260) dL_act_1260 ?_
  refine o_iload (pc := 1261) dL_act_1261 5 rfl ?_
  refine o_bipush (pc := 1263) (z := 32) dL_act_1263 (by decide) ?_
  refine o_idiv (pc := 1265) dL_act_1265 (by omega) (by omega) ?_
  refine o_bipush (pc := 1266) (z := 60) dL_act_1266 (by decide) ?_
  refine o_irem (pc := 1268) dL_act_1268 (by omega) (by omega) ?_
  refine o_iadd (pc := 1269) dL_act_1269 ?_
  refine o_topI (y := t) hte ?_
  refine o_istore (pc := 1270) (lv' := [(15, _), (14, _), (0, _), (1, _), (2, _), (4, _), (5, _), (7, _), (8, _), (9, _), (10, _), (11, _)]) dL_act_1270 (by decide) rfl ?_
  refine o_iconst (pc := 1272) dL_act_1272 ?_
  refine o_istore (pc := 1273) (lv' := [(12, _), (15, _), (14, _), (0, _), (1, _), (2, _), (4, _), (5, _), (7, _), (8, _), (9, _), (10, _), (11, _)]) dL_act_1273 (by decide) rfl ?_
  refine o_lv [3, 4, 5, 6, 7, 10, 11, 12, 2, 1, 0] rfl (lp_close (V := V) (R := R) (T := T) (t := t) (by omega) (fun H1 c1 s1 F1 W1 hU1 h2 hl1 hC hcs hss => ?_) t.toNat (k := 0) (cm := H.2.1) (Fg.rf hn) hW hs.1 (by omega) hU.1 hq (show (0 : Int) + (t.toNat : Int) = t by omega) rfl (show (enC (R p) (q : Int) t.toNat) = (0 : Int) + (enC (R p) (q : Int) t.toNat) by omega) (show R p 2 = R p 2 + (0 : Int) by omega) (by first | omega | (simp only [rmL, rmD]; omega)) (by first | omega | (simp only [rmL, rmD]; omega)))
  have hs3 := hs.fr F1.1
  have hc3 := F1.1.cl hcH
  have t3 := hs3.1.2.2.2.1.1.1
  have q9 : R p 9 = H1.2.1 2 0 0 := hs3.1.2.2.2.1.1.2.2.2.2.2.2
  have ep : min t (9999 - pushC H1.2.1 0 0 0) = t := by rw [pushC_0 (by decide)]; omega
  have hpu := hs3.1.push
  have hST := (ST.closed t.toNat hpu (l := (q : Int)) (by omega) (by rw [pushC_0 (by decide)]; omega) (by rw [pushC_0 (by decide)]; omega)).more (Nat.le_succ K)
  have vt := V_te t.toNat hpu.1 hpu.2.1 hpu.2.2.1 hpu.2.2.2.1 (l := (q : Int)) (by omega) (by rw [pushC_0 (by decide)]; omega) (by rw [pushC_0 (by decide)]; omega)
  have hcc : ∀ k i, i ≠ 0 ∨ 22 ≤ k → (teM (pushC H1.2.1) 0 0 (q : Int) t.toNat) k i = pushC H1.2.1 k i := fun k i z => by
    by_cases g : i = 0
    · rw [teM_k (by omega)]
    · rw [teM_i g]
  have e20 : (enR (R p) (q : Int) t.toNat) (318 + 7 * (q : Int) + 5) = (teM (pushC H1.2.1) 0 0 (q : Int) t.toNat) 20 0 (q : Int) := (hST.2.2.2.1.2.2.2.2.2.2 (q : Int) (by omega) vt.2.2.2).2.2.2.2.2.1
  have eN : teN (pushC H1.2.1) 0 0 (q : Int) t.toNat = (enC (R p) (q : Int) t.toNat) := vt.2.2.1
  have LN1 := hST.gn.ln (q := (q : Int)) (by omega) hl1
  obtain ⟨l1, l2, l3, l4, l5, l6, l7⟩ := id LN1
  have hPd : ∀ G', gad G' 38 0 = gad G 38 0 → Ct G' MX7_runToClosed (rmD 9) [rf G' 38 0, .int (iI (q : Int)), .int (iI t)] (hp H1.2.1) (.inl (some (.int (iI (if (teM (pushC H1.2.1) 0 0 (q : Int) t.toNat) 20 0 (q : Int) ≤ 2 then -1 else teN (pushC H1.2.1) 0 0 (q : Int) t.toNat))))) (hp (teM (pushC H1.2.1) 0 0 (q : Int) t.toNat)) := fun G' _ => by
    have P := P_runToClosed (G := G') (m := H1.2.1) hs3.1.1 hs3.1.2.1 hs3.1.2.2.2.2.2.2.1 hs3.2.1 hs3.2.2 (a0 := (q : Int)) (a1 := t) (by unfold inI; omega) (by unfold inI; omega) (by omega) (by omega)
    rw [ep] at P
    exact P
  refine o_aload (pc := 1302) dL_act_1302 8 rfl ?_
  refine o_gI (pc := 1304) (j := 5) dL_act_1304 flL_177 rfl rfl (W1.mE 6 hl1) (W1.n5 hl1) ?_
  refine o_iconst (pc := 1307) dL_act_1307 ?_
  refine o_icmp_ge (pc := 1308) 1314 dL_act_1308 (by decide) (by unfold inI; omega) (by unfold inI; omega) (fun c_1308 => ?_) (fun c_1308 => ?_)
  · refine o_aload_n (pc := 1314) dL_act_1314 0 rfl ?_
    refine o_iload (pc := 1315) dL_act_1315 4 rfl ?_
    refine o_iload (pc := 1317) dL_act_1317 5 rfl ?_
    refine o_irem (pc := 1319) dL_act_1319 (by omega) (by omega) ?_
    refine o_topI (y := (q : Int)) hqe ?_
    refine o_iload (pc := 1320) dL_act_1320 9 rfl ?_
    refine o_callC (pc := 1322) _ dL_act_1322 (fun G' hG => hPd G' hG) lkL_348 rfl rfl hc3 ⟨⟨by simp only [rmL, rmD]; omega, by simp only [rmL, rmD]; omega⟩, by simp only [rmL, rmD]; omega, by simp only [rmL, rmD]; omega⟩ (Nat.le_of_ble_eq_true rfl) rfl (fun n1 => ?_)
    refine o_topI (y := (enC (R p) (q : Int) t.toNat)) (by rw [if_neg (by omega)]; exact eN) ?_
    refine o_istore (pc := 1325) (lv' := [(13, _), (0, _), (1, _), (2, _), (4, _), (5, _), (9, _), (10, _), (11, _), (14, _), (15, _), (12, _)]) dL_act_1325 (by decide) rfl ?_
    exact o_lv [1, 2, 3, 7, 8, 11, 0] rfl (ac_fin1 I (Nat.le_succ K) F W2 F1.1 W1 (fun _ z => .inl z) hcc hST ⟨hU1, by have := hU.2; omega⟩ (by first | omega | (simp only [rmL, rmD]; omega)) (by first | omega | (simp only [rmL, rmD]; omega)))
  · refine o_iconst (pc := 1311) dL_act_1311 ?_
    refine o_istore (pc := 1312) (lv' := [(12, _), (0, _), (1, _), (2, _), (4, _), (5, _), (9, _), (10, _), (11, _), (14, _), (15, _)]) dL_act_1312 (by decide) rfl ?_
    refine o_aload_n (pc := 1314) dL_act_1314 1 rfl ?_
    refine o_iload (pc := 1315) dL_act_1315 5 rfl ?_
    refine o_iload (pc := 1317) dL_act_1317 6 rfl ?_
    refine o_irem (pc := 1319) dL_act_1319 (by omega) (by omega) ?_
    refine o_topI (y := (q : Int)) hqe ?_
    refine o_iload (pc := 1320) dL_act_1320 10 rfl ?_
    refine o_callC (pc := 1322) _ dL_act_1322 (fun G' hG => hPd G' hG) lkL_348 rfl rfl hc3 ⟨⟨by simp only [rmL, rmD]; omega, by simp only [rmL, rmD]; omega⟩, by simp only [rmL, rmD]; omega, by simp only [rmL, rmD]; omega⟩ (Nat.le_of_ble_eq_true rfl) rfl (fun n1 => ?_)
    refine o_topI (y := -1) (by rw [if_pos (by omega)]) ?_
    refine o_istore (pc := 1325) (lv' := [(13, _), (12, _), (0, _), (1, _), (2, _), (4, _), (5, _), (9, _), (10, _), (11, _), (14, _), (15, _)]) dL_act_1325 (by decide) rfl ?_
    exact o_lv [2, 3, 4, 8, 9, 1, 0] rfl (ac_fin1 I (Nat.le_succ K) F W2 F1.1 W1 (fun _ z => .inl z) hcc hST ⟨hU1, by have := hU.2; omega⟩ (by first | omega | (simp only [rmL, rmD]; omega)) (by first | omega | (simp only [rmL, rmD]; omega)))
