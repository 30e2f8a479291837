/-! acts: run, run to closed -/
theorem lp_run2 {G : GG} {H : Hp} {V : Nat → Vw} {R : Nat → Int → Int} {p : Nat} {T : Nat → Prop} {pl aw K w2 : Nat} {t : Int} {Q : PP} (htt : 0 ≤ t ∧ t ≤ 100) (kk : ∀ H1 c0 s0, Fg (V p).2.2 H H1 → WN G H1 (V p).1 (tkNL (R p) t.toNat) (V p).2.1 (V p).2.2 T → UC (tkNL (R p) t.toNat) → tkNL (R p) t.toNat 2 = R p 2 + t → c0 ≤ 1100 → s0 ≤ 15800 → YY G ML_act (rmL 12 2500 24000) 254 [(0, rf G 38 0), (1, rf G (ak 8 1) aw), (2, rf G 56 pl), (4, rf G 51 (V p).1), (10, rf G 51 w2), (11, .int (iI 1)), (14, .int (iI t))] [] H1 c0 s0 Q) : ∀ (n : Nat) {H1 : Hp} {N1 : Int → Int} {cm : Mem} {k c0 s0 : Nat} (F1 : Fg (V p).2.2 H H1) (W1 : WN G H1 (V p).1 N1 (V p).2.1 (V p).2.2 T) (hS1 : ST cm 0 0 N1 K) (ht : cm 0 0 0 + n ≤ 9999) (hU1 : UC N1) (hk : (k : Int) + n = t) (hz : tkNL (R p) t.toNat = tkNL N1 n) (h2 : N1 2 = R p 2 + k) (hcs : c0 + 27 * n ≤ 1100) (hss : s0 + 108 * n ≤ 15800), YY G ML_act (rmL 12 2500 24000) 236 [(0, rf G 38 0), (1, rf G (ak 8 1) aw), (2, rf G 56 pl), (4, rf G 51 (V p).1), (10, rf G 51 w2), (11, .int (iI 1)), (14, .int (iI t)), (15, .int (iI (k : Int)))] [] H1 c0 s0 Q := by
  intro n
  induction n with
  | zero =>
    intro H1 N1 cm k c0 s0 F1 W1 hS1 ht hU1 hk hz h2 hcs hss
    refine o_iload (pc := 236) dL_act_236 7 rfl ?_
    refine o_iload (pc := 238) dL_act_238 6 rfl ?_
    refine o_icmp_ge (pc := 240) 254 dL_act_240 (by decide) (by unfold inI; omega) (by unfold inI; omega) (fun c_240 => ?_) (fun c_240 => (by exfalso; omega))
    exact o_lv [0, 1, 2, 3, 4, 5, 6] rfl (kk H1 c0 s0 F1 (W1.to hz.symm) (by rw [hz]; exact hU1) (by rw [hz]; show N1 2 = _; omega) (by first | omega | (simp only [rmL, rmD]; omega)) (by first | omega | (simp only [rmL, rmD]; omega)))
  | succ n ih =>
    intro H1 N1 cm k c0 s0 F1 W1 hS1 ht hU1 hk hz h2 hcs hss
    refine o_iload (pc := 236) dL_act_236 7 rfl ?_
    refine o_iload (pc := 238) dL_act_238 6 rfl ?_
    refine o_icmp_ge (pc := 240) 254 dL_act_240 (by decide) (by unfold inI; omega) (by unfold inI; omega) (fun c_240 => (by exfalso; omega)) (fun c_240 => ?_)
    refine o_aload (pc := 243) dL_act_243 3 rfl ?_
    refine o_callV (pc := 245) _ dL_act_245 (cw_pass W1 hS1.gn F1.n) lkL_282 rfl rfl rfl rfl W1.mW ⟨⟨by simp only [rmL, rmD]; omega, by simp only [rmL, rmD]; omega⟩, by simp only [rmL, rmD]; omega, by simp only [rmL, rmD]; omega⟩ (Nat.le_of_ble_eq_true rfl) rfl (fun v H2 hq2 => ?_)
    obtain ⟨rfl, W3, F3⟩ := hq2
    have hd := hS1.tkhd (by omega)
    refine o_iinc (pc := 248) (lv' := [(15, _), (0, _), (1, _), (2, _), (4, _), (10, _), (11, _), (14, _)]) dL_act_248 7 rfl (by decide) rfl ?_
    refine o_goto (pc := 251) 236 dL_act_251 (by decide) ?_
    exact o_lv [1, 2, 3, 4, 5, 6, 7, 0] rfl (ih (k := k + 1) (F1.t F3) W3 (hS1.tick (by omega)) (by rw [tkC_t]; omega) (hU1.tk hS1 (by omega)) (by omega) hz (by rw [hd.2.2.1]; omega) (by first | omega | (simp only [rmL, rmD]; omega)) (by first | omega | (simp only [rmL, rmD]; omega)))
theorem ac_0 {G : GG} {h H : Hp} {V : Nat → Vw} {R : Nat → Int → Int} {p : Nat} {T : Nat → Prop} {pl c b aw K w2 : Nat} {B2 : Bok} (I : AI G h V R p T pl c b aw K) (F : Fr (fun _ => False) h H) (W2 : WN G H w2 (R p) B2 (snew h H) T) (hK : K ≤ 99) {x : Int} (hx : 0 ≤ x ∧ x < 134217728) {c0 s0 : Nat} (hcs : c0 ≤ 760) (hss : s0 ≤ 14500) : YY G ML_act (rmL 12 2500 24000) 224 [(0, rf G 38 0), (1, rf G (ak 8 1) aw), (2, rf G 56 pl), (4, rf G 51 (V p).1), (5, .int (iI x)), (7, .int (iI (R p 3))), (8, .int (iI (R p 8))), (9, .int (iI (R p 9))), (10, rf G 51 w2), (11, .int (iI 1))] [] H c0 s0 (fun v h1 => v = some (.int (iI 1)) ∧ ∃ V' R' p' c' b', AI G h1 V' R' p' T pl c' b' aw (K + 1)) := by
  have p8 := I.2.1.p8
  have hW := I.w.fr0 F
  have hs := I.2.1.1.fr F
  have hcH := F.cl I.1
  have gn := hs.gn
  have hU := I.2.2.1 p (Nat.le_refl p)
  have hn := F.2.2.2.2
  have r3 := hs.1.2.2.1.1.2.2.1
  have r5 := hs.1.2.2.1.1.2.2.2.2.2.1
  have r8 := hs.1.2.2.1.1.2.2.2.2.2.2
  have r7 := hs.1.2.2.2.1.1.2.2.2.2.2.1
  have r9 := hs.1.2.2.2.1.1.2.2.2.2.2.2
  have r2 := hs.1.2.2.2.1.1.1
  have b2 := hs.1.2.1.1
  have b3 := hs.1.1.2.2.1
  have b5 := hs.1.1.2.2.2.2.2.1
  have b8 := hs.1.1.2.2.2.2.2.2.1
  have b7 := hs.1.2.1.2.2.2.1.1
  have b9 := hs.1.2.1.2.2.2.2.1.1
  have nn3 : 0 ≤ R p 3 ∧ R p 3 ≤ 8 := by omega
  have nn5 : 0 ≤ R p 5 ∧ R p 5 ≤ 12 := by omega
  have nn7 : 0 ≤ R p 7 ∧ R p 7 ≤ 16 := by omega
  have nn8 : 0 ≤ R p 8 ∧ R p 8 ≤ 8 := by omega
  have nn9 : 0 ≤ R p 9 ∧ R p 9 ≤ 16 := by omega
  have nn2 : 0 ≤ R p 2 ∧ R p 2 ≤ 6000 := by have := hU.2; omega
  obtain ⟨t, hte⟩ : ∃ t : Int, 1 + x % 12 = t := ⟨_, rfl⟩
  have ht1 : 1 ≤ t ∧ t ≤ 12 := by omega
  refine o_iconst (pc := 224) dL_act_224 ?_
  refine o_iload (pc := 225) dL_act_225 4 rfl ?_
  refine o_bipush (pc := 227) (z := 12) dL_act_227 (by decide) ?_
  refine o_irem (pc := 229) dL_act_229 (by omega) (by omega) ?_
  refine o_iadd (pc := 230) dL_act_230 ?_
  refine o_topI (y := t) hte ?_
  refine o_istore (pc := 231) (lv' := [(14, _), (0, _), (1, _), (2, _), (4, _), (5, _), (7, _), (8, _), (9, _), (10, _), (11, _)]) dL_act_231 (by decide) rfl ?_
  refine o_iconst (pc := 233) dL_act_233 ?_
  refine o_istore (pc := 234) (lv' := [(15, _), (14, _), (0, _), (1, _), (2, _), (4, _), (5, _), (7, _), (8, _), (9, _), (10, _), (11, _)]) dL_act_234 (by decide) rfl ?_
  refine o_lv [2, 3, 4, 5, 10, 11, 1, 0] rfl (lp_run2 (V := V) (R := R) (T := T) (t := t) (by omega) (fun H1 c1 s1 F1 W1 hU1 h2 hcs hss => ?_) t.toNat (k := 0) (cm := H.2.1) (Fg.rf hn) hW hs.1 (by omega) hU.1 (show (0 : Int) + (t.toNat : Int) = t by omega) rfl (show R p 2 = R p 2 + (0 : Int) by omega) (by first | omega | (simp only [rmL, rmD]; omega)) (by first | omega | (simp only [rmL, rmD]; omega)))
  have hs3 := hs.fr F1.1
  have hc3 := F1.1.cl hcH
  have t3 := hs3.1.2.2.2.1.1.1
  have hST := (hs3.1.push.ticks t.toNat (by rw [pushC_0 (by decide)]; omega)).more (Nat.le_succ K)
  have hcc : ∀ k i, i ≠ 0 ∨ 22 ≤ k → tkL (pushC H1.2.1) 0 0 t.toNat k i = pushC H1.2.1 k i := fun k i z => by
    by_cases g : i = 0
    · rw [tkL_k (by omega)]
    · rw [tkL_i g]
  have eg := hST.2.2.2.1.1.1
  refine o_aload (pc := 254) dL_act_254 3 rfl ?_
  refine o_gI (pc := 256) (j := 2) dL_act_256 flL_269 rfl rfl W1.mW W1.w2 ?_
  refine o_istore (pc := 259) (lv' := [(12, _), (0, _), (1, _), (2, _), (4, _), (10, _), (11, _), (14, _)]) dL_act_259 (by decide) rfl ?_
  refine o_aload_n (pc := 261) dL_act_261 1 rfl ?_
  refine o_iload (pc := 262) dL_act_262 7 rfl ?_
  refine o_callC (pc := 264) _ dL_act_264 (fun G' hG => P_run (m := H1.2.1) hs3.1.1 hs3.1.2.1 hs3.1.2.2.2.2.2.2.1 hs3.2.1 hs3.2.2 (by unfold inI; omega) (by omega)) lkL_285 rfl rfl hc3 ⟨⟨by simp only [rmL, rmD]; omega, by simp only [rmL, rmD]; omega⟩, by simp only [rmL, rmD]; omega, by simp only [rmL, rmD]; omega⟩ (Nat.le_of_ble_eq_true rfl) rfl (fun n1 => ?_)
  refine o_topI eg.symm ?_
  refine o_istore (pc := 267) (lv' := [(13, _), (12, _), (0, _), (1, _), (2, _), (4, _), (10, _), (11, _), (14, _)]) dL_act_267 (by decide) rfl ?_
  refine o_goto (pc := 269) 1327 dL_act_269 (by decide) ?_
  exact o_lv [2, 3, 4, 6, 7, 1, 0] rfl (ac_fin1 I (Nat.le_succ K) F W2 F1.1 W1 (fun _ z => .inl z) hcc hST ⟨hU1, by rw [h2]; have := hU.2; omega⟩ (by first | omega | (simp only [rmL, rmD]; omega)) (by first | omega | (simp only [rmL, rmD]; omega)))
