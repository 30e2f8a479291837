/-! the law asks: open, the rows of isSame -/
theorem tot_b {m : Mem} {N : Int → Int} {K : Nat} (h : ST m 0 0 N K) (hK : K ≤ 600) : ∀ j, 0 ≤ j → j < m 22 0 5 → inI (m 9 0 j) := by
  obtain ⟨h1, h2, h3, h4, h5, h6, h7, h8⟩ := h
  obtain ⟨c1, c2, c3, c4⟩ := h6
  have n8 := h1.2.2.1
  have n12 := h1.2.2.2.2.2.1
  have ge : ∀ (f : Int → Int) (n : Nat), (∀ i : Int, 0 ≤ i → i < n → 0 ≤ f i) → 0 ≤ sm f n ∧ ∀ i : Int, 0 ≤ i → i < n → f i ≤ sm f n := by
    intro f n
    induction n with
    | zero => exact fun _ => ⟨Int.le_refl _, fun i a b => by omega⟩
    | succ n ih =>
      intro hf
      have k := ih (fun i a b => hf i a (by omega))
      have z := hf n (by omega) (by omega)
      have e : sm f (n + 1) = sm f n + f n := rfl
      rw [e]
      refine ⟨by omega, fun i a b => ?_⟩
      by_cases g : i = n
      · rw [g]; omega
      · have := k.2 i a (by omega); omega
  have s9 := ge (m 9 0) (m 22 0 5).toNat (fun i a b => c4 i a (by omega))
  have s3 := ge (m 3 0) (m 22 0 2).toNat (fun i a b => (h2.2.1 i a (by omega)).1.1)
  have t0 := h2.1
  have hk : (100000 : Int) * K ≤ 60000000 := by omega
  have tb : m 0 0 1 ≤ 2000000000 := by omega
  intro j a b
  have x := s9.2 j a (by omega)
  have y := c4 j a b
  unfold inI
  omega
theorem inL_any (x : Int64) : inL x.toInt := ⟨Int64.le_toInt x, Int64.toInt_lt x⟩
theorem o_lcmpS {G : GG} {M : Mth} {R : Room} {pc : Nat} {lv : List (Nat × Value)} {st : List Value} {h : Hp} {c0 s0 : Nat} {Q : PP} {a b : Int} (d : decode M.2.1 pc = .ok (.lcmp, 1)) (e : a = b) (k : YY G M R (pc + 1) lv (.int (iI 0) :: st) h c0 s0 Q) : YY G M R pc lv (.long (lI b) :: .long (lI a) :: st) h c0 s0 Q := by
  subst e
  rw [← lI_of (lI a)]
  refine o_lcmp d (inL_any _) (inL_any _) ?_
  rw [if_neg (Int.lt_irrefl _), if_pos rfl]
  exact k
/-- all that the law knows of the class's memory -/
def SH (m : Mem) (N : Int → Int) (K : Nat) : Prop := ST m 0 0 N K ∧ (0 ≤ m 36 0 0 ∧ m 36 0 0 ≤ 8) ∧ (0 ≤ m 36 0 1 ∧ m 36 0 1 < 8)
theorem SH.k {m m1 : Mem} {N : Int → Int} {K : Nat} (h : SH m N K) (e : ∀ k, k < 51 → m1 k = m k) : SH m1 N K := by
  refine ⟨h.1.mv (fun k hk => by rw [e k (by omega)]) (fun k _ hk => by rw [e k (by omega)]), ?_, ?_⟩
  · rw [e 36 (by decide)]; exact h.2.1
  · rw [e 36 (by decide)]; exact h.2.2
theorem SH.fr {S : Nat → Prop} {h H : Hp} {N : Int → Int} {K : Nat} (hs : SH h.2.1 N K) (hF : Fr S h H) : SH H.2.1 N K := hs.k (fun k hk => (hF.2.1 k hk).1)
theorem SH.gn {m : Mem} {N : Int → Int} {K : Nat} (hs : SH m N K) : GN N := ⟨m, 0, 0, hs.1.1, hs.1.2.1, hs.1.2.2.1, hs.1.2.2.2.1⟩
theorem CLm {h : Hp} (hc : CL h) : (38, 0) ∈ h.1 := hc.1 _ (mem_dom0 (by decide) (by decide))
theorem cs_self {h : Hp} {n : Nat} : cs h h.2.1 n = (h.1, h.2.1, h.2.2.1, some n) := by
  have e : (fun k => if k < 51 then h.2.1 k else h.2.1 k) = h.2.1 := by
    funext k
    split <;> rfl
  unfold cs
  rw [e]
theorem Fr_cs {S : Nat → Prop} {h H : Hp} (hF : Fr S h H) {n : Nat} : Fr S h (cs H H.2.1 n) := by
  rw [cs_self]
  exact Fr_size hF n
/-- a row of answers at q -/
def SA (tg : Nat) (h : Hp) (q len : Nat) (f : Int → Int) (H : Hp) : Prop := Fr (fun _ => False) h H ∧ (ak tg len, q) ∈ H.1 ∧ ∀ j : Int, 0 ≤ j → j < len → H.2.1 (ak tg len) q j = f j
theorem SA.cs {tg : Nat} {h H : Hp} {q len n : Nat} {f : Int → Int} (hA : SA tg h q len f H) : SA tg h q len f (cs H H.2.1 n) := by
  rw [cs_self]
  exact ⟨Fr_size hA.1 n, hA.2.1, hA.2.2⟩
theorem SA.f0 {tg : Nat} {h H H1 : Hp} {q len : Nat} {f : Int → Int} (hA : SA tg h q len f H) (hF : Fr (fun _ => False) H H1) : SA tg h q len f H1 :=
  ⟨hA.1.tr hF (fun _ z => z.elim), hF.1 _ hA.2.1, fun j a b => by rw [(hF.2.2.1 _ _ ak_ge hA.2.1 (fun z => z)).1]; exact hA.2.2 j a b⟩
theorem lp_open {G : GG} {h : Hp} {a : Nat} {N : Int → Int} {B : Bok} {S T : Nat → Prop} (hW : WN G h a N B S T) {it : Nat} (hf : fre h it) {x : Int} (hx : inI x) (hx1 : -1 ≤ x) (hL : LNs N) : ∀ (n : Nat) {h1 : Hp} {cur : Nat} {s : Int} (hF : Fr (fun _ => False) h h1) (hI : IT h1 it (B.1 6) cur) (hc : cur + n = (nj N 6).toNat) (hs : s = sm (openFN N x) cur), YY G ML_open (rmL 3 1 4) 10 [(0, rf G 51 a), (1, .int (iI x)), (2, .int (iI s)), (3, rf G 57 it)] [] h1 1 4 (fun v h1 => v = some (.int (iI (sm (openFN N x) (N 9).toNat))) ∧ Fr (fun _ => False) h h1) := by
  intro n
  induction n with
  | zero =>
    intro h1 cur s hF hI hc hs
    have hW1 := hW.fr0 hF
    refine o_aload_n (pc := 10) dL_open_10 3 rfl ?_
    refine o_callF (pc := 11) (q := (RJx35411, TJx35411, 4)) _ dL_open_11 (cl_hasNext (hW1.l 6) hI (by omega)) lfL_166 (fun s hs => hs.2.2.2.2.2.2.2.2.2.2.1) rfl rfl rfl hI.1 ⟨⟨(Nat.le_of_ble_eq_true rfl), (Nat.le_of_ble_eq_true rfl)⟩, (Nat.le_of_ble_eq_true rfl), (Nat.le_of_ble_eq_true rfl)⟩ (Nat.le_of_ble_eq_true rfl) rfl (fun v h2 hq2 => ?_)
    obtain ⟨rfl, rfl⟩ := hq2
    rw [if_pos (by omega)]
    refine o_if_eq (pc := 16) 63 dL_open_16 (by decide) (by unfold inI; omega) (fun c_16 => ?_) (fun c_16 => (by exfalso; omega))
    refine o_iload_n (pc := 63) dL_open_63 2 rfl ?_
    exact o_iret (pc := 64) dL_open_64 rfl (Nat.le_of_ble_eq_true rfl) (Nat.le_of_ble_eq_true rfl) ⟨by rw [hs, show cur = (nj N 6).toNat by omega]; rfl, hF⟩
  | succ n ih =>
    intro h1 cur s hF hI hc hs
    have hW1 := hW.fr0 hF
    have hq : (cur : Int) < nj N 6 := by omega
    have hl := hL.2 cur (by omega) hq
    obtain ⟨l1, l2, l3, l4, l5, l6, l7⟩ := id hl
    refine o_aload_n (pc := 10) dL_open_10 3 rfl ?_
    refine o_callF (pc := 11) (q := (RJx35411, TJx35411, 4)) _ dL_open_11 (cl_hasNext (hW1.l 6) hI (by omega)) lfL_166 (fun s hs => hs.2.2.2.2.2.2.2.2.2.2.1) rfl rfl rfl hI.1 ⟨⟨(Nat.le_of_ble_eq_true rfl), (Nat.le_of_ble_eq_true rfl)⟩, (Nat.le_of_ble_eq_true rfl), (Nat.le_of_ble_eq_true rfl)⟩ (Nat.le_of_ble_eq_true rfl) rfl (fun v h2 hq2 => ?_)
    obtain ⟨rfl, rfl⟩ := hq2
    rw [if_neg (by omega)]
    refine o_if_eq (pc := 16) 63 dL_open_16 (by decide) (by unfold inI; omega) (fun c_16 => (by exfalso; omega)) (fun c_16 => ?_)
    refine o_aload_n (pc := 19) dL_open_19 3 rfl ?_
    refine o_callF (pc := 20) (q := (RJx35411, TJx35411, 4)) _ dL_open_20 (cl_next (hW1.l 6) hI (by omega)) lfL_171 (fun s hs => hs.2.2.2.2.2.2.2.2.2.2.2.1) rfl rfl rfl hI.1 ⟨⟨(Nat.le_of_ble_eq_true rfl), (Nat.le_of_ble_eq_true rfl)⟩, (Nat.le_of_ble_eq_true rfl), (Nat.le_of_ble_eq_true rfl)⟩ (Nat.le_of_ble_eq_true rfl) rfl (fun v h2 hq2 => ?_)
    obtain ⟨rfl, rfl⟩ := hq2
    have hF2 := Fr_next (z := (cur : Int) + 1) (w := (cur : Int)) hF hf
    have hI2 := hI.next
    show YY _ _ _ _ _ (rf G 55 (bE B 6 cur) :: _) _ _ _ _
    have hW2 := hW.fr0 hF2
    refine o_castO (pc := 25) dL_open_25 clL_175 rfl rfl (hW2.mE 6 hq) ?_
    refine o_astore (pc := 28) (lv' := [(4, _), (0, _), (1, _), (2, _), (3, _)]) dL_open_28 (by decide) rfl ?_
    refine o_iload_n (pc := 30) dL_open_30 3 rfl ?_
    refine o_aload (pc := 31) dL_open_31 0 rfl ?_
    refine o_gI (pc := 33) (j := 5) dL_open_33 flL_177 rfl rfl (hW2.mE 6 hq) (hW2.n5 hq) ?_
    refine o_iconst (pc := 36) dL_open_36 ?_
    refine o_icmp_ge (pc := 37) 57 dL_open_37 (by decide) (by unfold inI; omega) (by unfold inI; omega) (fun c_37 => ?_) (fun c_37 => ?_)
    · refine o_iconst (pc := 57) dL_open_57 ?_
      refine o_iadd (pc := 58) dL_open_58 ?_
      refine o_istore_n (pc := 59) (lv' := [(2, _), (4, _), (0, _), (1, _), (3, _)]) dL_open_59 rfl (by decide) rfl ?_
      refine o_goto (pc := 60) 10 dL_open_60 (by decide) ?_
      exact o_lv [2, 3, 0, 4] rfl (ih hF2 hI2 (by omega) (by show _ = sm _ cur + openFN N x (cur : Int); rw [← hs]; unfold openFN; split <;> omega))
    · refine o_iload_n (pc := 40) dL_open_40 2 rfl ?_
      refine o_if_lt (pc := 41) 53 dL_open_41 (by decide) hx (fun c_41 => ?_) (fun c_41 => ?_)
      · refine o_iconst (pc := 53) dL_open_53 ?_
        refine o_goto (pc := 54) 58 dL_open_54 (by decide) ?_
        refine o_iadd (pc := 58) dL_open_58 ?_
        refine o_istore_n (pc := 59) (lv' := [(2, _), (4, _), (0, _), (1, _), (3, _)]) dL_open_59 rfl (by decide) rfl ?_
        refine o_goto (pc := 60) 10 dL_open_60 (by decide) ?_
        exact o_lv [2, 3, 0, 4] rfl (ih hF2 hI2 (by omega) (by show _ = sm _ cur + openFN N x (cur : Int); rw [← hs]; unfold openFN; split <;> omega))
      · refine o_aload (pc := 44) dL_open_44 0 rfl ?_
        refine o_gI (pc := 46) (j := 0) dL_open_46 flL_180 rfl rfl (hW2.mE 6 hq) (hW2.n0 hq) ?_
        refine o_iload_n (pc := 49) dL_open_49 2 rfl ?_
        refine o_icmp_ne (pc := 50) 57 dL_open_50 (by decide) (by unfold inI; omega) hx (fun c_50 => ?_) (fun c_50 => ?_)
        · refine o_iconst (pc := 57) dL_open_57 ?_
          refine o_iadd (pc := 58) dL_open_58 ?_
          refine o_istore_n (pc := 59) (lv' := [(2, _), (4, _), (0, _), (1, _), (3, _)]) dL_open_59 rfl (by decide) rfl ?_
          refine o_goto (pc := 60) 10 dL_open_60 (by decide) ?_
          exact o_lv [2, 3, 0, 4] rfl (ih hF2 hI2 (by omega) (by show _ = sm _ cur + openFN N x (cur : Int); rw [← hs]; unfold openFN; split <;> omega))
        · refine o_iconst (pc := 53) dL_open_53 ?_
          refine o_goto (pc := 54) 58 dL_open_54 (by decide) ?_
          refine o_iadd (pc := 58) dL_open_58 ?_
          refine o_istore_n (pc := 59) (lv' := [(2, _), (4, _), (0, _), (1, _), (3, _)]) dL_open_59 rfl (by decide) rfl ?_
          refine o_goto (pc := 60) 10 dL_open_60 (by decide) ?_
          exact o_lv [2, 3, 0, 4] rfl (ih hF2 hI2 (by omega) (by show _ = sm _ cur + openFN N x (cur : Int); rw [← hs]; unfold openFN; split <;> omega))
theorem cw_open {G : GG} {h : Hp} {a : Nat} {N : Int → Int} {B : Bok} {S T : Nat → Prop} (hW : WN G h a N B S T) {x : Int} (hx : inI x) (hx1 : -1 ≤ x) (hL : LNs N) (hn : ∃ n, h.2.2.2 = some n) : Cy G ML_open (rmL 3 1 4) [rf G 51 a, .int (iI x)] h (fun v h1 => v = some (.int (iI (sm (openFN N x) (N 9).toNat))) ∧ Fr (fun _ => False) h h1) := by
  refine o_entry (by decide +kernel) mwL_open rfl (Nat.le_of_ble_eq_true rfl) ?_
  show YY G ML_open (rmL 3 1 4) 0 [(0, rf G 51 a), (1, .int (iI x))] [] h 0 0 _
  refine o_iconst (pc := 0) dL_open_0 ?_
  refine o_istore_n (pc := 1) (lv' := [(2, _), (0, _), (1, _)]) dL_open_1 rfl (by decide) rfl ?_
  refine o_aload_n (pc := 2) dL_open_2 1 rfl ?_
  refine o_gR (pc := 3) (j := 13) (56) ((B.1 6)) dL_open_3 flL_159 rfl rfl hW.mW (hW.r 6) ?_
  refine o_callV (pc := 6) _ dL_open_6 (cl_iterator (hW.l 6) hn) lkL_162 rfl rfl rfl rfl (hW.l 6).1 ⟨⟨(Nat.le_of_ble_eq_true rfl), (Nat.le_of_ble_eq_true rfl)⟩, (Nat.le_of_ble_eq_true rfl), (Nat.le_of_ble_eq_true rfl)⟩ (Nat.le_of_ble_eq_true rfl) rfl (fun v h1 hq2 => ?_)
  obtain ⟨it, rfl, hf, hI, hF⟩ := hq2
  refine o_astore_n (pc := 9) (lv' := [(3, _), (2, _), (0, _), (1, _)]) dL_open_9 rfl (by decide) rfl ?_
  exact o_lv [2, 3, 1, 0] rfl (lp_open hW hf hx hx1 hL (nj N 6).toNat hF hI (by omega) rfl)
theorem is_cnt {G : GG} {h : Hp} {a : Nat} {N : Int → Int} {B : Bok} {S T : Nat → Prop} (hW : WN G h a N B S T) {K : Nat} (hs : SH h.2.1 N K) (hcl : CL h) (hK : K ≤ 600) {Q : PP} {c0 s0 q : Nat} (hcs : c0 ≤ 40) (hss : s0 ≤ 270) (kk : ∀ H, Fr (fun _ => False) h H → YY G ML_isSame (rmL 10 40 270) 112 [(0, rf G 38 0), (1, rf G 51 a)] [] H c0 s0 Q) : ∀ (n : Nat) {H : Hp} {cur : Nat} (hA : SA 0 h q 8 (fun j => cntN (fun _ _ _ => h.2.1 36 0 0) N j) H) (hc : cur + n = 8), YY G ML_isSame (rmL 10 40 270) 87 [(0, rf G 38 0), (1, rf G 51 a), (2, rf G (ak 0 8) q), (3, .int (iI (cur : Int)))] [] H c0 s0 Q := by
  intro n
  induction n with
  | zero =>
    intro H cur hA hc
    have hF0 := hA.1
    have hcH := hF0.cl hcl
    have hWH := hW.fr0 hF0
    have hsH := hs.fr hF0
    refine o_iload_n (pc := 87) dL_isSame_87 3 rfl ?_
    refine o_bipush (pc := 88) (z := 8) dL_isSame_88 (by decide) ?_
    refine o_icmp_ge (pc := 90) 112 dL_isSame_90 (by decide) (by unfold inI; omega) (by unfold inI; omega) (fun c_90 => ?_) (fun c_90 => (by exfalso; omega))
    exact o_lv [0, 1] rfl (kk _ hA.1)
  | succ n ih =>
    intro H cur hA hc
    have hF0 := hA.1
    have hcH := hF0.cl hcl
    have hWH := hW.fr0 hF0
    have hsH := hs.fr hF0
    refine o_iload_n (pc := 87) dL_isSame_87 3 rfl ?_
    refine o_bipush (pc := 88) (z := 8) dL_isSame_88 (by decide) ?_
    refine o_icmp_ge (pc := 90) 112 dL_isSame_90 (by decide) (by unfold inI; omega) (by unfold inI; omega) (fun c_90 => (by exfalso; omega)) (fun c_90 => ?_)
    refine o_aload_n (pc := 93) dL_isSame_93 0 rfl ?_
    refine o_iload_n (pc := 94) dL_isSame_94 3 rfl ?_
    refine o_callC (pc := 95) _ dL_isSame_95 (fun G' hG => P_count (m := H.2.1) hsH.1.1 hsH.1.2.1 (by unfold inI; omega) (by omega)) lkL_187 rfl rfl hcH ⟨⟨by simp only [rmL, rmD]; omega, by simp only [rmL, rmD]; omega⟩, by simp only [rmL, rmD]; omega, by simp only [rmL, rmD]; omega⟩ (Nat.le_of_ble_eq_true rfl) rfl (fun n1 => ?_)
    have hA1 := hA.cs (n := n1)
    have hF1 := hA1.1
    have hWH := hW.fr0 hF1
    refine o_aload_n (pc := 98) dL_isSame_98 2 rfl ?_
    refine o_iload_n (pc := 99) dL_isSame_99 3 rfl ?_
    refine o_iaI (pc := 100) dL_isSame_100 (shp_ak (by decide)) hA1.2.1 (by omega) (by omega) (hA1.2.2 (cur : Int) (by omega) (by omega)) ?_
    refine o_icmpS (pc := 101) 106 dL_isSame_101 (by decide) ((V_cnt hsH.1.2.2.1 hsH.1.2.2.2.1 (m' := fun _ _ _ => h.2.1 36 0 0) (by omega) (by rw [(hF0.2.1 36 (by decide)).1]))) ?_
    refine o_iinc (pc := 106) (lv' := [(3, _), (0, _), (1, _), (2, _)]) dL_isSame_106 3 rfl (by decide) rfl ?_
    refine o_goto (pc := 109) 87 dL_isSame_109 (by decide) ?_
    exact o_lv [1, 2, 3, 0] rfl (ih (cur := cur + 1) hA1 (by omega))
theorem is_pck {G : GG} {h : Hp} {a : Nat} {N : Int → Int} {B : Bok} {S T : Nat → Prop} (hW : WN G h a N B S T) {K : Nat} (hs : SH h.2.1 N K) (hcl : CL h) (hK : K ≤ 600) {Q : PP} {c0 s0 q : Nat} (hcs : c0 ≤ 40) (hss : s0 ≤ 270) {ca pa : Int} {k : Nat} (hk : (k : Int) < N 3) (kk : ∀ H, Fr (fun _ => False) h H → YY G ML_isSame (rmL 10 40 270) 263 [(0, rf G 38 0), (1, rf G 51 a), (3, .long (lI ca)), (5, .long (lI pa)), (7, .int (iI (k : Int))), (8, rf G 52 (bE B 3 k))] [] H c0 s0 Q) : ∀ (n : Nat) {H : Hp} {cur : Nat} (hA : SA 0 h q 9 (fun j => pckN N k j) H) (hc : cur + n = 9), YY G ML_isSame (rmL 10 40 270) 232 [(0, rf G 38 0), (1, rf G 51 a), (3, .long (lI ca)), (5, .long (lI pa)), (7, .int (iI (k : Int))), (8, rf G 52 (bE B 3 k)), (9, rf G (ak 0 9) q), (10, .int (iI (cur : Int)))] [] H c0 s0 Q := by
  intro n
  induction n with
  | zero =>
    intro H cur hA hc
    have hF0 := hA.1
    have hcH := hF0.cl hcl
    have hWH := hW.fr0 hF0
    have hsH := hs.fr hF0
    refine o_iload (pc := 232) dL_isSame_232 7 rfl ?_
    refine o_bipush (pc := 234) (z := 9) dL_isSame_234 (by decide) ?_
    refine o_icmp_ge (pc := 236) 263 dL_isSame_236 (by decide) (by unfold inI; omega) (by unfold inI; omega) (fun c_236 => ?_) (fun c_236 => (by exfalso; omega))
    exact o_lv [0, 1, 2, 3, 4, 5] rfl (kk _ hA.1)
  | succ n ih =>
    intro H cur hA hc
    have hF0 := hA.1
    have hcH := hF0.cl hcl
    have hWH := hW.fr0 hF0
    have hsH := hs.fr hF0
    have n3 := hsH.1.2.2.1.1.2.2.1
    have b3 := hsH.1.1.2.2.1
    refine o_iload (pc := 232) dL_isSame_232 7 rfl ?_
    refine o_bipush (pc := 234) (z := 9) dL_isSame_234 (by decide) ?_
    refine o_icmp_ge (pc := 236) 263 dL_isSame_236 (by decide) (by unfold inI; omega) (by unfold inI; omega) (fun c_236 => (by exfalso; omega)) (fun c_236 => ?_)
    refine o_aload_n (pc := 239) dL_isSame_239 0 rfl ?_
    refine o_iload (pc := 240) dL_isSame_240 4 rfl ?_
    refine o_iload (pc := 242) dL_isSame_242 7 rfl ?_
    refine o_callC (pc := 244) _ dL_isSame_244 (fun G' hG => P_pack (m := H.2.1) hsH.1.1 hsH.1.2.1 (by unfold inI; omega) (by unfold inI; omega) (by omega) (by omega)) lkL_216 rfl rfl hcH ⟨⟨by simp only [rmL, rmD]; omega, by simp only [rmL, rmD]; omega⟩, by simp only [rmL, rmD]; omega, by simp only [rmL, rmD]; omega⟩ (Nat.le_of_ble_eq_true rfl) rfl (fun n1 => ?_)
    have hA1 := hA.cs (n := n1)
    have hF1 := hA1.1
    have hWH := hW.fr0 hF1
    refine o_aload (pc := 247) dL_isSame_247 6 rfl ?_
    refine o_iload (pc := 249) dL_isSame_249 7 rfl ?_
    refine o_iaI (pc := 251) dL_isSame_251 (shp_ak (by decide)) hA1.2.1 (by omega) (by omega) (hA1.2.2 (cur : Int) (by omega) (by omega)) ?_
    refine o_icmpS (pc := 252) 257 dL_isSame_252 (by decide) (V_pck hsH.1.1 hsH.1.2.1 hsH.1.2.2.1 hsH.1.2.2.2.1 (q := (k : Int)) (w := (cur : Int)) (by omega) (by omega) (by omega)) ?_
    refine o_iinc (pc := 257) (lv' := [(10, _), (0, _), (1, _), (3, _), (5, _), (7, _), (8, _), (9, _)]) dL_isSame_257 7 rfl (by decide) rfl ?_
    refine o_goto (pc := 260) 232 dL_isSame_260 (by decide) ?_
    exact o_lv [1, 2, 3, 4, 5, 6, 7, 0] rfl (ih (cur := cur + 1) hA1 (by omega))
theorem is_loa {G : GG} {h : Hp} {a : Nat} {N : Int → Int} {B : Bok} {S T : Nat → Prop} (hW : WN G h a N B S T) {K : Nat} (hs : SH h.2.1 N K) (hcl : CL h) (hK : K ≤ 600) {Q : PP} {c0 s0 q : Nat} (hcs : c0 ≤ 40) (hss : s0 ≤ 270) {ca pa : Int} {k : Nat} (hk : (k : Int) < N 9) (kk : ∀ H, Fr (fun _ => False) h H → YY G ML_isSame (rmL 10 40 270) 625 [(0, rf G 38 0), (1, rf G 51 a), (3, .long (lI ca)), (5, .long (lI pa)), (7, .int (iI (k : Int))), (8, rf G 55 (bE B 6 k))] [] H c0 s0 Q) : ∀ (n : Nat) {H : Hp} {cur : Nat} (hA : SA 0 h q 8 (fun j => loaN N k j) H) (hc : cur + n = 8), YY G ML_isSame (rmL 10 40 270) 594 [(0, rf G 38 0), (1, rf G 51 a), (3, .long (lI ca)), (5, .long (lI pa)), (7, .int (iI (k : Int))), (8, rf G 55 (bE B 6 k)), (9, rf G (ak 0 8) q), (10, .int (iI (cur : Int)))] [] H c0 s0 Q := by
  intro n
  induction n with
  | zero =>
    intro H cur hA hc
    have hF0 := hA.1
    have hcH := hF0.cl hcl
    have hWH := hW.fr0 hF0
    have hsH := hs.fr hF0
    refine o_iload (pc := 594) dL_isSame_594 7 rfl ?_
    refine o_bipush (pc := 596) (z := 8) dL_isSame_596 (by decide) ?_
    refine o_icmp_ge (pc := 598) 625 dL_isSame_598 (by decide) (by unfold inI; omega) (by unfold inI; omega) (fun c_598 => ?_) (fun c_598 => (by exfalso; omega))
    exact o_lv [0, 1, 2, 3, 4, 5] rfl (kk _ hA.1)
  | succ n ih =>
    intro H cur hA hc
    have hF0 := hA.1
    have hcH := hF0.cl hcl
    have hWH := hW.fr0 hF0
    have hsH := hs.fr hF0
    have n9 := hsH.1.2.2.2.1.1.2.2.2.2.2.2
    have b9 := hsH.1.2.1.2.2.2.2.1.1
    refine o_iload (pc := 594) dL_isSame_594 7 rfl ?_
    refine o_bipush (pc := 596) (z := 8) dL_isSame_596 (by decide) ?_
    refine o_icmp_ge (pc := 598) 625 dL_isSame_598 (by decide) (by unfold inI; omega) (by unfold inI; omega) (fun c_598 => (by exfalso; omega)) (fun c_598 => ?_)
    refine o_aload_n (pc := 601) dL_isSame_601 0 rfl ?_
    refine o_iload (pc := 602) dL_isSame_602 4 rfl ?_
    refine o_iload (pc := 604) dL_isSame_604 7 rfl ?_
    refine o_callC (pc := 606) _ dL_isSame_606 (fun G' hG => P_loan (m := H.2.1) hsH.1.1 hsH.1.2.1 (by unfold inI; omega) (by unfold inI; omega) (by omega) (by omega)) lkL_250 rfl rfl hcH ⟨⟨by simp only [rmL, rmD]; omega, by simp only [rmL, rmD]; omega⟩, by simp only [rmL, rmD]; omega, by simp only [rmL, rmD]; omega⟩ (Nat.le_of_ble_eq_true rfl) rfl (fun n1 => ?_)
    have hA1 := hA.cs (n := n1)
    have hF1 := hA1.1
    have hWH := hW.fr0 hF1
    refine o_aload (pc := 609) dL_isSame_609 6 rfl ?_
    refine o_iload (pc := 611) dL_isSame_611 7 rfl ?_
    refine o_iaI (pc := 613) dL_isSame_613 (shp_ak (by decide)) hA1.2.1 (by omega) (by omega) (hA1.2.2 (cur : Int) (by omega) (by omega)) ?_
    refine o_icmpS (pc := 614) 619 dL_isSame_614 (by decide) (V_loa hsH.1.2.2.1 hsH.1.2.2.2.1 (l := (k : Int)) (w := (cur : Int)) (by omega) (by omega) (by omega)) ?_
    refine o_iinc (pc := 619) (lv' := [(10, _), (0, _), (1, _), (3, _), (5, _), (7, _), (8, _), (9, _)]) dL_isSame_619 7 rfl (by decide) rfl ?_
    refine o_goto (pc := 622) 594 dL_isSame_622 (by decide) ?_
    exact o_lv [1, 2, 3, 4, 5, 6, 7, 0] rfl (ih (cur := cur + 1) hA1 (by omega))
theorem is_tot {G : GG} {h : Hp} {a : Nat} {N : Int → Int} {B : Bok} {S T : Nat → Prop} (hW : WN G h a N B S T) {K : Nat} (hs : SH h.2.1 N K) (hcl : CL h) (hK : K ≤ 600) {Q : PP} {c0 s0 q : Nat} (hcs : c0 ≤ 40) (hss : s0 ≤ 270) {ca pa : Int} (kk : ∀ H, Fr (fun _ => False) h H → YY G ML_isSame (rmL 10 40 270) 707 [(0, rf G 38 0), (1, rf G 51 a), (3, .long (lI ca)), (5, .long (lI pa))] [] H c0 s0 Q) : ∀ (n : Nat) {H : Hp} {cur : Nat} (hA : SA 3 h q 6 (fun j => totN N j) H) (hc : cur + n = 6), YY G ML_isSame (rmL 10 40 270) 677 [(0, rf G 38 0), (1, rf G 51 a), (3, .long (lI ca)), (5, .long (lI pa)), (7, rf G (ak 3 6) q), (8, .int (iI (cur : Int)))] [] H c0 s0 Q := by
  intro n
  induction n with
  | zero =>
    intro H cur hA hc
    have hF0 := hA.1
    have hcH := hF0.cl hcl
    have hWH := hW.fr0 hF0
    have hsH := hs.fr hF0
    refine o_iload (pc := 677) dL_isSame_677 5 rfl ?_
    refine o_bipush (pc := 679) (z := 6) dL_isSame_679 (by decide) ?_
    refine o_icmp_ge (pc := 681) 707 dL_isSame_681 (by decide) (by unfold inI; omega) (by unfold inI; omega) (fun c_681 => ?_) (fun c_681 => (by exfalso; omega))
    exact o_lv [0, 1, 2, 3] rfl (kk _ hA.1)
  | succ n ih =>
    intro H cur hA hc
    have hF0 := hA.1
    have hcH := hF0.cl hcl
    have hWH := hW.fr0 hF0
    have hsH := hs.fr hF0
    refine o_iload (pc := 677) dL_isSame_677 5 rfl ?_
    refine o_bipush (pc := 679) (z := 6) dL_isSame_679 (by decide) ?_
    refine o_icmp_ge (pc := 681) 707 dL_isSame_681 (by decide) (by unfold inI; omega) (by unfold inI; omega) (fun c_681 => (by exfalso; omega)) (fun c_681 => ?_)
    refine o_aload_n (pc := 684) dL_isSame_684 0 rfl ?_
    refine o_iload (pc := 685) dL_isSame_685 5 rfl ?_
    refine o_callC (pc := 687) _ dL_isSame_687 (fun G' hG => P_total (m := H.2.1) hsH.1.1 hsH.1.2.1 hsH.1.2.2.2.2.2.2.1 hsH.2.1 hsH.2.2 (by unfold inI; omega) (by omega) (tot_b hsH.1 hK)) lkL_262 rfl rfl hcH ⟨⟨by simp only [rmL, rmD]; omega, by simp only [rmL, rmD]; omega⟩, by simp only [rmL, rmD]; omega, by simp only [rmL, rmD]; omega⟩ (Nat.le_of_ble_eq_true rfl) rfl (fun n1 => ?_)
    have hA1 := hA.cs (n := n1)
    have hF1 := hA1.1
    have hWH := hW.fr0 hF1
    refine o_aload (pc := 690) dL_isSame_690 4 rfl ?_
    refine o_iload (pc := 692) dL_isSame_692 5 rfl ?_
    refine o_laI (pc := 694) dL_isSame_694 (shp_ak (by decide)) hA1.2.1 (by omega) (by omega) (hA1.2.2 (cur : Int) (by omega) (by omega)) ?_
    refine o_lcmpS (pc := 695) dL_isSame_695 (V_tot hsH.1.2.2.1 hsH.1.2.2.2.1 (w := (cur : Int)) (by omega)) ?_
    refine o_if_eq (pc := 696) 701 dL_isSame_696 (by decide) (by unfold inI; omega) (fun c_696 => ?_) (fun c_696 => (by exfalso; omega))
    refine o_iinc (pc := 701) (lv' := [(8, _), (0, _), (1, _), (3, _), (5, _), (7, _)]) dL_isSame_701 5 rfl (by decide) rfl ?_
    refine o_goto (pc := 704) 677 dL_isSame_704 (by decide) ?_
    exact o_lv [1, 2, 3, 4, 5, 0] rfl (ih (cur := cur + 1) hA1 (by omega))
