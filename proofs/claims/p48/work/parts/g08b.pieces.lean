/-! drawn: lemmas of costs, lengths and pieces -/
theorem ckl {c w n C t T : Nat} (h : c + w * (n + 1) ≤ C) (e : t ≤ w) (e2 : C ≤ T) : c + t ≤ T := by
  have := Nat.le_mul_of_pos_right w (Nat.succ_pos n)
  change w ≤ w * (n + 1) at this
  omega
theorem ck0 {c w n C T : Nat} (h : c + w * n ≤ C) (e2 : C ≤ T) : c ≤ T := by omega
theorem ckr {c w n C t : Nat} (h : c + w * (n + 1) ≤ C) (e : t ≤ w) : c + (t + w * n) ≤ C := by
  rw [Nat.mul_add, Nat.mul_one] at h
  omega
theorem ckz {c w n C : Nat} (h : c + w * (n + 1) ≤ C) : c + w * n ≤ C := by
  rw [Nat.mul_add, Nat.mul_one] at h
  omega
theorem lz {A X : List Int} {m x m' : Nat} (h : A.length ≤ m) (hx : X.length ≤ x) (e : m + x = m') : (A ++ X).length ≤ m' := by rw [List.length_append]; omega
theorem lz0 {A : List Int} {w n C m : Nat} (h : A.length + w * (n + 1) ≤ C) (e : m + w = C) : A.length ≤ m := by
  rw [Nat.mul_add, Nat.mul_one] at h
  omega
theorem lzn {A A' : List Int} {w n C : Nat} (h : A.length + w * (n + 1) ≤ C) (e : A'.length ≤ A.length + w) : A'.length + w * n ≤ C := by
  rw [Nat.mul_add, Nat.mul_one] at h
  omega
theorem lzs {A : List Int} {w n C : Nat} (h : A.length + w * n ≤ C) : A.length ≤ C := by omega
theorem k_cur {L : List Int} {N N' : Int → Int} {w0 w1 w2 w3 : Int} (hP : PR L N) (hb : BY L) (hR : RDS 1 [w0, w1, w2, w3] N N') (qw0 : 0 ≤ w0 ∧ w0 < 1000) (qw1 : 0 ≤ w1 ∧ w1 < 1000) (qw2 : 0 ≤ w2 ∧ w2 < 1000) (qw3 : 0 ≤ w3 ∧ w3 < 1000) : PR ((((((((L ++ lit 8) ++ dg w0) ++ [32]) ++ dg w1) ++ [32]) ++ dg w2) ++ [32]) ++ dg w3) N' ∧ BY ((((((((L ++ lit 8) ++ dg w0) ++ [32]) ++ dg w1) ++ [32]) ++ dg w2) ++ [32]) ++ dg w3) ∧ ((((((((L ++ lit 8) ++ dg w0) ++ [32]) ++ dg w1) ++ [32]) ++ dg w2) ++ [32]) ++ dg w3).length ≤ L.length + 22 := by
  have hP2 := PR.next hP (sp := [59]) (i := 1) (ns := [w0, w1, w2, w3]) (by decide) (.inl rfl) tw_1 (by decide) (List.cons_ne_nil _ _) hR
  have eL : L ++ ([59] ++ ([99, 117, 114, 118, 101] ++ NS [w0, w1, w2, w3])) = ((((((((L ++ lit 8) ++ dg w0) ++ [32]) ++ dg w1) ++ [32]) ++ dg w2) ++ [32]) ++ dg w3) := by simp only [lit_8, NS, List.append_assoc, List.cons_append, List.nil_append, List.append_nil]
  rw [eL] at hP2
  exact ⟨hP2, ((((((((hb.app (BY_lit (by decide))).app (BY_dg qw0.1 qw0.2)).app BY_32).app (BY_dg qw1.1 qw1.2)).app BY_32).app (BY_dg qw2.1 qw2.2)).app BY_32).app (BY_dg qw3.1 qw3.2)), Nat.le_trans (lz (lz (lz (lz (lz (lz (lz (lz (Nat.le_refl _) (Nat.le_of_eq lit_l8) rfl) (dg_len w0).2 rfl) (Nat.le_refl 1) rfl) (dg_len w1).2 rfl) (Nat.le_refl 1) rfl) (dg_len w2).2 rfl) (Nat.le_refl 1) rfl) (dg_len w3).2 rfl) (by exact Nat.le_refl _)⟩
theorem k_pk0 {L : List Int} {N N' : Int → Int} {cap ch : Int} (hP : PR L N) (hb : BY L) (hR : RDS 2 [cap, ch] N N') (qcap : 0 ≤ cap ∧ cap < 1000) (qch : 0 ≤ ch ∧ ch < 1000) : PR ((((L ++ lit 9) ++ dg cap) ++ [32]) ++ dg ch) N' ∧ BY ((((L ++ lit 9) ++ dg cap) ++ [32]) ++ dg ch) ∧ ((((L ++ lit 9) ++ dg cap) ++ [32]) ++ dg ch).length ≤ L.length + 19 := by
  have hP2 := PR.next hP (sp := [59]) (i := 2) (ns := [cap, ch]) (by decide) (.inl rfl) tw_2 (by decide) (List.cons_ne_nil _ _) hR
  have eL : L ++ ([59] ++ ([112, 97, 99, 107] ++ NS [cap, ch])) = ((((L ++ lit 9) ++ dg cap) ++ [32]) ++ dg ch) := by simp only [lit_9, NS, List.append_assoc, List.cons_append, List.nil_append, List.append_nil]
  rw [eL] at hP2
  exact ⟨hP2, ((((hb.app (BY_lit (by decide))).app (BY_dg qcap.1 qcap.2)).app BY_32).app (BY_dg qch.1 qch.2)), Nat.le_trans (lz (lz (lz (lz (Nat.le_refl _) (Nat.le_of_eq lit_l9) rfl) (dg_len cap).2 rfl) (Nat.le_refl 1) rfl) (dg_len ch).2 rfl) (by omega)⟩
theorem k_pk1 {L : List Int} {N N' : Int → Int} {cap ch cv : Int} (hP : PR L N) (hb : BY L) (hR : RDS 2 [cap, ch, cv] N N') (qcap : 0 ≤ cap ∧ cap < 1000) (qch : 0 ≤ ch ∧ ch < 1000) (qcv : 0 ≤ cv ∧ cv < 1000) : PR ((((((L ++ lit 9) ++ dg cap) ++ [32]) ++ dg ch) ++ [32]) ++ dg cv) N' ∧ BY ((((((L ++ lit 9) ++ dg cap) ++ [32]) ++ dg ch) ++ [32]) ++ dg cv) ∧ ((((((L ++ lit 9) ++ dg cap) ++ [32]) ++ dg ch) ++ [32]) ++ dg cv).length ≤ L.length + 19 := by
  have hP2 := PR.next hP (sp := [59]) (i := 2) (ns := [cap, ch, cv]) (by decide) (.inl rfl) tw_2 (by decide) (List.cons_ne_nil _ _) hR
  have eL : L ++ ([59] ++ ([112, 97, 99, 107] ++ NS [cap, ch, cv])) = ((((((L ++ lit 9) ++ dg cap) ++ [32]) ++ dg ch) ++ [32]) ++ dg cv) := by simp only [lit_9, NS, List.append_assoc, List.cons_append, List.nil_append, List.append_nil]
  rw [eL] at hP2
  exact ⟨hP2, ((((((hb.app (BY_lit (by decide))).app (BY_dg qcap.1 qcap.2)).app BY_32).app (BY_dg qch.1 qch.2)).app BY_32).app (BY_dg qcv.1 qcv.2)), Nat.le_trans (lz (lz (lz (lz (lz (lz (Nat.le_refl _) (Nat.le_of_eq lit_l9) rfl) (dg_len cap).2 rfl) (Nat.le_refl 1) rfl) (dg_len ch).2 rfl) (Nat.le_refl 1) rfl) (dg_len cv).2 rfl) (by omega)⟩
theorem k_pq0 {L : List Int} {N N' : Int → Int} {cap ch : Int} (hP : PR L N) (hb : BY L) (hR : RDS 2 [cap, ch] N N') (qcap : 0 ≤ cap ∧ cap < 1000) (qch : 0 ≤ ch ∧ ch < 1000) : PR ((((L ++ lit 10) ++ dg cap) ++ [32]) ++ dg ch) N' ∧ BY ((((L ++ lit 10) ++ dg cap) ++ [32]) ++ dg ch) ∧ ((((L ++ lit 10) ++ dg cap) ++ [32]) ++ dg ch).length ≤ L.length + 19 := by
  have hP2 := PR.next hP (sp := [32, 59, 32]) (i := 2) (ns := [cap, ch]) (by decide) (.inr rfl) tw_2 (by decide) (List.cons_ne_nil _ _) hR
  have eL : L ++ ([32, 59, 32] ++ ([112, 97, 99, 107] ++ NS [cap, ch])) = ((((L ++ lit 10) ++ dg cap) ++ [32]) ++ dg ch) := by simp only [lit_10, NS, List.append_assoc, List.cons_append, List.nil_append, List.append_nil]
  rw [eL] at hP2
  exact ⟨hP2, ((((hb.app (BY_lit (by decide))).app (BY_dg qcap.1 qcap.2)).app BY_32).app (BY_dg qch.1 qch.2)), Nat.le_trans (lz (lz (lz (lz (Nat.le_refl _) (Nat.le_of_eq lit_l10) rfl) (dg_len cap).2 rfl) (Nat.le_refl 1) rfl) (dg_len ch).2 rfl) (by omega)⟩
theorem k_pq1 {L : List Int} {N N' : Int → Int} {cap ch cv : Int} (hP : PR L N) (hb : BY L) (hR : RDS 2 [cap, ch, cv] N N') (qcap : 0 ≤ cap ∧ cap < 1000) (qch : 0 ≤ ch ∧ ch < 1000) (qcv : 0 ≤ cv ∧ cv < 1000) : PR ((((((L ++ lit 10) ++ dg cap) ++ [32]) ++ dg ch) ++ [32]) ++ dg cv) N' ∧ BY ((((((L ++ lit 10) ++ dg cap) ++ [32]) ++ dg ch) ++ [32]) ++ dg cv) ∧ ((((((L ++ lit 10) ++ dg cap) ++ [32]) ++ dg ch) ++ [32]) ++ dg cv).length ≤ L.length + 19 := by
  have hP2 := PR.next hP (sp := [32, 59, 32]) (i := 2) (ns := [cap, ch, cv]) (by decide) (.inr rfl) tw_2 (by decide) (List.cons_ne_nil _ _) hR
  have eL : L ++ ([32, 59, 32] ++ ([112, 97, 99, 107] ++ NS [cap, ch, cv])) = ((((((L ++ lit 10) ++ dg cap) ++ [32]) ++ dg ch) ++ [32]) ++ dg cv) := by simp only [lit_10, NS, List.append_assoc, List.cons_append, List.nil_append, List.append_nil]
  rw [eL] at hP2
  exact ⟨hP2, ((((((hb.app (BY_lit (by decide))).app (BY_dg qcap.1 qcap.2)).app BY_32).app (BY_dg qch.1 qch.2)).app BY_32).app (BY_dg qcv.1 qcv.2)), Nat.le_trans (lz (lz (lz (lz (lz (lz (Nat.le_refl _) (Nat.le_of_eq lit_l10) rfl) (dg_len cap).2 rfl) (Nat.le_refl 1) rfl) (dg_len ch).2 rfl) (Nat.le_refl 1) rfl) (dg_len cv).2 rfl) (by exact Nat.le_refl _)⟩
theorem k_cab {L : List Int} {N N' : Int → Int} {x y lo ra : Int} (hP : PR L N) (hb : BY L) (hR : RDS 3 [x, y, lo, ra] N N') (qx : 0 ≤ x ∧ x < 1000) (qy : 0 ≤ y ∧ y < 1000) (qlo : 0 ≤ lo ∧ lo < 1000) (qra : 0 ≤ ra ∧ ra < 1000) : PR ((((((((L ++ lit 11) ++ dg x) ++ [32]) ++ dg y) ++ [32]) ++ dg lo) ++ [32]) ++ dg ra) N' ∧ BY ((((((((L ++ lit 11) ++ dg x) ++ [32]) ++ dg y) ++ [32]) ++ dg lo) ++ [32]) ++ dg ra) ∧ ((((((((L ++ lit 11) ++ dg x) ++ [32]) ++ dg y) ++ [32]) ++ dg lo) ++ [32]) ++ dg ra).length ≤ L.length + 22 := by
  have hP2 := PR.next hP (sp := [59]) (i := 3) (ns := [x, y, lo, ra]) (by decide) (.inl rfl) tw_3 (by decide) (List.cons_ne_nil _ _) hR
  have eL : L ++ ([59] ++ ([99, 97, 98, 108, 101] ++ NS [x, y, lo, ra])) = ((((((((L ++ lit 11) ++ dg x) ++ [32]) ++ dg y) ++ [32]) ++ dg lo) ++ [32]) ++ dg ra) := by simp only [lit_11, NS, List.append_assoc, List.cons_append, List.nil_append, List.append_nil]
  rw [eL] at hP2
  exact ⟨hP2, ((((((((hb.app (BY_lit (by decide))).app (BY_dg qx.1 qx.2)).app BY_32).app (BY_dg qy.1 qy.2)).app BY_32).app (BY_dg qlo.1 qlo.2)).app BY_32).app (BY_dg qra.1 qra.2)), Nat.le_trans (lz (lz (lz (lz (lz (lz (lz (lz (Nat.le_refl _) (Nat.le_of_eq lit_l11) rfl) (dg_len x).2 rfl) (Nat.le_refl 1) rfl) (dg_len y).2 rfl) (Nat.le_refl 1) rfl) (dg_len lo).2 rfl) (Nat.le_refl 1) rfl) (dg_len ra).2 rfl) (by exact Nat.le_refl _)⟩
theorem k_sun {L : List Int} {N N' : Int → Int} {x fr to g : Int} (hP : PR L N) (hb : BY L) (hR : RDS 4 [x, fr, to, g] N N') (qx : 0 ≤ x ∧ x < 1000) (qfr : 0 ≤ fr ∧ fr < 1000) (qto : 0 ≤ to ∧ to < 1000) (qg : 0 ≤ g ∧ g < 1000) : PR ((((((((L ++ lit 12) ++ dg x) ++ [32]) ++ dg fr) ++ [32]) ++ dg to) ++ [32]) ++ dg g) N' ∧ BY ((((((((L ++ lit 12) ++ dg x) ++ [32]) ++ dg fr) ++ [32]) ++ dg to) ++ [32]) ++ dg g) ∧ ((((((((L ++ lit 12) ++ dg x) ++ [32]) ++ dg fr) ++ [32]) ++ dg to) ++ [32]) ++ dg g).length ≤ L.length + 20 := by
  have hP2 := PR.next hP (sp := [59]) (i := 4) (ns := [x, fr, to, g]) (by decide) (.inl rfl) tw_4 (by decide) (List.cons_ne_nil _ _) hR
  have eL : L ++ ([59] ++ ([115, 117, 110] ++ NS [x, fr, to, g])) = ((((((((L ++ lit 12) ++ dg x) ++ [32]) ++ dg fr) ++ [32]) ++ dg to) ++ [32]) ++ dg g) := by simp only [lit_12, NS, List.append_assoc, List.cons_append, List.nil_append, List.append_nil]
  rw [eL] at hP2
  exact ⟨hP2, ((((((((hb.app (BY_lit (by decide))).app (BY_dg qx.1 qx.2)).app BY_32).app (BY_dg qfr.1 qfr.2)).app BY_32).app (BY_dg qto.1 qto.2)).app BY_32).app (BY_dg qg.1 qg.2)), Nat.le_trans (lz (lz (lz (lz (lz (lz (lz (lz (Nat.le_refl _) (Nat.le_of_eq lit_l12) rfl) (dg_len x).2 rfl) (Nat.le_refl 1) rfl) (dg_len fr).2 rfl) (Nat.le_refl 1) rfl) (dg_len to).2 rfl) (Nat.le_refl 1) rfl) (dg_len g).2 rfl) (by exact Nat.le_refl _)⟩
theorem k_tri {L : List Int} {N N' : Int → Int} {x t n : Int} (hP : PR L N) (hb : BY L) (hR : RDS 5 [x, t, n] N N') (qx : 0 ≤ x ∧ x < 1000) (qt : 0 ≤ t ∧ t < 1000) (qn : 0 ≤ n ∧ n < 1000) : PR ((((((L ++ lit 13) ++ dg x) ++ [32]) ++ dg t) ++ [32]) ++ dg n) N' ∧ BY ((((((L ++ lit 13) ++ dg x) ++ [32]) ++ dg t) ++ [32]) ++ dg n) ∧ ((((((L ++ lit 13) ++ dg x) ++ [32]) ++ dg t) ++ [32]) ++ dg n).length ≤ L.length + 17 := by
  have hP2 := PR.next hP (sp := [59]) (i := 5) (ns := [x, t, n]) (by decide) (.inl rfl) tw_5 (by decide) (List.cons_ne_nil _ _) hR
  have eL : L ++ ([59] ++ ([116, 114, 105, 112] ++ NS [x, t, n])) = ((((((L ++ lit 13) ++ dg x) ++ [32]) ++ dg t) ++ [32]) ++ dg n) := by simp only [lit_13, NS, List.append_assoc, List.cons_append, List.nil_append, List.append_nil]
  rw [eL] at hP2
  exact ⟨hP2, ((((((hb.app (BY_lit (by decide))).app (BY_dg qx.1 qx.2)).app BY_32).app (BY_dg qt.1 qt.2)).app BY_32).app (BY_dg qn.1 qn.2)), Nat.le_trans (lz (lz (lz (lz (lz (lz (Nat.le_refl _) (Nat.le_of_eq lit_l13) rfl) (dg_len x).2 rfl) (Nat.le_refl 1) rfl) (dg_len t).2 rfl) (Nat.le_refl 1) rfl) (dg_len n).2 rfl) (by exact Nat.le_refl _)⟩
theorem k_con {L : List Int} {N N' : Int → Int} {l r li no gr : Int} (hP : PR L N) (hb : BY L) (hR : RDS 6 [l, r, li, no, gr] N N') (ql : 0 ≤ l ∧ l < 1000) (qr : 0 ≤ r ∧ r < 1000) (qli : 0 ≤ li ∧ li < 1000) (qno : 0 ≤ no ∧ no < 1000) (qgr : 0 ≤ gr ∧ gr < 1000) : PR ((((((((((L ++ lit 14) ++ dg l) ++ [32]) ++ dg r) ++ [32]) ++ dg li) ++ [32]) ++ dg no) ++ [32]) ++ dg gr) N' ∧ BY ((((((((((L ++ lit 14) ++ dg l) ++ [32]) ++ dg r) ++ [32]) ++ dg li) ++ [32]) ++ dg no) ++ [32]) ++ dg gr) ∧ ((((((((((L ++ lit 14) ++ dg l) ++ [32]) ++ dg r) ++ [32]) ++ dg li) ++ [32]) ++ dg no) ++ [32]) ++ dg gr).length ≤ L.length + 29 := by
  have hP2 := PR.next hP (sp := [59]) (i := 6) (ns := [l, r, li, no, gr]) (by decide) (.inl rfl) tw_6 (by decide) (List.cons_ne_nil _ _) hR
  have eL : L ++ ([59] ++ ([99, 111, 110, 116, 114, 97, 99, 116] ++ NS [l, r, li, no, gr])) = ((((((((((L ++ lit 14) ++ dg l) ++ [32]) ++ dg r) ++ [32]) ++ dg li) ++ [32]) ++ dg no) ++ [32]) ++ dg gr) := by simp only [lit_14, NS, List.append_assoc, List.cons_append, List.nil_append, List.append_nil]
  rw [eL] at hP2
  exact ⟨hP2, ((((((((((hb.app (BY_lit (by decide))).app (BY_dg ql.1 ql.2)).app BY_32).app (BY_dg qr.1 qr.2)).app BY_32).app (BY_dg qli.1 qli.2)).app BY_32).app (BY_dg qno.1 qno.2)).app BY_32).app (BY_dg qgr.1 qgr.2)), Nat.le_trans (lz (lz (lz (lz (lz (lz (lz (lz (lz (lz (Nat.le_refl _) (Nat.le_of_eq lit_l14) rfl) (dg_len l).2 rfl) (Nat.le_refl 1) rfl) (dg_len r).2 rfl) (Nat.le_refl 1) rfl) (dg_len li).2 rfl) (Nat.le_refl 1) rfl) (dg_len no).2 rfl) (Nat.le_refl 1) rfl) (dg_len gr).2 rfl) (by exact Nat.le_refl _)⟩
theorem RC.con {N : Int → Int} {c0 c1 c2 c3 c4 c5 : Int} (h : RC N c0 c1 c2 c3 c4 c5) {c : Nat} (hc : (c : Int) < c4) (hcp : c4 < c3 ∨ c4 ≤ 0) (h3 : c3 ≤ 8) (h5 : c5 < 8) {li no gr : Int} (hl : 1 ≤ li ∧ li < 1000) (ho : 0 ≤ no ∧ no ≤ 99) (hg : 0 ≤ gr ∧ gr ≤ 99) : (0 ≤ N (86 + 6 * (c : Int) + 0) ∧ N (86 + 6 * (c : Int) + 0) < 1000) ∧ (0 ≤ N (86 + 6 * (c : Int) + 1) ∧ N (86 + 6 * (c : Int) + 1) < 1000) ∧ RDS 6 [N (86 + 6 * (c : Int) + 0), N (86 + 6 * (c : Int) + 1), li, no, gr] N (adN N 5 (v5 (N (86 + 6 * (c : Int) + 0)) (N (86 + 6 * (c : Int) + 1)) li no gr)) ∧ RDS 6 [N (86 + 6 * (c : Int) + 1), N (86 + 6 * (c : Int) + 0), li, no, gr] N (adN N 5 (v5 (N (86 + 6 * (c : Int) + 1)) (N (86 + 6 * (c : Int) + 0)) li no gr)) := by
  obtain ⟨b1, b2⟩ := h.bet hc
  obtain ⟨⟨-, -, -, a3, a4, a5⟩, -, -, ac⟩ := h
  obtain ⟨x1, x2, x3⟩ := ac c hc
  refine ⟨by omega, by omega, RDS.contract (by omega) (by omega) (by omega) hl ho hg (by omega) (by rw [b1]; omega), RDS.contract (by omega) (by omega) (by omega) hl ho hg (by omega) (by rw [b2]; omega)⟩
theorem RC.n0 {N : Int → Int} {c0 c1 c2 c3 c4 c5 d : Int} (h : RC N c0 c1 c2 c3 c4 c5) {v : Int → Int} (hmx : nj N 0 + 1 ≤ mxj 0) (hm : ∀ i, i < 7 → 0 ≤ nj N i ∧ nj N i ≤ mxj i) (e : d = c0 + 1) : RC (adN N 0 v) d c1 c2 c3 c4 c5 := by
  have q := h.ad (j := 0) (v := v) (by decide) (by decide) (hm 0 (by decide)).1 hmx (fun i hi => (hm i hi).2)
  subst e
  simpa using q
theorem RC.n1 {N : Int → Int} {c0 c1 c2 c3 c4 c5 d : Int} (h : RC N c0 c1 c2 c3 c4 c5) {v : Int → Int} (hmx : nj N 1 + 1 ≤ mxj 1) (hm : ∀ i, i < 7 → 0 ≤ nj N i ∧ nj N i ≤ mxj i) (e : d = c1 + 1) : RC (adN N 1 v) c0 d c2 c3 c4 c5 := by
  have q := h.ad (j := 1) (v := v) (by decide) (by decide) (hm 1 (by decide)).1 hmx (fun i hi => (hm i hi).2)
  subst e
  simpa using q
theorem RC.n2 {N : Int → Int} {c0 c1 c2 c3 c4 c5 d : Int} (h : RC N c0 c1 c2 c3 c4 c5) {v : Int → Int} (hmx : nj N 2 + 1 ≤ mxj 2) (hm : ∀ i, i < 7 → 0 ≤ nj N i ∧ nj N i ≤ mxj i) (e : d = c2 + 1) : RC (adN N 2 v) c0 c1 d c3 c4 c5 := by
  have q := h.ad (j := 2) (v := v) (by decide) (by decide) (hm 2 (by decide)).1 hmx (fun i hi => (hm i hi).2)
  subst e
  simpa using q
theorem RC.n3 {N : Int → Int} {c0 c1 c2 c3 c4 c5 d : Int} (h : RC N c0 c1 c2 c3 c4 c5) {v : Int → Int} (hmx : nj N 3 + 1 ≤ mxj 3) (hm : ∀ i, i < 7 → 0 ≤ nj N i ∧ nj N i ≤ mxj i) (e : d = c3 + 1) : RC (adN N 3 v) c0 c1 c2 d c4 c5 := by
  have q := h.ad (j := 3) (v := v) (by decide) (by decide) (hm 3 (by decide)).1 hmx (fun i hi => (hm i hi).2)
  subst e
  simpa using q
theorem RC.n5 {N : Int → Int} {c0 c1 c2 c3 c4 c5 d : Int} (h : RC N c0 c1 c2 c3 c4 c5) {v : Int → Int} (hmx : nj N 5 + 1 ≤ mxj 5) (hm : ∀ i, i < 7 → 0 ≤ nj N i ∧ nj N i ≤ mxj i) (e : d = c5 + 1) : RC (adN N 5 v) c0 c1 c2 c3 c4 d := by
  have q := h.ad (j := 5) (v := v) (by decide) (by decide) (hm 5 (by decide)).1 hmx (fun i hi => (hm i hi).2)
  subst e
  simpa using q
theorem SA.v4 {h H : Hp} {q : Nat} {a b c d : Int} (S : SA 0 h q 4 (upN (upN (upN (upN (fun _ => 0) 0 a) 1 b) 2 c) 3 d) H) : ∀ f : Nat, f < 4 → H.2.1 (ak 0 4) q (f : Int) = v5 a b c d 0 (f : Int) := fun f hf => by
  rw [S.2.2 (f : Int) (by omega) (by omega)]
  match f, hf with
  | 0, _ => rfl
  | 1, _ => rfl
  | 2, _ => rfl
  | 3, _ => rfl
  | n + 4, hf => exact absurd hf (by omega)
