/-! a description read: what stays as it was -/
def FD (m m1 : Mem) : Prop := ∀ k i, ¬ (k < 22 ∧ i = 4) → ¬ (22 ≤ k ∧ k < 33 ∧ i = 3) → k ≠ 34 → m1 k i = m k i
theorem FD.r (m : Mem) : FD m m := fun _ _ _ _ _ => rfl
theorem FD.t {m m1 m2 : Mem} (h : FD m m1) (h2 : FD m1 m2) : FD m m2 := fun k i a b c => (h2 k i a b c).trans (h k i a b c)
theorem FD_k {m m1 : Mem} (h : ∀ k, k ≠ 34 → m1 k = m k) : FD m m1 := fun k i _ _ c => by rw [h k c]
theorem FD.up {m m1 : Mem} {k i : Nat} {j z : Int} (h : FD m m1) (hk : (k < 22 ∧ i = 4) ∨ (22 ≤ k ∧ k < 33 ∧ i = 3) ∨ k = 34) : FD m (up3 m1 k i j z) := fun k' i' a b c =>
  (up3_ne (fun q => by have := q.1; have := q.2; omega)).trans (h k' i' a b c)
theorem FD.fi {m m1 : Mem} {k i : Nat} {z : Int} (h : FD m m1) (hk : (k < 22 ∧ i = 4) ∨ (22 ≤ k ∧ k < 33 ∧ i = 3) ∨ k = 34) : FD m (fiA m1 k i z) := fun k' i' a b c => by
  rw [← h k' i' a b c]
  funext j
  unfold fiA
  rw [if_neg (fun q => by have := q.1; have := q.2; omega)]
theorem FD_num {m : Mem} {lo hi : Int} : FD m (numM m lo hi) := FD_k (fun _ a => numM_k a)
theorem FD_fail {m : Mem} {k q : Int} : FD m (failM m k q) := FD_k (fun _ a => failM_k a)
theorem FD_np {m : Mem} : FD m (npM m) := FD_num
theorem FD_tpF {m : Mem} {c : Prop} [Decidable c] : FD m (tpF m c) := FD_k (fun _ a => tpF_k a)
theorem FD_addP {m : Mem} {x y : Int} : FD m (addP m 3 x y) := by unfold addP; exact (((FD.r m).up (by decide)).up (by decide)).up (by decide)
theorem FD_begP {m : Mem} {q x : Int} : FD m (begP m 4 q x) := by unfold begP; exact ((((FD.r m).up (by decide)).up (by decide)).up (by decide)).up (by decide)
theorem FD_begC {m : Mem} {c x y : Int} : FD m (begC m 4 c x y) := by unfold begC; exact ((((FD.r m).up (by decide)).up (by decide)).up (by decide)).up (by decide)
theorem FD_addB {m : Mem} {a b : Int} : FD m (addB m 3 a b) := by unfold addB; exact (((FD.r m).up (by decide)).up (by decide)).up (by decide)
theorem FD_sunL {q g : Int} : ∀ (n : Nat) (m : Mem) (h : Int), FD m (sunL m 3 q g h n) := by
  intro n
  induction n with
  | zero => intro m h; exact FD.r m
  | succ n ih => intro m h; exact ((FD.r m).up (by decide)).t (ih _ (h + 1))
theorem FD_addU {m : Mem} {q a b g : Int} : FD m (addU m 3 q a b g) := by unfold addU; exact (FD_sunL _ _ _).up (by decide)
theorem FD_addT {m : Mem} {q t x : Int} : FD m (addT m 4 q t x) := by unfold addT; exact (((((FD.r m).up (by decide)).up (by decide)).up (by decide)).up (by decide)).up (by decide)
theorem FD_addK {m : Mem} {a b x y z : Int} : FD m (addK m a b x y z) := by unfold addK; exact (((((((FD.r m).up (by decide)).up (by decide)).up (by decide)).up (by decide)).up (by decide)).up (by decide)).up (by decide)
theorem FD_rd0 {m : Mem} : FD m (rd0 m) := by
  unfold rd0
  split
  · exact ((FD_num.t FD_num).up (by decide)).up (by decide)
  · exact FD_num.t FD_num
theorem FD_cuL {r : Int} : ∀ (n : Nat) (m : Mem) (i : Int), FD m (cuL m r i n) := by
  intro n
  induction n with
  | zero => intro m i; exact FD.r m
  | succ n ih => intro m i; exact (FD_num.up (by decide)).t (ih _ (i + 1))
theorem FD_rd1 {m : Mem} : FD m (rd1 m) := by unfold rd1; exact (FD_cuL _ _ _).up (by decide)
theorem FD_rd2 {m : Mem} : FD m (rd2 m) := by
  have p : FD m (pk4 m) := FD_k (fun _ a => pk4_k a)
  unfold rd2
  split
  · exact (p.t FD_begP).t FD_addP
  · exact p
theorem FD_rd3 {m : Mem} : FD m (rd3 m) := by
  unfold rd3
  split
  · exact (((FD_tpF.t FD_num).t FD_num).t FD_begC).t FD_addB
  · exact (FD_tpF.t FD_num).t FD_num
theorem FD_rd4 {m : Mem} : FD m (rd4 m) := by
  unfold rd4
  split
  · exact (((FD_np.t FD_num).t FD_num).t FD_num).t FD_addU
  · exact ((FD_np.t FD_num).t FD_num).t FD_num
theorem FD_rd5 {m : Mem} : FD m (rd5 m) := by
  unfold rd5
  split
  · exact ((FD_np.t FD_num).t FD_num).t FD_addT
  · exact (FD_np.t FD_num).t FD_num
theorem FD_rd6 {m : Mem} : FD m (rd6 m) := by
  unfold rd6
  split
  · exact (((FD_tpF.t FD_num).t FD_num).t FD_num).t FD_addK
  · exact ((FD_tpF.t FD_num).t FD_num).t FD_num
theorem FD_rdK {m : Mem} {k : Int} : FD m (rdK m k) := by
  unfold rdK
  repeat' split
  · exact FD_rd0
  · exact FD_rd1
  · exact FD_rd2
  · exact FD_rd3
  · exact FD_rd4
  · exact FD_rd5
  · exact FD_rd6
theorem FD_st1 {m : Mem} : FD m (st1 m) := FD_k (fun _ a => st1_k a)
theorem FD_stM {m : Mem} : FD m (stM m) := by
  unfold stM
  split
  · exact FD_st1.t FD_fail
  · split
    · exact FD_st1.t FD_fail
    · exact FD_st1.t FD_rdK
theorem FD_seM {m : Mem} : FD m (seM m) := FD_k (fun _ a => seM_k a)
theorem FD_nxt {m : Mem} : FD m (nxt m) := FD_seM.up (by decide)
theorem FD_ldL : ∀ (n : Nat) (m : Mem), FD m (ldL m n) := by
  intro n
  induction n with
  | zero => intro m; exact FD.r m
  | succ n ih =>
    intro m
    unfold ldL
    split
    · exact (FD_nxt.t FD_stM).t (ih _)
    · exact FD_seM
theorem FD_ld0 {m : Mem} : FD m (ld0 m) := by
  have a : FD m (clrP m 3) := by
    unfold clrP
    exact ((((((((FD.r m).up (by decide)).up (by decide)).up (by decide)).up (by decide)).up (by decide))).fi (by decide)).fi (by decide)
  have b : FD m (clrS (clrP m 3) 4) := by
    unfold clrS
    exact (((((a.up (by decide)).up (by decide)).up (by decide)).up (by decide)).up (by decide)).up (by decide)
  unfold ld0
  exact (((b.up (by decide)).up (by decide)).up (by decide)).up (by decide)
theorem FD_all {m : Mem} : FD m (ldL (stM (ld0 m)) (stM (ld0 m) 34 0 5).toNat) := (FD_ld0.t FD_stM).t (FD_ldL _ _)
theorem FD_txM {m : Mem} : FD m (txM m) := FD_all.up (by decide)
theorem RB_ldL : ∀ (n : Nat) (m : Mem), RB m → RB (ldL m n) := by
  intro n
  induction n with
  | zero => intro m h; exact h
  | succ n ih =>
    intro m h
    unfold ldL
    split
    · exact ih _ (RK_st (RB_nxt h)).1
    · exact (RK_se h).1
theorem RB_all {m : Mem} (h : RW m) : RB (ldL (stM (ld0 m)) (stM (ld0 m) 34 0 5).toNat) := RB_ldL _ _ (RK_st (RB_ld0 h)).1
/-- the worlds that a step leaves alone -/
theorem ST_same {m m1 : Mem} {p s : Nat} {N : Int → Int} {K : Nat} (h : ST m p s N K) (e : ∀ k, k < 22 → m1 k s = m k s) (e2 : ∀ k, 22 ≤ k → k < 33 → m1 k p = m k p) : ST m1 p s N K := h.mv e e2
