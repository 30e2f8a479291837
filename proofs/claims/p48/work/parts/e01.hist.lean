/-! the class's history and the rows of the law's worlds: R 0 .. R (p - 1) the old ones, R p the current one -/
def ext {X : Type} (f : Nat → X) (p : Nat) (x : X) : Nat → X := fun i => if i ≤ p then f i else x
def shf {X : Type} (f : Nat → X) : Nat → X := fun i => f (i + 1)
theorem ext_lo {X : Type} {f : Nat → X} {p i : Nat} {x : X} (h : i ≤ p) : ext f p x i = f i := if_pos h
theorem ext_hi {X : Type} {f : Nat → X} {p i : Nat} {x : X} (h : p < i) : ext f p x i = x := if_neg (by omega)
def HI (m : Mem) (R : Nat → Int → Int) (p K : Nat) : Prop := SH m (R p) K ∧ m 36 0 0 = (p : Int) ∧ ∀ i : Nat, i < p → ST m 0 (hs m (i : Int)) (R i) K
theorem HI.p8 {m : Mem} {R : Nat → Int → Int} {p K : Nat} (h : HI m R p K) : p ≤ 8 := by
  have a := h.1.2.1
  have b := h.2.1
  omega
theorem HI.k {m c : Mem} {R : Nat → Int → Int} {p K : Nat} (h : HI m R p K) (e : ∀ k, k < 51 → c k = m k) : HI c R p K := by
  have eh : ∀ t, hs c t = hs m t := fun t => by unfold hs; rw [e 36 (by decide)]
  refine ⟨h.1.k e, by rw [e 36 (by decide)]; exact h.2.1, fun i hi => ?_⟩
  rw [eh]
  exact (h.2.2 i hi).mv (fun k hk => by rw [e k (by omega)]) (fun k _ hk => by rw [e k (by omega)])
theorem HI.more {m : Mem} {R : Nat → Int → Int} {p K K' : Nat} (h : HI m R p K) (hk : K ≤ K') : HI m R p K' := ⟨⟨h.1.1.more hk, h.1.2⟩, h.2.1, fun i hi => (h.2.2 i hi).more hk⟩
/-- an act that keeps the state before -/
theorem HI.push {m c : Mem} {R : Nat → Int → Int} {p K K' : Nat} {N' : Int → Int} (h : HI m R p K) (hc : ∀ k i, i ≠ 0 ∨ 22 ≤ k → c k i = pushC m k i) (hS : ST c 0 0 N' K') (hk : K ≤ K') : (p < 8 → HI c (ext R p N') (p + 1) K') ∧ (p = 8 → HI c (shf (ext R p N')) p K') := by
  have g36 := pushC_36 m
  have c36 : c 36 0 = pushC m 36 0 := hc 36 0 (.inr (by decide))
  have hx := h.1.2.2
  have hp := h.2.1
  have p8 := h.p8
  have cp : ∀ k, 22 ≤ k → k < 33 → c k 0 = m k 0 := fun k a b => by rw [hc k 0 (.inr a), pushC_k (.inr ⟨a, by omega⟩)]
  have cold : ∀ k i, k < 22 → i ≠ 0 → i ≠ 5 + (m 36 0 1).toNat → c k i = m k i := fun k i a b d => by rw [hc k i (.inl b), pushC_k (.inl ⟨a, d⟩)]
  have cnew : ∀ k, k < 22 → c k (5 + (m 36 0 1).toNat) = m k 0 := fun k a => by rw [hc k _ (.inl (by omega)), pushC_s a]
  have ehs : ∀ t, hs c t = 5 + (((m 36 0 1 + 1) % 8 - min (m 36 0 0 + 1) 8 + t) % 8).toNat := fun t => by unfold hs; rw [c36, g36.1, g36.2]
  have old : ∀ (i : Nat) (t : Int), i < p → hs c t = hs m (i : Int) → hs m (i : Int) ≠ 5 + (m 36 0 1).toNat → ST c 0 (hs c t) (R i) K' := fun i t hi e ne => by
    have hb := hs_b m (i : Int)
    rw [e]
    exact ((h.2.2 i hi).more hk).mv (fun k g => cold k _ g (by omega) ne) (fun k g1 g2 => cp k g1 g2)
  have new : ∀ t : Int, hs c t = 5 + (m 36 0 1).toNat → ST c 0 (hs c t) (R p) K' := fun t e => by
    rw [e]
    exact (h.1.1.more hk).mv (fun k g => cnew k g) (fun k g1 g2 => cp k g1 g2)
  refine ⟨fun hp8 => ⟨⟨by rw [ext_hi (by omega)]; exact hS, ?_, ?_⟩, ?_, fun i hi => ?_⟩, fun hp8 => ⟨⟨by show ST c 0 0 (ext R p N' (p + 1)) K'; rw [ext_hi (by omega)]; exact hS, ?_, ?_⟩, ?_, fun i hi => ?_⟩⟩
  · rw [c36, g36.1]; omega
  · rw [c36, g36.2]; omega
  · rw [c36, g36.1]; omega
  · by_cases z : i = p
    · subst z
      rw [ext_lo (Nat.le_refl _)]
      exact new _ (by rw [ehs]; omega)
    · rw [ext_lo (by omega)]
      exact old i _ (by omega) (by rw [ehs]; unfold hs; omega) (by unfold hs; omega)
  · rw [c36, g36.1]; omega
  · rw [c36, g36.2]; omega
  · rw [c36, g36.1]; omega
  · show ST c 0 (hs c (i : Int)) (ext R p N' (i + 1)) K'
    by_cases z : i + 1 = p
    · rw [ext_lo (by omega), z]
      exact new _ (by rw [ehs]; omega)
    · rw [ext_lo (by omega)]
      exact old (i + 1) _ (by omega) (by rw [ehs]; unfold hs; omega) (by unfold hs; omega)
/-- undo -/
theorem HI.undo {m : Mem} {R : Nat → Int → Int} {p K : Nat} (h : HI m R (p + 1) K) : HI (popC m) R p K := by
  have hn := h.1.2.1
  have hx := h.1.2.2
  have hp := h.2.1
  have ck : ∀ k i, 22 ≤ k → k ≠ 36 → popC m k i = m k i := fun k i a b => by unfold popC; rw [cpS_hi a, up3_k b, up3_k b]
  have ci : ∀ k i, k < 22 → i ≠ 0 → popC m k i = m k i := fun k i a b => by unfold popC; rw [cpS_i b, up3_k (by omega), up3_k (by omega)]
  have c0 : ∀ k, k < 22 → popC m k 0 = m k (5 + (popT m).toNat) := fun k a => by unfold popC; rw [cpS_lo a, up3_k (by omega), up3_k (by omega)]
  have c36 : popC m 36 0 0 = m 36 0 0 - 1 ∧ popC m 36 0 1 = popT m := by
    unfold popC
    rw [cpS_hi (by decide)]
    exact ⟨by rw [up3_at], by rw [up3_off (by decide), up3_at]⟩
  have eh : ∀ t, hs (popC m) t = hs m t := fun t => by
    unfold hs
    rw [c36.1, c36.2]
    unfold popT
    omega
  refine ⟨⟨?_, by rw [c36.1]; omega, by rw [c36.2]; unfold popT; omega⟩, by rw [c36.1]; omega, fun i hi => ?_⟩
  · have s := h.2.2 p (by omega)
    have es : hs m (p : Int) = 5 + (popT m).toNat := by unfold hs popT; omega
    rw [es] at s
    exact s.mv (fun k g => by rw [c0 k g]) (fun k g1 g2 => by rw [ck k 0 g1 (by omega)])
  · rw [eh]
    have hb := hs_b m (i : Int)
    exact (h.2.2 i (by omega)).mv (fun k g => by rw [ci k _ g (by omega)]) (fun k g1 g2 => by rw [ck k 0 g1 (by omega)])
