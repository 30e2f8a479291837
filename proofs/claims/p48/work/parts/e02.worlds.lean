/-! worlds side by side -/
theorem cs_hi {h : Hp} {m1 : Mem} {n k : Nat} (hk : 51 ≤ k) : (cs h m1 n).2.1 k = h.2.1 k := if_neg (by omega)
theorem cs_lo {h : Hp} {m1 : Mem} {n k : Nat} (hk : k < 51) : (cs h m1 n).2.1 k = m1 k := if_pos hk
theorem LA.cs {G : GG} {h : Hp} {m1 : Mem} {n' l c b n : Nat} {E : Nat → Nat × Nat} (hA : LA G h l c b n E) : LA G (cs h m1 n') l c b n E := by
  obtain ⟨a1, a2, a3, a4, a5, a6, a7, a8, a9⟩ := hA
  exact ⟨a1, a2, by rw [cs_hi (by decide)]; exact a3, a4, a5, a6, a7, a8, a9⟩
theorem WN.cs {G : GG} {h : Hp} {m1 : Mem} {n' a : Nat} {N : Int → Int} {B : Bok} {S T : Nat → Prop} (hW : WN G h a N B S T) : WN G (cs h m1 n') a N B S T := by
  obtain ⟨w1, w2, w3, w4, w5, w6, w7, w8, w9⟩ := hW
  exact ⟨w1, fun f hf => by rw [cs_hi (by decide)]; exact w2 f hf, w3, fun j hj => ⟨(w4 j hj).1, (w4 j hj).2.cs⟩, fun j hj q hq f hf => by rw [cs_hi (pk_ge j)]; exact w5 j hj q hq f hf, w6, w7, w8, w9⟩
theorem CL_cs {h : Hp} (hc : CL h) {m1 : Mem} {n : Nat} : CL (cs h m1 n) := ⟨hc.1, hc.2.1, hc.2.2⟩
def sat1 {X : Type} (f : Nat → X) (n : Nat) (x : X) : Nat → X := fun i => if i = n then x else f i
theorem st_e {X : Type} {f : Nat → X} {n i : Nat} {x : X} (h : i = n) : sat1 f n x i = x := if_pos h
theorem st_ne {X : Type} {f : Nat → X} {n i : Nat} {x : X} (h : ¬ i = n) : sat1 f n x i = f i := if_neg h
def cpV {X : Type} (V : Nat → X) (n : Nat) (x : X) : Nat → X := fun i => if i = n then x else if i = n + 1 then V n else V i
theorem cpV_n {X : Type} {V : Nat → X} {n i : Nat} {x : X} (h : i = n) : cpV V n x i = x := if_pos h
theorem cpV_s {X : Type} {V : Nat → X} {n i : Nat} {x : X} (h : i = n + 1) : cpV V n x i = V n := by unfold cpV; rw [if_neg (by omega), if_pos h]
theorem cpV_o {X : Type} {V : Nat → X} {n i : Nat} {x : X} (h : i < n) : cpV V n x i = V i := by unfold cpV; rw [if_neg (by omega), if_neg (by omega)]
abbrev Vw : Type := Nat × Bok × (Nat → Prop)
def WS (G : GG) (h : Hp) (V : Nat → Vw) (R : Nat → Int → Int) (n : Nat) (T O : Nat → Prop) : Prop := (∀ i, i < n → WN G h (V i).1 (R i) (V i).2.1 (V i).2.2 T) ∧ (∀ i j, i < n → j < n → i ≠ j → ∀ x, (V i).2.2 x → ¬ (V j).2.2 x) ∧ (∀ i, i < n → ∀ x, O x → ¬ (V i).2.2 x) ∧ ∀ x, O x → ¬ T x
section WSs
variable {G : GG} {h h1 : Hp} {V : Nat → Vw} {R : Nat → Int → Int} {n : Nat} {T O S' : Nat → Prop}
theorem WS.fr (hS : WS G h V R n T O) (hF : Fr S' h h1) (hs : ∀ x, S' x → (∀ i, i < n → ¬ (V i).2.2 x) ∧ ¬ T x) : WS G h1 V R n T O :=
  ⟨fun i hi => (hS.1 i hi).fr hF (fun x hx => ⟨(hs x hx).1 i hi, (hs x hx).2⟩), hS.2.1, hS.2.2.1, hS.2.2.2⟩
theorem WS.f0 (hS : WS G h V R n T O) (hF : Fr (fun _ => False) h h1) : WS G h1 V R n T O := hS.fr hF (fun _ z => z.elim)
theorem WS.fO (hS : WS G h V R n T O) (hF : Fr O h h1) : WS G h1 V R n T O := hS.fr hF (fun x z => ⟨fun i hi => hS.2.2.1 i hi x z, hS.2.2.2 x z⟩)
theorem WS.cs {m1 : Mem} {n' : Nat} (hS : WS G h V R n T O) : WS G (cs h m1 n') V R n T O := ⟨fun i hi => (hS.1 i hi).cs, hS.2⟩
/-- the last world changes, what it may write grows by new things -/
theorem WS.last {N' : Int → Int} {B' : Bok} {Sn : Nat → Prop} (hS : WS G h V R (n + 1) T O) (hF : Fr (V n).2.2 h h1) (hW : WN G h1 (V n).1 N' B' Sn T) (hn : ∀ x, Sn x → (V n).2.2 x ∨ fre h x) (hO : ∀ x, O x → ¬ fre h x) : WS G h1 (sat1 V n ((V n).1, B', Sn)) (sat1 R n N') (n + 1) T O := by
  have ex : ∀ i, i < n + 1 → ∀ x, (V i).2.2 x → ¬ fre h x := fun i hi x hx hf => by
    obtain ⟨k, k1, k2⟩ := ((hS.1 i hi).2.2.2.2.2.1.2.2.2.2 x hx).2
    exact hf k k1 k2
  refine ⟨fun i hi => ?_, fun i j hi hj ne x hx => ?_, fun i hi x hx => ?_, hS.2.2.2⟩
  · by_cases e : i = n
    · rw [st_e e, st_e e]
      exact hW
    · rw [st_ne e, st_ne e]
      exact (hS.1 i hi).fr hF (fun x hx => ⟨hS.2.1 n i (by omega) hi (fun z => e z.symm) x hx, ((hS.1 n (by omega)).2.2.2.2.2.1.2.2.2.2 x hx).1⟩)
  · by_cases e : i = n
    · have e2 : ¬ j = n := fun z => ne (e.trans z.symm)
      rw [st_e e] at hx
      rw [st_ne e2]
      intro hy
      rcases hn x hx with z | z
      · exact hS.2.1 n j (by omega) hj (fun q => e2 q.symm) x z hy
      · exact ex j hj x hy z
    · rw [st_ne e] at hx
      by_cases e2 : j = n
      · rw [st_e e2]
        intro hy
        rcases hn x hy with z | z
        · exact hS.2.1 i n hi (by omega) e x hx z
        · exact ex i hi x hx z
      · rw [st_ne e2]
        exact hS.2.1 i j hi hj ne x hx
  · by_cases e : i = n
    · rw [st_e e]
      intro hy
      rcases hn x hy with z | z
      · exact hS.2.2.1 n (by omega) x hx z
      · exact hO x hx z
    · rw [st_ne e]
      exact hS.2.2.1 i hi x hx
/-- a copy of the last world put before it -/
theorem WS.copy {w : Nat} {B2 : Bok} {S2 : Nat → Prop} (hS : WS G h V R (n + 1) T O) (hF : Fr (fun _ => False) h h1) (hW : WN G h1 w (R n) B2 S2 T) (hn : ∀ x, S2 x → fre h x) (hO : ∀ x, O x → ¬ fre h x) : WS G h1 (cpV V n (w, B2, S2)) (ext R n (R n)) (n + 2) T O := by
  have h1S := hS.f0 hF
  have ex : ∀ i, i < n + 1 → ∀ x, (V i).2.2 x → ¬ fre h x := fun i hi x hx hf => by
    obtain ⟨k, k1, k2⟩ := ((hS.1 i hi).2.2.2.2.2.1.2.2.2.2 x hx).2
    exact hf k k1 k2
  have cases : ∀ i, i < n + 2 → i = n ∨ i = n + 1 ∨ i < n := fun i hi => by omega
  refine ⟨fun i hi => ?_, fun i j hi hj ne x hx => ?_, fun i hi x hx => ?_, hS.2.2.2⟩
  · rcases cases i hi with e | e | e
    · subst e
      rw [cpV_n rfl, ext_lo (Nat.le_refl _)]
      exact hW
    · subst e
      rw [cpV_s rfl, ext_hi (by omega)]
      exact h1S.1 n (by omega)
    · rw [cpV_o (by omega), ext_lo (by omega)]
      exact h1S.1 i (by omega)
  · rcases cases i hi with e | e | e
    · rw [cpV_n e] at hx
      rcases cases j hj with f | f | f
      · omega
      · rw [cpV_s f]
        exact fun hy => ex n (by omega) x hy (hn x hx)
      · rw [cpV_o (by omega)]
        exact fun hy => ex j (by omega) x hy (hn x hx)
    · rw [cpV_s e] at hx
      rcases cases j hj with f | f | f
      · rw [cpV_n f]
        exact fun hy => ex n (by omega) x hx (hn x hy)
      · omega
      · rw [cpV_o (by omega)]
        exact hS.2.1 n j (by omega) (by omega) (by omega) x hx
    · rw [cpV_o (by omega)] at hx
      rcases cases j hj with f | f | f
      · rw [cpV_n f]
        exact fun hy => ex i (by omega) x hx (hn x hy)
      · rw [cpV_s f]
        exact hS.2.1 i n (by omega) (by omega) (by omega) x hx
      · rw [cpV_o (by omega)]
        exact hS.2.1 i j (by omega) (by omega) ne x hx
  · rcases cases i hi with e | e | e
    · rw [cpV_n e]
      exact fun hy => hO x hx (hn x hy)
    · rw [cpV_s e]
      exact hS.2.2.1 n (by omega) x hx
    · rw [cpV_o (by omega)]
      exact hS.2.2.1 i (by omega) x hx
theorem WS.less (hS : WS G h V R (n + 1) T O) : WS G h V R n T O := ⟨fun i hi => hS.1 i (by omega), fun i j hi hj => hS.2.1 i j (by omega) (by omega), fun i hi => hS.2.2.1 i (by omega), hS.2.2.2⟩
theorem WS.shift (hS : WS G h V R (n + 1) T O) : WS G h (shf V) (shf R) n T O := ⟨fun i hi => hS.1 (i + 1) (by omega), fun i j hi hj ne => hS.2.1 (i + 1) (j + 1) (by omega) (by omega) (by omega), fun i hi => hS.2.2.1 (i + 1) (by omega), hS.2.2.2⟩
theorem WS.cg {V' : Nat → Vw} {R' : Nat → Int → Int} (hS : WS G h V R n T O) (e : ∀ i, i < n → V' i = V i ∧ R' i = R i) : WS G h V' R' n T O :=
  ⟨fun i hi => by rw [(e i hi).1, (e i hi).2]; exact hS.1 i hi, fun i j hi hj ne x => by rw [(e i hi).1, (e j hj).1]; exact hS.2.1 i j hi hj ne x, fun i hi x => by rw [(e i hi).1]; exact hS.2.2.1 i hi x, hS.2.2.2⟩
theorem WS.o {O' : Nat → Prop} (hS : WS G h V R n T O) (h1 : ∀ i, i < n → ∀ x, O' x → ¬ (V i).2.2 x) (h2 : ∀ x, O' x → ¬ T x) : WS G h V R n T O' := ⟨hS.1, hS.2.1, h1, h2⟩
end WSs
/-- what lies between the worlds: the list, its row, the law's row of one world -/
def OO (pl c b aw : Nat) (x : Nat) : Prop := x = pl ∨ 0 < c ∧ x = b ∨ x = aw
def UT (K : Nat) (N : Int → Int) : Prop := UC N ∧ N 2 ≤ 60 * (K : Int)
theorem UT.more {K K' : Nat} {N : Int → Int} (h : UT K N) (hk : K ≤ K') : UT K' N := ⟨h.1, by have := h.2; omega⟩
theorem UC.cg {N N' : Int → Int} (h : UC N) (e3 : N' 3 = N 3) (e5 : N' 5 = N 5) (h5 : N 5 ≤ 12) (e : ∀ j, 86 ≤ j → j < 158 → (j - 86) % 6 < 2 → N' j = N j) : UC N' := by
  have eb : ∀ a b, betN N' a b = betN N a b := fun a b => by
    unfold betN
    rw [e5]
    by_cases c : 0 ≤ N 5
    · exact betF_congr a b _ 0 (fun c' c0 c1 => ⟨e _ (by omega) (by omega) (by omega), e _ (by omega) (by omega) (by omega)⟩)
    · rw [show (N 5).toNat = 0 by omega]
      rfl
  intro c c0 c1
  rw [e5] at c1
  rw [e3, eb, eb, e _ (by omega) (by omega) (by omega), e _ (by omega) (by omega) (by omega)]
  exact h c c0 c1
theorem UT.up {K : Nat} {N : Int → Int} {i z : Int} (h : UT K N) (h5 : N 5 ≤ 12) (hi : ¬ (i = 2 ∨ i = 3 ∨ i = 5 ∨ 86 ≤ i ∧ i < 158 ∧ (i - 86) % 6 < 2)) : UT K (upN N i z) := ⟨h.1.cg (upN_off (by omega)) (upN_off (by omega)) h5 (fun j a b c => upN_off (by omega)), by rw [upN_off (by omega)]; exact h.2⟩
/-- THE INVARIANT of the law's loop -/
def AI (G : GG) (h : Hp) (V : Nat → Vw) (R : Nat → Int → Int) (p : Nat) (T : Nat → Prop) (pl c b aw K : Nat) : Prop :=
  CL h ∧ HI h.2.1 R p K ∧ (∀ i, i ≤ p → UT K (R i)) ∧ WS G h V R (p + 1) T (OO pl c b aw) ∧ LA G h pl c b p (fun q => (51, (V q).1)) ∧ ((ak 8 1, aw) ∈ h.1 ∧ h.2.2.1 (ak 8 1) aw 0 = some (51, (V p).1)) ∧ (∀ x, T x → ¬ fre h x) ∧ ∃ n, h.2.2.2 = some n
theorem AI.ex {G : GG} {h : Hp} {V : Nat → Vw} {R : Nat → Int → Int} {p : Nat} {T : Nat → Prop} {pl c b aw K : Nat} (I : AI G h V R p T pl c b aw K) : ∀ x, OO pl c b aw x → ¬ fre h x := fun x hx hf => by
  rcases hx with e | ⟨e1, e⟩ | e
  · exact hf 56 (by decide) (by rw [e]; exact I.2.2.2.2.1.1)
  · exact hf (ak 7 c) ak_ge (by rw [e]; exact I.2.2.2.2.1.2.2.2.2.2.1 e1)
  · exact hf (ak 8 1) ak_ge (by rw [e]; exact I.2.2.2.2.2.1.1)
theorem LNs_of {m : Mem} {N : Int → Int} {K : Nat} (h : SH m N K) : LNs N := by
  have e := h.1.2.2.2.1.1.2.2.2.2.2.2
  have b := h.1.2.1.2.2.2.2.1.1
  exact ⟨by rw [e]; exact b, fun l a0 a1 => h.gn.ln a0 a1⟩
