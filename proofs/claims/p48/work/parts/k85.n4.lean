/-! the constructors -/
theorem ffX2_18 : FLw RX2 18 6 7 (.array .int) true := ⟨_, rfl, by decide, in_ctx 77 (by decide +kernel) rfl, by decide +kernel, by decide +kernel, by decide +kernel⟩
theorem ffX2_22 : FLw RX2 22 6 8 (.array .int) true := ⟨_, rfl, by decide, in_ctx 80 (by decide +kernel) rfl, by decide +kernel, by decide +kernel, by decide +kernel⟩
theorem ffX2_25 : FLw RX2 25 6 9 (.array .int) true := ⟨_, rfl, by decide, in_ctx 82 (by decide +kernel) rfl, by decide +kernel, by decide +kernel, by decide +kernel⟩
theorem ffX2_28 : FLw RX2 28 6 10 (.array .int) true := ⟨_, rfl, by decide, in_ctx 84 (by decide +kernel) rfl, by decide +kernel, by decide +kernel, by decide +kernel⟩
theorem ffX2_31 : FLw RX2 31 6 11 (.array .int) true := ⟨_, rfl, by decide, in_ctx 85 (by decide +kernel) rfl, by decide +kernel, by decide +kernel, by decide +kernel⟩
theorem ffX2_34 : FLw RX2 34 6 12 (.array .int) true := ⟨_, rfl, by decide, in_ctx 86 (by decide +kernel) rfl, by decide +kernel, by decide +kernel, by decide +kernel⟩
theorem ffX2_37 : FLw RX2 37 6 13 (.array .int) true := ⟨_, rfl, by decide, in_ctx 89 (by decide +kernel) rfl, by decide +kernel, by decide +kernel, by decide +kernel⟩
theorem ffX2_40 : FLw RX2 40 6 14 (.array .int) true := ⟨_, rfl, by decide, in_ctx 92 (by decide +kernel) rfl, by decide +kernel, by decide +kernel, by decide +kernel⟩
theorem ffX2_43 : FLw RX2 43 6 15 (.array .int) true := ⟨_, rfl, by decide, in_ctx 95 (by decide +kernel) rfl, by decide +kernel, by decide +kernel, by decide +kernel⟩
theorem ffX2_46 : FLw RX2 46 6 16 (.array .int) true := ⟨_, rfl, by decide, in_ctx 98 (by decide +kernel) rfl, by decide +kernel, by decide +kernel, by decide +kernel⟩
theorem ffX5_9 : FLw RX5 9 9 1 (.array .int) true := ⟨_, rfl, by decide, in_ctx 158 (by decide +kernel) rfl, by decide +kernel, by decide +kernel, by decide +kernel⟩
theorem ffX5_15 : FLw RX5 15 9 2 (.array .int) true := ⟨_, rfl, by decide, in_ctx 161 (by decide +kernel) rfl, by decide +kernel, by decide +kernel, by decide +kernel⟩
theorem ffX5_18 : FLw RX5 18 9 3 (.array .int) true := ⟨_, rfl, by decide, in_ctx 164 (by decide +kernel) rfl, by decide +kernel, by decide +kernel, by decide +kernel⟩
theorem ffX5_21 : FLw RX5 21 9 4 (.array .int) true := ⟨_, rfl, by decide, in_ctx 167 (by decide +kernel) rfl, by decide +kernel, by decide +kernel, by decide +kernel⟩
theorem ffX1_9 : FLw RX1 9 5 1 (.array .int) true := ⟨_, rfl, by decide, in_ctx 191 (by decide +kernel) rfl, by decide +kernel, by decide +kernel, by decide +kernel⟩
theorem ffX1_15 : FLw RX1 15 5 2 (.array .int) true := ⟨_, rfl, by decide, in_ctx 194 (by decide +kernel) rfl, by decide +kernel, by decide +kernel, by decide +kernel⟩
theorem ffX1_18 : FLw RX1 18 5 3 (.array .int) true := ⟨_, rfl, by decide, in_ctx 197 (by decide +kernel) rfl, by decide +kernel, by decide +kernel, by decide +kernel⟩
theorem ffX1_21 : FLw RX1 21 5 4 (.array .int) true := ⟨_, rfl, by decide, in_ctx 200 (by decide +kernel) rfl, by decide +kernel, by decide +kernel, by decide +kernel⟩
theorem ffX1_24 : FLw RX1 24 5 5 (.array .int) true := ⟨_, rfl, by decide, in_ctx 203 (by decide +kernel) rfl, by decide +kernel, by decide +kernel, by decide +kernel⟩
theorem ffX1_27 : FLw RX1 27 5 6 (.array .int) true := ⟨_, rfl, by decide, in_ctx 206 (by decide +kernel) rfl, by decide +kernel, by decide +kernel, by decide +kernel⟩
theorem ffX1_30 : FLw RX1 30 5 7 (.array .int) true := ⟨_, rfl, by decide, in_ctx 209 (by decide +kernel) rfl, by decide +kernel, by decide +kernel, by decide +kernel⟩
theorem ffX4_9 : FLw RX4 9 8 4 (.array .int) true := ⟨_, rfl, by decide, in_ctx 241 (by decide +kernel) rfl, by decide +kernel, by decide +kernel, by decide +kernel⟩
theorem ffX4_15 : FLw RX4 15 8 5 (.array .int) true := ⟨_, rfl, by decide, in_ctx 244 (by decide +kernel) rfl, by decide +kernel, by decide +kernel, by decide +kernel⟩
theorem ffX4_18 : FLw RX4 18 8 6 (.array .int) true := ⟨_, rfl, by decide, in_ctx 247 (by decide +kernel) rfl, by decide +kernel, by decide +kernel, by decide +kernel⟩
theorem ffX4_21 : FLw RX4 21 8 7 (.array .int) true := ⟨_, rfl, by decide, in_ctx 249 (by decide +kernel) rfl, by decide +kernel, by decide +kernel, by decide +kernel⟩
theorem ffX4_24 : FLw RX4 24 8 8 (.array .int) true := ⟨_, rfl, by decide, in_ctx 252 (by decide +kernel) rfl, by decide +kernel, by decide +kernel, by decide +kernel⟩
theorem ffX4_27 : FLw RX4 27 8 9 (.array .int) true := ⟨_, rfl, by decide, in_ctx 254 (by decide +kernel) rfl, by decide +kernel, by decide +kernel, by decide +kernel⟩
theorem ffX4_30 : FLw RX4 30 8 10 (.array .int) true := ⟨_, rfl, by decide, in_ctx 257 (by decide +kernel) rfl, by decide +kernel, by decide +kernel, by decide +kernel⟩
theorem ffX4_33 : FLw RX4 33 8 11 (.array .int) true := ⟨_, rfl, by decide, in_ctx 259 (by decide +kernel) rfl, by decide +kernel, by decide +kernel, by decide +kernel⟩
theorem ffX4_39 : FLw RX4 39 8 12 (.object "PackLoans$Trips") true := ⟨_, rfl, by decide, in_ctx 263 (by decide +kernel) rfl, by decide +kernel, by decide +kernel, by decide +kernel⟩
theorem ffX4_46 : FLw RX4 46 8 13 (.object "PackLoans$Loans") true := ⟨_, rfl, by decide, in_ctx 267 (by decide +kernel) rfl, by decide +kernel, by decide +kernel, by decide +kernel⟩
theorem ffX6_18 : FLw RX6 18 10 0 (.object "PackLoans$Plan") true := ⟨_, rfl, by decide, in_ctx 299 (by decide +kernel) rfl, by decide +kernel, by decide +kernel, by decide +kernel⟩
theorem ffX6_12 : FLw RX6 12 10 1 (.object "PackLoans$State") true := ⟨_, rfl, by decide, in_ctx 302 (by decide +kernel) rfl, by decide +kernel, by decide +kernel, by decide +kernel⟩
theorem ffX3_17 : FLw RX3 17 7 0 (.object "PackLoans$World") true := ⟨_, rfl, by decide, in_ctx 320 (by decide +kernel) rfl, by decide +kernel, by decide +kernel, by decide +kernel⟩
theorem ffX3_23 : FLw RX3 23 7 4 (.array .byte) true := ⟨_, rfl, by decide, in_ctx 328 (by decide +kernel) rfl, by decide +kernel, by decide +kernel, by decide +kernel⟩
theorem ffX0_11 : FLw RX0 11 4 2 (.array (.object "PackLoans$State")) true := ⟨_, rfl, by decide, in_ctx 362 (by decide +kernel) rfl, by decide +kernel, by decide +kernel, by decide +kernel⟩
theorem ffX7_15 : FLw RX7 15 11 0 (.object "PackLoans$World") true := ⟨_, rfl, by decide, in_ctx 371 (by decide +kernel) rfl, by decide +kernel, by decide +kernel, by decide +kernel⟩
theorem ffX7_25 : FLw RX7 25 11 1 (.object "PackLoans$World") true := ⟨_, rfl, by decide, in_ctx 372 (by decide +kernel) rfl, by decide +kernel, by decide +kernel, by decide +kernel⟩
theorem ffX7_31 : FLw RX7 31 11 2 (.object "PackLoans$Reader") true := ⟨_, rfl, by decide, in_ctx 373 (by decide +kernel) rfl, by decide +kernel, by decide +kernel, by decide +kernel⟩
theorem ffX7_38 : FLw RX7 38 11 3 (.object "PackLoans$History") true := ⟨_, rfl, by decide, in_ctx 374 (by decide +kernel) rfl, by decide +kernel, by decide +kernel, by decide +kernel⟩
theorem ffX7_42 : FLw RX7 42 11 4 (.array (.object "PackLoans$World")) true := ⟨_, rfl, by decide, in_ctx 375 (by decide +kernel) rfl, by decide +kernel, by decide +kernel, by decide +kernel⟩
theorem ffX7_46 : FLw RX7 46 11 5 (.array .boolean) true := ⟨_, rfl, by decide, in_ctx 376 (by decide +kernel) rfl, by decide +kernel, by decide +kernel, by decide +kernel⟩
theorem ffX11_7 : FLw RX11 7 15 0 .int true := ⟨_, rfl, by decide, in_ctx 953 (by decide +kernel) rfl, by decide +kernel, by decide +kernel, by decide +kernel⟩
theorem ffX11_16 : FLw RX11 16 15 1 .int true := ⟨_, rfl, by decide, in_ctx 956 (by decide +kernel) rfl, by decide +kernel, by decide +kernel, by decide +kernel⟩
theorem ffX8_7 : FLw RX8 7 12 0 .int true := ⟨_, rfl, by decide, in_ctx 997 (by decide +kernel) rfl, by decide +kernel, by decide +kernel, by decide +kernel⟩
theorem ffX8_13 : FLw RX8 13 12 1 .int true := ⟨_, rfl, by decide, in_ctx 1000 (by decide +kernel) rfl, by decide +kernel, by decide +kernel, by decide +kernel⟩
theorem ffX9_7 : FLw RX9 7 13 0 .int true := ⟨_, rfl, by decide, in_ctx 1052 (by decide +kernel) rfl, by decide +kernel, by decide +kernel, by decide +kernel⟩
theorem ffX9_13 : FLw RX9 13 13 1 .int true := ⟨_, rfl, by decide, in_ctx 1055 (by decide +kernel) rfl, by decide +kernel, by decide +kernel, by decide +kernel⟩
theorem ffX9_16 : FLw RX9 16 13 2 .int true := ⟨_, rfl, by decide, in_ctx 1058 (by decide +kernel) rfl, by decide +kernel, by decide +kernel, by decide +kernel⟩
theorem ffX9_19 : FLw RX9 19 13 3 .int true := ⟨_, rfl, by decide, in_ctx 1061 (by decide +kernel) rfl, by decide +kernel, by decide +kernel, by decide +kernel⟩
theorem ffX9_22 : FLw RX9 22 13 4 .int true := ⟨_, rfl, by decide, in_ctx 1063 (by decide +kernel) rfl, by decide +kernel, by decide +kernel, by decide +kernel⟩
theorem ffJx35411_1 : FLw RJx35411 1 2 3 (.object "java/util/ArrayList") true := ⟨_, rfl, by decide, in_ctx 1102 (by decide +kernel) rfl, by decide +kernel, by decide +kernel, by decide +kernel⟩
theorem ffX10_7 : FLw RX10 7 14 0 .int true := ⟨_, rfl, by decide, in_ctx 1373 (by decide +kernel) rfl, by decide +kernel, by decide +kernel, by decide +kernel⟩
theorem ffX10_13 : FLw RX10 13 14 1 .int true := ⟨_, rfl, by decide, in_ctx 1376 (by decide +kernel) rfl, by decide +kernel, by decide +kernel, by decide +kernel⟩
theorem ffJ0_9 : FLw RJ0 9 0 0 (.array .byte) true := ⟨_, rfl, by decide, in_ctx 1737 (by decide +kernel) rfl, by decide +kernel, by decide +kernel, by decide +kernel⟩
theorem ffJ0_15 : FLw RJ0 15 0 1 .byte true := ⟨_, rfl, by decide, in_ctx 1738 (by decide +kernel) rfl, by decide +kernel, by decide +kernel, by decide +kernel⟩
theorem ob_in : Cond.instanceMethod Lib.objectInit ∈ lw_ctx := ob_i
theorem ob_co : Cond.code Lib.objectInit ⟨#[0xb1]⟩ 1 none ∈ lw_ctx := ob_c
theorem ar_I : Cond.arrayClass (newarray.typeOf .int) ∈ lw_ctx := in_ctx 136 (by decide +kernel) rfl
theorem ar_B : Cond.arrayClass (newarray.typeOf .byte) ∈ lw_ctx := in_ctx 349 (by decide +kernel) rfl
theorem ar_Z : Cond.arrayClass (newarray.typeOf .boolean) ∈ lw_ctx := in_ctx 390 (by decide +kernel) rfl
theorem ar_J : Cond.arrayClass (newarray.typeOf .long) ∈ lw_ctx := in_ctx 1297 (by decide +kernel) rfl
/-- what is not made yet is zero and refers to nothing -/
def FRe (D : List (Nat × Nat)) (m : Mem) (S : List (Nat × Nat × Nat)) : Prop := (∀ k i j, (k, i, j) ∈ S → (k, i) ∈ D) ∧ ∀ k i, (k, i) ∉ D → ∀ j, m k i j = 0
theorem FRe.d {D : List (Nat × Nat)} {m : Mem} {S : List (Nat × Nat × Nat)} (h : FRe D m S) (q : Nat × Nat) : FRe (D ++ [q]) m S :=
  ⟨fun k i j a => List.mem_append.mpr (.inl (h.1 k i j a)), fun k i a => h.2 k i (fun z => a (List.mem_append.mpr (.inl z)))⟩
theorem FRe.s {D : List (Nat × Nat)} {m : Mem} {S : List (Nat × Nat × Nat)} {k i j : Nat} (h : FRe D m S) (hm : (k, i) ∈ D) : FRe D m (S ++ [(k, i, j)]) :=
  ⟨fun k' i' j' a => by
    rcases List.mem_append.mp a with a | a
    · exact h.1 k' i' j' a
    · have e := List.mem_singleton.mp a
      have e1 : k' = k := congrArg (·.1) e
      have e2 : i' = i := congrArg (·.2.1) e
      rw [e1, e2]; exact hm, h.2⟩
theorem FRe.m {D : List (Nat × Nat)} {m : Mem} {S : List (Nat × Nat × Nat)} {k i : Nat} {j z : Int} (h : FRe D m S) (hm : (k, i) ∈ D) : FRe D (up3 m k i j z) S :=
  ⟨h.1, fun k' i' a j' => by
    by_cases g : k' = k ∧ i' = i
    · rw [g.1, g.2] at a; exact absurd hm a
    · rw [up3_ne g]; exact h.2 k' i' a j'⟩
def tyq (q : vw_C) (j : Nat) : FieldType := (parseFieldDescriptor (q.2.1 j).2.2.1).getD .int
section NR
variable {G : GG} {M : Mth} {R : Room} {pc : Nat} {lv : List (Nat × Value)} {st : List Value} {h' : Hp} {c0 s0 : Nat} {res : Res} {k i n : Nat} {D : List (Nat × Nat)} {m : Mem} {S : List (Nat × Nat × Nat)}
theorem rS_new (hf : FRe D m S) (hnew : (k, i) ∉ D) (j : Nat) : rS S k i j = none := by
  unfold rS
  rw [if_neg (fun q => hnew (hf.1 k i j q))]
theorem xfs_new (hf : FRe D m S) (hnew : (k, i) ∉ D) (kds : List Nat) : xfs G (hN D m S n) k i kds = (List.range kds.length).map fun j => dv (kds.getD j 0) := by
  unfold xfs
  refine List.map_congr_left (fun j _ => ?_)
  have z : m k i (j : Int) = 0 := hf.2 k i hnew j
  have r := rS_new hf hnew j
  generalize kds.getD j 0 = kd
  match kd with
  | 0 => show Value.int (iI (m k i j)) = .int 0; rw [z]; rfl
  | 1 => show Value.long (lI (m k i j)) = .long 0; rw [z]; rfl
  | x + 2 => show va_rf ((rS S k i j).map fun q => gad G q.1 q.2) = .null; rw [r]; rfl
theorem n_new {idx ci : Nat} {kds : List Nat} {q : vw_C} (d : decode M.2.1 pc = .ok (.new idx, 3)) (hlk : Cond.classLink M.1.cls idx q.1 ∈ lw_ctx) (hinst : Cond.instantiable q.1 q.2.2 ∈ lw_ctx) (hini : Cond.initialized q.1 ∈ lw_ctx) (hsh : shp k = .inr (ci, kds)) (hc : vwCl[ci]? = some q) (hok : ∀ j, j < q.2.2 → parseFieldDescriptor (q.2.1 j).2.2.1 = some (tyq q j) ∧ defaultValue (tyq q j) = vp_V ((List.range kds.length).map fun j => dv (kds.getD j 0)) j) (hn : gad G k i = n) (hf : FRe D m S) (hnew : (k, i) ∉ D) (hcells : c0 + 1 ≤ R.cells) (hslots : s0 + q.2.2 ≤ R.slots)
    (kk : X G M R (pc + 3) lv (rf G k i :: st) (hN (D ++ [(k, i)]) m S (n + 1)) (c0 + 1) (s0 + q.2.2) res h') : X G M R pc lv st (hN D m S n) c0 s0 res h' := by
  refine x_new (k := k) (i := i) (kds := kds) (h := hN D m S n) d hlk hinst hini hsh hc (congrArg some hn.symm) (tyq q) (fun j hj => (hok j hj).1) (fun j hj => ?_) hcells hslots ?_
  · rw [xfs_new hf hnew]; exact (hok j hj).2
  · rw [hn]; exact kk
theorem n_arrI {N : Nat} {z : Int} (d : decode M.2.1 pc = .ok (.newarray .int, 2)) (hsh : shp k = .inl (0, N)) (hn : gad G k i = n) (hf : FRe D m S) (hnew : (k, i) ∉ D) (hz : z = N) (hN' : N * 4 ≤ 536870912) (hcells : c0 + 1 ≤ R.cells) (hslots : s0 + N ≤ R.slots)
    (kk : X G M R (pc + 2) lv (rf G k i :: st) (hN (D ++ [(k, i)]) m S (n + 1)) (c0 + 1) (s0 + N) res h') : X G M R pc lv (.int (iI z) :: st) (hN D m S n) c0 s0 res h' := by
  refine x_newarr (k := k) (i := i) (h := hN D m S n) (tag := 0) d ar_I hsh rfl (fun U cA q => q) (congrArg some hn.symm) hz (by omega) hN' (z_int (fun j => hf.2 k i hnew j)) hcells hslots ?_
  rw [hn]; exact kk
theorem n_arrB {N : Nat} {z : Int} (d : decode M.2.1 pc = .ok (.newarray .byte, 2)) (hsh : shp k = .inl (1, N)) (hn : gad G k i = n) (hf : FRe D m S) (hnew : (k, i) ∉ D) (hz : z = N) (hN' : N * 4 ≤ 536870912) (hcells : c0 + 1 ≤ R.cells) (hslots : s0 + N ≤ R.slots)
    (kk : X G M R (pc + 2) lv (rf G k i :: st) (hN (D ++ [(k, i)]) m S (n + 1)) (c0 + 1) (s0 + N) res h') : X G M R pc lv (.int (iI z) :: st) (hN D m S n) c0 s0 res h' := by
  refine x_newarr (k := k) (i := i) (h := hN D m S n) (tag := 1) d ar_B hsh rfl (fun U cA q => q) (congrArg some hn.symm) hz (by omega) (by show N * 1 ≤ _; omega) (z_byte (fun j => hf.2 k i hnew j)) hcells hslots ?_
  rw [hn]; exact kk
theorem n_arrZ {N : Nat} {z : Int} (d : decode M.2.1 pc = .ok (.newarray .boolean, 2)) (hsh : shp k = .inl (2, N)) (hn : gad G k i = n) (hf : FRe D m S) (hnew : (k, i) ∉ D) (hz : z = N) (hN' : N * 4 ≤ 536870912) (hcells : c0 + 1 ≤ R.cells) (hslots : s0 + N ≤ R.slots)
    (kk : X G M R (pc + 2) lv (rf G k i :: st) (hN (D ++ [(k, i)]) m S (n + 1)) (c0 + 1) (s0 + N) res h') : X G M R pc lv (.int (iI z) :: st) (hN D m S n) c0 s0 res h' := by
  refine x_newarr (k := k) (i := i) (h := hN D m S n) (tag := 2) d ar_Z hsh rfl (fun U cA q => q) (congrArg some hn.symm) hz (by omega) (by show N * 1 ≤ _; omega) (z_bool (fun j => hf.2 k i hnew j)) hcells hslots ?_
  rw [hn]; exact kk
theorem n_arrJ {N : Nat} {z : Int} (d : decode M.2.1 pc = .ok (.newarray .long, 2)) (hsh : shp k = .inl (3, N)) (hn : gad G k i = n) (hf : FRe D m S) (hnew : (k, i) ∉ D) (hz : z = N) (hN' : N * 8 ≤ 536870912) (hcells : c0 + 1 ≤ R.cells) (hslots : s0 + N ≤ R.slots)
    (kk : X G M R (pc + 2) lv (rf G k i :: st) (hN (D ++ [(k, i)]) m S (n + 1)) (c0 + 1) (s0 + N) res h') : X G M R pc lv (.int (iI z) :: st) (hN D m S n) c0 s0 res h' := by
  refine x_newarr (k := k) (i := i) (h := hN D m S n) (tag := 3) d ar_J hsh rfl (fun U cA q => q) (congrArg some hn.symm) hz (by omega) hN' (z_long (fun j => hf.2 k i hnew j)) hcells hslots ?_
  rw [hn]; exact kk
end NR
theorem mem_last {α : Type} {D : List α} {q : α} : q ∈ D ++ [q] := List.mem_append.mpr (.inr (List.mem_singleton.mpr rfl))
theorem mem_more {α : Type} {D : List α} {q x : α} (h : q ∈ D) : q ∈ D ++ [x] := List.mem_append.mpr (.inl h)
theorem nin_more {α : Type} {D : List α} {q x : α} (h : q ∉ D) (hx : q ≠ x) : q ∉ D ++ [x] := fun z => by
  rcases List.mem_append.mp z with z | z
  · exact h z
  · exact hx (List.mem_singleton.mp z)
theorem ct_Loans {G : GG} {D : List (Nat × Nat)} {m : Mem} {S : List (Nat × Nat × Nat)} {n s : Nat} (hv : s < 13) (hs : (2, s) ∈ D) (hf : FRe D m S) (hn : ∀ q ∈ [(15, s), (16, s), (17, s), (18, s), (19, s), (20, s), (21, s)], q ∉ D) (ha : ∀ (t : Nat) (q : Nat × Nat), [(15, s), (16, s), (17, s), (18, s), (19, s), (20, s), (21, s)][t]? = some q → gad G q.1 q.2 = n + t) : Ct G MX1_init { frames := 2, cells := 7, slots := 112, locals := 100 } [rf G 2 s] (hN D m S n) (.inl none) (hN (D ++ [(15, s)] ++ [(16, s)] ++ [(17, s)] ++ [(18, s)] ++ [(19, s)] ++ [(20, s)] ++ [(21, s)]) m (S ++ [(2, s, 1)] ++ [(2, s, 2)] ++ [(2, s, 3)] ++ [(2, s, 4)] ++ [(2, s, 5)] ++ [(2, s, 6)] ++ [(2, s, 7)]) (n + 7)) := by
  refine x_entry (by decide +kernel) mwX1_init rfl (Nat.le_of_ble_eq_true rfl) ?_
  show X G MX1_init { frames := 2, cells := 7, slots := 112, locals := 100 } 0 [(0, rf G 2 s)] [] (hN D m S n) 0 0 (.inl none) _
  refine x_aload_n (pc := 0) dX1_init_0 0 rfl ?_
  refine x_obj (pc := 1) dX1_init_1 (in_ctx 186 (by decide +kernel) rfl) ob_in ob_co (by decide) ⟨rfl, rfl⟩ ?_
  refine x_aload_n (pc := 4) dX1_init_4 0 rfl ?_
  refine x_bipush (pc := 5) (z := 16) dX1_init_5 (by decide +kernel) ?_
  refine n_arrI (pc := 7) (k := 15) (i := s) dX1_init_7 rfl (ha 0 (15, s) rfl) hf (hn (15, s) (by simp)) rfl (by decide) (by decide) (by decide) ?_
  refine x_putR (pc := 9) (j := 1) dX1_init_9 ffX1_9 rfl (fun q z => by cases z; rfl) rfl rfl (mem_more hs) rfl rfl rfl ?_
  refine x_aload_n (pc := 12) dX1_init_12 0 rfl ?_
  refine x_bipush (pc := 13) (z := 16) dX1_init_13 (by decide +kernel) ?_
  refine n_arrI (pc := 15) (k := 16) (i := s) dX1_init_15 rfl (ha 1 (16, s) rfl) ((hf.d _).s (mem_more hs)) (nin_more (hn (16, s) (by simp)) (by simp)) rfl (by decide) (by decide) (by decide) ?_
  refine x_putR (pc := 17) (j := 2) dX1_init_17 ffX1_15 rfl (fun q z => by cases z; rfl) rfl rfl (mem_more (mem_more hs)) rfl rfl rfl ?_
  refine x_aload_n (pc := 20) dX1_init_20 0 rfl ?_
  refine x_bipush (pc := 21) (z := 16) dX1_init_21 (by decide +kernel) ?_
  refine n_arrI (pc := 23) (k := 17) (i := s) dX1_init_23 rfl (ha 2 (17, s) rfl) ((((hf.d _).s (mem_more hs)).d _).s (mem_more (mem_more hs))) (nin_more (nin_more (hn (17, s) (by simp)) (by simp)) (by simp)) rfl (by decide) (by decide) (by decide) ?_
  refine x_putR (pc := 25) (j := 3) dX1_init_25 ffX1_18 rfl (fun q z => by cases z; rfl) rfl rfl (mem_more (mem_more (mem_more hs))) rfl rfl rfl ?_
  refine x_aload_n (pc := 28) dX1_init_28 0 rfl ?_
  refine x_bipush (pc := 29) (z := 16) dX1_init_29 (by decide +kernel) ?_
  refine n_arrI (pc := 31) (k := 18) (i := s) dX1_init_31 rfl (ha 3 (18, s) rfl) ((((((hf.d _).s (mem_more hs)).d _).s (mem_more (mem_more hs))).d _).s (mem_more (mem_more (mem_more hs)))) (nin_more (nin_more (nin_more (hn (18, s) (by simp)) (by simp)) (by simp)) (by simp)) rfl (by decide) (by decide) (by decide) ?_
  refine x_putR (pc := 33) (j := 4) dX1_init_33 ffX1_21 rfl (fun q z => by cases z; rfl) rfl rfl (mem_more (mem_more (mem_more (mem_more hs)))) rfl rfl rfl ?_
  refine x_aload_n (pc := 36) dX1_init_36 0 rfl ?_
  refine x_bipush (pc := 37) (z := 16) dX1_init_37 (by decide +kernel) ?_
  refine n_arrI (pc := 39) (k := 19) (i := s) dX1_init_39 rfl (ha 4 (19, s) rfl) ((((((((hf.d _).s (mem_more hs)).d _).s (mem_more (mem_more hs))).d _).s (mem_more (mem_more (mem_more hs)))).d _).s (mem_more (mem_more (mem_more (mem_more hs))))) (nin_more (nin_more (nin_more (nin_more (hn (19, s) (by simp)) (by simp)) (by simp)) (by simp)) (by simp)) rfl (by decide) (by decide) (by decide) ?_
  refine x_putR (pc := 41) (j := 5) dX1_init_41 ffX1_24 rfl (fun q z => by cases z; rfl) rfl rfl (mem_more (mem_more (mem_more (mem_more (mem_more hs))))) rfl rfl rfl ?_
  refine x_aload_n (pc := 44) dX1_init_44 0 rfl ?_
  refine x_bipush (pc := 45) (z := 16) dX1_init_45 (by decide +kernel) ?_
  refine n_arrI (pc := 47) (k := 20) (i := s) dX1_init_47 rfl (ha 5 (20, s) rfl) ((((((((((hf.d _).s (mem_more hs)).d _).s (mem_more (mem_more hs))).d _).s (mem_more (mem_more (mem_more hs)))).d _).s (mem_more (mem_more (mem_more (mem_more hs))))).d _).s (mem_more (mem_more (mem_more (mem_more (mem_more hs)))))) (nin_more (nin_more (nin_more (nin_more (nin_more (hn (20, s) (by simp)) (by simp)) (by simp)) (by simp)) (by simp)) (by simp)) rfl (by decide) (by decide) (by decide) ?_
  refine x_putR (pc := 49) (j := 6) dX1_init_49 ffX1_27 rfl (fun q z => by cases z; rfl) rfl rfl (mem_more (mem_more (mem_more (mem_more (mem_more (mem_more hs)))))) rfl rfl rfl ?_
  refine x_aload_n (pc := 52) dX1_init_52 0 rfl ?_
  refine x_bipush (pc := 53) (z := 16) dX1_init_53 (by decide +kernel) ?_
  refine n_arrI (pc := 55) (k := 21) (i := s) dX1_init_55 rfl (ha 6 (21, s) rfl) ((((((((((((hf.d _).s (mem_more hs)).d _).s (mem_more (mem_more hs))).d _).s (mem_more (mem_more (mem_more hs)))).d _).s (mem_more (mem_more (mem_more (mem_more hs))))).d _).s (mem_more (mem_more (mem_more (mem_more (mem_more hs)))))).d _).s (mem_more (mem_more (mem_more (mem_more (mem_more (mem_more hs))))))) (nin_more (nin_more (nin_more (nin_more (nin_more (nin_more (hn (21, s) (by simp)) (by simp)) (by simp)) (by simp)) (by simp)) (by simp)) (by simp)) rfl (by decide) (by decide) (by decide) ?_
  refine x_putR (pc := 57) (j := 7) dX1_init_57 ffX1_30 rfl (fun q z => by cases z; rfl) rfl rfl (mem_more (mem_more (mem_more (mem_more (mem_more (mem_more (mem_more hs))))))) rfl rfl rfl ?_
  exact x_vret (pc := 60) dX1_init_60 rfl (by decide) (by decide)
theorem ct_Trips {G : GG} {D : List (Nat × Nat)} {m : Mem} {S : List (Nat × Nat × Nat)} {n s : Nat} (hv : s < 13) (hs : (1, s) ∈ D) (hf : FRe D m S) (hn : ∀ q ∈ [(11, s), (12, s), (13, s), (14, s)], q ∉ D) (ha : ∀ (t : Nat) (q : Nat × Nat), [(11, s), (12, s), (13, s), (14, s)][t]? = some q → gad G q.1 q.2 = n + t) : Ct G MX5_init { frames := 2, cells := 4, slots := 64, locals := 100 } [rf G 1 s] (hN D m S n) (.inl none) (hN (D ++ [(11, s)] ++ [(12, s)] ++ [(13, s)] ++ [(14, s)]) m (S ++ [(1, s, 1)] ++ [(1, s, 2)] ++ [(1, s, 3)] ++ [(1, s, 4)]) (n + 4)) := by
  refine x_entry (by decide +kernel) mwX5_init rfl (Nat.le_of_ble_eq_true rfl) ?_
  show X G MX5_init { frames := 2, cells := 4, slots := 64, locals := 100 } 0 [(0, rf G 1 s)] [] (hN D m S n) 0 0 (.inl none) _
  refine x_aload_n (pc := 0) dX5_init_0 0 rfl ?_
  refine x_obj (pc := 1) dX5_init_1 (in_ctx 152 (by decide +kernel) rfl) ob_in ob_co (by decide) ⟨rfl, rfl⟩ ?_
  refine x_aload_n (pc := 4) dX5_init_4 0 rfl ?_
  refine x_bipush (pc := 5) (z := 16) dX5_init_5 (by decide +kernel) ?_
  refine n_arrI (pc := 7) (k := 11) (i := s) dX5_init_7 rfl (ha 0 (11, s) rfl) hf (hn (11, s) (by simp)) rfl (by decide) (by decide) (by decide) ?_
  refine x_putR (pc := 9) (j := 1) dX5_init_9 ffX5_9 rfl (fun q z => by cases z; rfl) rfl rfl (mem_more hs) rfl rfl rfl ?_
  refine x_aload_n (pc := 12) dX5_init_12 0 rfl ?_
  refine x_bipush (pc := 13) (z := 16) dX5_init_13 (by decide +kernel) ?_
  refine n_arrI (pc := 15) (k := 12) (i := s) dX5_init_15 rfl (ha 1 (12, s) rfl) ((hf.d _).s (mem_more hs)) (nin_more (hn (12, s) (by simp)) (by simp)) rfl (by decide) (by decide) (by decide) ?_
  refine x_putR (pc := 17) (j := 2) dX5_init_17 ffX5_15 rfl (fun q z => by cases z; rfl) rfl rfl (mem_more (mem_more hs)) rfl rfl rfl ?_
  refine x_aload_n (pc := 20) dX5_init_20 0 rfl ?_
  refine x_bipush (pc := 21) (z := 16) dX5_init_21 (by decide +kernel) ?_
  refine n_arrI (pc := 23) (k := 13) (i := s) dX5_init_23 rfl (ha 2 (13, s) rfl) ((((hf.d _).s (mem_more hs)).d _).s (mem_more (mem_more hs))) (nin_more (nin_more (hn (13, s) (by simp)) (by simp)) (by simp)) rfl (by decide) (by decide) (by decide) ?_
  refine x_putR (pc := 25) (j := 3) dX5_init_25 ffX5_18 rfl (fun q z => by cases z; rfl) rfl rfl (mem_more (mem_more (mem_more hs))) rfl rfl rfl ?_
  refine x_aload_n (pc := 28) dX5_init_28 0 rfl ?_
  refine x_bipush (pc := 29) (z := 16) dX5_init_29 (by decide +kernel) ?_
  refine n_arrI (pc := 31) (k := 14) (i := s) dX5_init_31 rfl (ha 3 (14, s) rfl) ((((((hf.d _).s (mem_more hs)).d _).s (mem_more (mem_more hs))).d _).s (mem_more (mem_more (mem_more hs)))) (nin_more (nin_more (nin_more (hn (14, s) (by simp)) (by simp)) (by simp)) (by simp)) rfl (by decide) (by decide) (by decide) ?_
  refine x_putR (pc := 33) (j := 4) dX5_init_33 ffX5_21 rfl (fun q z => by cases z; rfl) rfl rfl (mem_more (mem_more (mem_more (mem_more hs)))) rfl rfl rfl ?_
  exact x_vret (pc := 36) dX5_init_36 rfl (by decide) (by decide)
