/-! what the start gives: classes, arrays, strings -/
theorem ul_0 : ∀ w ∈ u_ws RX0 TX0 3, w ∈ tables_1 := by
  intro w hw
  obtain ⟨k, hk, rfl⟩ := List.mem_map.mp hw
  have hk := List.mem_range.mp hk
  rcases (show k = 0 ∨ k = 1 ∨ k = 2 by omega) with rfl | rfl | rfl
  · exact List.mem_of_getElem? (i := 353) (by decide +kernel)
  · exact List.mem_of_getElem? (i := 355) (by decide +kernel)
  · exact List.mem_of_getElem? (i := 357) (by decide +kernel)
theorem ul_1 : ∀ w ∈ u_ws RX1 TX1 8, w ∈ tables_1 := by
  intro w hw
  obtain ⟨k, hk, rfl⟩ := List.mem_map.mp hw
  have hk := List.mem_range.mp hk
  rcases (show k = 0 ∨ k = 1 ∨ k = 2 ∨ k = 3 ∨ k = 4 ∨ k = 5 ∨ k = 6 ∨ k = 7 by omega) with rfl | rfl | rfl | rfl | rfl | rfl | rfl | rfl
  · exact List.mem_of_getElem? (i := 202) (by decide +kernel)
  · exact List.mem_of_getElem? (i := 204) (by decide +kernel)
  · exact List.mem_of_getElem? (i := 206) (by decide +kernel)
  · exact List.mem_of_getElem? (i := 208) (by decide +kernel)
  · exact List.mem_of_getElem? (i := 210) (by decide +kernel)
  · exact List.mem_of_getElem? (i := 212) (by decide +kernel)
  · exact List.mem_of_getElem? (i := 214) (by decide +kernel)
  · exact List.mem_of_getElem? (i := 216) (by decide +kernel)
theorem ul_2 : ∀ w ∈ u_ws RX2 TX2 17, w ∈ tables_1 := by
  intro w hw
  obtain ⟨k, hk, rfl⟩ := List.mem_map.mp hw
  have hk := List.mem_range.mp hk
  rcases (show k = 0 ∨ k = 1 ∨ k = 2 ∨ k = 3 ∨ k = 4 ∨ k = 5 ∨ k = 6 ∨ k = 7 ∨ k = 8 ∨ k = 9 ∨ k = 10 ∨ k = 11 ∨ k = 12 ∨ k = 13 ∨ k = 14 ∨ k = 15 ∨ k = 16 by omega) with rfl | rfl | rfl | rfl | rfl | rfl | rfl | rfl | rfl | rfl | rfl | rfl | rfl | rfl | rfl | rfl | rfl
  · exact List.mem_of_getElem? (i := 91) (by decide +kernel)
  · exact List.mem_of_getElem? (i := 93) (by decide +kernel)
  · exact List.mem_of_getElem? (i := 95) (by decide +kernel)
  · exact List.mem_of_getElem? (i := 97) (by decide +kernel)
  · exact List.mem_of_getElem? (i := 99) (by decide +kernel)
  · exact List.mem_of_getElem? (i := 101) (by decide +kernel)
  · exact List.mem_of_getElem? (i := 103) (by decide +kernel)
  · exact List.mem_of_getElem? (i := 105) (by decide +kernel)
  · exact List.mem_of_getElem? (i := 107) (by decide +kernel)
  · exact List.mem_of_getElem? (i := 109) (by decide +kernel)
  · exact List.mem_of_getElem? (i := 111) (by decide +kernel)
  · exact List.mem_of_getElem? (i := 113) (by decide +kernel)
  · exact List.mem_of_getElem? (i := 115) (by decide +kernel)
  · exact List.mem_of_getElem? (i := 117) (by decide +kernel)
  · exact List.mem_of_getElem? (i := 119) (by decide +kernel)
  · exact List.mem_of_getElem? (i := 121) (by decide +kernel)
  · exact List.mem_of_getElem? (i := 123) (by decide +kernel)
theorem ul_3 : ∀ w ∈ u_ws RX3 TX3 8, w ∈ tables_1 := by
  intro w hw
  obtain ⟨k, hk, rfl⟩ := List.mem_map.mp hw
  have hk := List.mem_range.mp hk
  rcases (show k = 0 ∨ k = 1 ∨ k = 2 ∨ k = 3 ∨ k = 4 ∨ k = 5 ∨ k = 6 ∨ k = 7 by omega) with rfl | rfl | rfl | rfl | rfl | rfl | rfl | rfl
  · exact List.mem_of_getElem? (i := 322) (by decide +kernel)
  · exact List.mem_of_getElem? (i := 324) (by decide +kernel)
  · exact List.mem_of_getElem? (i := 326) (by decide +kernel)
  · exact List.mem_of_getElem? (i := 328) (by decide +kernel)
  · exact List.mem_of_getElem? (i := 330) (by decide +kernel)
  · exact List.mem_of_getElem? (i := 332) (by decide +kernel)
  · exact List.mem_of_getElem? (i := 334) (by decide +kernel)
  · exact List.mem_of_getElem? (i := 336) (by decide +kernel)
theorem ul_4 : ∀ w ∈ u_ws RX4 TX4 14, w ∈ tables_1 := by
  intro w hw
  obtain ⟨k, hk, rfl⟩ := List.mem_map.mp hw
  have hk := List.mem_range.mp hk
  rcases (show k = 0 ∨ k = 1 ∨ k = 2 ∨ k = 3 ∨ k = 4 ∨ k = 5 ∨ k = 6 ∨ k = 7 ∨ k = 8 ∨ k = 9 ∨ k = 10 ∨ k = 11 ∨ k = 12 ∨ k = 13 by omega) with rfl | rfl | rfl | rfl | rfl | rfl | rfl | rfl | rfl | rfl | rfl | rfl | rfl | rfl
  · exact List.mem_of_getElem? (i := 260) (by decide +kernel)
  · exact List.mem_of_getElem? (i := 262) (by decide +kernel)
  · exact List.mem_of_getElem? (i := 264) (by decide +kernel)
  · exact List.mem_of_getElem? (i := 266) (by decide +kernel)
  · exact List.mem_of_getElem? (i := 268) (by decide +kernel)
  · exact List.mem_of_getElem? (i := 270) (by decide +kernel)
  · exact List.mem_of_getElem? (i := 272) (by decide +kernel)
  · exact List.mem_of_getElem? (i := 274) (by decide +kernel)
  · exact List.mem_of_getElem? (i := 276) (by decide +kernel)
  · exact List.mem_of_getElem? (i := 278) (by decide +kernel)
  · exact List.mem_of_getElem? (i := 280) (by decide +kernel)
  · exact List.mem_of_getElem? (i := 282) (by decide +kernel)
  · exact List.mem_of_getElem? (i := 284) (by decide +kernel)
  · exact List.mem_of_getElem? (i := 286) (by decide +kernel)
theorem ul_5 : ∀ w ∈ u_ws RX5 TX5 5, w ∈ tables_1 := by
  intro w hw
  obtain ⟨k, hk, rfl⟩ := List.mem_map.mp hw
  have hk := List.mem_range.mp hk
  rcases (show k = 0 ∨ k = 1 ∨ k = 2 ∨ k = 3 ∨ k = 4 by omega) with rfl | rfl | rfl | rfl | rfl
  · exact List.mem_of_getElem? (i := 160) (by decide +kernel)
  · exact List.mem_of_getElem? (i := 162) (by decide +kernel)
  · exact List.mem_of_getElem? (i := 164) (by decide +kernel)
  · exact List.mem_of_getElem? (i := 166) (by decide +kernel)
  · exact List.mem_of_getElem? (i := 168) (by decide +kernel)
theorem ul_6 : ∀ w ∈ u_ws RX6 TX6 2, w ∈ tables_1 := by
  intro w hw
  obtain ⟨k, hk, rfl⟩ := List.mem_map.mp hw
  have hk := List.mem_range.mp hk
  rcases (show k = 0 ∨ k = 1 by omega) with rfl | rfl
  · exact List.mem_of_getElem? (i := 295) (by decide +kernel)
  · exact List.mem_of_getElem? (i := 297) (by decide +kernel)
theorem ul_7 : ∀ w ∈ u_ws RX7 TX7 6, w ∈ tables_1 := by
  intro w hw
  obtain ⟨k, hk, rfl⟩ := List.mem_map.mp hw
  have hk := List.mem_range.mp hk
  rcases (show k = 0 ∨ k = 1 ∨ k = 2 ∨ k = 3 ∨ k = 4 ∨ k = 5 by omega) with rfl | rfl | rfl | rfl | rfl | rfl
  · exact List.mem_of_getElem? (i := 367) (by decide +kernel)
  · exact List.mem_of_getElem? (i := 369) (by decide +kernel)
  · exact List.mem_of_getElem? (i := 371) (by decide +kernel)
  · exact List.mem_of_getElem? (i := 373) (by decide +kernel)
  · exact List.mem_of_getElem? (i := 375) (by decide +kernel)
  · exact List.mem_of_getElem? (i := 377) (by decide +kernel)
theorem ul_8 : ∀ w ∈ u_ws RX8 TX8 19, w ∈ tables_1 := by
  intro w hw
  obtain ⟨k, hk, rfl⟩ := List.mem_map.mp hw
  have hk := List.mem_range.mp hk
  rcases (show k = 0 ∨ k = 1 ∨ k = 2 ∨ k = 3 ∨ k = 4 ∨ k = 5 ∨ k = 6 ∨ k = 7 ∨ k = 8 ∨ k = 9 ∨ k = 10 ∨ k = 11 ∨ k = 12 ∨ k = 13 ∨ k = 14 ∨ k = 15 ∨ k = 16 ∨ k = 17 ∨ k = 18 by omega) with rfl | rfl | rfl | rfl | rfl | rfl | rfl | rfl | rfl | rfl | rfl | rfl | rfl | rfl | rfl | rfl | rfl | rfl | rfl
  · exact List.mem_of_getElem? (i := 1170) (by decide +kernel)
  · exact List.mem_of_getElem? (i := 1172) (by decide +kernel)
  · exact List.mem_of_getElem? (i := 1174) (by decide +kernel)
  · exact List.mem_of_getElem? (i := 1176) (by decide +kernel)
  · exact List.mem_of_getElem? (i := 1178) (by decide +kernel)
  · exact List.mem_of_getElem? (i := 1180) (by decide +kernel)
  · exact List.mem_of_getElem? (i := 1182) (by decide +kernel)
  · exact List.mem_of_getElem? (i := 1184) (by decide +kernel)
  · exact List.mem_of_getElem? (i := 1186) (by decide +kernel)
  · exact List.mem_of_getElem? (i := 1188) (by decide +kernel)
  · exact List.mem_of_getElem? (i := 1190) (by decide +kernel)
  · exact List.mem_of_getElem? (i := 1192) (by decide +kernel)
  · exact List.mem_of_getElem? (i := 1194) (by decide +kernel)
  · exact List.mem_of_getElem? (i := 1196) (by decide +kernel)
  · exact List.mem_of_getElem? (i := 1198) (by decide +kernel)
  · exact List.mem_of_getElem? (i := 1200) (by decide +kernel)
  · exact List.mem_of_getElem? (i := 1202) (by decide +kernel)
  · exact List.mem_of_getElem? (i := 1204) (by decide +kernel)
  · exact List.mem_of_getElem? (i := 1206) (by decide +kernel)
def sIx (i : Nat) : Nat := [100, 106, 108, 110, 112, 114, 116].getD i 0
def sIy (i : Nat) : Nat := [120, 138, 143, 148, 153, 158, 163].getD i 0
def sTx (i : Nat) : Term := .string "PackLoans$Reader" (sIx i)
def sTy (i : Nat) : Term := .string "PackLoansModel" (sIy i)
def gvN : List Cond := flatC (Jvm.Cond.and given_1 narrow_1)
theorem sw_ex : ∀ i, i < 7 → Cond.exactly (sTx i) "java/lang/String" ∈ gvN := by decide +kernel
theorem sw_co : ∀ i, i < 7 → Cond.eq (.field (sTx i) "java/lang/String" "coder" "B") (.int 0) ∈ gvN := by decide +kernel
theorem sw_ar : ∀ i, i < 7 → Cond.arrayOf (.field (sTx i) "java/lang/String" "value" "[B") .byte ∈ gvN := by decide +kernel
theorem sw_le : ∀ i, i < 7 → Cond.eq (.length (.field (sTx i) "java/lang/String" "value" "[B")) (.int (Int32.ofNat (xLen.getD i 0))) ∈ gvN := by decide +kernel
theorem sw_el : ∀ i, i < 7 → ∀ j, j < xLen.getD i 0 → Cond.eq (.elem (.field (sTx i) "java/lang/String" "value" "[B") (.int (Int32.ofNat j))) (.int ((xByt.getD i []).getD j 0)) ∈ gvN := by decide +kernel
theorem sw_ne : ∀ i, i < 7 → ∀ j, j < 7 → i ≠ j → Cond.not (Cond.eq (sTx i) (sTx j)) ∈ gvN ∨ Cond.not (Cond.eq (sTx j) (sTx i)) ∈ gvN := by decide +kernel
theorem sw_mo : ∀ i, i < 7 → Cond.eq (sTx i) (sTy i) ∈ gvN := by decide +kernel
theorem sw_st : Cond.eq (.static "java/lang/String" "COMPACT_STRINGS" "Z") (.int 1) ∈ gvN ∧ Cond.isRef (.static "jdk/internal/util/Preconditions" "SIOOBE_FORMATTER" "Ljava/util/function/BiFunction;") ∈ gvN ∧ Cond.isRef (.static "java/lang/Throwable" "UNASSIGNED_STACK" "[Ljava/lang/StackTraceElement;") ∈ gvN ∧ Cond.isRef (.static "java/lang/Throwable" "SUPPRESSED_SENTINEL" "Ljava/util/List;") ∈ gvN ∧ Cond.not (.castable "java/lang/IllegalArgumentException" "java/lang/IndexOutOfBoundsException") ∈ gvN := by decide +kernel
theorem sw_sr : ∀ i, i < 14 → ∃ q, xStr[i]? = some q ∧ Cond.stringRef q.1 q.2.1 q.2.2.1 ∈ tables_1 ∧ ((i < 7 ∧ q.1 = "PackLoans$Reader" ∧ q.2.1 = sIx i ∧ q.2.2.2 = i) ∨ (7 ≤ i ∧ q.1 = "PackLoansModel" ∧ q.2.1 = sIy (i - 7) ∧ q.2.2.2 = i - 7)) := by
  intro i hi
  rcases (show i = 0 ∨ i = 1 ∨ i = 2 ∨ i = 3 ∨ i = 4 ∨ i = 5 ∨ i = 6 ∨ i = 7 ∨ i = 8 ∨ i = 9 ∨ i = 10 ∨ i = 11 ∨ i = 12 ∨ i = 13 by omega) with rfl | rfl | rfl | rfl | rfl | rfl | rfl | rfl | rfl | rfl | rfl | rfl | rfl | rfl
  · exact ⟨_, rfl, (List.mem_of_getElem? (i := 417) (by decide +kernel)), .inl ⟨by decide, rfl, rfl, rfl⟩⟩
  · exact ⟨_, rfl, (List.mem_of_getElem? (i := 470) (by decide +kernel)), .inl ⟨by decide, rfl, rfl, rfl⟩⟩
  · exact ⟨_, rfl, (List.mem_of_getElem? (i := 471) (by decide +kernel)), .inl ⟨by decide, rfl, rfl, rfl⟩⟩
  · exact ⟨_, rfl, (List.mem_of_getElem? (i := 472) (by decide +kernel)), .inl ⟨by decide, rfl, rfl, rfl⟩⟩
  · exact ⟨_, rfl, (List.mem_of_getElem? (i := 473) (by decide +kernel)), .inl ⟨by decide, rfl, rfl, rfl⟩⟩
  · exact ⟨_, rfl, (List.mem_of_getElem? (i := 474) (by decide +kernel)), .inl ⟨by decide, rfl, rfl, rfl⟩⟩
  · exact ⟨_, rfl, (List.mem_of_getElem? (i := 475) (by decide +kernel)), .inl ⟨by decide, rfl, rfl, rfl⟩⟩
  · exact ⟨_, rfl, (List.mem_of_getElem? (i := 1246) (by decide +kernel)), .inr ⟨by decide, rfl, rfl, rfl⟩⟩
  · exact ⟨_, rfl, (List.mem_of_getElem? (i := 1273) (by decide +kernel)), .inr ⟨by decide, rfl, rfl, rfl⟩⟩
  · exact ⟨_, rfl, (List.mem_of_getElem? (i := 1282) (by decide +kernel)), .inr ⟨by decide, rfl, rfl, rfl⟩⟩
  · exact ⟨_, rfl, (List.mem_of_getElem? (i := 1288) (by decide +kernel)), .inr ⟨by decide, rfl, rfl, rfl⟩⟩
  · exact ⟨_, rfl, (List.mem_of_getElem? (i := 1300) (by decide +kernel)), .inr ⟨by decide, rfl, rfl, rfl⟩⟩
  · exact ⟨_, rfl, (List.mem_of_getElem? (i := 1305) (by decide +kernel)), .inr ⟨by decide, rfl, rfl, rfl⟩⟩
  · exact ⟨_, rfl, (List.mem_of_getElem? (i := 1310) (by decide +kernel)), .inr ⟨by decide, rfl, rfl, rfl⟩⟩
theorem sw_nest : ∀ q ∈ xNest, Cond.methodLinkNest q.1 q.2.1 q.2.2.1 q.2.2.2 ∈ tables_1 := by
  show ∀ q ∈ xNest, _
  unfold xNest
  exact List.forall_mem_cons.mpr ⟨(List.mem_of_getElem? (i := 133) (by decide +kernel)), List.forall_mem_cons.mpr ⟨(List.mem_of_getElem? (i := 139) (by decide +kernel)), List.forall_mem_cons.mpr ⟨(List.mem_of_getElem? (i := 173) (by decide +kernel)), List.forall_mem_cons.mpr ⟨(List.mem_of_getElem? (i := 302) (by decide +kernel)), List.forall_mem_cons.mpr ⟨(List.mem_of_getElem? (i := 348) (by decide +kernel)), List.forall_mem_cons.mpr ⟨(List.mem_of_getElem? (i := 566) (by decide +kernel)), List.forall_mem_cons.mpr ⟨(List.mem_of_getElem? (i := 579) (by decide +kernel)), List.forall_mem_cons.mpr ⟨(List.mem_of_getElem? (i := 584) (by decide +kernel)), List.forall_mem_cons.mpr ⟨(List.mem_of_getElem? (i := 589) (by decide +kernel)), fun _ h => absurd h List.not_mem_nil⟩⟩⟩⟩⟩⟩⟩⟩⟩
theorem sw_cast : ∀ q ∈ xCast, Cond.castable q q ∈ tables_1 := by
  show ∀ q ∈ xCast, _
  unfold xCast
  exact List.forall_mem_cons.mpr ⟨(List.mem_of_getElem? (i := 644) (by decide +kernel)), List.forall_mem_cons.mpr ⟨(List.mem_of_getElem? (i := 725) (by decide +kernel)), fun _ h => absurd h List.not_mem_nil⟩⟩
theorem sw_decl : ∀ q ∈ xDecl, Cond.declares q ∈ tables_1 := by
  show ∀ q ∈ xDecl, _
  unfold xDecl
  exact List.forall_mem_cons.mpr ⟨(List.mem_of_getElem? (i := 645) (by decide +kernel)), List.forall_mem_cons.mpr ⟨(List.mem_of_getElem? (i := 647) (by decide +kernel)), List.forall_mem_cons.mpr ⟨(List.mem_of_getElem? (i := 649) (by decide +kernel)), fun _ h => absurd h List.not_mem_nil⟩⟩⟩
theorem i32_back (x : Int32) : Int32.ofInt (x.toBitVec.toNat : Int) = x := by
  apply Int32.toBitVec_inj.mp
  rw [Int32.toBitVec_ofInt, BitVec.ofInt_natCast, BitVec.ofNat_toNat, BitVec.setWidth_eq]
def ofs (k i : Nat) : Nat := lsL.findIdx (fun q => q.1 == k && q.2 == i)
theorem ofs_ok : ∀ t, t < 352 → ∃ q, lsL[t]? = some q ∧ ofs q.1 q.2 = t := by
  have h : ∀ t, t < 352 → (match lsL[t]? with | some q => ofs q.1 q.2 == t | none => false) = true := by decide +kernel
  intro t ht
  have a := h t ht
  cases e : lsL[t]? with
  | none => rw [e] at a; cases a
  | some q => rw [e] at a; exact ⟨q, rfl, beq_iff_eq.mp a⟩
theorem lsL_len : lsL.length = 352 := by decide +kernel
theorem HA_of {G : GG} : ∀ (l : List (Nat × Nat)) (n : Nat), (∀ t q, l[t]? = some q → gad G q.1 q.2 = n + t) → HA G n l := by
  intro l
  induction l with
  | nil => intro n _; exact trivial
  | cons a l ih =>
    intro n h
    exact ⟨h 0 a rfl, ih (n + 1) (fun t q hq => by have := h (t + 1) q hq; omega)⟩
theorem HA_ls {G : GG} (n : Nat) (hg : ∀ k i, gad G k i = n + ofs k i) : HA G n lsL := HA_of lsL n (fun t q hq => by
  have ht : t < 352 := by rw [← lsL_len]; exact (List.getElem?_eq_some_iff.mp hq).1
  obtain ⟨q', e1, e2⟩ := ofs_ok t ht
  rw [hq] at e1
  cases e1
  rw [hg, e2])
/-- the arrays' classes -/
theorem tg_ok {s : State} {args : Array Value} (hts : ∀ w ∈ tables_1, w.before args s = true) : ∀ t : Nat, ∃ cA : ClassId, t < 7 → ArrOfT s cA (tgTy t) ∧ va_RA s cA (tgTy t) := by
  intro t
  match t with
  | 0 =>
    obtain ⟨cA, kA, comp, h1, h2, h3⟩ := Cond.arrayClass_spec (hts (.arrayClass .int) (List.mem_of_getElem? (i := 126) (by decide +kernel)))
    exact ⟨cA, fun _ => ⟨fun N z => ⟨fun k h => (by cases h), kA, h2, comp, h3⟩, h1⟩⟩
  | 1 =>
    obtain ⟨cA, kA, comp, h1, h2, h3⟩ := Cond.arrayClass_spec (hts (.arrayClass .byte) (List.mem_of_getElem? (i := 339) (by decide +kernel)))
    exact ⟨cA, fun _ => ⟨fun N z => ⟨fun k h => (by cases h), kA, h2, comp, h3⟩, h1⟩⟩
  | 2 =>
    obtain ⟨cA, kA, comp, h1, h2, h3⟩ := Cond.arrayClass_spec (hts (.arrayClass .boolean) (List.mem_of_getElem? (i := 380) (by decide +kernel)))
    exact ⟨cA, fun _ => ⟨fun N z => ⟨fun k h => (by cases h), kA, h2, comp, h3⟩, h1⟩⟩
  | 3 =>
    obtain ⟨cA, kA, comp, h1, h2, h3⟩ := Cond.arrayClass_spec (hts (.arrayClass .long) (List.mem_of_getElem? (i := 1718) (by decide +kernel)))
    exact ⟨cA, fun _ => ⟨fun N z => ⟨fun k h => (by cases h), kA, h2, comp, h3⟩, h1⟩⟩
  | 4 =>
    obtain ⟨cA, kA, comp, h1, h2, h3⟩ := Cond.arrayClass_spec (hts (.arrayClass .double) (List.mem_of_getElem? (i := 1719) (by decide +kernel)))
    exact ⟨cA, fun _ => ⟨fun N z => ⟨fun k h => (by cases h), kA, h2, comp, h3⟩, h1⟩⟩
  | 5 =>
    obtain ⟨comp, cA, kA, h1, -, h3, h4, h5⟩ := Cond.arrayOver_spec (hts (.arrayOver (.object "PackLoans$State")) (List.mem_of_getElem? (i := 347) (by decide +kernel)))
    exact ⟨cA, fun _ => ⟨fun N z => ⟨fun k h => (by cases h), kA, h3, comp, h4⟩, ⟨kA, comp, h3, h4, h1, h5⟩⟩⟩
  | 6 =>
    obtain ⟨comp, cA, kA, h1, -, h3, h4, h5⟩ := Cond.arrayOver_spec (hts (.arrayOver (.object "PackLoans$World")) (List.mem_of_getElem? (i := 360) (by decide +kernel)))
    exact ⟨cA, fun _ => ⟨fun N z => ⟨fun k h => (by cases h), kA, h3, comp, h4⟩, ⟨kA, comp, h3, h4, h1, h5⟩⟩⟩
  | t + 7 => exact ⟨0, fun h => absurd h (by omega)⟩
theorem kn_ok {s : State} {args : Array Value} (hts : ∀ w ∈ tables_1, w.before args s = true) : ∀ k : Nat, ∃ c : ClassId × (Nat → Nat), ∀ q, vwCl[k]? = some q → u_Kn s q.1 q.2.1 q.2.2 c.1 c.2 := by
  intro k
  match k with
  | 0 =>
    obtain ⟨cC, iS, h⟩ := u_known (C := RX0) (T := TX0) (N := 3) (n := 3) hts ul_0 (hts (.instantiable RX0 3) (List.mem_of_getElem? (i := 341) (by decide +kernel)))
    exact ⟨(cC, iS), fun q hq => by cases hq; exact h⟩
  | 1 =>
    obtain ⟨cC, iS, h⟩ := u_known (C := RX1) (T := TX1) (N := 8) (n := 8) hts ul_1 (hts (.instantiable RX1 8) (List.mem_of_getElem? (i := 172) (by decide +kernel)))
    exact ⟨(cC, iS), fun q hq => by cases hq; exact h⟩
  | 2 =>
    obtain ⟨cC, iS, h⟩ := u_known (C := RX2) (T := TX2) (N := 17) (n := 17) hts ul_2 (hts (.instantiable RX2 17) (List.mem_of_getElem? (i := 33) (by decide +kernel)))
    exact ⟨(cC, iS), fun q hq => by cases hq; exact h⟩
  | 3 =>
    obtain ⟨cC, iS, h⟩ := u_known (C := RX3) (T := TX3) (N := 8) (n := 8) hts ul_3 (hts (.instantiable RX3 8) (List.mem_of_getElem? (i := 301) (by decide +kernel)))
    exact ⟨(cC, iS), fun q hq => by cases hq; exact h⟩
  | 4 =>
    obtain ⟨cC, iS, h⟩ := u_known (C := RX4) (T := TX4) (N := 14) (n := 14) hts ul_4 (hts (.instantiable RX4 14) (List.mem_of_getElem? (i := 132) (by decide +kernel)))
    exact ⟨(cC, iS), fun q hq => by cases hq; exact h⟩
  | 5 =>
    obtain ⟨cC, iS, h⟩ := u_known (C := RX5) (T := TX5) (N := 5) (n := 5) hts ul_5 (hts (.instantiable RX5 5) (List.mem_of_getElem? (i := 138) (by decide +kernel)))
    exact ⟨(cC, iS), fun q hq => by cases hq; exact h⟩
  | 6 =>
    obtain ⟨cC, iS, h⟩ := u_known (C := RX6) (T := TX6) (N := 2) (n := 2) hts ul_6 (hts (.instantiable RX6 2) (List.mem_of_getElem? (i := 31) (by decide +kernel)))
    exact ⟨(cC, iS), fun q hq => by cases hq; exact h⟩
  | 7 =>
    obtain ⟨cC, iS, h⟩ := u_known (C := RX7) (T := TX7) (N := 6) (n := 6) hts ul_7 (hts (.instantiable RX7 6) (List.mem_of_getElem? (i := 23) (by decide +kernel)))
    exact ⟨(cC, iS), fun q hq => by cases hq; exact h⟩
  | 8 =>
    obtain ⟨cC, iS, h⟩ := u_known (C := RX8) (T := TX8) (N := 19) (n := 19) hts ul_8 (hts (.instantiable RX8 19) (List.mem_of_getElem? (i := 1143) (by decide +kernel)))
    exact ⟨(cC, iS), fun q hq => by cases hq; exact h⟩
  | k + 9 => exact ⟨(0, fun _ => 0), fun q hq => by cases hq⟩
