/-! what the start gives: classes, arrays, strings -/
theorem ul_0 : ∀ w ∈ u_ws RJ0 TJ0 4, w ∈ tables_1 := by
  intro w hw
  obtain ⟨k, hk, rfl⟩ := List.mem_map.mp hw
  have hk := List.mem_range.mp hk
  rcases (show k = 0 ∨ k = 1 ∨ k = 2 ∨ k = 3 by omega) with rfl | rfl | rfl | rfl
  · exact List.mem_of_getElem? (i := 1739) (by decide +kernel)
  · exact List.mem_of_getElem? (i := 1741) (by decide +kernel)
  · exact List.mem_of_getElem? (i := 1743) (by decide +kernel)
  · exact List.mem_of_getElem? (i := 1745) (by decide +kernel)
theorem ul_1 : ∀ w ∈ u_ws RJ4 TJ4 4, w ∈ tables_1 := by
  intro w hw
  obtain ⟨k, hk, rfl⟩ := List.mem_map.mp hw
  have hk := List.mem_range.mp hk
  rcases (show k = 0 ∨ k = 1 ∨ k = 2 ∨ k = 3 by omega) with rfl | rfl | rfl | rfl
  · exact List.mem_of_getElem? (i := 1664) (by decide +kernel)
  · exact List.mem_of_getElem? (i := 1666) (by decide +kernel)
  · exact List.mem_of_getElem? (i := 1668) (by decide +kernel)
  · exact List.mem_of_getElem? (i := 1670) (by decide +kernel)
theorem ul_2 : ∀ w ∈ u_ws RJx35411 TJx35411 4, w ∈ tables_1 := by
  intro w hw
  obtain ⟨k, hk, rfl⟩ := List.mem_map.mp hw
  have hk := List.mem_range.mp hk
  rcases (show k = 0 ∨ k = 1 ∨ k = 2 ∨ k = 3 by omega) with rfl | rfl | rfl | rfl
  · exact List.mem_of_getElem? (i := 1103) (by decide +kernel)
  · exact List.mem_of_getElem? (i := 1105) (by decide +kernel)
  · exact List.mem_of_getElem? (i := 1107) (by decide +kernel)
  · exact List.mem_of_getElem? (i := 1109) (by decide +kernel)
theorem ul_3 : ∀ w ∈ u_ws RJx4a65c TJx4a65c 3, w ∈ tables_1 := by
  intro w hw
  obtain ⟨k, hk, rfl⟩ := List.mem_map.mp hw
  have hk := List.mem_range.mp hk
  rcases (show k = 0 ∨ k = 1 ∨ k = 2 by omega) with rfl | rfl | rfl
  · exact List.mem_of_getElem? (i := 478) (by decide +kernel)
  · exact List.mem_of_getElem? (i := 474) (by decide +kernel)
  · exact List.mem_of_getElem? (i := 476) (by decide +kernel)
theorem ul_4 : ∀ w ∈ u_ws RX0 TX0 3, w ∈ tables_1 := by
  intro w hw
  obtain ⟨k, hk, rfl⟩ := List.mem_map.mp hw
  have hk := List.mem_range.mp hk
  rcases (show k = 0 ∨ k = 1 ∨ k = 2 by omega) with rfl | rfl | rfl
  · exact List.mem_of_getElem? (i := 363) (by decide +kernel)
  · exact List.mem_of_getElem? (i := 365) (by decide +kernel)
  · exact List.mem_of_getElem? (i := 367) (by decide +kernel)
theorem ul_5 : ∀ w ∈ u_ws RX1 TX1 8, w ∈ tables_1 := by
  intro w hw
  obtain ⟨k, hk, rfl⟩ := List.mem_map.mp hw
  have hk := List.mem_range.mp hk
  rcases (show k = 0 ∨ k = 1 ∨ k = 2 ∨ k = 3 ∨ k = 4 ∨ k = 5 ∨ k = 6 ∨ k = 7 by omega) with rfl | rfl | rfl | rfl | rfl | rfl | rfl | rfl
  · exact List.mem_of_getElem? (i := 212) (by decide +kernel)
  · exact List.mem_of_getElem? (i := 214) (by decide +kernel)
  · exact List.mem_of_getElem? (i := 216) (by decide +kernel)
  · exact List.mem_of_getElem? (i := 218) (by decide +kernel)
  · exact List.mem_of_getElem? (i := 220) (by decide +kernel)
  · exact List.mem_of_getElem? (i := 222) (by decide +kernel)
  · exact List.mem_of_getElem? (i := 224) (by decide +kernel)
  · exact List.mem_of_getElem? (i := 226) (by decide +kernel)
theorem ul_6 : ∀ w ∈ u_ws RX2 TX2 17, w ∈ tables_1 := by
  intro w hw
  obtain ⟨k, hk, rfl⟩ := List.mem_map.mp hw
  have hk := List.mem_range.mp hk
  rcases (show k = 0 ∨ k = 1 ∨ k = 2 ∨ k = 3 ∨ k = 4 ∨ k = 5 ∨ k = 6 ∨ k = 7 ∨ k = 8 ∨ k = 9 ∨ k = 10 ∨ k = 11 ∨ k = 12 ∨ k = 13 ∨ k = 14 ∨ k = 15 ∨ k = 16 by omega) with rfl | rfl | rfl | rfl | rfl | rfl | rfl | rfl | rfl | rfl | rfl | rfl | rfl | rfl | rfl | rfl | rfl
  · exact List.mem_of_getElem? (i := 101) (by decide +kernel)
  · exact List.mem_of_getElem? (i := 103) (by decide +kernel)
  · exact List.mem_of_getElem? (i := 105) (by decide +kernel)
  · exact List.mem_of_getElem? (i := 107) (by decide +kernel)
  · exact List.mem_of_getElem? (i := 109) (by decide +kernel)
  · exact List.mem_of_getElem? (i := 111) (by decide +kernel)
  · exact List.mem_of_getElem? (i := 113) (by decide +kernel)
  · exact List.mem_of_getElem? (i := 115) (by decide +kernel)
  · exact List.mem_of_getElem? (i := 117) (by decide +kernel)
  · exact List.mem_of_getElem? (i := 119) (by decide +kernel)
  · exact List.mem_of_getElem? (i := 121) (by decide +kernel)
  · exact List.mem_of_getElem? (i := 123) (by decide +kernel)
  · exact List.mem_of_getElem? (i := 125) (by decide +kernel)
  · exact List.mem_of_getElem? (i := 127) (by decide +kernel)
  · exact List.mem_of_getElem? (i := 129) (by decide +kernel)
  · exact List.mem_of_getElem? (i := 131) (by decide +kernel)
  · exact List.mem_of_getElem? (i := 133) (by decide +kernel)
theorem ul_7 : ∀ w ∈ u_ws RX3 TX3 8, w ∈ tables_1 := by
  intro w hw
  obtain ⟨k, hk, rfl⟩ := List.mem_map.mp hw
  have hk := List.mem_range.mp hk
  rcases (show k = 0 ∨ k = 1 ∨ k = 2 ∨ k = 3 ∨ k = 4 ∨ k = 5 ∨ k = 6 ∨ k = 7 by omega) with rfl | rfl | rfl | rfl | rfl | rfl | rfl | rfl
  · exact List.mem_of_getElem? (i := 332) (by decide +kernel)
  · exact List.mem_of_getElem? (i := 334) (by decide +kernel)
  · exact List.mem_of_getElem? (i := 336) (by decide +kernel)
  · exact List.mem_of_getElem? (i := 338) (by decide +kernel)
  · exact List.mem_of_getElem? (i := 340) (by decide +kernel)
  · exact List.mem_of_getElem? (i := 342) (by decide +kernel)
  · exact List.mem_of_getElem? (i := 344) (by decide +kernel)
  · exact List.mem_of_getElem? (i := 346) (by decide +kernel)
theorem ul_8 : ∀ w ∈ u_ws RX4 TX4 14, w ∈ tables_1 := by
  intro w hw
  obtain ⟨k, hk, rfl⟩ := List.mem_map.mp hw
  have hk := List.mem_range.mp hk
  rcases (show k = 0 ∨ k = 1 ∨ k = 2 ∨ k = 3 ∨ k = 4 ∨ k = 5 ∨ k = 6 ∨ k = 7 ∨ k = 8 ∨ k = 9 ∨ k = 10 ∨ k = 11 ∨ k = 12 ∨ k = 13 by omega) with rfl | rfl | rfl | rfl | rfl | rfl | rfl | rfl | rfl | rfl | rfl | rfl | rfl | rfl
  · exact List.mem_of_getElem? (i := 270) (by decide +kernel)
  · exact List.mem_of_getElem? (i := 272) (by decide +kernel)
  · exact List.mem_of_getElem? (i := 274) (by decide +kernel)
  · exact List.mem_of_getElem? (i := 276) (by decide +kernel)
  · exact List.mem_of_getElem? (i := 278) (by decide +kernel)
  · exact List.mem_of_getElem? (i := 280) (by decide +kernel)
  · exact List.mem_of_getElem? (i := 282) (by decide +kernel)
  · exact List.mem_of_getElem? (i := 284) (by decide +kernel)
  · exact List.mem_of_getElem? (i := 286) (by decide +kernel)
  · exact List.mem_of_getElem? (i := 288) (by decide +kernel)
  · exact List.mem_of_getElem? (i := 290) (by decide +kernel)
  · exact List.mem_of_getElem? (i := 292) (by decide +kernel)
  · exact List.mem_of_getElem? (i := 294) (by decide +kernel)
  · exact List.mem_of_getElem? (i := 296) (by decide +kernel)
theorem ul_9 : ∀ w ∈ u_ws RX5 TX5 5, w ∈ tables_1 := by
  intro w hw
  obtain ⟨k, hk, rfl⟩ := List.mem_map.mp hw
  have hk := List.mem_range.mp hk
  rcases (show k = 0 ∨ k = 1 ∨ k = 2 ∨ k = 3 ∨ k = 4 by omega) with rfl | rfl | rfl | rfl | rfl
  · exact List.mem_of_getElem? (i := 170) (by decide +kernel)
  · exact List.mem_of_getElem? (i := 172) (by decide +kernel)
  · exact List.mem_of_getElem? (i := 174) (by decide +kernel)
  · exact List.mem_of_getElem? (i := 176) (by decide +kernel)
  · exact List.mem_of_getElem? (i := 178) (by decide +kernel)
theorem ul_10 : ∀ w ∈ u_ws RX6 TX6 2, w ∈ tables_1 := by
  intro w hw
  obtain ⟨k, hk, rfl⟩ := List.mem_map.mp hw
  have hk := List.mem_range.mp hk
  rcases (show k = 0 ∨ k = 1 by omega) with rfl | rfl
  · exact List.mem_of_getElem? (i := 305) (by decide +kernel)
  · exact List.mem_of_getElem? (i := 307) (by decide +kernel)
theorem ul_11 : ∀ w ∈ u_ws RX7 TX7 6, w ∈ tables_1 := by
  intro w hw
  obtain ⟨k, hk, rfl⟩ := List.mem_map.mp hw
  have hk := List.mem_range.mp hk
  rcases (show k = 0 ∨ k = 1 ∨ k = 2 ∨ k = 3 ∨ k = 4 ∨ k = 5 by omega) with rfl | rfl | rfl | rfl | rfl | rfl
  · exact List.mem_of_getElem? (i := 377) (by decide +kernel)
  · exact List.mem_of_getElem? (i := 379) (by decide +kernel)
  · exact List.mem_of_getElem? (i := 381) (by decide +kernel)
  · exact List.mem_of_getElem? (i := 383) (by decide +kernel)
  · exact List.mem_of_getElem? (i := 385) (by decide +kernel)
  · exact List.mem_of_getElem? (i := 387) (by decide +kernel)
theorem ul_12 : ∀ w ∈ u_ws RX8 TX8 6, w ∈ tables_1 := by
  intro w hw
  obtain ⟨k, hk, rfl⟩ := List.mem_map.mp hw
  have hk := List.mem_range.mp hk
  rcases (show k = 0 ∨ k = 1 ∨ k = 2 ∨ k = 3 ∨ k = 4 ∨ k = 5 by omega) with rfl | rfl | rfl | rfl | rfl | rfl
  · exact List.mem_of_getElem? (i := 1015) (by decide +kernel)
  · exact List.mem_of_getElem? (i := 1017) (by decide +kernel)
  · exact List.mem_of_getElem? (i := 1019) (by decide +kernel)
  · exact List.mem_of_getElem? (i := 1021) (by decide +kernel)
  · exact List.mem_of_getElem? (i := 1023) (by decide +kernel)
  · exact List.mem_of_getElem? (i := 1025) (by decide +kernel)
theorem ul_13 : ∀ w ∈ u_ws RX9 TX9 6, w ∈ tables_1 := by
  intro w hw
  obtain ⟨k, hk, rfl⟩ := List.mem_map.mp hw
  have hk := List.mem_range.mp hk
  rcases (show k = 0 ∨ k = 1 ∨ k = 2 ∨ k = 3 ∨ k = 4 ∨ k = 5 by omega) with rfl | rfl | rfl | rfl | rfl | rfl
  · exact List.mem_of_getElem? (i := 1069) (by decide +kernel)
  · exact List.mem_of_getElem? (i := 1071) (by decide +kernel)
  · exact List.mem_of_getElem? (i := 1073) (by decide +kernel)
  · exact List.mem_of_getElem? (i := 1075) (by decide +kernel)
  · exact List.mem_of_getElem? (i := 1077) (by decide +kernel)
  · exact List.mem_of_getElem? (i := 1079) (by decide +kernel)
theorem ul_14 : ∀ w ∈ u_ws RX10 TX10 7, w ∈ tables_1 := by
  intro w hw
  obtain ⟨k, hk, rfl⟩ := List.mem_map.mp hw
  have hk := List.mem_range.mp hk
  rcases (show k = 0 ∨ k = 1 ∨ k = 2 ∨ k = 3 ∨ k = 4 ∨ k = 5 ∨ k = 6 by omega) with rfl | rfl | rfl | rfl | rfl | rfl | rfl
  · exact List.mem_of_getElem? (i := 1394) (by decide +kernel)
  · exact List.mem_of_getElem? (i := 1396) (by decide +kernel)
  · exact List.mem_of_getElem? (i := 1398) (by decide +kernel)
  · exact List.mem_of_getElem? (i := 1400) (by decide +kernel)
  · exact List.mem_of_getElem? (i := 1402) (by decide +kernel)
  · exact List.mem_of_getElem? (i := 1404) (by decide +kernel)
  · exact List.mem_of_getElem? (i := 1406) (by decide +kernel)
theorem ul_15 : ∀ w ∈ u_ws RX11 TX11 7, w ∈ tables_1 := by
  intro w hw
  obtain ⟨k, hk, rfl⟩ := List.mem_map.mp hw
  have hk := List.mem_range.mp hk
  rcases (show k = 0 ∨ k = 1 ∨ k = 2 ∨ k = 3 ∨ k = 4 ∨ k = 5 ∨ k = 6 by omega) with rfl | rfl | rfl | rfl | rfl | rfl | rfl
  · exact List.mem_of_getElem? (i := 974) (by decide +kernel)
  · exact List.mem_of_getElem? (i := 976) (by decide +kernel)
  · exact List.mem_of_getElem? (i := 978) (by decide +kernel)
  · exact List.mem_of_getElem? (i := 980) (by decide +kernel)
  · exact List.mem_of_getElem? (i := 982) (by decide +kernel)
  · exact List.mem_of_getElem? (i := 984) (by decide +kernel)
  · exact List.mem_of_getElem? (i := 986) (by decide +kernel)
theorem ul_16 : ∀ w ∈ u_ws RX12 TX12 14, w ∈ tables_1 := by
  intro w hw
  obtain ⟨k, hk, rfl⟩ := List.mem_map.mp hw
  have hk := List.mem_range.mp hk
  rcases (show k = 0 ∨ k = 1 ∨ k = 2 ∨ k = 3 ∨ k = 4 ∨ k = 5 ∨ k = 6 ∨ k = 7 ∨ k = 8 ∨ k = 9 ∨ k = 10 ∨ k = 11 ∨ k = 12 ∨ k = 13 by omega) with rfl | rfl | rfl | rfl | rfl | rfl | rfl | rfl | rfl | rfl | rfl | rfl | rfl | rfl
  · exact List.mem_of_getElem? (i := 509) (by decide +kernel)
  · exact List.mem_of_getElem? (i := 511) (by decide +kernel)
  · exact List.mem_of_getElem? (i := 513) (by decide +kernel)
  · exact List.mem_of_getElem? (i := 515) (by decide +kernel)
  · exact List.mem_of_getElem? (i := 517) (by decide +kernel)
  · exact List.mem_of_getElem? (i := 519) (by decide +kernel)
  · exact List.mem_of_getElem? (i := 521) (by decide +kernel)
  · exact List.mem_of_getElem? (i := 523) (by decide +kernel)
  · exact List.mem_of_getElem? (i := 525) (by decide +kernel)
  · exact List.mem_of_getElem? (i := 527) (by decide +kernel)
  · exact List.mem_of_getElem? (i := 529) (by decide +kernel)
  · exact List.mem_of_getElem? (i := 531) (by decide +kernel)
  · exact List.mem_of_getElem? (i := 533) (by decide +kernel)
  · exact List.mem_of_getElem? (i := 535) (by decide +kernel)
def sIx (i : Nat) : Nat := [100, 106, 108, 110, 112, 114, 116, 43, 66, 91, 93, 103, 121, 127, 142].getD i 0
def sTx (i : Nat) : Term := .string (if i < 7 then "PackLoans$Reader" else "PackLoansLaw") (sIx i)
def gvN : List Cond := flatC (Jvm.Cond.and given_1 narrow_1)
theorem sw_ex : ∀ i, i < 15 → Cond.exactly (sTx i) "java/lang/String" ∈ gvN := by decide +kernel
theorem sw_co : ∀ i, i < 15 → Cond.eq (.field (sTx i) "java/lang/String" "coder" "B") (.int 0) ∈ gvN := by decide +kernel
theorem sw_ar : ∀ i, i < 15 → Cond.arrayOf (.field (sTx i) "java/lang/String" "value" "[B") .byte ∈ gvN := by decide +kernel
theorem sw_le : ∀ i, i < 15 → Cond.eq (.length (.field (sTx i) "java/lang/String" "value" "[B")) (.int (Int32.ofNat (xLen.getD i 0))) ∈ gvN := by decide +kernel
theorem sw_el0 : ∀ j, j < 5 → gvN[319 + j]? = some (Cond.eq (.elem (.field (sTx 0) "java/lang/String" "value" "[B") (.int (Int32.ofNat j))) (.int ((xByt.getD 0 []).getD j 0))) := by decide +kernel
theorem sw_el1 : ∀ j, j < 5 → gvN[328 + j]? = some (Cond.eq (.elem (.field (sTx 1) "java/lang/String" "value" "[B") (.int (Int32.ofNat j))) (.int ((xByt.getD 1 []).getD j 0))) := by decide +kernel
theorem sw_el2 : ∀ j, j < 4 → gvN[338 + j]? = some (Cond.eq (.elem (.field (sTx 2) "java/lang/String" "value" "[B") (.int (Int32.ofNat j))) (.int ((xByt.getD 2 []).getD j 0))) := by decide +kernel
theorem sw_el3 : ∀ j, j < 5 → gvN[348 + j]? = some (Cond.eq (.elem (.field (sTx 3) "java/lang/String" "value" "[B") (.int (Int32.ofNat j))) (.int ((xByt.getD 3 []).getD j 0))) := by decide +kernel
theorem sw_el4 : ∀ j, j < 3 → gvN[360 + j]? = some (Cond.eq (.elem (.field (sTx 4) "java/lang/String" "value" "[B") (.int (Int32.ofNat j))) (.int ((xByt.getD 4 []).getD j 0))) := by decide +kernel
theorem sw_el5 : ∀ j, j < 4 → gvN[371 + j]? = some (Cond.eq (.elem (.field (sTx 5) "java/lang/String" "value" "[B") (.int (Int32.ofNat j))) (.int ((xByt.getD 5 []).getD j 0))) := by decide +kernel
theorem sw_el6 : ∀ j, j < 8 → gvN[384 + j]? = some (Cond.eq (.elem (.field (sTx 6) "java/lang/String" "value" "[B") (.int (Int32.ofNat j))) (.int ((xByt.getD 6 []).getD j 0))) := by decide +kernel
theorem sw_el7 : ∀ j, j < 6 → gvN[402 + j]? = some (Cond.eq (.elem (.field (sTx 7) "java/lang/String" "value" "[B") (.int (Int32.ofNat j))) (.int ((xByt.getD 7 []).getD j 0))) := by decide +kernel
theorem sw_el8 : ∀ j, j < 7 → gvN[419 + j]? = some (Cond.eq (.elem (.field (sTx 8) "java/lang/String" "value" "[B") (.int (Int32.ofNat j))) (.int ((xByt.getD 8 []).getD j 0))) := by decide +kernel
theorem sw_el9 : ∀ j, j < 6 → gvN[438 + j]? = some (Cond.eq (.elem (.field (sTx 9) "java/lang/String" "value" "[B") (.int (Int32.ofNat j))) (.int ((xByt.getD 9 []).getD j 0))) := by decide +kernel
theorem sw_el10 : ∀ j, j < 8 → gvN[457 + j]? = some (Cond.eq (.elem (.field (sTx 10) "java/lang/String" "value" "[B") (.int (Int32.ofNat j))) (.int ((xByt.getD 10 []).getD j 0))) := by decide +kernel
theorem sw_el11 : ∀ j, j < 7 → gvN[479 + j]? = some (Cond.eq (.elem (.field (sTx 11) "java/lang/String" "value" "[B") (.int (Int32.ofNat j))) (.int ((xByt.getD 11 []).getD j 0))) := by decide +kernel
theorem sw_el12 : ∀ j, j < 5 → gvN[501 + j]? = some (Cond.eq (.elem (.field (sTx 12) "java/lang/String" "value" "[B") (.int (Int32.ofNat j))) (.int ((xByt.getD 12 []).getD j 0))) := by decide +kernel
theorem sw_el13 : ∀ j, j < 6 → gvN[522 + j]? = some (Cond.eq (.elem (.field (sTx 13) "java/lang/String" "value" "[B") (.int (Int32.ofNat j))) (.int ((xByt.getD 13 []).getD j 0))) := by decide +kernel
theorem sw_el14 : ∀ j, j < 10 → gvN[545 + j]? = some (Cond.eq (.elem (.field (sTx 14) "java/lang/String" "value" "[B") (.int (Int32.ofNat j))) (.int ((xByt.getD 14 []).getD j 0))) := by decide +kernel
theorem sw_el : ∀ i, i < 15 → ∀ j, j < xLen.getD i 0 → Cond.eq (.elem (.field (sTx i) "java/lang/String" "value" "[B") (.int (Int32.ofNat j))) (.int ((xByt.getD i []).getD j 0)) ∈ gvN := by
  intro i hi j hj
  rcases (show i = 0 ∨ i = 1 ∨ i = 2 ∨ i = 3 ∨ i = 4 ∨ i = 5 ∨ i = 6 ∨ i = 7 ∨ i = 8 ∨ i = 9 ∨ i = 10 ∨ i = 11 ∨ i = 12 ∨ i = 13 ∨ i = 14 by omega) with rfl | rfl | rfl | rfl | rfl | rfl | rfl | rfl | rfl | rfl | rfl | rfl | rfl | rfl | rfl
  · exact List.mem_of_getElem? (sw_el0 j hj)
  · exact List.mem_of_getElem? (sw_el1 j hj)
  · exact List.mem_of_getElem? (sw_el2 j hj)
  · exact List.mem_of_getElem? (sw_el3 j hj)
  · exact List.mem_of_getElem? (sw_el4 j hj)
  · exact List.mem_of_getElem? (sw_el5 j hj)
  · exact List.mem_of_getElem? (sw_el6 j hj)
  · exact List.mem_of_getElem? (sw_el7 j hj)
  · exact List.mem_of_getElem? (sw_el8 j hj)
  · exact List.mem_of_getElem? (sw_el9 j hj)
  · exact List.mem_of_getElem? (sw_el10 j hj)
  · exact List.mem_of_getElem? (sw_el11 j hj)
  · exact List.mem_of_getElem? (sw_el12 j hj)
  · exact List.mem_of_getElem? (sw_el13 j hj)
  · exact List.mem_of_getElem? (sw_el14 j hj)
theorem sw_ne1 : ∀ i, i < 1 → gvN[[333].getD i 0]? = some (Cond.not (Cond.eq (sTx i) (sTx 1))) := by decide +kernel
theorem sw_ne2 : ∀ i, i < 2 → gvN[[342, 343].getD i 0]? = some (Cond.not (Cond.eq (sTx i) (sTx 2))) := by decide +kernel
theorem sw_ne3 : ∀ i, i < 3 → gvN[[353, 354, 355].getD i 0]? = some (Cond.not (Cond.eq (sTx i) (sTx 3))) := by decide +kernel
theorem sw_ne4 : ∀ i, i < 4 → gvN[[363, 364, 365, 366].getD i 0]? = some (Cond.not (Cond.eq (sTx i) (sTx 4))) := by decide +kernel
theorem sw_ne5 : ∀ i, i < 5 → gvN[[375, 376, 377, 378, 379].getD i 0]? = some (Cond.not (Cond.eq (sTx i) (sTx 5))) := by decide +kernel
theorem sw_ne6 : ∀ i, i < 6 → gvN[[392, 393, 394, 395, 396, 397].getD i 0]? = some (Cond.not (Cond.eq (sTx i) (sTx 6))) := by decide +kernel
theorem sw_ne7 : ∀ i, i < 7 → gvN[[408, 409, 410, 411, 412, 413, 414].getD i 0]? = some (Cond.not (Cond.eq (sTx i) (sTx 7))) := by decide +kernel
theorem sw_ne8 : ∀ i, i < 8 → gvN[[426, 427, 428, 429, 430, 431, 432, 433].getD i 0]? = some (Cond.not (Cond.eq (sTx i) (sTx 8))) := by decide +kernel
theorem sw_ne9 : ∀ i, i < 9 → gvN[[444, 445, 446, 447, 448, 449, 450, 451, 452].getD i 0]? = some (Cond.not (Cond.eq (sTx i) (sTx 9))) := by decide +kernel
theorem sw_ne10 : ∀ i, i < 10 → gvN[[465, 466, 467, 468, 469, 470, 471, 472, 473, 474].getD i 0]? = some (Cond.not (Cond.eq (sTx i) (sTx 10))) := by decide +kernel
theorem sw_ne11 : ∀ i, i < 11 → gvN[[486, 487, 488, 489, 490, 491, 492, 493, 494, 495, 496].getD i 0]? = some (Cond.not (Cond.eq (sTx i) (sTx 11))) := by decide +kernel
theorem sw_ne12 : ∀ i, i < 12 → gvN[[506, 507, 508, 509, 510, 511, 512, 513, 514, 515, 516, 517].getD i 0]? = some (Cond.not (Cond.eq (sTx i) (sTx 12))) := by decide +kernel
theorem sw_ne13 : ∀ i, i < 13 → gvN[[528, 529, 530, 531, 532, 533, 534, 535, 536, 537, 538, 539, 540].getD i 0]? = some (Cond.not (Cond.eq (sTx i) (sTx 13))) := by decide +kernel
theorem sw_ne14 : ∀ i, i < 14 → gvN[[555, 556, 557, 558, 559, 560, 561, 562, 563, 564, 565, 566, 567, 568].getD i 0]? = some (Cond.not (Cond.eq (sTx i) (sTx 14))) := by decide +kernel
theorem sw_lt : ∀ i j, i < j → j < 15 → Cond.not (Cond.eq (sTx i) (sTx j)) ∈ gvN := by
  intro i j hij hj
  rcases (show j = 1 ∨ j = 2 ∨ j = 3 ∨ j = 4 ∨ j = 5 ∨ j = 6 ∨ j = 7 ∨ j = 8 ∨ j = 9 ∨ j = 10 ∨ j = 11 ∨ j = 12 ∨ j = 13 ∨ j = 14 by omega) with rfl | rfl | rfl | rfl | rfl | rfl | rfl | rfl | rfl | rfl | rfl | rfl | rfl | rfl
  · exact List.mem_of_getElem? (sw_ne1 i hij)
  · exact List.mem_of_getElem? (sw_ne2 i hij)
  · exact List.mem_of_getElem? (sw_ne3 i hij)
  · exact List.mem_of_getElem? (sw_ne4 i hij)
  · exact List.mem_of_getElem? (sw_ne5 i hij)
  · exact List.mem_of_getElem? (sw_ne6 i hij)
  · exact List.mem_of_getElem? (sw_ne7 i hij)
  · exact List.mem_of_getElem? (sw_ne8 i hij)
  · exact List.mem_of_getElem? (sw_ne9 i hij)
  · exact List.mem_of_getElem? (sw_ne10 i hij)
  · exact List.mem_of_getElem? (sw_ne11 i hij)
  · exact List.mem_of_getElem? (sw_ne12 i hij)
  · exact List.mem_of_getElem? (sw_ne13 i hij)
  · exact List.mem_of_getElem? (sw_ne14 i hij)
theorem sw_ne : ∀ i, i < 15 → ∀ j, j < 15 → i ≠ j → Cond.not (Cond.eq (sTx i) (sTx j)) ∈ gvN ∨ Cond.not (Cond.eq (sTx j) (sTx i)) ∈ gvN := by
  intro i hi j hj hij
  by_cases g : i < j
  · exact .inl (sw_lt i j g hj)
  · exact .inr (sw_lt j i (by omega) hi)
theorem sw_st : Cond.eq (.static "java/lang/String" "COMPACT_STRINGS" "Z") (.int 1) ∈ gvN ∧ Cond.isRef (.static "jdk/internal/util/Preconditions" "SIOOBE_FORMATTER" "Ljava/util/function/BiFunction;") ∈ gvN ∧ Cond.isRef (.static "java/lang/Throwable" "UNASSIGNED_STACK" "[Ljava/lang/StackTraceElement;") ∈ gvN ∧ Cond.isRef (.static "java/lang/Throwable" "SUPPRESSED_SENTINEL" "Ljava/util/List;") ∈ gvN ∧ Cond.not (.castable "java/lang/IllegalArgumentException" "java/lang/IndexOutOfBoundsException") ∈ gvN := by decide +kernel
theorem sw_al : Cond.arrayOf (.static "java/util/ArrayList" "DEFAULTCAPACITY_EMPTY_ELEMENTDATA" "[Ljava/lang/Object;") (.object "java/lang/Object") ∈ gvN ∧ Cond.exactly (.static "java/util/ArrayList" "DEFAULTCAPACITY_EMPTY_ELEMENTDATA" "[Ljava/lang/Object;") "[Ljava/lang/Object;" ∈ gvN ∧ Cond.eq (.length (.static "java/util/ArrayList" "DEFAULTCAPACITY_EMPTY_ELEMENTDATA" "[Ljava/lang/Object;")) (.int 0) ∈ gvN ∧ Cond.isRef (.mirror "[Ljava/lang/Object;") ∈ gvN := by decide +kernel
theorem sw_DigitOnes : Cond.arrayOf (.static "java/lang/Integer" "DigitOnes" "[B") .byte ∈ gvN ∧ Cond.eq (.length (.static "java/lang/Integer" "DigitOnes" "[B")) (.int 100) ∈ gvN := by decide +kernel
theorem sx_DigitOnes0 : ∀ i, i < 25 → gvN[16 + i]? = some (Cond.eq (.elem (.static "java/lang/Integer" "DigitOnes" "[B") (.int (Int32.ofNat (0 + i)))) (.int (iI ((48 + (0 + i) % 10 : Nat) : Int)))) := by decide +kernel
theorem sx_DigitOnes1 : ∀ i, i < 25 → gvN[41 + i]? = some (Cond.eq (.elem (.static "java/lang/Integer" "DigitOnes" "[B") (.int (Int32.ofNat (25 + i)))) (.int (iI ((48 + (25 + i) % 10 : Nat) : Int)))) := by decide +kernel
theorem sx_DigitOnes2 : ∀ i, i < 25 → gvN[66 + i]? = some (Cond.eq (.elem (.static "java/lang/Integer" "DigitOnes" "[B") (.int (Int32.ofNat (50 + i)))) (.int (iI ((48 + (50 + i) % 10 : Nat) : Int)))) := by decide +kernel
theorem sx_DigitOnes3 : ∀ i, i < 25 → gvN[91 + i]? = some (Cond.eq (.elem (.static "java/lang/Integer" "DigitOnes" "[B") (.int (Int32.ofNat (75 + i)))) (.int (iI ((48 + (75 + i) % 10 : Nat) : Int)))) := by decide +kernel
theorem sx_DigitOnes : ∀ j, j < 100 → Cond.eq (.elem (.static "java/lang/Integer" "DigitOnes" "[B") (.int (Int32.ofNat j))) (.int (iI ((48 + j % 10 : Nat) : Int))) ∈ gvN := by
  intro j hj
  obtain ⟨q, i, hq, hi, rfl⟩ : ∃ q i, q < 4 ∧ i < 25 ∧ j = 25 * q + i := ⟨j / 25, j % 25, by omega, by omega, by omega⟩
  rcases (show q = 0 ∨ q = 1 ∨ q = 2 ∨ q = 3 by omega) with rfl | rfl | rfl | rfl
  · exact List.mem_of_getElem? (sx_DigitOnes0 i hi)
  · exact List.mem_of_getElem? (sx_DigitOnes1 i hi)
  · exact List.mem_of_getElem? (sx_DigitOnes2 i hi)
  · exact List.mem_of_getElem? (sx_DigitOnes3 i hi)
theorem sw_DigitTens : Cond.arrayOf (.static "java/lang/Integer" "DigitTens" "[B") .byte ∈ gvN ∧ Cond.eq (.length (.static "java/lang/Integer" "DigitTens" "[B")) (.int 100) ∈ gvN := by decide +kernel
theorem sx_DigitTens0 : ∀ i, i < 25 → gvN[119 + i]? = some (Cond.eq (.elem (.static "java/lang/Integer" "DigitTens" "[B") (.int (Int32.ofNat (0 + i)))) (.int (iI ((48 + (0 + i) / 10 : Nat) : Int)))) := by decide +kernel
theorem sx_DigitTens1 : ∀ i, i < 25 → gvN[144 + i]? = some (Cond.eq (.elem (.static "java/lang/Integer" "DigitTens" "[B") (.int (Int32.ofNat (25 + i)))) (.int (iI ((48 + (25 + i) / 10 : Nat) : Int)))) := by decide +kernel
theorem sx_DigitTens2 : ∀ i, i < 25 → gvN[169 + i]? = some (Cond.eq (.elem (.static "java/lang/Integer" "DigitTens" "[B") (.int (Int32.ofNat (50 + i)))) (.int (iI ((48 + (50 + i) / 10 : Nat) : Int)))) := by decide +kernel
theorem sx_DigitTens3 : ∀ i, i < 25 → gvN[194 + i]? = some (Cond.eq (.elem (.static "java/lang/Integer" "DigitTens" "[B") (.int (Int32.ofNat (75 + i)))) (.int (iI ((48 + (75 + i) / 10 : Nat) : Int)))) := by decide +kernel
theorem sx_DigitTens : ∀ j, j < 100 → Cond.eq (.elem (.static "java/lang/Integer" "DigitTens" "[B") (.int (Int32.ofNat j))) (.int (iI ((48 + j / 10 : Nat) : Int))) ∈ gvN := by
  intro j hj
  obtain ⟨q, i, hq, hi, rfl⟩ : ∃ q i, q < 4 ∧ i < 25 ∧ j = 25 * q + i := ⟨j / 25, j % 25, by omega, by omega, by omega⟩
  rcases (show q = 0 ∨ q = 1 ∨ q = 2 ∨ q = 3 by omega) with rfl | rfl | rfl | rfl
  · exact List.mem_of_getElem? (sx_DigitTens0 i hi)
  · exact List.mem_of_getElem? (sx_DigitTens1 i hi)
  · exact List.mem_of_getElem? (sx_DigitTens2 i hi)
  · exact List.mem_of_getElem? (sx_DigitTens3 i hi)
theorem sw_sr : ∀ i, i < 15 → ∃ q, xStr[i]? = some q ∧ Cond.stringRef q.1 q.2.1 q.2.2.1 ∈ tables_1 ∧ Term.string q.1 q.2.1 = sTx i ∧ q.2.2.2 = i := by
  intro i hi
  rcases (show i = 0 ∨ i = 1 ∨ i = 2 ∨ i = 3 ∨ i = 4 ∨ i = 5 ∨ i = 6 ∨ i = 7 ∨ i = 8 ∨ i = 9 ∨ i = 10 ∨ i = 11 ∨ i = 12 ∨ i = 13 ∨ i = 14 by omega) with rfl | rfl | rfl | rfl | rfl | rfl | rfl | rfl | rfl | rfl | rfl | rfl | rfl | rfl | rfl
  · exact ⟨_, rfl, (List.mem_of_getElem? (i := 629) (by decide +kernel)), rfl, rfl⟩
  · exact ⟨_, rfl, (List.mem_of_getElem? (i := 636) (by decide +kernel)), rfl, rfl⟩
  · exact ⟨_, rfl, (List.mem_of_getElem? (i := 637) (by decide +kernel)), rfl, rfl⟩
  · exact ⟨_, rfl, (List.mem_of_getElem? (i := 638) (by decide +kernel)), rfl, rfl⟩
  · exact ⟨_, rfl, (List.mem_of_getElem? (i := 639) (by decide +kernel)), rfl, rfl⟩
  · exact ⟨_, rfl, (List.mem_of_getElem? (i := 640) (by decide +kernel)), rfl, rfl⟩
  · exact ⟨_, rfl, (List.mem_of_getElem? (i := 641) (by decide +kernel)), rfl, rfl⟩
  · exact ⟨_, rfl, (List.mem_of_getElem? (i := 741) (by decide +kernel)), rfl, rfl⟩
  · exact ⟨_, rfl, (List.mem_of_getElem? (i := 937) (by decide +kernel)), rfl, rfl⟩
  · exact ⟨_, rfl, (List.mem_of_getElem? (i := 989) (by decide +kernel)), rfl, rfl⟩
  · exact ⟨_, rfl, (List.mem_of_getElem? (i := 990) (by decide +kernel)), rfl, rfl⟩
  · exact ⟨_, rfl, (List.mem_of_getElem? (i := 1028) (by decide +kernel)), rfl, rfl⟩
  · exact ⟨_, rfl, (List.mem_of_getElem? (i := 1030) (by decide +kernel)), rfl, rfl⟩
  · exact ⟨_, rfl, (List.mem_of_getElem? (i := 1032) (by decide +kernel)), rfl, rfl⟩
  · exact ⟨_, rfl, (List.mem_of_getElem? (i := 1082) (by decide +kernel)), rfl, rfl⟩
theorem sw_nest : ∀ q ∈ xNest, Cond.methodLinkNest q.1 q.2.1 q.2.2.1 q.2.2.2 ∈ tables_1 := by
  show ∀ q ∈ xNest, _
  unfold xNest
  exact List.forall_mem_cons.mpr ⟨(List.mem_of_getElem? (i := 143) (by decide +kernel)), List.forall_mem_cons.mpr ⟨(List.mem_of_getElem? (i := 149) (by decide +kernel)), List.forall_mem_cons.mpr ⟨(List.mem_of_getElem? (i := 183) (by decide +kernel)), List.forall_mem_cons.mpr ⟨(List.mem_of_getElem? (i := 312) (by decide +kernel)), List.forall_mem_cons.mpr ⟨(List.mem_of_getElem? (i := 358) (by decide +kernel)), List.forall_mem_cons.mpr ⟨(List.mem_of_getElem? (i := 427) (by decide +kernel)), List.forall_mem_cons.mpr ⟨(List.mem_of_getElem? (i := 440) (by decide +kernel)), List.forall_mem_cons.mpr ⟨(List.mem_of_getElem? (i := 445) (by decide +kernel)), List.forall_mem_cons.mpr ⟨(List.mem_of_getElem? (i := 448) (by decide +kernel)), List.forall_mem_cons.mpr ⟨(List.mem_of_getElem? (i := 732) (by decide +kernel)), fun _ h => absurd h List.not_mem_nil⟩⟩⟩⟩⟩⟩⟩⟩⟩⟩
theorem sw_cast : ∀ q ∈ xCast, Cond.castable q q ∈ tables_1 := by
  show ∀ q ∈ xCast, _
  unfold xCast
  exact List.forall_mem_cons.mpr ⟨(List.mem_of_getElem? (i := 1145) (by decide +kernel)), List.forall_mem_cons.mpr ⟨(List.mem_of_getElem? (i := 1233) (by decide +kernel)), fun _ h => absurd h List.not_mem_nil⟩⟩
theorem sw_decl : ∀ q ∈ xDecl, Cond.declares q ∈ tables_1 := by
  show ∀ q ∈ xDecl, _
  unfold xDecl
  exact List.forall_mem_cons.mpr ⟨(List.mem_of_getElem? (i := 1146) (by decide +kernel)), List.forall_mem_cons.mpr ⟨(List.mem_of_getElem? (i := 1148) (by decide +kernel)), List.forall_mem_cons.mpr ⟨(List.mem_of_getElem? (i := 1150) (by decide +kernel)), fun _ h => absurd h List.not_mem_nil⟩⟩⟩
theorem sw_pair : ∀ q ∈ xPair, Cond.castable q.1 q.2 ∈ tables_1 := by
  show ∀ q ∈ xPair, _
  unfold xPair
  exact List.forall_mem_cons.mpr ⟨(List.mem_of_getElem? (i := 781) (by decide +kernel)), List.forall_mem_cons.mpr ⟨(List.mem_of_getElem? (i := 1116) (by decide +kernel)), List.forall_mem_cons.mpr ⟨(List.mem_of_getElem? (i := 1324) (by decide +kernel)), List.forall_mem_cons.mpr ⟨(List.mem_of_getElem? (i := 1339) (by decide +kernel)), List.forall_mem_cons.mpr ⟨(List.mem_of_getElem? (i := 1764) (by decide +kernel)), List.forall_mem_cons.mpr ⟨(List.mem_of_getElem? (i := 1771) (by decide +kernel)), List.forall_mem_cons.mpr ⟨(List.mem_of_getElem? (i := 1772) (by decide +kernel)), List.forall_mem_cons.mpr ⟨(List.mem_of_getElem? (i := 1775) (by decide +kernel)), List.forall_mem_cons.mpr ⟨(List.mem_of_getElem? (i := 1776) (by decide +kernel)), List.forall_mem_cons.mpr ⟨(List.mem_of_getElem? (i := 1777) (by decide +kernel)), List.forall_mem_cons.mpr ⟨(List.mem_of_getElem? (i := 1778) (by decide +kernel)), List.forall_mem_cons.mpr ⟨(List.mem_of_getElem? (i := 1779) (by decide +kernel)), List.forall_mem_cons.mpr ⟨(List.mem_of_getElem? (i := 1780) (by decide +kernel)), List.forall_mem_cons.mpr ⟨(List.mem_of_getElem? (i := 1785) (by decide +kernel)), List.forall_mem_cons.mpr ⟨(List.mem_of_getElem? (i := 1786) (by decide +kernel)), List.forall_mem_cons.mpr ⟨(List.mem_of_getElem? (i := 1789) (by decide +kernel)), List.forall_mem_cons.mpr ⟨(List.mem_of_getElem? (i := 1790) (by decide +kernel)), List.forall_mem_cons.mpr ⟨(List.mem_of_getElem? (i := 1791) (by decide +kernel)), List.forall_mem_cons.mpr ⟨(List.mem_of_getElem? (i := 1792) (by decide +kernel)), fun _ h => absurd h List.not_mem_nil⟩⟩⟩⟩⟩⟩⟩⟩⟩⟩⟩⟩⟩⟩⟩⟩⟩⟩⟩
theorem i32_back (x : Int32) : Int32.ofInt (x.toBitVec.toNat : Int) = x := by
  apply Int32.toBitVec_inj.mp
  rw [Int32.toBitVec_ofInt, BitVec.ofInt_natCast, BitVec.ofNat_toNat, BitVec.setWidth_eq]
def ofs (k i : Nat) : Nat := lsL.findIdx (fun q => q.1 == k && q.2 == i)
theorem ofs_ok : ∀ t, t < 342 → ∃ q, lsL[t]? = some q ∧ ofs q.1 q.2 = t := by
  have h : ∀ t, t < 342 → (match lsL[t]? with | some q => ofs q.1 q.2 == t | none => false) = true := by decide +kernel
  intro t ht
  have a := h t ht
  cases e : lsL[t]? with
  | none => rw [e] at a; cases a
  | some q => rw [e] at a; exact ⟨q, rfl, beq_iff_eq.mp a⟩
theorem lsL_len : lsL.length = 342 := by decide +kernel
theorem lsL_51 : ∀ q ∈ lsL, q.1 < 51 := by decide +kernel
theorem HA_of {G : GG} : ∀ (l : List (Nat × Nat)) (n : Nat), (∀ t q, l[t]? = some q → gad G q.1 q.2 = n + t) → HA G n l := by
  intro l
  induction l with
  | nil => intro n _; exact trivial
  | cons a l ih =>
    intro n h
    exact ⟨h 0 a rfl, ih (n + 1) (fun t q hq => by have := h (t + 1) q hq; omega)⟩
theorem HA_ls {G : GG} (n : Nat) (hg : ∀ k i, k < 51 → gad G k i = n + ofs k i) : HA G n lsL := HA_of lsL n (fun t q hq => by
  have ht : t < 342 := by rw [← lsL_len]; exact (List.getElem?_eq_some_iff.mp hq).1
  obtain ⟨q', e1, e2⟩ := ofs_ok t ht
  rw [hq] at e1
  cases e1
  rw [hg _ _ (lsL_51 q (List.mem_of_getElem? hq)), e2])
/-- the arrays' classes -/
theorem tg_ok {s : State} {args : Array Value} (hts : ∀ w ∈ tables_1, w.before args s = true) : ∀ t : Nat, ∃ cA : ClassId, t < 9 → ArrOfT s cA (tgTy t) ∧ va_RA s cA (tgTy t) := by
  intro t
  match t with
  | 0 =>
    obtain ⟨cA, kA, comp, h1, h2, h3⟩ := Cond.arrayClass_spec (hts (.arrayClass .int) (List.mem_of_getElem? (i := 136) (by decide +kernel)))
    exact ⟨cA, fun _ => ⟨fun N z => ⟨fun k h => (by cases h), kA, h2, comp, h3⟩, h1⟩⟩
  | 1 =>
    obtain ⟨cA, kA, comp, h1, h2, h3⟩ := Cond.arrayClass_spec (hts (.arrayClass .byte) (List.mem_of_getElem? (i := 349) (by decide +kernel)))
    exact ⟨cA, fun _ => ⟨fun N z => ⟨fun k h => (by cases h), kA, h2, comp, h3⟩, h1⟩⟩
  | 2 =>
    obtain ⟨cA, kA, comp, h1, h2, h3⟩ := Cond.arrayClass_spec (hts (.arrayClass .boolean) (List.mem_of_getElem? (i := 390) (by decide +kernel)))
    exact ⟨cA, fun _ => ⟨fun N z => ⟨fun k h => (by cases h), kA, h2, comp, h3⟩, h1⟩⟩
  | 3 =>
    obtain ⟨cA, kA, comp, h1, h2, h3⟩ := Cond.arrayClass_spec (hts (.arrayClass .long) (List.mem_of_getElem? (i := 1297) (by decide +kernel)))
    exact ⟨cA, fun _ => ⟨fun N z => ⟨fun k h => (by cases h), kA, h2, comp, h3⟩, h1⟩⟩
  | 4 =>
    obtain ⟨cA, kA, comp, h1, h2, h3⟩ := Cond.arrayClass_spec (hts (.arrayClass .int) (List.mem_of_getElem? (i := 136) (by decide +kernel)))
    exact ⟨cA, fun _ => ⟨fun N z => ⟨fun k h => (by cases h), kA, h2, comp, h3⟩, h1⟩⟩
  | 5 =>
    obtain ⟨comp, cA, kA, h1, -, h3, h4, h5⟩ := Cond.arrayOver_spec (hts (.arrayOver (.object "PackLoans$State")) (List.mem_of_getElem? (i := 357) (by decide +kernel)))
    exact ⟨cA, fun _ => ⟨fun N z => ⟨fun k h => (by cases h), kA, h3, comp, h4⟩, ⟨kA, comp, h3, h4, h1, h5⟩⟩⟩
  | 6 =>
    obtain ⟨comp, cA, kA, h1, -, h3, h4, h5⟩ := Cond.arrayOver_spec (hts (.arrayOver (.object "PackLoans$World")) (List.mem_of_getElem? (i := 370) (by decide +kernel)))
    exact ⟨cA, fun _ => ⟨fun N z => ⟨fun k h => (by cases h), kA, h3, comp, h4⟩, ⟨kA, comp, h3, h4, h1, h5⟩⟩⟩
  | 7 =>
    obtain ⟨comp, cA, kA, h1, -, h3, h4, h5⟩ := Cond.arrayOver_spec (hts (.arrayOver (.object "java/lang/Object")) (List.mem_of_getElem? (i := 933) (by decide +kernel)))
    exact ⟨cA, fun _ => ⟨fun N z => ⟨fun k h => (by cases h), kA, h3, comp, h4⟩, ⟨kA, comp, h3, h4, h1, h5⟩⟩⟩
  | 8 =>
    obtain ⟨comp, cA, kA, h1, -, h3, h4, h5⟩ := Cond.arrayOver_spec (hts (.arrayOver (.object "PackLoansLaw$World")) (List.mem_of_getElem? (i := 1750) (by decide +kernel)))
    exact ⟨cA, fun _ => ⟨fun N z => ⟨fun k h => (by cases h), kA, h3, comp, h4⟩, ⟨kA, comp, h3, h4, h1, h5⟩⟩⟩
  | t + 9 => exact ⟨0, fun h => absurd h (by omega)⟩
theorem kn_ok {s : State} {args : Array Value} (hts : ∀ w ∈ tables_1, w.before args s = true) : ∀ k : Nat, ∃ c : ClassId × (Nat → Nat), ∀ q, vwCl[k]? = some q → u_Kn s q.1 q.2.1 q.2.2 c.1 c.2 := by
  intro k
  match k with
  | 0 =>
    obtain ⟨cC, iS, h⟩ := u_known (C := RJ0) (T := TJ0) (N := 4) (n := 4) hts ul_0 (hts (.instantiable RJ0 4) (List.mem_of_getElem? (i := 1677) (by decide +kernel)))
    exact ⟨(cC, iS), fun q hq => by cases hq; exact h⟩
  | 1 =>
    obtain ⟨cC, iS, h⟩ := u_known (C := RJ4) (T := TJ4) (N := 4) (n := 4) hts ul_1 (hts (.instantiable RJ4 4) (List.mem_of_getElem? (i := 1652) (by decide +kernel)))
    exact ⟨(cC, iS), fun q hq => by cases hq; exact h⟩
  | 2 =>
    obtain ⟨cC, iS, h⟩ := u_known (C := RJx35411) (T := TJx35411) (N := 4) (n := 4) hts ul_2 (hts (.instantiable RJx35411 4) (List.mem_of_getElem? (i := 1094) (by decide +kernel)))
    exact ⟨(cC, iS), fun q hq => by cases hq; exact h⟩
  | 3 =>
    obtain ⟨cC, iS, h⟩ := u_known (C := RJx4a65c) (T := TJx4a65c) (N := 3) (n := 3) hts ul_3 (hts (.instantiable RJx4a65c 3) (List.mem_of_getElem? (i := 453) (by decide +kernel)))
    exact ⟨(cC, iS), fun q hq => by cases hq; exact h⟩
  | 4 =>
    obtain ⟨cC, iS, h⟩ := u_known (C := RX0) (T := TX0) (N := 3) (n := 3) hts ul_4 (hts (.instantiable RX0 3) (List.mem_of_getElem? (i := 351) (by decide +kernel)))
    exact ⟨(cC, iS), fun q hq => by cases hq; exact h⟩
  | 5 =>
    obtain ⟨cC, iS, h⟩ := u_known (C := RX1) (T := TX1) (N := 8) (n := 8) hts ul_5 (hts (.instantiable RX1 8) (List.mem_of_getElem? (i := 182) (by decide +kernel)))
    exact ⟨(cC, iS), fun q hq => by cases hq; exact h⟩
  | 6 =>
    obtain ⟨cC, iS, h⟩ := u_known (C := RX2) (T := TX2) (N := 17) (n := 17) hts ul_6 (hts (.instantiable RX2 17) (List.mem_of_getElem? (i := 47) (by decide +kernel)))
    exact ⟨(cC, iS), fun q hq => by cases hq; exact h⟩
  | 7 =>
    obtain ⟨cC, iS, h⟩ := u_known (C := RX3) (T := TX3) (N := 8) (n := 8) hts ul_7 (hts (.instantiable RX3 8) (List.mem_of_getElem? (i := 311) (by decide +kernel)))
    exact ⟨(cC, iS), fun q hq => by cases hq; exact h⟩
  | 8 =>
    obtain ⟨cC, iS, h⟩ := u_known (C := RX4) (T := TX4) (N := 14) (n := 14) hts ul_8 (hts (.instantiable RX4 14) (List.mem_of_getElem? (i := 142) (by decide +kernel)))
    exact ⟨(cC, iS), fun q hq => by cases hq; exact h⟩
  | 9 =>
    obtain ⟨cC, iS, h⟩ := u_known (C := RX5) (T := TX5) (N := 5) (n := 5) hts ul_9 (hts (.instantiable RX5 5) (List.mem_of_getElem? (i := 148) (by decide +kernel)))
    exact ⟨(cC, iS), fun q hq => by cases hq; exact h⟩
  | 10 =>
    obtain ⟨cC, iS, h⟩ := u_known (C := RX6) (T := TX6) (N := 2) (n := 2) hts ul_10 (hts (.instantiable RX6 2) (List.mem_of_getElem? (i := 45) (by decide +kernel)))
    exact ⟨(cC, iS), fun q hq => by cases hq; exact h⟩
  | 11 =>
    obtain ⟨cC, iS, h⟩ := u_known (C := RX7) (T := TX7) (N := 6) (n := 6) hts ul_11 (hts (.instantiable RX7 6) (List.mem_of_getElem? (i := 37) (by decide +kernel)))
    exact ⟨(cC, iS), fun q hq => by cases hq; exact h⟩
  | 12 =>
    obtain ⟨cC, iS, h⟩ := u_known (C := RX8) (T := TX8) (N := 6) (n := 6) hts ul_12 (hts (.instantiable RX8 6) (List.mem_of_getElem? (i := 992) (by decide +kernel)))
    exact ⟨(cC, iS), fun q hq => by cases hq; exact h⟩
  | 13 =>
    obtain ⟨cC, iS, h⟩ := u_known (C := RX9) (T := TX9) (N := 6) (n := 6) hts ul_13 (hts (.instantiable RX9 6) (List.mem_of_getElem? (i := 1047) (by decide +kernel)))
    exact ⟨(cC, iS), fun q hq => by cases hq; exact h⟩
  | 14 =>
    obtain ⟨cC, iS, h⟩ := u_known (C := RX10) (T := TX10) (N := 7) (n := 7) hts ul_14 (hts (.instantiable RX10 7) (List.mem_of_getElem? (i := 1368) (by decide +kernel)))
    exact ⟨(cC, iS), fun q hq => by cases hq; exact h⟩
  | 15 =>
    obtain ⟨cC, iS, h⟩ := u_known (C := RX11) (T := TX11) (N := 7) (n := 7) hts ul_15 (hts (.instantiable RX11 7) (List.mem_of_getElem? (i := 948) (by decide +kernel)))
    exact ⟨(cC, iS), fun q hq => by cases hq; exact h⟩
  | 16 =>
    obtain ⟨cC, iS, h⟩ := u_known (C := RX12) (T := TX12) (N := 14) (n := 14) hts ul_16 (hts (.instantiable RX12 14) (List.mem_of_getElem? (i := 447) (by decide +kernel)))
    exact ⟨(cC, iS), fun q hq => by cases hq; exact h⟩
  | k + 17 => exact ⟨(0, fun _ => 0), fun q hq => by cases hq⟩
theorem sel_below {y z : MethodName} {C : String} {s : State} {args : Array Value} {n : Nat} (hy : y.cls ≠ "java/lang/invoke/MethodHandle" ∧ y.cls ≠ "java/lang/invoke/VarHandle") (hins : (Cond.instantiable C n).before args s = true) (hpriv : (Cond.privateMethod y).before args s = true) (hinst : (Cond.instanceMethod y).before args s = true) (hz : (Cond.selects C z z).before args s = true) (hzy : z.cls = y.cls) : (Cond.selects C y y).before args s = true := by
  obtain ⟨c, k, hc, hk, -, hniab, -, -⟩ := Cond.instantiable_spec hins
  obtain ⟨c2, r2, m2, hc2, -, hn2, -, kz, hkz, hkzi⟩ := Cond.selects_spec hz
  obtain ⟨mk, methM, hnamed, hmethM, -, -⟩ := Cond.instanceMethod_spec hinst
  have hfound : s.methodFound? y.cls y.name y.desc = some mk := State.methodFound?_of_named hnamed hy
  have hcls : mk.cls = m2.cls := Option.some.inj ((findClass_of_methodNamed hnamed).symm.trans (by rw [← hzy]; exact findClass_of_methodNamed hn2))
  have hsel : selectMethod {} s.vm c mk = .method mk := selectMethod_private hmethM (Cond.privateMethod_at hpriv mk methM hnamed hmethM)
  simp only [Cond.before, Cond.holds, Cond.value, hc, hfound, hnamed, hsel, hcls, hkz]
  simp; exact hkzi
theorem lw_subok : ∀ y ∈ lw_sub, (y.cls ≠ "java/lang/invoke/MethodHandle" ∧ y.cls ≠ "java/lang/invoke/VarHandle") ∧ Cond.privateMethod y ∈ tables_1 ∧ Cond.instanceMethod y ∈ tables_1 ∧ y.cls = "java/lang/AbstractStringBuilder" := by
  show ∀ y ∈ lw_sub, _
  unfold lw_sub
  exact List.forall_mem_cons.mpr ⟨⟨⟨by decide, by decide⟩, (List.mem_of_getElem? (i := 755) (by decide +kernel)), (List.mem_of_getElem? (i := 756) (by decide +kernel)), rfl⟩, List.forall_mem_cons.mpr ⟨⟨⟨by decide, by decide⟩, (List.mem_of_getElem? (i := 759) (by decide +kernel)), (List.mem_of_getElem? (i := 760) (by decide +kernel)), rfl⟩, List.forall_mem_cons.mpr ⟨⟨⟨by decide, by decide⟩, (List.mem_of_getElem? (i := 808) (by decide +kernel)), (List.mem_of_getElem? (i := 809) (by decide +kernel)), rfl⟩, List.forall_mem_cons.mpr ⟨⟨⟨by decide, by decide⟩, (List.mem_of_getElem? (i := 812) (by decide +kernel)), (List.mem_of_getElem? (i := 813) (by decide +kernel)), rfl⟩, fun _ h => absurd h List.not_mem_nil⟩⟩⟩⟩
theorem lw_bel {s : State} {args : Array Value} (hts : ∀ w ∈ tables_1, w.before args s = true) : ∀ w ∈ lw_below, w.before args s = true := by
  intro w hw
  obtain ⟨y, hy, rfl⟩ := List.mem_map.mp hw
  obtain ⟨h1, h2, h3, h4⟩ := lw_subok y hy
  exact sel_below (n := 4) (z := ⟨"java/lang/AbstractStringBuilder", "isLatin1", "()Z"⟩) h1 (hts _ (List.mem_of_getElem? (i := 1652) (by decide +kernel))) (hts _ h2) (hts _ h3) (hts _ (List.mem_of_getElem? (i := 788) (by decide +kernel))) h4.symm
