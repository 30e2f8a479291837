def cntC (m : Mem) (w : Int) : Int := if w = 0 then m 22 0 2 else if w = 1 then m 22 0 3 else if w = 2 then m 22 0 5 else if w = 3 then m 22 0 4 else if w = 4 then m 1 0 0 else if w = 5 then m 22 0 6 else if w = 6 then m 2 0 0 else if w = 7 then sm (openC m 0) (m 2 0 0).toNat else m 36 0 0
def pckC (m : Mem) (q w : Int) : Int := if w = 0 then m 23 0 q else if w = 1 then roomC m 0 0 q else if w = 2 then m 3 0 q else if w = 3 then m 4 0 q else if w = 4 then m 24 0 q else if w = 5 then m 5 0 q else if w = 6 then sm (numC m 0 q 1) (m 1 0 0).toNat else if w = 7 then sm (numC m 0 q 2) (m 1 0 0).toNat else quartC m 0 0 q
def cabC (m : Mem) (c w : Int) : Int := if c = -1 then -1 else if w = 0 then m 6 0 c else if w = 1 then m 7 0 c else if w = 2 then m 8 0 c else m 9 0 c
def triC (m : Mem) (t w : Int) : Int := if w = 0 then m 11 0 t else if w = 1 then m 12 0 t else if w = 2 then m 13 0 t else m 14 0 t
def conC (m : Mem) (c w : Int) : Int := if w = 0 then m 28 0 c else if w = 1 then m 29 0 c else if w = 2 then m 30 0 c else if w = 3 then m 31 0 c else if w = 4 then m 32 0 c else if w = 5 then sm (outC m 0 0 c) (m 2 0 0).toNat else if w = 6 then sm (openByC m 0 c) (m 2 0 0).toNat else if w = 7 then m 10 0 c else if w = 8 then sm (byC m 0 17 c) (m 2 0 0).toNat else sm (byC m 0 19 c) (m 2 0 0).toNat
def loaC (m : Mem) (l w : Int) : Int := if w = 0 then m 15 0 l else if w = 1 then m 16 0 l else if w = 2 then m 17 0 l else if w = 3 then m 18 0 l else if w = 4 then m 19 0 l else if w = 5 then owedC m 0 0 l else if w = 6 then m 20 0 l else m 21 0 l
theorem P_count {G : GG} {m : Mem} (hP : BP m 0) (hB : BS m 0 0) {a0 : Int} (ha0 : inI a0) (h0 : 0 ≤ a0 ∧ a0 ≤ 8) : Ct G MX7_count (rmD 9) [rf G 38 0, .int (iI a0)] (hp (m)) (.inl (some (.int (iI (cntC m a0))))) (hp (m)) := by
  refine x_entry (by decide +kernel) mwX7_count rfl (Nat.le_of_ble_eq_true rfl) ?_
  show X G MX7_count (rmD 9) 0 [(0, rf G 38 0), (1, .int (iI a0))] [] (hp (m)) 0 0 (.inl (some (.int (iI (cntC m a0))))) (hp (m))
  have n8 := hP.2.2.1
  have n4 := hP.2.2.2.1
  have n12 := hP.2.2.2.2.2.1
  have nc8 := hP.2.2.2.2.2.2.1
  have tb := hB.1
  have nt16 := hB.2.2.2.1.1
  have nl16 := hB.2.2.2.2.1.1
  have hLF : ∀ l, 0 ≤ l → l < m 2 0 0 → LF m 0 0 l := fun l a b => BS_lf hP hB a b
  refine x_iload_n (pc := 0) dX7_count_0 1 rfl ?_
  refine x_iconst (pc := 1) dX7_count_1 ?_
  refine x_bipush (pc := 2) (z := 8) dX7_count_2 (by decide) ?_
  refine x_callS (pc := 4) _ dX7_count_4 (ct_ckR ha0 (by unfold inI; omega) (by unfold inI; omega) h0) lkX7_80 rfl (by decide) (Nat.le_of_ble_eq_true rfl) rfl ?_
  refine x_iload_n (pc := 7) dX7_count_7 1 rfl ?_
  by_cases w0 : a0 = 0
  · subst w0
    refine x_tabIn (pc := 8) 56 dX7_count_8 (by unfold inI; omega) (by decide) (by decide) rfl (by decide) ?_
    refine x_aload_n (pc := 56) dX7_count_56 0 rfl ?_
    refine y_getR (pc := 57) dX7_count_57 flX7_15 rfl rfl rfl (by decide) ?_
    refine y_getR (pc := 60) (b := 0) dX7_count_60 flX7_21 rfl rfl rfl (by decide) ?_
    refine y_getI (pc := 63) 2 dX7_count_63 flX7_74 rfl rfl rfl (by decide) ?_
    exact y_iret (pc := 66) dX7_count_66 rfl rfl rfl
  by_cases w1 : a0 = 1
  · subst w1
    refine x_tabIn (pc := 8) 67 dX7_count_8 (by unfold inI; omega) (by decide) (by decide) rfl (by decide) ?_
    refine x_aload_n (pc := 67) dX7_count_67 0 rfl ?_
    refine y_getR (pc := 68) dX7_count_68 flX7_15 rfl rfl rfl (by decide) ?_
    refine y_getR (pc := 71) (b := 0) dX7_count_71 flX7_21 rfl rfl rfl (by decide) ?_
    refine y_getI (pc := 74) 3 dX7_count_74 flX7_84 rfl rfl rfl (by decide) ?_
    exact y_iret (pc := 77) dX7_count_77 rfl rfl rfl
  by_cases w2 : a0 = 2
  · subst w2
    refine x_tabIn (pc := 8) 78 dX7_count_8 (by unfold inI; omega) (by decide) (by decide) rfl (by decide) ?_
    refine x_aload_n (pc := 78) dX7_count_78 0 rfl ?_
    refine y_getR (pc := 79) dX7_count_79 flX7_15 rfl rfl rfl (by decide) ?_
    refine y_getR (pc := 82) (b := 0) dX7_count_82 flX7_21 rfl rfl rfl (by decide) ?_
    refine y_getI (pc := 85) 5 dX7_count_85 flX7_87 rfl rfl rfl (by decide) ?_
    exact y_iret (pc := 88) dX7_count_88 rfl rfl rfl
  by_cases w3 : a0 = 3
  · subst w3
    refine x_tabIn (pc := 8) 89 dX7_count_8 (by unfold inI; omega) (by decide) (by decide) rfl (by decide) ?_
    refine x_aload_n (pc := 89) dX7_count_89 0 rfl ?_
    refine y_getR (pc := 90) dX7_count_90 flX7_15 rfl rfl rfl (by decide) ?_
    refine y_getR (pc := 93) (b := 0) dX7_count_93 flX7_21 rfl rfl rfl (by decide) ?_
    refine y_getI (pc := 96) 4 dX7_count_96 flX7_90 rfl rfl rfl (by decide) ?_
    exact y_iret (pc := 99) dX7_count_99 rfl rfl rfl
  by_cases w4 : a0 = 4
  · subst w4
    refine x_tabIn (pc := 8) 100 dX7_count_8 (by unfold inI; omega) (by decide) (by decide) rfl (by decide) ?_
    refine x_aload_n (pc := 100) dX7_count_100 0 rfl ?_
    refine y_getR (pc := 101) dX7_count_101 flX7_15 rfl rfl rfl (by decide) ?_
    refine y_getR (pc := 104) (b := 0) dX7_count_104 flX7_93 rfl rfl rfl (by decide) ?_
    refine y_getR (pc := 107) dX7_count_107 flX7_97 rfl rfl rfl (by decide) ?_
    refine y_getI (pc := 110) 0 dX7_count_110 flX7_103 rfl rfl rfl (by decide) ?_
    exact y_iret (pc := 113) dX7_count_113 rfl rfl rfl
  by_cases w5 : a0 = 5
  · subst w5
    refine x_tabIn (pc := 8) 114 dX7_count_8 (by unfold inI; omega) (by decide) (by decide) rfl (by decide) ?_
    refine x_aload_n (pc := 114) dX7_count_114 0 rfl ?_
    refine y_getR (pc := 115) dX7_count_115 flX7_15 rfl rfl rfl (by decide) ?_
    refine y_getR (pc := 118) (b := 0) dX7_count_118 flX7_21 rfl rfl rfl (by decide) ?_
    refine y_getI (pc := 121) 6 dX7_count_121 flX7_108 rfl rfl rfl (by decide) ?_
    exact y_iret (pc := 124) dX7_count_124 rfl rfl rfl
  by_cases w6 : a0 = 6
  · subst w6
    refine x_tabIn (pc := 8) 125 dX7_count_8 (by unfold inI; omega) (by decide) (by decide) rfl (by decide) ?_
    refine x_aload_n (pc := 125) dX7_count_125 0 rfl ?_
    refine y_getR (pc := 126) dX7_count_126 flX7_15 rfl rfl rfl (by decide) ?_
    refine y_getR (pc := 129) (b := 0) dX7_count_129 flX7_93 rfl rfl rfl (by decide) ?_
    refine y_getR (pc := 132) dX7_count_132 flX7_111 rfl rfl rfl (by decide) ?_
    refine y_getI (pc := 135) 0 dX7_count_135 flX7_115 rfl rfl rfl (by decide) ?_
    exact y_iret (pc := 138) dX7_count_138 rfl rfl rfl
  by_cases w7 : a0 = 7
  · subst w7
    refine x_tabIn (pc := 8) 139 dX7_count_8 (by unfold inI; omega) (by decide) (by decide) rfl (by decide) ?_
    refine x_aload_n (pc := 139) dX7_count_139 0 rfl ?_
    refine y_getR (pc := 140) dX7_count_140 flX7_15 rfl rfl rfl (by decide) ?_
    refine x_callV (pc := 143) _ dX7_count_143 (ct_openLoans (w := 0) (by decide) nl16 (fun l a b => by have := (hLF l a b).2.2.2.2.2.1; unfold inI; omega)) lkX7_118 rfl rfl rfl rfl (mem_dom0 (by decide) (by decide)) (by decide) (Nat.le_of_ble_eq_true rfl) rfl ?_
    exact y_iret (pc := 146) dX7_count_146 rfl rfl rfl
  refine x_tabOut (pc := 8) 147 dX7_count_8 (by unfold inI; omega) (by omega) (by decide) ?_
  refine x_aload_n (pc := 147) dX7_count_147 0 rfl ?_
  refine y_getR (pc := 148) dX7_count_148 flX7_38 rfl rfl rfl (by decide) ?_
  refine y_getI (pc := 151) 0 dX7_count_151 flX7_122 rfl rfl rfl (by decide) ?_
  exact y_iret (pc := 154) dX7_count_154 rfl (by unfold cntC; rw [if_neg w0, if_neg w1, if_neg w2, if_neg w3, if_neg w4, if_neg w5, if_neg w6, if_neg w7]) rfl
theorem Px_count_0 {G : GG} {m : Mem} (hP : BP m 0) (hB : BS m 0 0) {a0 : Int} (ha0 : inI a0)  (h0 : ¬ (0 ≤ a0 ∧ a0 ≤ 8)) : Ct G MX7_count (rmE 1) [rf G 38 0, .int (iI a0)] (hp (m)) (.inr iaE) (hp (m)) := by
  refine x_entry (by decide +kernel) mwX7_count rfl (Nat.le_of_ble_eq_true rfl) ?_
  show X G MX7_count (rmE 1) 0 [(0, rf G 38 0), (1, .int (iI a0))] [] (hp (m)) 0 0 (.inr iaE) (hp (m))
  have n8 := hP.2.2.1
  have n4 := hP.2.2.2.1
  have n12 := hP.2.2.2.2.2.1
  have nc8 := hP.2.2.2.2.2.2.1
  have tb := hB.1
  have nt16 := hB.2.2.2.1.1
  have nl16 := hB.2.2.2.2.1.1
  refine x_iload_n (pc := 0) dX7_count_0 1 rfl ?_
  refine x_iconst (pc := 1) dX7_count_1 ?_
  refine x_bipush (pc := 2) (z := 8) dX7_count_2 (by decide) ?_
  exact x_callSX (pc := 4) _ dX7_count_4 (ct_ckRx ha0 (by unfold inI; omega) (by unfold inI; omega) h0) lkX7_80 rfl rfl (by decide) (Nat.le_of_ble_eq_true rfl) rfl
theorem P_pack {G : GG} {m : Mem} (hP : BP m 0) (hB : BS m 0 0) {a0 a1 : Int} (ha0 : inI a0) (ha1 : inI a1) (h0 : 0 ≤ a0 ∧ a0 < m 22 0 2) (h1 : 0 ≤ a1 ∧ a1 ≤ 8) : Ct G MX7_pack (rmD 9) [rf G 38 0, .int (iI a0), .int (iI a1)] (hp (m)) (.inl (some (.int (iI (pckC m a0 a1))))) (hp (m)) := by
  refine x_entry (by decide +kernel) mwX7_pack rfl (Nat.le_of_ble_eq_true rfl) ?_
  show X G MX7_pack (rmD 9) 0 [(0, rf G 38 0), (1, .int (iI a0)), (2, .int (iI a1))] [] (hp (m)) 0 0 (.inl (some (.int (iI (pckC m a0 a1))))) (hp (m))
  have n8 := hP.2.2.1
  have n4 := hP.2.2.2.1
  have n12 := hP.2.2.2.2.2.1
  have nc8 := hP.2.2.2.2.2.2.1
  have tb := hB.1
  have nt16 := hB.2.2.2.1.1
  have nl16 := hB.2.2.2.2.1.1
  have pq := BS_pf hP hB h0.1 h0.2
  have bq := hB.2.1 _ h0.1 h0.2
  refine x_iload_n (pc := 0) dX7_pack_0 1 rfl ?_
  refine x_aload_n (pc := 1) dX7_pack_1 0 rfl ?_
  refine y_getR (pc := 2) dX7_pack_2 flX7_15 rfl rfl rfl (by decide) ?_
  refine y_getR (pc := 5) (b := 0) dX7_pack_5 flX7_21 rfl rfl rfl (by decide) ?_
  refine y_getI (pc := 8) 2 dX7_pack_8 flX7_74 rfl rfl rfl (by decide) ?_
  refine x_callS (pc := 11) _ dX7_pack_11 (ct_ckI ha0 (by unfold inI; omega) h0) lkX7_123 rfl (by decide) (Nat.le_of_ble_eq_true rfl) rfl ?_
  refine x_iload_n (pc := 14) dX7_pack_14 2 rfl ?_
  refine x_iconst (pc := 15) dX7_pack_15 ?_
  refine x_bipush (pc := 16) (z := 8) dX7_pack_16 (by decide) ?_
  refine x_callS (pc := 18) _ dX7_pack_18 (ct_ckR ha1 (by unfold inI; omega) (by unfold inI; omega) h1) lkX7_80 rfl (by decide) (Nat.le_of_ble_eq_true rfl) rfl ?_
  refine x_iload_n (pc := 21) dX7_pack_21 2 rfl ?_
  by_cases w0 : a1 = 0
  · subst w0
    refine x_tabIn (pc := 22) 68 dX7_pack_22 (by unfold inI; omega) (by decide) (by decide) rfl (by decide) ?_
    refine x_aload_n (pc := 68) dX7_pack_68 0 rfl ?_
    refine y_getR (pc := 69) dX7_pack_69 flX7_15 rfl rfl rfl (by decide) ?_
    refine y_getR (pc := 72) (b := 0) dX7_pack_72 flX7_21 rfl rfl rfl (by decide) ?_
    refine y_getR (pc := 75) dX7_pack_75 flX7_127 rfl rfl rfl (by decide) ?_
    refine x_iload_n (pc := 78) dX7_pack_78 1 rfl ?_
    refine y_iald (pc := 79) dX7_pack_79 rfl (by decide) (by omega) ?_
    exact y_iret (pc := 80) dX7_pack_80 rfl rfl rfl
  by_cases w1 : a1 = 1
  · subst w1
    refine x_tabIn (pc := 22) 81 dX7_pack_22 (by unfold inI; omega) (by decide) (by decide) rfl (by decide) ?_
    refine x_aload_n (pc := 81) dX7_pack_81 0 rfl ?_
    refine y_getR (pc := 82) dX7_pack_82 flX7_15 rfl rfl rfl (by decide) ?_
    refine x_iload_n (pc := 85) dX7_pack_85 1 rfl ?_
    refine x_callV (pc := 86) _ dX7_pack_86 (ct_roomOf (w := 0) (by decide) _ pq) lkX7_131 rfl rfl rfl rfl (mem_dom0 (by decide) (by decide)) (by decide) (Nat.le_of_ble_eq_true rfl) rfl ?_
    exact y_iret (pc := 89) dX7_pack_89 rfl rfl rfl
  by_cases w2 : a1 = 2
  · subst w2
    refine x_tabIn (pc := 22) 90 dX7_pack_22 (by unfold inI; omega) (by decide) (by decide) rfl (by decide) ?_
    refine x_aload_n (pc := 90) dX7_pack_90 0 rfl ?_
    refine y_getR (pc := 91) dX7_pack_91 flX7_15 rfl rfl rfl (by decide) ?_
    refine y_getR (pc := 94) (b := 0) dX7_pack_94 flX7_93 rfl rfl rfl (by decide) ?_
    refine y_getR (pc := 97) dX7_pack_97 flX7_135 rfl rfl rfl (by decide) ?_
    refine x_iload_n (pc := 100) dX7_pack_100 1 rfl ?_
    refine y_iald (pc := 101) dX7_pack_101 rfl (by decide) (by omega) ?_
    exact y_iret (pc := 102) dX7_pack_102 rfl rfl rfl
  by_cases w3 : a1 = 3
  · subst w3
    refine x_tabIn (pc := 22) 103 dX7_pack_22 (by unfold inI; omega) (by decide) (by decide) rfl (by decide) ?_
    refine x_aload_n (pc := 103) dX7_pack_103 0 rfl ?_
    refine y_getR (pc := 104) dX7_pack_104 flX7_15 rfl rfl rfl (by decide) ?_
    refine y_getR (pc := 107) (b := 0) dX7_pack_107 flX7_93 rfl rfl rfl (by decide) ?_
    refine y_getR (pc := 110) dX7_pack_110 flX7_138 rfl rfl rfl (by decide) ?_
    refine x_iload_n (pc := 113) dX7_pack_113 1 rfl ?_
    refine y_iald (pc := 114) dX7_pack_114 rfl (by decide) (by omega) ?_
    exact y_iret (pc := 115) dX7_pack_115 rfl rfl rfl
  by_cases w4 : a1 = 4
  · subst w4
    refine x_tabIn (pc := 22) 116 dX7_pack_22 (by unfold inI; omega) (by decide) (by decide) rfl (by decide) ?_
    refine x_aload_n (pc := 116) dX7_pack_116 0 rfl ?_
    refine y_getR (pc := 117) dX7_pack_117 flX7_15 rfl rfl rfl (by decide) ?_
    refine y_getR (pc := 120) (b := 0) dX7_pack_120 flX7_21 rfl rfl rfl (by decide) ?_
    refine y_getR (pc := 123) dX7_pack_123 flX7_141 rfl rfl rfl (by decide) ?_
    refine x_iload_n (pc := 126) dX7_pack_126 1 rfl ?_
    refine y_iald (pc := 127) dX7_pack_127 rfl (by decide) (by omega) ?_
    exact y_iret (pc := 128) dX7_pack_128 rfl rfl rfl
  by_cases w5 : a1 = 5
  · subst w5
    refine x_tabIn (pc := 22) 129 dX7_pack_22 (by unfold inI; omega) (by decide) (by decide) rfl (by decide) ?_
    refine x_aload_n (pc := 129) dX7_pack_129 0 rfl ?_
    refine y_getR (pc := 130) dX7_pack_130 flX7_15 rfl rfl rfl (by decide) ?_
    refine y_getR (pc := 133) (b := 0) dX7_pack_133 flX7_93 rfl rfl rfl (by decide) ?_
    refine y_getR (pc := 136) dX7_pack_136 flX7_144 rfl rfl rfl (by decide) ?_
    refine x_iload_n (pc := 139) dX7_pack_139 1 rfl ?_
    refine y_iald (pc := 140) dX7_pack_140 rfl (by decide) (by omega) ?_
    exact y_iret (pc := 141) dX7_pack_141 rfl rfl rfl
  by_cases w6 : a1 = 6
  · subst w6
    refine x_tabIn (pc := 22) 142 dX7_pack_22 (by unfold inI; omega) (by decide) (by decide) rfl (by decide) ?_
    refine x_aload_n (pc := 142) dX7_pack_142 0 rfl ?_
    refine y_getR (pc := 143) dX7_pack_143 flX7_15 rfl rfl rfl (by decide) ?_
    refine y_getR (pc := 146) (b := 0) dX7_pack_146 flX7_93 rfl rfl rfl (by decide) ?_
    refine y_getR (pc := 149) dX7_pack_149 flX7_97 rfl rfl rfl (by decide) ?_
    refine x_iload_n (pc := 152) dX7_pack_152 1 rfl ?_
    refine x_iconst (pc := 153) dX7_pack_153 ?_
    refine x_callV (pc := 154) _ dX7_pack_154 (ct_numberOf (s := 0) (by decide) a0 1 ha0 (by unfold inI; omega) nt16 (fun l a b => by have z := (hB.2.2.2.1.2 l a b); have z1 := z.1; have z4 := z.2.2.2; unfold inI; omega)) lkX7_147 rfl rfl rfl rfl (mem_dom0 (by decide) (by decide)) (by decide) (Nat.le_of_ble_eq_true rfl) rfl ?_
    exact y_iret (pc := 157) dX7_pack_157 rfl rfl rfl
  by_cases w7 : a1 = 7
  · subst w7
    refine x_tabIn (pc := 22) 158 dX7_pack_22 (by unfold inI; omega) (by decide) (by decide) rfl (by decide) ?_
    refine x_aload_n (pc := 158) dX7_pack_158 0 rfl ?_
    refine y_getR (pc := 159) dX7_pack_159 flX7_15 rfl rfl rfl (by decide) ?_
    refine y_getR (pc := 162) (b := 0) dX7_pack_162 flX7_93 rfl rfl rfl (by decide) ?_
    refine y_getR (pc := 165) dX7_pack_165 flX7_97 rfl rfl rfl (by decide) ?_
    refine x_iload_n (pc := 168) dX7_pack_168 1 rfl ?_
    refine x_iconst (pc := 169) dX7_pack_169 ?_
    refine x_callV (pc := 170) _ dX7_pack_170 (ct_numberOf (s := 0) (by decide) a0 2 ha0 (by unfold inI; omega) nt16 (fun l a b => by have z := (hB.2.2.2.1.2 l a b); have z1 := z.1; have z4 := z.2.2.2; unfold inI; omega)) lkX7_147 rfl rfl rfl rfl (mem_dom0 (by decide) (by decide)) (by decide) (Nat.le_of_ble_eq_true rfl) rfl ?_
    exact y_iret (pc := 173) dX7_pack_173 rfl rfl rfl
  refine x_tabOut (pc := 22) 174 dX7_pack_22 (by unfold inI; omega) (by omega) (by decide) ?_
  refine x_aload_n (pc := 174) dX7_pack_174 0 rfl ?_
  refine y_getR (pc := 175) dX7_pack_175 flX7_15 rfl rfl rfl (by decide) ?_
  refine x_iload_n (pc := 178) dX7_pack_178 1 rfl ?_
  refine x_callV (pc := 179) _ dX7_pack_179 (ct_quarterOf (w := 0) (by decide) _ pq) lkX7_151 rfl rfl rfl rfl (mem_dom0 (by decide) (by decide)) (by decide) (Nat.le_of_ble_eq_true rfl) rfl ?_
  exact y_iret (pc := 182) dX7_pack_182 rfl (by unfold pckC; rw [if_neg w0, if_neg w1, if_neg w2, if_neg w3, if_neg w4, if_neg w5, if_neg w6, if_neg w7]; rfl) rfl
theorem Px_pack_0 {G : GG} {m : Mem} (hP : BP m 0) (hB : BS m 0 0) {a0 a1 : Int} (ha0 : inI a0) (ha1 : inI a1)  (h0 : ¬ (0 ≤ a0 ∧ a0 < m 22 0 2)) : Ct G MX7_pack (rmE 1) [rf G 38 0, .int (iI a0), .int (iI a1)] (hp (m)) (.inr ioE) (hp (m)) := by
  refine x_entry (by decide +kernel) mwX7_pack rfl (Nat.le_of_ble_eq_true rfl) ?_
  show X G MX7_pack (rmE 1) 0 [(0, rf G 38 0), (1, .int (iI a0)), (2, .int (iI a1))] [] (hp (m)) 0 0 (.inr ioE) (hp (m))
  have n8 := hP.2.2.1
  have n4 := hP.2.2.2.1
  have n12 := hP.2.2.2.2.2.1
  have nc8 := hP.2.2.2.2.2.2.1
  have tb := hB.1
  have nt16 := hB.2.2.2.1.1
  have nl16 := hB.2.2.2.2.1.1
  refine x_iload_n (pc := 0) dX7_pack_0 1 rfl ?_
  refine x_aload_n (pc := 1) dX7_pack_1 0 rfl ?_
  refine y_getR (pc := 2) dX7_pack_2 flX7_15 rfl rfl rfl (by decide) ?_
  refine y_getR (pc := 5) (b := 0) dX7_pack_5 flX7_21 rfl rfl rfl (by decide) ?_
  refine y_getI (pc := 8) 2 dX7_pack_8 flX7_74 rfl rfl rfl (by decide) ?_
  exact x_callSX (pc := 11) _ dX7_pack_11 (ct_ckIx ha0 (by unfold inI; omega) h0) lkX7_123 rfl rfl (by decide) (Nat.le_of_ble_eq_true rfl) rfl
theorem Px_pack_1 {G : GG} {m : Mem} (hP : BP m 0) (hB : BS m 0 0) {a0 a1 : Int} (ha0 : inI a0) (ha1 : inI a1) (h0 : 0 ≤ a0 ∧ a0 < m 22 0 2) (h1 : ¬ (0 ≤ a1 ∧ a1 ≤ 8)) : Ct G MX7_pack (rmE 1) [rf G 38 0, .int (iI a0), .int (iI a1)] (hp (m)) (.inr iaE) (hp (m)) := by
  refine x_entry (by decide +kernel) mwX7_pack rfl (Nat.le_of_ble_eq_true rfl) ?_
  show X G MX7_pack (rmE 1) 0 [(0, rf G 38 0), (1, .int (iI a0)), (2, .int (iI a1))] [] (hp (m)) 0 0 (.inr iaE) (hp (m))
  have n8 := hP.2.2.1
  have n4 := hP.2.2.2.1
  have n12 := hP.2.2.2.2.2.1
  have nc8 := hP.2.2.2.2.2.2.1
  have tb := hB.1
  have nt16 := hB.2.2.2.1.1
  have nl16 := hB.2.2.2.2.1.1
  refine x_iload_n (pc := 0) dX7_pack_0 1 rfl ?_
  refine x_aload_n (pc := 1) dX7_pack_1 0 rfl ?_
  refine y_getR (pc := 2) dX7_pack_2 flX7_15 rfl rfl rfl (by decide) ?_
  refine y_getR (pc := 5) (b := 0) dX7_pack_5 flX7_21 rfl rfl rfl (by decide) ?_
  refine y_getI (pc := 8) 2 dX7_pack_8 flX7_74 rfl rfl rfl (by decide) ?_
  refine x_callS (pc := 11) _ dX7_pack_11 (ct_ckI ha0 (by unfold inI; omega) h0) lkX7_123 rfl (by decide) (Nat.le_of_ble_eq_true rfl) rfl ?_
  refine x_iload_n (pc := 14) dX7_pack_14 2 rfl ?_
  refine x_iconst (pc := 15) dX7_pack_15 ?_
  refine x_bipush (pc := 16) (z := 8) dX7_pack_16 (by decide) ?_
  exact x_callSX (pc := 18) _ dX7_pack_18 (ct_ckRx ha1 (by unfold inI; omega) (by unfold inI; omega) h1) lkX7_80 rfl rfl (by decide) (Nat.le_of_ble_eq_true rfl) rfl
theorem P_cable {G : GG} {m : Mem} (hP : BP m 0) (hB : BS m 0 0) {a0 a1 a2 : Int} (ha0 : inI a0) (ha1 : inI a1) (ha2 : inI a2) (h0 : 0 ≤ a0 ∧ a0 < m 22 0 2) (h1 : 0 ≤ a1 ∧ a1 < m 22 0 2) (h2 : 0 ≤ a2 ∧ a2 ≤ 3) : Ct G MX7_cable (rmD 9) [rf G 38 0, .int (iI a0), .int (iI a1), .int (iI a2)] (hp (m)) (.inl (some (.int (iI (cabC m (m 27 0 (a0 * 8 + a1)) a2))))) (hp (m)) := by
  refine x_entry (by decide +kernel) mwX7_cable rfl (Nat.le_of_ble_eq_true rfl) ?_
  show X G MX7_cable (rmD 9) 0 [(0, rf G 38 0), (1, .int (iI a0)), (2, .int (iI a1)), (3, .int (iI a2))] [] (hp (m)) 0 0 (.inl (some (.int (iI (cabC m (m 27 0 (a0 * 8 + a1)) a2))))) (hp (m))
  have n8 := hP.2.2.1
  have n4 := hP.2.2.2.1
  have n12 := hP.2.2.2.2.2.1
  have nc8 := hP.2.2.2.2.2.2.1
  have tb := hB.1
  have nt16 := hB.2.2.2.1.1
  have nl16 := hB.2.2.2.2.1.1
  have cb := hP.2.2.2.2.2.2.2.2.2.2.1 _ _ h0.1 h0.2 h1.1 h1.2
  refine x_iload_n (pc := 0) dX7_cable_0 1 rfl ?_
  refine x_aload_n (pc := 1) dX7_cable_1 0 rfl ?_
  refine y_getR (pc := 2) dX7_cable_2 flX7_15 rfl rfl rfl (by decide) ?_
  refine y_getR (pc := 5) (b := 0) dX7_cable_5 flX7_21 rfl rfl rfl (by decide) ?_
  refine y_getI (pc := 8) 2 dX7_cable_8 flX7_74 rfl rfl rfl (by decide) ?_
  refine x_callS (pc := 11) _ dX7_cable_11 (ct_ckI ha0 (by unfold inI; omega) h0) lkX7_123 rfl (by decide) (Nat.le_of_ble_eq_true rfl) rfl ?_
  refine x_iload_n (pc := 14) dX7_cable_14 2 rfl ?_
  refine x_aload_n (pc := 15) dX7_cable_15 0 rfl ?_
  refine y_getR (pc := 16) dX7_cable_16 flX7_15 rfl rfl rfl (by decide) ?_
  refine y_getR (pc := 19) (b := 0) dX7_cable_19 flX7_21 rfl rfl rfl (by decide) ?_
  refine y_getI (pc := 22) 2 dX7_cable_22 flX7_74 rfl rfl rfl (by decide) ?_
  refine x_callS (pc := 25) _ dX7_cable_25 (ct_ckI ha1 (by unfold inI; omega) h1) lkX7_123 rfl (by decide) (Nat.le_of_ble_eq_true rfl) rfl ?_
  refine x_iload_n (pc := 28) dX7_cable_28 3 rfl ?_
  refine x_iconst (pc := 29) dX7_cable_29 ?_
  refine x_iconst (pc := 30) dX7_cable_30 ?_
  refine x_callS (pc := 31) _ dX7_cable_31 (ct_ckR ha2 (by unfold inI; omega) (by unfold inI; omega) h2) lkX7_80 rfl (by decide) (Nat.le_of_ble_eq_true rfl) rfl ?_
  refine x_aload_n (pc := 34) dX7_cable_34 0 rfl ?_
  refine y_getR (pc := 35) dX7_cable_35 flX7_15 rfl rfl rfl (by decide) ?_
  refine y_getR (pc := 38) (b := 0) dX7_cable_38 flX7_21 rfl rfl rfl (by decide) ?_
  refine x_iload_n (pc := 41) dX7_cable_41 1 rfl ?_
  refine x_iload_n (pc := 42) dX7_cable_42 2 rfl ?_
  refine x_callV (pc := 43) _ dX7_cable_43 (ct_cableBetween (p := 0) (by decide) a0 a1 (by omega) (by omega)) lkX7_154 rfl rfl rfl rfl (mem_dom0 (by decide) (by decide)) (by decide) (Nat.le_of_ble_eq_true rfl) rfl ?_
  refine x_istore (pc := 46) (lv' := [(4, _), (0, _), (1, _), (2, _), (3, _)]) dX7_cable_46 (by decide) rfl ?_
  refine x_iload (pc := 48) dX7_cable_48 0 rfl ?_
  refine x_iconst (pc := 50) dX7_cable_50 ?_
  refine x_icmp_ne (pc := 51) 56 dX7_cable_51 (by decide) (by unfold inI; omega) (by unfold inI; omega) (fun c_51 => ?_) (fun c_51 => ?_)
  · refine x_iload_n (pc := 56) dX7_cable_56 4 rfl ?_
    by_cases w0 : a2 = 0
    · subst w0
      refine x_tabIn (pc := 57) 84 dX7_cable_57 (by unfold inI; omega) (by decide) (by decide) rfl (by decide) ?_
      refine x_aload_n (pc := 84) dX7_cable_84 1 rfl ?_
      refine y_getR (pc := 85) dX7_cable_85 flX7_15 rfl rfl rfl (by decide) ?_
      refine y_getR (pc := 88) (b := 0) dX7_cable_88 flX7_93 rfl rfl rfl (by decide) ?_
      refine y_getR (pc := 91) dX7_cable_91 flX7_157 rfl rfl rfl (by decide) ?_
      refine x_iload (pc := 94) dX7_cable_94 0 rfl ?_
      refine y_iald (pc := 96) dX7_cable_96 rfl (by decide) (by omega) ?_
      exact y_iret (pc := 97) dX7_cable_97 rfl (by unfold cabC; rw [if_neg c_51]; rfl) rfl
    by_cases w1 : a2 = 1
    · subst w1
      refine x_tabIn (pc := 57) 98 dX7_cable_57 (by unfold inI; omega) (by decide) (by decide) rfl (by decide) ?_
      refine x_aload_n (pc := 98) dX7_cable_98 1 rfl ?_
      refine y_getR (pc := 99) dX7_cable_99 flX7_15 rfl rfl rfl (by decide) ?_
      refine y_getR (pc := 102) (b := 0) dX7_cable_102 flX7_93 rfl rfl rfl (by decide) ?_
      refine y_getR (pc := 105) dX7_cable_105 flX7_160 rfl rfl rfl (by decide) ?_
      refine x_iload (pc := 108) dX7_cable_108 0 rfl ?_
      refine y_iald (pc := 110) dX7_cable_110 rfl (by decide) (by omega) ?_
      exact y_iret (pc := 111) dX7_cable_111 rfl (by unfold cabC; rw [if_neg c_51]; rfl) rfl
    by_cases w2 : a2 = 2
    · subst w2
      refine x_tabIn (pc := 57) 112 dX7_cable_57 (by unfold inI; omega) (by decide) (by decide) rfl (by decide) ?_
      refine x_aload_n (pc := 112) dX7_cable_112 1 rfl ?_
      refine y_getR (pc := 113) dX7_cable_113 flX7_15 rfl rfl rfl (by decide) ?_
      refine y_getR (pc := 116) (b := 0) dX7_cable_116 flX7_93 rfl rfl rfl (by decide) ?_
      refine y_getR (pc := 119) dX7_cable_119 flX7_163 rfl rfl rfl (by decide) ?_
      refine x_iload (pc := 122) dX7_cable_122 0 rfl ?_
      refine y_iald (pc := 124) dX7_cable_124 rfl (by decide) (by omega) ?_
      exact y_iret (pc := 125) dX7_cable_125 rfl (by unfold cabC; rw [if_neg c_51]; rfl) rfl
    refine x_tabOut (pc := 57) 126 dX7_cable_57 (by unfold inI; omega) (by omega) (by decide) ?_
    refine x_aload_n (pc := 126) dX7_cable_126 1 rfl ?_
    refine y_getR (pc := 127) dX7_cable_127 flX7_15 rfl rfl rfl (by decide) ?_
    refine y_getR (pc := 130) (b := 0) dX7_cable_130 flX7_93 rfl rfl rfl (by decide) ?_
    refine y_getR (pc := 133) dX7_cable_133 flX7_166 rfl rfl rfl (by decide) ?_
    refine x_iload (pc := 136) dX7_cable_136 0 rfl ?_
    refine y_iald (pc := 138) dX7_cable_138 rfl (by decide) (by omega) ?_
    exact y_iret (pc := 139) dX7_cable_139 rfl (by unfold cabC; rw [if_neg c_51]; rw [if_neg w0, if_neg w1, if_neg w2]) rfl
  · refine x_iconst (pc := 54) dX7_cable_54 ?_
    exact y_iret (pc := 55) dX7_cable_55 rfl (by unfold cabC; rw [if_pos (by omega)]) rfl
theorem Px_cable_0 {G : GG} {m : Mem} (hP : BP m 0) (hB : BS m 0 0) {a0 a1 a2 : Int} (ha0 : inI a0) (ha1 : inI a1) (ha2 : inI a2)  (h0 : ¬ (0 ≤ a0 ∧ a0 < m 22 0 2)) : Ct G MX7_cable (rmE 1) [rf G 38 0, .int (iI a0), .int (iI a1), .int (iI a2)] (hp (m)) (.inr ioE) (hp (m)) := by
  refine x_entry (by decide +kernel) mwX7_cable rfl (Nat.le_of_ble_eq_true rfl) ?_
  show X G MX7_cable (rmE 1) 0 [(0, rf G 38 0), (1, .int (iI a0)), (2, .int (iI a1)), (3, .int (iI a2))] [] (hp (m)) 0 0 (.inr ioE) (hp (m))
  have n8 := hP.2.2.1
  have n4 := hP.2.2.2.1
  have n12 := hP.2.2.2.2.2.1
  have nc8 := hP.2.2.2.2.2.2.1
  have tb := hB.1
  have nt16 := hB.2.2.2.1.1
  have nl16 := hB.2.2.2.2.1.1
  refine x_iload_n (pc := 0) dX7_cable_0 1 rfl ?_
  refine x_aload_n (pc := 1) dX7_cable_1 0 rfl ?_
  refine y_getR (pc := 2) dX7_cable_2 flX7_15 rfl rfl rfl (by decide) ?_
  refine y_getR (pc := 5) (b := 0) dX7_cable_5 flX7_21 rfl rfl rfl (by decide) ?_
  refine y_getI (pc := 8) 2 dX7_cable_8 flX7_74 rfl rfl rfl (by decide) ?_
  exact x_callSX (pc := 11) _ dX7_cable_11 (ct_ckIx ha0 (by unfold inI; omega) h0) lkX7_123 rfl rfl (by decide) (Nat.le_of_ble_eq_true rfl) rfl
theorem Px_cable_1 {G : GG} {m : Mem} (hP : BP m 0) (hB : BS m 0 0) {a0 a1 a2 : Int} (ha0 : inI a0) (ha1 : inI a1) (ha2 : inI a2) (h0 : 0 ≤ a0 ∧ a0 < m 22 0 2) (h1 : ¬ (0 ≤ a1 ∧ a1 < m 22 0 2)) : Ct G MX7_cable (rmE 1) [rf G 38 0, .int (iI a0), .int (iI a1), .int (iI a2)] (hp (m)) (.inr ioE) (hp (m)) := by
  refine x_entry (by decide +kernel) mwX7_cable rfl (Nat.le_of_ble_eq_true rfl) ?_
  show X G MX7_cable (rmE 1) 0 [(0, rf G 38 0), (1, .int (iI a0)), (2, .int (iI a1)), (3, .int (iI a2))] [] (hp (m)) 0 0 (.inr ioE) (hp (m))
  have n8 := hP.2.2.1
  have n4 := hP.2.2.2.1
  have n12 := hP.2.2.2.2.2.1
  have nc8 := hP.2.2.2.2.2.2.1
  have tb := hB.1
  have nt16 := hB.2.2.2.1.1
  have nl16 := hB.2.2.2.2.1.1
  refine x_iload_n (pc := 0) dX7_cable_0 1 rfl ?_
  refine x_aload_n (pc := 1) dX7_cable_1 0 rfl ?_
  refine y_getR (pc := 2) dX7_cable_2 flX7_15 rfl rfl rfl (by decide) ?_
  refine y_getR (pc := 5) (b := 0) dX7_cable_5 flX7_21 rfl rfl rfl (by decide) ?_
  refine y_getI (pc := 8) 2 dX7_cable_8 flX7_74 rfl rfl rfl (by decide) ?_
  refine x_callS (pc := 11) _ dX7_cable_11 (ct_ckI ha0 (by unfold inI; omega) h0) lkX7_123 rfl (by decide) (Nat.le_of_ble_eq_true rfl) rfl ?_
  refine x_iload_n (pc := 14) dX7_cable_14 2 rfl ?_
  refine x_aload_n (pc := 15) dX7_cable_15 0 rfl ?_
  refine y_getR (pc := 16) dX7_cable_16 flX7_15 rfl rfl rfl (by decide) ?_
  refine y_getR (pc := 19) (b := 0) dX7_cable_19 flX7_21 rfl rfl rfl (by decide) ?_
  refine y_getI (pc := 22) 2 dX7_cable_22 flX7_74 rfl rfl rfl (by decide) ?_
  exact x_callSX (pc := 25) _ dX7_cable_25 (ct_ckIx ha1 (by unfold inI; omega) h1) lkX7_123 rfl rfl (by decide) (Nat.le_of_ble_eq_true rfl) rfl
theorem Px_cable_2 {G : GG} {m : Mem} (hP : BP m 0) (hB : BS m 0 0) {a0 a1 a2 : Int} (ha0 : inI a0) (ha1 : inI a1) (ha2 : inI a2) (h0 : 0 ≤ a0 ∧ a0 < m 22 0 2) (h1 : 0 ≤ a1 ∧ a1 < m 22 0 2) (h2 : ¬ (0 ≤ a2 ∧ a2 ≤ 3)) : Ct G MX7_cable (rmE 1) [rf G 38 0, .int (iI a0), .int (iI a1), .int (iI a2)] (hp (m)) (.inr iaE) (hp (m)) := by
  refine x_entry (by decide +kernel) mwX7_cable rfl (Nat.le_of_ble_eq_true rfl) ?_
  show X G MX7_cable (rmE 1) 0 [(0, rf G 38 0), (1, .int (iI a0)), (2, .int (iI a1)), (3, .int (iI a2))] [] (hp (m)) 0 0 (.inr iaE) (hp (m))
  have n8 := hP.2.2.1
  have n4 := hP.2.2.2.1
  have n12 := hP.2.2.2.2.2.1
  have nc8 := hP.2.2.2.2.2.2.1
  have tb := hB.1
  have nt16 := hB.2.2.2.1.1
  have nl16 := hB.2.2.2.2.1.1
  refine x_iload_n (pc := 0) dX7_cable_0 1 rfl ?_
  refine x_aload_n (pc := 1) dX7_cable_1 0 rfl ?_
  refine y_getR (pc := 2) dX7_cable_2 flX7_15 rfl rfl rfl (by decide) ?_
  refine y_getR (pc := 5) (b := 0) dX7_cable_5 flX7_21 rfl rfl rfl (by decide) ?_
  refine y_getI (pc := 8) 2 dX7_cable_8 flX7_74 rfl rfl rfl (by decide) ?_
  refine x_callS (pc := 11) _ dX7_cable_11 (ct_ckI ha0 (by unfold inI; omega) h0) lkX7_123 rfl (by decide) (Nat.le_of_ble_eq_true rfl) rfl ?_
  refine x_iload_n (pc := 14) dX7_cable_14 2 rfl ?_
  refine x_aload_n (pc := 15) dX7_cable_15 0 rfl ?_
  refine y_getR (pc := 16) dX7_cable_16 flX7_15 rfl rfl rfl (by decide) ?_
  refine y_getR (pc := 19) (b := 0) dX7_cable_19 flX7_21 rfl rfl rfl (by decide) ?_
  refine y_getI (pc := 22) 2 dX7_cable_22 flX7_74 rfl rfl rfl (by decide) ?_
  refine x_callS (pc := 25) _ dX7_cable_25 (ct_ckI ha1 (by unfold inI; omega) h1) lkX7_123 rfl (by decide) (Nat.le_of_ble_eq_true rfl) rfl ?_
  refine x_iload_n (pc := 28) dX7_cable_28 3 rfl ?_
  refine x_iconst (pc := 29) dX7_cable_29 ?_
  refine x_iconst (pc := 30) dX7_cable_30 ?_
  exact x_callSX (pc := 31) _ dX7_cable_31 (ct_ckRx ha2 (by unfold inI; omega) (by unfold inI; omega) h2) lkX7_80 rfl rfl (by decide) (Nat.le_of_ble_eq_true rfl) rfl
theorem P_trip {G : GG} {m : Mem} (hP : BP m 0) (hB : BS m 0 0) {a0 a1 : Int} (ha0 : inI a0) (ha1 : inI a1) (h0 : 0 ≤ a0 ∧ a0 < m 1 0 0) (h1 : 0 ≤ a1 ∧ a1 ≤ 3) : Ct G MX7_trip (rmD 9) [rf G 38 0, .int (iI a0), .int (iI a1)] (hp (m)) (.inl (some (.int (iI (triC m a0 a1))))) (hp (m)) := by
  refine x_entry (by decide +kernel) mwX7_trip rfl (Nat.le_of_ble_eq_true rfl) ?_
  show X G MX7_trip (rmD 9) 0 [(0, rf G 38 0), (1, .int (iI a0)), (2, .int (iI a1))] [] (hp (m)) 0 0 (.inl (some (.int (iI (triC m a0 a1))))) (hp (m))
  have n8 := hP.2.2.1
  have n4 := hP.2.2.2.1
  have n12 := hP.2.2.2.2.2.1
  have nc8 := hP.2.2.2.2.2.2.1
  have tb := hB.1
  have nt16 := hB.2.2.2.1.1
  have nl16 := hB.2.2.2.2.1.1
  refine x_aload_n (pc := 0) dX7_trip_0 0 rfl ?_
  refine y_getR (pc := 1) dX7_trip_1 flX7_15 rfl rfl rfl (by decide) ?_
  refine y_getR (pc := 4) (b := 0) dX7_trip_4 flX7_93 rfl rfl rfl (by decide) ?_
  refine y_getR (pc := 7) dX7_trip_7 flX7_97 rfl rfl rfl (by decide) ?_
  refine x_astore_n (pc := 10) (lv' := [(3, _), (0, _), (1, _), (2, _)]) dX7_trip_10 rfl (by decide) rfl ?_
  refine x_iload_n (pc := 11) dX7_trip_11 2 rfl ?_
  refine x_aload_n (pc := 12) dX7_trip_12 0 rfl ?_
  refine y_getI (pc := 13) 0 dX7_trip_13 flX7_103 rfl rfl rfl (by decide) ?_
  refine x_callS (pc := 16) _ dX7_trip_16 (ct_ckI ha0 (by unfold inI; omega) h0) lkX7_123 rfl (by decide) (Nat.le_of_ble_eq_true rfl) rfl ?_
  refine x_iload_n (pc := 19) dX7_trip_19 3 rfl ?_
  refine x_iconst (pc := 20) dX7_trip_20 ?_
  refine x_iconst (pc := 21) dX7_trip_21 ?_
  refine x_callS (pc := 22) _ dX7_trip_22 (ct_ckR ha1 (by unfold inI; omega) (by unfold inI; omega) h1) lkX7_80 rfl (by decide) (Nat.le_of_ble_eq_true rfl) rfl ?_
  refine x_iload_n (pc := 25) dX7_trip_25 3 rfl ?_
  by_cases w0 : a1 = 0
  · subst w0
    refine x_tabIn (pc := 26) 52 dX7_trip_26 (by unfold inI; omega) (by decide) (by decide) rfl (by decide) ?_
    refine x_aload_n (pc := 52) dX7_trip_52 0 rfl ?_
    refine y_getR (pc := 53) dX7_trip_53 flX7_172 rfl rfl rfl (by decide) ?_
    refine x_iload_n (pc := 56) dX7_trip_56 2 rfl ?_
    refine y_iald (pc := 57) dX7_trip_57 rfl (by decide) (by omega) ?_
    exact y_iret (pc := 58) dX7_trip_58 rfl rfl rfl
  by_cases w1 : a1 = 1
  · subst w1
    refine x_tabIn (pc := 26) 59 dX7_trip_26 (by unfold inI; omega) (by decide) (by decide) rfl (by decide) ?_
    refine x_aload_n (pc := 59) dX7_trip_59 0 rfl ?_
    refine y_getR (pc := 60) dX7_trip_60 flX7_175 rfl rfl rfl (by decide) ?_
    refine x_iload_n (pc := 63) dX7_trip_63 2 rfl ?_
    refine y_iald (pc := 64) dX7_trip_64 rfl (by decide) (by omega) ?_
    exact y_iret (pc := 65) dX7_trip_65 rfl rfl rfl
  by_cases w2 : a1 = 2
  · subst w2
    refine x_tabIn (pc := 26) 66 dX7_trip_26 (by unfold inI; omega) (by decide) (by decide) rfl (by decide) ?_
    refine x_aload_n (pc := 66) dX7_trip_66 0 rfl ?_
    refine y_getR (pc := 67) dX7_trip_67 flX7_178 rfl rfl rfl (by decide) ?_
    refine x_iload_n (pc := 70) dX7_trip_70 2 rfl ?_
    refine y_iald (pc := 71) dX7_trip_71 rfl (by decide) (by omega) ?_
    exact y_iret (pc := 72) dX7_trip_72 rfl rfl rfl
  refine x_tabOut (pc := 26) 73 dX7_trip_26 (by unfold inI; omega) (by omega) (by decide) ?_
  refine x_aload_n (pc := 73) dX7_trip_73 0 rfl ?_
  refine y_getR (pc := 74) dX7_trip_74 flX7_181 rfl rfl rfl (by decide) ?_
  refine x_iload_n (pc := 77) dX7_trip_77 2 rfl ?_
  refine y_iald (pc := 78) dX7_trip_78 rfl (by decide) (by omega) ?_
  exact y_iret (pc := 79) dX7_trip_79 rfl (by unfold triC; rw [if_neg w0, if_neg w1, if_neg w2]) rfl
theorem Px_trip_0 {G : GG} {m : Mem} (hP : BP m 0) (hB : BS m 0 0) {a0 a1 : Int} (ha0 : inI a0) (ha1 : inI a1)  (h0 : ¬ (0 ≤ a0 ∧ a0 < m 1 0 0)) : Ct G MX7_trip (rmE 1) [rf G 38 0, .int (iI a0), .int (iI a1)] (hp (m)) (.inr ioE) (hp (m)) := by
  refine x_entry (by decide +kernel) mwX7_trip rfl (Nat.le_of_ble_eq_true rfl) ?_
  show X G MX7_trip (rmE 1) 0 [(0, rf G 38 0), (1, .int (iI a0)), (2, .int (iI a1))] [] (hp (m)) 0 0 (.inr ioE) (hp (m))
  have n8 := hP.2.2.1
  have n4 := hP.2.2.2.1
  have n12 := hP.2.2.2.2.2.1
  have nc8 := hP.2.2.2.2.2.2.1
  have tb := hB.1
  have nt16 := hB.2.2.2.1.1
  have nl16 := hB.2.2.2.2.1.1
  refine x_aload_n (pc := 0) dX7_trip_0 0 rfl ?_
  refine y_getR (pc := 1) dX7_trip_1 flX7_15 rfl rfl rfl (by decide) ?_
  refine y_getR (pc := 4) (b := 0) dX7_trip_4 flX7_93 rfl rfl rfl (by decide) ?_
  refine y_getR (pc := 7) dX7_trip_7 flX7_97 rfl rfl rfl (by decide) ?_
  refine x_astore_n (pc := 10) (lv' := [(3, _), (0, _), (1, _), (2, _)]) dX7_trip_10 rfl (by decide) rfl ?_
  refine x_iload_n (pc := 11) dX7_trip_11 2 rfl ?_
  refine x_aload_n (pc := 12) dX7_trip_12 0 rfl ?_
  refine y_getI (pc := 13) 0 dX7_trip_13 flX7_103 rfl rfl rfl (by decide) ?_
  exact x_callSX (pc := 16) _ dX7_trip_16 (ct_ckIx ha0 (by unfold inI; omega) h0) lkX7_123 rfl rfl (by decide) (Nat.le_of_ble_eq_true rfl) rfl
theorem Px_trip_1 {G : GG} {m : Mem} (hP : BP m 0) (hB : BS m 0 0) {a0 a1 : Int} (ha0 : inI a0) (ha1 : inI a1) (h0 : 0 ≤ a0 ∧ a0 < m 1 0 0) (h1 : ¬ (0 ≤ a1 ∧ a1 ≤ 3)) : Ct G MX7_trip (rmE 1) [rf G 38 0, .int (iI a0), .int (iI a1)] (hp (m)) (.inr iaE) (hp (m)) := by
  refine x_entry (by decide +kernel) mwX7_trip rfl (Nat.le_of_ble_eq_true rfl) ?_
  show X G MX7_trip (rmE 1) 0 [(0, rf G 38 0), (1, .int (iI a0)), (2, .int (iI a1))] [] (hp (m)) 0 0 (.inr iaE) (hp (m))
  have n8 := hP.2.2.1
  have n4 := hP.2.2.2.1
  have n12 := hP.2.2.2.2.2.1
  have nc8 := hP.2.2.2.2.2.2.1
  have tb := hB.1
  have nt16 := hB.2.2.2.1.1
  have nl16 := hB.2.2.2.2.1.1
  refine x_aload_n (pc := 0) dX7_trip_0 0 rfl ?_
  refine y_getR (pc := 1) dX7_trip_1 flX7_15 rfl rfl rfl (by decide) ?_
  refine y_getR (pc := 4) (b := 0) dX7_trip_4 flX7_93 rfl rfl rfl (by decide) ?_
  refine y_getR (pc := 7) dX7_trip_7 flX7_97 rfl rfl rfl (by decide) ?_
  refine x_astore_n (pc := 10) (lv' := [(3, _), (0, _), (1, _), (2, _)]) dX7_trip_10 rfl (by decide) rfl ?_
  refine x_iload_n (pc := 11) dX7_trip_11 2 rfl ?_
  refine x_aload_n (pc := 12) dX7_trip_12 0 rfl ?_
  refine y_getI (pc := 13) 0 dX7_trip_13 flX7_103 rfl rfl rfl (by decide) ?_
  refine x_callS (pc := 16) _ dX7_trip_16 (ct_ckI ha0 (by unfold inI; omega) h0) lkX7_123 rfl (by decide) (Nat.le_of_ble_eq_true rfl) rfl ?_
  refine x_iload_n (pc := 19) dX7_trip_19 3 rfl ?_
  refine x_iconst (pc := 20) dX7_trip_20 ?_
  refine x_iconst (pc := 21) dX7_trip_21 ?_
  exact x_callSX (pc := 22) _ dX7_trip_22 (ct_ckRx ha1 (by unfold inI; omega) (by unfold inI; omega) h1) lkX7_80 rfl rfl (by decide) (Nat.le_of_ble_eq_true rfl) rfl
theorem P_loan {G : GG} {m : Mem} (hP : BP m 0) (hB : BS m 0 0) {a0 a1 : Int} (ha0 : inI a0) (ha1 : inI a1) (h0 : 0 ≤ a0 ∧ a0 < m 2 0 0) (h1 : 0 ≤ a1 ∧ a1 ≤ 7) : Ct G MX7_loan (rmD 9) [rf G 38 0, .int (iI a0), .int (iI a1)] (hp (m)) (.inl (some (.int (iI (loaC m a0 a1))))) (hp (m)) := by
  refine x_entry (by decide +kernel) mwX7_loan rfl (Nat.le_of_ble_eq_true rfl) ?_
  show X G MX7_loan (rmD 9) 0 [(0, rf G 38 0), (1, .int (iI a0)), (2, .int (iI a1))] [] (hp (m)) 0 0 (.inl (some (.int (iI (loaC m a0 a1))))) (hp (m))
  have n8 := hP.2.2.1
  have n4 := hP.2.2.2.1
  have n12 := hP.2.2.2.2.2.1
  have nc8 := hP.2.2.2.2.2.2.1
  have tb := hB.1
  have nt16 := hB.2.2.2.1.1
  have nl16 := hB.2.2.2.2.1.1
  have hLF : ∀ l, 0 ≤ l → l < m 2 0 0 → LF m 0 0 l := fun l a b => BS_lf hP hB a b
  refine x_aload_n (pc := 0) dX7_loan_0 0 rfl ?_
  refine y_getR (pc := 1) dX7_loan_1 flX7_15 rfl rfl rfl (by decide) ?_
  refine y_getR (pc := 4) (b := 0) dX7_loan_4 flX7_93 rfl rfl rfl (by decide) ?_
  refine y_getR (pc := 7) dX7_loan_7 flX7_111 rfl rfl rfl (by decide) ?_
  refine x_astore_n (pc := 10) (lv' := [(3, _), (0, _), (1, _), (2, _)]) dX7_loan_10 rfl (by decide) rfl ?_
  refine x_iload_n (pc := 11) dX7_loan_11 2 rfl ?_
  refine x_aload_n (pc := 12) dX7_loan_12 0 rfl ?_
  refine y_getI (pc := 13) 0 dX7_loan_13 flX7_115 rfl rfl rfl (by decide) ?_
  refine x_callS (pc := 16) _ dX7_loan_16 (ct_ckI ha0 (by unfold inI; omega) h0) lkX7_123 rfl (by decide) (Nat.le_of_ble_eq_true rfl) rfl ?_
  refine x_iload_n (pc := 19) dX7_loan_19 3 rfl ?_
  refine x_iconst (pc := 20) dX7_loan_20 ?_
  refine x_bipush (pc := 21) (z := 7) dX7_loan_21 (by decide) ?_
  refine x_callS (pc := 23) _ dX7_loan_23 (ct_ckR ha1 (by unfold inI; omega) (by unfold inI; omega) h1) lkX7_80 rfl (by decide) (Nat.le_of_ble_eq_true rfl) rfl ?_
  refine x_iload_n (pc := 26) dX7_loan_26 3 rfl ?_
  by_cases w0 : a1 = 0
  · subst w0
    refine x_tabIn (pc := 27) 68 dX7_loan_27 (by unfold inI; omega) (by decide) (by decide) rfl (by decide) ?_
    refine x_aload_n (pc := 68) dX7_loan_68 0 rfl ?_
    refine y_getR (pc := 69) dX7_loan_69 flX7_213 rfl rfl rfl (by decide) ?_
    refine x_iload_n (pc := 72) dX7_loan_72 2 rfl ?_
    refine y_iald (pc := 73) dX7_loan_73 rfl (by decide) (by omega) ?_
    exact y_iret (pc := 74) dX7_loan_74 rfl rfl rfl
  by_cases w1 : a1 = 1
  · subst w1
    refine x_tabIn (pc := 27) 75 dX7_loan_27 (by unfold inI; omega) (by decide) (by decide) rfl (by decide) ?_
    refine x_aload_n (pc := 75) dX7_loan_75 0 rfl ?_
    refine y_getR (pc := 76) dX7_loan_76 flX7_216 rfl rfl rfl (by decide) ?_
    refine x_iload_n (pc := 79) dX7_loan_79 2 rfl ?_
    refine y_iald (pc := 80) dX7_loan_80 rfl (by decide) (by omega) ?_
    exact y_iret (pc := 81) dX7_loan_81 rfl rfl rfl
  by_cases w2 : a1 = 2
  · subst w2
    refine x_tabIn (pc := 27) 82 dX7_loan_27 (by unfold inI; omega) (by decide) (by decide) rfl (by decide) ?_
    refine x_aload_n (pc := 82) dX7_loan_82 0 rfl ?_
    refine y_getR (pc := 83) dX7_loan_83 flX7_219 rfl rfl rfl (by decide) ?_
    refine x_iload_n (pc := 86) dX7_loan_86 2 rfl ?_
    refine y_iald (pc := 87) dX7_loan_87 rfl (by decide) (by omega) ?_
    exact y_iret (pc := 88) dX7_loan_88 rfl rfl rfl
  by_cases w3 : a1 = 3
  · subst w3
    refine x_tabIn (pc := 27) 89 dX7_loan_27 (by unfold inI; omega) (by decide) (by decide) rfl (by decide) ?_
    refine x_aload_n (pc := 89) dX7_loan_89 0 rfl ?_
    refine y_getR (pc := 90) dX7_loan_90 flX7_222 rfl rfl rfl (by decide) ?_
    refine x_iload_n (pc := 93) dX7_loan_93 2 rfl ?_
    refine y_iald (pc := 94) dX7_loan_94 rfl (by decide) (by omega) ?_
    exact y_iret (pc := 95) dX7_loan_95 rfl rfl rfl
  by_cases w4 : a1 = 4
  · subst w4
    refine x_tabIn (pc := 27) 96 dX7_loan_27 (by unfold inI; omega) (by decide) (by decide) rfl (by decide) ?_
    refine x_aload_n (pc := 96) dX7_loan_96 0 rfl ?_
    refine y_getR (pc := 97) dX7_loan_97 flX7_223 rfl rfl rfl (by decide) ?_
    refine x_iload_n (pc := 100) dX7_loan_100 2 rfl ?_
    refine y_iald (pc := 101) dX7_loan_101 rfl (by decide) (by omega) ?_
    exact y_iret (pc := 102) dX7_loan_102 rfl rfl rfl
  by_cases w5 : a1 = 5
  · subst w5
    refine x_tabIn (pc := 27) 103 dX7_loan_27 (by unfold inI; omega) (by decide) (by decide) rfl (by decide) ?_
    refine x_aload_n (pc := 103) dX7_loan_103 1 rfl ?_
    refine y_getR (pc := 104) dX7_loan_104 flX7_15 rfl rfl rfl (by decide) ?_
    refine x_iload_n (pc := 107) dX7_loan_107 2 rfl ?_
    refine x_callV (pc := 108) _ dX7_loan_108 (ct_owed (w := 0) (by decide) a0 (by omega) (hLF a0 h0.1 h0.2)) lkX7_226 rfl rfl rfl rfl (mem_dom0 (by decide) (by decide)) (by decide) (Nat.le_of_ble_eq_true rfl) rfl ?_
    exact y_iret (pc := 111) dX7_loan_111 rfl rfl rfl
  by_cases w6 : a1 = 6
  · subst w6
    refine x_tabIn (pc := 27) 112 dX7_loan_27 (by unfold inI; omega) (by decide) (by decide) rfl (by decide) ?_
    refine x_aload_n (pc := 112) dX7_loan_112 0 rfl ?_
    refine y_getR (pc := 113) dX7_loan_113 flX7_229 rfl rfl rfl (by decide) ?_
    refine x_iload_n (pc := 116) dX7_loan_116 2 rfl ?_
    refine y_iald (pc := 117) dX7_loan_117 rfl (by decide) (by omega) ?_
    exact y_iret (pc := 118) dX7_loan_118 rfl rfl rfl
  refine x_tabOut (pc := 27) 119 dX7_loan_27 (by unfold inI; omega) (by omega) (by decide) ?_
  refine x_aload_n (pc := 119) dX7_loan_119 0 rfl ?_
  refine y_getR (pc := 120) dX7_loan_120 flX7_230 rfl rfl rfl (by decide) ?_
  refine x_iload_n (pc := 123) dX7_loan_123 2 rfl ?_
  refine y_iald (pc := 124) dX7_loan_124 rfl (by decide) (by omega) ?_
  exact y_iret (pc := 125) dX7_loan_125 rfl (by unfold loaC; rw [if_neg w0, if_neg w1, if_neg w2, if_neg w3, if_neg w4, if_neg w5, if_neg w6]) rfl
theorem Px_loan_0 {G : GG} {m : Mem} (hP : BP m 0) (hB : BS m 0 0) {a0 a1 : Int} (ha0 : inI a0) (ha1 : inI a1)  (h0 : ¬ (0 ≤ a0 ∧ a0 < m 2 0 0)) : Ct G MX7_loan (rmE 1) [rf G 38 0, .int (iI a0), .int (iI a1)] (hp (m)) (.inr ioE) (hp (m)) := by
  refine x_entry (by decide +kernel) mwX7_loan rfl (Nat.le_of_ble_eq_true rfl) ?_
  show X G MX7_loan (rmE 1) 0 [(0, rf G 38 0), (1, .int (iI a0)), (2, .int (iI a1))] [] (hp (m)) 0 0 (.inr ioE) (hp (m))
  have n8 := hP.2.2.1
  have n4 := hP.2.2.2.1
  have n12 := hP.2.2.2.2.2.1
  have nc8 := hP.2.2.2.2.2.2.1
  have tb := hB.1
  have nt16 := hB.2.2.2.1.1
  have nl16 := hB.2.2.2.2.1.1
  refine x_aload_n (pc := 0) dX7_loan_0 0 rfl ?_
  refine y_getR (pc := 1) dX7_loan_1 flX7_15 rfl rfl rfl (by decide) ?_
  refine y_getR (pc := 4) (b := 0) dX7_loan_4 flX7_93 rfl rfl rfl (by decide) ?_
  refine y_getR (pc := 7) dX7_loan_7 flX7_111 rfl rfl rfl (by decide) ?_
  refine x_astore_n (pc := 10) (lv' := [(3, _), (0, _), (1, _), (2, _)]) dX7_loan_10 rfl (by decide) rfl ?_
  refine x_iload_n (pc := 11) dX7_loan_11 2 rfl ?_
  refine x_aload_n (pc := 12) dX7_loan_12 0 rfl ?_
  refine y_getI (pc := 13) 0 dX7_loan_13 flX7_115 rfl rfl rfl (by decide) ?_
  exact x_callSX (pc := 16) _ dX7_loan_16 (ct_ckIx ha0 (by unfold inI; omega) h0) lkX7_123 rfl rfl (by decide) (Nat.le_of_ble_eq_true rfl) rfl
theorem Px_loan_1 {G : GG} {m : Mem} (hP : BP m 0) (hB : BS m 0 0) {a0 a1 : Int} (ha0 : inI a0) (ha1 : inI a1) (h0 : 0 ≤ a0 ∧ a0 < m 2 0 0) (h1 : ¬ (0 ≤ a1 ∧ a1 ≤ 7)) : Ct G MX7_loan (rmE 1) [rf G 38 0, .int (iI a0), .int (iI a1)] (hp (m)) (.inr iaE) (hp (m)) := by
  refine x_entry (by decide +kernel) mwX7_loan rfl (Nat.le_of_ble_eq_true rfl) ?_
  show X G MX7_loan (rmE 1) 0 [(0, rf G 38 0), (1, .int (iI a0)), (2, .int (iI a1))] [] (hp (m)) 0 0 (.inr iaE) (hp (m))
  have n8 := hP.2.2.1
  have n4 := hP.2.2.2.1
  have n12 := hP.2.2.2.2.2.1
  have nc8 := hP.2.2.2.2.2.2.1
  have tb := hB.1
  have nt16 := hB.2.2.2.1.1
  have nl16 := hB.2.2.2.2.1.1
  refine x_aload_n (pc := 0) dX7_loan_0 0 rfl ?_
  refine y_getR (pc := 1) dX7_loan_1 flX7_15 rfl rfl rfl (by decide) ?_
  refine y_getR (pc := 4) (b := 0) dX7_loan_4 flX7_93 rfl rfl rfl (by decide) ?_
  refine y_getR (pc := 7) dX7_loan_7 flX7_111 rfl rfl rfl (by decide) ?_
  refine x_astore_n (pc := 10) (lv' := [(3, _), (0, _), (1, _), (2, _)]) dX7_loan_10 rfl (by decide) rfl ?_
  refine x_iload_n (pc := 11) dX7_loan_11 2 rfl ?_
  refine x_aload_n (pc := 12) dX7_loan_12 0 rfl ?_
  refine y_getI (pc := 13) 0 dX7_loan_13 flX7_115 rfl rfl rfl (by decide) ?_
  refine x_callS (pc := 16) _ dX7_loan_16 (ct_ckI ha0 (by unfold inI; omega) h0) lkX7_123 rfl (by decide) (Nat.le_of_ble_eq_true rfl) rfl ?_
  refine x_iload_n (pc := 19) dX7_loan_19 3 rfl ?_
  refine x_iconst (pc := 20) dX7_loan_20 ?_
  refine x_bipush (pc := 21) (z := 7) dX7_loan_21 (by decide) ?_
  exact x_callSX (pc := 23) _ dX7_loan_23 (ct_ckRx ha1 (by unfold inI; omega) (by unfold inI; omega) h1) lkX7_80 rfl rfl (by decide) (Nat.le_of_ble_eq_true rfl) rfl
theorem P_now {G : GG} {m : Mem} (hP : BP m 0) (hB : BS m 0 0)   : Ct G MX7_now (rmD 9) [rf G 38 0] (hp (m)) (.inl (some (.int (iI (m 0 0 0))))) (hp (m)) := by
  refine x_entry (by decide +kernel) mwX7_now rfl (Nat.le_of_ble_eq_true rfl) ?_
  show X G MX7_now (rmD 9) 0 [(0, rf G 38 0)] [] (hp (m)) 0 0 (.inl (some (.int (iI (m 0 0 0))))) (hp (m))
  have n8 := hP.2.2.1
  have n4 := hP.2.2.2.1
  have n12 := hP.2.2.2.2.2.1
  have nc8 := hP.2.2.2.2.2.2.1
  have tb := hB.1
  have nt16 := hB.2.2.2.1.1
  have nl16 := hB.2.2.2.2.1.1
  refine x_aload_n (pc := 0) dX7_now_0 0 rfl ?_
  refine y_getR (pc := 1) dX7_now_1 flX7_15 rfl rfl rfl (by decide) ?_
  refine y_getR (pc := 4) (b := 0) dX7_now_4 flX7_93 rfl rfl rfl (by decide) ?_
  refine y_getI (pc := 7) 0 dX7_now_7 flX7_233 rfl rfl rfl (by decide) ?_
  exact y_iret (pc := 10) dX7_now_10 rfl rfl rfl
theorem P_loadError {G : GG} {m : Mem} (hP : BP m 0) (hB : BS m 0 0)   : Ct G MX7_loadError (rmD 9) [rf G 38 0] (hp (m)) (.inl (some (.int (iI (m 34 0 1))))) (hp (m)) := by
  refine x_entry (by decide +kernel) mwX7_loadError rfl (Nat.le_of_ble_eq_true rfl) ?_
  show X G MX7_loadError (rmD 9) 0 [(0, rf G 38 0)] [] (hp (m)) 0 0 (.inl (some (.int (iI (m 34 0 1))))) (hp (m))
  have n8 := hP.2.2.1
  have n4 := hP.2.2.2.1
  have n12 := hP.2.2.2.2.2.1
  have nc8 := hP.2.2.2.2.2.2.1
  have tb := hB.1
  have nt16 := hB.2.2.2.1.1
  have nl16 := hB.2.2.2.2.1.1
  refine x_aload_n (pc := 0) dX7_loadError_0 0 rfl ?_
  refine y_getR (pc := 1) dX7_loadError_1 flX7_31 rfl rfl rfl (by decide) ?_
  refine y_getI (pc := 4) 1 dX7_loadError_4 flX7_57 rfl rfl rfl (by decide) ?_
  exact y_iret (pc := 7) dX7_loadError_7 rfl rfl rfl
