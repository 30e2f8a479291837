theorem ct_sendOn {G : GG} {m : Mem} {w : Nat} (hw : w < 5) (l : Int) (hP : BP m (pl w)) (hS : BS m (pl w) w) (hN : SN m (pl w) w) (h0 : 0 ≤ l) (h1 : l < m 2 w 0) : Ct G MX6_sendOn (rmD 3) [rf G 33 w, .int (iI l)] (hp (m)) (.inl none) (hp (soC m (pl w) w l)) := by
  refine x_entry (by decide +kernel) mwX6_sendOn rfl (Nat.le_of_ble_eq_true rfl) ?_
  show X G MX6_sendOn (rmD 3) 0 [(0, rf G 33 w), (1, .int (iI l))] [] (hp (m)) 0 0 (.inl none) (hp (soC m (pl w) w l))
  have n16 := hS.2.2.2.2.1.1
  have n8 := hP.2.2.1
  have n8b := hP.2.2.2.2.2.2.1
  have n12 := hP.2.2.2.2.2.1
  have t0 := hS.1
  have hb := hS.2.2.2.2.1.2 l h0 h1
  have hc := BP_c hP hb.1.1 hb.1.2
  have k1 := hb.1
  have k2 := hb.2.1
  have k3 := hb.2.2.1
  have k4 := hb.2.2.2.1
  have g1 := hc.1
  have g2 := hc.2.1
  have hcb := hS.2.2.1 (cbC m (pl w) w l) hc.2.2.2.2.2.2.1 hc.2.2.2.2.2.2.2
  have c0 : 0 ≤ cbC m (pl w) w l ∧ cbC m (pl w) w l < m 22 (pl w) 5 := ⟨hc.2.2.2.2.2.2.1, hc.2.2.2.2.2.2.2⟩
  have c1 := hcb.1
  have c2 := hcb.2.1
  have c3 := hcb.2.2
  have cn := hN (cbC m (pl w) w l) c0.1 c0.2
  have ha := soA_b hP hS hN h0 h1
  have hpf := BS_pf hP hS g1.1 g1.2
  have hqf := BP_qf hP g1.1 g1.2
  have hq := hS.2.1 _ g1.1 g1.2
  have q1 := hq.1
  have q3 := hq.2.2
  have qr := roomC_b hpf
  have qc := hpf.2.1
  have hf := so_facts hP hS hN h0 h1
  have hwr := wearC_b hpf hqf (x := soA m (pl w) w l) ⟨ha.1.1, by omega⟩
  have b1 := hf.1.2.2.2.2.2.1.2 l h0 (by rw [so1_k (by decide) (by decide) (by decide)]; exact h1)
  have k18 := b1.2.2.2.1
  have hpf3 : PF (so3 m (pl w) w l) (pl w) w (m 29 (pl w) (m 15 w l)) := BS_pf hf.2.1.1 hf.2.1.2 g2.1 (by rw [so3_k (by decide) (by decide) (by decide) (by decide) (by decide) (by decide)]; exact g2.2)
  have hq3 := (hf.2.1.2.2.1 (m 29 (pl w) (m 15 w l)) g2.1 (by rw [so3_k (by decide) (by decide) (by decide) (by decide) (by decide) (by decide)]; exact g2.2)).1
  have qr3 := roomC_b hpf3
  have qc3 := hpf3.2.1
  have e6 : so2 m (pl w) w l 6 w (cbC m (pl w) w l) = m 6 w (cbC m (pl w) w l) := by rw [so2_k (by decide) (by decide) (by decide) (by decide)]
  have hx1 : soA m (pl w) w l * m 6 w (cbC m (pl w) w l) ≤ soA m (pl w) w l * 900 := Int.mul_le_mul_of_nonneg_left c1.2 ha.1.1
  have hx0 : 0 ≤ soA m (pl w) w l * m 6 w (cbC m (pl w) w l) := Int.mul_nonneg ha.1.1 c1.1
  have hx : 0 ≤ soA m (pl w) w l * so2 m (pl w) w l 6 w (cbC m (pl w) w l) ∧ soA m (pl w) w l * so2 m (pl w) w l 6 w (cbC m (pl w) w l) < 2147483648 := by rw [e6]; omega
  have hxx : 0 ≤ soA m (pl w) w l - soA m (pl w) w l * so2 m (pl w) w l 6 w (cbC m (pl w) w l) / 1000 ∧ soA m (pl w) w l - soA m (pl w) w l * so2 m (pl w) w l 6 w (cbC m (pl w) w l) / 1000 ≤ 10000 := by rw [e6]; omega
  have e17 : so5 m (pl w) w l 17 w l = m 17 w l + soA m (pl w) w l := by unfold so5; rw [up3_at, so4_k (by decide) (by decide) (by decide) (by decide) (by decide) (by decide)]
  have e16 : so5 m (pl w) w l 16 w l = m 16 w l := by rw [so5_k (by decide) (by decide) (by decide) (by decide) (by decide) (by decide) (by decide)]
  refine x_aload_n (pc := 0) dX6_sendOn_0 0 rfl ?_
  refine y_getR (pc := 1) dX6_sendOn_1 flX6_12 rfl rfl rfl hw ?_
  refine y_getR (pc := 4) dX6_sendOn_4 flX6_89 rfl rfl rfl (h13 hw) ?_
  refine x_astore_n (pc := 7) (lv' := [(2, _), (0, _), (1, _)]) dX6_sendOn_7 rfl (by decide) rfl ?_
  refine x_aload_n (pc := 8) dX6_sendOn_8 0 rfl ?_
  refine y_getR (pc := 9) dX6_sendOn_9 flX6_109 rfl rfl rfl (h13 hw) ?_
  refine x_iload_n (pc := 12) dX6_sendOn_12 2 rfl ?_
  refine y_iald (pc := 13) dX6_sendOn_13 rfl (h13 hw) (by omega) ?_
  refine x_istore_n (pc := 14) (lv' := [(3, _), (2, _), (0, _), (1, _)]) dX6_sendOn_14 rfl (by decide) rfl ?_
  refine x_aload_n (pc := 15) dX6_sendOn_15 2 rfl ?_
  refine y_getR (pc := 16) dX6_sendOn_16 flX6_18 rfl rfl rfl hw ?_
  refine y_getR (pc := 19) dX6_sendOn_19 flX6_73 rfl rfl rfl (pl_lt hw) ?_
  refine x_iload_n (pc := 22) dX6_sendOn_22 0 rfl ?_
  refine y_iald (pc := 23) dX6_sendOn_23 rfl (pl_lt hw) (by omega) ?_
  refine x_istore (pc := 24) (lv' := [(4, _), (3, _), (2, _), (0, _), (1, _)]) dX6_sendOn_24 (by decide) rfl ?_
  refine x_aload_n (pc := 26) dX6_sendOn_26 3 rfl ?_
  refine y_getR (pc := 27) dX6_sendOn_27 flX6_18 rfl rfl rfl hw ?_
  refine x_iload_n (pc := 30) dX6_sendOn_30 1 rfl ?_
  refine x_callV (pc := 31) _ dX6_sendOn_31 (ct_cableOf (pl_lt hw) (m 15 w l) (by omega) (by omega) (by omega)) lkX6_80 rfl rfl rfl rfl (mem_dom0 (by decide) (pl_lt hw)) (by decide) (Nat.le_of_ble_eq_true rfl) rfl ?_
  refine x_top (v' := .int (iI (cbC m (pl w) w l))) rfl ?_
  refine x_istore (pc := 34) (lv' := [(5, _), (4, _), (3, _), (2, _), (0, _), (1, _)]) dX6_sendOn_34 (by decide) rfl ?_
  refine x_iload (pc := 36) dX6_sendOn_36 0 rfl ?_
  refine x_iconst (pc := 38) dX6_sendOn_38 ?_
  refine x_icmp_ne (pc := 39) 43 dX6_sendOn_39 (by decide) (by unfold inI; omega) (by unfold inI; omega) (fun c_39 => ?_) (fun c_39 => (by exfalso; omega))
  refine x_iconst (pc := 43) dX6_sendOn_43 ?_
  refine x_aload_n (pc := 44) dX6_sendOn_44 4 rfl ?_
  refine y_getR (pc := 45) dX6_sendOn_45 flX6_12 rfl rfl rfl hw ?_
  refine x_iload (pc := 48) dX6_sendOn_48 1 rfl ?_
  refine x_callV (pc := 50) _ dX6_sendOn_50 (ct_aboveReserve (h13 hw) (m 28 (pl w) (m 15 w l)) (by omega)) lkX6_129 rfl rfl rfl rfl (mem_dom0 (by decide) (h13 hw)) (by decide) (Nat.le_of_ble_eq_true rfl) rfl ?_
  refine x_max (pc := 53) dX6_sendOn_53 lmX6_197 (by unfold inI; omega) (by unfold inI; omega) (by decide) (Nat.le_of_ble_eq_true rfl) (by decide) (by decide) ?_
  refine x_aload_n (pc := 56) dX6_sendOn_56 4 rfl ?_
  refine y_getR (pc := 57) dX6_sendOn_57 flX6_12 rfl rfl rfl hw ?_
  refine x_iload (pc := 60) dX6_sendOn_60 0 rfl ?_
  refine x_callV (pc := 62) _ dX6_sendOn_62 (ct_stillSends (h13 hw) (cbC m (pl w) w l) (by omega)) lkX6_200 rfl rfl rfl rfl (mem_dom0 (by decide) (h13 hw)) (by decide) (Nat.le_of_ble_eq_true rfl) rfl ?_
  refine x_min (pc := 65) dX6_sendOn_65 lmX6_65 (by unfold inI; omega) (by unfold inI; omega) (by decide) (Nat.le_of_ble_eq_true rfl) (by decide) (by decide) ?_
  refine x_istore (pc := 68) (lv' := [(6, _), (5, _), (4, _), (3, _), (2, _), (0, _), (1, _)]) dX6_sendOn_68 (by decide) rfl ?_
  refine x_aload_n (pc := 70) dX6_sendOn_70 4 rfl ?_
  refine y_getR (pc := 71) dX6_sendOn_71 flX6_117 rfl rfl rfl (h13 hw) ?_
  refine x_iload_n (pc := 74) dX6_sendOn_74 6 rfl ?_
  refine y_iald (pc := 75) dX6_sendOn_75 rfl (h13 hw) (by omega) ?_
  refine x_aload_n (pc := 76) dX6_sendOn_76 4 rfl ?_
  refine y_getR (pc := 77) dX6_sendOn_77 flX6_99 rfl rfl rfl (h13 hw) ?_
  refine x_iload_n (pc := 80) dX6_sendOn_80 6 rfl ?_
  refine y_iald (pc := 81) dX6_sendOn_81 rfl (h13 hw) (by omega) ?_
  refine x_isub (pc := 82) dX6_sendOn_82 ?_
  refine x_iload (pc := 83) dX6_sendOn_83 0 rfl ?_
  refine x_min (pc := 85) dX6_sendOn_85 lmX6_65 (by unfold inI; omega) (by unfold inI; omega) (by decide) (Nat.le_of_ble_eq_true rfl) (by decide) (by decide) ?_
  refine x_top (v' := .int (iI (soA m (pl w) w l))) rfl ?_
  refine x_istore (pc := 88) (lv' := [(7, _), (6, _), (5, _), (4, _), (3, _), (2, _), (0, _), (1, _)]) dX6_sendOn_88 (by decide) rfl ?_
  refine x_aload_n (pc := 90) dX6_sendOn_90 6 rfl ?_
  refine x_iload (pc := 91) dX6_sendOn_91 3 rfl ?_
  refine x_iload (pc := 93) dX6_sendOn_93 0 rfl ?_
  refine x_callV (pc := 95) _ dX6_sendOn_95 (ct_give hw (m 28 (pl w) (m 15 w l)) (soA m (pl w) w l) hpf hqf (by omega)) lkX6_194 rfl rfl rfl rfl (mem_dom0 (by decide) hw) (by decide) (Nat.le_of_ble_eq_true rfl) rfl ?_
  refine x_nil (m' := so1 m (pl w) w l) rfl ?_
  refine x_istore (pc := 98) (lv' := [(8, _), (7, _), (6, _), (5, _), (4, _), (3, _), (2, _), (0, _), (1, _)]) dX6_sendOn_98 (by decide) rfl ?_
  refine x_aload_n (pc := 100) dX6_sendOn_100 6 rfl ?_
  refine y_getR (pc := 101) dX6_sendOn_101 flX6_102 rfl rfl rfl (h13 hw) ?_
  refine x_iload_n (pc := 104) dX6_sendOn_104 8 rfl ?_
  refine x_ldc (pc := 105) (z := 100000000) dX6_sendOn_105 kcX6_76 (by decide) ?_
  refine x_aload_n (pc := 107) dX6_sendOn_107 6 rfl ?_
  refine y_getR (pc := 108) dX6_sendOn_108 flX6_102 rfl rfl rfl (h13 hw) ?_
  refine x_iload_n (pc := 111) dX6_sendOn_111 8 rfl ?_
  refine y_iald (pc := 112) dX6_sendOn_112 rfl (h13 hw) (by omega) ?_
  refine x_iload (pc := 113) dX6_sendOn_113 0 rfl ?_
  refine x_iadd (pc := 115) dX6_sendOn_115 ?_
  refine x_min (pc := 116) dX6_sendOn_116 lmX6_65 (by unfold inI; omega) (by unfold inI; omega) (by decide) (Nat.le_of_ble_eq_true rfl) (by decide) (by decide) ?_
  refine y_iast (pc := 119) dX6_sendOn_119 rfl (h13 hw) (by omega) ?_
  refine x_nil (m' := so2 m (pl w) w l) rfl ?_
  refine x_aload_n (pc := 120) dX6_sendOn_120 7 rfl ?_
  refine x_aload_n (pc := 121) dX6_sendOn_121 7 rfl ?_
  refine y_getR (pc := 122) dX6_sendOn_122 flX6_18 rfl rfl rfl hw ?_
  refine y_getR (pc := 125) dX6_sendOn_125 flX6_203 rfl rfl rfl (pl_lt hw) ?_
  refine x_iload_n (pc := 128) dX6_sendOn_128 5 rfl ?_
  refine y_iald (pc := 129) dX6_sendOn_129 rfl (pl_lt hw) (by omega) ?_
  refine x_top (v' := .int (iI (m 29 (pl w) (m 15 w l)))) (by rw [so2_k (by decide) (by decide) (by decide) (by decide)]) ?_
  refine x_aload_n (pc := 130) dX6_sendOn_130 7 rfl ?_
  refine y_getR (pc := 131) dX6_sendOn_131 flX6_12 rfl rfl rfl hw ?_
  refine x_iload (pc := 134) dX6_sendOn_134 3 rfl ?_
  refine x_iload (pc := 136) dX6_sendOn_136 1 rfl ?_
  refine x_callV (pc := 138) _ dX6_sendOn_138 (ct_carry (h13 hw) (cbC m (pl w) w l) (soA m (pl w) w l) (by omega) hx) lkX6_206 rfl rfl rfl rfl (mem_dom0 (by decide) (h13 hw)) (by decide) (Nat.le_of_ble_eq_true rfl) rfl ?_
  refine x_nil (m' := so3 m (pl w) w l) rfl ?_
  refine x_callV (pc := 141) _ dX6_sendOn_141 (ct_get hw (m 29 (pl w) (m 15 w l)) _ hpf3 (by omega)) lkX6_178 rfl rfl rfl rfl (mem_dom0 (by decide) hw) (by decide) (Nat.le_of_ble_eq_true rfl) rfl ?_
  refine x_nil (m' := so4 m (pl w) w l) rfl ?_
  refine x_aload_n (pc := 144) dX6_sendOn_144 6 rfl ?_
  refine y_getR (pc := 145) dX6_sendOn_145 flX6_99 rfl rfl rfl (h13 hw) ?_
  refine x_iload_n (pc := 148) dX6_sendOn_148 8 rfl ?_
  refine x_dup2 (pc := 149) dX6_sendOn_149 rfl rfl ?_
  refine y_iald (pc := 150) dX6_sendOn_150 rfl (h13 hw) (by omega) ?_
  refine x_iload (pc := 151) dX6_sendOn_151 1 rfl ?_
  refine x_iadd (pc := 153) dX6_sendOn_153 ?_
  refine y_iast (pc := 154) dX6_sendOn_154 rfl (h13 hw) (by omega) ?_
  refine x_nil (m' := so5 m (pl w) w l) rfl ?_
  refine x_aload_n (pc := 155) dX6_sendOn_155 6 rfl ?_
  refine y_getR (pc := 156) dX6_sendOn_156 flX6_99 rfl rfl rfl (h13 hw) ?_
  refine x_iload_n (pc := 159) dX6_sendOn_159 8 rfl ?_
  refine y_iald (pc := 160) dX6_sendOn_160 rfl (h13 hw) (by omega) ?_
  refine x_aload_n (pc := 161) dX6_sendOn_161 6 rfl ?_
  refine y_getR (pc := 162) dX6_sendOn_162 flX6_117 rfl rfl rfl (h13 hw) ?_
  refine x_iload_n (pc := 165) dX6_sendOn_165 8 rfl ?_
  refine y_iald (pc := 166) dX6_sendOn_166 rfl (h13 hw) (by omega) ?_
  refine x_icmp_lt (pc := 167) 177 dX6_sendOn_167 (by decide) (by unfold inI; omega) (by unfold inI; omega) (fun c_167 => ?_) (fun c_167 => ?_)
  · exact y_vret (pc := 177) dX6_sendOn_177 rfl (by unfold soC; rw [if_neg (by omega)])
  · refine x_aload_n (pc := 170) dX6_sendOn_170 6 rfl ?_
    refine y_getR (pc := 171) dX6_sendOn_171 flX6_115 rfl rfl rfl (h13 hw) ?_
    refine x_iload_n (pc := 174) dX6_sendOn_174 8 rfl ?_
    refine x_iconst (pc := 175) dX6_sendOn_175 ?_
    refine y_iast (pc := 176) dX6_sendOn_176 rfl (h13 hw) (by omega) ?_
    exact y_vret (pc := 177) dX6_sendOn_177 rfl (by unfold soC; rw [if_pos (by omega)])
theorem ct_sendBack {G : GG} {m : Mem} {w : Nat} (hw : w < 5) (l : Int) (hP : BP m (pl w)) (hS : BS m (pl w) w) (hN : SN m (pl w) w) (h0 : 0 ≤ l) (h1 : l < m 2 w 0) (h2 : m 20 w l = 2) : Ct G MX6_sendBack (rmD 3) [rf G 33 w, .int (iI l)] (hp (m)) (.inl none) (hp (sbC m (pl w) w l)) := by
  refine x_entry (by decide +kernel) mwX6_sendBack rfl (Nat.le_of_ble_eq_true rfl) ?_
  show X G MX6_sendBack (rmD 3) 0 [(0, rf G 33 w), (1, .int (iI l))] [] (hp (m)) 0 0 (.inl none) (hp (sbC m (pl w) w l))
  have n16 := hS.2.2.2.2.1.1
  have n8 := hP.2.2.1
  have n8b := hP.2.2.2.2.2.2.1
  have n12 := hP.2.2.2.2.2.1
  have t0 := hS.1
  have hb := hS.2.2.2.2.1.2 l h0 h1
  have hc := BP_c hP hb.1.1 hb.1.2
  have k1 := hb.1
  have k2 := hb.2.1
  have k3 := hb.2.2.1
  have k4 := hb.2.2.2.1
  have g1 := hc.1
  have g2 := hc.2.1
  have hcb := hS.2.2.1 (cbC m (pl w) w l) hc.2.2.2.2.2.2.1 hc.2.2.2.2.2.2.2
  have c0 : 0 ≤ cbC m (pl w) w l ∧ cbC m (pl w) w l < m 22 (pl w) 5 := ⟨hc.2.2.2.2.2.2.1, hc.2.2.2.2.2.2.2⟩
  have c1 := hcb.1
  have c2 := hcb.2.1
  have c3 := hcb.2.2
  have cn := hN (cbC m (pl w) w l) c0.1 c0.2
  have ha := sbA_b hP hS hN h0 h1
  have hr := sbR_b hP hS hN h0 h1
  have hpf := BS_pf hP hS g2.1 g2.2
  have hqf := BP_qf hP g2.1 g2.2
  have hq := hS.2.1 _ g2.1 g2.2
  have q1 := hq.1
  have qr := roomC_b hpf
  have qc := hpf.2.1
  have hlf := BS_lf hP hS h0 h1
  have ho := owedC_b hlf
  have hf := sb_facts hP hS hN h0 h1 h2
  have hwr := wearC_b hpf hqf (x := sbA m (pl w) w l) ⟨ha.1.1, by omega⟩
  have hpf3 : PF (sb2 m (pl w) w l) (pl w) w (m 28 (pl w) (m 15 w l)) := BS_pf hf.2.1.1 hf.2.1.2 g1.1 (by rw [sb2_k (by decide) (by decide) (by decide) (by decide) (by decide)]; exact g1.2)
  have hq3 := (hf.2.1.2.2.1 (m 28 (pl w) (m 15 w l)) g1.1 (by rw [sb2_k (by decide) (by decide) (by decide) (by decide) (by decide)]; exact g1.2)).1
  have qr3 := roomC_b hpf3
  have qc3 := hpf3.2.1
  have e6 : sb1 m (pl w) w l 6 w (cbC m (pl w) w l) = m 6 w (cbC m (pl w) w l) := by rw [sb1_k (by decide) (by decide) (by decide)]
  have hx1 : sbA m (pl w) w l * m 6 w (cbC m (pl w) w l) ≤ sbA m (pl w) w l * 900 := Int.mul_le_mul_of_nonneg_left c1.2 ha.1.1
  have hx0 : 0 ≤ sbA m (pl w) w l * m 6 w (cbC m (pl w) w l) := Int.mul_nonneg ha.1.1 c1.1
  have hx : 0 ≤ sbA m (pl w) w l * sb1 m (pl w) w l 6 w (cbC m (pl w) w l) ∧ sbA m (pl w) w l * sb1 m (pl w) w l 6 w (cbC m (pl w) w l) < 2147483648 := by rw [e6]; omega
  have hl4 : l < sb4 m (pl w) w l 2 w 0 := by rw [sb4_k (by decide) (by decide) (by decide) (by decide) (by decide) (by decide)]; exact h1
  have hlf4 := BS_lf hf.2.2.2.1.1 hf.2.2.2.1.2 h0 hl4
  have ho4 := owedC_b hlf4
  have bl4 := hf.2.2.2.1.2.2.2.2.2.1.2 l h0 hl4
  have t4 := hf.2.2.2.1.2.1
  have u4 := bl4.2.2.2.2.2.2
  have r32 := hc.2.2.2.2.1
  have hd : 0 ≤ (owedC m (pl w) w l * 1000 + (1000 - m 6 w (cbC m (pl w) w l)) - 1) / (1000 - m 6 w (cbC m (pl w) w l)) := Int.ediv_nonneg (by omega) (by omega)
  have hd1 : (owedC m (pl w) w l * 1000 + (1000 - m 6 w (cbC m (pl w) w l)) - 1) / (1000 - m 6 w (cbC m (pl w) w l)) ≤ 200000000000 := Int.le_trans (Int.ediv_le_self _ (by omega)) (by omega)
  refine x_aload_n (pc := 0) dX6_sendBack_0 0 rfl ?_
  refine y_getR (pc := 1) dX6_sendBack_1 flX6_12 rfl rfl rfl hw ?_
  refine y_getR (pc := 4) dX6_sendBack_4 flX6_89 rfl rfl rfl (h13 hw) ?_
  refine x_astore_n (pc := 7) (lv' := [(2, _), (0, _), (1, _)]) dX6_sendBack_7 rfl (by decide) rfl ?_
  refine x_aload_n (pc := 8) dX6_sendBack_8 0 rfl ?_
  refine y_getR (pc := 9) dX6_sendBack_9 flX6_109 rfl rfl rfl (h13 hw) ?_
  refine x_iload_n (pc := 12) dX6_sendBack_12 2 rfl ?_
  refine y_iald (pc := 13) dX6_sendBack_13 rfl (h13 hw) (by omega) ?_
  refine x_istore_n (pc := 14) (lv' := [(3, _), (2, _), (0, _), (1, _)]) dX6_sendBack_14 rfl (by decide) rfl ?_
  refine x_aload_n (pc := 15) dX6_sendBack_15 2 rfl ?_
  refine y_getR (pc := 16) dX6_sendBack_16 flX6_18 rfl rfl rfl hw ?_
  refine y_getR (pc := 19) dX6_sendBack_19 flX6_203 rfl rfl rfl (pl_lt hw) ?_
  refine x_iload_n (pc := 22) dX6_sendBack_22 0 rfl ?_
  refine y_iald (pc := 23) dX6_sendBack_23 rfl (pl_lt hw) (by omega) ?_
  refine x_istore (pc := 24) (lv' := [(4, _), (3, _), (2, _), (0, _), (1, _)]) dX6_sendBack_24 (by decide) rfl ?_
  refine x_aload_n (pc := 26) dX6_sendBack_26 3 rfl ?_
  refine y_getR (pc := 27) dX6_sendBack_27 flX6_18 rfl rfl rfl hw ?_
  refine x_iload_n (pc := 30) dX6_sendBack_30 1 rfl ?_
  refine x_callV (pc := 31) _ dX6_sendBack_31 (ct_cableOf (pl_lt hw) (m 15 w l) (by omega) (by omega) (by omega)) lkX6_80 rfl rfl rfl rfl (mem_dom0 (by decide) (pl_lt hw)) (by decide) (Nat.le_of_ble_eq_true rfl) rfl ?_
  refine x_top (v' := .int (iI (cbC m (pl w) w l))) rfl ?_
  refine x_istore (pc := 34) (lv' := [(5, _), (4, _), (3, _), (2, _), (0, _), (1, _)]) dX6_sendBack_34 (by decide) rfl ?_
  refine x_iload (pc := 36) dX6_sendBack_36 0 rfl ?_
  refine x_iconst (pc := 38) dX6_sendBack_38 ?_
  refine x_icmp_ne (pc := 39) 43 dX6_sendBack_39 (by decide) (by unfold inI; omega) (by unfold inI; omega) (fun c_39 => ?_) (fun c_39 => (by exfalso; omega))
  refine x_aload_n (pc := 43) dX6_sendBack_43 4 rfl ?_
  refine y_getR (pc := 44) dX6_sendBack_44 flX6_12 rfl rfl rfl hw ?_
  refine y_getR (pc := 47) dX6_sendBack_47 flX6_46 rfl rfl rfl (h13 hw) ?_
  refine x_iload (pc := 50) dX6_sendBack_50 1 rfl ?_
  refine y_iald (pc := 52) dX6_sendBack_52 rfl (h13 hw) (by omega) ?_
  refine x_aload_n (pc := 53) dX6_sendBack_53 4 rfl ?_
  refine y_getR (pc := 54) dX6_sendBack_54 flX6_12 rfl rfl rfl hw ?_
  refine x_iload (pc := 57) dX6_sendBack_57 0 rfl ?_
  refine x_callV (pc := 59) _ dX6_sendBack_59 (ct_stillSends (h13 hw) (cbC m (pl w) w l) (by omega)) lkX6_200 rfl rfl rfl rfl (mem_dom0 (by decide) (h13 hw)) (by decide) (Nat.le_of_ble_eq_true rfl) rfl ?_
  refine x_min (pc := 62) dX6_sendBack_62 lmX6_65 (by unfold inI; omega) (by unfold inI; omega) (by decide) (Nat.le_of_ble_eq_true rfl) (by decide) (by decide) ?_
  refine x_istore (pc := 65) (lv' := [(6, _), (5, _), (4, _), (3, _), (2, _), (0, _), (1, _)]) dX6_sendBack_65 (by decide) rfl ?_
  refine x_aload_n (pc := 67) dX6_sendBack_67 5 rfl ?_
  refine x_iload_n (pc := 68) dX6_sendBack_68 6 rfl ?_
  refine x_callV (pc := 69) _ dX6_sendBack_69 (ct_owed hw l (by omega) hlf) lkX6_112 rfl rfl rfl rfl (mem_dom0 (by decide) hw) (by decide) (Nat.le_of_ble_eq_true rfl) rfl ?_
  refine x_aload_n (pc := 72) dX6_sendBack_72 5 rfl ?_
  refine y_getR (pc := 73) dX6_sendBack_73 flX6_12 rfl rfl rfl hw ?_
  refine y_getR (pc := 76) dX6_sendBack_76 flX6_83 rfl rfl rfl (h13 hw) ?_
  refine x_iload (pc := 79) dX6_sendBack_79 1 rfl ?_
  refine y_iald (pc := 81) dX6_sendBack_81 rfl (h13 hw) (by omega) ?_
  refine x_callS (pc := 82) _ dX6_sendBack_82 (ct_sentToReturn (owedC m (pl w) w l) (m 6 w (cbC m (pl w) w l)) (by omega) c1) lkX6_209 rfl (by decide) (Nat.le_of_ble_eq_true rfl) rfl ?_
  refine x_iload (pc := 85) dX6_sendBack_85 0 rfl ?_
  refine x_i2l (pc := 87) dX6_sendBack_87 (by unfold inI; omega) ?_
  refine x_minl (pc := 88) dX6_sendBack_88 lmX6_213 (by unfold inL; omega) (by unfold inL; omega) (by decide) (Nat.le_of_ble_eq_true rfl) (by decide) (by decide) ?_
  refine x_l2i (pc := 91) dX6_sendBack_91 ?_
  refine x_top (v' := .int (iI (sbA m (pl w) w l))) rfl ?_
  refine x_istore (pc := 92) (lv' := [(7, _), (6, _), (5, _), (4, _), (3, _), (2, _), (0, _), (1, _)]) dX6_sendBack_92 (by decide) rfl ?_
  refine x_aload_n (pc := 94) dX6_sendBack_94 6 rfl ?_
  refine x_iload (pc := 95) dX6_sendBack_95 3 rfl ?_
  refine x_iload (pc := 97) dX6_sendBack_97 0 rfl ?_
  refine x_callV (pc := 99) _ dX6_sendBack_99 (ct_give hw (m 29 (pl w) (m 15 w l)) (sbA m (pl w) w l) hpf hqf (by omega)) lkX6_194 rfl rfl rfl rfl (mem_dom0 (by decide) hw) (by decide) (Nat.le_of_ble_eq_true rfl) rfl ?_
  refine x_nil (m' := sb1 m (pl w) w l) rfl ?_
  refine x_pop (pc := 102) dX6_sendBack_102 rfl ?_
  refine x_aload_n (pc := 103) dX6_sendBack_103 6 rfl ?_
  refine y_getR (pc := 104) dX6_sendBack_104 flX6_12 rfl rfl rfl hw ?_
  refine x_iload (pc := 107) dX6_sendBack_107 2 rfl ?_
  refine x_iload (pc := 109) dX6_sendBack_109 0 rfl ?_
  refine x_callV (pc := 111) _ dX6_sendBack_111 (ct_carry (h13 hw) (cbC m (pl w) w l) (sbA m (pl w) w l) (by omega) hx) lkX6_206 rfl rfl rfl rfl (mem_dom0 (by decide) (h13 hw)) (by decide) (Nat.le_of_ble_eq_true rfl) rfl ?_
  refine x_nil (m' := sb2 m (pl w) w l) rfl ?_
  refine x_top (v' := .int (iI (sbR m (pl w) w l))) rfl ?_
  refine x_istore (pc := 114) (lv' := [(8, _), (7, _), (6, _), (5, _), (4, _), (3, _), (2, _), (0, _), (1, _)]) dX6_sendBack_114 (by decide) rfl ?_
  refine x_aload_n (pc := 116) dX6_sendBack_116 7 rfl ?_
  refine x_aload_n (pc := 117) dX6_sendBack_117 7 rfl ?_
  refine y_getR (pc := 118) dX6_sendBack_118 flX6_18 rfl rfl rfl hw ?_
  refine y_getR (pc := 121) dX6_sendBack_121 flX6_73 rfl rfl rfl (pl_lt hw) ?_
  refine x_iload_n (pc := 124) dX6_sendBack_124 5 rfl ?_
  refine y_iald (pc := 125) dX6_sendBack_125 rfl (pl_lt hw) (by omega) ?_
  refine x_top (v' := .int (iI (m 28 (pl w) (m 15 w l)))) (by rw [sb2_k (by decide) (by decide) (by decide) (by decide) (by decide)]) ?_
  refine x_iload (pc := 126) dX6_sendBack_126 0 rfl ?_
  refine x_callV (pc := 128) _ dX6_sendBack_128 (ct_get hw (m 28 (pl w) (m 15 w l)) (sbR m (pl w) w l) hpf3 (by omega)) lkX6_178 rfl rfl rfl rfl (mem_dom0 (by decide) hw) (by decide) (Nat.le_of_ble_eq_true rfl) rfl ?_
  refine x_nil (m' := sb3 m (pl w) w l) rfl ?_
  refine x_aload_n (pc := 131) dX6_sendBack_131 6 rfl ?_
  refine y_getR (pc := 132) dX6_sendBack_132 flX6_103 rfl rfl rfl (h13 hw) ?_
  refine x_iload_n (pc := 135) dX6_sendBack_135 8 rfl ?_
  refine x_dup2 (pc := 136) dX6_sendBack_136 rfl rfl ?_
  refine y_iald (pc := 137) dX6_sendBack_137 rfl (h13 hw) (by omega) ?_
  refine x_iload (pc := 138) dX6_sendBack_138 0 rfl ?_
  refine x_iadd (pc := 140) dX6_sendBack_140 ?_
  refine y_iast (pc := 141) dX6_sendBack_141 rfl (h13 hw) (by omega) ?_
  refine x_nil (m' := sb4 m (pl w) w l) rfl ?_
  refine x_aload_n (pc := 142) dX6_sendBack_142 7 rfl ?_
  refine x_iload_n (pc := 143) dX6_sendBack_143 8 rfl ?_
  refine x_callV (pc := 144) _ dX6_sendBack_144 (ct_owed hw l (by omega) hlf4) lkX6_112 rfl rfl rfl rfl (mem_dom0 (by decide) hw) (by decide) (Nat.le_of_ble_eq_true rfl) rfl ?_
  refine x_if_ne (pc := 147) 160 dX6_sendBack_147 (by decide) (by unfold inI; omega) (fun c_147 => ?_) (fun c_147 => ?_)
  · refine x_aload_n (pc := 160) dX6_sendBack_160 7 rfl ?_
    refine y_getR (pc := 161) dX6_sendBack_161 flX6_12 rfl rfl rfl hw ?_
    refine y_getI (pc := 164) 0 dX6_sendBack_164 flX6_157 rfl rfl rfl (h13 hw) ?_
    refine x_aload_n (pc := 167) dX6_sendBack_167 6 rfl ?_
    refine y_getR (pc := 168) dX6_sendBack_168 flX6_160 rfl rfl rfl (h13 hw) ?_
    refine x_iload_n (pc := 171) dX6_sendBack_171 8 rfl ?_
    refine y_iald (pc := 172) dX6_sendBack_172 rfl (h13 hw) (by omega) ?_
    refine x_isub (pc := 173) dX6_sendBack_173 ?_
    refine x_aload_n (pc := 174) dX6_sendBack_174 7 rfl ?_
    refine y_getR (pc := 175) dX6_sendBack_175 flX6_18 rfl rfl rfl hw ?_
    refine y_getR (pc := 178) dX6_sendBack_178 flX6_216 rfl rfl rfl (pl_lt hw) ?_
    refine x_iload_n (pc := 181) dX6_sendBack_181 5 rfl ?_
    refine y_iald (pc := 182) dX6_sendBack_182 rfl (pl_lt hw) (by omega) ?_
    refine x_top (v' := .int (iI (m 32 (pl w) (m 15 w l)))) (by rw [sb4_k (by decide) (by decide) (by decide) (by decide) (by decide) (by decide)]) ?_
    refine x_icmp_lt (pc := 183) 203 dX6_sendBack_183 (by decide) (by unfold inI; omega) (by unfold inI; omega) (fun c_183 => ?_) (fun c_183 => ?_)
    · exact y_vret (pc := 203) dX6_sendBack_203 rfl (by unfold sbC; rw [if_neg (by omega), if_neg (by omega)])
    · refine x_aload_n (pc := 186) dX6_sendBack_186 6 rfl ?_
      refine y_getR (pc := 187) dX6_sendBack_187 flX6_115 rfl rfl rfl (h13 hw) ?_
      refine x_iload_n (pc := 190) dX6_sendBack_190 8 rfl ?_
      refine x_iconst (pc := 191) dX6_sendBack_191 ?_
      refine y_iast (pc := 192) dX6_sendBack_192 rfl (h13 hw) (by omega) ?_
      refine x_aload_n (pc := 193) dX6_sendBack_193 7 rfl ?_
      refine y_getR (pc := 194) dX6_sendBack_194 flX6_12 rfl rfl rfl hw ?_
      refine y_getR (pc := 197) dX6_sendBack_197 flX6_120 rfl rfl rfl (h13 hw) ?_
      refine x_iload_n (pc := 200) dX6_sendBack_200 5 rfl ?_
      refine x_iconst (pc := 201) dX6_sendBack_201 ?_
      refine y_iast (pc := 202) dX6_sendBack_202 rfl (h13 hw) (by omega) ?_
      exact y_vret (pc := 203) dX6_sendBack_203 rfl (by unfold sbC; rw [if_neg (by omega), if_pos (by omega)])
  · refine x_aload_n (pc := 150) dX6_sendBack_150 6 rfl ?_
    refine y_getR (pc := 151) dX6_sendBack_151 flX6_115 rfl rfl rfl (h13 hw) ?_
    refine x_iload_n (pc := 154) dX6_sendBack_154 8 rfl ?_
    refine x_iconst (pc := 155) dX6_sendBack_155 ?_
    refine y_iast (pc := 156) dX6_sendBack_156 rfl (h13 hw) (by omega) ?_
    refine x_goto (pc := 157) 203 dX6_sendBack_157 (by decide) ?_
    exact y_vret (pc := 203) dX6_sendBack_203 rfl (by unfold sbC; rw [if_pos (by omega)])
theorem lp_passTick {G : GG} {w : Nat} (hw : w < 5) (m9 : Mem) : ∀ (n : Nat) (m : Mem) (l : Int), BP m (pl w) → BS m (pl w) w → SN m (pl w) w → 0 ≤ l → l + n = m 2 w 0 → m9 = lnL m (pl w) w l n → X G MX6_passTick (rmD 4) 31 [(0, rf G 33 w), (1, .int (iI l))] [] (hp (m)) 0 0 (.inl none) (hp (up3 m9 0 w 0 (m9 0 w 0 + 1))) := by
  intro n
  induction n with
  | zero =>
    intro m l hP hS hN h0 h1 hm9
    have n16 := hS.2.2.2.2.1.1
    refine x_iload_n (pc := 31) dX6_passTick_31 1 rfl ?_
    refine x_aload_n (pc := 32) dX6_passTick_32 0 rfl ?_
    refine y_getR (pc := 33) dX6_passTick_33 flX6_12 rfl rfl rfl hw ?_
    refine y_getR (pc := 36) dX6_passTick_36 flX6_89 rfl rfl rfl (h13 hw) ?_
    refine y_getI (pc := 39) 0 dX6_passTick_39 flX6_106 rfl rfl rfl (h13 hw) ?_
    refine x_icmp_ge (pc := 42) 144 dX6_passTick_42 (by decide) (by unfold inI; omega) (by unfold inI; omega) (fun c_42 => ?_) (fun c_42 => (by exfalso; omega))
    refine x_aload_n (pc := 144) dX6_passTick_144 0 rfl ?_
    refine y_getR (pc := 145) dX6_passTick_145 flX6_12 rfl rfl rfl hw ?_
    refine x_dup (pc := 148) dX6_passTick_148 rfl ?_
    refine y_getI (pc := 149) 0 dX6_passTick_149 flX6_157 rfl rfl rfl (h13 hw) ?_
    refine x_iconst (pc := 152) dX6_passTick_152 ?_
    refine x_iadd (pc := 153) dX6_passTick_153 ?_
    refine y_putI (pc := 154) 0 dX6_passTick_154 fwX6_157 rfl rfl rfl (h13 hw) ?_
    exact y_vret (pc := 157) dX6_passTick_157 rfl (by rw [hm9]; rfl)
  | succ n ih =>
    intro m l hP hS hN h0 h1 hm9
    have n16 := hS.2.2.2.2.1.1
    have t0 := hS.1
    have hb := hS.2.2.2.2.1.2 l h0 (by omega)
    have k6 := hb.2.2.2.2.2.1
    have k7 := hb.2.2.2.2.2.2
    have a := lnA_f hP hS hN h0 (by omega)
    have h1a : l < lnA m w l 2 w 0 := by rw [lnA_k (by decide)]; omega
    have k8 := (a.2.1.2.2.2.2.1.2 l h0 h1a).2.2.2.2.2.1
    have b := ln_f hP hS hN h0 (by omega)
    refine x_iload_n (pc := 31) dX6_passTick_31 1 rfl ?_
    refine x_aload_n (pc := 32) dX6_passTick_32 0 rfl ?_
    refine y_getR (pc := 33) dX6_passTick_33 flX6_12 rfl rfl rfl hw ?_
    refine y_getR (pc := 36) dX6_passTick_36 flX6_89 rfl rfl rfl (h13 hw) ?_
    refine y_getI (pc := 39) 0 dX6_passTick_39 flX6_106 rfl rfl rfl (h13 hw) ?_
    refine x_icmp_ge (pc := 42) 144 dX6_passTick_42 (by decide) (by unfold inI; omega) (by unfold inI; omega) (fun c_42 => (by exfalso; omega)) (fun c_42 => ?_)
    refine x_aload_n (pc := 45) dX6_passTick_45 0 rfl ?_
    refine y_getR (pc := 46) dX6_passTick_46 flX6_12 rfl rfl rfl hw ?_
    refine y_getR (pc := 49) dX6_passTick_49 flX6_89 rfl rfl rfl (h13 hw) ?_
    refine x_iload_n (pc := 52) dX6_passTick_52 1 rfl ?_
    refine x_callV (pc := 53) _ dX6_passTick_53 (ct_isOpen (h13 hw) l (by omega) (by unfold inI; omega)) lkX6_93 rfl rfl rfl rfl (mem_dom0 (by decide) (h13 hw)) (by decide) (Nat.le_of_ble_eq_true rfl) rfl ?_
    refine x_ifb_eq (pc := 56) 94 dX6_passTick_56 (by decide) (fun c_56 => ?_) (fun c_56 => ?_)
    · refine x_nil (m' := lnA m w l) (by unfold lnA; rw [if_neg (fun z => c_56 z.1)]) ?_
      refine x_aload_n (pc := 94) dX6_passTick_94 0 rfl ?_
      refine y_getR (pc := 95) dX6_passTick_95 flX6_12 rfl rfl rfl hw ?_
      refine y_getR (pc := 98) dX6_passTick_98 flX6_89 rfl rfl rfl (h13 hw) ?_
      refine y_getR (pc := 101) dX6_passTick_101 flX6_115 rfl rfl rfl (h13 hw) ?_
      refine x_iload_n (pc := 104) dX6_passTick_104 1 rfl ?_
      refine y_iald (pc := 105) dX6_passTick_105 rfl (h13 hw) (by omega) ?_
      refine x_if_ne (pc := 106) 117 dX6_passTick_106 (by decide) (by unfold inI; omega) (fun c_106 => ?_) (fun c_106 => ?_)
      · refine x_aload_n (pc := 117) dX6_passTick_117 0 rfl ?_
        refine y_getR (pc := 118) dX6_passTick_118 flX6_12 rfl rfl rfl hw ?_
        refine y_getR (pc := 121) dX6_passTick_121 flX6_89 rfl rfl rfl (h13 hw) ?_
        refine y_getR (pc := 124) dX6_passTick_124 flX6_115 rfl rfl rfl (h13 hw) ?_
        refine x_iload_n (pc := 127) dX6_passTick_127 1 rfl ?_
        refine y_iald (pc := 128) dX6_passTick_128 rfl (h13 hw) (by omega) ?_
        refine x_iconst (pc := 129) dX6_passTick_129 ?_
        refine x_icmp_ne (pc := 130) 138 dX6_passTick_130 (by decide) (by unfold inI; omega) (by unfold inI; omega) (fun c_130 => ?_) (fun c_130 => ?_)
        · refine x_iinc (pc := 138) (lv' := [(1, _), (0, _)]) dX6_passTick_138 1 rfl (by decide) rfl ?_
          refine x_goto (pc := 141) 31 dX6_passTick_141 (by decide) ?_
          have e : lnStep m (pl w) w l = lnA m w l := by unfold lnStep; rw [if_neg c_106, if_neg c_130]
          exact x_lv [1, 0] rfl (ih _ (l + 1) (e ▸ b.1) (e ▸ b.2.1) (e ▸ b.2.2) (by omega) (by rw [← e, lnStep_k (by omega)]; omega) (by rw [hm9]; show lnL (lnStep m (pl w) w l) _ _ _ _ = _; rw [e]))
        · refine x_aload_n (pc := 133) dX6_passTick_133 0 rfl ?_
          refine x_iload_n (pc := 134) dX6_passTick_134 1 rfl ?_
          refine x_callV (pc := 135) _ dX6_passTick_135 (ct_sendBack hw l a.1 a.2.1 a.2.2 h0 h1a c_130) lkX6_166 rfl rfl rfl rfl (mem_dom0 (by decide) hw) (by decide) (Nat.le_of_ble_eq_true rfl) rfl ?_
          refine x_iinc (pc := 138) (lv' := [(1, _), (0, _)]) dX6_passTick_138 1 rfl (by decide) rfl ?_
          refine x_goto (pc := 141) 31 dX6_passTick_141 (by decide) ?_
          have e : lnStep m (pl w) w l = sbC (lnA m w l) (pl w) w l := by unfold lnStep; rw [if_neg c_106, if_pos c_130]
          exact x_lv [1, 0] rfl (ih _ (l + 1) (e ▸ b.1) (e ▸ b.2.1) (e ▸ b.2.2) (by omega) (by rw [← e, lnStep_k (by omega)]; omega) (by rw [hm9]; show lnL (lnStep m (pl w) w l) _ _ _ _ = _; rw [e]))
      · refine x_aload_n (pc := 109) dX6_passTick_109 0 rfl ?_
        refine x_iload_n (pc := 110) dX6_passTick_110 1 rfl ?_
        refine x_callV (pc := 111) _ dX6_passTick_111 (ct_sendOn hw l a.1 a.2.1 a.2.2 h0 h1a) lkX6_163 rfl rfl rfl rfl (mem_dom0 (by decide) hw) (by decide) (Nat.le_of_ble_eq_true rfl) rfl ?_
        refine x_goto (pc := 114) 138 dX6_passTick_114 (by decide) ?_
        refine x_iinc (pc := 138) (lv' := [(1, _), (0, _)]) dX6_passTick_138 1 rfl (by decide) rfl ?_
        refine x_goto (pc := 141) 31 dX6_passTick_141 (by decide) ?_
        have e : lnStep m (pl w) w l = soC (lnA m w l) (pl w) w l := by unfold lnStep; rw [if_pos c_106]
        exact x_lv [1, 0] rfl (ih _ (l + 1) (e ▸ b.1) (e ▸ b.2.1) (e ▸ b.2.2) (by omega) (by rw [← e, lnStep_k (by omega)]; omega) (by rw [hm9]; show lnL (lnStep m (pl w) w l) _ _ _ _ = _; rw [e]))
    · refine x_aload_n (pc := 59) dX6_passTick_59 0 rfl ?_
      refine y_getR (pc := 60) dX6_passTick_60 flX6_12 rfl rfl rfl hw ?_
      refine y_getI (pc := 63) 0 dX6_passTick_63 flX6_157 rfl rfl rfl (h13 hw) ?_
      refine x_aload_n (pc := 66) dX6_passTick_66 0 rfl ?_
      refine y_getR (pc := 67) dX6_passTick_67 flX6_12 rfl rfl rfl hw ?_
      refine y_getR (pc := 70) dX6_passTick_70 flX6_89 rfl rfl rfl (h13 hw) ?_
      refine y_getR (pc := 73) dX6_passTick_73 flX6_160 rfl rfl rfl (h13 hw) ?_
      refine x_iload_n (pc := 76) dX6_passTick_76 1 rfl ?_
      refine y_iald (pc := 77) dX6_passTick_77 rfl (h13 hw) (by omega) ?_
      refine x_icmp_lt (pc := 78) 94 dX6_passTick_78 (by decide) (by unfold inI; omega) (by unfold inI; omega) (fun c_78 => ?_) (fun c_78 => ?_)
      · refine x_nil (m' := lnA m w l) (by unfold lnA; rw [if_neg (by omega)]) ?_
        refine x_aload_n (pc := 94) dX6_passTick_94 0 rfl ?_
        refine y_getR (pc := 95) dX6_passTick_95 flX6_12 rfl rfl rfl hw ?_
        refine y_getR (pc := 98) dX6_passTick_98 flX6_89 rfl rfl rfl (h13 hw) ?_
        refine y_getR (pc := 101) dX6_passTick_101 flX6_115 rfl rfl rfl (h13 hw) ?_
        refine x_iload_n (pc := 104) dX6_passTick_104 1 rfl ?_
        refine y_iald (pc := 105) dX6_passTick_105 rfl (h13 hw) (by omega) ?_
        refine x_if_ne (pc := 106) 117 dX6_passTick_106 (by decide) (by unfold inI; omega) (fun c_106 => ?_) (fun c_106 => ?_)
        · refine x_aload_n (pc := 117) dX6_passTick_117 0 rfl ?_
          refine y_getR (pc := 118) dX6_passTick_118 flX6_12 rfl rfl rfl hw ?_
          refine y_getR (pc := 121) dX6_passTick_121 flX6_89 rfl rfl rfl (h13 hw) ?_
          refine y_getR (pc := 124) dX6_passTick_124 flX6_115 rfl rfl rfl (h13 hw) ?_
          refine x_iload_n (pc := 127) dX6_passTick_127 1 rfl ?_
          refine y_iald (pc := 128) dX6_passTick_128 rfl (h13 hw) (by omega) ?_
          refine x_iconst (pc := 129) dX6_passTick_129 ?_
          refine x_icmp_ne (pc := 130) 138 dX6_passTick_130 (by decide) (by unfold inI; omega) (by unfold inI; omega) (fun c_130 => ?_) (fun c_130 => ?_)
          · refine x_iinc (pc := 138) (lv' := [(1, _), (0, _)]) dX6_passTick_138 1 rfl (by decide) rfl ?_
            refine x_goto (pc := 141) 31 dX6_passTick_141 (by decide) ?_
            have e : lnStep m (pl w) w l = lnA m w l := by unfold lnStep; rw [if_neg c_106, if_neg c_130]
            exact x_lv [1, 0] rfl (ih _ (l + 1) (e ▸ b.1) (e ▸ b.2.1) (e ▸ b.2.2) (by omega) (by rw [← e, lnStep_k (by omega)]; omega) (by rw [hm9]; show lnL (lnStep m (pl w) w l) _ _ _ _ = _; rw [e]))
          · refine x_aload_n (pc := 133) dX6_passTick_133 0 rfl ?_
            refine x_iload_n (pc := 134) dX6_passTick_134 1 rfl ?_
            refine x_callV (pc := 135) _ dX6_passTick_135 (ct_sendBack hw l a.1 a.2.1 a.2.2 h0 h1a c_130) lkX6_166 rfl rfl rfl rfl (mem_dom0 (by decide) hw) (by decide) (Nat.le_of_ble_eq_true rfl) rfl ?_
            refine x_iinc (pc := 138) (lv' := [(1, _), (0, _)]) dX6_passTick_138 1 rfl (by decide) rfl ?_
            refine x_goto (pc := 141) 31 dX6_passTick_141 (by decide) ?_
            have e : lnStep m (pl w) w l = sbC (lnA m w l) (pl w) w l := by unfold lnStep; rw [if_neg c_106, if_pos c_130]
            exact x_lv [1, 0] rfl (ih _ (l + 1) (e ▸ b.1) (e ▸ b.2.1) (e ▸ b.2.2) (by omega) (by rw [← e, lnStep_k (by omega)]; omega) (by rw [hm9]; show lnL (lnStep m (pl w) w l) _ _ _ _ = _; rw [e]))
        · refine x_aload_n (pc := 109) dX6_passTick_109 0 rfl ?_
          refine x_iload_n (pc := 110) dX6_passTick_110 1 rfl ?_
          refine x_callV (pc := 111) _ dX6_passTick_111 (ct_sendOn hw l a.1 a.2.1 a.2.2 h0 h1a) lkX6_163 rfl rfl rfl rfl (mem_dom0 (by decide) hw) (by decide) (Nat.le_of_ble_eq_true rfl) rfl ?_
          refine x_goto (pc := 114) 138 dX6_passTick_114 (by decide) ?_
          refine x_iinc (pc := 138) (lv' := [(1, _), (0, _)]) dX6_passTick_138 1 rfl (by decide) rfl ?_
          refine x_goto (pc := 141) 31 dX6_passTick_141 (by decide) ?_
          have e : lnStep m (pl w) w l = soC (lnA m w l) (pl w) w l := by unfold lnStep; rw [if_pos c_106]
          exact x_lv [1, 0] rfl (ih _ (l + 1) (e ▸ b.1) (e ▸ b.2.1) (e ▸ b.2.2) (by omega) (by rw [← e, lnStep_k (by omega)]; omega) (by rw [hm9]; show lnL (lnStep m (pl w) w l) _ _ _ _ = _; rw [e]))
      · refine x_aload_n (pc := 81) dX6_passTick_81 0 rfl ?_
        refine y_getR (pc := 82) dX6_passTick_82 flX6_12 rfl rfl rfl hw ?_
        refine y_getR (pc := 85) dX6_passTick_85 flX6_89 rfl rfl rfl (h13 hw) ?_
        refine y_getR (pc := 88) dX6_passTick_88 flX6_115 rfl rfl rfl (h13 hw) ?_
        refine x_iload_n (pc := 91) dX6_passTick_91 1 rfl ?_
        refine x_iconst (pc := 92) dX6_passTick_92 ?_
        refine y_iast (pc := 93) dX6_passTick_93 rfl (h13 hw) (by omega) ?_
        refine x_nil (m' := lnA m w l) (by unfold lnA; rw [if_pos (by omega)]) ?_
        refine x_aload_n (pc := 94) dX6_passTick_94 0 rfl ?_
        refine y_getR (pc := 95) dX6_passTick_95 flX6_12 rfl rfl rfl hw ?_
        refine y_getR (pc := 98) dX6_passTick_98 flX6_89 rfl rfl rfl (h13 hw) ?_
        refine y_getR (pc := 101) dX6_passTick_101 flX6_115 rfl rfl rfl (h13 hw) ?_
        refine x_iload_n (pc := 104) dX6_passTick_104 1 rfl ?_
        refine y_iald (pc := 105) dX6_passTick_105 rfl (h13 hw) (by omega) ?_
        refine x_if_ne (pc := 106) 117 dX6_passTick_106 (by decide) (by unfold inI; omega) (fun c_106 => ?_) (fun c_106 => ?_)
        · refine x_aload_n (pc := 117) dX6_passTick_117 0 rfl ?_
          refine y_getR (pc := 118) dX6_passTick_118 flX6_12 rfl rfl rfl hw ?_
          refine y_getR (pc := 121) dX6_passTick_121 flX6_89 rfl rfl rfl (h13 hw) ?_
          refine y_getR (pc := 124) dX6_passTick_124 flX6_115 rfl rfl rfl (h13 hw) ?_
          refine x_iload_n (pc := 127) dX6_passTick_127 1 rfl ?_
          refine y_iald (pc := 128) dX6_passTick_128 rfl (h13 hw) (by omega) ?_
          refine x_iconst (pc := 129) dX6_passTick_129 ?_
          refine x_icmp_ne (pc := 130) 138 dX6_passTick_130 (by decide) (by unfold inI; omega) (by unfold inI; omega) (fun c_130 => ?_) (fun c_130 => ?_)
          · refine x_iinc (pc := 138) (lv' := [(1, _), (0, _)]) dX6_passTick_138 1 rfl (by decide) rfl ?_
            refine x_goto (pc := 141) 31 dX6_passTick_141 (by decide) ?_
            have e : lnStep m (pl w) w l = lnA m w l := by unfold lnStep; rw [if_neg c_106, if_neg c_130]
            exact x_lv [1, 0] rfl (ih _ (l + 1) (e ▸ b.1) (e ▸ b.2.1) (e ▸ b.2.2) (by omega) (by rw [← e, lnStep_k (by omega)]; omega) (by rw [hm9]; show lnL (lnStep m (pl w) w l) _ _ _ _ = _; rw [e]))
          · refine x_aload_n (pc := 133) dX6_passTick_133 0 rfl ?_
            refine x_iload_n (pc := 134) dX6_passTick_134 1 rfl ?_
            refine x_callV (pc := 135) _ dX6_passTick_135 (ct_sendBack hw l a.1 a.2.1 a.2.2 h0 h1a c_130) lkX6_166 rfl rfl rfl rfl (mem_dom0 (by decide) hw) (by decide) (Nat.le_of_ble_eq_true rfl) rfl ?_
            refine x_iinc (pc := 138) (lv' := [(1, _), (0, _)]) dX6_passTick_138 1 rfl (by decide) rfl ?_
            refine x_goto (pc := 141) 31 dX6_passTick_141 (by decide) ?_
            have e : lnStep m (pl w) w l = sbC (lnA m w l) (pl w) w l := by unfold lnStep; rw [if_neg c_106, if_pos c_130]
            exact x_lv [1, 0] rfl (ih _ (l + 1) (e ▸ b.1) (e ▸ b.2.1) (e ▸ b.2.2) (by omega) (by rw [← e, lnStep_k (by omega)]; omega) (by rw [hm9]; show lnL (lnStep m (pl w) w l) _ _ _ _ = _; rw [e]))
        · refine x_aload_n (pc := 109) dX6_passTick_109 0 rfl ?_
          refine x_iload_n (pc := 110) dX6_passTick_110 1 rfl ?_
          refine x_callV (pc := 111) _ dX6_passTick_111 (ct_sendOn hw l a.1 a.2.1 a.2.2 h0 h1a) lkX6_163 rfl rfl rfl rfl (mem_dom0 (by decide) hw) (by decide) (Nat.le_of_ble_eq_true rfl) rfl ?_
          refine x_goto (pc := 114) 138 dX6_passTick_114 (by decide) ?_
          refine x_iinc (pc := 138) (lv' := [(1, _), (0, _)]) dX6_passTick_138 1 rfl (by decide) rfl ?_
          refine x_goto (pc := 141) 31 dX6_passTick_141 (by decide) ?_
          have e : lnStep m (pl w) w l = soC (lnA m w l) (pl w) w l := by unfold lnStep; rw [if_pos c_106]
          exact x_lv [1, 0] rfl (ih _ (l + 1) (e ▸ b.1) (e ▸ b.2.1) (e ▸ b.2.2) (by omega) (by rw [← e, lnStep_k (by omega)]; omega) (by rw [hm9]; show lnL (lnStep m (pl w) w l) _ _ _ _ = _; rw [e]))
theorem ct_passTick {G : GG} {m : Mem} {w : Nat} (hw : w < 5) (hP : BP m (pl w)) (hS : BS m (pl w) w) : Ct G MX6_passTick (rmD 4) [rf G 33 w] (hp (m)) (.inl none) (hp (tkC m (pl w) w)) := by
  refine x_entry (by decide +kernel) mwX6_passTick rfl (Nat.le_of_ble_eq_true rfl) ?_
  show X G MX6_passTick (rmD 4) 0 [(0, rf G 33 w)] [] (hp (m)) 0 0 (.inl none) (hp (tkC m (pl w) w))
  have f := tk_facts hP hS
  have n1 := hS.2.2.2.1.1
  have n2 := hS.2.2.2.2.1.1
  refine x_aload_n (pc := 0) dX6_passTick_0 0 rfl ?_
  refine y_getR (pc := 1) dX6_passTick_1 flX6_12 rfl rfl rfl hw ?_
  refine y_getR (pc := 4) dX6_passTick_4 flX6_135 rfl rfl rfl (h13 hw) ?_
  refine x_iconst (pc := 7) dX6_passTick_7 ?_
  refine x_callS (pc := 8) _ dX6_passTick_8 (ct_fill (n := 12) rfl (by decide) (by decide) (show w < 13 by omega)) lkX6_138 rfl (by decide) (Nat.le_of_ble_eq_true rfl) rfl ?_
  refine x_nil (m' := tk0 m w) rfl ?_
  refine x_aload_n (pc := 11) dX6_passTick_11 0 rfl ?_
  refine x_callV (pc := 12) _ dX6_passTick_12 (ct_shine hw f.1.1 f.1.2) lkX6_144 rfl rfl rfl rfl (mem_dom0 (by decide) hw) (by decide) (Nat.le_of_ble_eq_true rfl) rfl ?_
  refine x_nil (m' := tk1 m (pl w) w) (by unfold tk1; rw [tk0_k (by decide), tk0_k (by decide)]) ?_
  refine x_aload_n (pc := 15) dX6_passTick_15 0 rfl ?_
  refine x_aload_n (pc := 16) dX6_passTick_16 0 rfl ?_
  refine y_getR (pc := 17) dX6_passTick_17 flX6_12 rfl rfl rfl hw ?_
  refine y_getR (pc := 20) dX6_passTick_20 flX6_147 rfl rfl rfl (h13 hw) ?_
  refine y_getI (pc := 23) 0 dX6_passTick_23 flX6_151 rfl rfl rfl (h13 hw) ?_
  refine x_top (v' := .int (iI (m 1 w 0))) (by rw [tk1_k (by decide) (by decide) (by decide)]) ?_
  refine x_callV (pc := 26) _ dX6_passTick_26 (ct_makeTrips hw (m 1 w 0) (by rw [tk1_k (by decide) (by decide) (by decide)]; omega) f.2.1.1 f.2.1.2) lkX6_154 rfl rfl rfl rfl (mem_dom0 (by decide) hw) (by decide) (Nat.le_of_ble_eq_true rfl) rfl ?_
  refine x_nil (m' := tk2 m (pl w) w) rfl ?_
  refine x_iconst (pc := 29) dX6_passTick_29 ?_
  refine x_istore_n (pc := 30) (lv' := [(1, _), (0, _)]) dX6_passTick_30 rfl (by decide) rfl ?_
  have e9 : up3 (tk3 m (pl w) w) 0 w 0 (tk3 m (pl w) w 0 w 0 + 1) = tkC m (pl w) w := by unfold tkC; rw [tk3_t]
  rw [← e9]
  exact x_lv [1, 0] rfl (lp_passTick hw _ (m 2 w 0).toNat (tk2 m (pl w) w) 0 f.2.2.1.1 f.2.2.1.2.1 f.2.2.1.2.2 (by omega) (by rw [tk2_k (by decide) (by decide) (by decide) (by decide) (by decide)]; omega) rfl)
def tkL (m : Mem) (p s : Nat) : Nat → Mem
  | 0 => m
  | n + 1 => tkL (tkC m p s) p s n
def teM (m : Mem) (p s : Nat) (l : Int) : Nat → Mem
  | 0 => m
  | n + 1 => if m 20 s l ≤ 2 then teM (tkC m p s) p s l n else m
def teN (m : Mem) (p s : Nat) (l : Int) : Nat → Int
  | 0 => 0
  | n + 1 => if m 20 s l ≤ 2 then teN (tkC m p s) p s l n + 1 else 0
theorem tkL_f {p s : Nat} : ∀ (n : Nat) (m : Mem), BP m p → BS m p s → m 0 s 0 + n ≤ 11000 → BP (tkL m p s n) p ∧ BS (tkL m p s n) p s := by
  intro n
  induction n with
  | zero => intro m hP hS ht; exact ⟨hP, hS⟩
  | succ n ih =>
    intro m hP hS ht
    have b := tkC_f hP hS (by omega)
    exact ih _ b.1 b.2 (by rw [tkC_t]; omega)
theorem teM_f {p s : Nat} {l : Int} : ∀ (n : Nat) (m : Mem), BP m p → BS m p s → m 0 s 0 + n ≤ 11000 → BP (teM m p s l n) p ∧ BS (teM m p s l n) p s := by
  intro n
  induction n with
  | zero => intro m hP hS ht; exact ⟨hP, hS⟩
  | succ n ih =>
    intro m hP hS ht
    unfold teM
    split
    · have b := tkC_f hP hS (by omega)
      exact ih _ b.1 b.2 (by rw [tkC_t]; omega)
    · exact ⟨hP, hS⟩
theorem lp_passTicks {G : GG} {w : Nat} (hw : w < 5) (k : Int) (hk : 0 ≤ k ∧ k ≤ 11000) (m9 : Mem) : ∀ (n : Nat) (m : Mem) (z : Int), BP m (pl w) → BS m (pl w) w → m 0 w 0 + n ≤ 11000 → 0 ≤ z → z + n = k → m9 = tkL m (pl w) w n → X G MX6_passTicks (rmD 5) 2 [(0, rf G 33 w), (1, .int (iI k)), (2, .int (iI z))] [] (hp (m)) 0 0 (.inl none) (hp (m9)) := by
  intro n
  induction n with
  | zero =>
    intro m z hP hS ht h0 h1 hm9
    refine x_iload_n (pc := 2) dX6_passTicks_2 2 rfl ?_
    refine x_iload_n (pc := 3) dX6_passTicks_3 1 rfl ?_
    refine x_icmp_ge (pc := 4) 17 dX6_passTicks_4 (by decide) (by unfold inI; omega) (by unfold inI; omega) (fun c_4 => ?_) (fun c_4 => (by exfalso; omega))
    exact y_vret (pc := 17) dX6_passTicks_17 rfl (by rw [hm9]; rfl)
  | succ n ih =>
    intro m z hP hS ht h0 h1 hm9
    refine x_iload_n (pc := 2) dX6_passTicks_2 2 rfl ?_
    refine x_iload_n (pc := 3) dX6_passTicks_3 1 rfl ?_
    refine x_icmp_ge (pc := 4) 17 dX6_passTicks_4 (by decide) (by unfold inI; omega) (by unfold inI; omega) (fun c_4 => (by exfalso; omega)) (fun c_4 => ?_)
    refine x_aload_n (pc := 7) dX6_passTicks_7 0 rfl ?_
    refine x_callV (pc := 8) _ dX6_passTicks_8 (ct_passTick hw hP hS) lkX6_132 rfl rfl rfl rfl (mem_dom0 (by decide) hw) (by decide) (Nat.le_of_ble_eq_true rfl) rfl ?_
    refine x_iinc (pc := 11) (lv' := [(2, _), (0, _), (1, _)]) dX6_passTicks_11 2 rfl (by decide) rfl ?_
    refine x_goto (pc := 14) 2 dX6_passTicks_14 (by decide) ?_
    have b := tkC_f hP hS (by omega)
    exact x_lv [1, 2, 0] rfl (ih _ (z + 1) b.1 b.2 (by rw [tkC_t]; omega) (by omega) (by omega) (by rw [hm9]; rfl))
theorem ct_passTicks {G : GG} {m : Mem} {w : Nat} (hw : w < 5) (k : Int) (hk : 0 ≤ k) (hP : BP m (pl w)) (hS : BS m (pl w) w) (ht : m 0 w 0 + k ≤ 11000) : Ct G MX6_passTicks (rmD 5) [rf G 33 w, .int (iI k)] (hp (m)) (.inl none) (hp (tkL m (pl w) w k.toNat)) := by
  refine x_entry (by decide +kernel) mwX6_passTicks rfl (Nat.le_of_ble_eq_true rfl) ?_
  show X G MX6_passTicks (rmD 5) 0 [(0, rf G 33 w), (1, .int (iI k))] [] (hp (m)) 0 0 (.inl none) (hp (tkL m (pl w) w k.toNat))
  have t0 := hS.1
  refine x_iconst (pc := 0) dX6_passTicks_0 ?_
  refine x_istore_n (pc := 1) (lv' := [(2, _), (0, _), (1, _)]) dX6_passTicks_1 rfl (by decide) rfl ?_
  exact x_lv [1, 2, 0] rfl (lp_passTicks hw k (by omega) _ k.toNat m 0 hP hS (by omega) (by omega) (by omega) rfl)
theorem lp_passTicksToEnd {G : GG} {w : Nat} (hw : w < 5) (l k : Int) (hk : 0 ≤ k ∧ k ≤ 11000) (h0 : 0 ≤ l) (m9 : Mem) (z9 : Int) : ∀ (n : Nat) (m : Mem) (z : Int), BP m (pl w) → BS m (pl w) w → l < m 2 w 0 → m 0 w 0 + n ≤ 11000 → 0 ≤ z → z + n = k → m9 = teM m (pl w) w l n → z9 = z + teN m (pl w) w l n → X G MX6_passTicksToEnd (rmD 5) 2 [(0, rf G 33 w), (1, .int (iI l)), (2, .int (iI k)), (3, .int (iI z))] [] (hp (m)) 0 0 (.inl (some (.int (iI (z9))))) (hp (m9)) := by
  intro n
  induction n with
  | zero =>
    intro m z hP hS h2 ht hz h1 hm9 hz9
    refine x_iload_n (pc := 2) dX6_passTicksToEnd_2 3 rfl ?_
    refine x_iload_n (pc := 3) dX6_passTicksToEnd_3 2 rfl ?_
    refine x_icmp_ge (pc := 4) 31 dX6_passTicksToEnd_4 (by decide) (by unfold inI; omega) (by unfold inI; omega) (fun c_4 => ?_) (fun c_4 => (by exfalso; omega))
    refine x_iload_n (pc := 31) dX6_passTicksToEnd_31 3 rfl ?_
    exact y_iret (pc := 32) dX6_passTicksToEnd_32 rfl (by rw [hz9]; show z = z + 0; omega) (by rw [hm9]; rfl)
  | succ n ih =>
    intro m z hP hS h2 ht hz h1 hm9 hz9
    have n16 := hS.2.2.2.2.1.1
    have k6 := (hS.2.2.2.2.1.2 l h0 h2).2.2.2.2.2.1
    refine x_iload_n (pc := 2) dX6_passTicksToEnd_2 3 rfl ?_
    refine x_iload_n (pc := 3) dX6_passTicksToEnd_3 2 rfl ?_
    refine x_icmp_ge (pc := 4) 31 dX6_passTicksToEnd_4 (by decide) (by unfold inI; omega) (by unfold inI; omega) (fun c_4 => (by exfalso; omega)) (fun c_4 => ?_)
    refine x_aload_n (pc := 7) dX6_passTicksToEnd_7 0 rfl ?_
    refine y_getR (pc := 8) dX6_passTicksToEnd_8 flX6_12 rfl rfl rfl hw ?_
    refine y_getR (pc := 11) dX6_passTicksToEnd_11 flX6_89 rfl rfl rfl (h13 hw) ?_
    refine x_iload_n (pc := 14) dX6_passTicksToEnd_14 1 rfl ?_
    refine x_callV (pc := 15) _ dX6_passTicksToEnd_15 (ct_isOpen (h13 hw) l (by omega) (by unfold inI; omega)) lkX6_93 rfl rfl rfl rfl (mem_dom0 (by decide) (h13 hw)) (by decide) (Nat.le_of_ble_eq_true rfl) rfl ?_
    refine x_ifb_eq (pc := 18) 31 dX6_passTicksToEnd_18 (by decide) (fun c_18 => ?_) (fun c_18 => ?_)
    · refine x_iload_n (pc := 31) dX6_passTicksToEnd_31 3 rfl ?_
      exact y_iret (pc := 32) dX6_passTicksToEnd_32 rfl (by rw [hz9]; show _ = z + (if _ then _ else _); rw [if_neg c_18]; omega) (by rw [hm9]; show _ = (if _ then _ else _); rw [if_neg c_18])
    · refine x_aload_n (pc := 21) dX6_passTicksToEnd_21 0 rfl ?_
      refine x_callV (pc := 22) _ dX6_passTicksToEnd_22 (ct_passTick hw hP hS) lkX6_132 rfl rfl rfl rfl (mem_dom0 (by decide) hw) (by decide) (Nat.le_of_ble_eq_true rfl) rfl ?_
      refine x_iinc (pc := 25) (lv' := [(3, _), (0, _), (1, _), (2, _)]) dX6_passTicksToEnd_25 3 rfl (by decide) rfl ?_
      refine x_goto (pc := 28) 2 dX6_passTicksToEnd_28 (by decide) ?_
      have b := tkC_f hP hS (by omega)
      exact x_lv [1, 2, 3, 0] rfl (ih _ (z + 1) b.1 b.2 (by rw [tkC_k (by omega)]; exact h2) (by rw [tkC_t]; omega) (by omega) (by omega) (by rw [hm9]; show (if _ then _ else _) = _; rw [if_pos c_18]) (by rw [hz9]; show z + (if _ then _ else _) = _; rw [if_pos c_18]; omega))
theorem ct_passTicksToEnd {G : GG} {m : Mem} {w : Nat} (hw : w < 5) (l k : Int) (hk : 0 ≤ k) (h0 : 0 ≤ l) (h2 : l < m 2 w 0) (hP : BP m (pl w)) (hS : BS m (pl w) w) (ht : m 0 w 0 + k ≤ 11000) : Ct G MX6_passTicksToEnd (rmD 5) [rf G 33 w, .int (iI l), .int (iI k)] (hp (m)) (.inl (some (.int (iI (teN m (pl w) w l k.toNat))))) (hp (teM m (pl w) w l k.toNat)) := by
  refine x_entry (by decide +kernel) mwX6_passTicksToEnd rfl (Nat.le_of_ble_eq_true rfl) ?_
  show X G MX6_passTicksToEnd (rmD 5) 0 [(0, rf G 33 w), (1, .int (iI l)), (2, .int (iI k))] [] (hp (m)) 0 0 (.inl (some (.int (iI (teN m (pl w) w l k.toNat))))) (hp (teM m (pl w) w l k.toNat))
  have t0 := hS.1
  refine x_iconst (pc := 0) dX6_passTicksToEnd_0 ?_
  refine x_istore_n (pc := 1) (lv' := [(3, _), (0, _), (1, _), (2, _)]) dX6_passTicksToEnd_1 rfl (by decide) rfl ?_
  exact x_lv [1, 2, 3, 0] rfl (lp_passTicksToEnd hw l k (by omega) h0 _ _ k.toNat m 0 hP hS h2 (by omega) (by omega) (by omega) rfl (by omega))
