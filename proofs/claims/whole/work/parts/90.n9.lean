/-! Model -/
theorem ct_Modelu {G : GG} {D : List (Nat × Nat)} {m : Mem} {S : List (Nat × Nat × Nat)} {n : Nat} (hs : (41, 0) ∈ D) (hf : FRe D m S) (hn : ∀ q ∈ [(42, 0), (43, 0), (44, 0), (45, 0), (46, 0), (47, 0), (48, 0)], q ∉ D) (ha : HA G n [(42, 0), (43, 0), (44, 0), (45, 0), (46, 0), (47, 0), (48, 0)]) : Ct G MX8_init { frames := 3, cells := 7, slots := 6092, locals := 160 } [rf G 41 0] (hN D m S n) (.inl none) (hN (D ++ [(42, 0), (43, 0), (44, 0), (45, 0), (46, 0), (47, 0), (48, 0)]) (bgN (up3 m 41 0 17 (-1))) (S ++ [(41, 0, 0), (41, 0, 1), (41, 0, 2), (41, 0, 3), (41, 0, 4), (41, 0, 5), (41, 0, 8)]) (n + 7)) := by
  refine x_entry (by decide +kernel) mwX8_init rfl (Nat.le_of_ble_eq_true rfl) ?_
  show X G MX8_init { frames := 3, cells := 7, slots := 6092, locals := 160 } 0 [(0, rf G 41 0)] [] (hN D m S n) 0 0 (.inl none) _
  refine x_aload_n (pc := 0) dX8_init_0 0 rfl ?_
  refine x_obj (pc := 1) dX8_init_1 (in_ctx 1147 (by decide +kernel) rfl) ob_in ob_co (by decide) ⟨rfl, rfl⟩ ?_
  refine x_aload_n (pc := 4) dX8_init_4 0 rfl ?_
  refine x_sipush (pc := 5) (z := 430) dX8_init_5 (by decide +kernel) ?_
  refine n_arrI (pc := 8) (k := 42) (i := 0) dX8_init_8 rfl ha.1 hf (hn (42, 0) (List.mem_of_getElem? (i := 0) rfl)) rfl (by decide) (by decide) (by decide) ?_
  refine x_putR (pc := 10) (j := 0) dX8_init_10 ffX8_9 rfl (fun q z => by cases z; rfl) rfl rfl (List.mem_append_left _ hs) rfl rfl rfl ?_
  refine x_aload_n (pc := 13) dX8_init_13 0 rfl ?_
  refine x_sipush (pc := 14) (z := 430) dX8_init_14 (by decide +kernel) ?_
  refine n_arrI (pc := 17) (k := 43) (i := 0) dX8_init_17 rfl ha.2.1 ((hf.dd _).s (List.mem_append_left _ hs)) (nin_app (hn (43, 0) (List.mem_of_getElem? (i := 1) rfl)) (by decide)) rfl (by decide) (by decide) (by decide) ?_
  refine x_putR (pc := 19) (j := 1) dX8_init_19 ffX8_13 rfl (fun q z => by cases z; rfl) rfl rfl (List.mem_append_left _ (List.mem_append_left _ hs)) rfl rfl rfl ?_
  refine x_aload_n (pc := 22) dX8_init_22 0 rfl ?_
  refine x_sipush (pc := 23) (z := 430) dX8_init_23 (by decide +kernel) ?_
  refine n_arrI (pc := 26) (k := 44) (i := 0) dX8_init_26 rfl ha.2.2.1 ((((hf.dd _).s (List.mem_append_left _ hs)).dd _).s (List.mem_append_left _ (List.mem_append_left _ hs))) (nin_app (nin_app (hn (44, 0) (List.mem_of_getElem? (i := 2) rfl)) (by decide)) (by decide)) rfl (by decide) (by decide) (by decide) ?_
  refine x_putR (pc := 28) (j := 2) dX8_init_28 ffX8_16 rfl (fun q z => by cases z; rfl) rfl rfl (List.mem_append_left _ (List.mem_append_left _ (List.mem_append_left _ hs))) rfl rfl rfl ?_
  refine x_aload_n (pc := 31) dX8_init_31 0 rfl ?_
  refine x_sipush (pc := 32) (z := 3440) dX8_init_32 (by decide +kernel) ?_
  refine n_arrI (pc := 35) (k := 45) (i := 0) dX8_init_35 rfl ha.2.2.2.1 ((((((hf.dd _).s (List.mem_append_left _ hs)).dd _).s (List.mem_append_left _ (List.mem_append_left _ hs))).dd _).s (List.mem_append_left _ (List.mem_append_left _ (List.mem_append_left _ hs)))) (nin_app (nin_app (nin_app (hn (45, 0) (List.mem_of_getElem? (i := 3) rfl)) (by decide)) (by decide)) (by decide)) rfl (by decide) (by decide) (by decide) ?_
  refine x_putR (pc := 37) (j := 3) dX8_init_37 ffX8_19 rfl (fun q z => by cases z; rfl) rfl rfl (List.mem_append_left _ (List.mem_append_left _ (List.mem_append_left _ (List.mem_append_left _ hs)))) rfl rfl rfl ?_
  refine x_aload_n (pc := 40) dX8_init_40 0 rfl ?_
  refine x_sipush (pc := 41) (z := 860) dX8_init_41 (by decide +kernel) ?_
  refine n_arrI (pc := 44) (k := 46) (i := 0) dX8_init_44 rfl ha.2.2.2.2.1 ((((((((hf.dd _).s (List.mem_append_left _ hs)).dd _).s (List.mem_append_left _ (List.mem_append_left _ hs))).dd _).s (List.mem_append_left _ (List.mem_append_left _ (List.mem_append_left _ hs)))).dd _).s (List.mem_append_left _ (List.mem_append_left _ (List.mem_append_left _ (List.mem_append_left _ hs))))) (nin_app (nin_app (nin_app (nin_app (hn (46, 0) (List.mem_of_getElem? (i := 4) rfl)) (by decide)) (by decide)) (by decide)) (by decide)) rfl (by decide) (by decide) (by decide) ?_
  refine x_putR (pc := 46) (j := 4) dX8_init_46 ffX8_22 rfl (fun q z => by cases z; rfl) rfl rfl (List.mem_append_left _ (List.mem_append_left _ (List.mem_append_left _ (List.mem_append_left _ (List.mem_append_left _ hs))))) rfl rfl rfl ?_
  refine x_aload_n (pc := 49) dX8_init_49 0 rfl ?_
  refine x_iconst (pc := 50) dX8_init_50 ?_
  refine n_arrZ (pc := 51) (k := 47) (i := 0) dX8_init_51 rfl ha.2.2.2.2.2.1 ((((((((((hf.dd _).s (List.mem_append_left _ hs)).dd _).s (List.mem_append_left _ (List.mem_append_left _ hs))).dd _).s (List.mem_append_left _ (List.mem_append_left _ (List.mem_append_left _ hs)))).dd _).s (List.mem_append_left _ (List.mem_append_left _ (List.mem_append_left _ (List.mem_append_left _ hs))))).dd _).s (List.mem_append_left _ (List.mem_append_left _ (List.mem_append_left _ (List.mem_append_left _ (List.mem_append_left _ hs)))))) (nin_app (nin_app (nin_app (nin_app (nin_app (hn (47, 0) (List.mem_of_getElem? (i := 5) rfl)) (by decide)) (by decide)) (by decide)) (by decide)) (by decide)) rfl (by decide) (by decide) (by decide) ?_
  refine x_putR (pc := 53) (j := 5) dX8_init_53 ffX8_25 rfl (fun q z => by cases z; rfl) rfl rfl (List.mem_append_left _ (List.mem_append_left _ (List.mem_append_left _ (List.mem_append_left _ (List.mem_append_left _ (List.mem_append_left _ hs)))))) rfl rfl rfl ?_
  refine x_aload_n (pc := 56) dX8_init_56 0 rfl ?_
  refine x_sipush (pc := 57) (z := 500) dX8_init_57 (by decide +kernel) ?_
  refine n_arrB (pc := 60) (k := 48) (i := 0) dX8_init_60 rfl ha.2.2.2.2.2.2.1 ((((((((((((hf.dd _).s (List.mem_append_left _ hs)).dd _).s (List.mem_append_left _ (List.mem_append_left _ hs))).dd _).s (List.mem_append_left _ (List.mem_append_left _ (List.mem_append_left _ hs)))).dd _).s (List.mem_append_left _ (List.mem_append_left _ (List.mem_append_left _ (List.mem_append_left _ hs))))).dd _).s (List.mem_append_left _ (List.mem_append_left _ (List.mem_append_left _ (List.mem_append_left _ (List.mem_append_left _ hs)))))).dd _).s (List.mem_append_left _ (List.mem_append_left _ (List.mem_append_left _ (List.mem_append_left _ (List.mem_append_left _ (List.mem_append_left _ hs))))))) (nin_app (nin_app (nin_app (nin_app (nin_app (nin_app (hn (48, 0) (List.mem_of_getElem? (i := 6) rfl)) (by decide)) (by decide)) (by decide)) (by decide)) (by decide)) (by decide)) rfl (by decide) (by decide) (by decide) ?_
  refine x_putR (pc := 62) (j := 8) dX8_init_62 ffX8_29 rfl (fun q z => by cases z; rfl) rfl rfl (List.mem_append_left _ (List.mem_append_left _ (List.mem_append_left _ (List.mem_append_left _ (List.mem_append_left _ (List.mem_append_left _ (List.mem_append_left _ hs))))))) rfl rfl rfl ?_
  refine x_aload_n (pc := 65) dX8_init_65 0 rfl ?_
  refine x_iconst (pc := 66) dX8_init_66 ?_
  refine n_putI (pc := 67) (j := 17) dX8_init_67 fwX8_33 rfl rfl (List.mem_append_left _ (List.mem_append_left _ (List.mem_append_left _ (List.mem_append_left _ (List.mem_append_left _ (List.mem_append_left _ (List.mem_append_left _ hs))))))) ?_
  refine x_aload_n (pc := 70) dX8_init_70 0 rfl ?_
  refine n_getR (pc := 71) (j := 0) (a := 42) (b := 0) dX8_init_71 flX8_9 rfl rfl (List.mem_append_left _ (List.mem_append_left _ (List.mem_append_left _ (List.mem_append_left _ (List.mem_append_left _ (List.mem_append_left _ (List.mem_append_left _ hs))))))) (by simp) rfl ?_
  have hc74 := ct_begN (G := G) (D := (((((((D ++ [(42, 0)]) ++ [(43, 0)]) ++ [(44, 0)]) ++ [(45, 0)]) ++ [(46, 0)]) ++ [(47, 0)]) ++ [(48, 0)])) (m := (up3 m 41 0 17 (-1))) (S := (((((((S ++ [(41, 0, 0)]) ++ [(41, 0, 1)]) ++ [(41, 0, 2)]) ++ [(41, 0, 3)]) ++ [(41, 0, 4)]) ++ [(41, 0, 5)]) ++ [(41, 0, 8)])) (n := n + 7) (List.mem_append_left _ (List.mem_append_left _ (List.mem_append_left _ (List.mem_append_left _ (List.mem_append_left _ (List.mem_append_left _ (List.mem_append_right _ (List.mem_of_getElem? (i := 0) rfl))))))))
  refine x_callS (pc := 74) [rf G 42 0] dX8_init_74 hc74 lkX8_37 rfl (by decide) (Nat.le_of_ble_eq_true rfl) rfl ?_
  refine x_hp (h' := hN (((((((D ++ [(42, 0)]) ++ [(43, 0)]) ++ [(44, 0)]) ++ [(45, 0)]) ++ [(46, 0)]) ++ [(47, 0)]) ++ [(48, 0)]) (bgN (up3 m 41 0 17 (-1))) (((((((S ++ [(41, 0, 0)]) ++ [(41, 0, 1)]) ++ [(41, 0, 2)]) ++ [(41, 0, 3)]) ++ [(41, 0, 4)]) ++ [(41, 0, 5)]) ++ [(41, 0, 8)]) (n + 7)) (by simp only [List.append_assoc, List.cons_append, List.nil_append]) ?_
  exact x_vret (pc := 77) dX8_init_77 rfl (by decide) (by decide)
