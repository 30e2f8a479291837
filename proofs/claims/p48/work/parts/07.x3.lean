section XH
variable {G : GG} {M : Mth} {R : Room} {pc : Nat} {lv lv' : List (Nat × Value)} {st : List Value} {h h' : Hp} {c0 s0 : Nat} {res : Res} {k i : Nat}
theorem in_ctx {w : Cond} (n : Nat) (hn : tables_1[n]? = some w) (hg : goodWord w = true) : w ∈ lw_ctx :=
  List.mem_append_right _ (List.mem_filter.mpr ⟨List.mem_of_getElem? hn, hg⟩)
theorem in_all {w : Cond} (n : Nat) (hn : tables_1[n]? = some w) (hg : goodWord w = true) : w ∈ lw_all :=
  List.mem_filter.mpr ⟨List.mem_of_getElem? hn, hg⟩
theorem all_ctx {w : Cond} (hw : w ∈ lw_all) : w ∈ lw_ctx := List.mem_append_right _ hw
theorem in_sel {y : MethodName} (n a : Nat) (hn : lw_privs[n]? = some (y, a)) : Cond.selects y.cls y y ∈ lw_ctx :=
  List.mem_append_left _ (List.mem_append_left _ (List.mem_map.mpr ⟨(y, a), List.mem_of_getElem? hn, rfl⟩))
theorem in_below {y : MethodName} (n : Nat) (hn : lw_sub[n]? = some y) : Cond.selects "java/lang/StringBuilder" y y ∈ lw_ctx :=
  List.mem_append_left _ (List.mem_append_right _ (List.mem_map.mpr ⟨y, List.mem_of_getElem? hn, rfl⟩))
theorem xcell_arr {tag n : Nat} (hsh : shp k = .inl (tag, n)) : xcell G h k i = .inl (G.2.1 tag, n, xcont G h.2.1 h.2.2.1 k i tag) := by simp only [xcell, hsh]
theorem xcell_obj {ci : Nat} {kds : List Nat} (hsh : shp k = .inr (ci, kds)) : xcell G h k i = .inr (ci, xfs G h k i kds) := by simp only [xcell, hsh]
theorem xws_at (hm : (k, i) ∈ h.1) : ∃ p : Nat, h.1[p]? = some (k, i) ∧ (xws G h)[p]? = some (gad G k i, xcell G h k i) := by
  obtain ⟨p, hp⟩ := List.getElem?_of_mem hm
  exact ⟨p, hp, by simp only [xws, List.getElem?_map, hp, Option.map_some]⟩
theorem xfs_at {kds : List Nat} {j kd : Nat} (hk : kds[j]? = some kd) : (xfs G h k i kds)[j]? = some (xfv G h k i j kd) := by
  have hlt : j < kds.length := (List.getElem?_eq_some_iff.mp hk).1
  unfold xfs
  rw [List.getElem?_map, List.getElem?_range hlt]
  simp only [Option.map_some, List.getD, hk, Option.getD_some]
theorem xfs_len {kds : List Nat} : (xfs G h k i kds).length = kds.length := by unfold xfs; rw [List.length_map, List.length_range]
theorem xws_set {h1 : Hp} {p : Nat} (hD : va_D (xA G) (xws G h)) (hp : h.1[p]? = some (k, i)) (hd : h1.1 = h.1) (hne : ∀ k' i', ¬ (k' = k ∧ i' = i) → xcell G h1 k' i' = xcell G h k' i') : (xws G h).set p (gad G k i, xcell G h1 k i) = xws G h1 := by
  have hl : p < (xws G h).length := by
    unfold xws; rw [List.length_map]; exact (List.getElem?_eq_some_iff.mp hp).1
  apply List.ext_getElem?
  intro n
  by_cases hn : n = p
  · subst hn
    rw [List.getElem?_set_self hl]
    simp only [xws, hd, List.getElem?_map, hp, Option.map_some]
  · rw [List.getElem?_set_ne (Ne.symm hn)]
    simp only [xws, hd, List.getElem?_map]
    cases hq : h.1[n]? with
    | none => rfl
    | some q =>
      simp only [Option.map_some, Option.some.injEq, Prod.mk.injEq, true_and]
      refine (hne q.1 q.2 (fun hh => hn ?_)).symm
      exact hD.1 n p (gad G q.1 q.2, xcell G h q.1 q.2) (gad G k i, xcell G h k i) (by simp only [xws, List.getElem?_map, hq, Option.map_some]) (by simp only [xws, List.getElem?_map, hp, Option.map_some]) (by rw [hh.1, hh.2])
theorem xR_store {h1 : Hp} {H H1 : Heap} (hR : xR G h H) (hm : (k, i) ∈ h.1) (hd : h1.1 = h.1) (hz : h1.2.2.2 = h.2.2.2) (hne : ∀ k' i', ¬ (k' = k ∧ i' = i) → xcell G h1 k' i' = xcell G h k' i') (e : va_at G.1 vwCl (gad G k i, xcell G h1 k i) H1) (z : H1.size = H.size) (oq : ∀ q : Nat, q ≠ gad G k i → H1[q]? = H[q]?) : xR G h1 H1 := by
  obtain ⟨p, hp, hw⟩ := xws_at (G := G) hm
  obtain ⟨r1, r2, r3, r4, r5⟩ := hR
  have es := xws_set (h1 := h1) r4 hp hd hne
  have hge : xA G (gad G k i) := r4.2 p _ hw
  refine ⟨by rw [z]; exact r1, fun q hq => ?_, ?_, ?_, fun n hn => by rw [z]; exact r5 n (hz ▸ hn)⟩
  · rw [oq q (fun e => hq (e ▸ hge))]; exact r2 q hq
  · rw [← es]; exact r3.set r4 hw e oq
  · rw [← es]; exact r4.set hw
theorem xR_ge {H : Heap} (hR : xR G h H) (hm : (k, i) ∈ h.1) : xA G (gad G k i) := by
  obtain ⟨p, hp, hw⟩ := xws_at (G := G) hm
  exact hR.2.2.2.1.2 p _ hw
theorem xR_at {H : Heap} (hR : xR G h H) (hm : (k, i) ∈ h.1) : va_at G.1 vwCl (gad G k i, xcell G h k i) H := by
  obtain ⟨p, hp, hw⟩ := xws_at (G := G) hm
  exact hR.2.2.1 p _ hw
def hset (h : Hp) (k i : Nat) (j z : Int) : Hp := (h.1, up3 h.2.1 k i j z, h.2.2)
theorem up3_ne {m : Mem} {k i k' i' : Nat} {j z : Int} (hn : ¬ (k' = k ∧ i' = i)) : up3 m k i j z k' i' = m k' i' := by
  funext j'
  unfold up3
  rw [if_neg (fun q => hn ⟨q.1, q.2.1⟩)]
theorem up3_at {m : Mem} {k i : Nat} {j z : Int} : up3 m k i j z k i j = z := by unfold up3; rw [if_pos ⟨rfl, rfl, rfl⟩]
theorem up3_off {m : Mem} {k i : Nat} {j j' z : Int} (hn : j' ≠ j) : up3 m k i j z k i j' = m k i j' := by unfold up3; rw [if_neg (fun q => hn q.2.2)]
theorem xcont_congr {m m1 : Mem} {r r1 : Nat → Nat → Nat → Option (Nat × Nat)} {tag : Nat} (e : m1 k i = m k i) (er : r1 k i = r k i) : xcont G m1 r1 k i tag = xcont G m r k i tag := by
  match tag with
  | 0 => simp only [xcont, e]
  | 1 => simp only [xcont, e]
  | 2 => simp only [xcont, e]
  | 3 => simp only [xcont, e]
  | 4 => simp only [xcont, e]
  | n + 5 => simp only [xcont, er]
theorem xfv_congr {h1 : Hp} {j kd : Nat} (e : h1.2.1 k i (j : Int) = h.2.1 k i (j : Int)) (er : h1.2.2.1 k i j = h.2.2.1 k i j) : xfv G h1 k i j kd = xfv G h k i j kd := by
  match kd with
  | 0 => simp only [xfv, e]
  | 1 => simp only [xfv, e]
  | n + 2 => simp only [xfv, er]
theorem xcell_congr {h1 : Hp} (e : h1.2.1 k i = h.2.1 k i) (er : h1.2.2.1 k i = h.2.2.1 k i) : xcell G h1 k i = xcell G h k i := by
  unfold xcell
  cases shp k with
  | inl a => simp only [xcont_congr e er]
  | inr o =>
    simp only [xfs]
    congr 2
    refine List.map_congr_left (fun j _ => ?_)
    exact xfv_congr (by rw [e]) (by rw [er])
theorem hset_ne {j : Int} {z : Int} {k' i' : Nat} (hn : ¬ (k' = k ∧ i' = i)) : xcell G (hset h k i j z) k' i' = xcell G h k' i' := xcell_congr (up3_ne hn) rfl
/-- the classes' words -/
def CLok (q : vw_C) : Prop := (∀ w ∈ u_ws q.1 q.2.1 q.2.2, w ∈ lw_ctx) ∧ (∃ ty0 : Nat → FieldType, ∀ k, k < q.2.2 → parseFieldDescriptor (q.2.1 k).2.2.1 = some (ty0 k)) ∧ (∀ a, a < q.2.2 → ∀ b, b < q.2.2 → a ≠ b → (q.2.1 a).2.1 ≠ (q.2.1 b).2.1)
theorem cl_in0 : ∀ k, k < 4 → u_lay RJ0 TJ0 k ∈ lw_ctx
  | 0, _ => in_ctx 1739 (by decide +kernel) (by decide +kernel)
  | 1, _ => in_ctx 1741 (by decide +kernel) (by decide +kernel)
  | 2, _ => in_ctx 1743 (by decide +kernel) (by decide +kernel)
  | 3, _ => in_ctx 1745 (by decide +kernel) (by decide +kernel)
  | n + 4, h => absurd h (by omega)
theorem cl_in1 : ∀ k, k < 4 → u_lay RJ4 TJ4 k ∈ lw_ctx
  | 0, _ => in_ctx 1664 (by decide +kernel) (by decide +kernel)
  | 1, _ => in_ctx 1666 (by decide +kernel) (by decide +kernel)
  | 2, _ => in_ctx 1668 (by decide +kernel) (by decide +kernel)
  | 3, _ => in_ctx 1670 (by decide +kernel) (by decide +kernel)
  | n + 4, h => absurd h (by omega)
theorem cl_in2 : ∀ k, k < 4 → u_lay RJx35411 TJx35411 k ∈ lw_ctx
  | 0, _ => in_ctx 1103 (by decide +kernel) (by decide +kernel)
  | 1, _ => in_ctx 1105 (by decide +kernel) (by decide +kernel)
  | 2, _ => in_ctx 1107 (by decide +kernel) (by decide +kernel)
  | 3, _ => in_ctx 1109 (by decide +kernel) (by decide +kernel)
  | n + 4, h => absurd h (by omega)
theorem cl_in3 : ∀ k, k < 3 → u_lay RJx4a65c TJx4a65c k ∈ lw_ctx
  | 0, _ => in_ctx 478 (by decide +kernel) (by decide +kernel)
  | 1, _ => in_ctx 474 (by decide +kernel) (by decide +kernel)
  | 2, _ => in_ctx 476 (by decide +kernel) (by decide +kernel)
  | n + 3, h => absurd h (by omega)
theorem cl_in4 : ∀ k, k < 3 → u_lay RX0 TX0 k ∈ lw_ctx
  | 0, _ => in_ctx 363 (by decide +kernel) (by decide +kernel)
  | 1, _ => in_ctx 365 (by decide +kernel) (by decide +kernel)
  | 2, _ => in_ctx 367 (by decide +kernel) (by decide +kernel)
  | n + 3, h => absurd h (by omega)
theorem cl_in5 : ∀ k, k < 8 → u_lay RX1 TX1 k ∈ lw_ctx
  | 0, _ => in_ctx 212 (by decide +kernel) (by decide +kernel)
  | 1, _ => in_ctx 214 (by decide +kernel) (by decide +kernel)
  | 2, _ => in_ctx 216 (by decide +kernel) (by decide +kernel)
  | 3, _ => in_ctx 218 (by decide +kernel) (by decide +kernel)
  | 4, _ => in_ctx 220 (by decide +kernel) (by decide +kernel)
  | 5, _ => in_ctx 222 (by decide +kernel) (by decide +kernel)
  | 6, _ => in_ctx 224 (by decide +kernel) (by decide +kernel)
  | 7, _ => in_ctx 226 (by decide +kernel) (by decide +kernel)
  | n + 8, h => absurd h (by omega)
theorem cl_in6 : ∀ k, k < 17 → u_lay RX2 TX2 k ∈ lw_ctx
  | 0, _ => in_ctx 101 (by decide +kernel) (by decide +kernel)
  | 1, _ => in_ctx 103 (by decide +kernel) (by decide +kernel)
  | 2, _ => in_ctx 105 (by decide +kernel) (by decide +kernel)
  | 3, _ => in_ctx 107 (by decide +kernel) (by decide +kernel)
  | 4, _ => in_ctx 109 (by decide +kernel) (by decide +kernel)
  | 5, _ => in_ctx 111 (by decide +kernel) (by decide +kernel)
  | 6, _ => in_ctx 113 (by decide +kernel) (by decide +kernel)
  | 7, _ => in_ctx 115 (by decide +kernel) (by decide +kernel)
  | 8, _ => in_ctx 117 (by decide +kernel) (by decide +kernel)
  | 9, _ => in_ctx 119 (by decide +kernel) (by decide +kernel)
  | 10, _ => in_ctx 121 (by decide +kernel) (by decide +kernel)
  | 11, _ => in_ctx 123 (by decide +kernel) (by decide +kernel)
  | 12, _ => in_ctx 125 (by decide +kernel) (by decide +kernel)
  | 13, _ => in_ctx 127 (by decide +kernel) (by decide +kernel)
  | 14, _ => in_ctx 129 (by decide +kernel) (by decide +kernel)
  | 15, _ => in_ctx 131 (by decide +kernel) (by decide +kernel)
  | 16, _ => in_ctx 133 (by decide +kernel) (by decide +kernel)
  | n + 17, h => absurd h (by omega)
theorem cl_in7 : ∀ k, k < 8 → u_lay RX3 TX3 k ∈ lw_ctx
  | 0, _ => in_ctx 332 (by decide +kernel) (by decide +kernel)
  | 1, _ => in_ctx 334 (by decide +kernel) (by decide +kernel)
  | 2, _ => in_ctx 336 (by decide +kernel) (by decide +kernel)
  | 3, _ => in_ctx 338 (by decide +kernel) (by decide +kernel)
  | 4, _ => in_ctx 340 (by decide +kernel) (by decide +kernel)
  | 5, _ => in_ctx 342 (by decide +kernel) (by decide +kernel)
  | 6, _ => in_ctx 344 (by decide +kernel) (by decide +kernel)
  | 7, _ => in_ctx 346 (by decide +kernel) (by decide +kernel)
  | n + 8, h => absurd h (by omega)
theorem cl_in8 : ∀ k, k < 14 → u_lay RX4 TX4 k ∈ lw_ctx
  | 0, _ => in_ctx 270 (by decide +kernel) (by decide +kernel)
  | 1, _ => in_ctx 272 (by decide +kernel) (by decide +kernel)
  | 2, _ => in_ctx 274 (by decide +kernel) (by decide +kernel)
  | 3, _ => in_ctx 276 (by decide +kernel) (by decide +kernel)
  | 4, _ => in_ctx 278 (by decide +kernel) (by decide +kernel)
  | 5, _ => in_ctx 280 (by decide +kernel) (by decide +kernel)
  | 6, _ => in_ctx 282 (by decide +kernel) (by decide +kernel)
  | 7, _ => in_ctx 284 (by decide +kernel) (by decide +kernel)
  | 8, _ => in_ctx 286 (by decide +kernel) (by decide +kernel)
  | 9, _ => in_ctx 288 (by decide +kernel) (by decide +kernel)
  | 10, _ => in_ctx 290 (by decide +kernel) (by decide +kernel)
  | 11, _ => in_ctx 292 (by decide +kernel) (by decide +kernel)
  | 12, _ => in_ctx 294 (by decide +kernel) (by decide +kernel)
  | 13, _ => in_ctx 296 (by decide +kernel) (by decide +kernel)
  | n + 14, h => absurd h (by omega)
theorem cl_in9 : ∀ k, k < 5 → u_lay RX5 TX5 k ∈ lw_ctx
  | 0, _ => in_ctx 170 (by decide +kernel) (by decide +kernel)
  | 1, _ => in_ctx 172 (by decide +kernel) (by decide +kernel)
  | 2, _ => in_ctx 174 (by decide +kernel) (by decide +kernel)
  | 3, _ => in_ctx 176 (by decide +kernel) (by decide +kernel)
  | 4, _ => in_ctx 178 (by decide +kernel) (by decide +kernel)
  | n + 5, h => absurd h (by omega)
theorem cl_in10 : ∀ k, k < 2 → u_lay RX6 TX6 k ∈ lw_ctx
  | 0, _ => in_ctx 305 (by decide +kernel) (by decide +kernel)
  | 1, _ => in_ctx 307 (by decide +kernel) (by decide +kernel)
  | n + 2, h => absurd h (by omega)
theorem cl_in11 : ∀ k, k < 6 → u_lay RX7 TX7 k ∈ lw_ctx
  | 0, _ => in_ctx 377 (by decide +kernel) (by decide +kernel)
  | 1, _ => in_ctx 379 (by decide +kernel) (by decide +kernel)
  | 2, _ => in_ctx 381 (by decide +kernel) (by decide +kernel)
  | 3, _ => in_ctx 383 (by decide +kernel) (by decide +kernel)
  | 4, _ => in_ctx 385 (by decide +kernel) (by decide +kernel)
  | 5, _ => in_ctx 387 (by decide +kernel) (by decide +kernel)
  | n + 6, h => absurd h (by omega)
theorem cl_in12 : ∀ k, k < 6 → u_lay RX8 TX8 k ∈ lw_ctx
  | 0, _ => in_ctx 1015 (by decide +kernel) (by decide +kernel)
  | 1, _ => in_ctx 1017 (by decide +kernel) (by decide +kernel)
  | 2, _ => in_ctx 1019 (by decide +kernel) (by decide +kernel)
  | 3, _ => in_ctx 1021 (by decide +kernel) (by decide +kernel)
  | 4, _ => in_ctx 1023 (by decide +kernel) (by decide +kernel)
  | 5, _ => in_ctx 1025 (by decide +kernel) (by decide +kernel)
  | n + 6, h => absurd h (by omega)
theorem cl_in13 : ∀ k, k < 6 → u_lay RX9 TX9 k ∈ lw_ctx
  | 0, _ => in_ctx 1069 (by decide +kernel) (by decide +kernel)
  | 1, _ => in_ctx 1071 (by decide +kernel) (by decide +kernel)
  | 2, _ => in_ctx 1073 (by decide +kernel) (by decide +kernel)
  | 3, _ => in_ctx 1075 (by decide +kernel) (by decide +kernel)
  | 4, _ => in_ctx 1077 (by decide +kernel) (by decide +kernel)
  | 5, _ => in_ctx 1079 (by decide +kernel) (by decide +kernel)
  | n + 6, h => absurd h (by omega)
theorem cl_in14 : ∀ k, k < 7 → u_lay RX10 TX10 k ∈ lw_ctx
  | 0, _ => in_ctx 1394 (by decide +kernel) (by decide +kernel)
  | 1, _ => in_ctx 1396 (by decide +kernel) (by decide +kernel)
  | 2, _ => in_ctx 1398 (by decide +kernel) (by decide +kernel)
  | 3, _ => in_ctx 1400 (by decide +kernel) (by decide +kernel)
  | 4, _ => in_ctx 1402 (by decide +kernel) (by decide +kernel)
  | 5, _ => in_ctx 1404 (by decide +kernel) (by decide +kernel)
  | 6, _ => in_ctx 1406 (by decide +kernel) (by decide +kernel)
  | n + 7, h => absurd h (by omega)
theorem cl_in15 : ∀ k, k < 7 → u_lay RX11 TX11 k ∈ lw_ctx
  | 0, _ => in_ctx 974 (by decide +kernel) (by decide +kernel)
  | 1, _ => in_ctx 976 (by decide +kernel) (by decide +kernel)
  | 2, _ => in_ctx 978 (by decide +kernel) (by decide +kernel)
  | 3, _ => in_ctx 980 (by decide +kernel) (by decide +kernel)
  | 4, _ => in_ctx 982 (by decide +kernel) (by decide +kernel)
  | 5, _ => in_ctx 984 (by decide +kernel) (by decide +kernel)
  | 6, _ => in_ctx 986 (by decide +kernel) (by decide +kernel)
  | n + 7, h => absurd h (by omega)
theorem cl_in16 : ∀ k, k < 14 → u_lay RX12 TX12 k ∈ lw_ctx
  | 0, _ => in_ctx 509 (by decide +kernel) (by decide +kernel)
  | 1, _ => in_ctx 511 (by decide +kernel) (by decide +kernel)
  | 2, _ => in_ctx 513 (by decide +kernel) (by decide +kernel)
  | 3, _ => in_ctx 515 (by decide +kernel) (by decide +kernel)
  | 4, _ => in_ctx 517 (by decide +kernel) (by decide +kernel)
  | 5, _ => in_ctx 519 (by decide +kernel) (by decide +kernel)
  | 6, _ => in_ctx 521 (by decide +kernel) (by decide +kernel)
  | 7, _ => in_ctx 523 (by decide +kernel) (by decide +kernel)
  | 8, _ => in_ctx 525 (by decide +kernel) (by decide +kernel)
  | 9, _ => in_ctx 527 (by decide +kernel) (by decide +kernel)
  | 10, _ => in_ctx 529 (by decide +kernel) (by decide +kernel)
  | 11, _ => in_ctx 531 (by decide +kernel) (by decide +kernel)
  | 12, _ => in_ctx 533 (by decide +kernel) (by decide +kernel)
  | 13, _ => in_ctx 535 (by decide +kernel) (by decide +kernel)
  | n + 14, h => absurd h (by omega)
theorem cl_inw {C : String} {T : u_T} {N : Nat} (h : ∀ k, k < N → u_lay C T k ∈ lw_ctx) : ∀ w ∈ u_ws C T N, w ∈ lw_ctx := by
  intro w hw
  obtain ⟨k, hk, rfl⟩ := List.mem_map.mp hw
  exact h k (List.mem_range.mp hk)
theorem cl_ok (ci : Nat) (q : vw_C) (h : vwCl[ci]? = some q) : CLok q := by
  match ci, h with
  | 0, h => cases h; exact ⟨cl_inw cl_in0, ⟨tyJ0, tyJ0_ok⟩, nmJ0⟩
  | 1, h => cases h; exact ⟨cl_inw cl_in1, ⟨tyJ4, tyJ4_ok⟩, nmJ4⟩
  | 2, h => cases h; exact ⟨cl_inw cl_in2, ⟨tyJx35411, tyJx35411_ok⟩, nmJx35411⟩
  | 3, h => cases h; exact ⟨cl_inw cl_in3, ⟨tyJx4a65c, tyJx4a65c_ok⟩, nmJx4a65c⟩
  | 4, h => cases h; exact ⟨cl_inw cl_in4, ⟨tyX0, tyX0_ok⟩, nmX0⟩
  | 5, h => cases h; exact ⟨cl_inw cl_in5, ⟨tyX1, tyX1_ok⟩, nmX1⟩
  | 6, h => cases h; exact ⟨cl_inw cl_in6, ⟨tyX2, tyX2_ok⟩, nmX2⟩
  | 7, h => cases h; exact ⟨cl_inw cl_in7, ⟨tyX3, tyX3_ok⟩, nmX3⟩
  | 8, h => cases h; exact ⟨cl_inw cl_in8, ⟨tyX4, tyX4_ok⟩, nmX4⟩
  | 9, h => cases h; exact ⟨cl_inw cl_in9, ⟨tyX5, tyX5_ok⟩, nmX5⟩
  | 10, h => cases h; exact ⟨cl_inw cl_in10, ⟨tyX6, tyX6_ok⟩, nmX6⟩
  | 11, h => cases h; exact ⟨cl_inw cl_in11, ⟨tyX7, tyX7_ok⟩, nmX7⟩
  | 12, h => cases h; exact ⟨cl_inw cl_in12, ⟨tyX8, tyX8_ok⟩, nmX8⟩
  | 13, h => cases h; exact ⟨cl_inw cl_in13, ⟨tyX9, tyX9_ok⟩, nmX9⟩
  | 14, h => cases h; exact ⟨cl_inw cl_in14, ⟨tyX10, tyX10_ok⟩, nmX10⟩
  | 15, h => cases h; exact ⟨cl_inw cl_in15, ⟨tyX11, tyX11_ok⟩, nmX11⟩
  | 16, h => cases h; exact ⟨cl_inw cl_in16, ⟨tyX12, tyX12_ok⟩, nmX12⟩
  | n + 17, h => simp [vwCl] at h
def FL (own : String) (idx ci j : Nat) : Prop := ∃ q : vw_C, vwCl[ci]? = some q ∧ j < q.2.2 ∧ Cond.fieldLink own idx (q.2.1 j).1 (q.2.1 j).2.1 (q.2.1 j).2.2.1 ∈ lw_ctx
def FLw (own : String) (idx ci j : Nat) (ty : FieldType) (fin : Bool) : Prop := ∃ q : vw_C, vwCl[ci]? = some q ∧ j < q.2.2 ∧ Cond.fieldLink own idx (q.2.1 j).1 (q.2.1 j).2.1 (q.2.1 j).2.2.1 ∈ lw_ctx ∧ parseFieldDescriptor (q.2.1 j).2.2.1 = some ty ∧ (q.2.1 j).2.2.2 = fin ∧ (fin = true → (q.2.1 j).1 = q.1)
theorem x_get {idx ci j kd : Nat} {kds : List Nat} (d : decode M.2.1 pc = .ok (.getfield idx, 3)) (fl : FL M.1.cls idx ci j) (hsh : shp k = .inr (ci, kds)) (hkd : kds[j]? = some kd) (hm : (k, i) ∈ h.1) (kk : X G M R (pc + 3) lv (xfv G h k i j kd :: st) h c0 s0 res h') : X G M R pc lv (rf G k i :: st) h c0 s0 res h' := by
  intro p l e s m args below meth c H locs ls hC hR hS hl
  obtain ⟨q, hc, hj, hlk⟩ := fl
  obtain ⟨pp, -, hw⟩ := xws_at (G := G) hm
  rw [xcell_obj hsh] at hw
  exact va_get (C := q.1) (T := q.2.1) (N := q.2.2) hC.1 hC.2.1 hC.2.2.2.2.2.1 (cl_ok ci q hc).1 hC.2.2.2.2.1 hC.2.2.2.2.2.2.2.2.2.2.1.1 hR.2.2.1 pp hw hc j hj (hC.2.2.2.2.2.1 _ hlk) (fun _ h9 => h9) (xfs_at hkd) d (kk p l e s m args below meth c H locs ls hC hR hS hl)
theorem x_getI {idx ci j : Nat} {kds : List Nat} (d : decode M.2.1 pc = .ok (.getfield idx, 3)) (fl : FL M.1.cls idx ci j) (hsh : shp k = .inr (ci, kds)) (hkd : kds[j]? = some 0) (hm : (k, i) ∈ h.1) (kk : X G M R (pc + 3) lv (.int (iI (h.2.1 k i (j : Int))) :: st) h c0 s0 res h') : X G M R pc lv (rf G k i :: st) h c0 s0 res h' := x_get d fl hsh hkd hm kk
theorem x_getL {idx ci j : Nat} {kds : List Nat} (d : decode M.2.1 pc = .ok (.getfield idx, 3)) (fl : FL M.1.cls idx ci j) (hsh : shp k = .inr (ci, kds)) (hkd : kds[j]? = some 1) (hm : (k, i) ∈ h.1) (kk : X G M R (pc + 3) lv (.long (lI (h.2.1 k i (j : Int))) :: st) h c0 s0 res h') : X G M R pc lv (rf G k i :: st) h c0 s0 res h' := x_get d fl hsh hkd hm kk
theorem x_getR {idx ci j a b : Nat} {kds : List Nat} (d : decode M.2.1 pc = .ok (.getfield idx, 3)) (fl : FL M.1.cls idx ci j) (hsh : shp k = .inr (ci, kds)) (hkd : kds[j]? = some 2) (hr : h.2.2.1 k i j = some (a, b)) (hm : (k, i) ∈ h.1) (kk : X G M R (pc + 3) lv (rf G a b :: st) h c0 s0 res h') : X G M R pc lv (rf G k i :: st) h c0 s0 res h' := by
  refine x_get d fl hsh hkd hm ?_
  rw [show xfv G h k i j 2 = rf G a b by simp only [xfv, hr, Option.map_some, va_rf]]
  exact kk
theorem xfs_set {h1 : Hp} {kds : List Nat} {j kd : Nat} {v : Value} (hk : kds[j]? = some kd) (hv : xfv G h1 k i j kd = v) (ho : ∀ j', j' ≠ j → ∀ kd', xfv G h1 k i j' kd' = xfv G h k i j' kd') : (xfs G h k i kds).set j v = xfs G h1 k i kds := by
  have hlt : j < kds.length := (List.getElem?_eq_some_iff.mp hk).1
  apply List.ext_getElem?
  intro n
  by_cases hn : n = j
  · subst hn
    rw [List.getElem?_set_self (by rw [xfs_len]; exact hlt), xfs_at hk, hv]
  · rw [List.getElem?_set_ne (Ne.symm hn)]
    cases hq : kds[n]? with
    | none =>
      have hz := List.getElem?_eq_none_iff.mp hq
      rw [List.getElem?_eq_none (by rw [xfs_len]; exact hz), List.getElem?_eq_none (by rw [xfs_len]; exact hz)]
    | some kd' => rw [xfs_at hq, xfs_at hq, ho n hn]
/-- a store into a field, by the kit's own row below, with the heap's size -/
theorem x_put {idx ci j kd : Nat} {kds : List Nat} {ty : FieldType} {v : Value} {h1 : Hp} (d : decode M.2.1 pc = .ok (.putfield idx, 3)) (fl : FLw M.1.cls idx ci j ty false) (hsh : shp k = .inr (ci, kds)) (hkd : kds[j]? = some kd) (hm : (k, i) ∈ h.1)
    (hn : narrow ty v = v) (hfit : fits ty v = true) (hd : h1.1 = h.1) (hz : h1.2.2.2 = h.2.2.2) (hne : ∀ k' i', ¬ (k' = k ∧ i' = i) → xcell G h1 k' i' = xcell G h k' i') (hv : xfv G h1 k i j kd = v) (ho : ∀ j', j' ≠ j → ∀ kd', xfv G h1 k i j' kd' = xfv G h k i j' kd')
    (kk : X G M R (pc + 3) lv st h1 c0 s0 res h') : X G M R pc lv (v :: rf G k i :: st) h c0 s0 res h' := by
  intro p l e s m args below meth c H locs ls hC hR hS hl
  obtain ⟨q, hc, hj, hlk, hty, hfin, -⟩ := fl
  obtain ⟨hin, ⟨ty0, hty0⟩, hnm⟩ := cl_ok ci q hc
  have hts := hC.2.2.2.2.2.1
  have hK := hC.2.2.2.2.2.2.2.2.2.2.1.1
  have hap := va_apart (own := M.1.cls) (T := q.2.1) (N := q.2.2) (C := q.1) hts hin ty0 hty0 hnm hK hc
  have hat := xR_at hR hm
  rw [xcell_obj hsh] at hat
  obtain ⟨r, g1, cell, q1, q2, q3, q4⟩ := hat
  have hr : r = q := Option.some.inj (g1.symm.trans hc)
  subst hr
  obtain ⟨hSl, hfc, kC, hkC, hkind⟩ := hK.1 ci _ hc
  obtain ⟨cf, kf, fi, f, hi, hsl⟩ := hSl j hj
  have hlay := hts _ (hin _ (u_in_lay hj))
  unfold u_lay at hlay
  rw [if_neg (by rw [hfin]; decide)] at hlay
  have hst := (u_facts hfc hkC (u_lays hts hin hj) hi).1
  have h6 := u_store hfc hkC hkind hlay hi hty hn hfit
  refine W.putK hC.1 hC.2.1 (f := f) ⟨hC.2.2.2.2.1, hts _ hlk, ⟨_, _, _, hi⟩, hst⟩ (by rw [q2]; exact h6) q1 q3 (by rw [hsl]; exact k2_hasslot (q4 j hj)) rfl rfl d fun H' e1 e2 e3 => ?_
  rw [hsl] at e1 ⊢
  have hR1 : xR G h1 H' := by
    refine xR_store hR hm hd hz hne ?_ e2 e3
    rw [xcell_obj hsh, ← xfs_set hkd hv ho]
    exact ⟨_, hc, t_OB.to (V := updV (vp_V (xfs G h k i kds)) j v) ⟨_, e1, q2, q3, t_set q4 hap hj v⟩ (fun j' _ => vp_updV_set (by rw [xfs_len]; exact (List.getElem?_eq_some_iff.mp hkd).1) v j')⟩
  exact kk p l e s m args below meth c H' _ ls hC hR1 (hS.put e2 e3 (xR_ge hR hm)) hl
theorem hset_fo {j kd' : Nat} {z : Int} (j' : Nat) (hj : j' ≠ j) : xfv G (hset h k i (j : Int) z) k i j' kd' = xfv G h k i j' kd' := xfv_congr (up3_off (by omega)) rfl
theorem x_putI {idx ci j : Nat} {kds : List Nat} {z : Int} (d : decode M.2.1 pc = .ok (.putfield idx, 3)) (fl : FLw M.1.cls idx ci j .int false) (hsh : shp k = .inr (ci, kds)) (hkd : kds[j]? = some 0) (hm : (k, i) ∈ h.1)
    (kk : X G M R (pc + 3) lv st (hset h k i j z) c0 s0 res h') : X G M R pc lv (.int (iI z) :: rf G k i :: st) h c0 s0 res h' :=
  x_put (h1 := hset h k i j z) d fl hsh hkd hm rfl rfl rfl rfl (fun _ _ hn => hset_ne hn) (by show Value.int (iI (up3 h.2.1 k i (j : Int) z k i j)) = _; rw [up3_at]) (fun j' hj _ => hset_fo j' hj) kk
theorem x_putL {idx ci j : Nat} {kds : List Nat} {z : Int} (d : decode M.2.1 pc = .ok (.putfield idx, 3)) (fl : FLw M.1.cls idx ci j .long false) (hsh : shp k = .inr (ci, kds)) (hkd : kds[j]? = some 1) (hm : (k, i) ∈ h.1)
    (kk : X G M R (pc + 3) lv st (hset h k i j z) c0 s0 res h') : X G M R pc lv (.long (lI z) :: rf G k i :: st) h c0 s0 res h' :=
  x_put (h1 := hset h k i j z) d fl hsh hkd hm rfl rfl rfl rfl (fun _ _ hn => hset_ne hn) (by show Value.long (lI (up3 h.2.1 k i (j : Int) z k i j)) = _; rw [up3_at]) (fun j' hj _ => hset_fo j' hj) kk
theorem cl_nat {z : Int} {a : Nat} (hz : z = a) (ha : a < 2147483648) : (iI z).toNatClampNeg = a := by
  rw [iI_clamp ⟨by omega, by omega⟩, hz, Int.toNat_natCast]
theorem in_nat {z : Int} {a n : Nat} (hz : z = a) (ha : a < n) (hn : n < 2147483648) : vp_in (iI z) n := iI_in ⟨by omega, by omega⟩ (by omega) (by omega)
theorem x_iald {n : Nat} {z : Int} (d : decode M.2.1 pc = .ok (.iaload, 1)) (hsh : shp k = .inl (0, n)) (hm : (k, i) ∈ h.1) (a : Nat) (hz : z = a) (ha : a < n) (kk : X G M R (pc + 1) lv (.int (iI (h.2.1 k i a)) :: st) h c0 s0 res h') (hn : n < 2147483648 := by decide) : X G M R pc lv (.int (iI z) :: rf G k i :: st) h c0 s0 res h' := by
  intro p l e s m args below meth c H locs ls hC hR hS hl
  obtain ⟨pp, -, hw⟩ := xws_at (G := G) hm
  rw [xcell_arr hsh] at hw
  refine va_iald hC.1 hC.2.1 hC.2.2.2.2.2.2.2.2.2.2.1.1 hR.2.2.1 pp 0 hw rfl (in_nat hz ha hn) d ?_
  rw [cl_nat hz (by omega)]
  exact kk p l e s m args below meth c H locs ls hC hR hS hl
theorem x_bald {n : Nat} {z : Int} (d : decode M.2.1 pc = .ok (.baload, 1)) (hsh : shp k = .inl (1, n)) (hm : (k, i) ∈ h.1) (a : Nat) (hz : z = a) (ha : a < n) (kk : X G M R (pc + 1) lv (.int (iI (h.2.1 k i a)) :: st) h c0 s0 res h') (hn : n < 2147483648 := by decide) : X G M R pc lv (.int (iI z) :: rf G k i :: st) h c0 s0 res h' := by
  intro p l e s m args below meth c H locs ls hC hR hS hl
  obtain ⟨pp, -, hw⟩ := xws_at (G := G) hm
  rw [xcell_arr hsh] at hw
  refine va_bald hC.1 hC.2.1 hC.2.2.2.2.2.2.2.2.2.2.1.1 hR.2.2.1 pp 1 hw rfl (in_nat hz ha hn) d ?_
  rw [cl_nat hz (by omega)]
  exact kk p l e s m args below meth c H locs ls hC hR hS hl
theorem x_zald {n : Nat} {z : Int} (d : decode M.2.1 pc = .ok (.baload, 1)) (hsh : shp k = .inl (2, n)) (hm : (k, i) ∈ h.1) (a : Nat) (hz : z = a) (ha : a < n) (kk : X G M R (pc + 1) lv (.int (iI (h.2.1 k i a)) :: st) h c0 s0 res h') (hn : n < 2147483648 := by decide) : X G M R pc lv (.int (iI z) :: rf G k i :: st) h c0 s0 res h' := by
  intro p l e s m args below meth c H locs ls hC hR hS hl
  obtain ⟨pp, -, hw⟩ := xws_at (G := G) hm
  rw [xcell_arr hsh] at hw
  refine va_zald hC.1 hC.2.1 hC.2.2.2.2.2.2.2.2.2.2.1.1 hR.2.2.1 pp 2 hw rfl (in_nat hz ha hn) d ?_
  rw [cl_nat hz (by omega)]
  exact kk p l e s m args below meth c H locs ls hC hR hS hl
theorem x_lald {n : Nat} {z : Int} (d : decode M.2.1 pc = .ok (.laload, 1)) (hsh : shp k = .inl (3, n)) (hm : (k, i) ∈ h.1) (a : Nat) (hz : z = a) (ha : a < n) (kk : X G M R (pc + 1) lv (.long (lI (h.2.1 k i a)) :: st) h c0 s0 res h') (hn : n < 2147483648 := by decide) : X G M R pc lv (.int (iI z) :: rf G k i :: st) h c0 s0 res h' := by
  intro p l e s m args below meth c H locs ls hC hR hS hl
  obtain ⟨pp, -, hw⟩ := xws_at (G := G) hm
  rw [xcell_arr hsh] at hw
  refine va_lald hC.1 hC.2.1 hC.2.2.2.2.2.2.2.2.2.2.1.1 hR.2.2.1 pp 3 hw rfl (in_nat hz ha hn) d ?_
  rw [cl_nat hz (by omega)]
  exact kk p l e s m args below meth c H locs ls hC hR hS hl
theorem x_alen {tag n : Nat} (d : decode M.2.1 pc = .ok (.arraylength, 1)) (hsh : shp k = .inl (tag, n)) (hm : (k, i) ∈ h.1) {ty : FieldType} (ht : (xtys G)[tag]? = some (G.2.1 tag, ty)) (kk : X G M R (pc + 1) lv (.int (iI n) :: st) h c0 s0 res h') : X G M R pc lv (rf G k i :: st) h c0 s0 res h' := by
  intro p l e s m args below meth c H locs ls hC hR hS hl
  obtain ⟨pp, -, hw⟩ := xws_at (G := G) hm
  rw [xcell_arr hsh] at hw
  exact va_alen hC.1 hC.2.1 hC.2.2.2.2.2.2.2.2.2.2.1.1 hR.2.2.1 pp tag hw ht (show Int32.ofNat n = iI (n : Int) from (Int32.ofInt_eq_ofNat).symm) d (kk p l e s m args below meth c H locs ls hC hR hS hl)
theorem x_aald {tag n a' b' : Nat} {z : Int} {CC : String} (d : decode M.2.1 pc = .ok (.aaload, 1)) (hsh : shp k = .inl (tag + 5, n)) (ht : (xtys G)[tag + 5]? = some (G.2.1 (tag + 5), .object CC)) (hm : (k, i) ∈ h.1) (a : Nat) (hz : z = a) (ha : a < n) (hr : h.2.2.1 k i a = some (a', b')) (kk : X G M R (pc + 1) lv (rf G a' b' :: st) h c0 s0 res h') (hn : n < 2147483648 := by decide) : X G M R pc lv (.int (iI z) :: rf G k i :: st) h c0 s0 res h' := by
  intro p l e s m args below meth c H locs ls hC hR hS hl
  obtain ⟨pp, -, hw⟩ := xws_at (G := G) hm
  rw [xcell_arr hsh] at hw
  refine va_aldq hC.1 hC.2.1 hC.2.2.2.2.2.2.2.2.2.2.1.1 hR.2.2.1 pp (tag + 5) hw ht (in_nat hz ha hn) d ?_
  rw [cl_nat hz (by omega), hr]
  exact kk p l e s m args below meth c H locs ls hC hR hS hl
/-- stores into arrays -/
theorem x_iast {n : Nat} {z v : Int} (d : decode M.2.1 pc = .ok (.iastore, 1)) (hsh : shp k = .inl (0, n)) (hm : (k, i) ∈ h.1) (a : Nat) (hz : z = a) (ha : a < n) (kk : X G M R (pc + 1) lv st (hset h k i a v) c0 s0 res h') (hn : n < 2147483648 := by decide) : X G M R pc lv (.int (iI v) :: .int (iI z) :: rf G k i :: st) h c0 s0 res h' := by
  intro p l e s m args below meth c H locs ls hC hR hS hl
  have hat := xR_at hR hm
  rw [xcell_arr hsh] at hat
  have hcl := cl_nat hz (show a < 2147483648 by omega)
  refine W.iast hC.1 hC.2.1 hat ((hC.2.2.2.2.2.2.2.2.2.2.1.1.2 0 _ rfl).1 n (fun j : Nat => .int (iI (h.2.1 k i j)))) (fun q => by cases q) (by show ¬ (_ < 0 ∨ (arrV _ _ _).slots.size ≤ _); rw [arrV_size]; exact in_nat hz ha hn) rfl rfl d fun H1 eH z' oq => ?_
  refine kk p l e s m args below meth c H1 _ ls hC (xR_store hR hm rfl rfl (fun _ _ q => hset_ne q) ?_ z' oq) (hS.put z' oq (xR_ge hR hm)) hl
  rw [xcell_arr hsh]
  show H1[gad G k i]? = some (vp_cell _ _)
  rw [eH]
  show some _ = some (vp_cell (G.2.1 0) (n, Sum.inl fun j : Nat => iI (up3 h.2.1 k i a v k i j)))
  rw [vp_cell_i]
  show some _ = _
  rw [show vp_cell (G.2.1 0) (n, xcont G h.2.1 h.2.2.1 k i 0) = arrV (G.2.1 0) n (fun j : Nat => .int (iI (h.2.1 k i j))) from rfl, arrV_store, hcl]
  congr 2
  funext q
  by_cases hq : q = a
  · subst hq; simp [updV, up3_at]
  · have hq2 : ((q : Nat) : Int) ≠ (a : Int) := by omega
    simp [updV, up3_off hq2, hq]
end XH
