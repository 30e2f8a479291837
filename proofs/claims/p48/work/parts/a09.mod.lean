/-! modCount, a field that lists inherit -/
def FLm (own : String) (idx : Nat) : Prop := Cond.fieldLink own idx "java/util/ArrayList" "modCount" "I" ∈ lw_ctx
theorem mod_same : Cond.sameField "java/util/ArrayList" "java/util/AbstractList" "modCount" "I" ∈ lw_ctx := in_ctx 472 (by decide +kernel) rfl
theorem flm_l : FLm RJx4a65c 63 := in_ctx 473 (by decide +kernel) rfl
theorem flm_i : FLm RJx35411 17 := in_ctx 471 (by decide +kernel) rfl
section Y9
variable {G : GG} {M : Mth} {R : Room} {pc : Nat} {lv : List (Nat × Value)} {st : List Value} {h : Hp} {c0 s0 : Nat} {Q : PP} {i : Nat}
theorem o_getMod {idx : Nat} {z : Int} (d : decode M.2.1 pc = .ok (.getfield idx, 3)) (fl : FLm M.1.cls idx) (hm : (56, i) ∈ h.1) (e : h.2.1 56 i 0 = z) (kk : YY G M R (pc + 3) lv (.int (iI z) :: st) h c0 s0 Q) : YY G M R pc lv (rf G 56 i :: st) h c0 s0 Q := by
  intro p l e' s m args below meth c H locs ls hC hR hS hl
  subst e
  have hts := hC.2.2.2.2.2.1
  obtain ⟨pp, -, hw⟩ := xws_at (G := G) hm
  rw [xcell_obj (show shp 56 = .inr (3, [0, 2, 0]) from rfl)] at hw
  have hc : vwCl[3]? = some (RJx4a65c, TJx4a65c, 3) := rfl
  exact va_get (ref := "java/util/ArrayList") (C := RJx4a65c) (T := TJx4a65c) (N := 3) hC.1 hC.2.1 hts (cl_ok 3 _ hc).1 hC.2.2.2.2.1 hC.2.2.2.2.2.2.2.2.2.2.1.1 hR.2.2.1 pp hw hc 0 (by decide) (hts _ fl) (fun x h9 => u_same (hts _ mod_same) x h9) (xfs_at (kds := [0, 2, 0]) (j := 0) (kd := 0) rfl) d (kk p l e' s m args below meth c H locs ls hC hR hS hl)
theorem o_putMod {idx : Nat} {z : Int} (d : decode M.2.1 pc = .ok (.putfield idx, 3)) (fl : FLm M.1.cls idx) (hm : (56, i) ∈ h.1) (kk : YY G M R (pc + 3) lv st (hset h 56 i 0 z) c0 s0 Q) : YY G M R pc lv (.int (iI z) :: rf G 56 i :: st) h c0 s0 Q := by
  intro p l e s m args below meth c H locs ls hC hR hS hl
  have hc : vwCl[3]? = some (RJx4a65c, TJx4a65c, 3) := rfl
  obtain ⟨hin, ⟨ty0, hty0⟩, hnm⟩ := cl_ok 3 _ hc
  have hts := hC.2.2.2.2.2.1
  have hK := hC.2.2.2.2.2.2.2.2.2.2.1.1
  have hap := va_apart (own := M.1.cls) (T := TJx4a65c) (N := 3) (C := RJx4a65c) hts hin ty0 hty0 hnm hK hc
  have hat := xR_at hR hm
  rw [xcell_obj (show shp 56 = .inr (3, [0, 2, 0]) from rfl)] at hat
  obtain ⟨r, g1, cell, q1, q2, q3, q4⟩ := hat
  have hr : r = (RJx4a65c, TJx4a65c, 3) := Option.some.inj (g1.symm.trans hc)
  subst hr
  obtain ⟨hSl, hfc, kC, hkC, hkind⟩ := hK.1 3 _ hc
  obtain ⟨cf, kf, fi, f, hi, hsl⟩ := hSl 0 (by decide)
  have hlay := hts _ (hin _ (u_in_lay (k := 0) (by decide)))
  unfold u_lay at hlay
  rw [if_neg (by decide)] at hlay
  have hst := (u_facts hfc hkC (u_lays hts hin (by decide)) hi).1
  have h6 := u_store (v := .int (iI z)) (ty := .int) hfc hkC hkind hlay hi rfl rfl rfl
  have hi2 := u_same (hts _ mod_same) _ hi
  refine W.putK (ref := "java/util/ArrayList") (name := "modCount") (desc := "I") hC.1 hC.2.1 (f := f) ⟨hC.2.2.2.2.1, hts _ fl, ⟨_, _, _, hi2⟩, hst⟩ (by rw [q2]; exact h6) q1 q3 (by rw [hsl]; exact k2_hasslot (q4 0 (by decide))) rfl rfl d fun H' e1 e2 e3 => ?_
  rw [hsl] at e1 ⊢
  have hR1 : xR G (hset h 56 i 0 z) H' := by
    refine xR_store hR hm rfl rfl (fun _ _ q => hset_ne q) ?_ e2 e3
    have es : (xfs G h 56 i [0, 2, 0]).set 0 (.int (iI z)) = xfs G (hset h 56 i 0 z) 56 i [0, 2, 0] := xfs_set (j := 0) (kd := 0) rfl (by show Value.int (iI (up3 h.2.1 56 i ((0 : Nat) : Int) z 56 i ((0 : Nat) : Int))) = _; rw [up3_at]) (fun j' hj kd' => hset_fo (j := 0) j' hj)
    rw [xcell_obj (show shp 56 = .inr (3, [0, 2, 0]) from rfl), ← es]
    exact ⟨_, hc, t_OB.to (V := updV (vp_V (xfs G h 56 i [0, 2, 0])) 0 (.int (iI z))) ⟨_, e1, q2, q3, t_set q4 hap (by decide) (.int (iI z))⟩ (fun j' _ => vp_updV_set (by rw [xfs_len]; decide) (.int (iI z)) j')⟩
  exact kk p l e s m args below meth c H' _ ls hC hR1 (hS.put e2 e3 (xR_ge hR hm)) hl
end Y9
