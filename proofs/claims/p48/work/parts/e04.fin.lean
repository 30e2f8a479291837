/-! from an act to its end -/
theorem AI.f0 {G : GG} {h H : Hp} {V : Nat → Vw} {R : Nat → Int → Int} {p : Nat} {T : Nat → Prop} {pl c b aw K : Nat} (I : AI G h V R p T pl c b aw K) (hF : Fr (fun _ => False) h H) : AI G H V R p T pl c b aw K := by
  obtain ⟨i1, i2, i3, i4, i5, i6, i7, i8⟩ := I
  exact ⟨hF.cl i1, i2.k (fun k hk => (hF.2.1 k hk).1), i3, i4.f0 hF, i5.fr hF (fun z => z) (fun _ z => z), ⟨hF.1 _ i6.1, by rw [(hF.2.2.1 _ _ ak_ge i6.1 (fun z => z)).2]; exact i6.2⟩, fun x hx hf => i7 x hx (Fr_fre hF hf), hF.2.2.2.2⟩
theorem AI.more {G : GG} {h : Hp} {V : Nat → Vw} {R : Nat → Int → Int} {p : Nat} {T : Nat → Prop} {pl c b aw K K' : Nat} (I : AI G h V R p T pl c b aw K) (hk : K ≤ K') : AI G h V R p T pl c b aw K' := ⟨I.1, I.2.1.more hk, fun i hi => (I.2.2.1 i hi).more hk, I.2.2.2⟩
theorem AI.w {G : GG} {h : Hp} {V : Nat → Vw} {R : Nat → Int → Int} {p : Nat} {T : Nat → Prop} {pl c b aw K : Nat} (I : AI G h V R p T pl c b aw K) : WN G h (V p).1 (R p) (V p).2.1 (V p).2.2 T := I.2.2.2.1.1 p (by omega)
theorem ac_fin0 {G : GG} {h H : Hp} {V : Nat → Vw} {R : Nat → Int → Int} {p : Nat} {T : Nat → Prop} {pl c b aw K K' w2 n' : Nat} (I : AI G h V R p T pl c b aw K) (hk : K ≤ K') (F : Fr (fun _ => False) h H) {c0 s0 : Nat} (hcs : c0 ≤ 2490) (hss : s0 ≤ 23000) {z : Int} : YY G ML_act (rmL 12 2500 24000) 1327 [(0, rf G 38 0), (1, rf G (ak 8 1) aw), (2, rf G 56 pl), (10, rf G 51 w2), (11, .int (iI 0)), (12, .int (iI z)), (13, .int (iI z))] [] (cs H H.2.1 n') c0 s0 (fun v h1 => v = some (.int (iI 1)) ∧ ∃ V' R' p' c' b', AI G h1 V' R' p' T pl c' b' aw K') := by
  exact o_lv [0, 1, 2, 4, 5, 6] rfl (ac_end0 (((I.f0 F).size (n := n')).more hk) hcs hss)
theorem ac_fin1 {G : GG} {h H H1 : Hp} {V : Nat → Vw} {R : Nat → Int → Int} {p : Nat} {T : Nat → Prop} {pl c b aw K K' w2 n' : Nat} {B2 B' : Bok} {S' : Nat → Prop} {N' : Int → Int} {m1 : Mem} (I : AI G h V R p T pl c b aw K) (hk : K ≤ K') (F : Fr (fun _ => False) h H) (W2 : WN G H w2 (R p) B2 (snew h H) T) (F1 : Fr (V p).2.2 H H1) (hW1 : WN G H1 (V p).1 N' B' S' T) (hS : ∀ x, S' x → (V p).2.2 x ∨ fre H x)
    (hc : ∀ k i, i ≠ 0 ∨ 22 ≤ k → m1 k i = pushC H1.2.1 k i) (hST : ST m1 0 0 N' K') (hU : UT K' N') {c0 s0 : Nat} (hcs : c0 ≤ 2490) (hss : s0 ≤ 23000) {z : Int} : YY G ML_act (rmL 12 2500 24000) 1327 [(0, rf G 38 0), (1, rf G (ak 8 1) aw), (2, rf G 56 pl), (10, rf G 51 w2), (11, .int (iI 1)), (12, .int (iI z)), (13, .int (iI z))] [] (cs H1 m1 n') c0 s0 (fun v h1 => v = some (.int (iI 1)) ∧ ∃ V' R' p' c' b', AI G h1 V' R' p' T pl c' b' aw K') := by
  have I1 := I.f0 F
  have p8 := I.2.1.p8
  have hO1 : ∀ x, OO pl c b aw x → ¬ fre H x := I1.ex
  have Wc := I.2.2.2.1.copy F W2 (fun x hx => hx.1) I.ex
  have Wl := WS.last (n := p + 1) Wc (by rw [cpV_s rfl]; exact F1) (by rw [cpV_s rfl]; exact hW1) (by rw [cpV_s rfl]; exact hS) hO1
  rw [cpV_s rfl] at Wl
  have Wf : WS G (cs H1 m1 n') (sat1 (cpV V p (w2, B2, snew h H)) (p + 1) ((V p).1, B', S')) (ext R p N') (p + 2) T (OO pl c b aw) := (Wl.cg (fun i hi => ⟨rfl, by
    by_cases e : i = p + 1
    · rw [ext_hi (by omega), st_e e]
    · rw [ext_lo (by omega), st_ne e, ext_lo (by omega)]⟩)).cs
  have e51 : ∀ k, k < 51 → H1.2.1 k = H.2.1 k := fun k hk => (F1.2.1 k hk).1
  have hH := (I1.2.1.more hk).k e51
  have hP := hH.push (c := m1) hc hST (Nat.le_refl K')
  have hm : ∀ k, k < 51 → (cs H1 m1 n').2.1 k = m1 k := fun k hk => cs_lo hk
  have eb : ((sat1 (cpV V p (w2, B2, snew h H)) (p + 1) ((V p).1, B', S')) p).1 = w2 := by rw [st_ne (by omega), cpV_n rfl]
  have el : ∀ q, q < p → ((sat1 (cpV V p (w2, B2, snew h H)) (p + 1) ((V p).1, B', S')) q).1 = (V q).1 := fun q hq => by rw [st_ne (by omega), cpV_o hq]
  have ea : ((sat1 (cpV V p (w2, B2, snew h H)) (p + 1) ((V p).1, B', S')) (p + 1)).1 = (V p).1 := by rw [st_e rfl]
  have cF := F1.cl I1.1
  have nO : ∀ x, OO pl c b aw x → ¬ (V p).2.2 x := I.2.2.2.1.2.2.1 p (by omega)
  have hA := (I1.2.2.2.2.1.fr F1 (nO pl (.inl rfl)) (fun q => nO b (.inr (.inl ⟨q, rfl⟩)))).cs (m1 := m1) (n' := n')
  have ar := I1.2.2.2.2.2.1
  have har : (ak 8 1, aw) ∈ H1.1 ∧ H1.2.2.1 (ak 8 1) aw 0 = some (51, (V p).1) := ⟨F1.1 _ ar.1, by rw [(F1.2.2.1 _ _ ak_ge ar.1 (nO aw (.inr (.inr rfl)))).2]; exact ar.2⟩
  rw [← eb]
  exact ac_end1 (CL_cs cF) p8 (fun q => ((hP.1 q).k hm)) (fun q => ((hP.2 q).k hm)) (fun i hi => by
    by_cases e : i ≤ p
    · rw [ext_lo e]; exact (I.2.2.1 i e).more hk
    · rw [ext_hi (by omega)]; exact hU) Wf (hA.E (fun q hq => by rw [el q hq])) (by rw [ea]; exact har) (fun x hx hf => I1.2.2.2.2.2.2.1 x hx (Fr_fre F1 hf)) ⟨n', rfl⟩ hcs hss
