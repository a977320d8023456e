/-! the calls that change: code, data, lines -/
theorem le0 {c : Nat} (h : c ≤ 51300) {x : Int32} (hx : x = nI c) (h1 : 1 ≤ c) : ¬ x ≤ 0 := by
  rw [hx, i_le, nI_toInt (by omega), zero_int]; omega
theorem call_code {m : Nat} {S T : St} (h : Iv m S T) (x y : Int32) : wp_K_code S x y (fun r S1 => wp_M_code T x y (fun q T1 => r = q ∧ Iv (m + 1) S1 T1)) := by
  have k := Iv_keep h
  have l128 : (128 : Int32).toInt = 128 := by decide
  have l127 : (127 : Int32).toInt = 127 := by decide
  unfold wp_K_code wp_K_code_18 wp_M_code wp_M_code_17
  by_cases c1 : x < 0
  · exact it c1 (it c1 ⟨rfl, k⟩)
  refine ie c1 ?_
  by_cases c2 : (128 : Int32) ≤ x
  · refine it c2 (ie c1 (it ?_ ⟨rfl, k⟩))
    rw [i_lt, l127]; rw [i_le, l128] at c2; omega
  refine ie c2 ?_
  have c2' : ¬ (127 : Int32) < x := by rw [i_lt, l127]; rw [i_le, l128] at c2; omega
  rcases h with h | ⟨c, e, n, nl, h1, h2, h3⟩
  · have hin : vp_in x 128 := by
      rw [i_lt, zero_int] at c1
      rw [i_le, l128] at c2
      exact vp_lit ⟨by omega, by omega⟩
    obtain ⟨z10, z1, ⟨e3, eC, e1, er⟩, zF, zV, zL, zr⟩ := h
    refine it (by rw [z10]; decide) ⟨hin, ?_⟩
    intro S4 e4
    refine ie c1 (ie c2' (it (by rw [z1]; decide) ⟨hin, ?_⟩))
    intro T4 f4
    subst e4 f4
    have hS : SAM 0 T (st T 1 x.toNatClampNeg y) := ⟨fun r r1 r2 i hi => by omega, rfl, rfl, rfl, rfl, rfl, rfl⟩
    refine ⟨rfl, Or.inl ⟨z10, z1, ⟨e3, eC, ?_, er⟩, ?_, ?_, ?_, zr⟩⟩
    · rw [st_eq, st_eq, e1]
    · exact FO_same zF rfl rfl rfl rfl (fun r r1 r2 => st_ne (by omega)) rfl rfl rfl
    · exact VIS_same zV (Nat.le_refl 0) hS rfl rfl rfl rfl rfl rfl
    · exact FLD_same zL hS rfl rfl rfl
  · have a10 := h3.1.1
    have ac := h3.1.2.1
    have a1 := h3.1.2.2.2.2.2.2.2.2.2.1.1
    refine ie (le0 ac a10 h1) (ie c1 (ie c2' (ie (le0 ac a1 h1) ⟨rfl, k⟩)))
theorem call_data {m : Nat} {S T : St} (h : Iv m S T) (x y : Int32) : wp_K_data S x y (fun r S1 => wp_M_data T x y (fun q T1 => r = q ∧ Iv (m + 1) S1 T1)) := by
  have k := Iv_keep h
  unfold wp_K_data wp_K_data_14 wp_M_data wp_M_data_20
  by_cases hd : inD x ∧ x &&& 3 = 0
  · refine hasW1 S hd.1 hd.2 _ (ie (by decide) ?_)
    rcases h with h | ⟨c, e, n, nl, h1, h2, h3⟩
    · obtain ⟨z10, z1, zE, zF, zV, zL, zr⟩ := h
      refine it (by rw [z10]; decide) ?_
      refine e_setW S hd.1 _ ?_
      refine e_isD1 T hd.1 _ (ie (by decide) (it ((al4 x).mpr hd.2) (it (by rw [z1]; decide) ?_)))
      rw [dI_eq hd.1]
      refine ⟨dI_in hd.1, ?_⟩
      intro S6 e6
      refine ⟨dI_in hd.1, ?_⟩
      intro S7 e7
      subst e6 e7
      obtain ⟨v1, v2, v3⟩ := zV
      obtain ⟨l17, ln, l2, l3, l15⟩ := zL
      refine ⟨rfl, Or.inl ⟨z10, z1, zE, ?_, ⟨v1, ?_, v3⟩, ⟨l17, ln, l2, ?_, fun i hi => by omega⟩, zr⟩⟩
      · exact FO_same zF rfl rfl rfl rfl (fun r r1 r2 => by rw [st_ne (by omega), st_ne (by omega)]) rfl rfl rfl
      · show upd (S 4) _ _ = upd (T 6) _ _
        have : S 4 = T 6 := v2
        rw [this]
      · show upd (T 3) _ _ = upd (T 6) _ _
        have : T 3 = T 6 := l3
        rw [this]
    · have a10 := h3.1.1
      have ac := h3.1.2.1
      have a1 := h3.1.2.2.2.2.2.2.2.2.2.1.1
      refine ie (le0 ac a10 h1) ?_
      exact e_isD1 T hd.1 _ (ie (by decide) (it ((al4 x).mpr hd.2) (ie (le0 ac a1 h1) ⟨rfl, k⟩)))
  · refine hasW0 S hd _ (it rfl ?_)
    by_cases h1 : inD x
    · exact e_isD1 T h1 _ (ie (by decide) (ie (fun q => hd ⟨h1, (al4 x).mp q⟩) ⟨rfl, k⟩))
    · exact e_isD0 T h1 _ (it rfl ⟨rfl, k⟩)
theorem SAM_4 (n : Nat) (T : St) (x : Nat) (v : Int32) : SAM n T (st T 4 x v) := ⟨fun r r1 r2 i hi => by rw [st_ne (by omega)], rfl, rfl, rfl, rfl, rfl, rfl⟩
theorem RR_lines {N : Nat × Nat} {c n nl : Nat} {S T : St} {x : Int32} (hx : x &&& (-2185) = 0) (h : RR N c 0 n nl S T) : RR N c 0 n nl (st S 3 7 x) (st T 4 7 x) := by
  obtain ⟨⟨a10, ac, ⟨e3, eC, er⟩, aF, aV, aL, aX, a37, a37b, aN, aD⟩, aP, aT, ab, aB⟩ := h
  have hS := SAM_4 n T 7 x
  refine ⟨⟨a10, ac, ⟨?_, ⟨eC.1, hx⟩, er⟩, ?_, ?_, ?_, ?_, a37, a37b, aN, fun i hi => by omega⟩, ?_, aT, ab, aB⟩
  · rw [st_eq, st_eq, e3]
  · exact FO_same aF rfl rfl rfl rfl (fun r r1 r2 => st_ne (by omega)) rfl rfl rfl
  · exact VIS_same aV (Nat.zero_le n) hS rfl rfl rfl rfl rfl rfl
  · exact FLD_same aL hS rfl rfl rfl
  · exact EX0_S (S := S) (T := st T 4 7 x) aX rfl rfl rfl rfl rfl
  · have := PIPE_same aP hS
    exact this
theorem call_lines {m : Nat} {S T : St} (h : Iv m S T) (x : Int32) : wp_K_lines S x (fun r S1 => wp_M_lines T x (fun q T1 => r = q ∧ Iv (m + 1) S1 T1)) := by
  have k := Iv_keep h
  unfold wp_K_lines wp_Con_setLines wp_M_lines
  by_cases c1 : x &&& (-2185) = 0
  · refine it c1 ?_
    intro S2 e2
    refine ⟨isB_1, it c1 ⟨in_78, ?_⟩⟩
    intro T2 f2
    subst e2 f2
    refine ⟨rfl, ?_⟩
    rcases h with h | ⟨c, e, n, nl, h1, h2, h3⟩
    · obtain ⟨z10, z1, ⟨e3, eC, er⟩, zF, zV, zL, zr⟩ := h
      have hS := SAM_4 0 T 7 x
      refine Or.inl ⟨z10, z1, ⟨?_, ⟨eC.1, c1⟩, er⟩, ?_, ?_, ?_, zr⟩
      · show upd (S 3) 7 x = upd (T 4) 7 x
        rw [e3]
      · exact FO_same zF rfl rfl rfl rfl (fun r r1 r2 => st_ne (by omega)) rfl rfl rfl
      · exact VIS_same zV (Nat.le_refl 0) hS rfl rfl rfl rfl rfl rfl
      · exact FLD_same zL hS rfl rfl rfl
    · exact Or.inr ⟨c, e, n, nl, h1, by omega, RR_lines c1 h3⟩
  · refine ie c1 ⟨isB_0, ie c1 ⟨rfl, k⟩⟩
/-! stage -/
theorem stage_hit {T : St} {n i : Nat} {v1 : Int32} {K : Int32 → St → Prop} {f : Nat} (hn : T 0 17 = nI n) (hi : i < n) (hn2 : n < 150) (h : (v1 = 2 ∧ ¬ T 9 i ≤ T 0 1) ∨ (v1 = 3 ∧ ¬ T 0 1 < T 9 i)) (k : K (T 7 i) T) : wp_M_stage_2 K (f + 1) T v1 (nI i) := by
  have ii : vp_in (nI i) 160 := vp_in_nI (by omega) (by decide)
  have cl : (nI i).toNatClampNeg = i := nI_clamp (by omega)
  rw [wp_M_stage_2]
  refine ie ?_ ?_
  · rw [hn, i_le, nI_toInt (by omega), nI_toInt (by omega)]; omega
  rcases h with ⟨h1, h2⟩ | ⟨h1, h2⟩
  · refine it h1 ⟨ii, ie (by rw [cl]; exact h2) ?_⟩
    unfold wp_M_stage_33 wp_M_stage_56 wp_M_stage_57 wp_M_stage_68
    refine ie (by rw [h1]; decide) (ie (by decide) ⟨ii, ?_⟩)
    rw [cl]; exact k
  · refine ie (by rw [h1]; decide) ?_
    unfold wp_M_stage_32 wp_M_stage_33 wp_M_stage_57 wp_M_stage_68
    refine it h1 ⟨ii, ie (by rw [cl]; exact h2) (it rfl (ie (by decide) ⟨ii, ?_⟩))⟩
    rw [cl]; exact k
theorem stage_miss {T : St} {n i : Nat} {v1 : Int32} {K : Int32 → St → Prop} {f : Nat} (hn : T 0 17 = nI n) (hi : i < n) (hn2 : n < 150) (h2 : v1 = 2 → T 9 i ≤ T 0 1) (h3 : v1 = 3 → T 0 1 < T 9 i) (k : wp_M_stage_2 K f T v1 (nI (i + 1))) : wp_M_stage_2 K (f + 1) T v1 (nI i) := by
  have ii : vp_in (nI i) 160 := vp_in_nI (by omega) (by decide)
  have cl : (nI i).toNatClampNeg = i := nI_clamp (by omega)
  rw [wp_M_stage_2]
  refine ie ?_ ?_
  · rw [hn, i_le, nI_toInt (by omega), nI_toInt (by omega)]; omega
  have e33 : wp_M_stage_33 K (wp_M_stage_2 K f) T v1 (nI i) 0 := by
    unfold wp_M_stage_33 wp_M_stage_56 wp_M_stage_57
    by_cases c : v1 = 3
    · refine it c ⟨ii, it (by rw [cl]; exact h3 c) (it rfl (it rfl ?_))⟩
      rw [nI_1]; exact k
    · refine ie c (it rfl (it rfl ?_))
      rw [nI_1]; exact k
  by_cases c : v1 = 2
  · refine it c ⟨ii, it (by rw [cl]; exact h2 c) ?_⟩
    exact e33
  · refine ie c ?_
    exact e33
theorem stage_end {T : St} {n : Nat} {v1 : Int32} {K : Int32 → St → Prop} (hn : T 0 17 = nI n) (hv : ¬ v1 = 4) (k : K (-1) T) : wp_M_stage_2 K 1 T v1 (nI n) := by
  rw [wp_M_stage_2]
  refine it ?_ ?_
  · rw [hn]; exact i_le.mpr (Int.le_refl _)
  · refine ie hv ?_
    unfold wp_M_stage_110 wp_M_stage_111 wp_M_stage_126
    exact it rfl k
theorem call_stage {m : Nat} {S T : St} (h : Iv m S T) (x : Int32) : wp_K_stage S x (fun r S1 => wp_M_stage T x (fun q T1 => r = q ∧ Iv (m + 1) S1 T1)) := by
  obtain ⟨c, nl, w10, w1, wc, _, _, _, _, _, v12, v13, v14, ht, _, n, hn, hP⟩ := Iv_view h
  have k := Iv_keep h
  have i1 : (T 0 1).toInt = c := by rw [w1, nI_toInt (by omega)]
  have hn2 : n ≤ 2 := by
    rcases hP with ⟨_, ⟨e, _⟩ | ⟨e, _⟩⟩ | ⟨e, _⟩ | ⟨e, _⟩ <;> omega
  have z : (nI 0 : Int32) = 0 := rfl
  -- the loop to its end, when nothing is met
  have none : ∀ (K : Int32 → St → Prop), (∀ i, i < n → (x = 2 → T 9 i ≤ T 0 1) ∧ (x = 3 → T 0 1 < T 9 i)) → wp_M_stage_2 K 1 T x (nI n) → wp_M_stage T x K := by
    intro K hh kk
    unfold wp_M_stage
    have : n = 0 ∨ n = 1 ∨ n = 2 := by omega
    rcases this with q | q | q
    · refine ⟨1, ?_⟩
      rw [q] at kk; exact kk
    · refine ⟨2, ?_⟩
      refine stage_miss (i := 0) hn (by omega) (by omega) (hh 0 (by omega)).1 (hh 0 (by omega)).2 ?_
      rw [q] at kk; exact kk
    · refine ⟨3, ?_⟩
      refine stage_miss (i := 0) hn (by omega) (by omega) (hh 0 (by omega)).1 (hh 0 (by omega)).2 ?_
      refine stage_miss (i := 1) hn (by omega) (by omega) (hh 1 (by omega)).1 (hh 1 (by omega)).2 ?_
      rw [q] at kk; exact kk
  unfold wp_K_stage wp_K_stage_49 wp_K_stage_71 wp_K_stage_110
  by_cases c2 : x = 2
  · refine it c2 ?_
    have x4 : ¬ x = 4 := by rw [c2]; decide
    have x3 : ¬ x = 3 := by rw [c2]; decide
    rcases hP with ⟨p0, pm⟩ | ⟨e, p0, pe, b1, _⟩ | ⟨e, pE, p3, p4, p34, pe, b1, _⟩
    · refine it p0 ?_
      refine none _ ?_ (stage_end hn x4 ⟨rfl, k⟩)
      intro i hi
      refine ⟨fun _ => ?_, fun q => absurd q x3⟩
      rcases pm with ⟨e, _⟩ | ⟨e, mE, m3, _⟩
      · omega
      · have : i = 0 := by omega
        subst this
        rw [i_le, i1, ← mE.2.2.1]; exact m3
    · refine ie (by rw [pe.1]; decide) ?_
      unfold wp_M_stage
      refine ⟨1, stage_hit (i := 0) hn (by omega) (by omega) (Or.inl ⟨c2, ?_⟩) ⟨pe.2.1, k⟩⟩
      rw [i_le, i1, ← pe.2.2.1]; omega
    · refine ie (by rw [pe.1]; decide) ?_
      unfold wp_M_stage
      refine ⟨2, ?_⟩
      refine stage_miss (i := 0) hn (by omega) (by omega) (fun _ => ?_) (fun q => absurd q x3) ?_
      · rw [i_le, i1, ← pE.2.2.1]; exact p3
      · refine stage_hit (i := 0 + 1) hn (by omega) (by omega) (Or.inl ⟨c2, ?_⟩) ⟨pe.2.1, k⟩
        rw [i_le, i1, ← pe.2.2.1]; omega
  refine ie c2 ?_
  by_cases c3 : x = 3
  · refine it c3 ?_
    have x4 : ¬ x = 4 := by rw [c3]; decide
    rcases hP with ⟨p0, pm⟩ | ⟨e, p0, pe, b1, _⟩ | ⟨e, pE, p3, p4, p34, pe, b1, _⟩
    · rcases pm with ⟨e, m0⟩ | ⟨e, mE, m3, _⟩
      · refine it m0 ?_
        exact none _ (fun i hi => by omega) (stage_end hn x4 ⟨rfl, k⟩)
      · refine ie (by rw [mE.1]; decide) ?_
        unfold wp_M_stage
        refine ⟨1, stage_hit (i := 0) hn (by omega) (by omega) (Or.inr ⟨c3, ?_⟩) ⟨mE.2.1, k⟩⟩
        rw [i_lt, i1, ← mE.2.2.1]; omega
    · refine it p0 ?_
      refine none _ ?_ (stage_end hn x4 ⟨rfl, k⟩)
      intro i hi
      refine ⟨fun q => absurd q c2, fun _ => ?_⟩
      have : i = 0 := by omega
      subst this
      rw [i_lt, i1, ← pe.2.2.1]; exact b1
    · refine ie (by rw [pE.1]; decide) ?_
      unfold wp_M_stage
      refine ⟨1, stage_hit (i := 0) hn (by omega) (by omega) (Or.inr ⟨c3, ?_⟩) ⟨pE.2.1, k⟩⟩
      rw [i_lt, i1, ← pE.2.2.1]; omega
  refine ie c3 ?_
  by_cases c4 : x = 4
  · refine it c4 ?_
    have fin : ∀ (K : Int32 → St → Prop), wp_M_ended T 0 1 (fun r4 S3 => ((if r4 = (S3 0 1) then ((if (S3 0 37) ≤ 0 then ((wp_M_stage_110 K S3)) else ((wp_M_stage_111 K S3 1)))) else ((wp_M_stage_110 K S3))))) → wp_M_stage T x K := by
      intro K kk
      refine none K (fun i hi => ⟨fun q => absurd q c2, fun q => absurd q c3⟩) ?_
      rw [wp_M_stage_2]
      refine it ?_ (it c4 kk)
      rw [hn]; exact i_le.mpr (Int.le_refl _)
    by_cases h0 : T 0 37 ≤ 0
    · have hhas : evI (wp_His_has S 0) 0 S := fun K kk => by
        unfold wp_His_has wp_His_has_22 wp_His_has_23
        exact ie (by decide) (ie (by decide) (it (by rw [v12]; exact h0) ⟨isB_0, kk⟩))
      refine hhas _ (it rfl ?_)
      unfold wp_K_stage_109 wp_K_stage_110
      refine fin _ ?_
      unfold wp_M_ended wp_M_ended_27
      refine ie (by decide) (ie (by decide) (it h0 ?_))
      unfold wp_M_stage_110 wp_M_stage_111 wp_M_stage_126
      by_cases d : (-1 : Int32) = T 0 1
      · exact it d (it h0 (it rfl ⟨rfl, k⟩))
      · exact ie d (it rfl ⟨rfl, k⟩)
    · have n0 : ¬ (0 : Int32) < 0 := by decide
      obtain ⟨rg, rin⟩ := ring (i := 0) ht n0 h0
      have hhas : evI (wp_His_has S 0) 1 S := fun K kk => by
        unfold wp_His_has wp_His_has_23
        exact ie (by decide) (ie (by decide) (ie (by rw [v12]; exact h0) ⟨isB_1, kk⟩))
      have eA : evI (wp_His_address S 0) (T 25 (((T 0 37 - 1) - 0) &&& 15).toNatClampNeg) S := fun K kk => by
        unfold wp_His_address wp_His_placeOf
        rw [v12]
        rw [← v13] at kk
        exact ⟨rin, kk⟩
      have eT : evI (wp_His_time S 0) (T 26 (((T 0 37 - 1) - 0) &&& 15).toNatClampNeg) S := fun K kk => by
        unfold wp_His_time wp_His_placeOf
        rw [v12]
        rw [← v14] at kk
        exact ⟨rin, kk⟩
      have mA : evI (wp_M_ended T 0 0) (T 25 (((T 0 37 - 1) - 0) &&& 15).toNatClampNeg) T := fun K kk => by
        unfold wp_M_ended wp_M_ended_60
        refine ie (by decide) (ie (by decide) (ie h0 (ie (by decide) (it (by decide) ?_))))
        intro x6 e6
        rw [rg] at e6
        rw [e6]
        exact it rfl ⟨rin, kk⟩
      have mT : evI (wp_M_ended T 0 1) (T 26 (((T 0 37 - 1) - 0) &&& 15).toNatClampNeg) T := fun K kk => by
        unfold wp_M_ended wp_M_ended_60
        refine ie (by decide) (ie (by decide) (ie h0 (ie (by decide) (it (by decide) ?_))))
        intro x6 e6
        rw [rg] at e6
        rw [e6]
        exact ie (by decide) ⟨rin, kk⟩
      refine hhas _ (ie (by decide) ?_)
      refine eT _ ?_
      by_cases d : T 26 (((T 0 37 - 1) - 0) &&& 15).toNatClampNeg = T 0 1
      · refine it (by rw [d, w10, w1]) ?_
        refine eA _ ?_
        refine fin _ ?_
        refine mT _ (it d (ie h0 ?_))
        unfold wp_M_stage_111 wp_M_stage_126
        refine ie (by decide) ?_
        exact mA _ ⟨rfl, k⟩
      · refine ie (by rw [w10, ← w1]; exact d) ?_
        unfold wp_K_stage_109 wp_K_stage_110
        refine fin _ ?_
        refine mT _ (ie d ?_)
        unfold wp_M_stage_110 wp_M_stage_111 wp_M_stage_126
        exact it rfl ⟨rfl, k⟩
  · refine ie c4 ?_
    exact none _ (fun i hi => ⟨fun q => absurd q c2, fun q => absurd q c3⟩) (stage_end hn c4 ⟨rfl, k⟩)
theorem Iv_step (n : Nat) (S T : St) (x x1 x2 : Int32) (hn : n < 512) (h : Iv n S T) : wp_step x x1 x2 S T (Iv (n + 1)) := by
  unfold wp_step
  by_cases c0 : x = 0
  · exact it c0 (call_code h x1 x2)
  refine ie c0 ?_
  by_cases c1 : x = 1
  · exact it c1 (call_data h x1 x2)
  refine ie c1 ?_
  by_cases c2 : x = 2
  · exact it c2 (call_lines h x1)
  refine ie c2 ?_
  by_cases c3 : x = 3
  · exact it c3 (call_run hn h x1)
  refine ie c3 ?_
  by_cases c4 : x = 4
  · exact it c4 (call_reg h x1)
  refine ie c4 ?_
  by_cases c5 : x = 5
  · exact it c5 (call_control h x1)
  refine ie c5 ?_
  by_cases c6 : x = 6
  · exact it c6 (call_word h x1)
  refine ie c6 ?_
  by_cases c7 : x = 7
  · exact it c7 (call_ended h x1 x2)
  refine ie c7 ?_
  by_cases c8 : x = 8
  · exact it c8 (call_stage h x1)
  refine ie c8 ?_
  by_cases c9 : x = 9
  · exact it c9 (call_foretold h x1)
  refine ie c9 ?_
  by_cases c10 : x = 10
  · exact it c10 (call_figure h x1)
  · exact ie c10 (Iv_keep h)
