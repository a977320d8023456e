/-! the calls that only look -/
def VW (c nl : Nat) (S T : St) : Prop := S 0 10 = nI c ∧ T 0 1 = nI c ∧ c ≤ 51300 ∧ EQS S T ∧ FO nl S T ∧ S 2 = T 5 ∧ S 4 = T 6 ∧ S 0 13 = T 0 40 ∧ S 12 2 = T 0 37 ∧ S 13 = T 25 ∧ S 14 = T 26 ∧ 0 ≤ (T 0 37).toInt ∧ (T 0 11).toInt ≤ c ∧ ∃ n, T 0 17 = nI n ∧ PIPE c 0 n S T
theorem Iv_keep {m : Nat} {S T : St} (h : Iv m S T) : Iv (m + 1) S T := by
  rcases h with h | ⟨c, e, n, nl, h1, h2, h3⟩
  · exact Or.inl h
  · exact Or.inr ⟨c, e, n, nl, h1, by omega, h3⟩
theorem Iv_view {m : Nat} {S T : St} (h : Iv m S T) : ∃ c nl, VW c nl S T := by
  rcases h with ⟨z10, z1, zE, zF, zV, zL, z37, z16, z17, z6, z9, z11, z16f, z14, z15⟩ | ⟨c, e, n, nl, h1, h2, ⟨a10, ac, aE, aF, aV, aL, aX, a37, a37b, ⟨a1, _⟩, aD⟩, aP, aT, _⟩
  · obtain ⟨v1, v2, v3, v4, v5, v6⟩ := zV
    rw [add_nI0] at v4
    exact ⟨0, 0, z10, z1, by omega, zE, zF, v1, v2, v3, v4, v5, v6, by rw [z37]; decide, by rw [z11]; decide, 0, zL.1, Or.inl ⟨z16, Or.inl ⟨rfl, z17⟩⟩⟩
  · obtain ⟨v1, v2, v3, v4, v5, v6⟩ := aV
    rw [add_nI0] at v4
    exact ⟨c, nl, a10, a1, ac, aE, aF, v1, v2, v3, v4, v5, v6, a37, aT.2.1, n, aL.1, aP⟩
theorem call_reg {m : Nat} {S T : St} (h : Iv m S T) (x : Int32) : wp_K_reg S x (fun r S1 => wp_M_reg T x (fun q T1 => r = q ∧ Iv (m + 1) S1 T1)) := by
  obtain ⟨c, nl, _, _, _, _, _, v2, _⟩ := Iv_view h
  have k := Iv_keep h
  unfold wp_K_reg wp_K_reg_10 wp_K_reg_20 wp_M_reg wp_M_reg_19 wp_M_reg_20
  by_cases c1 : x < 0
  · exact it c1 (it c1 ⟨rfl, k⟩)
  refine ie c1 ?_
  by_cases c2 : x < 32
  · have hin : vp_in x 32 := by
      rw [i_lt, zero_int] at c1
      rw [i_lt] at c2
      have l : (32 : Int32).toInt = 32 := by decide
      rw [l] at c2
      exact vp_lit ⟨by omega, by omega⟩
    refine it c2 ⟨hin, ?_⟩
    refine ie c1 (ie ?_ ⟨hin, by rw [v2], k⟩)
    rw [i_le]; rw [i_lt] at c2; omega
  · refine ie c2 ?_
    refine ie c1 (it ?_ ⟨rfl, k⟩)
    rw [i_le]; rw [i_lt] at c2; omega
theorem call_control {m : Nat} {S T : St} (h : Iv m S T) (x : Int32) : wp_K_control S x (fun r S1 => wp_M_control T x (fun q T1 => r = q ∧ Iv (m + 1) S1 T1)) := by
  obtain ⟨c, nl, _, _, _, ⟨e3, _⟩, _⟩ := Iv_view h
  have k := Iv_keep h
  unfold wp_K_control wp_M_control wp_M_control_19
  by_cases hC : isC x
  · obtain ⟨p, Wr, hp, hin, h0, hrd, _⟩ := csr_of hC
    refine hrd S _ ?_
    refine e_place T x p hp _ ?_
    exact it h0 ⟨hin, by rw [e3], k⟩
  · have hr : evI (wp_Con_read S x) 0 S := fun K kk => by
      unfold wp_Con_read
      unfold isC at hC
      simp only [not_or] at hC
      obtain ⟨n1, n2, n3, n4, n5, n6, n7, n8⟩ := hC
      rw [if_neg n1, if_neg n2, if_neg n3, if_neg n4, if_neg n5, if_neg n6, if_neg n7, if_neg n8]
      exact kk
    refine hr _ ?_
    refine e_placeN T hC _ ?_
    exact ie (by decide) ⟨rfl, k⟩
theorem hasW1 (S : St) {a : Int32} (h : inD a) (h3 : a &&& 3 = 0) : evI (wp_Sto_hasWord S a) 1 S := fun K k => by
  unfold wp_Sto_hasWord wp_Sto_hasWord_18
  refine e_has1 S h _ ?_
  exact ie (by decide) (it h3 ⟨isB_1, k⟩)
theorem hasW0 (S : St) {a : Int32} (h : ¬ (inD a ∧ a &&& 3 = 0)) : evI (wp_Sto_hasWord S a) 0 S := fun K k => by
  unfold wp_Sto_hasWord wp_Sto_hasWord_17 wp_Sto_hasWord_18
  by_cases h1 : inD a
  · refine e_has1 S h1 _ ?_
    exact ie (by decide) (ie (fun q => h ⟨h1, q⟩) ⟨isB_0, k⟩)
  · refine e_has0 S h1 _ ?_
    exact it rfl ⟨isB_0, k⟩
theorem call_word {m : Nat} {S T : St} (h : Iv m S T) (x : Int32) : wp_K_word S x (fun r S1 => wp_M_word T x (fun q T1 => r = q ∧ Iv (m + 1) S1 T1)) := by
  obtain ⟨c, nl, _, _, _, _, _, _, v4, _⟩ := Iv_view h
  have k := Iv_keep h
  unfold wp_K_word wp_K_word_19 wp_M_word wp_M_word_28 wp_M_word_29
  by_cases hd : inD x ∧ x &&& 3 = 0
  · refine hasW1 S hd.1 hd.2 _ (ie (by decide) ?_)
    refine e_around S hd.1 _ ?_
    refine e_isD1 T hd.1 _ (ie (by decide) (it ((al4 x).mpr hd.2) ?_))
    rw [dI_eq hd.1, v4]
    exact ⟨dI_in hd.1, rfl, k⟩
  · refine hasW0 S hd _ (it rfl ?_)
    by_cases h1 : inD x
    · refine e_isD1 T h1 _ (ie (by decide) (ie (fun q => hd ⟨h1, (al4 x).mp q⟩) ⟨rfl, k⟩))
    · refine e_isD0 T h1 _ (it rfl ⟨rfl, k⟩)
theorem call_figure {m : Nat} {S T : St} (h : Iv m S T) (x : Int32) : wp_K_figure S x (fun r S1 => wp_M_figure T x (fun q T1 => r = q ∧ Iv (m + 1) S1 T1)) := by
  obtain ⟨c, nl, w10, w1, _, ⟨_, _, _, e14, e15, e16, _⟩, _, _, _, v13, v12, _⟩ := Iv_view h
  have k := Iv_keep h
  unfold wp_K_figure wp_M_figure wp_M_figure_72
  by_cases c0 : x = 0
  · exact it c0 (it c0 ⟨w10.trans w1.symm, k⟩)
  refine ie c0 ?_
  by_cases c1 : x = 1
  · exact it c1 (ie c0 (it c1 ⟨v12, k⟩))
  refine ie c1 ?_
  by_cases c2 : x = 2
  · exact it c2 (ie c0 (ie c1 (it c2 ⟨v13, k⟩)))
  refine ie c2 ?_
  by_cases c3 : x = 3
  · exact it c3 (ie c0 (ie c1 (ie c2 (it c3 ⟨e14, k⟩))))
  refine ie c3 ?_
  by_cases c4 : x = 4
  · exact it c4 (ie c0 (ie c1 (ie c2 (ie c3 (it c4 ⟨e15, k⟩)))))
  refine ie c4 ?_
  by_cases c5 : x = 5
  · exact it c5 (ie c0 (ie c1 (ie c2 (ie c3 (ie c4 (it c5 ⟨e16, k⟩))))))
  · exact ie c5 (ie c0 (ie c1 (ie c2 (ie c3 (ie c4 (ie c5 ⟨rfl, k⟩))))))
theorem call_foretold {m : Nat} {S T : St} (h : Iv m S T) (x : Int32) : wp_K_foretold S x (fun r S1 => wp_M_foretold T x (fun q T1 => r = q ∧ Iv (m + 1) S1 T1)) := by
  obtain ⟨c, nl, w10, w1, wc, _, ⟨_, _, fe, _, o0, o1, o2, _, _, _, _, fch, fc0, _⟩, _, _, _, _, _, _, _, wl, _⟩ := Iv_view h
  have k := Iv_keep h
  unfold wp_K_foretold wp_M_foretold
  refine foretell_ev S x _ o0 o1 o2 _ ?_
  refine guess_ev T (b := 4) (bN := 4) (ix4 x) (okTb_eqv o0 fe) _ ?_
  refine ⟨?_, k⟩
  have i1 : (S 0 10 + 1).toInt = c + 1 := by rw [w10, nI_1, nI_toInt (by omega)]; omega
  have l0 : S 11 0 < S 0 10 + 1 := by rw [i_lt, i1]; rw [i_le] at fc0; omega
  have l1 : S 11 1 < S 0 10 + 1 := by
    rcases fch with q | ⟨_, q⟩
    · rw [i_lt] at q l0 ⊢; omega
    · rw [q, i_lt, zero_int, i1]; omega
  have : ctS S (S 0 10 + 1) = ctb S 0 := by
    unfold ctS
    rw [if_pos l1, if_pos l0]
  rw [this]
  exact gs_eqv fe x
/-- what has ended: the same place in both rings -/
theorem ring {t i : Int32} (ht : 0 ≤ t.toInt) (h0 : ¬ i < 0) (h1 : ¬ t ≤ i) : jrem ((t - 1) - i) 16 = ((t - 1) - i) &&& 15 ∧ vp_in (((t - 1) - i) &&& 15) 16 := by
  refine ⟨jrem16 ?_, in_m _ 4 (by decide) (by decide) (by decide)⟩
  rw [i_lt, zero_int] at h0
  rw [i_le] at h1
  have b := Int32.toInt_lt t
  have e1 : (t - 1).toInt = t.toInt - 1 := by
    rw [Int32.toInt_sub, one_int]
    apply Int.bmod_eq_of_le <;> omega
  have e2 : ((t - 1) - i).toInt = t.toInt - 1 - i.toInt := by
    rw [Int32.toInt_sub, e1]
    apply Int.bmod_eq_of_le <;> omega
  rw [e2]; omega
theorem Mended_ev {S T : St} (v12 : S 12 2 = T 0 37) (v13 : S 13 = T 25) (v14 : S 14 = T 26) (ht : 0 ≤ (T 0 37).toInt) (x y : Int32) : ∃ r, evI (wp_K_ended S x y) r S ∧ evI (wp_M_ended T x y) r T := by
  have hno : ∀ S : St, (x < 0 ∨ (16 : Int32) ≤ x ∨ S 12 2 ≤ x) → evI (wp_His_has S x) 0 S := by
    intro S hq K k
    unfold wp_His_has wp_His_has_22 wp_His_has_23
    by_cases c1 : x < 0
    · exact it c1 ⟨isB_0, k⟩
    refine ie c1 ?_
    by_cases c2 : (16 : Int32) ≤ x
    · exact it c2 ⟨isB_0, k⟩
    refine ie c2 ?_
    by_cases c3 : S 12 2 ≤ x
    · exact it c3 ⟨isB_0, k⟩
    · rcases hq with q | q | q <;> contradiction
  have l16 : (16 : Int32).toInt = 16 := by decide
  have l15 : (15 : Int32).toInt = 15 := by decide
  by_cases hq : x < 0 ∨ (16 : Int32) ≤ x ∨ S 12 2 ≤ x
  · refine ⟨-1, fun K k => ?_, fun K k => ?_⟩
    · unfold wp_K_ended
      refine hno S hq _ ?_
      exact it rfl k
    · unfold wp_M_ended wp_M_ended_27
      by_cases c1 : x < 0
      · exact it c1 k
      refine ie c1 ?_
      by_cases c2 : (15 : Int32) < x
      · exact it c2 k
      refine ie c2 ?_
      by_cases c3 : T 0 37 ≤ x
      · exact it c3 k
      · rcases hq with q | q | q
        · contradiction
        · rw [i_le, l16] at q
          rw [i_lt, l15] at c2
          omega
        · rw [v12] at q; contradiction
  · simp only [not_or] at hq
    obtain ⟨n1, n2, n3⟩ := hq
    have n2' : ¬ (15 : Int32) < x := by
      rw [i_le, l16] at n2
      rw [i_lt, l15]; omega
    have n3' : ¬ T 0 37 ≤ x := by rw [← v12]; exact n3
    have hyes : evI (wp_His_has S x) 1 S := fun K k => by
      unfold wp_His_has wp_His_has_23
      exact ie n1 (ie n2 (ie n3 ⟨isB_1, k⟩))
    obtain ⟨rg, rin⟩ := ring ht n1 n3'
    have hM : ∀ K, ¬ y < 0 → y ≤ 1 → (∀ x6, x6 = jrem (((T 0 37) - (1 : Int32)) - x) 16 → ((if y = 0 then (vp_in x6 16 ∧ ((wp_M_ended_60 K T (T 25 x6.toNatClampNeg)))) else (vp_in x6 16 ∧ ((wp_M_ended_60 K T (T 26 x6.toNatClampNeg))))))) → wp_M_ended T x y K := by
      intro K y0 y1 k
      unfold wp_M_ended
      exact ie n1 (ie n2' (ie n3' (ie y0 (it y1 k))))
    by_cases c0 : y = 0
    · refine ⟨T 25 (((T 0 37 - 1) - x) &&& 15).toNatClampNeg, fun K k => ?_, fun K k => ?_⟩
      · unfold wp_K_ended
        refine hyes _ (ie (by decide) (it c0 ?_))
        unfold wp_His_address wp_His_placeOf
        rw [v12]
        rw [← v13] at k
        exact ⟨rin, k⟩
      · refine hM K (by rw [c0]; decide) (by rw [c0]; decide) ?_
        intro x6 e6
        rw [rg] at e6
        rw [e6]
        exact it c0 ⟨rin, k⟩
    · by_cases c1 : y = 1
      · refine ⟨T 26 (((T 0 37 - 1) - x) &&& 15).toNatClampNeg, fun K k => ?_, fun K k => ?_⟩
        · unfold wp_K_ended
          refine hyes _ (ie (by decide) (ie c0 (it c1 ?_)))
          unfold wp_His_time wp_His_placeOf
          rw [v12]
          rw [← v14] at k
          exact ⟨rin, k⟩
        · refine hM K (by rw [c1]; decide) (by rw [c1]; decide) ?_
          intro x6 e6
          rw [rg] at e6
          rw [e6]
          exact ie c0 ⟨rin, k⟩
      · refine ⟨-1, fun K k => ?_, fun K k => ?_⟩
        · unfold wp_K_ended
          exact hyes _ (ie (by decide) (ie c0 (ie c1 k)))
        · unfold wp_M_ended wp_M_ended_27
          refine ie n1 (ie n2' (ie n3' ?_))
          by_cases d1 : y < 0
          · exact it d1 k
          refine ie d1 (ie ?_ k)
          intro d2
          rw [i_lt, zero_int] at d1
          rw [i_le, one_int] at d2
          rw [i_eq, zero_int] at c0
          rw [i_eq, one_int] at c1
          omega
theorem call_ended {m : Nat} {S T : St} (h : Iv m S T) (x y : Int32) : wp_K_ended S x y (fun r S1 => wp_M_ended T x y (fun q T1 => r = q ∧ Iv (m + 1) S1 T1)) := by
  obtain ⟨c, nl, _, _, _, _, _, _, _, _, v12, v13, v14, ht, _⟩ := Iv_view h
  obtain ⟨r, e1, e2⟩ := Mended_ev v12 v13 v14 ht x y
  exact e1 _ (e2 _ ⟨rfl, Iv_keep h⟩)
