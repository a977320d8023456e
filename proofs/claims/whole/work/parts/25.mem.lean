/-! reading and writing -/
def szF (f : Int32) : Int32 := (1 : Int32) <<< ((f &&& 3) &&& 31)
theorem sz_al {f : Int32} (hf : f = 0 ∨ f = 1 ∨ f = 2 ∨ f = 4 ∨ f = 5) (p : Int32) : (jrem p (szF f) = 0 ↔ p &&& (szF f - 1) = 0) ∧ ¬ szF f = 0 := by
  rcases hf with rfl | rfl | rfl | rfl | rfl
  · exact ⟨al1 p, by decide⟩
  · exact ⟨al2 p, by decide⟩
  · exact ⟨al4 p, by decide⟩
  · exact ⟨al1 p, by decide⟩
  · exact ⟨al2 p, by decide⟩
theorem e_str1 (S : St) {p f : Int32} (h : p &&& (szF f - 1) = 0) : evI (wp_Sto_isStraight S p f) 1 S := fun K k => by
  unfold wp_Sto_isStraight wp_Sto_isStraight_17
  exact it h ⟨isB_1, k⟩
theorem e_str0 (S : St) {p f : Int32} (h : ¬ p &&& (szF f - 1) = 0) : evI (wp_Sto_isStraight S p f) 0 S := fun K k => by
  unfold wp_Sto_isStraight wp_Sto_isStraight_17
  exact ie h ⟨isB_0, k⟩
theorem e_reach (T : St) {p z c : Int32} (hz : ¬ z = 0) : evV (wp_M_reach T p z c) (st (st (st T 0 50 p) 0 46 p) 0 45 (if jrem p z = 0 then (if p < 1024 ∨ (1280 : Int32) ≤ p then c + 1 else -1) else c)) := fun K k => by
  unfold wp_M_reach wp_M_reach_35
  intro S1 e1 S2 e2
  subst e1 e2
  refine ⟨hz, ?_⟩
  by_cases h : jrem p z = 0
  · rw [if_pos h] at k ⊢
    by_cases hd : inD p
    · refine e_isD1 _ hd _ ?_
      rw [if_neg (by decide)]
      intro S1 e1
      subst e1
      rw [if_neg (by rintro (q | q); exact hd.1 q; exact hd.2 q)] at k
      exact k
    · refine e_isD0 _ hd _ ?_
      rw [if_pos rfl]
      intro S1 e1
      subst e1
      have hh : p < 1024 ∨ (1280 : Int32) ≤ p := by
        by_cases q : p < 1024
        · exact Or.inl q
        · by_cases q2 : (1280 : Int32) ≤ p
          · exact Or.inr q2
          · exact absurd ⟨q, q2⟩ hd
      rw [if_pos hh] at k
      exact k
  · rw [if_neg h] at k ⊢
    intro S1 e1
    subst e1
    exact k
theorem nD {p : Int32} (h : inD p) : ¬ (p < 1024 ∨ (1280 : Int32) ≤ p) := by
  rintro (q | q)
  · exact h.1 q
  · exact h.2 q
theorem nD' {p : Int32} (h : ¬ inD p) : p < 1024 ∨ (1280 : Int32) ≤ p := by
  by_cases q : p < 1024
  · exact Or.inl q
  · by_cases q2 : (1280 : Int32) ≤ p
    · exact Or.inr q2
    · exact absurd ⟨q, q2⟩ h
theorem x_3 {S T : St} {a b : Int32} (H : HX S T a b) (ho : S 15 3 = 3) : wp_Exe_perform S a b (fun S' => wp_M_decide T (fun T' => MX S S' T T')) := by
  obtain ⟨hw, hpc, ⟨d3, d4, d5, d6, d7, d8⟩, hal, hC, hRA, ⟨r2, r6, r8, r12, r13, r14, r15⟩, ⟨q45, q47, q48, q50, q51, q53, q54, q55⟩, hA, hB⟩ := id H
  have hop : wOp (T 0 44) = 3 := by rw [hw, ← d3, ho]
  unfold wp_Exe_perform wp_Exe_perform_293
  rw [ho, if_pos rfl]
  have ha := hA (by rw [ho]; exact uA_of (by decide) (by decide) (by decide) (by decide) (by decide))
  have dec : ∀ K, wp_M_load (st T 0 48 (wRd (T 0 44))) K → wp_M_decide T K := by
    intro K k
    refine e_dec1 (Or.inr (Or.inr (Or.inr (Or.inr (Or.inl hop))))) ?_
    unfold wp_M_decide_68
    intro S1 e1
    subst e1
    rw [hop, if_neg (by decide), if_neg (by decide), if_neg (by decide), if_neg (by decide)]
    unfold wp_M_decide_200 wp_M_decide_287
    rw [if_neg (by decide), if_pos rfl]
    exact k
  have hfw : wF (T 0 44) = S 15 5 := by rw [hw, d5]
  unfold wp_Ins_numberI wp_Exe_read wp_Exe_read_16 wp_Exe_read_86
  dsimp only
  have ill : (S 15 5 = 3 ∨ ¬ S 15 5 ≤ 5) → wp_Exe_refuse S (fun S' => wp_M_decide T (fun T' => MX S S' T T')) := by
    intro hh
    refine e_refuse S _ ?_
    refine dec _ ?_
    unfold wp_M_load wp_M_load_18
    refine e_f _ _ ?_
    show @ite Prop (wF (T 0 44) = 3) _ _ _
    rw [hfw]
    rcases hh with e | e
    · refine it e ?_
      refine e_illegal _ _ ?_
      exact mx_ill H (okS_rf S) (okT_0 (by decide) (okT_rf T)) hw rfl rfl
    · by_cases e3 : S 15 5 = 3
      · refine it e3 ?_
        refine e_illegal _ _ ?_
        exact mx_ill H (okS_rf S) (okT_0 (by decide) (okT_rf T)) hw rfl rfl
      · refine ie e3 (ie (show ¬ wF (T 0 44) ≤ 5 by rw [hfw]; exact e) ?_)
        refine e_illegal _ _ ?_
        exact mx_ill H (okS_rf S) (okT_0 (by decide) (okT_rf T)) hw rfl rfl
  by_cases f3 : S 15 5 = 3
  · rw [if_pos f3]; exact ill (Or.inl f3)
  rw [if_neg f3]
  by_cases f5 : S 15 5 ≤ 5
  · rw [if_pos f5]
    have hv : S 15 5 = 0 ∨ S 15 5 = 1 ∨ S 15 5 = 2 ∨ S 15 5 = 4 ∨ S 15 5 = 5 := by
      rw [d5] at f3 f5 ⊢
      rcases wF_cases (S 15 2) with e | e | e | e | e | e | e | e
      · exact Or.inl e
      · exact Or.inr (Or.inl e)
      · exact Or.inr (Or.inr (Or.inl e))
      · exact absurd e f3
      · exact Or.inr (Or.inr (Or.inr (Or.inl e)))
      · exact Or.inr (Or.inr (Or.inr (Or.inr e)))
      · exact absurd f5 (by rw [e]; decide)
      · exact absurd f5 (by rw [e]; decide)
    obtain ⟨hz, hz0⟩ := sz_al hv (a + nmI (S 15 2))
    generalize hp : a + nmI (S 15 2) = p at hz
    have hp' : a + (S 15 2 >>> ((20 : Int32) &&& 31)) = p := hp
    rw [hp']
    have load : ∀ K, (∀ c, c = (if jrem p (szF (S 15 5)) = 0 then (if p < 1024 ∨ (1280 : Int32) ≤ p then (4 : Int32) + 1 else -1) else 4) → (¬ c < 0 → K (st (st (st (st T 0 48 (wRd (T 0 44))) 0 50 p) 0 46 p) 0 45 c)) ∧ (c < 0 → inD p → K (st (st (st (st (st T 0 48 (wRd (T 0 44))) 0 50 p) 0 46 p) 0 45 c) 0 49 (rdv (T 3) p (S 15 5))))) → wp_M_load (st T 0 48 (wRd (T 0 44))) K := by
      intro K k
      unfold wp_M_load wp_M_load_124
      refine e_f _ _ ?_
      show @ite Prop (wF (T 0 44) = 3) _ _ _
      rw [hfw]
      refine ie f3 ?_
      show @ite Prop (wF (T 0 44) ≤ 5) _ _ _
      rw [hfw]
      refine it f5 ?_
      intro x e
      subst e
      refine e_regA _ _ ?_
      refine e_nmI _ _ ?_
      have ep : (st T 0 48 (wRd (T 0 44))) 2 (wA ((st T 0 48 (wRd (T 0 44))) 0 44)).toNatClampNeg + nmI ((st T 0 48 (wRd (T 0 44))) 0 44) = p := by
        show T 2 (wA (T 0 44)).toNatClampNeg + nmI (T 0 44) = p
        rw [hw, ← ha, hp]
      rw [ep]
      show wp_M_reach _ p ((1 : Int32) <<< ((wF (T 0 44) &&& 3) &&& 31)) 4 _
      rw [hfw]
      refine e_reach _ (z := szF (S 15 5)) hz0 _ ?_
      obtain ⟨k1, k2⟩ := k _ rfl
      generalize hc : (if jrem p (szF (S 15 5)) = 0 then (if p < 1024 ∨ (1280 : Int32) ≤ p then (4 : Int32) + 1 else -1) else 4) = c at k1 k2 ⊢
      by_cases cn : c < 0
      · have hd : inD p := by
          by_cases q : inD p
          · exact q
          · exfalso
            rw [← hc] at cn
            by_cases q2 : jrem p (szF (S 15 5)) = 0
            · rw [if_pos q2, if_pos (nD' q)] at cn; exact absurd cn (by decide)
            · rw [if_neg q2] at cn; exact absurd cn (by decide)
        have kk := k2 cn hd
        refine it cn ?_
        show vp_in ((p - 1024) / 4) 64 ∧ _
        rw [dI_eq hd]
        refine ⟨dI_in hd, ?_⟩
        intro x e
        have hx : jushr (T 3 ((p - 1024) / 4).toNatClampNeg) ((8 : Int32) * jrem p 4) = jushr (T 3 (dI p).toNatClampNeg) ((p &&& 3) * 8) := by rw [dI_eq hd, sh_eq hd]
        replace e := e.trans hx
        subst e
        show @ite Prop (wF (T 0 44) = 0) _ _ _
        rw [hfw]
        have er : ∀ v, v = rdv (T 3) p (S 15 5) → ∀ S20 : St, S20 = st (st (st (st (st T 0 48 (wRd (T 0 44))) 0 50 p) 0 46 p) 0 45 c) 0 49 v → K S20 := by
          intro v hv S20 e20
          subst e20
          rw [hv]
          exact kk
        rcases hv with e | e | e | e | e
        · refine it e ?_
          exact er _ (by unfold rdv; rw [e]; rfl)
        · refine ie (by rw [e]; decide) (it (show wF (T 0 44) = 1 by rw [hfw, e]) ?_)
          exact er _ (by unfold rdv; rw [e]; rfl)
        · refine ie (by rw [e]; decide) (ie (show ¬ wF (T 0 44) = 1 by rw [hfw, e]; decide) (it (show wF (T 0 44) = 2 by rw [hfw, e]) ?_))
          exact er _ (by unfold rdv; rw [e]; rfl)
        · refine ie (by rw [e]; decide) (ie (show ¬ wF (T 0 44) = 1 by rw [hfw, e]; decide) (ie (show ¬ wF (T 0 44) = 2 by rw [hfw, e]; decide) (it (show wF (T 0 44) = 4 by rw [hfw, e]) ?_)))
          exact er _ (by unfold rdv; rw [e]; rfl)
        · refine ie (by rw [e]; decide) (ie (show ¬ wF (T 0 44) = 1 by rw [hfw, e]; decide) (ie (show ¬ wF (T 0 44) = 2 by rw [hfw, e]; decide) (ie (show ¬ wF (T 0 44) = 4 by rw [hfw, e]; decide) ?_)))
          exact er _ (by unfold rdv; rw [e]; rfl)
      · refine ie cn ?_
        exact k1 cn
    have okt : ∀ c : Int32, okT T (st (st (st (st T 0 48 (wRd (T 0 44))) 0 50 p) 0 46 p) 0 45 c) := fun c => okT_0 (by decide) (okT_0 (by decide) (okT_0 (by decide) (okT_0 (by decide) (okT_rf T))))
    by_cases hs : p &&& (szF (S 15 5) - 1) = 0
    · refine e_str1 S hs _ ?_
      rw [if_neg (by decide)]
      have hs' := hz.mpr hs
      by_cases hd : inD p
      · refine e_has1 S hd _ ?_
        rw [if_neg (by decide)]
        intro S1 e1 S2 e2 S3 e3 S4 e4
        subst e1 e2 e3 e4
        refine dec _ (load _ (fun c hc => ?_))
        rw [if_pos hs', if_neg (nD hd)] at hc
        subst hc
        refine ⟨fun q => absurd (by decide) q, fun _ _ => ?_⟩
        refine ⟨okS_16 (by decide) (okS_16 (by decide) (okS_16 (by decide) (okS_16 (by decide) (okS_rf S)))), okT_0 (by decide) (okt _), Or.inr ⟨r15, rfl, ?_, ?_, ?_, ?_, ?_, Or.inl ⟨r14, ?_, hC⟩, ?_, ?_, ?_, hRA, Or.inr (Or.inl ⟨rfl, rfl, hd, q51, rfl, ho⟩)⟩⟩
        · show wRd (T 0 44) = S 15 4
          rw [hw, d4]
        · show vp_in (S 15 4) 32
          rw [d4]; exact wRd_in _
        · show T 0 54 = S 16 13
          rw [q54, r13]
        · show isB (S 16 13)
          rw [r13]; exact isB_0
        · show T 0 55 = S 16 14
          rw [q55, r14]
        · show S 16 12 = T 0 47
          rw [r12, q47, hpc]
        · show T 0 53 = _
          rw [q53, ho]; decide
        · show S 16 12 &&& 3 = 0
          rw [r12]; exact al_add hal (by decide)
        · show S 16 2 = _
          rw [r2, ho, eff_1 (by decide)]
      · refine e_has0 S hd _ ?_
        rw [if_pos rfl]
        refine e_trapK S 5 p _ ?_
        refine dec _ (load _ (fun c hc => ?_))
        rw [if_pos hs', if_pos (nD' hd)] at hc
        subst hc
        refine ⟨fun _ => ?_, fun q => absurd q (by decide)⟩
        exact mk_trap (okS_16 (by decide) (okS_16 (by decide) (okS_16 (by decide) (okS_rf S)))) (okt _) rfl rfl rfl (show (4 : Int32) + 1 = 5 by decide) (show (0 : Int32) ≤ 5 by decide) rfl
    · refine e_str0 S hs _ ?_
      rw [if_pos rfl]
      refine e_trapK S 4 p _ ?_
      refine dec _ (load _ (fun c hc => ?_))
      rw [if_neg (fun q => hs (hz.mp q))] at hc
      subst hc
      refine ⟨fun _ => ?_, fun q => absurd q (by decide)⟩
      exact mk_trap (okS_16 (by decide) (okS_16 (by decide) (okS_16 (by decide) (okS_rf S)))) (okt _) rfl rfl rfl rfl (show (0 : Int32) ≤ 4 by decide) rfl
  · rw [if_neg f5]; exact ill (Or.inr f5)
theorem x_35 {S T : St} {a b : Int32} (H : HX S T a b) (ho : S 15 3 = 35) : wp_Exe_perform S a b (fun S' => wp_M_decide T (fun T' => MX S S' T T')) := by
  obtain ⟨hw, hpc, ⟨d3, d4, d5, d6, d7, d8⟩, hal, hC, hRA, ⟨r2, r6, r8, r12, r13, r14, r15⟩, ⟨q45, q47, q48, q50, q51, q53, q54, q55⟩, hA, hB⟩ := id H
  have hop : wOp (T 0 44) = 35 := by rw [hw, ← d3, ho]
  unfold wp_Exe_perform wp_Exe_perform_293
  rw [ho, if_neg (by decide), if_neg (by decide), if_neg (by decide), if_neg (by decide), if_pos rfl]
  have ha := hA (by rw [ho]; exact uA_of (by decide) (by decide) (by decide) (by decide) (by decide))
  have hb := hB (by rw [ho]; exact Or.inr (Or.inl rfl))
  have nm : ¬ mks (wOp (T 0 44)) := by rw [hop]; unfold mks; decide
  have dec : ∀ K, wp_M_store (st T 0 48 0) K → wp_M_decide T K := by
    intro K k
    refine e_dec0 nm ?_
    unfold wp_M_decide_68
    intro S1 e1
    subst e1
    rw [hop, if_neg (by decide), if_neg (by decide), if_neg (by decide), if_neg (by decide)]
    unfold wp_M_decide_200 wp_M_decide_287
    rw [if_neg (by decide), if_neg (by decide), if_pos rfl]
    exact k
  have hfw : wF (T 0 44) = S 15 5 := by rw [hw, d5]
  unfold wp_Ins_numberS wp_Exe_write wp_Exe_write_77
  dsimp only
  by_cases f2 : S 15 5 ≤ 2
  · rw [if_pos f2]
    have hv : S 15 5 = 0 ∨ S 15 5 = 1 ∨ S 15 5 = 2 := by
      rw [d5] at f2 ⊢
      rcases wF_cases (S 15 2) with e | e | e | e | e | e | e | e
      · exact Or.inl e
      · exact Or.inr (Or.inl e)
      · exact Or.inr (Or.inr e)
      all_goals exact absurd f2 (by rw [e]; decide)
    have hv5 : S 15 5 = 0 ∨ S 15 5 = 1 ∨ S 15 5 = 2 ∨ S 15 5 = 4 ∨ S 15 5 = 5 := by
      rcases hv with e | e | e
      · exact Or.inl e
      · exact Or.inr (Or.inl e)
      · exact Or.inr (Or.inr (Or.inl e))
    have hsz : (1 : Int32) <<< (S 15 5 &&& 31) = szF (S 15 5) := by
      unfold szF
      rcases hv with e | e | e <;> rw [e] <;> decide
    obtain ⟨hz, hz0⟩ := sz_al hv5 (a + nmS (S 15 2))
    generalize hp : a + nmS (S 15 2) = p at hz
    have hp' : a + (((S 15 2 >>> ((25 : Int32) &&& 31)) <<< ((5 : Int32) &&& 31)) ||| S 15 4) = p := by rw [d4]; exact hp
    rw [hp']
    have store : ∀ K, (∀ c, c = (if jrem p (szF (S 15 5)) = 0 then (if p < 1024 ∨ (1280 : Int32) ≤ p then (6 : Int32) + 1 else -1) else 6) → (¬ c < 0 → K (st (st (st (st T 0 48 0) 0 50 p) 0 46 p) 0 45 c)) ∧ (c < 0 → inD p → p &&& (szF (S 15 5) - 1) = 0 → K (st (st (st (st (st (st T 0 48 0) 0 50 p) 0 46 p) 0 45 c) 0 51 1) 0 52 (mrg (T 3) p (S 15 5) b)))) → wp_M_store (st T 0 48 0) K := by
      intro K k
      unfold wp_M_store wp_M_store_75
      refine e_f _ _ ?_
      show @ite Prop (wF (T 0 44) ≤ 2) _ _ _
      rw [hfw]
      refine it f2 ?_
      refine e_regA _ _ ?_
      refine e_nmS _ _ ?_
      have ep : (st T 0 48 0) 2 (wA ((st T 0 48 0) 0 44)).toNatClampNeg + nmS ((st T 0 48 0) 0 44) = p := by
        show T 2 (wA (T 0 44)).toNatClampNeg + nmS (T 0 44) = p
        rw [hw, ← ha, hp]
      rw [ep]
      show wp_M_reach _ p ((1 : Int32) <<< (wF (T 0 44) &&& 31)) 6 _
      rw [hfw, hsz]
      refine e_reach _ hz0 _ ?_
      obtain ⟨k1, k2⟩ := k _ rfl
      generalize hc : (if jrem p (szF (S 15 5)) = 0 then (if p < 1024 ∨ (1280 : Int32) ≤ p then (6 : Int32) + 1 else -1) else 6) = c at k1 k2 ⊢
      by_cases cn : c < 0
      · have hdz : inD p ∧ jrem p (szF (S 15 5)) = 0 := by
          by_cases q2 : jrem p (szF (S 15 5)) = 0
          · refine ⟨?_, q2⟩
            by_cases q : inD p
            · exact q
            · exfalso
              rw [← hc, if_pos q2, if_pos (nD' q)] at cn; exact absurd cn (by decide)
          · exfalso
            rw [← hc, if_neg q2] at cn; exact absurd cn (by decide)
        obtain ⟨hd, hal2⟩ := hdz
        have kk := k2 cn hd (hz.mp hal2)
        refine it cn ?_
        intro x e
        subst e
        have er : ∀ (m : Int32), m = mkm (S 15 5) <<< (((p &&& 3) * 8) &&& 31) → wp_M_store_77 K (st (st (st (st T 0 48 0) 0 50 p) 0 46 p) 0 45 c) ((8 : Int32) * jrem p 4) m := by
          intro m hm
          unfold wp_M_store_77
          intro S1 e1
          subst e1
          show vp_in ((p - 1024) / 4) 64 ∧ _
          rw [dI_eq hd]
          refine ⟨dI_in hd, ?_⟩
          refine e_regB _ _ ?_
          intro S2 e2
          subst e2
          have em : ((T 3 ((p - 1024) / 4).toNatClampNeg) &&& (m ^^^ (-1))) ||| ((T 2 (wB (T 0 44)).toNatClampNeg <<< (((8 : Int32) * jrem p 4) &&& 31)) &&& m) = mrg (T 3) p (S 15 5) b := by
            rw [dI_eq hd, sh_eq hd, hm, hw, ← hb]
            rfl
          show K (st (st (st (st (st (st T 0 48 0) 0 50 p) 0 46 p) 0 45 c) 0 51 1) 0 52 (((T 3 ((p - 1024) / 4).toNatClampNeg) &&& (m ^^^ (-1))) ||| ((T 2 (wB (T 0 44)).toNatClampNeg <<< (((8 : Int32) * jrem p 4) &&& 31)) &&& m)))
          rw [em]
          exact kk
        show @ite Prop (wF (T 0 44) = 2) _ _ _
        rw [hfw]
        rcases hv with e | e | e
        · refine ie (by rw [e]; decide) (it (show wF (T 0 44) = 0 by rw [hfw, e]) ?_)
          refine er _ ?_
          show (255 : Int32) <<< (((8 : Int32) * jrem p 4) &&& 31) = _
          rw [sh_eq hd, e]; rfl
        · refine ie (by rw [e]; decide) (ie (show ¬ wF (T 0 44) = 0 by rw [hfw, e]; decide) ?_)
          refine er _ ?_
          show (65535 : Int32) <<< (((8 : Int32) * jrem p 4) &&& 31) = _
          rw [sh_eq hd, e]; rfl
        · refine it e ?_
          refine er _ ?_
          have e3 : p &&& 3 = 0 := by
            have := hz.mp hal2
            rw [e] at this
            exact this
          rw [e3, e]; decide
      · refine ie cn ?_
        exact k1 cn
    have okt : ∀ c : Int32, okT T (st (st (st (st T 0 48 0) 0 50 p) 0 46 p) 0 45 c) := fun c => okT_0 (by decide) (okT_0 (by decide) (okT_0 (by decide) (okT_0 (by decide) (okT_rf T))))
    by_cases hs : p &&& (szF (S 15 5) - 1) = 0
    · refine e_str1 S hs _ ?_
      rw [if_neg (by decide)]
      have hs' := hz.mpr hs
      by_cases hd : inD p
      · refine e_has1 S hd _ ?_
        rw [if_neg (by decide)]
        intro S1 e1 S2 e2 S3 e3 S4 e4
        subst e1 e2 e3 e4
        refine dec _ (store _ (fun c hc => ?_))
        rw [if_pos hs', if_neg (nD hd)] at hc
        subst hc
        refine ⟨fun q => absurd (by decide) q, fun _ _ _ => ?_⟩
        refine ⟨okS_16 (by decide) (okS_16 (by decide) (okS_16 (by decide) (okS_16 (by decide) (okS_rf S)))), okT_0 (by decide) (okT_0 (by decide) (okt _)), Or.inr ⟨r15, rfl, r6.symm, ?_, ?_, ?_, ?_, Or.inl ⟨r14, ?_, hC⟩, ?_, ?_, ?_, hRA, Or.inr (Or.inr ⟨rfl, rfl, hd, rfl, r6, rfl, ?_⟩)⟩⟩
        · show vp_in (S 16 6) 32
          rw [r6]; exact vp_lit (by decide)
        · show T 0 54 = S 16 13
          rw [q54, r13]
        · show isB (S 16 13)
          rw [r13]; exact isB_0
        · show T 0 55 = S 16 14
          rw [q55, r14]
        · show S 16 12 = T 0 47
          rw [r12, q47, hpc]
        · show T 0 53 = _
          rw [q53, ho]; decide
        · show S 16 12 &&& 3 = 0
          rw [r12]; exact al_add hal (by decide)
        · show S 16 2 = _
          rw [r2, ho, eff_1 (by decide)]
        · rw [ho]; decide
      · refine e_has0 S hd _ ?_
        rw [if_pos rfl]
        refine e_trapK S 7 p _ ?_
        refine dec _ (store _ (fun c hc => ?_))
        rw [if_pos hs', if_pos (nD' hd)] at hc
        subst hc
        refine ⟨fun _ => ?_, fun q => absurd q (by decide)⟩
        exact mk_trap (okS_16 (by decide) (okS_16 (by decide) (okS_16 (by decide) (okS_rf S)))) (okt _) rfl rfl rfl (show (6 : Int32) + 1 = 7 by decide) (show (0 : Int32) ≤ 7 by decide) rfl
    · refine e_str0 S hs _ ?_
      rw [if_pos rfl]
      refine e_trapK S 6 p _ ?_
      refine dec _ (store _ (fun c hc => ?_))
      rw [if_neg (fun q => hs (hz.mp q))] at hc
      subst hc
      refine ⟨fun _ => ?_, fun q => absurd q (by decide)⟩
      exact mk_trap (okS_16 (by decide) (okS_16 (by decide) (okS_16 (by decide) (okS_rf S)))) (okt _) rfl rfl rfl rfl (show (0 : Int32) ≤ 6 by decide) rfl
  · rw [if_neg f2]
    refine e_refuse S _ ?_
    refine dec _ ?_
    unfold wp_M_store
    refine e_f _ _ ?_
    show @ite Prop (wF (T 0 44) ≤ 2) _ _ _
    rw [hfw]
    refine ie f2 ?_
    refine e_illegal _ _ ?_
    exact mx_ill H (okS_rf S) (okT_0 (by decide) (okT_rf T)) hw rfl rfl
