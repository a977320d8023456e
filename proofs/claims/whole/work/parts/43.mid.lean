/-! one that goes on: what is learned -/
theorem mayJump_ev (S : St) : evI (wp_Ins_mayJump S) (jmpr (S 15 3)) S := fun K k => by
  unfold jmpr at k
  unfold wp_Ins_mayJump wp_Ins_mayJump_27 wp_Ins_mayJump_32
  by_cases c1 : S 15 3 = 111
  · rw [if_pos (Or.inl c1)] at k
    exact it c1 ⟨isB_1, k⟩
  refine ie c1 ?_
  by_cases c2 : S 15 3 = 103
  · rw [if_pos (Or.inr (Or.inl c2))] at k
    exact it c2 ⟨isB_1, k⟩
  refine ie c2 ?_
  by_cases c3 : S 15 3 = 99
  · rw [if_pos (Or.inr (Or.inr c3))] at k
    exact it c3 ⟨isB_1, k⟩
  refine ie c3 ?_
  rw [if_neg (fun q => by rcases q with q | q | q <;> contradiction)] at k
  exact ⟨isB_0, k⟩
theorem jmpr_B (o : Int32) : jmpr o = 0 ∨ jmpr o = 1 := by
  unfold jmpr
  split
  · exact Or.inr rfl
  · exact Or.inl rfl
theorem nar_B {b : Int32} (h : isB b) : vp_nar .boolean b = b := by
  rcases h with h | h
  · rw [h]; exact nar0
  · rw [h]; exact nar1
def rgt (S : St) : Int32 := if S 16 12 = S 15 9 then 1 else 0
theorem mid_ev {nl c : Nat} {S T3 : St} {fo d : Int32} (hF : FO nl S T3) (hn : nl ≤ 2) (hpos : ¬ T3 0 6 < 0) (hB : isB (T3 0 54)) (hJ : isB (T3 0 53)) (hlt : T3 0 11 < nI c) :
    ∃ T4 nl', (∀ K, wp_M_perform_347 K T4 (nI c) fo d 1 → wp_M_perform_235 K T3 (nI c) fo d 1) ∧ (∀ i, i ≠ 0 → (i < 18 ∨ 24 < i) → T4 i = T3 i) ∧ (∀ k, k ≠ 32 → k ≠ 43 → T4 0 k = T3 0 k) ∧
      ∀ S4 : St, S4 8 = S 8 → S4 9 = S 9 → S4 10 = S 10 → S4 11 = S 11 → S4 15 0 = T3 0 6 → T3 0 47 = S4 16 12 → T3 0 54 = S4 16 13 → T3 0 53 = jmpr (S4 15 3) → fo = S4 15 9 → S4 0 10 = nI c → S4 0 16 = T3 0 43 →
      ∃ S6, (∀ K, wp_K_goOn_70 K S6 (rgt S4) → wp_K_goOn S4 K) ∧ (∀ i, i ≠ 0 → (i < 8 ∨ 11 < i) → S6 i = S4 i) ∧ (∀ k, k ≠ 16 → S6 0 k = S4 0 k) ∧ S6 0 16 = T4 0 43 ∧
      (∀ T' : St, (∀ r, 18 ≤ r → r ≤ 24 → T' r = T4 r) → T' 0 32 = T4 0 32 → T' 0 11 = nI c → T3 0 16 ≤ T' 0 16 → T3 0 11 ≤ T' 0 16 → FO nl' S6 T') := by
  have go19 : ∀ (S4 : St) K, wp_K_goOn_19 K S4 (rgt S4) → wp_K_goOn S4 K := by
    intro S4 K k
    unfold rgt at k
    unfold wp_K_goOn
    by_cases q : S4 16 12 = S4 15 9
    · rw [if_pos q] at k; exact it q k
    · rw [if_neg q] at k; exact ie q k
  rcases hJ with J0 | J1
  · refine ⟨T3, nl, fun K k => ?_, fun _ _ _ => rfl, fun _ _ _ => rfl, fun S4 s8 s9 s10 s11 hpc t47 t54 t53 hfo h10 h43 => ⟨S4, fun K k => go19 S4 K ?_, fun _ _ _ => rfl, fun _ _ => rfl, h43, fun T' hr h32 h11 hf hf2 => ?_⟩⟩
    · unfold wp_M_perform_235
      exact ie (by decide) (it J0 k)
    · unfold wp_K_goOn_19
      refine mayJump_ev S4 _ ?_
      exact it (t53.symm.trans J0) k
    · refine FO_skip hF s8 s9 s10 s11 hr h32 ?_ hf hf2
      rw [h11, i_le]
      rw [i_lt] at hlt
      omega
  · -- a jump
    -- the reference's state
    have go267 : ∀ K, (∃ b, b = (if T3 0 47 = fo then (0 : Int32) else 1) ∧ wp_M_perform_267 K T3 (nI c) fo d 1 b (T3 0 43)) → wp_M_perform_235 K T3 (nI c) fo d 1 := by
      intro K ⟨b, hb, k⟩
      unfold wp_M_perform_235
      refine ie (by decide) (ie (by rw [J1]; decide) ?_)
      by_cases q : T3 0 47 = fo
      · rw [if_pos q] at hb; rw [hb] at k; exact it q k
      · rw [if_neg q] at hb; rw [hb] at k; exact ie q k
    generalize hb : (if T3 0 47 = fo then (0 : Int32) else 1) = b at go267
    obtain ⟨T3b, mev, m4, mr, m0⟩ := learn_ev (st T3 0 43 (T3 0 43 + b)) (b := 4) (bN := 4) (a := T3 0 6) (w := T3 0 47) (j := T3 0 54) (ix4 _)
    have z0 : T3b 0 = upd (T3 0) 43 (T3 0 43 + b) := mr 0 (by decide) (by decide) (by decide)
    have hn32 : T3b 0 32 = nI nl := by rw [z0, upd_n (by decide)]; exact hF.1
    have cl : (nI nl).toNatClampNeg = nl := nI_clamp (by omega)
    have ii : vp_in (nI nl) 160 := vp_in_nI (by omega) (by decide)
    let Tc := st (st (st (st T3b 21 nl (T3 0 6)) 22 nl (T3 0 47)) 23 nl (T3 0 54)) 24 nl (nI c)
    let T4 := st Tc 0 32 (nI nl + 1)
    have c0 : Tc 0 = T3b 0 := rfl
    have c18 : ∀ i, i < 21 → Tc i = T3b i := fun i hi => by
      show (st (st (st (st T3b 21 nl (T3 0 6)) 22 nl (T3 0 47)) 23 nl (T3 0 54)) 24 nl (nI c)) i = T3b i
      rw [st_ne (by omega), st_ne (by omega), st_ne (by omega), st_ne (by omega)]
    have c25 : ∀ i, 24 < i → Tc i = T3b i := fun i hi => by
      show (st (st (st (st T3b 21 nl (T3 0 6)) 22 nl (T3 0 47)) 23 nl (T3 0 54)) 24 nl (nI c)) i = T3b i
      rw [st_ne (by omega), st_ne (by omega), st_ne (by omega), st_ne (by omega)]
    have t4ne : ∀ i, i ≠ 0 → T4 i = Tc i := fun i hi => st_ne hi
    refine ⟨T4, nl + 1, fun K k => go267 K ⟨b, rfl, ?_⟩, fun i h0 hi => ?_, fun k k1 k2 => ?_, fun S4 s8 s9 s10 s11 hpc t47 t54 t53 hfo h10 h43 => ?_⟩
    · unfold wp_M_perform_267
      intro S31 e31
      subst e31
      refine mev _ ?_
      have y : ∀ k, k ≠ 43 → T3b 0 k = T3 0 k := fun k hk => by rw [z0, upd_n hk]
      rw [hn32]
      refine ⟨ii, ?_⟩
      intro S34 e34
      rw [cl, y 6 (by decide)] at e34
      have z34 : S34 0 = T3b 0 := by rw [e34]; rfl
      rw [z34, hn32]
      refine ⟨ii, ?_⟩
      intro S35 e35
      rw [cl, y 47 (by decide)] at e35
      have z35 : S35 0 = T3b 0 := by rw [e35]; exact z34
      rw [z35, hn32]
      refine ⟨ii, ?_⟩
      intro S36 e36
      rw [cl, y 54 (by decide), nar_B hB] at e36
      have z36 : S36 0 = T3b 0 := by rw [e36]; exact z35
      rw [z36, hn32]
      refine ⟨ii, ?_⟩
      intro S37 e37
      rw [cl] at e37
      have z37 : S37 0 = T3b 0 := by rw [e37]; exact z36
      rw [z37, hn32]
      intro S38 e38
      rw [e38, e37, e36, e35, e34]
      exact k
    · rw [t4ne i h0]
      rcases hi with hi | hi
      · rw [c18 i (by omega), mr i (by omega) (by omega) (by omega), st_ne h0]
      · rw [c25 i hi, mr i (by omega) (by omega) (by omega), st_ne h0]
    · show upd (Tc 0) 32 (nI nl + 1) k = _
      rw [upd_n k1, c0, z0, upd_n k2]
    · skip
      have j1 : jmpr (S4 15 3) = 1 := t53.symm.trans J1
      have o0 : okTb (ctb S4 0) := okTb_eqv hF.2.2.2.2.1 (eqv_sy (cb_same s8 s9 s10 0))
      obtain ⟨S5, lev, lr, l0, lk⟩ := learnK_ev S4 (S4 15 0) (S4 16 13) (S4 16 12) (S4 0 10) o0
      -- the class's state behind it
      have hS6 : ∃ S6, (∀ K, wp_K_goOn_70 K S6 (rgt S4) → wp_K_goOn S4 K) ∧ (∀ i, i ≠ 0 → S6 i = S5 i) ∧ (∀ k, k ≠ 16 → S6 0 k = S5 0 k) ∧ S6 0 16 = (if S4 16 12 = S4 15 9 then S5 0 16 else S5 0 16 + 1) := by
        by_cases q : S4 16 12 = S4 15 9
        · have rq : rgt S4 = 1 := if_pos q
          refine ⟨S5, fun K k => go19 S4 K ?_, fun _ _ => rfl, fun _ _ => rfl, by rw [if_pos q]⟩
          rw [rq] at k ⊢
          unfold wp_K_goOn_19
          refine mayJump_ev S4 _ ?_
          refine ie (by rw [j1]; decide) ?_
          refine lev _ ?_
          exact ie (by decide) k
        · have rq : rgt S4 = 0 := if_neg q
          refine ⟨st S5 0 16 (S5 0 16 + 1), fun K k => go19 S4 K ?_, fun i hi => st_ne hi, fun k hk => by rw [st_eq, upd_n hk], by rw [if_neg q]; rfl⟩
          rw [rq] at k ⊢
          unfold wp_K_goOn_19
          refine mayJump_ev S4 _ ?_
          refine ie (by rw [j1]; decide) ?_
          refine lev _ ?_
          refine it rfl ?_
          intro S8 e8
          subst e8
          exact k
      obtain ⟨S6, g1, g2, g3, g4⟩ := hS6
      have s50 : S5 0 = S4 0 := lr 0 (by decide) (by decide) (by decide) (by decide)
      refine ⟨S6, g1, fun i h0 hi => ?_, fun k hk => ?_, ?_, fun T' hr h32 h11 hf hf2 => ?_⟩
      · rw [g2 i h0]; exact lr i (by omega) (by omega) (by omega) (by omega)
      · rw [g3 k hk, s50]
      · show _ = upd (Tc 0) 32 (nI nl + 1) 43
        rw [upd_n (by decide), c0, z0, upd_s, g4, s50, ← hfo, ← t47, ← hb, h43]
        by_cases q : T3 0 47 = fo
        · rw [if_pos q, if_pos q]
          exact i_eq.mpr (by simp)
        · rw [if_neg q, if_neg q]
      · have e8 : S6 8 = S5 8 := g2 8 (by decide)
        have e9 : S6 9 = S5 9 := g2 9 (by decide)
        have e10 : S6 10 = S5 10 := g2 10 (by decide)
        have e11 : S6 11 = S5 11 := g2 11 (by decide)
        have cS4 := cb_same s8 s9 s10
        have cS6 := cb_same e8 e9 e10
        have hr' : ∀ r, 18 ≤ r → r ≤ 24 → T' r = Tc r := fun r h1 h2 => by rw [hr r h1 h2]; exact t4ne r (by omega)
        refine FO_jump (a := T3 0 6) (w := T3 0 47) (j := T3 0 54) (e := nI c) hF hn hB hpos hlt ?_ ?_ ?_ ?_ ?_ ?_ ?_ ?_ ?_ ?_ h11 hf hf2
        · refine eqv_tr (cS6 0) (eqv_tr l0 ?_)
          rw [hpc, t47, t54]
          exact lrn_eqv (cS4 0) _ _ _
        · rcases lk with ⟨hs, he⟩ | ⟨h1, h2, h3, h4⟩
          · refine Or.inl ⟨by rw [e8, hs, s8], by rw [e9, hs, s9], by rw [e10, hs, s10], by rw [e11, hs, s11], ?_⟩
            rw [hpc, ← t47, ← t54] at he
            exact eqv_tr (lrn_eqv (eqv_sy (cS4 0)) _ _ _) (eqv_tr he (cS4 0))
          · refine Or.inr ⟨eqv_tr (cS6 1) (eqv_tr h1 (cS4 0)), eqv_tr (cS6 2) (eqv_tr h2 (cS4 1)), ?_, ?_⟩
            · rw [e11, h3]; exact h10
            · rw [e11, h4, s11]
        · refine eqv_tr ?_ (eqv_tr m4 ?_)
          · intro f hf e he
            show T' (18 + f) (4 + e) = T3b (18 + f) (4 + e)
            rw [hr' (18 + f) (by omega) (by omega), c18 (18 + f) (by omega)]
          · refine lrn_eqv ?_ _ _ _
            intro f hf e he
            show (st T3 0 43 (T3 0 43 + b)) (18 + f) (4 + e) = T3 (18 + f) (4 + e)
            rw [st_ne (by omega)]
        · intro f hf x hx
          rw [hr' (18 + f) (by omega) (by omega), c18 (18 + f) (by omega), m0 f hf x (by omega), st_ne (by omega)]
        · intro r h1 h2 i hi
          rw [hr' r (by omega) (by omega)]
          have e3 : T3b r i = T3 r i := by rw [mr r (by omega) (by omega) (by omega), st_ne (by omega)]
          rw [← e3]
          have : r = 21 ∨ r = 22 ∨ r = 23 ∨ r = 24 := by omega
          rcases this with rfl | rfl | rfl | rfl <;> exact upd_n (by omega)
        · rw [hr' 21 (by decide) (by decide)]; exact upd_s
        · rw [hr' 22 (by decide) (by decide)]; exact upd_s
        · rw [hr' 23 (by decide) (by decide)]; exact upd_s
        · rw [hr' 24 (by decide) (by decide)]; exact upd_s
        · rw [h32]
          show nI nl + 1 = _
          exact nI_1 nl
