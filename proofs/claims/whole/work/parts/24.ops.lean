/-! instruction by instruction -/
theorem eff_1 {o g f : Int32} (h : ¬ o = 51) : effF o g f = 1 := by unfold effF; rw [if_neg (fun q => h q.1)]
theorem it {c A B : Prop} {d : Decidable c} (hc : c) (a : A) : @ite Prop c d A B := by rw [if_pos hc]; exact a
theorem ie {c A B : Prop} {d : Decidable c} (hc : ¬ c) (b : B) : @ite Prop c d A B := by rw [if_neg hc]; exact b
theorem uA_of {o f : Int32} (h1 : ¬ o = 55) (h2 : ¬ o = 23) (h3 : ¬ o = 111) (h4 : ¬ o = 15) (h5 : ¬ o = 115) : uA o f := by
  rintro (h | h | h | h | h)
  · exact h1 h
  · exact h2 h
  · exact h3 h
  · exact h4 h
  · exact h5 h.1
theorem e_MgoT {T : St} {p : Int32} (hp : p &&& 3 = 0) : evV (wp_M_go T p) (st (st T 0 47 p) 0 54 1) := fun K k => by
  unfold wp_M_go wp_M_go_26
  intro S1 e1 S2 e2
  subst e1 e2
  rw [if_pos hp]; exact k
theorem e_MgoF {T : St} {p : Int32} (hp : ¬ p &&& 3 = 0) : evV (wp_M_go T p) (st (st (st (st T 0 47 p) 0 54 1) 0 45 0) 0 46 p) := fun K k => by
  unfold wp_M_go wp_M_go_26
  intro S1 e1 S2 e2
  subst e1 e2
  rw [if_neg hp]
  intro S1 e1 S2 e2
  subst e1 e2
  exact k
theorem mx_go {S T S1 T1 : St} {a b : Int32} (p : Int32) (H : HX S T a b) (hS : okS S S1) (hT : okT T T1) (c : S1 3 = S 3) (c4 : T1 4 = T 4) (rd : T1 0 48 = S1 16 6) (hin : vp_in (S1 16 6) 32) (s15 : S1 16 15 = S 16 15) (t45 : T1 0 45 = T 0 45) (s14 : S1 16 14 = S 16 14) (t55 : T1 0 55 = T 0 55) (t53 : T1 0 53 = jmpr (S 15 3)) (s2 : S1 16 2 = S 16 2) (ho : ¬ S 15 3 = 51) (s8 : S1 16 8 = S 16 8) (t50 : T1 0 50 = T 0 50) (t51 : T1 0 51 = T 0 51) (val : ¬ S1 16 6 = 0 → T1 0 49 = S1 16 7) (op3 : ¬ S 15 3 = 3) : ∃ S' T', evV (wp_Eff_jump S1 p) S' ∧ evV (wp_M_go T1 p) T' ∧ MX S S' T T' := by
  obtain ⟨hw, hpc, hd, hal, hC, hRA, ⟨r2, r6, r8, r12, r13, r14, r15⟩, ⟨q45, q47, q48, q50, q51, q53, q54, q55⟩, hA, hB⟩ := H
  by_cases hp : p &&& 3 = 0
  · refine ⟨st (st S1 16 13 1) 16 12 p, st (st T1 0 47 p) 0 54 1, fun K k => ?_, e_MgoT hp, ?_⟩
    · unfold wp_Eff_jump
      rw [if_pos hp]
      intro S2 e2 S3 e3
      subst e2 e3
      exact k
    refine ⟨okS_16 (by decide) (okS_16 (by decide) hS), okT_0 (by decide) (okT_0 (by decide) hT), Or.inr ⟨?_, ?_, ?_, ?_, rfl, isB_1, ?_, Or.inl ⟨?_, rfl, ?_⟩, ?_, hp, ?_, ?_, Or.inl ⟨?_, ?_, ?_, ?_, op3⟩⟩⟩
    · exact s15.trans r15
    · exact t45.trans q45
    · exact rd
    · exact hin
    · exact (t55.trans q55).trans (s14.trans r14).symm
    · exact s14.trans r14
    · exact c.trans (hC.trans c4.symm)
    · exact t53
    · exact (s2.trans r2).trans (eff_1 ho).symm
    · show okC (T1 4)
      rw [c4]; exact hRA
    · exact s8.trans r8
    · exact t50.trans q50
    · exact t51.trans q51
    · exact val
  · refine ⟨st (st (st S1 16 15 1) 16 16 0) 16 17 p, _, fun K k => ?_, e_MgoF hp, ?_⟩
    · unfold wp_Eff_jump
      rw [if_neg hp]
      exact e_trapK S1 0 p _ k
    exact mk_trap (okS_16 (by decide) (okS_16 (by decide) (okS_16 (by decide) hS))) (okT_0 (by decide) (okT_0 (by decide) (okT_0 (by decide) (okT_0 (by decide) hT)))) rfl c c4 rfl (show (0 : Int32) ≤ 0 by decide) rfl
theorem x_55 {S T : St} {a b : Int32} (H : HX S T a b) (ho : S 15 3 = 55) : wp_Exe_perform S a b (fun S' => wp_M_decide T (fun T' => MX S S' T T')) := by
  obtain ⟨hw, hpc, ⟨d3, d4, d5, d6, d7, d8⟩, hal, hC, hRA, ⟨r2, r6, r8, r12, r13, r14, r15⟩, ⟨q45, q47, q48, q50, q51, q53, q54, q55⟩, hA, hB⟩ := id H
  have hop : wOp (T 0 44) = 55 := by rw [hw, ← d3, ho]
  unfold wp_Exe_perform wp_Exe_perform_293
  rw [ho, if_neg (by decide), if_neg (by decide), if_neg (by decide), if_neg (by decide), if_neg (by decide), if_neg (by decide), if_pos rfl]
  unfold wp_Ins_numberU
  refine e_setR S _ _ _ ?_
  refine e_dec1 (Or.inl hop) ?_
  unfold wp_M_decide_68
  intro S1 e1
  subst e1
  rw [hop, if_pos rfl]
  unfold wp_M_decide_83
  rw [if_neg (by decide)]
  unfold wp_M_decide_106 wp_M_decide_287
  intro S1 e1
  subst e1
  refine mk_reg H (okS_16 (by decide) (okS_16 (by decide) (okS_rf S))) (okT_0 (by decide) (okT_0 (by decide) (okT_rf T))) hC hRA rfl rfl ?_ ?_ rfl rfl rfl rfl rfl rfl ?_ ?_ rfl rfl rfl ?_ ?_
  · show wRd (T 0 44) = S 15 4
    rw [hw, d4]
  · show vp_in (S 15 4) 32
    rw [d4]; exact wRd_in _
  · show T 0 53 = _
    rw [q53, ho]; decide
  · show S 16 2 = _
    rw [r2, ho, eff_1 (by decide)]
  · intro _
    show (T 0 44 &&& -4096) + 0 = S 15 2 &&& -4096
    rw [hw, Int32.add_zero]
  · rw [ho]; decide
theorem x_23 {S T : St} {a b : Int32} (H : HX S T a b) (ho : S 15 3 = 23) : wp_Exe_perform S a b (fun S' => wp_M_decide T (fun T' => MX S S' T T')) := by
  obtain ⟨hw, hpc, ⟨d3, d4, d5, d6, d7, d8⟩, hal, hC, hRA, ⟨r2, r6, r8, r12, r13, r14, r15⟩, ⟨q45, q47, q48, q50, q51, q53, q54, q55⟩, hA, hB⟩ := id H
  have hop : wOp (T 0 44) = 23 := by rw [hw, ← d3, ho]
  unfold wp_Exe_perform wp_Exe_perform_293
  rw [ho, if_neg (by decide), if_neg (by decide), if_neg (by decide), if_pos rfl]
  unfold wp_Ins_numberU
  refine e_setR S _ _ _ ?_
  refine e_dec1 (Or.inr (Or.inl hop)) ?_
  unfold wp_M_decide_68
  intro S1 e1
  subst e1
  rw [hop, if_neg (by decide), if_pos rfl]
  unfold wp_M_decide_83
  rw [if_pos rfl]
  unfold wp_M_decide_106 wp_M_decide_287
  intro S1 e1
  subst e1
  refine mk_reg H (okS_16 (by decide) (okS_16 (by decide) (okS_rf S))) (okT_0 (by decide) (okT_0 (by decide) (okT_rf T))) hC hRA rfl rfl ?_ ?_ rfl rfl rfl rfl rfl rfl ?_ ?_ rfl rfl rfl ?_ ?_
  · show wRd (T 0 44) = S 15 4
    rw [hw, d4]
  · show vp_in (S 15 4) 32
    rw [d4]; exact wRd_in _
  · show T 0 53 = _
    rw [q53, ho]; decide
  · show S 16 2 = _
    rw [r2, ho, eff_1 (by decide)]
  · intro _
    show (T 0 44 &&& -4096) + T 0 6 = S 15 0 + (S 15 2 &&& -4096)
    rw [hw, hpc, Int32.add_comm]
  · rw [ho]; decide
theorem x_111 {S T : St} {a b : Int32} (H : HX S T a b) (ho : S 15 3 = 111) : wp_Exe_perform S a b (fun S' => wp_M_decide T (fun T' => MX S S' T T')) := by
  obtain ⟨hw, hpc, ⟨d3, d4, d5, d6, d7, d8⟩, hal, hC, hRA, ⟨r2, r6, r8, r12, r13, r14, r15⟩, ⟨q45, q47, q48, q50, q51, q53, q54, q55⟩, hA, hB⟩ := id H
  have hop : wOp (T 0 44) = 111 := by rw [hw, ← d3, ho]
  unfold wp_Exe_perform wp_Exe_perform_293
  rw [ho, if_neg (by decide), if_neg (by decide), if_neg (by decide), if_neg (by decide), if_neg (by decide), if_neg (by decide), if_neg (by decide), if_neg (by decide), if_neg (by decide), if_pos rfl]
  unfold wp_Ins_numberJ
  rw [← nmJ_mid]
  unfold wp_Exe_jump
  refine e_setR S _ _ _ ?_
  obtain ⟨S', T', hs, ht, hm⟩ := mx_go (S1 := st (st S 16 6 (S 15 4)) 16 7 (S 15 0 + 4)) (T1 := st (st (st T 0 48 (wRd (T 0 44))) 0 53 1) 0 49 (T 0 6 + 4)) (S 15 0 + nmJ (S 15 2)) H (okS_16 (by decide) (okS_16 (by decide) (okS_rf S))) (okT_0 (by decide) (okT_0 (by decide) (okT_0 (by decide) (okT_rf T)))) rfl rfl (show wRd (T 0 44) = S 15 4 by rw [hw, d4]) (show vp_in (S 15 4) 32 by rw [d4]; exact wRd_in _) rfl rfl rfl rfl (show (1 : Int32) = jmpr (S 15 3) by rw [ho]; decide) rfl (by rw [ho]; decide) rfl rfl rfl (fun _ => show T 0 6 + 4 = S 15 0 + 4 by rw [hpc]) (by rw [ho]; decide)
  refine hs _ ?_
  refine e_dec1 (Or.inr (Or.inr (Or.inl hop))) ?_
  unfold wp_M_decide_68
  intro S1 e1
  subst e1
  rw [hop, if_neg (by decide), if_neg (by decide), if_pos rfl]
  intro S1 e1 S2 e2
  subst e1 e2
  refine e_nmJ _ _ ?_
  have e : (st (st (st T 0 48 (wRd (T 0 44))) 0 53 1) 0 49 (T 0 6 + 4)) 0 6 + nmJ (T 0 44) = S 15 0 + nmJ (S 15 2) := by
    show T 0 6 + nmJ (T 0 44) = _
    rw [hw, hpc]
  show wp_M_go (st (st (st T 0 48 (wRd (T 0 44))) 0 53 1) 0 49 (T 0 6 + 4)) ((st (st (st T 0 48 (wRd (T 0 44))) 0 53 1) 0 49 (T 0 6 + 4)) 0 6 + nmJ (T 0 44)) _
  rw [e]
  exact ht _ hm
theorem x_103 {S T : St} {a b : Int32} (H : HX S T a b) (ho : S 15 3 = 103) : wp_Exe_perform S a b (fun S' => wp_M_decide T (fun T' => MX S S' T T')) := by
  obtain ⟨hw, hpc, ⟨d3, d4, d5, d6, d7, d8⟩, hal, hC, hRA, ⟨r2, r6, r8, r12, r13, r14, r15⟩, ⟨q45, q47, q48, q50, q51, q53, q54, q55⟩, hA, hB⟩ := id H
  have hop : wOp (T 0 44) = 103 := by rw [hw, ← d3, ho]
  unfold wp_Exe_perform wp_Exe_perform_293
  rw [ho, if_neg (by decide), if_neg (by decide), if_neg (by decide), if_neg (by decide), if_neg (by decide), if_neg (by decide), if_neg (by decide), if_neg (by decide), if_pos rfl]
  have ha := hA (by rw [ho]; exact uA_of (by decide) (by decide) (by decide) (by decide) (by decide))
  by_cases hf : S 15 5 = 0
  · rw [if_pos hf]
    unfold wp_Ins_numberI wp_Exe_jump
    refine e_setR S _ _ _ ?_
    obtain ⟨S', T', hs, ht, hm⟩ := mx_go (S1 := st (st S 16 6 (S 15 4)) 16 7 (S 15 0 + 4)) (T1 := st (st (st T 0 48 (wRd (T 0 44))) 0 53 1) 0 49 (T 0 6 + 4)) ((a + nmI (S 15 2)) &&& (-2)) H (okS_16 (by decide) (okS_16 (by decide) (okS_rf S))) (okT_0 (by decide) (okT_0 (by decide) (okT_0 (by decide) (okT_rf T)))) rfl rfl (show wRd (T 0 44) = S 15 4 by rw [hw, d4]) (show vp_in (S 15 4) 32 by rw [d4]; exact wRd_in _) rfl rfl rfl rfl (show (1 : Int32) = jmpr (S 15 3) by rw [ho]; decide) rfl (by rw [ho]; decide) rfl rfl rfl (fun _ => show T 0 6 + 4 = S 15 0 + 4 by rw [hpc]) (by rw [ho]; decide)
    refine hs _ ?_
    refine e_dec1 (Or.inr (Or.inr (Or.inr (Or.inl hop)))) ?_
    unfold wp_M_decide_68
    intro S1 e1
    subst e1
    rw [hop, if_neg (by decide), if_neg (by decide), if_neg (by decide), if_pos rfl]
    refine e_f _ _ ?_
    refine it (show wF (T 0 44) = 0 by rw [hw, ← d5, hf]) ?_
    intro S1 e1 S2 e2
    subst e1 e2
    refine e_regA _ _ ?_
    refine e_nmI _ _ ?_
    show wp_M_go (st (st (st T 0 48 (wRd (T 0 44))) 0 53 1) 0 49 (T 0 6 + 4)) ((T 2 (wA (T 0 44)).toNatClampNeg + nmI (T 0 44)) &&& (-2)) _
    rw [hw, ← ha]
    rw [hw] at ht
    exact ht _ hm
  · rw [if_neg hf]
    refine e_refuse S _ ?_
    refine e_dec1 (Or.inr (Or.inr (Or.inr (Or.inl hop)))) ?_
    unfold wp_M_decide_68
    intro S1 e1
    subst e1
    rw [hop, if_neg (by decide), if_neg (by decide), if_neg (by decide), if_pos rfl]
    refine e_f _ _ ?_
    refine ie (show ¬ wF (T 0 44) = 0 by rw [hw, ← d5]; exact hf) ?_
    unfold wp_M_decide_200 wp_M_decide_287
    rw [if_neg (by decide), if_neg (by decide), if_neg (by decide), if_neg (by decide), if_neg (by decide), if_neg (by decide), if_neg (by decide)]
    refine e_illegal _ _ ?_
    exact mx_ill H (okS_rf S) (okT_0 (by decide) (okT_rf T)) hw rfl rfl
theorem x_15 {S T : St} {a b : Int32} (H : HX S T a b) (ho : S 15 3 = 15) : wp_Exe_perform S a b (fun S' => wp_M_decide T (fun T' => MX S S' T T')) := by
  obtain ⟨hw, hpc, ⟨d3, d4, d5, d6, d7, d8⟩, hal, hC, hRA, ⟨r2, r6, r8, r12, r13, r14, r15⟩, ⟨q45, q47, q48, q50, q51, q53, q54, q55⟩, hA, hB⟩ := id H
  have hop : wOp (T 0 44) = 15 := by rw [hw, ← d3, ho]
  unfold wp_Exe_perform wp_Exe_perform_293
  rw [ho, if_neg (by decide), if_pos rfl]
  refine e_dec0 (by rw [hop]; unfold mks; decide) ?_
  unfold wp_M_decide_68
  intro S1 e1
  subst e1
  rw [hop, if_neg (by decide), if_neg (by decide), if_neg (by decide), if_neg (by decide)]
  unfold wp_M_decide_200 wp_M_decide_287
  rw [if_neg (by decide), if_neg (by decide), if_neg (by decide), if_neg (by decide), if_neg (by decide), if_neg (by decide), if_pos rfl]
  refine mk_reg H (okS_rf S) (okT_0 (by decide) (okT_rf T)) hC hRA rfl rfl r6.symm (by rw [r6]; exact vp_lit (by decide)) rfl rfl rfl rfl rfl rfl (show T 0 53 = _ by rw [q53, ho]; decide) (by rw [r2, ho, eff_1 (by decide)]) rfl rfl rfl (fun h => absurd r6 h) (by rw [ho]; decide)
theorem x_no {S T : St} {a b : Int32} (H : HX S T a b) (n1 : ¬ S 15 3 = 3) (n2 : ¬ S 15 3 = 15) (n3 : ¬ S 15 3 = 19) (n4 : ¬ S 15 3 = 23) (n5 : ¬ S 15 3 = 35) (n6 : ¬ S 15 3 = 51) (n7 : ¬ S 15 3 = 55) (n8 : ¬ S 15 3 = 99) (n9 : ¬ S 15 3 = 103) (n10 : ¬ S 15 3 = 111) (n11 : ¬ S 15 3 = 115) : wp_Exe_perform S a b (fun S' => wp_M_decide T (fun T' => MX S S' T T')) := by
  obtain ⟨hw, hpc, ⟨d3, d4, d5, d6, d7, d8⟩, hal, hC, hRA, ⟨r2, r6, r8, r12, r13, r14, r15⟩, ⟨q45, q47, q48, q50, q51, q53, q54, q55⟩, hA, hB⟩ := id H
  unfold wp_Exe_perform wp_Exe_perform_293
  rw [if_neg n1, if_neg n2, if_neg n3, if_neg n4, if_neg n5, if_neg n6, if_neg n7, if_neg n8, if_neg n9, if_neg n10, if_neg n11]
  refine e_refuse S _ ?_
  have hop : wOp (T 0 44) = S 15 3 := by rw [hw, ← d3]
  refine e_dec0 (by rw [hop]; rintro (h | h | h | h | h | h | h) <;> contradiction) ?_
  rw [hop]
  unfold wp_M_decide_68
  intro S1 e1
  subst e1
  rw [if_neg n7, if_neg n4, if_neg n10, if_neg n9]
  unfold wp_M_decide_200 wp_M_decide_287
  rw [if_neg n8, if_neg n1, if_neg n5, if_neg n3, if_neg n6, if_neg n11, if_neg n2]
  refine e_illegal _ _ ?_
  exact mx_ill H (okS_rf S) (okT_0 (by decide) (okT_rf T)) hw rfl rfl
def chF (f x y : Int32) : Int32 := if f = 0 then (if x = y then 1 else 0) else if f = 1 then (if x = y then 0 else 1) else if f = 4 then (if y ≤ x then 0 else 1) else if f = 5 then (if x < y then 0 else 1) else if f = 6 then ltu x y else (if ltu x y = 0 then 1 else 0)
theorem e_cond (S : St) (f x y : Int32) (h2 : ¬ f = 2) (h3 : ¬ f = 3) : evI (wp_Exe_conditionHolds S f x y) (chF f x y) S := fun K k => by
  unfold wp_Exe_conditionHolds wp_Exe_conditionHolds_54 wp_Exe_conditionHolds_65 wp_Exe_conditionHolds_76 wp_Exe_conditionHolds_87 wp_Exe_conditionHolds_107
  unfold chF at k
  by_cases h0 : f = 0
  · rw [if_pos h0] at k ⊢
    split
    · next c => rw [if_pos c] at k; exact ⟨isB_1, k⟩
    · next c => rw [if_neg c] at k; exact ⟨isB_0, k⟩
  rw [if_neg h0] at k ⊢
  by_cases h1 : f = 1
  · rw [if_pos h1] at k ⊢
    split
    · next c => rw [if_pos c] at k; exact ⟨isB_0, k⟩
    · next c => rw [if_neg c] at k; exact ⟨isB_1, k⟩
  rw [if_neg h1] at k ⊢
  rw [if_neg h2, if_neg h3]
  by_cases h4 : f = 4
  · rw [if_pos h4] at k ⊢
    split
    · next c => rw [if_pos c] at k; exact ⟨isB_0, k⟩
    · next c => rw [if_neg c] at k; exact ⟨isB_1, k⟩
  rw [if_neg h4] at k ⊢
  by_cases h5 : f = 5
  · rw [if_pos h5] at k ⊢
    split
    · next c => rw [if_pos c] at k; exact ⟨isB_0, k⟩
    · next c => rw [if_neg c] at k; exact ⟨isB_1, k⟩
  rw [if_neg h5] at k ⊢
  by_cases h6 : f = 6
  · rw [if_pos h6] at k ⊢
    exact e_less S x y _ ⟨ltu_B x y, k⟩
  rw [if_neg h6] at k ⊢
  refine e_less S x y _ ?_
  split
  · next c => rw [if_pos c] at k; exact ⟨isB_1, k⟩
  · next c => rw [if_neg c] at k; exact ⟨isB_0, k⟩
theorem e_br {T : St} {K : St → Prop} (f x y : Int32) (hf : wF (T 0 44) = f) (hx : T 2 (wA (T 0 44)).toNatClampNeg = x) (hy : T 2 (wB (T 0 44)).toNatClampNeg = y) (hv : f = 0 ∨ f = 1 ∨ f = 4 ∨ f = 5 ∨ f = 6 ∨ f = 7) (h0 : chF f x y = 0 → K (st T 0 53 1)) (h1 : ¬ chF f x y = 0 → wp_M_go (st T 0 53 1) (T 0 6 + nmB (T 0 44)) K) : wp_M_branch T K := by
  unfold wp_M_branch
  refine e_f T _ ?_
  refine e_regA T _ ?_
  refine e_regB T _ ?_
  rw [hf, hx, hy]
  have tk : ∀ k0 k1 : Int32, (k1 = k0 ↔ chF f x y = 0) → wp_M_branch_96 K (st T 0 53 1) k0 k1 := by
    intro k0 k1 hk
    unfold wp_M_branch_96 wp_M_branch_112
    by_cases c : k1 = k0
    · rw [if_pos c]; exact h0 (hk.mp c)
    · rw [if_neg c]
      refine e_nmB _ _ ?_
      exact h1 (fun q => c (hk.mpr q))
  have go : ∀ v : Int32, (∀ k : Int32, k = (if f &&& 1 = 1 then 1 else 0) → (v = k ↔ chF f x y = 0)) → wp_M_branch_60 K T f v := by
    intro v hv2
    unfold wp_M_branch_60
    have n2 : ¬ f = 2 := by rcases hv with rfl | rfl | rfl | rfl | rfl | rfl <;> decide
    have n3 : ¬ f = 3 := by rcases hv with rfl | rfl | rfl | rfl | rfl | rfl <;> decide
    rw [if_neg n2, if_neg n3]
    intro S1 e1
    subst e1
    split
    · next c => exact tk 1 v (hv2 1 (by rw [if_pos c]))
    · next c => exact tk 0 v (hv2 0 (by rw [if_neg c]))
  rcases hv with rfl | rfl | rfl | rfl | rfl | rfl
  · rw [if_neg (by decide)]
    split
    · next c => exact go 1 (fun k hk => by subst hk; unfold chF; rw [if_pos rfl, if_pos c]; decide)
    · next c => exact go 0 (fun k hk => by subst hk; unfold chF; rw [if_pos rfl, if_neg c]; decide)
  · rw [if_neg (by decide)]
    split
    · next c => exact go 1 (fun k hk => by subst hk; unfold chF; rw [if_neg (by decide : ¬ (1 : Int32) = 0), if_pos rfl, if_pos c]; decide)
    · next c => exact go 0 (fun k hk => by subst hk; unfold chF; rw [if_neg (by decide : ¬ (1 : Int32) = 0), if_pos rfl, if_neg c]; decide)
  · rw [if_pos (by decide), if_neg (by decide)]
    split
    · next c => exact go 0 (fun k hk => by subst hk; unfold chF; rw [if_neg (by decide : ¬ (4 : Int32) = 0), if_neg (by decide : ¬ (4 : Int32) = 1), if_pos rfl, if_pos c]; decide)
    · next c => exact go 1 (fun k hk => by subst hk; unfold chF; rw [if_neg (by decide : ¬ (4 : Int32) = 0), if_neg (by decide : ¬ (4 : Int32) = 1), if_pos rfl, if_neg c]; decide)
  · rw [if_pos (by decide), if_neg (by decide)]
    split
    · next c => exact go 0 (fun k hk => by subst hk; unfold chF; rw [if_neg (by decide : ¬ (5 : Int32) = 0), if_neg (by decide : ¬ (5 : Int32) = 1), if_neg (by decide : ¬ (5 : Int32) = 4), if_pos rfl, if_neg (Int32.not_lt.mpr c)]; decide)
    · next c => exact go 1 (fun k hk => by subst hk; unfold chF; rw [if_neg (by decide : ¬ (5 : Int32) = 0), if_neg (by decide : ¬ (5 : Int32) = 1), if_neg (by decide : ¬ (5 : Int32) = 4), if_pos rfl, if_pos (Int32.not_le.mp c)]; decide)
  · rw [if_pos (by decide), if_pos (by decide)]
    refine e_below T x y _ ?_
    refine go _ (fun k hk => ?_)
    subst hk
    unfold chF
    rw [if_neg (by decide : ¬ (6 : Int32) = 0), if_neg (by decide : ¬ (6 : Int32) = 1), if_neg (by decide : ¬ (6 : Int32) = 4), if_neg (by decide : ¬ (6 : Int32) = 5), if_pos rfl]
    exact Iff.rfl
  · rw [if_pos (by decide), if_pos (by decide)]
    refine e_below T x y _ ?_
    refine go _ (fun k hk => ?_)
    subst hk
    unfold chF
    rw [if_neg (by decide : ¬ (7 : Int32) = 0), if_neg (by decide : ¬ (7 : Int32) = 1), if_neg (by decide : ¬ (7 : Int32) = 4), if_neg (by decide : ¬ (7 : Int32) = 5), if_neg (by decide : ¬ (7 : Int32) = 6)]
    rcases ltu_B x y with e | e <;> rw [e] <;> decide
theorem e_brX {T : St} {K : St → Prop} (hf : wF (T 0 44) = 2 ∨ wF (T 0 44) = 3) (h : wp_M_illegal T K) : wp_M_branch T K := by
  unfold wp_M_branch
  refine e_f T _ ?_
  refine e_regA T _ ?_
  refine e_regB T _ ?_
  have go : ∀ v : Int32, wp_M_branch_60 K T (wF (T 0 44)) v := by
    intro v
    unfold wp_M_branch_60 wp_M_branch_72
    rcases hf with e | e
    · rw [if_pos e]; exact h
    · rw [if_neg (by rw [e]; decide), if_pos e]; exact h
  have c1 : (2 : Int32) ≤ wF (T 0 44) := by rcases hf with e | e <;> rw [e] <;> decide
  have c2 : ¬ (6 : Int32) ≤ wF (T 0 44) := by rcases hf with e | e <;> rw [e] <;> decide
  rw [if_pos c1, if_neg c2]
  split
  · exact go 0
  · exact go 1
theorem x_99 {S T : St} {a b : Int32} (H : HX S T a b) (ho : S 15 3 = 99) : wp_Exe_perform S a b (fun S' => wp_M_decide T (fun T' => MX S S' T T')) := by
  obtain ⟨hw, hpc, ⟨d3, d4, d5, d6, d7, d8⟩, hal, hC, hRA, ⟨r2, r6, r8, r12, r13, r14, r15⟩, ⟨q45, q47, q48, q50, q51, q53, q54, q55⟩, hA, hB⟩ := id H
  have hop : wOp (T 0 44) = 99 := by rw [hw, ← d3, ho]
  unfold wp_Exe_perform wp_Exe_perform_293
  rw [ho, if_neg (by decide), if_neg (by decide), if_neg (by decide), if_neg (by decide), if_neg (by decide), if_neg (by decide), if_neg (by decide), if_pos rfl]
  have ha := hA (by rw [ho]; exact uA_of (by decide) (by decide) (by decide) (by decide) (by decide))
  have hb := hB (by rw [ho]; exact Or.inl rfl)
  have nm : ¬ mks (wOp (T 0 44)) := by rw [hop]; unfold mks; decide
  have dec : ∀ K, wp_M_branch (st T 0 48 0) K → wp_M_decide T K := by
    intro K k
    refine e_dec0 nm ?_
    unfold wp_M_decide_68
    intro S1 e1
    subst e1
    rw [hop, if_neg (by decide), if_neg (by decide), if_neg (by decide), if_neg (by decide)]
    unfold wp_M_decide_200 wp_M_decide_287
    rw [if_pos rfl]
    exact k
  unfold wp_Exe_branch wp_Exe_branch_16 wp_Exe_branch_49
  by_cases f2 : S 15 5 = 2
  · rw [if_pos f2]
    refine e_refuse S _ ?_
    refine dec _ (e_brX (Or.inl (show wF (T 0 44) = 2 by rw [hw, ← d5, f2])) ?_)
    refine e_illegal _ _ ?_
    exact mx_ill H (okS_rf S) (okT_0 (by decide) (okT_rf T)) hw rfl rfl
  rw [if_neg f2]
  by_cases f3 : S 15 5 = 3
  · rw [if_pos f3]
    refine e_refuse S _ ?_
    refine dec _ (e_brX (Or.inr (show wF (T 0 44) = 3 by rw [hw, ← d5, f3])) ?_)
    refine e_illegal _ _ ?_
    exact mx_ill H (okS_rf S) (okT_0 (by decide) (okT_rf T)) hw rfl rfl
  rw [if_neg f3]
  have hv : S 15 5 = 0 ∨ S 15 5 = 1 ∨ S 15 5 = 4 ∨ S 15 5 = 5 ∨ S 15 5 = 6 ∨ S 15 5 = 7 := by
    rw [d5] at f2 f3 ⊢
    rcases wF_cases (S 15 2) with e | e | e | e | e | e | e | e
    · exact Or.inl e
    · exact Or.inr (Or.inl e)
    · exact absurd e f2
    · exact absurd e f3
    · exact Or.inr (Or.inr (Or.inl e))
    · exact Or.inr (Or.inr (Or.inr (Or.inl e)))
    · exact Or.inr (Or.inr (Or.inr (Or.inr (Or.inl e))))
    · exact Or.inr (Or.inr (Or.inr (Or.inr (Or.inr e))))
  refine e_cond S _ a b f2 f3 _ ?_
  by_cases c : chF (S 15 5) a b = 0
  · refine it c ?_
    refine dec _ (e_br (S 15 5) a b (show wF (T 0 44) = _ by rw [hw, d5]) (show T 2 (wA (T 0 44)).toNatClampNeg = a by rw [hw]; exact ha.symm) (show T 2 (wB (T 0 44)).toNatClampNeg = b by rw [hw]; exact hb.symm) hv (fun _ => ?_) (fun h => absurd c h))
    exact mk_reg H (okS_rf S) (okT_0 (by decide) (okT_0 (by decide) (okT_rf T))) hC hRA rfl rfl r6.symm (by rw [r6]; exact vp_lit (by decide)) rfl rfl rfl rfl rfl rfl (show (1 : Int32) = _ by rw [ho]; decide) (by rw [r2, ho, eff_1 (by decide)]) rfl rfl rfl (fun h => absurd r6 h) (by rw [ho]; decide)
  · refine ie c ?_
    unfold wp_Ins_numberB
    obtain ⟨S', T', hs, ht, hm⟩ := mx_go (S1 := S) (T1 := st (st T 0 48 0) 0 53 1) (S 15 0 + nmB (S 15 2)) H (okS_rf S) (okT_0 (by decide) (okT_0 (by decide) (okT_rf T))) rfl rfl r6.symm (by rw [r6]; exact vp_lit (by decide)) rfl rfl rfl rfl (show (1 : Int32) = jmpr (S 15 3) by rw [ho]; decide) rfl (by rw [ho]; decide) rfl rfl rfl (fun h => absurd r6 h) (by rw [ho]; decide)
    refine hs _ ?_
    refine dec _ (e_br (S 15 5) a b (show wF (T 0 44) = _ by rw [hw, d5]) (show T 2 (wA (T 0 44)).toNatClampNeg = a by rw [hw]; exact ha.symm) (show T 2 (wB (T 0 44)).toNatClampNeg = b by rw [hw]; exact hb.symm) hv (fun h => absurd h c) (fun _ => ?_))
    show wp_M_go (st (st T 0 48 0) 0 53 1) (T 0 6 + nmB (T 0 44)) _
    rw [hw, hpc]
    exact ht _ hm
