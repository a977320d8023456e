/-! arithmetic -/
theorem low5 (w : Int32) : nmI w &&& 31 = wB w := by
  apply Int32.toBitVec_inj.mp
  show (nmI w).toBitVec &&& (31 : Int32).toBitVec = (jushr w 20).toBitVec &&& (31 : Int32).toBitVec
  have e1 : (nmI w).toBitVec = w.toBitVec.sshiftRight 20 := rfl
  have e2 : (jushr w 20).toBitVec = w.toBitVec >>> 20 := rfl
  rw [e1, e2]
  apply BitVec.eq_of_getLsbD_eq
  intro i hi
  rw [BitVec.getLsbD_and, BitVec.getLsbD_and]
  by_cases h5 : i < 5
  · rw [BitVec.getLsbD_sshiftRight, BitVec.getLsbD_ushiftRight]
    have h1 : 20 + i < 32 := by omega
    have h2 : ¬ 32 ≤ i := by omega
    simp [h1, h2]
  · have e31 : (31 : Int32).toBitVec.getLsbD i = false := by
      have : ∀ i : Nat, i < 32 → 5 ≤ i → (31 : Int32).toBitVec.getLsbD i = false := by decide
      exact this i hi (by omega)
    rw [e31, Bool.and_false, Bool.and_false]
theorem and31 (x : Int32) : (x &&& 31) &&& 31 = x &&& 31 := by
  rw [Int32.and_assoc]
  have : (31 : Int32) &&& 31 = 31 := by decide
  rw [this]
theorem wB31 (w : Int32) : wB w &&& 31 = wB w := and31 _
theorem plF_sh {f : Int32} (hf : f = 1 ∨ f = 5) (x w : Int32) : plF f x (nmI w) = plF f x (wB w) := by
  have e : nmI w &&& 31 = wB w &&& 31 := by rw [low5, wB31]
  rcases hf with rfl | rfl
  · have h : ∀ y, plF 1 x y = x <<< ((y &&& 31) &&& 31) := fun y => by unfold plF; rw [if_neg (by decide), if_pos rfl]
    rw [h, h, e]
  · have h : ∀ y, plF 5 x y = jushr x (y &&& 31) := fun y => by unfold plF; rw [if_neg (by decide), if_neg (by decide), if_neg (by decide), if_neg (by decide), if_neg (by decide), if_pos rfl]
    rw [h, h, e]
theorem x_19 {S T : St} {a b : Int32} (H : HX S T a b) (ho : S 15 3 = 19) : wp_Exe_perform S a b (fun S' => wp_M_decide T (fun T' => MX S S' T T')) := by
  obtain ⟨hw, hpc, ⟨d3, d4, d5, d6, d7, d8⟩, hal, hC, hRA, ⟨r2, r6, r8, r12, r13, r14, r15⟩, ⟨q45, q47, q48, q50, q51, q53, q54, q55⟩, hA, hB⟩ := id H
  have hop : wOp (T 0 44) = 19 := by rw [hw, ← d3, ho]
  unfold wp_Exe_perform wp_Exe_perform_293
  rw [ho, if_neg (by decide), if_neg (by decide), if_pos rfl]
  have ha := hA (by rw [ho]; exact uA_of (by decide) (by decide) (by decide) (by decide) (by decide))
  have hfw : wF (T 0 44) = S 15 5 := by rw [hw, d5]
  have hgw : wG (T 0 44) = S 15 8 := by rw [hw, d8]
  have dec : ∀ K, wp_M_immediate (st T 0 48 (wRd (T 0 44))) K → wp_M_decide T K := by
    intro K k
    refine e_dec1 (Or.inr (Or.inr (Or.inr (Or.inr (Or.inr (Or.inl hop)))))) ?_
    unfold wp_M_decide_68
    intro S1 e1
    subst e1
    rw [hop, if_neg (by decide), if_neg (by decide), if_neg (by decide), if_neg (by decide)]
    unfold wp_M_decide_200 wp_M_decide_287
    rw [if_neg (by decide), if_neg (by decide), if_neg (by decide), if_pos rfl]
    exact k
  have fin : ∀ u v : Int32, u = v → MX S (st (st S 16 6 (S 15 4)) 16 7 v) T (st (st T 0 48 (wRd (T 0 44))) 0 49 u) := by
    intro u v huv
    refine mk_reg H (okS_16 (by decide) (okS_16 (by decide) (okS_rf S))) (okT_0 (by decide) (okT_0 (by decide) (okT_rf T))) hC hRA rfl rfl ?_ ?_ rfl rfl rfl rfl rfl rfl ?_ ?_ rfl rfl rfl ?_ ?_
    · show wRd (T 0 44) = S 15 4
      rw [hw, d4]
    · show vp_in (S 15 4) 32
      rw [d4]; exact wRd_in _
    · show T 0 53 = _
      rw [q53, ho]; decide
    · show S 16 2 = _
      rw [r2, ho, eff_1 (by decide)]
    · exact fun _ => huv
    · rw [ho]; decide
  have ill : wp_M_immediate_52 (fun T' => MX S (st (st (st S 16 15 1) 16 16 2) 16 17 (S 15 2)) T T') (st T 0 48 (wRd (T 0 44))) := by
    unfold wp_M_immediate_52
    refine e_illegal _ _ ?_
    exact mx_ill H (okS_rf S) (okT_0 (by decide) (okT_rf T)) hw rfl rfl
  have regA' : ∀ K : Int32 → St → Prop, K a (st T 0 48 (wRd (T 0 44))) → wp_M_regA (st T 0 48 (wRd (T 0 44))) K := by
    intro K k
    refine e_regA _ _ ?_
    show K (T 2 (wA (T 0 44)).toNatClampNeg) _
    rw [hw, ← ha]
    rw [hw] at k
    exact k
  have imm : ∀ K, (∀ f g, f = S 15 5 → g = S 15 8 → (if f = 1 then wp_M_immediate_27 K (st T 0 48 (wRd (T 0 44))) f g else if f = 5 then wp_M_immediate_27 K (st T 0 48 (wRd (T 0 44))) f g else wp_M_immediate_32 K (st T 0 48 (wRd (T 0 44))) f g 0)) → wp_M_immediate (st T 0 48 (wRd (T 0 44))) K := by
    intro K k
    unfold wp_M_immediate
    refine e_f _ _ ?_
    refine e_g _ _ ?_
    exact k _ _ hfw hgw
  unfold wp_Exe_computeWithNumber wp_Exe_computeWithNumber_16 wp_Exe_computeWithNumber_21 wp_Exe_computeWithNumber_33 wp_Exe_computeWithNumber_90 wp_Exe_computeWithNumber_95
  by_cases hsh : S 15 5 = 1 ∨ S 15 5 = 5
  · -- a shift
    have up : ∀ A B : Prop, A → (if S 15 5 = 1 then A else if S 15 5 = 5 then A else B) := by
      intro A B x
      rcases hsh with e | e
      · exact it e x
      · exact ie (by rw [e]; decide) (it e x)
    refine up _ _ ?_
    rw [if_neg (by decide)]
    by_cases hg : S 15 8 = 0
    · rw [if_pos hg]
      unfold wp_Ins_numberI
      refine e_plain S _ _ _ _ ?_
      refine e_setR S _ _ _ ?_
      refine dec _ (imm _ (fun f g ef eg => ?_))
      subst ef eg
      refine up _ _ ?_
      unfold wp_M_immediate_27 wp_M_immediate_32
      rw [if_neg (by decide), if_pos hg]
      unfold wp_M_immediate_57
      refine regA' _ ?_
      rw [if_neg (by decide)]
      refine e_b _ _ ?_
      unfold wp_M_immediate_81 wp_M_immediate_95 wp_M_immediate_96
      rw [if_neg (by decide), if_neg (by rw [hg]; decide)]
      refine e_Mplain _ _ _ _ _ ?_
      intro S1 e1
      subst e1
      refine fin _ _ ?_
      show plF (S 15 5) a (wB (T 0 44)) = plF (S 15 5) a (nmI (S 15 2))
      rw [hw, plF_sh hsh]
    · rw [if_neg hg]
      by_cases h5 : S 15 5 = 5
      · rw [if_pos h5]
        by_cases h32 : S 15 8 = 32
        · rw [if_pos h32]
          refine e_setR S _ _ _ ?_
          refine dec _ (imm _ (fun f g ef eg => ?_))
          subst ef eg
          refine up _ _ ?_
          unfold wp_M_immediate_27 wp_M_immediate_32
          rw [if_neg (by decide), if_neg hg, if_pos h5, if_pos h32]
          unfold wp_M_immediate_57
          refine regA' _ ?_
          rw [if_neg (by decide)]
          refine e_b _ _ ?_
          unfold wp_M_immediate_81 wp_M_immediate_95 wp_M_immediate_96
          rw [if_neg (by decide), if_pos h32, h5]
          refine e_Mplain_5 _ _ _ _ ?_
          intro S1 e1
          subst e1
          refine fin _ _ ?_
          show a >>> ((wB (T 0 44) &&& 31) &&& 31) = a >>> (S 15 7 &&& 31)
          rw [hw, d7, and31]
        · rw [if_neg h32]
          refine e_refuse S _ ?_
          refine dec _ (imm _ (fun f g ef eg => ?_))
          subst ef eg
          refine up _ _ ?_
          unfold wp_M_immediate_27 wp_M_immediate_32
          rw [if_neg (by decide), if_neg hg, if_pos h5, if_neg h32]
          exact ill
      · rw [if_neg h5]
        refine e_refuse S _ ?_
        refine dec _ (imm _ (fun f g ef eg => ?_))
        subst ef eg
        refine up _ _ ?_
        unfold wp_M_immediate_27 wp_M_immediate_32
        rw [if_neg (by decide), if_neg hg, if_neg h5]
        exact ill
  · have n1 : ¬ S 15 5 = 1 := fun q => hsh (Or.inl q)
    have n5 : ¬ S 15 5 = 5 := fun q => hsh (Or.inr q)
    rw [if_neg n1, if_neg n5, if_pos rfl]
    unfold wp_Ins_numberI
    refine e_plain S _ _ _ _ ?_
    refine e_setR S _ _ _ ?_
    refine dec _ (imm _ (fun f g ef eg => ?_))
    subst ef eg
    rw [if_neg n1, if_neg n5]
    unfold wp_M_immediate_32
    rw [if_pos rfl]
    unfold wp_M_immediate_57
    refine regA' _ ?_
    rw [if_pos rfl]
    refine e_nmI _ _ ?_
    unfold wp_M_immediate_81 wp_M_immediate_95 wp_M_immediate_96
    rw [if_pos rfl]
    refine e_Mplain _ _ _ _ _ ?_
    intro S1 e1
    subst e1
    refine fin _ _ ?_
    show plF (S 15 5) a (nmI (T 0 44)) = plF (S 15 5) a (nmI (S 15 2))
    rw [hw]
theorem x_51 {S T : St} {a b : Int32} (H : HX S T a b) (ho : S 15 3 = 51) : wp_Exe_perform S a b (fun S' => wp_M_decide T (fun T' => MX S S' T T')) := by
  obtain ⟨hw, hpc, ⟨d3, d4, d5, d6, d7, d8⟩, hal, hC, hRA, ⟨r2, r6, r8, r12, r13, r14, r15⟩, ⟨q45, q47, q48, q50, q51, q53, q54, q55⟩, hA, hB⟩ := id H
  have hop : wOp (T 0 44) = 51 := by rw [hw, ← d3, ho]
  unfold wp_Exe_perform wp_Exe_perform_293
  rw [ho, if_neg (by decide), if_neg (by decide), if_neg (by decide), if_neg (by decide), if_neg (by decide), if_pos rfl]
  have ha := hA (by rw [ho]; exact uA_of (by decide) (by decide) (by decide) (by decide) (by decide))
  have hb := hB (by rw [ho]; exact Or.inr (Or.inr rfl))
  have hfw : wF (T 0 44) = S 15 5 := by rw [hw, d5]
  have hgw : wG (T 0 44) = S 15 8 := by rw [hw, d8]
  have dec : ∀ K, wp_M_operation (st T 0 48 (wRd (T 0 44))) K → wp_M_decide T K := by
    intro K k
    refine e_dec1 (Or.inr (Or.inr (Or.inr (Or.inr (Or.inr (Or.inr hop)))))) ?_
    unfold wp_M_decide_68
    intro S1 e1
    subst e1
    rw [hop, if_neg (by decide), if_neg (by decide), if_neg (by decide), if_neg (by decide)]
    unfold wp_M_decide_200 wp_M_decide_287
    rw [if_neg (by decide), if_neg (by decide), if_neg (by decide), if_neg (by decide), if_pos rfl]
    exact k
  have fin : ∀ (S1 : St) (u v : Int32), u = v → okS S S1 → S1 3 = S 3 → S1 16 15 = S 16 15 → S1 16 13 = S 16 13 → S1 16 14 = S 16 14 → S1 16 12 = S 16 12 → S1 16 8 = S 16 8 → S1 16 2 = effF (S 15 3) (S 15 8) (S 15 5) → MX S (st (st S1 16 6 (S 15 4)) 16 7 v) T (st (st T 0 48 (wRd (T 0 44))) 0 49 u) := by
    intro S1 u v huv o1 c3 c15 c13 c14 c12 c8 c2
    refine mk_reg H (okS_16 (by decide) (okS_16 (by decide) o1)) (okT_0 (by decide) (okT_0 (by decide) (okT_rf T))) (c3.trans hC) hRA c15 rfl ?_ ?_ c13 rfl c14 rfl c12 rfl ?_ c2 c8 rfl rfl ?_ ?_
    · show wRd (T 0 44) = S 15 4
      rw [hw, d4]
    · show vp_in (S 15 4) 32
      rw [d4]; exact wRd_in _
    · show T 0 53 = _
      rw [q53, ho]; decide
    · exact fun _ => huv
    · rw [ho]; decide
  have e1g : ∀ g f, ¬ g = 1 → effF (S 15 3) g f = 1 := by
    intro g f hg
    unfold effF
    rw [if_neg (fun q => hg q.2)]
  have ill : wp_M_operation_45 (fun T' => MX S (st (st (st S 16 15 1) 16 16 2) 16 17 (S 15 2)) T T') (st T 0 48 (wRd (T 0 44))) (S 15 5) (S 15 8) := by
    unfold wp_M_operation_45 wp_M_operation_46 wp_M_operation_129
    rw [if_pos rfl]
    refine e_illegal _ _ ?_
    exact mx_ill H (okS_rf S) (okT_0 (by decide) (okT_rf T)) hw rfl rfl
  have regAB : ∀ K : Int32 → Int32 → St → Prop, K a b (st T 0 48 (wRd (T 0 44))) → wp_M_regA (st T 0 48 (wRd (T 0 44))) (fun x S1 => wp_M_regB S1 (fun y S2 => K x y S2)) := by
    intro K k
    refine e_regA _ _ ?_
    refine e_regB _ _ ?_
    show K (T 2 (wA (T 0 44)).toNatClampNeg) (T 2 (wB (T 0 44)).toNatClampNeg) _
    rw [hw, ← ha, ← hb]
    rw [hw] at k
    exact k
  have oper : ∀ K, (∀ f g, f = S 15 5 → g = S 15 8 → (if g = 0 then wp_M_operation_41 K (st T 0 48 (wRd (T 0 44))) f g else if g = 1 then wp_M_operation_41 K (st T 0 48 (wRd (T 0 44))) f g else if g = 32 then (if f = 0 then wp_M_operation_41 K (st T 0 48 (wRd (T 0 44))) f g else if f = 5 then wp_M_operation_41 K (st T 0 48 (wRd (T 0 44))) f g else wp_M_operation_45 K (st T 0 48 (wRd (T 0 44))) f g) else wp_M_operation_45 K (st T 0 48 (wRd (T 0 44))) f g)) → wp_M_operation (st T 0 48 (wRd (T 0 44))) K := by
    intro K k
    unfold wp_M_operation
    refine e_f _ _ ?_
    refine e_g _ _ ?_
    exact k _ _ hfw hgw
  unfold wp_Exe_computeWithRegister wp_Exe_computeWithRegister_57 wp_Exe_computeWithRegister_91 wp_Exe_computeWithRegister_132 wp_Exe_computeWithRegister_171
  by_cases g0 : S 15 8 = 0
  · rw [if_pos g0]
    refine e_plain S _ _ _ _ ?_
    refine e_setR S _ _ _ ?_
    refine dec _ (oper _ (fun f g ef eg => ?_))
    subst ef eg
    rw [if_pos g0]
    unfold wp_M_operation_41 wp_M_operation_46
    rw [if_neg (by decide), if_neg (by rw [g0]; decide)]
    refine regAB _ ?_
    rw [if_neg (by rw [g0]; decide)]
    unfold wp_M_operation_123 wp_M_operation_129
    refine e_Mplain _ _ _ _ _ ?_
    intro S1 e1
    subst e1
    exact fin S _ _ rfl (okS_rf S) rfl rfl rfl rfl rfl rfl (by rw [r2, e1g _ _ (by rw [g0]; decide)])
  rw [if_neg g0]
  have rest : ¬ (S 15 8 = 32 ∧ (S 15 5 = 0 ∨ S 15 5 = 5)) → (if S 15 8 = 1 then (if (4 : Int32) ≤ S 15 5 then (if S 15 8 = 1 then (∀ S24 : St, S24 = st S 16 2 33 → wp_Ari_quotient S24 (S24 15 5) a b (fun r26 S25 => wp_Eff_setRegister S25 (S24 15 4) r26 (fun S27 => wp_M_decide T (fun T' => MX S S27 T T')))) else wp_Exe_refuse S (fun S22 => wp_M_decide T (fun T' => MX S S22 T T'))) else (∀ S16 : St, S16 = st S 16 2 4 → wp_Ari_product S16 (S16 15 5) a b (fun r18 S17 => wp_Eff_setRegister S17 (S16 15 4) r18 (fun S19 => wp_M_decide T (fun T' => MX S S19 T T'))))) else (if S 15 8 = 1 then (∀ S24 : St, S24 = st S 16 2 33 → wp_Ari_quotient S24 (S24 15 5) a b (fun r26 S25 => wp_Eff_setRegister S25 (S24 15 4) r26 (fun S27 => wp_M_decide T (fun T' => MX S S27 T T')))) else wp_Exe_refuse S (fun S22 => wp_M_decide T (fun T' => MX S S22 T T')))) := by
    intro hno
    by_cases g1 : S 15 8 = 1
    · rw [if_pos g1]
      by_cases f4 : (4 : Int32) ≤ S 15 5
      · rw [if_pos f4, if_pos g1]
        intro S24 e24
        subst e24
        refine e_quot _ _ _ _ _ ?_
        refine e_setR _ _ _ _ ?_
        refine dec _ (oper _ (fun f g ef eg => ?_))
        subst ef eg
        rw [if_neg g0, if_pos g1]
        unfold wp_M_operation_41 wp_M_operation_46
        rw [if_neg (by decide), if_pos g1, if_pos f4]
        refine regAB _ ?_
        have hv : S 15 5 = 4 ∨ S 15 5 = 5 ∨ S 15 5 = 6 ∨ S 15 5 = 7 := by
          rw [d5] at f4 ⊢
          rcases wF_cases (S 15 2) with e | e | e | e | e | e | e | e
          · exact absurd f4 (by rw [e]; decide)
          · exact absurd f4 (by rw [e]; decide)
          · exact absurd f4 (by rw [e]; decide)
          · exact absurd f4 (by rw [e]; decide)
          · exact Or.inl e
          · exact Or.inr (Or.inl e)
          · exact Or.inr (Or.inr (Or.inl e))
          · exact Or.inr (Or.inr (Or.inr e))
        refine e_Mquot _ _ _ _ hv _ ?_
        unfold wp_M_operation_96 wp_M_operation_129
        intro S1 e1
        subst e1
        refine fin (st S 16 2 33) _ _ rfl (okS_16 (by decide) (okS_rf S)) rfl rfl rfl rfl rfl rfl ?_
        show (33 : Int32) = _
        unfold effF
        rw [if_pos ⟨ho, g1⟩, if_pos f4]
      · rw [if_neg f4]
        intro S24 e24
        subst e24
        refine e_prod _ _ _ _ _ ?_
        refine e_setR _ _ _ _ ?_
        refine dec _ (oper _ (fun f g ef eg => ?_))
        subst ef eg
        rw [if_neg g0, if_pos g1]
        unfold wp_M_operation_41 wp_M_operation_46
        rw [if_neg (by decide), if_pos g1, if_neg f4]
        refine regAB _ ?_
        have hv : S 15 5 = 0 ∨ S 15 5 = 1 ∨ S 15 5 = 2 ∨ S 15 5 = 3 := by
          rw [d5] at f4 ⊢
          rcases wF_cases (S 15 2) with e | e | e | e | e | e | e | e
          · exact Or.inl e
          · exact Or.inr (Or.inl e)
          · exact Or.inr (Or.inr (Or.inl e))
          · exact Or.inr (Or.inr (Or.inr e))
          · exact absurd (by rw [e]; decide) f4
          · exact absurd (by rw [e]; decide) f4
          · exact absurd (by rw [e]; decide) f4
          · exact absurd (by rw [e]; decide) f4
        refine e_Mprod _ _ _ _ hv _ ?_
        unfold wp_M_operation_96 wp_M_operation_129
        intro S1 e1
        subst e1
        refine fin (st S 16 2 4) _ _ rfl (okS_16 (by decide) (okS_rf S)) rfl rfl rfl rfl rfl rfl ?_
        show (4 : Int32) = _
        unfold effF
        rw [if_pos ⟨ho, g1⟩, if_neg f4]
    · rw [if_neg g1, if_neg g1]
      refine e_refuse S _ ?_
      refine dec _ (oper _ (fun f g ef eg => ?_))
      subst ef eg
      rw [if_neg g0, if_neg g1]
      by_cases g32 : S 15 8 = 32
      · rw [if_pos g32, if_neg (fun q => hno ⟨g32, Or.inl q⟩), if_neg (fun q => hno ⟨g32, Or.inr q⟩)]
        exact ill
      · rw [if_neg g32]
        exact ill
  by_cases g32 : S 15 8 = 32
  · rw [if_pos g32]
    by_cases f0 : S 15 5 = 0
    · rw [if_pos f0]
      refine e_setR S _ _ _ ?_
      refine dec _ (oper _ (fun f g ef eg => ?_))
      subst ef eg
      rw [if_neg g0, if_neg (by rw [g32]; decide), if_pos g32, if_pos f0]
      unfold wp_M_operation_41 wp_M_operation_46
      rw [if_neg (by decide), if_neg (by rw [g32]; decide)]
      refine regAB _ ?_
      rw [if_pos g32]
      unfold wp_M_operation_123 wp_M_operation_129
      rw [f0]
      refine e_Mplain_0 _ _ _ _ ?_
      intro S1 e1
      subst e1
      exact fin S _ _ rfl (okS_rf S) rfl rfl rfl rfl rfl rfl (by rw [r2, e1g _ _ (by rw [g32]; decide)])
    · rw [if_neg f0, if_pos g32]
      by_cases f5 : S 15 5 = 5
      · rw [if_pos f5]
        refine e_setR S _ _ _ ?_
        refine dec _ (oper _ (fun f g ef eg => ?_))
        subst ef eg
        rw [if_neg g0, if_neg (by rw [g32]; decide), if_pos g32, if_neg f0, if_pos f5]
        unfold wp_M_operation_41 wp_M_operation_46
        rw [if_neg (by decide), if_neg (by rw [g32]; decide)]
        refine regAB _ ?_
        rw [if_pos g32]
        unfold wp_M_operation_123 wp_M_operation_129
        rw [f5]
        refine e_Mplain_5 _ _ _ _ ?_
        intro S1 e1
        subst e1
        exact fin S _ _ rfl (okS_rf S) rfl rfl rfl rfl rfl rfl (by rw [r2, e1g _ _ (by rw [g32]; decide)])
      · rw [if_neg f5]
        exact rest (by rintro ⟨_, q | q⟩; exact f0 q; exact f5 q)
  · rw [if_neg g32, if_neg g32]
    exact rest (fun q => g32 q.1)
