/-! a whole cycle -/
theorem SAM_44 (n : Nat) (T : St) (v : Int32) : SAM n T (st T 0 44 v) := ⟨fun r r1 r2 i hi => by rw [st_ne (by omega)], rfl, rfl, rfl, rfl, rfl, rfl⟩
theorem COM_44 {N : Nat × Nat} {c j n nl : Nat} {S T : St} (v : Int32) (hj : j ≤ n) (h : COM N c j n nl S T) : COM N c j n nl S (st T 0 44 v) := by
  obtain ⟨a10, ac, aE, aF, aV, aL, aX, a37, a37b⟩ := h
  refine ⟨a10, ac, aE, ?_, ?_, ?_, aX, a37, a37b⟩
  · exact FO_same aF rfl rfl rfl rfl (fun r r1 r2 => st_ne (by omega)) rfl rfl rfl
  · exact VIS_same aV hj (SAM_44 n T v) rfl rfl rfl rfl rfl rfl
  · have f := SAM_f (SAM_44 n T v) n (Nat.le_refl _)
    refine ⟨aL.1, aL.2.1, ?_, ?_, aL.2.2.2.2⟩
    · rw [f.1]; exact aL.2.2.1
    · rw [f.2.1]; exact aL.2.2.2.1
theorem cycle_ev {N : Nat × Nat} {c j n nl : Nat} {S T : St} (h : RR N c j n nl S T) (hc : c + 1 ≤ 51300) (hj : j ≤ 138) : ∃ S' j', (j' = j ∨ j' = j + 1) ∧ evV (wp_K_makeCycle S) S' ∧ (((c : Int) + 1 < (S 15 11).toInt ∧ S' 15 = S 15 ∧ RR N (c + 1) j' n nl S' T) ∨ (S 15 11 = nI (c + 1) ∧ ∃ T' n' nl', evV (wp_M_perform (st T 0 44 (wd T)) (nI (c + 1))) T' ∧ RR N (c + 1) j' n' nl' S' T')) := by
  obtain ⟨S1, j', hj', hK, hC, hP, h15⟩ := phase1 h hc (by omega)
  obtain ⟨_, _, ⟨t1, t2, t3, t4, t5, t6, t7, t8⟩, hb, hB⟩ := h
  by_cases d : S 15 11 = nI (c + 1)
  · have d' := c_eq hc d
    have d1 : S1 15 11 = nI (c + 1) := by rw [h15]; exact d
    have hM : S1 16 0 = 0 ∧ MEM (c + 1) j' n S1 T := by
      rcases hP with q | ⟨_, _, _, q1, q2, _⟩ | ⟨_, _, _, _, _, _, q1, q2, _⟩
      · exact q
      · rw [h15] at q2; omega
      · rw [h15] at q2; omega
    have hPRE : PRE N (c + 1) j' n nl S1 (st T 0 44 (wd T)) := by
      refine ⟨COM_44 _ (MEM_j hM.2).1 hC, hM.1, MEM_same hM.2 rfl rfl rfl (SAM_44 n T _), ⟨t1, ?_, t3, ?_, ?_, t6, ?_, ?_⟩, by omega, d1⟩
      · show (T 0 11).toInt ≤ _
        omega
      · show (T 0 16).toInt ≤ _
        omega
      · omega
      · show (T 0 14).toInt ≤ _
        omega
      · intro q1 q2
        have := t8 q1 q2
        show (T 0 14).toInt ≤ _
        omega
    obtain ⟨S', T', n', nl', g1, g2, g3⟩ := begin_all hPRE (by omega) rfl
    refine ⟨S', j', hj', fun K k => hK K ?_, Or.inr ⟨d, T', n', nl', g2, g3⟩⟩
    unfold wp_K_makeCycle_70 wp_K_makeCycle_92
    refine it (by rw [d1, hC.1]) ?_
    exact g1 _ k
  · have d' := c_ne (x := S 15 11) hc d (by omega)
    refine ⟨S1, j', hj', fun K k => hK K ?_, Or.inl ⟨by omega, h15, hC, hP, ?_, ?_, ?_⟩⟩
    · unfold wp_K_makeCycle_70 wp_K_makeCycle_92
      refine ie ?_ k
      rw [h15, hC.1]; exact d
    · rw [h15]
      refine ⟨t1, ?_, t3, ?_, ?_, t6, t7, t8⟩ <;> omega
    · rw [h15]; exact d'
    · rw [h15]; exact hB
