/-! control registers -/
def isC (n : Int32) : Prop := n = 768 ∨ n = 772 ∨ n = 773 ∨ n = 832 ∨ n = 833 ∨ n = 834 ∨ n = 835 ∨ n = 836
theorem upd_self (g : Nat → Int32) (k : Nat) : upd g k (g k) = g := by
  funext j
  unfold upd
  by_cases h : j = k
  · rw [if_pos h, h]
  · rw [if_neg h]
theorem e_place (T : St) (n p : Int32) (h : (n = 768 ∧ p = 0) ∨ (n = 772 ∧ p = 1) ∨ (n = 773 ∧ p = 2) ∨ (n = 832 ∧ p = 3) ∨ (n = 833 ∧ p = 4) ∨ (n = 834 ∧ p = 5) ∨ (n = 835 ∧ p = 6) ∨ (n = 836 ∧ p = 7)) : evI (wp_M_placeOf T n) p T := fun K k => by
  unfold wp_M_placeOf wp_M_placeOf_56
  rcases h with ⟨rfl, rfl⟩ | ⟨rfl, rfl⟩ | ⟨rfl, rfl⟩ | ⟨rfl, rfl⟩ | ⟨rfl, rfl⟩ | ⟨rfl, rfl⟩ | ⟨rfl, rfl⟩ | ⟨rfl, rfl⟩
  · rw [if_pos rfl]; exact k
  · rw [if_neg (by decide), if_pos rfl]; exact k
  · rw [if_neg (by decide), if_neg (by decide), if_pos rfl]; exact k
  all_goals (rw [if_neg (by decide), if_neg (by decide), if_neg (by decide), if_neg (by decide), if_neg (by decide)]; exact k)
theorem isC_mid {n : Int32} (h1 : ¬ n < 832) (h2 : ¬ (836 : Int32) < n) : n = 832 ∨ n = 833 ∨ n = 834 ∨ n = 835 ∨ n = 836 := by
  rw [Int32.lt_iff_toInt_lt] at h1 h2
  have e1 : (832 : Int32).toInt = 832 := by decide
  have e2 : (836 : Int32).toInt = 836 := by decide
  have e3 : (833 : Int32).toInt = 833 := by decide
  have e4 : (834 : Int32).toInt = 834 := by decide
  have e5 : (835 : Int32).toInt = 835 := by decide
  rw [e1] at h1
  rw [e2] at h2
  rw [← Int32.toInt_inj, ← Int32.toInt_inj, ← Int32.toInt_inj, ← Int32.toInt_inj, ← Int32.toInt_inj, e1, e2, e3, e4, e5]
  omega
theorem e_placeN (T : St) {n : Int32} (h : ¬ isC n) : evI (wp_M_placeOf T n) (-1) T := fun K k => by
  unfold wp_M_placeOf wp_M_placeOf_55 wp_M_placeOf_56
  unfold isC at h
  simp only [not_or] at h
  obtain ⟨n1, n2, n3, n4, n5, n6, n7, n8⟩ := h
  rw [if_neg n1, if_neg n2, if_neg n3]
  by_cases h1 : n < 832
  · rw [if_pos h1]; exact k
  · rw [if_neg h1]
    by_cases h2 : (836 : Int32) < n
    · rw [if_pos h2]; exact k
    · rcases isC_mid h1 h2 with e | e | e | e | e <;> contradiction
theorem e_hasC (S : St) {n : Int32} (h : isC n) : evI (wp_Con_has S n) 1 S := fun K k => by
  unfold wp_Con_has
  rcases h with rfl | rfl | rfl | rfl | rfl | rfl | rfl | rfl
  · rw [if_pos rfl]; exact k
  · rw [if_neg (by decide), if_pos rfl]; exact k
  · rw [if_neg (by decide), if_neg (by decide), if_pos rfl]; exact k
  · rw [if_neg (by decide), if_neg (by decide), if_neg (by decide), if_pos rfl]; exact k
  · rw [if_neg (by decide), if_neg (by decide), if_neg (by decide), if_neg (by decide), if_pos rfl]; exact k
  · rw [if_neg (by decide), if_neg (by decide), if_neg (by decide), if_neg (by decide), if_neg (by decide), if_pos rfl]; exact k
  · rw [if_neg (by decide), if_neg (by decide), if_neg (by decide), if_neg (by decide), if_neg (by decide), if_neg (by decide), if_pos rfl]; exact k
  · rw [if_neg (by decide), if_neg (by decide), if_neg (by decide), if_neg (by decide), if_neg (by decide), if_neg (by decide), if_neg (by decide), if_pos rfl]; exact k
theorem e_hasN (S : St) {n : Int32} (h : ¬ isC n) : evI (wp_Con_has S n) 0 S := fun K k => by
  unfold wp_Con_has
  unfold isC at h
  simp only [not_or] at h
  obtain ⟨n1, n2, n3, n4, n5, n6, n7, n8⟩ := h
  rw [if_neg n1, if_neg n2, if_neg n3, if_neg n4, if_neg n5, if_neg n6, if_neg n7, if_neg n8]
  exact k
/-- a control register: its place p, what a write makes of the row -/
def CSR (n p : Int32) (Wr : Int32 → (Nat → Int32) → (Nat → Int32)) : Prop :=
  ((n = 768 ∧ p = 0) ∨ (n = 772 ∧ p = 1) ∨ (n = 773 ∧ p = 2) ∨ (n = 832 ∧ p = 3) ∨ (n = 833 ∧ p = 4) ∨ (n = 834 ∧ p = 5) ∨ (n = 835 ∧ p = 6) ∨ (n = 836 ∧ p = 7)) ∧ vp_in p 8 ∧ 0 ≤ p ∧
  (∀ S : St, evI (wp_Con_read S n) (S 3 p.toNatClampNeg) S) ∧
  (∀ (S : St) (v : Int32), ∃ S2, evV (wp_Con_write S n v) S2 ∧ (∀ i, i ≠ 3 → S2 i = S i) ∧ S2 3 = Wr v (S 3)) ∧
  (∀ (T : St) (v : Int32), ∃ T2, evV (wp_M_change T p v) T2 ∧ (∀ i, i ≠ 4 → T2 i = T i) ∧ T2 4 = Wr v (T 4)) ∧
  (∀ (v : Int32) (g : Nat → Int32), okC g → okC (Wr v g))
theorem csr_768 : CSR 768 0 (fun v g => upd g 0 (v &&& 136)) := by
  refine ⟨Or.inl ⟨rfl, rfl⟩, vp_lit (by decide), by decide, fun S K k => ?_, fun S v => ?_, fun T v => ?_, fun v g h => ?_⟩
  · unfold wp_Con_read; rw [if_pos rfl]; exact k
  · refine ⟨st S 3 0 (v &&& 136), fun K q => ?_, fun i hi => st_ne hi, st_eq⟩
    unfold wp_Con_write wp_Con_write_135
    rw [if_pos rfl]
    intro S1 e1
    subst e1
    exact q
  · refine ⟨st T 4 0 (v &&& 136), fun K q => ?_, fun i hi => st_ne hi, st_eq⟩
    unfold wp_M_change wp_M_change_38 wp_M_change_61
    rw [if_pos rfl, if_neg (by decide)]
    refine ⟨vp_lit (by decide), fun S5 e5 => ?_⟩
    subst e5
    exact q
  · show okC (upd g 0 (v &&& 136))
    exact ⟨by rw [upd_n (by decide)]; exact h.1, by rw [upd_n (by decide)]; exact h.2⟩
theorem csr_772 : CSR 772 1 (fun v g => upd g 1 (v &&& 2184)) := by
  refine ⟨Or.inr (Or.inl ⟨rfl, rfl⟩), vp_lit (by decide), by decide, fun S K k => ?_, fun S v => ?_, fun T v => ?_, fun v g h => ?_⟩
  · unfold wp_Con_read; rw [if_neg (by decide), if_pos rfl]; exact k
  · refine ⟨st S 3 1 (v &&& 2184), fun K q => ?_, fun i hi => st_ne hi, st_eq⟩
    unfold wp_Con_write wp_Con_write_135
    rw [if_neg (by decide), if_pos rfl]
    intro S1 e1
    subst e1
    exact q
  · refine ⟨st T 4 1 (v &&& 2184), fun K q => ?_, fun i hi => st_ne hi, st_eq⟩
    unfold wp_M_change wp_M_change_38 wp_M_change_61
    rw [if_neg (by decide), if_pos rfl, if_neg (by decide)]
    refine ⟨vp_lit (by decide), fun S5 e5 => ?_⟩
    subst e5
    exact q
  · show okC (upd g 1 (v &&& 2184))
    exact ⟨by rw [upd_n (by decide)]; exact h.1, by rw [upd_n (by decide)]; exact h.2⟩
theorem csr_773 : CSR 773 2 (fun v g => upd g 2 (v)) := by
  refine ⟨Or.inr (Or.inr (Or.inl ⟨rfl, rfl⟩)), vp_lit (by decide), by decide, fun S K k => ?_, fun S v => ?_, fun T v => ?_, fun v g h => ?_⟩
  · unfold wp_Con_read; rw [if_neg (by decide), if_neg (by decide), if_pos rfl]; exact k
  · refine ⟨st S 3 2 (v), fun K q => ?_, fun i hi => st_ne hi, st_eq⟩
    unfold wp_Con_write wp_Con_write_135
    rw [if_neg (by decide), if_neg (by decide), if_pos rfl]
    intro S1 e1
    subst e1
    exact q
  · refine ⟨st T 4 2 (v), fun K q => ?_, fun i hi => st_ne hi, st_eq⟩
    unfold wp_M_change wp_M_change_38 wp_M_change_61
    rw [if_neg (by decide), if_neg (by decide), if_neg (by decide), if_neg (by decide)]
    refine ⟨vp_lit (by decide), fun S5 e5 => ?_⟩
    subst e5
    exact q
  · show okC (upd g 2 (v))
    exact ⟨by rw [upd_n (by decide)]; exact h.1, by rw [upd_n (by decide)]; exact h.2⟩
theorem csr_832 : CSR 832 3 (fun v g => upd g 3 (v)) := by
  refine ⟨Or.inr (Or.inr (Or.inr (Or.inl ⟨rfl, rfl⟩))), vp_lit (by decide), by decide, fun S K k => ?_, fun S v => ?_, fun T v => ?_, fun v g h => ?_⟩
  · unfold wp_Con_read; rw [if_neg (by decide), if_neg (by decide), if_neg (by decide), if_pos rfl]; exact k
  · refine ⟨st S 3 3 (v), fun K q => ?_, fun i hi => st_ne hi, st_eq⟩
    unfold wp_Con_write wp_Con_write_135
    rw [if_neg (by decide), if_neg (by decide), if_neg (by decide), if_pos rfl]
    intro S1 e1
    subst e1
    exact q
  · refine ⟨st T 4 3 (v), fun K q => ?_, fun i hi => st_ne hi, st_eq⟩
    unfold wp_M_change wp_M_change_38 wp_M_change_61
    rw [if_neg (by decide), if_neg (by decide), if_neg (by decide), if_neg (by decide)]
    refine ⟨vp_lit (by decide), fun S5 e5 => ?_⟩
    subst e5
    exact q
  · show okC (upd g 3 (v))
    exact ⟨by rw [upd_n (by decide)]; exact h.1, by rw [upd_n (by decide)]; exact h.2⟩
theorem csr_833 : CSR 833 4 (fun v g => upd g 4 (v &&& (-4))) := by
  refine ⟨Or.inr (Or.inr (Or.inr (Or.inr (Or.inl ⟨rfl, rfl⟩)))), vp_lit (by decide), by decide, fun S K k => ?_, fun S v => ?_, fun T v => ?_, fun v g h => ?_⟩
  · unfold wp_Con_read; rw [if_neg (by decide), if_neg (by decide), if_neg (by decide), if_neg (by decide), if_pos rfl]; exact k
  · refine ⟨st S 3 4 (v &&& (-4)), fun K q => ?_, fun i hi => st_ne hi, st_eq⟩
    unfold wp_Con_write wp_Con_write_135
    rw [if_neg (by decide), if_neg (by decide), if_neg (by decide), if_neg (by decide), if_pos rfl]
    intro S1 e1
    subst e1
    exact q
  · refine ⟨st T 4 4 (v &&& (-4)), fun K q => ?_, fun i hi => st_ne hi, st_eq⟩
    unfold wp_M_change wp_M_change_38 wp_M_change_61
    rw [if_neg (by decide), if_neg (by decide), if_pos rfl, if_neg (by decide)]
    refine ⟨vp_lit (by decide), fun S5 e5 => ?_⟩
    subst e5
    exact q
  · show okC (upd g 4 (v &&& (-4)))
    exact ⟨by rw [upd_s]; exact al_and v, by rw [upd_n (by decide)]; exact h.2⟩
theorem csr_834 : CSR 834 5 (fun v g => upd g 5 (v)) := by
  refine ⟨Or.inr (Or.inr (Or.inr (Or.inr (Or.inr (Or.inl ⟨rfl, rfl⟩))))), vp_lit (by decide), by decide, fun S K k => ?_, fun S v => ?_, fun T v => ?_, fun v g h => ?_⟩
  · unfold wp_Con_read; rw [if_neg (by decide), if_neg (by decide), if_neg (by decide), if_neg (by decide), if_neg (by decide), if_pos rfl]; exact k
  · refine ⟨st S 3 5 (v), fun K q => ?_, fun i hi => st_ne hi, st_eq⟩
    unfold wp_Con_write wp_Con_write_135
    rw [if_neg (by decide), if_neg (by decide), if_neg (by decide), if_neg (by decide), if_neg (by decide), if_pos rfl]
    intro S1 e1
    subst e1
    exact q
  · refine ⟨st T 4 5 (v), fun K q => ?_, fun i hi => st_ne hi, st_eq⟩
    unfold wp_M_change wp_M_change_38 wp_M_change_61
    rw [if_neg (by decide), if_neg (by decide), if_neg (by decide), if_neg (by decide)]
    refine ⟨vp_lit (by decide), fun S5 e5 => ?_⟩
    subst e5
    exact q
  · show okC (upd g 5 (v))
    exact ⟨by rw [upd_n (by decide)]; exact h.1, by rw [upd_n (by decide)]; exact h.2⟩
theorem csr_835 : CSR 835 6 (fun v g => upd g 6 (v)) := by
  refine ⟨Or.inr (Or.inr (Or.inr (Or.inr (Or.inr (Or.inr (Or.inl ⟨rfl, rfl⟩)))))), vp_lit (by decide), by decide, fun S K k => ?_, fun S v => ?_, fun T v => ?_, fun v g h => ?_⟩
  · unfold wp_Con_read; rw [if_neg (by decide), if_neg (by decide), if_neg (by decide), if_neg (by decide), if_neg (by decide), if_neg (by decide), if_pos rfl]; exact k
  · refine ⟨st S 3 6 (v), fun K q => ?_, fun i hi => st_ne hi, st_eq⟩
    unfold wp_Con_write wp_Con_write_135
    rw [if_neg (by decide), if_neg (by decide), if_neg (by decide), if_neg (by decide), if_neg (by decide), if_neg (by decide), if_pos rfl]
    intro S1 e1
    subst e1
    exact q
  · refine ⟨st T 4 6 (v), fun K q => ?_, fun i hi => st_ne hi, st_eq⟩
    unfold wp_M_change wp_M_change_38 wp_M_change_61
    rw [if_neg (by decide), if_neg (by decide), if_neg (by decide), if_neg (by decide)]
    refine ⟨vp_lit (by decide), fun S5 e5 => ?_⟩
    subst e5
    exact q
  · show okC (upd g 6 (v))
    exact ⟨by rw [upd_n (by decide)]; exact h.1, by rw [upd_n (by decide)]; exact h.2⟩
theorem csr_836 : CSR 836 7 (fun _ g => g) := by
  refine ⟨Or.inr (Or.inr (Or.inr (Or.inr (Or.inr (Or.inr (Or.inr (⟨rfl, rfl⟩))))))), vp_lit (by decide), by decide, fun S K k => ?_, fun S v => ?_, fun T v => ?_, fun v g h => ?_⟩
  · unfold wp_Con_read; rw [if_neg (by decide), if_neg (by decide), if_neg (by decide), if_neg (by decide), if_neg (by decide), if_neg (by decide), if_neg (by decide), if_pos rfl]; exact k
  · refine ⟨S, fun K q => ?_, fun i hi => rfl, rfl⟩
    unfold wp_Con_write wp_Con_write_135
    rw [if_neg (by decide), if_neg (by decide), if_neg (by decide), if_neg (by decide), if_neg (by decide), if_neg (by decide), if_neg (by decide)]
    exact q
  · refine ⟨st T 4 7 (T 4 7), fun K q => ?_, fun i hi => st_ne hi, ?_⟩
    · unfold wp_M_change wp_M_change_38 wp_M_change_61
      rw [if_neg (by decide), if_neg (by decide), if_neg (by decide), if_pos rfl]
      refine ⟨vp_lit (by decide), vp_lit (by decide), fun S5 e5 => ?_⟩
      subst e5
      exact q
    · rw [st_eq]; exact upd_self _ _
  · exact h
theorem csr_of {n : Int32} (h : isC n) : ∃ p Wr, CSR n p Wr := by
  rcases h with rfl | rfl | rfl | rfl | rfl | rfl | rfl | rfl
  · exact ⟨_, _, csr_768⟩
  · exact ⟨_, _, csr_772⟩
  · exact ⟨_, _, csr_773⟩
  · exact ⟨_, _, csr_832⟩
  · exact ⟨_, _, csr_833⟩
  · exact ⟨_, _, csr_834⟩
  · exact ⟨_, _, csr_835⟩
  · exact ⟨_, _, csr_836⟩
theorem wF_115 : wF 115 = 0 := by decide
theorem wF_brk : wF 1048691 = 0 := by decide
theorem wF_ret : wF 807403635 = 0 := by decide
theorem wF_wai : wF 273678451 = 0 := by decide
theorem x_115 {S T : St} {a b : Int32} (H : HX S T a b) (ho : S 15 3 = 115) : wp_Exe_perform S a b (fun S' => wp_M_decide T (fun T' => MX S S' T T')) := by
  obtain ⟨hw, hpc, ⟨d3, d4, d5, d6, d7, d8⟩, hal, hC, hRA, ⟨r2, r6, r8, r12, r13, r14, r15⟩, ⟨q45, q47, q48, q50, q51, q53, q54, q55⟩, hA, hB⟩ := id H
  have hop : wOp (T 0 44) = 115 := by rw [hw, ← d3, ho]
  unfold wp_Exe_perform wp_Exe_perform_293
  rw [ho, if_neg (by decide), if_neg (by decide), if_neg (by decide), if_neg (by decide), if_neg (by decide), if_neg (by decide), if_neg (by decide), if_neg (by decide), if_neg (by decide), if_neg (by decide), if_pos rfl]
  have nm : ¬ mks (wOp (T 0 44)) := by rw [hop]; unfold mks; decide
  have hfw : wF (T 0 44) = S 15 5 := by rw [hw, d5]
  have dec : ∀ K, (∀ (f p : Int32), f = S 15 5 → evI (wp_M_placeOf (st T 0 48 0) (wN (T 0 44))) p (st T 0 48 0) → (if (T 0 44) = 115 then (wp_M_system_38 K (st T 0 48 0)) else (if (T 0 44) = 1048691 then (wp_M_system_38 K (st T 0 48 0)) else (if (T 0 44) = 807403635 then (∀ S13 : St, S13 = st (st T 0 48 0) 0 55 1 → (wp_M_system_198 K S13)) else (if (T 0 44) = 273678451 then (wp_M_system_108 K (st T 0 48 0) f p) else (if (f &&& (3 : Int32)) = 0 then (wp_M_system_101 K (st T 0 48 0)) else (if (0 : Int32) ≤ p then (wp_M_system_108 K (st T 0 48 0) f p) else (wp_M_system_101 K (st T 0 48 0))))))))) → wp_M_decide T K := by
    intro K k
    refine e_dec0 nm ?_
    unfold wp_M_decide_68
    intro S1 e1
    subst e1
    rw [hop, if_neg (by decide), if_neg (by decide), if_neg (by decide), if_neg (by decide)]
    unfold wp_M_decide_200 wp_M_decide_287
    rw [if_neg (by decide), if_neg (by decide), if_neg (by decide), if_neg (by decide), if_neg (by decide), if_pos rfl]
    unfold wp_M_system
    refine e_f _ _ ?_
    refine e_n _ _ ?_
    have hpl : ∃ p, evI (wp_M_placeOf (st T 0 48 0) (wN (T 0 44))) p (st T 0 48 0) := by
      by_cases hc : isC (wN (T 0 44))
      · obtain ⟨p, Wr, hh⟩ := csr_of hc
        exact ⟨p, e_place _ _ _ hh.1⟩
      · exact ⟨-1, e_placeN _ hc⟩
    obtain ⟨p, hp⟩ := hpl
    refine hp _ ?_
    exact k _ p hfw hp
  have ill : wp_M_system_101 (fun T' => MX S (st (st (st S 16 15 1) 16 16 2) 16 17 (S 15 2)) T T') (st T 0 48 0) := by
    unfold wp_M_system_101 wp_M_system_198
    refine e_illegal _ _ ?_
    exact mx_ill H (okS_rf S) (okT_0 (by decide) (okT_rf T)) hw rfl rfl
  by_cases f0 : S 15 5 = 0
  · rw [if_pos f0]
    unfold wp_Exe_doWholeWord wp_Exe_doWholeWord_91
    by_cases w1 : S 15 2 = 115
    · rw [if_pos w1]
      refine e_trapK S 11 0 _ ?_
      refine dec _ (fun f p ef _ => ?_)
      refine it (by rw [hw]; exact w1) ?_
      unfold wp_M_system_38 wp_M_system_54 wp_M_system_198
      refine it (show T 0 44 = 115 by rw [hw]; exact w1) ?_
      intro S1 e1 S2 e2
      subst e1 e2
      exact mk_trap (okS_16 (by decide) (okS_16 (by decide) (okS_16 (by decide) (okS_rf S)))) (okT_0 (by decide) (okT_0 (by decide) (okT_0 (by decide) (okT_rf T)))) rfl rfl rfl rfl (show (0 : Int32) ≤ 11 by decide) rfl
    rw [if_neg w1]
    by_cases w2 : S 15 2 = 1048691
    · rw [if_pos w2]
      refine e_trapK S 3 0 _ ?_
      refine dec _ (fun f p ef _ => ?_)
      refine ie (by rw [hw]; exact w1) (it (by rw [hw]; exact w2) ?_)
      unfold wp_M_system_38 wp_M_system_54 wp_M_system_198
      refine ie (show ¬ T 0 44 = 115 by rw [hw]; exact w1) ?_
      intro S1 e1 S2 e2
      subst e1 e2
      exact mk_trap (okS_16 (by decide) (okS_16 (by decide) (okS_16 (by decide) (okS_rf S)))) (okT_0 (by decide) (okT_0 (by decide) (okT_0 (by decide) (okT_rf T)))) rfl rfl rfl rfl (show (0 : Int32) ≤ 3 by decide) rfl
    rw [if_neg w2]
    by_cases w3 : S 15 2 = 273678451
    · rw [if_pos w3]
      refine dec _ (fun f p ef _ => ?_)
      refine ie (by rw [hw]; exact w1) (ie (by rw [hw]; exact w2) (ie (by rw [hw, w3]; decide) (it (by rw [hw]; exact w3) ?_)))
      unfold wp_M_system_108 wp_M_system_198
      refine it (show T 0 44 = 273678451 by rw [hw]; exact w3) ?_
      exact mk_reg H (okS_rf S) (okT_0 (by decide) (okT_rf T)) hC hRA rfl rfl r6.symm (by rw [r6]; exact vp_lit (by decide)) rfl rfl rfl rfl rfl rfl (show T 0 53 = _ by rw [q53, ho]; decide) (by rw [r2, ho, eff_1 (by decide)]) rfl rfl rfl (fun h => absurd r6 h) (by rw [ho]; decide)
    rw [if_neg w3]
    by_cases w4 : S 15 2 = 807403635
    · rw [if_pos w4]
      intro S6 e6
      subst e6
      unfold wp_Con_leaveTrap wp_Con_leaveTrap_21
      have fin : ∀ v, v = (if T 4 0 &&& 128 = 0 then (128 : Int32) else 136) → wp_M_decide T (fun T' => MX S (st (st (st S 16 14 1) 3 0 v) 16 12 (S 3 4)) T T') := by
        intro v hv
        refine dec _ (fun f p ef _ => ?_)
        refine ie (by rw [hw]; exact w1) (ie (by rw [hw]; exact w2) (it (by rw [hw]; exact w4) ?_))
        intro S1 e1
        subst e1
        unfold wp_M_system_198
        refine ⟨okS_16 (by decide) (okS_3 (okS_16 (by decide) (okS_rf S))), okT_0 (by decide) (okT_0 (by decide) (okT_rf T)), Or.inr ⟨r15, q45, r6.symm, ?_, ?_, ?_, rfl, Or.inr ⟨rfl, rfl, ?_, ?_⟩, ?_, ?_, ?_, hRA, Or.inl ⟨r8, q50, q51, fun h => absurd r6 h, by rw [ho]; decide⟩⟩⟩
        · show vp_in (S 16 6) 32
          rw [r6]; exact vp_lit (by decide)
        · show T 0 54 = S 16 13
          rw [q54, r13]
        · show isB (S 16 13)
          rw [r13]; exact isB_0
        · show S 3 4 = T 4 4
          rw [hC]
        · show upd (S 3) 0 v = _
          rw [hC, hv]
        · show T 0 53 = _
          rw [q53, ho]; decide
        · show S 3 4 &&& 3 = 0
          rw [hC]; exact hRA.1
        · show S 16 2 = _
          rw [r2, ho, eff_1 (by decide)]
      by_cases hb7 : S 3 0 &&& 128 = 0
      · refine it hb7 ?_
        intro S2 e2
        subst e2
        intro S9 e9
        subst e9
        exact fin 128 (by rw [if_pos (by rw [← hC]; exact hb7)])
      · refine ie hb7 ?_
        intro S2 e2
        subst e2
        intro S9 e9
        subst e9
        exact fin 136 (by rw [if_neg (by rw [← hC]; exact hb7)])
    rw [if_neg w4]
    refine e_refuse S _ ?_
    refine dec _ (fun f p ef _ => ?_)
    refine ie (by rw [hw]; exact w1) (ie (by rw [hw]; exact w2) (ie (by rw [hw]; exact w4) (ie (by rw [hw]; exact w3) (it (by rw [ef, f0]; decide) ?_))))
    exact ill
  · rw [if_neg f0]
    have n1 : ¬ T 0 44 = 115 := fun q => f0 (by rw [← hfw, q]; exact wF_115)
    have n2 : ¬ T 0 44 = 1048691 := fun q => f0 (by rw [← hfw, q]; exact wF_brk)
    have n3 : ¬ T 0 44 = 807403635 := fun q => f0 (by rw [← hfw, q]; exact wF_ret)
    have n4 : ¬ T 0 44 = 273678451 := fun q => f0 (by rw [← hfw, q]; exact wF_wai)
    unfold wp_Exe_useControl wp_Exe_useControl_25
    intro x ex
    have hx : x = wN (T 0 44) := by rw [ex, hw]; rfl
    by_cases f4 : S 15 5 = 4
    · rw [if_pos f4]
      refine e_refuse S _ ?_
      refine dec _ (fun f p ef _ => ?_)
      exact ie n1 (ie n2 (ie n3 (ie n4 (it (by rw [ef, f4]; decide) ill))))
    rw [if_neg f4]
    have f3 : ¬ S 15 5 &&& 3 = 0 := by
      rw [d5] at f0 f4 ⊢
      rcases wF_cases (S 15 2) with e | e | e | e | e | e | e | e
      · exact absurd e f0
      · rw [e]; decide
      · rw [e]; decide
      · rw [e]; decide
      · exact absurd e f4
      · rw [e]; decide
      · rw [e]; decide
      · rw [e]; decide
    by_cases hc : isC x
    · refine e_hasC S hc _ ?_
      rw [if_neg (by decide)]
      obtain ⟨p, Wr, hn, hin, hp0, hrd, hwr, hch, hk4⟩ := csr_of hc
      refine hrd S _ ?_
      unfold wp_Exe_useControl_55 wp_Exe_useControl_138
      -- the number that is written
      have fin : ∀ k0 : Int32, k0 = (if (4 : Int32) ≤ S 15 5 then S 15 6 else a) → wp_Eff_setRegister S (S 15 4) (S 3 p.toNatClampNeg) (fun S11 => if ((S11 15 5) &&& (3 : Int32)) = 1 then wp_Con_write S11 x k0 (fun S14 => wp_M_decide T (fun T' => MX S S14 T T')) else (if ((S11 15 5) &&& (3 : Int32)) = 2 then wp_Con_write S11 x ((S 3 p.toNatClampNeg) ||| k0) (fun S16 => wp_M_decide T (fun T' => MX S S16 T T')) else wp_Con_write S11 x ((S 3 p.toNatClampNeg) &&& (k0 ^^^ (-1))) (fun S18 => wp_M_decide T (fun T' => MX S S18 T T')))) := by
        intro k0 hk0
        refine e_setR S _ _ _ ?_
        have go : ∀ v : Int32, (∀ K T1, wp_M_system_195 K T1 v p → (if (S 15 5 &&& (3 : Int32)) = 1 then wp_M_system_195 K T1 k0 p else (if (S 15 5 &&& (3 : Int32)) = 2 then wp_M_system_195 K T1 ((S 3 p.toNatClampNeg) ||| k0) p else wp_M_system_195 K T1 ((S 3 p.toNatClampNeg) &&& (k0 ^^^ (-1))) p))) → wp_Con_write (st (st S 16 6 (S 15 4)) 16 7 (S 3 p.toNatClampNeg)) x v (fun S14 => wp_M_decide T (fun T' => MX S S14 T T')) := by
          intro v hv
          obtain ⟨S2, h1, h2, h3⟩ := hwr (st (st S 16 6 (S 15 4)) 16 7 (S 3 p.toNatClampNeg)) v
          refine h1 _ ?_
          refine dec _ (fun f p' ef hp' => ?_)
          subst ef
          -- the place is p
          have hpp : p' = p := by
            have q1 := hp' (fun r _ => r = p') rfl
            have q2 := (e_place (st T 0 48 0) x p hn)
            have q3 : wp_M_placeOf (st T 0 48 0) (wN (T 0 44)) (fun r _ => r = p') := q1
            rw [← hx] at q3
            -- the answer is one
            rcases hn with ⟨e1, e2⟩ | ⟨e1, e2⟩ | ⟨e1, e2⟩ | ⟨e1, e2⟩ | ⟨e1, e2⟩ | ⟨e1, e2⟩ | ⟨e1, e2⟩ | ⟨e1, e2⟩ <;>
              (rw [e1] at q3; rw [e2]; unfold wp_M_placeOf wp_M_placeOf_55 wp_M_placeOf_56 at q3; revert q3; simp; intro q; exact q.symm)
          subst hpp
          refine ie n1 (ie n2 (ie n3 (ie n4 (ie f3 (it hp0 ?_)))))
          unfold wp_M_system_108
          refine ie (show ¬ T 0 44 = 273678451 from n4) ?_
          have sys : ∀ k1, k1 = k0 → wp_M_system_136 (fun T' => MX S S2 T T') (st T 0 48 0) (S 15 5) p' k1 := by
            intro k1 hk1
            subst hk1
            unfold wp_M_system_136
            refine ⟨hin, ?_⟩
            intro x25 e25
            subst e25
            refine e_rd _ _ ?_
            intro S28 e28 S29 e29
            subst e28 e29
            have eT : ((st T 0 48 0) 4 p'.toNatClampNeg) = S 3 p'.toNatClampNeg := by
              show T 4 _ = _
              rw [hC]
            rw [eT]
            refine hv _ _ ?_
            unfold wp_M_system_195 wp_M_system_198
            obtain ⟨T2, g1, g2, g3⟩ := hch (st (st (st T 0 48 0) 0 48 (wRd ((st T 0 48 0) 0 44))) 0 49 (S 3 p'.toNatClampNeg)) v
            refine g1 _ ?_
            have s16 : S2 16 = (st (st S 16 6 (S 15 4)) 16 7 (S 3 p'.toNatClampNeg)) 16 := h2 16 (by decide)
            have t0 : T2 0 = (st (st (st T 0 48 0) 0 48 (wRd ((st T 0 48 0) 0 44))) 0 49 (S 3 p'.toNatClampNeg)) 0 := g2 0 (by decide)
            have okt : okT T (st (st (st T 0 48 0) 0 48 (wRd ((st T 0 48 0) 0 44))) 0 49 (S 3 p'.toNatClampNeg)) := okT_0 (by decide) (okT_0 (by decide) (okT_0 (by decide) (okT_rf T)))
            have oks : okS S (st (st S 16 6 (S 15 4)) 16 7 (S 3 p'.toNatClampNeg)) := okS_16 (by decide) (okS_16 (by decide) (okS_rf S))
            refine mk_reg H ⟨fun i i1 i2 => by rw [h2 i i2]; exact oks.1 i i1 i2, fun j hj => by rw [s16]; exact oks.2 j hj⟩ ⟨fun i i1 i2 => by rw [g2 i i2]; exact okt.1 i i1 i2, fun j hj => by rw [t0]; exact okt.2 j hj⟩ ?_ ?_ ?_ ?_ ?_ ?_ ?_ ?_ ?_ ?_ ?_ ?_ ?_ ?_ ?_ ?_ ?_ ?_ ?_
            · rw [h3, g3]
              show Wr v (S 3) = Wr v (T 4)
              rw [hC]
            · rw [g3]; exact hk4 v _ hRA
            · rw [s16]; rfl
            · rw [t0]; rfl
            · rw [t0, s16]
              show wRd (T 0 44) = S 15 4
              rw [hw, d4]
            · rw [s16]
              show vp_in (S 15 4) 32
              rw [d4]; exact wRd_in _
            · rw [s16]; rfl
            · rw [t0]; rfl
            · rw [s16]; rfl
            · rw [t0]; rfl
            · rw [s16]; rfl
            · rw [t0]; rfl
            · rw [t0]
              show T 0 53 = _
              rw [q53, ho]; decide
            · rw [s16]
              show S 16 2 = _
              rw [r2, ho, eff_1 (by decide)]
            · rw [s16]; rfl
            · rw [t0]; rfl
            · rw [t0]; rfl
            · intro _
              rw [t0, s16]; rfl
            · rw [ho]; decide
          by_cases h4 : (4 : Int32) ≤ S 15 5
          · refine it h4 ?_
            refine e_a _ _ ?_
            refine sys _ ?_
            rw [hk0, if_pos h4]
            show wA (T 0 44) = S 15 6
            rw [hw, d6]
          · refine ie h4 ?_
            refine e_regA _ _ ?_
            refine sys _ ?_
            rw [hk0, if_neg h4]
            show T 2 (wA (T 0 44)).toNatClampNeg = a
            have ha := hA (by
              rw [ho]
              rintro (q | q | q | q | ⟨_, q | q⟩)
              · exact absurd q (by decide)
              · exact absurd q (by decide)
              · exact absurd q (by decide)
              · exact absurd q (by decide)
              · exact f0 q
              · refine q ?_
                rw [d5] at f0 f4 h4 ⊢
                rcases wF_cases (S 15 2) with e | e | e | e | e | e | e | e <;> rw [e] at h4 ⊢ <;> first | decide | exact absurd (by decide) h4)
            rw [hw, ha]
        by_cases m1 : S 15 5 &&& 3 = 1
        · refine it m1 ?_
          exact go k0 (fun K T1 q => it m1 q)
        · refine ie m1 ?_
          by_cases m2 : S 15 5 &&& 3 = 2
          · refine it m2 ?_
            exact go _ (fun K T1 q => ie m1 (it m2 q))
          · refine ie m2 ?_
            exact go _ (fun K T1 q => ie m1 (ie m2 q))
      by_cases h4 : (4 : Int32) ≤ S 15 5
      · rw [if_pos h4]
        exact fin _ (by rw [if_pos h4])
      · rw [if_neg h4]
        exact fin _ (by rw [if_neg h4])
    · refine e_hasN S hc _ ?_
      rw [if_pos rfl]
      refine e_refuse S _ ?_
      refine dec _ (fun f p ef hp => ?_)
      have hp1 : p = -1 := by
        have q1 := e_placeN (st T 0 48 0) (n := x) hc
        have q3 := hp (fun r _ => r = p) rfl
        rw [← hx] at q3
        unfold wp_M_placeOf wp_M_placeOf_55 wp_M_placeOf_56 at q3
        unfold isC at hc
        simp only [not_or] at hc
        obtain ⟨m1, m2, m3, m4, m5, m6, m7, m8⟩ := hc
        rw [if_neg m1, if_neg m2, if_neg m3] at q3
        by_cases h1 : x < 832
        · rw [if_pos h1] at q3; exact q3.symm
        · rw [if_neg h1] at q3
          by_cases h2 : (836 : Int32) < x
          · rw [if_pos h2] at q3; exact q3.symm
          · rcases isC_mid h1 h2 with e | e | e | e | e <;> contradiction
      subst hp1
      exact ie n1 (ie n2 (ie n3 (ie n4 (ie (by rw [ef]; exact f3) (ie (by decide) ill)))))
theorem exec {S T : St} {a b : Int32} (H : HX S T a b) : wp_Exe_perform S a b (fun S' => wp_M_decide T (fun T' => MX S S' T T')) := by
  by_cases n1 : S 15 3 = 3
  · exact x_3 H n1
  by_cases n2 : S 15 3 = 15
  · exact x_15 H n2
  by_cases n3 : S 15 3 = 19
  · exact x_19 H n3
  by_cases n4 : S 15 3 = 23
  · exact x_23 H n4
  by_cases n5 : S 15 3 = 35
  · exact x_35 H n5
  by_cases n6 : S 15 3 = 51
  · exact x_51 H n6
  by_cases n7 : S 15 3 = 55
  · exact x_55 H n7
  by_cases n8 : S 15 3 = 99
  · exact x_99 H n8
  by_cases n9 : S 15 3 = 103
  · exact x_103 H n9
  by_cases n10 : S 15 3 = 111
  · exact x_111 H n10
  by_cases n11 : S 15 3 = 115
  · exact x_115 H n11
  exact x_no H n1 n2 n3 n4 n5 n6 n7 n8 n9 n10 n11
