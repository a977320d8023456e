/-! the cache -/
theorem nar0 : vp_nar .boolean 0 = 0 := by decide
theorem nar1 : vp_nar .boolean 1 = 1 := by decide
def CA (S T : St) : Prop := S 5 0 = 4 * T 0 0 ∧ ∀ p, p < 4 → S 6 p = T 16 p ∧ S 7 p = T 17 p ∧ isB (T 17 p) ∧ (T 16 p < 0 → T 17 p = 0)
theorem m24 (x : Int32) : (2 : Int32) * (4 * x) = 8 * x := by
  rw [← Int32.mul_assoc]
  have : (2 : Int32) * 4 = 8 := by decide
  rw [this]
theorem cl4 {x : Int32} (h : vp_in x 4) : x.toNatClampNeg < 4 := Nat.not_le.mp fun q => h (Or.inr q)
theorem visit_ev {S T : St} {a w : Int32} (hc : CA S T) (ha : inD a) (t50 : T 0 50 = a) (t51 : T 0 51 = w) (hw : isB w) :
    ∃ r S' T', evI (wp_Cac_visit S a w) r S' ∧ evI (wp_M_cached T) r T' ∧ CA S' T' ∧ (∀ i, i ≠ 6 → i ≠ 7 → S' i = S i) ∧ (∀ i, i ≠ 16 → i ≠ 17 → T' i = T i) ∧ (r = 0 ∨ r = 4 * T 0 0 ∨ r = 8 * T 0 0) := by
  obtain ⟨h5, hp⟩ := hc
  have hin : vp_in ((a - 1024) / 16 &&& 3) 4 := in_m _ 2 (by decide) (by decide) (by decide)
  generalize hn : (a - 1024) / 16 = n at hin
  have hnn : ¬ n < 0 := by
    rw [Int32.lt_iff_toInt_lt, ← hn]
    have := ln_nn ha
    have e : (0 : Int32).toInt = 0 := by decide
    rw [e]; omega
  have hjr : jrem n 4 = n &&& 3 := by rw [← hn]; exact ln_eq ha
  generalize hk : n &&& 3 = k at hin hjr
  have hk4 := cl4 hin
  obtain ⟨e6, e7, hB, h0⟩ := hp _ hk4
  have hS : ∀ K, (if S 6 k.toNatClampNeg = n then wp_Cac_visit_69 K S w k 0 else (vp_in k 4 ∧ (if S 7 k.toNatClampNeg = 0 then wp_Cac_visit_51 K S w n k (S 5 0) else wp_Cac_visit_51 K S w n k ((2 : Int32) * (S 5 0))))) → wp_Cac_visit S a w K := by
    intro K h
    unfold wp_Cac_visit
    intro x1 e1 x2 e2
    rw [hn] at e1
    subst e1
    rw [hk] at e2
    subst e2
    exact ⟨hin, h⟩
  have hT : ∀ K, (if T 16 k.toNatClampNeg = n then wp_M_cached_64 K T n k 0 else (vp_in k 4 ∧ (if T 16 k.toNatClampNeg < 0 then wp_M_cached_58 K T n k else (vp_in k 4 ∧ (if T 17 k.toNatClampNeg = 0 then wp_M_cached_58 K T n k else wp_M_cached_64 K T n k ((8 : Int32) * (T 0 0))))))) → wp_M_cached T K := by
    intro K h
    unfold wp_M_cached
    intro x1 e1 x2 e2
    rw [t50, hn] at e1
    subst e1
    rw [hjr] at e2
    subst e2
    exact ⟨hin, h⟩
  -- the reference's end: touched becomes v, the line n
  have end64 : ∀ (K : Int32 → St → Prop) (r v : Int32), (w = 1 → v = 1) → (w = 0 → T 16 k.toNatClampNeg = n → v = T 17 k.toNatClampNeg) → (w = 0 → ¬ T 16 k.toNatClampNeg = n → v = 0) → K r (st (st T 17 k.toNatClampNeg v) 16 k.toNatClampNeg n) → wp_M_cached_64 K T n k r := by
    intro K r v v1 v2 v3 q
    unfold wp_M_cached_64 wp_M_cached_96 wp_M_cached_100 wp_M_cached_101
    have c1 : ∀ u : Int32, vp_nar .boolean u = v → vp_in k 4 ∧ ∀ S9 : St, S9 = st T 17 k.toNatClampNeg (vp_nar .boolean u) → vp_in k 4 ∧ ∀ S10 : St, S10 = st S9 16 k.toNatClampNeg n → K r S10 := by
      intro u hu
      refine ⟨hin, fun S9 e9 => ⟨hin, fun S10 e10 => ?_⟩⟩
      subst e9 e10
      rw [hu]
      exact q
    rcases hw with e | e
    · rw [if_pos (by rw [t51, e])]
      refine ⟨hin, ?_⟩
      by_cases hl : T 16 k.toNatClampNeg = n
      · rw [if_pos hl]
        refine ⟨hin, ?_⟩
        rcases hB with b | b
        · rw [if_pos b]
          exact c1 0 (by rw [nar0, v2 e hl, b])
        · rw [if_neg (by rw [b]; decide)]
          exact c1 1 (by rw [nar1, v2 e hl, b])
      · rw [if_neg hl]
        exact c1 0 (by rw [nar0, v3 e hl])
    · rw [if_neg (by rw [t51, e]; decide)]
      exact c1 1 (by rw [nar1, v1 e])
  -- the world behind: rows changed at k alone
  have caEnd : ∀ (S' : St) (v : Int32), isB v → (∀ i, i ≠ 6 → i ≠ 7 → S' i = S i) → (∀ p, p < 4 → p ≠ k.toNatClampNeg → S' 6 p = S 6 p ∧ S' 7 p = S 7 p) → S' 6 k.toNatClampNeg = n → S' 7 k.toNatClampNeg = v → CA S' (st (st T 17 k.toNatClampNeg v) 16 k.toNatClampNeg n) := by
    intro S' v hv f1 f2 f3 f4
    refine ⟨?_, fun p p4 => ?_⟩
    · rw [f1 5 (by decide) (by decide)]; exact h5
    · by_cases e : p = k.toNatClampNeg
      · subst e
        have t16 : (st (st T 17 k.toNatClampNeg v) 16 k.toNatClampNeg n) 16 k.toNatClampNeg = n := by rw [st_eq, upd_s]
        have t17 : (st (st T 17 k.toNatClampNeg v) 16 k.toNatClampNeg n) 17 k.toNatClampNeg = v := by rw [st_ne (by decide), st_eq, upd_s]
        rw [t16, t17]
        exact ⟨f3, f4, hv, fun q => absurd q hnn⟩
      · have t16 : (st (st T 17 k.toNatClampNeg v) 16 k.toNatClampNeg n) 16 p = T 16 p := by rw [st_eq, upd_n e, st_ne (by decide)]
        have t17 : (st (st T 17 k.toNatClampNeg v) 16 k.toNatClampNeg n) 17 p = T 17 p := by rw [st_ne (by decide), st_eq, upd_n e]
        rw [t16, t17, (f2 p p4 e).1, (f2 p p4 e).2]
        exact hp p p4
  have frT : ∀ v : Int32, ∀ i, i ≠ 16 → i ≠ 17 → (st (st T 17 k.toNatClampNeg v) 16 k.toNatClampNeg n) i = T i := by
    intro v i i1 i2
    rw [st_ne i1, st_ne i2]
  by_cases hl : S 6 k.toNatClampNeg = n
  · -- it is there
    have hlT : T 16 k.toNatClampNeg = n := by rw [← e6]; exact hl
    rcases hw with e | e
    · refine ⟨0, S, st (st T 17 k.toNatClampNeg (T 17 k.toNatClampNeg)) 16 k.toNatClampNeg n, fun K q => hS K ?_, fun K q => hT K ?_, ?_, fun i _ _ => rfl, frT _, Or.inl rfl⟩
      · rw [if_pos hl]
        unfold wp_Cac_visit_69 wp_Cac_visit_81
        rw [if_pos e]; exact q
      · rw [if_pos hlT]
        exact end64 K 0 _ (fun q => absurd (e.symm.trans q) (by decide)) (fun _ _ => rfl) (fun _ q => absurd hlT q) q
      · exact caEnd S _ hB (fun i _ _ => rfl) (fun p _ _ => ⟨rfl, rfl⟩) hl e7
    · refine ⟨0, st S 7 k.toNatClampNeg 1, st (st T 17 k.toNatClampNeg 1) 16 k.toNatClampNeg n, fun K q => hS K ?_, fun K q => hT K ?_, ?_, fun i _ i2 => st_ne i2, frT _, Or.inl rfl⟩
      · rw [if_pos hl]
        unfold wp_Cac_visit_69 wp_Cac_visit_81
        rw [if_neg (by rw [e]; decide)]
        refine ⟨hin, fun S8 e8 => ?_⟩
        subst e8
        rw [nar1]; exact q
      · rw [if_pos hlT]
        exact end64 K 0 _ (fun _ => rfl) (fun q => absurd (e.symm.trans q) (by decide)) (fun q => absurd (e.symm.trans q) (by decide)) q
      · exact caEnd _ _ isB_1 (fun i _ i2 => st_ne i2) (fun p _ pn => ⟨by rw [st_ne (by decide)], by rw [st_eq, upd_n pn]⟩) (by rw [st_ne (by decide)]; exact hl) (by rw [st_eq, upd_s])
  · -- it is not
    have hlT : ¬ T 16 k.toNatClampNeg = n := by rw [← e6]; exact hl
    have miss : ∀ r : Int32, (∀ K : Int32 → St → Prop, wp_Cac_visit_51 K S w n k r → (if S 7 k.toNatClampNeg = 0 then wp_Cac_visit_51 K S w n k (S 5 0) else wp_Cac_visit_51 K S w n k ((2 : Int32) * (S 5 0)))) → (∀ K : Int32 → St → Prop, wp_M_cached_64 K T n k r → (if T 16 k.toNatClampNeg < 0 then wp_M_cached_58 K T n k else (vp_in k 4 ∧ (if T 17 k.toNatClampNeg = 0 then wp_M_cached_58 K T n k else wp_M_cached_64 K T n k ((8 : Int32) * (T 0 0)))))) → (r = 0 ∨ r = 4 * T 0 0 ∨ r = 8 * T 0 0) → ∃ r S' T', evI (wp_Cac_visit S a w) r S' ∧ evI (wp_M_cached T) r T' ∧ CA S' T' ∧ (∀ i, i ≠ 6 → i ≠ 7 → S' i = S i) ∧ (∀ i, i ≠ 16 → i ≠ 17 → T' i = T i) ∧ (r = 0 ∨ r = 4 * T 0 0 ∨ r = 8 * T 0 0) := by
      intro r k1 k2 hr
      have w51 : ∀ K : Int32 → St → Prop, K r (if w = 0 then st (st S 6 k.toNatClampNeg n) 7 k.toNatClampNeg 0 else st (st (st S 6 k.toNatClampNeg n) 7 k.toNatClampNeg 0) 7 k.toNatClampNeg 1) → wp_Cac_visit_51 K S w n k r := by
        intro K q
        unfold wp_Cac_visit_51 wp_Cac_visit_69 wp_Cac_visit_81
        refine ⟨hin, fun S5 e5 => ⟨hin, fun S6 e6 => ?_⟩⟩
        subst e5 e6
        rw [nar0]
        by_cases e : w = 0
        · rw [if_pos e] at q ⊢; exact q
        · rw [if_neg e] at q ⊢
          refine ⟨hin, fun S8 e8 => ?_⟩
          subst e8
          rw [nar1]; exact q
      rcases hw with e | e
      · refine ⟨r, st (st S 6 k.toNatClampNeg n) 7 k.toNatClampNeg 0, st (st T 17 k.toNatClampNeg 0) 16 k.toNatClampNeg n, fun K q => hS K ?_, fun K q => hT K ?_, ?_, fun i i1 i2 => by rw [st_ne i2, st_ne i1], frT _, hr⟩
        · rw [if_neg hl]
          exact ⟨hin, k1 K (w51 K (by rw [if_pos e]; exact q))⟩
        · rw [if_neg hlT]
          exact ⟨hin, k2 K (end64 K r _ (fun q => absurd (e.symm.trans q) (by decide)) (fun _ q => absurd q hlT) (fun _ _ => rfl) q)⟩
        · exact caEnd _ _ isB_0 (fun i i1 i2 => by rw [st_ne i2, st_ne i1]) (fun p _ pn => ⟨by rw [st_ne (by decide), st_eq, upd_n pn], by rw [st_eq, upd_n pn, st_ne (by decide)]⟩) (by rw [st_ne (by decide), st_eq, upd_s]) (by rw [st_eq, upd_s])
      · refine ⟨r, st (st (st S 6 k.toNatClampNeg n) 7 k.toNatClampNeg 0) 7 k.toNatClampNeg 1, st (st T 17 k.toNatClampNeg 1) 16 k.toNatClampNeg n, fun K q => hS K ?_, fun K q => hT K ?_, ?_, fun i i1 i2 => by rw [st_ne i2, st_ne i2, st_ne i1], frT _, hr⟩
        · rw [if_neg hl]
          exact ⟨hin, k1 K (w51 K (by rw [if_neg (by rw [e]; decide)]; exact q))⟩
        · rw [if_neg hlT]
          exact ⟨hin, k2 K (end64 K r _ (fun _ => rfl) (fun q => absurd (e.symm.trans q) (by decide)) (fun q => absurd (e.symm.trans q) (by decide)) q)⟩
        · exact caEnd _ _ isB_1 (fun i i1 i2 => by rw [st_ne i2, st_ne i2, st_ne i1]) (fun p _ pn => ⟨by rw [st_ne (by decide), st_ne (by decide), st_eq, upd_n pn], by rw [st_eq, upd_n pn, st_eq, upd_n pn, st_ne (by decide)]⟩) (by rw [st_ne (by decide), st_ne (by decide), st_eq, upd_s]) (by rw [st_eq, upd_s])
    by_cases hz : T 17 k.toNatClampNeg = 0
    · refine miss (4 * T 0 0) (fun K q => ?_) (fun K q => ?_) (Or.inr (Or.inl rfl))
      · rw [if_pos (by rw [e7]; exact hz), h5]; exact q
      · by_cases hneg : T 16 k.toNatClampNeg < 0
        · rw [if_pos hneg]
          unfold wp_M_cached_58
          exact q
        · rw [if_neg hneg]
          refine ⟨hin, ?_⟩
          rw [if_pos hz]
          unfold wp_M_cached_58
          exact q
    · have hneg : ¬ T 16 k.toNatClampNeg < 0 := fun q => hz (h0 q)
      refine miss (8 * T 0 0) (fun K q => ?_) (fun K q => ?_) (Or.inr (Or.inr rfl))
      · rw [if_neg (by rw [e7]; exact hz), h5, m24]; exact q
      · rw [if_neg hneg]
        refine ⟨hin, ?_⟩
        rw [if_neg hz]
        exact q
