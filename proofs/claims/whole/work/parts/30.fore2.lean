/-! the class's entries at three ages -/
def ctS (S : St) (t : Int32) : Nat → Nat → Int32 := if S 11 1 < t then (if S 11 0 < t then ctb S 0 else ctb S 1) else ctb S 2
theorem cix (k : Nat) (hk : k < 3) (a : Int32) : (nI k * 4 + en a).toNatClampNeg = eN a + 4 * k ∧ vp_in (nI k * 4 + en a) 12 := by
  have := eN_lt a
  rw [en_nI, show (4 : Int32) = nI 4 from rfl, pk_mul, nI_add]
  refine ⟨?_, vp_in_nI (by omega) (by decide)⟩
  rw [nI_clamp (by omega)]
  omega
theorem foretell_fin {S : St} {a : Int32} {k : Nat} (hk : k < 3) (ho : okTb (ctb S k)) {K : Int32 → St → Prop} (h : K (gs (ctb S k) a) S) : wp_For_entryFor S a (fun r3 S2 => (∀ x4 : Int32, x4 = (nI k * (4 : Int32)) + r3 → (vp_in x4 12 ∧ (if (S2 8 x4.toNatClampNeg) = a then (vp_in x4 12 ∧ (if (S2 10 x4.toNatClampNeg) < 2 then (wp_For_foretell_69 K S2 a x4) else (wp_For_foretell_70 K S2 a x4 1))) else (wp_For_foretell_69 K S2 a x4))))) := by
  unfold wp_For_entryFor
  intro x e
  have e' : x = nI k * 4 + en a := e
  subst e'
  obtain ⟨h1, h2⟩ := cix k hk a
  refine ⟨h2, ?_⟩
  unfold wp_For_foretell_69 wp_For_foretell_70 wp_For_foretell_90
  rw [h1]
  unfold gs at h
  have e0 : ctb S k 0 (eN a) = S 8 (eN a + 4 * k) := rfl
  have e1 : ctb S k 1 (eN a) = S 9 (eN a + 4 * k) := rfl
  have e2 : ctb S k 2 (eN a) = S 10 (eN a + 4 * k) := rfl
  rw [e0, e1, e2] at h
  by_cases c : S 8 (eN a + 4 * k) = a
  · rw [if_pos c] at h ⊢
    refine ⟨h2, ?_⟩
    rcases (ho (eN a) (eN_lt a)).1 with q | q | q | q
    all_goals
      have q' : S 10 (eN a + 4 * k) = _ := q
      rw [q'] at h ⊢
    · rw [if_pos (by decide)] at h
      rw [if_pos (by decide), if_pos rfl]; exact h
    · rw [if_pos (by decide)] at h
      rw [if_pos (by decide), if_pos rfl]; exact h
    · rw [if_neg (by decide)] at h
      rw [if_neg (by decide), if_neg (by decide)]; exact ⟨h2, h⟩
    · rw [if_neg (by decide)] at h
      rw [if_neg (by decide), if_neg (by decide)]; exact ⟨h2, h⟩
  · rw [if_neg c] at h ⊢
    rw [if_pos rfl]; exact h
theorem foretell_ev (S : St) (a t : Int32) (h0 : okTb (ctb S 0)) (h1 : okTb (ctb S 1)) (h2 : okTb (ctb S 2)) : evI (wp_For_foretell S a t) (gs (ctS S t) a) S := fun K k => by
  unfold wp_For_foretell
  refine ⟨3, ?_⟩
  unfold ctS at k
  rw [wp_For_foretell_5]
  refine ie (by decide) ⟨vp_lit (by decide), ?_⟩
  unfold wp_For_foretell_27
  show @ite Prop (S 11 0 < t) _ _ _
  have last : ∀ (v3 : Int32) (j : Nat), j < 3 → v3 = nI j → okTb (ctb S j) → K (gs (ctb S j) a) S → wp_For_foretell_5 K 1 S a t v3 2 := by
    intro v3 j hj hv ho q
    rw [wp_For_foretell_5]
    refine it (by decide) ?_
    subst hv
    exact foretell_fin hj ho q
  have second : ∀ v3 : Int32, (S 11 1 < t → wp_For_foretell_5 K 1 S a t v3 2) → (¬ S 11 1 < t → wp_For_foretell_5 K 1 S a t 2 2) → wp_For_foretell_5 K 2 S a t v3 (0 + 1) := by
    intro v3 q1 q2
    rw [wp_For_foretell_5]
    refine ie (by decide) ⟨vp_lit (by decide), ?_⟩
    unfold wp_For_foretell_27
    show @ite Prop (S 11 1 < t) _ _ _
    by_cases c : S 11 1 < t
    · exact it c (q1 c)
    · refine ie c ?_
      intro x e
      subst e
      exact q2 c
  by_cases c0 : S 11 0 < t
  · refine it c0 ?_
    refine second _ (fun c1 => ?_) (fun c1 => ?_)
    · rw [if_pos c1, if_pos c0] at k
      exact last 0 0 (by decide) nI_0.symm h0 k
    · rw [if_neg c1] at k
      exact last 2 2 (by decide) rfl h2 k
  · refine ie c0 ?_
    intro x e
    subst e
    refine second _ (fun c1 => ?_) (fun c1 => ?_)
    · rw [if_pos c1, if_neg c0] at k
      exact last (0 + 1) 1 (by decide) (by decide) h1 k
    · rw [if_neg c1] at k
      exact last 2 2 (by decide) rfl h2 k
def shf (S : St) (i : Nat) : St := st (st (st S 8 i (S 8 (i - 4))) 9 i (S 9 (i - 4))) 10 i (S 10 (i - 4))
theorem ke_step {K : St → Prop} {f : Nat} {S : St} {v : Int32} {i : Nat} (h : 4 ≤ i) (h2 : i < 12) (k : wp_For_keepEarlier_3 K f (shf S i) v (nI (i - 1))) : wp_For_keepEarlier_3 K (f + 1) S v (nI i) := by
  rw [wp_For_keepEarlier_3]
  have c : ¬ nI i < 4 := by
    rw [show (4 : Int32) = nI 4 from rfl]
    exact nI_nlt h (by omega)
  refine ie c ?_
  have e4 : nI i - 4 = nI (i - 4) := by rw [show (4 : Int32) = nI 4 from rfl]; exact pk_sub h
  have em : nI i + (-1) = nI (i - 1) := sb_m1 (by omega)
  have i1 : vp_in (nI (i - 4)) 12 := vp_in_nI (by omega) (by decide)
  have i2 : vp_in (nI i) 12 := vp_in_nI h2 (by decide)
  rw [e4, em, nI_clamp (show i - 4 < 2 ^ 31 by omega), nI_clamp (show i < 2 ^ 31 by omega)]
  refine ⟨i1, i2, fun S4 q4 => ⟨i1, i2, fun S5 q5 => ⟨i1, i2, fun S6 q6 => ?_⟩⟩⟩
  subst q4 q5 q6
  exact k
def kE (S : St) (c : Int32) : St := (fun U => st (st U 11 1 (U 11 0)) 11 0 c) (shf (shf (shf (shf (shf (shf (shf (shf S 11) 10) 9) 8) 7) 6) 5) 4)
theorem keep_ev (S : St) (c : Int32) : evV (wp_For_keepEarlier S c) (kE S c) := fun K k => by
  unfold wp_For_keepEarlier
  refine ⟨9, ?_⟩
  show wp_For_keepEarlier_3 K 9 S c (nI 11)
  refine ke_step (by decide) (by decide) ?_
  refine ke_step (i := 10) (by decide) (by decide) ?_
  refine ke_step (i := 9) (by decide) (by decide) ?_
  refine ke_step (i := 8) (by decide) (by decide) ?_
  refine ke_step (i := 7) (by decide) (by decide) ?_
  refine ke_step (i := 6) (by decide) (by decide) ?_
  refine ke_step (i := 5) (by decide) (by decide) ?_
  refine ke_step (i := 4) (by decide) (by decide) ?_
  rw [wp_For_keepEarlier_3]
  refine it (by decide) ?_
  refine ⟨vp_lit (by decide), vp_lit (by decide), fun S2 e2 => ⟨vp_lit (by decide), fun S3 e3 => ?_⟩⟩
  subst e2 e3
  exact k
theorem kE_rows (S : St) (c : Int32) : (∀ i, i ≠ 8 → i ≠ 9 → i ≠ 10 → i ≠ 11 → kE S c i = S i) ∧ kE S c 11 0 = c ∧ kE S c 11 1 = S 11 0 := by
  refine ⟨fun i h1 h2 h3 h4 => ?_, rfl, rfl⟩
  unfold kE shf
  dsimp only
  simp only [st_ne h1, st_ne h2, st_ne h3, st_ne h4]
theorem kE_tb (S : St) (c : Int32) : eqv (ctb (kE S c) 0) (ctb S 0) ∧ eqv (ctb (kE S c) 1) (ctb S 0) ∧ eqv (ctb (kE S c) 2) (ctb S 1) := by
  refine ⟨fun f hf e he => ?_, fun f hf e he => ?_, fun f hf e he => ?_⟩
  all_goals
    have h1 : f = 0 ∨ f = 1 ∨ f = 2 := by omega
    have h2 : e = 0 ∨ e = 1 ∨ e = 2 ∨ e = 3 := by omega
    rcases h1 with rfl | rfl | rfl <;> rcases h2 with rfl | rfl | rfl | rfl <;> rfl
theorem dc_eq {c : Int32} (h : c = 0 ∨ c = 1 ∨ c = 2 ∨ c = 3) : jmax 0 (c - 1) = dc c := by
  rcases h with rfl | rfl | rfl | rfl <;> decide
theorem ic_eq {c : Int32} (h : c = 0 ∨ c = 1 ∨ c = 2 ∨ c = 3) : jmin 3 (c + 1) = ic c := by
  rcases h with rfl | rfl | rfl | rfl <;> decide
theorem enC (a : Int32) : (en a).toNatClampNeg = eN a ∧ vp_in (en a) 12 := by
  refine ⟨rfl, ?_⟩
  rw [en_nI]; exact vp_in_nI (by have := eN_lt a; omega) (by decide)
/-- what a jump makes of the entries: nothing, or a new age -/
theorem learnK_ev (S : St) (a j w c : Int32) (h0 : okTb (ctb S 0)) : ∃ S', evV (wp_For_learn S a j w c) S' ∧ (∀ i, i ≠ 8 → i ≠ 9 → i ≠ 10 → i ≠ 11 → S' i = S i) ∧ eqv (ctb S' 0) (lrn (ctb S 0) a w j) ∧ ((S' = S ∧ eqv (lrn (ctb S 0) a w j) (ctb S 0)) ∨ (eqv (ctb S' 1) (ctb S 0) ∧ eqv (ctb S' 2) (ctb S 1) ∧ S' 11 0 = c ∧ S' 11 1 = S 11 0)) := by
  obtain ⟨_, hin⟩ := enC a
  have opn : ∀ K : St → Prop, (if S 8 (eN a) = a then wp_For_learn_22 K S a j w c (en a) 1 else wp_For_learn_22 K S a j w c (en a) 0) → wp_For_learn S a j w c K := by
    intro K h
    unfold wp_For_learn wp_For_entryFor
    exact ⟨hin, h⟩
  have k0 : ∀ f, f < 3 → kE S c (8 + f) (eN a) = S (8 + f) (eN a) := fun f hf => (kE_tb S c).1 f hf _ (eN_lt a)
  -- a change of age 0 at the entry
  have chg : ∀ (S' : St) (u v d : Int32), (∀ i, i ≠ 8 → i ≠ 9 → i ≠ 10 → S' i = kE S c i) → S' 8 = upd (kE S c 8) (eN a) u → S' 9 = upd (kE S c 9) (eN a) v → S' 10 = upd (kE S c 10) (eN a) d → (∀ f, f < 3 → lrn (ctb S 0) a w j f (eN a) = if f = 0 then u else if f = 1 then v else d) → (∀ i, i ≠ 8 → i ≠ 9 → i ≠ 10 → i ≠ 11 → S' i = S i) ∧ eqv (ctb S' 0) (lrn (ctb S 0) a w j) ∧ ((S' = S ∧ eqv (lrn (ctb S 0) a w j) (ctb S 0)) ∨ (eqv (ctb S' 1) (ctb S 0) ∧ eqv (ctb S' 2) (ctb S 1) ∧ S' 11 0 = c ∧ S' 11 1 = S 11 0)) := by
    intro S' u v d f1 f8 f9 f10 hl
    obtain ⟨t0, t1, t2⟩ := kE_tb S c
    obtain ⟨g1, g2, g3⟩ := kE_rows S c
    have row : ∀ f, f < 3 → ∀ x, S' (8 + f) x = if x = eN a then (if f = 0 then u else if f = 1 then v else d) else kE S c (8 + f) x := by
      intro f hf x
      have h1 : f = 0 ∨ f = 1 ∨ f = 2 := by omega
      rcases h1 with rfl | rfl | rfl
      · show S' 8 x = _
        rw [f8]; rfl
      · show S' 9 x = _
        rw [f9]; rfl
      · show S' 10 x = _
        rw [f10]; rfl
    have s11 : S' 11 = kE S c 11 := f1 11 (by decide) (by decide) (by decide)
    refine ⟨fun i h1 h2 h3 h4 => (f1 i h1 h2 h3).trans (g1 i h1 h2 h3 h4), ?_, Or.inr ⟨?_, ?_, by rw [s11]; exact g2, by rw [s11]; exact g3⟩⟩
    · intro f hf e he
      show S' (8 + f) e = _
      rw [row f hf]
      by_cases q : e = eN a
      · subst q; rw [if_pos rfl, hl f hf]
      · rw [if_neg q]
        have : kE S c (8 + f) e = S (8 + f) e := t0 f hf e he
        rw [this]
        unfold lrn
        rw [if_neg q]; rfl
    · intro f hf e he
      show S' (8 + f) (e + 4 * 1) = _
      have := eN_lt a
      rw [row f hf, if_neg (by omega)]
      exact t1 f hf e he
    · intro f hf e he
      show S' (8 + f) (e + 4 * 2) = _
      have := eN_lt a
      rw [row f hf, if_neg (by omega)]
      exact t2 f hf e he
  have at0 : ctb S 0 0 (eN a) = S 8 (eN a) := rfl
  by_cases kn : S 8 (eN a) = a
  · by_cases cj : j = 0
    · refine ⟨st (kE S c) 10 (eN a) (dc (S 10 (eN a))), fun K k => opn K ?_, chg _ a (S 9 (eN a)) (dc (S 10 (eN a))) (fun i _ _ h3 => st_ne h3) ?_ ?_ st_eq ?_⟩
      · rw [if_pos kn]
        unfold wp_For_learn_22
        rw [if_neg (by decide)]
        unfold wp_For_learn_34
        refine keep_ev S c _ ?_
        rw [if_pos cj]
        refine ⟨hin, hin, fun S10 e10 => ?_⟩
        subst e10
        have e : kE S c 10 (en a).toNatClampNeg = S 10 (eN a) := k0 2 (by decide)
        rw [e, dc_eq (c := S 10 (eN a)) (h0 (eN a) (eN_lt a)).1]
        exact k
      · rw [st_ne (by decide)]
        have e : kE S c 8 (eN a) = a := (k0 0 (by decide)).trans kn
        have e2 := upd_self (kE S c 8) (eN a)
        rw [e] at e2
        exact e2.symm
      · rw [st_ne (by decide)]
        have e : kE S c 9 (eN a) = S 9 (eN a) := k0 1 (by decide)
        rw [← e, upd_self]
      · intro f hf
        unfold lrn
        rw [if_pos rfl, at0, if_pos kn, if_pos cj]
        have h1 : f = 0 ∨ f = 1 ∨ f = 2 := by omega
        rcases h1 with rfl | rfl | rfl
        · exact kn
        · rfl
        · rfl
    · refine ⟨st (st (st (kE S c) 10 (eN a) (ic (S 10 (eN a)))) 8 (eN a) a) 9 (eN a) w, fun K k => opn K ?_, chg _ a w (ic (S 10 (eN a))) (fun i h1 h2 h3 => by rw [st_ne h2, st_ne h1, st_ne h3]) ?_ ?_ ?_ ?_⟩
      · rw [if_pos kn]
        unfold wp_For_learn_22
        rw [if_neg (by decide)]
        unfold wp_For_learn_34
        refine keep_ev S c _ ?_
        rw [if_neg cj, if_neg (by decide)]
        refine ⟨hin, ?_⟩
        unfold wp_For_learn_93
        refine ⟨hin, fun S11 e11 => ⟨hin, fun S12 e12 => ⟨hin, fun S13 e13 => ?_⟩⟩⟩
        subst e11 e12 e13
        have e : kE S c 10 (en a).toNatClampNeg = S 10 (eN a) := k0 2 (by decide)
        rw [e, ic_eq (c := S 10 (eN a)) (h0 (eN a) (eN_lt a)).1]
        exact k
      · rw [st_ne (by decide), st_eq, st_ne (by decide)]
      · rw [st_eq, st_ne (by decide), st_ne (by decide)]
      · rw [st_ne (by decide), st_ne (by decide), st_eq]
      · intro f hf
        unfold lrn
        rw [if_pos rfl, at0, if_pos kn, if_neg cj]
        have h1 : f = 0 ∨ f = 1 ∨ f = 2 := by omega
        rcases h1 with rfl | rfl | rfl
        · exact kn
        · rfl
        · rfl
  · by_cases cj : j = 0
    · refine ⟨S, fun K k => opn K ?_, fun i _ _ _ _ => rfl, ?_, Or.inl ⟨rfl, ?_⟩⟩
      · rw [if_neg kn]
        unfold wp_For_learn_22
        rw [if_pos rfl, if_pos cj]; exact k
      · rw [cj]; exact eqv_sy (lrn_no kn)
      · rw [cj]; exact lrn_no kn
    · refine ⟨st (st (st (kE S c) 10 (eN a) 2) 8 (eN a) a) 9 (eN a) w, fun K k => opn K ?_, chg _ a w 2 (fun i h1 h2 h3 => by rw [st_ne h2, st_ne h1, st_ne h3]) ?_ ?_ ?_ ?_⟩
      · rw [if_neg kn]
        unfold wp_For_learn_22
        rw [if_pos rfl, if_neg cj]
        unfold wp_For_learn_34
        refine keep_ev S c _ ?_
        rw [if_neg cj, if_pos rfl]
        unfold wp_For_learn_93
        refine ⟨hin, fun S11 e11 => ⟨hin, fun S12 e12 => ⟨hin, fun S13 e13 => ?_⟩⟩⟩
        subst e11 e12 e13
        exact k
      · rw [st_ne (by decide), st_eq, st_ne (by decide)]
      · rw [st_eq, st_ne (by decide), st_ne (by decide)]
      · rw [st_ne (by decide), st_ne (by decide), st_eq]
      · intro f hf
        unfold lrn
        rw [if_pos rfl, at0, if_neg kn, if_neg cj]
