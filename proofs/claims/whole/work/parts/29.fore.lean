/-! foretelling: tables of four entries, by field (0 address, 1 target, 2 count) and number -/
def en (a : Int32) : Int32 := (a >>> ((2 : Int32) &&& 31)) &&& 3
def eN (a : Int32) : Nat := (en a).toNatClampNeg
theorem en_in (a : Int32) : vp_in (en a) 4 := in_m _ 2 (by decide) (by decide) (by decide)
theorem eN_lt (a : Int32) : eN a < 4 := cl4 (en_in a)
theorem en_nI (a : Int32) : en a = nI (eN a) := by
  obtain ⟨j, hj, e⟩ := vp_in_of (en_in a) (by decide)
  have : eN a = j := by unfold eN; rw [e, nI_clamp (by omega)]
  rw [this, e]
def ctb (S : St) (k : Nat) : Nat → Nat → Int32 := fun f e => S (8 + f) (e + 4 * k)
def mtb (T : St) (b : Nat) : Nat → Nat → Int32 := fun f e => T (18 + f) (b + e)
def eqv (X Y : Nat → Nat → Int32) : Prop := ∀ f, f < 3 → ∀ e, e < 4 → X f e = Y f e
def okTb (X : Nat → Nat → Int32) : Prop := ∀ e, e < 4 → (X 2 e = 0 ∨ X 2 e = 1 ∨ X 2 e = 2 ∨ X 2 e = 3) ∧ (X 0 e < 0 → X 2 e = 0)
theorem eqv_rf (X : Nat → Nat → Int32) : eqv X X := fun _ _ _ _ => rfl
theorem eqv_sy {X Y : Nat → Nat → Int32} (h : eqv X Y) : eqv Y X := fun f hf e he => (h f hf e he).symm
theorem eqv_tr {X Y Z : Nat → Nat → Int32} (h : eqv X Y) (k : eqv Y Z) : eqv X Z := fun f hf e he => (h f hf e he).trans (k f hf e he)
theorem okTb_eqv {X Y : Nat → Nat → Int32} (h : okTb X) (k : eqv X Y) : okTb Y := fun e he => by
  rw [← k 2 (by decide) e he, ← k 0 (by decide) e he]; exact h e he
def gs (X : Nat → Nat → Int32) (a : Int32) : Int32 := if X 0 (eN a) = a then (if X 2 (eN a) ≤ 1 then a + 4 else X 1 (eN a)) else a + 4
theorem gs_eqv {X Y : Nat → Nat → Int32} (k : eqv X Y) (a : Int32) : gs X a = gs Y a := by
  unfold gs
  rw [k 0 (by decide) _ (eN_lt a), k 1 (by decide) _ (eN_lt a), k 2 (by decide) _ (eN_lt a)]
def dc (c : Int32) : Int32 := if c ≤ 0 then 0 else c - 1
def ic (c : Int32) : Int32 := if (3 : Int32) ≤ c then 3 else c + 1
def lrn (X : Nat → Nat → Int32) (a w j : Int32) : Nat → Nat → Int32 := fun f e => if e = eN a then (if X 0 e = a then (if j = 0 then (if f = 2 then dc (X 2 e) else X f e) else (if f = 0 then X 0 e else if f = 1 then w else ic (X 2 e))) else (if j = 0 then X f e else (if f = 0 then a else if f = 1 then w else 2))) else X f e
theorem lrn_eqv {X Y : Nat → Nat → Int32} (k : eqv X Y) (a w j : Int32) : eqv (lrn X a w j) (lrn Y a w j) := by
  intro f hf e he
  unfold lrn
  rw [k 0 (by decide) e he, k 2 (by decide) e he, k f hf e he]
theorem lrn_no {X : Nat → Nat → Int32} {a w : Int32} (h : ¬ X 0 (eN a) = a) : eqv (lrn X a w 0) X := by
  intro f hf e he
  unfold lrn
  by_cases q : e = eN a
  · rw [if_pos q, if_neg (by rw [q]; exact h), if_pos rfl]
  · rw [if_neg q]
theorem lrn_ok {X : Nat → Nat → Int32} (h : okTb X) {a w j : Int32} (ha : ¬ a < 0) : okTb (lrn X a w j) := by
  intro e he
  obtain ⟨h1, h2⟩ := h e he
  by_cases q : e = eN a
  · have e2 : lrn X a w j 2 e = if X 0 e = a then (if j = 0 then dc (X 2 e) else ic (X 2 e)) else (if j = 0 then X 2 e else 2) := by
      unfold lrn; rw [if_pos q]; rfl
    have e0 : lrn X a w j 0 e = if X 0 e = a then X 0 e else (if j = 0 then X 0 e else a) := by
      unfold lrn; rw [if_pos q]
      by_cases c : X 0 e = a
      · rw [if_pos c, if_pos c]
        by_cases c2 : j = 0
        · rw [if_pos c2]; rfl
        · rw [if_neg c2]; rfl
      · rw [if_neg c, if_neg c]; rfl
    rw [e2, e0]
    by_cases c : X 0 e = a
    · rw [if_pos c, if_pos c]
      refine ⟨?_, fun n => absurd (c ▸ n) ha⟩
      by_cases c2 : j = 0
      · rw [if_pos c2]
        rcases h1 with e1 | e1 | e1 | e1 <;> rw [e1] <;> decide
      · rw [if_neg c2]
        rcases h1 with e1 | e1 | e1 | e1 <;> rw [e1] <;> decide
    · rw [if_neg c, if_neg c]
      by_cases c2 : j = 0
      · rw [if_pos c2, if_pos c2]; exact ⟨h1, h2⟩
      · rw [if_neg c2, if_neg c2]; exact ⟨Or.inr (Or.inr (Or.inl rfl)), fun n => absurd n ha⟩
  · have e2 : lrn X a w j 2 e = X 2 e := by unfold lrn; rw [if_neg q]
    have e0 : lrn X a w j 0 e = X 0 e := by unfold lrn; rw [if_neg q]
    rw [e2, e0]; exact ⟨h1, h2⟩
/-- the index of an entry in the reference's arrays -/
theorem ix0 (a : Int32) : ((0 : Int32) + en a).toNatClampNeg = 0 + eN a ∧ vp_in ((0 : Int32) + en a) 8 := by
  rw [Int32.zero_add]
  refine ⟨by rw [Nat.zero_add]; rfl, ?_⟩
  rw [en_nI]; exact vp_in_nI (by have := eN_lt a; omega) (by decide)
theorem ix4 (a : Int32) : ((4 : Int32) + en a).toNatClampNeg = 4 + eN a ∧ vp_in ((4 : Int32) + en a) 8 := by
  have := eN_lt a
  rw [en_nI, show (4 : Int32) = nI 4 from rfl, nI_add]
  exact ⟨nI_clamp (by omega), vp_in_nI (by omega) (by decide)⟩
theorem guess_ev (T : St) {b : Int32} {bN : Nat} {a : Int32} (hi : (b + en a).toNatClampNeg = bN + eN a ∧ vp_in (b + en a) 8) (ho : okTb (mtb T bN)) : evI (wp_M_guess T b a) (gs (mtb T bN) a) T := fun K k => by
  unfold wp_M_guess wp_M_guess_41 wp_M_guess_44
  intro x e
  have e' : x = b + en a := e
  subst e'
  refine ⟨hi.2, ?_⟩
  rw [hi.1]
  unfold gs mtb at k
  show @ite Prop (T 18 (bN + eN a) = a) _ _ _
  by_cases c : T 18 (bN + eN a) = a
  · rw [if_pos c]
    rw [if_pos (show T (18 + 0) (bN + eN a) = a from c)] at k
    by_cases n : a < 0
    · rw [if_pos n]
      have h2 := (ho (eN a) (eN_lt a)).2 (by show T (18 + 0) (bN + eN a) < 0; rw [show T (18 + 0) (bN + eN a) = a from c]; exact n)
      rw [if_pos (by rw [show T (18 + 2) (bN + eN a) = 0 from h2]; decide)] at k
      exact k
    · rw [if_neg n]
      refine ⟨hi.2, ?_⟩
      show @ite Prop (T 20 (bN + eN a) ≤ 1) _ _ _
      by_cases c2 : T 20 (bN + eN a) ≤ 1
      · rw [if_pos c2]
        rw [if_pos (show T (18 + 2) (bN + eN a) ≤ 1 from c2)] at k
        exact k
      · rw [if_neg c2]
        rw [if_neg (show ¬ T (18 + 2) (bN + eN a) ≤ 1 from c2)] at k
        exact ⟨hi.2, k⟩
  · rw [if_neg c]
    rw [if_neg (show ¬ T (18 + 0) (bN + eN a) = a from c)] at k
    exact k
/-- three rows at one place -/
def s3 (T : St) (x : Nat) (u v w : Int32) : St := fun i => if i = 18 then upd (T 18) x u else if i = 19 then upd (T 19) x v else if i = 20 then upd (T 20) x w else T i
theorem s3_ne {T : St} {x : Nat} {u v w : Int32} {i : Nat} (h1 : i ≠ 18) (h2 : i ≠ 19) (h3 : i ≠ 20) : s3 T x u v w i = T i := by
  unfold s3; rw [if_neg h1, if_neg h2, if_neg h3]
theorem s3_tb {T : St} {x bN : Nat} {u v w : Int32} {f e : Nat} (hf : f < 3) : mtb (s3 T x u v w) bN f e = if bN + e = x then (if f = 0 then u else if f = 1 then v else w) else mtb T bN f e := by
  unfold mtb s3
  have : f = 0 ∨ f = 1 ∨ f = 2 := by omega
  rcases this with rfl | rfl | rfl
  · show upd (T 18) x u (bN + e) = _
    unfold upd
    rfl
  · show upd (T 19) x v (bN + e) = _
    unfold upd
    rfl
  · show upd (T 20) x w (bN + e) = _
    unfold upd
    rfl
theorem learn_ev (T : St) {b : Int32} {bN : Nat} {a w j : Int32} (hi : (b + en a).toNatClampNeg = bN + eN a ∧ vp_in (b + en a) 8) : ∃ T', evV (wp_M_learn T b a w j) T' ∧ eqv (mtb T' bN) (lrn (mtb T bN) a w j) ∧ (∀ i, i ≠ 18 → i ≠ 19 → i ≠ 20 → T' i = T i) ∧ (∀ f, f < 3 → ∀ x, x ≠ bN + eN a → T' (18 + f) x = T (18 + f) x) := by
  have main : ∀ u v c : Int32, (∀ f, f < 3 → (lrn (mtb T bN) a w j) f (eN a) = if f = 0 then u else if f = 1 then v else c) → ∀ T', T' = s3 T (bN + eN a) u v c → eqv (mtb T' bN) (lrn (mtb T bN) a w j) ∧ (∀ i, i ≠ 18 → i ≠ 19 → i ≠ 20 → T' i = T i) ∧ (∀ f, f < 3 → ∀ x, x ≠ bN + eN a → T' (18 + f) x = T (18 + f) x) := by
    intro u v c h T' hT
    subst hT
    refine ⟨fun f hf e he => ?_, fun i h1 h2 h3 => s3_ne h1 h2 h3, fun f hf x hx => ?_⟩
    · rw [s3_tb hf]
      by_cases q : e = eN a
      · subst q
        rw [if_pos rfl, h f hf]
      · rw [if_neg (by omega)]
        unfold lrn
        rw [if_neg q]
    · have := s3_tb (T := T) (x := bN + eN a) (bN := 0) (u := u) (v := v) (w := c) (f := f) (e := x) hf
      unfold mtb at this
      rw [Nat.zero_add] at this
      rw [this, if_neg hx]
  have st3 : ∀ u v c : Int32, st (st (st T 18 (bN + eN a) u) 19 (bN + eN a) v) 20 (bN + eN a) c = s3 T (bN + eN a) u v c := by
    intro u v c
    funext i
    unfold s3
    by_cases h1 : i = 18
    · subst h1; rfl
    by_cases h2 : i = 19
    · subst h2; rfl
    by_cases h3 : i = 20
    · subst h3; rfl
    rw [if_neg h1, if_neg h2, if_neg h3, st_ne h3, st_ne h2, st_ne h1]
  have st2 : ∀ v c : Int32, st (st T 20 (bN + eN a) c) 19 (bN + eN a) v = s3 T (bN + eN a) (T 18 (bN + eN a)) v c := by
    intro v c
    funext i
    unfold s3
    by_cases h1 : i = 18
    · subst h1
      rw [if_pos rfl, upd_self]
      rfl
    by_cases h2 : i = 19
    · subst h2; rfl
    by_cases h3 : i = 20
    · subst h3; rfl
    rw [if_neg h1, if_neg h2, if_neg h3, st_ne h2, st_ne h3]
  have at0 : mtb T bN 0 (eN a) = T 18 (bN + eN a) := rfl
  have at1 : mtb T bN 1 (eN a) = T 19 (bN + eN a) := rfl
  have at2 : mtb T bN 2 (eN a) = T 20 (bN + eN a) := rfl
  have opn : ∀ K : St → Prop, (if T 18 (bN + eN a) = a then (if j = 0 then (if T 20 (bN + eN a) ≤ 0 then wp_M_learn_81 K T w j (b + en a) 0 (b + en a) else wp_M_learn_81 K T w j (b + en a) (T 20 (bN + eN a) - 1) (b + en a)) else (if (3 : Int32) ≤ T 20 (bN + eN a) then wp_M_learn_81 K T w j (b + en a) 3 (b + en a) else wp_M_learn_81 K T w j (b + en a) (T 20 (bN + eN a) + 1) (b + en a))) else (if j = 0 then K T else K (st (st (st T 18 (bN + eN a) a) 19 (bN + eN a) w) 20 (bN + eN a) 2))) → wp_M_learn T b a w j K := by
    intro K h
    unfold wp_M_learn wp_M_learn_137
    intro x e
    have e' : x = b + en a := e
    subst e'
    refine ⟨hi.2, ?_⟩
    rw [hi.1]
    by_cases c : T 18 (bN + eN a) = a
    · rw [if_pos c] at h ⊢
      by_cases c2 : j = 0
      · rw [if_pos c2] at h ⊢
        refine ⟨hi.2, ?_⟩
        by_cases c3 : T 20 (bN + eN a) ≤ 0
        · rw [if_pos c3] at h ⊢; exact h
        · rw [if_neg c3] at h ⊢; exact ⟨hi.2, h⟩
      · rw [if_neg c2] at h ⊢
        refine ⟨hi.2, ?_⟩
        by_cases c3 : (3 : Int32) ≤ T 20 (bN + eN a)
        · rw [if_pos c3] at h ⊢; exact h
        · rw [if_neg c3] at h ⊢; exact ⟨hi.2, h⟩
    · rw [if_neg c] at h ⊢
      by_cases c2 : j = 0
      · rw [if_pos c2] at h ⊢; exact h
      · rw [if_neg c2] at h ⊢
        refine ⟨hi.2, fun S4 e4 => ⟨hi.2, fun S5 e5 => ⟨hi.2, fun S6 e6 => ?_⟩⟩⟩
        subst e4 e5 e6
        exact h
  have w81 : ∀ (K : St → Prop) (c v : Int32), v = (if j = 0 then T 19 (bN + eN a) else w) → K (st (st T 20 (bN + eN a) c) 19 (bN + eN a) v) → wp_M_learn_81 K T w j (b + en a) c (b + en a) := by
    intro K c v hv h
    unfold wp_M_learn_81 wp_M_learn_104 wp_M_learn_137
    refine ⟨hi.2, fun S10 e10 => ?_⟩
    subst e10
    rw [hi.1]
    by_cases c2 : j = 0
    · rw [if_pos c2] at hv ⊢
      refine ⟨hi.2, hi.2, fun S12 e12 => ?_⟩
      subst e12
      rw [hv] at h
      exact h
    · rw [if_neg c2] at hv ⊢
      refine ⟨hi.2, fun S12 e12 => ?_⟩
      subst e12
      rw [hv] at h
      exact h
  by_cases c : T 18 (bN + eN a) = a
  · have hl : ∀ f, f < 3 → (lrn (mtb T bN) a w j) f (eN a) = if f = 0 then T 18 (bN + eN a) else if f = 1 then (if j = 0 then T 19 (bN + eN a) else w) else (if j = 0 then dc (T 20 (bN + eN a)) else ic (T 20 (bN + eN a))) := by
      intro f hf
      unfold lrn
      rw [if_pos rfl, at0, if_pos c]
      have : f = 0 ∨ f = 1 ∨ f = 2 := by omega
      by_cases c2 : j = 0
      · rw [if_pos c2, if_pos c2, if_pos c2]
        rcases this with rfl | rfl | rfl <;> rfl
      · rw [if_neg c2, if_neg c2, if_neg c2]
        rcases this with rfl | rfl | rfl <;> rfl
    refine ⟨st (st T 20 (bN + eN a) (if j = 0 then dc (T 20 (bN + eN a)) else ic (T 20 (bN + eN a)))) 19 (bN + eN a) (if j = 0 then T 19 (bN + eN a) else w), fun K k => opn K ?_, main _ _ _ hl _ (st2 _ _)⟩
    rw [if_pos c]
    by_cases c2 : j = 0
    · rw [if_pos c2]
      have k2 := k
      rw [if_pos c2, if_pos c2] at k2
      unfold dc at k2
      by_cases c3 : T 20 (bN + eN a) ≤ 0
      · rw [if_pos c3] at k2 ⊢
        exact w81 K _ _ (by rw [if_pos c2]) k2
      · rw [if_neg c3] at k2 ⊢
        exact w81 K _ _ (by rw [if_pos c2]) k2
    · rw [if_neg c2]
      have k2 := k
      rw [if_neg c2, if_neg c2] at k2
      unfold ic at k2
      by_cases c3 : (3 : Int32) ≤ T 20 (bN + eN a)
      · rw [if_pos c3] at k2 ⊢
        exact w81 K _ _ (by rw [if_neg c2]) k2
      · rw [if_neg c3] at k2 ⊢
        exact w81 K _ _ (by rw [if_neg c2]) k2
  · by_cases c2 : j = 0
    · refine ⟨T, fun K k => opn K ?_, ?_, fun i _ _ _ => rfl, fun f _ x _ => rfl⟩
      · rw [if_neg c, if_pos c2]; exact k
      · rw [c2]
        exact eqv_sy (lrn_no c)
    · have hl : ∀ f, f < 3 → (lrn (mtb T bN) a w j) f (eN a) = if f = 0 then a else if f = 1 then w else 2 := by
        intro f hf
        unfold lrn
        rw [if_pos rfl, at0, if_neg c, if_neg c2]
      refine ⟨st (st (st T 18 (bN + eN a) a) 19 (bN + eN a) w) 20 (bN + eN a) 2, fun K k => opn K ?_, main _ _ _ hl _ (st3 _ _ _)⟩
      rw [if_neg c, if_neg c2]; exact k
