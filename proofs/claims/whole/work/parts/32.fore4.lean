theorem mf_same {T T' : St} {n : Nat} (h0 : ∀ f, f < 3 → ∀ e, e < 4 → T' (18 + f) e = T (18 + f) e) (h : ∀ r, 21 ≤ r → r ≤ 24 → ∀ i, i < n → T' r i = T r i) (t : Int32) : ∀ i, i ≤ n → eqv (mf T' t i) (mf T t i) := by
  intro i
  induction i with
  | zero =>
    intro _ f hf e he
    show T' (18 + f) (0 + e) = T (18 + f) (0 + e)
    rw [Nat.zero_add]; exact h0 f hf e he
  | succ i ih =>
    intro hi
    show eqv (if T' 24 i < t then lrn (mf T' t i) (T' 21 i) (T' 22 i) (T' 23 i) else mf T' t i) (if T 24 i < t then lrn (mf T t i) (T 21 i) (T 22 i) (T 23 i) else mf T t i)
    rw [h 24 (by omega) (by omega) i (by omega), h 21 (by omega) (by omega) i (by omega), h 22 (by omega) (by omega) i (by omega), h 23 (by omega) (by omega) i (by omega)]
    by_cases c : T 24 i < t
    · rw [if_pos c, if_pos c]; exact lrn_eqv (ih (by omega)) _ _ _
    · rw [if_neg c, if_neg c]; exact ih (by omega)
/-- one that is no jump, or traps: the entries stay -/
theorem FO_skip {n : Nat} {S T S' T' : St} (h : FO n S T) (s8 : S' 8 = S 8) (s9 : S' 9 = S 9) (s10 : S' 10 = S 10) (s11 : S' 11 = S 11) (hr : ∀ r, 18 ≤ r → r ≤ 24 → T' r = T r) (h32 : T' 0 32 = T 0 32) (hle : T 0 11 ≤ T' 0 11) (hf : T 0 16 ≤ T' 0 16) (hf2 : T 0 11 ≤ T' 0 16) : FO n S' T' := by
  obtain ⟨hn, hn3, hc, ht, o0, o1, o2, hB, hs, hl, ⟨pe, hpe, hpe2⟩, hch, hc0, hF⟩ := h
  have cb : ∀ k, eqv (ctb S' k) (ctb S k) := by
    intro k f hf e he
    have : f = 0 ∨ f = 1 ∨ f = 2 := by omega
    rcases this with rfl | rfl | rfl
    · show S' 8 _ = S 8 _
      rw [s8]
    · show S' 9 _ = S 9 _
      rw [s9]
    · show S' 10 _ = S 10 _
      rw [s10]
  have cs : ∀ t, eqv (ctS S' t) (ctS S t) := by
    intro t
    unfold ctS
    rw [s11]
    split
    · split
      · exact cb 0
      · exact cb 1
    · exact cb 2
  have m4 : mtb T' 4 = mtb T 4 ∨ True := Or.inr trivial
  refine ⟨h32.trans hn, hn3, ?_, ?_, okTb_eqv o0 (eqv_sy (cb 0)), okTb_eqv o1 (eqv_sy (cb 1)), okTb_eqv o2 (eqv_sy (cb 2)), ?_, ?_, ?_, ⟨T 0 11, hf2, ?_⟩, by rw [s11]; exact hch, ?_, ?_⟩
  · refine eqv_tr (cb 0) (eqv_tr hc ?_)
    intro f hf e he
    show T (18 + f) (4 + e) = T' (18 + f) (4 + e)
    rw [hr (18 + f) (by omega) (by omega)]
  · intro t htt
    have h1 : T 0 16 ≤ t := by rw [i_le] at hf htt ⊢; omega
    refine eqv_tr (cs t) (eqv_tr (ht t h1) (eqv_sy (mf_same (n := n) (fun f hf e he => ?_) (fun r h1 h2 i hi => ?_) t n (Nat.le_refl _))))
    · rw [hr (18 + f) (by omega) (by omega)]
    · rw [hr r (by omega) (by omega)]
  · intro i hi; rw [hr 23 (by omega) (by omega)]; exact hB i hi
  · intro i hi; rw [hr 24 (by omega) (by omega)]; exact hs i hi
  · intro i hi; rw [hr 24 (by omega) (by omega)]
    have := hl i hi
    rw [i_le] at this hle ⊢; omega
  · intro i hi; rw [hr 24 (by omega) (by omega)]
    exact Or.inr (hl i hi)
  · rw [s11]; rw [i_le] at hc0 hle ⊢; omega
  · rw [i_lt] at hF ⊢; rw [i_le] at hf; omega
/-- a jump that does not trap -/
theorem FO_jump {n : Nat} {S T S' T' : St} {a w j e : Int32} (h : FO n S T) (hn2 : n ≤ 2) (hj : isB j) (ha : ¬ a < 0) (hlt : T 0 11 < e) (k0 : eqv (ctb S' 0) (lrn (ctb S 0) a w j)) (kc : (S' 8 = S 8 ∧ S' 9 = S 9 ∧ S' 10 = S 10 ∧ S' 11 = S 11 ∧ eqv (lrn (ctb S 0) a w j) (ctb S 0)) ∨ (eqv (ctb S' 1) (ctb S 0) ∧ eqv (ctb S' 2) (ctb S 1) ∧ S' 11 0 = e ∧ S' 11 1 = S 11 0)) (t4 : eqv (mtb T' 4) (lrn (mtb T 4) a w j)) (t0 : ∀ f, f < 3 → ∀ x, x < 4 → T' (18 + f) x = T (18 + f) x) (te : ∀ r, 21 ≤ r → r ≤ 24 → ∀ i, i < n → T' r i = T r i) (n21 : T' 21 n = a) (n22 : T' 22 n = w) (n23 : T' 23 n = j) (n24 : T' 24 n = e) (h32 : T' 0 32 = nI (n + 1)) (h11 : T' 0 11 = e) (hf : T 0 16 ≤ T' 0 16) (hf2 : T 0 11 ≤ T' 0 16) : FO (n + 1) S' T' := by
  obtain ⟨hn, hn3, hc, ht, o0, o1, o2, hB, hs, hl, ⟨pe, hpe, hpe2⟩, hch, hc0, hF⟩ := h
  have hF' : 0 < T' 0 16 := by rw [i_lt] at hF ⊢; rw [i_le] at hf; omega
  have e0 : (0 : Int32).toInt = 0 := by decide
  have ms : ∀ t, eqv (mf T' t n) (mf T t n) := fun t => mf_same t0 te t n (Nat.le_refl _)
  have big : ∀ t, T 0 11 < t → ctS S t = ctb S 0 := by
    intro t htt
    unfold ctS
    have c0 : S 11 0 < t := by rw [i_lt] at htt ⊢; rw [i_le] at hc0; omega
    have c1 : S 11 1 < t := by
      rcases hch with q | ⟨q1, q2⟩
      · rw [i_lt] at q c0 ⊢; omega
      · rw [q2]; rw [q1] at c0; exact c0
    rw [if_pos c1, if_pos c0]
  refine ⟨h32, by omega, ?_, ?_, okTb_eqv (lrn_ok o0 ha) (eqv_sy k0), ?_, ?_, ?_, ?_, ?_, ⟨T 0 11, hf2, ?_⟩, ?_, ?_, hF'⟩
  · exact eqv_tr k0 (eqv_tr (lrn_eqv hc _ _ _) (eqv_sy t4))
  · intro t htt
    have h1 : T 0 16 ≤ t := by rw [i_le] at hf htt ⊢; omega
    show eqv (ctS S' t) (if T' 24 n < t then lrn (mf T' t n) (T' 21 n) (T' 22 n) (T' 23 n) else mf T' t n)
    rw [n24, n21, n22, n23]
    by_cases c : e < t
    · rw [if_pos c]
      have b1 : T 0 11 < t := by rw [i_lt] at c hlt ⊢; omega
      have g1 : eqv (lrn (ctb S 0) a w j) (lrn (mf T' t n) a w j) := by
        refine lrn_eqv ?_ _ _ _
        have := ht t h1
        rw [big t b1] at this
        exact eqv_tr this (eqv_sy (ms t))
      refine eqv_tr ?_ g1
      rcases kc with ⟨s8, s9, s10, s11, q⟩ | ⟨q1, q2, q3, q4⟩
      · have : ctS S' t = ctb S' 0 := by
          unfold ctS
          rw [s11]
          have c0 : S 11 0 < t := by rw [i_lt] at b1 ⊢; rw [i_le] at hc0; omega
          have c1 : S 11 1 < t := by
            rcases hch with q | ⟨q1, q2⟩
            · rw [i_lt] at q c0 ⊢; omega
            · rw [q2]; rw [q1] at c0; exact c0
          rw [if_pos c1, if_pos c0]
        rw [this]; exact k0
      · have : ctS S' t = ctb S' 0 := by
          unfold ctS
          rw [q3, q4, if_pos (by rw [i_lt] at b1 ⊢; rw [i_le] at hc0; omega), if_pos c]
        rw [this]; exact k0
    · rw [if_neg c]
      refine eqv_tr ?_ (eqv_tr (ht t h1) (eqv_sy (ms t)))
      rcases kc with ⟨s8, s9, s10, s11, q⟩ | ⟨q1, q2, q3, q4⟩
      · have cb : ∀ k, eqv (ctb S' k) (ctb S k) := by
          intro k f hf e he
          have : f = 0 ∨ f = 1 ∨ f = 2 := by omega
          rcases this with rfl | rfl | rfl
          · show S' 8 _ = S 8 _
            rw [s8]
          · show S' 9 _ = S 9 _
            rw [s9]
          · show S' 10 _ = S 10 _
            rw [s10]
        unfold ctS
        rw [s11]
        split
        · split
          · exact cb 0
          · exact cb 1
        · exact cb 2
      · by_cases c0 : S 11 0 < t
        · have e1 : ctS S' t = ctb S' 1 := by
            unfold ctS
            rw [q3, q4, if_pos c0, if_neg c]
          have e2 : ctS S t = ctb S 0 := by
            unfold ctS
            have c1 : S 11 1 < t := by
              rcases hch with q | ⟨q1, q2⟩
              · rw [i_lt] at q c0 ⊢; omega
              · rw [q2]; rw [q1] at c0; exact c0
            rw [if_pos c1, if_pos c0]
          rw [e1, e2]; exact q1
        · have e1 : ctS S' t = ctb S' 2 := by
            unfold ctS
            rw [q4, if_neg c0]
          have e2 : ctS S t = ctb S 1 := by
            unfold ctS
            have c1 : S 11 1 < t := by
              rcases hch with q | ⟨q1, q2⟩
              · rw [i_lt] at q ⊢; rw [i_le] at hc0 hf2 htt; omega
              · exfalso
                rw [q1, i_lt, e0] at c0
                rw [i_lt, e0] at hF'
                rw [i_le] at htt
                omega
            rw [if_pos c1, if_neg c0]
          rw [e1, e2]; exact q2
  · rcases kc with ⟨s8, s9, s10, s11, q⟩ | ⟨q1, q2, q3, q4⟩
    · refine okTb_eqv o1 ?_
      intro f hf e he
      have : f = 0 ∨ f = 1 ∨ f = 2 := by omega
      rcases this with rfl | rfl | rfl
      · show S 8 _ = S' 8 _
        rw [s8]
      · show S 9 _ = S' 9 _
        rw [s9]
      · show S 10 _ = S' 10 _
        rw [s10]
    · exact okTb_eqv o0 (eqv_sy q1)
  · rcases kc with ⟨s8, s9, s10, s11, q⟩ | ⟨q1, q2, q3, q4⟩
    · refine okTb_eqv o2 ?_
      intro f hf e he
      have : f = 0 ∨ f = 1 ∨ f = 2 := by omega
      rcases this with rfl | rfl | rfl
      · show S 8 _ = S' 8 _
        rw [s8]
      · show S 9 _ = S' 9 _
        rw [s9]
      · show S 10 _ = S' 10 _
        rw [s10]
    · exact okTb_eqv o1 (eqv_sy q2)
  · intro i hi
    by_cases q : i = n
    · rw [q, n23]; exact hj
    · rw [te 23 (by omega) (by omega) i (by omega)]; exact hB i (by omega)
  · intro i hi
    by_cases q : i + 1 = n
    · rw [q, n24, te 24 (by omega) (by omega) i (by omega)]
      have := hl i (by omega)
      rw [i_lt] at hlt ⊢; rw [i_le] at this; omega
    · rw [te 24 (by omega) (by omega) i (by omega), te 24 (by omega) (by omega) (i + 1) (by omega)]; exact hs i (by omega)
  · intro i hi
    rw [h11]
    by_cases q : i = n
    · rw [q, n24, i_le]; omega
    · rw [te 24 (by omega) (by omega) i (by omega)]
      have := hl i (by omega)
      rw [i_lt] at hlt; rw [i_le] at this ⊢; omega
  · intro i hi
    rw [h11]
    by_cases q : i = n
    · rw [q, n24]; exact Or.inl rfl
    · rw [te 24 (by omega) (by omega) i (by omega)]
      exact Or.inr (hl i (by omega))
  · rcases kc with ⟨s8, s9, s10, s11, q⟩ | ⟨q1, q2, q3, q4⟩
    · rw [s11]; exact hch
    · left
      rw [q3, q4]; rw [i_lt] at hlt ⊢; rw [i_le] at hc0; omega
  · rw [h11]
    rcases kc with ⟨s8, s9, s10, s11, q⟩ | ⟨q1, q2, q3, q4⟩
    · rw [s11]; rw [i_lt] at hlt; rw [i_le] at hc0 ⊢; omega
    · rw [q3, i_le]; omega
