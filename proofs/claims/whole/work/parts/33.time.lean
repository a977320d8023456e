/-! times: what the coming one waits for -/
theorem jmax_eq (x y : Int32) : jmax x y = if y ≤ x then x else y := by
  unfold jmax
  by_cases h : x < y
  · rw [if_pos h, if_neg (Int32.not_le.mpr h)]
  · rw [if_neg h, if_pos (Int32.not_lt.mp h)]
theorem jmax_int (x y : Int32) : x.toInt ≤ (jmax x y).toInt ∧ y.toInt ≤ (jmax x y).toInt ∧ (jmax x y = x ∨ jmax x y = y) := by
  unfold jmax
  by_cases h : x < y
  · rw [if_pos h]; rw [i_lt] at h; exact ⟨by omega, by omega, Or.inr rfl⟩
  · rw [if_neg h]; rw [i_lt] at h; exact ⟨by omega, by omega, Or.inl rfl⟩
theorem add_int {x y : Int32} (h1 : 0 ≤ x.toInt) (h2 : x.toInt < 2 ^ 30) (h3 : 0 ≤ y.toInt) (h4 : y.toInt < 2 ^ 30) : (x + y).toInt = x.toInt + y.toInt := by
  rw [Int32.toInt_add]
  apply Int.bmod_eq_of_le_mul_two <;> omega
theorem one_int : (1 : Int32).toInt = 1 := by decide
theorem zero_int : (0 : Int32).toInt = 0 := by decide
def fd (T : St) : Int32 := if T 0 9 = 0 then T 0 16 + 1 else if T 0 11 ≤ T 0 16 + 1 then T 0 16 + 1 else T 0 11
theorem decoding_ev (T : St) : evI (wp_M_decoding T) (fd T) T := fun K k => by
  unfold wp_M_decoding wp_M_decoding_29 wp_M_decoding_30
  intro x e
  subst e
  unfold fd at k
  by_cases c : T 0 9 = 0
  · rw [if_pos c] at k ⊢; exact k
  · rw [if_neg c] at k ⊢
    by_cases c2 : T 0 11 ≤ T 0 16 + 1
    · rw [if_pos c2] at k ⊢; exact k
    · rw [if_neg c2] at k ⊢; exact k
def icd (T : St) : Prop := ¬ T 0 6 < 0 ∧ ¬ (512 : Int32) ≤ T 0 6
def wd (T : St) : Int32 := if T 0 6 < 0 then 0 else if (512 : Int32) ≤ T 0 6 then 0 else T 1 (T 0 6 / 4).toNatClampNeg
theorem ic_nat {a : Int32} (h1 : ¬ a < 0) (h2 : ¬ (512 : Int32) ≤ a) : ∃ j : Nat, j < 512 ∧ a = nI j := by
  rw [i_lt, zero_int] at h1
  rw [i_le] at h2
  have e : (512 : Int32).toInt = 512 := by decide
  rw [e] at h2
  refine ⟨a.toInt.toNat, by omega, i_eq.mpr ?_⟩
  rw [nI_toInt (by omega)]
  omega
theorem ic_facts : ∀ j, j < 512 → nI j >>> ((2 : Int32) &&& 31) = nI j / 4 ∧ 0 ≤ (nI j / 4).toInt ∧ (nI j / 4).toInt < 128 := by decide +kernel
theorem ic_ix {a : Int32} (h1 : ¬ a < 0) (h2 : ¬ (512 : Int32) ≤ a) : a >>> ((2 : Int32) &&& 31) = a / 4 ∧ vp_in (a / 4) 128 := by
  obtain ⟨j, hj, rfl⟩ := ic_nat h1 h2
  obtain ⟨f1, f2, f3⟩ := ic_facts j hj
  exact ⟨f1, vp_in_iff.mpr ⟨f2, f3⟩⟩
theorem inCode1 (T : St) (h : icd T) : evI (wp_M_inCode T) 1 T := fun K k => by
  unfold wp_M_inCode wp_M_inCode_22
  exact ie h.1 (ie h.2 ⟨isB_1, k⟩)
theorem inCode0 (T : St) (h : ¬ icd T) : evI (wp_M_inCode T) 0 T := fun K k => by
  unfold wp_M_inCode wp_M_inCode_21 wp_M_inCode_22
  by_cases c : T 0 6 < 0
  · exact it c ⟨isB_0, k⟩
  · by_cases c2 : (512 : Int32) ≤ T 0 6
    · exact ie c (it c2 ⟨isB_0, k⟩)
    · exact absurd ⟨c, c2⟩ h
def us (w r : Int32) : Prop := (uA (wOp w) (wF w) ∧ wA w = r) ∨ (uB (wOp w) ∧ wB w = r)
theorem usesA1 (T : St) (h : uA (wOp (T 0 44)) (wF (T 0 44))) : evI (wp_M_usesA T) 1 T := fun K k => by
  unfold wp_M_usesA wp_M_usesA_56 wp_M_usesA_52 wp_M_usesA_57 wp_M_usesA_67
  refine e_op T _ ?_
  refine e_f T _ ?_
  unfold uA at h
  simp only [not_or, not_and] at h
  obtain ⟨n1, n2, n3, n4, n5⟩ := h
  refine ie n1 (ie n2 (ie n3 (ie n4 ?_)))
  by_cases c : wOp (T 0 44) = 115
  · obtain ⟨m1, m2⟩ := n5 c
    refine it c (ie m1 (it (Decidable.not_not.mp m2) ?_))
    exact it rfl ⟨isB_1, k⟩
  · refine ie c ?_
    exact it rfl ⟨isB_1, k⟩
theorem usesA0 (T : St) (h : ¬ uA (wOp (T 0 44)) (wF (T 0 44))) : evI (wp_M_usesA T) 0 T := fun K k => by
  unfold wp_M_usesA wp_M_usesA_56 wp_M_usesA_52 wp_M_usesA_57 wp_M_usesA_67
  refine e_op T _ ?_
  refine e_f T _ ?_
  unfold uA at h
  have h := Decidable.not_not.mp h
  have y : (if (1 : Int32) = 0 then (isB 1 ∧ K 1 T) else (isB 0 ∧ K 0 T)) := ie (by decide) ⟨isB_0, k⟩
  by_cases n1 : wOp (T 0 44) = 55
  · exact it n1 y
  refine ie n1 ?_
  by_cases n2 : wOp (T 0 44) = 23
  · exact it n2 y
  refine ie n2 ?_
  by_cases n3 : wOp (T 0 44) = 111
  · exact it n3 y
  refine ie n3 ?_
  by_cases n4 : wOp (T 0 44) = 15
  · exact it n4 y
  refine ie n4 ?_
  rcases h with q | q | q | q | ⟨q, q2⟩
  · exact absurd q n1
  · exact absurd q n2
  · exact absurd q n3
  · exact absurd q n4
  refine it q ?_
  by_cases f0 : wF (T 0 44) = 0
  · exact it f0 y
  · refine ie f0 ?_
    rcases q2 with q2 | q2
    · exact absurd q2 f0
    · exact ie q2 y
theorem usesB1 (T : St) (h : uB (wOp (T 0 44))) : evI (wp_M_usesB T) 1 T := fun K k => by
  unfold wp_M_usesB wp_M_usesB_23 wp_M_usesB_28
  refine e_op T _ ?_
  by_cases n1 : wOp (T 0 44) = 99
  · exact it n1 ⟨isB_1, k⟩
  refine ie n1 ?_
  by_cases n2 : wOp (T 0 44) = 35
  · exact it n2 ⟨isB_1, k⟩
  refine ie n2 ?_
  rcases h with q | q | q
  · exact absurd q n1
  · exact absurd q n2
  · exact it q ⟨isB_1, k⟩
theorem usesB0 (T : St) (h : ¬ uB (wOp (T 0 44))) : evI (wp_M_usesB T) 0 T := fun K k => by
  unfold wp_M_usesB wp_M_usesB_23 wp_M_usesB_28
  refine e_op T _ ?_
  unfold uB at h
  simp only [not_or] at h
  exact ie h.1 (ie h.2.1 (ie h.2.2 ⟨isB_0, k⟩))
theorem usesK1 (S : St) (hd : DEC S) (h : uA (S 15 3) (S 15 5)) : evI (wp_Ins_usesA S) 1 S := fun K k => by
  unfold wp_Ins_usesA wp_Ins_usesA_77 wp_Ins_usesA_78
  unfold uA at h
  simp only [not_or, not_and] at h
  obtain ⟨n1, n2, n3, n4, n5⟩ := h
  refine ie n4 (ie n2 (ie n1 (ie n3 ?_)))
  by_cases c : S 15 3 = 115
  · obtain ⟨m1, m2⟩ := n5 c
    refine it c (ie m1 (ie ?_ ⟨isB_1, k⟩))
    have m2 := Decidable.not_not.mp m2
    rw [hd.2.2.1] at m1 m2 ⊢
    rcases wF_cases (S 15 2) with e | e | e | e | e | e | e | e <;> rw [e] at m1 m2 ⊢ <;> first | decide | exact absurd m2 (by decide)
  · exact ie c k
theorem usesK0 (S : St) (hd : DEC S) (h : ¬ uA (S 15 3) (S 15 5)) : evI (wp_Ins_usesA S) 0 S := fun K k => by
  unfold wp_Ins_usesA wp_Ins_usesA_77 wp_Ins_usesA_78
  unfold uA at h
  have h := Decidable.not_not.mp h
  by_cases n4 : S 15 3 = 15
  · exact it n4 k
  refine ie n4 ?_
  by_cases n2 : S 15 3 = 23
  · exact it n2 k
  refine ie n2 ?_
  by_cases n1 : S 15 3 = 55
  · exact it n1 k
  refine ie n1 ?_
  by_cases n3 : S 15 3 = 111
  · exact it n3 k
  refine ie n3 ?_
  rcases h with q | q | q | q | ⟨q, q2⟩
  · exact absurd q n1
  · exact absurd q n2
  · exact absurd q n3
  · exact absurd q n4
  refine it q ?_
  by_cases f0 : S 15 5 = 0
  · exact it f0 ⟨isB_0, k⟩
  · refine ie f0 (it ?_ ⟨isB_0, k⟩)
    rcases q2 with q2 | q2
    · exact absurd q2 f0
    · rw [hd.2.2.1] at q2 ⊢
      rcases wF_cases (S 15 2) with e | e | e | e | e | e | e | e <;> rw [e] at q2 ⊢ <;> first | decide | exact absurd (by decide) q2
theorem usesKB1 (S : St) (h : uB (S 15 3)) : evI (wp_Ins_usesB S) 1 S := fun K k => by
  unfold wp_Ins_usesB wp_Ins_usesB_27 wp_Ins_usesB_32
  by_cases n1 : S 15 3 = 99
  · exact it n1 ⟨isB_1, k⟩
  refine ie n1 ?_
  by_cases n2 : S 15 3 = 35
  · exact it n2 ⟨isB_1, k⟩
  refine ie n2 ?_
  rcases h with q | q | q
  · exact absurd q n1
  · exact absurd q n2
  · exact it q ⟨isB_1, k⟩
theorem usesKB0 (S : St) (h : ¬ uB (S 15 3)) : evI (wp_Ins_usesB S) 0 S := fun K k => by
  unfold wp_Ins_usesB wp_Ins_usesB_27 wp_Ins_usesB_32
  unfold uB at h
  simp only [not_or] at h
  exact ie h.1 (ie h.2.1 (ie h.2.2 ⟨isB_0, k⟩))
theorem uses1 (S : St) (hd : DEC S) {r : Int32} (h : us (S 15 2) r) : evI (wp_Ins_uses S r) 1 S := fun K k => by
  obtain ⟨d3, d4, d5, d6, d7, d8⟩ := id hd
  unfold us at h
  rw [← d3, ← d5, ← d6, ← d7] at h
  unfold wp_Ins_uses wp_Ins_uses_30 wp_Ins_uses_35 wp_Ins_uses_15 wp_Ins_uses_34 wp_Ins_uses_35
  have two : (uB (S 15 3) ∧ S 15 7 = r) → wp_Ins_usesB S (fun r6 S5 => if r6 = 0 then (isB 0 ∧ K 0 S5) else (if (S5 15 7) = r then (isB 1 ∧ K 1 S5) else (isB 0 ∧ K 0 S5))) := by
    rintro ⟨q1, q2⟩
    exact usesKB1 S q1 _ (ie (by decide) (it q2 ⟨isB_1, k⟩))
  by_cases a1 : uA (S 15 3) (S 15 5)
  · refine usesK1 S hd a1 _ (ie (by decide) ?_)
    by_cases a2 : S 15 6 = r
    · exact it a2 ⟨isB_1, k⟩
    · refine ie a2 ?_
      rcases h with q | q
      · exact absurd q.2 a2
      · exact two q
  · refine usesK0 S hd a1 _ (it rfl ?_)
    rcases h with q | q
    · exact absurd q.1 a1
    · exact two q
theorem uses0 (S : St) (hd : DEC S) {r : Int32} (h : ¬ us (S 15 2) r) : evI (wp_Ins_uses S r) 0 S := fun K k => by
  obtain ⟨d3, d4, d5, d6, d7, d8⟩ := id hd
  unfold us at h
  rw [← d3, ← d5, ← d6, ← d7] at h
  simp only [not_or, not_and] at h
  unfold wp_Ins_uses wp_Ins_uses_30 wp_Ins_uses_35 wp_Ins_uses_15 wp_Ins_uses_34 wp_Ins_uses_35
  have two : wp_Ins_usesB S (fun r6 S5 => if r6 = 0 then (isB 0 ∧ K 0 S5) else (if (S5 15 7) = r then (isB 1 ∧ K 1 S5) else (isB 0 ∧ K 0 S5))) := by
    by_cases b1 : uB (S 15 3)
    · exact usesKB1 S b1 _ (ie (by decide) (ie (h.2 b1) ⟨isB_0, k⟩))
    · exact usesKB0 S b1 _ (it rfl ⟨isB_0, k⟩)
  by_cases a1 : uA (S 15 3) (S 15 5)
  · exact usesK1 S hd a1 _ (ie (by decide) (ie (h.1 a1) two))
  · exact usesK0 S hd a1 _ (it rfl two)
/-- the reference's beginning, before a load is looked at -/
def nxF (T : St) : Int32 := if T 0 9 = 0 then 0 else if T 0 10 = 0 then T 0 11 + 1 else T 0 12
def waits (T : St) : Prop := ¬ T 0 13 = 0 ∧ ¬ T 0 15 = 0 ∧ us (wd T) (T 0 15)
theorem begin_ev (T : St) : (waits T → evI (wp_M_beginning T) (jmax (jmax (fd T + 1) (nxF T)) (T 0 14)) (st T 0 44 (wd T))) ∧ (¬ waits T → evI (wp_M_beginning T) (jmax (fd T + 1) (nxF T)) (st T 0 44 (wd T))) := by
  have core : ∀ (K : Int32 → St → Prop), wp_M_beginning_77 K (st T 0 44 (wd T)) (jmax (fd T + 1) (nxF T)) → wp_M_beginning_23 K T (wd T) := by
    intro K h
    unfold wp_M_beginning_23
    intro S4 e4
    subst e4
    refine decoding_ev _ _ ?_
    intro x e
    have ef : fd (st T 0 44 (wd T)) = fd T := rfl
    rw [ef] at e
    subst e
    rw [jmax_eq] at h
    have two : ∀ v, v = nxF T → wp_M_beginning_66 K (st T 0 44 (wd T)) (fd T + 1) v := by
      intro v hv
      unfold wp_M_beginning_66
      subst hv
      by_cases c : nxF T ≤ fd T + 1
      · rw [if_pos c] at h ⊢; exact h
      · rw [if_neg c] at h ⊢; exact h
    show @ite Prop (T 0 9 = 0) _ _ _
    by_cases c : T 0 9 = 0
    · exact it c (two _ (by unfold nxF; rw [if_pos c]))
    · refine ie c ?_
      show @ite Prop (T 0 10 = 0) _ _ _
      by_cases c2 : T 0 10 = 0
      · exact it c2 (two _ (by unfold nxF; rw [if_neg c, if_pos c2]; rfl))
      · exact ie c2 (two _ (by unfold nxF; rw [if_neg c, if_neg c2]; rfl))
  have top : ∀ (K : Int32 → St → Prop), wp_M_beginning_23 K T (wd T) → wp_M_beginning T K := by
    intro K h
    unfold wp_M_beginning
    unfold wd at h
    by_cases c : icd T
    · refine inCode1 T c _ (ie (by decide) ?_)
      rw [if_neg c.1, if_neg c.2] at h
      exact ⟨(ic_ix c.1 c.2).2, h⟩
    · refine inCode0 T c _ (it rfl ?_)
      by_cases c1 : T 0 6 < 0
      · rw [if_pos c1] at h; exact h
      · rw [if_neg c1] at h
        by_cases c2 : (512 : Int32) ≤ T 0 6
        · rw [if_pos c2] at h; exact h
        · exact absurd ⟨c1, c2⟩ c
  refine ⟨fun hw K k => top K (core K ?_), fun hw K k => top K (core K ?_)⟩
  · obtain ⟨w1, w2, w3⟩ := hw
    rw [jmax_eq] at k
    have fin : wp_M_beginning_134 K (st T 0 44 (wd T)) (jmax (fd T + 1) (nxF T)) := by
      unfold wp_M_beginning_134 wp_M_beginning_139 wp_M_beginning_161 wp_M_beginning_162
      refine ie (by decide) ?_
      show @ite Prop (T 0 14 ≤ jmax (fd T + 1) (nxF T)) _ _ _
      by_cases c : T 0 14 ≤ jmax (fd T + 1) (nxF T)
      · rw [if_pos c] at k
        exact it c k
      · rw [if_neg c] at k
        exact ie c k
    unfold wp_M_beginning_77
    refine ie w1 (ie w2 ?_)
    have two : uB (wOp (wd T)) ∧ wB (wd T) = T 0 15 → wp_M_beginning_113 K (st T 0 44 (wd T)) (jmax (fd T + 1) (nxF T)) := by
      rintro ⟨q1, q2⟩
      unfold wp_M_beginning_113
      refine usesB1 _ q1 _ (ie (by decide) ?_)
      refine e_b _ _ ?_
      exact it q2 fin
    by_cases a1 : uA (wOp (wd T)) (wF (wd T))
    · refine usesA1 _ a1 _ (ie (by decide) ?_)
      refine e_a _ _ ?_
      by_cases a2 : wA (wd T) = T 0 15
      · exact it a2 fin
      · refine ie a2 ?_
        rcases w3 with q | q
        · exact absurd q.2 a2
        · exact two q
    · refine usesA0 _ a1 _ (it rfl ?_)
      rcases w3 with q | q
      · exact absurd q.1 a1
      · exact two q
  · have fin : wp_M_beginning_138 K (st T 0 44 (wd T)) (jmax (fd T + 1) (nxF T)) := by
      unfold wp_M_beginning_138 wp_M_beginning_139 wp_M_beginning_161 wp_M_beginning_162
      exact it rfl k
    unfold wp_M_beginning_77
    by_cases c1 : T 0 13 = 0
    · exact it c1 fin
    refine ie c1 ?_
    by_cases c2 : T 0 15 = 0
    · exact it c2 fin
    refine ie c2 ?_
    have nu : ¬ us (wd T) (T 0 15) := fun q => hw ⟨c1, c2, q⟩
    unfold us at nu
    simp only [not_or, not_and] at nu
    have two : wp_M_beginning_113 K (st T 0 44 (wd T)) (jmax (fd T + 1) (nxF T)) := by
      unfold wp_M_beginning_113
      by_cases b1 : uB (wOp (wd T))
      · refine usesB1 _ b1 _ (ie (by decide) ?_)
        refine e_b _ _ ?_
        exact ie (nu.2 b1) fin
      · exact usesB0 _ b1 _ (it rfl fin)
    by_cases a1 : uA (wOp (wd T)) (wF (wd T))
    · refine usesA1 _ a1 _ (ie (by decide) ?_)
      refine e_a _ _ ?_
      exact ie (nu.1 a1) two
    · exact usesA0 _ a1 _ (it rfl two)
