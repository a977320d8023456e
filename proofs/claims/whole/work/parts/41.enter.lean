/-! traps and interrupts: the controls -/
theorem al_id {x : Int32} (h : x &&& 3 = 0) : x &&& (-4) = x := by
  apply Int32.toBitVec_inj.mp
  have hb : x.toBitVec &&& 3#32 = 0#32 := congrArg Int32.toBitVec h
  show x.toBitVec &&& (-4 : Int32).toBitVec = x.toBitVec
  apply BitVec.eq_of_getLsbD_eq
  intro i hi
  have hb2 : (x.toBitVec &&& 3#32).getLsbD i = (0#32).getLsbD i := by rw [hb]
  rw [BitVec.getLsbD_and] at hb2 ⊢
  have key : ∀ i, i < 32 → ((3#32).getLsbD i = true ∧ (0#32).getLsbD i = false) ∨ ((-4 : Int32).toBitVec).getLsbD i = true := by decide
  rcases key i hi with ⟨k, k0⟩ | k
  · rw [k, k0, Bool.and_true] at hb2
    rw [hb2, Bool.false_and]
  · rw [k, Bool.and_true]
/-- lines: what is due is one of three bits -/
theorem due_bits {x y : Int32} (h : x &&& (-2185) = 0) (h1 : (x &&& y) &&& 2048 = 0) (h2 : (x &&& y) &&& 8 = 0) (h3 : (x &&& y) &&& 128 = 0) : x &&& y = 0 := by
  apply Int32.toBitVec_inj.mp
  have hb : x.toBitVec &&& (-2185 : Int32).toBitVec = 0#32 := congrArg Int32.toBitVec h
  have b1 : (x.toBitVec &&& y.toBitVec) &&& (2048 : Int32).toBitVec = 0#32 := congrArg Int32.toBitVec h1
  have b2 : (x.toBitVec &&& y.toBitVec) &&& (8 : Int32).toBitVec = 0#32 := congrArg Int32.toBitVec h2
  have b3 : (x.toBitVec &&& y.toBitVec) &&& (128 : Int32).toBitVec = 0#32 := congrArg Int32.toBitVec h3
  show x.toBitVec &&& y.toBitVec = 0#32
  apply BitVec.eq_of_getLsbD_eq
  intro i hi
  have q0 : (x.toBitVec &&& (-2185 : Int32).toBitVec).getLsbD i = (0#32).getLsbD i := by rw [hb]
  have q1 : ((x.toBitVec &&& y.toBitVec) &&& (2048 : Int32).toBitVec).getLsbD i = (0#32).getLsbD i := by rw [b1]
  have q2 : ((x.toBitVec &&& y.toBitVec) &&& (8 : Int32).toBitVec).getLsbD i = (0#32).getLsbD i := by rw [b2]
  have q3 : ((x.toBitVec &&& y.toBitVec) &&& (128 : Int32).toBitVec).getLsbD i = (0#32).getLsbD i := by rw [b3]
  rw [BitVec.getLsbD_and] at q0 q1 q2 q3
  have key : ∀ i, i < 32 → ((-2185 : Int32).toBitVec.getLsbD i = true ∨ (2048 : Int32).toBitVec.getLsbD i = true ∨ (8 : Int32).toBitVec.getLsbD i = true ∨ (128 : Int32).toBitVec.getLsbD i = true) := by decide
  rcases key i hi with k | k | k | k
  · rw [k, Bool.and_true] at q0
    rw [BitVec.getLsbD_and, q0, BitVec.getLsbD_zero, Bool.false_and]
  · rw [k, Bool.and_true] at q1; exact q1
  · rw [k, Bool.and_true] at q2; exact q2
  · rw [k, Bool.and_true] at q3; exact q3
def entR (g : Nat → Int32) (a w v : Int32) : Nat → Int32 := upd (upd (upd (upd g 4 a) 5 w) 6 v) 0 (if g 0 &&& 8 = 0 then 0 else 128)
theorem entR_ok {g : Nat → Int32} {a w v : Int32} (h : okC g) (ha : a &&& 3 = 0) : okC (entR g a w v) := ⟨ha, h.2⟩
theorem enterK_ev (S : St) (a w v : Int32) : ∃ S', evI (wp_Con_enterTrap S a w v) (S 3 2 &&& (-4)) S' ∧ (∀ i, i ≠ 3 → S' i = S i) ∧ S' 3 = entR (S 3) (a &&& (-4)) w v := by
  refine ⟨st (st (st (st S 3 4 (a &&& (-4))) 3 5 w) 3 6 v) 3 0 (if S 3 0 &&& 8 = 0 then 0 else 128), fun K k => ?_, fun i hi => ?_, rfl⟩
  · unfold wp_Con_enterTrap wp_Con_enterTrap_36
    intro S1 e1 S2 e2 S3 e3
    subst e1 e2 e3
    by_cases c : S 3 0 &&& 8 = 0
    · refine it c ?_
      rw [if_pos c] at k
      intro S5 e5
      subst e5
      exact k
    · refine ie c ?_
      rw [if_neg c] at k
      intro S5 e5
      subst e5
      exact k
  · rw [st_ne hi, st_ne hi, st_ne hi, st_ne hi]
theorem enterM_ev (T : St) (w v p : Int32) : ∃ T', evV (wp_M_enter T w v p) T' ∧ (∀ i, i ≠ 0 → i ≠ 4 → T' i = T i) ∧ (∀ k, k ≠ 47 → T' 0 k = T 0 k) ∧ T' 0 47 = p ∧ T' 4 = entR (T 4) (T 0 6) w v := by
  refine ⟨st (st (st (st (st T 4 4 (T 0 6)) 4 5 w) 4 6 v) 4 0 (if T 4 0 &&& 8 = 0 then 0 else 128)) 0 47 p, fun K k => ?_, fun i h0 h4 => ?_, fun k hk => ?_, rfl, rfl⟩
  · unfold wp_M_enter wp_M_enter_49
    refine ⟨in_48, fun S1 e1 => ⟨in_58, fun S2 e2 => ⟨in_68, fun S3 e3 => ⟨in_08, ?_⟩⟩⟩⟩
    subst e1 e2 e3
    by_cases c : T 4 0 &&& 8 = 0
    · refine it c ⟨in_08, ?_⟩
      rw [if_pos c] at k
      intro S5 e5 S6 e6
      subst e5 e6
      exact k
    · refine ie c ⟨in_08, ?_⟩
      rw [if_neg c] at k
      intro S5 e5 S6 e6
      subst e5 e6
      exact k
  · rw [st_ne h0, st_ne h4, st_ne h4, st_ne h4, st_ne h4]
  · rw [st_eq, upd_n hk]; rfl
def dueF (g : Nat → Int32) : Int32 := if g 0 &&& 8 = 0 then 0 else g 7 &&& g 1
def lnF (d : Int32) : Int32 := if d &&& 2048 = 0 then (if d &&& 8 = 0 then (if d &&& 128 = 0 then 0 else 7) else 3) else 11
theorem due_ev (S : St) : evI (wp_Con_dueLine S) (lnF (dueF (S 3))) S := fun K k => by
  have g : ∀ d, K (lnF d) S → wp_Con_dueLine_23 K S d := by
    intro d k
    unfold lnF at k
    unfold wp_Con_dueLine_23 wp_Con_dueLine_58
    by_cases c1 : d &&& 2048 = 0
    · rw [if_pos c1] at k
      refine it c1 ?_
      by_cases c2 : d &&& 8 = 0
      · rw [if_pos c2] at k
        refine it c2 ?_
        by_cases c3 : d &&& 128 = 0
        · rw [if_pos c3] at k; exact it c3 k
        · rw [if_neg c3] at k; exact ie c3 k
      · rw [if_neg c2] at k; exact ie c2 k
    · rw [if_neg c1] at k; exact ie c1 k
  unfold wp_Con_dueLine
  unfold dueF at k
  by_cases c : S 3 0 &&& 8 = 0
  · rw [if_pos c] at k; exact it c (g 0 k)
  · rw [if_neg c] at k; exact ie c (g _ k)
theorem due_0 {g : Nat → Int32} (h : okC g) : lnF (dueF g) = 0 ↔ dueF g = 0 := by
  constructor
  · intro q
    unfold dueF at q ⊢
    by_cases c : g 0 &&& 8 = 0
    · rw [if_pos c]
    · rw [if_neg c] at q ⊢
      unfold lnF at q
      by_cases c1 : (g 7 &&& g 1) &&& 2048 = 0
      · rw [if_pos c1] at q
        by_cases c2 : (g 7 &&& g 1) &&& 8 = 0
        · rw [if_pos c2] at q
          by_cases c3 : (g 7 &&& g 1) &&& 128 = 0
          · exact due_bits h.2 c1 c2 c3
          · rw [if_neg c3] at q; exact absurd q (by decide)
        · rw [if_neg c2] at q; exact absurd q (by decide)
      · rw [if_neg c1] at q; exact absurd q (by decide)
  · intro q; rw [q]; rfl
def lnM (d : Int32) : Int32 := if d &&& 2048 = 0 then (if d &&& 8 = 0 then 7 else 3) else 11
theorem lnM_eq {d : Int32} (h : ¬ lnF d = 0) : lnM d = lnF d := by
  unfold lnM
  unfold lnF at h ⊢
  by_cases c1 : d &&& 2048 = 0
  · rw [if_pos c1, if_pos c1] at *
    by_cases c2 : d &&& 8 = 0
    · rw [if_pos c2, if_pos c2] at *
      by_cases c3 : d &&& 128 = 0
      · rw [if_pos c3] at h; exact absurd rfl h
      · rw [if_neg c3]
    · rw [if_neg c2, if_neg c2]
  · rw [if_neg c1, if_neg c1]
theorem lnF_3 (d : Int32) : lnF d = 0 ∨ lnF d = 7 ∨ lnF d = 3 ∨ lnF d = 11 := by
  unfold lnF
  split
  · split
    · split
      · exact Or.inl rfl
      · exact Or.inr (Or.inl rfl)
    · exact Or.inr (Or.inr (Or.inl rfl))
  · exact Or.inr (Or.inr (Or.inr rfl))
/-- where an interrupt goes on -/
def toI (g : Nat → Int32) (n : Int32) : Int32 := if g 2 &&& 1 = 0 then g 2 &&& (-4) else (g 2 &&& (-4)) + 4 * n
theorem toI_al {g : Nat → Int32} {d : Int32} : toI g (lnF d) &&& 3 = 0 := by
  unfold toI
  by_cases c : g 2 &&& 1 = 0
  · rw [if_pos c]; exact al_and _
  · rw [if_neg c]
    refine al_add (al_and _) ?_
    rcases lnF_3 d with q | q | q | q <;> rw [q] <;> decide
theorem interK_ev (S : St) (a n : Int32) : ∃ S', evI (wp_Con_enterInterrupt S a n) (toI (S 3) n) S' ∧ (∀ i, i ≠ 3 → S' i = S i) ∧ S' 3 = entR (S 3) (a &&& (-4)) (-2147483648 + n) 0 := by
  obtain ⟨S', ev, h1, h2⟩ := enterK_ev S a (-2147483648 + n) 0
  refine ⟨S', fun K k => ?_, h1, h2⟩
  unfold wp_Con_enterInterrupt wp_Con_enterInterrupt_29
  refine ev _ ?_
  have e2 : S' 3 2 = S 3 2 := by rw [h2]; rfl
  unfold toI at k
  by_cases c : S 3 2 &&& 1 = 0
  · rw [if_pos c] at k
    exact it (by rw [e2]; exact c) k
  · rw [if_neg c] at k
    exact ie (by rw [e2]; exact c) k
theorem bit1 (x : Int32) : x &&& 1 = 1 ↔ ¬ x &&& 1 = 0 := by
  have h := in_m x (m := 1) 1 (by decide) (by decide) (n := 2) (by decide)
  rw [vp_in_iff] at h
  rw [i_eq, i_eq, one_int, zero_int]; omega
