/-! both sides of one instruction: what the class works out, what the reference does -/
def ltu (x y : Int32) : Int32 := if (0 : Int32) ≤ (lg_cmp (x.toInt64 &&& (4294967295 : Int64)) (y.toInt64 &&& (4294967295 : Int64))) then 0 else 1
theorem ltu_B (x y : Int32) : isB (ltu x y) := by
  unfold ltu
  split
  · exact isB_0
  · exact isB_1
theorem e_less (S : St) (x y : Int32) : evI (wp_Ari_lessWithoutSigns S x y) (ltu x y) S := fun K h => by
  unfold wp_Ari_lessWithoutSigns wp_Ari_lessWithoutSigns_21
  unfold ltu at h
  split
  · next c => rw [if_pos c] at h; exact ⟨isB_0, h⟩
  · next c => rw [if_neg c] at h; exact ⟨isB_1, h⟩
theorem e_below (S : St) (x y : Int32) : evI (wp_M_below S x y) (ltu x y) S := fun K h => by
  unfold wp_M_below wp_M_below_21
  unfold ltu at h
  split
  · next c => rw [if_pos c] at h; exact ⟨isB_0, h⟩
  · next c => rw [if_neg c] at h; exact ⟨isB_1, h⟩
def plF (f x y : Int32) : Int32 := if f = 0 then x + y else if f = 1 then x <<< ((y &&& 31) &&& 31) else if f = 2 then (if y ≤ x then 0 else 1) else if f = 3 then ltu x y else if f = 4 then x ^^^ y else if f = 5 then jushr x (y &&& 31) else if f = 6 then x ||| y else x &&& y
theorem isB_id {x : Int32} (h : isB x) : (if x = 0 then (0 : Int32) else 1) = x := by
  rcases h with rfl | rfl <;> decide
theorem e_plain (S : St) (f x y : Int32) : evI (wp_Ari_plain S f x y) (plF f x y) S := fun K h => by
  unfold wp_Ari_plain
  unfold plF at h
  by_cases h0 : f = 0
  · rw [if_pos h0] at h ⊢; exact h
  rw [if_neg h0] at h ⊢
  by_cases h1 : f = 1
  · rw [if_pos h1] at h ⊢; exact h
  rw [if_neg h1] at h ⊢
  by_cases h2 : f = 2
  · rw [if_pos h2] at h ⊢
    unfold wp_Ari_plain_65
    split
    · next c => rw [if_pos c] at h; exact h
    · next c => rw [if_neg c] at h; exact h
  rw [if_neg h2] at h ⊢
  by_cases h3 : f = 3
  · rw [if_pos h3] at h ⊢
    refine e_less S x y _ ?_
    unfold wp_Ari_plain_79
    rcases ltu_B x y with e | e
    · rw [if_pos e]; rw [e] at h; exact h
    · rw [if_neg (by rw [e]; decide)]; rw [e] at h; exact h
  rw [if_neg h3] at h ⊢
  by_cases h4 : f = 4
  · rw [if_pos h4] at h ⊢; exact h
  rw [if_neg h4] at h ⊢
  by_cases h5 : f = 5
  · rw [if_pos h5] at h ⊢; exact h
  rw [if_neg h5] at h ⊢
  by_cases h6 : f = 6
  · rw [if_pos h6] at h ⊢; exact h
  rw [if_neg h6] at h ⊢
  exact h
theorem e_Mplain (S : St) (f x y : Int32) : evI (wp_M_plain S f x y 0) (plF f x y) S := fun K h => by
  unfold wp_M_plain
  intro x1 e1
  subst e1
  unfold plF at h
  by_cases h0 : f = 0
  · rw [if_pos h0] at h ⊢; rw [if_pos rfl]; exact h
  rw [if_neg h0] at h ⊢
  by_cases h1 : f = 1
  · rw [if_pos h1] at h ⊢; exact h
  rw [if_neg h1] at h ⊢
  by_cases h2 : f = 2
  · rw [if_pos h2] at h ⊢
    unfold wp_M_plain_77
    split
    · next c => rw [if_pos c] at h; exact h
    · next c => rw [if_neg c] at h; exact h
  rw [if_neg h2] at h ⊢
  by_cases h3 : f = 3
  · rw [if_pos h3] at h ⊢
    refine e_below S x y _ ?_
    unfold wp_M_plain_91
    rcases ltu_B x y with e | e
    · rw [if_pos e]; rw [e] at h; exact h
    · rw [if_neg (by rw [e]; decide)]; rw [e] at h; exact h
  rw [if_neg h3] at h ⊢
  by_cases h4 : f = 4
  · rw [if_pos h4] at h ⊢; exact h
  rw [if_neg h4] at h ⊢
  by_cases h5 : f = 5
  · rw [if_pos h5] at h ⊢; rw [if_pos rfl]; exact h
  rw [if_neg h5] at h ⊢
  by_cases h6 : f = 6
  · rw [if_pos h6] at h ⊢; exact h
  rw [if_neg h6] at h ⊢
  exact h
theorem e_Mplain_0 (S : St) (x y : Int32) : evI (wp_M_plain S 0 x y 1) (x - y) S := fun K h => by
  unfold wp_M_plain
  intro x1 e1
  rw [if_pos rfl, if_neg (by decide)]; exact h
theorem e_Mplain_5 (S : St) (x y : Int32) : evI (wp_M_plain S 5 x y 1) (x >>> ((y &&& 31) &&& 31)) S := fun K h => by
  unfold wp_M_plain
  intro x1 e1
  subst e1
  rw [if_neg (by decide), if_neg (by decide), if_neg (by decide), if_neg (by decide), if_neg (by decide), if_pos rfl, if_neg (by decide)]; exact h
theorem wF_nat (w : Int32) : ∃ j : Nat, j < 8 ∧ wF w = nI j := pk_andE _ 3 (by decide)
theorem wF_cases (w : Int32) : wF w = 0 ∨ wF w = 1 ∨ wF w = 2 ∨ wF w = 3 ∨ wF w = 4 ∨ wF w = 5 ∨ wF w = 6 ∨ wF w = 7 := by
  obtain ⟨j, hj, e⟩ := wF_nat w
  rw [e]
  have : ∀ j, j < 8 → nI j = 0 ∨ nI j = 1 ∨ nI j = 2 ∨ nI j = 3 ∨ nI j = 4 ∨ nI j = 5 ∨ nI j = 6 ∨ nI j = 7 := by decide +kernel
  exact this j hj
def prF (f x y : Int32) : Int32 := if f = 0 then x * y else if f = 1 then (jlshr (x.toInt64 * y.toInt64) 32).toInt32 else if f = 2 then (jlshr (x.toInt64 * (y.toInt64 &&& (4294967295 : Int64))) 32).toInt32 else (jlushr ((x.toInt64 &&& (4294967295 : Int64)) * (y.toInt64 &&& (4294967295 : Int64))) 32).toInt32
theorem e_prod (S : St) (f x y : Int32) : evI (wp_Ari_product S f x y) (prF f x y) S := fun K h => by
  unfold wp_Ari_product
  unfold prF at h
  split
  · next c => rw [if_pos c] at h; exact h
  · next c =>
    rw [if_neg c] at h
    split
    · next c => rw [if_pos c] at h; exact h
    · next c =>
      rw [if_neg c] at h
      split
      · next c => rw [if_pos c] at h; exact h
      · next c => rw [if_neg c] at h; exact h
theorem sh32 (x : Int64) : (jlshr x 32).toInt32 = (jlushr x 32).toInt32 := by
  apply Int32.toBitVec_inj.mp
  rw [Int64.toBitVec_toInt32, Int64.toBitVec_toInt32]
  have e1 : (jlshr x 32).toBitVec = x.toBitVec.sshiftRight 32 := by
    unfold jlshr
    show x.toBitVec.sshiftRight' _ = _
    rfl
  have e2 : (jlushr x 32).toBitVec = x.toBitVec >>> 32 := by
    unfold jlushr
    rfl
  rw [e1, e2]
  apply BitVec.eq_of_getLsbD_eq
  intro i hi
  rw [BitVec.getLsbD_signExtend, BitVec.getLsbD_signExtend]
  have h64 : i < 64 := by omega
  simp only [hi, h64, if_true, decide_true, Bool.true_and, BitVec.getLsbD_sshiftRight, BitVec.getLsbD_ushiftRight]
  have h1 : 32 + i < 64 := by omega
  simp [h1]
  omega
theorem e_Mprod (S : St) (f x y : Int32) (hf : f = 0 ∨ f = 1 ∨ f = 2 ∨ f = 3) : evI (wp_M_product S f x y) (prF f x y) S := fun K h => by
  unfold wp_M_product wp_M_product_16 wp_M_product_33 wp_M_product_53
  unfold prF at h
  rcases hf with rfl | rfl | rfl | rfl
  · rw [if_neg (by decide), if_pos (by decide), if_pos rfl]; rw [if_pos rfl] at h; exact h
  · rw [if_neg (by decide), if_pos (by decide), if_neg (by decide)]; rw [if_neg (by decide), if_pos rfl] at h; exact h
  · rw [if_neg (by decide), if_neg (by decide), if_neg (by decide)]; rw [if_neg (by decide), if_neg (by decide), if_pos rfl] at h; exact h
  · rw [if_pos rfl, if_neg (by decide), if_neg (by decide), sh32]; rw [if_neg (by decide), if_neg (by decide), if_neg (by decide)] at h; exact h
def quF (f x y : Int32) : Int32 := if y = 0 then (if (6 : Int32) ≤ f then x else -1) else if f = 4 then (x.toInt64 / y.toInt64).toInt32 else if f = 5 then ((x.toInt64 &&& (4294967295 : Int64)) / (y.toInt64 &&& (4294967295 : Int64))).toInt32 else if f = 6 then (jlrem x.toInt64 y.toInt64).toInt32 else (jlrem (x.toInt64 &&& (4294967295 : Int64)) (y.toInt64 &&& (4294967295 : Int64))).toInt32
theorem i2l_ne {y : Int32} (h : ¬ y = 0) : ¬ y.toInt64 = 0 := fun e => h (by
  have h1 : y.toInt64.toInt32 = (0 : Int64).toInt32 := by rw [e]
  rw [Int32.toInt32_toInt64] at h1
  rw [h1]; decide)
theorem low_ne {y : Int32} (h : ¬ y = 0) : ¬ (y.toInt64 &&& (4294967295 : Int64)) = 0 := fun e => h (by
  have h1 : (y.toInt64 &&& (4294967295 : Int64)).toInt32 = (0 : Int64).toInt32 := by rw [e]
  have h2 : (y.toInt64 &&& (4294967295 : Int64)).toInt32 = y := by
    rw [Int64.toInt32_and, Int32.toInt32_toInt64]
    have : (4294967295 : Int64).toInt32 = -1 := by decide
    rw [this]
    exact Int32.and_neg_one
  rw [h2] at h1
  rw [h1]; decide)
theorem e_quot (S : St) (f x y : Int32) : evI (wp_Ari_quotient S f x y) (quF f x y) S := fun K h => by
  unfold wp_Ari_quotient wp_Ari_quotient_15
  unfold quF at h
  by_cases hy : y = 0
  · rw [if_pos hy] at h ⊢
    split
    · next c => rw [if_pos c] at h; exact h
    · next c => rw [if_neg c] at h; exact h
  rw [if_neg hy] at h ⊢
  by_cases h4 : f = 4
  · rw [if_pos h4] at h ⊢; exact ⟨i2l_ne hy, h⟩
  rw [if_neg h4] at h ⊢
  by_cases h5 : f = 5
  · rw [if_pos h5] at h ⊢; exact ⟨low_ne hy, h⟩
  rw [if_neg h5] at h ⊢
  by_cases h6 : f = 6
  · rw [if_pos h6] at h ⊢; exact ⟨i2l_ne hy, h⟩
  rw [if_neg h6] at h ⊢
  exact ⟨low_ne hy, h⟩
theorem e_Mquot (S : St) (f x y : Int32) (hf : f = 4 ∨ f = 5 ∨ f = 6 ∨ f = 7) : evI (wp_M_quotient S f x y) (quF f x y) S := fun K h => by
  unfold wp_M_quotient wp_M_quotient_11 wp_M_quotient_16 wp_M_quotient_48 wp_M_quotient_65 wp_M_quotient_86 wp_M_quotient_32
  unfold quF at h
  by_cases hy : y = 0
  · rw [if_pos hy] at h
    rcases hf with rfl | rfl | rfl | rfl
    · rw [if_pos rfl, if_pos hy, if_neg (by decide)]; rw [if_neg (by decide)] at h; exact h
    · rw [if_neg (by decide), if_neg (by decide), if_pos hy, if_neg (by decide)]; rw [if_neg (by decide)] at h; exact h
    · rw [if_neg (by decide), if_pos rfl, if_pos hy, if_pos (by decide)]; rw [if_pos (by decide)] at h; exact h
    · rw [if_neg (by decide), if_neg (by decide), if_pos hy, if_pos (by decide)]; rw [if_pos (by decide)] at h; exact h
  · rw [if_neg hy] at h
    rcases hf with rfl | rfl | rfl | rfl
    · rw [if_pos rfl, if_neg hy, if_neg (by decide), if_neg (by decide), if_neg (by decide)]; rw [if_pos rfl] at h; exact ⟨i2l_ne hy, h⟩
    · rw [if_neg (by decide), if_neg (by decide), if_neg hy, if_pos rfl, if_pos rfl, if_neg (by decide)]; rw [if_neg (by decide), if_pos rfl] at h; exact ⟨low_ne hy, h⟩
    · rw [if_neg (by decide), if_pos rfl, if_neg hy, if_neg (by decide), if_neg (by decide), if_pos (by decide)]; rw [if_neg (by decide), if_neg (by decide), if_pos rfl] at h; exact ⟨i2l_ne hy, h⟩
    · rw [if_neg (by decide), if_neg (by decide), if_neg hy, if_pos rfl, if_pos rfl, if_pos (by decide)]; rw [if_neg (by decide), if_neg (by decide), if_neg (by decide)] at h; exact ⟨low_ne hy, h⟩
