/-! addresses of data -/
theorem emod_le {a : Int} (n : Nat) (h : 0 ≤ a) : a % (n : Int) ≤ a := by
  rw [Int.emod_def]
  have h1 : 0 ≤ a / (n : Int) := Int.ediv_nonneg h (by omega)
  have h2 : 0 ≤ (n : Int) * (a / (n : Int)) := Int.mul_nonneg (by omega) h1
  omega
theorem tmod_neg {a : Int} (n : Nat) (h : a ≤ 0) : a ≤ a.tmod n ∧ a.tmod n ≤ 0 := by
  have e6 : a.tmod n = -((-a).tmod n) := by rw [Int.neg_tmod, Int.neg_neg]
  have h7 : (-a).tmod n ≤ -a := by
    rw [Int.tmod_eq_emod_of_nonneg (by omega)]
    exact emod_le n (by omega)
  have h8 := Int.tmod_nonneg (a := -a) (b := n) (by omega)
  omega
theorem jrem_toInt (x y : Int32) (n : Nat) (hy : y.toInt = n) (hn : 0 < n) (hn2 : n ≤ 16) : (jrem x y).toInt = x.toInt.tmod n := by
  unfold jrem
  have hx1 := Int32.le_toInt x
  have hx2 := Int32.toInt_lt x
  have hne : y ≠ -1 := fun e => by
    have : y.toInt = -1 := by rw [e]; decide
    omega
  have e1 : (x / y).toInt = x.toInt.tdiv n := by rw [Int32.toInt_div_of_ne_right x y hne, hy]
  have e2 := Int.mul_tdiv_add_tmod x.toInt n
  have e3 := tmod_bounds (a := x.toInt) (M := (n : Int)) (by omega)
  have e5 : x.toInt.tdiv n * n = x.toInt - x.toInt.tmod n := by rw [Int.mul_comm]; omega
  rw [Int32.toInt_sub, Int32.toInt_mul, e1, hy, e5]
  have b1 : (x.toInt - x.toInt.tmod n).bmod (2 ^ 32) = x.toInt - x.toInt.tmod n := by
    apply Int.bmod_eq_of_le_mul_two
    · rcases Int.le_total 0 x.toInt with h | h
      · have := Int.tmod_nonneg (a := x.toInt) (b := n) h
        have h3 : x.toInt.tmod n ≤ x.toInt := by
          rw [Int.tmod_eq_emod_of_nonneg h]
          exact emod_le n h
        omega
      · have h3 := tmod_neg n h
        omega
    · rcases Int.le_total 0 x.toInt with h | h
      · have := Int.tmod_nonneg (a := x.toInt) (b := n) h
        omega
      · have h3 := tmod_neg n h
        omega
  rw [b1]
  rw [show x.toInt - (x.toInt - x.toInt.tmod n) = x.toInt.tmod n by omega]
  apply Int.bmod_eq_of_le_mul_two <;> omega
theorem jrem_al (x y m : Int32) (k : Nat) (hk : k ≤ 4) (hy : y.toInt = ((2 ^ k : Nat) : Int)) (hm : m.toBitVec.toNat = 2 ^ k - 1) : jrem x y = 0 ↔ x &&& m = 0 := by
  have hp : 0 < 2 ^ k := Nat.two_pow_pos k
  have hp2 : 2 ^ k ≤ 16 := by
    have := Nat.pow_le_pow_right (n := 2) (by omega) hk
    omega
  have e1 : jrem x y = 0 ↔ x.toInt.tmod ((2 ^ k : Nat) : Int) = 0 := by
    rw [← Int32.toInt_inj, jrem_toInt x y (2 ^ k) hy hp hp2]
    simp
  have e2 : x &&& m = 0 ↔ x.toBitVec.toNat % 2 ^ k = 0 := by
    constructor
    · intro h
      rw [← and_nat x m k hm, h]; rfl
    · intro h
      exact i32_nat (by rw [and_nat x m k hm, h]; rfl)
  rw [e1, e2, ← Int.dvd_iff_tmod_eq_zero, Int.dvd_iff_emod_eq_zero]
  have hk' : k = 0 ∨ k = 1 ∨ k = 2 ∨ k = 3 ∨ k = 4 := by omega
  have ht : x.toInt = if 2 * x.toBitVec.toNat < 2 ^ 32 then (x.toBitVec.toNat : Int) else (x.toBitVec.toNat : Int) - 2 ^ 32 := by
    show x.toBitVec.toInt = _
    rw [BitVec.toInt_eq_toNat_cond]
    rfl
  rw [ht]
  rcases hk' with rfl | rfl | rfl | rfl | rfl <;> split <;> omega
theorem al4 (x : Int32) : jrem x 4 = 0 ↔ x &&& 3 = 0 := jrem_al x 4 3 2 (by omega) (by decide) (by decide)
theorem al2 (x : Int32) : jrem x 2 = 0 ↔ x &&& 1 = 0 := jrem_al x 2 1 1 (by omega) (by decide) (by decide)
theorem al1 (x : Int32) : jrem x 1 = 0 ↔ x &&& 0 = 0 := jrem_al x 1 0 0 (by omega) (by decide) (by decide)
def inD (a : Int32) : Prop := ¬ a < 1024 ∧ ¬ (1280 : Int32) ≤ a
theorem inD_nat {a : Int32} (h : inD a) : ∃ j : Nat, j < 256 ∧ a = nI (1024 + j) := by
  obtain ⟨h1, h2⟩ := h
  rw [Int32.lt_iff_toInt_lt] at h1
  rw [Int32.le_iff_toInt_le] at h2
  have e1 : (1024 : Int32).toInt = 1024 := by decide
  have e2 : (1280 : Int32).toInt = 1280 := by decide
  rw [e1] at h1
  rw [e2] at h2
  refine ⟨(a.toInt - 1024).toNat, by omega, Int32.toInt_inj.mp ?_⟩
  rw [nI_toInt (by omega)]
  omega
theorem inD_facts : ∀ j, j < 256 → (nI (1024 + j) - 1024) / 4 = (nI (1024 + j) - 1024) >>> ((2 : Int32) &&& 31) ∧ ((nI (1024 + j) - 1024) / 4).toInt = ((j / 4 : Nat) : Int) ∧ (8 : Int32) * jrem (nI (1024 + j)) 4 = (nI (1024 + j) &&& 3) * 8 ∧ ((nI (1024 + j) - 1024) / 16).toInt = ((j / 16 : Nat) : Int) ∧ jrem ((nI (1024 + j) - 1024) / 16) 4 = ((nI (1024 + j) - 1024) / 16) &&& 3 := by decide +kernel
/-- the place of a word of data -/
def dI (a : Int32) : Int32 := (a - 1024) >>> ((2 : Int32) &&& 31)
theorem dI_eq {a : Int32} (h : inD a) : (a - 1024) / 4 = dI a := by
  obtain ⟨j, hj, rfl⟩ := inD_nat h
  exact (inD_facts j hj).1
theorem dI_in {a : Int32} (h : inD a) : vp_in (dI a) 64 := by
  rw [← dI_eq h]
  obtain ⟨j, hj, rfl⟩ := inD_nat h
  refine vp_in_iff.mpr ?_
  rw [(inD_facts j hj).2.1]
  omega
theorem sh_eq {a : Int32} (h : inD a) : (8 : Int32) * jrem a 4 = (a &&& 3) * 8 := by
  obtain ⟨j, hj, rfl⟩ := inD_nat h
  exact (inD_facts j hj).2.2.1
theorem ln_eq {a : Int32} (h : inD a) : jrem ((a - 1024) / 16) 4 = ((a - 1024) / 16) &&& 3 := by
  obtain ⟨j, hj, rfl⟩ := inD_nat h
  exact (inD_facts j hj).2.2.2.2
theorem ln_nn {a : Int32} (h : inD a) : 0 ≤ ((a - 1024) / 16).toInt := by
  obtain ⟨j, hj, rfl⟩ := inD_nat h
  rw [(inD_facts j hj).2.2.2.1]
  omega
theorem inD_nn {a : Int32} (h : inD a) : ¬ a < 0 := by
  obtain ⟨j, hj, rfl⟩ := inD_nat h
  exact nI_pos (by omega)
theorem e_has1 (S : St) {a : Int32} (h : inD a) : evI (wp_Sto_has S a) 1 S := fun K k => by
  unfold wp_Sto_has wp_Sto_has_19
  rw [if_neg h.1, if_neg h.2]; exact ⟨isB_1, k⟩
theorem e_has0 (S : St) {a : Int32} (h : ¬ inD a) : evI (wp_Sto_has S a) 0 S := fun K k => by
  unfold wp_Sto_has wp_Sto_has_18 wp_Sto_has_19
  by_cases h1 : a < 1024
  · rw [if_pos h1]; exact ⟨isB_0, k⟩
  · rw [if_neg h1]
    by_cases h2 : (1280 : Int32) ≤ a
    · rw [if_pos h2]; exact ⟨isB_0, k⟩
    · exact absurd ⟨h1, h2⟩ h
theorem e_isD1 (S : St) {a : Int32} (h : inD a) : evI (wp_M_isData S a) 1 S := fun K k => by
  unfold wp_M_isData wp_M_isData_19
  rw [if_neg h.1, if_neg h.2]; exact ⟨isB_1, k⟩
theorem e_isD0 (S : St) {a : Int32} (h : ¬ inD a) : evI (wp_M_isData S a) 0 S := fun K k => by
  unfold wp_M_isData wp_M_isData_18 wp_M_isData_19
  by_cases h1 : a < 1024
  · rw [if_pos h1]; exact ⟨isB_0, k⟩
  · rw [if_neg h1]
    by_cases h2 : (1280 : Int32) ≤ a
    · rw [if_pos h2]; exact ⟨isB_0, k⟩
    · exact absurd ⟨h1, h2⟩ h
/-- what is read, what is written, by the words W -/
def rdv (W : Nat → Int32) (a f : Int32) : Int32 := (fun x => if f = 0 then x.toInt8.toInt32 else if f = 1 then x.toInt16.toInt32 else if f = 2 then x else if f = 3 then x else if f = 4 then x &&& 255 else if f = 5 then x &&& 65535 else x) (jushr (W (dI a).toNatClampNeg) ((a &&& 3) * 8))
def mkm (f : Int32) : Int32 := if f = 0 then 255 else if f = 1 then 65535 else -1
def mrg (W : Nat → Int32) (a f v : Int32) : Int32 := (W (dI a).toNatClampNeg &&& ((mkm f <<< (((a &&& 3) * 8) &&& 31)) ^^^ (-1))) ||| ((v <<< (((a &&& 3) * 8) &&& 31)) &&& (mkm f <<< (((a &&& 3) * 8) &&& 31)))
theorem e_around (S : St) {a : Int32} (h : inD a) : evI (wp_Sto_wordAround S a) (S 4 (dI a).toNatClampNeg) S := fun K k => by
  unfold wp_Sto_wordAround
  refine e_has1 S h _ ?_
  rw [if_neg (by decide)]
  exact ⟨dI_in h, k⟩
theorem e_read (S : St) {a : Int32} (f : Int32) (h : inD a) : evI (wp_Sto_read S a f) (rdv (S 4) a f) S := fun K k => by
  unfold wp_Sto_read
  refine e_around S h _ ?_
  unfold wp_Sto_bitsBelow
  intro x e
  subst e
  unfold rdv at k
  dsimp only at k
  repeat' split
  all_goals simp_all
theorem e_setW (S : St) {a v : Int32} (h : inD a) : evV (wp_Sto_setWord S a v) (st S 4 (dI a).toNatClampNeg v) := fun K k => by
  unfold wp_Sto_setWord
  refine e_has1 S h _ ?_
  rw [if_neg (by decide)]
  refine ⟨dI_in h, fun S4 e4 => ?_⟩
  subst e4
  exact k
theorem e_write (S : St) {a : Int32} (f v : Int32) (h : inD a) : evV (wp_Sto_write S a f v) (st S 4 (dI a).toNatClampNeg (mrg (S 4) a f v)) := fun K k => by
  have key : ∀ m : Int32, m = mkm f → wp_Sto_write_21 K S a v m := by
    intro m hm
    subst hm
    unfold wp_Sto_write_21
    unfold wp_Sto_bitsBelow
    intro x e
    subst e
    refine e_around S h _ ?_
    intro x e
    subst e
    refine e_setW S h _ ?_
    exact k
  unfold wp_Sto_write
  by_cases h0 : f = 0
  · rw [if_pos h0]; exact key 255 (by unfold mkm; rw [if_pos h0])
  rw [if_neg h0]
  by_cases h1 : f = 1
  · rw [if_pos h1]; exact key 65535 (by unfold mkm; rw [if_neg h0, if_pos h1])
  rw [if_neg h1]
  exact key (-1) (by unfold mkm; rw [if_neg h0, if_neg h1])
