/-! pure part: what a wp comes to -/
def evI (Wp : (Int32 → St → Prop) → Prop) (r : Int32) (S : St) : Prop := ∀ K : Int32 → St → Prop, K r S → Wp K
def evV (Wp : (St → Prop) → Prop) (S : St) : Prop := ∀ K : St → Prop, K S → Wp K
theorem st_at (S : St) (i k : Nat) (v : Int32) (i' k' : Nat) : st S i k v i' k' = if i' = i then (if k' = k then v else S i' k') else S i' k' := by
  unfold st upd
  by_cases h : i' = i
  · subst h; simp
  · simp [h]
theorem st_ne {S : St} {i k : Nat} {v : Int32} {i' : Nat} (h : i' ≠ i) : st S i k v i' = S i' := by unfold st; rw [if_neg h]
theorem st_eq {S : St} {i k : Nat} {v : Int32} : st S i k v i = upd (S i) k v := by unfold st; rw [if_pos rfl]
theorem upd_s {f : Nat → Int32} {k : Nat} {v : Int32} : upd f k v k = v := by unfold upd; rw [if_pos rfl]
theorem upd_n {f : Nat → Int32} {k j : Nat} {v : Int32} (h : j ≠ k) : upd f k v j = f j := by unfold upd; rw [if_neg h]
theorem vp_lit {x : Int32} {n : Nat} (h : 0 ≤ x.toInt ∧ x.toInt < n) : vp_in x n := vp_in_iff.mpr h
theorem in_08 : vp_in 0 8 := vp_lit (by decide)
theorem in_18 : vp_in 1 8 := vp_lit (by decide)
theorem in_28 : vp_in 2 8 := vp_lit (by decide)
theorem in_48 : vp_in 4 8 := vp_lit (by decide)
theorem in_58 : vp_in 5 8 := vp_lit (by decide)
theorem in_68 : vp_in 6 8 := vp_lit (by decide)
theorem in_78 : vp_in 7 8 := vp_lit (by decide)
theorem in_m (x : Int32) {m : Int32} (k : Nat) (hm : m.toBitVec.toNat = 2 ^ k - 1) (hk : k ≤ 30) {n : Nat} (hn : 2 ^ k = n) : vp_in (x &&& m) n := by rw [← hn]; exact pk_andIn x k hm hk
/-! the parts of a word -/
def wOp (w : Int32) : Int32 := w &&& 127
def wRd (w : Int32) : Int32 := jushr w 7 &&& 31
def wF (w : Int32) : Int32 := jushr w 12 &&& 7
def wA (w : Int32) : Int32 := jushr w 15 &&& 31
def wB (w : Int32) : Int32 := jushr w 20 &&& 31
def wG (w : Int32) : Int32 := jushr w 25
def wN (w : Int32) : Int32 := jushr w 20
theorem wRd_in (w : Int32) : vp_in (wRd w) 32 := in_m _ 5 (by decide) (by decide) (by decide)
theorem wA_in (w : Int32) : vp_in (wA w) 32 := in_m _ 5 (by decide) (by decide) (by decide)
theorem wB_in (w : Int32) : vp_in (wB w) 32 := in_m _ 5 (by decide) (by decide) (by decide)
theorem i32_nat {x y : Int32} (h : x.toBitVec.toNat = y.toBitVec.toNat) : x = y := by
  exact Int32.toBitVec_inj.mp (BitVec.eq_of_toNat_eq h)
theorem jushr_nat (w s : Int32) (k : Nat) (hs : ((s.toUInt32 &&& Int32.toUInt32 31).toBitVec % 32).toNat = k) : (jushr w s).toBitVec.toNat = w.toBitVec.toNat / 2 ^ k := pk_ushr w s k hs
theorem jushr_0 (w : Int32) : jushr w 0 = w := i32_nat (by rw [jushr_nat w 0 0 (by decide)]; simp)
theorem and_nat (x m : Int32) (k : Nat) (hm : m.toBitVec.toNat = 2 ^ k - 1) : (x &&& m).toBitVec.toNat = x.toBitVec.toNat % 2 ^ k := by
  show (x.toBitVec &&& m.toBitVec).toNat = _
  rw [BitVec.toNat_and, hm, Nat.and_two_pow_sub_one_eq_mod]
theorem wG_and (w : Int32) : jushr w 25 &&& 127 = wG w := i32_nat (by
  rw [and_nat _ 127 7 (by decide)]
  have h := jushr_nat w 25 25 (by decide)
  unfold wG
  rw [h]
  have hw : w.toBitVec.toNat < 2 ^ 32 := w.toBitVec.isLt
  omega)
theorem wN_and (w : Int32) : jushr w 20 &&& 4095 = wN w := i32_nat (by
  rw [and_nat _ 4095 12 (by decide)]
  have h := jushr_nat w 20 20 (by decide)
  unfold wN
  rw [h]
  have hw : w.toBitVec.toNat < 2 ^ 32 := w.toBitVec.isLt
  omega)
theorem msk_7 : ((1 : Int32) <<< ((7 : Int32) &&& 31)) - 1 = 127 := by decide
theorem msk_5 : ((1 : Int32) <<< ((5 : Int32) &&& 31)) - 1 = 31 := by decide
theorem msk_3 : ((1 : Int32) <<< ((3 : Int32) &&& 31)) - 1 = 7 := by decide
theorem msk_12 : ((1 : Int32) <<< ((12 : Int32) &&& 31)) - 1 = 4095 := by decide
theorem msk_1 : ((1 : Int32) <<< ((1 : Int32) &&& 31)) - 1 = 1 := by decide
theorem msk_6 : ((1 : Int32) <<< ((6 : Int32) &&& 31)) - 1 = 63 := by decide
theorem msk_4 : ((1 : Int32) <<< ((4 : Int32) &&& 31)) - 1 = 15 := by decide
theorem msk_8 : ((1 : Int32) <<< ((8 : Int32) &&& 31)) - 1 = 255 := by decide
theorem msk_10 : ((1 : Int32) <<< ((10 : Int32) &&& 31)) - 1 = 1023 := by decide
theorem e_op (T : St) : evI (wp_M_op T) (wOp (T 0 44)) T := fun K h => by
  unfold wp_M_op wp_M_bits
  rw [msk_7, jushr_0]; exact h
theorem e_rd (T : St) : evI (wp_M_bits T 7 5) (wRd (T 0 44)) T := fun K h => by unfold wp_M_bits; rw [msk_5]; exact h
theorem e_f (T : St) : evI (wp_M_bits T 12 3) (wF (T 0 44)) T := fun K h => by unfold wp_M_bits; rw [msk_3]; exact h
theorem e_a (T : St) : evI (wp_M_bits T 15 5) (wA (T 0 44)) T := fun K h => by unfold wp_M_bits; rw [msk_5]; exact h
theorem e_b (T : St) : evI (wp_M_bits T 20 5) (wB (T 0 44)) T := fun K h => by unfold wp_M_bits; rw [msk_5]; exact h
theorem e_g (T : St) : evI (wp_M_bits T 25 7) (wG (T 0 44)) T := fun K h => by unfold wp_M_bits; rw [msk_7, wG_and]; exact h
theorem e_n (T : St) : evI (wp_M_bits T 20 12) (wN (T 0 44)) T := fun K h => by unfold wp_M_bits; rw [msk_12, wN_and]; exact h
theorem e_regA (T : St) : evI (wp_M_regA T) (T 2 (wA (T 0 44)).toNatClampNeg) T := fun K h => by
  unfold wp_M_regA
  exact e_a T _ ⟨wA_in _, h⟩
theorem e_regB (T : St) : evI (wp_M_regB T) (T 2 (wB (T 0 44)).toNatClampNeg) T := fun K h => by
  unfold wp_M_regB
  exact e_b T _ ⟨wB_in _, h⟩
def nmI (w : Int32) : Int32 := w >>> ((20 : Int32) &&& 31)
def nmS (w : Int32) : Int32 := ((w >>> ((25 : Int32) &&& 31)) <<< ((5 : Int32) &&& 31)) ||| wRd w
def nmB (w : Int32) : Int32 := ((((w >>> ((31 : Int32) &&& 31)) <<< ((12 : Int32) &&& 31)) ||| ((jushr w 7 &&& 1) <<< ((11 : Int32) &&& 31))) ||| ((jushr w 25 &&& 63) <<< ((5 : Int32) &&& 31))) ||| ((jushr w 8 &&& 15) <<< ((1 : Int32) &&& 31))
def nmU (w : Int32) : Int32 := w &&& (-4096)
def nmJ (w : Int32) : Int32 := ((((w >>> ((31 : Int32) &&& 31)) <<< ((20 : Int32) &&& 31)) ||| ((jushr w 12 &&& 255) <<< ((12 : Int32) &&& 31))) ||| ((jushr w 20 &&& 1) <<< ((11 : Int32) &&& 31))) ||| ((jushr w 21 &&& 1023) <<< ((1 : Int32) &&& 31))
theorem nmJ_mid (w : Int32) : (jushr w 12 &&& 255) <<< ((12 : Int32) &&& 31) = w &&& 1044480 := i32_nat (by
  have h1 : ((jushr w 12 &&& 255) <<< ((12 : Int32) &&& 31)).toBitVec.toNat = (jushr w 12 &&& 255).toBitVec.toNat * 2 ^ 12 % 2 ^ 32 := pk_shl _ _ 12 (by decide)
  rw [h1, and_nat _ 255 8 (by decide), jushr_nat w 12 12 (by decide)]
  show _ = (w.toBitVec &&& (1044480 : Int32).toBitVec).toNat
  rw [BitVec.toNat_and]
  have e : (1044480 : Int32).toBitVec.toNat = 255 * 2 ^ 12 := by decide
  rw [e]
  apply Nat.eq_of_testBit_eq
  intro i
  rw [Nat.testBit_and]
  have hlt : w.toBitVec.toNat / 2 ^ 12 % 2 ^ 8 * 2 ^ 12 < 2 ^ 32 := by omega
  rw [Nat.mod_eq_of_lt hlt, Nat.testBit_mul_two_pow, Nat.testBit_mul_two_pow, Nat.testBit_mod_two_pow, Nat.testBit_div_two_pow]
  by_cases hi : 12 ≤ i
  · rw [show i - 12 + 12 = i by omega]
    have h255 : Nat.testBit 255 (i - 12) = decide (i - 12 < 8) := by
      have := Nat.testBit_two_pow_sub_one 8 (i - 12)
      exact this
    rw [h255]
    simp [hi, Bool.and_comm]
  · simp [hi])
theorem e_nmI (T : St) : evI (wp_M_numberI T) (nmI (T 0 44)) T := fun K h => by unfold wp_M_numberI; exact h
theorem e_nmS (T : St) : evI (wp_M_numberS T) (nmS (T 0 44)) T := fun K h => by unfold wp_M_numberS; exact e_rd T _ h
theorem e_nmB (T : St) : evI (wp_M_numberB T) (nmB (T 0 44)) T := fun K h => by
  unfold wp_M_numberB wp_M_bits
  rw [msk_1, msk_6, msk_4]; exact h
theorem e_nmJ (T : St) : evI (wp_M_numberJ T) (nmJ (T 0 44)) T := fun K h => by
  unfold wp_M_numberJ wp_M_bits
  rw [msk_8, msk_1, msk_10]; exact h
