/-! the relation between the two -/
def EQS (S T : St) : Prop := S 3 = T 4 ∧ okC (T 4) ∧ S 1 = T 1 ∧ S 0 14 = T 0 41 ∧ S 0 15 = T 0 42 ∧ S 0 16 = T 0 43 ∧ S 0 11 = T 0 14 ∧ S 0 12 = T 0 15 ∧ (T 0 13 = 0 → T 0 15 = 0 ∧ T 0 14 = 0) ∧ CA S T ∧ 1 ≤ (T 0 0).toInt ∧ (T 0 0).toInt ≤ 8 ∧ (T 0 9 = 0 → T 0 11 = 0)
def FLD (n : Nat) (T : St) : Prop := T 0 17 = nI n ∧ n < 150 ∧ T 2 = fR T n ∧ T 3 = fW T n ∧ ∀ i, i < n → isB (T 15 i)
def MEM (c : Nat) (j n : Nat) (S T : St) : Prop := (n = j ∧ S 17 0 = 0) ∨ (n = j + 1 ∧ ENT (S 17) T j ∧ (S 17 3).toInt ≤ c ∧ c < (S 17 4).toInt ∧ S 17 4 = S 0 11 ∧ (S 17 8 = 1 → S 0 12 = S 17 6))
def EXE (c : Nat) (i : Nat) (S T : St) : Prop := ENT (S 16) T i ∧ c < (S 16 3).toInt ∧ (S 16 3).toInt ≤ (S 15 11).toInt ∧ (S 16 3).toInt < (S 16 4).toInt ∧ S 16 4 = S 0 11 ∧ (S 16 8 = 1 → S 0 12 = S 16 6)
def PIPE (c : Nat) (j n : Nat) (S T : St) : Prop := (S 16 0 = 0 ∧ MEM c j n S T) ∨ (n = j + 1 ∧ S 17 0 = 0 ∧ EXE c j S T) ∨ (n = j + 2 ∧ ENT (S 17) T j ∧ (S 17 3).toInt ≤ c ∧ c < (S 17 4).toInt ∧ (S 17 4).toInt ≤ (S 16 3).toInt ∧ EXE c (j + 1) S T)
def EX0 (S T : St) : Prop := S 15 0 = T 0 6 ∧ ((S 15 1 = 1 ∧ icd T) ∨ (S 15 1 = 0 ∧ ¬ icd T)) ∧ S 15 2 = wd T ∧ DEC S ∧ S 15 9 = gs (ctS S (T 0 16)) (T 0 6) ∧ S 15 10 = fd T ∧ T 0 6 &&& 3 = 0
def TIM (c b : Int) (T : St) : Prop := 0 ≤ (T 0 11).toInt ∧ (T 0 11).toInt ≤ c ∧ 0 < (T 0 16).toInt ∧ (T 0 16).toInt ≤ c + 1 ∧ b ≤ c + 130 ∧ 0 ≤ (T 0 14).toInt ∧ (T 0 14).toInt ≤ b + 65 ∧ (¬ T 0 15 = 0 → us (wd T) (T 0 15) → (T 0 14).toInt ≤ b)
/-- one that has ended -/
def DON (c : Nat) (T : St) (i : Nat) : Prop := (T 10 i).toInt ≤ c ∧ vp_in (T 11 i) 32 ∧ (¬ T 13 i < 0 → vp_in (T 13 i) 64)
/-- all that does not hang on the pipeline's places -/
def NOW (N : Nat × Nat) (T : St) : Prop := T 0 1 = nI N.1 ∧ T 0 37 = nI N.2
def COM (N : Nat × Nat) (c j n nl : Nat) (S T : St) : Prop := S 0 10 = nI c ∧ c ≤ 51300 ∧ EQS S T ∧ FO nl S T ∧ VIS j S T ∧ FLD n T ∧ EX0 S T ∧ 0 ≤ (T 0 37).toInt ∧ (T 0 37).toInt + j ≤ c ∧ NOW N T ∧ ∀ i, i < j → DON c T i
/-- behind cycle c -/
def RR (N : Nat × Nat) (c j n nl : Nat) (S T : St) : Prop := COM N c j n nl S T ∧ PIPE c j n S T ∧ TIM c (S 15 11).toInt T ∧ (c : Int) < (S 15 11).toInt ∧ BEG (S 15 11) T
/-- within cycle c, before one begins -/
def PRE (N : Nat × Nat) (c j n nl : Nat) (S T : St) : Prop := COM N c j n nl S T ∧ S 16 0 = 0 ∧ MEM c j n S T ∧ TIM (c - 1) c T ∧ 1 ≤ c ∧ S 15 11 = nI c
theorem clamp_int {x : Int32} : x.toNatClampNeg = x.toInt.toNat := rfl
theorem clamp_inj {x y : Int32} {n : Nat} (hx : vp_in x n) (hy : vp_in y n) (h : x.toNatClampNeg = y.toNatClampNeg) : x = y := by
  rw [vp_in_iff] at hx hy
  rw [clamp_int, clamp_int] at h
  exact i_eq.mpr (by omega)
theorem operand_ev {N : Nat × Nat} {c j n nl : Nat} {S T : St} (h : PRE N c j n nl S T) {r : Int32} (hr : vp_in r 32) : ∃ v, evI (wp_K_operand S r) v S ∧ (us (wd T) r → v = T 2 r.toNatClampNeg) := by
  obtain ⟨⟨hc, _, ⟨_, _, _, _, _, _, h11, h12, _⟩, _, ⟨v2, _⟩, ⟨_, _, f2, _⟩, _⟩, _, hm, ⟨_, _, _, _, _, _, _, hus⟩, _⟩ := h
  have e29 : ∀ K : Int32 → St → Prop, K (S 2 r.toNatClampNeg) S → wp_K_operand_29 K S r := by
    intro K k
    unfold wp_K_operand_29 wp_K_operand_30 wp_K_operand_51
    exact it rfl ⟨hr, k⟩
  rcases hm with ⟨e, m0⟩ | ⟨e, he, m3, m4, mE, mL⟩
  · refine ⟨S 2 r.toNatClampNeg, fun K k => ?_, fun _ => ?_⟩
    · unfold wp_K_operand
      by_cases c0 : r = 0
      · exact it c0 (e29 K k)
      · exact ie c0 (it m0 (e29 K k))
    · rw [v2, f2, e]
  · obtain ⟨q0, q1, q3, q4, q5, q6, qin, qa⟩ := he
    have fe : T 2 = if T 11 j = 0 then S 2 else upd (S 2) (T 11 j).toNatClampNeg (T 12 j) := by
      rw [f2, e, v2]; rfl
    by_cases cr : r = 0
    · refine ⟨S 2 r.toNatClampNeg, fun K k => ?_, fun _ => ?_⟩
      · unfold wp_K_operand
        exact it cr (e29 K k)
      · rw [fe]
        by_cases d : T 11 j = 0
        · rw [if_pos d]
        · rw [if_neg d, upd_n]
          intro q
          rw [q6] at qin
          exact d ((clamp_inj hr qin q).symm.trans cr)
    · by_cases cd : S 17 6 = r
      · refine ⟨S 17 7, fun K k => ?_, fun hu => ?_⟩
        · unfold wp_K_operand wp_K_operand_30 wp_K_operand_51
          refine ie cr (ie (by rw [q0]; decide) (it cd ?_))
          exact ie (by decide) k
        · rw [fe, ← q6, cd, if_neg cr, upd_s]
          rcases qa with ⟨_, _, z⟩ | ⟨w, _, _, _⟩ | ⟨_, _, w, _⟩
          · exact (z (by rw [cd]; exact cr)).symm
          · have l := mL w
            rw [h12, cd] at l
            have := hus (by rw [l]; exact cr) (by rw [l]; exact hu)
            rw [mE, h11] at m4
            omega
          · exact absurd (cd.symm.trans w) cr
      · refine ⟨S 2 r.toNatClampNeg, fun K k => ?_, fun _ => ?_⟩
        · unfold wp_K_operand
          exact ie cr (ie (by rw [q0]; decide) (ie cd (e29 K k)))
        · rw [fe]
          by_cases d : T 11 j = 0
          · rw [if_pos d]
          · rw [if_neg d, upd_n]
            intro q
            rw [q6] at qin cd
            exact cd (clamp_inj hr qin q).symm
