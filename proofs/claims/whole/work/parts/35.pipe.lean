/-! what has begun and not yet ended; what those that end make -/
def apR (T : St) (i : Nat) (R : Nat → Int32) : Nat → Int32 := if T 11 i = 0 then R else upd R (T 11 i).toNatClampNeg (T 12 i)
def apW (T : St) (i : Nat) (W : Nat → Int32) : Nat → Int32 := if T 13 i < 0 then W else upd W (T 13 i).toNatClampNeg (T 14 i)
def apM (T : St) (i : Nat) (m : Int32) : Int32 := if T 15 i = 0 then m else m + 1
def rgI (T : St) (i : Nat) : Nat := (jrem (T 0 37 + nI i) 16).toNatClampNeg
def fR (T : St) : Nat → Nat → Int32
  | 0 => T 5
  | i + 1 => apR T i (fR T i)
def fW (T : St) : Nat → Nat → Int32
  | 0 => T 6
  | i + 1 => apW T i (fW T i)
def fM (T : St) : Nat → Int32
  | 0 => T 0 40
  | i + 1 => apM T i (fM T i)
def fP (T : St) : Nat → Nat → Int32
  | 0 => T 25
  | i + 1 => upd (fP T i) (rgI T i) (T 7 i)
def fQ (T : St) : Nat → Nat → Int32
  | 0 => T 26
  | i + 1 => upd (fQ T i) (rgI T i) (T 10 i)
/-- the rows of what is pending agree below n, and what is seen at the start -/
def SAM (n : Nat) (T T' : St) : Prop := (∀ r, 7 ≤ r → r ≤ 15 → ∀ i, i < n → T' r i = T r i) ∧ T' 5 = T 5 ∧ T' 6 = T 6 ∧ T' 25 = T 25 ∧ T' 26 = T 26 ∧ T' 0 37 = T 0 37 ∧ T' 0 40 = T 0 40
theorem SAM_f {n : Nat} {T T' : St} (h : SAM n T T') : ∀ i, i ≤ n → fR T' i = fR T i ∧ fW T' i = fW T i ∧ fM T' i = fM T i ∧ fP T' i = fP T i ∧ fQ T' i = fQ T i := by
  obtain ⟨h1, h5, h6, h25, h26, h37, h40⟩ := h
  intro i
  induction i with
  | zero => intro _; exact ⟨h5, h6, h40, h25, h26⟩
  | succ i ih =>
    intro hi
    obtain ⟨a1, a2, a3, a4, a5⟩ := ih (by omega)
    have e : ∀ r, 7 ≤ r → r ≤ 15 → T' r i = T r i := fun r q1 q2 => h1 r q1 q2 i (by omega)
    have er : rgI T' i = rgI T i := by unfold rgI; rw [h37]
    refine ⟨?_, ?_, ?_, ?_, ?_⟩
    · show apR T' i (fR T' i) = apR T i (fR T i)
      unfold apR
      rw [a1, e 11 (by omega) (by omega), e 12 (by omega) (by omega)]
    · show apW T' i (fW T' i) = apW T i (fW T i)
      unfold apW
      rw [a2, e 13 (by omega) (by omega), e 14 (by omega) (by omega)]
    · show apM T' i (fM T' i) = apM T i (fM T i)
      unfold apM
      rw [a3, e 15 (by omega) (by omega)]
    · show upd (fP T' i) (rgI T' i) (T' 7 i) = upd (fP T i) (rgI T i) (T 7 i)
      rw [a4, er, e 7 (by omega) (by omega)]
    · show upd (fQ T' i) (rgI T' i) (T' 10 i) = upd (fQ T i) (rgI T i) (T 10 i)
      rw [a5, er, e 10 (by omega) (by omega)]
/-- a row of the class and a pending one of the reference -/
def ENT (E : Nat → Int32) (T : St) (i : Nat) : Prop :=
  E 0 = 1 ∧ E 1 = T 7 i ∧ E 3 = T 9 i ∧ E 4 = T 10 i ∧ E 5 = T 15 i ∧ E 6 = T 11 i ∧ vp_in (E 6) 32 ∧
  ((E 8 = 0 ∧ T 13 i = -1 ∧ (¬ E 6 = 0 → T 12 i = E 7)) ∨ (E 8 = 1 ∧ inD (E 9) ∧ T 13 i = -1 ∧ T 12 i = rdv (fW T i) (E 9) (E 10)) ∨ (E 8 = 2 ∧ inD (E 9) ∧ E 6 = 0 ∧ T 13 i = dI (E 9) ∧ T 14 i = mrg (fW T i) (E 9) (E 10) (E 11)))
theorem ENT_same {n : Nat} {T T' : St} (h : SAM n T T') {E : Nat → Int32} {i : Nat} (hi : i < n) (he : ENT E T i) : ENT E T' i := by
  have e : ∀ r, 7 ≤ r → r ≤ 15 → T' r i = T r i := fun r q1 q2 => h.1 r q1 q2 i hi
  have ew := (SAM_f h i (by omega)).2.1
  unfold ENT
  rw [e 7 (by omega) (by omega), e 9 (by omega) (by omega), e 10 (by omega) (by omega), e 11 (by omega) (by omega), e 12 (by omega) (by omega), e 13 (by omega) (by omega), e 14 (by omega) (by omega), e 15 (by omega) (by omega), ew]
  exact he
def VIS (j : Nat) (S T : St) : Prop := S 2 = fR T j ∧ S 4 = fW T j ∧ S 0 13 = fM T j ∧ S 12 2 = T 0 37 + nI j ∧ S 13 = fP T j ∧ S 14 = fQ T j
theorem jrem16 {x : Int32} (h : 0 ≤ x.toInt) : jrem x 16 = x &&& 15 := by
  apply i_eq.mpr
  rw [jrem_toInt x 16 16 (by decide) (by decide) (by decide), Int.tmod_eq_emod_of_nonneg h]
  obtain ⟨j, hj, e⟩ := pk_andE x (m := 15) 4 (by decide)
  have e2 := and_nat x 15 4 (by decide)
  rw [e] at e2 ⊢
  rw [nI_toInt (by omega)]
  rw [pk_tn (by omega)] at e2
  have ht : x.toInt = (x.toBitVec.toNat : Int) := by
    show x.toBitVec.toInt = _
    have h' : 0 ≤ x.toBitVec.toInt := h
    rw [BitVec.toInt_eq_toNat_cond] at h' ⊢
    split at h' <;> rename_i q
    · rw [if_pos q]
    · have := x.toBitVec.isLt
      omega
  rw [ht, e2]
  omega
/-- the one at memory ends -/
theorem end_ev {S T : St} {j c : Nat} (hv : VIS j S T) (he : ENT (S 17) T j) (h37 : 0 ≤ (T 0 37).toInt) (hb : (T 0 37).toInt < 2 ^ 29) (hj : j < 2 ^ 29) (hw : S 17 4 = S 0 10) : ∃ S', evV (wp_K_end S) S' ∧ VIS (j + 1) S' T ∧ S' 17 0 = 0 ∧ (∀ i, i ≠ 0 → i ≠ 2 → i ≠ 4 → i ≠ 12 → i ≠ 13 → i ≠ 14 → i ≠ 17 → S' i = S i) ∧ (∀ k, k ≠ 13 → S' 0 k = S 0 k) := by
  obtain ⟨v2, v4, v13, v12, vp, vq⟩ := hv
  obtain ⟨e0, e1, e3, e4, e5, e6, hin, hacc⟩ := he
  have tot : (S 12 2).toInt = (T 0 37).toInt + j := by
    rw [v12, add_int h37 (by omega) (by rw [nI_toInt (by omega)]; omega) (by rw [nI_toInt (by omega)]; omega), nI_toInt (by omega)]
  have rg : (S 12 2 &&& 15).toNatClampNeg = rgI T j := by
    unfold rgI
    rw [← v12, jrem16 (by omega)]
  have i16 : vp_in (S 12 2 &&& 15) 16 := in_m _ 4 (by decide) (by decide) (by decide)
  -- the tail: missed, the list
  have tail : ∀ U : St, U 0 = S 0 → U 12 = S 12 → U 13 = S 13 → U 14 = S 14 → U 17 1 = S 17 1 → U 17 5 = S 17 5 → ∃ S', (∀ K : St → Prop, K S' → wp_K_end_82 K U) ∧ S' 0 13 = fM T (j + 1) ∧ S' 12 2 = T 0 37 + nI (j + 1) ∧ S' 13 = fP T (j + 1) ∧ S' 14 = fQ T (j + 1) ∧ (∀ i, i ≠ 0 → i ≠ 12 → i ≠ 13 → i ≠ 14 → S' i = U i) ∧ (∀ k, k ≠ 13 → S' 0 k = S 0 k) := by
    intro U u0 u12 u13 u14 u1 u5
    have t99 : ∀ V : St, V 12 = S 12 → V 13 = S 13 → V 14 = S 14 → V 17 1 = S 17 1 → V 0 10 = S 0 10 → ∀ K : St → Prop, K (st (st (st V 13 (rgI T j) (S 17 1)) 14 (rgI T j) (S 0 10)) 12 2 (S 12 2 + 1)) → wp_K_end_99 K V := by
      intro V w12 w13 w14 w1 w10 K k
      unfold wp_K_end_99 wp_His_add
      rw [w1, w10]
      intro x1 ex
      rw [w12] at ex
      subst ex
      refine ⟨i16, fun S2 e2 => ⟨i16, fun S3 e3 S4 e4 => ?_⟩⟩
      subst e2 e3
      rw [rg] at e4
      have : S4 = st (st (st V 13 (rgI T j) (S 17 1)) 14 (rgI T j) (S 0 10)) 12 2 (S 12 2 + 1) := by
        rw [e4]
        show st _ 12 2 (V 12 2 + 1) = _
        rw [w12]
      rw [this]; exact k
    have n12 : S 12 2 + 1 = T 0 37 + nI (j + 1) := by
      rw [v12, nI_succ, Int32.add_assoc]
    have pp : ∀ V : St, V 13 = S 13 → upd (V 13) (rgI T j) (S 17 1) = fP T (j + 1) := by
      intro V w
      show _ = upd (fP T j) (rgI T j) (T 7 j)
      rw [w, vp, e1]
    have qq : ∀ V : St, V 14 = S 14 → upd (V 14) (rgI T j) (S 0 10) = fQ T (j + 1) := by
      intro V w
      show _ = upd (fQ T j) (rgI T j) (T 10 j)
      rw [w, vq, ← hw, e4]
    by_cases m : S 17 5 = 0
    · refine ⟨st (st (st U 13 (rgI T j) (S 17 1)) 14 (rgI T j) (S 0 10)) 12 2 (S 12 2 + 1), fun K k => ?_, ?_, n12, ?_, ?_, fun i h0 h12 h13 h14 => by rw [st_ne h12, st_ne h14, st_ne h13], fun k hk => ?_⟩
      · unfold wp_K_end_82
        refine it (by rw [u5]; exact m) ?_
        exact t99 U u12 u13 u14 u1 (by rw [u0]) K k
      · show U 0 13 = apM T j (fM T j)
        unfold apM
        rw [u0, v13, if_pos (by rw [← e5]; exact m)]
      · rw [st_ne (by decide), st_ne (by decide), st_eq]; exact pp U u13
      · rw [st_ne (by decide), st_eq, st_ne (by decide)]; exact qq U u14
      · show U 0 k = S 0 k
        rw [u0]
    · refine ⟨st (st (st (st U 0 13 (S 0 13 + 1)) 13 (rgI T j) (S 17 1)) 14 (rgI T j) (S 0 10)) 12 2 (S 12 2 + 1), fun K k => ?_, ?_, n12, ?_, ?_, fun i h0 h12 h13 h14 => by rw [st_ne h12, st_ne h14, st_ne h13, st_ne h0], fun k hk => ?_⟩
      · unfold wp_K_end_82
        refine ie (by rw [u5]; exact m) ?_
        intro S12 e12
        subst e12
        rw [u0]
        exact t99 (st U 0 13 (S 0 13 + 1)) u12 u13 u14 u1 (by show U 0 10 = S 0 10; rw [u0]) K k
      · show S 0 13 + 1 = apM T j (fM T j)
        unfold apM
        rw [v13, if_neg (by rw [← e5]; exact m)]
      · rw [st_ne (by decide), st_ne (by decide), st_eq]; exact pp _ u13
      · rw [st_ne (by decide), st_eq, st_ne (by decide)]; exact qq _ u14
      · rw [st_ne (by decide), st_ne (by decide), st_ne (by decide), st_eq, upd_n hk, u0]
  -- registers
  have mid : ∀ (U : St) (v : Int32), (¬ S 17 6 = 0 → v = T 12 j) → U 0 = S 0 → U 12 = S 12 → U 13 = S 13 → U 14 = S 14 → U 17 1 = S 17 1 → U 17 5 = S 17 5 → U 17 6 = S 17 6 → U 17 7 = v → U 17 0 = 0 → U 2 = S 2 → U 4 = fW T (j + 1) → (∀ i, i ≠ 4 → i ≠ 17 → U i = S i) → ∃ S', (∀ K : St → Prop, K S' → wp_K_end_62 K U) ∧ VIS (j + 1) S' T ∧ S' 17 0 = 0 ∧ (∀ i, i ≠ 0 → i ≠ 2 → i ≠ 4 → i ≠ 12 → i ≠ 13 → i ≠ 14 → i ≠ 17 → S' i = S i) ∧ (∀ k, k ≠ 13 → S' 0 k = S 0 k) := by
    intro U v hvv u0 u12 u13 u14 u1 u5 u6 u7 ua u2 u4 ur
    by_cases r0 : S 17 6 = 0
    · obtain ⟨S', k1, k2, k3, k4, k5, k6, k7⟩ := tail U u0 u12 u13 u14 u1 u5
      refine ⟨S', fun K k => ?_, ⟨?_, ?_, k2, k3, k4, k5⟩, ?_, fun i h0 h2 h4 h12 h13 h14 h17 => ?_, k7⟩
      · unfold wp_K_end_62
        exact it (by rw [u6]; exact r0) (k1 K k)
      · rw [k6 2 (by decide) (by decide) (by decide) (by decide), u2, v2]
        show fR T j = apR T j (fR T j)
        unfold apR
        rw [if_pos (by rw [← e6]; exact r0)]
      · rw [k6 4 (by decide) (by decide) (by decide) (by decide)]; exact u4
      · rw [k6 17 (by decide) (by decide) (by decide) (by decide)]; exact ua
      · rw [k6 i h0 h12 h13 h14, ur i h4 h17]
    · obtain ⟨S', k1, k2, k3, k4, k5, k6, k7⟩ := tail (st U 2 (S 17 6).toNatClampNeg v) (by rw [st_ne (by decide)]; exact u0) (by rw [st_ne (by decide)]; exact u12) (by rw [st_ne (by decide)]; exact u13) (by rw [st_ne (by decide)]; exact u14) (by rw [st_ne (by decide)]; exact u1) (by rw [st_ne (by decide)]; exact u5)
      refine ⟨S', fun K k => ?_, ⟨?_, ?_, k2, k3, k4, k5⟩, ?_, fun i h0 h2 h4 h12 h13 h14 h17 => ?_, k7⟩
      · unfold wp_K_end_62
        refine ie (by rw [u6]; exact r0) ⟨by rw [u6]; exact hin, ?_⟩
        intro S10 e10
        rw [u6, u7] at e10
        subst e10
        exact k1 K k
      · rw [k6 2 (by decide) (by decide) (by decide) (by decide), st_eq, u2, v2]
        show upd (fR T j) _ v = apR T j (fR T j)
        unfold apR
        rw [if_neg (by rw [← e6]; exact r0), hvv r0, e6]
      · rw [k6 4 (by decide) (by decide) (by decide) (by decide), st_ne (by decide)]; exact u4
      · rw [k6 17 (by decide) (by decide) (by decide) (by decide), st_ne (by decide)]; exact ua
      · rw [k6 i h0 h12 h13 h14, st_ne h2, ur i h4 h17]
  have fw1 : T 13 j = -1 → fW T (j + 1) = fW T j := by
    intro h
    show apW T j (fW T j) = fW T j
    unfold apW
    rw [if_pos (by rw [h]; decide)]
  rcases hacc with ⟨a8, a13, a12⟩ | ⟨a8, ad, a13, a12⟩ | ⟨a8, ad, a6, a13, a14⟩
  · obtain ⟨S', k1, k2⟩ := mid (st S 17 0 0) (S 17 7) (fun h => (a12 h).symm) rfl rfl rfl rfl rfl rfl rfl rfl rfl rfl (by rw [fw1 a13]; exact v4) (fun i h4 h17 => st_ne h17)
    refine ⟨S', fun K k => ?_, k2⟩
    unfold wp_K_end
    intro S1 e1'
    subst e1'
    refine ie (show ¬ S 17 8 = 1 by rw [a8]; decide) (ie (show ¬ S 17 8 = 2 by rw [a8]; decide) ?_)
    exact k1 K k
  · obtain ⟨S', k1, k2⟩ := mid (st (st S 17 0 0) 17 7 (rdv (S 4) (S 17 9) (S 17 10))) (rdv (S 4) (S 17 9) (S 17 10)) (fun _ => by rw [a12, v4]) rfl rfl rfl rfl rfl rfl rfl rfl rfl rfl (by rw [fw1 a13]; exact v4) (fun i h4 h17 => by rw [st_ne h17, st_ne h17])
    refine ⟨S', fun K k => ?_, k2⟩
    unfold wp_K_end
    intro S1 e1'
    subst e1'
    refine it (show S 17 8 = 1 from a8) ?_
    refine e_read (st S 17 0 0) (a := S 17 9) (S 17 10) ad _ ?_
    intro S8 e8
    subst e8
    exact k1 K k
  · obtain ⟨S', k1, k2⟩ := mid (st (st S 17 0 0) 4 (dI (S 17 9)).toNatClampNeg (mrg (S 4) (S 17 9) (S 17 10) (S 17 11))) (S 17 7) (fun h => absurd a6 h) rfl rfl rfl rfl rfl rfl rfl rfl rfl rfl (by
      show upd (S 4) _ _ = apW T j (fW T j)
      unfold apW
      have hn : ¬ T 13 j < 0 := by
        rw [a13]
        have := dI_in ad
        intro q
        exact this (Or.inl q)
      rw [if_neg hn, a13, a14, v4]) (fun i h4 h17 => by rw [st_ne h4, st_ne h17])
    refine ⟨S', fun K k => ?_, k2⟩
    unfold wp_K_end
    intro S1 e1'
    subst e1'
    refine ie (show ¬ S 17 8 = 1 by rw [a8]; decide) (it (show S 17 8 = 2 from a8) ?_)
    refine e_write (st S 17 0 0) (a := S 17 9) (S 17 10) (S 17 11) ad _ ?_
    exact k1 K k
