/-! the reference's ends and shift -/
def EN (U0 : St) (i : Nat) (U : St) : Prop := U 5 = fR U0 i ∧ U 6 = fW U0 i ∧ U 0 40 = fM U0 i ∧ U 0 37 = U0 0 37 + nI i ∧ U 25 = fP U0 i ∧ U 26 = fQ U0 i ∧ (∀ x, x ≠ 0 → x ≠ 5 → x ≠ 6 → x ≠ 25 → x ≠ 26 → U x = U0 x) ∧ (∀ k, k ≠ 37 → k ≠ 40 → U 0 k = U0 0 k)
theorem add_nI1 (x : Int32) (i : Nat) : x + nI i + 1 = x + nI (i + 1) := by rw [Int32.add_assoc, nI_1]
theorem add_nI0 (x : Int32) : x + nI 0 = x := i_eq.mpr (by
  have : nI 0 = 0 := rfl
  rw [this]; simp)
theorem EN_0 (U0 : St) : EN U0 0 U0 := ⟨rfl, rfl, rfl, (add_nI0 _).symm, rfl, rfl, fun _ _ _ _ _ _ => rfl, fun _ _ _ => rfl⟩
theorem EN_1 {U0 U : St} {i : Nat} (h : EN U0 i U) : EN U0 (i + 1) (endT U i) := by
  obtain ⟨h5, h6, h40, h37, h25, h26, hx, hk⟩ := h
  have r : ∀ x, 7 ≤ x → x ≤ 15 → U x = U0 x := fun x a b => hx x (by omega) (by omega) (by omega) (by omega) (by omega)
  refine ⟨?_, ?_, ?_, ?_, ?_, ?_, fun x x0 x5 x6 x25 x26 => ?_, fun k k37 k40 => ?_⟩
  · show apR U i (U 5) = apR U0 i (fR U0 i)
    unfold apR
    rw [r 11 (by decide) (by decide), r 12 (by decide) (by decide), h5]
  · show apW U i (U 6) = apW U0 i (fW U0 i)
    unfold apW
    rw [r 13 (by decide) (by decide), r 14 (by decide) (by decide), h6]
  · show apM U i (U 0 40) = apM U0 i (fM U0 i)
    unfold apM
    rw [r 15 (by decide) (by decide), h40]
  · show U 0 37 + 1 = _
    rw [h37]; exact add_nI1 _ _
  · show upd (U 25) (jrem (U 0 37) 16).toNatClampNeg (U 7 i) = upd (fP U0 i) (rgI U0 i) (U0 7 i)
    unfold rgI
    rw [h25, h37, r 7 (by decide) (by decide)]
  · show upd (U 26) (jrem (U 0 37) 16).toNatClampNeg (U 10 i) = upd (fQ U0 i) (rgI U0 i) (U0 10 i)
    unfold rgI
    rw [h26, h37, r 10 (by decide) (by decide)]
  · unfold endT
    rw [if_neg x0, if_neg x5, if_neg x6, if_neg x25, if_neg x26]
    exact hx x x0 x5 x6 x25 x26
  · show upd (upd (U 0) 40 (apM U i (U 0 40))) 37 (U 0 37 + 1) k = _
    rw [upd_n k37, upd_n k40]
    exact hk k k37 k40
theorem ends_ev {N j n : Nat} {U0 : St} (hN : N ≤ 51300) (hn : U0 0 17 = nI n) (hn2 : n < 150) (hj : j ≤ n) (h1 : U0 0 1 = nI N) (h37 : 0 ≤ (U0 0 37).toInt) (h37b : (U0 0 37).toInt ≤ 51300) (hd : ∀ i, i < j → DON N U0 i) (hs : n = j ∨ (N : Int) < (U0 10 j).toInt) : ∃ U, EN U0 j U ∧ ∀ K : Int32 → St → Prop, wp_M_run_83 K U (nI j) → ∃ f, wp_M_run_51 K f U0 0 := by
  have go : ∀ (d i : Nat) (U : St), i + d = j → EN U0 i U → ∃ U', EN U0 j U' ∧ ∀ K : Int32 → St → Prop, wp_M_run_83 K U' (nI j) → ∃ f, wp_M_run_51 K f U (nI i) := by
    intro d
    induction d with
    | zero =>
      intro i U hi hE
      have : i = j := by omega
      subst this
      refine ⟨U, hE, fun K k => ⟨1, ?_⟩⟩
      obtain ⟨_, _, _, _, _, _, hx, hk⟩ := hE
      rw [wp_M_run_51]
      rcases hs with q | q
      · refine it ?_ k
        rw [hk 17 (by decide) (by decide), hn, q]
        exact i_le.mpr (Int.le_refl _)
      · by_cases c : U 0 17 ≤ nI i
        · exact it c k
        · refine ie c ⟨vp_in_nI (by omega) (by decide), it ?_ k⟩
          rw [nI_clamp (by omega), hk 1 (by decide) (by decide), h1, hx 10 (by decide) (by decide) (by decide) (by decide) (by decide), i_lt, nI_toInt (by omega)]
          exact q
    | succ d ih =>
      intro i U hi hE
      obtain ⟨U', g1, g2⟩ := ih (i + 1) (endT U i) (by omega) (EN_1 hE)
      refine ⟨U', g1, fun K k => ?_⟩
      obtain ⟨f, kk⟩ := g2 K k
      refine ⟨f + 1, ?_⟩
      obtain ⟨_, _, _, e37, _, _, hx, hk⟩ := hE
      have hD := hd i (by omega)
      have r : ∀ x, 7 ≤ x → x ≤ 15 → U x = U0 x := fun x a b => hx x (by omega) (by omega) (by omega) (by omega) (by omega)
      rw [wp_M_run_51]
      refine ie ?_ ⟨vp_in_nI (by omega) (by decide), ie ?_ ?_⟩
      · rw [hk 17 (by decide) (by decide), hn, i_le, nI_toInt (by omega), nI_toInt (by omega)]; omega
      · rw [nI_clamp (by omega), hk 1 (by decide) (by decide), h1, r 10 (by decide) (by decide), i_lt, nI_toInt (by omega)]
        have := hD.1
        omega
      · refine Mend_ev (by omega) ?_ (by rw [r 11 (by decide) (by decide)]; exact hD.2.1) (by rw [r 13 (by decide) (by decide)]; exact hD.2.2) _ ?_
        · rw [e37, add_int h37 (by omega) (by rw [nI_toInt (by omega)]; omega) (by rw [nI_toInt (by omega)]; omega), nI_toInt (by omega)]; omega
        · rw [nI_1]; exact kk
  obtain ⟨U', g1, g2⟩ := go j 0 U0 (by omega) (EN_0 U0)
  exact ⟨U', g1, g2⟩
/-- what a shift leaves: the rows of what is pending, from the j-th on -/
def SH (j n k : Nat) (U V : St) : Prop := (∀ x, (x < 7 ∨ 15 < x) → V x = U x) ∧ (∀ x, 7 ≤ x → x ≤ 15 → ∀ i, i + j < k → V x i = U x (i + j)) ∧ (∀ x, 7 ≤ x → x ≤ 15 → ∀ i, k ≤ i → V x i = U x i)
def shS (V : St) (m k : Nat) : St := fun x => if 7 ≤ x ∧ x ≤ 15 then upd (V x) m (V x k) else V x
theorem sh9 (V : St) (m k : Nat) : (fun a7 : St => (fun a8 : St => (fun a9 : St => (fun a10 : St => (fun a11 : St => (fun a12 : St => (fun a13 : St => (fun a14 : St => st a14 15 m (V 15 k)) (st a13 14 m (a13 14 k))) (st a12 13 m (a12 13 k))) (st a11 12 m (a11 12 k))) (st a10 11 m (a10 11 k))) (st a9 10 m (a9 10 k))) (st a8 9 m (a8 9 k))) (st a7 8 m (a7 8 k))) (st V 7 m (V 7 k)) = shS V m k := by
  funext i
  unfold shS
  by_cases h7 : i = 7
  · subst h7; rfl
  by_cases h8 : i = 8
  · subst h8; rfl
  by_cases h9 : i = 9
  · subst h9; rfl
  by_cases h10 : i = 10
  · subst h10; rfl
  by_cases h11 : i = 11
  · subst h11; rfl
  by_cases h12 : i = 12
  · subst h12; rfl
  by_cases h13 : i = 13
  · subst h13; rfl
  by_cases h14 : i = 14
  · subst h14; rfl
  by_cases h15 : i = 15
  · subst h15; rfl
  rw [if_neg (by omega)]
  dsimp only
  rw [st_ne h15, st_ne h14, st_ne h13, st_ne h12, st_ne h11, st_ne h10, st_ne h9, st_ne h8, st_ne h7]
theorem shift_ev {j n : Nat} {U : St} (hn : U 0 17 = nI n) (hn2 : n < 150) (hj : j ≤ n) (hB : ∀ i, j ≤ i → i < n → isB (U 15 i)) : ∃ V, SH j n n U V ∧ evV (wp_M_shift U (nI j)) (st V 0 17 (nI n - nI j)) := by
  have go : ∀ (d k : Nat) (V : St), k + d = n → j ≤ k → SH j n k U V → ∃ V', SH j n n U V' ∧ ∀ K : St → Prop, K (st V' 0 17 (nI n - nI j)) → ∃ f, wp_M_shift_2 K f V (nI j) (nI k) := by
    intro d
    induction d with
    | zero =>
      intro k V hk hjk hS
      have : k = n := by omega
      subst this
      refine ⟨V, hS, fun K kk => ⟨1, ?_⟩⟩
      have z : V 0 17 = nI k := by rw [hS.1 0 (by omega)]; exact hn
      rw [wp_M_shift_2]
      refine it ?_ ?_
      · rw [z]; exact i_le.mpr (Int.le_refl _)
      · intro S2 e2
        rw [e2, z]; exact kk
    | succ d ih =>
      intro k V hk hjk hS
      obtain ⟨s1, s2, s3⟩ := hS
      have ed : nI k - nI j = nI (k - j) := by
        have : nI k = nI (k - j) + nI j := by rw [nI_add]; congr 1; omega
        rw [this, Int32.add_sub_cancel]
      have ck : (nI k).toNatClampNeg = k := nI_clamp (by omega)
      have cm : (nI (k - j)).toNatClampNeg = k - j := nI_clamp (by omega)
      have ik : vp_in (nI k) 160 := vp_in_nI (by omega) (by decide)
      have im : vp_in (nI (k - j)) 160 := vp_in_nI (by omega) (by decide)
      have nar : vp_nar .boolean (V 15 k) = V 15 k := by
        rw [s3 15 (by decide) (by decide) k (Nat.le_refl _)]
        exact nar_B (hB k hjk (by omega))
      obtain ⟨V', g1, g2⟩ := ih (k + 1) (shS V (k - j) k) (by omega) (by omega) (by
        refine ⟨fun x hx => ?_, fun x x1 x2 i hi => ?_, fun x x1 x2 i hi => ?_⟩
        · unfold shS
          rw [if_neg (by omega)]; exact s1 x hx
        · unfold shS
          rw [if_pos ⟨x1, x2⟩]
          by_cases q : i = k - j
          · rw [q, upd_s, s3 x x1 x2 k (Nat.le_refl _)]
            congr 1; omega
          · rw [upd_n q]; exact s2 x x1 x2 i (by omega)
        · unfold shS
          rw [if_pos ⟨x1, x2⟩, upd_n (by omega)]
          exact s3 x x1 x2 i (by omega))
      refine ⟨V', g1, fun K kk => ?_⟩
      obtain ⟨f, k3⟩ := g2 K kk
      refine ⟨f + 1, ?_⟩
      rw [wp_M_shift_2]
      refine ie ?_ ?_
      · rw [s1 0 (by omega), hn, i_le, nI_toInt (by omega), nI_toInt (by omega)]; omega
      · rw [ed, ck, cm]
        refine ⟨ik, im, fun a7 e7 => ⟨ik, im, fun a8 e8 => ⟨ik, im, fun a9 e9 => ⟨ik, im, fun a10 e10 => ⟨ik, im, fun a11 e11 => ⟨ik, im, fun a12 e12 => ⟨ik, im, fun a13 e13 => ⟨ik, im, fun a14 e14 => ⟨ik, im, fun a15 e15 => ?_⟩⟩⟩⟩⟩⟩⟩⟩⟩
        have w15 : a14 15 k = V 15 k := by rw [e14, st_ne (by decide), e13, st_ne (by decide), e12, st_ne (by decide), e11, st_ne (by decide), e10, st_ne (by decide), e9, st_ne (by decide), e8, st_ne (by decide), e7, st_ne (by decide)]
        rw [w15, nar] at e15
        have fin : a15 = shS V (k - j) k := by
          rw [e15, e14, e13, e12, e11, e10, e9, e8, e7]
          exact sh9 V (k - j) k
        rw [fin, nI_1]
        exact k3
  obtain ⟨V', g1, g2⟩ := go (n - j) j U (by omega) (Nat.le_refl _) ⟨fun _ _ => rfl, fun x x1 x2 i hi => by omega, fun _ _ _ _ _ => rfl⟩
  exact ⟨V', g1, fun K k => g2 K k⟩
