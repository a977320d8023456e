/-! times of one that goes on: the class's setTimes, the reference's finish -/
def farF (r : Int32) : Int32 := if r ≤ 0 then 0 else 1
def setS (S : St) (r : Int32) : St := st (st (st (st (st (st S 16 5 (farF r)) 16 3 (jmax (S 0 10 + S 16 2) (S 0 11))) 16 4 (jmax (S 0 10 + S 16 2) (S 0 11) + 1 + r)) 16 0 1) 0 11 (jmax (S 0 10 + S 16 2) (S 0 11) + 1 + r)) 0 12 (if S 16 8 = 1 then S 16 6 else 0)
theorem set34_ev (S : St) (r : Int32) (K : St → Prop) (k : K (setS S r)) : wp_K_setTimes_34 K S r := by
  have go : ∀ b, isB b → b = farF r → wp_K_setTimes_44 K S r b := by
    intro b hb e
    unfold wp_K_setTimes_44 wp_K_setTimes_109
    refine ⟨hb, ?_⟩
    intro S6 e6 S7 e7 S8 e8 S9 e9 S10 e10
    subst e6 e7 e8 e9 e10
    unfold setS at k
    rw [← e] at k
    show @ite Prop (S 16 8 = 1) _ _ _
    by_cases c : S 16 8 = 1
    · rw [if_pos c] at k
      refine it c ?_
      intro S12 e12
      subst e12
      exact k
    · rw [if_neg c] at k
      refine ie c ?_
      intro S12 e12
      subst e12
      exact k
  unfold wp_K_setTimes_34
  by_cases c : r ≤ 0
  · exact it c (go 0 isB_0 (by unfold farF; rw [if_pos c]))
  · exact ie c (go 1 isB_1 (by unfold farF; rw [if_neg c]))
/-- what the reference notes of one -/
def FIN (n : Nat) (e op m r cell : Int32) (T T' : St) : Prop :=
  (∀ i, i ≠ 0 → i ≠ 2 → i ≠ 3 → (i < 7 ∨ 15 < i) → T' i = T i) ∧ (∀ k, k ≠ 12 → k ≠ 13 → k ≠ 14 → k ≠ 15 → k ≠ 17 → T' 0 k = T 0 k) ∧ (∀ x, 7 ≤ x → x ≤ 15 → ∀ i, i < n → T' x i = T x i) ∧
  T' 7 n = T 0 6 ∧ T' 9 n = m ∧ T' 10 n = m + 1 + r ∧ T' 11 n = T 0 48 ∧ T' 12 n = T 0 49 ∧ T' 13 n = cell ∧ T' 14 n = T 0 52 ∧ T' 15 n = farF r ∧
  T' 2 = (if T 0 48 = 0 then T 2 else upd (T 2) (T 0 48).toNatClampNeg (T 0 49)) ∧ T' 3 = (if T 0 51 = 0 then T 3 else upd (T 3) cell.toNatClampNeg (T 0 52)) ∧
  T' 0 12 = m ∧ T' 0 13 = 1 ∧ T' 0 14 = m + 1 + r ∧ T' 0 15 = (if op = 3 then T 0 48 else 0) ∧ T' 0 17 = nI (n + 1)
def r9 (T : St) (n : Nat) (v7 v8 v9 v10 v11 v12 v13 v14 v15 : Int32) : St := fun i => if i = 7 then upd (T 7) n v7 else if i = 8 then upd (T 8) n v8 else if i = 9 then upd (T 9) n v9 else if i = 10 then upd (T 10) n v10 else if i = 11 then upd (T 11) n v11 else if i = 12 then upd (T 12) n v12 else if i = 13 then upd (T 13) n v13 else if i = 14 then upd (T 14) n v14 else if i = 15 then upd (T 15) n v15 else T i
theorem st9 (T : St) (n : Nat) (v7 v8 v9 v10 v11 v12 v13 v14 v15 : Int32) : st (st (st (st (st (st (st (st (st T 8 n v8) 9 n v9) 10 n v10) 7 n v7) 11 n v11) 12 n v12) 13 n v13) 14 n v14) 15 n v15 = r9 T n v7 v8 v9 v10 v11 v12 v13 v14 v15 := by
  funext i
  unfold r9
  by_cases h7 : i = 7
  · subst h7; rfl
  by_cases h8 : i = 8
  · subst h8; rfl
  by_cases h9 : i = 9
  · subst h9; rfl
  by_cases h10 : i = 10
  · subst h10; rfl
  by_cases h11 : i = 11
  · subst h11; rfl
  by_cases h12 : i = 12
  · subst h12; rfl
  by_cases h13 : i = 13
  · subst h13; rfl
  by_cases h14 : i = 14
  · subst h14; rfl
  by_cases h15 : i = 15
  · subst h15; rfl
  rw [if_neg h7, if_neg h8, if_neg h9, if_neg h10, if_neg h11, if_neg h12, if_neg h13, if_neg h14, if_neg h15, st_ne h15, st_ne h14, st_ne h13, st_ne h12, st_ne h11, st_ne h7, st_ne h10, st_ne h9, st_ne h8]
theorem fin104_ev {T : St} {n : Nat} (hn : T 0 17 = nI n) (hn2 : n < 160) (e op m r : Int32) (hrd : vp_in (T 0 48) 32) (hw : isB (T 0 51)) (hc : T 0 51 = 1 → vp_in ((T 0 50 - 1024) / 4) 64) : ∃ T', evV (fun K => wp_M_finish_104 K T e op m r) T' ∧ FIN n e op m r (if T 0 51 = 0 then -1 else (T 0 50 - 1024) / 4) T T' := by
  have cl : (nI n).toNatClampNeg = n := nI_clamp (by omega)
  have ii : vp_in (nI n) 160 := vp_in_nI hn2 (by decide)
  generalize hcell : (if T 0 51 = 0 then (-1 : Int32) else (T 0 50 - 1024) / 4) = cell
  -- the state with the row noted
  let V := r9 T n (T 0 6) e m (m + 1 + r) (T 0 48) (T 0 49) cell (T 0 52) (farF r)
  have hV0 : V 0 = T 0 := rfl
  have hV2 : V 2 = T 2 := rfl
  have hV3 : V 3 = T 3 := rfl
  have hV13 : V 13 n = cell := upd_s
  have hV10 : V 10 n = m + 1 + r := upd_s
  let V2 : St := if T 0 48 = 0 then V else st V 2 (T 0 48).toNatClampNeg (T 0 49)
  let V3 : St := if T 0 51 = 0 then V2 else st V2 3 cell.toNatClampNeg (T 0 52)
  let V4 : St := st (st (st (st (st V3 0 12 m) 0 13 1) 0 14 (m + 1 + r)) 0 15 (if op = 3 then T 0 48 else 0)) 0 17 (nI n + 1)
  have v2ne : ∀ i, i ≠ 2 → V2 i = V i := by
    intro i hi
    show (if T 0 48 = 0 then V else st V 2 (T 0 48).toNatClampNeg (T 0 49)) i = V i
    by_cases c : T 0 48 = 0
    · rw [if_pos c]
    · rw [if_neg c, st_ne hi]
  have v3ne : ∀ i, i ≠ 2 → i ≠ 3 → V3 i = V i := by
    intro i hi hi3
    show (if T 0 51 = 0 then V2 else st V2 3 cell.toNatClampNeg (T 0 52)) i = V i
    by_cases c : T 0 51 = 0
    · rw [if_pos c]; exact v2ne i hi
    · rw [if_neg c, st_ne hi3]; exact v2ne i hi
  have v4ne : ∀ i, i ≠ 0 → i ≠ 2 → i ≠ 3 → V4 i = V i := by
    intro i h0 h2 h3
    show (st (st (st (st (st V3 0 12 m) 0 13 1) 0 14 (m + 1 + r)) 0 15 (if op = 3 then T 0 48 else 0)) 0 17 (nI n + 1)) i = V i
    rw [st_ne h0, st_ne h0, st_ne h0, st_ne h0, st_ne h0]; exact v3ne i h2 h3
  have v30 : V3 0 = T 0 := by rw [v3ne 0 (by decide) (by decide)]; exact hV0
  refine ⟨V4, fun K k => ?_, ?_⟩
  · -- the walk
    have s327 : ∀ (U : St) (w : Int32), U = st (st (st V3 0 12 m) 0 13 1) 0 14 (m + 1 + r) → w = (if op = 3 then T 0 48 else 0) → wp_M_finish_327 K U w := by
      intro U w hU hw'
      unfold wp_M_finish_327
      intro S36 e36 S37 e37
      subst hU e36 e37 hw'
      have e17 : (st (st (st (st V3 0 12 m) 0 13 1) 0 14 (m + 1 + r)) 0 15 (if op = 3 then T 0 48 else 0)) 0 17 = nI n := by
        show V3 0 17 = nI n
        rw [v30]; exact hn
      rw [e17]
      exact k
    have s289 : wp_M_finish_289 K V3 op m := by
      unfold wp_M_finish_289
      intro S32 e32 S33 e33
      subst e32 e33
      have e17 : (st (st V3 0 12 m) 0 13 1) 0 17 = nI n := by
        show V3 0 17 = nI n
        rw [v30]; exact hn
      rw [e17, cl]
      refine ⟨ii, ?_⟩
      intro S34 e34
      have e10 : (st (st V3 0 12 m) 0 13 1) 10 n = m + 1 + r := by
        show V3 10 n = _
        rw [v3ne 10 (by decide) (by decide)]; exact hV10
      rw [e10] at e34
      subst e34
      have e48 : (st (st (st V3 0 12 m) 0 13 1) 0 14 (m + 1 + r)) 0 48 = T 0 48 := by
        show V3 0 48 = _
        rw [v30]
      by_cases c : op = 3
      · refine it c ?_
        exact s327 _ _ rfl (by rw [if_pos c]; exact e48)
      · refine ie c ?_
        exact s327 _ _ rfl (by rw [if_neg c])
    have s264 : wp_M_finish_264 K V2 op m := by
      have v20 : V2 0 = T 0 := by rw [v2ne 0 (by decide)]; exact hV0
      unfold wp_M_finish_264
      rw [v20, hn, cl]
      by_cases c : T 0 51 = 0
      · refine it c ?_
        have : V3 = V2 := if_pos c
        rw [← this]; exact s289
      · refine ie c ⟨ii, ?_⟩
        have e13 : V2 13 n = cell := by rw [v2ne 13 (by decide)]; exact hV13
        rw [e13]
        have c1 : T 0 51 = 1 := by
          rcases hw with q | q
          · exact absurd q c
          · exact q
        refine ⟨by rw [← hcell, if_neg c]; exact hc c1, ?_⟩
        intro S31 e31
        have : V3 = st V2 3 cell.toNatClampNeg (T 0 52) := if_neg c
        rw [e31, ← this]
        exact s289
    have s243 : ∀ (W : St) (b : Int32), b = farF r → st W 15 n b = V → W 0 = T 0 → wp_M_finish_243 K W op m b (nI n) := by
      intro W b hb hWV hW0
      unfold wp_M_finish_243
      refine ⟨ii, ?_⟩
      intro S27 e27
      have hnar : vp_nar .boolean b = b := by
        rw [hb]
        unfold farF
        by_cases c : r ≤ 0
        · rw [if_pos c]; exact nar0
        · rw [if_neg c]; exact nar1
      rw [hnar, cl, hWV] at e27
      subst e27
      rw [hV0]
      by_cases c : T 0 48 = 0
      · refine it c ?_
        have : V2 = V := if_pos c
        rw [← this]; exact s264
      · refine ie c ⟨hrd, ?_⟩
        intro S29 e29
        have : V2 = st V 2 (T 0 48).toNatClampNeg (T 0 49) := if_neg c
        rw [e29, ← this]
        exact s264
    have s211 : ∀ W : St, W 0 = T 0 → st (st (st W 13 n cell) 14 n (T 0 52)) 15 n (farF r) = V → wp_M_finish_211 K W op m r cell (nI n) := by
      intro W hW0 hWV
      unfold wp_M_finish_211
      refine ⟨ii, ?_⟩
      intro S24 e24
      rw [cl] at e24
      subst e24
      have e17 : (st W 13 n cell) 0 17 = nI n := by
        show W 0 17 = _
        rw [hW0]; exact hn
      have e52 : (st W 13 n cell) 0 52 = T 0 52 := by
        show W 0 52 = _
        rw [hW0]
      rw [e17, e52, cl]
      refine ⟨ii, ?_⟩
      intro S25 e25
      subst e25
      have e17' : (st (st W 13 n cell) 14 n (T 0 52)) 0 17 = nI n := e17
      rw [e17']
      by_cases c : r ≤ 0
      · refine it c ?_
        have ef : (0 : Int32) = farF r := by unfold farF; rw [if_pos c]
        exact s243 _ 0 ef (by rw [ef]; exact hWV) hW0
      · refine ie c ?_
        have ef : (1 : Int32) = farF r := by unfold farF; rw [if_neg c]
        exact s243 _ 1 ef (by rw [ef]; exact hWV) hW0
    show wp_M_finish_104 K T e op m r
    unfold wp_M_finish_104
    rw [hn, cl]
    refine ⟨ii, ?_⟩
    intro S17 e17
    have z17 : S17 0 = T 0 := by rw [e17, st_ne (by decide)]
    rw [z17, hn, cl]
    refine ⟨ii, ?_⟩
    intro S18 e18
    have z18 : S18 0 = T 0 := by rw [e18, st_ne (by decide)]; exact z17
    rw [z18, hn, cl]
    refine ⟨ii, ?_⟩
    intro S19 e19
    have z19 : S19 0 = T 0 := by rw [e19, st_ne (by decide)]; exact z18
    rw [z19, hn, cl]
    refine ⟨ii, ?_⟩
    intro S20 e20
    have z20 : S20 0 = T 0 := by rw [e20, st_ne (by decide)]; exact z19
    rw [z20, hn, cl]
    refine ⟨ii, ?_⟩
    intro S21 e21
    have z21 : S21 0 = T 0 := by rw [e21, st_ne (by decide)]; exact z20
    rw [z21, hn, cl]
    refine ⟨ii, ?_⟩
    intro S22 e22
    have z22 : S22 0 = T 0 := by rw [e22, st_ne (by decide)]; exact z21
    rw [z22, hn]
    have fin : wp_M_finish_211 K S22 op m r cell (nI n) := by
      refine s211 S22 z22 ?_
      rw [e22, e21, e20, e19, e18, e17]
      exact st9 T n (T 0 6) e m (m + 1 + r) (T 0 48) (T 0 49) cell (T 0 52) (farF r)
    by_cases c : T 0 51 = 0
    · refine it c ?_
      rw [if_pos c] at hcell
      rw [hcell]; exact fin
    · refine ie c ?_
      rw [if_neg c] at hcell
      rw [hcell]; exact fin
  · have up : ∀ i x, V4 i x = V4 i x := fun _ _ => rfl
    refine ⟨fun i h0 h2 h3 hr => ?_, fun k k1 k2 k3 k4 k5 => ?_, fun x h1 h2 i hi => ?_, ?_, ?_, ?_, ?_, ?_, ?_, ?_, ?_, ?_, ?_, rfl, rfl, rfl, rfl, ?_⟩
    · rw [v4ne i h0 h2 h3]
      show r9 T n _ _ _ _ _ _ _ _ _ i = T i
      unfold r9
      rw [if_neg (by omega), if_neg (by omega), if_neg (by omega), if_neg (by omega), if_neg (by omega), if_neg (by omega), if_neg (by omega), if_neg (by omega), if_neg (by omega)]
    · show (st (st (st (st (st V3 0 12 m) 0 13 1) 0 14 (m + 1 + r)) 0 15 (if op = 3 then T 0 48 else 0)) 0 17 (nI n + 1)) 0 k = T 0 k
      rw [st_eq, upd_n k5, st_eq, upd_n k4, st_eq, upd_n k3, st_eq, upd_n k2, st_eq, upd_n k1, v30]
    · rw [v4ne x (by omega) (by omega) (by omega)]
      have : x = 7 ∨ x = 8 ∨ x = 9 ∨ x = 10 ∨ x = 11 ∨ x = 12 ∨ x = 13 ∨ x = 14 ∨ x = 15 := by omega
      rcases this with rfl | rfl | rfl | rfl | rfl | rfl | rfl | rfl | rfl <;> exact upd_n (by omega)
    · rw [v4ne 7 (by decide) (by decide) (by decide)]; exact upd_s
    · rw [v4ne 9 (by decide) (by decide) (by decide)]; exact upd_s
    · rw [v4ne 10 (by decide) (by decide) (by decide)]; exact upd_s
    · rw [v4ne 11 (by decide) (by decide) (by decide)]; exact upd_s
    · rw [v4ne 12 (by decide) (by decide) (by decide)]; exact upd_s
    · rw [v4ne 13 (by decide) (by decide) (by decide)]; exact upd_s
    · rw [v4ne 14 (by decide) (by decide) (by decide)]; exact upd_s
    · rw [v4ne 15 (by decide) (by decide) (by decide)]; exact upd_s
    · show V3 2 = _
      have e1 : V3 2 = V2 2 := by
        show (if T 0 51 = 0 then V2 else st V2 3 cell.toNatClampNeg (T 0 52)) 2 = V2 2
        by_cases c : T 0 51 = 0
        · rw [if_pos c]
        · rw [if_neg c, st_ne (by decide)]
      rw [e1]
      show (if T 0 48 = 0 then V else st V 2 (T 0 48).toNatClampNeg (T 0 49)) 2 = _
      by_cases c : T 0 48 = 0
      · rw [if_pos c, if_pos c]; exact hV2
      · rw [if_neg c, if_neg c, st_eq, hV2]
    · show V3 3 = _
      show (if T 0 51 = 0 then V2 else st V2 3 cell.toNatClampNeg (T 0 52)) 3 = _
      have e1 : V2 3 = T 3 := by rw [v2ne 3 (by decide)]; exact hV3
      by_cases c : T 0 51 = 0
      · rw [if_pos c, if_pos c, e1]
      · rw [if_neg c, if_neg c, st_eq, e1]
    · show nI n + 1 = nI (n + 1)
      exact nI_1 n
