/-! the first half of a cycle -/
theorem cb_same {S S' : St} (s8 : S' 8 = S 8) (s9 : S' 9 = S 9) (s10 : S' 10 = S 10) (k : Nat) : eqv (ctb S' k) (ctb S k) := by
  intro f hf e he
  have : f = 0 ∨ f = 1 ∨ f = 2 := by omega
  rcases this with rfl | rfl | rfl
  · show S' 8 _ = S 8 _
    rw [s8]
  · show S' 9 _ = S 9 _
    rw [s9]
  · show S' 10 _ = S 10 _
    rw [s10]
theorem cs_same {S S' : St} (s8 : S' 8 = S 8) (s9 : S' 9 = S 9) (s10 : S' 10 = S 10) (s11 : S' 11 = S 11) (t : Int32) : eqv (ctS S' t) (ctS S t) := by
  unfold ctS
  rw [s11]
  split
  · split
    · exact cb_same s8 s9 s10 0
    · exact cb_same s8 s9 s10 1
  · exact cb_same s8 s9 s10 2
theorem FO_same {n : Nat} {S T S' T' : St} (h : FO n S T) (s8 : S' 8 = S 8) (s9 : S' 9 = S 9) (s10 : S' 10 = S 10) (s11 : S' 11 = S 11) (hr : ∀ r, 18 ≤ r → r ≤ 24 → T' r = T r) (h32 : T' 0 32 = T 0 32) (h11 : T' 0 11 = T 0 11) (h16 : T' 0 16 = T 0 16) : FO n S' T' := by
  obtain ⟨hn, hn3, hc, ht, o0, o1, o2, hB, hs, hl, ⟨pe, hpe, hpe2⟩, hch, hc0, hF⟩ := h
  have cb := cb_same s8 s9 s10
  have cs := cs_same s8 s9 s10 s11
  refine ⟨h32.trans hn, hn3, ?_, ?_, okTb_eqv o0 (eqv_sy (cb 0)), okTb_eqv o1 (eqv_sy (cb 1)), okTb_eqv o2 (eqv_sy (cb 2)), ?_, ?_, ?_, ⟨pe, by rw [h16]; exact hpe, ?_⟩, by rw [s11]; exact hch, by rw [s11, h11]; exact hc0, by rw [h16]; exact hF⟩
  · refine eqv_tr (cb 0) (eqv_tr hc ?_)
    intro f hf e he
    show T (18 + f) (4 + e) = T' (18 + f) (4 + e)
    rw [hr (18 + f) (by omega) (by omega)]
  · intro t htt
    rw [h16] at htt
    refine eqv_tr (cs t) (eqv_tr (ht t htt) (eqv_sy (mf_same (n := n) (fun f hf e he => ?_) (fun r h1 h2 i hi => ?_) t n (Nat.le_refl _))))
    · rw [hr (18 + f) (by omega) (by omega)]
    · rw [hr r (by omega) (by omega)]
  · intro i hi; rw [hr 23 (by omega) (by omega)]; exact hB i hi
  · intro i hi; rw [hr 24 (by omega) (by omega)]; exact hs i hi
  · intro i hi; rw [hr 24 (by omega) (by omega), h11]; exact hl i hi
  · intro i hi; rw [hr 24 (by omega) (by omega), h11]; exact hpe2 i hi
theorem EX0_S {S S' T : St} (h : EX0 S T) (s8 : S' 8 = S 8) (s9 : S' 9 = S 9) (s10 : S' 10 = S 10) (s11 : S' 11 = S 11) (s15 : S' 15 = S 15) : EX0 S' T := by
  obtain ⟨a1, a2, a3, a4, a5, a6, a7⟩ := h
  unfold EX0 DEC
  rw [s15]
  refine ⟨a1, a2, a3, a4, ?_, a6, a7⟩
  rw [a5]
  exact gs_eqv (eqv_sy (cs_same s8 s9 s10 s11 _)) _
theorem EQS_S {S S' T : St} (h : EQS S T) (hr : ∀ i, i = 1 ∨ i = 3 ∨ (5 ≤ i ∧ i ≤ 7) → S' i = S i) (h0 : ∀ k, k ≠ 10 → k ≠ 13 → S' 0 k = S 0 k) : EQS S' T := by
  unfold EQS CA at h ⊢
  rw [hr 3 (by omega), hr 1 (by omega), hr 5 (by omega), hr 6 (by omega), hr 7 (by omega), h0 14 (by decide) (by decide), h0 15 (by decide) (by decide), h0 16 (by decide) (by decide), h0 11 (by decide) (by decide), h0 12 (by decide) (by decide)]
  exact h
theorem COM_S {N : Nat × Nat} {c c' j j' n nl : Nat} {S S' T : St} (h : COM N c j n nl S T) (hr : ∀ i, i = 1 ∨ i = 3 ∨ (5 ≤ i ∧ i ≤ 11) ∨ i = 15 → S' i = S i) (h0 : ∀ k, k ≠ 10 → k ≠ 13 → S' 0 k = S 0 k) (hc : S' 0 10 = nI c') (hc' : c' ≤ 51300) (hv : VIS j' S' T) (hd : ∀ i, i < j' → DON c' T i) (h37 : (T 0 37).toInt + j' ≤ c') : COM N c' j' n nl S' T := by
  obtain ⟨a1, a2, a3, a4, a5, a6, a7, a8, a9, a10, _⟩ := h
  exact ⟨hc, hc', EQS_S a3 (fun i hi => hr i (by omega)) h0, FO_same a4 (hr 8 (by omega)) (hr 9 (by omega)) (hr 10 (by omega)) (hr 11 (by omega)) (fun _ _ _ => rfl) rfl rfl rfl, hv, a6, EX0_S a7 (hr 8 (by omega)) (hr 9 (by omega)) (hr 10 (by omega)) (hr 11 (by omega)) (hr 15 (by omega)), a8, h37, a10, hd⟩
/-- a place in the pipeline over a later cycle -/
theorem c_ne {c : Nat} {x : Int32} (hc : c ≤ 51300) (h : ¬ x = nI c) (h2 : (c : Int) ≤ x.toInt) : (c : Int) < x.toInt := by
  rcases Int.lt_or_eq_of_le h2 with q | q
  · exact q
  · refine absurd (i_eq.mpr ?_) h
    rw [nI_toInt (by omega)]; omega
theorem c_eq {c : Nat} {x : Int32} (hc : c ≤ 51300) (h : x = nI c) : x.toInt = c := by rw [h, nI_toInt (by omega)]
theorem ent_rows {E : Nat → Int32} {T : St} {i : Nat} (h : ENT E T i) : vp_in (T 11 i) 32 ∧ (¬ T 13 i < 0 → vp_in (T 13 i) 64) := by
  obtain ⟨_, _, _, _, _, e6, hin, ha⟩ := h
  rw [e6] at hin
  refine ⟨hin, fun q => ?_⟩
  rcases ha with ⟨_, w, _⟩ | ⟨_, _, w, _⟩ | ⟨_, w, _, w2, _⟩
  · rw [w] at q; exact absurd (by decide) q
  · rw [w] at q; exact absurd (by decide) q
  · rw [w2]; exact dI_in w
theorem phase1 {N : Nat × Nat} {c j n nl : Nat} {S T : St} (h : RR N c j n nl S T) (hc : c + 1 ≤ 51300) (hj : j ≤ 1000) : ∃ S' j', (j' = j ∨ j' = j + 1) ∧ (∀ K, wp_K_makeCycle_70 K S' → wp_K_makeCycle S K) ∧ COM N (c + 1) j' n nl S' T ∧ PIPE (c + 1) j' n S' T ∧ S' 15 = S 15 := by
  obtain ⟨hC, hP, hT, hb, hB⟩ := h
  obtain ⟨c1, c2, c3, c4, c5, c6, c7, c8, c9, c10, c11⟩ := id hC
  have e10 : S 0 10 + 1 = nI (c + 1) := by rw [c1]; exact nI_1 c
  -- the state with the new cycle
  let S1 := st S 0 10 (nI (c + 1))
  have hC1 : COM N (c + 1) j n nl S1 T := COM_S hC (fun i hi => st_ne (by omega)) (fun k k1 k2 => upd_n k1) rfl hc c5 (fun i hi => ⟨by have := (c11 i hi).1; omega, (c11 i hi).2⟩) (by omega)
  -- moving
  have mv : ∀ (U : St) (i m : Nat), U 17 0 = 0 → EXE c i U T → COM N (c + 1) i n nl U T → n = i + 1 → (∀ K, wp_K_makeCycle_42 K U → wp_K_makeCycle S K) → U 15 = S 15 → (i = j ∨ i = j + 1) → ∃ S' j', (j' = j ∨ j' = j + 1) ∧ (∀ K, wp_K_makeCycle_70 K S' → wp_K_makeCycle S K) ∧ COM N (c + 1) j' n nl S' T ∧ PIPE (c + 1) j' n S' T ∧ S' 15 = S 15 := by
    intro U i m h0 hE hCU hn hK h15 hi
    obtain ⟨x0, x1, x2, x3, x4, x5⟩ := hE
    have x00 := x0.1
    by_cases d : U 16 3 = nI (c + 1)
    · have d' := c_eq hc d
      refine ⟨swS U, i, hi, fun K k => hK K ?_, ?_, Or.inl ⟨h0, Or.inr ⟨hn, x0, ?_, ?_, x4, x5⟩⟩, h15⟩
      · unfold wp_K_makeCycle_42 wp_K_moveToMemory
        refine ie (by rw [x00]; decide) (it (by rw [hCU.1]; exact d) k)
      · refine COM_S hCU (fun q hq => ?_) (fun _ _ _ => rfl) hCU.1 hc ?_ hCU.2.2.2.2.2.2.2.2.2.2 hCU.2.2.2.2.2.2.2.2.1
        · unfold swS
          rw [if_neg (by omega), if_neg (by omega)]
        · exact hCU.2.2.2.2.1
      · show (U 16 3).toInt ≤ _
        omega
      · show _ < (U 16 4).toInt
        omega
    · refine ⟨U, i, hi, fun K k => hK K ?_, hCU, Or.inr (Or.inl ⟨hn, h0, x0, ?_, x2, x3, x4, x5⟩), h15⟩
      · unfold wp_K_makeCycle_42
        refine ie (by rw [x00]; decide) (ie (by rw [hCU.1]; exact d) k)
      · exact c_ne hc d (by omega)
  have to42 : ∀ K, S 17 0 = 0 → wp_K_makeCycle_42 K S1 → wp_K_makeCycle S K := by
    intro K h0 k
    unfold wp_K_makeCycle
    intro S2 e2
    rw [e10] at e2
    subst e2
    exact it h0 k
  have to42n : ∀ K, S 17 0 = 1 → ¬ S 17 4 = nI (c + 1) → wp_K_makeCycle_42 K S1 → wp_K_makeCycle S K := by
    intro K h0 h4 k
    unfold wp_K_makeCycle
    intro S2 e2
    rw [e10] at e2
    subst e2
    exact ie (by show ¬ S 17 0 = 0; rw [h0]; decide) (ie h4 k)
  have toend : ENT (S 17) T j → S 17 4 = nI (c + 1) → ∃ U, (∀ K, wp_K_makeCycle_42 K U → wp_K_makeCycle S K) ∧ COM N (c + 1) (j + 1) n nl U T ∧ U 17 0 = 0 ∧ U 16 = S 16 ∧ U 15 = S 15 ∧ (∀ k, k ≠ 10 → k ≠ 13 → U 0 k = S 0 k) := by
    intro hE h4
    obtain ⟨U, ev, hv, u0, ur, uk⟩ := end_ev (S := S1) (T := T) (j := j) (c := c) c5 hE c8 (by omega) (by omega) h4
    refine ⟨U, fun K k => ?_, ?_, u0, ?_, ?_, fun k k1 k2 => ?_⟩
    · unfold wp_K_makeCycle
      intro S2 e2
      rw [e10] at e2
      subst e2
      refine ie (by show ¬ S 17 0 = 0; rw [hE.1]; decide) (it h4 ?_)
      exact ev _ k
    · refine COM_S hC1 (fun i hi => ur i (by omega) (by omega) (by omega) (by omega) (by omega) (by omega) (by omega)) (fun k k1 k2 => uk k k2) ?_ hc hv (fun i hi => ?_) (by omega)
      · rw [uk 10 (by decide)]; rfl
      · by_cases q : i = j
        · rw [q]
          exact ⟨by rw [← hE.2.2.2.1, c_eq hc h4]; omega, ent_rows hE⟩
        · exact ⟨by have := (c11 i (by omega)).1; omega, (c11 i (by omega)).2⟩
    · exact ur 16 (by decide) (by decide) (by decide) (by decide) (by decide) (by decide) (by decide)
    · exact ur 15 (by decide) (by decide) (by decide) (by decide) (by decide) (by decide) (by decide)
    · rw [uk k k2]
      show upd (S 0) 10 (nI (c + 1)) k = S 0 k
      rw [upd_n k1]
  rcases hP with ⟨p0, pm⟩ | ⟨hn, p0, pe⟩ | ⟨hn, pE, p3, p4, p34, pe⟩
  · rcases pm with ⟨hn, m0⟩ | ⟨hn, mE, m3, m4, m11, mL⟩
    · refine ⟨S1, j, Or.inl rfl, fun K k => to42 K m0 ?_, hC1, Or.inl ⟨p0, Or.inl ⟨hn, m0⟩⟩, rfl⟩
      unfold wp_K_makeCycle_42
      exact it p0 k
    · by_cases d : S 17 4 = nI (c + 1)
      · obtain ⟨U, uK, uC, u0, u16, u15, _⟩ := toend mE d
        refine ⟨U, j + 1, Or.inr rfl, fun K k => uK K ?_, uC, Or.inl ⟨by rw [u16]; exact p0, Or.inl ⟨hn, u0⟩⟩, u15⟩
        unfold wp_K_makeCycle_42
        exact it (by rw [u16]; exact p0) k
      · refine ⟨S1, j, Or.inl rfl, fun K k => to42n K mE.1 d ?_, hC1, Or.inl ⟨p0, Or.inr ⟨hn, mE, ?_, ?_, m11, mL⟩⟩, rfl⟩
        · unfold wp_K_makeCycle_42
          exact it p0 k
        · show (S 17 3).toInt ≤ _
          omega
        · exact c_ne (x := S 17 4) hc d (by omega)
  · exact mv S1 j 0 p0 pe hC1 hn (fun K => to42 K p0) rfl (Or.inl rfl)
  · by_cases d : S 17 4 = nI (c + 1)
    · obtain ⟨U, uK, uC, u0, u16, u15, uz⟩ := toend pE d
      refine mv U (j + 1) 0 u0 ?_ uC hn uK u15 (Or.inr rfl)
      unfold EXE at pe ⊢
      rw [u16, u15, uz 11 (by decide) (by decide), uz 12 (by decide) (by decide)]
      exact pe
    · have d' := c_ne (x := S 17 4) hc d (by omega)
      obtain ⟨x0, x1, x2, x3, x4, x5⟩ := pe
      refine ⟨S1, j, Or.inl rfl, fun K k => to42n K pE.1 d ?_, hC1, Or.inr (Or.inr ⟨hn, pE, ?_, d', p34, x0, ?_, x2, x3, x4, x5⟩), rfl⟩
      · unfold wp_K_makeCycle_42
        refine ie ?_ (ie ?_ k)
        · show ¬ S 16 0 = 0
          rw [x0.1]; decide
        · show ¬ S 16 3 = nI (c + 1)
          intro q
          have := c_eq hc q
          omega
      · show (S 17 3).toInt ≤ _
        omega
      · show _ < (S 16 3).toInt
        omega
