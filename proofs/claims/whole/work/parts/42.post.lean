/-! what is expected behind one that began -/
theorem post_ev {N : Nat × Nat} {c j n nl : Nat} {S T : St} {p3 : Int32} (h10 : S 0 10 = nI c) (hc : c ≤ 51300) (hE : EQS S T) (hF : FO nl S T) (hV : VIS j S T) (hL : FLD n T) (hal : T 0 6 &&& 3 = 0) (h37 : 0 ≤ (T 0 37).toInt) (h37b : (T 0 37).toInt + j ≤ c ∧ NOW N T ∧ ∀ i, i < j → DON c T i) (h9 : T 0 9 = 1) (h11 : T 0 11 = nI c) (hf : 0 < (T 0 16).toInt) (hf2 : (T 0 16).toInt ≤ c + 1) (hp : p3 = nxF T) (p1 : (c : Int) < p3.toInt) (p2 : p3.toInt ≤ c + 65) (l0 : 0 ≤ (T 0 14).toInt) (l1 : (T 0 14).toInt ≤ p3.toInt + 65) (l2 : (T 0 14).toInt ≤ c + 130)
    (pipe : ∀ S' : St, (∀ i, i ≠ 15 → S' i = S i) → p3.toInt ≤ (S' 15 11).toInt → PIPE c j n S' T) : ∃ S', evV (wp_K_expect S (T 0 6) (T 0 16) p3) S' ∧ RR N c j n nl S' T := by
  have hfd : jmax (T 0 16 + 1) (S 0 10) = fd T := by
    rw [jmax_eq, h10, ← h11]
    unfold fd
    rw [if_neg (show ¬ T 0 9 = 0 by rw [h9]; decide)]
  have hE0 := hE
  obtain ⟨e3, eC, e1, e14, e15, e16, e11, e12, e13, eCA, eL, eL2, e9⟩ := hE
  obtain ⟨_, _, _, _, o0, o1, o2, _⟩ := id hF
  obtain ⟨S', ev, hr, hX, b1, b2, b3⟩ := expect_ev (S := S) (T := T) p3 hal e1 hp hfd e12 e11 (fun q => (e13 q).1) o0 o1 o2
  have ifetch : (T 0 16 + 1).toInt = (T 0 16).toInt + 1 := by rw [add_int (by omega) (by omega) (by rw [one_int]; omega) (by rw [one_int]; omega), one_int]
  have ic : (nI c).toInt = c := nI_toInt (by omega)
  have jf := jmax_int (T 0 16 + 1) (S 0 10)
  rw [hfd, h10, ic, ifetch] at jf
  have fdb : (fd T).toInt ≤ c + 2 ∧ 0 ≤ (fd T).toInt := by
    refine ⟨?_, by omega⟩
    rcases jf.2.2 with q | q
    · rw [q, ifetch]; omega
    · rw [q, ic]; omega
  have ifd : (fd T + 1).toInt = (fd T).toInt + 1 := by rw [add_int (by omega) (by omega) (by rw [one_int]; omega) (by rw [one_int]; omega), one_int]
  have jb := jmax_int (fd T + 1) p3
  rw [ifd] at jb
  have jbu : (jmax (fd T + 1) p3).toInt ≤ c + 65 := by
    rcases jb.2.2 with q | q
    · rw [q, ifd]; omega
    · rw [q]; omega
  have bu : (S' 15 11).toInt ≤ c + 130 := by
    rcases b3 with q | q
    · rw [q]; omega
    · rw [q]; omega
  obtain ⟨x1, x2, x3, x4, x5, x6, x7, x8⟩ := hX
  have hCOM : COM N c j n nl S' T := by
    refine ⟨by rw [hr 0 (by decide)]; exact h10, hc, ?_, ?_, ?_, hL, ⟨x1, x2, x3, x4, x5, x6, x7⟩, h37, h37b⟩
    · exact EQS_S hE0 (fun i hi => hr i (by omega)) (fun k _ _ => by rw [hr 0 (by decide)])
    · exact FO_same hF (hr 8 (by decide)) (hr 9 (by decide)) (hr 10 (by decide)) (hr 11 (by decide)) (fun _ _ _ => rfl) rfl rfl rfl
    · unfold VIS
      rw [hr 2 (by decide), hr 4 (by decide), hr 0 (by decide), hr 12 (by decide), hr 13 (by decide), hr 14 (by decide)]
      exact hV
  refine ⟨S', ev, hCOM, pipe S' hr (by omega), ⟨by rw [h11, ic]; omega, by rw [h11, ic]; omega, hf, hf2, bu, l0, by omega, b2⟩, by omega, x8⟩
/-- a place at memory stays -/
theorem MEM_same {c j n : Nat} {S S' T T' : St} (h : MEM c j n S T) (s17 : S' 17 = S 17) (s11 : S' 0 11 = S 0 11) (s12 : S' 0 12 = S 0 12) (hT : SAM n T T') : MEM c j n S' T' := by
  unfold MEM
  rw [s17, s11, s12]
  rcases h with h | ⟨h1, h2, h3⟩
  · exact Or.inl h
  · exact Or.inr ⟨h1, ENT_same hT (by omega) h2, h3⟩
theorem VIS_same {j n : Nat} {S S' T T' : St} (h : VIS j S T) (hj : j ≤ n) (hT : SAM n T T') (h2 : S' 2 = S 2) (h4 : S' 4 = S 4) (h0 : S' 0 13 = S 0 13) (h12 : S' 12 = S 12) (h13 : S' 13 = S 13) (h14 : S' 14 = S 14) : VIS j S' T' := by
  obtain ⟨f1, f2, f3, f4, f5⟩ := SAM_f hT j hj
  unfold VIS
  rw [f1, f2, f3, f4, f5, h2, h4, h0, h12, h13, h14, hT.2.2.2.2.2.1]
  exact h
theorem MEM_j {c j n : Nat} {S T : St} (h : MEM c j n S T) : j ≤ n ∧ n ≤ j + 1 := by
  rcases h with ⟨h, _⟩ | ⟨h, _⟩ <;> omega
/-- one that does not go on: trap or interrupt -/
theorem trap_post {N : Nat × Nat} {c j n nl nl' : Nat} {S T S1 T' : St} (h : PRE N c j n nl S T) (sr : ∀ i, i ≠ 0 → i ≠ 3 → i ≠ 16 → S1 i = S i) (s0 : ∀ k, k ≠ 14 → k ≠ 15 → S1 0 k = S 0 k) (s16 : S1 16 0 = 0) (s3 : S1 3 = T' 4) (hok : okC (T' 4)) (tr : ∀ i, i ≠ 0 → i ≠ 4 → (i < 18 ∨ 24 < i) → T' i = T i) (t0 : ∀ k, k < 41 → k ≠ 6 → k ≠ 9 → k ≠ 10 → k ≠ 11 → k ≠ 16 → k ≠ 32 → T' 0 k = T 0 k) (e14 : S1 0 14 = T' 0 41) (e15 : S1 0 15 = T' 0 42) (e43 : T' 0 43 = T 0 43) (hF : FO nl' S1 T') (hal : T' 0 6 &&& 3 = 0) (h9 : T' 0 9 = 1) (h10 : T' 0 10 = 0) (h11 : T' 0 11 = nI c) (h16 : T' 0 16 = nI c + 1) : ∃ S', evV (wp_K_expect S1 (T' 0 6) (nI c + 1) (nI c + 1)) S' ∧ RR N c j n nl' S' T' := by
  obtain ⟨⟨a10, ac, aE, aF, aV, aL, aX, a37, a37b⟩, p16, pM, pT, pc, p15⟩ := h
  obtain ⟨q3, qC, q1, q14, q15, q16, q11, q12, q13, qCA, qL, qL2, q9⟩ := aE
  obtain ⟨t1, t2, t3, t4, t5, t6, t7, t8⟩ := pT
  obtain ⟨l17, ln, l2, l3, l15⟩ := aL
  have hS : SAM n T T' := ⟨fun r r1 r2 i hi => by rw [tr r (by omega) (by omega) (by omega)], tr 5 (by decide) (by decide) (by omega), tr 6 (by decide) (by decide) (by omega), tr 25 (by decide) (by decide) (by omega), tr 26 (by decide) (by decide) (by omega), t0 37 (by decide) (by decide) (by decide) (by decide) (by decide) (by decide) (by decide), t0 40 (by decide) (by decide) (by decide) (by decide) (by decide) (by decide) (by decide)⟩
  have fS := SAM_f hS n (Nat.le_refl _)
  have z : ∀ k, k = 0 ∨ k = 13 ∨ k = 14 ∨ k = 15 ∨ k = 17 ∨ k = 37 → T' 0 k = T 0 k := fun k hk => t0 k (by omega) (by omega) (by omega) (by omega) (by omega) (by omega) (by omega)
  have i1 : (nI c + 1).toInt = c + 1 := by rw [nI_1, nI_toInt (by omega)]; omega
  rw [← h16]
  have hS16 : (T' 0 16).toInt = c + 1 := by rw [h16]; exact i1
  refine post_ev (p3 := T' 0 16) (n := n) (j := j) (by rw [s0 10 (by decide) (by decide)]; exact a10) ac ?_ hF ?_ ?_ hal (by rw [z 37 (by omega)]; exact a37) ⟨by rw [z 37 (by omega)]; exact a37b.1, ⟨by rw [t0 1 (by decide) (by decide) (by decide) (by decide) (by decide) (by decide) (by decide)]; exact a37b.2.1.1, by rw [z 37 (by omega)]; exact a37b.2.1.2⟩, fun i hi => by unfold DON; rw [tr 10 (by decide) (by decide) (by omega), tr 11 (by decide) (by decide) (by omega), tr 13 (by decide) (by decide) (by omega)]; exact a37b.2.2 i hi⟩ h9 h11 (by omega) (by omega) ?_ (by omega) (by omega) (by rw [z 14 (by omega)]; exact t6) (by rw [z 14 (by omega)]; omega) (by rw [z 14 (by omega)]; omega) ?_
  · refine ⟨s3, hok, ?_, e14, e15, ?_, ?_, ?_, ?_, ?_, ?_, ?_, ?_⟩
    · rw [sr 1 (by decide) (by decide) (by decide), tr 1 (by decide) (by decide) (by omega)]; exact q1
    · rw [s0 16 (by decide) (by decide), e43]; exact q16
    · rw [s0 11 (by decide) (by decide), z 14 (by omega)]; exact q11
    · rw [s0 12 (by decide) (by decide), z 15 (by omega)]; exact q12
    · rw [z 13 (by omega), z 14 (by omega), z 15 (by omega)]; exact q13
    · unfold CA at qCA ⊢
      rw [sr 5 (by decide) (by decide) (by decide), sr 6 (by decide) (by decide) (by decide), sr 7 (by decide) (by decide) (by decide), tr 16 (by decide) (by decide) (by omega), tr 17 (by decide) (by decide) (by omega), z 0 (by omega)]
      exact qCA
    · rw [z 0 (by omega)]; exact qL
    · rw [z 0 (by omega)]; exact qL2
    · intro q; rw [h9] at q; exact absurd q (by decide)
  · exact VIS_same aV (MEM_j pM).1 hS (sr 2 (by decide) (by decide) (by decide)) (sr 4 (by decide) (by decide) (by decide)) (s0 13 (by decide) (by decide)) (sr 12 (by decide) (by decide) (by decide)) (sr 13 (by decide) (by decide) (by decide)) (sr 14 (by decide) (by decide) (by decide))
  · refine ⟨by rw [z 17 (by omega)]; exact l17, ln, ?_, ?_, by rw [tr 15 (by decide) (by decide) (by omega)]; exact l15⟩
    · rw [fS.1, tr 2 (by decide) (by decide) (by omega)]; exact l2
    · rw [fS.2.1, tr 3 (by decide) (by decide) (by omega)]; exact l3
  · unfold nxF
    rw [if_neg (by rw [h9]; decide), if_pos h10, h11, h16]
  · intro S' hr _
    refine Or.inl ⟨by rw [hr 16 (by decide)]; exact s16, MEM_same pM ?_ ?_ ?_ hS⟩
    · rw [hr 17 (by decide)]; exact sr 17 (by decide) (by decide) (by decide)
    · rw [hr 0 (by decide)]; exact s0 11 (by decide) (by decide)
    · rw [hr 0 (by decide)]; exact s0 12 (by decide) (by decide)
