/-! the invariant between calls, and the call run -/
def ZER (S T : St) : Prop := S 0 10 = 0 ∧ T 0 1 = 0 ∧ EQS S T ∧ FO 0 S T ∧ VIS 0 S T ∧ FLD 0 T ∧ T 0 37 = 0 ∧ S 16 0 = 0 ∧ S 17 0 = 0 ∧ T 0 6 = 0 ∧ T 0 9 = 0 ∧ T 0 11 = 0 ∧ T 0 16 = 1 ∧ T 0 14 = 0 ∧ T 0 15 = 0
def Iv (m : Nat) (S T : St) : Prop := ZER S T ∨ ∃ c e n nl, 1 ≤ c ∧ c ≤ 100 * m ∧ RR (c, e) c 0 n nl S T
theorem SAM_1 (n : Nat) (T : St) (v : Int32) : SAM n T (st T 0 1 v) := ⟨fun r r1 r2 i hi => by rw [st_ne (by omega)], rfl, rfl, rfl, rfl, rfl, rfl⟩
theorem FLD_same {n : Nat} {T T' : St} (h : FLD n T) (hS : SAM n T T') (h17 : T' 0 17 = T 0 17) (h2 : T' 2 = T 2) (h3 : T' 3 = T 3) : FLD n T' := by
  have f := SAM_f hS n (Nat.le_refl _)
  obtain ⟨l17, ln, l2, l3, l15⟩ := h
  refine ⟨h17.trans l17, ln, ?_, ?_, fun i hi => ?_⟩
  · rw [f.1, h2]; exact l2
  · rw [f.2.1, h3]; exact l3
  · rw [hS.1 15 (by decide) (by decide) i hi]; exact l15 i hi
theorem PIPE_same {c j n : Nat} {S T T' : St} (h : PIPE c j n S T) (hS : SAM n T T') : PIPE c j n S T' := by
  rcases h with ⟨p0, pm⟩ | ⟨hn, p0, pe, pr⟩ | ⟨hn, pE, p3, p4, p34, pe, pr⟩
  · exact Or.inl ⟨p0, MEM_same pm rfl rfl rfl hS⟩
  · exact Or.inr (Or.inl ⟨hn, p0, ENT_same hS (by omega) pe, pr⟩)
  · exact Or.inr (Or.inr ⟨hn, ENT_same hS (by omega) pE, p3, p4, p34, ENT_same hS (by omega) pe, pr⟩)
theorem RR_1 {a b e c n nl : Nat} {S T : St} (h : RR (a, e) c 0 n nl S T) : RR (b, e) c 0 n nl S (st T 0 1 (nI b)) := by
  obtain ⟨⟨a10, ac, aE, aF, aV, aL, aX, a37, a37b, ⟨_, aN⟩, aD⟩, aP, aT, ab, aB⟩ := h
  refine ⟨⟨a10, ac, aE, ?_, ?_, ?_, aX, a37, a37b, ⟨rfl, aN⟩, fun i hi => by omega⟩, PIPE_same aP (SAM_1 n T _), aT, ab, aB⟩
  · exact FO_same aF rfl rfl rfl rfl (fun r r1 r2 => st_ne (by omega)) rfl rfl rfl
  · exact VIS_same aV (Nat.zero_le n) (SAM_1 n T _) rfl rfl rfl rfl rfl rfl
  · exact FLD_same aL (SAM_1 n T _) rfl rfl rfl
theorem run_all {N : Nat × Nat} {c p n nl : Nat} {S T : St} (h : RR N c 0 n nl S T) (hp : c + p = N.1) (h100 : p ≤ 100) (hN : N.1 ≤ 51300) : ∃ S' T2 r e n' nl', (∀ K, K r S' → wp_K_run_27 K S (nI p)) ∧ (∀ K, K r T2 → ∃ f, wp_M_run_28 K f (st T 0 44 (wd T)) (S 15 11)) ∧ RR (N.1, e) N.1 0 n' nl' S' T2 := by
  obtain ⟨S', T', j', n', nl', g1, g2, g3, g4⟩ := runs hN p c 0 n nl S T hp h (by omega)
  obtain ⟨T2, r1, r2⟩ := rest_ev g3
  refine ⟨S', T2, nI j', N.2 + j', n' - j', nl', fun K k => ?_, fun K k => g2 K (r1 K k), r2⟩
  unfold wp_K_run_27
  intro x6 e6
  have e1 : S 12 2 = nI N.2 := by
    rw [h.1.2.2.2.2.1.2.2.2.1, add_nI0]
    exact h.1.2.2.2.2.2.2.2.2.2.1.2
  have e2 : S' 12 2 = nI N.2 + nI j' := by
    rw [g3.1.2.2.2.2.1.2.2.2.1]
    rw [g3.1.2.2.2.2.2.2.2.2.2.1.2]
  have e3 : S' 12 2 - x6 = nI j' := by rw [e6, e1, e2, Int32.add_comm, Int32.add_sub_cancel]
  have := g1 K x6 0 (by omega) (by rw [e3]; exact k)
  rw [Nat.zero_add] at this
  exact this
theorem expect0 {S T : St} (h : ZER S T) (p : Nat) : ∃ S', evV (wp_K_expect S 0 1 0) S' ∧ RR (p, 0) 0 0 0 0 S' (st T 0 1 (nI p)) := by
  obtain ⟨z10, z1, zE, zF, zV, zL, z37, z16, z17, z6, z9, z11, z16f, z14, z15⟩ := h
  have zE0 := zE
  obtain ⟨e3, eC, e1, e14, e15, e16, e11, e12, e13, eCA, eL, eL2, e9⟩ := zE
  have zF0 := zF
  obtain ⟨_, _, _, _, o0, o1, o2, _⟩ := zF
  have hfd : fd T = 2 := by
    unfold fd
    rw [if_pos z9, z16f]; decide
  obtain ⟨S', ev, hr, hX, b1, b2, b3⟩ := expect_ev (S := S) (T := T) 0 (by rw [z6]; decide) e1 (by unfold nxF; rw [if_pos z9]) (by rw [hfd, z16f, z10]; decide) e12 e11 (fun q => (e13 q).1) o0 o1 o2
  rw [z6, z16f] at ev
  have jb : jmax (fd T + 1) 0 = 3 := by rw [hfd]; decide
  rw [jb] at b1 b3
  have b4 : (S' 15 11).toInt = 3 := by
    rcases b3 with q | q
    · rw [q]; decide
    · rw [q, z14] at b1
      exact absurd b1 (by decide)
  obtain ⟨x1, x2, x3, x4, x5, x6, x7, x8⟩ := hX
  refine ⟨S', ev, ⟨by rw [hr 0 (by decide)]; exact z10, by omega, ?_, ?_, ?_, ?_, ⟨x1, x2, x3, x4, x5, x6, x7⟩, ?_, ?_, ⟨rfl, z37⟩, fun i hi => by omega⟩, ?_, ?_, by rw [b4]; decide, x8⟩
  · exact EQS_S (T := st T 0 1 (nI p)) zE0 (fun i hi => hr i (by omega)) (fun k _ _ => by rw [hr 0 (by decide)])
  · exact FO_same zF0 (hr 8 (by decide)) (hr 9 (by decide)) (hr 10 (by decide)) (hr 11 (by decide)) (fun r r1 r2 => st_ne (by omega)) rfl rfl rfl
  · exact VIS_same zV (Nat.le_refl 0) (SAM_1 0 T _) (hr 2 (by decide)) (hr 4 (by decide)) (by rw [hr 0 (by decide)]) (hr 12 (by decide)) (hr 13 (by decide)) (hr 14 (by decide))
  · exact FLD_same zL (SAM_1 0 T _) rfl rfl rfl
  · show 0 ≤ (T 0 37).toInt
    rw [z37]; decide
  · show (T 0 37).toInt + (0 : Nat) ≤ _
    rw [z37]; decide
  · exact Or.inl ⟨by rw [hr 16 (by decide)]; exact z16, Or.inl ⟨rfl, by rw [hr 17 (by decide)]; exact z17⟩⟩
  · rw [b4]
    refine ⟨?_, ?_, ?_, ?_, by decide, ?_, ?_, fun q => absurd z15 q⟩
    · show 0 ≤ (T 0 11).toInt
      rw [z11]; decide
    · show (T 0 11).toInt ≤ _
      rw [z11]; decide
    · show 0 < (T 0 16).toInt
      rw [z16f]; decide
    · show (T 0 16).toInt ≤ _
      rw [z16f]; decide
    · show 0 ≤ (T 0 14).toInt
      rw [z14]; decide
    · show (T 0 14).toInt ≤ _
      rw [z14]; decide
theorem call_run {m : Nat} {S T : St} (hm : m < 512) (h : Iv m S T) (x : Int32) : wp_K_run S x (fun r S1 => wp_M_run T x (fun q T1 => r = q ∧ Iv (m + 1) S1 T1)) := by
  have keep : Iv (m + 1) S T := by
    rcases h with h | ⟨c, e, n, nl, h1, h2, h3⟩
    · exact Or.inl h
    · exact Or.inr ⟨c, e, n, nl, h1, by omega, h3⟩
  unfold wp_K_run wp_K_run_11
  by_cases c1 : x < 1
  · refine it c1 ?_
    unfold wp_M_run wp_M_run_11
    exact it c1 ⟨rfl, keep⟩
  refine ie c1 ?_
  by_cases c2 : x ≤ 100
  · refine it c2 ?_
    rw [i_lt, one_int] at c1
    have c2' := c2
    rw [i_le] at c2'
    have l100 : (100 : Int32).toInt = 100 := by decide
    rw [l100] at c2'
    obtain ⟨p, hp⟩ : ∃ p : Nat, x.toInt = p := ⟨x.toInt.toNat, by omega⟩
    have hx : x = nI p := i_eq.mpr (by rw [nI_toInt (by omega)]; exact hp)
    have refM : ∀ (K : Int32 → St → Prop) (U : St) (b : Int32), U = st T 0 1 (T 0 1 + x) → BEG b U → (∃ f, wp_M_run_28 K f (st U 0 44 (wd U)) b) → wp_M_run T x K := by
      intro K U b hU hb k
      unfold wp_M_run
      refine ie (by rw [i_lt, one_int]; omega) (it c2 ?_)
      intro S3 e3
      rw [e3, ← hU]
      exact BEG_ev hb _ k
    rcases h with h | ⟨c, e, n, nl, h1, h2, h3⟩
    · obtain ⟨S4, ev, hR⟩ := expect0 h p
      obtain ⟨S', T2, r, e', n', nl', g1, g2, g3⟩ := run_all (p := p) hR (by show 0 + p = p; omega) (by omega) (by show p ≤ _; omega)
      refine it h.1 ?_
      refine ev _ ?_
      rw [hx]
      refine g1 _ ?_
      rw [← hx]
      refine refM _ (st T 0 1 (nI p)) (S4 15 11) ?_ hR.2.2.2.2 (g2 _ ⟨rfl, Or.inr ⟨p, e', n', nl', by omega, by omega, g3⟩⟩)
      rw [h.2.1, hx]
      congr 1
      exact i_eq.mpr (by simp)
    · have hR := RR_1 (b := c + p) h3
      have c0 := h3.1.1
      have cb := h3.1.2.1
      obtain ⟨S', T2, r, e', n', nl', g1, g2, g3⟩ := run_all (p := p) hR rfl (by omega) (by show c + p ≤ _; omega)
      refine ie ?_ ?_
      · rw [c0, i_eq, nI_toInt (by omega), zero_int]; omega
      rw [hx]
      refine g1 _ ?_
      rw [← hx]
      refine refM _ (st T 0 1 (nI (c + p))) (S 15 11) ?_ hR.2.2.2.2 (g2 _ ⟨rfl, Or.inr ⟨c + p, e', n', nl', by omega, by omega, g3⟩⟩)
      have a1 := h3.1.2.2.2.2.2.2.2.2.2.1.1
      rw [a1, hx, nI_add]
  · refine ie c2 ?_
    unfold wp_M_run wp_M_run_11
    refine ie c1 (ie c2 ⟨rfl, keep⟩)
