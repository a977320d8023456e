/-! between two calls -/
/-- T2 is T with its first j ended and taken away -/
def TKN (j n : Nat) (T T2 : St) : Prop := (∀ x, x ≠ 0 → x ≠ 5 → x ≠ 6 → x ≠ 25 → x ≠ 26 → (x < 7 ∨ 15 < x) → T2 x = T x) ∧ (∀ k, k ≠ 17 → k ≠ 37 → k ≠ 40 → k ≠ 44 → T2 0 k = T 0 k) ∧ T2 5 = fR T j ∧ T2 6 = fW T j ∧ T2 0 40 = fM T j ∧ T2 0 37 = T 0 37 + nI j ∧ T2 25 = fP T j ∧ T2 26 = fQ T j ∧ T2 0 17 = nI (n - j) ∧ (∀ x, 7 ≤ x → x ≤ 15 → ∀ i, i + j < n → T2 x i = T x (i + j))
theorem TKN_f {j n : Nat} {T T2 : St} (h : TKN j n T T2) : ∀ i, i + j ≤ n → fR T2 i = fR T (i + j) ∧ fW T2 i = fW T (i + j) := by
  obtain ⟨_, _, h5, h6, _, _, _, _, _, hr⟩ := h
  intro i
  induction i with
  | zero => intro _; rw [Nat.zero_add]; exact ⟨h5, h6⟩
  | succ i ih =>
    intro hi
    obtain ⟨a, b⟩ := ih (by omega)
    have e : i + 1 + j = i + j + 1 := by omega
    rw [e]
    refine ⟨?_, ?_⟩
    · show apR T2 i (fR T2 i) = apR T (i + j) (fR T (i + j))
      unfold apR
      rw [hr 11 (by decide) (by decide) i (by omega), hr 12 (by decide) (by decide) i (by omega), a]
    · show apW T2 i (fW T2 i) = apW T (i + j) (fW T (i + j))
      unfold apW
      rw [hr 13 (by decide) (by decide) i (by omega), hr 14 (by decide) (by decide) i (by omega), b]
theorem TKN_ENT {j n : Nat} {T T2 : St} (h : TKN j n T T2) {E : Nat → Int32} {i : Nat} (hi : i + j < n) (he : ENT E T (i + j)) : ENT E T2 i := by
  have f := TKN_f h i (by omega)
  obtain ⟨_, _, _, _, _, _, _, _, _, hr⟩ := h
  have r : ∀ x, 7 ≤ x → x ≤ 15 → T2 x i = T x (i + j) := fun x a b => hr x a b i hi
  unfold ENT at he ⊢
  rw [r 7 (by decide) (by decide), r 9 (by decide) (by decide), r 10 (by decide) (by decide), r 15 (by decide) (by decide), r 11 (by decide) (by decide), r 12 (by decide) (by decide), r 13 (by decide) (by decide), r 14 (by decide) (by decide), f.2]
  exact he
theorem TKN_RR {N : Nat × Nat} {j n nl : Nat} {S T T2 : St} (hj : j ≤ n) (h : RR N N.1 j n nl S T) (hK : TKN j n T T2) : RR (N.1, N.2 + j) N.1 0 (n - j) nl S T2 := by
  obtain ⟨⟨a10, ac, aE, aF, aV, aL, aX, a37, a37b, a1, aD⟩, aP, aT, ab, aB⟩ := h
  have hK0 := hK
  obtain ⟨kx, kk, k5, k6, k40, k37, k25, k26, k17, kr⟩ := hK
  have z : ∀ k, k < 17 → T2 0 k = T 0 k := fun k hk => kk k (by omega) (by omega) (by omega) (by omega)
  have row : ∀ x, x = 1 ∨ x = 2 ∨ x = 3 ∨ x = 4 ∨ (16 ≤ x ∧ x ≤ 24) → T2 x = T x := fun x hx => kx x (by omega) (by omega) (by omega) (by omega) (by omega) (by omega)
  have ewd : wd T2 = wd T := by unfold wd; rw [z 6 (by decide), row 1 (by omega)]
  have efd : fd T2 = fd T := by unfold fd; rw [z 9 (by decide), z 11 (by decide), z 16 (by decide)]
  have enx : nxF T2 = nxF T := by unfold nxF; rw [z 9 (by decide), z 10 (by decide), z 11 (by decide), z 12 (by decide)]
  have ewt : waits T2 = waits T := by unfold waits; rw [z 13 (by decide), z 15 (by decide), ewd]
  have eic : icd T2 = icd T := by unfold icd; rw [z 6 (by decide)]
  have i37 : (T 0 37 + nI j).toInt = (T 0 37).toInt + j := by
    rw [add_int a37 (by omega) (by rw [nI_toInt (by omega)]; omega) (by rw [nI_toInt (by omega)]; omega), nI_toInt (by omega)]
  have fN := TKN_f hK0 (n - j) (by omega)
  have en : n - j + j = n := by omega
  rw [en] at fN
  refine ⟨⟨a10, ac, ?_, ?_, ?_, ?_, ?_, ?_, ?_, ?_, fun i hi => by omega⟩, ?_, ?_, ab, ?_⟩
  · unfold EQS CA at aE ⊢
    rw [row 4 (by omega), row 1 (by omega), row 16 (by omega), row 17 (by omega), z 14 (by decide), z 15 (by decide), z 13 (by decide), z 0 (by decide), z 9 (by decide), z 11 (by decide), kk 41 (by decide) (by decide) (by decide) (by decide), kk 42 (by decide) (by decide) (by decide) (by decide), kk 43 (by decide) (by decide) (by decide) (by decide)]
    exact aE
  · exact FO_same aF rfl rfl rfl rfl (fun r r1 r2 => row r (by omega)) (kk 32 (by decide) (by decide) (by decide) (by decide)) (z 11 (by decide)) (z 16 (by decide))
  · obtain ⟨v1, v2, v3, v4, v5, v6⟩ := aV
    refine ⟨?_, ?_, ?_, ?_, ?_, ?_⟩
    · show S 2 = T2 5
      rw [k5]; exact v1
    · show S 4 = T2 6
      rw [k6]; exact v2
    · show S 0 13 = T2 0 40
      rw [k40]; exact v3
    · rw [add_nI0, k37]; exact v4
    · show S 13 = T2 25
      rw [k25]; exact v5
    · show S 14 = T2 26
      rw [k26]; exact v6
  · obtain ⟨l17, ln, l2, l3, l15⟩ := aL
    refine ⟨k17, by omega, ?_, ?_, fun i hi => ?_⟩
    · rw [row 2 (by omega), fN.1]; exact l2
    · rw [row 3 (by omega), fN.2]; exact l3
    · rw [kr 15 (by decide) (by decide) i (by omega)]
      exact l15 (i + j) (by omega)
  · unfold EX0 at aX ⊢
    rw [eic, ewd, efd, z 6 (by decide), z 16 (by decide)]
    exact aX
  · rw [k37, i37]; omega
  · rw [k37, i37]; omega
  · refine ⟨?_, ?_⟩
    · rw [z 1 (by decide)]; exact a1.1
    · rw [k37, a1.2, nI_add]
  · rcases aP with ⟨p0, pm⟩ | ⟨hn, p0, pe⟩ | ⟨hn, pE, p3, p4, p34, pe⟩
    · refine Or.inl ⟨p0, ?_⟩
      rcases pm with ⟨hn, m0⟩ | ⟨hn, mE, mr⟩
      · exact Or.inl ⟨by omega, m0⟩
      · refine Or.inr ⟨by omega, ?_, mr⟩
        refine TKN_ENT hK0 (i := 0) (by omega) ?_
        rw [Nat.zero_add]; exact mE
    · refine Or.inr (Or.inl ⟨by omega, p0, ?_, pe.2⟩)
      refine TKN_ENT hK0 (i := 0) (by omega) ?_
      rw [Nat.zero_add]; exact pe.1
    · refine Or.inr (Or.inr ⟨by omega, ?_, p3, p4, p34, ?_, pe.2⟩)
      · refine TKN_ENT hK0 (i := 0) (by omega) ?_
        rw [Nat.zero_add]; exact pE
      · refine TKN_ENT hK0 (i := 0 + 1) (by omega) ?_
        have : 0 + 1 + j = j + 1 := by omega
        rw [this]; exact pe.1
  · unfold TIM at aT ⊢
    rw [z 11 (by decide), z 16 (by decide), z 14 (by decide), z 15 (by decide), ewd]
    exact aT
  · unfold BEG at aB ⊢
    rw [ewt, efd, enx, z 14 (by decide)]
    exact aB
theorem PIPE_j {c j n : Nat} {S T : St} (h : PIPE c j n S T) : j ≤ n ∧ (n = j ∨ (c : Int) < (T 10 j).toInt) := by
  rcases h with ⟨p0, ⟨hn, m0⟩ | ⟨hn, mE, m3, m4, _⟩⟩ | ⟨hn, p0, pe, e1, e2, e3, _⟩ | ⟨hn, pE, p3, p4, _⟩
  · exact ⟨by omega, Or.inl hn⟩
  · exact ⟨by omega, Or.inr (by rw [← mE.2.2.2.1]; exact m4)⟩
  · exact ⟨by omega, Or.inr (by rw [← pe.2.2.2.1]; omega)⟩
  · exact ⟨by omega, Or.inr (by rw [← pE.2.2.2.1]; exact p4)⟩
theorem rest_ev {N : Nat × Nat} {j n nl : Nat} {S T : St} (h : RR N N.1 j n nl S T) : ∃ T2, (∀ K : Int32 → St → Prop, K (nI j) T2 → ∃ f, wp_M_run_51 K f (st T 0 44 (wd T)) 0) ∧ RR (N.1, N.2 + j) N.1 0 (n - j) nl S T2 := by
  have h0 := h
  obtain ⟨⟨a10, ac, aE, aF, aV, ⟨l17, ln, l2, l3, l15⟩, aX, a37, a37b, a1, aD⟩, aP, aT, ab, aB⟩ := h0
  obtain ⟨hjn, hs⟩ := PIPE_j aP
  obtain ⟨U, hE, hK⟩ := ends_ev (U0 := st T 0 44 (wd T)) (N := N.1) (j := j) (n := n) ac l17 (by omega) hjn a1.1 a37 (by show (T 0 37).toInt ≤ _; omega) aD hs
  obtain ⟨u5, u6, u40, u37, u25, u26, ux, uk⟩ := hE
  have f := SAM_f (SAM_44 n T (wd T)) j hjn
  obtain ⟨V, hSH, ev⟩ := shift_ev (j := j) (n := n) (U := U) (by rw [uk 17 (by decide) (by decide)]; exact l17) ln hjn (fun i i1 i2 => by rw [ux 15 (by decide) (by decide) (by decide) (by decide) (by decide)]; exact l15 i i2)
  obtain ⟨s1, s2, s3⟩ := hSH
  refine ⟨st V 0 17 (nI n - nI j), fun K k => hK K ?_, TKN_RR hjn h ?_⟩
  · unfold wp_M_run_83
    exact ev _ k
  · have ed : nI n - nI j = nI (n - j) := by
      have : nI n = nI (n - j) + nI j := by rw [nI_add]; congr 1; omega
      rw [this, Int32.add_sub_cancel]
    refine ⟨fun x x0 x5 x6 x25 x26 hx => ?_, fun k k17 k37 k40 k44 => ?_, ?_, ?_, ?_, ?_, ?_, ?_, ed, fun x x1 x2 i hi => ?_⟩
    · rw [st_ne x0, s1 x hx, ux x x0 x5 x6 x25 x26, st_ne x0]
    · rw [st_eq, upd_n k17, s1 0 (by omega), uk k k37 k40, st_eq, upd_n k44]
    · rw [st_ne (by decide), s1 5 (by omega), u5, f.1]
    · rw [st_ne (by decide), s1 6 (by omega), u6, f.2.1]
    · rw [st_eq, upd_n (by decide), s1 0 (by omega), u40, f.2.2.1]
    · rw [st_eq, upd_n (by decide), s1 0 (by omega), u37]; rfl
    · rw [st_ne (by decide), s1 25 (by omega), u25, f.2.2.2.1]
    · rw [st_ne (by decide), s1 26 (by omega), u26, f.2.2.2.2]
    · rw [st_ne (by omega), s2 x x1 x2 i hi, ux x (by omega) (by omega) (by omega) (by omega) (by omega), st_ne (by omega)]
