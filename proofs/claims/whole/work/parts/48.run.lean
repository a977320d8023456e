/-! the cycles of a run -/
theorem runs {N : Nat × Nat} (hN : N.1 ≤ 51300) : ∀ (d c j n nl : Nat) (S T : St), c + d = N.1 → RR N c j n nl S T → j + d ≤ 138 → ∃ S' T' j' n' nl',
    (∀ (K : Int32 → St → Prop) (v2 : Int32) (i : Nat), i + d ≤ 100 → K (S' 12 2 - v2) S' → ∃ f, wp_K_run_37 K f S (nI (i + d)) v2 (nI i)) ∧
    (∀ K : Int32 → St → Prop, (∃ f, wp_M_run_51 K f (st T' 0 44 (wd T')) 0) → ∃ f, wp_M_run_28 K f (st T 0 44 (wd T)) (S 15 11)) ∧ RR N N.1 j' n' nl' S' T' ∧ j' ≤ j + d := by
  intro d
  induction d with
  | zero =>
    intro c j n nl S T hc h hj
    have hcN : c = N.1 := by omega
    refine ⟨S, T, j, n, nl, fun K v2 i hi k => ⟨1, ?_⟩, fun K k => ⟨1, ?_⟩, by rw [← hcN]; exact h, by omega⟩
    · rw [wp_K_run_37]
      exact it (i_le.mpr (Int.le_refl _)) k
    · rw [wp_M_run_28]
      refine it ?_ k
      obtain ⟨⟨_, _, _, _, _, _, _, _, _, ⟨h1, _⟩, _⟩, _, _, hb, _⟩ := h
      show T 0 1 < S 15 11
      rw [h1, i_lt, nI_toInt (by omega), ← hcN]; exact hb
  | succ d ih =>
    intro c j n nl S T hc h hj
    obtain ⟨S1, j1, hj1, ev, hx⟩ := cycle_ev h (by omega) (by omega)
    have h1 : T 0 1 = nI N.1 := h.1.2.2.2.2.2.2.2.2.2.1.1
    have loopK : ∀ (K : Int32 → St → Prop) (v2 : Int32) (i : Nat), i + (d + 1) ≤ 100 → (∃ f, wp_K_run_37 K f S1 (nI (i + 1 + d)) v2 (nI (i + 1))) → ∃ f, wp_K_run_37 K f S (nI (i + (d + 1))) v2 (nI i) := by
      intro K v2 i hi ⟨f, k⟩
      refine ⟨f + 1, ?_⟩
      rw [wp_K_run_37]
      refine ie ?_ ?_
      · rw [i_le, nI_toInt (by omega), nI_toInt (by omega)]; omega
      · refine ev _ ?_
        have e1 : i + (d + 1) = i + 1 + d := by omega
        rw [nI_1, e1]
        exact k
    rcases hx with ⟨hb, h15, hR⟩ | ⟨hb, T1, n1, nl1, evM, hR⟩
    · obtain ⟨S', T', j', n', nl', g1, g2, g3, g4⟩ := ih (c + 1) j1 n nl S1 T (by omega) hR (by omega)
      refine ⟨S', T', j', n', nl', fun K v2 i hi k => loopK K v2 i hi (g1 K v2 (i + 1) (by omega) k), fun K k => ?_, g3, by omega⟩
      have := g2 K k
      rw [h15] at this
      exact this
    · obtain ⟨S', T', j', n', nl', g1, g2, g3, g4⟩ := ih (c + 1) j1 n1 nl1 S1 T1 (by omega) hR (by omega)
      refine ⟨S', T', j', n', nl', fun K v2 i hi k => loopK K v2 i hi (g1 K v2 (i + 1) (by omega) k), fun K k => ?_, g3, by omega⟩
      obtain ⟨f, kk⟩ := g2 K k
      refine ⟨f + 1, ?_⟩
      rw [wp_M_run_28]
      refine ie ?_ ?_
      · show ¬ T 0 1 < S 15 11
        rw [h1, hb, i_lt, nI_toInt (by omega), nI_toInt (by omega)]; omega
      · rw [hb]
        refine evM _ ?_
        refine BEG_ev hR.2.2.2.2 _ ?_
        exact kk
/-- the reference's end of one -/
def endT (U : St) (i : Nat) : St := fun x => if x = 0 then upd (upd (U 0) 40 (apM U i (U 0 40))) 37 (U 0 37 + 1) else if x = 5 then apR U i (U 5) else if x = 6 then apW U i (U 6) else if x = 25 then upd (U 25) (jrem (U 0 37) 16).toNatClampNeg (U 7 i) else if x = 26 then upd (U 26) (jrem (U 0 37) 16).toNatClampNeg (U 10 i) else U x
theorem in16 {x : Int32} (h : 0 ≤ x.toInt) : vp_in (jrem x 16) 16 := by
  rw [jrem16 h]
  exact in_m _ 4 (by decide) (by decide) (by decide)
theorem Mend_ev {U : St} {i : Nat} (hi : i < 160) (h37 : 0 ≤ (U 0 37).toInt) (h11 : vp_in (U 11 i) 32) (h13 : ¬ U 13 i < 0 → vp_in (U 13 i) 64) : evV (wp_M_end U (nI i)) (endT U i) := fun K k => by
  have cl : (nI i).toNatClampNeg = i := nI_clamp (by omega)
  have ii : vp_in (nI i) 160 := vp_in_nI hi (by decide)
  have e71 : ∀ (W : St) (b : Int32), W 0 = U 0 → W 7 = U 7 → W 10 = U 10 → W 25 = U 25 → W 26 = U 26 → (∀ x, x ≠ 0 → x ≠ 25 → x ≠ 26 → W x = endT U i x) → U 0 40 + b = apM U i (U 0 40) → wp_M_end_71 K W (nI i) b (W 0 40) := by
    intro W b w0 w7 w10 w25 w26 wx hb
    unfold wp_M_end_71
    intro S6 e6
    have z6 : S6 0 = upd (U 0) 40 (apM U i (U 0 40)) := by rw [e6, st_eq, w0, hb]
    have z37 : S6 0 37 = U 0 37 := by rw [z6]; rfl
    rw [z37, cl]
    refine ⟨ii, in16 h37, ?_⟩
    intro S7 e7
    have y7 : S6 7 = U 7 := by rw [e6, st_ne (by decide)]; exact w7
    rw [y7] at e7
    have y37 : S7 0 37 = U 0 37 := by rw [e7]; exact z37
    rw [y37]
    refine ⟨ii, in16 h37, ?_⟩
    intro S8 e8
    have y10 : S7 10 = U 10 := by rw [e7, st_ne (by decide), e6, st_ne (by decide)]; exact w10
    rw [y10] at e8
    intro S9 e9
    have x37 : S8 0 37 = U 0 37 := by rw [e8]; exact y37
    have : S9 = endT U i := by
      rw [e9, x37, e8, e7]
      funext x
      by_cases c0 : x = 0
      · subst c0
        rw [st_eq, st_ne (by decide), st_ne (by decide), z6]; rfl
      by_cases c25 : x = 25
      · subst c25
        rw [st_ne (by decide), st_ne (by decide), st_eq, e6, st_ne (by decide), w25]; rfl
      by_cases c26 : x = 26
      · subst c26
        rw [st_ne (by decide), st_eq, st_ne (by decide), e6, st_ne (by decide), w26]; rfl
      rw [st_ne c0, st_ne c26, st_ne c25, e6, st_ne c0]
      exact wx x c0 c25 c26
    rw [this]; exact k
  have e52 : ∀ W : St, W 0 = U 0 → W 7 = U 7 → W 10 = U 10 → W 15 = U 15 → W 25 = U 25 → W 26 = U 26 → (∀ x, x ≠ 0 → x ≠ 25 → x ≠ 26 → W x = endT U i x) → wp_M_end_52 K W (nI i) := by
    intro W w0 w7 w10 w15 w25 w26 wx
    unfold wp_M_end_52
    refine ⟨ii, ?_⟩
    rw [cl, w15]
    by_cases c : U 15 i = 0
    · refine it c (e71 W 0 w0 w7 w10 w25 w26 wx ?_)
      unfold apM
      rw [if_pos c]
      exact i_eq.mpr (by simp)
    · refine ie c (e71 W 1 w0 w7 w10 w25 w26 wx ?_)
      unfold apM
      rw [if_neg c]
  have e26 : ∀ W : St, (∀ x, x ≠ 5 → W x = U x) → W 5 = apR U i (U 5) → wp_M_end_26 K W (nI i) := by
    intro W wx w5
    unfold wp_M_end_26
    refine ⟨ii, ?_⟩
    rw [cl, wx 13 (by decide), wx 14 (by decide)]
    by_cases c : U 13 i < 0
    · refine it c (e52 W (wx 0 (by decide)) (wx 7 (by decide)) (wx 10 (by decide)) (wx 15 (by decide)) (wx 25 (by decide)) (wx 26 (by decide)) ?_)
      intro x x0 x25 x26
      unfold endT
      rw [if_neg x0]
      by_cases c5 : x = 5
      · rw [if_pos c5, c5]; exact w5
      · rw [if_neg c5]
        by_cases c6 : x = 6
        · rw [if_pos c6, c6, wx 6 (by decide)]
          unfold apW
          rw [if_pos c]
        · rw [if_neg c6, if_neg x25, if_neg x26]; exact wx x c5
    · refine ie c ⟨ii, ii, h13 c, ?_⟩
      intro S4 e4
      have q : ∀ x, x ≠ 6 → S4 x = W x := fun x hx => by rw [e4, st_ne hx]
      refine e52 S4 (by rw [q 0 (by decide), wx 0 (by decide)]) (by rw [q 7 (by decide), wx 7 (by decide)]) (by rw [q 10 (by decide), wx 10 (by decide)]) (by rw [q 15 (by decide), wx 15 (by decide)]) (by rw [q 25 (by decide), wx 25 (by decide)]) (by rw [q 26 (by decide), wx 26 (by decide)]) ?_
      intro x x0 x25 x26
      unfold endT
      rw [if_neg x0]
      by_cases c5 : x = 5
      · rw [if_pos c5, c5, q 5 (by decide)]; exact w5
      · rw [if_neg c5]
        by_cases c6 : x = 6
        · rw [if_pos c6, c6, e4, st_eq, wx 6 (by decide)]
          unfold apW
          rw [if_neg c]
        · rw [if_neg c6, if_neg x25, if_neg x26, q x c6]; exact wx x c5
  unfold wp_M_end
  refine ⟨ii, ?_⟩
  rw [cl]
  by_cases c : U 11 i = 0
  · refine it c (e26 U (fun _ _ => rfl) ?_)
    unfold apR
    rw [if_pos c]
  · refine ie c ⟨ii, ii, h11, ?_⟩
    intro S2 e2
    refine e26 S2 (fun x hx => by rw [e2, st_ne hx]) ?_
    unfold apR
    rw [e2, st_eq, if_neg c]
