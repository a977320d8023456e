/-! a new object -/
def iT (l : Int32) (k : Nat) (U : St) : Prop := (∀ x, x ≠ 0 → x ≠ 16 → x ≠ 18 → U x = fun _ => 0) ∧ (∀ i, i ≠ 0 → i ≠ 16 → U 0 i = 0) ∧ U 0 0 = l ∧ U 0 16 = 1 ∧ (∀ i, i < k → U 18 i = -1) ∧ (∀ i, i < (k + 1) / 2 → U 16 i = -1)
theorem half : ∀ k, k < 8 → nI k / 2 = nI (k / 2) := by decide
theorem ini_ev (l : Int32) : ∃ U, iT l 8 U ∧ ∀ K : St → Prop, K U → wp_M_init_251 K T0 l := by
  have go : ∀ (d k : Nat) (U : St), k + d = 8 → iT l k U → ∃ U', iT l 8 U' ∧ ∀ K : St → Prop, K U' → ∃ f, wp_M_init_256 K f U (nI k) := by
    intro d
    induction d with
    | zero =>
      intro k U hk hU
      have : k = 8 := by omega
      subst this
      refine ⟨U, hU, fun K kk => ⟨1, ?_⟩⟩
      rw [wp_M_init_256]
      exact it (by decide) kk
    | succ d ih =>
      intro k U hk hU
      obtain ⟨u1, u2, u3, u4, u5, u6⟩ := hU
      obtain ⟨U', g1, g2⟩ := ih (k + 1) (st (st U 18 k (-1)) 16 (k / 2) (-1)) (by omega) (by
        refine ⟨fun x x0 x16 x18 => by rw [st_ne x16, st_ne x18]; exact u1 x x0 x16 x18, u2, u3, u4, fun i hi => ?_, fun i hi => ?_⟩
        · rw [st_ne (by decide), st_eq]
          by_cases q : i = k
          · rw [q]; exact upd_s
          · rw [upd_n q]; exact u5 i (by omega)
        · rw [st_eq]
          by_cases q : i = k / 2
          · rw [q]; exact upd_s
          · rw [upd_n q, st_ne (by decide)]; exact u6 i (by omega))
      refine ⟨U', g1, fun K kk => ?_⟩
      obtain ⟨f, k2⟩ := g2 K kk
      refine ⟨f + 1, ?_⟩
      rw [wp_M_init_256]
      refine ie ?_ ⟨vp_in_nI (by omega) (by decide), ?_⟩
      · rw [i_le, nI_toInt (by omega)]
        have : (8 : Int32).toInt = 8 := by decide
        omega
      · intro S5 e5
        rw [nI_clamp (by omega)] at e5
        rw [half k (by omega)]
        refine ⟨vp_in_nI (by omega) (by decide), ?_⟩
        intro S6 e6
        rw [nI_clamp (by omega)] at e6
        rw [e6, e5, nI_1]
        exact k2
  obtain ⟨U', g1, g2⟩ := go 8 0 (st T0 0 0 l) rfl ⟨fun x x0 x16 x18 => by
      rw [st_ne x0]
      show (if x = 0 then _ else _) = _
      rw [if_neg x0], fun i i0 i16 => by
      rw [st_eq, upd_n i0]
      show (if i = 16 then (1 : Int32) else 0) = 0
      rw [if_neg i16], rfl, rfl, fun i hi => by omega, fun i hi => by omega⟩
  refine ⟨U', g1, fun K k => ?_⟩
  unfold wp_M_init_251
  intro S3 e3
  rw [e3]
  exact g2 K k
theorem lat_eq (p : Int32) : ∃ l, jmax 1 (jmin 8 p) = l ∧ 1 ≤ l.toInt ∧ l.toInt ≤ 8 ∧ ∀ K : St → Prop, wp_M_init_251 K T0 l → wp_M_init_229 K T0 p := by
  have l8 : (8 : Int32).toInt = 8 := by decide
  by_cases c1 : (1 : Int32) ≤ p
  · by_cases c2 : p ≤ 8
    · refine ⟨p, ?_, ?_, ?_, fun K k => ?_⟩
      · have e1 : jmin 8 p = p := by
          unfold jmin
          by_cases q : p < 8
          · rw [if_pos q]
          · rw [if_neg q]
            refine i_eq.mpr ?_
            rw [i_lt] at q
            rw [i_le] at c2
            omega
        rw [e1, jmax_eq]
        by_cases q : p ≤ 1
        · rw [if_pos q]
          refine i_eq.mpr ?_
          rw [i_le] at q c1; omega
        · rw [if_neg q]
      · rw [i_le, one_int] at c1; exact c1
      · rw [i_le, l8] at c2; exact c2
      · unfold wp_M_init_229
        exact it c1 (it c2 k)
    · refine ⟨8, ?_, by decide, by decide, fun K k => ?_⟩
      · have e1 : jmin 8 p = 8 := by
          unfold jmin
          split
          · first
              | rfl
              | (refine i_eq.mpr ?_
                 rename_i hh
                 simp only [i_lt, i_le] at *
                 omega)
          · first
              | rfl
              | (refine i_eq.mpr ?_
                 rename_i hh
                 simp only [i_lt, i_le] at *
                 omega)
        rw [e1]; decide
      · unfold wp_M_init_229
        exact it c1 (ie c2 k)
  · refine ⟨1, ?_, by decide, by decide, fun K k => ?_⟩
    · have e1 : jmin 8 p = p := by
        unfold jmin
        split
        · first
            | rfl
            | (refine i_eq.mpr ?_
               rename_i hh
               simp only [i_lt, i_le, l8, one_int] at *
               omega)
        · first
            | rfl
            | (refine i_eq.mpr ?_
               rename_i hh
               simp only [i_lt, i_le, l8, one_int] at *
               omega)
      rw [e1, jmax_eq, if_pos]
      rw [i_le] at c1 ⊢; omega
    · unfold wp_M_init_229
      exact ie c1 k
theorem Iv_init (p1 : Int32) (gF gC : Nat → Int32) (hF : ∀ j : Nat, j < 12 → gF j = -1) (hC : ∀ j : Nat, j < 4 → gC j = -1) : wp_M_init_229 (fun T => Iv 0 (S0 p1 gF gC) T) T0 p1 := by
  obtain ⟨l, e1, l1, l2, hK⟩ := lat_eq p1
  obtain ⟨U, ⟨u1, u2, u3, u4, u5, u6⟩, hU⟩ := ini_ev l
  refine hK _ (hU _ ?_)
  have z : ∀ k, k ≠ 0 → k ≠ 16 → U 0 k = 0 := u2
  have r : ∀ x, x ≠ 0 → x ≠ 16 → x ≠ 18 → U x = fun _ => 0 := u1
  have s8 : ∀ e, e < 12 → S0 p1 gF gC 8 e = -1 := hF
  have cb : ∀ k, k < 3 → ∀ b, b = 0 ∨ b = 4 → eqv (ctb (S0 p1 gF gC) k) (mtb U b) := by
    intro k hk b hb f hf e he
    have : f = 0 ∨ f = 1 ∨ f = 2 := by omega
    rcases this with q | q | q
    · subst q
      show S0 p1 gF gC 8 (e + 4 * k) = U 18 (b + e)
      rw [s8 _ (by omega), u5 _ (by omega)]
    · subst q
      show (0 : Int32) = U 19 (b + e)
      rw [r 19 (by decide) (by decide) (by decide)]
    · subst q
      show (0 : Int32) = U 20 (b + e)
      rw [r 20 (by decide) (by decide) (by decide)]
  have ok : ∀ k, okTb (ctb (S0 p1 gF gC) k) := fun k e he => ⟨Or.inl rfl, fun _ => rfl⟩
  refine Or.inl ⟨rfl, z 1 (by decide) (by decide), ?_, ?_, ?_, ?_, z 37 (by decide) (by decide), rfl, rfl, z 6 (by decide) (by decide), z 9 (by decide) (by decide), z 11 (by decide) (by decide), u4, z 14 (by decide) (by decide), z 15 (by decide) (by decide)⟩
  · refine ⟨?_, ?_, ?_, ?_, ?_, ?_, ?_, ?_, fun _ => ⟨z 15 (by decide) (by decide), z 14 (by decide) (by decide)⟩, ⟨?_, fun p hp => ⟨?_, ?_, ?_, fun _ => ?_⟩⟩, by rw [u3]; exact l1, by rw [u3]; exact l2, fun _ => z 11 (by decide) (by decide)⟩
    · rw [r 4 (by decide) (by decide) (by decide)]; rfl
    · rw [r 4 (by decide) (by decide) (by decide)]; exact ⟨by decide, by decide⟩
    · rw [r 1 (by decide) (by decide) (by decide)]; rfl
    · rw [z 41 (by decide) (by decide)]; rfl
    · rw [z 42 (by decide) (by decide)]; rfl
    · rw [z 43 (by decide) (by decide)]; rfl
    · rw [z 14 (by decide) (by decide)]; rfl
    · rw [z 15 (by decide) (by decide)]; rfl
    · show 4 * jmax 1 (jmin 8 p1) = 4 * U 0 0
      rw [e1, u3]
    · show gC p = U 16 p
      rw [hC p hp, u6 p (by omega)]
    · rw [r 17 (by decide) (by decide) (by decide)]; rfl
    · rw [r 17 (by decide) (by decide) (by decide)]; exact isB_0
    · rw [r 17 (by decide) (by decide) (by decide)]
  · refine ⟨z 32 (by decide) (by decide), by omega, cb 0 (by omega) 4 (Or.inr rfl), fun t _ => ?_, ok 0, ok 1, ok 2, fun i hi => by omega, fun i hi => by omega, fun i hi => by omega, ⟨0, by rw [u4]; decide, fun i hi => by omega⟩, Or.inr ⟨rfl, rfl⟩, by rw [z 11 (by decide) (by decide)]; exact i_le.mpr (Int.le_refl _), by rw [u4]; decide⟩
    show eqv (ctS (S0 p1 gF gC) t) (mtb U 0)
    unfold ctS
    split
    · split
      · exact cb 0 (by omega) 0 (Or.inl rfl)
      · exact cb 1 (by omega) 0 (Or.inl rfl)
    · exact cb 2 (by omega) 0 (Or.inl rfl)
  · refine ⟨?_, ?_, ?_, ?_, ?_, ?_⟩
    · show _ = U 5
      rw [r 5 (by decide) (by decide) (by decide)]; rfl
    · show _ = U 6
      rw [r 6 (by decide) (by decide) (by decide)]; rfl
    · show _ = U 0 40
      rw [z 40 (by decide) (by decide)]; rfl
    · rw [add_nI0, z 37 (by decide) (by decide)]; rfl
    · show _ = U 25
      rw [r 25 (by decide) (by decide) (by decide)]; rfl
    · show _ = U 26
      rw [r 26 (by decide) (by decide) (by decide)]; rfl
  · refine ⟨z 17 (by decide) (by decide), by omega, ?_, ?_, fun i hi => by omega⟩
    · show _ = U 5
      rw [r 5 (by decide) (by decide) (by decide), r 2 (by decide) (by decide) (by decide)]
    · show _ = U 6
      rw [r 6 (by decide) (by decide) (by decide), r 3 (by decide) (by decide) (by decide)]
