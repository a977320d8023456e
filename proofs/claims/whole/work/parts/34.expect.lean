/-! the coming one -/
theorem st_st (S : St) (i k : Nat) (u v : Int32) : st (st S i k u) i k v = st S i k v := by
  funext i' x
  rw [st_at, st_at, st_at]
  by_cases h : i' = i
  · rw [if_pos h, if_pos h, if_pos h]
    by_cases h2 : x = k
    · rw [if_pos h2, if_pos h2]
    · rw [if_neg h2, if_neg h2, if_neg h2]
  · rw [if_neg h, if_neg h, if_neg h]
/-- when the next one begins -/
def BEG (b : Int32) (T : St) : Prop := (waits T → b = jmax (jmax (fd T + 1) (nxF T)) (T 0 14)) ∧ (¬ waits T → b = jmax (fd T + 1) (nxF T))
theorem BEG_ev {b : Int32} {T : St} (h : BEG b T) : evI (wp_M_beginning T) b (st T 0 44 (wd T)) := by
  by_cases c : waits T
  · rw [h.1 c]; exact (begin_ev T).1 c
  · rw [h.2 c]; exact (begin_ev T).2 c
def EXP (S T : St) : Prop := S 15 0 = T 0 6 ∧ ((S 15 1 = 1 ∧ icd T) ∨ (S 15 1 = 0 ∧ ¬ icd T)) ∧ S 15 2 = wd T ∧ DEC S ∧ S 15 9 = gs (ctS S (T 0 16)) (T 0 6) ∧ S 15 10 = fd T ∧ T 0 6 &&& 3 = 0 ∧ BEG (S 15 11) T
def dcd (S : St) (a c w : Int32) : St := st (st (st (st (st (st (st (st (st S 15 0 a) 15 1 c) 15 2 w) 15 3 (wOp w)) 15 4 (wRd w)) 15 5 (wF w)) 15 6 (wA w)) 15 7 (wB w)) 15 8 (wG w)
theorem dcd_ev (S : St) (a w : Int32) {c : Int32} (hc : isB c) : evV (wp_Ins_decode S a c w) (dcd S a c w) := fun K k => by
  unfold wp_Ins_decode
  intro S1 e1
  subst e1
  refine ⟨hc, ?_⟩
  intro S2 e2 S3 e3 S4 e4 S5 e5 S6 e6 S7 e7 S8 e8 S9 e9
  subst e2 e3 e4 e5 e6 e7 e8 e9
  exact k
theorem dcd_ne {S : St} {a c w : Int32} {i : Nat} (h : i ≠ 15) : dcd S a c w i = S i := by
  unfold dcd
  simp only [st_ne h]
theorem expect_ev {S T : St} (p3 : Int32) (hal : T 0 6 &&& 3 = 0) (h1 : S 1 = T 1) (hp3 : p3 = nxF T) (hc : jmax (T 0 16 + 1) (S 0 10) = fd T) (h12 : S 0 12 = T 0 15) (h11 : S 0 11 = T 0 14) (h13 : T 0 13 = 0 → T 0 15 = 0) (o0 : okTb (ctb S 0)) (o1 : okTb (ctb S 1)) (o2 : okTb (ctb S 2)) :
    ∃ S', evV (wp_K_expect S (T 0 6) (T 0 16) p3) S' ∧ (∀ i, i ≠ 15 → S' i = S i) ∧ EXP S' T ∧ (jmax (fd T + 1) p3).toInt ≤ (S' 15 11).toInt ∧ (¬ T 0 15 = 0 → us (wd T) (T 0 15) → (T 0 14).toInt ≤ (S' 15 11).toInt) ∧ (S' 15 11 = jmax (fd T + 1) p3 ∨ S' 15 11 = T 0 14) := by
  have cbe : ∀ (U : St), (∀ i, i ≠ 15 → U i = S i) → ∀ k, eqv (ctb U k) (ctb S k) := by
    intro U hU k f hf e he
    show U (8 + f) _ = S (8 + f) _
    rw [hU _ (by omega)]
  have cse : ∀ (U : St), (∀ i, i ≠ 15 → U i = S i) → ∀ t, eqv (ctS U t) (ctS S t) := by
    intro U hU t
    unfold ctS
    rw [hU 11 (by decide)]
    split
    · split
      · exact cbe U hU 0
      · exact cbe U hU 1
    · exact cbe U hU 2
  have key : ∀ c : Int32, isB c → ((c = 1 ∧ icd T) ∨ (c = 0 ∧ ¬ icd T)) → ∃ S', (∀ K, K S' → wp_K_expect_48 K S (T 0 6) (T 0 16) p3 (wd T) c (T 0 6)) ∧ (∀ i, i ≠ 15 → S' i = S i) ∧ EXP S' T ∧ (jmax (fd T + 1) p3).toInt ≤ (S' 15 11).toInt ∧ (¬ T 0 15 = 0 → us (wd T) (T 0 15) → (T 0 14).toInt ≤ (S' 15 11).toInt) ∧ (S' 15 11 = jmax (fd T + 1) p3 ∨ S' 15 11 = T 0 14) := by
    intro c hB hcc
    have d15 : ∀ i, i ≠ 15 → dcd S (T 0 6) c (wd T) i = S i := fun i hi => dcd_ne hi
    -- what stands in the row
    have fin : ∀ b : Int32, BEG b T → EXP (st (st (st (dcd S (T 0 6) c (wd T)) 15 9 (gs (ctS S (T 0 16)) (T 0 6))) 15 10 (fd T)) 15 11 b) T := by
      intro b hb
      refine ⟨rfl, hcc, rfl, ⟨rfl, rfl, rfl, rfl, rfl, rfl⟩, ?_, rfl, hal, hb⟩
      show gs (ctS S (T 0 16)) (T 0 6) = _
      exact gs_eqv (eqv_sy (cse _ (fun i hi => by rw [st_ne hi, st_ne hi, st_ne hi]; exact d15 i hi) _)) _
    have fr : ∀ b : Int32, ∀ i, i ≠ 15 → (st (st (st (dcd S (T 0 6) c (wd T)) 15 9 (gs (ctS S (T 0 16)) (T 0 6))) 15 10 (fd T)) 15 11 b) i = S i := fun b i hi => by rw [st_ne hi, st_ne hi, st_ne hi]; exact d15 i hi
    -- up to the load
    have start : ∀ (K : St → Prop), (if T 0 15 = 0 then K (st (st (st (dcd S (T 0 6) c (wd T)) 15 9 (gs (ctS S (T 0 16)) (T 0 6))) 15 10 (fd T)) 15 11 (jmax (fd T + 1) p3)) else wp_Ins_uses (st (st (st (dcd S (T 0 6) c (wd T)) 15 9 (gs (ctS S (T 0 16)) (T 0 6))) 15 10 (fd T)) 15 11 (jmax (fd T + 1) p3)) (T 0 15) (fun r14 S13 => if r14 = 0 then K S13 else (∀ S16 : St, S16 = st S13 15 11 (jmax (S13 15 11) (S13 0 11)) → K S16))) → wp_K_expect_48 K S (T 0 6) (T 0 16) p3 (wd T) c (T 0 6) := by
      intro K h
      unfold wp_K_expect_48 wp_K_expect_146
      refine dcd_ev S _ _ hB _ ?_
      have e1 : ctb (dcd S (T 0 6) c (wd T)) 0 = ctb (dcd S (T 0 6) c (wd T)) 0 := rfl
      refine foretell_ev _ _ _ (okTb_eqv o0 (eqv_sy (cbe _ d15 0))) (okTb_eqv o1 (eqv_sy (cbe _ d15 1))) (okTb_eqv o2 (eqv_sy (cbe _ d15 2))) _ ?_
      rw [gs_eqv (cse _ d15 _)]
      intro S9 e9 S10 e10 S11 e11
      subst e9
      have e10' : S10 = st (st (dcd S (T 0 6) c (wd T)) 15 9 (gs (ctS S (T 0 16)) (T 0 6))) 15 10 (fd T) := by rw [e10, ← hc]; rfl
      subst e10'
      subst e11
      have c12 : ∀ b : Int32, (st (st (st (dcd S (T 0 6) c (wd T)) 15 9 (gs (ctS S (T 0 16)) (T 0 6))) 15 10 (fd T)) 15 11 b) 0 12 = T 0 15 := fun b => h12
      show @ite Prop (S 0 12 = 0) _ _ _
      rw [h12]
      by_cases q : T 0 15 = 0
      · rw [if_pos q] at h ⊢; exact h
      · rw [if_neg q] at h ⊢
        show wp_Ins_uses _ (S 0 12) _
        rw [h12]
        exact h
    have dec' : ∀ b : Int32, DEC (st (st (st (dcd S (T 0 6) c (wd T)) 15 9 (gs (ctS S (T 0 16)) (T 0 6))) 15 10 (fd T)) 15 11 b) := fun b => ⟨rfl, rfl, rfl, rfl, rfl, rfl⟩
    by_cases q : T 0 15 = 0
    · refine ⟨_, fun K k => start K ?_, fr (jmax (fd T + 1) p3), fin (jmax (fd T + 1) p3) ⟨fun w => absurd q w.2.1, fun _ => by rw [hp3]⟩, Int.le_refl _, fun n => absurd q n, Or.inl rfl⟩
      rw [if_pos q]; exact k
    · by_cases u : us (wd T) (T 0 15)
      · refine ⟨_, fun K k => start K ?_, fr (jmax (jmax (fd T + 1) p3) (T 0 14)), fin _ ⟨fun _ => by rw [hp3], fun n => absurd ⟨fun z => q (h13 z), q, u⟩ n⟩, ?_, fun _ _ => ?_, ?_⟩
        · rw [if_neg q]
          refine uses1 _ (dec' _) u _ (ie (by decide) ?_)
          intro S16 e16
          have e16' : S16 = st (st (st (dcd S (T 0 6) c (wd T)) 15 9 (gs (ctS S (T 0 16)) (T 0 6))) 15 10 (fd T)) 15 11 (jmax (jmax (fd T + 1) p3) (T 0 14)) := by
            rw [e16]
            show st _ 15 11 (jmax (jmax (fd T + 1) p3) (S 0 11)) = _
            rw [h11]
            exact st_st _ _ _ _ _
          rw [e16']
          exact k
        · exact (jmax_int _ _).1
        · exact (jmax_int _ _).2.1
        · exact (jmax_int _ _).2.2
      · refine ⟨_, fun K k => start K ?_, fr (jmax (fd T + 1) p3), fin (jmax (fd T + 1) p3) ⟨fun w => absurd w.2.2 u, fun _ => by rw [hp3]⟩, Int.le_refl _, fun _ n => absurd n u, Or.inl rfl⟩
        rw [if_neg q]
        exact uses0 _ (dec' _) u _ (it rfl k)
  by_cases ci : icd T
  · obtain ⟨S', k1, k2⟩ := key 1 isB_1 (Or.inl ⟨rfl, ci⟩)
    refine ⟨S', fun K k => ?_, k2⟩
    unfold wp_K_expect
    refine it hal (ie ci.1 (ie ci.2 ?_))
    unfold wp_K_expect_22
    refine ie (by decide) ?_
    obtain ⟨x1, x2⟩ := ic_ix ci.1 ci.2
    rw [x1]
    refine ⟨x2, ?_⟩
    have ew : S 1 (T 0 6 / 4).toNatClampNeg = wd T := by
      unfold wd
      rw [if_neg ci.1, if_neg ci.2, h1]
    rw [ew]
    exact k1 K k
  · obtain ⟨S', k1, k2⟩ := key 0 isB_0 (Or.inr ⟨rfl, ci⟩)
    refine ⟨S', fun K k => ?_, k2⟩
    have ew : wd T = 0 := by
      unfold wd
      by_cases c1 : T 0 6 < 0
      · rw [if_pos c1]
      · rw [if_neg c1]
        by_cases c2 : (512 : Int32) ≤ T 0 6
        · rw [if_pos c2]
        · exact absurd ⟨c1, c2⟩ ci
    have go : wp_K_expect_21 K S (T 0 6) (T 0 16) p3 := by
      unfold wp_K_expect_21 wp_K_expect_22
      refine it rfl ?_
      have := k1 K k
      rw [ew] at this
      exact this
    unfold wp_K_expect
    refine it hal ?_
    by_cases c1 : T 0 6 < 0
    · exact it c1 go
    · refine ie c1 ?_
      by_cases c2 : (512 : Int32) ≤ T 0 6
      · exact it c2 go
      · exact absurd ⟨c1, c2⟩ ci
