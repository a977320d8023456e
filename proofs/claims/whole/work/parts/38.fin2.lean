/-! setTimes beside finish -/
def FIN2 (n : Nat) (op m r cell : Int32) (T T' : St) : Prop :=
  (∀ i, i ≠ 0 → i ≠ 2 → i ≠ 3 → (i < 7 ∨ 17 < i) → T' i = T i) ∧ (∀ k, k ≠ 12 → k ≠ 13 → k ≠ 14 → k ≠ 15 → k ≠ 17 → T' 0 k = T 0 k) ∧ (∀ x, 7 ≤ x → x ≤ 15 → ∀ i, i < n → T' x i = T x i) ∧
  T' 7 n = T 0 6 ∧ T' 9 n = m ∧ T' 10 n = m + 1 + r ∧ T' 11 n = T 0 48 ∧ T' 12 n = T 0 49 ∧ T' 13 n = cell ∧ T' 14 n = T 0 52 ∧ T' 15 n = farF r ∧
  T' 2 = (if T 0 48 = 0 then T 2 else upd (T 2) (T 0 48).toNatClampNeg (T 0 49)) ∧ T' 3 = (if T 0 51 = 0 then T 3 else upd (T 3) cell.toNatClampNeg (T 0 52)) ∧
  T' 0 12 = m ∧ T' 0 13 = 1 ∧ T' 0 14 = m + 1 + r ∧ T' 0 15 = (if op = 3 then T 0 48 else 0) ∧ T' 0 17 = nI (n + 1)
theorem FIN2_of {n : Nat} {e op m r cell : Int32} {T T1 T' : St} (h1 : ∀ i, i ≠ 16 → i ≠ 17 → T1 i = T i) (h : FIN n e op m r cell T1 T') : FIN2 n op m r cell T T' := by
  obtain ⟨a1, a2, a3, a4, a5, a6, a7, a8, a9, a10, a11, a12, a13, a14, a15, a16, a17, a18⟩ := h
  have z0 := h1 0 (by decide) (by decide)
  have z2 := h1 2 (by decide) (by decide)
  have z3 := h1 3 (by decide) (by decide)
  rw [z0, z2] at a12
  rw [z0, z3] at a13
  rw [z0] at a4 a7 a8 a10 a17
  refine ⟨fun i i0 i2 i3 hi => ?_, fun k k1 k2 k3 k4 k5 => ?_, fun x x1 x2 i hi => ?_, a4, a5, a6, a7, a8, a9, a10, a11, a12, a13, a14, a15, a16, a17, a18⟩
  · rw [a1 i i0 i2 i3 (by omega)]; exact h1 i (by omega) (by omega)
  · rw [a2 k k1 k2 k3 k4 k5, z0]
  · rw [a3 x x1 x2 i hi, h1 x (by omega) (by omega)]
/-- what the class sets -/
def SET (m r : Int32) (S S' : St) : Prop :=
  (∀ i, i ≠ 0 → i ≠ 6 → i ≠ 7 → i ≠ 16 → S' i = S i) ∧ (∀ k, k ≠ 11 → k ≠ 12 → S' 0 k = S 0 k) ∧ S' 0 11 = m + 1 + r ∧ S' 0 12 = (if S 16 8 = 1 then S 16 6 else 0) ∧ (∀ k, k ≠ 0 → k ≠ 3 → k ≠ 4 → k ≠ 5 → S' 16 k = S 16 k) ∧ S' 16 0 = 1 ∧ S' 16 3 = m ∧ S' 16 4 = m + 1 + r ∧ S' 16 5 = farF r
theorem SET_of {m r : Int32} {S S1 : St} (h1 : ∀ i, i ≠ 6 → i ≠ 7 → S1 i = S i) (hm : m = jmax (S 0 10 + S 16 2) (S 0 11)) : SET m r S (setS S1 r) := by
  have z0 := h1 0 (by decide) (by decide)
  have z16 := h1 16 (by decide) (by decide)
  unfold setS
  rw [z0, z16, ← hm]
  refine ⟨fun i i0 i6 i7 i16 => ?_, fun k k1 k2 => ?_, rfl, rfl, fun k k0 k3 k4 k5 => ?_, rfl, rfl, rfl, rfl⟩
  · rw [st_ne i0, st_ne i0, st_ne i16, st_ne i16, st_ne i16, st_ne i16]; exact h1 i i6 i7
  · rw [st_eq, upd_n k2, st_eq, upd_n k1]
    show S1 0 k = S 0 k
    rw [z0]
  · rw [st_ne (by decide), st_ne (by decide), st_eq, upd_n k0, st_eq, upd_n k4, st_eq, upd_n k3, st_eq, upd_n k5, z16]
def ACC (S T : St) : Prop := (S 16 8 = 0 ∧ T 0 50 = -1 ∧ T 0 51 = 0) ∨ (S 16 8 = 1 ∧ T 0 50 = S 16 9 ∧ inD (S 16 9) ∧ T 0 51 = 0) ∨ (S 16 8 = 2 ∧ T 0 50 = S 16 9 ∧ inD (S 16 9) ∧ T 0 51 = 1)
theorem fin87 {T : St} {e m : Int32} (heff : m = jmax (e + effF (wOp (T 0 44)) (wG (T 0 44)) (wF (T 0 44))) (T 0 14)) (h13 : T 0 13 = 0 → T 0 14 = 0) (hp : 0 < (e + effF (wOp (T 0 44)) (wG (T 0 44)) (wF (T 0 44))).toInt) {K : St → Prop} (k : wp_M_finish_87 K T e (wOp (T 0 44)) m) : wp_M_finish T e K := by
  have g59 : ∀ y, y = effF (wOp (T 0 44)) (wG (T 0 44)) (wF (T 0 44)) → wp_M_finish_59 K T e (wOp (T 0 44)) y e := by
    intro y hy
    unfold wp_M_finish_59 wp_M_finish_85
    intro x ex
    rw [hy] at ex
    rw [← ex] at heff hp
    rw [jmax_eq] at heff
    by_cases c : T 0 13 = 0
    · refine it c ?_
      have z := h13 c
      rw [z, if_pos (i_le.mpr (by rw [zero_int]; omega))] at heff
      rw [← heff]; exact k
    · refine ie c ?_
      by_cases d : T 0 14 ≤ x
      · refine it d ?_
        rw [if_pos d] at heff
        rw [← heff]; exact k
      · refine ie d ?_
        rw [if_neg d] at heff
        rw [← heff]; exact k
  unfold wp_M_finish
  refine e_op T _ ?_
  refine e_f T _ ?_
  have g36 : ¬ (wOp (T 0 44) = 51 ∧ wG (T 0 44) = 1) → wp_M_finish_36 K T e (wOp (T 0 44)) (wF (T 0 44)) 0 := by
    intro hn
    unfold wp_M_finish_36
    refine it rfl (g59 1 ?_)
    unfold effF; rw [if_neg hn]
  by_cases c : wOp (T 0 44) = 51
  · refine it c ?_
    refine e_g T _ ?_
    by_cases d : wG (T 0 44) = 1
    · refine it d ?_
      unfold wp_M_finish_36
      refine ie (by decide) ?_
      by_cases f : (4 : Int32) ≤ wF (T 0 44)
      · refine it f (g59 33 ?_)
        unfold effF; rw [if_pos ⟨c, d⟩, if_pos f]
      · refine ie f (g59 4 ?_)
        unfold effF; rw [if_pos ⟨c, d⟩, if_neg f]
    · refine ie d ?_
      exact g36 (fun q => d q.2)
  · refine ie c ?_
    exact g36 (fun q => c q.1)
theorem fin_ev {S T : St} {n : Nat} {e : Int32} (ha : ACC S T) (hCA : CA S T) (hn : T 0 17 = nI n) (hn2 : n < 160) (hrd : vp_in (T 0 48) 32) (h13 : T 0 13 = 0 → T 0 14 = 0) (h14 : S 0 11 = T 0 14) (he : S 0 10 = e) (heff : S 16 2 = effF (wOp (T 0 44)) (wG (T 0 44)) (wF (T 0 44))) (hp : 0 < (e + S 16 2).toInt) :
    ∃ r S' T', evV (wp_K_setTimes S) S' ∧ evV (wp_M_finish T e) T' ∧ CA S' T' ∧ SET (jmax (e + S 16 2) (S 0 11)) r S S' ∧ FIN2 n (wOp (T 0 44)) (jmax (e + S 16 2) (S 0 11)) r (if T 0 51 = 0 then -1 else dI (S 16 9)) T T' ∧ (r = 0 ∨ r = 4 * T 0 0 ∨ r = 8 * T 0 0) := by
  have hm : jmax (e + S 16 2) (S 0 11) = jmax (e + effF (wOp (T 0 44)) (wG (T 0 44)) (wF (T 0 44))) (T 0 14) := by rw [heff, h14]
  have hmK : jmax (e + S 16 2) (S 0 11) = jmax (S 0 10 + S 16 2) (S 0 11) := by rw [he]
  rw [heff] at hp
  generalize hmm : jmax (e + S 16 2) (S 0 11) = m at *
  have ca_set : ∀ (S1 S' T1 T' : St) (r cell : Int32), CA S1 T1 → S1 5 = S 5 → SET m r S S' → (∀ i, i ≠ 6 → i ≠ 7 → S1 i = S i) → S' 6 = S1 6 → S' 7 = S1 7 → (∀ i, i ≠ 0 → i ≠ 2 → i ≠ 3 → (i < 7 ∨ 15 < i) → T' i = T1 i) → T' 0 0 = T1 0 0 → CA S' T' := by
    intro S1 S' T1 T' r cell hc h5 hs _ h6 h7 ht h00
    obtain ⟨c1, c2⟩ := hc
    refine ⟨?_, ?_⟩
    · rw [hs.1 5 (by decide) (by decide) (by decide) (by decide), ← h5, h00]; exact c1
    · rw [h6, h7, ht 16 (by decide) (by decide) (by decide) (by omega), ht 17 (by decide) (by decide) (by decide) (by omega)]; exact c2
  rcases ha with ⟨a8, a50, a51⟩ | ⟨a8, a50, aD, a51⟩ | ⟨a8, a50, aD, a51⟩
  · obtain ⟨T', ev, hF⟩ := fin104_ev (T := T) hn hn2 e (wOp (T 0 44)) m 0 hrd (Or.inl a51) (fun q => by rw [a51] at q; exact absurd q (by decide))
    have hs : SET m 0 S (setS S 0) := SET_of (fun _ _ _ => rfl) hmK
    refine ⟨0, setS S 0, T', fun K k => ?_, fun K k => ?_, ?_, hs, ?_, Or.inl rfl⟩
    · unfold wp_K_setTimes
      exact it a8 (set34_ev S 0 K k)
    · refine fin87 hm h13 hp ?_
      unfold wp_M_finish_87
      refine it (by rw [a50]; decide) ?_
      exact ev K k
    · exact ca_set S _ T T' 0 (-1) hCA rfl hs (fun _ _ _ => rfl) rfl rfl hF.1 (hF.2.1 0 (by decide) (by decide) (by decide) (by decide) (by decide))
    · have := FIN2_of (T := T) (fun _ _ _ => rfl) hF
      rw [a51, if_pos rfl] at this ⊢
      exact this
  all_goals
    first
    | (have hB : isB (T 0 51) := Or.inl a51
       obtain ⟨r, S1, T1, v1, v2, hc1, hS1, hT1, hr⟩ := visit_ev (w := 0) hCA aD a50 a51 isB_0
       have z0 := hT1 0 (by decide) (by decide)
       obtain ⟨T', ev, hF⟩ := fin104_ev (T := T1) (n := n) (by rw [z0]; exact hn) hn2 e (wOp (T 0 44)) m r (by rw [z0]; exact hrd) (by rw [z0]; exact hB) (fun q => by rw [z0, a50, dI_eq aD]; exact dI_in aD)
       have hs : SET m r S (setS S1 r) := SET_of hS1 hmK
       refine ⟨r, setS S1 r, T', fun K k => ?_, fun K k => ?_, ?_, hs, ?_, hr⟩
       · unfold wp_K_setTimes wp_K_setTimes_30
         refine ie (by rw [a8]; decide) (ie (by rw [a8]; decide) ?_)
         refine v1 _ ?_
         exact set34_ev S1 r K k
       · refine fin87 hm h13 hp ?_
         unfold wp_M_finish_87
         refine ie (by rw [a50]; exact inD_nn aD) ?_
         refine v2 _ ?_
         exact ev K k
       · exact ca_set S1 _ T1 T' r (-1) hc1 (hS1 5 (by decide) (by decide)) hs hS1 rfl rfl hF.1 (hF.2.1 0 (by decide) (by decide) (by decide) (by decide) (by decide))
       · have := FIN2_of hT1 hF
         rw [z0, a50, dI_eq aD] at this
         exact this)
    | (have hB : isB (T 0 51) := Or.inr a51
       obtain ⟨r, S1, T1, v1, v2, hc1, hS1, hT1, hr⟩ := visit_ev (w := 1) hCA aD a50 a51 isB_1
       have z0 := hT1 0 (by decide) (by decide)
       obtain ⟨T', ev, hF⟩ := fin104_ev (T := T1) (n := n) (by rw [z0]; exact hn) hn2 e (wOp (T 0 44)) m r (by rw [z0]; exact hrd) (by rw [z0]; exact hB) (fun q => by rw [z0, a50, dI_eq aD]; exact dI_in aD)
       have hs : SET m r S (setS S1 r) := SET_of hS1 hmK
       refine ⟨r, setS S1 r, T', fun K k => ?_, fun K k => ?_, ?_, hs, ?_, hr⟩
       · unfold wp_K_setTimes wp_K_setTimes_30
         refine ie (by rw [a8]; decide) (it a8 ?_)
         refine v1 _ ?_
         exact set34_ev S1 r K k
       · refine fin87 hm h13 hp ?_
         unfold wp_M_finish_87
         refine ie (by rw [a50]; exact inD_nn aD) ?_
         refine v2 _ ?_
         exact ev K k
       · exact ca_set S1 _ T1 T' r (-1) hc1 (hS1 5 (by decide) (by decide)) hs hS1 rfl rfl hF.1 (hF.2.1 0 (by decide) (by decide) (by decide) (by decide) (by decide))
       · have := FIN2_of hT1 hF
         rw [z0, a50, dI_eq aD] at this
         exact this)
