/-! the two ways of holding earlier entries -/
theorem i_lt {x y : Int32} : x < y ↔ x.toInt < y.toInt := Int32.lt_iff_toInt_lt
theorem i_le {x y : Int32} : x ≤ y ↔ x.toInt ≤ y.toInt := Int32.le_iff_toInt_le
theorem i_eq {x y : Int32} : x = y ↔ x.toInt = y.toInt := Int32.toInt_inj.symm
def mf (T : St) (t : Int32) : Nat → Nat → Nat → Int32
  | 0 => mtb T 0
  | i + 1 => if T 24 i < t then lrn (mf T t i) (T 21 i) (T 22 i) (T 23 i) else mf T t i
def FO (n : Nat) (S T : St) : Prop :=
  T 0 32 = nI n ∧ n ≤ 3 ∧ eqv (ctb S 0) (mtb T 4) ∧ (∀ t, T 0 16 ≤ t → eqv (ctS S t) (mf T t n)) ∧ okTb (ctb S 0) ∧ okTb (ctb S 1) ∧ okTb (ctb S 2) ∧ (∀ i, i < n → isB (T 23 i)) ∧ (∀ i, i + 1 < n → T 24 i < T 24 (i + 1)) ∧ (∀ i, i < n → T 24 i ≤ T 0 11) ∧ (∃ pe : Int32, pe ≤ T 0 16 ∧ ∀ i, i < n → T 24 i = T 0 11 ∨ T 24 i ≤ pe) ∧ (S 11 1 < S 11 0 ∨ (S 11 0 = 0 ∧ S 11 1 = 0)) ∧ S 11 0 ≤ T 0 11 ∧ 0 < T 0 16
theorem ctS_ok {S : St} (h0 : okTb (ctb S 0)) (h1 : okTb (ctb S 1)) (h2 : okTb (ctb S 2)) (t : Int32) : okTb (ctS S t) := by
  unfold ctS
  split
  · split
    · exact h0
    · exact h1
  · exact h2
def FI (T : St) (k left : Nat) (U : St) : Prop :=
  (∀ i, i < 18 ∨ 24 < i → U i = T i) ∧ (∀ r, 21 ≤ r → r ≤ 24 → ∀ i, k ≤ i → U r i = T r i) ∧ (∀ r, 21 ≤ r → r ≤ 24 → ∀ i, i < left → U r i = T r (k - left + i)) ∧ eqv (mtb U 0) (mf T (T 0 16) k) ∧ (∀ f, f < 3 → ∀ e, e < 4 → U (18 + f) (4 + e) = T (18 + f) (4 + e)) ∧ (∀ i, i < k - left → T 24 i < T 0 16) ∧ (∀ i, k - left ≤ i → i < k → ¬ T 24 i < T 0 16)
theorem fe_loop {T : St} {n : Nat} (hn : T 0 32 = nI n) (hn3 : n ≤ 3) (hB : ∀ i, i < n → isB (T 23 i)) (hs : ∀ i, i + 1 < n → T 24 i < T 24 (i + 1)) (ho : okTb (mf T (T 0 16) n)) : ∀ (d k left : Nat) (U : St), k + d = n → left ≤ k → FI T k left U → ∃ left' U', left' ≤ n ∧ FI T n left' U' ∧ ∀ K : Int32 → St → Prop, K (gs (mtb U' 0) (T 0 6)) (st U' 0 32 (nI left')) → wp_M_fetched_4 K (d + 1) U (nI left) (nI k) := by
  intro d
  induction d with
  | zero =>
    intro k left U hk hl hI
    have hk' : k = n := by omega
    subst hk'
    refine ⟨left, U, hl, hI, fun K q => ?_⟩
    obtain ⟨f1, f2, f3, f4, f5, f6, f7⟩ := hI
    have u0 : U 0 = T 0 := f1 0 (by omega)
    rw [wp_M_fetched_4]
    refine it (by rw [u0, hn]; exact nI_le (Nat.le_refl _) (by omega)) ?_
    intro S2 e2
    subst e2
    have p6 : (st U 0 32 (nI left)) 0 6 = T 0 6 := by
      show U 0 6 = T 0 6
      rw [u0]
    rw [p6]
    have hm : mtb (st U 0 32 (nI left)) 0 = mtb U 0 := by
      funext f e
      unfold mtb
      rw [st_ne (by omega)]
    refine guess_ev _ (ix0 _) (by rw [hm]; exact okTb_eqv ho (eqv_sy f4)) _ ?_
    rw [hm]
    exact q
  | succ d ih =>
    intro k left U hk hl hI
    have hkn : k < n := by omega
    obtain ⟨f1, f2, f3, f4, f5, f6, f7⟩ := id hI
    have u0 : U 0 = T 0 := f1 0 (by omega)
    have kk : (nI k).toNatClampNeg = k := nI_clamp (by omega)
    have ll : (nI left).toNatClampNeg = left := nI_clamp (by omega)
    have ik : vp_in (nI k) 160 := vp_in_nI (by omega) (by decide)
    have il : vp_in (nI left) 160 := vp_in_nI (by omega) (by decide)
    have t24 : U 24 k = T 24 k := f2 24 (by omega) (by omega) k (Nat.le_refl _)
    by_cases c : T 24 k < T 0 16
    · -- it began before: learned
      have hl0 : left = 0 := by
        rcases Nat.eq_zero_or_pos left with h | h
        · exact h
        · exfalso
          have h1 := f7 (k - 1) (by omega) (by omega)
          have h2 := hs (k - 1) (by omega)
          rw [show k - 1 + 1 = k by omega] at h2
          rw [i_lt] at h1 h2 c
          omega
      subst hl0
      obtain ⟨U1, g1, g2, g3, g4⟩ := learn_ev U (b := 0) (bN := 0) (a := U 21 k) (w := U 22 k) (j := U 23 k) (ix0 _)
      have r21 : U 21 k = T 21 k := f2 21 (by omega) (by omega) k (Nat.le_refl _)
      have r22 : U 22 k = T 22 k := f2 22 (by omega) (by omega) k (Nat.le_refl _)
      have r23 : U 23 k = T 23 k := f2 23 (by omega) (by omega) k (Nat.le_refl _)
      have hI1 : FI T (k + 1) 0 U1 := by
        refine ⟨fun i hi => ?_, fun r h1 h2 i hi => ?_, fun r _ _ i hi => absurd hi (by omega), ?_, fun f hf e he => ?_, fun i hi => ?_, fun i h1 h2 => absurd h1 (by omega)⟩
        · rw [g3 i (by omega) (by omega) (by omega)]; exact f1 i hi
        · rw [g3 r (by omega) (by omega) (by omega)]; exact f2 r h1 h2 i (by omega)
        · refine eqv_tr g2 ?_
          show eqv _ (if T 24 k < T 0 16 then lrn (mf T (T 0 16) k) (T 21 k) (T 22 k) (T 23 k) else mf T (T 0 16) k)
          rw [if_pos c, r21, r22, r23]
          exact lrn_eqv f4 _ _ _
        · rw [g4 f hf (4 + e) (by have := eN_lt (U 21 k); omega)]; exact f5 f hf e he
        · by_cases q : i = k
          · rw [q]; exact c
          · exact f6 i (by omega)
      obtain ⟨l', U', h1, h2, h3⟩ := ih (k + 1) 0 U1 (by omega) (by omega) hI1
      refine ⟨l', U', h1, h2, fun K q => ?_⟩
      rw [wp_M_fetched_4]
      refine ie (by rw [u0, hn]; exact nI_ge hkn (by omega)) ⟨ik, ?_⟩
      rw [kk]
      refine ie (by rw [u0, t24]; exact Int32.not_le.mpr c) ⟨ik, ik, ik, ?_⟩
      unfold wp_M_fetched_102
      refine g1 _ ?_
      rw [nI_1]
      exact h3 K q
    · -- it is kept
      have b23 : vp_nar .boolean (U 23 k) = U 23 k := by
        have r23 : U 23 k = T 23 k := f2 23 (by omega) (by omega) k (Nat.le_refl _)
        rw [r23]
        rcases hB k hkn with e | e <;> rw [e]
        · exact nar0
        · exact nar1
      have hI1 : FI T (k + 1) (left + 1) (st (st (st (st U 21 left (U 21 k)) 22 left (U 22 k)) 23 left (U 23 k)) 24 left (U 24 k)) := by
        have row : ∀ r, 21 ≤ r → r ≤ 24 → (st (st (st (st U 21 left (U 21 k)) 22 left (U 22 k)) 23 left (U 23 k)) 24 left (U 24 k)) r = upd (U r) left (U r k) := by
          intro r h1 h2
          have : r = 21 ∨ r = 22 ∨ r = 23 ∨ r = 24 := by omega
          rcases this with rfl | rfl | rfl | rfl <;> rfl
        have oth : ∀ r, r < 21 ∨ 24 < r → (st (st (st (st U 21 left (U 21 k)) 22 left (U 22 k)) 23 left (U 23 k)) 24 left (U 24 k)) r = U r := by
          intro r h
          rw [st_ne (by omega), st_ne (by omega), st_ne (by omega), st_ne (by omega)]
        refine ⟨fun i hi => ?_, fun r h1 h2 i hi => ?_, fun r h1 h2 i hi => ?_, ?_, fun f hf e he => ?_, fun i hi => f6 i (by omega), fun i h1 h2 => ?_⟩
        · rw [oth i (by omega)]; exact f1 i hi
        · rw [row r h1 h2, upd_n (by omega)]; exact f2 r h1 h2 i (by omega)
        · rw [row r h1 h2]
          by_cases q : i = left
          · subst q
            rw [upd_s, f2 r h1 h2 k (Nat.le_refl _)]
            congr 1
            omega
          · rw [upd_n q, f3 r h1 h2 i (by omega)]
            congr 1
            omega
        · show eqv _ (if T 24 k < T 0 16 then lrn (mf T (T 0 16) k) (T 21 k) (T 22 k) (T 23 k) else mf T (T 0 16) k)
          rw [if_neg c]
          intro f hf e he
          show (st (st (st (st U 21 left (U 21 k)) 22 left (U 22 k)) 23 left (U 23 k)) 24 left (U 24 k)) (18 + f) (0 + e) = _
          rw [oth (18 + f) (by omega)]
          exact f4 f hf e he
        · rw [oth (18 + f) (by omega)]; exact f5 f hf e he
        · by_cases q : i = k
          · rw [q]; exact c
          · exact f7 i (by omega) (by omega)
      obtain ⟨l', U', h1, h2, h3⟩ := ih (k + 1) (left + 1) _ (by omega) (by omega) hI1
      refine ⟨l', U', h1, h2, fun K q => ?_⟩
      rw [wp_M_fetched_4]
      refine ie (by rw [u0, hn]; exact nI_ge hkn (by omega)) ⟨ik, ?_⟩
      rw [kk]
      refine it (by rw [u0, t24]; exact Int32.not_lt.mp c) ?_
      rw [ll]
      refine ⟨ik, il, fun S6 e6 => ⟨ik, il, fun S7 e7 => ⟨ik, il, fun S8 e8 => ⟨ik, il, fun S9 e9 => ?_⟩⟩⟩⟩
      subst e6 e7 e8 e9
      unfold wp_M_fetched_102
      rw [nI_1, nI_1]
      have := h3 K q
      show wp_M_fetched_4 K (d + 1) (st (st (st (st U 21 left (U 21 k)) 22 left (U 22 k)) 23 left (vp_nar .boolean (U 23 k))) 24 left (U 24 k)) _ _
      rw [b23]
      exact this
theorem mf_all {T : St} {t t2 : Int32} {m : Nat} (h : ∀ i, i < m → T 24 i < t) (h2 : ∀ i, i < m → T 24 i < t2) : mf T t m = mf T t2 m := by
  induction m with
  | zero => rfl
  | succ m ih =>
    show (if T 24 m < t then lrn (mf T t m) (T 21 m) (T 22 m) (T 23 m) else mf T t m) = (if T 24 m < t2 then lrn (mf T t2 m) (T 21 m) (T 22 m) (T 23 m) else mf T t2 m)
    rw [if_pos (h m (by omega)), if_pos (h2 m (by omega)), ih (fun i hi => h i (by omega)) (fun i hi => h2 i (by omega))]
theorem mf_none {T : St} {t : Int32} {m : Nat} : ∀ d, (∀ i, m ≤ i → i < m + d → ¬ T 24 i < t) → mf T t (m + d) = mf T t m := by
  intro d
  induction d with
  | zero => intro _; rfl
  | succ d ih =>
    intro h
    show (if T 24 (m + d) < t then lrn (mf T t (m + d)) (T 21 (m + d)) (T 22 (m + d)) (T 23 (m + d)) else mf T t (m + d)) = _
    rw [if_neg (h (m + d) (by omega) (by omega)), ih (fun i h1 h2 => h i h1 (by omega))]
theorem fetched_ev {n : Nat} {S T : St} (h : FO n S T) : ∃ T1 n1, evI (wp_M_fetched T) (gs (ctS S (T 0 16)) (T 0 6)) T1 ∧ FO n1 S T1 ∧ n1 ≤ 2 ∧ (∀ i, i ≠ 0 → (i < 18 ∨ 24 < i) → T1 i = T i) ∧ (∀ k, k ≠ 32 → T1 0 k = T 0 k) := by
  obtain ⟨hn, hn3, hc, ht, o0, o1, o2, hB, hs, hle, ⟨pe, hpe, hpe2⟩, hch, hc0, hF⟩ := h
  have hF0 : T 0 16 ≤ T 0 16 := by rw [i_le]; omega
  have hok := okTb_eqv (ctS_ok o0 o1 o2 (T 0 16)) (ht _ hF0)
  obtain ⟨left, U, h1, hI, h3⟩ := fe_loop hn hn3 hB hs hok n 0 0 T (by omega) (by omega) ⟨fun _ _ => rfl, fun _ _ _ _ _ => rfl, fun _ _ _ i hi => absurd hi (by omega), eqv_rf _, fun _ _ _ _ => rfl, fun i hi => absurd hi (by omega), fun i _ h2 => absurd h2 (by omega)⟩
  obtain ⟨f1, f2, f3, f4, f5, f6, f7⟩ := hI
  have u0 : U 0 = T 0 := f1 0 (by omega)
  have v0 : ∀ k, k ≠ 32 → (st U 0 32 (nI left)) 0 k = T 0 k := fun k hk => by rw [st_eq, upd_n hk, u0]
  have vr : ∀ i, i ≠ 0 → (st U 0 32 (nI left)) i = U i := fun i hi => st_ne hi
  refine ⟨st U 0 32 (nI left), left, fun K k => ?_, ?_, ?_, fun i hi h => by rw [vr i hi]; exact f1 i h, v0⟩
  · unfold wp_M_fetched
    refine ⟨n + 1, ?_⟩
    have := h3 K (by rw [gs_eqv f4, ← gs_eqv (ht _ hF0)]; exact k)
    rw [nI_0] at this
    exact this
  · have ent : ∀ r, 21 ≤ r → r ≤ 24 → ∀ i, i < left → (st U 0 32 (nI left)) r i = T r (n - left + i) := by
      intro r h1 h2 i hi
      rw [vr r (by omega)]; exact f3 r h1 h2 i hi
    have hb0 : eqv (mtb (st U 0 32 (nI left)) 0) (mf T (T 0 16) n) := by
      intro f hf e he
      show (st U 0 32 (nI left)) (18 + f) (0 + e) = _
      rw [vr (18 + f) (by omega)]
      exact f4 f hf e he
    refine ⟨by rw [st_eq, upd_s], by omega, ?_, ?_, o0, o1, o2, ?_, ?_, ?_, ⟨pe, ?_, ?_⟩, hch, ?_, ?_⟩
    · intro f hf e he
      rw [hc f hf e he]
      show T (18 + f) (4 + e) = (st U 0 32 (nI left)) (18 + f) (4 + e)
      rw [vr (18 + f) (by omega)]
      exact (f5 f hf e he).symm
    · intro t htt
      rw [v0 16 (by decide)] at htt
      refine eqv_tr (ht t htt) ?_
      -- the first n - left are learned already
      have e1 : mf T t (n - left) = mf T (T 0 16) (n - left) := mf_all (fun i hi => by
        have := f6 i hi
        rw [i_lt] at this ⊢
        rw [i_le] at htt
        omega) f6
      have e2 : mf T (T 0 16) n = mf T (T 0 16) (n - left) := by
        have := mf_none (T := T) (t := T 0 16) (m := n - left) left (fun i h1 h2 => f7 i h1 (by omega))
        rw [show n - left + left = n by omega] at this
        exact this
      have key : ∀ i, i ≤ left → eqv (mf T t (n - left + i)) (mf (st U 0 32 (nI left)) t i) := by
        intro i
        induction i with
        | zero =>
          intro _
          show eqv (mf T t (n - left)) (mtb (st U 0 32 (nI left)) 0)
          rw [e1, ← e2]
          exact eqv_sy hb0
        | succ i ih =>
          intro hi
          show eqv (if T 24 (n - left + i) < t then lrn (mf T t (n - left + i)) (T 21 (n - left + i)) (T 22 (n - left + i)) (T 23 (n - left + i)) else mf T t (n - left + i)) (if (st U 0 32 (nI left)) 24 i < t then lrn (mf (st U 0 32 (nI left)) t i) ((st U 0 32 (nI left)) 21 i) ((st U 0 32 (nI left)) 22 i) ((st U 0 32 (nI left)) 23 i) else mf (st U 0 32 (nI left)) t i)
          rw [ent 24 (by omega) (by omega) i (by omega), ent 21 (by omega) (by omega) i (by omega), ent 22 (by omega) (by omega) i (by omega), ent 23 (by omega) (by omega) i (by omega)]
          by_cases c : T 24 (n - left + i) < t
          · rw [if_pos c, if_pos c]
            exact lrn_eqv (ih (by omega)) _ _ _
          · rw [if_neg c, if_neg c]
            exact ih (by omega)
      have := key left (Nat.le_refl _)
      rw [show n - left + left = n by omega] at this
      exact this
    · intro i hi
      rw [ent 23 (by omega) (by omega) i hi]; exact hB _ (by omega)
    · intro i hi
      rw [ent 24 (by omega) (by omega) i (by omega), ent 24 (by omega) (by omega) (i + 1) hi]
      exact hs _ (by omega)
    · intro i hi
      rw [ent 24 (by omega) (by omega) i hi, v0 11 (by decide)]; exact hle _ (by omega)
    · rw [v0 16 (by decide)]; exact hpe
    · intro i hi
      rw [ent 24 (by omega) (by omega) i hi, v0 11 (by decide)]; exact hpe2 _ (by omega)
    · rw [v0 11 (by decide)]; exact hc0
    · rw [v0 16 (by decide)]; exact hF
  · -- at most two are kept
    rcases Nat.lt_or_ge 2 left with q | q
    · exfalso
      have hl3 : left = 3 := by omega
      have hn' : n = 3 := by omega
      subst hl3
      subst hn'
      have a0 := f7 0 (by omega) (by omega)
      have a1 := f7 1 (by omega) (by omega)
      have s0 : T 24 0 < T 24 1 := hs 0 (by omega)
      have s1 : T 24 1 < T 24 2 := hs 1 (by omega)
      have b0 := hpe2 0 (by omega)
      have b1 := hpe2 1 (by omega)
      have c2 := hle 2 (by omega)
      simp only [i_lt, i_le, i_eq] at a0 a1 s0 s1 b0 b1 c2 hpe
      omega
    · exact q
