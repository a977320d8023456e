/-! one begins -/
theorem trap_both {N : Nat × Nat} {c j n nl n1 : Nat} {S T T2 S26 T15 : St} {r27 fo d : Int32} (h : PRE N c j n nl S T) (hF : FO n1 S T2) (sr : ∀ i, i ≠ 0 → i ≠ 3 → i ≠ 16 → S26 i = S i) (s0 : ∀ k, k ≠ 14 → k ≠ 15 → S26 0 k = S 0 k) (s16 : S26 16 0 = 0) (s3 : S26 3 = T15 4) (hok : okC (T15 4)) (tr : ∀ i, i ≠ 0 → i ≠ 4 → (i < 18 ∨ 24 < i) → T15 i = T i) (tr2 : ∀ i, 18 ≤ i → i ≤ 24 → T15 i = T2 i) (t0 : ∀ k, k < 41 → k ≠ 32 → T15 0 k = T 0 k) (t32 : T15 0 32 = T2 0 32) (h211 : T2 0 11 = T 0 11) (h216 : T2 0 16 = T 0 16) (e14 : S26 0 14 = T15 0 41) (e15 : S26 0 15 = T15 0 42) (e43 : T15 0 43 = T 0 43) (hal : T15 0 47 &&& 3 = 0) (hr : r27 = T15 0 47) :
    ∃ S' T', evV (fun K => wp_K_expect S26 r27 (S26 0 10 + 1) (S26 0 10 + 1) (fun S28 => K S28)) S' ∧ evV (fun K => wp_M_perform_234 K T15 (nI c) fo d) T' ∧ RR N c j n n1 S' T' := by
  have h0 := h
  obtain ⟨⟨a10, ac, _⟩, _, _, ⟨t1, t2, t3, t4, _⟩, _⟩ := h0
  have i1 : (nI c + 1).toInt = c + 1 := by rw [nI_1, nI_toInt (by omega)]; omega
  have ic : (nI c).toInt = c := nI_toInt (by omega)
  let T' := st (st (st (st (st T15 0 16 (nI c + 1)) 0 9 1) 0 10 0) 0 11 (nI c)) 0 6 (T15 0 47)
  have zr : ∀ i, i ≠ 0 → T' i = T15 i := fun i hi => by
    show (st (st (st (st (st T15 0 16 (nI c + 1)) 0 9 1) 0 10 0) 0 11 (nI c)) 0 6 (T15 0 47)) i = T15 i
    rw [st_ne hi, st_ne hi, st_ne hi, st_ne hi, st_ne hi]
  have zk : ∀ k, k ≠ 6 → k ≠ 9 → k ≠ 10 → k ≠ 11 → k ≠ 16 → T' 0 k = T15 0 k := fun k k6 k9 k10 k11 k16 => by
    show (st (st (st (st (st T15 0 16 (nI c + 1)) 0 9 1) 0 10 0) 0 11 (nI c)) 0 6 (T15 0 47)) 0 k = T15 0 k
    rw [st_eq, upd_n k6, st_eq, upd_n k11, st_eq, upd_n k10, st_eq, upd_n k9, st_eq, upd_n k16]
  obtain ⟨S', ev, hRR⟩ := trap_post (S1 := S26) (T' := T') (nl' := n1) h sr s0 s16 (by rw [zr 4 (by decide)]; exact s3) (by rw [zr 4 (by decide)]; exact hok) (fun i i0 i4 hi => by rw [zr i i0]; exact tr i i0 i4 hi) (fun k k1 k6 k9 k10 k11 k16 k32 => by rw [zk k k6 k9 k10 k11 k16]; exact t0 k k1 k32) (by rw [zk 41 (by decide) (by decide) (by decide) (by decide) (by decide)]; exact e14) (by rw [zk 42 (by decide) (by decide) (by decide) (by decide) (by decide)]; exact e15) (by rw [zk 43 (by decide) (by decide) (by decide) (by decide) (by decide)]; exact e43) (by
      refine FO_skip hF (sr 8 (by decide) (by decide) (by decide)) (sr 9 (by decide) (by decide) (by decide)) (sr 10 (by decide) (by decide) (by decide)) (sr 11 (by decide) (by decide) (by decide)) (fun r r1 r2 => by rw [zr r (by omega)]; exact tr2 r r1 r2) (by rw [zk 32 (by decide) (by decide) (by decide) (by decide) (by decide)]; exact t32) ?_ ?_ ?_
      · rw [h211]
        show T 0 11 ≤ nI c
        rw [i_le, ic]; omega
      · rw [h216]
        show T 0 16 ≤ nI c + 1
        rw [i_le, i1]; omega
      · rw [h211]
        show T 0 11 ≤ nI c + 1
        rw [i_le, i1]; omega) hal rfl rfl rfl rfl
  refine ⟨S', T', fun K k => ?_, fun K k => ?_, hRR⟩
  · show wp_K_expect S26 r27 (S26 0 10 + 1) (S26 0 10 + 1) (fun S28 => K S28)
    rw [s0 10 (by decide) (by decide), a10, hr]
    exact ev _ k
  · show wp_M_perform_234 K T15 (nI c) fo d
    unfold wp_M_perform_234 wp_M_perform_235 wp_M_perform_347 wp_M_perform_372 wp_M_perform_375 wp_M_perform_404
    refine it rfl (it rfl ?_)
    intro S42 e42 S43 e43'
    refine ⟨isB_0, ?_⟩
    intro S44 e44 S45 e45
    refine it rfl ?_
    intro S49 e49
    rw [e49, e45, e44, e43', e42]
    exact k
/-- what stands when one begins: class reset, reference reset -/
def STA (n1 : Nat) (S T S1 T2 : St) : Prop := (∀ i, i ≠ 16 → S1 i = S i) ∧ S1 16 0 = 0 ∧ S1 16 1 = S 15 0 ∧ RS S1 ∧ (∀ i, i ≠ 0 → (i < 18 ∨ 24 < i) → T2 i = T i) ∧ (∀ k, k < 45 → k ≠ 32 → T2 0 k = T 0 k) ∧ RT T2 ∧ FO n1 S T2 ∧ n1 ≤ 2
theorem trapend {N : Nat × Nat} {c j n nl n1 : Nat} {S T S1 T2 S13 T13 : St} {fo d : Int32} (h : PRE N c j n nl S T) (hs : STA n1 S T S1 T2) (oS : okS S1 S13) (oT : okT T2 T13) (hM : MT S1 S13 T2 T13) :
    ∃ S' T', evV (fun K => wp_K_begin_124 K S13) S' ∧ evV (fun K => wp_M_fulfil_27 (fun S16 => (if (S16 0 45) < 0 then ((wp_M_perform_214 K S16 (nI c) fo d 0 0 (S16 0 41))) else ((wp_M_perform_214 K S16 (nI c) fo d 0 1 (S16 0 41))))) T13) T' ∧ RR N c j n n1 S' T' := by
  obtain ⟨u1, u2, u3, u4, u5, u6, u7, u8, u9⟩ := hs
  obtain ⟨o1, o2⟩ := oS
  obtain ⟨v1, v2⟩ := oT
  obtain ⟨w1, w2, w3, w4, w5, w6⟩ := hM
  have h0 := h
  obtain ⟨⟨a10, ac, ⟨q3, qC, q1, q14, q15, q16, _⟩, _, _, _, ⟨x0, _, _, _, _, _, xal⟩, _⟩, _⟩ := h0
  have s13 : ∀ i, i ≠ 3 → i ≠ 16 → S13 i = S i := fun i i3 i16 => by rw [o1 i i16 i3, u1 i i16]
  have t13 : ∀ k, k < 45 → k ≠ 32 → T13 0 k = T 0 k := fun k hk h32 => by rw [v2 k hk, u6 k hk h32]
  have c33 : S13 3 = T 4 := by rw [w2, u1 3 (by decide), q3]
  have c44 : T13 4 = T 4 := by rw [w3, u5 4 (by decide) (by omega)]
  obtain ⟨S26, evK, k1, k2⟩ := enterK_ev (st S13 0 14 (S13 0 14 + 1)) (S13 15 0) (S13 16 16) (S13 16 17)
  obtain ⟨T14, evM, m1, m2, m3, m4⟩ := enterM_ev T13 (T13 0 45) (T13 0 46) (T13 4 2 &&& (-4))
  have ha : S13 15 0 &&& (-4) = T13 0 6 := by rw [s13 15 (by decide) (by decide), x0, t13 6 (by decide) (by decide)]; exact al_id xal
  have e3 : S26 3 = T14 4 := by
    rw [k2, m4, ha, w4, w6, c44]
    show entR (S13 3) _ _ _ = _
    rw [c33]
  have r26 : ∀ i, i ≠ 0 → i ≠ 3 → i ≠ 16 → S26 i = S i := fun i i0 i3 i16 => by rw [k1 i i3, st_ne i0, s13 i i3 i16]
  have z26 : S26 0 = upd (S 0) 14 (S 0 14 + 1) := by
    rw [k1 0 (by decide)]
    show upd (S13 0) 14 (S13 0 14 + 1) = _
    rw [s13 0 (by decide) (by decide)]
  obtain ⟨S', T', ev1, ev2, hRR⟩ := trap_both (T2 := T2) (S26 := S26) (T15 := st T14 0 41 (T14 0 41 + 1)) (r27 := S13 3 2 &&& (-4)) (fo := fo) (d := d) h u8 r26 (fun k k14 k15 => by rw [z26, upd_n k14]) (by rw [k1 16 (by decide)]; show S13 16 0 = 0; rw [o2 0 (by decide)]; exact u2) e3 (by
      show okC (T14 4)
      rw [m4]
      refine entR_ok (by rw [c44]; exact qC) ?_
      rw [t13 6 (by decide) (by decide)]; exact xal) (fun i i0 i4 hi => by rw [st_ne i0, m1 i i0 i4, v1 i i0 i4, u5 i i0 hi]) (fun i i1 i2 => by rw [st_ne (by omega), m1 i (by omega) (by omega), v1 i (by omega) (by omega)]) (fun k hk k32 => by
      rw [st_eq, upd_n (by omega), m2 k (by omega)]; exact t13 k (by omega) k32) (by
      show T14 0 32 = T2 0 32
      rw [m2 32 (by decide), v2 32 (by decide)]) (u6 11 (by decide) (by decide)) (u6 16 (by decide) (by decide)) (by
      rw [z26, upd_s]
      show _ = T14 0 41 + 1
      rw [m2 41 (by decide), t13 41 (by decide) (by decide), q14]) (by
      rw [z26, upd_n (by decide)]
      show _ = T14 0 42
      rw [m2 42 (by decide), t13 42 (by decide) (by decide), q15]) (by
      show T14 0 43 = _
      rw [m2 43 (by decide), t13 43 (by decide) (by decide)]) (by
      show T14 0 47 &&& 3 = 0
      rw [m3]; exact al_and _) (by
      show _ = T14 0 47
      rw [m3, c33, c44])
  have c45 : ¬ T13 0 45 < 0 := by
    rw [w4, i_lt, zero_int]
    rw [i_le, zero_int] at w5
    omega
  refine ⟨S', T', fun K k => ?_, fun K k => ?_, hRR⟩
  · show wp_K_begin_124 K S13
    unfold wp_K_begin_124
    refine ie (by rw [w1]; decide) ?_
    intro S25 e25
    subst e25
    refine evK _ ?_
    exact ev1 K k
  · show wp_M_fulfil_27 _ T13
    unfold wp_M_fulfil_27 wp_M_fulfil_103
    refine ie c45 ⟨in_28, ?_⟩
    refine evM _ ?_
    have c45' : ¬ T14 0 45 < 0 := by rw [m2 45 (by decide)]; exact c45
    refine ie c45' ?_
    unfold wp_M_perform_214 wp_M_perform_218
    intro S50 e50
    subst e50
    refine it rfl (it ?_ ?_)
    · show 0 ≤ T14 0 45
      rw [m2 45 (by decide), w4]; exact w5
    · exact ev2 K k
theorem interend {N : Nat × Nat} {c j n nl n1 : Nat} {S T S1 T2 : St} {fo d : Int32} (h : PRE N c j n nl S T) (hs : STA n1 S T S1 T2) (hd : ¬ lnF (dueF (S 3)) = 0) :
    ∃ S' T', evV (fun K => ∀ S15 : St, S15 = st S1 0 15 ((S1 0 15) + (1 : Int32)) → (wp_Con_enterInterrupt S15 (S15 15 0) (lnF (dueF (S 3))) (fun r17 S16 => (wp_K_expect S16 r17 ((S16 0 10) + (1 : Int32)) ((S16 0 10) + (1 : Int32)) (fun S18 => (K S18)))))) S' ∧ evV (fun K => wp_M_perform_132 K T2 (nI c) fo d 1 (lnM (dueF (S 3)))) T' ∧ RR N c j n n1 S' T' := by
  obtain ⟨u1, u2, u3, u4, u5, u6, u7, u8, u9⟩ := hs
  have h0 := h
  obtain ⟨⟨a10, ac, ⟨q3, qC, q1, q14, q15, q16, _⟩, _, _, _, ⟨x0, _, _, _, _, _, xal⟩, _⟩, _⟩ := h0
  rw [lnM_eq hd]
  have hal : toI (T 4) (lnF (dueF (S 3))) &&& 3 = 0 := toI_al
  generalize lnF (dueF (S 3)) = ln at *
  obtain ⟨S16, evK, k1, k2⟩ := interK_ev (st S1 0 15 (S1 0 15 + 1)) (S1 15 0) ln
  have c44 : T2 4 = T 4 := u5 4 (by decide) (by omega)
  have c33 : S1 3 = T 4 := by rw [u1 3 (by decide), q3]
  obtain ⟨T23, evM, m1, m2, m3, m4⟩ := enterM_ev T2 (-2147483648 + ln) 0 (toI (T 4) ln)
  have ha : S1 15 0 &&& (-4) = T2 0 6 := by rw [u1 15 (by decide), x0, u6 6 (by decide) (by decide)]; exact al_id xal
  have e3 : S16 3 = T23 4 := by
    rw [k2, m4, ha, c44]
    show entR (S1 3) _ _ _ = _
    rw [c33]
  have z16 : S16 0 = upd (S 0) 15 (S 0 15 + 1) := by
    rw [k1 0 (by decide)]
    show upd (S1 0) 15 (S1 0 15 + 1) = _
    rw [u1 0 (by decide)]
  obtain ⟨S', T', ev1, ev2, hRR⟩ := trap_both (T2 := T2) (S26 := S16) (T15 := st T23 0 42 (T23 0 42 + 1)) (r27 := toI (T 4) ln) (fo := fo) (d := d) h u8 (fun i i0 i3 i16 => by rw [k1 i i3, st_ne i0, u1 i i16]) (fun k k14 k15 => by rw [z16, upd_n k15]) (by rw [k1 16 (by decide)]; exact u2) e3 (by
      show okC (T23 4)
      rw [m4]
      refine entR_ok (by rw [c44]; exact qC) ?_
      rw [u6 6 (by decide) (by decide)]; exact xal) (fun i i0 i4 hi => by rw [st_ne i0, m1 i i0 i4, u5 i i0 hi]) (fun i i1 i2 => by rw [st_ne (by omega), m1 i (by omega) (by omega)]) (fun k hk k32 => by
      rw [st_eq, upd_n (by omega), m2 k (by omega)]; exact u6 k (by omega) k32) (by
      show T23 0 32 = T2 0 32
      rw [m2 32 (by decide)]) (u6 11 (by decide) (by decide)) (u6 16 (by decide) (by decide)) (by
      rw [z16, upd_n (by decide)]
      show _ = T23 0 41
      rw [m2 41 (by decide), u6 41 (by decide) (by decide), q14]) (by
      rw [z16, upd_s]
      show _ = T23 0 42 + 1
      rw [m2 42 (by decide), u6 42 (by decide) (by decide), q15]) (by
      show T23 0 43 = _
      rw [m2 43 (by decide), u6 43 (by decide) (by decide)]) (by
      show T23 0 47 &&& 3 = 0
      rw [m3]; exact hal) (by
      show _ = T23 0 47
      rw [m3])
  refine ⟨S', T', fun K k => ?_, fun K k => ?_, hRR⟩
  · show ∀ S15 : St, S15 = st S1 0 15 ((S1 0 15) + (1 : Int32)) → (wp_Con_enterInterrupt S15 (S15 15 0) ln (fun r17 S16 => (wp_K_expect S16 r17 ((S16 0 10) + (1 : Int32)) ((S16 0 10) + (1 : Int32)) (fun S18 => (K S18)))))
    intro S15 e15
    subst e15
    refine evK _ ?_
    have : toI (st S1 0 15 (S1 0 15 + 1) 3) ln = toI (T 4) ln := by
      show toI (S1 3) ln = _
      rw [c33]
    rw [this]
    exact ev1 K k
  · show wp_M_perform_132 K T2 (nI c) fo d 1 ln
    have e177 : wp_M_perform_177 K T2 (nI c) fo d 1 (toI (T 4) ln) 0 (-2147483648 + ln) := by
      unfold wp_M_perform_177
      refine evM _ ?_
      intro S25 e25
      subst e25
      unfold wp_M_perform_218
      exact ie (by decide) (ev2 K k)
    unfold wp_M_perform_132
    refine ⟨in_28, ?_⟩
    intro x21 e21
    subst e21
    refine ⟨in_28, ?_⟩
    rw [c44]
    unfold toI at e177
    by_cases b : T 4 2 &&& 1 = 0
    · rw [if_pos b] at e177
      refine ie ?_ e177
      show ¬ T 4 2 &&& 1 = 1
      rw [bit1]; exact fun q => q b
    · rw [if_neg b] at e177
      refine it ?_ e177
      show T 4 2 &&& 1 = 1
      rw [bit1]; exact b
