/-! one begins: all roads -/
theorem goodend {N : Nat × Nat} {c j n nl n1 : Nat} {S T S1 T2 S13 T13 : St} (h : PRE N c j n nl S T) (hj : j ≤ 140) (hw : T 0 44 = wd T) (hic : icd T) (hs : STA n1 S T S1 T2) (oS : okS S1 S13) (oT : okT T2 T13) (hM : MK S1 S13 T2 T13) :
    ∃ S' T' nl', evV (fun K => wp_K_begin_124 K S13) S' ∧ evV (fun K => wp_M_fulfil_27 (fun S16 => (if (S16 0 45) < 0 then ((wp_M_perform_214 K S16 (nI c) (S 15 9) (fd T) 0 0 (S16 0 41))) else ((wp_M_perform_214 K S16 (nI c) (S 15 9) (fd T) 0 1 (S16 0 41))))) T13) T' ∧ RR N c j (n + 1) nl' S' T' := by
  have hs0 := hs
  obtain ⟨u1, u2, u3, u4, u5, u6, u7, u8, u9⟩ := hs
  obtain ⟨o1, o2⟩ := oS
  obtain ⟨v1, v2⟩ := oT
  obtain ⟨w15, w45, w48, win, w54, wB, w55, wc, w53, wal, weff, wok, wacc⟩ := hM
  have s115 : S1 15 = S 15 := u1 15 (by decide)
  rw [s115] at w53 weff
  have t3 : T2 3 = T 3 := u5 3 (by decide) (by omega)
  rw [t3, s115] at wacc
  have s13 : ∀ i, i ≠ 3 → i ≠ 16 → S13 i = S i := fun i i3 i16 => by rw [o1 i i16 i3, u1 i i16]
  have t13 : ∀ k, k < 45 → k ≠ 32 → T13 0 k = T 0 k := fun k hk h32 => by rw [v2 k hk, u6 k hk h32]
  have r13 : ∀ i, i ≠ 0 → i ≠ 4 → (i < 18 ∨ 24 < i) → T13 i = T i := fun i i0 i4 hi => by rw [v1 i i0 i4, u5 i i0 hi]
  have s161 : S13 16 1 = S 15 0 := by rw [o2 1 (by decide)]; exact u3
  have hF : ∀ U : St, (∀ i, i ≠ 0 → i ≠ 4 → U i = T13 i) → (∀ k, k < 45 → U 0 k = T13 0 k) → FO n1 S U := fun U hU hU0 => FO_same u8 rfl rfl rfl rfl (fun r r1 r2 => by rw [hU r (by omega) (by omega), v1 r (by omega) (by omega)]) (by rw [hU0 32 (by decide), v2 32 (by decide)]) (by rw [hU0 11 (by decide), v2 11 (by decide)]) (by rw [hU0 16 (by decide), v2 16 (by decide)])
  have c45 : T13 0 45 < 0 := by rw [w45]; decide
  have tail : ∀ (U : St) (K : St → Prop), U 0 45 = T13 0 45 → U 0 41 = T13 0 41 → wp_M_perform_235 K U (nI c) (S 15 9) (fd T) 1 → (if (U 0 45) < 0 then ((wp_M_perform_214 K U (nI c) (S 15 9) (fd T) 0 0 (U 0 41))) else ((wp_M_perform_214 K U (nI c) (S 15 9) (fd T) 0 1 (U 0 41)))) := by
    intro U K e45 e41 k
    refine it (by rw [e45]; exact c45) ?_
    unfold wp_M_perform_214 wp_M_perform_218
    intro S50 e50
    have : S50 = U := by
      rw [e50]
      funext i
      by_cases hi : i = 0
      · subst hi
        rw [st_eq]
        have : U 0 41 + 0 = U 0 41 := i_eq.mpr (by simp)
        rw [this]; exact upd_self _ _
      · rw [st_ne hi]
    rw [this]
    refine it rfl (ie ?_ k)
    rw [e45, w45]; decide
  have begK : ∀ K, wp_K_setTimes S13 (fun S21 => wp_K_goOn S21 (fun S23 => K S23)) → wp_K_begin_124 K S13 := by
    intro K k
    unfold wp_K_begin_124
    exact it w15 k
  rcases wc with ⟨b0, e12, e3⟩ | ⟨b1, e4, e12, e3⟩
  · obtain ⟨S', T', nl', g1, g2, g3⟩ := good_ev (S3 := S13) (T3 := T13) h hj hw hic s13 s161 e3 wok r13 t13 (hF T13 (fun _ _ _ => rfl) (fun _ _ => rfl)) u9 e12.symm wal w48 win w54 wB w55 w53 weff wacc
    refine ⟨S', T', nl', fun K k => begK K (g1 K k), fun K k => ?_, g3⟩
    show wp_M_fulfil_27 _ T13
    unfold wp_M_fulfil_27 wp_M_fulfil_103
    refine it c45 (it (by rw [w55]; exact b0) ?_)
    exact tail T13 K rfl rfl (g2 K k)
  · have t44 : T2 4 = T 4 := u5 4 (by decide) (by omega)
    let U := st (st T13 0 47 (T13 4 4)) 4 0 (if T13 4 0 &&& 128 = 0 then 128 else 136)
    have hUr : ∀ i, i ≠ 0 → i ≠ 4 → U i = T13 i := fun i i0 i4 => by
      show (st (st T13 0 47 (T13 4 4)) 4 0 (if T13 4 0 &&& 128 = 0 then 128 else 136)) i = T13 i
      rw [st_ne i4, st_ne i0]
    have hU0 : ∀ k, k ≠ 47 → U 0 k = T13 0 k := fun k hk => upd_n hk
    have hU4 : U 4 = upd (T13 4) 0 (if T13 4 0 &&& 128 = 0 then 128 else 136) := rfl
    have hU47 : U 0 47 = T13 4 4 := rfl
    obtain ⟨S', T', nl', g1, g2, g3⟩ := good_ev (S3 := S13) (T3 := U) h hj hw hic s13 s161 (by rw [hU4, e4]; exact e3) (by
        rw [hU4]
        exact ⟨wok.1, wok.2⟩) (fun i i0 i4 hi => by rw [hUr i i0 i4]; exact r13 i i0 i4 hi) (fun k hk k32 => by rw [hU0 k (by omega)]; exact t13 k hk k32) (hF U hUr (fun k hk => hU0 k (by omega))) u9 (by rw [hU47, e4]; exact e12.symm) wal w48 win w54 wB w55 w53 weff wacc
    refine ⟨S', T', nl', fun K k => begK K (g1 K k), fun K k => ?_, g3⟩
    show wp_M_fulfil_27 _ T13
    unfold wp_M_fulfil_27 wp_M_fulfil_103 wp_M_fulfil_102
    refine it c45 (ie (by rw [w55, b1]; decide) ⟨in_48, ?_⟩)
    intro S10 e10
    subst e10
    refine ⟨in_08, ?_⟩
    have kk := tail U K rfl rfl (g2 K k)
    by_cases b : T13 4 0 &&& 128 = 0
    · refine it b ⟨in_08, ?_⟩
      intro S14 e14
      have : S14 = U := by
        rw [e14]
        show _ = st (st T13 0 47 (T13 4 4)) 4 0 (if T13 4 0 &&& 128 = 0 then 128 else 136)
        rw [if_pos b]; rfl
      rw [this]; exact kk
    · refine ie b ⟨in_08, ?_⟩
      intro S14 e14
      have : S14 = U := by
        rw [e14]
        show _ = st (st T13 0 47 (T13 4 4)) 4 0 (if T13 4 0 &&& 128 = 0 then 128 else 136)
        rw [if_neg b]; rfl
      rw [this]; exact kk
theorem begin_all {N : Nat × Nat} {c j n nl : Nat} {S T : St} (h : PRE N c j n nl S T) (hj : j ≤ 140) (hw : T 0 44 = wd T) : ∃ S' T' n' nl', evV (wp_K_begin S) S' ∧ evV (wp_M_perform T (nI c)) T' ∧ RR N c j n' nl' S' T' := by
  have h0 := h
  obtain ⟨⟨a10, ac, ⟨q3, qC, _⟩, aF, _, _, ⟨x0, x1, x2, x3, x9, x10, xal⟩, _⟩, _⟩ := h0
  obtain ⟨T1, n1, fev, hF1, hn1, tr1, tk1⟩ := fetched_ev aF
  rw [← x9] at fev
  let T2 := st (st (st (st (st (st (st (st T1 0 45 (-1)) 0 47 (T1 0 6 + 4)) 0 48 0) 0 50 (-1)) 0 51 0) 0 53 0) 0 54 0) 0 55 0
  have hr2 : ∀ i, i ≠ 0 → T2 i = T1 i := fun i hi => by
    show (st (st (st (st (st (st (st (st T1 0 45 (-1)) 0 47 (T1 0 6 + 4)) 0 48 0) 0 50 (-1)) 0 51 0) 0 53 0) 0 54 0) 0 55 0) i = T1 i
    rw [st_ne hi, st_ne hi, st_ne hi, st_ne hi, st_ne hi, st_ne hi, st_ne hi, st_ne hi]
  have hk2 : ∀ k, k < 45 → T2 0 k = T1 0 k := fun k hk => by
    show (st (st (st (st (st (st (st (st T1 0 45 (-1)) 0 47 (T1 0 6 + 4)) 0 48 0) 0 50 (-1)) 0 51 0) 0 53 0) 0 54 0) 0 55 0) 0 k = T1 0 k
    rw [st_eq, upd_n (by omega), st_eq, upd_n (by omega), st_eq, upd_n (by omega), st_eq, upd_n (by omega), st_eq, upd_n (by omega), st_eq, upd_n (by omega), st_eq, upd_n (by omega), st_eq, upd_n (by omega)]
  let S1 := st (st (st (st (st (st (st (st (st S 16 0 0) 16 1 (S 15 0)) 16 2 1) 16 6 0) 16 8 0) 16 12 (S 15 0 + 4)) 16 13 0) 16 14 0) 16 15 0
  have hs1 : ∀ i, i ≠ 16 → S1 i = S i := fun i hi => by
    show (st (st (st (st (st (st (st (st (st S 16 0 0) 16 1 (S 15 0)) 16 2 1) 16 6 0) 16 8 0) 16 12 (S 15 0 + 4)) 16 13 0) 16 14 0) 16 15 0) i = S i
    rw [st_ne hi, st_ne hi, st_ne hi, st_ne hi, st_ne hi, st_ne hi, st_ne hi, st_ne hi, st_ne hi]
  have hFO : FO n1 S T2 := FO_same hF1 rfl rfl rfl rfl (fun r r1 r2 => hr2 r (by omega)) (hk2 32 (by decide)) (hk2 11 (by decide)) (hk2 16 (by decide))
  have tr2 : ∀ i, i ≠ 0 → (i < 18 ∨ 24 < i) → T2 i = T i := fun i i0 hi => by rw [hr2 i i0, tr1 i i0 hi]
  have tk2 : ∀ k, k < 45 → k ≠ 32 → T2 0 k = T 0 k := fun k hk k32 => by rw [hk2 k hk, tk1 k k32]
  have hSTA : STA n1 S T S1 T2 := ⟨hs1, rfl, rfl, ⟨rfl, rfl, rfl, rfl, rfl, rfl, rfl⟩, tr2, tk2, ⟨rfl, rfl, rfl, rfl, rfl, rfl, rfl, rfl⟩, hFO, hn1⟩
  have hfd : fd T2 = fd T := by
    unfold fd
    rw [tk2 9 (by decide) (by decide), tk2 11 (by decide) (by decide), tk2 16 (by decide) (by decide)]
  have t24 : T2 4 = T 4 := tr2 4 (by decide) (by omega)
  have s13 : S1 3 = T 4 := q3
  -- the heads of the two walks
  have headK : ∀ K, (if lnF (dueF (S 3)) = 0 then (if (S1 15 1) = 0 then (wp_Eff_trap S1 1 (S1 15 0) (fun S7 => ((wp_K_begin_124 K S7)))) else (wp_K_operand S1 (S1 15 6) (fun r10 S9 => (wp_K_operand S9 (S9 15 7) (fun r12 S11 => (wp_Exe_perform S11 r10 r12 (fun S13 => ((wp_K_begin_124 K S13))))))))) else (∀ S15 : St, S15 = st S1 0 15 ((S1 0 15) + (1 : Int32)) → (wp_Con_enterInterrupt S15 (S15 15 0) (lnF (dueF (S 3))) (fun r17 S16 => (wp_K_expect S16 r17 ((S16 0 10) + (1 : Int32)) ((S16 0 10) + (1 : Int32)) (fun S18 => (K S18))))))) → wp_K_begin S K := by
    intro K k
    unfold wp_K_begin wp_Eff_reset
    intro a1 e1 a2 e2 a3 e3 a4 e4 a5 e5 a6 e6 a7 e7 a8 e8 a9 e9
    have : a9 = S1 := by rw [e9, e8, e7, e6, e5, e4, e3, e2, e1]
    rw [this]
    refine due_ev S1 _ ?_
    exact k
  have headM : ∀ K, wp_M_perform_85 K T2 (nI c) (S 15 9) (fd T) (dueF (S 3)) → wp_M_perform T (nI c) K := by
    intro K k
    unfold wp_M_perform
    refine fev _ ?_
    intro a3 e3 a4 e4 a5 e5 a6 e6 a7 e7 a8 e8 a9 e9 a10 e10
    have : a10 = T2 := by rw [e10, e9, e8, e7, e6, e5, e4, e3]; rfl
    rw [this]
    refine decoding_ev T2 _ ?_
    rw [hfd]
    refine ⟨in_08, ?_⟩
    rw [q3] at k
    unfold dueF at k
    rw [← t24] at k
    by_cases b : T2 4 0 &&& 8 = 0
    · rw [if_pos b] at k
      exact it b k
    · rw [if_neg b] at k
      exact ie b ⟨in_78, in_18, k⟩
  by_cases hd : lnF (dueF (S 3)) = 0
  · have hd0 : dueF (S 3) = 0 := (due_0 (by rw [q3]; exact qC)).mp hd
    have headM2 : ∀ K, wp_M_fulfil T2 (fun S16 => (if (S16 0 45) < 0 then ((wp_M_perform_214 K S16 (nI c) (S 15 9) (fd T) 0 0 (S16 0 41))) else ((wp_M_perform_214 K S16 (nI c) (S 15 9) (fd T) 0 1 (S16 0 41))))) → wp_M_perform T (nI c) K := by
      intro K k
      refine headM K ?_
      rw [hd0]
      unfold wp_M_perform_85 wp_M_perform_97
      exact it rfl (it rfl k)
    rcases x1 with ⟨c1, hic⟩ | ⟨c0, hic⟩
    · have hic2 : icd T2 := by
        unfold icd at hic ⊢
        rw [tk2 6 (by decide) (by decide)]; exact hic
      -- the operands
      have hPRE1 : PRE N c j n nl S1 T := by
        obtain ⟨hC, p16, pM, pT, pc, p15⟩ := h
        exact ⟨COM_S hC (fun i hi => hs1 i (by omega)) (fun _ _ _ => rfl) a10 ac (by
          have := hC.2.2.2.2.1
          exact this) hC.2.2.2.2.2.2.2.2.2.2 hC.2.2.2.2.2.2.2.2.1, rfl, pM, pT, pc, p15⟩
      obtain ⟨va, eva, hva⟩ := operand_ev hPRE1 (r := S1 15 6) (by show vp_in (S 15 6) 32; rw [x3.2.2.2.1]; exact wA_in _)
      obtain ⟨vb, evb, hvb⟩ := operand_ev hPRE1 (r := S1 15 7) (by show vp_in (S 15 7) 32; rw [x3.2.2.2.2.1]; exact wB_in _)
      have t22 : T2 2 = T 2 := tr2 2 (by decide) (by omega)
      have hHX : HX S1 T2 va vb := by
        refine ⟨?_, ?_, x3, ?_, ?_, ?_, hSTA.2.2.2.1, hSTA.2.2.2.2.2.2.1, ?_, ?_⟩
        · rw [tk2 44 (by decide) (by decide), hw]; exact x2.symm
        · rw [tk2 6 (by decide) (by decide)]; exact x0.symm
        · show S 15 0 &&& 3 = 0
          rw [x0]; exact xal
        · rw [t24]; exact s13
        · rw [t24]; exact qC
        · intro hu
          have e6 : S1 15 6 = wA (S 15 2) := x3.2.2.2.1
          rw [t22, hva ?_, e6]
          · rfl
          · rw [← x2, e6]
            refine Or.inl ⟨?_, rfl⟩
            have hu' : uA (S 15 3) (S 15 5) := hu
            rw [x3.1, x3.2.2.1] at hu'
            exact hu'
        · intro hu
          have e7 : S1 15 7 = wB (S 15 2) := x3.2.2.2.2.1
          rw [t22, hvb ?_, e7]
          · rfl
          · rw [← x2, e7]
            refine Or.inr ⟨?_, rfl⟩
            have hu' : uB (S 15 3) := hu
            rw [x3.1] at hu'
            exact hu'
      obtain ⟨S13, T13, ev1, ev2, oS, oT, hM⟩ := exec_ev hHX
      have toK : ∀ K, wp_K_begin_124 K S13 → wp_K_begin S K := by
        intro K k
        refine headK K (it hd (ie ?_ ?_))
        · show ¬ S 15 1 = 0
          rw [c1]; decide
        · refine eva _ ?_
          refine evb _ ?_
          exact ev1 _ k
      have toM : ∀ K, wp_M_fulfil_27 (fun S16 => (if (S16 0 45) < 0 then ((wp_M_perform_214 K S16 (nI c) (S 15 9) (fd T) 0 0 (S16 0 41))) else ((wp_M_perform_214 K S16 (nI c) (S 15 9) (fd T) 0 1 (S16 0 41))))) T13 → wp_M_perform T (nI c) K := by
        intro K k
        refine headM2 K ?_
        unfold wp_M_fulfil
        refine inCode1 T2 hic2 _ ?_
        refine ie (by decide) ?_
        exact ev2 _ k
      rcases hM with hM | hM
      · obtain ⟨S', T', g1, g2, g3⟩ := trapend (fo := S 15 9) (d := fd T) h hSTA oS oT hM
        exact ⟨S', T', n, n1, fun K k => toK K (g1 K k), fun K k => toM K (g2 K k), g3⟩
      · obtain ⟨S', T', nl', g1, g2, g3⟩ := goodend h hj hw hic hSTA oS oT hM
        exact ⟨S', T', n + 1, nl', fun K k => toK K (g1 K k), fun K k => toM K (g2 K k), g3⟩
    · have hic2 : ¬ icd T2 := by
        unfold icd at hic ⊢
        rw [tk2 6 (by decide) (by decide)]; exact hic
      have hMT : MT S1 (st (st (st S1 16 15 1) 16 16 1) 16 17 (S1 15 0)) T2 (st (st T2 0 45 1) 0 46 (T2 0 6)) := by
        refine ⟨rfl, rfl, rfl, rfl, ?_, ?_⟩
        · show (0 : Int32) ≤ 1
          decide
        · show T2 0 6 = S 15 0
          rw [tk2 6 (by decide) (by decide), x0]
      obtain ⟨S', T', g1, g2, g3⟩ := trapend (fo := S 15 9) (d := fd T) h hSTA (okS_16 (by decide) (okS_16 (by decide) (okS_16 (by decide) (okS_rf S1)))) (okT_0 (by decide) (okT_0 (by decide) (okT_rf T2))) hMT
      refine ⟨S', T', n, n1, fun K k => headK K (it hd (it ?_ ?_)), fun K k => headM2 K ?_, g3⟩
      · exact c0
      · refine e_trapK S1 1 (S1 15 0) _ ?_
        exact g1 K k
      · unfold wp_M_fulfil
        refine inCode0 T2 hic2 _ ?_
        refine it rfl ?_
        intro S4 e4 S5 e5
        subst e4 e5
        exact g2 K k
  · obtain ⟨S', T', g1, g2, g3⟩ := interend (fo := S 15 9) (d := fd T) h hSTA hd
    have hd0 : ¬ dueF (S 3) = 0 := fun q => hd ((due_0 (by rw [q3]; exact qC)).mpr q)
    refine ⟨S', T', n, n1, fun K k => headK K (ie hd (g1 K k)), fun K k => headM K ?_, g3⟩
    unfold wp_M_perform_85
    refine ie hd0 ?_
    unfold wp_M_perform_97
    refine ie (by decide) ?_
    have k2 : wp_M_perform_132 K T2 (nI c) (S 15 9) (fd T) 1 (lnM (dueF (S 3))) := g2 K k
    unfold lnM at k2
    by_cases b1 : dueF (S 3) &&& 2048 = 0
    · rw [if_pos b1] at k2
      refine it b1 ?_
      by_cases b2 : dueF (S 3) &&& 8 = 0
      · rw [if_pos b2] at k2; exact it b2 k2
      · rw [if_neg b2] at k2; exact ie b2 k2
    · rw [if_neg b1] at k2; exact ie b1 k2
