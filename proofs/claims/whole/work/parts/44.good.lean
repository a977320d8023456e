/-! one that goes on -/
theorem r_bd {r x : Int32} (h : r = 0 ∨ r = 4 * x ∨ r = 8 * x) (h1 : 1 ≤ x.toInt) (h2 : x.toInt ≤ 8) : 0 ≤ r.toInt ∧ r.toInt ≤ 64 := by
  have : x = 1 ∨ x = 2 ∨ x = 3 ∨ x = 4 ∨ x = 5 ∨ x = 6 ∨ x = 7 ∨ x = 8 := by
    simp only [i_eq]
    have l1 : (1 : Int32).toInt = 1 := by decide
    have l2 : (2 : Int32).toInt = 2 := by decide
    have l3 : (3 : Int32).toInt = 3 := by decide
    have l4 : (4 : Int32).toInt = 4 := by decide
    have l5 : (5 : Int32).toInt = 5 := by decide
    have l6 : (6 : Int32).toInt = 6 := by decide
    have l7 : (7 : Int32).toInt = 7 := by decide
    have l8 : (8 : Int32).toInt = 8 := by decide
    omega
  rcases this with q | q | q | q | q | q | q | q <;> rw [q] at h <;> rcases h with h | h | h <;> rw [h] <;> decide
theorem eff_bd (o g f : Int32) : effF o g f = 1 ∨ effF o g f = 4 ∨ effF o g f = 33 := by
  unfold effF
  split
  · split
    · exact Or.inr (Or.inr rfl)
    · exact Or.inr (Or.inl rfl)
  · exact Or.inl rfl
theorem eff_int (o g f : Int32) : 1 ≤ (effF o g f).toInt ∧ (effF o g f).toInt ≤ 33 := by
  rcases eff_bd o g f with q | q | q <;> rw [q] <;> decide
theorem fd_bd {c : Nat} {T : St} (hc : c ≤ 51300) (h1 : 0 ≤ (T 0 11).toInt) (h2 : (T 0 11).toInt ≤ (c : Int) - 1) (h3 : 0 < (T 0 16).toInt) (h4 : (T 0 16).toInt ≤ (c : Int) - 1 + 1) (h9 : T 0 9 = 0 → T 0 11 = 0) : (T 0 16).toInt < (fd T).toInt ∧ (T 0 11).toInt ≤ (fd T).toInt ∧ (fd T).toInt ≤ c + 1 := by
  have ifetch : (T 0 16 + 1).toInt = (T 0 16).toInt + 1 := by rw [add_int (by omega) (by omega) (by rw [one_int]; omega) (by rw [one_int]; omega), one_int]
  unfold fd
  by_cases q : T 0 9 = 0
  · rw [if_pos q, h9 q, ifetch, zero_int]; omega
  · rw [if_neg q]
    by_cases d : T 0 11 ≤ T 0 16 + 1
    · rw [if_pos d]
      rw [i_le, ifetch] at d
      rw [ifetch]; omega
    · rw [if_neg d]
      rw [i_le, ifetch] at d
      omega
theorem good_ev {N : Nat × Nat} {c j n nl nl1 : Nat} {S T S3 T3 : St} (h : PRE N c j n nl S T) (hj : j ≤ 140) (hw : T 0 44 = wd T) (hic : icd T) (sr : ∀ i, i ≠ 3 → i ≠ 16 → S3 i = S i) (s161 : S3 16 1 = S 15 0) (s3 : S3 3 = T3 4) (hok : okC (T3 4)) (tr : ∀ i, i ≠ 0 → i ≠ 4 → (i < 18 ∨ 24 < i) → T3 i = T i) (t0 : ∀ k, k < 45 → k ≠ 32 → T3 0 k = T 0 k) (hF : FO nl1 S T3) (hn1 : nl1 ≤ 2) (t47 : T3 0 47 = S3 16 12) (al : S3 16 12 &&& 3 = 0) (rd : T3 0 48 = S3 16 6) (hin : vp_in (S3 16 6) 32) (t54 : T3 0 54 = S3 16 13) (b54 : isB (S3 16 13)) (t55 : T3 0 55 = S3 16 14) (t53 : T3 0 53 = jmpr (S 15 3)) (eff : S3 16 2 = effF (S 15 3) (S 15 8) (S 15 5))
    (acc : (S3 16 8 = 0 ∧ T3 0 50 = -1 ∧ T3 0 51 = 0 ∧ (¬ S3 16 6 = 0 → T3 0 49 = S3 16 7) ∧ ¬ S 15 3 = 3) ∨ (S3 16 8 = 1 ∧ T3 0 50 = S3 16 9 ∧ inD (S3 16 9) ∧ T3 0 51 = 0 ∧ T3 0 49 = rdv (T 3) (S3 16 9) (S3 16 10) ∧ S 15 3 = 3) ∨ (S3 16 8 = 2 ∧ T3 0 50 = S3 16 9 ∧ inD (S3 16 9) ∧ T3 0 51 = 1 ∧ S3 16 6 = 0 ∧ T3 0 52 = mrg (T 3) (S3 16 9) (S3 16 10) (S3 16 11) ∧ ¬ S 15 3 = 3)) :
    ∃ S' T' nl', evV (fun K => wp_K_setTimes S3 (fun S21 => wp_K_goOn S21 (fun S23 => K S23))) S' ∧ evV (fun K => wp_M_perform_235 K T3 (nI c) (S 15 9) (fd T) 1) T' ∧ RR N c j (n + 1) nl' S' T' := by
  obtain ⟨⟨a10, ac, aE, aF, aV, aL, aX, a37, a37b⟩, p16, pM, pT, pc, p15⟩ := h
  obtain ⟨q3, qC, q1, q14, q15, q16, q11, q12, q13, qCA, qL, qL2, q9⟩ := aE
  obtain ⟨t1, t2, t3, t4, t5, t6, t7, t8⟩ := pT
  obtain ⟨l17, ln, l2, l3, l15⟩ := aL
  obtain ⟨x0, x1, x2, x3, x9, x10, xal⟩ := aX
  obtain ⟨d3, d4, d5, d6, d7, d8⟩ := x3
  have hjn := MEM_j pM
  have ic : (nI c).toInt = c := nI_toInt (by omega)
  have hfd := fd_bd ac t1 t2 t3 t4 q9
  have hlt : T3 0 11 < nI c := by rw [i_lt, ic, t0 11 (by decide) (by decide)]; omega
  obtain ⟨T4, nl', mK, mr, mk, mS⟩ := mid_ev (c := c) (fo := S 15 9) (d := fd T) hF hn1 (by rw [t0 6 (by decide) (by decide)]; exact hic.1) (by rw [t54]; exact b54) (by rw [t53]; exact jmpr_B _) hlt
  -- the reference's state before finish
  generalize hf' : (if T3 0 55 = 0 then (if T3 0 47 = S 15 9 then fd T else nI c + 1) else nI c + 1) = f'
  have i1 : (nI c + 1).toInt = c + 1 := by rw [nI_1, nI_toInt (by omega)]; omega
  have fb : (T 0 16).toInt ≤ f'.toInt ∧ (T 0 11).toInt ≤ f'.toInt ∧ f'.toInt ≤ c + 1 ∧ 0 < f'.toInt := by
    rw [← hf']
    split
    · split
      · omega
      · omega
    · omega
  let T5 := st (st (st (st T4 0 16 f') 0 9 1) 0 10 1) 0 11 (nI c)
  have h5r : ∀ i, i ≠ 0 → T5 i = T4 i := fun i hi => by
    show (st (st (st (st T4 0 16 f') 0 9 1) 0 10 1) 0 11 (nI c)) i = T4 i
    rw [st_ne hi, st_ne hi, st_ne hi, st_ne hi]
  have h5k : ∀ k, k ≠ 16 → k ≠ 9 → k ≠ 10 → k ≠ 11 → T5 0 k = T4 0 k := fun k k1 k2 k3 k4 => by
    show (st (st (st (st T4 0 16 f') 0 9 1) 0 10 1) 0 11 (nI c)) 0 k = T4 0 k
    rw [st_eq, upd_n k4, st_eq, upd_n k3, st_eq, upd_n k2, st_eq, upd_n k1]
  have k5 : ∀ k, k ≠ 16 → k ≠ 9 → k ≠ 10 → k ≠ 11 → k ≠ 32 → k ≠ 43 → T5 0 k = T3 0 k := fun k k1 k2 k3 k4 k5 k6 => by rw [h5k k k1 k2 k3 k4, mk k k5 k6]
  have k5T : ∀ k, k < 45 → k ≠ 16 → k ≠ 9 → k ≠ 10 → k ≠ 11 → k ≠ 32 → k ≠ 43 → T5 0 k = T 0 k := fun k hk k1 k2 k3 k4 k6 k7 => by rw [k5 k k1 k2 k3 k4 k6 k7, t0 k hk k6]
  have r5 : ∀ i, i ≠ 0 → i ≠ 4 → (i < 18 ∨ 24 < i) → T5 i = T i := fun i i0 i4 hi => by rw [h5r i i0, mr i i0 hi, tr i i0 i4 hi]
  have e48 : T5 0 48 = S3 16 6 := by rw [k5 48 (by decide) (by decide) (by decide) (by decide) (by decide) (by decide)]; exact rd
  have e49 : T5 0 49 = T3 0 49 := k5 49 (by decide) (by decide) (by decide) (by decide) (by decide) (by decide)
  have e50 : T5 0 50 = T3 0 50 := k5 50 (by decide) (by decide) (by decide) (by decide) (by decide) (by decide)
  have e51 : T5 0 51 = T3 0 51 := k5 51 (by decide) (by decide) (by decide) (by decide) (by decide) (by decide)
  have e52 : T5 0 52 = T3 0 52 := k5 52 (by decide) (by decide) (by decide) (by decide) (by decide) (by decide)
  have e44 : T5 0 44 = S 15 2 := by rw [k5T 44 (by decide) (by decide) (by decide) (by decide) (by decide) (by decide) (by decide), hw, x2]
  have e14 : T5 0 14 = T 0 14 := k5T 14 (by decide) (by decide) (by decide) (by decide) (by decide) (by decide) (by decide)
  have e13 : T5 0 13 = T 0 13 := k5T 13 (by decide) (by decide) (by decide) (by decide) (by decide) (by decide) (by decide)
  have e00 : T5 0 0 = T 0 0 := k5T 0 (by decide) (by decide) (by decide) (by decide) (by decide) (by decide) (by decide)
  have e06 : T5 0 6 = T 0 6 := k5T 6 (by decide) (by decide) (by decide) (by decide) (by decide) (by decide) (by decide)
  have hop : wOp (T5 0 44) = S 15 3 := by rw [e44, d3]
  have s30 : S3 0 = S 0 := sr 0 (by decide) (by decide)
  have hACC : ACC S3 T5 := by
    unfold ACC
    rw [e50, e51]
    rcases acc with ⟨y1, y2, y3, _⟩ | ⟨y1, y2, y3, y4, _⟩ | ⟨y1, y2, y3, y4, _⟩
    · exact Or.inl ⟨y1, y2, y3⟩
    · exact Or.inr (Or.inl ⟨y1, y2, y3, y4⟩)
    · exact Or.inr (Or.inr ⟨y1, y2, y3, y4⟩)
  have hCA : CA S3 T5 := by
    unfold CA at qCA ⊢
    rw [sr 5 (by decide) (by decide), sr 6 (by decide) (by decide), sr 7 (by decide) (by decide), r5 16 (by decide) (by decide) (by omega), r5 17 (by decide) (by decide) (by omega), e00]
    exact qCA
  have hef := eff_int (S 15 3) (S 15 8) (S 15 5)
  rw [← eff] at hef
  have isum : (nI c + S3 16 2).toInt = c + (S3 16 2).toInt := by rw [add_int (by omega) (by omega) (by omega) (by omega), ic]
  obtain ⟨r, S4, T6, ev1, ev2, hCA6, hSET, hFIN, hr⟩ := fin_ev (S := S3) (T := T5) (n := n) (e := nI c) hACC hCA (by rw [k5T 17 (by decide) (by decide) (by decide) (by decide) (by decide) (by decide) (by decide)]; exact l17) (by omega) (by rw [e48]; exact hin) (by rw [e13, e14]; exact fun q => (q13 q).2) (by rw [s30, e14]; exact q11) (by rw [s30]; exact a10) (by rw [e44, ← d3, ← d8, ← d5]; exact eff) (by omega)
  rw [e00] at hr
  have hrb := r_bd hr qL qL2
  have jm := jmax_int (nI c + S3 16 2) (S3 0 11)
  have iLE : (S3 0 11).toInt = (T 0 14).toInt := by rw [s30, q11]
  rw [isum, iLE] at jm
  have jmu : (jmax (nI c + S3 16 2) (S3 0 11)).toInt ≤ c + 65 := by
    rcases jm.2.2 with q | q
    · rw [q, isum]; omega
    · rw [q, iLE]; omega
  generalize hm : jmax (nI c + S3 16 2) (S3 0 11) = m at *
  have iW : (m + 1 + r).toInt = m.toInt + 1 + r.toInt := by
    have : (m + 1).toInt = m.toInt + 1 := by rw [add_int (by omega) (by omega) (by rw [one_int]; omega) (by rw [one_int]; omega), one_int]
    rw [add_int (by omega) (by omega) (by omega) (by omega), this]
  obtain ⟨b1, b2, b11, b12, b16, b0, b3, b4, b5⟩ := hSET
  rw [hop] at hFIN
  obtain ⟨f1, f2, f3, f7, f9, f10, f11, f12, f13, f14, f15, fr, fw, g12, g13, g14, g15, g17⟩ := hFIN
  have s4r : ∀ i, i ≠ 0 → i ≠ 3 → i ≠ 6 → i ≠ 7 → i ≠ 16 → S4 i = S i := fun i i0 i3 i6 i7 i16 => by rw [b1 i i0 i6 i7 i16, sr i i3 i16]
  have s415 : S4 15 = S 15 := s4r 15 (by decide) (by decide) (by decide) (by decide) (by decide)
  have s4k : ∀ k, k ≠ 11 → k ≠ 12 → S4 0 k = S 0 k := fun k k1 k2 => by rw [b2 k k1 k2, s30]
  have b12' : S4 16 12 = S3 16 12 := b16 12 (by decide) (by decide) (by decide) (by decide)
  obtain ⟨S6, cK, cr, ck, c16, cF⟩ := mS S4 (s4r 8 (by decide) (by decide) (by decide) (by decide) (by decide)) (s4r 9 (by decide) (by decide) (by decide) (by decide) (by decide)) (s4r 10 (by decide) (by decide) (by decide) (by decide) (by decide)) (s4r 11 (by decide) (by decide) (by decide) (by decide) (by decide)) (by rw [s415, x0, t0 6 (by decide) (by decide)]) (by rw [b12']; exact t47) (by rw [b16 13 (by decide) (by decide) (by decide) (by decide)]; exact t54) (by rw [s415]; exact t53) (by rw [s415]) (by rw [s4k 10 (by decide) (by decide)]; exact a10) (by rw [s4k 16 (by decide) (by decide), q16, t0 43 (by decide) (by decide)])
  have c616 : S6 16 = S4 16 := cr 16 (by decide) (by omega)
  have c615 : S6 15 = S 15 := by rw [cr 15 (by decide) (by omega)]; exact s415
  -- the reference's last state
  let T' := st T6 0 6 (T6 0 47)
  have z6 : ∀ k, k ≠ 6 → T' 0 k = T6 0 k := fun k hk => upd_n hk
  have zr : ∀ i, i ≠ 0 → T' i = T6 i := fun i hi => st_ne hi
  have z5 : ∀ k, k ≠ 6 → k ≠ 12 → k ≠ 13 → k ≠ 14 → k ≠ 15 → k ≠ 17 → T' 0 k = T5 0 k := fun k k0 k1 k2 k3 k4 k5 => by rw [z6 k k0, f2 k k1 k2 k3 k4 k5]
  have y6 : T' 0 6 = S3 16 12 := by
    show T6 0 47 = _
    rw [f2 47 (by decide) (by decide) (by decide) (by decide) (by decide), k5 47 (by decide) (by decide) (by decide) (by decide) (by decide) (by decide)]; exact t47
  have y16 : T' 0 16 = f' := z5 16 (by decide) (by decide) (by decide) (by decide) (by decide) (by decide)
  have y9 : T' 0 9 = 1 := z5 9 (by decide) (by decide) (by decide) (by decide) (by decide) (by decide)
  have y10 : T' 0 10 = 1 := z5 10 (by decide) (by decide) (by decide) (by decide) (by decide) (by decide)
  have y11 : T' 0 11 = nI c := z5 11 (by decide) (by decide) (by decide) (by decide) (by decide) (by decide)
  have y14 : T' 0 14 = m + 1 + r := by rw [z6 14 (by decide)]; exact g14
  have y15 : T' 0 15 = (if S 15 3 = 3 then S3 16 6 else 0) := by rw [z6 15 (by decide), g15, e48]
  have y12 : T' 0 12 = m := by rw [z6 12 (by decide)]; exact g12
  have y37 : T' 0 37 = T 0 37 := by rw [z5 37 (by decide) (by decide) (by decide) (by decide) (by decide) (by decide)]; exact k5T 37 (by decide) (by decide) (by decide) (by decide) (by decide) (by decide) (by decide)
  have y01 : T' 0 1 = T 0 1 := by rw [z5 1 (by decide) (by decide) (by decide) (by decide) (by decide) (by decide)]; exact k5T 1 (by decide) (by decide) (by decide) (by decide) (by decide) (by decide) (by decide)
  have y40 : T' 0 40 = T 0 40 := by rw [z5 40 (by decide) (by decide) (by decide) (by decide) (by decide) (by decide)]; exact k5T 40 (by decide) (by decide) (by decide) (by decide) (by decide) (by decide) (by decide)
  have y00 : T' 0 0 = T 0 0 := by rw [z5 0 (by decide) (by decide) (by decide) (by decide) (by decide) (by decide)]; exact e00
  have w : ∀ i, i ≠ 0 → i ≠ 2 → i ≠ 3 → (i < 7 ∨ 17 < i) → T' i = T5 i := fun i i0 i2 i3 hi => by rw [zr i i0, f1 i i0 i2 i3 hi]
  have wT : ∀ i, i ≠ 0 → i ≠ 2 → i ≠ 3 → i ≠ 4 → (i < 7 ∨ 24 < i) → T' i = T i := fun i i0 i2 i3 i4 hi => by rw [w i i0 i2 i3 (by omega), r5 i i0 i4 (by omega)]
  have hSAM : SAM n T T' := ⟨fun x x1 x2 i hi => by rw [zr x (by omega), f3 x x1 x2 i hi, r5 x (by omega) (by omega) (by omega)], wT 5 (by decide) (by decide) (by decide) (by decide) (by omega), wT 6 (by decide) (by decide) (by decide) (by decide) (by omega), wT 25 (by decide) (by decide) (by decide) (by decide) (by omega), wT 26 (by decide) (by decide) (by decide) (by decide) (by omega), y37, y40⟩
  have fS := SAM_f hSAM n (Nat.le_refl _)
  have hcell : T' 13 n = (if T3 0 51 = 0 then -1 else dI (S3 16 9)) := by rw [zr 13 (by decide), f13, e51]
  have v11 : T' 11 n = S3 16 6 := by rw [zr 11 (by decide), f11, e48]
  have v12 : T' 12 n = T3 0 49 := by rw [zr 12 (by decide), f12, e49]
  have v14 : T' 14 n = T3 0 52 := by rw [zr 14 (by decide), f14, e52]
  have y4 : T' 4 = T3 4 := by rw [w 4 (by decide) (by decide) (by decide) (by omega), h5r 4 (by decide), mr 4 (by decide) (by omega)]
  have hL' : FLD (n + 1) T' := by
    refine ⟨by rw [z6 17 (by decide)]; exact g17, by omega, ?_, ?_, fun i hi => ?_⟩
    · show T' 2 = apR T' n (fR T' n)
      unfold apR
      rw [fS.1, ← l2, v11, v12, zr 2 (by decide), fr, e48, e49, r5 2 (by decide) (by decide) (by omega)]
    · show T' 3 = apW T' n (fW T' n)
      unfold apW
      rw [fS.2.1, ← l3, hcell, v14, zr 3 (by decide), fw, e51, e52, r5 3 (by decide) (by decide) (by omega)]
      rcases acc with ⟨_, _, y3, _⟩ | ⟨_, _, _, y4, _⟩ | ⟨_, _, yD, y4, _⟩
      · rw [if_pos y3, y3, if_pos rfl, if_pos (by decide)]
      · rw [if_pos y4, y4, if_pos rfl, if_pos (by decide)]
      · have hne : ¬ T3 0 51 = 0 := by rw [y4]; decide
        rw [if_neg hne, if_neg hne, if_neg]
        have := dI_in yD
        rw [vp_in_iff] at this
        rw [i_lt, zero_int]; omega
    · by_cases q : i = n
      · rw [q, zr 15 (by decide), f15]
        unfold farF
        split
        · exact isB_0
        · exact isB_1
      · rw [hSAM.1 15 (by decide) (by decide) i (by omega)]
        exact l15 i (by omega)
  have hENT : ENT (S6 16) T' n := by
    rw [c616]
    have u : ∀ k, k ≠ 0 → k ≠ 3 → k ≠ 4 → k ≠ 5 → S4 16 k = S3 16 k := b16
    refine ⟨b0, ?_, ?_, ?_, ?_, ?_, ?_, ?_⟩
    · rw [u 1 (by decide) (by decide) (by decide) (by decide), zr 7 (by decide), f7, e06, s161, x0]
    · rw [b3, zr 9 (by decide), f9]
    · rw [b4, zr 10 (by decide), f10]
    · rw [b5, zr 15 (by decide), f15]
    · rw [u 6 (by decide) (by decide) (by decide) (by decide), v11]
    · rw [u 6 (by decide) (by decide) (by decide) (by decide)]; exact hin
    · rw [u 6 (by decide) (by decide) (by decide) (by decide), u 7 (by decide) (by decide) (by decide) (by decide), u 8 (by decide) (by decide) (by decide) (by decide), u 9 (by decide) (by decide) (by decide) (by decide), u 10 (by decide) (by decide) (by decide) (by decide), u 11 (by decide) (by decide) (by decide) (by decide), hcell, v12, v14, fS.2.1, ← l3]
      rcases acc with ⟨y1, y2, y3, y4, _⟩ | ⟨y1, y2, y3, y4, y5, _⟩ | ⟨y1, y2, y3, y4, y5, y6, _⟩
      · rw [if_pos y3]; exact Or.inl ⟨y1, rfl, y4⟩
      · rw [if_pos y4]; exact Or.inr (Or.inl ⟨y1, y3, rfl, y5⟩)
      · rw [if_neg (by rw [y4]; decide)]; exact Or.inr (Or.inr ⟨y1, y3, y5, rfl, y6⟩)
  have hE6 : EQS S6 T' := by
    refine ⟨?_, by rw [y4]; exact hok, ?_, ?_, ?_, ?_, ?_, ?_, ?_, ?_, ?_, ?_, ?_⟩
    · rw [cr 3 (by decide) (by omega), b1 3 (by decide) (by decide) (by decide) (by decide), s3, y4]
    · rw [cr 1 (by decide) (by omega), s4r 1 (by decide) (by decide) (by decide) (by decide) (by decide), wT 1 (by decide) (by decide) (by decide) (by decide) (by omega)]; exact q1
    · rw [ck 14 (by decide), s4k 14 (by decide) (by decide), q14, z5 41 (by decide) (by decide) (by decide) (by decide) (by decide) (by decide), k5T 41 (by decide) (by decide) (by decide) (by decide) (by decide) (by decide) (by decide)]
    · rw [ck 15 (by decide), s4k 15 (by decide) (by decide), q15, z5 42 (by decide) (by decide) (by decide) (by decide) (by decide) (by decide), k5T 42 (by decide) (by decide) (by decide) (by decide) (by decide) (by decide) (by decide)]
    · rw [c16, z5 43 (by decide) (by decide) (by decide) (by decide) (by decide) (by decide), h5k 43 (by decide) (by decide) (by decide) (by decide)]
    · rw [ck 11 (by decide), b11, y14]
    · rw [ck 12 (by decide), b12, y15]
      rcases acc with ⟨y1, _, _, _, y5⟩ | ⟨y1, _, _, _, _, y5⟩ | ⟨y1, _, _, _, _, _, y5⟩
      · rw [y1, if_neg (by decide), if_neg y5]
      · rw [y1, if_pos rfl, if_pos y5]
      · rw [y1, if_neg (by decide), if_neg y5]
    · intro q; rw [z6 13 (by decide), g13] at q; exact absurd q (by decide)
    · unfold CA at hCA6 ⊢
      rw [cr 5 (by decide) (by omega), cr 6 (by decide) (by omega), cr 7 (by decide) (by omega), zr 16 (by decide), zr 17 (by decide), z6 0 (by decide)]
      exact hCA6
    · rw [y00]; exact qL
    · rw [y00]; exact qL2
    · intro q; rw [y9] at q; exact absurd q (by decide)
  have hV6 : VIS j S6 T' := by
    refine VIS_same aV hjn.1 hSAM ?_ ?_ ?_ ?_ ?_ ?_
    · rw [cr 2 (by decide) (by omega)]; exact s4r 2 (by decide) (by decide) (by decide) (by decide) (by decide)
    · rw [cr 4 (by decide) (by omega)]; exact s4r 4 (by decide) (by decide) (by decide) (by decide) (by decide)
    · rw [ck 13 (by decide)]; exact s4k 13 (by decide) (by decide)
    · rw [cr 12 (by decide) (by omega)]; exact s4r 12 (by decide) (by decide) (by decide) (by decide) (by decide)
    · rw [cr 13 (by decide) (by omega)]; exact s4r 13 (by decide) (by decide) (by decide) (by decide) (by decide)
    · rw [cr 14 (by decide) (by omega)]; exact s4r 14 (by decide) (by decide) (by decide) (by decide) (by decide)
  have hF6 : FO nl' S6 T' := by
    refine cF T' (fun x x1 x2 => ?_) ?_ y11 ?_ ?_
    · rw [w x (by omega) (by omega) (by omega) (by omega), h5r x (by omega)]
    · rw [z5 32 (by decide) (by decide) (by decide) (by decide) (by decide) (by decide), h5k 32 (by decide) (by decide) (by decide) (by decide)]
    · rw [y16, t0 16 (by decide) (by decide), i_le]; omega
    · rw [y16, t0 11 (by decide) (by decide), i_le]; omega
  obtain ⟨S', ev', hRR⟩ := post_ev (S := S6) (T := T') (c := c) (j := j) (n := n + 1) (nl := nl') (p3 := m) (by rw [ck 10 (by decide), s4k 10 (by decide) (by decide)]; exact a10) ac hE6 hF6 hV6 hL' (by rw [y6]; exact al) (by rw [y37]; exact a37) ⟨by rw [y37]; exact a37b.1, ⟨by rw [y01]; exact a37b.2.1.1, by rw [y37]; exact a37b.2.1.2⟩, fun i hi => by unfold DON; rw [hSAM.1 10 (by decide) (by decide) i (by omega), hSAM.1 11 (by decide) (by decide) i (by omega), hSAM.1 13 (by decide) (by decide) i (by omega)]; exact a37b.2.2 i hi⟩ y9 y11 (by rw [y16]; omega) (by rw [y16]; omega) (by
      unfold nxF
      rw [if_neg (by rw [y9]; decide), if_neg (by rw [y10]; decide), y12]) (by omega) (by omega) (by rw [y14, iW]; omega) (by rw [y14, iW]; omega) (by rw [y14, iW]; omega) (by
      intro S' hr' hb
      have hEXE : EXE c n S' T' := by
        have z16 : S' 16 = S6 16 := hr' 16 (by decide)
        refine ⟨by rw [z16]; exact hENT, ?_, ?_, ?_, ?_, ?_⟩
        · rw [z16, c616, b3]; omega
        · rw [z16, c616, b3]; exact hb
        · rw [z16, c616, b3, b4, iW]; omega
        · rw [z16, c616, b4, hr' 0 (by decide), ck 11 (by decide), b11]
        · rw [z16, c616, b16 8 (by decide) (by decide) (by decide) (by decide), b16 6 (by decide) (by decide) (by decide) (by decide), hr' 0 (by decide), ck 12 (by decide), b12]
          intro q
          rw [if_pos q]
      have z17 : S' 17 = S 17 := by rw [hr' 17 (by decide), cr 17 (by decide) (by omega)]; exact s4r 17 (by decide) (by decide) (by decide) (by decide) (by decide)
      rcases pM with ⟨hn, m0⟩ | ⟨hn, mE, m3, m4, m11, mL⟩
      · refine Or.inr (Or.inl ⟨by omega, by rw [z17]; exact m0, ?_⟩)
        rw [← hn]; exact hEXE
      · refine Or.inr (Or.inr ⟨by omega, ?_, ?_, ?_, ?_, ?_⟩)
        · rw [z17]; exact ENT_same hSAM (by omega) mE
        · rw [z17]; exact m3
        · rw [z17]; exact m4
        · rw [z17, m11, q11, hr' 16 (by decide), c616, b3]; omega
        · rw [← hn]; exact hEXE)
  refine ⟨S', T', nl', fun K k => ?_, fun K k => ?_, hRR⟩
  · show wp_K_setTimes S3 (fun S21 => wp_K_goOn S21 (fun S23 => K S23))
    refine ev1 _ ?_
    refine cK _ ?_
    have e97 : wp_K_goOn_97 (fun S23 => K S23) S6 f' := by
      unfold wp_K_goOn_97
      rw [c616, b12', b3, ← y6, ← y16]
      exact ev' _ k
    unfold wp_K_goOn_70 wp_K_goOn_91
    rw [c616, c615, b16 14 (by decide) (by decide) (by decide) (by decide), ck 10 (by decide), s4k 10 (by decide) (by decide), a10, x10]
    have rq : rgt S4 = (if T3 0 47 = S 15 9 then 1 else 0) := by
      unfold rgt
      rw [s415, b12', t47]
    rw [rq]
    rw [t55] at hf'
    by_cases d1 : T3 0 47 = S 15 9
    · rw [if_pos d1] at hf' ⊢
      refine ie (by decide) ?_
      by_cases d2 : S3 16 14 = 0
      · rw [if_pos d2] at hf'
        refine it d2 ?_
        rw [hf']; exact e97
      · rw [if_neg d2] at hf'
        refine ie d2 ?_
        rw [hf']; exact e97
    · rw [if_neg d1] at hf' ⊢
      refine it rfl ?_
      have : nI c + 1 = f' := by
        rw [← hf']
        split <;> rfl
      rw [this]; exact e97
  · show wp_M_perform_235 K T3 (nI c) (S 15 9) (fd T) 1
    refine mK K ?_
    have e375 : wp_M_perform_375 K T4 (nI c) 1 f' := by
      unfold wp_M_perform_375
      intro S42 e42 S43 e43
      refine ⟨isB_1, ?_⟩
      intro S44 e44' S45 e45
      refine ie (by decide) ?_
      have : S45 = T5 := by rw [e45, e44', e43, e42]
      rw [this]
      refine ev2 _ ?_
      unfold wp_M_perform_404
      intro S49 e49'
      rw [e49']
      exact k
    unfold wp_M_perform_347 wp_M_perform_372
    rw [mk 55 (by decide) (by decide), mk 47 (by decide) (by decide)]
    refine ie (by decide) ?_
    by_cases d2 : T3 0 55 = 0
    · rw [if_pos d2] at hf'
      refine it d2 ?_
      by_cases d1 : T3 0 47 = S 15 9
      · rw [if_pos d1] at hf'
        refine it d1 ?_
        rw [hf']; exact e375
      · rw [if_neg d1] at hf'
        refine ie d1 ?_
        rw [hf']; exact e375
    · rw [if_neg d2] at hf'
      refine ie d2 ?_
      rw [hf']; exact e375
