def pr_law : List (Nat × Instr × Nat) := [(0, .new 7, 3), (3, .dup, 1), (4, .aload_n 0, 1), (5, .iconst 0, 1), (6, .invokestatic 9, 3), (9, .invokespecial 15, 3), (12, .astore_n 1, 1), (13, .new 18, 3), (16, .dup, 1), (17, .aload_n 0, 1), (18, .iconst 0, 1), (19, .invokestatic 9, 3), (22, .invokespecial 20, 3), (25, .astore_n 2, 1), (26, .iconst 1, 1), (27, .istore_n 3, 1), (28, .iload_n 3, 1), (29, .aload_n 0, 1), (30, .arraylength, 1), (31, .iconst 3, 1), (32, .isub, 1), (33, .if_icmp .gt 356, 3), (36, .aload_n 0, 1), (37, .iload_n 3, 1), (38, .iaload, 1), (39, .bipush 15, 2), (41, .iand, 1), (42, .tableswitch 341 0 10 #[58, 91, 124, 147, 170, 193, 216, 239, 272, 295, 318], 58), (100, .aload_n 1, 1), (101, .aload_n 0, 1), (102, .iload_n 3, 1), (103, .iconst 1, 1), (104, .iadd, 1), (105, .iaload, 1), (106, .aload_n 0, 1), (107, .iload_n 3, 1), (108, .iconst 2, 1), (109, .iadd, 1), (110, .iaload, 1), (111, .invokevirtual 21, 3), (114, .aload_n 2, 1), (115, .aload_n 0, 1), (116, .iload_n 3, 1), (117, .iconst 1, 1), (118, .iadd, 1), (119, .iaload, 1), (120, .aload_n 0, 1), (121, .iload_n 3, 1), (122, .iconst 2, 1), (123, .iadd, 1), (124, .iaload, 1), (125, .invokevirtual 25, 3), (128, .if_icmp .eq 255, 3), (131, .iconst 0, 1), (132, .ireturn, 1), (133, .aload_n 1, 1), (134, .aload_n 0, 1), (135, .iload_n 3, 1), (136, .iconst 1, 1), (137, .iadd, 1), (138, .iaload, 1), (139, .aload_n 0, 1), (140, .iload_n 3, 1), (141, .iconst 2, 1), (142, .iadd, 1), (143, .iaload, 1), (144, .invokevirtual 26, 3), (147, .aload_n 2, 1), (148, .aload_n 0, 1), (149, .iload_n 3, 1), (150, .iconst 1, 1), (151, .iadd, 1), (152, .iaload, 1), (153, .aload_n 0, 1), (154, .iload_n 3, 1), (155, .iconst 2, 1), (156, .iadd, 1), (157, .iaload, 1), (158, .invokevirtual 29, 3), (161, .if_icmp .eq 222, 3), (164, .iconst 0, 1), (165, .ireturn, 1), (166, .aload_n 1, 1), (167, .aload_n 0, 1), (168, .iload_n 3, 1), (169, .iconst 1, 1), (170, .iadd, 1), (171, .iaload, 1), (172, .invokevirtual 30, 3), (175, .aload_n 2, 1), (176, .aload_n 0, 1), (177, .iload_n 3, 1), (178, .iconst 1, 1), (179, .iadd, 1), (180, .iaload, 1), (181, .invokevirtual 34, 3), (184, .if_icmp .eq 199, 3), (187, .iconst 0, 1), (188, .ireturn, 1), (189, .aload_n 1, 1), (190, .aload_n 0, 1), (191, .iload_n 3, 1), (192, .iconst 1, 1), (193, .iadd, 1), (194, .iaload, 1), (195, .invokevirtual 35, 3), (198, .aload_n 2, 1), (199, .aload_n 0, 1), (200, .iload_n 3, 1), (201, .iconst 1, 1), (202, .iadd, 1), (203, .iaload, 1), (204, .invokevirtual 39, 3), (207, .if_icmp .eq 176, 3), (210, .iconst 0, 1), (211, .ireturn, 1), (212, .aload_n 1, 1), (213, .aload_n 0, 1), (214, .iload_n 3, 1), (215, .iconst 1, 1), (216, .iadd, 1), (217, .iaload, 1), (218, .invokevirtual 40, 3), (221, .aload_n 2, 1), (222, .aload_n 0, 1), (223, .iload_n 3, 1), (224, .iconst 1, 1), (225, .iadd, 1), (226, .iaload, 1), (227, .invokevirtual 43, 3), (230, .if_icmp .eq 153, 3), (233, .iconst 0, 1), (234, .ireturn, 1), (235, .aload_n 1, 1), (236, .aload_n 0, 1), (237, .iload_n 3, 1), (238, .iconst 1, 1), (239, .iadd, 1), (240, .iaload, 1), (241, .invokevirtual 44, 3), (244, .aload_n 2, 1), (245, .aload_n 0, 1), (246, .iload_n 3, 1), (247, .iconst 1, 1), (248, .iadd, 1), (249, .iaload, 1), (250, .invokevirtual 47, 3), (253, .if_icmp .eq 130, 3), (256, .iconst 0, 1), (257, .ireturn, 1), (258, .aload_n 1, 1), (259, .aload_n 0, 1), (260, .iload_n 3, 1), (261, .iconst 1, 1), (262, .iadd, 1), (263, .iaload, 1), (264, .invokevirtual 48, 3), (267, .aload_n 2, 1), (268, .aload_n 0, 1), (269, .iload_n 3, 1), (270, .iconst 1, 1), (271, .iadd, 1), (272, .iaload, 1), (273, .invokevirtual 51, 3), (276, .if_icmp .eq 107, 3), (279, .iconst 0, 1), (280, .ireturn, 1), (281, .aload_n 1, 1), (282, .aload_n 0, 1), (283, .iload_n 3, 1), (284, .iconst 1, 1), (285, .iadd, 1), (286, .iaload, 1), (287, .aload_n 0, 1), (288, .iload_n 3, 1), (289, .iconst 2, 1), (290, .iadd, 1), (291, .iaload, 1), (292, .invokevirtual 52, 3), (295, .aload_n 2, 1), (296, .aload_n 0, 1), (297, .iload_n 3, 1), (298, .iconst 1, 1), (299, .iadd, 1), (300, .iaload, 1), (301, .aload_n 0, 1), (302, .iload_n 3, 1), (303, .iconst 2, 1), (304, .iadd, 1), (305, .iaload, 1), (306, .invokevirtual 56, 3), (309, .if_icmp .eq 74, 3), (312, .iconst 0, 1), (313, .ireturn, 1), (314, .aload_n 1, 1), (315, .aload_n 0, 1), (316, .iload_n 3, 1), (317, .iconst 1, 1), (318, .iadd, 1), (319, .iaload, 1), (320, .invokevirtual 57, 3), (323, .aload_n 2, 1), (324, .aload_n 0, 1), (325, .iload_n 3, 1), (326, .iconst 1, 1), (327, .iadd, 1), (328, .iaload, 1), (329, .invokevirtual 60, 3), (332, .if_icmp .eq 51, 3), (335, .iconst 0, 1), (336, .ireturn, 1), (337, .aload_n 1, 1), (338, .aload_n 0, 1), (339, .iload_n 3, 1), (340, .iconst 1, 1), (341, .iadd, 1), (342, .iaload, 1), (343, .invokevirtual 61, 3), (346, .aload_n 2, 1), (347, .aload_n 0, 1), (348, .iload_n 3, 1), (349, .iconst 1, 1), (350, .iadd, 1), (351, .iaload, 1), (352, .invokevirtual 64, 3), (355, .if_icmp .eq 28, 3), (358, .iconst 0, 1), (359, .ireturn, 1), (360, .aload_n 1, 1), (361, .aload_n 0, 1), (362, .iload_n 3, 1), (363, .iconst 1, 1), (364, .iadd, 1), (365, .iaload, 1), (366, .invokevirtual 65, 3), (369, .aload_n 2, 1), (370, .aload_n 0, 1), (371, .iload_n 3, 1), (372, .iconst 1, 1), (373, .iadd, 1), (374, .iaload, 1), (375, .invokevirtual 68, 3), (378, .if_icmp .eq 5, 3), (381, .iconst 0, 1), (382, .ireturn, 1), (383, .iinc 3 3, 3), (386, .goto (-358), 3), (389, .iconst 1, 1), (390, .ireturn, 1)]
set_option maxRecDepth 100000 in
theorem dm_law : okAt code pr_law := by decide +kernel
/-- one call on both -/
def wp_step (x x1 x2 : Int32) (S T : St) (KK : St → St → Prop) : Prop := (if x = 0 then wp_K_code S x1 x2 (fun r S1 => wp_M_code T x1 x2 (fun q T1 => r = q ∧ KK S1 T1)) else (if x = 1 then wp_K_data S x1 x2 (fun r S1 => wp_M_data T x1 x2 (fun q T1 => r = q ∧ KK S1 T1)) else (if x = 2 then wp_K_lines S x1 (fun r S1 => wp_M_lines T x1 (fun q T1 => r = q ∧ KK S1 T1)) else (if x = 3 then wp_K_run S x1 (fun r S1 => wp_M_run T x1 (fun q T1 => r = q ∧ KK S1 T1)) else (if x = 4 then wp_K_reg S x1 (fun r S1 => wp_M_reg T x1 (fun q T1 => r = q ∧ KK S1 T1)) else (if x = 5 then wp_K_control S x1 (fun r S1 => wp_M_control T x1 (fun q T1 => r = q ∧ KK S1 T1)) else (if x = 6 then wp_K_word S x1 (fun r S1 => wp_M_word T x1 (fun q T1 => r = q ∧ KK S1 T1)) else (if x = 7 then wp_K_ended S x1 x2 (fun r S1 => wp_M_ended T x1 x2 (fun q T1 => r = q ∧ KK S1 T1)) else (if x = 8 then wp_K_stage S x1 (fun r S1 => wp_M_stage T x1 (fun q T1 => r = q ∧ KK S1 T1)) else (if x = 9 then wp_K_foretold S x1 (fun r S1 => wp_M_foretold T x1 (fun q T1 => r = q ∧ KK S1 T1)) else (if x = 10 then wp_K_figure S x1 (fun r S1 => wp_M_figure T x1 (fun q T1 => r = q ∧ KK S1 T1)) else KK S T)))))))))))
theorem m_cell : mS y_Law_cell b_Law_cell 2 (some .int) 2 := ⟨w606, w0, w607, by decide +kernel, by decide +kernel, by decide +kernel⟩
abbrev rm_cell : Room := { frames := 0, cells := 0, slots := 0, locals := 0 }
def scr0 (L : Nat) (xs : Nat → Int32) : Int32 := if 0 < L then xs 0 else 0
set_option maxHeartbeats 4000000 in
set_option maxRecDepth 100000 in
theorem c_cell (l : Launch) (D : va_G) (b L : Nat) (xs : Nat → Int32) (hL : L < 2 ^ 31) (sz : Nat) : Met l y_Law_cell (Cond.code y_Law_cell b_Law_cell 2 (some .int) :: gw) rm_cell (va_Pc [.ref b, .int 0] (fun U => U.heap.size = sz ∧ va_X b L xs U U.heap ∧ b < sz)) (va_Qi (fun r (_ : Unit) => r = scr0 L xs) (fun _ t => QK D [] [] (va_A [] sz) [] t) (va_A [] sz)) 0 0 (va_A [] sz) := by
  refine Met.ofW (cc := b_Law_cell) (maxL := 2) (ret := some .int) (by decide +kernel) rfl ?_
  intro p e s m args below meth c s₁ B hml hv
  obtain ⟨rfl, hsz, hX, hb⟩ := hv
  subst hsz
  have hts := atoms_spec (ws := Cond.code y_Law_cell b_Law_cell 2 (some .int) :: gw) B.pre
  have hown : s.vm.findClass "PipelinedCoreLaw" = some m.cls := findClass_of_methodNamed B.named
  have hbA : ¬ va_A [] s.heap.size b := by
    rintro (⟨k, e, h⟩ | h)
    · simp at h
    · omega
  have C : CX p rm_cell s m ([.ref b, .int 0] : List Value).toArray meth c b_Law_cell 2 "PipelinedCoreLaw" (some .int) pr_Law_cell D [] [] (va_A [] s.heap.size) := ⟨⟨B.exec, B.bytes, hml, hown, fun w h => hts w (List.mem_cons_of_mem _ h)⟩, ⟨fun c q h => by simp at h, fun k q h => by simp at h⟩, fun q h => Or.inr h, dm_Law_cell, B.returns, B.notSynchronized⟩
  have hl := lv_entry ([.ref b, .int 0]) (n := 2) (Nat.le_of_ble_eq_true rfl)
  rw [lg_entry_eq]
  have body : J p l e rm_cell s m ([.ref b, .int 0] : List Value).toArray below meth c 2 D [] (va_A [] s.heap.size) 0 0 (MQ below (va_Qi (fun r (_ : Unit) => r = scr0 L xs) (fun u t => QK D [] [] (va_A [] s.heap.size) ((fun _ : Unit => ([] : va_W)) u) t) (va_A [] s.heap.size)) ([.ref b, .int 0] : List Value).toArray s 0 0 (va_A [] s.heap.size)) [] [(0, .ref b), (1, .int 0)] 0 [] := by
    refine j_iload_n C 0 1 rfl rfl rfl 1 rfl ?_
    refine j_aload_n C 1 2 rfl rfl rfl 0 rfl ?_
    refine j_slen C 2 3 rfl rfl hX hb hbA ?_
    refine j_icmp_ge C 3 12 6 rfl (by decide) rfl (fun c1 => ?_) (fun c1 => ?_)
    · have h0 : L = 0 := by
        rcases Nat.eq_zero_or_pos L with h | h
        · exact h
        · exact absurd c1 (nI_nle h hL)
      refine j_iconst C 8 13 rfl rfl kI_0 ?_
      exact j_iret C 9 rfl (F := fun _ : Unit => ([] : va_W)) (S := ()) (by simp [scr0, h0])
    · have h0 : 0 < L := by
        rcases Nat.eq_zero_or_pos L with h | h
        · subst h; exact absurd (by decide) c1
        · exact h
      refine j_aload_n C 4 7 rfl rfl rfl 0 rfl ?_
      refine j_iload_n C 5 8 rfl rfl rfl 1 rfl ?_
      refine j_sld C 6 9 rfl rfl hX hb hbA (by rw [← nI_0]; exact vp_in_nI h0 hL) ?_
      refine j_goto C 7 13 rfl (by decide) ?_
      exact j_iret C 9 rfl (F := fun _ : Unit => ([] : va_W)) (S := ()) (by simp only [scr0, if_pos h0]; rfl)
  exact body s.heap [] _ (fun k q h => by simp at h) ⟨fun i j p q h => by simp at h, fun k q h => by simp at h⟩ va_S.rf hl
theorem j_cell {p : Program} {l : Launch} {e : Env} {R : Room} {s : State} {m : MethodId} {args : Array Value} {below : List Frame} {meth : Method} {c : Code} {Q : State → Prop} {cc : ByteArray} {nL : Nat} {ret : Option FieldType} {pr : List (Nat × Instr × Nat)} {D : va_G} {cl : List vw_C} {tys : List (ClassId × FieldType)} {A : Nat → Prop} {kc ks : Nat} {ws : va_W} {lv : List (Nat × Value)} {pc : Nat} {rs : List Value} (C : CX p R s m args meth c cc nL "PipelinedCoreLaw" ret pr D cl tys A) (i n : Nat) {index : Nat} (hi : pr[i]? = some (pc, .invokestatic index, 3)) (hn : pc + 3 = n) (hlink : Cond.methodLink "PipelinedCoreLaw" index y_Law_cell ∈ gw) {b L : Nat} {xs : Nat → Int32} (hX : va_X b L xs s s.heap) (hbl : b < s.heap.size) (hbA : ¬ A b) (hL : L < 2 ^ 31) (hR : 1 ≤ R.frames ∧ 21 ≤ R.locals) (hcs : kc ≤ R.cells ∧ ks ≤ R.slots) (hsum : (rs.map fun v => v.category).sum ≤ 8) (k : J p l e R s m args below meth c nL D cl A kc ks Q ws lv n (.int (scr0 L xs) :: rs)) : J p l e R s m args below meth c nL D cl A kc ks Q ws lv pc (.int 0 :: .ref b :: rs) := by
  subst hn
  intro H locs ls hP hD hS hl
  have hFc : ∀ q, va_A [] H.size q → A q := by
    rintro q (⟨k, e, h⟩ | h)
    · simp at h
    · exact C.2.2.1 q (Nat.le_trans hS.1 h)
  have hXH : va_X b L xs s H := hX.kept (hS.2.1 b hbl hbA)
  have hbH : b < H.size := Nat.lt_of_lt_of_le hbl hS.1
  obtain ⟨w1, w3, w4, d1, d2, d3⟩ := m_cell
  have cw : CallB R s args "PipelinedCoreLaw" index y_Law_cell b_Law_cell 2 (some .int) (Cond.code y_Law_cell b_Law_cell 2 (some .int) :: gw) rm_cell 0 0 2 ∧ (Cond.static y_Law_cell).before args s = true := ⟨callB_of 2 C.1.2.2.2.2 (gw_code w4) rfl rfl rfl (C.1.2.2.2.2 _ w3) (C.1.2.2.2.2 _ hlink) ⟨d1, d2, d3⟩ ⟨hR.1, hR.2⟩, C.1.2.2.2.2 _ w1⟩
  refine va_calli (va_runS (As := [.ref b, .int 0]) (rest := rs) C.1 (c_cell l D b L xs hL H.size) cw ⟨fun a U g mk z => by obtain ⟨z0, z1, zX, zb⟩ := z; exact ⟨z0, z1, va_X.moved (u := U) (U := U.calling g mk a) (Vm.Alike.refl U.vm) zX, zb⟩, fun U hU hW => ⟨rfl, by rw [hU], by rw [hU]; exact va_X.moved hW.alike hXH, hbH⟩⟩ rfl rfl hl.1 rfl (lv_room hsum) (okAt_at C.2.2.2.1 hi) hcs) hS (fun q _ h => hFc q h) hFc (fun r u t H1 locs1 ht hvm hw hB hz hk hS1 => ?_)
  subst hw
  have hk2 : ∀ (k : Nat) (x : Nat × va_E), ws[k]? = some x → H1[x.1]? = H[x.1]? := fun k x hx => hk x.1 ((hP k x hx).lt) (by
    rintro (⟨j, e, h⟩ | h)
    · simp at h
    · have := (hP k x hx).lt; omega)
  exact k H1 locs1 ls (hP.kept hk2) hD hS1 hl
theorem law_le {n L : Nat} (hL : L ≤ 1537) (hn : n ≤ 512) : (Int32.ofNat L - 3 < nI (1 + 3 * n)) ↔ L < 4 + 3 * n := by
  have e1 : (Int32.ofNat L - 3 : Int32).toInt = (L : Int) - 3 := pk_sub_toInt (a := L) (b := 3) (by omega) (by omega)
  rw [Int32.lt_iff_toInt_lt, e1, nI_toInt (by omega)]
  omega
set_option maxHeartbeats 8000000 in
set_option maxRecDepth 100000 in
theorem law_loop {p : Program} {l : Launch} {e : Env} {s : State} {m : MethodId} {below : List Frame} {meth : Method} {c : Code} {D : va_G} {cI cB : ClassId} {b L : Nat} {xs : Nat → Int32} (hL : L ≤ 1537) (C : CX p room_1 s m #[Value.ref b] meth c code 4 "PipelinedCoreLaw" ret pr_law D clK (tysK cI cB) (fun q : Nat => s.heap.size ≤ q)) (hlocks : meth.locks = false) (hX : va_X b L xs s s.heap) (hbl : b < s.heap.size) (I : Nat → St → St → Prop) (hstep : ∀ (n : Nat) (S T : St) (x x1 x2 : Int32), n < 512 → I n S T → wp_step x x1 x2 S T (I (n + 1))) {h0 g0 : Nat} {bb : Nat → Nat} : ∀ (f n : Nat) (a : Nat → Nat) (S T : St), n ≤ 512 → L ≤ 3 * (n + f) + 1 → I n S T → J p l e room_1 s m #[Value.ref b] below meth c 4 D clK (fun q : Nat => s.heap.size ≤ q) 47 2914 (lw_Z below #[Value.ref b] s) (wsM g0 bb cI cB T ++ wsK h0 a cI cB S) [(0, .ref b), (1, .ref h0), (2, .ref g0), (3, .int (nI (1 + 3 * n)))] 28 [] := by
  have hbA : ¬ (fun q : Nat => s.heap.size ≤ q) b := Nat.not_le.mpr hbl
  intro f
  induction f with
  | zero =>
    intro n a S T hn hf hI
    refine j_iload_n C 16 29 rfl rfl rfl 3 rfl ?_
    refine j_aload_n C 17 30 rfl rfl rfl 0 rfl ?_
    refine j_slen C 18 31 rfl rfl hX hbl hbA ?_
    refine j_iconst C 19 32 rfl rfl kI_3 ?_
    refine j_isub C 20 33 rfl rfl ?_
    refine j_icmp_gt C 21 389 36 rfl (by decide) rfl (fun c1 => ?_) (fun c1 => ?_)
    · refine j_iconst C 247 390 rfl rfl kI_1 ?_
      intro H locs ls hP hD hS hl
      refine va_forget (fun q hq => hS.2.2 q hq) ?_
      exact lw_ret C.1.1 C.1.2.1 C.2.2.2.2.1 hlocks (okAt_at (i := 248) C.2.2.2.1 rfl)
    · exact absurd ((law_le hL hn).mpr (by omega)) c1
  | succ f ih =>
    intro n a S T hn hf hI
    refine j_iload_n C 16 29 rfl rfl rfl 3 rfl ?_
    refine j_aload_n C 17 30 rfl rfl rfl 0 rfl ?_
    refine j_slen C 18 31 rfl rfl hX hbl hbA ?_
    refine j_iconst C 19 32 rfl rfl kI_3 ?_
    refine j_isub C 20 33 rfl rfl ?_
    refine j_icmp_gt C 21 389 36 rfl (by decide) rfl (fun c1 => ?_) (fun c1 => ?_)
    · refine j_iconst C 247 390 rfl rfl kI_1 ?_
      intro H locs ls hP hD hS hl
      refine va_forget (fun q hq => hS.2.2 q hq) ?_
      exact lw_ret C.1.1 C.1.2.1 C.2.2.2.2.1 hlocks (okAt_at (i := 248) C.2.2.2.1 rfl)
    · have c2 : ¬ L < 4 + 3 * n := fun h => c1 ((law_le hL hn).mpr h)
      have i0 : vp_in (nI (1 + 3 * n)) L := vp_in_nI (by omega) (by omega)
      have i1 : vp_in (nI (1 + 3 * n) + 1) L := by rw [nI_1]; exact vp_in_nI (by omega) (by omega)
      have i2 : vp_in (nI (1 + 3 * n) + 2) L := by rw [show (2 : Int32) = nI 2 from rfl, nI_add]; exact vp_in_nI (by omega) (by omega)
      have hw := hstep n S T (xs (nI (1 + 3 * n)).toNatClampNeg &&& 15) (xs (nI (1 + 3 * n) + 1).toNatClampNeg) (xs (nI (1 + 3 * n) + 2).toNatClampNeg) (by omega) hI
      unfold wp_step at hw
      have hnext : ∀ (a : Nat → Nat) (S T : St), I (n + 1) S T → J p l e room_1 s m #[Value.ref b] below meth c 4 D clK (fun q : Nat => s.heap.size ≤ q) 47 2914 (lw_Z below #[Value.ref b] s) (wsM g0 bb cI cB T ++ wsK h0 a cI cB S) [(0, .ref b), (1, .ref h0), (2, .ref g0), (3, .int (nI (1 + 3 * n)))] 383 [] := by
        intro a S T hI
        refine j_iinc C 245 386 [(3, .int (nI (1 + 3 * n) + 3)), (0, .ref b), (1, .ref h0), (2, .ref g0)] rfl rfl 3 rfl kI_3 (by decide) rfl ?_
        refine j_goto C 246 28 rfl (by decide) ?_
        refine j_sub [1, 2, 3, 0] rfl ?_
        have e3 : nI (1 + 3 * n) + 3 = nI (1 + 3 * (n + 1)) := by rw [show (3 : Int32) = nI 3 from rfl, nI_add]; exact congrArg nI (by omega)
        rw [e3]
        exact ih (n + 1) a S T (by omega) (by omega) hI
      refine j_aload_n C 22 37 rfl rfl rfl 0 rfl ?_
      refine j_iload_n C 23 38 rfl rfl rfl 3 rfl ?_
      refine j_sld C 24 39 rfl rfl hX hbl hbA i0 ?_
      refine j_bipush C 25 41 rfl rfl kB_15 ?_
      refine j_iand C 26 42 rfl rfl ?_
      refine j_table C 27 rfl [(0, 100), (1, 133), (2, 166), (3, 189), (4, 212), (5, 235), (6, 258), (7, 281), (8, 314), (9, 337), (10, 360)] 383 (by decide +kernel) (by decide) (by decide) (swP_c (fun k0 => ?_) (fun n0 => swP_c (fun k1 => ?_) (fun n1 => swP_c (fun k2 => ?_) (fun n2 => swP_c (fun k3 => ?_) (fun n3 => swP_c (fun k4 => ?_) (fun n4 => swP_c (fun k5 => ?_) (fun n5 => swP_c (fun k6 => ?_) (fun n6 => swP_c (fun k7 => ?_) (fun n7 => swP_c (fun k8 => ?_) (fun n8 => swP_c (fun k9 => ?_) (fun n9 => swP_c (fun k10 => ?_) (fun n10 => swP_n ?_))))))))))))
      · have h := ite_t hw k0
        refine j_aload_n C 28 101 rfl rfl rfl 1 rfl ?_
        refine j_aload_n C 29 102 rfl rfl rfl 0 rfl ?_
        refine j_iload_n C 30 103 rfl rfl rfl 3 rfl ?_
        refine j_iconst C 31 104 rfl rfl kI_1 ?_
        refine j_iadd C 32 105 rfl rfl ?_
        refine j_sld C 33 106 rfl rfl hX hbl hbA i1 ?_
        refine j_aload_n C 34 107 rfl rfl rfl 0 rfl ?_
        refine j_iload_n C 35 108 rfl rfl rfl 3 rfl ?_
        refine j_iconst C 36 109 rfl rfl kI_2 ?_
        refine j_iadd C 37 110 rfl rfl ?_
        refine j_sld C 38 111 rfl rfl hX hbl hbA i2 ?_
        refine j_fcallVi C 39 114 rfl rfl w315 m_K_code (As := [.int (xs (nI (1 + 3 * n) + 1).toNatClampNeg), .int (xs (nI (1 + 3 * n) + 2).toNatClampNeg)]) (F := wsK h0 a cI cB) (c_K_code l D h0 a cI cB S (xs (nI (1 + 3 * n) + 1).toNatClampNeg) (xs (nI (1 + 3 * n) + 2).toNatClampNeg) _ h) ⟨rfl, rfl⟩ ⟨Nat.le_of_ble_eq_true rfl, Nat.le_of_ble_eq_true rfl⟩ 0 rfl rfl rfl rfl rfl ⟨Nat.le_of_ble_eq_true rfl, Nat.le_of_ble_eq_true rfl⟩ (Nat.le_of_ble_eq_true rfl) rfl (fun r S1 h => ?_)
        refine j_swap ?_
        refine j_aload_n C 40 115 rfl rfl rfl 2 rfl ?_
        refine j_aload_n C 41 116 rfl rfl rfl 0 rfl ?_
        refine j_iload_n C 42 117 rfl rfl rfl 3 rfl ?_
        refine j_iconst C 43 118 rfl rfl kI_1 ?_
        refine j_iadd C 44 119 rfl rfl ?_
        refine j_sld C 45 120 rfl rfl hX hbl hbA i1 ?_
        refine j_aload_n C 46 121 rfl rfl rfl 0 rfl ?_
        refine j_iload_n C 47 122 rfl rfl rfl 3 rfl ?_
        refine j_iconst C 48 123 rfl rfl kI_2 ?_
        refine j_iadd C 49 124 rfl rfl ?_
        refine j_sld C 50 125 rfl rfl hX hbl hbA i2 ?_
        refine j_fcallVi C 51 128 rfl rfl w783 m_M_code (As := [.int (xs (nI (1 + 3 * n) + 1).toNatClampNeg), .int (xs (nI (1 + 3 * n) + 2).toNatClampNeg)]) (F := wsM g0 bb cI cB) (c_M_code l D g0 bb cI cB T (xs (nI (1 + 3 * n) + 1).toNatClampNeg) (xs (nI (1 + 3 * n) + 2).toNatClampNeg) _ h) ⟨rfl, rfl⟩ ⟨Nat.le_of_ble_eq_true rfl, Nat.le_of_ble_eq_true rfl⟩ 0 rfl rfl rfl rfl rfl ⟨Nat.le_of_ble_eq_true rfl, Nat.le_of_ble_eq_true rfl⟩ (Nat.le_of_ble_eq_true rfl) rfl (fun r2 T1 h => ?_)
        refine j_swap ?_
        refine j_icmp_eq C 52 383 131 rfl (by decide) rfl (fun c3 => ?_) (fun c3 => ?_)
        · exact hnext a S1 T1 h.2
        · exact absurd h.1 c3
      · have h := ite_t (ite_f hw n0) k1
        refine j_aload_n C 55 134 rfl rfl rfl 1 rfl ?_
        refine j_aload_n C 56 135 rfl rfl rfl 0 rfl ?_
        refine j_iload_n C 57 136 rfl rfl rfl 3 rfl ?_
        refine j_iconst C 58 137 rfl rfl kI_1 ?_
        refine j_iadd C 59 138 rfl rfl ?_
        refine j_sld C 60 139 rfl rfl hX hbl hbA i1 ?_
        refine j_aload_n C 61 140 rfl rfl rfl 0 rfl ?_
        refine j_iload_n C 62 141 rfl rfl rfl 3 rfl ?_
        refine j_iconst C 63 142 rfl rfl kI_2 ?_
        refine j_iadd C 64 143 rfl rfl ?_
        refine j_sld C 65 144 rfl rfl hX hbl hbA i2 ?_
        refine j_fcallVi C 66 147 rfl rfl w319 m_K_data (As := [.int (xs (nI (1 + 3 * n) + 1).toNatClampNeg), .int (xs (nI (1 + 3 * n) + 2).toNatClampNeg)]) (F := wsK h0 a cI cB) (c_K_data l D h0 a cI cB S (xs (nI (1 + 3 * n) + 1).toNatClampNeg) (xs (nI (1 + 3 * n) + 2).toNatClampNeg) _ h) ⟨rfl, rfl⟩ ⟨Nat.le_of_ble_eq_true rfl, Nat.le_of_ble_eq_true rfl⟩ 0 rfl rfl rfl rfl rfl ⟨Nat.le_of_ble_eq_true rfl, Nat.le_of_ble_eq_true rfl⟩ (Nat.le_of_ble_eq_true rfl) rfl (fun r S1 h => ?_)
        refine j_swap ?_
        refine j_aload_n C 67 148 rfl rfl rfl 2 rfl ?_
        refine j_aload_n C 68 149 rfl rfl rfl 0 rfl ?_
        refine j_iload_n C 69 150 rfl rfl rfl 3 rfl ?_
        refine j_iconst C 70 151 rfl rfl kI_1 ?_
        refine j_iadd C 71 152 rfl rfl ?_
        refine j_sld C 72 153 rfl rfl hX hbl hbA i1 ?_
        refine j_aload_n C 73 154 rfl rfl rfl 0 rfl ?_
        refine j_iload_n C 74 155 rfl rfl rfl 3 rfl ?_
        refine j_iconst C 75 156 rfl rfl kI_2 ?_
        refine j_iadd C 76 157 rfl rfl ?_
        refine j_sld C 77 158 rfl rfl hX hbl hbA i2 ?_
        refine j_fcallVi C 78 161 rfl rfl w787 m_M_data (As := [.int (xs (nI (1 + 3 * n) + 1).toNatClampNeg), .int (xs (nI (1 + 3 * n) + 2).toNatClampNeg)]) (F := wsM g0 bb cI cB) (c_M_data l D g0 bb cI cB T (xs (nI (1 + 3 * n) + 1).toNatClampNeg) (xs (nI (1 + 3 * n) + 2).toNatClampNeg) _ h) ⟨rfl, rfl⟩ ⟨Nat.le_of_ble_eq_true rfl, Nat.le_of_ble_eq_true rfl⟩ 0 rfl rfl rfl rfl rfl ⟨Nat.le_of_ble_eq_true rfl, Nat.le_of_ble_eq_true rfl⟩ (Nat.le_of_ble_eq_true rfl) rfl (fun r2 T1 h => ?_)
        refine j_swap ?_
        refine j_icmp_eq C 79 383 164 rfl (by decide) rfl (fun c3 => ?_) (fun c3 => ?_)
        · exact hnext a S1 T1 h.2
        · exact absurd h.1 c3
      · have h := ite_t (ite_f (ite_f hw n0) n1) k2
        refine j_aload_n C 82 167 rfl rfl rfl 1 rfl ?_
        refine j_aload_n C 83 168 rfl rfl rfl 0 rfl ?_
        refine j_iload_n C 84 169 rfl rfl rfl 3 rfl ?_
        refine j_iconst C 85 170 rfl rfl kI_1 ?_
        refine j_iadd C 86 171 rfl rfl ?_
        refine j_sld C 87 172 rfl rfl hX hbl hbA i1 ?_
        refine j_fcallVi C 88 175 rfl rfl w333 m_K_lines (As := [.int (xs (nI (1 + 3 * n) + 1).toNatClampNeg)]) (F := wsK h0 a cI cB) (c_K_lines l D h0 a cI cB S (xs (nI (1 + 3 * n) + 1).toNatClampNeg) _ h) ⟨rfl, rfl⟩ ⟨Nat.le_of_ble_eq_true rfl, Nat.le_of_ble_eq_true rfl⟩ 0 rfl rfl rfl rfl rfl ⟨Nat.le_of_ble_eq_true rfl, Nat.le_of_ble_eq_true rfl⟩ (Nat.le_of_ble_eq_true rfl) rfl (fun r S1 h => ?_)
        refine j_swap ?_
        refine j_aload_n C 89 176 rfl rfl rfl 2 rfl ?_
        refine j_aload_n C 90 177 rfl rfl rfl 0 rfl ?_
        refine j_iload_n C 91 178 rfl rfl rfl 3 rfl ?_
        refine j_iconst C 92 179 rfl rfl kI_1 ?_
        refine j_iadd C 93 180 rfl rfl ?_
        refine j_sld C 94 181 rfl rfl hX hbl hbA i1 ?_
        refine j_fcallVi C 95 184 rfl rfl w794 m_M_lines (As := [.int (xs (nI (1 + 3 * n) + 1).toNatClampNeg)]) (F := wsM g0 bb cI cB) (c_M_lines l D g0 bb cI cB T (xs (nI (1 + 3 * n) + 1).toNatClampNeg) _ h) ⟨rfl, rfl⟩ ⟨Nat.le_of_ble_eq_true rfl, Nat.le_of_ble_eq_true rfl⟩ 0 rfl rfl rfl rfl rfl ⟨Nat.le_of_ble_eq_true rfl, Nat.le_of_ble_eq_true rfl⟩ (Nat.le_of_ble_eq_true rfl) rfl (fun r2 T1 h => ?_)
        refine j_swap ?_
        refine j_icmp_eq C 96 383 187 rfl (by decide) rfl (fun c3 => ?_) (fun c3 => ?_)
        · exact hnext a S1 T1 h.2
        · exact absurd h.1 c3
      · have h := ite_t (ite_f (ite_f (ite_f hw n0) n1) n2) k3
        refine j_aload_n C 99 190 rfl rfl rfl 1 rfl ?_
        refine j_aload_n C 100 191 rfl rfl rfl 0 rfl ?_
        refine j_iload_n C 101 192 rfl rfl rfl 3 rfl ?_
        refine j_iconst C 102 193 rfl rfl kI_1 ?_
        refine j_iadd C 103 194 rfl rfl ?_
        refine j_sld C 104 195 rfl rfl hX hbl hbA i1 ?_
        refine j_fcallVi C 105 198 rfl rfl w341 m_K_run (As := [.int (xs (nI (1 + 3 * n) + 1).toNatClampNeg)]) (F := fun u : (Nat → Nat) × St => wsK h0 u.1 cI cB u.2) (c_K_run l D h0 a cI cB S (xs (nI (1 + 3 * n) + 1).toNatClampNeg) _ h) ⟨rfl, rfl⟩ ⟨Nat.le_of_ble_eq_true rfl, Nat.le_of_ble_eq_true rfl⟩ 0 rfl rfl rfl rfl rfl ⟨Nat.le_of_ble_eq_true rfl, Nat.le_of_ble_eq_true rfl⟩ (Nat.le_of_ble_eq_true rfl) rfl (fun r u h => ?_)
        obtain ⟨a1, S1⟩ := u
        dsimp only at h ⊢
        refine j_swap ?_
        refine j_aload_n C 106 199 rfl rfl rfl 2 rfl ?_
        refine j_aload_n C 107 200 rfl rfl rfl 0 rfl ?_
        refine j_iload_n C 108 201 rfl rfl rfl 3 rfl ?_
        refine j_iconst C 109 202 rfl rfl kI_1 ?_
        refine j_iadd C 110 203 rfl rfl ?_
        refine j_sld C 111 204 rfl rfl hX hbl hbA i1 ?_
        refine j_fcallVi C 112 207 rfl rfl w798 m_M_run (As := [.int (xs (nI (1 + 3 * n) + 1).toNatClampNeg)]) (F := wsM g0 bb cI cB) (c_M_run l D g0 bb cI cB T (xs (nI (1 + 3 * n) + 1).toNatClampNeg) _ h) ⟨rfl, rfl⟩ ⟨Nat.le_of_ble_eq_true rfl, Nat.le_of_ble_eq_true rfl⟩ 0 rfl rfl rfl rfl rfl ⟨Nat.le_of_ble_eq_true rfl, Nat.le_of_ble_eq_true rfl⟩ (Nat.le_of_ble_eq_true rfl) rfl (fun r2 T1 h => ?_)
        refine j_swap ?_
        refine j_icmp_eq C 113 383 210 rfl (by decide) rfl (fun c3 => ?_) (fun c3 => ?_)
        · exact hnext a1 S1 T1 h.2
        · exact absurd h.1 c3
      · have h := ite_t (ite_f (ite_f (ite_f (ite_f hw n0) n1) n2) n3) k4
        refine j_aload_n C 116 213 rfl rfl rfl 1 rfl ?_
        refine j_aload_n C 117 214 rfl rfl rfl 0 rfl ?_
        refine j_iload_n C 118 215 rfl rfl rfl 3 rfl ?_
        refine j_iconst C 119 216 rfl rfl kI_1 ?_
        refine j_iadd C 120 217 rfl rfl ?_
        refine j_sld C 121 218 rfl rfl hX hbl hbA i1 ?_
        refine j_fcallVi C 122 221 rfl rfl w559 m_K_reg (As := [.int (xs (nI (1 + 3 * n) + 1).toNatClampNeg)]) (F := wsK h0 a cI cB) (c_K_reg l D h0 a cI cB S (xs (nI (1 + 3 * n) + 1).toNatClampNeg) _ h) ⟨rfl, rfl⟩ ⟨Nat.le_of_ble_eq_true rfl, Nat.le_of_ble_eq_true rfl⟩ 0 rfl rfl rfl rfl rfl ⟨Nat.le_of_ble_eq_true rfl, Nat.le_of_ble_eq_true rfl⟩ (Nat.le_of_ble_eq_true rfl) rfl (fun r S1 h => ?_)
        refine j_swap ?_
        refine j_aload_n C 123 222 rfl rfl rfl 2 rfl ?_
        refine j_aload_n C 124 223 rfl rfl rfl 0 rfl ?_
        refine j_iload_n C 125 224 rfl rfl rfl 3 rfl ?_
        refine j_iconst C 126 225 rfl rfl kI_1 ?_
        refine j_iadd C 127 226 rfl rfl ?_
        refine j_sld C 128 227 rfl rfl hX hbl hbA i1 ?_
        refine j_fcallVi C 129 230 rfl rfl w959 m_M_reg (As := [.int (xs (nI (1 + 3 * n) + 1).toNatClampNeg)]) (F := wsM g0 bb cI cB) (c_M_reg l D g0 bb cI cB T (xs (nI (1 + 3 * n) + 1).toNatClampNeg) _ h) ⟨rfl, rfl⟩ ⟨Nat.le_of_ble_eq_true rfl, Nat.le_of_ble_eq_true rfl⟩ 0 rfl rfl rfl rfl rfl ⟨Nat.le_of_ble_eq_true rfl, Nat.le_of_ble_eq_true rfl⟩ (Nat.le_of_ble_eq_true rfl) rfl (fun r2 T1 h => ?_)
        refine j_swap ?_
        refine j_icmp_eq C 130 383 233 rfl (by decide) rfl (fun c3 => ?_) (fun c3 => ?_)
        · exact hnext a S1 T1 h.2
        · exact absurd h.1 c3
      · have h := ite_t (ite_f (ite_f (ite_f (ite_f (ite_f hw n0) n1) n2) n3) n4) k5
        refine j_aload_n C 133 236 rfl rfl rfl 1 rfl ?_
        refine j_aload_n C 134 237 rfl rfl rfl 0 rfl ?_
        refine j_iload_n C 135 238 rfl rfl rfl 3 rfl ?_
        refine j_iconst C 136 239 rfl rfl kI_1 ?_
        refine j_iadd C 137 240 rfl rfl ?_
        refine j_sld C 138 241 rfl rfl hX hbl hbA i1 ?_
        refine j_fcallVi C 139 244 rfl rfl w563 m_K_control (As := [.int (xs (nI (1 + 3 * n) + 1).toNatClampNeg)]) (F := wsK h0 a cI cB) (c_K_control l D h0 a cI cB S (xs (nI (1 + 3 * n) + 1).toNatClampNeg) _ h) ⟨rfl, rfl⟩ ⟨Nat.le_of_ble_eq_true rfl, Nat.le_of_ble_eq_true rfl⟩ 0 rfl rfl rfl rfl rfl ⟨Nat.le_of_ble_eq_true rfl, Nat.le_of_ble_eq_true rfl⟩ (Nat.le_of_ble_eq_true rfl) rfl (fun r S1 h => ?_)
        refine j_swap ?_
        refine j_aload_n C 140 245 rfl rfl rfl 2 rfl ?_
        refine j_aload_n C 141 246 rfl rfl rfl 0 rfl ?_
        refine j_iload_n C 142 247 rfl rfl rfl 3 rfl ?_
        refine j_iconst C 143 248 rfl rfl kI_1 ?_
        refine j_iadd C 144 249 rfl rfl ?_
        refine j_sld C 145 250 rfl rfl hX hbl hbA i1 ?_
        refine j_fcallVi C 146 253 rfl rfl w963 m_M_control (As := [.int (xs (nI (1 + 3 * n) + 1).toNatClampNeg)]) (F := wsM g0 bb cI cB) (c_M_control l D g0 bb cI cB T (xs (nI (1 + 3 * n) + 1).toNatClampNeg) _ h) ⟨rfl, rfl⟩ ⟨Nat.le_of_ble_eq_true rfl, Nat.le_of_ble_eq_true rfl⟩ 0 rfl rfl rfl rfl rfl ⟨Nat.le_of_ble_eq_true rfl, Nat.le_of_ble_eq_true rfl⟩ (Nat.le_of_ble_eq_true rfl) rfl (fun r2 T1 h => ?_)
        refine j_swap ?_
        refine j_icmp_eq C 147 383 256 rfl (by decide) rfl (fun c3 => ?_) (fun c3 => ?_)
        · exact hnext a S1 T1 h.2
        · exact absurd h.1 c3
      · have h := ite_t (ite_f (ite_f (ite_f (ite_f (ite_f (ite_f hw n0) n1) n2) n3) n4) n5) k6
        refine j_aload_n C 150 259 rfl rfl rfl 1 rfl ?_
        refine j_aload_n C 151 260 rfl rfl rfl 0 rfl ?_
        refine j_iload_n C 152 261 rfl rfl rfl 3 rfl ?_
        refine j_iconst C 153 262 rfl rfl kI_1 ?_
        refine j_iadd C 154 263 rfl rfl ?_
        refine j_sld C 155 264 rfl rfl hX hbl hbA i1 ?_
        refine j_fcallVi C 156 267 rfl rfl w568 m_K_word (As := [.int (xs (nI (1 + 3 * n) + 1).toNatClampNeg)]) (F := wsK h0 a cI cB) (c_K_word l D h0 a cI cB S (xs (nI (1 + 3 * n) + 1).toNatClampNeg) _ h) ⟨rfl, rfl⟩ ⟨Nat.le_of_ble_eq_true rfl, Nat.le_of_ble_eq_true rfl⟩ 0 rfl rfl rfl rfl rfl ⟨Nat.le_of_ble_eq_true rfl, Nat.le_of_ble_eq_true rfl⟩ (Nat.le_of_ble_eq_true rfl) rfl (fun r S1 h => ?_)
        refine j_swap ?_
        refine j_aload_n C 157 268 rfl rfl rfl 2 rfl ?_
        refine j_aload_n C 158 269 rfl rfl rfl 0 rfl ?_
        refine j_iload_n C 159 270 rfl rfl rfl 3 rfl ?_
        refine j_iconst C 160 271 rfl rfl kI_1 ?_
        refine j_iadd C 161 272 rfl rfl ?_
        refine j_sld C 162 273 rfl rfl hX hbl hbA i1 ?_
        refine j_fcallVi C 163 276 rfl rfl w967 m_M_word (As := [.int (xs (nI (1 + 3 * n) + 1).toNatClampNeg)]) (F := wsM g0 bb cI cB) (c_M_word l D g0 bb cI cB T (xs (nI (1 + 3 * n) + 1).toNatClampNeg) _ h) ⟨rfl, rfl⟩ ⟨Nat.le_of_ble_eq_true rfl, Nat.le_of_ble_eq_true rfl⟩ 0 rfl rfl rfl rfl rfl ⟨Nat.le_of_ble_eq_true rfl, Nat.le_of_ble_eq_true rfl⟩ (Nat.le_of_ble_eq_true rfl) rfl (fun r2 T1 h => ?_)
        refine j_swap ?_
        refine j_icmp_eq C 164 383 279 rfl (by decide) rfl (fun c3 => ?_) (fun c3 => ?_)
        · exact hnext a S1 T1 h.2
        · exact absurd h.1 c3
      · have h := ite_t (ite_f (ite_f (ite_f (ite_f (ite_f (ite_f (ite_f hw n0) n1) n2) n3) n4) n5) n6) k7
        refine j_aload_n C 167 282 rfl rfl rfl 1 rfl ?_
        refine j_aload_n C 168 283 rfl rfl rfl 0 rfl ?_
        refine j_iload_n C 169 284 rfl rfl rfl 3 rfl ?_
        refine j_iconst C 170 285 rfl rfl kI_1 ?_
        refine j_iadd C 171 286 rfl rfl ?_
        refine j_sld C 172 287 rfl rfl hX hbl hbA i1 ?_
        refine j_aload_n C 173 288 rfl rfl rfl 0 rfl ?_
        refine j_iload_n C 174 289 rfl rfl rfl 3 rfl ?_
        refine j_iconst C 175 290 rfl rfl kI_2 ?_
        refine j_iadd C 176 291 rfl rfl ?_
        refine j_sld C 177 292 rfl rfl hX hbl hbA i2 ?_
        refine j_fcallVi C 178 295 rfl rfl w573 m_K_ended (As := [.int (xs (nI (1 + 3 * n) + 1).toNatClampNeg), .int (xs (nI (1 + 3 * n) + 2).toNatClampNeg)]) (F := wsK h0 a cI cB) (c_K_ended l D h0 a cI cB S (xs (nI (1 + 3 * n) + 1).toNatClampNeg) (xs (nI (1 + 3 * n) + 2).toNatClampNeg) _ h) ⟨rfl, rfl⟩ ⟨Nat.le_of_ble_eq_true rfl, Nat.le_of_ble_eq_true rfl⟩ 0 rfl rfl rfl rfl rfl ⟨Nat.le_of_ble_eq_true rfl, Nat.le_of_ble_eq_true rfl⟩ (Nat.le_of_ble_eq_true rfl) rfl (fun r S1 h => ?_)
        refine j_swap ?_
        refine j_aload_n C 179 296 rfl rfl rfl 2 rfl ?_
        refine j_aload_n C 180 297 rfl rfl rfl 0 rfl ?_
        refine j_iload_n C 181 298 rfl rfl rfl 3 rfl ?_
        refine j_iconst C 182 299 rfl rfl kI_1 ?_
        refine j_iadd C 183 300 rfl rfl ?_
        refine j_sld C 184 301 rfl rfl hX hbl hbA i1 ?_
        refine j_aload_n C 185 302 rfl rfl rfl 0 rfl ?_
        refine j_iload_n C 186 303 rfl rfl rfl 3 rfl ?_
        refine j_iconst C 187 304 rfl rfl kI_2 ?_
        refine j_iadd C 188 305 rfl rfl ?_
        refine j_sld C 189 306 rfl rfl hX hbl hbA i2 ?_
        refine j_fcallVi C 190 309 rfl rfl w971 m_M_ended (As := [.int (xs (nI (1 + 3 * n) + 1).toNatClampNeg), .int (xs (nI (1 + 3 * n) + 2).toNatClampNeg)]) (F := wsM g0 bb cI cB) (c_M_ended l D g0 bb cI cB T (xs (nI (1 + 3 * n) + 1).toNatClampNeg) (xs (nI (1 + 3 * n) + 2).toNatClampNeg) _ h) ⟨rfl, rfl⟩ ⟨Nat.le_of_ble_eq_true rfl, Nat.le_of_ble_eq_true rfl⟩ 0 rfl rfl rfl rfl rfl ⟨Nat.le_of_ble_eq_true rfl, Nat.le_of_ble_eq_true rfl⟩ (Nat.le_of_ble_eq_true rfl) rfl (fun r2 T1 h => ?_)
        refine j_swap ?_
        refine j_icmp_eq C 191 383 312 rfl (by decide) rfl (fun c3 => ?_) (fun c3 => ?_)
        · exact hnext a S1 T1 h.2
        · exact absurd h.1 c3
      · have h := ite_t (ite_f (ite_f (ite_f (ite_f (ite_f (ite_f (ite_f (ite_f hw n0) n1) n2) n3) n4) n5) n6) n7) k8
        refine j_aload_n C 194 315 rfl rfl rfl 1 rfl ?_
        refine j_aload_n C 195 316 rfl rfl rfl 0 rfl ?_
        refine j_iload_n C 196 317 rfl rfl rfl 3 rfl ?_
        refine j_iconst C 197 318 rfl rfl kI_1 ?_
        refine j_iadd C 198 319 rfl rfl ?_
        refine j_sld C 199 320 rfl rfl hX hbl hbA i1 ?_
        refine j_fcallVi C 200 323 rfl rfl w593 m_K_stage (As := [.int (xs (nI (1 + 3 * n) + 1).toNatClampNeg)]) (F := wsK h0 a cI cB) (c_K_stage l D h0 a cI cB S (xs (nI (1 + 3 * n) + 1).toNatClampNeg) _ h) ⟨rfl, rfl⟩ ⟨Nat.le_of_ble_eq_true rfl, Nat.le_of_ble_eq_true rfl⟩ 0 rfl rfl rfl rfl rfl ⟨Nat.le_of_ble_eq_true rfl, Nat.le_of_ble_eq_true rfl⟩ (Nat.le_of_ble_eq_true rfl) rfl (fun r S1 h => ?_)
        refine j_swap ?_
        refine j_aload_n C 201 324 rfl rfl rfl 2 rfl ?_
        refine j_aload_n C 202 325 rfl rfl rfl 0 rfl ?_
        refine j_iload_n C 203 326 rfl rfl rfl 3 rfl ?_
        refine j_iconst C 204 327 rfl rfl kI_1 ?_
        refine j_iadd C 205 328 rfl rfl ?_
        refine j_sld C 206 329 rfl rfl hX hbl hbA i1 ?_
        refine j_fcallVi C 207 332 rfl rfl w975 m_M_stage (As := [.int (xs (nI (1 + 3 * n) + 1).toNatClampNeg)]) (F := wsM g0 bb cI cB) (c_M_stage l D g0 bb cI cB T (xs (nI (1 + 3 * n) + 1).toNatClampNeg) _ h) ⟨rfl, rfl⟩ ⟨Nat.le_of_ble_eq_true rfl, Nat.le_of_ble_eq_true rfl⟩ 0 rfl rfl rfl rfl rfl ⟨Nat.le_of_ble_eq_true rfl, Nat.le_of_ble_eq_true rfl⟩ (Nat.le_of_ble_eq_true rfl) rfl (fun r2 T1 h => ?_)
        refine j_swap ?_
        refine j_icmp_eq C 208 383 335 rfl (by decide) rfl (fun c3 => ?_) (fun c3 => ?_)
        · exact hnext a S1 T1 h.2
        · exact absurd h.1 c3
      · have h := ite_t (ite_f (ite_f (ite_f (ite_f (ite_f (ite_f (ite_f (ite_f (ite_f hw n0) n1) n2) n3) n4) n5) n6) n7) n8) k9
        refine j_aload_n C 211 338 rfl rfl rfl 1 rfl ?_
        refine j_aload_n C 212 339 rfl rfl rfl 0 rfl ?_
        refine j_iload_n C 213 340 rfl rfl rfl 3 rfl ?_
        refine j_iconst C 214 341 rfl rfl kI_1 ?_
        refine j_iadd C 215 342 rfl rfl ?_
        refine j_sld C 216 343 rfl rfl hX hbl hbA i1 ?_
        refine j_fcallVi C 217 346 rfl rfl w597 m_K_foretold (As := [.int (xs (nI (1 + 3 * n) + 1).toNatClampNeg)]) (F := wsK h0 a cI cB) (c_K_foretold l D h0 a cI cB S (xs (nI (1 + 3 * n) + 1).toNatClampNeg) _ h) ⟨rfl, rfl⟩ ⟨Nat.le_of_ble_eq_true rfl, Nat.le_of_ble_eq_true rfl⟩ 0 rfl rfl rfl rfl rfl ⟨Nat.le_of_ble_eq_true rfl, Nat.le_of_ble_eq_true rfl⟩ (Nat.le_of_ble_eq_true rfl) rfl (fun r S1 h => ?_)
        refine j_swap ?_
        refine j_aload_n C 218 347 rfl rfl rfl 2 rfl ?_
        refine j_aload_n C 219 348 rfl rfl rfl 0 rfl ?_
        refine j_iload_n C 220 349 rfl rfl rfl 3 rfl ?_
        refine j_iconst C 221 350 rfl rfl kI_1 ?_
        refine j_iadd C 222 351 rfl rfl ?_
        refine j_sld C 223 352 rfl rfl hX hbl hbA i1 ?_
        refine j_fcallVi C 224 355 rfl rfl w980 m_M_foretold (As := [.int (xs (nI (1 + 3 * n) + 1).toNatClampNeg)]) (F := wsM g0 bb cI cB) (c_M_foretold l D g0 bb cI cB T (xs (nI (1 + 3 * n) + 1).toNatClampNeg) _ h) ⟨rfl, rfl⟩ ⟨Nat.le_of_ble_eq_true rfl, Nat.le_of_ble_eq_true rfl⟩ 0 rfl rfl rfl rfl rfl ⟨Nat.le_of_ble_eq_true rfl, Nat.le_of_ble_eq_true rfl⟩ (Nat.le_of_ble_eq_true rfl) rfl (fun r2 T1 h => ?_)
        refine j_swap ?_
        refine j_icmp_eq C 225 383 358 rfl (by decide) rfl (fun c3 => ?_) (fun c3 => ?_)
        · exact hnext a S1 T1 h.2
        · exact absurd h.1 c3
      · have h := ite_t (ite_f (ite_f (ite_f (ite_f (ite_f (ite_f (ite_f (ite_f (ite_f (ite_f hw n0) n1) n2) n3) n4) n5) n6) n7) n8) n9) k10
        refine j_aload_n C 228 361 rfl rfl rfl 1 rfl ?_
        refine j_aload_n C 229 362 rfl rfl rfl 0 rfl ?_
        refine j_iload_n C 230 363 rfl rfl rfl 3 rfl ?_
        refine j_iconst C 231 364 rfl rfl kI_1 ?_
        refine j_iadd C 232 365 rfl rfl ?_
        refine j_sld C 233 366 rfl rfl hX hbl hbA i1 ?_
        refine j_fcallVi C 234 369 rfl rfl w601 m_K_figure (As := [.int (xs (nI (1 + 3 * n) + 1).toNatClampNeg)]) (F := wsK h0 a cI cB) (c_K_figure l D h0 a cI cB S (xs (nI (1 + 3 * n) + 1).toNatClampNeg) _ h) ⟨rfl, rfl⟩ ⟨Nat.le_of_ble_eq_true rfl, Nat.le_of_ble_eq_true rfl⟩ 0 rfl rfl rfl rfl rfl ⟨Nat.le_of_ble_eq_true rfl, Nat.le_of_ble_eq_true rfl⟩ (Nat.le_of_ble_eq_true rfl) rfl (fun r S1 h => ?_)
        refine j_swap ?_
        refine j_aload_n C 235 370 rfl rfl rfl 2 rfl ?_
        refine j_aload_n C 236 371 rfl rfl rfl 0 rfl ?_
        refine j_iload_n C 237 372 rfl rfl rfl 3 rfl ?_
        refine j_iconst C 238 373 rfl rfl kI_1 ?_
        refine j_iadd C 239 374 rfl rfl ?_
        refine j_sld C 240 375 rfl rfl hX hbl hbA i1 ?_
        refine j_fcallVi C 241 378 rfl rfl w984 m_M_figure (As := [.int (xs (nI (1 + 3 * n) + 1).toNatClampNeg)]) (F := wsM g0 bb cI cB) (c_M_figure l D g0 bb cI cB T (xs (nI (1 + 3 * n) + 1).toNatClampNeg) _ h) ⟨rfl, rfl⟩ ⟨Nat.le_of_ble_eq_true rfl, Nat.le_of_ble_eq_true rfl⟩ 0 rfl rfl rfl rfl rfl ⟨Nat.le_of_ble_eq_true rfl, Nat.le_of_ble_eq_true rfl⟩ (Nat.le_of_ble_eq_true rfl) rfl (fun r2 T1 h => ?_)
        refine j_swap ?_
        refine j_icmp_eq C 242 383 381 rfl (by decide) rfl (fun c3 => ?_) (fun c3 => ?_)
        · exact hnext a S1 T1 h.2
        · exact absurd h.1 c3
      · exact hnext a S T (ite_f (ite_f (ite_f (ite_f (ite_f (ite_f (ite_f (ite_f (ite_f (ite_f (ite_f hw n0) n1) n2) n3) n4) n5) n6) n7) n8) n9) n10)
set_option maxHeartbeats 8000000 in
set_option maxRecDepth 100000 in
theorem law_start {p : Program} {e : Env} {s : State} {m : MethodId} {below : List Frame} {meth : Method} {c : Code} (l : Launch) {b L : Nat} {xs : Nat → Int32} (hL : L ≤ 1537) (C0 : lw_At p s m meth c b L xs) (I : Nat → St → St → Prop) (hinit : ∀ (p1 : Int32) (gF gC : Nat → Int32), (∀ j : Nat, j < 12 → gF j = -1) → (∀ j : Nat, j < 4 → gC j = -1) → wp_M_init_229 (fun T => I 0 (S0 p1 gF gC) T) T0 p1) (hstep : ∀ (n : Nat) (S T : St) (x x1 x2 : Int32), n < 512 → I n S T → wp_step x x1 x2 S T (I (n + 1))) : W p l e room_1 s m #[Value.ref b] below meth c s.heap [] 0 0 (lw_Z below #[Value.ref b] s) (entryFrame m ([Value.ref b] : List Value).toArray 4) := by
  obtain ⟨hx, hb, hr, hml, hown, hts, hX, hbl, hlocks, hgv⟩ := id C0
  have htg : ∀ w ∈ gw, w.before #[Value.ref b] s = true := fun w h => hts w (List.mem_filter.mp h).1
  have hbA : ¬ (fun q : Nat => s.heap.size ≤ q) b := Nat.not_le.mpr hbl
  obtain ⟨c0, iS0, hKn0⟩ := u_known (C := "PipelinedCore") (T := F_K) (N := 17) (n := 17) htg in_K (htg _ w15)
  obtain ⟨c1, iS1, hKn1⟩ := u_known (C := "PipelinedCore$Cache") (T := F_Cac) (N := 3) (n := 3) htg in_Cac (htg _ w240)
  obtain ⟨c2, iS2, hKn2⟩ := u_known (C := "PipelinedCore$Controls") (T := F_Con) (N := 8) (n := 8) htg in_Con (htg _ w23)
  obtain ⟨c3, iS3, hKn3⟩ := u_known (C := "PipelinedCore$Effect") (T := F_Eff) (N := 18) (n := 18) htg in_Eff (htg _ w159)
  obtain ⟨c4, iS4, hKn4⟩ := u_known (C := "PipelinedCore$Foreteller") (T := F_For) (N := 4) (n := 4) htg in_For (htg _ w65)
  obtain ⟨c5, iS5, hKn5⟩ := u_known (C := "PipelinedCore$History") (T := F_His) (N := 3) (n := 3) htg in_His (htg _ w87)
  obtain ⟨c6, iS6, hKn6⟩ := u_known (C := "PipelinedCore$Instruction") (T := F_Ins) (N := 12) (n := 12) htg in_Ins (htg _ w104)
  obtain ⟨c7, iS7, hKn7⟩ := u_known (C := "PipelinedCore$Store") (T := F_Sto) (N := 1) (n := 1) htg in_Sto (htg _ w55)
  obtain ⟨c8, iS8, hKn8⟩ := u_known (C := "PipelinedCoreModel") (T := F_M) (N := 56) (n := 56) htg in_M (htg _ w609)
  obtain ⟨D, hKc⟩ : ∃ D : va_G, ∀ (k : Nat) (q : vw_C), clK[k]? = some q → u_Kn s q.1 q.2.1 q.2.2 (D.1 k) (D.2 k) := by
    refine ⟨(fun k => if k = 0 then c0 else if k = 1 then c1 else if k = 2 then c2 else if k = 3 then c3 else if k = 4 then c4 else if k = 5 then c5 else if k = 6 then c6 else if k = 7 then c7 else c8, fun k => if k = 0 then iS0 else if k = 1 then iS1 else if k = 2 then iS2 else if k = 3 then iS3 else if k = 4 then iS4 else if k = 5 then iS5 else if k = 6 then iS6 else if k = 7 then iS7 else iS8), ?_⟩
    intro k q hq
    match k, hq with
    | 0, hq => cases hq; exact hKn0
    | 1, hq => cases hq; exact hKn1
    | 2, hq => cases hq; exact hKn2
    | 3, hq => cases hq; exact hKn3
    | 4, hq => cases hq; exact hKn4
    | 5, hq => cases hq; exact hKn5
    | 6, hq => cases hq; exact hKn6
    | 7, hq => cases hq; exact hKn7
    | 8, hq => cases hq; exact hKn8
    | k + 9, hq => simp [clK] at hq
  obtain ⟨cI, hI1, hI2⟩ := arr_of (htg _ w53)
  obtain ⟨cB, hB1, hB2⟩ := arr_of (htg _ w262)
  have hK : va_K D clK (tysK cI cB) s := by
    refine ⟨hKc, fun k q h => ?_⟩
    match k, h with
    | 0, h => cases h; exact ⟨hI1, hI2⟩
    | 1, h => cases h; exact ⟨hB1, hB2⟩
    | k + 2, h => simp [tysK] at h
  have C : CX p room_1 s m #[Value.ref b] meth c code 4 "PipelinedCoreLaw" ret pr_law D clK (tysK cI cB) (fun q : Nat => s.heap.size ≤ q) := ⟨⟨hx, hb, hml, hown, htg⟩, hK, fun _ h => h, dm_law, hr, hlocks⟩
  have hl := lv_entry ([.ref b]) (n := 4) (Nat.le_of_ble_eq_true rfl)
  rw [lg_entry_eq]
  have body : J p l e room_1 s m #[Value.ref b] below meth c 4 D clK (fun q : Nat => s.heap.size ≤ q) 0 0 (lw_Z below #[Value.ref b] s) [] [(0, .ref b)] 0 [] := by
    refine j_new (ci := 0) C 0 3 rfl rfl w14 w15 w1 rfl in_K t_K t_K_ok [.null, .null, .null, .null, .null, .null, .null, .null, .null, .null, .int 0, .int 0, .int 0, .int 0, .int 0, .int 0, .int 0] df_K rfl rfl ⟨Nat.le_of_ble_eq_true rfl, Nat.le_of_ble_eq_true rfl⟩ (fun h0 => ?_)
    refine j_dup C 1 4 rfl rfl rfl ?_
    refine j_aload_n C 2 5 rfl rfl rfl 0 rfl ?_
    refine j_iconst C 3 6 rfl rfl kI_0 ?_
    refine j_cell C 4 9 rfl rfl w605 hX hbl hbA (by omega) ⟨Nat.le_of_ble_eq_true rfl, Nat.le_of_ble_eq_true rfl⟩ ⟨Nat.le_of_ble_eq_true rfl, Nat.le_of_ble_eq_true rfl⟩ (Nat.le_of_ble_eq_true rfl) ?_
    refine j_fcallIv C 5 12 rfl rfl w16 mC_K (As := [.int (scr0 L xs)]) (F := fun u : (Nat → Nat) × St => wsK h0 u.1 cI cB u.2) (E := E_K) E_K_b (E_K_w (E_K_of hts)) (c_K_init l D cI cB h0 (scr0 L xs)) ⟨rfl, rfl⟩ ⟨Nat.le_of_ble_eq_true rfl, Nat.le_of_ble_eq_true rfl⟩ rfl rfl rfl ⟨Nat.le_of_ble_eq_true rfl, Nat.le_of_ble_eq_true rfl⟩ (Nat.le_of_ble_eq_true rfl) rfl (fun u hu => ?_)
    obtain ⟨a, S⟩ := u
    obtain ⟨gF, gC, e1, hgF, hgC⟩ := hu
    dsimp only at e1
    subst e1
    refine j_eqw (ws' := wsK h0 a cI cB (S0 (scr0 L xs) gF gC)) rfl ?_
    refine j_astore_n C 6 13 [(1, .ref h0), (0, .ref b)] rfl rfl rfl (by decide) rfl ?_
    refine j_new (ci := 8) C 7 16 rfl rfl w608 w609 w11 rfl in_M t_M t_M_ok [.int 0, .int 0, .null, .null, .null, .null, .int 0, .null, .null, .int 0, .int 0, .int 0, .int 0, .int 0, .int 0, .int 0, .int 0, .int 0, .null, .null, .null, .null, .null, .null, .null, .null, .null, .null, .null, .null, .null, .null, .int 0, .null, .null, .null, .null, .int 0, .null, .null, .int 0, .int 0, .int 0, .int 0, .int 0, .int 0, .int 0, .int 0, .int 0, .int 0, .int 0, .int 0, .int 0, .int 0, .int 0, .int 0] df_M rfl rfl ⟨Nat.le_of_ble_eq_true rfl, Nat.le_of_ble_eq_true rfl⟩ (fun g0 => ?_)
    refine j_dup C 8 17 rfl rfl rfl ?_
    refine j_aload_n C 9 18 rfl rfl rfl 1 rfl ?_
    refine j_iconst C 10 19 rfl rfl kI_0 ?_
    refine j_cell C 11 22 rfl rfl w605 hX hbl hbA (by omega) ⟨Nat.le_of_ble_eq_true rfl, Nat.le_of_ble_eq_true rfl⟩ ⟨Nat.le_of_ble_eq_true rfl, Nat.le_of_ble_eq_true rfl⟩ (Nat.le_of_ble_eq_true rfl) ?_
    refine j_fcallIv C 12 25 rfl rfl w610 mC_M (As := [.int (scr0 L xs)]) (F := fun u : (Nat → Nat) × St => wsM g0 u.1 cI cB u.2) (E := fun _ => True) (fun _ _ _ _ h => h) (fun _ _ => trivial) (c_M_init l D cI cB g0 (scr0 L xs) _ (hinit (scr0 L xs) gF gC hgF hgC)) ⟨rfl, rfl⟩ ⟨Nat.le_of_ble_eq_true rfl, Nat.le_of_ble_eq_true rfl⟩ rfl rfl rfl ⟨Nat.le_of_ble_eq_true rfl, Nat.le_of_ble_eq_true rfl⟩ (Nat.le_of_ble_eq_true rfl) rfl (fun u hu => ?_)
    obtain ⟨bb, T⟩ := u
    dsimp only at hu ⊢
    refine j_swap ?_
    refine j_astore_n C 13 26 [(2, .ref g0), (1, .ref h0), (0, .ref b)] rfl rfl rfl (by decide) rfl ?_
    refine j_iconst C 14 27 rfl rfl kI_1 ?_
    refine j_istore_n C 15 28 [(3, .int 1), (2, .ref g0), (1, .ref h0), (0, .ref b)] rfl rfl rfl (by decide) rfl ?_
    refine j_sub [3, 2, 1, 0] rfl ?_
    exact law_loop hL C hlocks hX hbl I hstep 512 0 a _ T (by omega) (by omega) hu
  exact body s.heap [] _ (fun k q h => by simp at h) ⟨fun i j p q h => by simp at h, fun k q h => by simp at h⟩ va_S.rf hl
