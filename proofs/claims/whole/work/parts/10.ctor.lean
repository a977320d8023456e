theorem mC_Con : mC y_Con_init b_Con_init 1 0 := ⟨rfl, w25, w2, w26, by decide +kernel, by decide +kernel, by decide +kernel⟩
theorem df_Con : ∀ j, j < 8 → defaultValue (t_Con j) = vp_V [.int 0, .int 0, .int 0, .int 0, .int 0, .int 0, .int 0, .int 0] j := by
  intro j hj
  match j, hj with
  | 0, _ => rfl
  | 1, _ => rfl
  | 2, _ => rfl
  | 3, _ => rfl
  | 4, _ => rfl
  | 5, _ => rfl
  | 6, _ => rfl
  | 7, _ => rfl
  | j + 8, hj => exact absurd hj (by omega)
theorem mC_Ins : mC y_Ins_init b_Ins_init 1 0 := ⟨rfl, w106, w7, w107, by decide +kernel, by decide +kernel, by decide +kernel⟩
theorem df_Ins : ∀ j, j < 12 → defaultValue (t_Ins j) = vp_V [.int 0, .int 0, .int 0, .int 0, .int 0, .int 0, .int 0, .int 0, .int 0, .int 0, .int 0, .int 0] j := by
  intro j hj
  match j, hj with
  | 0, _ => rfl
  | 1, _ => rfl
  | 2, _ => rfl
  | 3, _ => rfl
  | 4, _ => rfl
  | 5, _ => rfl
  | 6, _ => rfl
  | 7, _ => rfl
  | 8, _ => rfl
  | 9, _ => rfl
  | 10, _ => rfl
  | 11, _ => rfl
  | j + 12, hj => exact absurd hj (by omega)
theorem mC_Eff : mC y_Eff_init b_Eff_init 1 0 := ⟨rfl, w161, w8, w162, by decide +kernel, by decide +kernel, by decide +kernel⟩
theorem df_Eff : ∀ j, j < 18 → defaultValue (t_Eff j) = vp_V [.int 0, .int 0, .int 0, .int 0, .int 0, .int 0, .int 0, .int 0, .int 0, .int 0, .int 0, .int 0, .int 0, .int 0, .int 0, .int 0, .int 0, .int 0] j := by
  intro j hj
  match j, hj with
  | 0, _ => rfl
  | 1, _ => rfl
  | 2, _ => rfl
  | 3, _ => rfl
  | 4, _ => rfl
  | 5, _ => rfl
  | 6, _ => rfl
  | 7, _ => rfl
  | 8, _ => rfl
  | 9, _ => rfl
  | 10, _ => rfl
  | 11, _ => rfl
  | 12, _ => rfl
  | 13, _ => rfl
  | 14, _ => rfl
  | 15, _ => rfl
  | 16, _ => rfl
  | 17, _ => rfl
  | j + 18, hj => exact absurd hj (by omega)
theorem mC_Sto : mC y_Sto_init b_Sto_init 1 0 := ⟨rfl, w57, w3, w58, by decide +kernel, by decide +kernel, by decide +kernel⟩
theorem df_Sto : ∀ j, j < 1 → defaultValue (t_Sto j) = vp_V [.null] j := by
  intro j hj
  match j, hj with
  | 0, _ => rfl
  | j + 1, hj => exact absurd hj (by omega)
theorem fF_Sto_9 : fF clK "PipelinedCore$Store" 9 7 0 (.array .int) := ⟨_, F_Sto, 1, t_Sto, rfl, in_Sto, by decide, w60, t_Sto_ok, n_Sto, rfl, by decide +kernel, rfl⟩
theorem mC_His : mC y_His_init b_His_init 1 0 := ⟨rfl, w89, w6, w90, by decide +kernel, by decide +kernel, by decide +kernel⟩
theorem df_His : ∀ j, j < 3 → defaultValue (t_His j) = vp_V [.null, .null, .int 0] j := by
  intro j hj
  match j, hj with
  | 0, _ => rfl
  | 1, _ => rfl
  | 2, _ => rfl
  | j + 3, hj => exact absurd hj (by omega)
theorem fF_His_9 : fF clK "PipelinedCore$History" 9 5 0 (.array .int) := ⟨_, F_His, 3, t_His, rfl, in_His, by decide, w92, t_His_ok, n_His, rfl, by decide +kernel, rfl⟩
theorem fF_His_13 : fF clK "PipelinedCore$History" 13 5 1 (.array .int) := ⟨_, F_His, 3, t_His, rfl, in_His, by decide, w93, t_His_ok, n_His, rfl, by decide +kernel, rfl⟩
theorem mC_For : mC y_For_init b_For_init 1 0 := ⟨rfl, w67, w4, w68, by decide +kernel, by decide +kernel, by decide +kernel⟩
theorem df_For : ∀ j, j < 4 → defaultValue (t_For j) = vp_V [.null, .null, .null, .null] j := by
  intro j hj
  match j, hj with
  | 0, _ => rfl
  | 1, _ => rfl
  | 2, _ => rfl
  | 3, _ => rfl
  | j + 4, hj => exact absurd hj (by omega)
theorem fF_For_9 : fF clK "PipelinedCore$Foreteller" 9 4 0 (.array .int) := ⟨_, F_For, 4, t_For, rfl, in_For, by decide, w73, t_For_ok, n_For, rfl, by decide +kernel, rfl⟩
theorem fF_For_13 : fF clK "PipelinedCore$Foreteller" 13 4 1 (.array .int) := ⟨_, F_For, 4, t_For, rfl, in_For, by decide, w74, t_For_ok, n_For, rfl, by decide +kernel, rfl⟩
theorem fF_For_16 : fF clK "PipelinedCore$Foreteller" 16 4 2 (.array .int) := ⟨_, F_For, 4, t_For, rfl, in_For, by decide, w75, t_For_ok, n_For, rfl, by decide +kernel, rfl⟩
theorem fF_For_19 : fF clK "PipelinedCore$Foreteller" 19 4 3 (.array .int) := ⟨_, F_For, 4, t_For, rfl, in_For, by decide, w76, t_For_ok, n_For, rfl, by decide +kernel, rfl⟩
theorem mC_Cac : mC y_Cac_init b_Cac_init 2 1 := ⟨rfl, w242, w9, w243, by decide +kernel, by decide +kernel, by decide +kernel⟩
theorem df_Cac : ∀ j, j < 3 → defaultValue (t_Cac j) = vp_V [.int 0, .null, .null] j := by
  intro j hj
  match j, hj with
  | 0, _ => rfl
  | 1, _ => rfl
  | 2, _ => rfl
  | j + 3, hj => exact absurd hj (by omega)
theorem fF_Cac_26 : fF clK "PipelinedCore$Cache" 26 1 0 (.int) := ⟨_, F_Cac, 3, t_Cac, rfl, in_Cac, by decide, w252, t_Cac_ok, n_Cac, rfl, by decide +kernel, rfl⟩
theorem fF_Cac_9 : fF clK "PipelinedCore$Cache" 9 1 1 (.array .int) := ⟨_, F_Cac, 3, t_Cac, rfl, in_Cac, by decide, w253, t_Cac_ok, n_Cac, rfl, by decide +kernel, rfl⟩
theorem fF_Cac_13 : fF clK "PipelinedCore$Cache" 13 1 2 (.array .boolean) := ⟨_, F_Cac, 3, t_Cac, rfl, in_Cac, by decide, w254, t_Cac_ok, n_Cac, rfl, by decide +kernel, rfl⟩
theorem mC_K : mC y_K_init b_K_init 2 1 := ⟨rfl, w17, w1, w18, by decide +kernel, by decide +kernel, by decide +kernel⟩
theorem df_K : ∀ j, j < 17 → defaultValue (t_K j) = vp_V [.null, .null, .null, .null, .null, .null, .null, .null, .null, .null, .int 0, .int 0, .int 0, .int 0, .int 0, .int 0, .int 0] j := by
  intro j hj
  match j, hj with
  | 0, _ => rfl
  | 1, _ => rfl
  | 2, _ => rfl
  | 3, _ => rfl
  | 4, _ => rfl
  | 5, _ => rfl
  | 6, _ => rfl
  | 7, _ => rfl
  | 8, _ => rfl
  | 9, _ => rfl
  | 10, _ => rfl
  | 11, _ => rfl
  | 12, _ => rfl
  | 13, _ => rfl
  | 14, _ => rfl
  | 15, _ => rfl
  | 16, _ => rfl
  | j + 17, hj => exact absurd hj (by omega)
theorem fF_K_9 : fF clK "PipelinedCore" 9 0 0 (.array .int) := ⟨_, F_K, 17, t_K, rfl, in_K, by decide, w263, t_K_ok, n_K, rfl, by decide +kernel, rfl⟩
theorem fF_K_13 : fF clK "PipelinedCore" 13 0 1 (.array .int) := ⟨_, F_K, 17, t_K, rfl, in_K, by decide, w264, t_K_ok, n_K, rfl, by decide +kernel, rfl⟩
theorem fF_K_19 : fF clK "PipelinedCore" 19 0 2 (.object "PipelinedCore$Controls") := ⟨_, F_K, 17, t_K, rfl, in_K, by decide, w265, t_K_ok, n_K, rfl, by decide +kernel, rfl⟩
theorem fF_K_26 : fF clK "PipelinedCore" 26 0 3 (.object "PipelinedCore$Store") := ⟨_, F_K, 17, t_K, rfl, in_K, by decide, w266, t_K_ok, n_K, rfl, by decide +kernel, rfl⟩
theorem fF_K_66 : fF clK "PipelinedCore" 66 0 4 (.object "PipelinedCore$Cache") := ⟨_, F_K, 17, t_K, rfl, in_K, by decide, w267, t_K_ok, n_K, rfl, by decide +kernel, rfl⟩
theorem fF_K_33 : fF clK "PipelinedCore" 33 0 5 (.object "PipelinedCore$Foreteller") := ⟨_, F_K, 17, t_K, rfl, in_K, by decide, w268, t_K_ok, n_K, rfl, by decide +kernel, rfl⟩
theorem fF_K_40 : fF clK "PipelinedCore" 40 0 6 (.object "PipelinedCore$History") := ⟨_, F_K, 17, t_K, rfl, in_K, by decide, w269, t_K_ok, n_K, rfl, by decide +kernel, rfl⟩
theorem fF_K_47 : fF clK "PipelinedCore" 47 0 7 (.object "PipelinedCore$Instruction") := ⟨_, F_K, 17, t_K, rfl, in_K, by decide, w270, t_K_ok, n_K, rfl, by decide +kernel, rfl⟩
theorem mC_M : mC y_M_init b_M_init 3 1 := ⟨rfl, w611, w11, w612, by decide +kernel, by decide +kernel, by decide +kernel⟩
theorem df_M : ∀ j, j < 56 → defaultValue (t_M j) = vp_V [.int 0, .int 0, .null, .null, .null, .null, .int 0, .null, .null, .int 0, .int 0, .int 0, .int 0, .int 0, .int 0, .int 0, .int 0, .int 0, .null, .null, .null, .null, .null, .null, .null, .null, .null, .null, .null, .null, .null, .null, .int 0, .null, .null, .null, .null, .int 0, .null, .null, .int 0, .int 0, .int 0, .int 0, .int 0, .int 0, .int 0, .int 0, .int 0, .int 0, .int 0, .int 0, .int 0, .int 0, .int 0, .int 0] j := by
  intro j hj
  match j, hj with
  | 0, _ => rfl
  | 1, _ => rfl
  | 2, _ => rfl
  | 3, _ => rfl
  | 4, _ => rfl
  | 5, _ => rfl
  | 6, _ => rfl
  | 7, _ => rfl
  | 8, _ => rfl
  | 9, _ => rfl
  | 10, _ => rfl
  | 11, _ => rfl
  | 12, _ => rfl
  | 13, _ => rfl
  | 14, _ => rfl
  | 15, _ => rfl
  | 16, _ => rfl
  | 17, _ => rfl
  | 18, _ => rfl
  | 19, _ => rfl
  | 20, _ => rfl
  | 21, _ => rfl
  | 22, _ => rfl
  | 23, _ => rfl
  | 24, _ => rfl
  | 25, _ => rfl
  | 26, _ => rfl
  | 27, _ => rfl
  | 28, _ => rfl
  | 29, _ => rfl
  | 30, _ => rfl
  | 31, _ => rfl
  | 32, _ => rfl
  | 33, _ => rfl
  | 34, _ => rfl
  | 35, _ => rfl
  | 36, _ => rfl
  | 37, _ => rfl
  | 38, _ => rfl
  | 39, _ => rfl
  | 40, _ => rfl
  | 41, _ => rfl
  | 42, _ => rfl
  | 43, _ => rfl
  | 44, _ => rfl
  | 45, _ => rfl
  | 46, _ => rfl
  | 47, _ => rfl
  | 48, _ => rfl
  | 49, _ => rfl
  | 50, _ => rfl
  | 51, _ => rfl
  | 52, _ => rfl
  | 53, _ => rfl
  | 54, _ => rfl
  | 55, _ => rfl
  | j + 56, hj => exact absurd hj (by omega)
theorem fF_M_7 : fF clK "PipelinedCoreModel" 7 8 2 (.array .int) := ⟨_, F_M, 56, t_M, rfl, in_M, by decide, w616, t_M_ok, n_M, rfl, by decide +kernel, rfl⟩
theorem fF_M_13 : fF clK "PipelinedCoreModel" 13 8 3 (.array .int) := ⟨_, F_M, 56, t_M, rfl, in_M, by decide, w617, t_M_ok, n_M, rfl, by decide +kernel, rfl⟩
theorem fF_M_16 : fF clK "PipelinedCoreModel" 16 8 4 (.array .int) := ⟨_, F_M, 56, t_M, rfl, in_M, by decide, w618, t_M_ok, n_M, rfl, by decide +kernel, rfl⟩
theorem fF_M_19 : fF clK "PipelinedCoreModel" 19 8 5 (.array .int) := ⟨_, F_M, 56, t_M, rfl, in_M, by decide, w619, t_M_ok, n_M, rfl, by decide +kernel, rfl⟩
theorem fF_M_22 : fF clK "PipelinedCoreModel" 22 8 7 (.array .int) := ⟨_, F_M, 56, t_M, rfl, in_M, by decide, w621, t_M_ok, n_M, rfl, by decide +kernel, rfl⟩
theorem fF_M_25 : fF clK "PipelinedCoreModel" 25 8 8 (.array .int) := ⟨_, F_M, 56, t_M, rfl, in_M, by decide, w622, t_M_ok, n_M, rfl, by decide +kernel, rfl⟩
theorem fF_M_32 : fF clK "PipelinedCoreModel" 32 8 18 (.array .int) := ⟨_, F_M, 56, t_M, rfl, in_M, by decide, w632, t_M_ok, n_M, rfl, by decide +kernel, rfl⟩
theorem fF_M_35 : fF clK "PipelinedCoreModel" 35 8 19 (.array .int) := ⟨_, F_M, 56, t_M, rfl, in_M, by decide, w633, t_M_ok, n_M, rfl, by decide +kernel, rfl⟩
theorem fF_M_38 : fF clK "PipelinedCoreModel" 38 8 20 (.array .int) := ⟨_, F_M, 56, t_M, rfl, in_M, by decide, w634, t_M_ok, n_M, rfl, by decide +kernel, rfl⟩
theorem fF_M_41 : fF clK "PipelinedCoreModel" 41 8 21 (.array .int) := ⟨_, F_M, 56, t_M, rfl, in_M, by decide, w635, t_M_ok, n_M, rfl, by decide +kernel, rfl⟩
theorem fF_M_44 : fF clK "PipelinedCoreModel" 44 8 22 (.array .int) := ⟨_, F_M, 56, t_M, rfl, in_M, by decide, w636, t_M_ok, n_M, rfl, by decide +kernel, rfl⟩
theorem fF_M_47 : fF clK "PipelinedCoreModel" 47 8 23 (.array .int) := ⟨_, F_M, 56, t_M, rfl, in_M, by decide, w637, t_M_ok, n_M, rfl, by decide +kernel, rfl⟩
theorem fF_M_50 : fF clK "PipelinedCoreModel" 50 8 24 (.array .int) := ⟨_, F_M, 56, t_M, rfl, in_M, by decide, w638, t_M_ok, n_M, rfl, by decide +kernel, rfl⟩
theorem fF_M_53 : fF clK "PipelinedCoreModel" 53 8 25 (.array .int) := ⟨_, F_M, 56, t_M, rfl, in_M, by decide, w639, t_M_ok, n_M, rfl, by decide +kernel, rfl⟩
theorem fF_M_56 : fF clK "PipelinedCoreModel" 56 8 26 (.array .boolean) := ⟨_, F_M, 56, t_M, rfl, in_M, by decide, w640, t_M_ok, n_M, rfl, by decide +kernel, rfl⟩
theorem fF_M_60 : fF clK "PipelinedCoreModel" 60 8 27 (.array .int) := ⟨_, F_M, 56, t_M, rfl, in_M, by decide, w641, t_M_ok, n_M, rfl, by decide +kernel, rfl⟩
theorem fF_M_63 : fF clK "PipelinedCoreModel" 63 8 28 (.array .boolean) := ⟨_, F_M, 56, t_M, rfl, in_M, by decide, w642, t_M_ok, n_M, rfl, by decide +kernel, rfl⟩
theorem fF_M_66 : fF clK "PipelinedCoreModel" 66 8 29 (.array .int) := ⟨_, F_M, 56, t_M, rfl, in_M, by decide, w643, t_M_ok, n_M, rfl, by decide +kernel, rfl⟩
theorem fF_M_69 : fF clK "PipelinedCoreModel" 69 8 30 (.array .int) := ⟨_, F_M, 56, t_M, rfl, in_M, by decide, w644, t_M_ok, n_M, rfl, by decide +kernel, rfl⟩
theorem fF_M_72 : fF clK "PipelinedCoreModel" 72 8 31 (.array .int) := ⟨_, F_M, 56, t_M, rfl, in_M, by decide, w645, t_M_ok, n_M, rfl, by decide +kernel, rfl⟩
theorem fF_M_75 : fF clK "PipelinedCoreModel" 75 8 33 (.array .int) := ⟨_, F_M, 56, t_M, rfl, in_M, by decide, w647, t_M_ok, n_M, rfl, by decide +kernel, rfl⟩
theorem fF_M_78 : fF clK "PipelinedCoreModel" 78 8 34 (.array .int) := ⟨_, F_M, 56, t_M, rfl, in_M, by decide, w648, t_M_ok, n_M, rfl, by decide +kernel, rfl⟩
theorem fF_M_81 : fF clK "PipelinedCoreModel" 81 8 35 (.array .boolean) := ⟨_, F_M, 56, t_M, rfl, in_M, by decide, w649, t_M_ok, n_M, rfl, by decide +kernel, rfl⟩
theorem fF_M_84 : fF clK "PipelinedCoreModel" 84 8 36 (.array .int) := ⟨_, F_M, 56, t_M, rfl, in_M, by decide, w650, t_M_ok, n_M, rfl, by decide +kernel, rfl⟩
theorem fF_M_87 : fF clK "PipelinedCoreModel" 87 8 38 (.array .int) := ⟨_, F_M, 56, t_M, rfl, in_M, by decide, w652, t_M_ok, n_M, rfl, by decide +kernel, rfl⟩
theorem fF_M_90 : fF clK "PipelinedCoreModel" 90 8 39 (.array .int) := ⟨_, F_M, 56, t_M, rfl, in_M, by decide, w653, t_M_ok, n_M, rfl, by decide +kernel, rfl⟩
theorem mS_fill : mS y_Arr_fill b_Arr_fill 4 none 2 := ⟨w71, w5, w72, by decide +kernel, by decide +kernel, by decide +kernel⟩
abbrev rm_fill : Room := { frames := 0, cells := 0, slots := 0, locals := 0 }
set_option maxHeartbeats 4000000 in
set_option maxRecDepth 100000 in
theorem L_fill {p : Program} {l : Launch} {e : Env} {s : State} {m : MethodId} {args : Array Value} {below : List Frame} {meth : Method} {c : Code} {A : Nat → Prop} {D : va_G} {cI cB : ClassId} {h0 n : Nat} {v : Int32} (hn : n < 2 ^ 31) (C : CX p rm_fill s m args meth c b_Arr_fill 4 "java/util/Arrays" none pr_Arr_fill D clK (tysK cI cB) A) (k : Nat) : ∀ (j : Nat) (g : Nat → Int32), j + k = n → (∀ i, i < j → g i = v) → J p l e rm_fill s m args below meth c 4 D clK A 0 0 (MQ below (va_Qv (fun g : Nat → Int32 => ∀ i : Nat, i < n → g i = v) (fun u t => QK D clK (tysK cI cB) A [(h0, .inl (cI, n, .inl u))] t) A) args s 0 0 A) [(h0, .inl (cI, n, .inl g))] [(0, .ref h0), (1, .int v), (2, .int (nI j)), (3, .int (nI n))] 5 [] := by
  induction k with
  | zero =>
    intro j g hj hg
    refine j_iload_n C 5 6 rfl rfl rfl 2 rfl ?_
    refine j_iload_n C 6 7 rfl rfl rfl 3 rfl ?_
    refine j_icmp_ge C 7 20 10 rfl (by decide) rfl (fun c1 => ?_) (fun c1 => ?_)
    · exact j_vret C 14 rfl (F := fun u : Nat → Int32 => [(h0, .inl (cI, n, .inl u))]) (S := g) (fun i hi => hg i (by omega))
    · exact absurd (nI_le (show n ≤ j by omega) (by omega)) c1
  | succ k ih =>
    intro j g hj hg
    refine j_iload_n C 5 6 rfl rfl rfl 2 rfl ?_
    refine j_iload_n C 6 7 rfl rfl rfl 3 rfl ?_
    refine j_icmp_ge C 7 20 10 rfl (by decide) rfl (fun c1 => ?_) (fun c1 => ?_)
    · exact absurd c1 (nI_ge (show j < n by omega) (by omega))
    · refine j_aload_n C 8 11 rfl rfl rfl 0 rfl ?_
      refine j_iload_n C 9 12 rfl rfl rfl 2 rfl ?_
      refine j_iload_n C 10 13 rfl rfl rfl 1 rfl ?_
      refine j_iastw C 11 14 rfl rfl 0 0 rfl rfl (vp_in_nI (by omega) (by omega)) [(h0, .inl (cI, n, .inl (upd g j v)))] (by rw [nI_clamp (by omega)]; rfl) ?_
      refine j_iinc C 12 17 [(2, .int (nI j + 1)), (0, .ref h0), (1, .int v), (3, .int (nI n))] rfl rfl 2 rfl kI_1 (by decide) rfl ?_
      refine j_goto C 13 5 rfl (by decide) ?_
      refine j_sub [1, 2, 0, 3] rfl ?_
      rw [nI_1]
      refine ih (j + 1) (upd g j v) (by omega) (fun i hi => ?_)
      by_cases h : i = j
      · subst h; exact pk_us
      · rw [pk_un h]; exact hg i (by omega)
set_option maxHeartbeats 4000000 in
set_option maxRecDepth 100000 in
theorem c_fill (l : Launch) (D : va_G) (cI cB : ClassId) (h0 n : Nat) (hn : n < 2 ^ 31) (f : Nat → Int32) (v : Int32) (sz : Nat) : Met l y_Arr_fill (Cond.code y_Arr_fill b_Arr_fill 4 none :: gw) rm_fill (va_Pc [.ref h0, .int v] (fun U => PK D clK (tysK cI cB) [(h0, .inl (cI, n, .inl f))] sz U ∧ True)) (va_Qv (fun g : Nat → Int32 => ∀ i : Nat, i < n → g i = v) (fun u t => QK D clK (tysK cI cB) (va_A [(h0, .inl (cI, n, .inl f))] sz) [(h0, .inl (cI, n, .inl u))] t) (va_A [(h0, .inl (cI, n, .inl f))] sz)) 0 0 (va_A [(h0, .inl (cI, n, .inl f))] sz) := by
  refine met_ofI (rm := rm_fill) (pr := pr_Arr_fill) (mc := 0) (ms := 0) (E := fun _ => True) (Qc := fun A => va_Qv (fun g : Nat → Int32 => ∀ i : Nat, i < n → g i = v) (fun u t => QK D clK (tysK cI cB) A [(h0, .inl (cI, n, .inl u))] t) A) (by decide +kernel) dm_Arr_fill (Nat.le_of_ble_eq_true rfl) (fun p e s m args below meth c A C hnm hE hAA => ?_) sz
  show J p l e rm_fill s m args below meth c 4 D clK A 0 0 _ [(h0, .inl (cI, n, .inl f))] [(0, .ref h0), (1, .int v)] 0 []
  refine j_iconst C 0 1 rfl rfl kI_0 ?_
  refine j_istore_n C 1 2 [(2, .int 0), (0, .ref h0), (1, .int v)] rfl rfl rfl (by decide) rfl ?_
  refine j_aload_n C 2 3 rfl rfl rfl 1 rfl ?_
  refine j_alen C 3 4 rfl rfl 0 0 rfl rfl ?_
  refine j_istore_n C 4 5 [(3, .int (Int32.ofNat n)), (2, .int 0), (0, .ref h0), (1, .int v)] rfl rfl rfl (by decide) rfl ?_
  refine j_sub [2, 3, 1, 0] rfl ?_
  have e0 : (0 : Int32) = nI 0 := nI_0.symm
  show J p l e rm_fill s m args below meth c 4 D clK A 0 0 _ [(h0, .inl (cI, n, .inl f))] [(0, .ref h0), (1, .int v), (2, .int 0), (3, .int (nI n))] 5 []
  rw [e0]
  exact L_fill hn C n 0 f (by omega) (fun i hi => absurd hi (by omega))

abbrev rm_Con_init : Room := { frames := 1, cells := 0, slots := 0, locals := 20 }
abbrev F_Con_init (cI cB : ClassId) (h0 : Nat) : Unit → va_W := fun _ => [(h0, .inr (2, [.int 0, .int 0, .int 0, .int 0, .int 0, .int 0, .int 0, .int 0]))]
abbrev K_Con_init : Unit → Prop := fun _ => True
set_option maxHeartbeats 4000000 in
set_option maxRecDepth 100000 in
theorem c_Con_init (l : Launch) (D : va_G) (cI cB : ClassId) (h0 : Nat) (sz : Nat) : Met l y_Con_init (Cond.code y_Con_init b_Con_init 1 none :: gw) rm_Con_init (va_Pc [.ref h0] (fun U => PK D clK (tysK cI cB) [(h0, .inr (2, [.int 0, .int 0, .int 0, .int 0, .int 0, .int 0, .int 0, .int 0]))] sz U ∧ True)) (va_Qv K_Con_init (fun u t => QK D clK (tysK cI cB) (va_A [(h0, .inr (2, [.int 0, .int 0, .int 0, .int 0, .int 0, .int 0, .int 0, .int 0]))] sz) (F_Con_init cI cB h0 u) t) (va_A [(h0, .inr (2, [.int 0, .int 0, .int 0, .int 0, .int 0, .int 0, .int 0, .int 0]))] sz)) 0 0 (va_A [(h0, .inr (2, [.int 0, .int 0, .int 0, .int 0, .int 0, .int 0, .int 0, .int 0]))] sz) := by
  refine met_ofI (rm := rm_Con_init) (pr := pr_Con_init) (mc := 0) (ms := 0) (E := fun _ => True) (Qc := fun A => va_Qv K_Con_init (fun u t => QK D clK (tysK cI cB) A (F_Con_init cI cB h0 u) t) A) (by decide +kernel) dm_Con_init (Nat.le_of_ble_eq_true rfl) (fun p e s m args below meth c A C hnm hE hAA => ?_) sz
  show J p l e rm_Con_init s m args below meth c 1 D clK A 0 0 _ [(h0, .inr (2, [.int 0, .int 0, .int 0, .int 0, .int 0, .int 0, .int 0, .int 0]))] [(0, .ref h0)] 0 []
  refine j_aload_n C 0 1 rfl rfl rfl 0 rfl ?_
  refine j_objInit C 1 4 rfl rfl w27 w20 w21 (Nat.le_of_ble_eq_true rfl) (Nat.le_of_ble_eq_true rfl) ?_
  exact j_vret C 2 rfl (F := F_Con_init cI cB h0) (S := ()) trivial
abbrev rm_Ins_init : Room := { frames := 1, cells := 0, slots := 0, locals := 20 }
abbrev F_Ins_init (cI cB : ClassId) (h0 : Nat) : Unit → va_W := fun _ => [(h0, .inr (6, [.int 0, .int 0, .int 0, .int 0, .int 0, .int 0, .int 0, .int 0, .int 0, .int 0, .int 0, .int 0]))]
abbrev K_Ins_init : Unit → Prop := fun _ => True
set_option maxHeartbeats 4000000 in
set_option maxRecDepth 100000 in
theorem c_Ins_init (l : Launch) (D : va_G) (cI cB : ClassId) (h0 : Nat) (sz : Nat) : Met l y_Ins_init (Cond.code y_Ins_init b_Ins_init 1 none :: gw) rm_Ins_init (va_Pc [.ref h0] (fun U => PK D clK (tysK cI cB) [(h0, .inr (6, [.int 0, .int 0, .int 0, .int 0, .int 0, .int 0, .int 0, .int 0, .int 0, .int 0, .int 0, .int 0]))] sz U ∧ True)) (va_Qv K_Ins_init (fun u t => QK D clK (tysK cI cB) (va_A [(h0, .inr (6, [.int 0, .int 0, .int 0, .int 0, .int 0, .int 0, .int 0, .int 0, .int 0, .int 0, .int 0, .int 0]))] sz) (F_Ins_init cI cB h0 u) t) (va_A [(h0, .inr (6, [.int 0, .int 0, .int 0, .int 0, .int 0, .int 0, .int 0, .int 0, .int 0, .int 0, .int 0, .int 0]))] sz)) 0 0 (va_A [(h0, .inr (6, [.int 0, .int 0, .int 0, .int 0, .int 0, .int 0, .int 0, .int 0, .int 0, .int 0, .int 0, .int 0]))] sz) := by
  refine met_ofI (rm := rm_Ins_init) (pr := pr_Ins_init) (mc := 0) (ms := 0) (E := fun _ => True) (Qc := fun A => va_Qv K_Ins_init (fun u t => QK D clK (tysK cI cB) A (F_Ins_init cI cB h0 u) t) A) (by decide +kernel) dm_Ins_init (Nat.le_of_ble_eq_true rfl) (fun p e s m args below meth c A C hnm hE hAA => ?_) sz
  show J p l e rm_Ins_init s m args below meth c 1 D clK A 0 0 _ [(h0, .inr (6, [.int 0, .int 0, .int 0, .int 0, .int 0, .int 0, .int 0, .int 0, .int 0, .int 0, .int 0, .int 0]))] [(0, .ref h0)] 0 []
  refine j_aload_n C 0 1 rfl rfl rfl 0 rfl ?_
  refine j_objInit C 1 4 rfl rfl w108 w20 w21 (Nat.le_of_ble_eq_true rfl) (Nat.le_of_ble_eq_true rfl) ?_
  exact j_vret C 2 rfl (F := F_Ins_init cI cB h0) (S := ()) trivial
abbrev rm_Eff_init : Room := { frames := 1, cells := 0, slots := 0, locals := 20 }
abbrev F_Eff_init (cI cB : ClassId) (h0 : Nat) : Unit → va_W := fun _ => [(h0, .inr (3, [.int 0, .int 0, .int 0, .int 0, .int 0, .int 0, .int 0, .int 0, .int 0, .int 0, .int 0, .int 0, .int 0, .int 0, .int 0, .int 0, .int 0, .int 0]))]
abbrev K_Eff_init : Unit → Prop := fun _ => True
set_option maxHeartbeats 4000000 in
set_option maxRecDepth 100000 in
theorem c_Eff_init (l : Launch) (D : va_G) (cI cB : ClassId) (h0 : Nat) (sz : Nat) : Met l y_Eff_init (Cond.code y_Eff_init b_Eff_init 1 none :: gw) rm_Eff_init (va_Pc [.ref h0] (fun U => PK D clK (tysK cI cB) [(h0, .inr (3, [.int 0, .int 0, .int 0, .int 0, .int 0, .int 0, .int 0, .int 0, .int 0, .int 0, .int 0, .int 0, .int 0, .int 0, .int 0, .int 0, .int 0, .int 0]))] sz U ∧ True)) (va_Qv K_Eff_init (fun u t => QK D clK (tysK cI cB) (va_A [(h0, .inr (3, [.int 0, .int 0, .int 0, .int 0, .int 0, .int 0, .int 0, .int 0, .int 0, .int 0, .int 0, .int 0, .int 0, .int 0, .int 0, .int 0, .int 0, .int 0]))] sz) (F_Eff_init cI cB h0 u) t) (va_A [(h0, .inr (3, [.int 0, .int 0, .int 0, .int 0, .int 0, .int 0, .int 0, .int 0, .int 0, .int 0, .int 0, .int 0, .int 0, .int 0, .int 0, .int 0, .int 0, .int 0]))] sz)) 0 0 (va_A [(h0, .inr (3, [.int 0, .int 0, .int 0, .int 0, .int 0, .int 0, .int 0, .int 0, .int 0, .int 0, .int 0, .int 0, .int 0, .int 0, .int 0, .int 0, .int 0, .int 0]))] sz) := by
  refine met_ofI (rm := rm_Eff_init) (pr := pr_Eff_init) (mc := 0) (ms := 0) (E := fun _ => True) (Qc := fun A => va_Qv K_Eff_init (fun u t => QK D clK (tysK cI cB) A (F_Eff_init cI cB h0 u) t) A) (by decide +kernel) dm_Eff_init (Nat.le_of_ble_eq_true rfl) (fun p e s m args below meth c A C hnm hE hAA => ?_) sz
  show J p l e rm_Eff_init s m args below meth c 1 D clK A 0 0 _ [(h0, .inr (3, [.int 0, .int 0, .int 0, .int 0, .int 0, .int 0, .int 0, .int 0, .int 0, .int 0, .int 0, .int 0, .int 0, .int 0, .int 0, .int 0, .int 0, .int 0]))] [(0, .ref h0)] 0 []
  refine j_aload_n C 0 1 rfl rfl rfl 0 rfl ?_
  refine j_objInit C 1 4 rfl rfl w163 w20 w21 (Nat.le_of_ble_eq_true rfl) (Nat.le_of_ble_eq_true rfl) ?_
  exact j_vret C 2 rfl (F := F_Eff_init cI cB h0) (S := ()) trivial
abbrev rm_Sto_init : Room := { frames := 1, cells := 1, slots := 64, locals := 20 }
abbrev F_Sto_init (cI cB : ClassId) (h0 : Nat) : Nat → va_W := fun u => [(h0, .inr (7, [.ref u])), (u, .inl (cI, 64, .inl (fun _ => 0)))]
abbrev K_Sto_init : Nat → Prop := fun _ => True
set_option maxHeartbeats 4000000 in
set_option maxRecDepth 100000 in
theorem c_Sto_init (l : Launch) (D : va_G) (cI cB : ClassId) (h0 : Nat) (sz : Nat) : Met l y_Sto_init (Cond.code y_Sto_init b_Sto_init 1 none :: gw) rm_Sto_init (va_Pc [.ref h0] (fun U => PK D clK (tysK cI cB) [(h0, .inr (7, [.null]))] sz U ∧ True)) (va_Qv K_Sto_init (fun u t => QK D clK (tysK cI cB) (va_A [(h0, .inr (7, [.null]))] sz) (F_Sto_init cI cB h0 u) t) (va_A [(h0, .inr (7, [.null]))] sz)) 1 64 (va_A [(h0, .inr (7, [.null]))] sz) := by
  refine met_ofI (rm := rm_Sto_init) (pr := pr_Sto_init) (mc := 1) (ms := 64) (E := fun _ => True) (Qc := fun A => va_Qv K_Sto_init (fun u t => QK D clK (tysK cI cB) A (F_Sto_init cI cB h0 u) t) A) (by decide +kernel) dm_Sto_init (Nat.le_of_ble_eq_true rfl) (fun p e s m args below meth c A C hnm hE hAA => ?_) sz
  show J p l e rm_Sto_init s m args below meth c 1 D clK A 0 0 _ [(h0, .inr (7, [.null]))] [(0, .ref h0)] 0 []
  refine j_aload_n C 0 1 rfl rfl rfl 0 rfl ?_
  refine j_objInit C 1 4 rfl rfl w59 w20 w21 (Nat.le_of_ble_eq_true rfl) (Nat.le_of_ble_eq_true rfl) ?_
  refine j_aload_n C 2 5 rfl rfl rfl 0 rfl ?_
  refine j_bipush C 3 7 rfl rfl kB_64 ?_
  refine j_newai C 4 9 rfl rfl w53 0 rfl 64 (by decide) (by decide) (by decide) rfl rfl ⟨Nat.le_of_ble_eq_true rfl, Nat.le_of_ble_eq_true rfl⟩ (fun q1 => ?_)
  refine j_eqw (ws' := [(h0, .inr (7, [.null])), (q1, .inl (cI, 64, .inl (fun _ => 0)))]) rfl ?_
  refine j_putF C hnm 5 12 rfl rfl fF_Sto_9 0 rfl (Nat.le_of_ble_eq_true rfl) rfl rfl [(h0, .inr (7, [.ref q1])), (q1, .inl (cI, 64, .inl (fun _ => 0)))] rfl ?_
  exact j_vret C 6 rfl (F := F_Sto_init cI cB h0) (S := q1) trivial
abbrev rm_His_init : Room := { frames := 1, cells := 2, slots := 32, locals := 20 }
abbrev F_His_init (cI cB : ClassId) (h0 : Nat) : Nat × Nat → va_W := fun u => [(h0, .inr (5, [.ref u.1, .ref u.2, .int 0])), (u.1, .inl (cI, 16, .inl (fun _ => 0))), (u.2, .inl (cI, 16, .inl (fun _ => 0)))]
abbrev K_His_init : Nat × Nat → Prop := fun _ => True
set_option maxHeartbeats 4000000 in
set_option maxRecDepth 100000 in
theorem c_His_init (l : Launch) (D : va_G) (cI cB : ClassId) (h0 : Nat) (sz : Nat) : Met l y_His_init (Cond.code y_His_init b_His_init 1 none :: gw) rm_His_init (va_Pc [.ref h0] (fun U => PK D clK (tysK cI cB) [(h0, .inr (5, [.null, .null, .int 0]))] sz U ∧ True)) (va_Qv K_His_init (fun u t => QK D clK (tysK cI cB) (va_A [(h0, .inr (5, [.null, .null, .int 0]))] sz) (F_His_init cI cB h0 u) t) (va_A [(h0, .inr (5, [.null, .null, .int 0]))] sz)) 2 32 (va_A [(h0, .inr (5, [.null, .null, .int 0]))] sz) := by
  refine met_ofI (rm := rm_His_init) (pr := pr_His_init) (mc := 2) (ms := 32) (E := fun _ => True) (Qc := fun A => va_Qv K_His_init (fun u t => QK D clK (tysK cI cB) A (F_His_init cI cB h0 u) t) A) (by decide +kernel) dm_His_init (Nat.le_of_ble_eq_true rfl) (fun p e s m args below meth c A C hnm hE hAA => ?_) sz
  show J p l e rm_His_init s m args below meth c 1 D clK A 0 0 _ [(h0, .inr (5, [.null, .null, .int 0]))] [(0, .ref h0)] 0 []
  refine j_aload_n C 0 1 rfl rfl rfl 0 rfl ?_
  refine j_objInit C 1 4 rfl rfl w91 w20 w21 (Nat.le_of_ble_eq_true rfl) (Nat.le_of_ble_eq_true rfl) ?_
  refine j_aload_n C 2 5 rfl rfl rfl 0 rfl ?_
  refine j_bipush C 3 7 rfl rfl kB_16 ?_
  refine j_newai C 4 9 rfl rfl w53 0 rfl 16 (by decide) (by decide) (by decide) rfl rfl ⟨Nat.le_of_ble_eq_true rfl, Nat.le_of_ble_eq_true rfl⟩ (fun q1 => ?_)
  refine j_eqw (ws' := [(h0, .inr (5, [.null, .null, .int 0])), (q1, .inl (cI, 16, .inl (fun _ => 0)))]) rfl ?_
  refine j_putF C hnm 5 12 rfl rfl fF_His_9 0 rfl (Nat.le_of_ble_eq_true rfl) rfl rfl [(h0, .inr (5, [.ref q1, .null, .int 0])), (q1, .inl (cI, 16, .inl (fun _ => 0)))] rfl ?_
  refine j_aload_n C 6 13 rfl rfl rfl 0 rfl ?_
  refine j_bipush C 7 15 rfl rfl kB_16 ?_
  refine j_newai C 8 17 rfl rfl w53 0 rfl 16 (by decide) (by decide) (by decide) rfl rfl ⟨Nat.le_of_ble_eq_true rfl, Nat.le_of_ble_eq_true rfl⟩ (fun q2 => ?_)
  refine j_eqw (ws' := [(h0, .inr (5, [.ref q1, .null, .int 0])), (q1, .inl (cI, 16, .inl (fun _ => 0))), (q2, .inl (cI, 16, .inl (fun _ => 0)))]) rfl ?_
  refine j_putF C hnm 9 20 rfl rfl fF_His_13 0 rfl (Nat.le_of_ble_eq_true rfl) rfl rfl [(h0, .inr (5, [.ref q1, .ref q2, .int 0])), (q1, .inl (cI, 16, .inl (fun _ => 0))), (q2, .inl (cI, 16, .inl (fun _ => 0)))] rfl ?_
  exact j_vret C 10 rfl (F := F_His_init cI cB h0) (S := (q1, q2)) trivial
abbrev rm_For_init : Room := { frames := 1, cells := 4, slots := 38, locals := 23 }
abbrev F_For_init (cI cB : ClassId) (h0 : Nat) : (Nat → Nat) × (Nat → Int32) → va_W := fun u => [(h0, .inr (4, [.ref (u.1 0), .ref (u.1 1), .ref (u.1 2), .ref (u.1 3)])), (u.1 1, .inl (cI, 12, .inl (fun _ => 0))), (u.1 2, .inl (cI, 12, .inl (fun _ => 0))), (u.1 3, .inl (cI, 2, .inl (fun _ => 0))), (u.1 0, .inl (cI, 12, .inl (u.2)))]
abbrev K_For_init : (Nat → Nat) × (Nat → Int32) → Prop := fun u => ∀ j : Nat, j < 12 → u.2 j = -1
set_option maxHeartbeats 4000000 in
set_option maxRecDepth 100000 in
theorem c_For_init (l : Launch) (D : va_G) (cI cB : ClassId) (h0 : Nat) (sz : Nat) : Met l y_For_init (Cond.code y_For_init b_For_init 1 none :: gw) rm_For_init (va_Pc [.ref h0] (fun U => PK D clK (tysK cI cB) [(h0, .inr (4, [.null, .null, .null, .null]))] sz U ∧ True)) (va_Qv K_For_init (fun u t => QK D clK (tysK cI cB) (va_A [(h0, .inr (4, [.null, .null, .null, .null]))] sz) (F_For_init cI cB h0 u) t) (va_A [(h0, .inr (4, [.null, .null, .null, .null]))] sz)) 4 38 (va_A [(h0, .inr (4, [.null, .null, .null, .null]))] sz) := by
  refine met_ofI (rm := rm_For_init) (pr := pr_For_init) (mc := 4) (ms := 38) (E := fun _ => True) (Qc := fun A => va_Qv K_For_init (fun u t => QK D clK (tysK cI cB) A (F_For_init cI cB h0 u) t) A) (by decide +kernel) dm_For_init (Nat.le_of_ble_eq_true rfl) (fun p e s m args below meth c A C hnm hE hAA => ?_) sz
  show J p l e rm_For_init s m args below meth c 1 D clK A 0 0 _ [(h0, .inr (4, [.null, .null, .null, .null]))] [(0, .ref h0)] 0 []
  refine j_aload_n C 0 1 rfl rfl rfl 0 rfl ?_
  refine j_objInit C 1 4 rfl rfl w69 w20 w21 (Nat.le_of_ble_eq_true rfl) (Nat.le_of_ble_eq_true rfl) ?_
  refine j_aload_n C 2 5 rfl rfl rfl 0 rfl ?_
  refine j_bipush C 3 7 rfl rfl kB_12 ?_
  refine j_newai C 4 9 rfl rfl w53 0 rfl 12 (by decide) (by decide) (by decide) rfl rfl ⟨Nat.le_of_ble_eq_true rfl, Nat.le_of_ble_eq_true rfl⟩ (fun q1 => ?_)
  refine j_eqw (ws' := [(h0, .inr (4, [.null, .null, .null, .null])), (q1, .inl (cI, 12, .inl (fun _ => 0)))]) rfl ?_
  refine j_putF C hnm 5 12 rfl rfl fF_For_9 0 rfl (Nat.le_of_ble_eq_true rfl) rfl rfl [(h0, .inr (4, [.ref q1, .null, .null, .null])), (q1, .inl (cI, 12, .inl (fun _ => 0)))] rfl ?_
  refine j_aload_n C 6 13 rfl rfl rfl 0 rfl ?_
  refine j_bipush C 7 15 rfl rfl kB_12 ?_
  refine j_newai C 8 17 rfl rfl w53 0 rfl 12 (by decide) (by decide) (by decide) rfl rfl ⟨Nat.le_of_ble_eq_true rfl, Nat.le_of_ble_eq_true rfl⟩ (fun q2 => ?_)
  refine j_eqw (ws' := [(h0, .inr (4, [.ref q1, .null, .null, .null])), (q1, .inl (cI, 12, .inl (fun _ => 0))), (q2, .inl (cI, 12, .inl (fun _ => 0)))]) rfl ?_
  refine j_putF C hnm 9 20 rfl rfl fF_For_13 0 rfl (Nat.le_of_ble_eq_true rfl) rfl rfl [(h0, .inr (4, [.ref q1, .ref q2, .null, .null])), (q1, .inl (cI, 12, .inl (fun _ => 0))), (q2, .inl (cI, 12, .inl (fun _ => 0)))] rfl ?_
  refine j_aload_n C 10 21 rfl rfl rfl 0 rfl ?_
  refine j_bipush C 11 23 rfl rfl kB_12 ?_
  refine j_newai C 12 25 rfl rfl w53 0 rfl 12 (by decide) (by decide) (by decide) rfl rfl ⟨Nat.le_of_ble_eq_true rfl, Nat.le_of_ble_eq_true rfl⟩ (fun q3 => ?_)
  refine j_eqw (ws' := [(h0, .inr (4, [.ref q1, .ref q2, .null, .null])), (q1, .inl (cI, 12, .inl (fun _ => 0))), (q2, .inl (cI, 12, .inl (fun _ => 0))), (q3, .inl (cI, 12, .inl (fun _ => 0)))]) rfl ?_
  refine j_putF C hnm 13 28 rfl rfl fF_For_16 0 rfl (Nat.le_of_ble_eq_true rfl) rfl rfl [(h0, .inr (4, [.ref q1, .ref q2, .ref q3, .null])), (q1, .inl (cI, 12, .inl (fun _ => 0))), (q2, .inl (cI, 12, .inl (fun _ => 0))), (q3, .inl (cI, 12, .inl (fun _ => 0)))] rfl ?_
  refine j_aload_n C 14 29 rfl rfl rfl 0 rfl ?_
  refine j_iconst C 15 30 rfl rfl kI_2 ?_
  refine j_newai C 16 32 rfl rfl w53 0 rfl 2 (by decide) (by decide) (by decide) rfl rfl ⟨Nat.le_of_ble_eq_true rfl, Nat.le_of_ble_eq_true rfl⟩ (fun q4 => ?_)
  refine j_eqw (ws' := [(h0, .inr (4, [.ref q1, .ref q2, .ref q3, .null])), (q1, .inl (cI, 12, .inl (fun _ => 0))), (q2, .inl (cI, 12, .inl (fun _ => 0))), (q3, .inl (cI, 12, .inl (fun _ => 0))), (q4, .inl (cI, 2, .inl (fun _ => 0)))]) rfl ?_
  refine j_putF C hnm 17 35 rfl rfl fF_For_19 0 rfl (Nat.le_of_ble_eq_true rfl) rfl rfl [(h0, .inr (4, [.ref q1, .ref q2, .ref q3, .ref q4])), (q1, .inl (cI, 12, .inl (fun _ => 0))), (q2, .inl (cI, 12, .inl (fun _ => 0))), (q3, .inl (cI, 12, .inl (fun _ => 0))), (q4, .inl (cI, 2, .inl (fun _ => 0)))] rfl ?_
  refine j_aload_n C 18 36 rfl rfl rfl 0 rfl ?_
  refine j_get C 19 39 rfl rfl fg_For_9 0 rfl rfl ?_
  refine j_iconst C 20 40 rfl rfl kI_m1 ?_
  refine j_perm (ws' := [(h0, .inr (4, [.ref q1, .ref q2, .ref q3, .ref q4])), (q2, .inl (cI, 12, .inl (fun _ => 0))), (q3, .inl (cI, 12, .inl (fun _ => 0))), (q4, .inl (cI, 2, .inl (fun _ => 0)))] ++ [(q1, .inl (cI, 12, .inl (fun _ => 0)))]) [0, 2, 3, 4, 1] (by decide) rfl rfl ?_
  refine j_fcallSv C 21 43 rfl rfl w70 mS_fill (As := [.ref q1, .int (-1)]) (F := fun g => [(q1, .inl (cI, 12, .inl g))]) (E := fun _ => True) (fun _ _ _ _ h => h) (fun _ _ => trivial) (c_fill l D cI cB q1 12 (by decide) (fun _ => 0) (-1)) ⟨rfl, rfl⟩ ⟨Nat.le_of_ble_eq_true rfl, Nat.le_of_ble_eq_true rfl⟩ rfl rfl rfl ⟨Nat.le_of_ble_eq_true rfl, Nat.le_of_ble_eq_true rfl⟩ (Nat.le_of_ble_eq_true rfl) rfl (fun g0 hg0 => ?_)
  refine j_eqw (ws' := [(h0, .inr (4, [.ref q1, .ref q2, .ref q3, .ref q4])), (q2, .inl (cI, 12, .inl (fun _ => 0))), (q3, .inl (cI, 12, .inl (fun _ => 0))), (q4, .inl (cI, 2, .inl (fun _ => 0))), (q1, .inl (cI, 12, .inl (g0)))]) rfl ?_
  exact j_vret C 22 rfl (F := F_For_init cI cB h0) (S := (fun k => if k = 0 then q1 else if k = 1 then q2 else if k = 2 then q3 else q4, g0)) hg0
abbrev rm_Cac_init : Room := { frames := 1, cells := 2, slots := 8, locals := 23 }
abbrev F_Cac_init (cI cB : ClassId) (h0 : Nat) (p1 : Int32) : (Nat → Nat) × (Nat → Int32) → va_W := fun u => [(h0, .inr (1, [.int (4 * (jmax 1 (jmin 8 p1))), .ref (u.1 0), .ref (u.1 1)])), (u.1 1, .inl (cB, 4, .inl (fun _ => 0))), (u.1 0, .inl (cI, 4, .inl (u.2)))]
abbrev K_Cac_init : (Nat → Nat) × (Nat → Int32) → Prop := fun u => ∀ j : Nat, j < 4 → u.2 j = -1
set_option maxHeartbeats 4000000 in
set_option maxRecDepth 100000 in
theorem c_Cac_init (l : Launch) (D : va_G) (cI cB : ClassId) (h0 : Nat) (p1 : Int32) (sz : Nat) : Met l y_Cac_init (Cond.code y_Cac_init b_Cac_init 2 none :: gw) rm_Cac_init (va_Pc [.ref h0, .int p1] (fun U => PK D clK (tysK cI cB) [(h0, .inr (1, [.int 0, .null, .null]))] sz U ∧ True)) (va_Qv K_Cac_init (fun u t => QK D clK (tysK cI cB) (va_A [(h0, .inr (1, [.int 0, .null, .null]))] sz) (F_Cac_init cI cB h0 p1 u) t) (va_A [(h0, .inr (1, [.int 0, .null, .null]))] sz)) 2 8 (va_A [(h0, .inr (1, [.int 0, .null, .null]))] sz) := by
  refine met_ofI (rm := rm_Cac_init) (pr := pr_Cac_init) (mc := 2) (ms := 8) (E := fun _ => True) (Qc := fun A => va_Qv K_Cac_init (fun u t => QK D clK (tysK cI cB) A (F_Cac_init cI cB h0 p1 u) t) A) (by decide +kernel) dm_Cac_init (Nat.le_of_ble_eq_true rfl) (fun p e s m args below meth c A C hnm hE hAA => ?_) sz
  show J p l e rm_Cac_init s m args below meth c 2 D clK A 0 0 _ [(h0, .inr (1, [.int 0, .null, .null]))] [(0, .ref h0), (1, .int p1)] 0 []
  refine j_aload_n C 0 1 rfl rfl rfl 0 rfl ?_
  refine j_objInit C 1 4 rfl rfl w244 w20 w21 (Nat.le_of_ble_eq_true rfl) (Nat.le_of_ble_eq_true rfl) ?_
  refine j_aload_n C 2 5 rfl rfl rfl 0 rfl ?_
  refine j_iconst C 3 6 rfl rfl kI_4 ?_
  refine j_newai C 4 8 rfl rfl w53 0 rfl 4 (by decide) (by decide) (by decide) rfl rfl ⟨Nat.le_of_ble_eq_true rfl, Nat.le_of_ble_eq_true rfl⟩ (fun q1 => ?_)
  refine j_eqw (ws' := [(h0, .inr (1, [.int 0, .null, .null])), (q1, .inl (cI, 4, .inl (fun _ => 0)))]) rfl ?_
  refine j_putF C hnm 5 11 rfl rfl fF_Cac_9 0 rfl (Nat.le_of_ble_eq_true rfl) rfl rfl [(h0, .inr (1, [.int 0, .ref q1, .null])), (q1, .inl (cI, 4, .inl (fun _ => 0)))] rfl ?_
  refine j_aload_n C 6 12 rfl rfl rfl 0 rfl ?_
  refine j_iconst C 7 13 rfl rfl kI_4 ?_
  refine j_newaz C 8 15 rfl rfl w262 1 rfl 4 (by decide) (by decide) (by decide) rfl rfl ⟨Nat.le_of_ble_eq_true rfl, Nat.le_of_ble_eq_true rfl⟩ (fun q2 => ?_)
  refine j_eqw (ws' := [(h0, .inr (1, [.int 0, .ref q1, .null])), (q1, .inl (cI, 4, .inl (fun _ => 0))), (q2, .inl (cB, 4, .inl (fun _ => 0)))]) rfl ?_
  refine j_putF C hnm 9 18 rfl rfl fF_Cac_13 0 rfl (Nat.le_of_ble_eq_true rfl) rfl rfl [(h0, .inr (1, [.int 0, .ref q1, .ref q2])), (q1, .inl (cI, 4, .inl (fun _ => 0))), (q2, .inl (cB, 4, .inl (fun _ => 0)))] rfl ?_
  refine j_aload_n C 10 19 rfl rfl rfl 0 rfl ?_
  refine j_iconst C 11 20 rfl rfl kI_4 ?_
  refine j_iconst C 12 21 rfl rfl kI_1 ?_
  refine j_bipush C 13 23 rfl rfl kB_8 ?_
  refine j_iload_n C 14 24 rfl rfl rfl 1 rfl ?_
  refine j_mmin C 15 27 rfl rfl w245 w246 w10 w247 (Nat.le_of_ble_eq_true rfl) (Nat.le_of_ble_eq_true rfl) ⟨Nat.le_of_ble_eq_true rfl, Nat.le_of_ble_eq_true rfl⟩ ?_
  refine j_mmax C 16 30 rfl rfl w248 w249 w10 w250 (Nat.le_of_ble_eq_true rfl) (Nat.le_of_ble_eq_true rfl) ⟨Nat.le_of_ble_eq_true rfl, Nat.le_of_ble_eq_true rfl⟩ ?_
  refine j_imul C 17 31 rfl rfl ?_
  refine j_putF C hnm 18 34 rfl rfl fF_Cac_26 0 rfl (Nat.le_of_ble_eq_true rfl) rfl rfl [(h0, .inr (1, [.int (4 * (jmax 1 (jmin 8 p1))), .ref q1, .ref q2])), (q1, .inl (cI, 4, .inl (fun _ => 0))), (q2, .inl (cB, 4, .inl (fun _ => 0)))] rfl ?_
  refine j_aload_n C 19 35 rfl rfl rfl 0 rfl ?_
  refine j_get C 20 38 rfl rfl fg_Cac_9 0 rfl rfl ?_
  refine j_iconst C 21 39 rfl rfl kI_m1 ?_
  refine j_perm (ws' := [(h0, .inr (1, [.int (4 * (jmax 1 (jmin 8 p1))), .ref q1, .ref q2])), (q2, .inl (cB, 4, .inl (fun _ => 0)))] ++ [(q1, .inl (cI, 4, .inl (fun _ => 0)))]) [0, 2, 1] (by decide) rfl rfl ?_
  refine j_fcallSv C 22 42 rfl rfl w251 mS_fill (As := [.ref q1, .int (-1)]) (F := fun g => [(q1, .inl (cI, 4, .inl g))]) (E := fun _ => True) (fun _ _ _ _ h => h) (fun _ _ => trivial) (c_fill l D cI cB q1 4 (by decide) (fun _ => 0) (-1)) ⟨rfl, rfl⟩ ⟨Nat.le_of_ble_eq_true rfl, Nat.le_of_ble_eq_true rfl⟩ rfl rfl rfl ⟨Nat.le_of_ble_eq_true rfl, Nat.le_of_ble_eq_true rfl⟩ (Nat.le_of_ble_eq_true rfl) rfl (fun g0 hg0 => ?_)
  refine j_eqw (ws' := [(h0, .inr (1, [.int (4 * (jmax 1 (jmin 8 p1))), .ref q1, .ref q2])), (q2, .inl (cB, 4, .inl (fun _ => 0))), (q1, .inl (cI, 4, .inl (g0)))]) rfl ?_
  exact j_vret C 23 rfl (F := F_Cac_init cI cB h0 p1) (S := (fun k => if k = 0 then q1 else q2, g0)) hg0
