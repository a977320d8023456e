abbrev rm_M_code : Room := { frames := 0, cells := 0, slots := 0, locals := 0 }
def wp_M_code_17 (K : Int32 → St → Prop) (S : St)  : Prop := K 0 S
set_option maxHeartbeats 4000000 in
set_option maxRecDepth 100000 in
theorem L_M_code_17 {p : Program} {l : Launch} {e : Env} {s : State} {m : MethodId} {args : Array Value} {below : List Frame} {meth : Method} {c : Code} {A : Nat → Prop} {D : va_G} {h0 : Nat} {a : Nat → Nat} {cI cB : ClassId} {K : Int32 → St → Prop} (C : CX p rm_M_code s m args meth c b_M_code 3 "PipelinedCoreModel" (some .boolean) pr_M_code D clK (tysK cI cB) A) (S : St)  (h : wp_M_code_17 K S) : J p l e rm_M_code s m args below meth c 3 D clK A 0 0 (MQ below (va_Qi K (fun u t => QK D clK (tysK cI cB) A (wsM h0 a cI cB u) t) A) args s 0 0 A) (wsM h0 a cI cB S) [] 17 [] := by
  unfold wp_M_code_17 at h
  refine j_iconst C 8 18 rfl rfl kI_0 ?_
  exact j_zret C 9 rfl isB_0 h
def wp_M_code (S : St) (p1 : Int32) (p2 : Int32) (K : Int32 → St → Prop) : Prop := (if p1 < 0 then ((wp_M_code_17 K S)) else ((if (127 : Int32) < p1 then ((wp_M_code_17 K S)) else ((if (S 0 1) ≤ 0 then (vp_in p1 128 ∧ (∀ S4 : St, S4 = st S 1 p1.toNatClampNeg p2 → (K 1 S4))) else ((wp_M_code_17 K S)))))))
set_option maxHeartbeats 4000000 in
set_option maxRecDepth 100000 in
theorem c_M_code (l : Launch) (D : va_G) (h0 : Nat) (a : Nat → Nat) (cI cB : ClassId) (S : St) (p1 : Int32) (p2 : Int32) (K : Int32 → St → Prop) (h : wp_M_code S p1 p2 K) (sz : Nat) : Met l y_M_code (Cond.code y_M_code b_M_code 3 (some .boolean) :: gw) rm_M_code (va_Pc [.ref h0, .int p1, .int p2] (PK D clK (tysK cI cB) (wsM h0 a cI cB S) sz)) (va_Qi K (fun u t => QK D clK (tysK cI cB) (va_A (wsM h0 a cI cB S) sz) (wsM h0 a cI cB u) t) (va_A (wsM h0 a cI cB S) sz)) 0 0 (va_A (wsM h0 a cI cB S) sz) := by
  refine met_of (rm := rm_M_code) (pr := pr_M_code) (Qc := fun A => va_Qi K (fun u t => QK D clK (tysK cI cB) A (wsM h0 a cI cB u) t) A) (by decide +kernel) dm_M_code (Nat.le_of_ble_eq_true rfl) (fun p e s m args below meth c A C => ?_) sz
  unfold wp_M_code at h
  show J p l e rm_M_code s m args below meth c 3 D clK A 0 0 _ (wsM h0 a cI cB S) [(0, .ref h0), (1, .int p1), (2, .int p2)] 0 []
  refine j_iload_n C 0 1 rfl rfl rfl 1 rfl ?_
  refine j_if_lt C 1 17 4 rfl (by decide) rfl (fun c1 => ?_) (fun c1 => ?_)
  · replace h := ite_t h c1
    refine j_sub [] rfl ?_
    exact L_M_code_17 C S h
  · replace h := ite_f h c1
    refine j_iload_n C 2 5 rfl rfl rfl 1 rfl ?_
    refine j_bipush C 3 7 rfl rfl kB_127 ?_
    refine j_icmp_gt C 4 17 10 rfl (by decide) rfl (fun c2 => ?_) (fun c2 => ?_)
    · replace h := ite_t h c2
      refine j_sub [] rfl ?_
      exact L_M_code_17 C S h
    · replace h := ite_f h c2
      refine j_aload_n C 5 11 rfl rfl rfl 0 rfl ?_
      refine j_get C 6 14 rfl rfl fg_M_96 0 rfl rfl ?_
      refine j_if_le C 7 19 17 rfl (by decide) rfl (fun c3 => ?_) (fun c3 => ?_)
      · replace h := ite_t h c3
        refine j_aload_n C 10 20 rfl rfl rfl 0 rfl ?_
        refine j_get C 11 23 rfl rfl fg_M_7 0 rfl rfl ?_
        refine j_iload_n C 12 24 rfl rfl rfl 1 rfl ?_
        refine j_iload_n C 13 25 rfl rfl rfl 2 rfl ?_
        refine j_iast C 14 26 rfl rfl 1 0 rfl rfl h.1 (st S 1 p1.toNatClampNeg p2) (sM_1 _ _ _ _ _ _ _) (fun S4 eS4 => ?_)
        replace h := h.2
        replace h := h S4 eS4
        refine j_iconst C 15 27 rfl rfl kI_1 ?_
        exact j_zret C 16 rfl isB_1 h
      · replace h := ite_f h c3
        refine j_sub [] rfl ?_
        exact L_M_code_17 C S h
abbrev rm_M_isData : Room := { frames := 0, cells := 0, slots := 0, locals := 0 }
def wp_M_isData_19 (K : Int32 → St → Prop) (S : St) (k0 : Int32) : Prop := isB k0 ∧ K k0 S
set_option maxHeartbeats 4000000 in
set_option maxRecDepth 100000 in
theorem L_M_isData_19 {p : Program} {l : Launch} {e : Env} {s : State} {m : MethodId} {args : Array Value} {below : List Frame} {meth : Method} {c : Code} {A : Nat → Prop} {D : va_G} {h0 : Nat} {a : Nat → Nat} {cI cB : ClassId} {K : Int32 → St → Prop} (C : CX p rm_M_isData s m args meth c b_M_isData 1 "PipelinedCoreModel" (some .boolean) pr_M_isData D clK (tysK cI cB) A) (S : St) (k0 : Int32) (h : wp_M_isData_19 K S k0) : J p l e rm_M_isData s m args below meth c 1 D clK A 0 0 (MQ below (va_Qi K (fun u t => QK D clK (tysK cI cB) A (wsM h0 a cI cB u) t) A) args s 0 0 A) (wsM h0 a cI cB S) [] 19 [.int k0] := by
  unfold wp_M_isData_19 at h
  exact j_zret C 9 rfl h.1 h.2
def wp_M_isData_18 (K : Int32 → St → Prop) (S : St)  : Prop := (wp_M_isData_19 K S 0)
set_option maxHeartbeats 4000000 in
set_option maxRecDepth 100000 in
theorem L_M_isData_18 {p : Program} {l : Launch} {e : Env} {s : State} {m : MethodId} {args : Array Value} {below : List Frame} {meth : Method} {c : Code} {A : Nat → Prop} {D : va_G} {h0 : Nat} {a : Nat → Nat} {cI cB : ClassId} {K : Int32 → St → Prop} (C : CX p rm_M_isData s m args meth c b_M_isData 1 "PipelinedCoreModel" (some .boolean) pr_M_isData D clK (tysK cI cB) A) (S : St)  (h : wp_M_isData_18 K S) : J p l e rm_M_isData s m args below meth c 1 D clK A 0 0 (MQ below (va_Qi K (fun u t => QK D clK (tysK cI cB) A (wsM h0 a cI cB u) t) A) args s 0 0 A) (wsM h0 a cI cB S) [] 18 [] := by
  unfold wp_M_isData_18 at h
  refine j_iconst C 8 19 rfl rfl kI_0 ?_
  exact L_M_isData_19 C S 0 h
def wp_M_isData (S : St) (p1 : Int32) (K : Int32 → St → Prop) : Prop := (if p1 < 1024 then ((wp_M_isData_18 K S)) else ((if (1280 : Int32) ≤ p1 then ((wp_M_isData_18 K S)) else ((wp_M_isData_19 K S 1)))))
set_option maxHeartbeats 4000000 in
set_option maxRecDepth 100000 in
theorem c_M_isData (l : Launch) (D : va_G) (h0 : Nat) (a : Nat → Nat) (cI cB : ClassId) (S : St) (p1 : Int32) (K : Int32 → St → Prop) (h : wp_M_isData S p1 K) (sz : Nat) : Met l y_M_isData (Cond.code y_M_isData b_M_isData 1 (some .boolean) :: gw) rm_M_isData (va_Pc [.int p1] (PK D clK (tysK cI cB) (wsM h0 a cI cB S) sz)) (va_Qi K (fun u t => QK D clK (tysK cI cB) (va_A (wsM h0 a cI cB S) sz) (wsM h0 a cI cB u) t) (va_A (wsM h0 a cI cB S) sz)) 0 0 (va_A (wsM h0 a cI cB S) sz) := by
  refine met_of (rm := rm_M_isData) (pr := pr_M_isData) (Qc := fun A => va_Qi K (fun u t => QK D clK (tysK cI cB) A (wsM h0 a cI cB u) t) A) (by decide +kernel) dm_M_isData (Nat.le_of_ble_eq_true rfl) (fun p e s m args below meth c A C => ?_) sz
  unfold wp_M_isData at h
  show J p l e rm_M_isData s m args below meth c 1 D clK A 0 0 _ (wsM h0 a cI cB S) [(0, .int p1)] 0 []
  refine j_iload_n C 0 1 rfl rfl rfl 0 rfl ?_
  refine j_sipush C 1 4 rfl rfl kS_1024 ?_
  refine j_icmp_lt C 2 18 7 rfl (by decide) rfl (fun c1 => ?_) (fun c1 => ?_)
  · replace h := ite_t h c1
    refine j_sub [] rfl ?_
    exact L_M_isData_18 C S h
  · replace h := ite_f h c1
    refine j_iload_n C 3 8 rfl rfl rfl 0 rfl ?_
    refine j_sipush C 4 11 rfl rfl kS_1280 ?_
    refine j_icmp_ge C 5 18 14 rfl (by decide) rfl (fun c2 => ?_) (fun c2 => ?_)
    · replace h := ite_t h c2
      refine j_sub [] rfl ?_
      exact L_M_isData_18 C S h
    · replace h := ite_f h c2
      refine j_iconst C 6 15 rfl rfl kI_1 ?_
      refine j_goto C 7 19 rfl (by decide) ?_
      refine j_sub [] rfl ?_
      exact L_M_isData_19 C S 1 h
abbrev rm_M_data : Room := { frames := 1, cells := 0, slots := 0, locals := 20 }
def wp_M_data_20 (K : Int32 → St → Prop) (S : St)  : Prop := K 0 S
set_option maxHeartbeats 4000000 in
set_option maxRecDepth 100000 in
theorem L_M_data_20 {p : Program} {l : Launch} {e : Env} {s : State} {m : MethodId} {args : Array Value} {below : List Frame} {meth : Method} {c : Code} {A : Nat → Prop} {D : va_G} {h0 : Nat} {a : Nat → Nat} {cI cB : ClassId} {K : Int32 → St → Prop} (C : CX p rm_M_data s m args meth c b_M_data 3 "PipelinedCoreModel" (some .boolean) pr_M_data D clK (tysK cI cB) A) (S : St)  (h : wp_M_data_20 K S) : J p l e rm_M_data s m args below meth c 3 D clK A 0 0 (MQ below (va_Qi K (fun u t => QK D clK (tysK cI cB) A (wsM h0 a cI cB u) t) A) args s 0 0 A) (wsM h0 a cI cB S) [] 20 [] := by
  unfold wp_M_data_20 at h
  refine j_iconst C 10 21 rfl rfl kI_0 ?_
  exact j_zret C 11 rfl isB_0 h
def wp_M_data (S : St) (p1 : Int32) (p2 : Int32) (K : Int32 → St → Prop) : Prop := wp_M_isData S p1 (fun r2 S1 => ((if r2 = 0 then ((wp_M_data_20 K S1)) else ((if (jrem p1 4) = 0 then ((if (S1 0 1) ≤ 0 then (vp_in ((p1 - (1024 : Int32)) / 4) 64 ∧ (∀ S6 : St, S6 = st S1 3 ((p1 - (1024 : Int32)) / 4 : Int32).toNatClampNeg p2 → (vp_in ((p1 - (1024 : Int32)) / 4) 64 ∧ (∀ S7 : St, S7 = st S6 6 ((p1 - (1024 : Int32)) / 4 : Int32).toNatClampNeg p2 → (K 1 S7))))) else ((wp_M_data_20 K S1)))) else ((wp_M_data_20 K S1)))))))
set_option maxHeartbeats 4000000 in
set_option maxRecDepth 100000 in
theorem c_M_data (l : Launch) (D : va_G) (h0 : Nat) (a : Nat → Nat) (cI cB : ClassId) (S : St) (p1 : Int32) (p2 : Int32) (K : Int32 → St → Prop) (h : wp_M_data S p1 p2 K) (sz : Nat) : Met l y_M_data (Cond.code y_M_data b_M_data 3 (some .boolean) :: gw) rm_M_data (va_Pc [.ref h0, .int p1, .int p2] (PK D clK (tysK cI cB) (wsM h0 a cI cB S) sz)) (va_Qi K (fun u t => QK D clK (tysK cI cB) (va_A (wsM h0 a cI cB S) sz) (wsM h0 a cI cB u) t) (va_A (wsM h0 a cI cB S) sz)) 0 0 (va_A (wsM h0 a cI cB S) sz) := by
  refine met_of (rm := rm_M_data) (pr := pr_M_data) (Qc := fun A => va_Qi K (fun u t => QK D clK (tysK cI cB) A (wsM h0 a cI cB u) t) A) (by decide +kernel) dm_M_data (Nat.le_of_ble_eq_true rfl) (fun p e s m args below meth c A C => ?_) sz
  unfold wp_M_data at h
  show J p l e rm_M_data s m args below meth c 3 D clK A 0 0 _ (wsM h0 a cI cB S) [(0, .ref h0), (1, .int p1), (2, .int p2)] 0 []
  refine j_iload_n C 0 1 rfl rfl rfl 1 rfl ?_
  refine j_callSi C 1 4 rfl rfl w791 m_M_isData (As := [.int p1]) (c_M_isData l D h0 a cI cB S p1 _ h) ⟨rfl, rfl⟩ ⟨Nat.le_of_ble_eq_true rfl, Nat.le_of_ble_eq_true rfl⟩ rfl ⟨Nat.le_of_ble_eq_true rfl, Nat.le_of_ble_eq_true rfl⟩ (Nat.le_of_ble_eq_true rfl) rfl (fun r2 S1 h => ?_)
  refine j_if_eq C 2 20 7 rfl (by decide) rfl (fun c3 => ?_) (fun c3 => ?_)
  · replace h := ite_t h c3
    refine j_sub [] rfl ?_
    exact L_M_data_20 C S1 h
  · replace h := ite_f h c3
    refine j_iload_n C 3 8 rfl rfl rfl 1 rfl ?_
    refine j_iconst C 4 9 rfl rfl kI_4 ?_
    refine j_irem C 5 10 rfl rfl (by decide) ?_
    refine j_if_ne C 6 20 13 rfl (by decide) rfl (fun c4 => ?_) (fun c4 => ?_)
    · replace h := ite_f h c4
      refine j_sub [] rfl ?_
      exact L_M_data_20 C S1 h
    · replace h := ite_t h c4
      refine j_aload_n C 7 14 rfl rfl rfl 0 rfl ?_
      refine j_get C 8 17 rfl rfl fg_M_96 0 rfl rfl ?_
      refine j_if_le C 9 22 20 rfl (by decide) rfl (fun c5 => ?_) (fun c5 => ?_)
      · replace h := ite_t h c5
        refine j_aload_n C 12 23 rfl rfl rfl 0 rfl ?_
        refine j_get C 13 26 rfl rfl fg_M_16 0 rfl rfl ?_
        refine j_iload_n C 14 27 rfl rfl rfl 1 rfl ?_
        refine j_sipush C 15 30 rfl rfl kS_1024 ?_
        refine j_isub C 16 31 rfl rfl ?_
        refine j_iconst C 17 32 rfl rfl kI_4 ?_
        refine j_idiv C 18 33 rfl rfl (by decide) ?_
        refine j_iload_n C 19 34 rfl rfl rfl 2 rfl ?_
        refine j_iast C 20 35 rfl rfl 3 0 rfl rfl h.1 (st S1 3 ((p1 - (1024 : Int32)) / 4 : Int32).toNatClampNeg p2) (sM_3 _ _ _ _ _ _ _) (fun S6 eS6 => ?_)
        replace h := h.2
        replace h := h S6 eS6
        refine j_aload_n C 21 36 rfl rfl rfl 0 rfl ?_
        refine j_get C 22 39 rfl rfl fg_M_25 0 rfl rfl ?_
        refine j_iload_n C 23 40 rfl rfl rfl 1 rfl ?_
        refine j_sipush C 24 43 rfl rfl kS_1024 ?_
        refine j_isub C 25 44 rfl rfl ?_
        refine j_iconst C 26 45 rfl rfl kI_4 ?_
        refine j_idiv C 27 46 rfl rfl (by decide) ?_
        refine j_iload_n C 28 47 rfl rfl rfl 2 rfl ?_
        refine j_iast C 29 48 rfl rfl 6 0 rfl rfl h.1 (st S6 6 ((p1 - (1024 : Int32)) / 4 : Int32).toNatClampNeg p2) (sM_6 _ _ _ _ _ _ _) (fun S7 eS7 => ?_)
        replace h := h.2
        replace h := h S7 eS7
        refine j_iconst C 30 49 rfl rfl kI_1 ?_
        exact j_zret C 31 rfl isB_1 h
      · replace h := ite_f h c5
        refine j_sub [] rfl ?_
        exact L_M_data_20 C S1 h
abbrev rm_M_lines : Room := { frames := 0, cells := 0, slots := 0, locals := 0 }
def wp_M_lines (S : St) (p1 : Int32) (K : Int32 → St → Prop) : Prop := (if (p1 &&& (-2185 : Int32)) = 0 then (vp_in 7 8 ∧ (∀ S2 : St, S2 = st S 4 (7 : Int32).toNatClampNeg p1 → (K 1 S2))) else (K 0 S))
set_option maxHeartbeats 4000000 in
set_option maxRecDepth 100000 in
theorem c_M_lines (l : Launch) (D : va_G) (h0 : Nat) (a : Nat → Nat) (cI cB : ClassId) (S : St) (p1 : Int32) (K : Int32 → St → Prop) (h : wp_M_lines S p1 K) (sz : Nat) : Met l y_M_lines (Cond.code y_M_lines b_M_lines 2 (some .boolean) :: gw) rm_M_lines (va_Pc [.ref h0, .int p1] (PK D clK (tysK cI cB) (wsM h0 a cI cB S) sz)) (va_Qi K (fun u t => QK D clK (tysK cI cB) (va_A (wsM h0 a cI cB S) sz) (wsM h0 a cI cB u) t) (va_A (wsM h0 a cI cB S) sz)) 0 0 (va_A (wsM h0 a cI cB S) sz) := by
  refine met_of (rm := rm_M_lines) (pr := pr_M_lines) (Qc := fun A => va_Qi K (fun u t => QK D clK (tysK cI cB) A (wsM h0 a cI cB u) t) A) (by decide +kernel) dm_M_lines (Nat.le_of_ble_eq_true rfl) (fun p e s m args below meth c A C => ?_) sz
  unfold wp_M_lines at h
  show J p l e rm_M_lines s m args below meth c 2 D clK A 0 0 _ (wsM h0 a cI cB S) [(0, .ref h0), (1, .int p1)] 0 []
  refine j_iload_n C 0 1 rfl rfl rfl 1 rfl ?_
  refine j_sipush C 1 4 rfl rfl kS_m2185 ?_
  refine j_iand C 2 5 rfl rfl ?_
  refine j_if_eq C 3 10 8 rfl (by decide) rfl (fun c1 => ?_) (fun c1 => ?_)
  · replace h := ite_t h c1
    refine j_aload_n C 6 11 rfl rfl rfl 0 rfl ?_
    refine j_get C 7 14 rfl rfl fg_M_19 0 rfl rfl ?_
    refine j_bipush C 8 16 rfl rfl kB_7 ?_
    refine j_iload_n C 9 17 rfl rfl rfl 1 rfl ?_
    refine j_iast C 10 18 rfl rfl 4 0 rfl rfl h.1 (st S 4 (7 : Int32).toNatClampNeg p1) (sM_4 _ _ _ _ _ _ _) (fun S2 eS2 => ?_)
    replace h := h.2
    replace h := h S2 eS2
    refine j_iconst C 11 19 rfl rfl kI_1 ?_
    exact j_zret C 12 rfl isB_1 h
  · replace h := ite_f h c1
    refine j_iconst C 4 9 rfl rfl kI_0 ?_
    exact j_zret C 5 rfl isB_0 h
abbrev rm_M_bits : Room := { frames := 0, cells := 0, slots := 0, locals := 0 }
def wp_M_bits (S : St) (p1 : Int32) (p2 : Int32) (K : Int32 → St → Prop) : Prop := K ((jushr (S 0 44) p1) &&& (((1 : Int32) <<< (p2 &&& 31)) - (1 : Int32))) S
set_option maxHeartbeats 4000000 in
set_option maxRecDepth 100000 in
theorem c_M_bits (l : Launch) (D : va_G) (h0 : Nat) (a : Nat → Nat) (cI cB : ClassId) (S : St) (p1 : Int32) (p2 : Int32) (K : Int32 → St → Prop) (h : wp_M_bits S p1 p2 K) (sz : Nat) : Met l y_M_bits (Cond.code y_M_bits b_M_bits 3 (some .int) :: gw) rm_M_bits (va_Pc [.ref h0, .int p1, .int p2] (PK D clK (tysK cI cB) (wsM h0 a cI cB S) sz)) (va_Qi K (fun u t => QK D clK (tysK cI cB) (va_A (wsM h0 a cI cB S) sz) (wsM h0 a cI cB u) t) (va_A (wsM h0 a cI cB S) sz)) 0 0 (va_A (wsM h0 a cI cB S) sz) := by
  refine met_of (rm := rm_M_bits) (pr := pr_M_bits) (Qc := fun A => va_Qi K (fun u t => QK D clK (tysK cI cB) A (wsM h0 a cI cB u) t) A) (by decide +kernel) dm_M_bits (Nat.le_of_ble_eq_true rfl) (fun p e s m args below meth c A C => ?_) sz
  unfold wp_M_bits at h
  show J p l e rm_M_bits s m args below meth c 3 D clK A 0 0 _ (wsM h0 a cI cB S) [(0, .ref h0), (1, .int p1), (2, .int p2)] 0 []
  refine j_aload_n C 0 1 rfl rfl rfl 0 rfl ?_
  refine j_get C 1 4 rfl rfl fg_M_103 0 rfl rfl ?_
  refine j_iload_n C 2 5 rfl rfl rfl 1 rfl ?_
  refine j_iushr C 3 6 rfl rfl ?_
  refine j_iconst C 4 7 rfl rfl kI_1 ?_
  refine j_iload_n C 5 8 rfl rfl rfl 2 rfl ?_
  refine j_ishl C 6 9 rfl rfl ?_
  refine j_iconst C 7 10 rfl rfl kI_1 ?_
  refine j_isub C 8 11 rfl rfl ?_
  refine j_iand C 9 12 rfl rfl ?_
  exact j_iret C 10 rfl h
abbrev rm_M_op : Room := { frames := 1, cells := 0, slots := 0, locals := 22 }
def wp_M_op (S : St)  (K : Int32 → St → Prop) : Prop := wp_M_bits S 0 7 (fun r2 S1 => (K r2 S1))
set_option maxHeartbeats 4000000 in
set_option maxRecDepth 100000 in
theorem c_M_op (l : Launch) (D : va_G) (h0 : Nat) (a : Nat → Nat) (cI cB : ClassId) (S : St)  (K : Int32 → St → Prop) (h : wp_M_op S K) (sz : Nat) : Met l y_M_op (Cond.code y_M_op b_M_op 1 (some .int) :: gw) rm_M_op (va_Pc [.ref h0] (PK D clK (tysK cI cB) (wsM h0 a cI cB S) sz)) (va_Qi K (fun u t => QK D clK (tysK cI cB) (va_A (wsM h0 a cI cB S) sz) (wsM h0 a cI cB u) t) (va_A (wsM h0 a cI cB S) sz)) 0 0 (va_A (wsM h0 a cI cB S) sz) := by
  refine met_of (rm := rm_M_op) (pr := pr_M_op) (Qc := fun A => va_Qi K (fun u t => QK D clK (tysK cI cB) A (wsM h0 a cI cB u) t) A) (by decide +kernel) dm_M_op (Nat.le_of_ble_eq_true rfl) (fun p e s m args below meth c A C => ?_) sz
  unfold wp_M_op at h
  show J p l e rm_M_op s m args below meth c 1 D clK A 0 0 _ (wsM h0 a cI cB S) [(0, .ref h0)] 0 []
  refine j_aload_n C 0 1 rfl rfl rfl 0 rfl ?_
  refine j_iconst C 1 2 rfl rfl kI_0 ?_
  refine j_bipush C 2 4 rfl rfl kB_7 ?_
  refine j_callVi C 3 7 rfl rfl w822 m_M_bits (As := [.int 0, .int 7]) (c_M_bits l D h0 a cI cB S 0 7 _ h) ⟨rfl, rfl⟩ ⟨Nat.le_of_ble_eq_true rfl, Nat.le_of_ble_eq_true rfl⟩ 0 rfl rfl rfl ⟨Nat.le_of_ble_eq_true rfl, Nat.le_of_ble_eq_true rfl⟩ (Nat.le_of_ble_eq_true rfl) rfl (fun r2 S1 h => ?_)
  exact j_iret C 4 rfl h
abbrev rm_M_numberI : Room := { frames := 0, cells := 0, slots := 0, locals := 0 }
def wp_M_numberI (S : St)  (K : Int32 → St → Prop) : Prop := K ((S 0 44) >>> ((20 : Int32) &&& 31)) S
set_option maxHeartbeats 4000000 in
set_option maxRecDepth 100000 in
theorem c_M_numberI (l : Launch) (D : va_G) (h0 : Nat) (a : Nat → Nat) (cI cB : ClassId) (S : St)  (K : Int32 → St → Prop) (h : wp_M_numberI S K) (sz : Nat) : Met l y_M_numberI (Cond.code y_M_numberI b_M_numberI 1 (some .int) :: gw) rm_M_numberI (va_Pc [.ref h0] (PK D clK (tysK cI cB) (wsM h0 a cI cB S) sz)) (va_Qi K (fun u t => QK D clK (tysK cI cB) (va_A (wsM h0 a cI cB S) sz) (wsM h0 a cI cB u) t) (va_A (wsM h0 a cI cB S) sz)) 0 0 (va_A (wsM h0 a cI cB S) sz) := by
  refine met_of (rm := rm_M_numberI) (pr := pr_M_numberI) (Qc := fun A => va_Qi K (fun u t => QK D clK (tysK cI cB) A (wsM h0 a cI cB u) t) A) (by decide +kernel) dm_M_numberI (Nat.le_of_ble_eq_true rfl) (fun p e s m args below meth c A C => ?_) sz
  unfold wp_M_numberI at h
  show J p l e rm_M_numberI s m args below meth c 1 D clK A 0 0 _ (wsM h0 a cI cB S) [(0, .ref h0)] 0 []
  refine j_aload_n C 0 1 rfl rfl rfl 0 rfl ?_
  refine j_get C 1 4 rfl rfl fg_M_103 0 rfl rfl ?_
  refine j_bipush C 2 6 rfl rfl kB_20 ?_
  refine j_ishr C 3 7 rfl rfl ?_
  exact j_iret C 4 rfl h
abbrev rm_M_numberS : Room := { frames := 1, cells := 0, slots := 0, locals := 22 }
def wp_M_numberS (S : St)  (K : Int32 → St → Prop) : Prop := wp_M_bits S 7 5 (fun r2 S1 => (K ((((S 0 44) >>> ((25 : Int32) &&& 31)) <<< ((5 : Int32) &&& 31)) ||| r2) S1))
set_option maxHeartbeats 4000000 in
set_option maxRecDepth 100000 in
theorem c_M_numberS (l : Launch) (D : va_G) (h0 : Nat) (a : Nat → Nat) (cI cB : ClassId) (S : St)  (K : Int32 → St → Prop) (h : wp_M_numberS S K) (sz : Nat) : Met l y_M_numberS (Cond.code y_M_numberS b_M_numberS 1 (some .int) :: gw) rm_M_numberS (va_Pc [.ref h0] (PK D clK (tysK cI cB) (wsM h0 a cI cB S) sz)) (va_Qi K (fun u t => QK D clK (tysK cI cB) (va_A (wsM h0 a cI cB S) sz) (wsM h0 a cI cB u) t) (va_A (wsM h0 a cI cB S) sz)) 0 0 (va_A (wsM h0 a cI cB S) sz) := by
  refine met_of (rm := rm_M_numberS) (pr := pr_M_numberS) (Qc := fun A => va_Qi K (fun u t => QK D clK (tysK cI cB) A (wsM h0 a cI cB u) t) A) (by decide +kernel) dm_M_numberS (Nat.le_of_ble_eq_true rfl) (fun p e s m args below meth c A C => ?_) sz
  unfold wp_M_numberS at h
  show J p l e rm_M_numberS s m args below meth c 1 D clK A 0 0 _ (wsM h0 a cI cB S) [(0, .ref h0)] 0 []
  refine j_aload_n C 0 1 rfl rfl rfl 0 rfl ?_
  refine j_get C 1 4 rfl rfl fg_M_103 0 rfl rfl ?_
  refine j_bipush C 2 6 rfl rfl kB_25 ?_
  refine j_ishr C 3 7 rfl rfl ?_
  refine j_iconst C 4 8 rfl rfl kI_5 ?_
  refine j_ishl C 5 9 rfl rfl ?_
  refine j_aload_n C 6 10 rfl rfl rfl 0 rfl ?_
  refine j_bipush C 7 12 rfl rfl kB_7 ?_
  refine j_iconst C 8 13 rfl rfl kI_5 ?_
  refine j_callVi C 9 16 rfl rfl w822 m_M_bits (As := [.int 7, .int 5]) (c_M_bits l D h0 a cI cB S 7 5 _ h) ⟨rfl, rfl⟩ ⟨Nat.le_of_ble_eq_true rfl, Nat.le_of_ble_eq_true rfl⟩ 0 rfl rfl rfl ⟨Nat.le_of_ble_eq_true rfl, Nat.le_of_ble_eq_true rfl⟩ (Nat.le_of_ble_eq_true rfl) rfl (fun r2 S1 h => ?_)
  refine j_ior C 10 17 rfl rfl ?_
  exact j_iret C 11 rfl h
abbrev rm_M_numberB : Room := { frames := 1, cells := 0, slots := 0, locals := 22 }
def wp_M_numberB (S : St)  (K : Int32 → St → Prop) : Prop := wp_M_bits S 7 1 (fun r2 S1 => (wp_M_bits S1 25 6 (fun r4 S3 => (wp_M_bits S3 8 4 (fun r6 S5 => (K ((((((S 0 44) >>> ((31 : Int32) &&& 31)) <<< ((12 : Int32) &&& 31)) ||| (r2 <<< ((11 : Int32) &&& 31))) ||| (r4 <<< ((5 : Int32) &&& 31))) ||| (r6 <<< ((1 : Int32) &&& 31))) S5))))))
set_option maxHeartbeats 4000000 in
set_option maxRecDepth 100000 in
theorem c_M_numberB (l : Launch) (D : va_G) (h0 : Nat) (a : Nat → Nat) (cI cB : ClassId) (S : St)  (K : Int32 → St → Prop) (h : wp_M_numberB S K) (sz : Nat) : Met l y_M_numberB (Cond.code y_M_numberB b_M_numberB 1 (some .int) :: gw) rm_M_numberB (va_Pc [.ref h0] (PK D clK (tysK cI cB) (wsM h0 a cI cB S) sz)) (va_Qi K (fun u t => QK D clK (tysK cI cB) (va_A (wsM h0 a cI cB S) sz) (wsM h0 a cI cB u) t) (va_A (wsM h0 a cI cB S) sz)) 0 0 (va_A (wsM h0 a cI cB S) sz) := by
  refine met_of (rm := rm_M_numberB) (pr := pr_M_numberB) (Qc := fun A => va_Qi K (fun u t => QK D clK (tysK cI cB) A (wsM h0 a cI cB u) t) A) (by decide +kernel) dm_M_numberB (Nat.le_of_ble_eq_true rfl) (fun p e s m args below meth c A C => ?_) sz
  unfold wp_M_numberB at h
  show J p l e rm_M_numberB s m args below meth c 1 D clK A 0 0 _ (wsM h0 a cI cB S) [(0, .ref h0)] 0 []
  refine j_aload_n C 0 1 rfl rfl rfl 0 rfl ?_
  refine j_get C 1 4 rfl rfl fg_M_103 0 rfl rfl ?_
  refine j_bipush C 2 6 rfl rfl kB_31 ?_
  refine j_ishr C 3 7 rfl rfl ?_
  refine j_bipush C 4 9 rfl rfl kB_12 ?_
  refine j_ishl C 5 10 rfl rfl ?_
  refine j_aload_n C 6 11 rfl rfl rfl 0 rfl ?_
  refine j_bipush C 7 13 rfl rfl kB_7 ?_
  refine j_iconst C 8 14 rfl rfl kI_1 ?_
  refine j_callVi C 9 17 rfl rfl w822 m_M_bits (As := [.int 7, .int 1]) (c_M_bits l D h0 a cI cB S 7 1 _ h) ⟨rfl, rfl⟩ ⟨Nat.le_of_ble_eq_true rfl, Nat.le_of_ble_eq_true rfl⟩ 0 rfl rfl rfl ⟨Nat.le_of_ble_eq_true rfl, Nat.le_of_ble_eq_true rfl⟩ (Nat.le_of_ble_eq_true rfl) rfl (fun r2 S1 h => ?_)
  refine j_bipush C 10 19 rfl rfl kB_11 ?_
  refine j_ishl C 11 20 rfl rfl ?_
  refine j_ior C 12 21 rfl rfl ?_
  refine j_aload_n C 13 22 rfl rfl rfl 0 rfl ?_
  refine j_bipush C 14 24 rfl rfl kB_25 ?_
  refine j_bipush C 15 26 rfl rfl kB_6 ?_
  refine j_callVi C 16 29 rfl rfl w822 m_M_bits (As := [.int 25, .int 6]) (c_M_bits l D h0 a cI cB S1 25 6 _ h) ⟨rfl, rfl⟩ ⟨Nat.le_of_ble_eq_true rfl, Nat.le_of_ble_eq_true rfl⟩ 0 rfl rfl rfl ⟨Nat.le_of_ble_eq_true rfl, Nat.le_of_ble_eq_true rfl⟩ (Nat.le_of_ble_eq_true rfl) rfl (fun r4 S3 h => ?_)
  refine j_iconst C 17 30 rfl rfl kI_5 ?_
  refine j_ishl C 18 31 rfl rfl ?_
  refine j_ior C 19 32 rfl rfl ?_
  refine j_aload_n C 20 33 rfl rfl rfl 0 rfl ?_
  refine j_bipush C 21 35 rfl rfl kB_8 ?_
  refine j_iconst C 22 36 rfl rfl kI_4 ?_
  refine j_callVi C 23 39 rfl rfl w822 m_M_bits (As := [.int 8, .int 4]) (c_M_bits l D h0 a cI cB S3 8 4 _ h) ⟨rfl, rfl⟩ ⟨Nat.le_of_ble_eq_true rfl, Nat.le_of_ble_eq_true rfl⟩ 0 rfl rfl rfl ⟨Nat.le_of_ble_eq_true rfl, Nat.le_of_ble_eq_true rfl⟩ (Nat.le_of_ble_eq_true rfl) rfl (fun r6 S5 h => ?_)
  refine j_iconst C 24 40 rfl rfl kI_1 ?_
  refine j_ishl C 25 41 rfl rfl ?_
  refine j_ior C 26 42 rfl rfl ?_
  exact j_iret C 27 rfl h
abbrev rm_M_numberJ : Room := { frames := 1, cells := 0, slots := 0, locals := 22 }
def wp_M_numberJ (S : St)  (K : Int32 → St → Prop) : Prop := wp_M_bits S 12 8 (fun r2 S1 => (wp_M_bits S1 20 1 (fun r4 S3 => (wp_M_bits S3 21 10 (fun r6 S5 => (K ((((((S 0 44) >>> ((31 : Int32) &&& 31)) <<< ((20 : Int32) &&& 31)) ||| (r2 <<< ((12 : Int32) &&& 31))) ||| (r4 <<< ((11 : Int32) &&& 31))) ||| (r6 <<< ((1 : Int32) &&& 31))) S5))))))
set_option maxHeartbeats 4000000 in
set_option maxRecDepth 100000 in
theorem c_M_numberJ (l : Launch) (D : va_G) (h0 : Nat) (a : Nat → Nat) (cI cB : ClassId) (S : St)  (K : Int32 → St → Prop) (h : wp_M_numberJ S K) (sz : Nat) : Met l y_M_numberJ (Cond.code y_M_numberJ b_M_numberJ 1 (some .int) :: gw) rm_M_numberJ (va_Pc [.ref h0] (PK D clK (tysK cI cB) (wsM h0 a cI cB S) sz)) (va_Qi K (fun u t => QK D clK (tysK cI cB) (va_A (wsM h0 a cI cB S) sz) (wsM h0 a cI cB u) t) (va_A (wsM h0 a cI cB S) sz)) 0 0 (va_A (wsM h0 a cI cB S) sz) := by
  refine met_of (rm := rm_M_numberJ) (pr := pr_M_numberJ) (Qc := fun A => va_Qi K (fun u t => QK D clK (tysK cI cB) A (wsM h0 a cI cB u) t) A) (by decide +kernel) dm_M_numberJ (Nat.le_of_ble_eq_true rfl) (fun p e s m args below meth c A C => ?_) sz
  unfold wp_M_numberJ at h
  show J p l e rm_M_numberJ s m args below meth c 1 D clK A 0 0 _ (wsM h0 a cI cB S) [(0, .ref h0)] 0 []
  refine j_aload_n C 0 1 rfl rfl rfl 0 rfl ?_
  refine j_get C 1 4 rfl rfl fg_M_103 0 rfl rfl ?_
  refine j_bipush C 2 6 rfl rfl kB_31 ?_
  refine j_ishr C 3 7 rfl rfl ?_
  refine j_bipush C 4 9 rfl rfl kB_20 ?_
  refine j_ishl C 5 10 rfl rfl ?_
  refine j_aload_n C 6 11 rfl rfl rfl 0 rfl ?_
  refine j_bipush C 7 13 rfl rfl kB_12 ?_
  refine j_bipush C 8 15 rfl rfl kB_8 ?_
  refine j_callVi C 9 18 rfl rfl w822 m_M_bits (As := [.int 12, .int 8]) (c_M_bits l D h0 a cI cB S 12 8 _ h) ⟨rfl, rfl⟩ ⟨Nat.le_of_ble_eq_true rfl, Nat.le_of_ble_eq_true rfl⟩ 0 rfl rfl rfl ⟨Nat.le_of_ble_eq_true rfl, Nat.le_of_ble_eq_true rfl⟩ (Nat.le_of_ble_eq_true rfl) rfl (fun r2 S1 h => ?_)
  refine j_bipush C 10 20 rfl rfl kB_12 ?_
  refine j_ishl C 11 21 rfl rfl ?_
  refine j_ior C 12 22 rfl rfl ?_
  refine j_aload_n C 13 23 rfl rfl rfl 0 rfl ?_
  refine j_bipush C 14 25 rfl rfl kB_20 ?_
  refine j_iconst C 15 26 rfl rfl kI_1 ?_
  refine j_callVi C 16 29 rfl rfl w822 m_M_bits (As := [.int 20, .int 1]) (c_M_bits l D h0 a cI cB S1 20 1 _ h) ⟨rfl, rfl⟩ ⟨Nat.le_of_ble_eq_true rfl, Nat.le_of_ble_eq_true rfl⟩ 0 rfl rfl rfl ⟨Nat.le_of_ble_eq_true rfl, Nat.le_of_ble_eq_true rfl⟩ (Nat.le_of_ble_eq_true rfl) rfl (fun r4 S3 h => ?_)
  refine j_bipush C 17 31 rfl rfl kB_11 ?_
  refine j_ishl C 18 32 rfl rfl ?_
  refine j_ior C 19 33 rfl rfl ?_
  refine j_aload_n C 20 34 rfl rfl rfl 0 rfl ?_
  refine j_bipush C 21 36 rfl rfl kB_21 ?_
  refine j_bipush C 22 38 rfl rfl kB_10 ?_
  refine j_callVi C 23 41 rfl rfl w822 m_M_bits (As := [.int 21, .int 10]) (c_M_bits l D h0 a cI cB S3 21 10 _ h) ⟨rfl, rfl⟩ ⟨Nat.le_of_ble_eq_true rfl, Nat.le_of_ble_eq_true rfl⟩ 0 rfl rfl rfl ⟨Nat.le_of_ble_eq_true rfl, Nat.le_of_ble_eq_true rfl⟩ (Nat.le_of_ble_eq_true rfl) rfl (fun r6 S5 h => ?_)
  refine j_iconst C 24 42 rfl rfl kI_1 ?_
  refine j_ishl C 25 43 rfl rfl ?_
  refine j_ior C 26 44 rfl rfl ?_
  exact j_iret C 27 rfl h
abbrev rm_M_regA : Room := { frames := 1, cells := 0, slots := 0, locals := 22 }
def wp_M_regA (S : St)  (K : Int32 → St → Prop) : Prop := wp_M_bits S 15 5 (fun r2 S1 => (vp_in r2 32 ∧ (K (S1 2 r2.toNatClampNeg) S1)))
set_option maxHeartbeats 4000000 in
set_option maxRecDepth 100000 in
theorem c_M_regA (l : Launch) (D : va_G) (h0 : Nat) (a : Nat → Nat) (cI cB : ClassId) (S : St)  (K : Int32 → St → Prop) (h : wp_M_regA S K) (sz : Nat) : Met l y_M_regA (Cond.code y_M_regA b_M_regA 1 (some .int) :: gw) rm_M_regA (va_Pc [.ref h0] (PK D clK (tysK cI cB) (wsM h0 a cI cB S) sz)) (va_Qi K (fun u t => QK D clK (tysK cI cB) (va_A (wsM h0 a cI cB S) sz) (wsM h0 a cI cB u) t) (va_A (wsM h0 a cI cB S) sz)) 0 0 (va_A (wsM h0 a cI cB S) sz) := by
  refine met_of (rm := rm_M_regA) (pr := pr_M_regA) (Qc := fun A => va_Qi K (fun u t => QK D clK (tysK cI cB) A (wsM h0 a cI cB u) t) A) (by decide +kernel) dm_M_regA (Nat.le_of_ble_eq_true rfl) (fun p e s m args below meth c A C => ?_) sz
  unfold wp_M_regA at h
  show J p l e rm_M_regA s m args below meth c 1 D clK A 0 0 _ (wsM h0 a cI cB S) [(0, .ref h0)] 0 []
  refine j_aload_n C 0 1 rfl rfl rfl 0 rfl ?_
  refine j_get C 1 4 rfl rfl fg_M_13 0 rfl rfl ?_
  refine j_aload_n C 2 5 rfl rfl rfl 0 rfl ?_
  refine j_bipush C 3 7 rfl rfl kB_15 ?_
  refine j_iconst C 4 8 rfl rfl kI_5 ?_
  refine j_callVi C 5 11 rfl rfl w822 m_M_bits (As := [.int 15, .int 5]) (c_M_bits l D h0 a cI cB S 15 5 _ h) ⟨rfl, rfl⟩ ⟨Nat.le_of_ble_eq_true rfl, Nat.le_of_ble_eq_true rfl⟩ 0 rfl rfl rfl ⟨Nat.le_of_ble_eq_true rfl, Nat.le_of_ble_eq_true rfl⟩ (Nat.le_of_ble_eq_true rfl) rfl (fun r2 S1 h => ?_)
  refine j_iald C 6 12 rfl rfl 2 0 rfl rfl h.1 ?_
  replace h := h.2
  exact j_iret C 7 rfl h
abbrev rm_M_regB : Room := { frames := 1, cells := 0, slots := 0, locals := 22 }
def wp_M_regB (S : St)  (K : Int32 → St → Prop) : Prop := wp_M_bits S 20 5 (fun r2 S1 => (vp_in r2 32 ∧ (K (S1 2 r2.toNatClampNeg) S1)))
set_option maxHeartbeats 4000000 in
set_option maxRecDepth 100000 in
theorem c_M_regB (l : Launch) (D : va_G) (h0 : Nat) (a : Nat → Nat) (cI cB : ClassId) (S : St)  (K : Int32 → St → Prop) (h : wp_M_regB S K) (sz : Nat) : Met l y_M_regB (Cond.code y_M_regB b_M_regB 1 (some .int) :: gw) rm_M_regB (va_Pc [.ref h0] (PK D clK (tysK cI cB) (wsM h0 a cI cB S) sz)) (va_Qi K (fun u t => QK D clK (tysK cI cB) (va_A (wsM h0 a cI cB S) sz) (wsM h0 a cI cB u) t) (va_A (wsM h0 a cI cB S) sz)) 0 0 (va_A (wsM h0 a cI cB S) sz) := by
  refine met_of (rm := rm_M_regB) (pr := pr_M_regB) (Qc := fun A => va_Qi K (fun u t => QK D clK (tysK cI cB) A (wsM h0 a cI cB u) t) A) (by decide +kernel) dm_M_regB (Nat.le_of_ble_eq_true rfl) (fun p e s m args below meth c A C => ?_) sz
  unfold wp_M_regB at h
  show J p l e rm_M_regB s m args below meth c 1 D clK A 0 0 _ (wsM h0 a cI cB S) [(0, .ref h0)] 0 []
  refine j_aload_n C 0 1 rfl rfl rfl 0 rfl ?_
  refine j_get C 1 4 rfl rfl fg_M_13 0 rfl rfl ?_
  refine j_aload_n C 2 5 rfl rfl rfl 0 rfl ?_
  refine j_bipush C 3 7 rfl rfl kB_20 ?_
  refine j_iconst C 4 8 rfl rfl kI_5 ?_
  refine j_callVi C 5 11 rfl rfl w822 m_M_bits (As := [.int 20, .int 5]) (c_M_bits l D h0 a cI cB S 20 5 _ h) ⟨rfl, rfl⟩ ⟨Nat.le_of_ble_eq_true rfl, Nat.le_of_ble_eq_true rfl⟩ 0 rfl rfl rfl ⟨Nat.le_of_ble_eq_true rfl, Nat.le_of_ble_eq_true rfl⟩ (Nat.le_of_ble_eq_true rfl) rfl (fun r2 S1 h => ?_)
  refine j_iald C 6 12 rfl rfl 2 0 rfl rfl h.1 ?_
  replace h := h.2
  exact j_iret C 7 rfl h
abbrev rm_M_usesA : Room := { frames := 2, cells := 0, slots := 0, locals := 42 }
def wp_M_usesA_67 (K : Int32 → St → Prop) (S : St) (k0 : Int32) : Prop := isB k0 ∧ K k0 S
set_option maxHeartbeats 4000000 in
set_option maxRecDepth 100000 in
theorem L_M_usesA_67 {p : Program} {l : Launch} {e : Env} {s : State} {m : MethodId} {args : Array Value} {below : List Frame} {meth : Method} {c : Code} {A : Nat → Prop} {D : va_G} {h0 : Nat} {a : Nat → Nat} {cI cB : ClassId} {K : Int32 → St → Prop} (C : CX p rm_M_usesA s m args meth c b_M_usesA 4 "PipelinedCoreModel" (some .boolean) pr_M_usesA D clK (tysK cI cB) A) (S : St) (k0 : Int32) (h : wp_M_usesA_67 K S k0) : J p l e rm_M_usesA s m args below meth c 4 D clK A 0 0 (MQ below (va_Qi K (fun u t => QK D clK (tysK cI cB) A (wsM h0 a cI cB u) t) A) args s 0 0 A) (wsM h0 a cI cB S) [] 67 [.int k0] := by
  unfold wp_M_usesA_67 at h
  exact j_zret C 37 rfl h.1 h.2
def wp_M_usesA_57 (K : Int32 → St → Prop) (S : St) (k0 : Int32) : Prop := (if k0 = 0 then ((wp_M_usesA_67 K S 1)) else ((wp_M_usesA_67 K S 0)))
set_option maxHeartbeats 4000000 in
set_option maxRecDepth 100000 in
theorem L_M_usesA_57 {p : Program} {l : Launch} {e : Env} {s : State} {m : MethodId} {args : Array Value} {below : List Frame} {meth : Method} {c : Code} {A : Nat → Prop} {D : va_G} {h0 : Nat} {a : Nat → Nat} {cI cB : ClassId} {K : Int32 → St → Prop} (C : CX p rm_M_usesA s m args meth c b_M_usesA 4 "PipelinedCoreModel" (some .boolean) pr_M_usesA D clK (tysK cI cB) A) (S : St) (k0 : Int32) (h : wp_M_usesA_57 K S k0) : J p l e rm_M_usesA s m args below meth c 4 D clK A 0 0 (MQ below (va_Qi K (fun u t => QK D clK (tysK cI cB) A (wsM h0 a cI cB u) t) A) args s 0 0 A) (wsM h0 a cI cB S) [] 57 [.int k0] := by
  unfold wp_M_usesA_57 at h
  refine j_istore_n C 31 58 [(3, .int k0)] rfl rfl rfl (by decide) rfl ?_
  refine j_iload_n C 32 59 rfl rfl rfl 0 rfl ?_
  refine j_if_ne C 33 66 62 rfl (by decide) rfl (fun c12 => ?_) (fun c12 => ?_)
  · replace h := ite_f h c12
    refine j_iconst C 36 67 rfl rfl kI_0 ?_
    refine j_sub [] rfl ?_
    exact L_M_usesA_67 C S 0 h
  · replace h := ite_t h c12
    refine j_iconst C 34 63 rfl rfl kI_1 ?_
    refine j_goto C 35 67 rfl (by decide) ?_
    refine j_sub [] rfl ?_
    exact L_M_usesA_67 C S 1 h
def wp_M_usesA_52 (K : Int32 → St → Prop) (S : St)  : Prop := (wp_M_usesA_57 K S 1)
set_option maxHeartbeats 4000000 in
set_option maxRecDepth 100000 in
theorem L_M_usesA_52 {p : Program} {l : Launch} {e : Env} {s : State} {m : MethodId} {args : Array Value} {below : List Frame} {meth : Method} {c : Code} {A : Nat → Prop} {D : va_G} {h0 : Nat} {a : Nat → Nat} {cI cB : ClassId} {K : Int32 → St → Prop} (C : CX p rm_M_usesA s m args meth c b_M_usesA 4 "PipelinedCoreModel" (some .boolean) pr_M_usesA D clK (tysK cI cB) A) (S : St)  (h : wp_M_usesA_52 K S) : J p l e rm_M_usesA s m args below meth c 4 D clK A 0 0 (MQ below (va_Qi K (fun u t => QK D clK (tysK cI cB) A (wsM h0 a cI cB u) t) A) args s 0 0 A) (wsM h0 a cI cB S) [] 52 [] := by
  unfold wp_M_usesA_52 at h
  refine j_iconst C 28 53 rfl rfl kI_1 ?_
  refine j_goto C 29 57 rfl (by decide) ?_
  exact L_M_usesA_57 C S 1 h
def wp_M_usesA_56 (K : Int32 → St → Prop) (S : St)  : Prop := (wp_M_usesA_57 K S 0)
set_option maxHeartbeats 4000000 in
set_option maxRecDepth 100000 in
theorem L_M_usesA_56 {p : Program} {l : Launch} {e : Env} {s : State} {m : MethodId} {args : Array Value} {below : List Frame} {meth : Method} {c : Code} {A : Nat → Prop} {D : va_G} {h0 : Nat} {a : Nat → Nat} {cI cB : ClassId} {K : Int32 → St → Prop} (C : CX p rm_M_usesA s m args meth c b_M_usesA 4 "PipelinedCoreModel" (some .boolean) pr_M_usesA D clK (tysK cI cB) A) (S : St)  (h : wp_M_usesA_56 K S) : J p l e rm_M_usesA s m args below meth c 4 D clK A 0 0 (MQ below (va_Qi K (fun u t => QK D clK (tysK cI cB) A (wsM h0 a cI cB u) t) A) args s 0 0 A) (wsM h0 a cI cB S) [] 56 [] := by
  unfold wp_M_usesA_56 at h
  refine j_iconst C 30 57 rfl rfl kI_0 ?_
  exact L_M_usesA_57 C S 0 h
def wp_M_usesA (S : St)  (K : Int32 → St → Prop) : Prop := wp_M_op S (fun r2 S1 => (wp_M_bits S1 12 3 (fun r4 S3 => ((if r2 = 55 then ((wp_M_usesA_52 K S3)) else ((if r2 = 23 then ((wp_M_usesA_52 K S3)) else ((if r2 = 111 then ((wp_M_usesA_52 K S3)) else ((if r2 = 15 then ((wp_M_usesA_52 K S3)) else ((if r2 = 115 then ((if r4 = 0 then ((wp_M_usesA_52 K S3)) else ((if r4 ≤ 4 then ((wp_M_usesA_56 K S3)) else ((wp_M_usesA_52 K S3)))))) else ((wp_M_usesA_56 K S3)))))))))))))))
set_option maxHeartbeats 4000000 in
set_option maxRecDepth 100000 in
theorem c_M_usesA (l : Launch) (D : va_G) (h0 : Nat) (a : Nat → Nat) (cI cB : ClassId) (S : St)  (K : Int32 → St → Prop) (h : wp_M_usesA S K) (sz : Nat) : Met l y_M_usesA (Cond.code y_M_usesA b_M_usesA 4 (some .boolean) :: gw) rm_M_usesA (va_Pc [.ref h0] (PK D clK (tysK cI cB) (wsM h0 a cI cB S) sz)) (va_Qi K (fun u t => QK D clK (tysK cI cB) (va_A (wsM h0 a cI cB S) sz) (wsM h0 a cI cB u) t) (va_A (wsM h0 a cI cB S) sz)) 0 0 (va_A (wsM h0 a cI cB S) sz) := by
  refine met_of (rm := rm_M_usesA) (pr := pr_M_usesA) (Qc := fun A => va_Qi K (fun u t => QK D clK (tysK cI cB) A (wsM h0 a cI cB u) t) A) (by decide +kernel) dm_M_usesA (Nat.le_of_ble_eq_true rfl) (fun p e s m args below meth c A C => ?_) sz
  unfold wp_M_usesA at h
  show J p l e rm_M_usesA s m args below meth c 4 D clK A 0 0 _ (wsM h0 a cI cB S) [(0, .ref h0)] 0 []
  refine j_aload_n C 0 1 rfl rfl rfl 0 rfl ?_
  refine j_callVi C 1 4 rfl rfl w818 m_M_op (As := []) (c_M_op l D h0 a cI cB S _ h) ⟨rfl, rfl⟩ ⟨Nat.le_of_ble_eq_true rfl, Nat.le_of_ble_eq_true rfl⟩ 0 rfl rfl rfl ⟨Nat.le_of_ble_eq_true rfl, Nat.le_of_ble_eq_true rfl⟩ (Nat.le_of_ble_eq_true rfl) rfl (fun r2 S1 h => ?_)
  refine j_istore_n C 2 5 [(1, .int r2), (0, .ref h0)] rfl rfl rfl (by decide) rfl ?_
  refine j_aload_n C 3 6 rfl rfl rfl 1 rfl ?_
  refine j_bipush C 4 8 rfl rfl kB_12 ?_
  refine j_iconst C 5 9 rfl rfl kI_3 ?_
  refine j_callVi C 6 12 rfl rfl w822 m_M_bits (As := [.int 12, .int 3]) (c_M_bits l D h0 a cI cB S1 12 3 _ h) ⟨rfl, rfl⟩ ⟨Nat.le_of_ble_eq_true rfl, Nat.le_of_ble_eq_true rfl⟩ 0 rfl rfl rfl ⟨Nat.le_of_ble_eq_true rfl, Nat.le_of_ble_eq_true rfl⟩ (Nat.le_of_ble_eq_true rfl) rfl (fun r4 S3 h => ?_)
  refine j_istore_n C 7 13 [(2, .int r4), (1, .int r2), (0, .ref h0)] rfl rfl rfl (by decide) rfl ?_
  refine j_iload_n C 8 14 rfl rfl rfl 1 rfl ?_
  refine j_bipush C 9 16 rfl rfl kB_55 ?_
  refine j_icmp_eq C 10 52 19 rfl (by decide) rfl (fun c5 => ?_) (fun c5 => ?_)
  · replace h := ite_t h c5
    refine j_sub [] rfl ?_
    exact L_M_usesA_52 C S3 h
  · replace h := ite_f h c5
    refine j_iload_n C 11 20 rfl rfl rfl 1 rfl ?_
    refine j_bipush C 12 22 rfl rfl kB_23 ?_
    refine j_icmp_eq C 13 52 25 rfl (by decide) rfl (fun c6 => ?_) (fun c6 => ?_)
    · replace h := ite_t h c6
      refine j_sub [] rfl ?_
      exact L_M_usesA_52 C S3 h
    · replace h := ite_f h c6
      refine j_iload_n C 14 26 rfl rfl rfl 1 rfl ?_
      refine j_bipush C 15 28 rfl rfl kB_111 ?_
      refine j_icmp_eq C 16 52 31 rfl (by decide) rfl (fun c7 => ?_) (fun c7 => ?_)
      · replace h := ite_t h c7
        refine j_sub [] rfl ?_
        exact L_M_usesA_52 C S3 h
      · replace h := ite_f h c7
        refine j_iload_n C 17 32 rfl rfl rfl 1 rfl ?_
        refine j_bipush C 18 34 rfl rfl kB_15 ?_
        refine j_icmp_eq C 19 52 37 rfl (by decide) rfl (fun c8 => ?_) (fun c8 => ?_)
        · replace h := ite_t h c8
          refine j_sub [] rfl ?_
          exact L_M_usesA_52 C S3 h
        · replace h := ite_f h c8
          refine j_iload_n C 20 38 rfl rfl rfl 1 rfl ?_
          refine j_bipush C 21 40 rfl rfl kB_115 ?_
          refine j_icmp_ne C 22 56 43 rfl (by decide) rfl (fun c9 => ?_) (fun c9 => ?_)
          · replace h := ite_f h c9
            refine j_sub [] rfl ?_
            exact L_M_usesA_56 C S3 h
          · replace h := ite_t h c9
            refine j_iload_n C 23 44 rfl rfl rfl 0 rfl ?_
            refine j_if_eq C 24 52 47 rfl (by decide) rfl (fun c10 => ?_) (fun c10 => ?_)
            · replace h := ite_t h c10
              refine j_sub [] rfl ?_
              exact L_M_usesA_52 C S3 h
            · replace h := ite_f h c10
              refine j_iload_n C 25 48 rfl rfl rfl 0 rfl ?_
              refine j_iconst C 26 49 rfl rfl kI_4 ?_
              refine j_icmp_le C 27 56 52 rfl (by decide) rfl (fun c11 => ?_) (fun c11 => ?_)
              · replace h := ite_t h c11
                refine j_sub [] rfl ?_
                exact L_M_usesA_56 C S3 h
              · replace h := ite_f h c11
                refine j_sub [] rfl ?_
                exact L_M_usesA_52 C S3 h
abbrev rm_M_usesB : Room := { frames := 2, cells := 0, slots := 0, locals := 42 }
def wp_M_usesB_28 (K : Int32 → St → Prop) (S : St) (k0 : Int32) : Prop := isB k0 ∧ K k0 S
set_option maxHeartbeats 4000000 in
set_option maxRecDepth 100000 in
theorem L_M_usesB_28 {p : Program} {l : Launch} {e : Env} {s : State} {m : MethodId} {args : Array Value} {below : List Frame} {meth : Method} {c : Code} {A : Nat → Prop} {D : va_G} {h0 : Nat} {a : Nat → Nat} {cI cB : ClassId} {K : Int32 → St → Prop} (C : CX p rm_M_usesB s m args meth c b_M_usesB 2 "PipelinedCoreModel" (some .boolean) pr_M_usesB D clK (tysK cI cB) A) (S : St) (k0 : Int32) (h : wp_M_usesB_28 K S k0) : J p l e rm_M_usesB s m args below meth c 2 D clK A 0 0 (MQ below (va_Qi K (fun u t => QK D clK (tysK cI cB) A (wsM h0 a cI cB u) t) A) args s 0 0 A) (wsM h0 a cI cB S) [] 28 [.int k0] := by
  unfold wp_M_usesB_28 at h
  exact j_zret C 15 rfl h.1 h.2
def wp_M_usesB_23 (K : Int32 → St → Prop) (S : St)  : Prop := (wp_M_usesB_28 K S 1)
set_option maxHeartbeats 4000000 in
set_option maxRecDepth 100000 in
theorem L_M_usesB_23 {p : Program} {l : Launch} {e : Env} {s : State} {m : MethodId} {args : Array Value} {below : List Frame} {meth : Method} {c : Code} {A : Nat → Prop} {D : va_G} {h0 : Nat} {a : Nat → Nat} {cI cB : ClassId} {K : Int32 → St → Prop} (C : CX p rm_M_usesB s m args meth c b_M_usesB 2 "PipelinedCoreModel" (some .boolean) pr_M_usesB D clK (tysK cI cB) A) (S : St)  (h : wp_M_usesB_23 K S) : J p l e rm_M_usesB s m args below meth c 2 D clK A 0 0 (MQ below (va_Qi K (fun u t => QK D clK (tysK cI cB) A (wsM h0 a cI cB u) t) A) args s 0 0 A) (wsM h0 a cI cB S) [] 23 [] := by
  unfold wp_M_usesB_23 at h
  refine j_iconst C 12 24 rfl rfl kI_1 ?_
  refine j_goto C 13 28 rfl (by decide) ?_
  exact L_M_usesB_28 C S 1 h
def wp_M_usesB (S : St)  (K : Int32 → St → Prop) : Prop := wp_M_op S (fun r2 S1 => ((if r2 = 99 then ((wp_M_usesB_23 K S1)) else ((if r2 = 35 then ((wp_M_usesB_23 K S1)) else ((if r2 = 51 then ((wp_M_usesB_23 K S1)) else ((wp_M_usesB_28 K S1 0)))))))))
set_option maxHeartbeats 4000000 in
set_option maxRecDepth 100000 in
theorem c_M_usesB (l : Launch) (D : va_G) (h0 : Nat) (a : Nat → Nat) (cI cB : ClassId) (S : St)  (K : Int32 → St → Prop) (h : wp_M_usesB S K) (sz : Nat) : Met l y_M_usesB (Cond.code y_M_usesB b_M_usesB 2 (some .boolean) :: gw) rm_M_usesB (va_Pc [.ref h0] (PK D clK (tysK cI cB) (wsM h0 a cI cB S) sz)) (va_Qi K (fun u t => QK D clK (tysK cI cB) (va_A (wsM h0 a cI cB S) sz) (wsM h0 a cI cB u) t) (va_A (wsM h0 a cI cB S) sz)) 0 0 (va_A (wsM h0 a cI cB S) sz) := by
  refine met_of (rm := rm_M_usesB) (pr := pr_M_usesB) (Qc := fun A => va_Qi K (fun u t => QK D clK (tysK cI cB) A (wsM h0 a cI cB u) t) A) (by decide +kernel) dm_M_usesB (Nat.le_of_ble_eq_true rfl) (fun p e s m args below meth c A C => ?_) sz
  unfold wp_M_usesB at h
  show J p l e rm_M_usesB s m args below meth c 2 D clK A 0 0 _ (wsM h0 a cI cB S) [(0, .ref h0)] 0 []
  refine j_aload_n C 0 1 rfl rfl rfl 0 rfl ?_
  refine j_callVi C 1 4 rfl rfl w818 m_M_op (As := []) (c_M_op l D h0 a cI cB S _ h) ⟨rfl, rfl⟩ ⟨Nat.le_of_ble_eq_true rfl, Nat.le_of_ble_eq_true rfl⟩ 0 rfl rfl rfl ⟨Nat.le_of_ble_eq_true rfl, Nat.le_of_ble_eq_true rfl⟩ (Nat.le_of_ble_eq_true rfl) rfl (fun r2 S1 h => ?_)
  refine j_istore_n C 2 5 [(1, .int r2), (0, .ref h0)] rfl rfl rfl (by decide) rfl ?_
  refine j_iload_n C 3 6 rfl rfl rfl 0 rfl ?_
  refine j_bipush C 4 8 rfl rfl kB_99 ?_
  refine j_icmp_eq C 5 23 11 rfl (by decide) rfl (fun c3 => ?_) (fun c3 => ?_)
  · replace h := ite_t h c3
    refine j_sub [] rfl ?_
    exact L_M_usesB_23 C S1 h
  · replace h := ite_f h c3
    refine j_iload_n C 6 12 rfl rfl rfl 0 rfl ?_
    refine j_bipush C 7 14 rfl rfl kB_35 ?_
    refine j_icmp_eq C 8 23 17 rfl (by decide) rfl (fun c4 => ?_) (fun c4 => ?_)
    · replace h := ite_t h c4
      refine j_sub [] rfl ?_
      exact L_M_usesB_23 C S1 h
    · replace h := ite_f h c4
      refine j_iload_n C 9 18 rfl rfl rfl 0 rfl ?_
      refine j_bipush C 10 20 rfl rfl kB_51 ?_
      refine j_icmp_ne C 11 27 23 rfl (by decide) rfl (fun c5 => ?_) (fun c5 => ?_)
      · replace h := ite_f h c5
        refine j_iconst C 14 28 rfl rfl kI_0 ?_
        refine j_sub [] rfl ?_
        exact L_M_usesB_28 C S1 0 h
      · replace h := ite_t h c5
        refine j_sub [] rfl ?_
        exact L_M_usesB_23 C S1 h
abbrev rm_M_below : Room := { frames := 0, cells := 0, slots := 0, locals := 0 }
def wp_M_below_21 (K : Int32 → St → Prop) (S : St) (k0 : Int32) : Prop := isB k0 ∧ K k0 S
set_option maxHeartbeats 4000000 in
set_option maxRecDepth 100000 in
theorem L_M_below_21 {p : Program} {l : Launch} {e : Env} {s : State} {m : MethodId} {args : Array Value} {below : List Frame} {meth : Method} {c : Code} {A : Nat → Prop} {D : va_G} {h0 : Nat} {a : Nat → Nat} {cI cB : ClassId} {K : Int32 → St → Prop} (C : CX p rm_M_below s m args meth c b_M_below 2 "PipelinedCoreModel" (some .boolean) pr_M_below D clK (tysK cI cB) A) (S : St) (k0 : Int32) (h : wp_M_below_21 K S k0) : J p l e rm_M_below s m args below meth c 2 D clK A 0 0 (MQ below (va_Qi K (fun u t => QK D clK (tysK cI cB) A (wsM h0 a cI cB u) t) A) args s 0 0 A) (wsM h0 a cI cB S) [] 21 [.int k0] := by
  unfold wp_M_below_21 at h
  exact j_zret C 13 rfl h.1 h.2
def wp_M_below (S : St) (p1 : Int32) (p2 : Int32) (K : Int32 → St → Prop) : Prop := (if (0 : Int32) ≤ (lg_cmp (p1.toInt64 &&& (4294967295 : Int64)) (p2.toInt64 &&& (4294967295 : Int64))) then ((wp_M_below_21 K S 0)) else ((wp_M_below_21 K S 1)))
set_option maxHeartbeats 4000000 in
set_option maxRecDepth 100000 in
theorem c_M_below (l : Launch) (D : va_G) (h0 : Nat) (a : Nat → Nat) (cI cB : ClassId) (S : St) (p1 : Int32) (p2 : Int32) (K : Int32 → St → Prop) (h : wp_M_below S p1 p2 K) (sz : Nat) : Met l y_M_below (Cond.code y_M_below b_M_below 2 (some .boolean) :: gw) rm_M_below (va_Pc [.int p1, .int p2] (PK D clK (tysK cI cB) (wsM h0 a cI cB S) sz)) (va_Qi K (fun u t => QK D clK (tysK cI cB) (va_A (wsM h0 a cI cB S) sz) (wsM h0 a cI cB u) t) (va_A (wsM h0 a cI cB S) sz)) 0 0 (va_A (wsM h0 a cI cB S) sz) := by
  refine met_of (rm := rm_M_below) (pr := pr_M_below) (Qc := fun A => va_Qi K (fun u t => QK D clK (tysK cI cB) A (wsM h0 a cI cB u) t) A) (by decide +kernel) dm_M_below (Nat.le_of_ble_eq_true rfl) (fun p e s m args below meth c A C => ?_) sz
  unfold wp_M_below at h
  show J p l e rm_M_below s m args below meth c 2 D clK A 0 0 _ (wsM h0 a cI cB S) [(0, .int p1), (1, .int p2)] 0 []
  refine j_iload_n C 0 1 rfl rfl rfl 0 rfl ?_
  refine j_i2l C 1 2 rfl rfl ?_
  refine j_ldc2_w C 2 5 rfl rfl w886 ?_
  refine j_land C 3 6 rfl rfl ?_
  refine j_iload_n C 4 7 rfl rfl rfl 1 rfl ?_
  refine j_i2l C 5 8 rfl rfl ?_
  refine j_ldc2_w C 6 11 rfl rfl w886 ?_
  refine j_land C 7 12 rfl rfl ?_
  refine j_lcmp C 8 13 rfl rfl ?_
  refine j_if_ge C 9 20 16 rfl (by decide) rfl (fun c1 => ?_) (fun c1 => ?_)
  · replace h := ite_t h c1
    refine j_iconst C 12 21 rfl rfl kI_0 ?_
    refine j_sub [] rfl ?_
    exact L_M_below_21 C S 0 h
  · replace h := ite_f h c1
    refine j_iconst C 10 17 rfl rfl kI_1 ?_
    refine j_goto C 11 21 rfl (by decide) ?_
    refine j_sub [] rfl ?_
    exact L_M_below_21 C S 1 h
abbrev rm_M_plain : Room := { frames := 1, cells := 0, slots := 0, locals := 21 }
def wp_M_plain_61 (K : Int32 → St → Prop) (S : St) (k0 : Int32) : Prop := K k0 S
set_option maxHeartbeats 4000000 in
set_option maxRecDepth 100000 in
theorem L_M_plain_61 {p : Program} {l : Launch} {e : Env} {s : State} {m : MethodId} {args : Array Value} {below : List Frame} {meth : Method} {c : Code} {A : Nat → Prop} {D : va_G} {h0 : Nat} {a : Nat → Nat} {cI cB : ClassId} {K : Int32 → St → Prop} (C : CX p rm_M_plain s m args meth c b_M_plain 5 "PipelinedCoreModel" (some .int) pr_M_plain D clK (tysK cI cB) A) (S : St) (k0 : Int32) (h : wp_M_plain_61 K S k0) : J p l e rm_M_plain s m args below meth c 5 D clK A 0 0 (MQ below (va_Qi K (fun u t => QK D clK (tysK cI cB) A (wsM h0 a cI cB u) t) A) args s 0 0 A) (wsM h0 a cI cB S) [] 61 [.int k0] := by
  unfold wp_M_plain_61 at h
  exact j_iret C 15 rfl h
def wp_M_plain_77 (K : Int32 → St → Prop) (S : St) (k0 : Int32) : Prop := K k0 S
set_option maxHeartbeats 4000000 in
set_option maxRecDepth 100000 in
theorem L_M_plain_77 {p : Program} {l : Launch} {e : Env} {s : State} {m : MethodId} {args : Array Value} {below : List Frame} {meth : Method} {c : Code} {A : Nat → Prop} {D : va_G} {h0 : Nat} {a : Nat → Nat} {cI cB : ClassId} {K : Int32 → St → Prop} (C : CX p rm_M_plain s m args meth c b_M_plain 5 "PipelinedCoreModel" (some .int) pr_M_plain D clK (tysK cI cB) A) (S : St) (k0 : Int32) (h : wp_M_plain_77 K S k0) : J p l e rm_M_plain s m args below meth c 5 D clK A 0 0 (MQ below (va_Qi K (fun u t => QK D clK (tysK cI cB) A (wsM h0 a cI cB u) t) A) args s 0 0 A) (wsM h0 a cI cB S) [] 77 [.int k0] := by
  unfold wp_M_plain_77 at h
  exact j_iret C 26 rfl h
def wp_M_plain_91 (K : Int32 → St → Prop) (S : St) (k0 : Int32) : Prop := K k0 S
set_option maxHeartbeats 4000000 in
set_option maxRecDepth 100000 in
theorem L_M_plain_91 {p : Program} {l : Launch} {e : Env} {s : State} {m : MethodId} {args : Array Value} {below : List Frame} {meth : Method} {c : Code} {A : Nat → Prop} {D : va_G} {h0 : Nat} {a : Nat → Nat} {cI cB : ClassId} {K : Int32 → St → Prop} (C : CX p rm_M_plain s m args meth c b_M_plain 5 "PipelinedCoreModel" (some .int) pr_M_plain D clK (tysK cI cB) A) (S : St) (k0 : Int32) (h : wp_M_plain_91 K S k0) : J p l e rm_M_plain s m args below meth c 5 D clK A 0 0 (MQ below (va_Qi K (fun u t => QK D clK (tysK cI cB) A (wsM h0 a cI cB u) t) A) args s 0 0 A) (wsM h0 a cI cB S) [] 91 [.int k0] := by
  unfold wp_M_plain_91 at h
  exact j_iret C 34 rfl h
def wp_M_plain_111 (K : Int32 → St → Prop) (S : St) (k0 : Int32) : Prop := K k0 S
set_option maxHeartbeats 4000000 in
set_option maxRecDepth 100000 in
theorem L_M_plain_111 {p : Program} {l : Launch} {e : Env} {s : State} {m : MethodId} {args : Array Value} {below : List Frame} {meth : Method} {c : Code} {A : Nat → Prop} {D : va_G} {h0 : Nat} {a : Nat → Nat} {cI cB : ClassId} {K : Int32 → St → Prop} (C : CX p rm_M_plain s m args meth c b_M_plain 5 "PipelinedCoreModel" (some .int) pr_M_plain D clK (tysK cI cB) A) (S : St) (k0 : Int32) (h : wp_M_plain_111 K S k0) : J p l e rm_M_plain s m args below meth c 5 D clK A 0 0 (MQ below (va_Qi K (fun u t => QK D clK (tysK cI cB) A (wsM h0 a cI cB u) t) A) args s 0 0 A) (wsM h0 a cI cB S) [] 111 [.int k0] := by
  unfold wp_M_plain_111 at h
  exact j_iret C 48 rfl h
def wp_M_plain (S : St) (p1 : Int32) (p2 : Int32) (p3 : Int32) (p4 : Int32) (K : Int32 → St → Prop) : Prop := ∀ x1 : Int32, x1 = p3 &&& (31 : Int32) → ((if p1 = 0 then ((if p4 = 0 then ((wp_M_plain_61 K S (p2 + p3))) else ((wp_M_plain_61 K S (p2 - p3))))) else (if p1 = 1 then (K (p2 <<< (x1 &&& 31)) S) else (if p1 = 2 then ((if p3 ≤ p2 then ((wp_M_plain_77 K S 0)) else ((wp_M_plain_77 K S 1)))) else (if p1 = 3 then (wp_M_below S p2 p3 (fun r6 S5 => ((if r6 = 0 then ((wp_M_plain_91 K S5 0)) else ((wp_M_plain_91 K S5 1)))))) else (if p1 = 4 then (K (p2 ^^^ p3) S) else (if p1 = 5 then ((if p4 = 0 then ((wp_M_plain_111 K S (jushr p2 x1))) else ((wp_M_plain_111 K S (p2 >>> (x1 &&& 31)))))) else (if p1 = 6 then (K (p2 ||| p3) S) else (K (p2 &&& p3) S)))))))))
set_option maxHeartbeats 4000000 in
set_option maxRecDepth 100000 in
theorem c_M_plain (l : Launch) (D : va_G) (h0 : Nat) (a : Nat → Nat) (cI cB : ClassId) (S : St) (p1 : Int32) (p2 : Int32) (p3 : Int32) (p4 : Int32) (K : Int32 → St → Prop) (h : wp_M_plain S p1 p2 p3 p4 K) (sz : Nat) : Met l y_M_plain (Cond.code y_M_plain b_M_plain 5 (some .int) :: gw) rm_M_plain (va_Pc [.int p1, .int p2, .int p3, .int p4] (PK D clK (tysK cI cB) (wsM h0 a cI cB S) sz)) (va_Qi K (fun u t => QK D clK (tysK cI cB) (va_A (wsM h0 a cI cB S) sz) (wsM h0 a cI cB u) t) (va_A (wsM h0 a cI cB S) sz)) 0 0 (va_A (wsM h0 a cI cB S) sz) := by
  refine met_of (rm := rm_M_plain) (pr := pr_M_plain) (Qc := fun A => va_Qi K (fun u t => QK D clK (tysK cI cB) A (wsM h0 a cI cB u) t) A) (by decide +kernel) dm_M_plain (Nat.le_of_ble_eq_true rfl) (fun p e s m args below meth c A C => ?_) sz
  unfold wp_M_plain at h
  show J p l e rm_M_plain s m args below meth c 5 D clK A 0 0 _ (wsM h0 a cI cB S) [(0, .int p1), (1, .int p2), (2, .int p3), (3, .int p4)] 0 []
  refine j_iload_n C 0 1 rfl rfl rfl 2 rfl ?_
  refine j_bipush C 1 3 rfl rfl kB_31 ?_
  refine j_iand C 2 4 rfl rfl ?_
  refine j_topi (fun x1 ex1 => ?_)
  replace h := h x1 ex1
  refine j_istore C 3 6 [(4, .int x1), (0, .int p1), (1, .int p2), (2, .int p3), (3, .int p4)] rfl rfl (by decide) rfl ?_
  refine j_iload_n C 4 7 rfl rfl rfl 1 rfl ?_
  refine j_table C 5 rfl [(0, 48), (1, 62), (2, 67), (3, 78), (4, 92), (5, 96), (6, 112)] 116 (by decide +kernel) (by decide) (by decide) (swP_c (fun c2_0 => ?_) (fun nc2_0 => swP_c (fun c2_1 => ?_) (fun nc2_1 => swP_c (fun c2_2 => ?_) (fun nc2_2 => swP_c (fun c2_3 => ?_) (fun nc2_3 => swP_c (fun c2_4 => ?_) (fun nc2_4 => swP_c (fun c2_5 => ?_) (fun nc2_5 => swP_c (fun c2_6 => ?_) (fun nc2_6 => swP_n ?_))))))))
  · replace h := ite_t h c2_0
    refine j_iload_n C 6 49 rfl rfl rfl 4 rfl ?_
    refine j_if_eq C 7 58 52 rfl (by decide) rfl (fun c3 => ?_) (fun c3 => ?_)
    · replace h := ite_t h c3
      refine j_iload_n C 12 59 rfl rfl rfl 2 rfl ?_
      refine j_iload_n C 13 60 rfl rfl rfl 3 rfl ?_
      refine j_iadd C 14 61 rfl rfl ?_
      refine j_sub [] rfl ?_
      exact L_M_plain_61 C S (p2 + p3) h
    · replace h := ite_f h c3
      refine j_iload_n C 8 53 rfl rfl rfl 2 rfl ?_
      refine j_iload_n C 9 54 rfl rfl rfl 3 rfl ?_
      refine j_isub C 10 55 rfl rfl ?_
      refine j_goto C 11 61 rfl (by decide) ?_
      refine j_sub [] rfl ?_
      exact L_M_plain_61 C S (p2 - p3) h
  · replace h := ite_t (ite_f h nc2_0) c2_1
    refine j_iload_n C 16 63 rfl rfl rfl 2 rfl ?_
    refine j_iload C 17 65 rfl rfl 0 rfl ?_
    refine j_ishl C 18 66 rfl rfl ?_
    exact j_iret C 19 rfl h
  · replace h := ite_t (ite_f (ite_f h nc2_0) nc2_1) c2_2
    refine j_iload_n C 20 68 rfl rfl rfl 2 rfl ?_
    refine j_iload_n C 21 69 rfl rfl rfl 3 rfl ?_
    refine j_icmp_ge C 22 76 72 rfl (by decide) rfl (fun c4 => ?_) (fun c4 => ?_)
    · replace h := ite_t h c4
      refine j_iconst C 25 77 rfl rfl kI_0 ?_
      refine j_sub [] rfl ?_
      exact L_M_plain_77 C S 0 h
    · replace h := ite_f h c4
      refine j_iconst C 23 73 rfl rfl kI_1 ?_
      refine j_goto C 24 77 rfl (by decide) ?_
      refine j_sub [] rfl ?_
      exact L_M_plain_77 C S 1 h
  · replace h := ite_t (ite_f (ite_f (ite_f h nc2_0) nc2_1) nc2_2) c2_3
    refine j_iload_n C 27 79 rfl rfl rfl 2 rfl ?_
    refine j_iload_n C 28 80 rfl rfl rfl 3 rfl ?_
    refine j_callSi C 29 83 rfl rfl w883 m_M_below (As := [.int p2, .int p3]) (c_M_below l D h0 a cI cB S p2 p3 _ h) ⟨rfl, rfl⟩ ⟨Nat.le_of_ble_eq_true rfl, Nat.le_of_ble_eq_true rfl⟩ rfl ⟨Nat.le_of_ble_eq_true rfl, Nat.le_of_ble_eq_true rfl⟩ (Nat.le_of_ble_eq_true rfl) rfl (fun r6 S5 h => ?_)
    refine j_if_eq C 30 90 86 rfl (by decide) rfl (fun c7 => ?_) (fun c7 => ?_)
    · replace h := ite_t h c7
      refine j_iconst C 33 91 rfl rfl kI_0 ?_
      refine j_sub [] rfl ?_
      exact L_M_plain_91 C S5 0 h
    · replace h := ite_f h c7
      refine j_iconst C 31 87 rfl rfl kI_1 ?_
      refine j_goto C 32 91 rfl (by decide) ?_
      refine j_sub [] rfl ?_
      exact L_M_plain_91 C S5 1 h
  · replace h := ite_t (ite_f (ite_f (ite_f (ite_f h nc2_0) nc2_1) nc2_2) nc2_3) c2_4
    refine j_iload_n C 35 93 rfl rfl rfl 2 rfl ?_
    refine j_iload_n C 36 94 rfl rfl rfl 3 rfl ?_
    refine j_ixor C 37 95 rfl rfl ?_
    exact j_iret C 38 rfl h
  · replace h := ite_t (ite_f (ite_f (ite_f (ite_f (ite_f h nc2_0) nc2_1) nc2_2) nc2_3) nc2_4) c2_5
    refine j_iload_n C 39 97 rfl rfl rfl 4 rfl ?_
    refine j_if_eq C 40 107 100 rfl (by decide) rfl (fun c8 => ?_) (fun c8 => ?_)
    · replace h := ite_t h c8
      refine j_iload_n C 45 108 rfl rfl rfl 2 rfl ?_
      refine j_iload C 46 110 rfl rfl 0 rfl ?_
      refine j_iushr C 47 111 rfl rfl ?_
      refine j_sub [] rfl ?_
      exact L_M_plain_111 C S (jushr p2 x1) h
    · replace h := ite_f h c8
      refine j_iload_n C 41 101 rfl rfl rfl 2 rfl ?_
      refine j_iload C 42 103 rfl rfl 0 rfl ?_
      refine j_ishr C 43 104 rfl rfl ?_
      refine j_goto C 44 111 rfl (by decide) ?_
      refine j_sub [] rfl ?_
      exact L_M_plain_111 C S (p2 >>> (x1 &&& 31)) h
  · replace h := ite_t (ite_f (ite_f (ite_f (ite_f (ite_f (ite_f h nc2_0) nc2_1) nc2_2) nc2_3) nc2_4) nc2_5) c2_6
    refine j_iload_n C 49 113 rfl rfl rfl 2 rfl ?_
    refine j_iload_n C 50 114 rfl rfl rfl 3 rfl ?_
    refine j_ior C 51 115 rfl rfl ?_
    exact j_iret C 52 rfl h
  · replace h := (ite_f (ite_f (ite_f (ite_f (ite_f (ite_f (ite_f h nc2_0) nc2_1) nc2_2) nc2_3) nc2_4) nc2_5) nc2_6)
    refine j_iload_n C 53 117 rfl rfl rfl 2 rfl ?_
    refine j_iload_n C 54 118 rfl rfl rfl 3 rfl ?_
    refine j_iand C 55 119 rfl rfl ?_
    exact j_iret C 56 rfl h
abbrev rm_M_product : Room := { frames := 0, cells := 0, slots := 0, locals := 0 }
def wp_M_product_53 (K : Int32 → St → Prop) (S : St) (k0 : Int32) : Prop := K k0 S
set_option maxHeartbeats 4000000 in
set_option maxRecDepth 100000 in
theorem L_M_product_53 {p : Program} {l : Launch} {e : Env} {s : State} {m : MethodId} {args : Array Value} {below : List Frame} {meth : Method} {c : Code} {A : Nat → Prop} {D : va_G} {h0 : Nat} {a : Nat → Nat} {cI cB : ClassId} {K : Int32 → St → Prop} (C : CX p rm_M_product s m args meth c b_M_product 7 "PipelinedCoreModel" (some .int) pr_M_product D clK (tysK cI cB) A) (S : St) (k0 : Int32) (h : wp_M_product_53 K S k0) : J p l e rm_M_product s m args below meth c 7 D clK A 0 0 (MQ below (va_Qi K (fun u t => QK D clK (tysK cI cB) A (wsM h0 a cI cB u) t) A) args s 0 0 A) (wsM h0 a cI cB S) [] 53 [.int k0] := by
  unfold wp_M_product_53 at h
  exact j_iret C 34 rfl h
def wp_M_product_33 (K : Int32 → St → Prop) (S : St) (v0 : Int32) (v1 : Int32) (v2 : Int32) (v3 : Int64) (k0 : Int64) : Prop := (if v0 = 0 then ((wp_M_product_53 K S (v1 * v2))) else ((wp_M_product_53 K S ((jlshr (v3 * k0) 32 : Int64).toInt32))))
set_option maxHeartbeats 4000000 in
set_option maxRecDepth 100000 in
theorem L_M_product_33 {p : Program} {l : Launch} {e : Env} {s : State} {m : MethodId} {args : Array Value} {below : List Frame} {meth : Method} {c : Code} {A : Nat → Prop} {D : va_G} {h0 : Nat} {a : Nat → Nat} {cI cB : ClassId} {K : Int32 → St → Prop} (C : CX p rm_M_product s m args meth c b_M_product 7 "PipelinedCoreModel" (some .int) pr_M_product D clK (tysK cI cB) A) (S : St) (v0 : Int32) (v1 : Int32) (v2 : Int32) (v3 : Int64) (k0 : Int64) (h : wp_M_product_33 K S v0 v1 v2 v3 k0) : J p l e rm_M_product s m args below meth c 7 D clK A 0 0 (MQ below (va_Qi K (fun u t => QK D clK (tysK cI cB) A (wsM h0 a cI cB u) t) A) args s 0 0 A) (wsM h0 a cI cB S) [(0, .int v0), (1, .int v1), (2, .int v2), (3, .long v3)] 33 [.long k0] := by
  unfold wp_M_product_33 at h
  refine j_lstore C 21 35 [(5, .long k0), (0, .int v0), (1, .int v1), (2, .int v2), (3, .long v3)] rfl rfl (by decide) rfl ?_
  refine j_iload_n C 22 36 rfl rfl rfl 1 rfl ?_
  refine j_if_ne C 23 45 39 rfl (by decide) rfl (fun c3 => ?_) (fun c3 => ?_)
  · replace h := ite_f h c3
    refine j_lload_n C 28 46 rfl rfl rfl 4 rfl ?_
    refine j_lload C 29 48 rfl rfl 0 rfl ?_
    refine j_lmul C 30 49 rfl rfl ?_
    refine j_bipush C 31 51 rfl rfl kB_32 ?_
    refine j_lshr C 32 52 rfl rfl ?_
    refine j_l2i C 33 53 rfl rfl ?_
    refine j_sub [] rfl ?_
    exact L_M_product_53 C S ((jlshr (v3 * k0) 32 : Int64).toInt32) h
  · replace h := ite_t h c3
    refine j_iload_n C 24 40 rfl rfl rfl 2 rfl ?_
    refine j_iload_n C 25 41 rfl rfl rfl 3 rfl ?_
    refine j_imul C 26 42 rfl rfl ?_
    refine j_goto C 27 53 rfl (by decide) ?_
    refine j_sub [] rfl ?_
    exact L_M_product_53 C S (v1 * v2) h
def wp_M_product_16 (K : Int32 → St → Prop) (S : St) (v0 : Int32) (v1 : Int32) (v2 : Int32) (k0 : Int64) : Prop := (if v0 ≤ 1 then ((wp_M_product_33 K S v0 v1 v2 k0 v2.toInt64)) else ((wp_M_product_33 K S v0 v1 v2 k0 (v2.toInt64 &&& (4294967295 : Int64)))))
set_option maxHeartbeats 4000000 in
set_option maxRecDepth 100000 in
theorem L_M_product_16 {p : Program} {l : Launch} {e : Env} {s : State} {m : MethodId} {args : Array Value} {below : List Frame} {meth : Method} {c : Code} {A : Nat → Prop} {D : va_G} {h0 : Nat} {a : Nat → Nat} {cI cB : ClassId} {K : Int32 → St → Prop} (C : CX p rm_M_product s m args meth c b_M_product 7 "PipelinedCoreModel" (some .int) pr_M_product D clK (tysK cI cB) A) (S : St) (v0 : Int32) (v1 : Int32) (v2 : Int32) (k0 : Int64) (h : wp_M_product_16 K S v0 v1 v2 k0) : J p l e rm_M_product s m args below meth c 7 D clK A 0 0 (MQ below (va_Qi K (fun u t => QK D clK (tysK cI cB) A (wsM h0 a cI cB u) t) A) args s 0 0 A) (wsM h0 a cI cB S) [(0, .int v0), (1, .int v1), (2, .int v2)] 16 [.long k0] := by
  unfold wp_M_product_16 at h
  refine j_lstore_n C 10 17 [(3, .long k0), (0, .int v0), (1, .int v1), (2, .int v2)] rfl rfl rfl (by decide) rfl ?_
  refine j_iload_n C 11 18 rfl rfl rfl 1 rfl ?_
  refine j_iconst C 12 19 rfl rfl kI_1 ?_
  refine j_icmp_le C 13 31 22 rfl (by decide) rfl (fun c2 => ?_) (fun c2 => ?_)
  · replace h := ite_t h c2
    refine j_iload_n C 19 32 rfl rfl rfl 3 rfl ?_
    refine j_i2l C 20 33 rfl rfl ?_
    refine j_sub [1, 2, 3, 0] rfl ?_
    exact L_M_product_33 C S v0 v1 v2 k0 v2.toInt64 h
  · replace h := ite_f h c2
    refine j_iload_n C 14 23 rfl rfl rfl 3 rfl ?_
    refine j_i2l C 15 24 rfl rfl ?_
    refine j_ldc2_w C 16 27 rfl rfl w886 ?_
    refine j_land C 17 28 rfl rfl ?_
    refine j_goto C 18 33 rfl (by decide) ?_
    refine j_sub [1, 2, 3, 0] rfl ?_
    exact L_M_product_33 C S v0 v1 v2 k0 (v2.toInt64 &&& (4294967295 : Int64)) h
def wp_M_product (S : St) (p1 : Int32) (p2 : Int32) (p3 : Int32) (K : Int32 → St → Prop) : Prop := (if p1 = 3 then ((wp_M_product_16 K S p1 p2 p3 (p2.toInt64 &&& (4294967295 : Int64)))) else ((wp_M_product_16 K S p1 p2 p3 p2.toInt64)))
set_option maxHeartbeats 4000000 in
set_option maxRecDepth 100000 in
theorem c_M_product (l : Launch) (D : va_G) (h0 : Nat) (a : Nat → Nat) (cI cB : ClassId) (S : St) (p1 : Int32) (p2 : Int32) (p3 : Int32) (K : Int32 → St → Prop) (h : wp_M_product S p1 p2 p3 K) (sz : Nat) : Met l y_M_product (Cond.code y_M_product b_M_product 7 (some .int) :: gw) rm_M_product (va_Pc [.int p1, .int p2, .int p3] (PK D clK (tysK cI cB) (wsM h0 a cI cB S) sz)) (va_Qi K (fun u t => QK D clK (tysK cI cB) (va_A (wsM h0 a cI cB S) sz) (wsM h0 a cI cB u) t) (va_A (wsM h0 a cI cB S) sz)) 0 0 (va_A (wsM h0 a cI cB S) sz) := by
  refine met_of (rm := rm_M_product) (pr := pr_M_product) (Qc := fun A => va_Qi K (fun u t => QK D clK (tysK cI cB) A (wsM h0 a cI cB u) t) A) (by decide +kernel) dm_M_product (Nat.le_of_ble_eq_true rfl) (fun p e s m args below meth c A C => ?_) sz
  unfold wp_M_product at h
  show J p l e rm_M_product s m args below meth c 7 D clK A 0 0 _ (wsM h0 a cI cB S) [(0, .int p1), (1, .int p2), (2, .int p3)] 0 []
  refine j_iload_n C 0 1 rfl rfl rfl 0 rfl ?_
  refine j_iconst C 1 2 rfl rfl kI_3 ?_
  refine j_icmp_ne C 2 14 5 rfl (by decide) rfl (fun c1 => ?_) (fun c1 => ?_)
  · replace h := ite_f h c1
    refine j_iload_n C 8 15 rfl rfl rfl 1 rfl ?_
    refine j_i2l C 9 16 rfl rfl ?_
    exact L_M_product_16 C S p1 p2 p3 p2.toInt64 h
  · replace h := ite_t h c1
    refine j_iload_n C 3 6 rfl rfl rfl 1 rfl ?_
    refine j_i2l C 4 7 rfl rfl ?_
    refine j_ldc2_w C 5 10 rfl rfl w886 ?_
    refine j_land C 6 11 rfl rfl ?_
    refine j_goto C 7 16 rfl (by decide) ?_
    exact L_M_product_16 C S p1 p2 p3 (p2.toInt64 &&& (4294967295 : Int64)) h
abbrev rm_M_quotient : Room := { frames := 0, cells := 0, slots := 0, locals := 0 }
def wp_M_quotient_32 (K : Int32 → St → Prop) (S : St) (k0 : Int32) : Prop := K k0 S
set_option maxHeartbeats 4000000 in
set_option maxRecDepth 100000 in
theorem L_M_quotient_32 {p : Program} {l : Launch} {e : Env} {s : State} {m : MethodId} {args : Array Value} {below : List Frame} {meth : Method} {c : Code} {A : Nat → Prop} {D : va_G} {h0 : Nat} {a : Nat → Nat} {cI cB : ClassId} {K : Int32 → St → Prop} (C : CX p rm_M_quotient s m args meth c b_M_quotient 8 "PipelinedCoreModel" (some .int) pr_M_quotient D clK (tysK cI cB) A) (S : St) (k0 : Int32) (h : wp_M_quotient_32 K S k0) : J p l e rm_M_quotient s m args below meth c 8 D clK A 0 0 (MQ below (va_Qi K (fun u t => QK D clK (tysK cI cB) A (wsM h0 a cI cB u) t) A) args s 0 0 A) (wsM h0 a cI cB S) [] 32 [.int k0] := by
  unfold wp_M_quotient_32 at h
  exact j_iret C 18 rfl h
def wp_M_quotient_86 (K : Int32 → St → Prop) (S : St) (k0 : Int64) : Prop := K k0.toInt32 S
set_option maxHeartbeats 4000000 in
set_option maxRecDepth 100000 in
theorem L_M_quotient_86 {p : Program} {l : Launch} {e : Env} {s : State} {m : MethodId} {args : Array Value} {below : List Frame} {meth : Method} {c : Code} {A : Nat → Prop} {D : va_G} {h0 : Nat} {a : Nat → Nat} {cI cB : ClassId} {K : Int32 → St → Prop} (C : CX p rm_M_quotient s m args meth c b_M_quotient 8 "PipelinedCoreModel" (some .int) pr_M_quotient D clK (tysK cI cB) A) (S : St) (k0 : Int64) (h : wp_M_quotient_86 K S k0) : J p l e rm_M_quotient s m args below meth c 8 D clK A 0 0 (MQ below (va_Qi K (fun u t => QK D clK (tysK cI cB) A (wsM h0 a cI cB u) t) A) args s 0 0 A) (wsM h0 a cI cB S) [] 86 [.long k0] := by
  unfold wp_M_quotient_86 at h
  refine j_l2i C 49 87 rfl rfl ?_
  exact j_iret C 50 rfl h
def wp_M_quotient_65 (K : Int32 → St → Prop) (S : St) (v0 : Int32) (v4 : Int64) (k0 : Int64) : Prop := (if (6 : Int32) ≤ v0 then ((¬ k0 = 0) ∧ ((wp_M_quotient_86 K S (jlrem v4 k0)))) else ((¬ k0 = 0) ∧ ((wp_M_quotient_86 K S (v4 / k0)))))
set_option maxHeartbeats 4000000 in
set_option maxRecDepth 100000 in
theorem L_M_quotient_65 {p : Program} {l : Launch} {e : Env} {s : State} {m : MethodId} {args : Array Value} {below : List Frame} {meth : Method} {c : Code} {A : Nat → Prop} {D : va_G} {h0 : Nat} {a : Nat → Nat} {cI cB : ClassId} {K : Int32 → St → Prop} (C : CX p rm_M_quotient s m args meth c b_M_quotient 8 "PipelinedCoreModel" (some .int) pr_M_quotient D clK (tysK cI cB) A) (S : St) (v0 : Int32) (v4 : Int64) (k0 : Int64) (h : wp_M_quotient_65 K S v0 v4 k0) : J p l e rm_M_quotient s m args below meth c 8 D clK A 0 0 (MQ below (va_Qi K (fun u t => QK D clK (tysK cI cB) A (wsM h0 a cI cB u) t) A) args s 0 0 A) (wsM h0 a cI cB S) [(0, .int v0), (4, .long v4)] 65 [.long k0] := by
  unfold wp_M_quotient_65 at h
  refine j_lstore C 38 67 [(6, .long k0), (0, .int v0), (4, .long v4)] rfl rfl (by decide) rfl ?_
  refine j_iload_n C 39 68 rfl rfl rfl 1 rfl ?_
  refine j_bipush C 40 70 rfl rfl kB_6 ?_
  refine j_icmp_ge C 41 81 73 rfl (by decide) rfl (fun c7 => ?_) (fun c7 => ?_)
  · replace h := ite_t h c7
    refine j_lload C 46 83 rfl rfl 2 rfl ?_
    refine j_lload C 47 85 rfl rfl 0 rfl ?_
    refine j_lrem C 48 86 rfl rfl h.1 ?_
    replace h := h.2
    refine j_sub [] rfl ?_
    exact L_M_quotient_86 C S (jlrem v4 k0) h
  · replace h := ite_f h c7
    refine j_lload C 42 75 rfl rfl 2 rfl ?_
    refine j_lload C 43 77 rfl rfl 0 rfl ?_
    refine j_ldiv C 44 78 rfl rfl h.1 ?_
    replace h := h.2
    refine j_goto C 45 86 rfl (by decide) ?_
    refine j_sub [] rfl ?_
    exact L_M_quotient_86 C S (v4 / k0) h
def wp_M_quotient_48 (K : Int32 → St → Prop) (S : St) (v0 : Int32) (v2 : Int32) (v3 : Int32) (k0 : Int64) : Prop := (if v3 = 0 then ((wp_M_quotient_65 K S v0 k0 (v2.toInt64 &&& (4294967295 : Int64)))) else ((wp_M_quotient_65 K S v0 k0 v2.toInt64)))
set_option maxHeartbeats 4000000 in
set_option maxRecDepth 100000 in
theorem L_M_quotient_48 {p : Program} {l : Launch} {e : Env} {s : State} {m : MethodId} {args : Array Value} {below : List Frame} {meth : Method} {c : Code} {A : Nat → Prop} {D : va_G} {h0 : Nat} {a : Nat → Nat} {cI cB : ClassId} {K : Int32 → St → Prop} (C : CX p rm_M_quotient s m args meth c b_M_quotient 8 "PipelinedCoreModel" (some .int) pr_M_quotient D clK (tysK cI cB) A) (S : St) (v0 : Int32) (v2 : Int32) (v3 : Int32) (k0 : Int64) (h : wp_M_quotient_48 K S v0 v2 v3 k0) : J p l e rm_M_quotient s m args below meth c 8 D clK A 0 0 (MQ below (va_Qi K (fun u t => QK D clK (tysK cI cB) A (wsM h0 a cI cB u) t) A) args s 0 0 A) (wsM h0 a cI cB S) [(0, .int v0), (2, .int v2), (3, .int v3)] 48 [.long k0] := by
  unfold wp_M_quotient_48 at h
  refine j_lstore C 28 50 [(4, .long k0), (0, .int v0), (2, .int v2), (3, .int v3)] rfl rfl (by decide) rfl ?_
  refine j_iload_n C 29 51 rfl rfl rfl 3 rfl ?_
  refine j_if_eq C 30 59 54 rfl (by decide) rfl (fun c6 => ?_) (fun c6 => ?_)
  · replace h := ite_t h c6
    refine j_iload_n C 34 60 rfl rfl rfl 2 rfl ?_
    refine j_i2l C 35 61 rfl rfl ?_
    refine j_ldc2_w C 36 64 rfl rfl w886 ?_
    refine j_land C 37 65 rfl rfl ?_
    refine j_sub [1, 0] rfl ?_
    exact L_M_quotient_65 C S v0 k0 (v2.toInt64 &&& (4294967295 : Int64)) h
  · replace h := ite_f h c6
    refine j_iload_n C 31 55 rfl rfl rfl 2 rfl ?_
    refine j_i2l C 32 56 rfl rfl ?_
    refine j_goto C 33 65 rfl (by decide) ?_
    refine j_sub [1, 0] rfl ?_
    exact L_M_quotient_65 C S v0 k0 v2.toInt64 h
def wp_M_quotient_16 (K : Int32 → St → Prop) (S : St) (v0 : Int32) (v1 : Int32) (v2 : Int32) (k0 : Int32) : Prop := (if v2 = 0 then ((if (6 : Int32) ≤ v0 then ((wp_M_quotient_32 K S v1)) else ((wp_M_quotient_32 K S (-1))))) else ((if k0 = 0 then ((wp_M_quotient_48 K S v0 v2 k0 (v1.toInt64 &&& (4294967295 : Int64)))) else ((wp_M_quotient_48 K S v0 v2 k0 v1.toInt64)))))
set_option maxHeartbeats 4000000 in
set_option maxRecDepth 100000 in
theorem L_M_quotient_16 {p : Program} {l : Launch} {e : Env} {s : State} {m : MethodId} {args : Array Value} {below : List Frame} {meth : Method} {c : Code} {A : Nat → Prop} {D : va_G} {h0 : Nat} {a : Nat → Nat} {cI cB : ClassId} {K : Int32 → St → Prop} (C : CX p rm_M_quotient s m args meth c b_M_quotient 8 "PipelinedCoreModel" (some .int) pr_M_quotient D clK (tysK cI cB) A) (S : St) (v0 : Int32) (v1 : Int32) (v2 : Int32) (k0 : Int32) (h : wp_M_quotient_16 K S v0 v1 v2 k0) : J p l e rm_M_quotient s m args below meth c 8 D clK A 0 0 (MQ below (va_Qi K (fun u t => QK D clK (tysK cI cB) A (wsM h0 a cI cB u) t) A) args s 0 0 A) (wsM h0 a cI cB S) [(0, .int v0), (1, .int v1), (2, .int v2)] 16 [.int k0] := by
  unfold wp_M_quotient_16 at h
  refine j_istore_n C 9 17 [(3, .int k0), (0, .int v0), (1, .int v1), (2, .int v2)] rfl rfl rfl (by decide) rfl ?_
  refine j_iload_n C 10 18 rfl rfl rfl 3 rfl ?_
  refine j_if_ne C 11 33 21 rfl (by decide) rfl (fun c3 => ?_) (fun c3 => ?_)
  · replace h := ite_f h c3
    refine j_iload_n C 19 34 rfl rfl rfl 0 rfl ?_
    refine j_if_eq C 20 42 37 rfl (by decide) rfl (fun c4 => ?_) (fun c4 => ?_)
    · replace h := ite_t h c4
      refine j_iload_n C 24 43 rfl rfl rfl 2 rfl ?_
      refine j_i2l C 25 44 rfl rfl ?_
      refine j_ldc2_w C 26 47 rfl rfl w886 ?_
      refine j_land C 27 48 rfl rfl ?_
      refine j_sub [1, 3, 0] rfl ?_
      exact L_M_quotient_48 C S v0 v2 k0 (v1.toInt64 &&& (4294967295 : Int64)) h
    · replace h := ite_f h c4
      refine j_iload_n C 21 38 rfl rfl rfl 2 rfl ?_
      refine j_i2l C 22 39 rfl rfl ?_
      refine j_goto C 23 48 rfl (by decide) ?_
      refine j_sub [1, 3, 0] rfl ?_
      exact L_M_quotient_48 C S v0 v2 k0 v1.toInt64 h
  · replace h := ite_t h c3
    refine j_iload_n C 12 22 rfl rfl rfl 1 rfl ?_
    refine j_bipush C 13 24 rfl rfl kB_6 ?_
    refine j_icmp_ge C 14 31 27 rfl (by decide) rfl (fun c5 => ?_) (fun c5 => ?_)
    · replace h := ite_t h c5
      refine j_iload_n C 17 32 rfl rfl rfl 2 rfl ?_
      refine j_sub [] rfl ?_
      exact L_M_quotient_32 C S v1 h
    · replace h := ite_f h c5
      refine j_iconst C 15 28 rfl rfl kI_m1 ?_
      refine j_goto C 16 32 rfl (by decide) ?_
      refine j_sub [] rfl ?_
      exact L_M_quotient_32 C S (-1) h
def wp_M_quotient_11 (K : Int32 → St → Prop) (S : St) (v0 : Int32) (v1 : Int32) (v2 : Int32) : Prop := (wp_M_quotient_16 K S v0 v1 v2 1)
set_option maxHeartbeats 4000000 in
set_option maxRecDepth 100000 in
theorem L_M_quotient_11 {p : Program} {l : Launch} {e : Env} {s : State} {m : MethodId} {args : Array Value} {below : List Frame} {meth : Method} {c : Code} {A : Nat → Prop} {D : va_G} {h0 : Nat} {a : Nat → Nat} {cI cB : ClassId} {K : Int32 → St → Prop} (C : CX p rm_M_quotient s m args meth c b_M_quotient 8 "PipelinedCoreModel" (some .int) pr_M_quotient D clK (tysK cI cB) A) (S : St) (v0 : Int32) (v1 : Int32) (v2 : Int32) (h : wp_M_quotient_11 K S v0 v1 v2) : J p l e rm_M_quotient s m args below meth c 8 D clK A 0 0 (MQ below (va_Qi K (fun u t => QK D clK (tysK cI cB) A (wsM h0 a cI cB u) t) A) args s 0 0 A) (wsM h0 a cI cB S) [(0, .int v0), (1, .int v1), (2, .int v2)] 11 [] := by
  unfold wp_M_quotient_11 at h
  refine j_iconst C 6 12 rfl rfl kI_1 ?_
  refine j_goto C 7 16 rfl (by decide) ?_
  exact L_M_quotient_16 C S v0 v1 v2 1 h
def wp_M_quotient (S : St) (p1 : Int32) (p2 : Int32) (p3 : Int32) (K : Int32 → St → Prop) : Prop := (if p1 = 4 then ((wp_M_quotient_11 K S p1 p2 p3)) else ((if p1 = 6 then ((wp_M_quotient_11 K S p1 p2 p3)) else ((wp_M_quotient_16 K S p1 p2 p3 0)))))
set_option maxHeartbeats 4000000 in
set_option maxRecDepth 100000 in
theorem c_M_quotient (l : Launch) (D : va_G) (h0 : Nat) (a : Nat → Nat) (cI cB : ClassId) (S : St) (p1 : Int32) (p2 : Int32) (p3 : Int32) (K : Int32 → St → Prop) (h : wp_M_quotient S p1 p2 p3 K) (sz : Nat) : Met l y_M_quotient (Cond.code y_M_quotient b_M_quotient 8 (some .int) :: gw) rm_M_quotient (va_Pc [.int p1, .int p2, .int p3] (PK D clK (tysK cI cB) (wsM h0 a cI cB S) sz)) (va_Qi K (fun u t => QK D clK (tysK cI cB) (va_A (wsM h0 a cI cB S) sz) (wsM h0 a cI cB u) t) (va_A (wsM h0 a cI cB S) sz)) 0 0 (va_A (wsM h0 a cI cB S) sz) := by
  refine met_of (rm := rm_M_quotient) (pr := pr_M_quotient) (Qc := fun A => va_Qi K (fun u t => QK D clK (tysK cI cB) A (wsM h0 a cI cB u) t) A) (by decide +kernel) dm_M_quotient (Nat.le_of_ble_eq_true rfl) (fun p e s m args below meth c A C => ?_) sz
  unfold wp_M_quotient at h
  show J p l e rm_M_quotient s m args below meth c 8 D clK A 0 0 _ (wsM h0 a cI cB S) [(0, .int p1), (1, .int p2), (2, .int p3)] 0 []
  refine j_iload_n C 0 1 rfl rfl rfl 0 rfl ?_
  refine j_iconst C 1 2 rfl rfl kI_4 ?_
  refine j_icmp_eq C 2 11 5 rfl (by decide) rfl (fun c1 => ?_) (fun c1 => ?_)
  · replace h := ite_t h c1
    exact L_M_quotient_11 C S p1 p2 p3 h
  · replace h := ite_f h c1
    refine j_iload_n C 3 6 rfl rfl rfl 0 rfl ?_
    refine j_bipush C 4 8 rfl rfl kB_6 ?_
    refine j_icmp_ne C 5 15 11 rfl (by decide) rfl (fun c2 => ?_) (fun c2 => ?_)
    · replace h := ite_f h c2
      refine j_iconst C 8 16 rfl rfl kI_0 ?_
      exact L_M_quotient_16 C S p1 p2 p3 0 h
    · replace h := ite_t h c2
      exact L_M_quotient_11 C S p1 p2 p3 h
abbrev rm_M_illegal : Room := { frames := 0, cells := 0, slots := 0, locals := 0 }
def wp_M_illegal (S : St)  (K : St → Prop) : Prop := ∀ S1 : St, S1 = st S 0 45 2 → (∀ S2 : St, S2 = st S1 0 46 (S1 0 44) → (K S2))
set_option maxHeartbeats 4000000 in
set_option maxRecDepth 100000 in
theorem c_M_illegal (l : Launch) (D : va_G) (h0 : Nat) (a : Nat → Nat) (cI cB : ClassId) (S : St)  (K : St → Prop) (h : wp_M_illegal S K) (sz : Nat) : Met l y_M_illegal (Cond.code y_M_illegal b_M_illegal 1 none :: gw) rm_M_illegal (va_Pc [.ref h0] (PK D clK (tysK cI cB) (wsM h0 a cI cB S) sz)) (va_Qv K (fun u t => QK D clK (tysK cI cB) (va_A (wsM h0 a cI cB S) sz) (wsM h0 a cI cB u) t) (va_A (wsM h0 a cI cB S) sz)) 0 0 (va_A (wsM h0 a cI cB S) sz) := by
  refine met_of (rm := rm_M_illegal) (pr := pr_M_illegal) (Qc := fun A => va_Qv K (fun u t => QK D clK (tysK cI cB) A (wsM h0 a cI cB u) t) A) (by decide +kernel) dm_M_illegal (Nat.le_of_ble_eq_true rfl) (fun p e s m args below meth c A C => ?_) sz
  unfold wp_M_illegal at h
  show J p l e rm_M_illegal s m args below meth c 1 D clK A 0 0 _ (wsM h0 a cI cB S) [(0, .ref h0)] 0 []
  refine j_aload_n C 0 1 rfl rfl rfl 0 rfl ?_
  refine j_iconst C 1 2 rfl rfl kI_2 ?_
  refine j_put C 2 5 rfl rfl fp_M_120 0 rfl (Nat.le_of_ble_eq_true rfl) rfl rfl (st S 0 45 2) (sM_0_45 _ _ _ _ _ _) (fun S1 eS1 => ?_)
  replace h := h S1 eS1
  refine j_aload_n C 3 6 rfl rfl rfl 0 rfl ?_
  refine j_aload_n C 4 7 rfl rfl rfl 0 rfl ?_
  refine j_get C 5 10 rfl rfl fg_M_103 0 rfl rfl ?_
  refine j_put C 6 13 rfl rfl fp_M_123 0 rfl (Nat.le_of_ble_eq_true rfl) rfl rfl (st S1 0 46 (S1 0 44)) (sM_0_46 _ _ _ _ _ _) (fun S2 eS2 => ?_)
  replace h := h S2 eS2
  exact j_vret C 7 rfl h
abbrev rm_M_immediate : Room := { frames := 2, cells := 0, slots := 0, locals := 45 }
def wp_M_immediate_52 (K : St → Prop) (S : St)  : Prop := wp_M_illegal S (fun S11 => (K S11))
set_option maxHeartbeats 4000000 in
set_option maxRecDepth 100000 in
theorem L_M_immediate_52 {p : Program} {l : Launch} {e : Env} {s : State} {m : MethodId} {args : Array Value} {below : List Frame} {meth : Method} {c : Code} {A : Nat → Prop} {D : va_G} {h0 : Nat} {a : Nat → Nat} {cI cB : ClassId} {K : St → Prop} (C : CX p rm_M_immediate s m args meth c b_M_immediate 4 "PipelinedCoreModel" none pr_M_immediate D clK (tysK cI cB) A) (S : St)  (h : wp_M_immediate_52 K S) : J p l e rm_M_immediate s m args below meth c 4 D clK A 0 0 (MQ below (va_Qv K (fun u t => QK D clK (tysK cI cB) A (wsM h0 a cI cB u) t) A) args s 0 0 A) (wsM h0 a cI cB S) [(0, .ref h0)] 52 [] := by
  unfold wp_M_immediate_52 at h
  refine j_aload_n C 30 53 rfl rfl rfl 0 rfl ?_
  refine j_callVv C 31 56 rfl rfl w887 m_M_illegal (As := []) (c_M_illegal l D h0 a cI cB S _ h) ⟨rfl, rfl⟩ ⟨Nat.le_of_ble_eq_true rfl, Nat.le_of_ble_eq_true rfl⟩ 0 rfl rfl rfl ⟨Nat.le_of_ble_eq_true rfl, Nat.le_of_ble_eq_true rfl⟩ (Nat.le_of_ble_eq_true rfl) rfl (fun S11 h => ?_)
  exact j_vret C 32 rfl h
def wp_M_immediate_96 (K : St → Prop) (S : St) (k0 : Int32) (k1 : Int32) (k2 : Int32) (k3 : Int32) : Prop := wp_M_plain S k3 k2 k1 k0 (fun r23 S22 => (∀ S24 : St, S24 = st S22 0 49 r23 → (K S24)))
set_option maxHeartbeats 4000000 in
set_option maxRecDepth 100000 in
theorem L_M_immediate_96 {p : Program} {l : Launch} {e : Env} {s : State} {m : MethodId} {args : Array Value} {below : List Frame} {meth : Method} {c : Code} {A : Nat → Prop} {D : va_G} {h0 : Nat} {a : Nat → Nat} {cI cB : ClassId} {K : St → Prop} (C : CX p rm_M_immediate s m args meth c b_M_immediate 4 "PipelinedCoreModel" none pr_M_immediate D clK (tysK cI cB) A) (S : St) (k0 : Int32) (k1 : Int32) (k2 : Int32) (k3 : Int32) (h : wp_M_immediate_96 K S k0 k1 k2 k3) : J p l e rm_M_immediate s m args below meth c 4 D clK A 0 0 (MQ below (va_Qv K (fun u t => QK D clK (tysK cI cB) A (wsM h0 a cI cB u) t) A) args s 0 0 A) (wsM h0 a cI cB S) [] 96 [.int k0, .int k1, .int k2, .int k3, .ref h0] := by
  unfold wp_M_immediate_96 at h
  refine j_callSi C 54 99 rfl rfl w916 m_M_plain (As := [.int k3, .int k2, .int k1, .int k0]) (c_M_plain l D h0 a cI cB S k3 k2 k1 k0 _ h) ⟨rfl, rfl⟩ ⟨Nat.le_of_ble_eq_true rfl, Nat.le_of_ble_eq_true rfl⟩ rfl ⟨Nat.le_of_ble_eq_true rfl, Nat.le_of_ble_eq_true rfl⟩ (Nat.le_of_ble_eq_true rfl) rfl (fun r23 S22 h => ?_)
  refine j_put C 55 102 rfl rfl fp_M_139 0 rfl (Nat.le_of_ble_eq_true rfl) rfl rfl (st S22 0 49 r23) (sM_0_49 _ _ _ _ _ _) (fun S24 eS24 => ?_)
  replace h := h S24 eS24
  exact j_vret C 56 rfl h
def wp_M_immediate_95 (K : St → Prop) (S : St) (k0 : Int32) (k1 : Int32) (k2 : Int32) : Prop := (wp_M_immediate_96 K S 0 k0 k1 k2)
set_option maxHeartbeats 4000000 in
set_option maxRecDepth 100000 in
theorem L_M_immediate_95 {p : Program} {l : Launch} {e : Env} {s : State} {m : MethodId} {args : Array Value} {below : List Frame} {meth : Method} {c : Code} {A : Nat → Prop} {D : va_G} {h0 : Nat} {a : Nat → Nat} {cI cB : ClassId} {K : St → Prop} (C : CX p rm_M_immediate s m args meth c b_M_immediate 4 "PipelinedCoreModel" none pr_M_immediate D clK (tysK cI cB) A) (S : St) (k0 : Int32) (k1 : Int32) (k2 : Int32) (h : wp_M_immediate_95 K S k0 k1 k2) : J p l e rm_M_immediate s m args below meth c 4 D clK A 0 0 (MQ below (va_Qv K (fun u t => QK D clK (tysK cI cB) A (wsM h0 a cI cB u) t) A) args s 0 0 A) (wsM h0 a cI cB S) [] 95 [.int k0, .int k1, .int k2, .ref h0] := by
  unfold wp_M_immediate_95 at h
  refine j_iconst C 53 96 rfl rfl kI_0 ?_
  exact L_M_immediate_96 C S 0 k0 k1 k2 h
def wp_M_immediate_81 (K : St → Prop) (S : St) (v2 : Int32) (v3 : Int32) (k0 : Int32) (k1 : Int32) (k2 : Int32) : Prop := (if v3 = 0 then ((wp_M_immediate_95 K S k0 k1 k2)) else ((if v2 = 32 then ((wp_M_immediate_96 K S 1 k0 k1 k2)) else ((wp_M_immediate_95 K S k0 k1 k2)))))
set_option maxHeartbeats 4000000 in
set_option maxRecDepth 100000 in
theorem L_M_immediate_81 {p : Program} {l : Launch} {e : Env} {s : State} {m : MethodId} {args : Array Value} {below : List Frame} {meth : Method} {c : Code} {A : Nat → Prop} {D : va_G} {h0 : Nat} {a : Nat → Nat} {cI cB : ClassId} {K : St → Prop} (C : CX p rm_M_immediate s m args meth c b_M_immediate 4 "PipelinedCoreModel" none pr_M_immediate D clK (tysK cI cB) A) (S : St) (v2 : Int32) (v3 : Int32) (k0 : Int32) (k1 : Int32) (k2 : Int32) (h : wp_M_immediate_81 K S v2 v3 k0 k1 k2) : J p l e rm_M_immediate s m args below meth c 4 D clK A 0 0 (MQ below (va_Qv K (fun u t => QK D clK (tysK cI cB) A (wsM h0 a cI cB u) t) A) args s 0 0 A) (wsM h0 a cI cB S) [(2, .int v2), (3, .int v3)] 81 [.int k0, .int k1, .int k2, .ref h0] := by
  unfold wp_M_immediate_81 at h
  refine j_iload_n C 46 82 rfl rfl rfl 1 rfl ?_
  refine j_if_eq C 47 95 85 rfl (by decide) rfl (fun c20 => ?_) (fun c20 => ?_)
  · replace h := ite_t h c20
    refine j_sub [] rfl ?_
    exact L_M_immediate_95 C S k0 k1 k2 h
  · replace h := ite_f h c20
    refine j_iload_n C 48 86 rfl rfl rfl 0 rfl ?_
    refine j_bipush C 49 88 rfl rfl kB_32 ?_
    refine j_icmp_ne C 50 95 91 rfl (by decide) rfl (fun c21 => ?_) (fun c21 => ?_)
    · replace h := ite_f h c21
      refine j_sub [] rfl ?_
      exact L_M_immediate_95 C S k0 k1 k2 h
    · replace h := ite_t h c21
      refine j_iconst C 51 92 rfl rfl kI_1 ?_
      refine j_goto C 52 96 rfl (by decide) ?_
      refine j_sub [] rfl ?_
      exact L_M_immediate_96 C S 1 k0 k1 k2 h
def wp_M_immediate_57 (K : St → Prop) (S : St) (v1 : Int32) (v2 : Int32) (v3 : Int32) : Prop := wp_M_regA S (fun r14 S13 => ((if v3 = 0 then (wp_M_numberI S13 (fun r17 S16 => ((wp_M_immediate_81 K S16 v2 v3 r17 r14 v1)))) else (wp_M_bits S13 20 5 (fun r19 S18 => ((wp_M_immediate_81 K S18 v2 v3 r19 r14 v1)))))))
set_option maxHeartbeats 4000000 in
set_option maxRecDepth 100000 in
theorem L_M_immediate_57 {p : Program} {l : Launch} {e : Env} {s : State} {m : MethodId} {args : Array Value} {below : List Frame} {meth : Method} {c : Code} {A : Nat → Prop} {D : va_G} {h0 : Nat} {a : Nat → Nat} {cI cB : ClassId} {K : St → Prop} (C : CX p rm_M_immediate s m args meth c b_M_immediate 4 "PipelinedCoreModel" none pr_M_immediate D clK (tysK cI cB) A) (S : St) (v1 : Int32) (v2 : Int32) (v3 : Int32) (h : wp_M_immediate_57 K S v1 v2 v3) : J p l e rm_M_immediate s m args below meth c 4 D clK A 0 0 (MQ below (va_Qv K (fun u t => QK D clK (tysK cI cB) A (wsM h0 a cI cB u) t) A) args s 0 0 A) (wsM h0 a cI cB S) [(0, .ref h0), (1, .int v1), (2, .int v2), (3, .int v3)] 57 [] := by
  unfold wp_M_immediate_57 at h
  refine j_aload_n C 33 58 rfl rfl rfl 0 rfl ?_
  refine j_iload_n C 34 59 rfl rfl rfl 1 rfl ?_
  refine j_aload_n C 35 60 rfl rfl rfl 0 rfl ?_
  refine j_callVi C 36 63 rfl rfl w867 m_M_regA (As := []) (c_M_regA l D h0 a cI cB S _ h) ⟨rfl, rfl⟩ ⟨Nat.le_of_ble_eq_true rfl, Nat.le_of_ble_eq_true rfl⟩ 0 rfl rfl rfl ⟨Nat.le_of_ble_eq_true rfl, Nat.le_of_ble_eq_true rfl⟩ (Nat.le_of_ble_eq_true rfl) rfl (fun r14 S13 h => ?_)
  refine j_iload_n C 37 64 rfl rfl rfl 3 rfl ?_
  refine j_if_eq C 38 77 67 rfl (by decide) rfl (fun c15 => ?_) (fun c15 => ?_)
  · replace h := ite_t h c15
    refine j_aload_n C 44 78 rfl rfl rfl 0 rfl ?_
    refine j_callVi C 45 81 rfl rfl w871 m_M_numberI (As := []) (c_M_numberI l D h0 a cI cB S13 _ h) ⟨rfl, rfl⟩ ⟨Nat.le_of_ble_eq_true rfl, Nat.le_of_ble_eq_true rfl⟩ 0 rfl rfl rfl ⟨Nat.le_of_ble_eq_true rfl, Nat.le_of_ble_eq_true rfl⟩ (Nat.le_of_ble_eq_true rfl) rfl (fun r17 S16 h => ?_)
    refine j_sub [2, 3] rfl ?_
    exact L_M_immediate_81 C S16 v2 v3 r17 r14 v1 h
  · replace h := ite_f h c15
    refine j_aload_n C 39 68 rfl rfl rfl 0 rfl ?_
    refine j_bipush C 40 70 rfl rfl kB_20 ?_
    refine j_iconst C 41 71 rfl rfl kI_5 ?_
    refine j_callVi C 42 74 rfl rfl w822 m_M_bits (As := [.int 20, .int 5]) (c_M_bits l D h0 a cI cB S13 20 5 _ h) ⟨rfl, rfl⟩ ⟨Nat.le_of_ble_eq_true rfl, Nat.le_of_ble_eq_true rfl⟩ 0 rfl rfl rfl ⟨Nat.le_of_ble_eq_true rfl, Nat.le_of_ble_eq_true rfl⟩ (Nat.le_of_ble_eq_true rfl) rfl (fun r19 S18 h => ?_)
    refine j_goto C 43 81 rfl (by decide) ?_
    refine j_sub [2, 3] rfl ?_
    exact L_M_immediate_81 C S18 v2 v3 r19 r14 v1 h
def wp_M_immediate_32 (K : St → Prop) (S : St) (v1 : Int32) (v2 : Int32) (k0 : Int32) : Prop := (if k0 = 0 then ((wp_M_immediate_57 K S v1 v2 k0)) else ((if v2 = 0 then ((wp_M_immediate_57 K S v1 v2 k0)) else ((if v1 = 5 then ((if v2 = 32 then ((wp_M_immediate_57 K S v1 v2 k0)) else ((wp_M_immediate_52 K S)))) else ((wp_M_immediate_52 K S)))))))
set_option maxHeartbeats 4000000 in
set_option maxRecDepth 100000 in
theorem L_M_immediate_32 {p : Program} {l : Launch} {e : Env} {s : State} {m : MethodId} {args : Array Value} {below : List Frame} {meth : Method} {c : Code} {A : Nat → Prop} {D : va_G} {h0 : Nat} {a : Nat → Nat} {cI cB : ClassId} {K : St → Prop} (C : CX p rm_M_immediate s m args meth c b_M_immediate 4 "PipelinedCoreModel" none pr_M_immediate D clK (tysK cI cB) A) (S : St) (v1 : Int32) (v2 : Int32) (k0 : Int32) (h : wp_M_immediate_32 K S v1 v2 k0) : J p l e rm_M_immediate s m args below meth c 4 D clK A 0 0 (MQ below (va_Qv K (fun u t => QK D clK (tysK cI cB) A (wsM h0 a cI cB u) t) A) args s 0 0 A) (wsM h0 a cI cB S) [(0, .ref h0), (1, .int v1), (2, .int v2)] 32 [.int k0] := by
  unfold wp_M_immediate_32 at h
  refine j_istore_n C 19 33 [(3, .int k0), (0, .ref h0), (1, .int v1), (2, .int v2)] rfl rfl rfl (by decide) rfl ?_
  refine j_iload_n C 20 34 rfl rfl rfl 0 rfl ?_
  refine j_if_eq C 21 57 37 rfl (by decide) rfl (fun c7 => ?_) (fun c7 => ?_)
  · replace h := ite_t h c7
    refine j_sub [1, 2, 3, 0] rfl ?_
    exact L_M_immediate_57 C S v1 v2 k0 h
  · replace h := ite_f h c7
    refine j_iload_n C 22 38 rfl rfl rfl 3 rfl ?_
    refine j_if_eq C 23 57 41 rfl (by decide) rfl (fun c8 => ?_) (fun c8 => ?_)
    · replace h := ite_t h c8
      refine j_sub [1, 2, 3, 0] rfl ?_
      exact L_M_immediate_57 C S v1 v2 k0 h
    · replace h := ite_f h c8
      refine j_iload_n C 24 42 rfl rfl rfl 2 rfl ?_
      refine j_iconst C 25 43 rfl rfl kI_5 ?_
      refine j_icmp_ne C 26 52 46 rfl (by decide) rfl (fun c9 => ?_) (fun c9 => ?_)
      · replace h := ite_f h c9
        refine j_sub [1] rfl ?_
        exact L_M_immediate_52 C S h
      · replace h := ite_t h c9
        refine j_iload_n C 27 47 rfl rfl rfl 3 rfl ?_
        refine j_bipush C 28 49 rfl rfl kB_32 ?_
        refine j_icmp_eq C 29 57 52 rfl (by decide) rfl (fun c10 => ?_) (fun c10 => ?_)
        · replace h := ite_t h c10
          refine j_sub [1, 2, 3, 0] rfl ?_
          exact L_M_immediate_57 C S v1 v2 k0 h
        · replace h := ite_f h c10
          refine j_sub [1] rfl ?_
          exact L_M_immediate_52 C S h
def wp_M_immediate_27 (K : St → Prop) (S : St) (v1 : Int32) (v2 : Int32) : Prop := (wp_M_immediate_32 K S v1 v2 1)
set_option maxHeartbeats 4000000 in
set_option maxRecDepth 100000 in
theorem L_M_immediate_27 {p : Program} {l : Launch} {e : Env} {s : State} {m : MethodId} {args : Array Value} {below : List Frame} {meth : Method} {c : Code} {A : Nat → Prop} {D : va_G} {h0 : Nat} {a : Nat → Nat} {cI cB : ClassId} {K : St → Prop} (C : CX p rm_M_immediate s m args meth c b_M_immediate 4 "PipelinedCoreModel" none pr_M_immediate D clK (tysK cI cB) A) (S : St) (v1 : Int32) (v2 : Int32) (h : wp_M_immediate_27 K S v1 v2) : J p l e rm_M_immediate s m args below meth c 4 D clK A 0 0 (MQ below (va_Qv K (fun u t => QK D clK (tysK cI cB) A (wsM h0 a cI cB u) t) A) args s 0 0 A) (wsM h0 a cI cB S) [(0, .ref h0), (1, .int v1), (2, .int v2)] 27 [] := by
  unfold wp_M_immediate_27 at h
  refine j_iconst C 16 28 rfl rfl kI_1 ?_
  refine j_goto C 17 32 rfl (by decide) ?_
  exact L_M_immediate_32 C S v1 v2 1 h
def wp_M_immediate (S : St)  (K : St → Prop) : Prop := wp_M_bits S 12 3 (fun r2 S1 => (wp_M_bits S1 25 7 (fun r4 S3 => ((if r2 = 1 then ((wp_M_immediate_27 K S3 r2 r4)) else ((if r2 = 5 then ((wp_M_immediate_27 K S3 r2 r4)) else ((wp_M_immediate_32 K S3 r2 r4 0)))))))))
set_option maxHeartbeats 4000000 in
set_option maxRecDepth 100000 in
theorem c_M_immediate (l : Launch) (D : va_G) (h0 : Nat) (a : Nat → Nat) (cI cB : ClassId) (S : St)  (K : St → Prop) (h : wp_M_immediate S K) (sz : Nat) : Met l y_M_immediate (Cond.code y_M_immediate b_M_immediate 4 none :: gw) rm_M_immediate (va_Pc [.ref h0] (PK D clK (tysK cI cB) (wsM h0 a cI cB S) sz)) (va_Qv K (fun u t => QK D clK (tysK cI cB) (va_A (wsM h0 a cI cB S) sz) (wsM h0 a cI cB u) t) (va_A (wsM h0 a cI cB S) sz)) 0 0 (va_A (wsM h0 a cI cB S) sz) := by
  refine met_of (rm := rm_M_immediate) (pr := pr_M_immediate) (Qc := fun A => va_Qv K (fun u t => QK D clK (tysK cI cB) A (wsM h0 a cI cB u) t) A) (by decide +kernel) dm_M_immediate (Nat.le_of_ble_eq_true rfl) (fun p e s m args below meth c A C => ?_) sz
  unfold wp_M_immediate at h
  show J p l e rm_M_immediate s m args below meth c 4 D clK A 0 0 _ (wsM h0 a cI cB S) [(0, .ref h0)] 0 []
  refine j_aload_n C 0 1 rfl rfl rfl 0 rfl ?_
  refine j_bipush C 1 3 rfl rfl kB_12 ?_
  refine j_iconst C 2 4 rfl rfl kI_3 ?_
  refine j_callVi C 3 7 rfl rfl w822 m_M_bits (As := [.int 12, .int 3]) (c_M_bits l D h0 a cI cB S 12 3 _ h) ⟨rfl, rfl⟩ ⟨Nat.le_of_ble_eq_true rfl, Nat.le_of_ble_eq_true rfl⟩ 0 rfl rfl rfl ⟨Nat.le_of_ble_eq_true rfl, Nat.le_of_ble_eq_true rfl⟩ (Nat.le_of_ble_eq_true rfl) rfl (fun r2 S1 h => ?_)
  refine j_istore_n C 4 8 [(1, .int r2), (0, .ref h0)] rfl rfl rfl (by decide) rfl ?_
  refine j_aload_n C 5 9 rfl rfl rfl 1 rfl ?_
  refine j_bipush C 6 11 rfl rfl kB_25 ?_
  refine j_bipush C 7 13 rfl rfl kB_7 ?_
  refine j_callVi C 8 16 rfl rfl w822 m_M_bits (As := [.int 25, .int 7]) (c_M_bits l D h0 a cI cB S1 25 7 _ h) ⟨rfl, rfl⟩ ⟨Nat.le_of_ble_eq_true rfl, Nat.le_of_ble_eq_true rfl⟩ 0 rfl rfl rfl ⟨Nat.le_of_ble_eq_true rfl, Nat.le_of_ble_eq_true rfl⟩ (Nat.le_of_ble_eq_true rfl) rfl (fun r4 S3 h => ?_)
  refine j_istore_n C 9 17 [(2, .int r4), (1, .int r2), (0, .ref h0)] rfl rfl rfl (by decide) rfl ?_
  refine j_iload_n C 10 18 rfl rfl rfl 1 rfl ?_
  refine j_iconst C 11 19 rfl rfl kI_1 ?_
  refine j_icmp_eq C 12 27 22 rfl (by decide) rfl (fun c5 => ?_) (fun c5 => ?_)
  · replace h := ite_t h c5
    refine j_sub [2, 1, 0] rfl ?_
    exact L_M_immediate_27 C S3 r2 r4 h
  · replace h := ite_f h c5
    refine j_iload_n C 13 23 rfl rfl rfl 1 rfl ?_
    refine j_iconst C 14 24 rfl rfl kI_5 ?_
    refine j_icmp_ne C 15 31 27 rfl (by decide) rfl (fun c6 => ?_) (fun c6 => ?_)
    · replace h := ite_f h c6
      refine j_iconst C 18 32 rfl rfl kI_0 ?_
      refine j_sub [2, 1, 0] rfl ?_
      exact L_M_immediate_32 C S3 r2 r4 0 h
    · replace h := ite_t h c6
      refine j_sub [2, 1, 0] rfl ?_
      exact L_M_immediate_27 C S3 r2 r4 h
abbrev rm_M_operation : Room := { frames := 2, cells := 0, slots := 0, locals := 45 }
def wp_M_operation_129 (K : St → Prop) (S : St)  : Prop := K S
set_option maxHeartbeats 4000000 in
set_option maxRecDepth 100000 in
theorem L_M_operation_129 {p : Program} {l : Launch} {e : Env} {s : State} {m : MethodId} {args : Array Value} {below : List Frame} {meth : Method} {c : Code} {A : Nat → Prop} {D : va_G} {h0 : Nat} {a : Nat → Nat} {cI cB : ClassId} {K : St → Prop} (C : CX p rm_M_operation s m args meth c b_M_operation 4 "PipelinedCoreModel" none pr_M_operation D clK (tysK cI cB) A) (S : St)  (h : wp_M_operation_129 K S) : J p l e rm_M_operation s m args below meth c 4 D clK A 0 0 (MQ below (va_Qv K (fun u t => QK D clK (tysK cI cB) A (wsM h0 a cI cB u) t) A) args s 0 0 A) (wsM h0 a cI cB S) [] 129 [] := by
  unfold wp_M_operation_129 at h
  exact j_vret C 68 rfl h
def wp_M_operation_96 (K : St → Prop) (S : St) (k0 : Int32) : Prop := ∀ S32 : St, S32 = st S 0 49 k0 → ((wp_M_operation_129 K S32))
set_option maxHeartbeats 4000000 in
set_option maxRecDepth 100000 in
theorem L_M_operation_96 {p : Program} {l : Launch} {e : Env} {s : State} {m : MethodId} {args : Array Value} {below : List Frame} {meth : Method} {c : Code} {A : Nat → Prop} {D : va_G} {h0 : Nat} {a : Nat → Nat} {cI cB : ClassId} {K : St → Prop} (C : CX p rm_M_operation s m args meth c b_M_operation 4 "PipelinedCoreModel" none pr_M_operation D clK (tysK cI cB) A) (S : St) (k0 : Int32) (h : wp_M_operation_96 K S k0) : J p l e rm_M_operation s m args below meth c 4 D clK A 0 0 (MQ below (va_Qv K (fun u t => QK D clK (tysK cI cB) A (wsM h0 a cI cB u) t) A) args s 0 0 A) (wsM h0 a cI cB S) [] 96 [.int k0, .ref h0] := by
  unfold wp_M_operation_96 at h
  refine j_put C 52 99 rfl rfl fp_M_139 0 rfl (Nat.le_of_ble_eq_true rfl) rfl rfl (st S 0 49 k0) (sM_0_49 _ _ _ _ _ _) (fun S32 eS32 => ?_)
  replace h := h S32 eS32
  refine j_goto C 53 129 rfl (by decide) ?_
  exact L_M_operation_129 C S32 h
def wp_M_operation_123 (K : St → Prop) (S : St) (k0 : Int32) (k1 : Int32) (k2 : Int32) (k3 : Int32) : Prop := wp_M_plain S k3 k2 k1 k0 (fun r34 S33 => (∀ S35 : St, S35 = st S33 0 49 r34 → ((wp_M_operation_129 K S35))))
set_option maxHeartbeats 4000000 in
set_option maxRecDepth 100000 in
theorem L_M_operation_123 {p : Program} {l : Launch} {e : Env} {s : State} {m : MethodId} {args : Array Value} {below : List Frame} {meth : Method} {c : Code} {A : Nat → Prop} {D : va_G} {h0 : Nat} {a : Nat → Nat} {cI cB : ClassId} {K : St → Prop} (C : CX p rm_M_operation s m args meth c b_M_operation 4 "PipelinedCoreModel" none pr_M_operation D clK (tysK cI cB) A) (S : St) (k0 : Int32) (k1 : Int32) (k2 : Int32) (k3 : Int32) (h : wp_M_operation_123 K S k0 k1 k2 k3) : J p l e rm_M_operation s m args below meth c 4 D clK A 0 0 (MQ below (va_Qv K (fun u t => QK D clK (tysK cI cB) A (wsM h0 a cI cB u) t) A) args s 0 0 A) (wsM h0 a cI cB S) [] 123 [.int k0, .int k1, .int k2, .int k3, .ref h0] := by
  unfold wp_M_operation_123 at h
  refine j_callSi C 66 126 rfl rfl w916 m_M_plain (As := [.int k3, .int k2, .int k1, .int k0]) (c_M_plain l D h0 a cI cB S k3 k2 k1 k0 _ h) ⟨rfl, rfl⟩ ⟨Nat.le_of_ble_eq_true rfl, Nat.le_of_ble_eq_true rfl⟩ rfl ⟨Nat.le_of_ble_eq_true rfl, Nat.le_of_ble_eq_true rfl⟩ (Nat.le_of_ble_eq_true rfl) rfl (fun r34 S33 h => ?_)
  refine j_put C 67 129 rfl rfl fp_M_139 0 rfl (Nat.le_of_ble_eq_true rfl) rfl rfl (st S33 0 49 r34) (sM_0_49 _ _ _ _ _ _) (fun S35 eS35 => ?_)
  replace h := h S35 eS35
  exact L_M_operation_129 C S35 h
def wp_M_operation_46 (K : St → Prop) (S : St) (v1 : Int32) (v2 : Int32) (k0 : Int32) : Prop := (if k0 = 0 then (wp_M_illegal S (fun S30 => ((wp_M_operation_129 K S30)))) else ((if v2 = 1 then ((if (4 : Int32) ≤ v1 then (wp_M_regA S (fun r19 S18 => (wp_M_regB S18 (fun r21 S20 => (wp_M_quotient S20 v1 r19 r21 (fun r23 S22 => ((wp_M_operation_96 K S22 r23)))))))) else (wp_M_regA S (fun r25 S24 => (wp_M_regB S24 (fun r27 S26 => (wp_M_product S26 v1 r25 r27 (fun r29 S28 => ((wp_M_operation_96 K S28 r29)))))))))) else (wp_M_regA S (fun r13 S12 => (wp_M_regB S12 (fun r15 S14 => ((if v2 = 32 then ((wp_M_operation_123 K S14 1 r15 r13 v1)) else ((wp_M_operation_123 K S14 0 r15 r13 v1)))))))))))
set_option maxHeartbeats 4000000 in
set_option maxRecDepth 100000 in
theorem L_M_operation_46 {p : Program} {l : Launch} {e : Env} {s : State} {m : MethodId} {args : Array Value} {below : List Frame} {meth : Method} {c : Code} {A : Nat → Prop} {D : va_G} {h0 : Nat} {a : Nat → Nat} {cI cB : ClassId} {K : St → Prop} (C : CX p rm_M_operation s m args meth c b_M_operation 4 "PipelinedCoreModel" none pr_M_operation D clK (tysK cI cB) A) (S : St) (v1 : Int32) (v2 : Int32) (k0 : Int32) (h : wp_M_operation_46 K S v1 v2 k0) : J p l e rm_M_operation s m args below meth c 4 D clK A 0 0 (MQ below (va_Qv K (fun u t => QK D clK (tysK cI cB) A (wsM h0 a cI cB u) t) A) args s 0 0 A) (wsM h0 a cI cB S) [(0, .ref h0), (1, .int v1), (2, .int v2)] 46 [.int k0] := by
  unfold wp_M_operation_46 at h
  refine j_istore_n C 26 47 [(3, .int k0), (0, .ref h0), (1, .int v1), (2, .int v2)] rfl rfl rfl (by decide) rfl ?_
  refine j_iload_n C 27 48 rfl rfl rfl 0 rfl ?_
  refine j_if_ne C 28 58 51 rfl (by decide) rfl (fun c10 => ?_) (fun c10 => ?_)
  · replace h := ite_f h c10
    refine j_iload_n C 32 59 rfl rfl rfl 3 rfl ?_
    refine j_iconst C 33 60 rfl rfl kI_1 ?_
    refine j_icmp_ne C 34 102 63 rfl (by decide) rfl (fun c11 => ?_) (fun c11 => ?_)
    · replace h := ite_f h c11
      refine j_aload_n C 54 103 rfl rfl rfl 1 rfl ?_
      refine j_iload_n C 55 104 rfl rfl rfl 2 rfl ?_
      refine j_aload_n C 56 105 rfl rfl rfl 1 rfl ?_
      refine j_callVi C 57 108 rfl rfl w867 m_M_regA (As := []) (c_M_regA l D h0 a cI cB S _ h) ⟨rfl, rfl⟩ ⟨Nat.le_of_ble_eq_true rfl, Nat.le_of_ble_eq_true rfl⟩ 0 rfl rfl rfl ⟨Nat.le_of_ble_eq_true rfl, Nat.le_of_ble_eq_true rfl⟩ (Nat.le_of_ble_eq_true rfl) rfl (fun r13 S12 h => ?_)
      refine j_aload_n C 58 109 rfl rfl rfl 1 rfl ?_
      refine j_callVi C 59 112 rfl rfl w879 m_M_regB (As := []) (c_M_regB l D h0 a cI cB S12 _ h) ⟨rfl, rfl⟩ ⟨Nat.le_of_ble_eq_true rfl, Nat.le_of_ble_eq_true rfl⟩ 0 rfl rfl rfl ⟨Nat.le_of_ble_eq_true rfl, Nat.le_of_ble_eq_true rfl⟩ (Nat.le_of_ble_eq_true rfl) rfl (fun r15 S14 h => ?_)
      refine j_iload_n C 60 113 rfl rfl rfl 3 rfl ?_
      refine j_bipush C 61 115 rfl rfl kB_32 ?_
      refine j_icmp_ne C 62 122 118 rfl (by decide) rfl (fun c16 => ?_) (fun c16 => ?_)
      · replace h := ite_f h c16
        refine j_iconst C 65 123 rfl rfl kI_0 ?_
        refine j_sub [] rfl ?_
        exact L_M_operation_123 C S14 0 r15 r13 v1 h
      · replace h := ite_t h c16
        refine j_iconst C 63 119 rfl rfl kI_1 ?_
        refine j_goto C 64 123 rfl (by decide) ?_
        refine j_sub [] rfl ?_
        exact L_M_operation_123 C S14 1 r15 r13 v1 h
    · replace h := ite_t h c11
      refine j_aload_n C 35 64 rfl rfl rfl 1 rfl ?_
      refine j_iload_n C 36 65 rfl rfl rfl 2 rfl ?_
      refine j_iconst C 37 66 rfl rfl kI_4 ?_
      refine j_icmp_ge C 38 84 69 rfl (by decide) rfl (fun c17 => ?_) (fun c17 => ?_)
      · replace h := ite_t h c17
        refine j_iload_n C 46 85 rfl rfl rfl 2 rfl ?_
        refine j_aload_n C 47 86 rfl rfl rfl 1 rfl ?_
        refine j_callVi C 48 89 rfl rfl w867 m_M_regA (As := []) (c_M_regA l D h0 a cI cB S _ h) ⟨rfl, rfl⟩ ⟨Nat.le_of_ble_eq_true rfl, Nat.le_of_ble_eq_true rfl⟩ 0 rfl rfl rfl ⟨Nat.le_of_ble_eq_true rfl, Nat.le_of_ble_eq_true rfl⟩ (Nat.le_of_ble_eq_true rfl) rfl (fun r19 S18 h => ?_)
        refine j_aload_n C 49 90 rfl rfl rfl 1 rfl ?_
        refine j_callVi C 50 93 rfl rfl w879 m_M_regB (As := []) (c_M_regB l D h0 a cI cB S18 _ h) ⟨rfl, rfl⟩ ⟨Nat.le_of_ble_eq_true rfl, Nat.le_of_ble_eq_true rfl⟩ 0 rfl rfl rfl ⟨Nat.le_of_ble_eq_true rfl, Nat.le_of_ble_eq_true rfl⟩ (Nat.le_of_ble_eq_true rfl) rfl (fun r21 S20 h => ?_)
        refine j_callSi C 51 96 rfl rfl w926 m_M_quotient (As := [.int v1, .int r19, .int r21]) (c_M_quotient l D h0 a cI cB S20 v1 r19 r21 _ h) ⟨rfl, rfl⟩ ⟨Nat.le_of_ble_eq_true rfl, Nat.le_of_ble_eq_true rfl⟩ rfl ⟨Nat.le_of_ble_eq_true rfl, Nat.le_of_ble_eq_true rfl⟩ (Nat.le_of_ble_eq_true rfl) rfl (fun r23 S22 h => ?_)
        refine j_sub [] rfl ?_
        exact L_M_operation_96 C S22 r23 h
      · replace h := ite_f h c17
        refine j_iload_n C 39 70 rfl rfl rfl 2 rfl ?_
        refine j_aload_n C 40 71 rfl rfl rfl 1 rfl ?_
        refine j_callVi C 41 74 rfl rfl w867 m_M_regA (As := []) (c_M_regA l D h0 a cI cB S _ h) ⟨rfl, rfl⟩ ⟨Nat.le_of_ble_eq_true rfl, Nat.le_of_ble_eq_true rfl⟩ 0 rfl rfl rfl ⟨Nat.le_of_ble_eq_true rfl, Nat.le_of_ble_eq_true rfl⟩ (Nat.le_of_ble_eq_true rfl) rfl (fun r25 S24 h => ?_)
        refine j_aload_n C 42 75 rfl rfl rfl 1 rfl ?_
        refine j_callVi C 43 78 rfl rfl w879 m_M_regB (As := []) (c_M_regB l D h0 a cI cB S24 _ h) ⟨rfl, rfl⟩ ⟨Nat.le_of_ble_eq_true rfl, Nat.le_of_ble_eq_true rfl⟩ 0 rfl rfl rfl ⟨Nat.le_of_ble_eq_true rfl, Nat.le_of_ble_eq_true rfl⟩ (Nat.le_of_ble_eq_true rfl) rfl (fun r27 S26 h => ?_)
        refine j_callSi C 44 81 rfl rfl w923 m_M_product (As := [.int v1, .int r25, .int r27]) (c_M_product l D h0 a cI cB S26 v1 r25 r27 _ h) ⟨rfl, rfl⟩ ⟨Nat.le_of_ble_eq_true rfl, Nat.le_of_ble_eq_true rfl⟩ rfl ⟨Nat.le_of_ble_eq_true rfl, Nat.le_of_ble_eq_true rfl⟩ (Nat.le_of_ble_eq_true rfl) rfl (fun r29 S28 h => ?_)
        refine j_goto C 45 96 rfl (by decide) ?_
        refine j_sub [] rfl ?_
        exact L_M_operation_96 C S28 r29 h
  · replace h := ite_t h c10
    refine j_aload_n C 29 52 rfl rfl rfl 1 rfl ?_
    refine j_callVv C 30 55 rfl rfl w887 m_M_illegal (As := []) (c_M_illegal l D h0 a cI cB S _ h) ⟨rfl, rfl⟩ ⟨Nat.le_of_ble_eq_true rfl, Nat.le_of_ble_eq_true rfl⟩ 0 rfl rfl rfl ⟨Nat.le_of_ble_eq_true rfl, Nat.le_of_ble_eq_true rfl⟩ (Nat.le_of_ble_eq_true rfl) rfl (fun S30 h => ?_)
    refine j_goto C 31 129 rfl (by decide) ?_
    refine j_sub [] rfl ?_
    exact L_M_operation_129 C S30 h
def wp_M_operation_41 (K : St → Prop) (S : St) (v1 : Int32) (v2 : Int32) : Prop := (wp_M_operation_46 K S v1 v2 1)
set_option maxHeartbeats 4000000 in
set_option maxRecDepth 100000 in
theorem L_M_operation_41 {p : Program} {l : Launch} {e : Env} {s : State} {m : MethodId} {args : Array Value} {below : List Frame} {meth : Method} {c : Code} {A : Nat → Prop} {D : va_G} {h0 : Nat} {a : Nat → Nat} {cI cB : ClassId} {K : St → Prop} (C : CX p rm_M_operation s m args meth c b_M_operation 4 "PipelinedCoreModel" none pr_M_operation D clK (tysK cI cB) A) (S : St) (v1 : Int32) (v2 : Int32) (h : wp_M_operation_41 K S v1 v2) : J p l e rm_M_operation s m args below meth c 4 D clK A 0 0 (MQ below (va_Qv K (fun u t => QK D clK (tysK cI cB) A (wsM h0 a cI cB u) t) A) args s 0 0 A) (wsM h0 a cI cB S) [(0, .ref h0), (1, .int v1), (2, .int v2)] 41 [] := by
  unfold wp_M_operation_41 at h
  refine j_iconst C 23 42 rfl rfl kI_1 ?_
  refine j_goto C 24 46 rfl (by decide) ?_
  exact L_M_operation_46 C S v1 v2 1 h
def wp_M_operation_45 (K : St → Prop) (S : St) (v1 : Int32) (v2 : Int32) : Prop := (wp_M_operation_46 K S v1 v2 0)
set_option maxHeartbeats 4000000 in
set_option maxRecDepth 100000 in
theorem L_M_operation_45 {p : Program} {l : Launch} {e : Env} {s : State} {m : MethodId} {args : Array Value} {below : List Frame} {meth : Method} {c : Code} {A : Nat → Prop} {D : va_G} {h0 : Nat} {a : Nat → Nat} {cI cB : ClassId} {K : St → Prop} (C : CX p rm_M_operation s m args meth c b_M_operation 4 "PipelinedCoreModel" none pr_M_operation D clK (tysK cI cB) A) (S : St) (v1 : Int32) (v2 : Int32) (h : wp_M_operation_45 K S v1 v2) : J p l e rm_M_operation s m args below meth c 4 D clK A 0 0 (MQ below (va_Qv K (fun u t => QK D clK (tysK cI cB) A (wsM h0 a cI cB u) t) A) args s 0 0 A) (wsM h0 a cI cB S) [(0, .ref h0), (1, .int v1), (2, .int v2)] 45 [] := by
  unfold wp_M_operation_45 at h
  refine j_iconst C 25 46 rfl rfl kI_0 ?_
  exact L_M_operation_46 C S v1 v2 0 h
def wp_M_operation (S : St)  (K : St → Prop) : Prop := wp_M_bits S 12 3 (fun r2 S1 => (wp_M_bits S1 25 7 (fun r4 S3 => ((if r4 = 0 then ((wp_M_operation_41 K S3 r2 r4)) else ((if r4 = 1 then ((wp_M_operation_41 K S3 r2 r4)) else ((if r4 = 32 then ((if r2 = 0 then ((wp_M_operation_41 K S3 r2 r4)) else ((if r2 = 5 then ((wp_M_operation_41 K S3 r2 r4)) else ((wp_M_operation_45 K S3 r2 r4)))))) else ((wp_M_operation_45 K S3 r2 r4)))))))))))
set_option maxHeartbeats 4000000 in
set_option maxRecDepth 100000 in
theorem c_M_operation (l : Launch) (D : va_G) (h0 : Nat) (a : Nat → Nat) (cI cB : ClassId) (S : St)  (K : St → Prop) (h : wp_M_operation S K) (sz : Nat) : Met l y_M_operation (Cond.code y_M_operation b_M_operation 4 none :: gw) rm_M_operation (va_Pc [.ref h0] (PK D clK (tysK cI cB) (wsM h0 a cI cB S) sz)) (va_Qv K (fun u t => QK D clK (tysK cI cB) (va_A (wsM h0 a cI cB S) sz) (wsM h0 a cI cB u) t) (va_A (wsM h0 a cI cB S) sz)) 0 0 (va_A (wsM h0 a cI cB S) sz) := by
  refine met_of (rm := rm_M_operation) (pr := pr_M_operation) (Qc := fun A => va_Qv K (fun u t => QK D clK (tysK cI cB) A (wsM h0 a cI cB u) t) A) (by decide +kernel) dm_M_operation (Nat.le_of_ble_eq_true rfl) (fun p e s m args below meth c A C => ?_) sz
  unfold wp_M_operation at h
  show J p l e rm_M_operation s m args below meth c 4 D clK A 0 0 _ (wsM h0 a cI cB S) [(0, .ref h0)] 0 []
  refine j_aload_n C 0 1 rfl rfl rfl 0 rfl ?_
  refine j_bipush C 1 3 rfl rfl kB_12 ?_
  refine j_iconst C 2 4 rfl rfl kI_3 ?_
  refine j_callVi C 3 7 rfl rfl w822 m_M_bits (As := [.int 12, .int 3]) (c_M_bits l D h0 a cI cB S 12 3 _ h) ⟨rfl, rfl⟩ ⟨Nat.le_of_ble_eq_true rfl, Nat.le_of_ble_eq_true rfl⟩ 0 rfl rfl rfl ⟨Nat.le_of_ble_eq_true rfl, Nat.le_of_ble_eq_true rfl⟩ (Nat.le_of_ble_eq_true rfl) rfl (fun r2 S1 h => ?_)
  refine j_istore_n C 4 8 [(1, .int r2), (0, .ref h0)] rfl rfl rfl (by decide) rfl ?_
  refine j_aload_n C 5 9 rfl rfl rfl 1 rfl ?_
  refine j_bipush C 6 11 rfl rfl kB_25 ?_
  refine j_bipush C 7 13 rfl rfl kB_7 ?_
  refine j_callVi C 8 16 rfl rfl w822 m_M_bits (As := [.int 25, .int 7]) (c_M_bits l D h0 a cI cB S1 25 7 _ h) ⟨rfl, rfl⟩ ⟨Nat.le_of_ble_eq_true rfl, Nat.le_of_ble_eq_true rfl⟩ 0 rfl rfl rfl ⟨Nat.le_of_ble_eq_true rfl, Nat.le_of_ble_eq_true rfl⟩ (Nat.le_of_ble_eq_true rfl) rfl (fun r4 S3 h => ?_)
  refine j_istore_n C 9 17 [(2, .int r4), (1, .int r2), (0, .ref h0)] rfl rfl rfl (by decide) rfl ?_
  refine j_iload_n C 10 18 rfl rfl rfl 0 rfl ?_
  refine j_if_eq C 11 41 21 rfl (by decide) rfl (fun c5 => ?_) (fun c5 => ?_)
  · replace h := ite_t h c5
    refine j_sub [2, 1, 0] rfl ?_
    exact L_M_operation_41 C S3 r2 r4 h
  · replace h := ite_f h c5
    refine j_iload_n C 12 22 rfl rfl rfl 0 rfl ?_
    refine j_iconst C 13 23 rfl rfl kI_1 ?_
    refine j_icmp_eq C 14 41 26 rfl (by decide) rfl (fun c6 => ?_) (fun c6 => ?_)
    · replace h := ite_t h c6
      refine j_sub [2, 1, 0] rfl ?_
      exact L_M_operation_41 C S3 r2 r4 h
    · replace h := ite_f h c6
      refine j_iload_n C 15 27 rfl rfl rfl 0 rfl ?_
      refine j_bipush C 16 29 rfl rfl kB_32 ?_
      refine j_icmp_ne C 17 45 32 rfl (by decide) rfl (fun c7 => ?_) (fun c7 => ?_)
      · replace h := ite_f h c7
        refine j_sub [2, 1, 0] rfl ?_
        exact L_M_operation_45 C S3 r2 r4 h
      · replace h := ite_t h c7
        refine j_iload_n C 18 33 rfl rfl rfl 1 rfl ?_
        refine j_if_eq C 19 41 36 rfl (by decide) rfl (fun c8 => ?_) (fun c8 => ?_)
        · replace h := ite_t h c8
          refine j_sub [2, 1, 0] rfl ?_
          exact L_M_operation_41 C S3 r2 r4 h
        · replace h := ite_f h c8
          refine j_iload_n C 20 37 rfl rfl rfl 1 rfl ?_
          refine j_iconst C 21 38 rfl rfl kI_5 ?_
          refine j_icmp_ne C 22 45 41 rfl (by decide) rfl (fun c9 => ?_) (fun c9 => ?_)
          · replace h := ite_f h c9
            refine j_sub [2, 1, 0] rfl ?_
            exact L_M_operation_45 C S3 r2 r4 h
          · replace h := ite_t h c9
            refine j_sub [2, 1, 0] rfl ?_
            exact L_M_operation_41 C S3 r2 r4 h
abbrev rm_M_go : Room := { frames := 0, cells := 0, slots := 0, locals := 0 }
def wp_M_go_26 (K : St → Prop) (S : St)  : Prop := K S
set_option maxHeartbeats 4000000 in
set_option maxRecDepth 100000 in
theorem L_M_go_26 {p : Program} {l : Launch} {e : Env} {s : State} {m : MethodId} {args : Array Value} {below : List Frame} {meth : Method} {c : Code} {A : Nat → Prop} {D : va_G} {h0 : Nat} {a : Nat → Nat} {cI cB : ClassId} {K : St → Prop} (C : CX p rm_M_go s m args meth c b_M_go 2 "PipelinedCoreModel" none pr_M_go D clK (tysK cI cB) A) (S : St)  (h : wp_M_go_26 K S) : J p l e rm_M_go s m args below meth c 2 D clK A 0 0 (MQ below (va_Qv K (fun u t => QK D clK (tysK cI cB) A (wsM h0 a cI cB u) t) A) args s 0 0 A) (wsM h0 a cI cB S) [] 26 [] := by
  unfold wp_M_go_26 at h
  exact j_vret C 16 rfl h
def wp_M_go (S : St) (p1 : Int32) (K : St → Prop) : Prop := ∀ S1 : St, S1 = st S 0 47 p1 → (∀ S2 : St, S2 = st S1 0 54 1 → ((if (p1 &&& (3 : Int32)) = 0 then ((wp_M_go_26 K S2)) else (∀ S4 : St, S4 = st S2 0 45 0 → (∀ S5 : St, S5 = st S4 0 46 p1 → ((wp_M_go_26 K S5)))))))
set_option maxHeartbeats 4000000 in
set_option maxRecDepth 100000 in
theorem c_M_go (l : Launch) (D : va_G) (h0 : Nat) (a : Nat → Nat) (cI cB : ClassId) (S : St) (p1 : Int32) (K : St → Prop) (h : wp_M_go S p1 K) (sz : Nat) : Met l y_M_go (Cond.code y_M_go b_M_go 2 none :: gw) rm_M_go (va_Pc [.ref h0, .int p1] (PK D clK (tysK cI cB) (wsM h0 a cI cB S) sz)) (va_Qv K (fun u t => QK D clK (tysK cI cB) (va_A (wsM h0 a cI cB S) sz) (wsM h0 a cI cB u) t) (va_A (wsM h0 a cI cB S) sz)) 0 0 (va_A (wsM h0 a cI cB S) sz) := by
  refine met_of (rm := rm_M_go) (pr := pr_M_go) (Qc := fun A => va_Qv K (fun u t => QK D clK (tysK cI cB) A (wsM h0 a cI cB u) t) A) (by decide +kernel) dm_M_go (Nat.le_of_ble_eq_true rfl) (fun p e s m args below meth c A C => ?_) sz
  unfold wp_M_go at h
  show J p l e rm_M_go s m args below meth c 2 D clK A 0 0 _ (wsM h0 a cI cB S) [(0, .ref h0), (1, .int p1)] 0 []
  refine j_aload_n C 0 1 rfl rfl rfl 0 rfl ?_
  refine j_iload_n C 1 2 rfl rfl rfl 1 rfl ?_
  refine j_put C 2 5 rfl rfl fp_M_152 0 rfl (Nat.le_of_ble_eq_true rfl) rfl rfl (st S 0 47 p1) (sM_0_47 _ _ _ _ _ _) (fun S1 eS1 => ?_)
  replace h := h S1 eS1
  refine j_aload_n C 3 6 rfl rfl rfl 0 rfl ?_
  refine j_iconst C 4 7 rfl rfl kI_1 ?_
  refine j_put C 5 10 rfl rfl fp_M_155 0 rfl (Nat.le_of_ble_eq_true rfl) (isB_nar isB_1) (isB_fit isB_1) (st S1 0 54 1) (sM_0_54 _ _ _ _ _ _) (fun S2 eS2 => ?_)
  replace h := h S2 eS2
  refine j_iload_n C 6 11 rfl rfl rfl 1 rfl ?_
  refine j_iconst C 7 12 rfl rfl kI_3 ?_
  refine j_iand C 8 13 rfl rfl ?_
  refine j_if_eq C 9 26 16 rfl (by decide) rfl (fun c3 => ?_) (fun c3 => ?_)
  · replace h := ite_t h c3
    refine j_sub [] rfl ?_
    exact L_M_go_26 C S2 h
  · replace h := ite_f h c3
    refine j_aload_n C 10 17 rfl rfl rfl 0 rfl ?_
    refine j_iconst C 11 18 rfl rfl kI_0 ?_
    refine j_put C 12 21 rfl rfl fp_M_120 0 rfl (Nat.le_of_ble_eq_true rfl) rfl rfl (st S2 0 45 0) (sM_0_45 _ _ _ _ _ _) (fun S4 eS4 => ?_)
    replace h := h S4 eS4
    refine j_aload_n C 13 22 rfl rfl rfl 0 rfl ?_
    refine j_iload_n C 14 23 rfl rfl rfl 1 rfl ?_
    refine j_put C 15 26 rfl rfl fp_M_123 0 rfl (Nat.le_of_ble_eq_true rfl) rfl rfl (st S4 0 46 p1) (sM_0_46 _ _ _ _ _ _) (fun S5 eS5 => ?_)
    replace h := h S5 eS5
    refine j_sub [] rfl ?_
    exact L_M_go_26 C S5 h
abbrev rm_M_branch : Room := { frames := 2, cells := 0, slots := 0, locals := 42 }
def wp_M_branch_72 (K : St → Prop) (S : St)  : Prop := wp_M_illegal S (fun S17 => (K S17))
set_option maxHeartbeats 4000000 in
set_option maxRecDepth 100000 in
theorem L_M_branch_72 {p : Program} {l : Launch} {e : Env} {s : State} {m : MethodId} {args : Array Value} {below : List Frame} {meth : Method} {c : Code} {A : Nat → Prop} {D : va_G} {h0 : Nat} {a : Nat → Nat} {cI cB : ClassId} {K : St → Prop} (C : CX p rm_M_branch s m args meth c b_M_branch 5 "PipelinedCoreModel" none pr_M_branch D clK (tysK cI cB) A) (S : St)  (h : wp_M_branch_72 K S) : J p l e rm_M_branch s m args below meth c 5 D clK A 0 0 (MQ below (va_Qv K (fun u t => QK D clK (tysK cI cB) A (wsM h0 a cI cB u) t) A) args s 0 0 A) (wsM h0 a cI cB S) [(0, .ref h0)] 72 [] := by
  unfold wp_M_branch_72 at h
  refine j_aload_n C 41 73 rfl rfl rfl 0 rfl ?_
  refine j_callVv C 42 76 rfl rfl w887 m_M_illegal (As := []) (c_M_illegal l D h0 a cI cB S _ h) ⟨rfl, rfl⟩ ⟨Nat.le_of_ble_eq_true rfl, Nat.le_of_ble_eq_true rfl⟩ 0 rfl rfl rfl ⟨Nat.le_of_ble_eq_true rfl, Nat.le_of_ble_eq_true rfl⟩ (Nat.le_of_ble_eq_true rfl) rfl (fun S17 h => ?_)
  exact j_vret C 43 rfl h
def wp_M_branch_112 (K : St → Prop) (S : St)  : Prop := K S
set_option maxHeartbeats 4000000 in
set_option maxRecDepth 100000 in
theorem L_M_branch_112 {p : Program} {l : Launch} {e : Env} {s : State} {m : MethodId} {args : Array Value} {below : List Frame} {meth : Method} {c : Code} {A : Nat → Prop} {D : va_G} {h0 : Nat} {a : Nat → Nat} {cI cB : ClassId} {K : St → Prop} (C : CX p rm_M_branch s m args meth c b_M_branch 5 "PipelinedCoreModel" none pr_M_branch D clK (tysK cI cB) A) (S : St)  (h : wp_M_branch_112 K S) : J p l e rm_M_branch s m args below meth c 5 D clK A 0 0 (MQ below (va_Qv K (fun u t => QK D clK (tysK cI cB) A (wsM h0 a cI cB u) t) A) args s 0 0 A) (wsM h0 a cI cB S) [] 112 [] := by
  unfold wp_M_branch_112 at h
  exact j_vret C 64 rfl h
def wp_M_branch_96 (K : St → Prop) (S : St) (k0 : Int32) (k1 : Int32) : Prop := (if k1 = k0 then ((wp_M_branch_112 K S)) else (wp_M_numberB S (fun r21 S20 => (wp_M_go S20 ((S 0 6) + r21) (fun S22 => ((wp_M_branch_112 K S22)))))))
set_option maxHeartbeats 4000000 in
set_option maxRecDepth 100000 in
theorem L_M_branch_96 {p : Program} {l : Launch} {e : Env} {s : State} {m : MethodId} {args : Array Value} {below : List Frame} {meth : Method} {c : Code} {A : Nat → Prop} {D : va_G} {h0 : Nat} {a : Nat → Nat} {cI cB : ClassId} {K : St → Prop} (C : CX p rm_M_branch s m args meth c b_M_branch 5 "PipelinedCoreModel" none pr_M_branch D clK (tysK cI cB) A) (S : St) (k0 : Int32) (k1 : Int32) (h : wp_M_branch_96 K S k0 k1) : J p l e rm_M_branch s m args below meth c 5 D clK A 0 0 (MQ below (va_Qv K (fun u t => QK D clK (tysK cI cB) A (wsM h0 a cI cB u) t) A) args s 0 0 A) (wsM h0 a cI cB S) [(0, .ref h0)] 96 [.int k0, .int k1] := by
  unfold wp_M_branch_96 at h
  refine j_icmp_eq C 56 112 99 rfl (by decide) rfl (fun c19 => ?_) (fun c19 => ?_)
  · replace h := ite_t h c19
    refine j_sub [] rfl ?_
    exact L_M_branch_112 C S h
  · replace h := ite_f h c19
    refine j_aload_n C 57 100 rfl rfl rfl 0 rfl ?_
    refine j_aload_n C 58 101 rfl rfl rfl 0 rfl ?_
    refine j_get C 59 104 rfl rfl fg_M_162 0 rfl rfl ?_
    refine j_aload_n C 60 105 rfl rfl rfl 0 rfl ?_
    refine j_callVi C 61 108 rfl rfl w891 m_M_numberB (As := []) (c_M_numberB l D h0 a cI cB S _ h) ⟨rfl, rfl⟩ ⟨Nat.le_of_ble_eq_true rfl, Nat.le_of_ble_eq_true rfl⟩ 0 rfl rfl rfl ⟨Nat.le_of_ble_eq_true rfl, Nat.le_of_ble_eq_true rfl⟩ (Nat.le_of_ble_eq_true rfl) rfl (fun r21 S20 h => ?_)
    refine j_iadd C 62 109 rfl rfl ?_
    refine j_callVv C 63 112 rfl rfl w863 m_M_go (As := [.int ((S 0 6) + r21)]) (c_M_go l D h0 a cI cB S20 ((S 0 6) + r21) _ h) ⟨rfl, rfl⟩ ⟨Nat.le_of_ble_eq_true rfl, Nat.le_of_ble_eq_true rfl⟩ 0 rfl rfl rfl ⟨Nat.le_of_ble_eq_true rfl, Nat.le_of_ble_eq_true rfl⟩ (Nat.le_of_ble_eq_true rfl) rfl (fun S22 h => ?_)
    refine j_sub [] rfl ?_
    exact L_M_branch_112 C S22 h
def wp_M_branch_60 (K : St → Prop) (S : St) (v1 : Int32) (k0 : Int32) : Prop := (if v1 = 2 then ((wp_M_branch_72 K S)) else ((if v1 = 3 then ((wp_M_branch_72 K S)) else (∀ S15 : St, S15 = st S 0 53 1 → ((if (v1 &&& (1 : Int32)) = 1 then ((wp_M_branch_96 K S15 1 k0)) else ((wp_M_branch_96 K S15 0 k0))))))))
set_option maxHeartbeats 4000000 in
set_option maxRecDepth 100000 in
theorem L_M_branch_60 {p : Program} {l : Launch} {e : Env} {s : State} {m : MethodId} {args : Array Value} {below : List Frame} {meth : Method} {c : Code} {A : Nat → Prop} {D : va_G} {h0 : Nat} {a : Nat → Nat} {cI cB : ClassId} {K : St → Prop} (C : CX p rm_M_branch s m args meth c b_M_branch 5 "PipelinedCoreModel" none pr_M_branch D clK (tysK cI cB) A) (S : St) (v1 : Int32) (k0 : Int32) (h : wp_M_branch_60 K S v1 k0) : J p l e rm_M_branch s m args below meth c 5 D clK A 0 0 (MQ below (va_Qv K (fun u t => QK D clK (tysK cI cB) A (wsM h0 a cI cB u) t) A) args s 0 0 A) (wsM h0 a cI cB S) [(0, .ref h0), (1, .int v1)] 60 [.int k0] := by
  unfold wp_M_branch_60 at h
  refine j_istore C 34 62 [(4, .int k0), (0, .ref h0), (1, .int v1)] rfl rfl (by decide) rfl ?_
  refine j_iload_n C 35 63 rfl rfl rfl 2 rfl ?_
  refine j_iconst C 36 64 rfl rfl kI_2 ?_
  refine j_icmp_eq C 37 72 67 rfl (by decide) rfl (fun c13 => ?_) (fun c13 => ?_)
  · replace h := ite_t h c13
    refine j_sub [1] rfl ?_
    exact L_M_branch_72 C S h
  · replace h := ite_f h c13
    refine j_iload_n C 38 68 rfl rfl rfl 2 rfl ?_
    refine j_iconst C 39 69 rfl rfl kI_3 ?_
    refine j_icmp_ne C 40 77 72 rfl (by decide) rfl (fun c14 => ?_) (fun c14 => ?_)
    · replace h := ite_f h c14
      refine j_aload_n C 44 78 rfl rfl rfl 1 rfl ?_
      refine j_iconst C 45 79 rfl rfl kI_1 ?_
      refine j_put C 46 82 rfl rfl fp_M_159 0 rfl (Nat.le_of_ble_eq_true rfl) (isB_nar isB_1) (isB_fit isB_1) (st S 0 53 1) (sM_0_53 _ _ _ _ _ _) (fun S15 eS15 => ?_)
      replace h := h S15 eS15
      refine j_iload C 47 84 rfl rfl 0 rfl ?_
      refine j_iload_n C 48 85 rfl rfl rfl 2 rfl ?_
      refine j_iconst C 49 86 rfl rfl kI_1 ?_
      refine j_iand C 50 87 rfl rfl ?_
      refine j_iconst C 51 88 rfl rfl kI_1 ?_
      refine j_icmp_ne C 52 95 91 rfl (by decide) rfl (fun c16 => ?_) (fun c16 => ?_)
      · replace h := ite_f h c16
        refine j_iconst C 55 96 rfl rfl kI_0 ?_
        refine j_sub [1] rfl ?_
        exact L_M_branch_96 C S15 0 k0 h
      · replace h := ite_t h c16
        refine j_iconst C 53 92 rfl rfl kI_1 ?_
        refine j_goto C 54 96 rfl (by decide) ?_
        refine j_sub [1] rfl ?_
        exact L_M_branch_96 C S15 1 k0 h
    · replace h := ite_t h c14
      refine j_sub [1] rfl ?_
      exact L_M_branch_72 C S h
def wp_M_branch (S : St)  (K : St → Prop) : Prop := wp_M_bits S 12 3 (fun r2 S1 => (wp_M_regA S1 (fun r4 S3 => (wp_M_regB S3 (fun r6 S5 => ((if (2 : Int32) ≤ r2 then ((if (6 : Int32) ≤ r2 then (wp_M_below S5 r4 r6 (fun r10 S9 => ((wp_M_branch_60 K S9 r2 r10)))) else ((if r6 ≤ r4 then ((wp_M_branch_60 K S5 r2 0)) else ((wp_M_branch_60 K S5 r2 1)))))) else ((if r4 = r6 then ((wp_M_branch_60 K S5 r2 1)) else ((wp_M_branch_60 K S5 r2 0)))))))))))
set_option maxHeartbeats 4000000 in
set_option maxRecDepth 100000 in
theorem c_M_branch (l : Launch) (D : va_G) (h0 : Nat) (a : Nat → Nat) (cI cB : ClassId) (S : St)  (K : St → Prop) (h : wp_M_branch S K) (sz : Nat) : Met l y_M_branch (Cond.code y_M_branch b_M_branch 5 none :: gw) rm_M_branch (va_Pc [.ref h0] (PK D clK (tysK cI cB) (wsM h0 a cI cB S) sz)) (va_Qv K (fun u t => QK D clK (tysK cI cB) (va_A (wsM h0 a cI cB S) sz) (wsM h0 a cI cB u) t) (va_A (wsM h0 a cI cB S) sz)) 0 0 (va_A (wsM h0 a cI cB S) sz) := by
  refine met_of (rm := rm_M_branch) (pr := pr_M_branch) (Qc := fun A => va_Qv K (fun u t => QK D clK (tysK cI cB) A (wsM h0 a cI cB u) t) A) (by decide +kernel) dm_M_branch (Nat.le_of_ble_eq_true rfl) (fun p e s m args below meth c A C => ?_) sz
  unfold wp_M_branch at h
  show J p l e rm_M_branch s m args below meth c 5 D clK A 0 0 _ (wsM h0 a cI cB S) [(0, .ref h0)] 0 []
  refine j_aload_n C 0 1 rfl rfl rfl 0 rfl ?_
  refine j_bipush C 1 3 rfl rfl kB_12 ?_
  refine j_iconst C 2 4 rfl rfl kI_3 ?_
  refine j_callVi C 3 7 rfl rfl w822 m_M_bits (As := [.int 12, .int 3]) (c_M_bits l D h0 a cI cB S 12 3 _ h) ⟨rfl, rfl⟩ ⟨Nat.le_of_ble_eq_true rfl, Nat.le_of_ble_eq_true rfl⟩ 0 rfl rfl rfl ⟨Nat.le_of_ble_eq_true rfl, Nat.le_of_ble_eq_true rfl⟩ (Nat.le_of_ble_eq_true rfl) rfl (fun r2 S1 h => ?_)
  refine j_istore_n C 4 8 [(1, .int r2), (0, .ref h0)] rfl rfl rfl (by decide) rfl ?_
  refine j_aload_n C 5 9 rfl rfl rfl 1 rfl ?_
  refine j_callVi C 6 12 rfl rfl w867 m_M_regA (As := []) (c_M_regA l D h0 a cI cB S1 _ h) ⟨rfl, rfl⟩ ⟨Nat.le_of_ble_eq_true rfl, Nat.le_of_ble_eq_true rfl⟩ 0 rfl rfl rfl ⟨Nat.le_of_ble_eq_true rfl, Nat.le_of_ble_eq_true rfl⟩ (Nat.le_of_ble_eq_true rfl) rfl (fun r4 S3 h => ?_)
  refine j_istore_n C 7 13 [(2, .int r4), (1, .int r2), (0, .ref h0)] rfl rfl rfl (by decide) rfl ?_
  refine j_aload_n C 8 14 rfl rfl rfl 2 rfl ?_
  refine j_callVi C 9 17 rfl rfl w879 m_M_regB (As := []) (c_M_regB l D h0 a cI cB S3 _ h) ⟨rfl, rfl⟩ ⟨Nat.le_of_ble_eq_true rfl, Nat.le_of_ble_eq_true rfl⟩ 0 rfl rfl rfl ⟨Nat.le_of_ble_eq_true rfl, Nat.le_of_ble_eq_true rfl⟩ (Nat.le_of_ble_eq_true rfl) rfl (fun r6 S5 h => ?_)
  refine j_istore_n C 10 18 [(3, .int r6), (2, .int r4), (1, .int r2), (0, .ref h0)] rfl rfl rfl (by decide) rfl ?_
  refine j_iload_n C 11 19 rfl rfl rfl 2 rfl ?_
  refine j_iconst C 12 20 rfl rfl kI_2 ?_
  refine j_icmp_ge C 13 36 23 rfl (by decide) rfl (fun c7 => ?_) (fun c7 => ?_)
  · replace h := ite_t h c7
    refine j_iload_n C 21 37 rfl rfl rfl 2 rfl ?_
    refine j_bipush C 22 39 rfl rfl kB_6 ?_
    refine j_icmp_ge C 23 55 42 rfl (by decide) rfl (fun c8 => ?_) (fun c8 => ?_)
    · replace h := ite_t h c8
      refine j_iload_n C 31 56 rfl rfl rfl 1 rfl ?_
      refine j_iload_n C 32 57 rfl rfl rfl 0 rfl ?_
      refine j_callSi C 33 60 rfl rfl w883 m_M_below (As := [.int r4, .int r6]) (c_M_below l D h0 a cI cB S5 r4 r6 _ h) ⟨rfl, rfl⟩ ⟨Nat.le_of_ble_eq_true rfl, Nat.le_of_ble_eq_true rfl⟩ rfl ⟨Nat.le_of_ble_eq_true rfl, Nat.le_of_ble_eq_true rfl⟩ (Nat.le_of_ble_eq_true rfl) rfl (fun r10 S9 h => ?_)
      refine j_sub [3, 2] rfl ?_
      exact L_M_branch_60 C S9 r2 r10 h
    · replace h := ite_f h c8
      refine j_iload_n C 24 43 rfl rfl rfl 1 rfl ?_
      refine j_iload_n C 25 44 rfl rfl rfl 0 rfl ?_
      refine j_icmp_ge C 26 51 47 rfl (by decide) rfl (fun c11 => ?_) (fun c11 => ?_)
      · replace h := ite_t h c11
        refine j_iconst C 29 52 rfl rfl kI_0 ?_
        refine j_goto C 30 60 rfl (by decide) ?_
        refine j_sub [3, 2] rfl ?_
        exact L_M_branch_60 C S5 r2 0 h
      · replace h := ite_f h c11
        refine j_iconst C 27 48 rfl rfl kI_1 ?_
        refine j_goto C 28 60 rfl (by decide) ?_
        refine j_sub [3, 2] rfl ?_
        exact L_M_branch_60 C S5 r2 1 h
  · replace h := ite_f h c7
    refine j_iload_n C 14 24 rfl rfl rfl 1 rfl ?_
    refine j_iload_n C 15 25 rfl rfl rfl 0 rfl ?_
    refine j_icmp_ne C 16 32 28 rfl (by decide) rfl (fun c12 => ?_) (fun c12 => ?_)
    · replace h := ite_f h c12
      refine j_iconst C 19 33 rfl rfl kI_0 ?_
      refine j_goto C 20 60 rfl (by decide) ?_
      refine j_sub [3, 2] rfl ?_
      exact L_M_branch_60 C S5 r2 0 h
    · replace h := ite_t h c12
      refine j_iconst C 17 29 rfl rfl kI_1 ?_
      refine j_goto C 18 60 rfl (by decide) ?_
      refine j_sub [3, 2] rfl ?_
      exact L_M_branch_60 C S5 r2 1 h
abbrev rm_M_reach : Room := { frames := 1, cells := 0, slots := 0, locals := 20 }
def wp_M_reach_35 (K : St → Prop) (S : St) (k0 : Int32) : Prop := ∀ S7 : St, S7 = st S 0 45 k0 → (K S7)
set_option maxHeartbeats 4000000 in
set_option maxRecDepth 100000 in
theorem L_M_reach_35 {p : Program} {l : Launch} {e : Env} {s : State} {m : MethodId} {args : Array Value} {below : List Frame} {meth : Method} {c : Code} {A : Nat → Prop} {D : va_G} {h0 : Nat} {a : Nat → Nat} {cI cB : ClassId} {K : St → Prop} (C : CX p rm_M_reach s m args meth c b_M_reach 4 "PipelinedCoreModel" none pr_M_reach D clK (tysK cI cB) A) (S : St) (k0 : Int32) (h : wp_M_reach_35 K S k0) : J p l e rm_M_reach s m args below meth c 4 D clK A 0 0 (MQ below (va_Qv K (fun u t => QK D clK (tysK cI cB) A (wsM h0 a cI cB u) t) A) args s 0 0 A) (wsM h0 a cI cB S) [] 35 [.int k0, .ref h0] := by
  unfold wp_M_reach_35 at h
  refine j_put C 21 38 rfl rfl fp_M_120 0 rfl (Nat.le_of_ble_eq_true rfl) rfl rfl (st S 0 45 k0) (sM_0_45 _ _ _ _ _ _) (fun S7 eS7 => ?_)
  replace h := h S7 eS7
  exact j_vret C 22 rfl h
def wp_M_reach (S : St) (p1 : Int32) (p2 : Int32) (p3 : Int32) (K : St → Prop) : Prop := ∀ S1 : St, S1 = st S 0 50 p1 → (∀ S2 : St, S2 = st S1 0 46 p1 → ((¬ p2 = 0) ∧ ((if (jrem p1 p2) = 0 then (wp_M_isData S2 p1 (fun r5 S4 => ((if r5 = 0 then ((wp_M_reach_35 K S4 (p3 + (1 : Int32)))) else ((wp_M_reach_35 K S4 (-1))))))) else ((wp_M_reach_35 K S2 p3))))))
set_option maxHeartbeats 4000000 in
set_option maxRecDepth 100000 in
theorem c_M_reach (l : Launch) (D : va_G) (h0 : Nat) (a : Nat → Nat) (cI cB : ClassId) (S : St) (p1 : Int32) (p2 : Int32) (p3 : Int32) (K : St → Prop) (h : wp_M_reach S p1 p2 p3 K) (sz : Nat) : Met l y_M_reach (Cond.code y_M_reach b_M_reach 4 none :: gw) rm_M_reach (va_Pc [.ref h0, .int p1, .int p2, .int p3] (PK D clK (tysK cI cB) (wsM h0 a cI cB S) sz)) (va_Qv K (fun u t => QK D clK (tysK cI cB) (va_A (wsM h0 a cI cB S) sz) (wsM h0 a cI cB u) t) (va_A (wsM h0 a cI cB S) sz)) 0 0 (va_A (wsM h0 a cI cB S) sz) := by
  refine met_of (rm := rm_M_reach) (pr := pr_M_reach) (Qc := fun A => va_Qv K (fun u t => QK D clK (tysK cI cB) A (wsM h0 a cI cB u) t) A) (by decide +kernel) dm_M_reach (Nat.le_of_ble_eq_true rfl) (fun p e s m args below meth c A C => ?_) sz
  unfold wp_M_reach at h
  show J p l e rm_M_reach s m args below meth c 4 D clK A 0 0 _ (wsM h0 a cI cB S) [(0, .ref h0), (1, .int p1), (2, .int p2), (3, .int p3)] 0 []
  refine j_aload_n C 0 1 rfl rfl rfl 0 rfl ?_
  refine j_iload_n C 1 2 rfl rfl rfl 1 rfl ?_
  refine j_put C 2 5 rfl rfl fp_M_172 0 rfl (Nat.le_of_ble_eq_true rfl) rfl rfl (st S 0 50 p1) (sM_0_50 _ _ _ _ _ _) (fun S1 eS1 => ?_)
  replace h := h S1 eS1
  refine j_aload_n C 3 6 rfl rfl rfl 0 rfl ?_
  refine j_iload_n C 4 7 rfl rfl rfl 1 rfl ?_
  refine j_put C 5 10 rfl rfl fp_M_123 0 rfl (Nat.le_of_ble_eq_true rfl) rfl rfl (st S1 0 46 p1) (sM_0_46 _ _ _ _ _ _) (fun S2 eS2 => ?_)
  replace h := h S2 eS2
  refine j_aload_n C 6 11 rfl rfl rfl 0 rfl ?_
  refine j_iload_n C 7 12 rfl rfl rfl 1 rfl ?_
  refine j_iload_n C 8 13 rfl rfl rfl 2 rfl ?_
  refine j_irem C 9 14 rfl rfl h.1 ?_
  replace h := h.2
  refine j_if_eq C 10 21 17 rfl (by decide) rfl (fun c3 => ?_) (fun c3 => ?_)
  · replace h := ite_t h c3
    refine j_iload_n C 13 22 rfl rfl rfl 1 rfl ?_
    refine j_callSi C 14 25 rfl rfl w791 m_M_isData (As := [.int p1]) (c_M_isData l D h0 a cI cB S2 p1 _ h) ⟨rfl, rfl⟩ ⟨Nat.le_of_ble_eq_true rfl, Nat.le_of_ble_eq_true rfl⟩ rfl ⟨Nat.le_of_ble_eq_true rfl, Nat.le_of_ble_eq_true rfl⟩ (Nat.le_of_ble_eq_true rfl) rfl (fun r5 S4 h => ?_)
    refine j_if_eq C 15 32 28 rfl (by decide) rfl (fun c6 => ?_) (fun c6 => ?_)
    · replace h := ite_t h c6
      refine j_iload_n C 18 33 rfl rfl rfl 3 rfl ?_
      refine j_iconst C 19 34 rfl rfl kI_1 ?_
      refine j_iadd C 20 35 rfl rfl ?_
      refine j_sub [] rfl ?_
      exact L_M_reach_35 C S4 (p3 + (1 : Int32)) h
    · replace h := ite_f h c6
      refine j_iconst C 16 29 rfl rfl kI_m1 ?_
      refine j_goto C 17 35 rfl (by decide) ?_
      refine j_sub [] rfl ?_
      exact L_M_reach_35 C S4 (-1) h
  · replace h := ite_f h c3
    refine j_iload_n C 11 18 rfl rfl rfl 3 rfl ?_
    refine j_goto C 12 35 rfl (by decide) ?_
    refine j_sub [] rfl ?_
    exact L_M_reach_35 C S2 p3 h
abbrev rm_M_load : Room := { frames := 2, cells := 0, slots := 0, locals := 43 }
def wp_M_load_18 (K : St → Prop) (S : St)  : Prop := wp_M_illegal S (fun S18 => (K S18))
set_option maxHeartbeats 4000000 in
set_option maxRecDepth 100000 in
theorem L_M_load_18 {p : Program} {l : Launch} {e : Env} {s : State} {m : MethodId} {args : Array Value} {below : List Frame} {meth : Method} {c : Code} {A : Nat → Prop} {D : va_G} {h0 : Nat} {a : Nat → Nat} {cI cB : ClassId} {K : St → Prop} (C : CX p rm_M_load s m args meth c b_M_load 4 "PipelinedCoreModel" none pr_M_load D clK (tysK cI cB) A) (S : St)  (h : wp_M_load_18 K S) : J p l e rm_M_load s m args below meth c 4 D clK A 0 0 (MQ below (va_Qv K (fun u t => QK D clK (tysK cI cB) A (wsM h0 a cI cB u) t) A) args s 0 0 A) (wsM h0 a cI cB S) [(0, .ref h0)] 18 [] := by
  unfold wp_M_load_18 at h
  refine j_aload_n C 11 19 rfl rfl rfl 0 rfl ?_
  refine j_callVv C 12 22 rfl rfl w887 m_M_illegal (As := []) (c_M_illegal l D h0 a cI cB S _ h) ⟨rfl, rfl⟩ ⟨Nat.le_of_ble_eq_true rfl, Nat.le_of_ble_eq_true rfl⟩ 0 rfl rfl rfl ⟨Nat.le_of_ble_eq_true rfl, Nat.le_of_ble_eq_true rfl⟩ (Nat.le_of_ble_eq_true rfl) rfl (fun S18 h => ?_)
  exact j_vret C 13 rfl h
def wp_M_load_124 (K : St → Prop) (S : St) (k0 : Int32) : Prop := ∀ S20 : St, S20 = st S 0 49 k0 → (K S20)
set_option maxHeartbeats 4000000 in
set_option maxRecDepth 100000 in
theorem L_M_load_124 {p : Program} {l : Launch} {e : Env} {s : State} {m : MethodId} {args : Array Value} {below : List Frame} {meth : Method} {c : Code} {A : Nat → Prop} {D : va_G} {h0 : Nat} {a : Nat → Nat} {cI cB : ClassId} {K : St → Prop} (C : CX p rm_M_load s m args meth c b_M_load 4 "PipelinedCoreModel" none pr_M_load D clK (tysK cI cB) A) (S : St) (k0 : Int32) (h : wp_M_load_124 K S k0) : J p l e rm_M_load s m args below meth c 4 D clK A 0 0 (MQ below (va_Qv K (fun u t => QK D clK (tysK cI cB) A (wsM h0 a cI cB u) t) A) args s 0 0 A) (wsM h0 a cI cB S) [] 124 [.int k0, .ref h0] := by
  unfold wp_M_load_124 at h
  refine j_put C 77 127 rfl rfl fp_M_139 0 rfl (Nat.le_of_ble_eq_true rfl) rfl rfl (st S 0 49 k0) (sM_0_49 _ _ _ _ _ _) (fun S20 eS20 => ?_)
  replace h := h S20 eS20
  exact j_vret C 78 rfl h
def wp_M_load (S : St)  (K : St → Prop) : Prop := wp_M_bits S 12 3 (fun r2 S1 => ((if r2 = 3 then ((wp_M_load_18 K S1)) else ((if r2 ≤ 5 then (∀ x5 : Int32, x5 = (1 : Int32) <<< ((r2 &&& (3 : Int32)) &&& 31) → (wp_M_regA S1 (fun r7 S6 => (wp_M_numberI S6 (fun r9 S8 => (wp_M_reach S8 (r7 + r9) x5 4 (fun S10 => ((if (S10 0 45) < 0 then (vp_in (((S10 0 50) - (1024 : Int32)) / 4) 64 ∧ (∀ x13 : Int32, x13 = jushr (S10 3 (((S10 0 50) - (1024 : Int32)) / 4 : Int32).toNatClampNeg) ((8 : Int32) * (jrem (S10 0 50) 4)) → ((if r2 = 0 then ((wp_M_load_124 K S10 x13.toInt8.toInt32)) else ((if r2 = 1 then ((wp_M_load_124 K S10 x13.toInt16.toInt32)) else ((if r2 = 2 then ((wp_M_load_124 K S10 x13)) else ((if r2 = 4 then ((wp_M_load_124 K S10 (x13 &&& (255 : Int32)))) else ((wp_M_load_124 K S10 (x13 &&& (65535 : Int32)))))))))))))) else (K S10)))))))))) else ((wp_M_load_18 K S1)))))))
set_option maxHeartbeats 4000000 in
set_option maxRecDepth 100000 in
theorem c_M_load (l : Launch) (D : va_G) (h0 : Nat) (a : Nat → Nat) (cI cB : ClassId) (S : St)  (K : St → Prop) (h : wp_M_load S K) (sz : Nat) : Met l y_M_load (Cond.code y_M_load b_M_load 4 none :: gw) rm_M_load (va_Pc [.ref h0] (PK D clK (tysK cI cB) (wsM h0 a cI cB S) sz)) (va_Qv K (fun u t => QK D clK (tysK cI cB) (va_A (wsM h0 a cI cB S) sz) (wsM h0 a cI cB u) t) (va_A (wsM h0 a cI cB S) sz)) 0 0 (va_A (wsM h0 a cI cB S) sz) := by
  refine met_of (rm := rm_M_load) (pr := pr_M_load) (Qc := fun A => va_Qv K (fun u t => QK D clK (tysK cI cB) A (wsM h0 a cI cB u) t) A) (by decide +kernel) dm_M_load (Nat.le_of_ble_eq_true rfl) (fun p e s m args below meth c A C => ?_) sz
  unfold wp_M_load at h
  show J p l e rm_M_load s m args below meth c 4 D clK A 0 0 _ (wsM h0 a cI cB S) [(0, .ref h0)] 0 []
  refine j_aload_n C 0 1 rfl rfl rfl 0 rfl ?_
  refine j_bipush C 1 3 rfl rfl kB_12 ?_
  refine j_iconst C 2 4 rfl rfl kI_3 ?_
  refine j_callVi C 3 7 rfl rfl w822 m_M_bits (As := [.int 12, .int 3]) (c_M_bits l D h0 a cI cB S 12 3 _ h) ⟨rfl, rfl⟩ ⟨Nat.le_of_ble_eq_true rfl, Nat.le_of_ble_eq_true rfl⟩ 0 rfl rfl rfl ⟨Nat.le_of_ble_eq_true rfl, Nat.le_of_ble_eq_true rfl⟩ (Nat.le_of_ble_eq_true rfl) rfl (fun r2 S1 h => ?_)
  refine j_istore_n C 4 8 [(1, .int r2), (0, .ref h0)] rfl rfl rfl (by decide) rfl ?_
  refine j_iload_n C 5 9 rfl rfl rfl 0 rfl ?_
  refine j_iconst C 6 10 rfl rfl kI_3 ?_
  refine j_icmp_eq C 7 18 13 rfl (by decide) rfl (fun c3 => ?_) (fun c3 => ?_)
  · replace h := ite_t h c3
    refine j_sub [1] rfl ?_
    exact L_M_load_18 C S1 h
  · replace h := ite_f h c3
    refine j_iload_n C 8 14 rfl rfl rfl 0 rfl ?_
    refine j_iconst C 9 15 rfl rfl kI_5 ?_
    refine j_icmp_le C 10 23 18 rfl (by decide) rfl (fun c4 => ?_) (fun c4 => ?_)
    · replace h := ite_t h c4
      refine j_iconst C 14 24 rfl rfl kI_1 ?_
      refine j_iload_n C 15 25 rfl rfl rfl 0 rfl ?_
      refine j_iconst C 16 26 rfl rfl kI_3 ?_
      refine j_iand C 17 27 rfl rfl ?_
      refine j_ishl C 18 28 rfl rfl ?_
      refine j_topi (fun x5 ex5 => ?_)
      replace h := h x5 ex5
      refine j_istore_n C 19 29 [(2, .int x5), (1, .int r2), (0, .ref h0)] rfl rfl rfl (by decide) rfl ?_
      refine j_aload_n C 20 30 rfl rfl rfl 2 rfl ?_
      refine j_aload_n C 21 31 rfl rfl rfl 2 rfl ?_
      refine j_callVi C 22 34 rfl rfl w867 m_M_regA (As := []) (c_M_regA l D h0 a cI cB S1 _ h) ⟨rfl, rfl⟩ ⟨Nat.le_of_ble_eq_true rfl, Nat.le_of_ble_eq_true rfl⟩ 0 rfl rfl rfl ⟨Nat.le_of_ble_eq_true rfl, Nat.le_of_ble_eq_true rfl⟩ (Nat.le_of_ble_eq_true rfl) rfl (fun r7 S6 h => ?_)
      refine j_aload_n C 23 35 rfl rfl rfl 2 rfl ?_
      refine j_callVi C 24 38 rfl rfl w871 m_M_numberI (As := []) (c_M_numberI l D h0 a cI cB S6 _ h) ⟨rfl, rfl⟩ ⟨Nat.le_of_ble_eq_true rfl, Nat.le_of_ble_eq_true rfl⟩ 0 rfl rfl rfl ⟨Nat.le_of_ble_eq_true rfl, Nat.le_of_ble_eq_true rfl⟩ (Nat.le_of_ble_eq_true rfl) rfl (fun r9 S8 h => ?_)
      refine j_iadd C 25 39 rfl rfl ?_
      refine j_iload_n C 26 40 rfl rfl rfl 0 rfl ?_
      refine j_iconst C 27 41 rfl rfl kI_4 ?_
      refine j_callVv C 28 44 rfl rfl w899 m_M_reach (As := [.int (r7 + r9), .int x5, .int 4]) (c_M_reach l D h0 a cI cB S8 (r7 + r9) x5 4 _ h) ⟨rfl, rfl⟩ ⟨Nat.le_of_ble_eq_true rfl, Nat.le_of_ble_eq_true rfl⟩ 0 rfl rfl rfl ⟨Nat.le_of_ble_eq_true rfl, Nat.le_of_ble_eq_true rfl⟩ (Nat.le_of_ble_eq_true rfl) rfl (fun S10 h => ?_)
      refine j_aload_n C 29 45 rfl rfl rfl 2 rfl ?_
      refine j_get C 30 48 rfl rfl fg_M_120 0 rfl rfl ?_
      refine j_if_lt C 31 52 51 rfl (by decide) rfl (fun c12 => ?_) (fun c12 => ?_)
      · replace h := ite_t h c12
        refine j_aload_n C 33 53 rfl rfl rfl 2 rfl ?_
        refine j_get C 34 56 rfl rfl fg_M_16 0 rfl rfl ?_
        refine j_aload_n C 35 57 rfl rfl rfl 2 rfl ?_
        refine j_get C 36 60 rfl rfl fg_M_172 0 rfl rfl ?_
        refine j_sipush C 37 63 rfl rfl kS_1024 ?_
        refine j_isub C 38 64 rfl rfl ?_
        refine j_iconst C 39 65 rfl rfl kI_4 ?_
        refine j_idiv C 40 66 rfl rfl (by decide) ?_
        refine j_iald C 41 67 rfl rfl 3 0 rfl rfl h.1 ?_
        replace h := h.2
        refine j_bipush C 42 69 rfl rfl kB_8 ?_
        refine j_aload_n C 43 70 rfl rfl rfl 2 rfl ?_
        refine j_get C 44 73 rfl rfl fg_M_172 0 rfl rfl ?_
        refine j_iconst C 45 74 rfl rfl kI_4 ?_
        refine j_irem C 46 75 rfl rfl (by decide) ?_
        refine j_imul C 47 76 rfl rfl ?_
        refine j_iushr C 48 77 rfl rfl ?_
        refine j_topi (fun x13 ex13 => ?_)
        replace h := h x13 ex13
        refine j_istore_n C 49 78 [(3, .int x13), (2, .int x5), (1, .int r2), (0, .ref h0)] rfl rfl rfl (by decide) rfl ?_
        refine j_aload_n C 50 79 rfl rfl rfl 3 rfl ?_
        refine j_iload_n C 51 80 rfl rfl rfl 2 rfl ?_
        refine j_if_ne C 52 88 83 rfl (by decide) rfl (fun c14 => ?_) (fun c14 => ?_)
        · replace h := ite_f h c14
          refine j_iload_n C 56 89 rfl rfl rfl 2 rfl ?_
          refine j_iconst C 57 90 rfl rfl kI_1 ?_
          refine j_icmp_ne C 58 98 93 rfl (by decide) rfl (fun c15 => ?_) (fun c15 => ?_)
          · replace h := ite_f h c15
            refine j_iload_n C 62 99 rfl rfl rfl 2 rfl ?_
            refine j_iconst C 63 100 rfl rfl kI_2 ?_
            refine j_icmp_ne C 64 107 103 rfl (by decide) rfl (fun c16 => ?_) (fun c16 => ?_)
            · replace h := ite_f h c16
              refine j_iload_n C 67 108 rfl rfl rfl 2 rfl ?_
              refine j_iconst C 68 109 rfl rfl kI_4 ?_
              refine j_icmp_ne C 69 120 112 rfl (by decide) rfl (fun c17 => ?_) (fun c17 => ?_)
              · replace h := ite_f h c17
                refine j_iload_n C 74 121 rfl rfl rfl 0 rfl ?_
                refine j_ldc C 75 123 rfl rfl w903 ?_
                refine j_iand C 76 124 rfl rfl ?_
                refine j_sub [] rfl ?_
                exact L_M_load_124 C S10 (x13 &&& (65535 : Int32)) h
              · replace h := ite_t h c17
                refine j_iload_n C 70 113 rfl rfl rfl 0 rfl ?_
                refine j_sipush C 71 116 rfl rfl kS_255 ?_
                refine j_iand C 72 117 rfl rfl ?_
                refine j_goto C 73 124 rfl (by decide) ?_
                refine j_sub [] rfl ?_
                exact L_M_load_124 C S10 (x13 &&& (255 : Int32)) h
            · replace h := ite_t h c16
              refine j_iload_n C 65 104 rfl rfl rfl 0 rfl ?_
              refine j_goto C 66 124 rfl (by decide) ?_
              refine j_sub [] rfl ?_
              exact L_M_load_124 C S10 x13 h
          · replace h := ite_t h c15
            refine j_iload_n C 59 94 rfl rfl rfl 0 rfl ?_
            refine j_i2s C 60 95 rfl rfl ?_
            refine j_goto C 61 124 rfl (by decide) ?_
            refine j_sub [] rfl ?_
            exact L_M_load_124 C S10 x13.toInt16.toInt32 h
        · replace h := ite_t h c14
          refine j_iload_n C 53 84 rfl rfl rfl 0 rfl ?_
          refine j_i2b C 54 85 rfl rfl ?_
          refine j_goto C 55 124 rfl (by decide) ?_
          refine j_sub [] rfl ?_
          exact L_M_load_124 C S10 x13.toInt8.toInt32 h
      · replace h := ite_f h c12
        exact j_vret C 32 rfl h
    · replace h := ite_f h c4
      refine j_sub [1] rfl ?_
      exact L_M_load_18 C S1 h
abbrev rm_M_store : Room := { frames := 2, cells := 0, slots := 0, locals := 43 }
def wp_M_store_77 (K : St → Prop) (S : St) (v2 : Int32) (k0 : Int32) : Prop := ∀ S16 : St, S16 = st S 0 51 1 → (vp_in (((S16 0 50) - (1024 : Int32)) / 4) 64 ∧ (wp_M_regB S16 (fun r18 S17 => (∀ S19 : St, S19 = st S17 0 52 (((S16 3 (((S16 0 50) - (1024 : Int32)) / 4 : Int32).toNatClampNeg) &&& (k0 ^^^ (-1 : Int32))) ||| ((r18 <<< (v2 &&& 31)) &&& k0)) → (K S19)))))
set_option maxHeartbeats 4000000 in
set_option maxRecDepth 100000 in
theorem L_M_store_77 {p : Program} {l : Launch} {e : Env} {s : State} {m : MethodId} {args : Array Value} {below : List Frame} {meth : Method} {c : Code} {A : Nat → Prop} {D : va_G} {h0 : Nat} {a : Nat → Nat} {cI cB : ClassId} {K : St → Prop} (C : CX p rm_M_store s m args meth c b_M_store 4 "PipelinedCoreModel" none pr_M_store D clK (tysK cI cB) A) (S : St) (v2 : Int32) (k0 : Int32) (h : wp_M_store_77 K S v2 k0) : J p l e rm_M_store s m args below meth c 4 D clK A 0 0 (MQ below (va_Qv K (fun u t => QK D clK (tysK cI cB) A (wsM h0 a cI cB u) t) A) args s 0 0 A) (wsM h0 a cI cB S) [(0, .ref h0), (2, .int v2)] 77 [.int k0] := by
  unfold wp_M_store_77 at h
  refine j_istore_n C 45 78 [(3, .int k0), (0, .ref h0), (2, .int v2)] rfl rfl rfl (by decide) rfl ?_
  refine j_aload_n C 46 79 rfl rfl rfl 1 rfl ?_
  refine j_iconst C 47 80 rfl rfl kI_1 ?_
  refine j_put C 48 83 rfl rfl fp_M_183 0 rfl (Nat.le_of_ble_eq_true rfl) (isB_nar isB_1) (isB_fit isB_1) (st S 0 51 1) (sM_0_51 _ _ _ _ _ _) (fun S16 eS16 => ?_)
  replace h := h S16 eS16
  refine j_aload_n C 49 84 rfl rfl rfl 1 rfl ?_
  refine j_aload_n C 50 85 rfl rfl rfl 1 rfl ?_
  refine j_get C 51 88 rfl rfl fg_M_16 0 rfl rfl ?_
  refine j_aload_n C 52 89 rfl rfl rfl 1 rfl ?_
  refine j_get C 53 92 rfl rfl fg_M_172 0 rfl rfl ?_
  refine j_sipush C 54 95 rfl rfl kS_1024 ?_
  refine j_isub C 55 96 rfl rfl ?_
  refine j_iconst C 56 97 rfl rfl kI_4 ?_
  refine j_idiv C 57 98 rfl rfl (by decide) ?_
  refine j_iald C 58 99 rfl rfl 3 0 rfl rfl h.1 ?_
  replace h := h.2
  refine j_iload_n C 59 100 rfl rfl rfl 0 rfl ?_
  refine j_iconst C 60 101 rfl rfl kI_m1 ?_
  refine j_ixor C 61 102 rfl rfl ?_
  refine j_iand C 62 103 rfl rfl ?_
  refine j_aload_n C 63 104 rfl rfl rfl 1 rfl ?_
  refine j_callVi C 64 107 rfl rfl w879 m_M_regB (As := []) (c_M_regB l D h0 a cI cB S16 _ h) ⟨rfl, rfl⟩ ⟨Nat.le_of_ble_eq_true rfl, Nat.le_of_ble_eq_true rfl⟩ 0 rfl rfl rfl ⟨Nat.le_of_ble_eq_true rfl, Nat.le_of_ble_eq_true rfl⟩ (Nat.le_of_ble_eq_true rfl) rfl (fun r18 S17 h => ?_)
  refine j_iload_n C 65 108 rfl rfl rfl 2 rfl ?_
  refine j_ishl C 66 109 rfl rfl ?_
  refine j_iload_n C 67 110 rfl rfl rfl 0 rfl ?_
  refine j_iand C 68 111 rfl rfl ?_
  refine j_ior C 69 112 rfl rfl ?_
  refine j_put C 70 115 rfl rfl fp_M_186 0 rfl (Nat.le_of_ble_eq_true rfl) rfl rfl (st S17 0 52 (((S16 3 (((S16 0 50) - (1024 : Int32)) / 4 : Int32).toNatClampNeg) &&& (k0 ^^^ (-1 : Int32))) ||| ((r18 <<< (v2 &&& 31)) &&& k0))) (sM_0_52 _ _ _ _ _ _) (fun S19 eS19 => ?_)
  replace h := h S19 eS19
  exact j_vret C 71 rfl h
def wp_M_store_75 (K : St → Prop) (S : St) (v2 : Int32) (k0 : Int32) : Prop := (wp_M_store_77 K S v2 (k0 <<< (v2 &&& 31)))
set_option maxHeartbeats 4000000 in
set_option maxRecDepth 100000 in
theorem L_M_store_75 {p : Program} {l : Launch} {e : Env} {s : State} {m : MethodId} {args : Array Value} {below : List Frame} {meth : Method} {c : Code} {A : Nat → Prop} {D : va_G} {h0 : Nat} {a : Nat → Nat} {cI cB : ClassId} {K : St → Prop} (C : CX p rm_M_store s m args meth c b_M_store 4 "PipelinedCoreModel" none pr_M_store D clK (tysK cI cB) A) (S : St) (v2 : Int32) (k0 : Int32) (h : wp_M_store_75 K S v2 k0) : J p l e rm_M_store s m args below meth c 4 D clK A 0 0 (MQ below (va_Qv K (fun u t => QK D clK (tysK cI cB) A (wsM h0 a cI cB u) t) A) args s 0 0 A) (wsM h0 a cI cB S) [(0, .ref h0), (2, .int v2)] 75 [.int k0] := by
  unfold wp_M_store_75 at h
  refine j_iload_n C 43 76 rfl rfl rfl 1 rfl ?_
  refine j_ishl C 44 77 rfl rfl ?_
  exact L_M_store_77 C S v2 (k0 <<< (v2 &&& 31)) h
def wp_M_store (S : St)  (K : St → Prop) : Prop := wp_M_bits S 12 3 (fun r2 S1 => ((if r2 ≤ 2 then (wp_M_regA S1 (fun r5 S4 => (wp_M_numberS S4 (fun r7 S6 => (wp_M_reach S6 (r5 + r7) ((1 : Int32) <<< (r2 &&& 31)) 6 (fun S8 => ((if (S8 0 45) < 0 then (∀ x11 : Int32, x11 = (8 : Int32) * (jrem (S8 0 50) 4) → ((if r2 = 2 then ((wp_M_store_77 K S8 x11 (-1))) else ((if r2 = 0 then ((wp_M_store_75 K S8 x11 255)) else ((wp_M_store_75 K S8 x11 65535))))))) else (K S8))))))))) else (wp_M_illegal S1 (fun S14 => (K S14))))))
set_option maxHeartbeats 4000000 in
set_option maxRecDepth 100000 in
theorem c_M_store (l : Launch) (D : va_G) (h0 : Nat) (a : Nat → Nat) (cI cB : ClassId) (S : St)  (K : St → Prop) (h : wp_M_store S K) (sz : Nat) : Met l y_M_store (Cond.code y_M_store b_M_store 4 none :: gw) rm_M_store (va_Pc [.ref h0] (PK D clK (tysK cI cB) (wsM h0 a cI cB S) sz)) (va_Qv K (fun u t => QK D clK (tysK cI cB) (va_A (wsM h0 a cI cB S) sz) (wsM h0 a cI cB u) t) (va_A (wsM h0 a cI cB S) sz)) 0 0 (va_A (wsM h0 a cI cB S) sz) := by
  refine met_of (rm := rm_M_store) (pr := pr_M_store) (Qc := fun A => va_Qv K (fun u t => QK D clK (tysK cI cB) A (wsM h0 a cI cB u) t) A) (by decide +kernel) dm_M_store (Nat.le_of_ble_eq_true rfl) (fun p e s m args below meth c A C => ?_) sz
  unfold wp_M_store at h
  show J p l e rm_M_store s m args below meth c 4 D clK A 0 0 _ (wsM h0 a cI cB S) [(0, .ref h0)] 0 []
  refine j_aload_n C 0 1 rfl rfl rfl 0 rfl ?_
  refine j_bipush C 1 3 rfl rfl kB_12 ?_
  refine j_iconst C 2 4 rfl rfl kI_3 ?_
  refine j_callVi C 3 7 rfl rfl w822 m_M_bits (As := [.int 12, .int 3]) (c_M_bits l D h0 a cI cB S 12 3 _ h) ⟨rfl, rfl⟩ ⟨Nat.le_of_ble_eq_true rfl, Nat.le_of_ble_eq_true rfl⟩ 0 rfl rfl rfl ⟨Nat.le_of_ble_eq_true rfl, Nat.le_of_ble_eq_true rfl⟩ (Nat.le_of_ble_eq_true rfl) rfl (fun r2 S1 h => ?_)
  refine j_istore_n C 4 8 [(1, .int r2), (0, .ref h0)] rfl rfl rfl (by decide) rfl ?_
  refine j_iload_n C 5 9 rfl rfl rfl 0 rfl ?_
  refine j_iconst C 6 10 rfl rfl kI_2 ?_
  refine j_icmp_le C 7 18 13 rfl (by decide) rfl (fun c3 => ?_) (fun c3 => ?_)
  · replace h := ite_t h c3
    refine j_aload_n C 11 19 rfl rfl rfl 1 rfl ?_
    refine j_aload_n C 12 20 rfl rfl rfl 1 rfl ?_
    refine j_callVi C 13 23 rfl rfl w867 m_M_regA (As := []) (c_M_regA l D h0 a cI cB S1 _ h) ⟨rfl, rfl⟩ ⟨Nat.le_of_ble_eq_true rfl, Nat.le_of_ble_eq_true rfl⟩ 0 rfl rfl rfl ⟨Nat.le_of_ble_eq_true rfl, Nat.le_of_ble_eq_true rfl⟩ (Nat.le_of_ble_eq_true rfl) rfl (fun r5 S4 h => ?_)
    refine j_aload_n C 14 24 rfl rfl rfl 1 rfl ?_
    refine j_callVi C 15 27 rfl rfl w908 m_M_numberS (As := []) (c_M_numberS l D h0 a cI cB S4 _ h) ⟨rfl, rfl⟩ ⟨Nat.le_of_ble_eq_true rfl, Nat.le_of_ble_eq_true rfl⟩ 0 rfl rfl rfl ⟨Nat.le_of_ble_eq_true rfl, Nat.le_of_ble_eq_true rfl⟩ (Nat.le_of_ble_eq_true rfl) rfl (fun r7 S6 h => ?_)
    refine j_iadd C 16 28 rfl rfl ?_
    refine j_iconst C 17 29 rfl rfl kI_1 ?_
    refine j_iload_n C 18 30 rfl rfl rfl 0 rfl ?_
    refine j_ishl C 19 31 rfl rfl ?_
    refine j_bipush C 20 33 rfl rfl kB_6 ?_
    refine j_callVv C 21 36 rfl rfl w899 m_M_reach (As := [.int (r5 + r7), .int ((1 : Int32) <<< (r2 &&& 31)), .int 6]) (c_M_reach l D h0 a cI cB S6 (r5 + r7) ((1 : Int32) <<< (r2 &&& 31)) 6 _ h) ⟨rfl, rfl⟩ ⟨Nat.le_of_ble_eq_true rfl, Nat.le_of_ble_eq_true rfl⟩ 0 rfl rfl rfl ⟨Nat.le_of_ble_eq_true rfl, Nat.le_of_ble_eq_true rfl⟩ (Nat.le_of_ble_eq_true rfl) rfl (fun S8 h => ?_)
    refine j_aload_n C 22 37 rfl rfl rfl 1 rfl ?_
    refine j_get C 23 40 rfl rfl fg_M_120 0 rfl rfl ?_
    refine j_if_lt C 24 44 43 rfl (by decide) rfl (fun c10 => ?_) (fun c10 => ?_)
    · replace h := ite_t h c10
      refine j_bipush C 26 46 rfl rfl kB_8 ?_
      refine j_aload_n C 27 47 rfl rfl rfl 1 rfl ?_
      refine j_get C 28 50 rfl rfl fg_M_172 0 rfl rfl ?_
      refine j_iconst C 29 51 rfl rfl kI_4 ?_
      refine j_irem C 30 52 rfl rfl (by decide) ?_
      refine j_imul C 31 53 rfl rfl ?_
      refine j_topi (fun x11 ex11 => ?_)
      replace h := h x11 ex11
      refine j_istore_n C 32 54 [(2, .int x11), (1, .int r2), (0, .ref h0)] rfl rfl rfl (by decide) rfl ?_
      refine j_iload_n C 33 55 rfl rfl rfl 1 rfl ?_
      refine j_iconst C 34 56 rfl rfl kI_2 ?_
      refine j_icmp_ne C 35 63 59 rfl (by decide) rfl (fun c12 => ?_) (fun c12 => ?_)
      · replace h := ite_f h c12
        refine j_iload_n C 38 64 rfl rfl rfl 1 rfl ?_
        refine j_if_ne C 39 73 67 rfl (by decide) rfl (fun c13 => ?_) (fun c13 => ?_)
        · replace h := ite_f h c13
          refine j_ldc C 42 75 rfl rfl w903 ?_
          refine j_sub [2, 0] rfl ?_
          exact L_M_store_75 C S8 x11 65535 h
        · replace h := ite_t h c13
          refine j_sipush C 40 70 rfl rfl kS_255 ?_
          refine j_goto C 41 75 rfl (by decide) ?_
          refine j_sub [2, 0] rfl ?_
          exact L_M_store_75 C S8 x11 255 h
      · replace h := ite_t h c12
        refine j_iconst C 36 60 rfl rfl kI_m1 ?_
        refine j_goto C 37 77 rfl (by decide) ?_
        refine j_sub [2, 0] rfl ?_
        exact L_M_store_77 C S8 x11 (-1) h
    · replace h := ite_f h c10
      exact j_vret C 25 rfl h
  · replace h := ite_f h c3
    refine j_aload_n C 8 14 rfl rfl rfl 1 rfl ?_
    refine j_callVv C 9 17 rfl rfl w887 m_M_illegal (As := []) (c_M_illegal l D h0 a cI cB S1 _ h) ⟨rfl, rfl⟩ ⟨Nat.le_of_ble_eq_true rfl, Nat.le_of_ble_eq_true rfl⟩ 0 rfl rfl rfl ⟨Nat.le_of_ble_eq_true rfl, Nat.le_of_ble_eq_true rfl⟩ (Nat.le_of_ble_eq_true rfl) rfl (fun S14 h => ?_)
    exact j_vret C 10 rfl h
abbrev rm_M_placeOf : Room := { frames := 0, cells := 0, slots := 0, locals := 0 }
def wp_M_placeOf_56 (K : Int32 → St → Prop) (S : St) (k0 : Int32) : Prop := K k0 S
set_option maxHeartbeats 4000000 in
set_option maxRecDepth 100000 in
theorem L_M_placeOf_56 {p : Program} {l : Launch} {e : Env} {s : State} {m : MethodId} {args : Array Value} {below : List Frame} {meth : Method} {c : Code} {A : Nat → Prop} {D : va_G} {h0 : Nat} {a : Nat → Nat} {cI cB : ClassId} {K : Int32 → St → Prop} (C : CX p rm_M_placeOf s m args meth c b_M_placeOf 1 "PipelinedCoreModel" (some .int) pr_M_placeOf D clK (tysK cI cB) A) (S : St) (k0 : Int32) (h : wp_M_placeOf_56 K S k0) : J p l e rm_M_placeOf s m args below meth c 1 D clK A 0 0 (MQ below (va_Qi K (fun u t => QK D clK (tysK cI cB) A (wsM h0 a cI cB u) t) A) args s 0 0 A) (wsM h0 a cI cB S) [] 56 [.int k0] := by
  unfold wp_M_placeOf_56 at h
  exact j_iret C 26 rfl h
def wp_M_placeOf_55 (K : Int32 → St → Prop) (S : St)  : Prop := (wp_M_placeOf_56 K S (-1))
set_option maxHeartbeats 4000000 in
set_option maxRecDepth 100000 in
theorem L_M_placeOf_55 {p : Program} {l : Launch} {e : Env} {s : State} {m : MethodId} {args : Array Value} {below : List Frame} {meth : Method} {c : Code} {A : Nat → Prop} {D : va_G} {h0 : Nat} {a : Nat → Nat} {cI cB : ClassId} {K : Int32 → St → Prop} (C : CX p rm_M_placeOf s m args meth c b_M_placeOf 1 "PipelinedCoreModel" (some .int) pr_M_placeOf D clK (tysK cI cB) A) (S : St)  (h : wp_M_placeOf_55 K S) : J p l e rm_M_placeOf s m args below meth c 1 D clK A 0 0 (MQ below (va_Qi K (fun u t => QK D clK (tysK cI cB) A (wsM h0 a cI cB u) t) A) args s 0 0 A) (wsM h0 a cI cB S) [] 55 [] := by
  unfold wp_M_placeOf_55 at h
  refine j_iconst C 25 56 rfl rfl kI_m1 ?_
  exact L_M_placeOf_56 C S (-1) h
def wp_M_placeOf (S : St) (p1 : Int32) (K : Int32 → St → Prop) : Prop := (if p1 = 768 then ((wp_M_placeOf_56 K S 0)) else ((if p1 = 772 then ((wp_M_placeOf_56 K S 1)) else ((if p1 = 773 then ((wp_M_placeOf_56 K S 2)) else ((if p1 < 832 then ((wp_M_placeOf_55 K S)) else ((if (836 : Int32) < p1 then ((wp_M_placeOf_55 K S)) else ((wp_M_placeOf_56 K S (p1 - (829 : Int32)))))))))))))
set_option maxHeartbeats 4000000 in
set_option maxRecDepth 100000 in
theorem c_M_placeOf (l : Launch) (D : va_G) (h0 : Nat) (a : Nat → Nat) (cI cB : ClassId) (S : St) (p1 : Int32) (K : Int32 → St → Prop) (h : wp_M_placeOf S p1 K) (sz : Nat) : Met l y_M_placeOf (Cond.code y_M_placeOf b_M_placeOf 1 (some .int) :: gw) rm_M_placeOf (va_Pc [.int p1] (PK D clK (tysK cI cB) (wsM h0 a cI cB S) sz)) (va_Qi K (fun u t => QK D clK (tysK cI cB) (va_A (wsM h0 a cI cB S) sz) (wsM h0 a cI cB u) t) (va_A (wsM h0 a cI cB S) sz)) 0 0 (va_A (wsM h0 a cI cB S) sz) := by
  refine met_of (rm := rm_M_placeOf) (pr := pr_M_placeOf) (Qc := fun A => va_Qi K (fun u t => QK D clK (tysK cI cB) A (wsM h0 a cI cB u) t) A) (by decide +kernel) dm_M_placeOf (Nat.le_of_ble_eq_true rfl) (fun p e s m args below meth c A C => ?_) sz
  unfold wp_M_placeOf at h
  show J p l e rm_M_placeOf s m args below meth c 1 D clK A 0 0 _ (wsM h0 a cI cB S) [(0, .int p1)] 0 []
  refine j_iload_n C 0 1 rfl rfl rfl 0 rfl ?_
  refine j_sipush C 1 4 rfl rfl kS_768 ?_
  refine j_icmp_ne C 2 11 7 rfl (by decide) rfl (fun c1 => ?_) (fun c1 => ?_)
  · replace h := ite_f h c1
    refine j_iload_n C 5 12 rfl rfl rfl 0 rfl ?_
    refine j_sipush C 6 15 rfl rfl kS_772 ?_
    refine j_icmp_ne C 7 22 18 rfl (by decide) rfl (fun c2 => ?_) (fun c2 => ?_)
    · replace h := ite_f h c2
      refine j_iload_n C 10 23 rfl rfl rfl 0 rfl ?_
      refine j_sipush C 11 26 rfl rfl kS_773 ?_
      refine j_icmp_ne C 12 33 29 rfl (by decide) rfl (fun c3 => ?_) (fun c3 => ?_)
      · replace h := ite_f h c3
        refine j_iload_n C 15 34 rfl rfl rfl 0 rfl ?_
        refine j_sipush C 16 37 rfl rfl kS_832 ?_
        refine j_icmp_lt C 17 55 40 rfl (by decide) rfl (fun c4 => ?_) (fun c4 => ?_)
        · replace h := ite_t h c4
          refine j_sub [] rfl ?_
          exact L_M_placeOf_55 C S h
        · replace h := ite_f h c4
          refine j_iload_n C 18 41 rfl rfl rfl 0 rfl ?_
          refine j_sipush C 19 44 rfl rfl kS_836 ?_
          refine j_icmp_gt C 20 55 47 rfl (by decide) rfl (fun c5 => ?_) (fun c5 => ?_)
          · replace h := ite_t h c5
            refine j_sub [] rfl ?_
            exact L_M_placeOf_55 C S h
          · replace h := ite_f h c5
            refine j_iload_n C 21 48 rfl rfl rfl 0 rfl ?_
            refine j_sipush C 22 51 rfl rfl kS_829 ?_
            refine j_isub C 23 52 rfl rfl ?_
            refine j_goto C 24 56 rfl (by decide) ?_
            refine j_sub [] rfl ?_
            exact L_M_placeOf_56 C S (p1 - (829 : Int32)) h
      · replace h := ite_t h c3
        refine j_iconst C 13 30 rfl rfl kI_2 ?_
        refine j_goto C 14 56 rfl (by decide) ?_
        refine j_sub [] rfl ?_
        exact L_M_placeOf_56 C S 2 h
    · replace h := ite_t h c2
      refine j_iconst C 8 19 rfl rfl kI_1 ?_
      refine j_goto C 9 56 rfl (by decide) ?_
      refine j_sub [] rfl ?_
      exact L_M_placeOf_56 C S 1 h
  · replace h := ite_t h c1
    refine j_iconst C 3 8 rfl rfl kI_0 ?_
    refine j_goto C 4 56 rfl (by decide) ?_
    refine j_sub [] rfl ?_
    exact L_M_placeOf_56 C S 0 h
abbrev rm_M_change : Room := { frames := 0, cells := 0, slots := 0, locals := 0 }
def wp_M_change_61 (K : St → Prop) (S : St) (k0 : Int32) (k1 : Int32) : Prop := vp_in k1 8 ∧ (∀ S5 : St, S5 = st S 4 k1.toNatClampNeg k0 → (K S5))
set_option maxHeartbeats 4000000 in
set_option maxRecDepth 100000 in
theorem L_M_change_61 {p : Program} {l : Launch} {e : Env} {s : State} {m : MethodId} {args : Array Value} {below : List Frame} {meth : Method} {c : Code} {A : Nat → Prop} {D : va_G} {h0 : Nat} {a : Nat → Nat} {cI cB : ClassId} {K : St → Prop} (C : CX p rm_M_change s m args meth c b_M_change 4 "PipelinedCoreModel" none pr_M_change D clK (tysK cI cB) A) (S : St) (k0 : Int32) (k1 : Int32) (h : wp_M_change_61 K S k0 k1) : J p l e rm_M_change s m args below meth c 4 D clK A 0 0 (MQ below (va_Qv K (fun u t => QK D clK (tysK cI cB) A (wsM h0 a cI cB u) t) A) args s 0 0 A) (wsM h0 a cI cB S) [] 61 [.int k0, .int k1, .ref (a 4)] := by
  unfold wp_M_change_61 at h
  refine j_iast C 34 62 rfl rfl 4 0 rfl rfl h.1 (st S 4 k1.toNatClampNeg k0) (sM_4 _ _ _ _ _ _ _) (fun S5 eS5 => ?_)
  replace h := h.2
  replace h := h S5 eS5
  exact j_vret C 35 rfl h
def wp_M_change_38 (K : St → Prop) (S : St) (v1 : Int32) (k0 : Int32) : Prop := (if v1 = 7 then (vp_in 7 8 ∧ ((wp_M_change_61 K S (S 4 (7 : Int32).toNatClampNeg) v1))) else ((wp_M_change_61 K S k0 v1)))
set_option maxHeartbeats 4000000 in
set_option maxRecDepth 100000 in
theorem L_M_change_38 {p : Program} {l : Launch} {e : Env} {s : State} {m : MethodId} {args : Array Value} {below : List Frame} {meth : Method} {c : Code} {A : Nat → Prop} {D : va_G} {h0 : Nat} {a : Nat → Nat} {cI cB : ClassId} {K : St → Prop} (C : CX p rm_M_change s m args meth c b_M_change 4 "PipelinedCoreModel" none pr_M_change D clK (tysK cI cB) A) (S : St) (v1 : Int32) (k0 : Int32) (h : wp_M_change_38 K S v1 k0) : J p l e rm_M_change s m args below meth c 4 D clK A 0 0 (MQ below (va_Qv K (fun u t => QK D clK (tysK cI cB) A (wsM h0 a cI cB u) t) A) args s 0 0 A) (wsM h0 a cI cB S) [(0, .ref h0), (1, .int v1)] 38 [.int k0] := by
  unfold wp_M_change_38 at h
  refine j_istore_n C 21 39 [(3, .int k0), (0, .ref h0), (1, .int v1)] rfl rfl rfl (by decide) rfl ?_
  refine j_aload_n C 22 40 rfl rfl rfl 1 rfl ?_
  refine j_get C 23 43 rfl rfl fg_M_19 0 rfl rfl ?_
  refine j_iload_n C 24 44 rfl rfl rfl 2 rfl ?_
  refine j_iload_n C 25 45 rfl rfl rfl 2 rfl ?_
  refine j_bipush C 26 47 rfl rfl kB_7 ?_
  refine j_icmp_ne C 27 60 50 rfl (by decide) rfl (fun c4 => ?_) (fun c4 => ?_)
  · replace h := ite_f h c4
    refine j_iload_n C 33 61 rfl rfl rfl 0 rfl ?_
    refine j_sub [] rfl ?_
    exact L_M_change_61 C S k0 v1 h
  · replace h := ite_t h c4
    refine j_aload_n C 28 51 rfl rfl rfl 1 rfl ?_
    refine j_get C 29 54 rfl rfl fg_M_19 0 rfl rfl ?_
    refine j_bipush C 30 56 rfl rfl kB_7 ?_
    refine j_iald C 31 57 rfl rfl 4 0 rfl rfl h.1 ?_
    replace h := h.2
    refine j_goto C 32 61 rfl (by decide) ?_
    refine j_sub [] rfl ?_
    exact L_M_change_61 C S (S 4 (7 : Int32).toNatClampNeg) v1 h
def wp_M_change (S : St) (p1 : Int32) (p2 : Int32) (K : St → Prop) : Prop := (if p1 = 0 then ((wp_M_change_38 K S p1 (p2 &&& (136 : Int32)))) else ((if p1 = 1 then ((wp_M_change_38 K S p1 (p2 &&& (2184 : Int32)))) else ((if p1 = 4 then ((wp_M_change_38 K S p1 (p2 &&& (-4 : Int32)))) else ((wp_M_change_38 K S p1 p2)))))))
set_option maxHeartbeats 4000000 in
set_option maxRecDepth 100000 in
theorem c_M_change (l : Launch) (D : va_G) (h0 : Nat) (a : Nat → Nat) (cI cB : ClassId) (S : St) (p1 : Int32) (p2 : Int32) (K : St → Prop) (h : wp_M_change S p1 p2 K) (sz : Nat) : Met l y_M_change (Cond.code y_M_change b_M_change 4 none :: gw) rm_M_change (va_Pc [.ref h0, .int p1, .int p2] (PK D clK (tysK cI cB) (wsM h0 a cI cB S) sz)) (va_Qv K (fun u t => QK D clK (tysK cI cB) (va_A (wsM h0 a cI cB S) sz) (wsM h0 a cI cB u) t) (va_A (wsM h0 a cI cB S) sz)) 0 0 (va_A (wsM h0 a cI cB S) sz) := by
  refine met_of (rm := rm_M_change) (pr := pr_M_change) (Qc := fun A => va_Qv K (fun u t => QK D clK (tysK cI cB) A (wsM h0 a cI cB u) t) A) (by decide +kernel) dm_M_change (Nat.le_of_ble_eq_true rfl) (fun p e s m args below meth c A C => ?_) sz
  unfold wp_M_change at h
  show J p l e rm_M_change s m args below meth c 4 D clK A 0 0 _ (wsM h0 a cI cB S) [(0, .ref h0), (1, .int p1), (2, .int p2)] 0 []
  refine j_iload_n C 0 1 rfl rfl rfl 1 rfl ?_
  refine j_if_ne C 1 12 4 rfl (by decide) rfl (fun c1 => ?_) (fun c1 => ?_)
  · replace h := ite_f h c1
    refine j_iload_n C 6 13 rfl rfl rfl 1 rfl ?_
    refine j_iconst C 7 14 rfl rfl kI_1 ?_
    refine j_icmp_ne C 8 25 17 rfl (by decide) rfl (fun c2 => ?_) (fun c2 => ?_)
    · replace h := ite_f h c2
      refine j_iload_n C 13 26 rfl rfl rfl 1 rfl ?_
      refine j_iconst C 14 27 rfl rfl kI_4 ?_
      refine j_icmp_ne C 15 37 30 rfl (by decide) rfl (fun c3 => ?_) (fun c3 => ?_)
      · replace h := ite_f h c3
        refine j_iload_n C 20 38 rfl rfl rfl 2 rfl ?_
        refine j_sub [0, 1] rfl ?_
        exact L_M_change_38 C S p1 p2 h
      · replace h := ite_t h c3
        refine j_iload_n C 16 31 rfl rfl rfl 2 rfl ?_
        refine j_bipush C 17 33 rfl rfl kB_m4 ?_
        refine j_iand C 18 34 rfl rfl ?_
        refine j_goto C 19 38 rfl (by decide) ?_
        refine j_sub [0, 1] rfl ?_
        exact L_M_change_38 C S p1 (p2 &&& (-4 : Int32)) h
    · replace h := ite_t h c2
      refine j_iload_n C 9 18 rfl rfl rfl 2 rfl ?_
      refine j_sipush C 10 21 rfl rfl kS_2184 ?_
      refine j_iand C 11 22 rfl rfl ?_
      refine j_goto C 12 38 rfl (by decide) ?_
      refine j_sub [0, 1] rfl ?_
      exact L_M_change_38 C S p1 (p2 &&& (2184 : Int32)) h
  · replace h := ite_t h c1
    refine j_iload_n C 2 5 rfl rfl rfl 2 rfl ?_
    refine j_sipush C 3 8 rfl rfl kS_136 ?_
    refine j_iand C 4 9 rfl rfl ?_
    refine j_goto C 5 38 rfl (by decide) ?_
    refine j_sub [0, 1] rfl ?_
    exact L_M_change_38 C S p1 (p2 &&& (136 : Int32)) h
abbrev rm_M_system : Room := { frames := 2, cells := 0, slots := 0, locals := 42 }
def wp_M_system_198 (K : St → Prop) (S : St)  : Prop := K S
set_option maxHeartbeats 4000000 in
set_option maxRecDepth 100000 in
theorem L_M_system_198 {p : Program} {l : Launch} {e : Env} {s : State} {m : MethodId} {args : Array Value} {below : List Frame} {meth : Method} {c : Code} {A : Nat → Prop} {D : va_G} {h0 : Nat} {a : Nat → Nat} {cI cB : ClassId} {K : St → Prop} (C : CX p rm_M_system s m args meth c b_M_system 5 "PipelinedCoreModel" none pr_M_system D clK (tysK cI cB) A) (S : St)  (h : wp_M_system_198 K S) : J p l e rm_M_system s m args below meth c 5 D clK A 0 0 (MQ below (va_Qv K (fun u t => QK D clK (tysK cI cB) A (wsM h0 a cI cB u) t) A) args s 0 0 A) (wsM h0 a cI cB S) [] 198 [] := by
  unfold wp_M_system_198 at h
  exact j_vret C 106 rfl h
def wp_M_system_54 (K : St → Prop) (S : St) (k0 : Int32) : Prop := ∀ S15 : St, S15 = st S 0 45 k0 → (∀ S16 : St, S16 = st S15 0 46 0 → ((wp_M_system_198 K S16)))
set_option maxHeartbeats 4000000 in
set_option maxRecDepth 100000 in
theorem L_M_system_54 {p : Program} {l : Launch} {e : Env} {s : State} {m : MethodId} {args : Array Value} {below : List Frame} {meth : Method} {c : Code} {A : Nat → Prop} {D : va_G} {h0 : Nat} {a : Nat → Nat} {cI cB : ClassId} {K : St → Prop} (C : CX p rm_M_system s m args meth c b_M_system 5 "PipelinedCoreModel" none pr_M_system D clK (tysK cI cB) A) (S : St) (k0 : Int32) (h : wp_M_system_54 K S k0) : J p l e rm_M_system s m args below meth c 5 D clK A 0 0 (MQ below (va_Qv K (fun u t => QK D clK (tysK cI cB) A (wsM h0 a cI cB u) t) A) args s 0 0 A) (wsM h0 a cI cB S) [(0, .ref h0)] 54 [.int k0, .ref h0] := by
  unfold wp_M_system_54 at h
  refine j_put C 27 57 rfl rfl fp_M_120 0 rfl (Nat.le_of_ble_eq_true rfl) rfl rfl (st S 0 45 k0) (sM_0_45 _ _ _ _ _ _) (fun S15 eS15 => ?_)
  replace h := h S15 eS15
  refine j_aload_n C 28 58 rfl rfl rfl 0 rfl ?_
  refine j_iconst C 29 59 rfl rfl kI_0 ?_
  refine j_put C 30 62 rfl rfl fp_M_123 0 rfl (Nat.le_of_ble_eq_true rfl) rfl rfl (st S15 0 46 0) (sM_0_46 _ _ _ _ _ _) (fun S16 eS16 => ?_)
  replace h := h S16 eS16
  refine j_goto C 31 198 rfl (by decide) ?_
  refine j_sub [] rfl ?_
  exact L_M_system_198 C S16 h
def wp_M_system_38 (K : St → Prop) (S : St)  : Prop := (if (S 0 44) = 115 then ((wp_M_system_54 K S 11)) else ((wp_M_system_54 K S 3)))
set_option maxHeartbeats 4000000 in
set_option maxRecDepth 100000 in
theorem L_M_system_38 {p : Program} {l : Launch} {e : Env} {s : State} {m : MethodId} {args : Array Value} {below : List Frame} {meth : Method} {c : Code} {A : Nat → Prop} {D : va_G} {h0 : Nat} {a : Nat → Nat} {cI cB : ClassId} {K : St → Prop} (C : CX p rm_M_system s m args meth c b_M_system 5 "PipelinedCoreModel" none pr_M_system D clK (tysK cI cB) A) (S : St)  (h : wp_M_system_38 K S) : J p l e rm_M_system s m args below meth c 5 D clK A 0 0 (MQ below (va_Qv K (fun u t => QK D clK (tysK cI cB) A (wsM h0 a cI cB u) t) A) args s 0 0 A) (wsM h0 a cI cB S) [(0, .ref h0)] 38 [] := by
  unfold wp_M_system_38 at h
  refine j_aload_n C 19 39 rfl rfl rfl 0 rfl ?_
  refine j_aload_n C 20 40 rfl rfl rfl 0 rfl ?_
  refine j_get C 21 43 rfl rfl fg_M_103 0 rfl rfl ?_
  refine j_bipush C 22 45 rfl rfl kB_115 ?_
  refine j_icmp_ne C 23 53 48 rfl (by decide) rfl (fun c14 => ?_) (fun c14 => ?_)
  · replace h := ite_f h c14
    refine j_iconst C 26 54 rfl rfl kI_3 ?_
    exact L_M_system_54 C S 3 h
  · replace h := ite_t h c14
    refine j_bipush C 24 50 rfl rfl kB_11 ?_
    refine j_goto C 25 54 rfl (by decide) ?_
    exact L_M_system_54 C S 11 h
def wp_M_system_101 (K : St → Prop) (S : St)  : Prop := wp_M_illegal S (fun S17 => ((wp_M_system_198 K S17)))
set_option maxHeartbeats 4000000 in
set_option maxRecDepth 100000 in
theorem L_M_system_101 {p : Program} {l : Launch} {e : Env} {s : State} {m : MethodId} {args : Array Value} {below : List Frame} {meth : Method} {c : Code} {A : Nat → Prop} {D : va_G} {h0 : Nat} {a : Nat → Nat} {cI cB : ClassId} {K : St → Prop} (C : CX p rm_M_system s m args meth c b_M_system 5 "PipelinedCoreModel" none pr_M_system D clK (tysK cI cB) A) (S : St)  (h : wp_M_system_101 K S) : J p l e rm_M_system s m args below meth c 5 D clK A 0 0 (MQ below (va_Qv K (fun u t => QK D clK (tysK cI cB) A (wsM h0 a cI cB u) t) A) args s 0 0 A) (wsM h0 a cI cB S) [(0, .ref h0)] 101 [] := by
  unfold wp_M_system_101 at h
  refine j_aload_n C 50 102 rfl rfl rfl 0 rfl ?_
  refine j_callVv C 51 105 rfl rfl w887 m_M_illegal (As := []) (c_M_illegal l D h0 a cI cB S _ h) ⟨rfl, rfl⟩ ⟨Nat.le_of_ble_eq_true rfl, Nat.le_of_ble_eq_true rfl⟩ 0 rfl rfl rfl ⟨Nat.le_of_ble_eq_true rfl, Nat.le_of_ble_eq_true rfl⟩ (Nat.le_of_ble_eq_true rfl) rfl (fun S17 h => ?_)
  refine j_goto C 52 198 rfl (by decide) ?_
  refine j_sub [] rfl ?_
  exact L_M_system_198 C S17 h
def wp_M_system_195 (K : St → Prop) (S : St) (k0 : Int32) (k1 : Int32) : Prop := wp_M_change S k1 k0 (fun S32 => ((wp_M_system_198 K S32)))
set_option maxHeartbeats 4000000 in
set_option maxRecDepth 100000 in
theorem L_M_system_195 {p : Program} {l : Launch} {e : Env} {s : State} {m : MethodId} {args : Array Value} {below : List Frame} {meth : Method} {c : Code} {A : Nat → Prop} {D : va_G} {h0 : Nat} {a : Nat → Nat} {cI cB : ClassId} {K : St → Prop} (C : CX p rm_M_system s m args meth c b_M_system 5 "PipelinedCoreModel" none pr_M_system D clK (tysK cI cB) A) (S : St) (k0 : Int32) (k1 : Int32) (h : wp_M_system_195 K S k0 k1) : J p l e rm_M_system s m args below meth c 5 D clK A 0 0 (MQ below (va_Qv K (fun u t => QK D clK (tysK cI cB) A (wsM h0 a cI cB u) t) A) args s 0 0 A) (wsM h0 a cI cB S) [] 195 [.int k0, .int k1, .ref h0] := by
  unfold wp_M_system_195 at h
  refine j_callVv C 105 198 rfl rfl w939 m_M_change (As := [.int k1, .int k0]) (c_M_change l D h0 a cI cB S k1 k0 _ h) ⟨rfl, rfl⟩ ⟨Nat.le_of_ble_eq_true rfl, Nat.le_of_ble_eq_true rfl⟩ 0 rfl rfl rfl ⟨Nat.le_of_ble_eq_true rfl, Nat.le_of_ble_eq_true rfl⟩ (Nat.le_of_ble_eq_true rfl) rfl (fun S32 h => ?_)
  exact L_M_system_198 C S32 h
def wp_M_system_136 (K : St → Prop) (S : St) (v1 : Int32) (v2 : Int32) (k0 : Int32) : Prop := vp_in v2 8 ∧ (∀ x25 : Int32, x25 = S 4 v2.toNatClampNeg → (wp_M_bits S 7 5 (fun r27 S26 => (∀ S28 : St, S28 = st S26 0 48 r27 → (∀ S29 : St, S29 = st S28 0 49 x25 → ((if (v1 &&& (3 : Int32)) = 1 then ((wp_M_system_195 K S29 k0 v2)) else ((if (v1 &&& (3 : Int32)) = 2 then ((wp_M_system_195 K S29 (x25 ||| k0) v2)) else ((wp_M_system_195 K S29 (x25 &&& (k0 ^^^ (-1 : Int32))) v2)))))))))))
set_option maxHeartbeats 4000000 in
set_option maxRecDepth 100000 in
theorem L_M_system_136 {p : Program} {l : Launch} {e : Env} {s : State} {m : MethodId} {args : Array Value} {below : List Frame} {meth : Method} {c : Code} {A : Nat → Prop} {D : va_G} {h0 : Nat} {a : Nat → Nat} {cI cB : ClassId} {K : St → Prop} (C : CX p rm_M_system s m args meth c b_M_system 5 "PipelinedCoreModel" none pr_M_system D clK (tysK cI cB) A) (S : St) (v1 : Int32) (v2 : Int32) (k0 : Int32) (h : wp_M_system_136 K S v1 v2 k0) : J p l e rm_M_system s m args below meth c 5 D clK A 0 0 (MQ below (va_Qv K (fun u t => QK D clK (tysK cI cB) A (wsM h0 a cI cB u) t) A) args s 0 0 A) (wsM h0 a cI cB S) [(0, .ref h0), (1, .int v1), (2, .int v2)] 136 [.int k0] := by
  unfold wp_M_system_136 at h
  refine j_istore_n C 67 137 [(3, .int k0), (0, .ref h0), (1, .int v1), (2, .int v2)] rfl rfl rfl (by decide) rfl ?_
  refine j_aload_n C 68 138 rfl rfl rfl 1 rfl ?_
  refine j_get C 69 141 rfl rfl fg_M_19 0 rfl rfl ?_
  refine j_iload_n C 70 142 rfl rfl rfl 3 rfl ?_
  refine j_iald C 71 143 rfl rfl 4 0 rfl rfl h.1 ?_
  replace h := h.2
  refine j_topi (fun x25 ex25 => ?_)
  replace h := h x25 ex25
  refine j_istore C 72 145 [(4, .int x25), (3, .int k0), (0, .ref h0), (1, .int v1), (2, .int v2)] rfl rfl (by decide) rfl ?_
  refine j_aload_n C 73 146 rfl rfl rfl 2 rfl ?_
  refine j_aload_n C 74 147 rfl rfl rfl 2 rfl ?_
  refine j_bipush C 75 149 rfl rfl kB_7 ?_
  refine j_iconst C 76 150 rfl rfl kI_5 ?_
  refine j_callVi C 77 153 rfl rfl w822 m_M_bits (As := [.int 7, .int 5]) (c_M_bits l D h0 a cI cB S 7 5 _ h) ⟨rfl, rfl⟩ ⟨Nat.le_of_ble_eq_true rfl, Nat.le_of_ble_eq_true rfl⟩ 0 rfl rfl rfl ⟨Nat.le_of_ble_eq_true rfl, Nat.le_of_ble_eq_true rfl⟩ (Nat.le_of_ble_eq_true rfl) rfl (fun r27 S26 h => ?_)
  refine j_put C 78 156 rfl rfl fp_M_199 0 rfl (Nat.le_of_ble_eq_true rfl) rfl rfl (st S26 0 48 r27) (sM_0_48 _ _ _ _ _ _) (fun S28 eS28 => ?_)
  replace h := h S28 eS28
  refine j_aload_n C 79 157 rfl rfl rfl 2 rfl ?_
  refine j_iload C 80 159 rfl rfl 0 rfl ?_
  refine j_put C 81 162 rfl rfl fp_M_139 0 rfl (Nat.le_of_ble_eq_true rfl) rfl rfl (st S28 0 49 x25) (sM_0_49 _ _ _ _ _ _) (fun S29 eS29 => ?_)
  replace h := h S29 eS29
  refine j_aload_n C 82 163 rfl rfl rfl 2 rfl ?_
  refine j_iload_n C 83 164 rfl rfl rfl 4 rfl ?_
  refine j_iload_n C 84 165 rfl rfl rfl 3 rfl ?_
  refine j_iconst C 85 166 rfl rfl kI_3 ?_
  refine j_iand C 86 167 rfl rfl ?_
  refine j_iconst C 87 168 rfl rfl kI_1 ?_
  refine j_icmp_ne C 88 175 171 rfl (by decide) rfl (fun c30 => ?_) (fun c30 => ?_)
  · replace h := ite_f h c30
    refine j_iload_n C 91 176 rfl rfl rfl 3 rfl ?_
    refine j_iconst C 92 177 rfl rfl kI_3 ?_
    refine j_iand C 93 178 rfl rfl ?_
    refine j_iconst C 94 179 rfl rfl kI_2 ?_
    refine j_icmp_ne C 95 189 182 rfl (by decide) rfl (fun c31 => ?_) (fun c31 => ?_)
    · replace h := ite_f h c31
      refine j_iload C 100 191 rfl rfl 0 rfl ?_
      refine j_iload_n C 101 192 rfl rfl rfl 1 rfl ?_
      refine j_iconst C 102 193 rfl rfl kI_m1 ?_
      refine j_ixor C 103 194 rfl rfl ?_
      refine j_iand C 104 195 rfl rfl ?_
      refine j_sub [] rfl ?_
      exact L_M_system_195 C S29 (x25 &&& (k0 ^^^ (-1 : Int32))) v2 h
    · replace h := ite_t h c31
      refine j_iload C 96 184 rfl rfl 0 rfl ?_
      refine j_iload_n C 97 185 rfl rfl rfl 1 rfl ?_
      refine j_ior C 98 186 rfl rfl ?_
      refine j_goto C 99 195 rfl (by decide) ?_
      refine j_sub [] rfl ?_
      exact L_M_system_195 C S29 (x25 ||| k0) v2 h
  · replace h := ite_t h c30
    refine j_iload_n C 89 172 rfl rfl rfl 1 rfl ?_
    refine j_goto C 90 195 rfl (by decide) ?_
    refine j_sub [] rfl ?_
    exact L_M_system_195 C S29 k0 v2 h
def wp_M_system_108 (K : St → Prop) (S : St) (v1 : Int32) (v2 : Int32) : Prop := (if (S 0 44) = 273678451 then ((wp_M_system_198 K S)) else ((if (4 : Int32) ≤ v1 then (wp_M_bits S 15 5 (fun r22 S21 => ((wp_M_system_136 K S21 v1 v2 r22)))) else (wp_M_regA S (fun r24 S23 => ((wp_M_system_136 K S23 v1 v2 r24)))))))
set_option maxHeartbeats 4000000 in
set_option maxRecDepth 100000 in
theorem L_M_system_108 {p : Program} {l : Launch} {e : Env} {s : State} {m : MethodId} {args : Array Value} {below : List Frame} {meth : Method} {c : Code} {A : Nat → Prop} {D : va_G} {h0 : Nat} {a : Nat → Nat} {cI cB : ClassId} {K : St → Prop} (C : CX p rm_M_system s m args meth c b_M_system 5 "PipelinedCoreModel" none pr_M_system D clK (tysK cI cB) A) (S : St) (v1 : Int32) (v2 : Int32) (h : wp_M_system_108 K S v1 v2) : J p l e rm_M_system s m args below meth c 5 D clK A 0 0 (MQ below (va_Qv K (fun u t => QK D clK (tysK cI cB) A (wsM h0 a cI cB u) t) A) args s 0 0 A) (wsM h0 a cI cB S) [(0, .ref h0), (1, .int v1), (2, .int v2)] 108 [] := by
  unfold wp_M_system_108 at h
  refine j_aload_n C 53 109 rfl rfl rfl 0 rfl ?_
  refine j_get C 54 112 rfl rfl fg_M_103 0 rfl rfl ?_
  refine j_ldc C 55 114 rfl rfl w938 ?_
  refine j_icmp_eq C 56 198 117 rfl (by decide) rfl (fun c19 => ?_) (fun c19 => ?_)
  · replace h := ite_t h c19
    refine j_sub [] rfl ?_
    exact L_M_system_198 C S h
  · replace h := ite_f h c19
    refine j_iload_n C 57 118 rfl rfl rfl 1 rfl ?_
    refine j_iconst C 58 119 rfl rfl kI_4 ?_
    refine j_icmp_ge C 59 129 122 rfl (by decide) rfl (fun c20 => ?_) (fun c20 => ?_)
    · replace h := ite_t h c20
      refine j_aload_n C 63 130 rfl rfl rfl 0 rfl ?_
      refine j_bipush C 64 132 rfl rfl kB_15 ?_
      refine j_iconst C 65 133 rfl rfl kI_5 ?_
      refine j_callVi C 66 136 rfl rfl w822 m_M_bits (As := [.int 15, .int 5]) (c_M_bits l D h0 a cI cB S 15 5 _ h) ⟨rfl, rfl⟩ ⟨Nat.le_of_ble_eq_true rfl, Nat.le_of_ble_eq_true rfl⟩ 0 rfl rfl rfl ⟨Nat.le_of_ble_eq_true rfl, Nat.le_of_ble_eq_true rfl⟩ (Nat.le_of_ble_eq_true rfl) rfl (fun r22 S21 h => ?_)
      exact L_M_system_136 C S21 v1 v2 r22 h
    · replace h := ite_f h c20
      refine j_aload_n C 60 123 rfl rfl rfl 0 rfl ?_
      refine j_callVi C 61 126 rfl rfl w867 m_M_regA (As := []) (c_M_regA l D h0 a cI cB S _ h) ⟨rfl, rfl⟩ ⟨Nat.le_of_ble_eq_true rfl, Nat.le_of_ble_eq_true rfl⟩ 0 rfl rfl rfl ⟨Nat.le_of_ble_eq_true rfl, Nat.le_of_ble_eq_true rfl⟩ (Nat.le_of_ble_eq_true rfl) rfl (fun r24 S23 h => ?_)
      refine j_goto C 62 136 rfl (by decide) ?_
      exact L_M_system_136 C S23 v1 v2 r24 h
def wp_M_system (S : St)  (K : St → Prop) : Prop := wp_M_bits S 12 3 (fun r2 S1 => (wp_M_bits S1 20 12 (fun r4 S3 => (wp_M_placeOf S3 r4 (fun r6 S5 => ((if (S5 0 44) = 115 then ((wp_M_system_38 K S5)) else ((if (S5 0 44) = 1048691 then ((wp_M_system_38 K S5)) else ((if (S5 0 44) = 807403635 then (∀ S13 : St, S13 = st S5 0 55 1 → ((wp_M_system_198 K S13))) else ((if (S5 0 44) = 273678451 then ((wp_M_system_108 K S5 r2 r6)) else ((if (r2 &&& (3 : Int32)) = 0 then ((wp_M_system_101 K S5)) else ((if (0 : Int32) ≤ r6 then ((wp_M_system_108 K S5 r2 r6)) else ((wp_M_system_101 K S5)))))))))))))))))))
set_option maxHeartbeats 4000000 in
set_option maxRecDepth 100000 in
theorem c_M_system (l : Launch) (D : va_G) (h0 : Nat) (a : Nat → Nat) (cI cB : ClassId) (S : St)  (K : St → Prop) (h : wp_M_system S K) (sz : Nat) : Met l y_M_system (Cond.code y_M_system b_M_system 5 none :: gw) rm_M_system (va_Pc [.ref h0] (PK D clK (tysK cI cB) (wsM h0 a cI cB S) sz)) (va_Qv K (fun u t => QK D clK (tysK cI cB) (va_A (wsM h0 a cI cB S) sz) (wsM h0 a cI cB u) t) (va_A (wsM h0 a cI cB S) sz)) 0 0 (va_A (wsM h0 a cI cB S) sz) := by
  refine met_of (rm := rm_M_system) (pr := pr_M_system) (Qc := fun A => va_Qv K (fun u t => QK D clK (tysK cI cB) A (wsM h0 a cI cB u) t) A) (by decide +kernel) dm_M_system (Nat.le_of_ble_eq_true rfl) (fun p e s m args below meth c A C => ?_) sz
  unfold wp_M_system at h
  show J p l e rm_M_system s m args below meth c 5 D clK A 0 0 _ (wsM h0 a cI cB S) [(0, .ref h0)] 0 []
  refine j_aload_n C 0 1 rfl rfl rfl 0 rfl ?_
  refine j_bipush C 1 3 rfl rfl kB_12 ?_
  refine j_iconst C 2 4 rfl rfl kI_3 ?_
  refine j_callVi C 3 7 rfl rfl w822 m_M_bits (As := [.int 12, .int 3]) (c_M_bits l D h0 a cI cB S 12 3 _ h) ⟨rfl, rfl⟩ ⟨Nat.le_of_ble_eq_true rfl, Nat.le_of_ble_eq_true rfl⟩ 0 rfl rfl rfl ⟨Nat.le_of_ble_eq_true rfl, Nat.le_of_ble_eq_true rfl⟩ (Nat.le_of_ble_eq_true rfl) rfl (fun r2 S1 h => ?_)
  refine j_istore_n C 4 8 [(1, .int r2), (0, .ref h0)] rfl rfl rfl (by decide) rfl ?_
  refine j_aload_n C 5 9 rfl rfl rfl 1 rfl ?_
  refine j_bipush C 6 11 rfl rfl kB_20 ?_
  refine j_bipush C 7 13 rfl rfl kB_12 ?_
  refine j_callVi C 8 16 rfl rfl w822 m_M_bits (As := [.int 20, .int 12]) (c_M_bits l D h0 a cI cB S1 20 12 _ h) ⟨rfl, rfl⟩ ⟨Nat.le_of_ble_eq_true rfl, Nat.le_of_ble_eq_true rfl⟩ 0 rfl rfl rfl ⟨Nat.le_of_ble_eq_true rfl, Nat.le_of_ble_eq_true rfl⟩ (Nat.le_of_ble_eq_true rfl) rfl (fun r4 S3 h => ?_)
  refine j_callSi C 9 19 rfl rfl w933 m_M_placeOf (As := [.int r4]) (c_M_placeOf l D h0 a cI cB S3 r4 _ h) ⟨rfl, rfl⟩ ⟨Nat.le_of_ble_eq_true rfl, Nat.le_of_ble_eq_true rfl⟩ rfl ⟨Nat.le_of_ble_eq_true rfl, Nat.le_of_ble_eq_true rfl⟩ (Nat.le_of_ble_eq_true rfl) rfl (fun r6 S5 h => ?_)
  refine j_istore_n C 10 20 [(2, .int r6), (1, .int r2), (0, .ref h0)] rfl rfl rfl (by decide) rfl ?_
  refine j_aload_n C 11 21 rfl rfl rfl 2 rfl ?_
  refine j_get C 12 24 rfl rfl fg_M_103 0 rfl rfl ?_
  refine j_bipush C 13 26 rfl rfl kB_115 ?_
  refine j_icmp_eq C 14 38 29 rfl (by decide) rfl (fun c7 => ?_) (fun c7 => ?_)
  · replace h := ite_t h c7
    refine j_sub [2] rfl ?_
    exact L_M_system_38 C S5 h
  · replace h := ite_f h c7
    refine j_aload_n C 15 30 rfl rfl rfl 2 rfl ?_
    refine j_get C 16 33 rfl rfl fg_M_103 0 rfl rfl ?_
    refine j_ldc C 17 35 rfl rfl w936 ?_
    refine j_icmp_ne C 18 65 38 rfl (by decide) rfl (fun c8 => ?_) (fun c8 => ?_)
    · replace h := ite_f h c8
      refine j_aload_n C 32 66 rfl rfl rfl 2 rfl ?_
      refine j_get C 33 69 rfl rfl fg_M_103 0 rfl rfl ?_
      refine j_ldc C 34 71 rfl rfl w937 ?_
      refine j_icmp_ne C 35 82 74 rfl (by decide) rfl (fun c9 => ?_) (fun c9 => ?_)
      · replace h := ite_f h c9
        refine j_aload_n C 40 83 rfl rfl rfl 2 rfl ?_
        refine j_get C 41 86 rfl rfl fg_M_103 0 rfl rfl ?_
        refine j_ldc C 42 88 rfl rfl w938 ?_
        refine j_icmp_eq C 43 108 91 rfl (by decide) rfl (fun c10 => ?_) (fun c10 => ?_)
        · replace h := ite_t h c10
          refine j_sub [2, 1, 0] rfl ?_
          exact L_M_system_108 C S5 r2 r6 h
        · replace h := ite_f h c10
          refine j_iload_n C 44 92 rfl rfl rfl 1 rfl ?_
          refine j_iconst C 45 93 rfl rfl kI_3 ?_
          refine j_iand C 46 94 rfl rfl ?_
          refine j_if_eq C 47 101 97 rfl (by decide) rfl (fun c11 => ?_) (fun c11 => ?_)
          · replace h := ite_t h c11
            refine j_sub [2] rfl ?_
            exact L_M_system_101 C S5 h
          · replace h := ite_f h c11
            refine j_iload_n C 48 98 rfl rfl rfl 0 rfl ?_
            refine j_if_ge C 49 108 101 rfl (by decide) rfl (fun c12 => ?_) (fun c12 => ?_)
            · replace h := ite_t h c12
              refine j_sub [2, 1, 0] rfl ?_
              exact L_M_system_108 C S5 r2 r6 h
            · replace h := ite_f h c12
              refine j_sub [2] rfl ?_
              exact L_M_system_101 C S5 h
      · replace h := ite_t h c9
        refine j_aload_n C 36 75 rfl rfl rfl 2 rfl ?_
        refine j_iconst C 37 76 rfl rfl kI_1 ?_
        refine j_put C 38 79 rfl rfl fp_M_195 0 rfl (Nat.le_of_ble_eq_true rfl) (isB_nar isB_1) (isB_fit isB_1) (st S5 0 55 1) (sM_0_55 _ _ _ _ _ _) (fun S13 eS13 => ?_)
        replace h := h S13 eS13
        refine j_goto C 39 198 rfl (by decide) ?_
        refine j_sub [] rfl ?_
        exact L_M_system_198 C S13 h
    · replace h := ite_t h c8
      refine j_sub [2] rfl ?_
      exact L_M_system_38 C S5 h
abbrev rm_M_inCode : Room := { frames := 0, cells := 0, slots := 0, locals := 0 }
def wp_M_inCode_22 (K : Int32 → St → Prop) (S : St) (k0 : Int32) : Prop := isB k0 ∧ K k0 S
set_option maxHeartbeats 4000000 in
set_option maxRecDepth 100000 in
theorem L_M_inCode_22 {p : Program} {l : Launch} {e : Env} {s : State} {m : MethodId} {args : Array Value} {below : List Frame} {meth : Method} {c : Code} {A : Nat → Prop} {D : va_G} {h0 : Nat} {a : Nat → Nat} {cI cB : ClassId} {K : Int32 → St → Prop} (C : CX p rm_M_inCode s m args meth c b_M_inCode 1 "PipelinedCoreModel" (some .boolean) pr_M_inCode D clK (tysK cI cB) A) (S : St) (k0 : Int32) (h : wp_M_inCode_22 K S k0) : J p l e rm_M_inCode s m args below meth c 1 D clK A 0 0 (MQ below (va_Qi K (fun u t => QK D clK (tysK cI cB) A (wsM h0 a cI cB u) t) A) args s 0 0 A) (wsM h0 a cI cB S) [] 22 [.int k0] := by
  unfold wp_M_inCode_22 at h
  exact j_zret C 10 rfl h.1 h.2
def wp_M_inCode_21 (K : Int32 → St → Prop) (S : St)  : Prop := (wp_M_inCode_22 K S 0)
set_option maxHeartbeats 4000000 in
set_option maxRecDepth 100000 in
theorem L_M_inCode_21 {p : Program} {l : Launch} {e : Env} {s : State} {m : MethodId} {args : Array Value} {below : List Frame} {meth : Method} {c : Code} {A : Nat → Prop} {D : va_G} {h0 : Nat} {a : Nat → Nat} {cI cB : ClassId} {K : Int32 → St → Prop} (C : CX p rm_M_inCode s m args meth c b_M_inCode 1 "PipelinedCoreModel" (some .boolean) pr_M_inCode D clK (tysK cI cB) A) (S : St)  (h : wp_M_inCode_21 K S) : J p l e rm_M_inCode s m args below meth c 1 D clK A 0 0 (MQ below (va_Qi K (fun u t => QK D clK (tysK cI cB) A (wsM h0 a cI cB u) t) A) args s 0 0 A) (wsM h0 a cI cB S) [] 21 [] := by
  unfold wp_M_inCode_21 at h
  refine j_iconst C 9 22 rfl rfl kI_0 ?_
  exact L_M_inCode_22 C S 0 h
def wp_M_inCode (S : St)  (K : Int32 → St → Prop) : Prop := (if (S 0 6) < 0 then ((wp_M_inCode_21 K S)) else ((if (512 : Int32) ≤ (S 0 6) then ((wp_M_inCode_21 K S)) else ((wp_M_inCode_22 K S 1)))))
set_option maxHeartbeats 4000000 in
set_option maxRecDepth 100000 in
theorem c_M_inCode (l : Launch) (D : va_G) (h0 : Nat) (a : Nat → Nat) (cI cB : ClassId) (S : St)  (K : Int32 → St → Prop) (h : wp_M_inCode S K) (sz : Nat) : Met l y_M_inCode (Cond.code y_M_inCode b_M_inCode 1 (some .boolean) :: gw) rm_M_inCode (va_Pc [.ref h0] (PK D clK (tysK cI cB) (wsM h0 a cI cB S) sz)) (va_Qi K (fun u t => QK D clK (tysK cI cB) (va_A (wsM h0 a cI cB S) sz) (wsM h0 a cI cB u) t) (va_A (wsM h0 a cI cB S) sz)) 0 0 (va_A (wsM h0 a cI cB S) sz) := by
  refine met_of (rm := rm_M_inCode) (pr := pr_M_inCode) (Qc := fun A => va_Qi K (fun u t => QK D clK (tysK cI cB) A (wsM h0 a cI cB u) t) A) (by decide +kernel) dm_M_inCode (Nat.le_of_ble_eq_true rfl) (fun p e s m args below meth c A C => ?_) sz
  unfold wp_M_inCode at h
  show J p l e rm_M_inCode s m args below meth c 1 D clK A 0 0 _ (wsM h0 a cI cB S) [(0, .ref h0)] 0 []
  refine j_aload_n C 0 1 rfl rfl rfl 0 rfl ?_
  refine j_get C 1 4 rfl rfl fg_M_162 0 rfl rfl ?_
  refine j_if_lt C 2 21 7 rfl (by decide) rfl (fun c1 => ?_) (fun c1 => ?_)
  · replace h := ite_t h c1
    refine j_sub [] rfl ?_
    exact L_M_inCode_21 C S h
  · replace h := ite_f h c1
    refine j_aload_n C 3 8 rfl rfl rfl 0 rfl ?_
    refine j_get C 4 11 rfl rfl fg_M_162 0 rfl rfl ?_
    refine j_sipush C 5 14 rfl rfl kS_512 ?_
    refine j_icmp_ge C 6 21 17 rfl (by decide) rfl (fun c2 => ?_) (fun c2 => ?_)
    · replace h := ite_t h c2
      refine j_sub [] rfl ?_
      exact L_M_inCode_21 C S h
    · replace h := ite_f h c2
      refine j_iconst C 7 18 rfl rfl kI_1 ?_
      refine j_goto C 8 22 rfl (by decide) ?_
      refine j_sub [] rfl ?_
      exact L_M_inCode_22 C S 1 h
