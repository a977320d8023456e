abbrev rm_K_code : Room := { frames := 0, cells := 0, slots := 0, locals := 0 }
def wp_K_code_18 (K : Int32 → St → Prop) (S : St)  : Prop := K 0 S
set_option maxHeartbeats 4000000 in
set_option maxRecDepth 100000 in
theorem L_K_code_18 {p : Program} {l : Launch} {e : Env} {s : State} {m : MethodId} {args : Array Value} {below : List Frame} {meth : Method} {c : Code} {A : Nat → Prop} {D : va_G} {h0 : Nat} {a : Nat → Nat} {cI cB : ClassId} {K : Int32 → St → Prop} (C : CX p rm_K_code s m args meth c b_K_code 3 "PipelinedCore" (some .boolean) pr_K_code D clK (tysK cI cB) A) (S : St)  (h : wp_K_code_18 K S) : J p l e rm_K_code s m args below meth c 3 D clK A 0 0 (MQ below (va_Qi K (fun u t => QK D clK (tysK cI cB) A (wsK h0 a cI cB u) t) A) args s 0 0 A) (wsK h0 a cI cB S) [] 18 [] := by
  unfold wp_K_code_18 at h
  refine j_iconst C 8 19 rfl rfl kI_0 ?_
  exact j_zret C 9 rfl isB_0 h
def wp_K_code (S : St) (p1 : Int32) (p2 : Int32) (K : Int32 → St → Prop) : Prop := (if p1 < 0 then ((wp_K_code_18 K S)) else ((if (128 : Int32) ≤ p1 then ((wp_K_code_18 K S)) else ((if (S 0 10) ≤ 0 then (vp_in p1 128 ∧ (∀ S4 : St, S4 = st S 1 p1.toNatClampNeg p2 → (K 1 S4))) else ((wp_K_code_18 K S)))))))
set_option maxHeartbeats 4000000 in
set_option maxRecDepth 100000 in
theorem c_K_code (l : Launch) (D : va_G) (h0 : Nat) (a : Nat → Nat) (cI cB : ClassId) (S : St) (p1 : Int32) (p2 : Int32) (K : Int32 → St → Prop) (h : wp_K_code S p1 p2 K) (sz : Nat) : Met l y_K_code (Cond.code y_K_code b_K_code 3 (some .boolean) :: gw) rm_K_code (va_Pc [.ref h0, .int p1, .int p2] (PK D clK (tysK cI cB) (wsK h0 a cI cB S) sz)) (va_Qi K (fun u t => QK D clK (tysK cI cB) (va_A (wsK h0 a cI cB S) sz) (wsK h0 a cI cB u) t) (va_A (wsK h0 a cI cB S) sz)) 0 0 (va_A (wsK h0 a cI cB S) sz) := by
  refine met_of (rm := rm_K_code) (pr := pr_K_code) (Qc := fun A => va_Qi K (fun u t => QK D clK (tysK cI cB) A (wsK h0 a cI cB u) t) A) (by decide +kernel) dm_K_code (Nat.le_of_ble_eq_true rfl) (fun p e s m args below meth c A C => ?_) sz
  unfold wp_K_code at h
  show J p l e rm_K_code s m args below meth c 3 D clK A 0 0 _ (wsK h0 a cI cB S) [(0, .ref h0), (1, .int p1), (2, .int p2)] 0 []
  refine j_iload_n C 0 1 rfl rfl rfl 1 rfl ?_
  refine j_if_lt C 1 18 4 rfl (by decide) rfl (fun c1 => ?_) (fun c1 => ?_)
  · replace h := ite_t h c1
    refine j_sub [] rfl ?_
    exact L_K_code_18 C S h
  · replace h := ite_f h c1
    refine j_iload_n C 2 5 rfl rfl rfl 1 rfl ?_
    refine j_sipush C 3 8 rfl rfl kS_128 ?_
    refine j_icmp_ge C 4 18 11 rfl (by decide) rfl (fun c2 => ?_) (fun c2 => ?_)
    · replace h := ite_t h c2
      refine j_sub [] rfl ?_
      exact L_K_code_18 C S h
    · replace h := ite_f h c2
      refine j_aload_n C 5 12 rfl rfl rfl 0 rfl ?_
      refine j_get C 6 15 rfl rfl fg_K_70 0 rfl rfl ?_
      refine j_if_le C 7 20 18 rfl (by decide) rfl (fun c3 => ?_) (fun c3 => ?_)
      · replace h := ite_t h c3
        refine j_aload_n C 10 21 rfl rfl rfl 0 rfl ?_
        refine j_get C 11 24 rfl rfl fg_K_9 0 rfl rfl ?_
        refine j_iload_n C 12 25 rfl rfl rfl 1 rfl ?_
        refine j_iload_n C 13 26 rfl rfl rfl 2 rfl ?_
        refine j_iast C 14 27 rfl rfl 1 0 rfl rfl h.1 (st S 1 p1.toNatClampNeg p2) (sK_1 _ _ _ _ _ _ _) (fun S4 eS4 => ?_)
        replace h := h.2
        replace h := h S4 eS4
        refine j_iconst C 15 28 rfl rfl kI_1 ?_
        exact j_zret C 16 rfl isB_1 h
      · replace h := ite_f h c3
        refine j_sub [] rfl ?_
        exact L_K_code_18 C S h
abbrev rm_Sto_has : Room := { frames := 0, cells := 0, slots := 0, locals := 0 }
def wp_Sto_has_19 (K : Int32 → St → Prop) (S : St) (k0 : Int32) : Prop := isB k0 ∧ K k0 S
set_option maxHeartbeats 4000000 in
set_option maxRecDepth 100000 in
theorem L_Sto_has_19 {p : Program} {l : Launch} {e : Env} {s : State} {m : MethodId} {args : Array Value} {below : List Frame} {meth : Method} {c : Code} {A : Nat → Prop} {D : va_G} {h0 : Nat} {a : Nat → Nat} {cI cB : ClassId} {K : Int32 → St → Prop} (C : CX p rm_Sto_has s m args meth c b_Sto_has 1 "PipelinedCore$Store" (some .boolean) pr_Sto_has D clK (tysK cI cB) A) (S : St) (k0 : Int32) (h : wp_Sto_has_19 K S k0) : J p l e rm_Sto_has s m args below meth c 1 D clK A 0 0 (MQ below (va_Qi K (fun u t => QK D clK (tysK cI cB) A (wsK h0 a cI cB u) t) A) args s 0 0 A) (wsK h0 a cI cB S) [] 19 [.int k0] := by
  unfold wp_Sto_has_19 at h
  exact j_zret C 9 rfl h.1 h.2
def wp_Sto_has_18 (K : Int32 → St → Prop) (S : St)  : Prop := (wp_Sto_has_19 K S 0)
set_option maxHeartbeats 4000000 in
set_option maxRecDepth 100000 in
theorem L_Sto_has_18 {p : Program} {l : Launch} {e : Env} {s : State} {m : MethodId} {args : Array Value} {below : List Frame} {meth : Method} {c : Code} {A : Nat → Prop} {D : va_G} {h0 : Nat} {a : Nat → Nat} {cI cB : ClassId} {K : Int32 → St → Prop} (C : CX p rm_Sto_has s m args meth c b_Sto_has 1 "PipelinedCore$Store" (some .boolean) pr_Sto_has D clK (tysK cI cB) A) (S : St)  (h : wp_Sto_has_18 K S) : J p l e rm_Sto_has s m args below meth c 1 D clK A 0 0 (MQ below (va_Qi K (fun u t => QK D clK (tysK cI cB) A (wsK h0 a cI cB u) t) A) args s 0 0 A) (wsK h0 a cI cB S) [] 18 [] := by
  unfold wp_Sto_has_18 at h
  refine j_iconst C 8 19 rfl rfl kI_0 ?_
  exact L_Sto_has_19 C S 0 h
def wp_Sto_has (S : St) (p1 : Int32) (K : Int32 → St → Prop) : Prop := (if p1 < 1024 then ((wp_Sto_has_18 K S)) else ((if (1280 : Int32) ≤ p1 then ((wp_Sto_has_18 K S)) else ((wp_Sto_has_19 K S 1)))))
set_option maxHeartbeats 4000000 in
set_option maxRecDepth 100000 in
theorem c_Sto_has (l : Launch) (D : va_G) (h0 : Nat) (a : Nat → Nat) (cI cB : ClassId) (S : St) (p1 : Int32) (K : Int32 → St → Prop) (h : wp_Sto_has S p1 K) (sz : Nat) : Met l y_Sto_has (Cond.code y_Sto_has b_Sto_has 1 (some .boolean) :: gw) rm_Sto_has (va_Pc [.int p1] (PK D clK (tysK cI cB) (wsK h0 a cI cB S) sz)) (va_Qi K (fun u t => QK D clK (tysK cI cB) (va_A (wsK h0 a cI cB S) sz) (wsK h0 a cI cB u) t) (va_A (wsK h0 a cI cB S) sz)) 0 0 (va_A (wsK h0 a cI cB S) sz) := by
  refine met_of (rm := rm_Sto_has) (pr := pr_Sto_has) (Qc := fun A => va_Qi K (fun u t => QK D clK (tysK cI cB) A (wsK h0 a cI cB u) t) A) (by decide +kernel) dm_Sto_has (Nat.le_of_ble_eq_true rfl) (fun p e s m args below meth c A C => ?_) sz
  unfold wp_Sto_has at h
  show J p l e rm_Sto_has s m args below meth c 1 D clK A 0 0 _ (wsK h0 a cI cB S) [(0, .int p1)] 0 []
  refine j_iload_n C 0 1 rfl rfl rfl 0 rfl ?_
  refine j_sipush C 1 4 rfl rfl kS_1024 ?_
  refine j_icmp_lt C 2 18 7 rfl (by decide) rfl (fun c1 => ?_) (fun c1 => ?_)
  · replace h := ite_t h c1
    refine j_sub [] rfl ?_
    exact L_Sto_has_18 C S h
  · replace h := ite_f h c1
    refine j_iload_n C 3 8 rfl rfl rfl 0 rfl ?_
    refine j_sipush C 4 11 rfl rfl kS_1280 ?_
    refine j_icmp_ge C 5 18 14 rfl (by decide) rfl (fun c2 => ?_) (fun c2 => ?_)
    · replace h := ite_t h c2
      refine j_sub [] rfl ?_
      exact L_Sto_has_18 C S h
    · replace h := ite_f h c2
      refine j_iconst C 6 15 rfl rfl kI_1 ?_
      refine j_goto C 7 19 rfl (by decide) ?_
      refine j_sub [] rfl ?_
      exact L_Sto_has_19 C S 1 h
abbrev rm_Sto_hasWord : Room := { frames := 1, cells := 0, slots := 0, locals := 20 }
def wp_Sto_hasWord_18 (K : Int32 → St → Prop) (S : St) (k0 : Int32) : Prop := isB k0 ∧ K k0 S
set_option maxHeartbeats 4000000 in
set_option maxRecDepth 100000 in
theorem L_Sto_hasWord_18 {p : Program} {l : Launch} {e : Env} {s : State} {m : MethodId} {args : Array Value} {below : List Frame} {meth : Method} {c : Code} {A : Nat → Prop} {D : va_G} {h0 : Nat} {a : Nat → Nat} {cI cB : ClassId} {K : Int32 → St → Prop} (C : CX p rm_Sto_hasWord s m args meth c b_Sto_hasWord 1 "PipelinedCore$Store" (some .boolean) pr_Sto_hasWord D clK (tysK cI cB) A) (S : St) (k0 : Int32) (h : wp_Sto_hasWord_18 K S k0) : J p l e rm_Sto_hasWord s m args below meth c 1 D clK A 0 0 (MQ below (va_Qi K (fun u t => QK D clK (tysK cI cB) A (wsK h0 a cI cB u) t) A) args s 0 0 A) (wsK h0 a cI cB S) [] 18 [.int k0] := by
  unfold wp_Sto_hasWord_18 at h
  exact j_zret C 10 rfl h.1 h.2
def wp_Sto_hasWord_17 (K : Int32 → St → Prop) (S : St)  : Prop := (wp_Sto_hasWord_18 K S 0)
set_option maxHeartbeats 4000000 in
set_option maxRecDepth 100000 in
theorem L_Sto_hasWord_17 {p : Program} {l : Launch} {e : Env} {s : State} {m : MethodId} {args : Array Value} {below : List Frame} {meth : Method} {c : Code} {A : Nat → Prop} {D : va_G} {h0 : Nat} {a : Nat → Nat} {cI cB : ClassId} {K : Int32 → St → Prop} (C : CX p rm_Sto_hasWord s m args meth c b_Sto_hasWord 1 "PipelinedCore$Store" (some .boolean) pr_Sto_hasWord D clK (tysK cI cB) A) (S : St)  (h : wp_Sto_hasWord_17 K S) : J p l e rm_Sto_hasWord s m args below meth c 1 D clK A 0 0 (MQ below (va_Qi K (fun u t => QK D clK (tysK cI cB) A (wsK h0 a cI cB u) t) A) args s 0 0 A) (wsK h0 a cI cB S) [] 17 [] := by
  unfold wp_Sto_hasWord_17 at h
  refine j_iconst C 9 18 rfl rfl kI_0 ?_
  exact L_Sto_hasWord_18 C S 0 h
def wp_Sto_hasWord (S : St) (p1 : Int32) (K : Int32 → St → Prop) : Prop := wp_Sto_has S p1 (fun r2 S1 => ((if r2 = 0 then ((wp_Sto_hasWord_17 K S1)) else ((if (p1 &&& (3 : Int32)) = 0 then ((wp_Sto_hasWord_18 K S1 1)) else ((wp_Sto_hasWord_17 K S1)))))))
set_option maxHeartbeats 4000000 in
set_option maxRecDepth 100000 in
theorem c_Sto_hasWord (l : Launch) (D : va_G) (h0 : Nat) (a : Nat → Nat) (cI cB : ClassId) (S : St) (p1 : Int32) (K : Int32 → St → Prop) (h : wp_Sto_hasWord S p1 K) (sz : Nat) : Met l y_Sto_hasWord (Cond.code y_Sto_hasWord b_Sto_hasWord 1 (some .boolean) :: gw) rm_Sto_hasWord (va_Pc [.int p1] (PK D clK (tysK cI cB) (wsK h0 a cI cB S) sz)) (va_Qi K (fun u t => QK D clK (tysK cI cB) (va_A (wsK h0 a cI cB S) sz) (wsK h0 a cI cB u) t) (va_A (wsK h0 a cI cB S) sz)) 0 0 (va_A (wsK h0 a cI cB S) sz) := by
  refine met_of (rm := rm_Sto_hasWord) (pr := pr_Sto_hasWord) (Qc := fun A => va_Qi K (fun u t => QK D clK (tysK cI cB) A (wsK h0 a cI cB u) t) A) (by decide +kernel) dm_Sto_hasWord (Nat.le_of_ble_eq_true rfl) (fun p e s m args below meth c A C => ?_) sz
  unfold wp_Sto_hasWord at h
  show J p l e rm_Sto_hasWord s m args below meth c 1 D clK A 0 0 _ (wsK h0 a cI cB S) [(0, .int p1)] 0 []
  refine j_iload_n C 0 1 rfl rfl rfl 0 rfl ?_
  refine j_callSi C 1 4 rfl rfl w326 m_Sto_has (As := [.int p1]) (c_Sto_has l D h0 a cI cB S p1 _ h) ⟨rfl, rfl⟩ ⟨Nat.le_of_ble_eq_true rfl, Nat.le_of_ble_eq_true rfl⟩ rfl ⟨Nat.le_of_ble_eq_true rfl, Nat.le_of_ble_eq_true rfl⟩ (Nat.le_of_ble_eq_true rfl) rfl (fun r2 S1 h => ?_)
  refine j_if_eq C 2 17 7 rfl (by decide) rfl (fun c3 => ?_) (fun c3 => ?_)
  · replace h := ite_t h c3
    refine j_sub [] rfl ?_
    exact L_Sto_hasWord_17 C S1 h
  · replace h := ite_f h c3
    refine j_iload_n C 3 8 rfl rfl rfl 0 rfl ?_
    refine j_iconst C 4 9 rfl rfl kI_3 ?_
    refine j_iand C 5 10 rfl rfl ?_
    refine j_if_ne C 6 17 13 rfl (by decide) rfl (fun c4 => ?_) (fun c4 => ?_)
    · replace h := ite_f h c4
      refine j_sub [] rfl ?_
      exact L_Sto_hasWord_17 C S1 h
    · replace h := ite_t h c4
      refine j_iconst C 7 14 rfl rfl kI_1 ?_
      refine j_goto C 8 18 rfl (by decide) ?_
      refine j_sub [] rfl ?_
      exact L_Sto_hasWord_18 C S1 1 h
abbrev rm_Sto_setWord : Room := { frames := 1, cells := 0, slots := 0, locals := 20 }
def wp_Sto_setWord_20 (K : St → Prop) (S : St)  : Prop := K S
set_option maxHeartbeats 4000000 in
set_option maxRecDepth 100000 in
theorem L_Sto_setWord_20 {p : Program} {l : Launch} {e : Env} {s : State} {m : MethodId} {args : Array Value} {below : List Frame} {meth : Method} {c : Code} {A : Nat → Prop} {D : va_G} {h0 : Nat} {a : Nat → Nat} {cI cB : ClassId} {K : St → Prop} (C : CX p rm_Sto_setWord s m args meth c b_Sto_setWord 3 "PipelinedCore$Store" none pr_Sto_setWord D clK (tysK cI cB) A) (S : St)  (h : wp_Sto_setWord_20 K S) : J p l e rm_Sto_setWord s m args below meth c 3 D clK A 0 0 (MQ below (va_Qv K (fun u t => QK D clK (tysK cI cB) A (wsK h0 a cI cB u) t) A) args s 0 0 A) (wsK h0 a cI cB S) [] 20 [] := by
  unfold wp_Sto_setWord_20 at h
  exact j_vret C 12 rfl h
def wp_Sto_setWord (S : St) (p1 : Int32) (p2 : Int32) (K : St → Prop) : Prop := wp_Sto_has S p1 (fun r2 S1 => ((if r2 = 0 then ((wp_Sto_setWord_20 K S1)) else (vp_in ((p1 - (1024 : Int32)) >>> ((2 : Int32) &&& 31)) 64 ∧ (∀ S4 : St, S4 = st S1 4 ((p1 - (1024 : Int32)) >>> ((2 : Int32) &&& 31) : Int32).toNatClampNeg p2 → ((wp_Sto_setWord_20 K S4)))))))
set_option maxHeartbeats 4000000 in
set_option maxRecDepth 100000 in
theorem c_Sto_setWord (l : Launch) (D : va_G) (h0 : Nat) (a : Nat → Nat) (cI cB : ClassId) (S : St) (p1 : Int32) (p2 : Int32) (K : St → Prop) (h : wp_Sto_setWord S p1 p2 K) (sz : Nat) : Met l y_Sto_setWord (Cond.code y_Sto_setWord b_Sto_setWord 3 none :: gw) rm_Sto_setWord (va_Pc [.ref (a 4), .int p1, .int p2] (PK D clK (tysK cI cB) (wsK h0 a cI cB S) sz)) (va_Qv K (fun u t => QK D clK (tysK cI cB) (va_A (wsK h0 a cI cB S) sz) (wsK h0 a cI cB u) t) (va_A (wsK h0 a cI cB S) sz)) 0 0 (va_A (wsK h0 a cI cB S) sz) := by
  refine met_of (rm := rm_Sto_setWord) (pr := pr_Sto_setWord) (Qc := fun A => va_Qv K (fun u t => QK D clK (tysK cI cB) A (wsK h0 a cI cB u) t) A) (by decide +kernel) dm_Sto_setWord (Nat.le_of_ble_eq_true rfl) (fun p e s m args below meth c A C => ?_) sz
  unfold wp_Sto_setWord at h
  show J p l e rm_Sto_setWord s m args below meth c 3 D clK A 0 0 _ (wsK h0 a cI cB S) [(0, .ref (a 4)), (1, .int p1), (2, .int p2)] 0 []
  refine j_iload_n C 0 1 rfl rfl rfl 1 rfl ?_
  refine j_callSi C 1 4 rfl rfl w326 m_Sto_has (As := [.int p1]) (c_Sto_has l D h0 a cI cB S p1 _ h) ⟨rfl, rfl⟩ ⟨Nat.le_of_ble_eq_true rfl, Nat.le_of_ble_eq_true rfl⟩ rfl ⟨Nat.le_of_ble_eq_true rfl, Nat.le_of_ble_eq_true rfl⟩ (Nat.le_of_ble_eq_true rfl) rfl (fun r2 S1 h => ?_)
  refine j_if_eq C 2 20 7 rfl (by decide) rfl (fun c3 => ?_) (fun c3 => ?_)
  · replace h := ite_t h c3
    refine j_sub [] rfl ?_
    exact L_Sto_setWord_20 C S1 h
  · replace h := ite_f h c3
    refine j_aload_n C 3 8 rfl rfl rfl 0 rfl ?_
    refine j_get C 4 11 rfl rfl fg_Sto_9 4 rfl rfl ?_
    refine j_iload_n C 5 12 rfl rfl rfl 1 rfl ?_
    refine j_sipush C 6 15 rfl rfl kS_1024 ?_
    refine j_isub C 7 16 rfl rfl ?_
    refine j_iconst C 8 17 rfl rfl kI_2 ?_
    refine j_ishr C 9 18 rfl rfl ?_
    refine j_iload_n C 10 19 rfl rfl rfl 2 rfl ?_
    refine j_iast C 11 20 rfl rfl 5 0 rfl rfl h.1 (st S1 4 ((p1 - (1024 : Int32)) >>> ((2 : Int32) &&& 31) : Int32).toNatClampNeg p2) (sK_5 _ _ _ _ _ _ _) (fun S4 eS4 => ?_)
    replace h := h.2
    replace h := h S4 eS4
    refine j_sub [] rfl ?_
    exact L_Sto_setWord_20 C S4 h
abbrev rm_K_data : Room := { frames := 2, cells := 0, slots := 0, locals := 42 }
def wp_K_data_14 (K : Int32 → St → Prop) (S : St)  : Prop := K 0 S
set_option maxHeartbeats 4000000 in
set_option maxRecDepth 100000 in
theorem L_K_data_14 {p : Program} {l : Launch} {e : Env} {s : State} {m : MethodId} {args : Array Value} {below : List Frame} {meth : Method} {c : Code} {A : Nat → Prop} {D : va_G} {h0 : Nat} {a : Nat → Nat} {cI cB : ClassId} {K : Int32 → St → Prop} (C : CX p rm_K_data s m args meth c b_K_data 3 "PipelinedCore" (some .boolean) pr_K_data D clK (tysK cI cB) A) (S : St)  (h : wp_K_data_14 K S) : J p l e rm_K_data s m args below meth c 3 D clK A 0 0 (MQ below (va_Qi K (fun u t => QK D clK (tysK cI cB) A (wsK h0 a cI cB u) t) A) args s 0 0 A) (wsK h0 a cI cB S) [] 14 [] := by
  unfold wp_K_data_14 at h
  refine j_iconst C 6 15 rfl rfl kI_0 ?_
  exact j_zret C 7 rfl isB_0 h
def wp_K_data (S : St) (p1 : Int32) (p2 : Int32) (K : Int32 → St → Prop) : Prop := wp_Sto_hasWord S p1 (fun r2 S1 => ((if r2 = 0 then ((wp_K_data_14 K S1)) else ((if (S1 0 10) ≤ 0 then (wp_Sto_setWord S1 p1 p2 (fun S5 => (K 1 S5))) else ((wp_K_data_14 K S1)))))))
set_option maxHeartbeats 4000000 in
set_option maxRecDepth 100000 in
theorem c_K_data (l : Launch) (D : va_G) (h0 : Nat) (a : Nat → Nat) (cI cB : ClassId) (S : St) (p1 : Int32) (p2 : Int32) (K : Int32 → St → Prop) (h : wp_K_data S p1 p2 K) (sz : Nat) : Met l y_K_data (Cond.code y_K_data b_K_data 3 (some .boolean) :: gw) rm_K_data (va_Pc [.ref h0, .int p1, .int p2] (PK D clK (tysK cI cB) (wsK h0 a cI cB S) sz)) (va_Qi K (fun u t => QK D clK (tysK cI cB) (va_A (wsK h0 a cI cB S) sz) (wsK h0 a cI cB u) t) (va_A (wsK h0 a cI cB S) sz)) 0 0 (va_A (wsK h0 a cI cB S) sz) := by
  refine met_of (rm := rm_K_data) (pr := pr_K_data) (Qc := fun A => va_Qi K (fun u t => QK D clK (tysK cI cB) A (wsK h0 a cI cB u) t) A) (by decide +kernel) dm_K_data (Nat.le_of_ble_eq_true rfl) (fun p e s m args below meth c A C => ?_) sz
  unfold wp_K_data at h
  show J p l e rm_K_data s m args below meth c 3 D clK A 0 0 _ (wsK h0 a cI cB S) [(0, .ref h0), (1, .int p1), (2, .int p2)] 0 []
  refine j_iload_n C 0 1 rfl rfl rfl 1 rfl ?_
  refine j_callSi C 1 4 rfl rfl w323 m_Sto_hasWord (As := [.int p1]) (c_Sto_hasWord l D h0 a cI cB S p1 _ h) ⟨rfl, rfl⟩ ⟨Nat.le_of_ble_eq_true rfl, Nat.le_of_ble_eq_true rfl⟩ rfl ⟨Nat.le_of_ble_eq_true rfl, Nat.le_of_ble_eq_true rfl⟩ (Nat.le_of_ble_eq_true rfl) rfl (fun r2 S1 h => ?_)
  refine j_if_eq C 2 14 7 rfl (by decide) rfl (fun c3 => ?_) (fun c3 => ?_)
  · replace h := ite_t h c3
    refine j_sub [] rfl ?_
    exact L_K_data_14 C S1 h
  · replace h := ite_f h c3
    refine j_aload_n C 3 8 rfl rfl rfl 0 rfl ?_
    refine j_get C 4 11 rfl rfl fg_K_70 0 rfl rfl ?_
    refine j_if_le C 5 16 14 rfl (by decide) rfl (fun c4 => ?_) (fun c4 => ?_)
    · replace h := ite_t h c4
      refine j_aload_n C 8 17 rfl rfl rfl 0 rfl ?_
      refine j_get C 9 20 rfl rfl fg_K_26 0 rfl rfl ?_
      refine j_iload_n C 10 21 rfl rfl rfl 1 rfl ?_
      refine j_iload_n C 11 22 rfl rfl rfl 2 rfl ?_
      refine j_callVv C 12 25 rfl rfl w329 m_Sto_setWord (As := [.int p1, .int p2]) (c_Sto_setWord l D h0 a cI cB S1 p1 p2 _ h) ⟨rfl, rfl⟩ ⟨Nat.le_of_ble_eq_true rfl, Nat.le_of_ble_eq_true rfl⟩ 4 rfl rfl rfl ⟨Nat.le_of_ble_eq_true rfl, Nat.le_of_ble_eq_true rfl⟩ (Nat.le_of_ble_eq_true rfl) rfl (fun S5 h => ?_)
      refine j_iconst C 13 26 rfl rfl kI_1 ?_
      exact j_zret C 14 rfl isB_1 h
    · replace h := ite_f h c4
      refine j_sub [] rfl ?_
      exact L_K_data_14 C S1 h
abbrev rm_Con_setLines : Room := { frames := 0, cells := 0, slots := 0, locals := 0 }
def wp_Con_setLines (S : St) (p1 : Int32) (K : Int32 → St → Prop) : Prop := (if (p1 &&& (-2185 : Int32)) = 0 then (∀ S2 : St, S2 = st S 3 7 p1 → (K 1 S2)) else (K 0 S))
set_option maxHeartbeats 4000000 in
set_option maxRecDepth 100000 in
theorem c_Con_setLines (l : Launch) (D : va_G) (h0 : Nat) (a : Nat → Nat) (cI cB : ClassId) (S : St) (p1 : Int32) (K : Int32 → St → Prop) (h : wp_Con_setLines S p1 K) (sz : Nat) : Met l y_Con_setLines (Cond.code y_Con_setLines b_Con_setLines 2 (some .boolean) :: gw) rm_Con_setLines (va_Pc [.ref (a 3), .int p1] (PK D clK (tysK cI cB) (wsK h0 a cI cB S) sz)) (va_Qi K (fun u t => QK D clK (tysK cI cB) (va_A (wsK h0 a cI cB S) sz) (wsK h0 a cI cB u) t) (va_A (wsK h0 a cI cB S) sz)) 0 0 (va_A (wsK h0 a cI cB S) sz) := by
  refine met_of (rm := rm_Con_setLines) (pr := pr_Con_setLines) (Qc := fun A => va_Qi K (fun u t => QK D clK (tysK cI cB) A (wsK h0 a cI cB u) t) A) (by decide +kernel) dm_Con_setLines (Nat.le_of_ble_eq_true rfl) (fun p e s m args below meth c A C => ?_) sz
  unfold wp_Con_setLines at h
  show J p l e rm_Con_setLines s m args below meth c 2 D clK A 0 0 _ (wsK h0 a cI cB S) [(0, .ref (a 3)), (1, .int p1)] 0 []
  refine j_iload_n C 0 1 rfl rfl rfl 1 rfl ?_
  refine j_sipush C 1 4 rfl rfl kS_m2185 ?_
  refine j_iand C 2 5 rfl rfl ?_
  refine j_if_eq C 3 10 8 rfl (by decide) rfl (fun c1 => ?_) (fun c1 => ?_)
  · replace h := ite_t h c1
    refine j_aload_n C 6 11 rfl rfl rfl 0 rfl ?_
    refine j_iload_n C 7 12 rfl rfl rfl 1 rfl ?_
    refine j_put C 8 15 rfl rfl fp_Con_31 3 rfl (Nat.le_of_ble_eq_true rfl) rfl rfl (st S 3 7 p1) (sK_3_7 _ _ _ _ _ _) (fun S2 eS2 => ?_)
    replace h := h S2 eS2
    refine j_iconst C 9 16 rfl rfl kI_1 ?_
    exact j_zret C 10 rfl isB_1 h
  · replace h := ite_f h c1
    refine j_iconst C 4 9 rfl rfl kI_0 ?_
    exact j_zret C 5 rfl isB_0 h
abbrev rm_K_lines : Room := { frames := 1, cells := 0, slots := 0, locals := 21 }
def wp_K_lines (S : St) (p1 : Int32) (K : Int32 → St → Prop) : Prop := wp_Con_setLines S p1 (fun r2 S1 => (isB r2 ∧ K r2 S1))
set_option maxHeartbeats 4000000 in
set_option maxRecDepth 100000 in
theorem c_K_lines (l : Launch) (D : va_G) (h0 : Nat) (a : Nat → Nat) (cI cB : ClassId) (S : St) (p1 : Int32) (K : Int32 → St → Prop) (h : wp_K_lines S p1 K) (sz : Nat) : Met l y_K_lines (Cond.code y_K_lines b_K_lines 2 (some .boolean) :: gw) rm_K_lines (va_Pc [.ref h0, .int p1] (PK D clK (tysK cI cB) (wsK h0 a cI cB S) sz)) (va_Qi K (fun u t => QK D clK (tysK cI cB) (va_A (wsK h0 a cI cB S) sz) (wsK h0 a cI cB u) t) (va_A (wsK h0 a cI cB S) sz)) 0 0 (va_A (wsK h0 a cI cB S) sz) := by
  refine met_of (rm := rm_K_lines) (pr := pr_K_lines) (Qc := fun A => va_Qi K (fun u t => QK D clK (tysK cI cB) A (wsK h0 a cI cB u) t) A) (by decide +kernel) dm_K_lines (Nat.le_of_ble_eq_true rfl) (fun p e s m args below meth c A C => ?_) sz
  unfold wp_K_lines at h
  show J p l e rm_K_lines s m args below meth c 2 D clK A 0 0 _ (wsK h0 a cI cB S) [(0, .ref h0), (1, .int p1)] 0 []
  refine j_aload_n C 0 1 rfl rfl rfl 0 rfl ?_
  refine j_get C 1 4 rfl rfl fg_K_19 0 rfl rfl ?_
  refine j_iload_n C 2 5 rfl rfl rfl 1 rfl ?_
  refine j_callVi C 3 8 rfl rfl w337 m_Con_setLines (As := [.int p1]) (c_Con_setLines l D h0 a cI cB S p1 _ h) ⟨rfl, rfl⟩ ⟨Nat.le_of_ble_eq_true rfl, Nat.le_of_ble_eq_true rfl⟩ 3 rfl rfl rfl ⟨Nat.le_of_ble_eq_true rfl, Nat.le_of_ble_eq_true rfl⟩ (Nat.le_of_ble_eq_true rfl) rfl (fun r2 S1 h => ?_)
  exact j_zret C 4 rfl h.1 h.2
abbrev rm_Ins_decode : Room := { frames := 0, cells := 0, slots := 0, locals := 0 }
def wp_Ins_decode (S : St) (p1 : Int32) (p2 : Int32) (p3 : Int32) (K : St → Prop) : Prop := ∀ S1 : St, S1 = st S 15 0 p1 → (isB p2 ∧ (∀ S2 : St, S2 = st S1 15 1 p2 → (∀ S3 : St, S3 = st S2 15 2 p3 → (∀ S4 : St, S4 = st S3 15 3 ((S3 15 2) &&& (127 : Int32)) → (∀ S5 : St, S5 = st S4 15 4 ((jushr (S4 15 2) (7 : Int32)) &&& (31 : Int32)) → (∀ S6 : St, S6 = st S5 15 5 ((jushr (S5 15 2) (12 : Int32)) &&& (7 : Int32)) → (∀ S7 : St, S7 = st S6 15 6 ((jushr (S6 15 2) (15 : Int32)) &&& (31 : Int32)) → (∀ S8 : St, S8 = st S7 15 7 ((jushr (S7 15 2) (20 : Int32)) &&& (31 : Int32)) → (∀ S9 : St, S9 = st S8 15 8 (jushr (S8 15 2) (25 : Int32)) → (K S9))))))))))
set_option maxHeartbeats 4000000 in
set_option maxRecDepth 100000 in
theorem c_Ins_decode (l : Launch) (D : va_G) (h0 : Nat) (a : Nat → Nat) (cI cB : ClassId) (S : St) (p1 : Int32) (p2 : Int32) (p3 : Int32) (K : St → Prop) (h : wp_Ins_decode S p1 p2 p3 K) (sz : Nat) : Met l y_Ins_decode (Cond.code y_Ins_decode b_Ins_decode 4 none :: gw) rm_Ins_decode (va_Pc [.ref (a 17), .int p1, .int p2, .int p3] (PK D clK (tysK cI cB) (wsK h0 a cI cB S) sz)) (va_Qv K (fun u t => QK D clK (tysK cI cB) (va_A (wsK h0 a cI cB S) sz) (wsK h0 a cI cB u) t) (va_A (wsK h0 a cI cB S) sz)) 0 0 (va_A (wsK h0 a cI cB S) sz) := by
  refine met_of (rm := rm_Ins_decode) (pr := pr_Ins_decode) (Qc := fun A => va_Qv K (fun u t => QK D clK (tysK cI cB) A (wsK h0 a cI cB u) t) A) (by decide +kernel) dm_Ins_decode (Nat.le_of_ble_eq_true rfl) (fun p e s m args below meth c A C => ?_) sz
  unfold wp_Ins_decode at h
  show J p l e rm_Ins_decode s m args below meth c 4 D clK A 0 0 _ (wsK h0 a cI cB S) [(0, .ref (a 17)), (1, .int p1), (2, .int p2), (3, .int p3)] 0 []
  refine j_aload_n C 0 1 rfl rfl rfl 0 rfl ?_
  refine j_iload_n C 1 2 rfl rfl rfl 1 rfl ?_
  refine j_put C 2 5 rfl rfl fp_Ins_7 17 rfl (Nat.le_of_ble_eq_true rfl) rfl rfl (st S 15 0 p1) (sK_17_0 _ _ _ _ _ _) (fun S1 eS1 => ?_)
  replace h := h S1 eS1
  refine j_aload_n C 3 6 rfl rfl rfl 0 rfl ?_
  refine j_iload_n C 4 7 rfl rfl rfl 2 rfl ?_
  refine j_put C 5 10 rfl rfl fp_Ins_13 17 rfl (Nat.le_of_ble_eq_true rfl) (isB_nar h.1) (isB_fit h.1) (st S1 15 1 p2) (sK_17_1 _ _ _ _ _ _) (fun S2 eS2 => ?_)
  replace h := h.2
  replace h := h S2 eS2
  refine j_aload_n C 6 11 rfl rfl rfl 0 rfl ?_
  refine j_iload_n C 7 12 rfl rfl rfl 3 rfl ?_
  refine j_put C 8 15 rfl rfl fp_Ins_17 17 rfl (Nat.le_of_ble_eq_true rfl) rfl rfl (st S2 15 2 p3) (sK_17_2 _ _ _ _ _ _) (fun S3 eS3 => ?_)
  replace h := h S3 eS3
  refine j_aload_n C 9 16 rfl rfl rfl 0 rfl ?_
  refine j_aload_n C 10 17 rfl rfl rfl 0 rfl ?_
  refine j_get C 11 20 rfl rfl fg_Ins_17 17 rfl rfl ?_
  refine j_bipush C 12 22 rfl rfl kB_127 ?_
  refine j_iand C 13 23 rfl rfl ?_
  refine j_put C 14 26 rfl rfl fp_Ins_20 17 rfl (Nat.le_of_ble_eq_true rfl) rfl rfl (st S3 15 3 ((S3 15 2) &&& (127 : Int32))) (sK_17_3 _ _ _ _ _ _) (fun S4 eS4 => ?_)
  replace h := h S4 eS4
  refine j_aload_n C 15 27 rfl rfl rfl 0 rfl ?_
  refine j_aload_n C 16 28 rfl rfl rfl 0 rfl ?_
  refine j_get C 17 31 rfl rfl fg_Ins_17 17 rfl rfl ?_
  refine j_bipush C 18 33 rfl rfl kB_7 ?_
  refine j_iushr C 19 34 rfl rfl ?_
  refine j_bipush C 20 36 rfl rfl kB_31 ?_
  refine j_iand C 21 37 rfl rfl ?_
  refine j_put C 22 40 rfl rfl fp_Ins_23 17 rfl (Nat.le_of_ble_eq_true rfl) rfl rfl (st S4 15 4 ((jushr (S4 15 2) (7 : Int32)) &&& (31 : Int32))) (sK_17_4 _ _ _ _ _ _) (fun S5 eS5 => ?_)
  replace h := h S5 eS5
  refine j_aload_n C 23 41 rfl rfl rfl 0 rfl ?_
  refine j_aload_n C 24 42 rfl rfl rfl 0 rfl ?_
  refine j_get C 25 45 rfl rfl fg_Ins_17 17 rfl rfl ?_
  refine j_bipush C 26 47 rfl rfl kB_12 ?_
  refine j_iushr C 27 48 rfl rfl ?_
  refine j_bipush C 28 50 rfl rfl kB_7 ?_
  refine j_iand C 29 51 rfl rfl ?_
  refine j_put C 30 54 rfl rfl fp_Ins_26 17 rfl (Nat.le_of_ble_eq_true rfl) rfl rfl (st S5 15 5 ((jushr (S5 15 2) (12 : Int32)) &&& (7 : Int32))) (sK_17_5 _ _ _ _ _ _) (fun S6 eS6 => ?_)
  replace h := h S6 eS6
  refine j_aload_n C 31 55 rfl rfl rfl 0 rfl ?_
  refine j_aload_n C 32 56 rfl rfl rfl 0 rfl ?_
  refine j_get C 33 59 rfl rfl fg_Ins_17 17 rfl rfl ?_
  refine j_bipush C 34 61 rfl rfl kB_15 ?_
  refine j_iushr C 35 62 rfl rfl ?_
  refine j_bipush C 36 64 rfl rfl kB_31 ?_
  refine j_iand C 37 65 rfl rfl ?_
  refine j_put C 38 68 rfl rfl fp_Ins_29 17 rfl (Nat.le_of_ble_eq_true rfl) rfl rfl (st S6 15 6 ((jushr (S6 15 2) (15 : Int32)) &&& (31 : Int32))) (sK_17_6 _ _ _ _ _ _) (fun S7 eS7 => ?_)
  replace h := h S7 eS7
  refine j_aload_n C 39 69 rfl rfl rfl 0 rfl ?_
  refine j_aload_n C 40 70 rfl rfl rfl 0 rfl ?_
  refine j_get C 41 73 rfl rfl fg_Ins_17 17 rfl rfl ?_
  refine j_bipush C 42 75 rfl rfl kB_20 ?_
  refine j_iushr C 43 76 rfl rfl ?_
  refine j_bipush C 44 78 rfl rfl kB_31 ?_
  refine j_iand C 45 79 rfl rfl ?_
  refine j_put C 46 82 rfl rfl fp_Ins_32 17 rfl (Nat.le_of_ble_eq_true rfl) rfl rfl (st S7 15 7 ((jushr (S7 15 2) (20 : Int32)) &&& (31 : Int32))) (sK_17_7 _ _ _ _ _ _) (fun S8 eS8 => ?_)
  replace h := h S8 eS8
  refine j_aload_n C 47 83 rfl rfl rfl 0 rfl ?_
  refine j_aload_n C 48 84 rfl rfl rfl 0 rfl ?_
  refine j_get C 49 87 rfl rfl fg_Ins_17 17 rfl rfl ?_
  refine j_bipush C 50 89 rfl rfl kB_25 ?_
  refine j_iushr C 51 90 rfl rfl ?_
  refine j_put C 52 93 rfl rfl fp_Ins_35 17 rfl (Nat.le_of_ble_eq_true rfl) rfl rfl (st S8 15 8 (jushr (S8 15 2) (25 : Int32))) (sK_17_8 _ _ _ _ _ _) (fun S9 eS9 => ?_)
  replace h := h S9 eS9
  exact j_vret C 53 rfl h
abbrev rm_For_entryFor : Room := { frames := 0, cells := 0, slots := 0, locals := 0 }
def wp_For_entryFor (S : St) (p1 : Int32) (K : Int32 → St → Prop) : Prop := K ((p1 >>> ((2 : Int32) &&& 31)) &&& (3 : Int32)) S
set_option maxHeartbeats 4000000 in
set_option maxRecDepth 100000 in
theorem c_For_entryFor (l : Launch) (D : va_G) (h0 : Nat) (a : Nat → Nat) (cI cB : ClassId) (S : St) (p1 : Int32) (K : Int32 → St → Prop) (h : wp_For_entryFor S p1 K) (sz : Nat) : Met l y_For_entryFor (Cond.code y_For_entryFor b_For_entryFor 1 (some .int) :: gw) rm_For_entryFor (va_Pc [.int p1] (PK D clK (tysK cI cB) (wsK h0 a cI cB S) sz)) (va_Qi K (fun u t => QK D clK (tysK cI cB) (va_A (wsK h0 a cI cB S) sz) (wsK h0 a cI cB u) t) (va_A (wsK h0 a cI cB S) sz)) 0 0 (va_A (wsK h0 a cI cB S) sz) := by
  refine met_of (rm := rm_For_entryFor) (pr := pr_For_entryFor) (Qc := fun A => va_Qi K (fun u t => QK D clK (tysK cI cB) A (wsK h0 a cI cB u) t) A) (by decide +kernel) dm_For_entryFor (Nat.le_of_ble_eq_true rfl) (fun p e s m args below meth c A C => ?_) sz
  unfold wp_For_entryFor at h
  show J p l e rm_For_entryFor s m args below meth c 1 D clK A 0 0 _ (wsK h0 a cI cB S) [(0, .int p1)] 0 []
  refine j_iload_n C 0 1 rfl rfl rfl 0 rfl ?_
  refine j_iconst C 1 2 rfl rfl kI_2 ?_
  refine j_ishr C 2 3 rfl rfl ?_
  refine j_iconst C 3 4 rfl rfl kI_3 ?_
  refine j_iand C 4 5 rfl rfl ?_
  exact j_iret C 5 rfl h
abbrev rm_For_foretell : Room := { frames := 1, cells := 0, slots := 0, locals := 20 }
def wp_For_foretell_27 (K : Int32 → St → Prop) (KH : St → Int32 → Int32 → Int32 → Int32 → Prop) (S : St) (v1 : Int32) (v2 : Int32) (v3 : Int32) (v4 : Int32) : Prop := (KH S v1 v2 v3 (v4 + 1))
set_option maxHeartbeats 4000000 in
set_option maxRecDepth 100000 in
theorem L_For_foretell_27 {p : Program} {l : Launch} {e : Env} {s : State} {m : MethodId} {args : Array Value} {below : List Frame} {meth : Method} {c : Code} {A : Nat → Prop} {D : va_G} {h0 : Nat} {a : Nat → Nat} {cI cB : ClassId} {K : Int32 → St → Prop} (C : CX p rm_For_foretell s m args meth c b_For_foretell 6 "PipelinedCore$Foreteller" (some .int) pr_For_foretell D clK (tysK cI cB) A) (KH : St → Int32 → Int32 → Int32 → Int32 → Prop) (hKH : ∀ (S : St) (v1 : Int32) (v2 : Int32) (v3 : Int32) (v4 : Int32), KH S v1 v2 v3 v4 → J p l e rm_For_foretell s m args below meth c 6 D clK A 0 0 (MQ below (va_Qi K (fun u t => QK D clK (tysK cI cB) A (wsK h0 a cI cB u) t) A) args s 0 0 A) (wsK h0 a cI cB S) [(0, .ref (a 9)), (1, .int v1), (2, .int v2), (3, .int v3), (4, .int v4)] 5 []) (S : St) (v1 : Int32) (v2 : Int32) (v3 : Int32) (v4 : Int32) (h : wp_For_foretell_27 K KH S v1 v2 v3 v4) : J p l e rm_For_foretell s m args below meth c 6 D clK A 0 0 (MQ below (va_Qi K (fun u t => QK D clK (tysK cI cB) A (wsK h0 a cI cB u) t) A) args s 0 0 A) (wsK h0 a cI cB S) [(0, .ref (a 9)), (1, .int v1), (2, .int v2), (3, .int v3), (4, .int v4)] 27 [] := by
  unfold wp_For_foretell_27 at h
  refine j_iinc C 17 30 [(4, .int (v4 + 1)), (0, .ref (a 9)), (1, .int v1), (2, .int v2), (3, .int v3)] rfl rfl 4 rfl kI_1 (by decide) rfl ?_
  refine j_goto C 18 5 rfl (by decide) ?_
  refine j_sub [1, 2, 3, 4, 0] rfl ?_
  exact hKH S v1 v2 v3 (v4 + 1) h
def wp_For_foretell_90 (K : Int32 → St → Prop) (S : St) (k0 : Int32) : Prop := K k0 S
set_option maxHeartbeats 4000000 in
set_option maxRecDepth 100000 in
theorem L_For_foretell_90 {p : Program} {l : Launch} {e : Env} {s : State} {m : MethodId} {args : Array Value} {below : List Frame} {meth : Method} {c : Code} {A : Nat → Prop} {D : va_G} {h0 : Nat} {a : Nat → Nat} {cI cB : ClassId} {K : Int32 → St → Prop} (C : CX p rm_For_foretell s m args meth c b_For_foretell 6 "PipelinedCore$Foreteller" (some .int) pr_For_foretell D clK (tysK cI cB) A) (S : St) (k0 : Int32) (h : wp_For_foretell_90 K S k0) : J p l e rm_For_foretell s m args below meth c 6 D clK A 0 0 (MQ below (va_Qi K (fun u t => QK D clK (tysK cI cB) A (wsK h0 a cI cB u) t) A) args s 0 0 A) (wsK h0 a cI cB S) [] 90 [.int k0] := by
  unfold wp_For_foretell_90 at h
  exact j_iret C 52 rfl h
def wp_For_foretell_70 (K : Int32 → St → Prop) (S : St) (v1 : Int32) (v4 : Int32) (k0 : Int32) : Prop := (if k0 = 0 then ((wp_For_foretell_90 K S (v1 + (4 : Int32)))) else (vp_in v4 12 ∧ ((wp_For_foretell_90 K S (S 9 v4.toNatClampNeg)))))
set_option maxHeartbeats 4000000 in
set_option maxRecDepth 100000 in
theorem L_For_foretell_70 {p : Program} {l : Launch} {e : Env} {s : State} {m : MethodId} {args : Array Value} {below : List Frame} {meth : Method} {c : Code} {A : Nat → Prop} {D : va_G} {h0 : Nat} {a : Nat → Nat} {cI cB : ClassId} {K : Int32 → St → Prop} (C : CX p rm_For_foretell s m args meth c b_For_foretell 6 "PipelinedCore$Foreteller" (some .int) pr_For_foretell D clK (tysK cI cB) A) (S : St) (v1 : Int32) (v4 : Int32) (k0 : Int32) (h : wp_For_foretell_70 K S v1 v4 k0) : J p l e rm_For_foretell s m args below meth c 6 D clK A 0 0 (MQ below (va_Qi K (fun u t => QK D clK (tysK cI cB) A (wsK h0 a cI cB u) t) A) args s 0 0 A) (wsK h0 a cI cB S) [(0, .ref (a 9)), (1, .int v1), (4, .int v4)] 70 [.int k0] := by
  unfold wp_For_foretell_70 at h
  refine j_istore C 41 72 [(5, .int k0), (0, .ref (a 9)), (1, .int v1), (4, .int v4)] rfl rfl (by decide) rfl ?_
  refine j_iload C 42 74 rfl rfl 0 rfl ?_
  refine j_if_eq C 43 87 77 rfl (by decide) rfl (fun c9 => ?_) (fun c9 => ?_)
  · replace h := ite_t h c9
    refine j_iload_n C 49 88 rfl rfl rfl 2 rfl ?_
    refine j_iconst C 50 89 rfl rfl kI_4 ?_
    refine j_iadd C 51 90 rfl rfl ?_
    refine j_sub [] rfl ?_
    exact L_For_foretell_90 C S (v1 + (4 : Int32)) h
  · replace h := ite_f h c9
    refine j_aload_n C 44 78 rfl rfl rfl 1 rfl ?_
    refine j_get C 45 81 rfl rfl fg_For_13 9 rfl rfl ?_
    refine j_iload C 46 83 rfl rfl 3 rfl ?_
    refine j_iald C 47 84 rfl rfl 11 0 rfl rfl h.1 ?_
    replace h := h.2
    refine j_goto C 48 90 rfl (by decide) ?_
    refine j_sub [] rfl ?_
    exact L_For_foretell_90 C S (S 9 v4.toNatClampNeg) h
def wp_For_foretell_69 (K : Int32 → St → Prop) (S : St) (v1 : Int32) (v4 : Int32) : Prop := (wp_For_foretell_70 K S v1 v4 0)
set_option maxHeartbeats 4000000 in
set_option maxRecDepth 100000 in
theorem L_For_foretell_69 {p : Program} {l : Launch} {e : Env} {s : State} {m : MethodId} {args : Array Value} {below : List Frame} {meth : Method} {c : Code} {A : Nat → Prop} {D : va_G} {h0 : Nat} {a : Nat → Nat} {cI cB : ClassId} {K : Int32 → St → Prop} (C : CX p rm_For_foretell s m args meth c b_For_foretell 6 "PipelinedCore$Foreteller" (some .int) pr_For_foretell D clK (tysK cI cB) A) (S : St) (v1 : Int32) (v4 : Int32) (h : wp_For_foretell_69 K S v1 v4) : J p l e rm_For_foretell s m args below meth c 6 D clK A 0 0 (MQ below (va_Qi K (fun u t => QK D clK (tysK cI cB) A (wsK h0 a cI cB u) t) A) args s 0 0 A) (wsK h0 a cI cB S) [(0, .ref (a 9)), (1, .int v1), (4, .int v4)] 69 [] := by
  unfold wp_For_foretell_69 at h
  refine j_iconst C 40 70 rfl rfl kI_0 ?_
  exact L_For_foretell_70 C S v1 v4 0 h
def wp_For_foretell_5 (K : Int32 → St → Prop) : Nat → St → Int32 → Int32 → Int32 → Int32 → Prop
  | 0 => fun _ _ _ _ _ => False
  | f + 1 => fun S v1 v2 v3 v4 => (fun KH : St → Int32 → Int32 → Int32 → Int32 → Prop => (if (2 : Int32) ≤ v4 then (wp_For_entryFor S v1 (fun r3 S2 => (∀ x4 : Int32, x4 = (v3 * (4 : Int32)) + r3 → (vp_in x4 12 ∧ ((if (S2 8 x4.toNatClampNeg) = v1 then (vp_in x4 12 ∧ ((if (S2 10 x4.toNatClampNeg) < 2 then ((wp_For_foretell_69 K S2 v1 x4)) else ((wp_For_foretell_70 K S2 v1 x4 1))))) else ((wp_For_foretell_69 K S2 v1 x4)))))))) else (vp_in v4 2 ∧ ((if (S 11 v4.toNatClampNeg) < v2 then ((wp_For_foretell_27 K KH S v1 v2 v3 v4)) else (∀ x8 : Int32, x8 = v4 + (1 : Int32) → ((wp_For_foretell_27 K KH S v1 v2 x8 v4)))))))) (wp_For_foretell_5 K f)
set_option maxHeartbeats 4000000 in
set_option maxRecDepth 100000 in
theorem L_For_foretell_5 {p : Program} {l : Launch} {e : Env} {s : State} {m : MethodId} {args : Array Value} {below : List Frame} {meth : Method} {c : Code} {A : Nat → Prop} {D : va_G} {h0 : Nat} {a : Nat → Nat} {cI cB : ClassId} {K : Int32 → St → Prop} (C : CX p rm_For_foretell s m args meth c b_For_foretell 6 "PipelinedCore$Foreteller" (some .int) pr_For_foretell D clK (tysK cI cB) A) (f : Nat) : ∀ (S : St) (v1 : Int32) (v2 : Int32) (v3 : Int32) (v4 : Int32), wp_For_foretell_5 K f S v1 v2 v3 v4 → J p l e rm_For_foretell s m args below meth c 6 D clK A 0 0 (MQ below (va_Qi K (fun u t => QK D clK (tysK cI cB) A (wsK h0 a cI cB u) t) A) args s 0 0 A) (wsK h0 a cI cB S) [(0, .ref (a 9)), (1, .int v1), (2, .int v2), (3, .int v3), (4, .int v4)] 5 [] := by
  induction f with
  | zero => exact fun _ _ _ _ _ h => h.elim
  | succ f ih =>
    intro S v1 v2 v3 v4 h
    have hKH := ih
    rw [wp_For_foretell_5] at h
    generalize wp_For_foretell_5 K f = KH at h hKH
    try dsimp only at h
    refine j_iload C 4 7 rfl rfl 4 rfl ?_
    refine j_iconst C 5 8 rfl rfl kI_2 ?_
    refine j_icmp_ge C 6 33 11 rfl (by decide) rfl (fun c1 => ?_) (fun c1 => ?_)
    · replace h := ite_t h c1
      refine j_iload_n C 19 34 rfl rfl rfl 3 rfl ?_
      refine j_iconst C 20 35 rfl rfl kI_4 ?_
      refine j_imul C 21 36 rfl rfl ?_
      refine j_iload_n C 22 37 rfl rfl rfl 1 rfl ?_
      refine j_callSi C 23 40 rfl rfl w357 m_For_entryFor (As := [.int v1]) (c_For_entryFor l D h0 a cI cB S v1 _ h) ⟨rfl, rfl⟩ ⟨Nat.le_of_ble_eq_true rfl, Nat.le_of_ble_eq_true rfl⟩ rfl ⟨Nat.le_of_ble_eq_true rfl, Nat.le_of_ble_eq_true rfl⟩ (Nat.le_of_ble_eq_true rfl) rfl (fun r3 S2 h => ?_)
      refine j_iadd C 24 41 rfl rfl ?_
      refine j_topi (fun x4 ex4 => ?_)
      replace h := h x4 ex4
      refine j_istore C 25 43 [(4, .int x4), (0, .ref (a 9)), (1, .int v1), (2, .int v2), (3, .int v3)] rfl rfl (by decide) rfl ?_
      refine j_aload_n C 26 44 rfl rfl rfl 1 rfl ?_
      refine j_get C 27 47 rfl rfl fg_For_9 9 rfl rfl ?_
      refine j_iload C 28 49 rfl rfl 0 rfl ?_
      refine j_iald C 29 50 rfl rfl 10 0 rfl rfl h.1 ?_
      replace h := h.2
      refine j_iload_n C 30 51 rfl rfl rfl 2 rfl ?_
      refine j_icmp_ne C 31 69 54 rfl (by decide) rfl (fun c5 => ?_) (fun c5 => ?_)
      · replace h := ite_f h c5
        refine j_sub [1, 2, 0] rfl ?_
        exact L_For_foretell_69 C S2 v1 x4 h
      · replace h := ite_t h c5
        refine j_aload_n C 32 55 rfl rfl rfl 1 rfl ?_
        refine j_get C 33 58 rfl rfl fg_For_16 9 rfl rfl ?_
        refine j_iload C 34 60 rfl rfl 0 rfl ?_
        refine j_iald C 35 61 rfl rfl 12 0 rfl rfl h.1 ?_
        replace h := h.2
        refine j_iconst C 36 62 rfl rfl kI_2 ?_
        refine j_icmp_lt C 37 69 65 rfl (by decide) rfl (fun c6 => ?_) (fun c6 => ?_)
        · replace h := ite_t h c6
          refine j_sub [1, 2, 0] rfl ?_
          exact L_For_foretell_69 C S2 v1 x4 h
        · replace h := ite_f h c6
          refine j_iconst C 38 66 rfl rfl kI_1 ?_
          refine j_goto C 39 70 rfl (by decide) ?_
          refine j_sub [1, 2, 0] rfl ?_
          exact L_For_foretell_70 C S2 v1 x4 1 h
    · replace h := ite_f h c1
      refine j_aload_n C 7 12 rfl rfl rfl 0 rfl ?_
      refine j_get C 8 15 rfl rfl fg_For_19 9 rfl rfl ?_
      refine j_iload C 9 17 rfl rfl 4 rfl ?_
      refine j_iald C 10 18 rfl rfl 13 0 rfl rfl h.1 ?_
      replace h := h.2
      refine j_iload_n C 11 19 rfl rfl rfl 2 rfl ?_
      refine j_icmp_lt C 12 27 22 rfl (by decide) rfl (fun c7 => ?_) (fun c7 => ?_)
      · replace h := ite_t h c7
        exact L_For_foretell_27 C KH hKH S v1 v2 v3 v4 h
      · replace h := ite_f h c7
        refine j_iload C 13 24 rfl rfl 4 rfl ?_
        refine j_iconst C 14 25 rfl rfl kI_1 ?_
        refine j_iadd C 15 26 rfl rfl ?_
        refine j_topi (fun x8 ex8 => ?_)
        replace h := h x8 ex8
        refine j_istore_n C 16 27 [(3, .int x8), (0, .ref (a 9)), (1, .int v1), (2, .int v2), (4, .int v4)] rfl rfl rfl (by decide) rfl ?_
        refine j_sub [1, 2, 3, 0, 4] rfl ?_
        exact L_For_foretell_27 C KH hKH S v1 v2 x8 v4 h
def wp_For_foretell (S : St) (p1 : Int32) (p2 : Int32) (K : Int32 → St → Prop) : Prop := (∃ f, wp_For_foretell_5 K f S p1 p2 0 0)
set_option maxHeartbeats 4000000 in
set_option maxRecDepth 100000 in
theorem c_For_foretell (l : Launch) (D : va_G) (h0 : Nat) (a : Nat → Nat) (cI cB : ClassId) (S : St) (p1 : Int32) (p2 : Int32) (K : Int32 → St → Prop) (h : wp_For_foretell S p1 p2 K) (sz : Nat) : Met l y_For_foretell (Cond.code y_For_foretell b_For_foretell 6 (some .int) :: gw) rm_For_foretell (va_Pc [.ref (a 9), .int p1, .int p2] (PK D clK (tysK cI cB) (wsK h0 a cI cB S) sz)) (va_Qi K (fun u t => QK D clK (tysK cI cB) (va_A (wsK h0 a cI cB S) sz) (wsK h0 a cI cB u) t) (va_A (wsK h0 a cI cB S) sz)) 0 0 (va_A (wsK h0 a cI cB S) sz) := by
  refine met_of (rm := rm_For_foretell) (pr := pr_For_foretell) (Qc := fun A => va_Qi K (fun u t => QK D clK (tysK cI cB) A (wsK h0 a cI cB u) t) A) (by decide +kernel) dm_For_foretell (Nat.le_of_ble_eq_true rfl) (fun p e s m args below meth c A C => ?_) sz
  unfold wp_For_foretell at h
  show J p l e rm_For_foretell s m args below meth c 6 D clK A 0 0 _ (wsK h0 a cI cB S) [(0, .ref (a 9)), (1, .int p1), (2, .int p2)] 0 []
  refine j_iconst C 0 1 rfl rfl kI_0 ?_
  refine j_istore_n C 1 2 [(3, .int 0), (0, .ref (a 9)), (1, .int p1), (2, .int p2)] rfl rfl rfl (by decide) rfl ?_
  refine j_iconst C 2 3 rfl rfl kI_0 ?_
  refine j_istore C 3 5 [(4, .int 0), (3, .int 0), (0, .ref (a 9)), (1, .int p1), (2, .int p2)] rfl rfl (by decide) rfl ?_
  refine j_sub [2, 3, 4, 1, 0] rfl ?_
  obtain ⟨f, h⟩ := h
  exact L_For_foretell_5 C f S p1 p2 0 0 h
abbrev rm_Ins_usesA : Room := { frames := 0, cells := 0, slots := 0, locals := 0 }
def wp_Ins_usesA_78 (K : Int32 → St → Prop) (S : St) (k0 : Int32) : Prop := isB k0 ∧ K k0 S
set_option maxHeartbeats 4000000 in
set_option maxRecDepth 100000 in
theorem L_Ins_usesA_78 {p : Program} {l : Launch} {e : Env} {s : State} {m : MethodId} {args : Array Value} {below : List Frame} {meth : Method} {c : Code} {A : Nat → Prop} {D : va_G} {h0 : Nat} {a : Nat → Nat} {cI cB : ClassId} {K : Int32 → St → Prop} (C : CX p rm_Ins_usesA s m args meth c b_Ins_usesA 1 "PipelinedCore$Instruction" (some .boolean) pr_Ins_usesA D clK (tysK cI cB) A) (S : St) (k0 : Int32) (h : wp_Ins_usesA_78 K S k0) : J p l e rm_Ins_usesA s m args below meth c 1 D clK A 0 0 (MQ below (va_Qi K (fun u t => QK D clK (tysK cI cB) A (wsK h0 a cI cB u) t) A) args s 0 0 A) (wsK h0 a cI cB S) [] 78 [.int k0] := by
  unfold wp_Ins_usesA_78 at h
  exact j_zret C 15 rfl h.1 h.2
def wp_Ins_usesA_77 (K : Int32 → St → Prop) (S : St)  : Prop := (wp_Ins_usesA_78 K S 0)
set_option maxHeartbeats 4000000 in
set_option maxRecDepth 100000 in
theorem L_Ins_usesA_77 {p : Program} {l : Launch} {e : Env} {s : State} {m : MethodId} {args : Array Value} {below : List Frame} {meth : Method} {c : Code} {A : Nat → Prop} {D : va_G} {h0 : Nat} {a : Nat → Nat} {cI cB : ClassId} {K : Int32 → St → Prop} (C : CX p rm_Ins_usesA s m args meth c b_Ins_usesA 1 "PipelinedCore$Instruction" (some .boolean) pr_Ins_usesA D clK (tysK cI cB) A) (S : St)  (h : wp_Ins_usesA_77 K S) : J p l e rm_Ins_usesA s m args below meth c 1 D clK A 0 0 (MQ below (va_Qi K (fun u t => QK D clK (tysK cI cB) A (wsK h0 a cI cB u) t) A) args s 0 0 A) (wsK h0 a cI cB S) [] 77 [] := by
  unfold wp_Ins_usesA_77 at h
  refine j_iconst C 14 78 rfl rfl kI_0 ?_
  exact L_Ins_usesA_78 C S 0 h
def wp_Ins_usesA (S : St)  (K : Int32 → St → Prop) : Prop := (if (S 15 3) = 15 then (K 0 S) else (if (S 15 3) = 23 then (K 0 S) else (if (S 15 3) = 55 then (K 0 S) else (if (S 15 3) = 111 then (K 0 S) else (if (S 15 3) = 115 then ((if (S 15 5) = 0 then ((wp_Ins_usesA_77 K S)) else ((if (5 : Int32) ≤ (S 15 5) then ((wp_Ins_usesA_77 K S)) else ((wp_Ins_usesA_78 K S 1)))))) else (K 1 S))))))
set_option maxHeartbeats 4000000 in
set_option maxRecDepth 100000 in
theorem c_Ins_usesA (l : Launch) (D : va_G) (h0 : Nat) (a : Nat → Nat) (cI cB : ClassId) (S : St)  (K : Int32 → St → Prop) (h : wp_Ins_usesA S K) (sz : Nat) : Met l y_Ins_usesA (Cond.code y_Ins_usesA b_Ins_usesA 1 (some .boolean) :: gw) rm_Ins_usesA (va_Pc [.ref (a 17)] (PK D clK (tysK cI cB) (wsK h0 a cI cB S) sz)) (va_Qi K (fun u t => QK D clK (tysK cI cB) (va_A (wsK h0 a cI cB S) sz) (wsK h0 a cI cB u) t) (va_A (wsK h0 a cI cB S) sz)) 0 0 (va_A (wsK h0 a cI cB S) sz) := by
  refine met_of (rm := rm_Ins_usesA) (pr := pr_Ins_usesA) (Qc := fun A => va_Qi K (fun u t => QK D clK (tysK cI cB) A (wsK h0 a cI cB u) t) A) (by decide +kernel) dm_Ins_usesA (Nat.le_of_ble_eq_true rfl) (fun p e s m args below meth c A C => ?_) sz
  unfold wp_Ins_usesA at h
  show J p l e rm_Ins_usesA s m args below meth c 1 D clK A 0 0 _ (wsK h0 a cI cB S) [(0, .ref (a 17))] 0 []
  refine j_aload_n C 0 1 rfl rfl rfl 0 rfl ?_
  refine j_get C 1 4 rfl rfl fg_Ins_20 17 rfl rfl ?_
  refine j_lookup C 2 rfl (by decide) [(15, 56), (23, 56), (55, 56), (111, 56), (115, 58)] 79 (by decide +kernel) (by decide) (swP_c (fun c1_0 => ?_) (fun nc1_0 => swP_c (fun c1_1 => ?_) (fun nc1_1 => swP_c (fun c1_2 => ?_) (fun nc1_2 => swP_c (fun c1_3 => ?_) (fun nc1_3 => swP_c (fun c1_4 => ?_) (fun nc1_4 => swP_n ?_))))))
  · replace h := ite_t h c1_0
    refine j_iconst C 3 57 rfl rfl kI_0 ?_
    exact j_zret C 4 rfl isB_0 h
  · replace h := ite_t (ite_f h nc1_0) c1_1
    refine j_iconst C 3 57 rfl rfl kI_0 ?_
    exact j_zret C 4 rfl isB_0 h
  · replace h := ite_t (ite_f (ite_f h nc1_0) nc1_1) c1_2
    refine j_iconst C 3 57 rfl rfl kI_0 ?_
    exact j_zret C 4 rfl isB_0 h
  · replace h := ite_t (ite_f (ite_f (ite_f h nc1_0) nc1_1) nc1_2) c1_3
    refine j_iconst C 3 57 rfl rfl kI_0 ?_
    exact j_zret C 4 rfl isB_0 h
  · replace h := ite_t (ite_f (ite_f (ite_f (ite_f h nc1_0) nc1_1) nc1_2) nc1_3) c1_4
    refine j_aload_n C 5 59 rfl rfl rfl 0 rfl ?_
    refine j_get C 6 62 rfl rfl fg_Ins_26 17 rfl rfl ?_
    refine j_if_eq C 7 77 65 rfl (by decide) rfl (fun c2 => ?_) (fun c2 => ?_)
    · replace h := ite_t h c2
      refine j_sub [] rfl ?_
      exact L_Ins_usesA_77 C S h
    · replace h := ite_f h c2
      refine j_aload_n C 8 66 rfl rfl rfl 0 rfl ?_
      refine j_get C 9 69 rfl rfl fg_Ins_26 17 rfl rfl ?_
      refine j_iconst C 10 70 rfl rfl kI_5 ?_
      refine j_icmp_ge C 11 77 73 rfl (by decide) rfl (fun c3 => ?_) (fun c3 => ?_)
      · replace h := ite_t h c3
        refine j_sub [] rfl ?_
        exact L_Ins_usesA_77 C S h
      · replace h := ite_f h c3
        refine j_iconst C 12 74 rfl rfl kI_1 ?_
        refine j_goto C 13 78 rfl (by decide) ?_
        refine j_sub [] rfl ?_
        exact L_Ins_usesA_78 C S 1 h
  · replace h := (ite_f (ite_f (ite_f (ite_f (ite_f h nc1_0) nc1_1) nc1_2) nc1_3) nc1_4)
    refine j_iconst C 16 80 rfl rfl kI_1 ?_
    exact j_zret C 17 rfl isB_1 h
abbrev rm_Ins_usesB : Room := { frames := 0, cells := 0, slots := 0, locals := 0 }
def wp_Ins_usesB_32 (K : Int32 → St → Prop) (S : St) (k0 : Int32) : Prop := isB k0 ∧ K k0 S
set_option maxHeartbeats 4000000 in
set_option maxRecDepth 100000 in
theorem L_Ins_usesB_32 {p : Program} {l : Launch} {e : Env} {s : State} {m : MethodId} {args : Array Value} {below : List Frame} {meth : Method} {c : Code} {A : Nat → Prop} {D : va_G} {h0 : Nat} {a : Nat → Nat} {cI cB : ClassId} {K : Int32 → St → Prop} (C : CX p rm_Ins_usesB s m args meth c b_Ins_usesB 1 "PipelinedCore$Instruction" (some .boolean) pr_Ins_usesB D clK (tysK cI cB) A) (S : St) (k0 : Int32) (h : wp_Ins_usesB_32 K S k0) : J p l e rm_Ins_usesB s m args below meth c 1 D clK A 0 0 (MQ below (va_Qi K (fun u t => QK D clK (tysK cI cB) A (wsK h0 a cI cB u) t) A) args s 0 0 A) (wsK h0 a cI cB S) [] 32 [.int k0] := by
  unfold wp_Ins_usesB_32 at h
  exact j_zret C 15 rfl h.1 h.2
def wp_Ins_usesB_27 (K : Int32 → St → Prop) (S : St)  : Prop := (wp_Ins_usesB_32 K S 1)
set_option maxHeartbeats 4000000 in
set_option maxRecDepth 100000 in
theorem L_Ins_usesB_27 {p : Program} {l : Launch} {e : Env} {s : State} {m : MethodId} {args : Array Value} {below : List Frame} {meth : Method} {c : Code} {A : Nat → Prop} {D : va_G} {h0 : Nat} {a : Nat → Nat} {cI cB : ClassId} {K : Int32 → St → Prop} (C : CX p rm_Ins_usesB s m args meth c b_Ins_usesB 1 "PipelinedCore$Instruction" (some .boolean) pr_Ins_usesB D clK (tysK cI cB) A) (S : St)  (h : wp_Ins_usesB_27 K S) : J p l e rm_Ins_usesB s m args below meth c 1 D clK A 0 0 (MQ below (va_Qi K (fun u t => QK D clK (tysK cI cB) A (wsK h0 a cI cB u) t) A) args s 0 0 A) (wsK h0 a cI cB S) [] 27 [] := by
  unfold wp_Ins_usesB_27 at h
  refine j_iconst C 12 28 rfl rfl kI_1 ?_
  refine j_goto C 13 32 rfl (by decide) ?_
  exact L_Ins_usesB_32 C S 1 h
def wp_Ins_usesB (S : St)  (K : Int32 → St → Prop) : Prop := (if (S 15 3) = 99 then ((wp_Ins_usesB_27 K S)) else ((if (S 15 3) = 35 then ((wp_Ins_usesB_27 K S)) else ((if (S 15 3) = 51 then ((wp_Ins_usesB_27 K S)) else ((wp_Ins_usesB_32 K S 0)))))))
set_option maxHeartbeats 4000000 in
set_option maxRecDepth 100000 in
theorem c_Ins_usesB (l : Launch) (D : va_G) (h0 : Nat) (a : Nat → Nat) (cI cB : ClassId) (S : St)  (K : Int32 → St → Prop) (h : wp_Ins_usesB S K) (sz : Nat) : Met l y_Ins_usesB (Cond.code y_Ins_usesB b_Ins_usesB 1 (some .boolean) :: gw) rm_Ins_usesB (va_Pc [.ref (a 17)] (PK D clK (tysK cI cB) (wsK h0 a cI cB S) sz)) (va_Qi K (fun u t => QK D clK (tysK cI cB) (va_A (wsK h0 a cI cB S) sz) (wsK h0 a cI cB u) t) (va_A (wsK h0 a cI cB S) sz)) 0 0 (va_A (wsK h0 a cI cB S) sz) := by
  refine met_of (rm := rm_Ins_usesB) (pr := pr_Ins_usesB) (Qc := fun A => va_Qi K (fun u t => QK D clK (tysK cI cB) A (wsK h0 a cI cB u) t) A) (by decide +kernel) dm_Ins_usesB (Nat.le_of_ble_eq_true rfl) (fun p e s m args below meth c A C => ?_) sz
  unfold wp_Ins_usesB at h
  show J p l e rm_Ins_usesB s m args below meth c 1 D clK A 0 0 _ (wsK h0 a cI cB S) [(0, .ref (a 17))] 0 []
  refine j_aload_n C 0 1 rfl rfl rfl 0 rfl ?_
  refine j_get C 1 4 rfl rfl fg_Ins_20 17 rfl rfl ?_
  refine j_bipush C 2 6 rfl rfl kB_99 ?_
  refine j_icmp_eq C 3 27 9 rfl (by decide) rfl (fun c1 => ?_) (fun c1 => ?_)
  · replace h := ite_t h c1
    refine j_sub [] rfl ?_
    exact L_Ins_usesB_27 C S h
  · replace h := ite_f h c1
    refine j_aload_n C 4 10 rfl rfl rfl 0 rfl ?_
    refine j_get C 5 13 rfl rfl fg_Ins_20 17 rfl rfl ?_
    refine j_bipush C 6 15 rfl rfl kB_35 ?_
    refine j_icmp_eq C 7 27 18 rfl (by decide) rfl (fun c2 => ?_) (fun c2 => ?_)
    · replace h := ite_t h c2
      refine j_sub [] rfl ?_
      exact L_Ins_usesB_27 C S h
    · replace h := ite_f h c2
      refine j_aload_n C 8 19 rfl rfl rfl 0 rfl ?_
      refine j_get C 9 22 rfl rfl fg_Ins_20 17 rfl rfl ?_
      refine j_bipush C 10 24 rfl rfl kB_51 ?_
      refine j_icmp_ne C 11 31 27 rfl (by decide) rfl (fun c3 => ?_) (fun c3 => ?_)
      · replace h := ite_f h c3
        refine j_iconst C 14 32 rfl rfl kI_0 ?_
        refine j_sub [] rfl ?_
        exact L_Ins_usesB_32 C S 0 h
      · replace h := ite_t h c3
        refine j_sub [] rfl ?_
        exact L_Ins_usesB_27 C S h
abbrev rm_Ins_uses : Room := { frames := 1, cells := 0, slots := 0, locals := 20 }
def wp_Ins_uses_35 (K : Int32 → St → Prop) (S : St) (k0 : Int32) : Prop := isB k0 ∧ K k0 S
set_option maxHeartbeats 4000000 in
set_option maxRecDepth 100000 in
theorem L_Ins_uses_35 {p : Program} {l : Launch} {e : Env} {s : State} {m : MethodId} {args : Array Value} {below : List Frame} {meth : Method} {c : Code} {A : Nat → Prop} {D : va_G} {h0 : Nat} {a : Nat → Nat} {cI cB : ClassId} {K : Int32 → St → Prop} (C : CX p rm_Ins_uses s m args meth c b_Ins_uses 2 "PipelinedCore$Instruction" (some .boolean) pr_Ins_uses D clK (tysK cI cB) A) (S : St) (k0 : Int32) (h : wp_Ins_uses_35 K S k0) : J p l e rm_Ins_uses s m args below meth c 2 D clK A 0 0 (MQ below (va_Qi K (fun u t => QK D clK (tysK cI cB) A (wsK h0 a cI cB u) t) A) args s 0 0 A) (wsK h0 a cI cB S) [] 35 [.int k0] := by
  unfold wp_Ins_uses_35 at h
  exact j_zret C 17 rfl h.1 h.2
def wp_Ins_uses_30 (K : Int32 → St → Prop) (S : St)  : Prop := (wp_Ins_uses_35 K S 1)
set_option maxHeartbeats 4000000 in
set_option maxRecDepth 100000 in
theorem L_Ins_uses_30 {p : Program} {l : Launch} {e : Env} {s : State} {m : MethodId} {args : Array Value} {below : List Frame} {meth : Method} {c : Code} {A : Nat → Prop} {D : va_G} {h0 : Nat} {a : Nat → Nat} {cI cB : ClassId} {K : Int32 → St → Prop} (C : CX p rm_Ins_uses s m args meth c b_Ins_uses 2 "PipelinedCore$Instruction" (some .boolean) pr_Ins_uses D clK (tysK cI cB) A) (S : St)  (h : wp_Ins_uses_30 K S) : J p l e rm_Ins_uses s m args below meth c 2 D clK A 0 0 (MQ below (va_Qi K (fun u t => QK D clK (tysK cI cB) A (wsK h0 a cI cB u) t) A) args s 0 0 A) (wsK h0 a cI cB S) [] 30 [] := by
  unfold wp_Ins_uses_30 at h
  refine j_iconst C 14 31 rfl rfl kI_1 ?_
  refine j_goto C 15 35 rfl (by decide) ?_
  exact L_Ins_uses_35 C S 1 h
def wp_Ins_uses_34 (K : Int32 → St → Prop) (S : St)  : Prop := (wp_Ins_uses_35 K S 0)
set_option maxHeartbeats 4000000 in
set_option maxRecDepth 100000 in
theorem L_Ins_uses_34 {p : Program} {l : Launch} {e : Env} {s : State} {m : MethodId} {args : Array Value} {below : List Frame} {meth : Method} {c : Code} {A : Nat → Prop} {D : va_G} {h0 : Nat} {a : Nat → Nat} {cI cB : ClassId} {K : Int32 → St → Prop} (C : CX p rm_Ins_uses s m args meth c b_Ins_uses 2 "PipelinedCore$Instruction" (some .boolean) pr_Ins_uses D clK (tysK cI cB) A) (S : St)  (h : wp_Ins_uses_34 K S) : J p l e rm_Ins_uses s m args below meth c 2 D clK A 0 0 (MQ below (va_Qi K (fun u t => QK D clK (tysK cI cB) A (wsK h0 a cI cB u) t) A) args s 0 0 A) (wsK h0 a cI cB S) [] 34 [] := by
  unfold wp_Ins_uses_34 at h
  refine j_iconst C 16 35 rfl rfl kI_0 ?_
  exact L_Ins_uses_35 C S 0 h
def wp_Ins_uses_15 (K : Int32 → St → Prop) (S : St) (v1 : Int32) : Prop := wp_Ins_usesB S (fun r6 S5 => ((if r6 = 0 then ((wp_Ins_uses_34 K S5)) else ((if (S5 15 7) = v1 then ((wp_Ins_uses_30 K S5)) else ((wp_Ins_uses_34 K S5)))))))
set_option maxHeartbeats 4000000 in
set_option maxRecDepth 100000 in
theorem L_Ins_uses_15 {p : Program} {l : Launch} {e : Env} {s : State} {m : MethodId} {args : Array Value} {below : List Frame} {meth : Method} {c : Code} {A : Nat → Prop} {D : va_G} {h0 : Nat} {a : Nat → Nat} {cI cB : ClassId} {K : Int32 → St → Prop} (C : CX p rm_Ins_uses s m args meth c b_Ins_uses 2 "PipelinedCore$Instruction" (some .boolean) pr_Ins_uses D clK (tysK cI cB) A) (S : St) (v1 : Int32) (h : wp_Ins_uses_15 K S v1) : J p l e rm_Ins_uses s m args below meth c 2 D clK A 0 0 (MQ below (va_Qi K (fun u t => QK D clK (tysK cI cB) A (wsK h0 a cI cB u) t) A) args s 0 0 A) (wsK h0 a cI cB S) [(0, .ref (a 17)), (1, .int v1)] 15 [] := by
  unfold wp_Ins_uses_15 at h
  refine j_aload_n C 7 16 rfl rfl rfl 0 rfl ?_
  refine j_callVi C 8 19 rfl rfl w369 m_Ins_usesB (As := []) (c_Ins_usesB l D h0 a cI cB S _ h) ⟨rfl, rfl⟩ ⟨Nat.le_of_ble_eq_true rfl, Nat.le_of_ble_eq_true rfl⟩ 17 rfl rfl rfl ⟨Nat.le_of_ble_eq_true rfl, Nat.le_of_ble_eq_true rfl⟩ (Nat.le_of_ble_eq_true rfl) rfl (fun r6 S5 h => ?_)
  refine j_if_eq C 9 34 22 rfl (by decide) rfl (fun c7 => ?_) (fun c7 => ?_)
  · replace h := ite_t h c7
    refine j_sub [] rfl ?_
    exact L_Ins_uses_34 C S5 h
  · replace h := ite_f h c7
    refine j_aload_n C 10 23 rfl rfl rfl 0 rfl ?_
    refine j_get C 11 26 rfl rfl fg_Ins_32 17 rfl rfl ?_
    refine j_iload_n C 12 27 rfl rfl rfl 1 rfl ?_
    refine j_icmp_ne C 13 34 30 rfl (by decide) rfl (fun c8 => ?_) (fun c8 => ?_)
    · replace h := ite_f h c8
      refine j_sub [] rfl ?_
      exact L_Ins_uses_34 C S5 h
    · replace h := ite_t h c8
      refine j_sub [] rfl ?_
      exact L_Ins_uses_30 C S5 h
def wp_Ins_uses (S : St) (p1 : Int32) (K : Int32 → St → Prop) : Prop := wp_Ins_usesA S (fun r2 S1 => ((if r2 = 0 then ((wp_Ins_uses_15 K S1 p1)) else ((if (S1 15 6) = p1 then ((wp_Ins_uses_30 K S1)) else ((wp_Ins_uses_15 K S1 p1)))))))
set_option maxHeartbeats 4000000 in
set_option maxRecDepth 100000 in
theorem c_Ins_uses (l : Launch) (D : va_G) (h0 : Nat) (a : Nat → Nat) (cI cB : ClassId) (S : St) (p1 : Int32) (K : Int32 → St → Prop) (h : wp_Ins_uses S p1 K) (sz : Nat) : Met l y_Ins_uses (Cond.code y_Ins_uses b_Ins_uses 2 (some .boolean) :: gw) rm_Ins_uses (va_Pc [.ref (a 17), .int p1] (PK D clK (tysK cI cB) (wsK h0 a cI cB S) sz)) (va_Qi K (fun u t => QK D clK (tysK cI cB) (va_A (wsK h0 a cI cB S) sz) (wsK h0 a cI cB u) t) (va_A (wsK h0 a cI cB S) sz)) 0 0 (va_A (wsK h0 a cI cB S) sz) := by
  refine met_of (rm := rm_Ins_uses) (pr := pr_Ins_uses) (Qc := fun A => va_Qi K (fun u t => QK D clK (tysK cI cB) A (wsK h0 a cI cB u) t) A) (by decide +kernel) dm_Ins_uses (Nat.le_of_ble_eq_true rfl) (fun p e s m args below meth c A C => ?_) sz
  unfold wp_Ins_uses at h
  show J p l e rm_Ins_uses s m args below meth c 2 D clK A 0 0 _ (wsK h0 a cI cB S) [(0, .ref (a 17)), (1, .int p1)] 0 []
  refine j_aload_n C 0 1 rfl rfl rfl 0 rfl ?_
  refine j_callVi C 1 4 rfl rfl w365 m_Ins_usesA (As := []) (c_Ins_usesA l D h0 a cI cB S _ h) ⟨rfl, rfl⟩ ⟨Nat.le_of_ble_eq_true rfl, Nat.le_of_ble_eq_true rfl⟩ 17 rfl rfl rfl ⟨Nat.le_of_ble_eq_true rfl, Nat.le_of_ble_eq_true rfl⟩ (Nat.le_of_ble_eq_true rfl) rfl (fun r2 S1 h => ?_)
  refine j_if_eq C 2 15 7 rfl (by decide) rfl (fun c3 => ?_) (fun c3 => ?_)
  · replace h := ite_t h c3
    exact L_Ins_uses_15 C S1 p1 h
  · replace h := ite_f h c3
    refine j_aload_n C 3 8 rfl rfl rfl 0 rfl ?_
    refine j_get C 4 11 rfl rfl fg_Ins_29 17 rfl rfl ?_
    refine j_iload_n C 5 12 rfl rfl rfl 1 rfl ?_
    refine j_icmp_eq C 6 30 15 rfl (by decide) rfl (fun c4 => ?_) (fun c4 => ?_)
    · replace h := ite_t h c4
      refine j_sub [] rfl ?_
      exact L_Ins_uses_30 C S1 h
    · replace h := ite_f h c4
      exact L_Ins_uses_15 C S1 p1 h
abbrev rm_K_expect : Room := { frames := 2, cells := 0, slots := 0, locals := 45 }
def wp_K_expect_146 (K : St → Prop) (S : St)  : Prop := K S
set_option maxHeartbeats 4000000 in
set_option maxRecDepth 100000 in
theorem L_K_expect_146 {p : Program} {l : Launch} {e : Env} {s : State} {m : MethodId} {args : Array Value} {below : List Frame} {meth : Method} {c : Code} {A : Nat → Prop} {D : va_G} {h0 : Nat} {a : Nat → Nat} {cI cB : ClassId} {K : St → Prop} (C : CX p rm_K_expect s m args meth c b_K_expect 5 "PipelinedCore" none pr_K_expect D clK (tysK cI cB) A) (S : St)  (h : wp_K_expect_146 K S) : J p l e rm_K_expect s m args below meth c 5 D clK A 0 0 (MQ below (va_Qv K (fun u t => QK D clK (tysK cI cB) A (wsK h0 a cI cB u) t) A) args s 0 0 A) (wsK h0 a cI cB S) [] 146 [] := by
  unfold wp_K_expect_146 at h
  exact j_vret C 73 rfl h
def wp_K_expect_48 (K : St → Prop) (S : St) (v1 : Int32) (v2 : Int32) (v3 : Int32) (k0 : Int32) (k1 : Int32) (k2 : Int32) : Prop := wp_Ins_decode S k2 k1 k0 (fun S5 => (wp_For_foretell S5 v1 v2 (fun r8 S7 => (∀ S9 : St, S9 = st S7 15 9 r8 → (∀ S10 : St, S10 = st S9 15 10 (jmax (v2 + (1 : Int32)) (S9 0 10)) → (∀ S11 : St, S11 = st S10 15 11 (jmax ((S10 15 10) + (1 : Int32)) v3) → ((if (S11 0 12) = 0 then ((wp_K_expect_146 K S11)) else (wp_Ins_uses S11 (S11 0 12) (fun r14 S13 => ((if r14 = 0 then ((wp_K_expect_146 K S13)) else (∀ S16 : St, S16 = st S13 15 11 (jmax (S13 15 11) (S13 0 11)) → ((wp_K_expect_146 K S16)))))))))))))))
set_option maxHeartbeats 4000000 in
set_option maxRecDepth 100000 in
theorem L_K_expect_48 {p : Program} {l : Launch} {e : Env} {s : State} {m : MethodId} {args : Array Value} {below : List Frame} {meth : Method} {c : Code} {A : Nat → Prop} {D : va_G} {h0 : Nat} {a : Nat → Nat} {cI cB : ClassId} {K : St → Prop} (C : CX p rm_K_expect s m args meth c b_K_expect 5 "PipelinedCore" none pr_K_expect D clK (tysK cI cB) A) (S : St) (v1 : Int32) (v2 : Int32) (v3 : Int32) (k0 : Int32) (k1 : Int32) (k2 : Int32) (h : wp_K_expect_48 K S v1 v2 v3 k0 k1 k2) : J p l e rm_K_expect s m args below meth c 5 D clK A 0 0 (MQ below (va_Qv K (fun u t => QK D clK (tysK cI cB) A (wsK h0 a cI cB u) t) A) args s 0 0 A) (wsK h0 a cI cB S) [(0, .ref h0), (1, .int v1), (2, .int v2), (3, .int v3)] 48 [.int k0, .int k1, .int k2, .ref (a 17)] := by
  unfold wp_K_expect_48 at h
  refine j_callVv C 27 51 rfl rfl w349 m_Ins_decode (As := [.int k2, .int k1, .int k0]) (c_Ins_decode l D h0 a cI cB S k2 k1 k0 _ h) ⟨rfl, rfl⟩ ⟨Nat.le_of_ble_eq_true rfl, Nat.le_of_ble_eq_true rfl⟩ 17 rfl rfl rfl ⟨Nat.le_of_ble_eq_true rfl, Nat.le_of_ble_eq_true rfl⟩ (Nat.le_of_ble_eq_true rfl) rfl (fun S5 h => ?_)
  refine j_aload_n C 28 52 rfl rfl rfl 0 rfl ?_
  refine j_get C 29 55 rfl rfl fg_K_47 0 rfl rfl ?_
  refine j_aload_n C 30 56 rfl rfl rfl 0 rfl ?_
  refine j_get C 31 59 rfl rfl fg_K_33 0 rfl rfl ?_
  refine j_iload_n C 32 60 rfl rfl rfl 1 rfl ?_
  refine j_iload_n C 33 61 rfl rfl rfl 2 rfl ?_
  refine j_callVi C 34 64 rfl rfl w353 m_For_foretell (As := [.int v1, .int v2]) (c_For_foretell l D h0 a cI cB S5 v1 v2 _ h) ⟨rfl, rfl⟩ ⟨Nat.le_of_ble_eq_true rfl, Nat.le_of_ble_eq_true rfl⟩ 9 rfl rfl rfl ⟨Nat.le_of_ble_eq_true rfl, Nat.le_of_ble_eq_true rfl⟩ (Nat.le_of_ble_eq_true rfl) rfl (fun r8 S7 h => ?_)
  refine j_put C 35 67 rfl rfl fp_K_252 17 rfl (Nat.le_of_ble_eq_true rfl) rfl rfl (st S7 15 9 r8) (sK_17_9 _ _ _ _ _ _) (fun S9 eS9 => ?_)
  replace h := h S9 eS9
  refine j_aload_n C 36 68 rfl rfl rfl 0 rfl ?_
  refine j_get C 37 71 rfl rfl fg_K_47 0 rfl rfl ?_
  refine j_iload_n C 38 72 rfl rfl rfl 2 rfl ?_
  refine j_iconst C 39 73 rfl rfl kI_1 ?_
  refine j_iadd C 40 74 rfl rfl ?_
  refine j_aload_n C 41 75 rfl rfl rfl 0 rfl ?_
  refine j_get C 42 78 rfl rfl fg_K_70 0 rfl rfl ?_
  refine j_mmax C 43 81 rfl rfl w360 w249 w10 w250 (Nat.le_of_ble_eq_true rfl) (Nat.le_of_ble_eq_true rfl) ⟨Nat.le_of_ble_eq_true rfl, Nat.le_of_ble_eq_true rfl⟩ ?_
  refine j_put C 44 84 rfl rfl fp_K_269 17 rfl (Nat.le_of_ble_eq_true rfl) rfl rfl (st S9 15 10 (jmax (v2 + (1 : Int32)) (S9 0 10))) (sK_17_10 _ _ _ _ _ _) (fun S10 eS10 => ?_)
  replace h := h S10 eS10
  refine j_aload_n C 45 85 rfl rfl rfl 0 rfl ?_
  refine j_get C 46 88 rfl rfl fg_K_47 0 rfl rfl ?_
  refine j_aload_n C 47 89 rfl rfl rfl 0 rfl ?_
  refine j_get C 48 92 rfl rfl fg_K_47 0 rfl rfl ?_
  refine j_get C 49 95 rfl rfl fg_K_269 17 rfl rfl ?_
  refine j_iconst C 50 96 rfl rfl kI_1 ?_
  refine j_iadd C 51 97 rfl rfl ?_
  refine j_iload_n C 52 98 rfl rfl rfl 3 rfl ?_
  refine j_mmax C 53 101 rfl rfl w360 w249 w10 w250 (Nat.le_of_ble_eq_true rfl) (Nat.le_of_ble_eq_true rfl) ⟨Nat.le_of_ble_eq_true rfl, Nat.le_of_ble_eq_true rfl⟩ ?_
  refine j_put C 54 104 rfl rfl fp_K_146 17 rfl (Nat.le_of_ble_eq_true rfl) rfl rfl (st S10 15 11 (jmax ((S10 15 10) + (1 : Int32)) v3)) (sK_17_11 _ _ _ _ _ _) (fun S11 eS11 => ?_)
  replace h := h S11 eS11
  refine j_aload_n C 55 105 rfl rfl rfl 0 rfl ?_
  refine j_get C 56 108 rfl rfl fg_K_246 0 rfl rfl ?_
  refine j_if_eq C 57 146 111 rfl (by decide) rfl (fun c12 => ?_) (fun c12 => ?_)
  · replace h := ite_t h c12
    refine j_sub [] rfl ?_
    exact L_K_expect_146 C S11 h
  · replace h := ite_f h c12
    refine j_aload_n C 58 112 rfl rfl rfl 0 rfl ?_
    refine j_get C 59 115 rfl rfl fg_K_47 0 rfl rfl ?_
    refine j_aload_n C 60 116 rfl rfl rfl 0 rfl ?_
    refine j_get C 61 119 rfl rfl fg_K_246 0 rfl rfl ?_
    refine j_callVi C 62 122 rfl rfl w361 m_Ins_uses (As := [.int (S11 0 12)]) (c_Ins_uses l D h0 a cI cB S11 (S11 0 12) _ h) ⟨rfl, rfl⟩ ⟨Nat.le_of_ble_eq_true rfl, Nat.le_of_ble_eq_true rfl⟩ 17 rfl rfl rfl ⟨Nat.le_of_ble_eq_true rfl, Nat.le_of_ble_eq_true rfl⟩ (Nat.le_of_ble_eq_true rfl) rfl (fun r14 S13 h => ?_)
    refine j_if_eq C 63 146 125 rfl (by decide) rfl (fun c15 => ?_) (fun c15 => ?_)
    · replace h := ite_t h c15
      refine j_sub [] rfl ?_
      exact L_K_expect_146 C S13 h
    · replace h := ite_f h c15
      refine j_aload_n C 64 126 rfl rfl rfl 0 rfl ?_
      refine j_get C 65 129 rfl rfl fg_K_47 0 rfl rfl ?_
      refine j_aload_n C 66 130 rfl rfl rfl 0 rfl ?_
      refine j_get C 67 133 rfl rfl fg_K_47 0 rfl rfl ?_
      refine j_get C 68 136 rfl rfl fg_K_146 17 rfl rfl ?_
      refine j_aload_n C 69 137 rfl rfl rfl 0 rfl ?_
      refine j_get C 70 140 rfl rfl fg_K_238 0 rfl rfl ?_
      refine j_mmax C 71 143 rfl rfl w360 w249 w10 w250 (Nat.le_of_ble_eq_true rfl) (Nat.le_of_ble_eq_true rfl) ⟨Nat.le_of_ble_eq_true rfl, Nat.le_of_ble_eq_true rfl⟩ ?_
      refine j_put C 72 146 rfl rfl fp_K_146 17 rfl (Nat.le_of_ble_eq_true rfl) rfl rfl (st S13 15 11 (jmax (S13 15 11) (S13 0 11))) (sK_17_11 _ _ _ _ _ _) (fun S16 eS16 => ?_)
      replace h := h S16 eS16
      refine j_sub [] rfl ?_
      exact L_K_expect_146 C S16 h
def wp_K_expect_22 (K : St → Prop) (S : St) (v1 : Int32) (v2 : Int32) (v3 : Int32) (k0 : Int32) : Prop := (if k0 = 0 then ((wp_K_expect_48 K S v1 v2 v3 0 k0 v1)) else (vp_in (v1 >>> ((2 : Int32) &&& 31)) 128 ∧ ((wp_K_expect_48 K S v1 v2 v3 (S 1 (v1 >>> ((2 : Int32) &&& 31) : Int32).toNatClampNeg) k0 v1))))
set_option maxHeartbeats 4000000 in
set_option maxRecDepth 100000 in
theorem L_K_expect_22 {p : Program} {l : Launch} {e : Env} {s : State} {m : MethodId} {args : Array Value} {below : List Frame} {meth : Method} {c : Code} {A : Nat → Prop} {D : va_G} {h0 : Nat} {a : Nat → Nat} {cI cB : ClassId} {K : St → Prop} (C : CX p rm_K_expect s m args meth c b_K_expect 5 "PipelinedCore" none pr_K_expect D clK (tysK cI cB) A) (S : St) (v1 : Int32) (v2 : Int32) (v3 : Int32) (k0 : Int32) (h : wp_K_expect_22 K S v1 v2 v3 k0) : J p l e rm_K_expect s m args below meth c 5 D clK A 0 0 (MQ below (va_Qv K (fun u t => QK D clK (tysK cI cB) A (wsK h0 a cI cB u) t) A) args s 0 0 A) (wsK h0 a cI cB S) [(0, .ref h0), (1, .int v1), (2, .int v2), (3, .int v3)] 22 [.int k0] := by
  unfold wp_K_expect_22 at h
  refine j_istore C 12 24 [(4, .int k0), (0, .ref h0), (1, .int v1), (2, .int v2), (3, .int v3)] rfl rfl (by decide) rfl ?_
  refine j_aload_n C 13 25 rfl rfl rfl 1 rfl ?_
  refine j_get C 14 28 rfl rfl fg_K_47 0 rfl rfl ?_
  refine j_iload_n C 15 29 rfl rfl rfl 2 rfl ?_
  refine j_iload C 16 31 rfl rfl 0 rfl ?_
  refine j_iload C 17 33 rfl rfl 0 rfl ?_
  refine j_if_eq C 18 47 36 rfl (by decide) rfl (fun c4 => ?_) (fun c4 => ?_)
  · replace h := ite_t h c4
    refine j_iconst C 26 48 rfl rfl kI_0 ?_
    refine j_sub [1, 2, 3, 4] rfl ?_
    exact L_K_expect_48 C S v1 v2 v3 0 k0 v1 h
  · replace h := ite_f h c4
    refine j_aload_n C 19 37 rfl rfl rfl 1 rfl ?_
    refine j_get C 20 40 rfl rfl fg_K_9 0 rfl rfl ?_
    refine j_iload_n C 21 41 rfl rfl rfl 2 rfl ?_
    refine j_iconst C 22 42 rfl rfl kI_2 ?_
    refine j_ishr C 23 43 rfl rfl ?_
    refine j_iald C 24 44 rfl rfl 1 0 rfl rfl h.1 ?_
    replace h := h.2
    refine j_goto C 25 48 rfl (by decide) ?_
    refine j_sub [1, 2, 3, 4] rfl ?_
    exact L_K_expect_48 C S v1 v2 v3 (S 1 (v1 >>> ((2 : Int32) &&& 31) : Int32).toNatClampNeg) k0 v1 h
def wp_K_expect_21 (K : St → Prop) (S : St) (v1 : Int32) (v2 : Int32) (v3 : Int32) : Prop := (wp_K_expect_22 K S v1 v2 v3 0)
set_option maxHeartbeats 4000000 in
set_option maxRecDepth 100000 in
theorem L_K_expect_21 {p : Program} {l : Launch} {e : Env} {s : State} {m : MethodId} {args : Array Value} {below : List Frame} {meth : Method} {c : Code} {A : Nat → Prop} {D : va_G} {h0 : Nat} {a : Nat → Nat} {cI cB : ClassId} {K : St → Prop} (C : CX p rm_K_expect s m args meth c b_K_expect 5 "PipelinedCore" none pr_K_expect D clK (tysK cI cB) A) (S : St) (v1 : Int32) (v2 : Int32) (v3 : Int32) (h : wp_K_expect_21 K S v1 v2 v3) : J p l e rm_K_expect s m args below meth c 5 D clK A 0 0 (MQ below (va_Qv K (fun u t => QK D clK (tysK cI cB) A (wsK h0 a cI cB u) t) A) args s 0 0 A) (wsK h0 a cI cB S) [(0, .ref h0), (1, .int v1), (2, .int v2), (3, .int v3)] 21 [] := by
  unfold wp_K_expect_21 at h
  refine j_iconst C 11 22 rfl rfl kI_0 ?_
  exact L_K_expect_22 C S v1 v2 v3 0 h
def wp_K_expect (S : St) (p1 : Int32) (p2 : Int32) (p3 : Int32) (K : St → Prop) : Prop := (if (p1 &&& (3 : Int32)) = 0 then ((if p1 < 0 then ((wp_K_expect_21 K S p1 p2 p3)) else ((if (512 : Int32) ≤ p1 then ((wp_K_expect_21 K S p1 p2 p3)) else ((wp_K_expect_22 K S p1 p2 p3 1)))))) else ((wp_K_expect_21 K S p1 p2 p3)))
set_option maxHeartbeats 4000000 in
set_option maxRecDepth 100000 in
theorem c_K_expect (l : Launch) (D : va_G) (h0 : Nat) (a : Nat → Nat) (cI cB : ClassId) (S : St) (p1 : Int32) (p2 : Int32) (p3 : Int32) (K : St → Prop) (h : wp_K_expect S p1 p2 p3 K) (sz : Nat) : Met l y_K_expect (Cond.code y_K_expect b_K_expect 5 none :: gw) rm_K_expect (va_Pc [.ref h0, .int p1, .int p2, .int p3] (PK D clK (tysK cI cB) (wsK h0 a cI cB S) sz)) (va_Qv K (fun u t => QK D clK (tysK cI cB) (va_A (wsK h0 a cI cB S) sz) (wsK h0 a cI cB u) t) (va_A (wsK h0 a cI cB S) sz)) 0 0 (va_A (wsK h0 a cI cB S) sz) := by
  refine met_of (rm := rm_K_expect) (pr := pr_K_expect) (Qc := fun A => va_Qv K (fun u t => QK D clK (tysK cI cB) A (wsK h0 a cI cB u) t) A) (by decide +kernel) dm_K_expect (Nat.le_of_ble_eq_true rfl) (fun p e s m args below meth c A C => ?_) sz
  unfold wp_K_expect at h
  show J p l e rm_K_expect s m args below meth c 5 D clK A 0 0 _ (wsK h0 a cI cB S) [(0, .ref h0), (1, .int p1), (2, .int p2), (3, .int p3)] 0 []
  refine j_iload_n C 0 1 rfl rfl rfl 1 rfl ?_
  refine j_iconst C 1 2 rfl rfl kI_3 ?_
  refine j_iand C 2 3 rfl rfl ?_
  refine j_if_ne C 3 21 6 rfl (by decide) rfl (fun c1 => ?_) (fun c1 => ?_)
  · replace h := ite_f h c1
    exact L_K_expect_21 C S p1 p2 p3 h
  · replace h := ite_t h c1
    refine j_iload_n C 4 7 rfl rfl rfl 1 rfl ?_
    refine j_if_lt C 5 21 10 rfl (by decide) rfl (fun c2 => ?_) (fun c2 => ?_)
    · replace h := ite_t h c2
      exact L_K_expect_21 C S p1 p2 p3 h
    · replace h := ite_f h c2
      refine j_iload_n C 6 11 rfl rfl rfl 1 rfl ?_
      refine j_sipush C 7 14 rfl rfl kS_512 ?_
      refine j_icmp_ge C 8 21 17 rfl (by decide) rfl (fun c3 => ?_) (fun c3 => ?_)
      · replace h := ite_t h c3
        exact L_K_expect_21 C S p1 p2 p3 h
      · replace h := ite_f h c3
        refine j_iconst C 9 18 rfl rfl kI_1 ?_
        refine j_goto C 10 22 rfl (by decide) ?_
        exact L_K_expect_22 C S p1 p2 p3 1 h
abbrev rm_Sto_wordAround : Room := { frames := 1, cells := 0, slots := 0, locals := 20 }
def wp_Sto_wordAround_23 (K : Int32 → St → Prop) (S : St) (k0 : Int32) : Prop := K k0 S
set_option maxHeartbeats 4000000 in
set_option maxRecDepth 100000 in
theorem L_Sto_wordAround_23 {p : Program} {l : Launch} {e : Env} {s : State} {m : MethodId} {args : Array Value} {below : List Frame} {meth : Method} {c : Code} {A : Nat → Prop} {D : va_G} {h0 : Nat} {a : Nat → Nat} {cI cB : ClassId} {K : Int32 → St → Prop} (C : CX p rm_Sto_wordAround s m args meth c b_Sto_wordAround 2 "PipelinedCore$Store" (some .int) pr_Sto_wordAround D clK (tysK cI cB) A) (S : St) (k0 : Int32) (h : wp_Sto_wordAround_23 K S k0) : J p l e rm_Sto_wordAround s m args below meth c 2 D clK A 0 0 (MQ below (va_Qi K (fun u t => QK D clK (tysK cI cB) A (wsK h0 a cI cB u) t) A) args s 0 0 A) (wsK h0 a cI cB S) [] 23 [.int k0] := by
  unfold wp_Sto_wordAround_23 at h
  exact j_iret C 13 rfl h
def wp_Sto_wordAround (S : St) (p1 : Int32) (K : Int32 → St → Prop) : Prop := wp_Sto_has S p1 (fun r2 S1 => ((if r2 = 0 then ((wp_Sto_wordAround_23 K S1 0)) else (vp_in ((p1 - (1024 : Int32)) >>> ((2 : Int32) &&& 31)) 64 ∧ ((wp_Sto_wordAround_23 K S1 (S1 4 ((p1 - (1024 : Int32)) >>> ((2 : Int32) &&& 31) : Int32).toNatClampNeg)))))))
set_option maxHeartbeats 4000000 in
set_option maxRecDepth 100000 in
theorem c_Sto_wordAround (l : Launch) (D : va_G) (h0 : Nat) (a : Nat → Nat) (cI cB : ClassId) (S : St) (p1 : Int32) (K : Int32 → St → Prop) (h : wp_Sto_wordAround S p1 K) (sz : Nat) : Met l y_Sto_wordAround (Cond.code y_Sto_wordAround b_Sto_wordAround 2 (some .int) :: gw) rm_Sto_wordAround (va_Pc [.ref (a 4), .int p1] (PK D clK (tysK cI cB) (wsK h0 a cI cB S) sz)) (va_Qi K (fun u t => QK D clK (tysK cI cB) (va_A (wsK h0 a cI cB S) sz) (wsK h0 a cI cB u) t) (va_A (wsK h0 a cI cB S) sz)) 0 0 (va_A (wsK h0 a cI cB S) sz) := by
  refine met_of (rm := rm_Sto_wordAround) (pr := pr_Sto_wordAround) (Qc := fun A => va_Qi K (fun u t => QK D clK (tysK cI cB) A (wsK h0 a cI cB u) t) A) (by decide +kernel) dm_Sto_wordAround (Nat.le_of_ble_eq_true rfl) (fun p e s m args below meth c A C => ?_) sz
  unfold wp_Sto_wordAround at h
  show J p l e rm_Sto_wordAround s m args below meth c 2 D clK A 0 0 _ (wsK h0 a cI cB S) [(0, .ref (a 4)), (1, .int p1)] 0 []
  refine j_iload_n C 0 1 rfl rfl rfl 1 rfl ?_
  refine j_callSi C 1 4 rfl rfl w326 m_Sto_has (As := [.int p1]) (c_Sto_has l D h0 a cI cB S p1 _ h) ⟨rfl, rfl⟩ ⟨Nat.le_of_ble_eq_true rfl, Nat.le_of_ble_eq_true rfl⟩ rfl ⟨Nat.le_of_ble_eq_true rfl, Nat.le_of_ble_eq_true rfl⟩ (Nat.le_of_ble_eq_true rfl) rfl (fun r2 S1 h => ?_)
  refine j_if_eq C 2 22 7 rfl (by decide) rfl (fun c3 => ?_) (fun c3 => ?_)
  · replace h := ite_t h c3
    refine j_iconst C 12 23 rfl rfl kI_0 ?_
    refine j_sub [] rfl ?_
    exact L_Sto_wordAround_23 C S1 0 h
  · replace h := ite_f h c3
    refine j_aload_n C 3 8 rfl rfl rfl 0 rfl ?_
    refine j_get C 4 11 rfl rfl fg_Sto_9 4 rfl rfl ?_
    refine j_iload_n C 5 12 rfl rfl rfl 1 rfl ?_
    refine j_sipush C 6 15 rfl rfl kS_1024 ?_
    refine j_isub C 7 16 rfl rfl ?_
    refine j_iconst C 8 17 rfl rfl kI_2 ?_
    refine j_ishr C 9 18 rfl rfl ?_
    refine j_iald C 10 19 rfl rfl 5 0 rfl rfl h.1 ?_
    replace h := h.2
    refine j_goto C 11 23 rfl (by decide) ?_
    refine j_sub [] rfl ?_
    exact L_Sto_wordAround_23 C S1 (S1 4 ((p1 - (1024 : Int32)) >>> ((2 : Int32) &&& 31) : Int32).toNatClampNeg) h
abbrev rm_Sto_bitsBelow : Room := { frames := 0, cells := 0, slots := 0, locals := 0 }
def wp_Sto_bitsBelow (S : St) (p1 : Int32) (K : Int32 → St → Prop) : Prop := K ((p1 &&& (3 : Int32)) * (8 : Int32)) S
set_option maxHeartbeats 4000000 in
set_option maxRecDepth 100000 in
theorem c_Sto_bitsBelow (l : Launch) (D : va_G) (h0 : Nat) (a : Nat → Nat) (cI cB : ClassId) (S : St) (p1 : Int32) (K : Int32 → St → Prop) (h : wp_Sto_bitsBelow S p1 K) (sz : Nat) : Met l y_Sto_bitsBelow (Cond.code y_Sto_bitsBelow b_Sto_bitsBelow 1 (some .int) :: gw) rm_Sto_bitsBelow (va_Pc [.int p1] (PK D clK (tysK cI cB) (wsK h0 a cI cB S) sz)) (va_Qi K (fun u t => QK D clK (tysK cI cB) (va_A (wsK h0 a cI cB S) sz) (wsK h0 a cI cB u) t) (va_A (wsK h0 a cI cB S) sz)) 0 0 (va_A (wsK h0 a cI cB S) sz) := by
  refine met_of (rm := rm_Sto_bitsBelow) (pr := pr_Sto_bitsBelow) (Qc := fun A => va_Qi K (fun u t => QK D clK (tysK cI cB) A (wsK h0 a cI cB u) t) A) (by decide +kernel) dm_Sto_bitsBelow (Nat.le_of_ble_eq_true rfl) (fun p e s m args below meth c A C => ?_) sz
  unfold wp_Sto_bitsBelow at h
  show J p l e rm_Sto_bitsBelow s m args below meth c 1 D clK A 0 0 _ (wsK h0 a cI cB S) [(0, .int p1)] 0 []
  refine j_iload_n C 0 1 rfl rfl rfl 0 rfl ?_
  refine j_iconst C 1 2 rfl rfl kI_3 ?_
  refine j_iand C 2 3 rfl rfl ?_
  refine j_bipush C 3 5 rfl rfl kB_8 ?_
  refine j_imul C 4 6 rfl rfl ?_
  exact j_iret C 5 rfl h
abbrev rm_Sto_read : Room := { frames := 2, cells := 0, slots := 0, locals := 41 }
def wp_Sto_read (S : St) (p1 : Int32) (p2 : Int32) (K : Int32 → St → Prop) : Prop := wp_Sto_wordAround S p1 (fun r2 S1 => (wp_Sto_bitsBelow S1 p1 (fun r4 S3 => (∀ x5 : Int32, x5 = jushr r2 r4 → ((if p2 = 0 then (K x5.toInt8.toInt32 S3) else (if p2 = 1 then (K x5.toInt16.toInt32 S3) else (if p2 = 2 then (K x5 S3) else (if p2 = 3 then (K x5 S3) else (if p2 = 4 then (K (x5 &&& (255 : Int32)) S3) else (if p2 = 5 then (K (x5 &&& (65535 : Int32)) S3) else (K x5 S3))))))))))))
set_option maxHeartbeats 4000000 in
set_option maxRecDepth 100000 in
theorem c_Sto_read (l : Launch) (D : va_G) (h0 : Nat) (a : Nat → Nat) (cI cB : ClassId) (S : St) (p1 : Int32) (p2 : Int32) (K : Int32 → St → Prop) (h : wp_Sto_read S p1 p2 K) (sz : Nat) : Met l y_Sto_read (Cond.code y_Sto_read b_Sto_read 4 (some .int) :: gw) rm_Sto_read (va_Pc [.ref (a 4), .int p1, .int p2] (PK D clK (tysK cI cB) (wsK h0 a cI cB S) sz)) (va_Qi K (fun u t => QK D clK (tysK cI cB) (va_A (wsK h0 a cI cB S) sz) (wsK h0 a cI cB u) t) (va_A (wsK h0 a cI cB S) sz)) 0 0 (va_A (wsK h0 a cI cB S) sz) := by
  refine met_of (rm := rm_Sto_read) (pr := pr_Sto_read) (Qc := fun A => va_Qi K (fun u t => QK D clK (tysK cI cB) A (wsK h0 a cI cB u) t) A) (by decide +kernel) dm_Sto_read (Nat.le_of_ble_eq_true rfl) (fun p e s m args below meth c A C => ?_) sz
  unfold wp_Sto_read at h
  show J p l e rm_Sto_read s m args below meth c 4 D clK A 0 0 _ (wsK h0 a cI cB S) [(0, .ref (a 4)), (1, .int p1), (2, .int p2)] 0 []
  refine j_aload_n C 0 1 rfl rfl rfl 0 rfl ?_
  refine j_iload_n C 1 2 rfl rfl rfl 1 rfl ?_
  refine j_callVi C 2 5 rfl rfl w385 m_Sto_wordAround (As := [.int p1]) (c_Sto_wordAround l D h0 a cI cB S p1 _ h) ⟨rfl, rfl⟩ ⟨Nat.le_of_ble_eq_true rfl, Nat.le_of_ble_eq_true rfl⟩ 4 rfl rfl rfl ⟨Nat.le_of_ble_eq_true rfl, Nat.le_of_ble_eq_true rfl⟩ (Nat.le_of_ble_eq_true rfl) rfl (fun r2 S1 h => ?_)
  refine j_iload_n C 3 6 rfl rfl rfl 1 rfl ?_
  refine j_callSi C 4 9 rfl rfl w389 m_Sto_bitsBelow (As := [.int p1]) (c_Sto_bitsBelow l D h0 a cI cB S1 p1 _ h) ⟨rfl, rfl⟩ ⟨Nat.le_of_ble_eq_true rfl, Nat.le_of_ble_eq_true rfl⟩ rfl ⟨Nat.le_of_ble_eq_true rfl, Nat.le_of_ble_eq_true rfl⟩ (Nat.le_of_ble_eq_true rfl) rfl (fun r4 S3 h => ?_)
  refine j_iushr C 5 10 rfl rfl ?_
  refine j_topi (fun x5 ex5 => ?_)
  replace h := h x5 ex5
  refine j_istore_n C 6 11 [(3, .int x5), (0, .ref (a 4)), (1, .int p1), (2, .int p2)] rfl rfl rfl (by decide) rfl ?_
  refine j_iload_n C 7 12 rfl rfl rfl 3 rfl ?_
  refine j_table C 8 rfl [(0, 52), (1, 55), (2, 69), (3, 69), (4, 58), (5, 64)] 69 (by decide +kernel) (by decide) (by decide) (swP_c (fun c6_0 => ?_) (fun nc6_0 => swP_c (fun c6_1 => ?_) (fun nc6_1 => swP_c (fun c6_2 => ?_) (fun nc6_2 => swP_c (fun c6_3 => ?_) (fun nc6_3 => swP_c (fun c6_4 => ?_) (fun nc6_4 => swP_c (fun c6_5 => ?_) (fun nc6_5 => swP_n ?_)))))))
  · replace h := ite_t h c6_0
    refine j_iload_n C 9 53 rfl rfl rfl 0 rfl ?_
    refine j_i2b C 10 54 rfl rfl ?_
    exact j_iret C 11 rfl h
  · replace h := ite_t (ite_f h nc6_0) c6_1
    refine j_iload_n C 12 56 rfl rfl rfl 0 rfl ?_
    refine j_i2s C 13 57 rfl rfl ?_
    exact j_iret C 14 rfl h
  · replace h := ite_t (ite_f (ite_f h nc6_0) nc6_1) c6_2
    refine j_iload_n C 23 70 rfl rfl rfl 0 rfl ?_
    exact j_iret C 24 rfl h
  · replace h := ite_t (ite_f (ite_f (ite_f h nc6_0) nc6_1) nc6_2) c6_3
    refine j_iload_n C 23 70 rfl rfl rfl 0 rfl ?_
    exact j_iret C 24 rfl h
  · replace h := ite_t (ite_f (ite_f (ite_f (ite_f h nc6_0) nc6_1) nc6_2) nc6_3) c6_4
    refine j_iload_n C 15 59 rfl rfl rfl 0 rfl ?_
    refine j_sipush C 16 62 rfl rfl kS_255 ?_
    refine j_iand C 17 63 rfl rfl ?_
    exact j_iret C 18 rfl h
  · replace h := ite_t (ite_f (ite_f (ite_f (ite_f (ite_f h nc6_0) nc6_1) nc6_2) nc6_3) nc6_4) c6_5
    refine j_iload_n C 19 65 rfl rfl rfl 0 rfl ?_
    refine j_ldc C 20 67 rfl rfl w392 ?_
    refine j_iand C 21 68 rfl rfl ?_
    exact j_iret C 22 rfl h
  · replace h := (ite_f (ite_f (ite_f (ite_f (ite_f (ite_f h nc6_0) nc6_1) nc6_2) nc6_3) nc6_4) nc6_5)
    refine j_iload_n C 23 70 rfl rfl rfl 0 rfl ?_
    exact j_iret C 24 rfl h
abbrev rm_Sto_write : Room := { frames := 2, cells := 0, slots := 0, locals := 42 }
def wp_Sto_write_21 (K : St → Prop) (S : St) (v1 : Int32) (v3 : Int32) (k0 : Int32) : Prop := wp_Sto_bitsBelow S v1 (fun r4 S3 => (∀ x5 : Int32, x5 = k0 <<< (r4 &&& 31) → (wp_Sto_wordAround S3 v1 (fun r7 S6 => (∀ x8 : Int32, x8 = r7 &&& (x5 ^^^ (-1 : Int32)) → (wp_Sto_bitsBelow S6 v1 (fun r10 S9 => (wp_Sto_setWord S9 v1 (x8 ||| ((v3 <<< (r10 &&& 31)) &&& x5)) (fun S11 => (K S11))))))))))
set_option maxHeartbeats 4000000 in
set_option maxRecDepth 100000 in
theorem L_Sto_write_21 {p : Program} {l : Launch} {e : Env} {s : State} {m : MethodId} {args : Array Value} {below : List Frame} {meth : Method} {c : Code} {A : Nat → Prop} {D : va_G} {h0 : Nat} {a : Nat → Nat} {cI cB : ClassId} {K : St → Prop} (C : CX p rm_Sto_write s m args meth c b_Sto_write 7 "PipelinedCore$Store" none pr_Sto_write D clK (tysK cI cB) A) (S : St) (v1 : Int32) (v3 : Int32) (k0 : Int32) (h : wp_Sto_write_21 K S v1 v3 k0) : J p l e rm_Sto_write s m args below meth c 7 D clK A 0 0 (MQ below (va_Qv K (fun u t => QK D clK (tysK cI cB) A (wsK h0 a cI cB u) t) A) args s 0 0 A) (wsK h0 a cI cB S) [(0, .ref (a 4)), (1, .int v1), (3, .int v3)] 21 [.int k0] := by
  unfold wp_Sto_write_21 at h
  refine j_istore C 10 23 [(4, .int k0), (0, .ref (a 4)), (1, .int v1), (3, .int v3)] rfl rfl (by decide) rfl ?_
  refine j_iload C 11 25 rfl rfl 0 rfl ?_
  refine j_iload_n C 12 26 rfl rfl rfl 2 rfl ?_
  refine j_callSi C 13 29 rfl rfl w389 m_Sto_bitsBelow (As := [.int v1]) (c_Sto_bitsBelow l D h0 a cI cB S v1 _ h) ⟨rfl, rfl⟩ ⟨Nat.le_of_ble_eq_true rfl, Nat.le_of_ble_eq_true rfl⟩ rfl ⟨Nat.le_of_ble_eq_true rfl, Nat.le_of_ble_eq_true rfl⟩ (Nat.le_of_ble_eq_true rfl) rfl (fun r4 S3 h => ?_)
  refine j_ishl C 14 30 rfl rfl ?_
  refine j_topi (fun x5 ex5 => ?_)
  replace h := h x5 ex5
  refine j_istore C 15 32 [(5, .int x5), (4, .int k0), (0, .ref (a 4)), (1, .int v1), (3, .int v3)] rfl rfl (by decide) rfl ?_
  refine j_aload_n C 16 33 rfl rfl rfl 2 rfl ?_
  refine j_iload_n C 17 34 rfl rfl rfl 3 rfl ?_
  refine j_callVi C 18 37 rfl rfl w385 m_Sto_wordAround (As := [.int v1]) (c_Sto_wordAround l D h0 a cI cB S3 v1 _ h) ⟨rfl, rfl⟩ ⟨Nat.le_of_ble_eq_true rfl, Nat.le_of_ble_eq_true rfl⟩ 4 rfl rfl rfl ⟨Nat.le_of_ble_eq_true rfl, Nat.le_of_ble_eq_true rfl⟩ (Nat.le_of_ble_eq_true rfl) rfl (fun r7 S6 h => ?_)
  refine j_iload C 19 39 rfl rfl 0 rfl ?_
  refine j_iconst C 20 40 rfl rfl kI_m1 ?_
  refine j_ixor C 21 41 rfl rfl ?_
  refine j_iand C 22 42 rfl rfl ?_
  refine j_topi (fun x8 ex8 => ?_)
  replace h := h x8 ex8
  refine j_istore C 23 44 [(6, .int x8), (5, .int x5), (4, .int k0), (0, .ref (a 4)), (1, .int v1), (3, .int v3)] rfl rfl (by decide) rfl ?_
  refine j_aload_n C 24 45 rfl rfl rfl 3 rfl ?_
  refine j_iload_n C 25 46 rfl rfl rfl 4 rfl ?_
  refine j_iload C 26 48 rfl rfl 0 rfl ?_
  refine j_iload_n C 27 49 rfl rfl rfl 5 rfl ?_
  refine j_iload_n C 28 50 rfl rfl rfl 4 rfl ?_
  refine j_callSi C 29 53 rfl rfl w389 m_Sto_bitsBelow (As := [.int v1]) (c_Sto_bitsBelow l D h0 a cI cB S6 v1 _ h) ⟨rfl, rfl⟩ ⟨Nat.le_of_ble_eq_true rfl, Nat.le_of_ble_eq_true rfl⟩ rfl ⟨Nat.le_of_ble_eq_true rfl, Nat.le_of_ble_eq_true rfl⟩ (Nat.le_of_ble_eq_true rfl) rfl (fun r10 S9 h => ?_)
  refine j_ishl C 30 54 rfl rfl ?_
  refine j_iload C 31 56 rfl rfl 1 rfl ?_
  refine j_iand C 32 57 rfl rfl ?_
  refine j_ior C 33 58 rfl rfl ?_
  refine j_callVv C 34 61 rfl rfl w397 m_Sto_setWord (As := [.int v1, .int (x8 ||| ((v3 <<< (r10 &&& 31)) &&& x5))]) (c_Sto_setWord l D h0 a cI cB S9 v1 (x8 ||| ((v3 <<< (r10 &&& 31)) &&& x5)) _ h) ⟨rfl, rfl⟩ ⟨Nat.le_of_ble_eq_true rfl, Nat.le_of_ble_eq_true rfl⟩ 4 rfl rfl rfl ⟨Nat.le_of_ble_eq_true rfl, Nat.le_of_ble_eq_true rfl⟩ (Nat.le_of_ble_eq_true rfl) rfl (fun S11 h => ?_)
  exact j_vret C 35 rfl h
def wp_Sto_write (S : St) (p1 : Int32) (p2 : Int32) (p3 : Int32) (K : St → Prop) : Prop := (if p2 = 0 then ((wp_Sto_write_21 K S p1 p3 255)) else ((if p2 = 1 then ((wp_Sto_write_21 K S p1 p3 65535)) else ((wp_Sto_write_21 K S p1 p3 (-1))))))
set_option maxHeartbeats 4000000 in
set_option maxRecDepth 100000 in
theorem c_Sto_write (l : Launch) (D : va_G) (h0 : Nat) (a : Nat → Nat) (cI cB : ClassId) (S : St) (p1 : Int32) (p2 : Int32) (p3 : Int32) (K : St → Prop) (h : wp_Sto_write S p1 p2 p3 K) (sz : Nat) : Met l y_Sto_write (Cond.code y_Sto_write b_Sto_write 7 none :: gw) rm_Sto_write (va_Pc [.ref (a 4), .int p1, .int p2, .int p3] (PK D clK (tysK cI cB) (wsK h0 a cI cB S) sz)) (va_Qv K (fun u t => QK D clK (tysK cI cB) (va_A (wsK h0 a cI cB S) sz) (wsK h0 a cI cB u) t) (va_A (wsK h0 a cI cB S) sz)) 0 0 (va_A (wsK h0 a cI cB S) sz) := by
  refine met_of (rm := rm_Sto_write) (pr := pr_Sto_write) (Qc := fun A => va_Qv K (fun u t => QK D clK (tysK cI cB) A (wsK h0 a cI cB u) t) A) (by decide +kernel) dm_Sto_write (Nat.le_of_ble_eq_true rfl) (fun p e s m args below meth c A C => ?_) sz
  unfold wp_Sto_write at h
  show J p l e rm_Sto_write s m args below meth c 7 D clK A 0 0 _ (wsK h0 a cI cB S) [(0, .ref (a 4)), (1, .int p1), (2, .int p2), (3, .int p3)] 0 []
  refine j_iload_n C 0 1 rfl rfl rfl 2 rfl ?_
  refine j_if_ne C 1 10 4 rfl (by decide) rfl (fun c1 => ?_) (fun c1 => ?_)
  · replace h := ite_f h c1
    refine j_iload_n C 4 11 rfl rfl rfl 2 rfl ?_
    refine j_iconst C 5 12 rfl rfl kI_1 ?_
    refine j_icmp_ne C 6 20 15 rfl (by decide) rfl (fun c2 => ?_) (fun c2 => ?_)
    · replace h := ite_f h c2
      refine j_iconst C 9 21 rfl rfl kI_m1 ?_
      refine j_sub [0, 1, 3] rfl ?_
      exact L_Sto_write_21 C S p1 p3 (-1) h
    · replace h := ite_t h c2
      refine j_ldc C 7 17 rfl rfl w392 ?_
      refine j_goto C 8 21 rfl (by decide) ?_
      refine j_sub [0, 1, 3] rfl ?_
      exact L_Sto_write_21 C S p1 p3 65535 h
  · replace h := ite_t h c1
    refine j_sipush C 2 7 rfl rfl kS_255 ?_
    refine j_goto C 3 21 rfl (by decide) ?_
    refine j_sub [0, 1, 3] rfl ?_
    exact L_Sto_write_21 C S p1 p3 255 h
abbrev rm_His_add : Room := { frames := 0, cells := 0, slots := 0, locals := 0 }
def wp_His_add (S : St) (p1 : Int32) (p2 : Int32) (K : St → Prop) : Prop := ∀ x1 : Int32, x1 = (S 12 2) &&& (15 : Int32) → (vp_in x1 16 ∧ (∀ S2 : St, S2 = st S 13 x1.toNatClampNeg p1 → (vp_in x1 16 ∧ (∀ S3 : St, S3 = st S2 14 x1.toNatClampNeg p2 → (∀ S4 : St, S4 = st S3 12 2 ((S3 12 2) + (1 : Int32)) → (K S4))))))
set_option maxHeartbeats 4000000 in
set_option maxRecDepth 100000 in
theorem c_His_add (l : Launch) (D : va_G) (h0 : Nat) (a : Nat → Nat) (cI cB : ClassId) (S : St) (p1 : Int32) (p2 : Int32) (K : St → Prop) (h : wp_His_add S p1 p2 K) (sz : Nat) : Met l y_His_add (Cond.code y_His_add b_His_add 4 none :: gw) rm_His_add (va_Pc [.ref (a 14), .int p1, .int p2] (PK D clK (tysK cI cB) (wsK h0 a cI cB S) sz)) (va_Qv K (fun u t => QK D clK (tysK cI cB) (va_A (wsK h0 a cI cB S) sz) (wsK h0 a cI cB u) t) (va_A (wsK h0 a cI cB S) sz)) 0 0 (va_A (wsK h0 a cI cB S) sz) := by
  refine met_of (rm := rm_His_add) (pr := pr_His_add) (Qc := fun A => va_Qv K (fun u t => QK D clK (tysK cI cB) A (wsK h0 a cI cB u) t) A) (by decide +kernel) dm_His_add (Nat.le_of_ble_eq_true rfl) (fun p e s m args below meth c A C => ?_) sz
  unfold wp_His_add at h
  show J p l e rm_His_add s m args below meth c 4 D clK A 0 0 _ (wsK h0 a cI cB S) [(0, .ref (a 14)), (1, .int p1), (2, .int p2)] 0 []
  refine j_aload_n C 0 1 rfl rfl rfl 0 rfl ?_
  refine j_get C 1 4 rfl rfl fg_His_16 14 rfl rfl ?_
  refine j_bipush C 2 6 rfl rfl kB_15 ?_
  refine j_iand C 3 7 rfl rfl ?_
  refine j_topi (fun x1 ex1 => ?_)
  replace h := h x1 ex1
  refine j_istore_n C 4 8 [(3, .int x1), (0, .ref (a 14)), (1, .int p1), (2, .int p2)] rfl rfl rfl (by decide) rfl ?_
  refine j_aload_n C 5 9 rfl rfl rfl 1 rfl ?_
  refine j_get C 6 12 rfl rfl fg_His_9 14 rfl rfl ?_
  refine j_iload_n C 7 13 rfl rfl rfl 0 rfl ?_
  refine j_iload_n C 8 14 rfl rfl rfl 2 rfl ?_
  refine j_iast C 9 15 rfl rfl 15 0 rfl rfl h.1 (st S 13 x1.toNatClampNeg p1) (sK_15 _ _ _ _ _ _ _) (fun S2 eS2 => ?_)
  replace h := h.2
  replace h := h S2 eS2
  refine j_aload_n C 10 16 rfl rfl rfl 1 rfl ?_
  refine j_get C 11 19 rfl rfl fg_His_13 14 rfl rfl ?_
  refine j_iload_n C 12 20 rfl rfl rfl 0 rfl ?_
  refine j_iload_n C 13 21 rfl rfl rfl 3 rfl ?_
  refine j_iast C 14 22 rfl rfl 16 0 rfl rfl h.1 (st S2 14 x1.toNatClampNeg p2) (sK_16 _ _ _ _ _ _ _) (fun S3 eS3 => ?_)
  replace h := h.2
  replace h := h S3 eS3
  refine j_aload_n C 15 23 rfl rfl rfl 1 rfl ?_
  refine j_dup C 16 24 rfl rfl rfl ?_
  refine j_get C 17 27 rfl rfl fg_His_16 14 rfl rfl ?_
  refine j_iconst C 18 28 rfl rfl kI_1 ?_
  refine j_iadd C 19 29 rfl rfl ?_
  refine j_put C 20 32 rfl rfl fp_His_16 14 rfl (Nat.le_of_ble_eq_true rfl) rfl rfl (st S3 12 2 ((S3 12 2) + (1 : Int32))) (sK_14_2 _ _ _ _ _ _) (fun S4 eS4 => ?_)
  replace h := h S4 eS4
  exact j_vret C 21 rfl h
abbrev rm_K_end : Room := { frames := 3, cells := 0, slots := 0, locals := 68 }
def wp_K_end_99 (K : St → Prop) (S : St)  : Prop := wp_His_add S (S 17 1) (S 0 10) (fun S13 => (K S13))
set_option maxHeartbeats 4000000 in
set_option maxRecDepth 100000 in
theorem L_K_end_99 {p : Program} {l : Launch} {e : Env} {s : State} {m : MethodId} {args : Array Value} {below : List Frame} {meth : Method} {c : Code} {A : Nat → Prop} {D : va_G} {h0 : Nat} {a : Nat → Nat} {cI cB : ClassId} {K : St → Prop} (C : CX p rm_K_end s m args meth c b_K_end 2 "PipelinedCore" none pr_K_end D clK (tysK cI cB) A) (S : St)  (h : wp_K_end_99 K S) : J p l e rm_K_end s m args below meth c 2 D clK A 0 0 (MQ below (va_Qv K (fun u t => QK D clK (tysK cI cB) A (wsK h0 a cI cB u) t) A) args s 0 0 A) (wsK h0 a cI cB S) [(0, .ref h0), (1, .ref (a 19))] 99 [] := by
  unfold wp_K_end_99 at h
  refine j_aload_n C 49 100 rfl rfl rfl 0 rfl ?_
  refine j_get C 50 103 rfl rfl fg_K_40 0 rfl rfl ?_
  refine j_aload_n C 51 104 rfl rfl rfl 1 rfl ?_
  refine j_get C 52 107 rfl rfl fg_K_115 19 rfl rfl ?_
  refine j_aload_n C 53 108 rfl rfl rfl 0 rfl ?_
  refine j_get C 54 111 rfl rfl fg_K_70 0 rfl rfl ?_
  refine j_callVv C 55 114 rfl rfl w398 m_His_add (As := [.int (S 17 1), .int (S 0 10)]) (c_His_add l D h0 a cI cB S (S 17 1) (S 0 10) _ h) ⟨rfl, rfl⟩ ⟨Nat.le_of_ble_eq_true rfl, Nat.le_of_ble_eq_true rfl⟩ 14 rfl rfl rfl ⟨Nat.le_of_ble_eq_true rfl, Nat.le_of_ble_eq_true rfl⟩ (Nat.le_of_ble_eq_true rfl) rfl (fun S13 h => ?_)
  exact j_vret C 56 rfl h
def wp_K_end_82 (K : St → Prop) (S : St)  : Prop := (if (S 17 5) = 0 then ((wp_K_end_99 K S)) else (∀ S12 : St, S12 = st S 0 13 ((S 0 13) + (1 : Int32)) → ((wp_K_end_99 K S12))))
set_option maxHeartbeats 4000000 in
set_option maxRecDepth 100000 in
theorem L_K_end_82 {p : Program} {l : Launch} {e : Env} {s : State} {m : MethodId} {args : Array Value} {below : List Frame} {meth : Method} {c : Code} {A : Nat → Prop} {D : va_G} {h0 : Nat} {a : Nat → Nat} {cI cB : ClassId} {K : St → Prop} (C : CX p rm_K_end s m args meth c b_K_end 2 "PipelinedCore" none pr_K_end D clK (tysK cI cB) A) (S : St)  (h : wp_K_end_82 K S) : J p l e rm_K_end s m args below meth c 2 D clK A 0 0 (MQ below (va_Qv K (fun u t => QK D clK (tysK cI cB) A (wsK h0 a cI cB u) t) A) args s 0 0 A) (wsK h0 a cI cB S) [(0, .ref h0), (1, .ref (a 19))] 82 [] := by
  unfold wp_K_end_82 at h
  refine j_aload_n C 40 83 rfl rfl rfl 1 rfl ?_
  refine j_get C 41 86 rfl rfl fg_K_175 19 rfl rfl ?_
  refine j_if_eq C 42 99 89 rfl (by decide) rfl (fun c11 => ?_) (fun c11 => ?_)
  · replace h := ite_t h c11
    exact L_K_end_99 C S h
  · replace h := ite_f h c11
    refine j_aload_n C 43 90 rfl rfl rfl 0 rfl ?_
    refine j_dup C 44 91 rfl rfl rfl ?_
    refine j_get C 45 94 rfl rfl fg_K_121 0 rfl rfl ?_
    refine j_iconst C 46 95 rfl rfl kI_1 ?_
    refine j_iadd C 47 96 rfl rfl ?_
    refine j_put C 48 99 rfl rfl fp_K_121 0 rfl (Nat.le_of_ble_eq_true rfl) rfl rfl (st S 0 13 ((S 0 13) + (1 : Int32))) (sK_0_13 _ _ _ _ _ _) (fun S12 eS12 => ?_)
    replace h := h S12 eS12
    exact L_K_end_99 C S12 h
def wp_K_end_62 (K : St → Prop) (S : St)  : Prop := (if (S 17 6) = 0 then ((wp_K_end_82 K S)) else (vp_in (S 17 6) 32 ∧ (∀ S10 : St, S10 = st S 2 (S 17 6 : Int32).toNatClampNeg (S 17 7) → ((wp_K_end_82 K S10)))))
set_option maxHeartbeats 4000000 in
set_option maxRecDepth 100000 in
theorem L_K_end_62 {p : Program} {l : Launch} {e : Env} {s : State} {m : MethodId} {args : Array Value} {below : List Frame} {meth : Method} {c : Code} {A : Nat → Prop} {D : va_G} {h0 : Nat} {a : Nat → Nat} {cI cB : ClassId} {K : St → Prop} (C : CX p rm_K_end s m args meth c b_K_end 2 "PipelinedCore" none pr_K_end D clK (tysK cI cB) A) (S : St)  (h : wp_K_end_62 K S) : J p l e rm_K_end s m args below meth c 2 D clK A 0 0 (MQ below (va_Qv K (fun u t => QK D clK (tysK cI cB) A (wsK h0 a cI cB u) t) A) args s 0 0 A) (wsK h0 a cI cB S) [(0, .ref h0), (1, .ref (a 19))] 62 [] := by
  unfold wp_K_end_62 at h
  refine j_aload_n C 30 63 rfl rfl rfl 1 rfl ?_
  refine j_get C 31 66 rfl rfl fg_K_172 19 rfl rfl ?_
  refine j_if_eq C 32 82 69 rfl (by decide) rfl (fun c9 => ?_) (fun c9 => ?_)
  · replace h := ite_t h c9
    exact L_K_end_82 C S h
  · replace h := ite_f h c9
    refine j_aload_n C 33 70 rfl rfl rfl 0 rfl ?_
    refine j_get C 34 73 rfl rfl fg_K_13 0 rfl rfl ?_
    refine j_aload_n C 35 74 rfl rfl rfl 1 rfl ?_
    refine j_get C 36 77 rfl rfl fg_K_172 19 rfl rfl ?_
    refine j_aload_n C 37 78 rfl rfl rfl 1 rfl ?_
    refine j_get C 38 81 rfl rfl fg_K_163 19 rfl rfl ?_
    refine j_iast C 39 82 rfl rfl 2 0 rfl rfl h.1 (st S 2 (S 17 6 : Int32).toNatClampNeg (S 17 7)) (sK_2 _ _ _ _ _ _ _) (fun S10 eS10 => ?_)
    replace h := h.2
    replace h := h S10 eS10
    exact L_K_end_82 C S10 h
def wp_K_end (S : St)  (K : St → Prop) : Prop := ∀ S1 : St, S1 = st S 17 0 0 → ((if (S1 17 8) = 1 then (wp_Sto_read S1 (S1 17 9) (S1 17 10) (fun r7 S6 => (∀ S8 : St, S8 = st S6 17 7 r7 → ((wp_K_end_62 K S8))))) else ((if (S1 17 8) = 2 then (wp_Sto_write S1 (S1 17 9) (S1 17 10) (S1 17 11) (fun S4 => ((wp_K_end_62 K S4)))) else ((wp_K_end_62 K S1))))))
set_option maxHeartbeats 4000000 in
set_option maxRecDepth 100000 in
theorem c_K_end (l : Launch) (D : va_G) (h0 : Nat) (a : Nat → Nat) (cI cB : ClassId) (S : St)  (K : St → Prop) (h : wp_K_end S K) (sz : Nat) : Met l y_K_end (Cond.code y_K_end b_K_end 2 none :: gw) rm_K_end (va_Pc [.ref h0, .ref (a 19)] (PK D clK (tysK cI cB) (wsK h0 a cI cB S) sz)) (va_Qv K (fun u t => QK D clK (tysK cI cB) (va_A (wsK h0 a cI cB S) sz) (wsK h0 a cI cB u) t) (va_A (wsK h0 a cI cB S) sz)) 0 0 (va_A (wsK h0 a cI cB S) sz) := by
  refine met_of (rm := rm_K_end) (pr := pr_K_end) (Qc := fun A => va_Qv K (fun u t => QK D clK (tysK cI cB) A (wsK h0 a cI cB u) t) A) (by decide +kernel) dm_K_end (Nat.le_of_ble_eq_true rfl) (fun p e s m args below meth c A C => ?_) sz
  unfold wp_K_end at h
  show J p l e rm_K_end s m args below meth c 2 D clK A 0 0 _ (wsK h0 a cI cB S) [(0, .ref h0), (1, .ref (a 19))] 0 []
  refine j_aload_n C 0 1 rfl rfl rfl 1 rfl ?_
  refine j_iconst C 1 2 rfl rfl kI_0 ?_
  refine j_put C 2 5 rfl rfl fp_K_111 19 rfl (Nat.le_of_ble_eq_true rfl) (isB_nar isB_0) (isB_fit isB_0) (st S 17 0 0) (sK_19_0 _ _ _ _ _ _) (fun S1 eS1 => ?_)
  replace h := h S1 eS1
  refine j_aload_n C 3 6 rfl rfl rfl 1 rfl ?_
  refine j_get C 4 9 rfl rfl fg_K_152 19 rfl rfl ?_
  refine j_iconst C 5 10 rfl rfl kI_1 ?_
  refine j_icmp_ne C 6 35 13 rfl (by decide) rfl (fun c2 => ?_) (fun c2 => ?_)
  · replace h := ite_f h c2
    refine j_aload_n C 17 36 rfl rfl rfl 1 rfl ?_
    refine j_get C 18 39 rfl rfl fg_K_152 19 rfl rfl ?_
    refine j_iconst C 19 40 rfl rfl kI_2 ?_
    refine j_icmp_ne C 20 62 43 rfl (by decide) rfl (fun c3 => ?_) (fun c3 => ?_)
    · replace h := ite_f h c3
      exact L_K_end_62 C S1 h
    · replace h := ite_t h c3
      refine j_aload_n C 21 44 rfl rfl rfl 0 rfl ?_
      refine j_get C 22 47 rfl rfl fg_K_26 0 rfl rfl ?_
      refine j_aload_n C 23 48 rfl rfl rfl 1 rfl ?_
      refine j_get C 24 51 rfl rfl fg_K_155 19 rfl rfl ?_
      refine j_aload_n C 25 52 rfl rfl rfl 1 rfl ?_
      refine j_get C 26 55 rfl rfl fg_K_158 19 rfl rfl ?_
      refine j_aload_n C 27 56 rfl rfl rfl 1 rfl ?_
      refine j_get C 28 59 rfl rfl fg_K_166 19 rfl rfl ?_
      refine j_callVv C 29 62 rfl rfl w393 m_Sto_write (As := [.int (S1 17 9), .int (S1 17 10), .int (S1 17 11)]) (c_Sto_write l D h0 a cI cB S1 (S1 17 9) (S1 17 10) (S1 17 11) _ h) ⟨rfl, rfl⟩ ⟨Nat.le_of_ble_eq_true rfl, Nat.le_of_ble_eq_true rfl⟩ 4 rfl rfl rfl ⟨Nat.le_of_ble_eq_true rfl, Nat.le_of_ble_eq_true rfl⟩ (Nat.le_of_ble_eq_true rfl) rfl (fun S4 h => ?_)
      exact L_K_end_62 C S4 h
  · replace h := ite_t h c2
    refine j_aload_n C 7 14 rfl rfl rfl 1 rfl ?_
    refine j_aload_n C 8 15 rfl rfl rfl 0 rfl ?_
    refine j_get C 9 18 rfl rfl fg_K_26 0 rfl rfl ?_
    refine j_aload_n C 10 19 rfl rfl rfl 1 rfl ?_
    refine j_get C 11 22 rfl rfl fg_K_155 19 rfl rfl ?_
    refine j_aload_n C 12 23 rfl rfl rfl 1 rfl ?_
    refine j_get C 13 26 rfl rfl fg_K_158 19 rfl rfl ?_
    refine j_callVi C 14 29 rfl rfl w381 m_Sto_read (As := [.int (S1 17 9), .int (S1 17 10)]) (c_Sto_read l D h0 a cI cB S1 (S1 17 9) (S1 17 10) _ h) ⟨rfl, rfl⟩ ⟨Nat.le_of_ble_eq_true rfl, Nat.le_of_ble_eq_true rfl⟩ 4 rfl rfl rfl ⟨Nat.le_of_ble_eq_true rfl, Nat.le_of_ble_eq_true rfl⟩ (Nat.le_of_ble_eq_true rfl) rfl (fun r7 S6 h => ?_)
    refine j_put C 15 32 rfl rfl fp_K_163 19 rfl (Nat.le_of_ble_eq_true rfl) rfl rfl (st S6 17 7 r7) (sK_19_7 _ _ _ _ _ _) (fun S8 eS8 => ?_)
    replace h := h S8 eS8
    refine j_goto C 16 62 rfl (by decide) ?_
    exact L_K_end_62 C S8 h
abbrev rm_K_moveToMemory : Room := { frames := 0, cells := 0, slots := 0, locals := 0 }
def swA (a : Nat → Nat) : Nat → Nat := fun k => if k = 18 then a 19 else if k = 19 then a 18 else a k
def swS (S : St) : St := fun i => if i = 16 then S 17 else if i = 17 then S 16 else S i
def wp_K_moveToMemory (S : St) (K : St → Prop) : Prop := K (swS S)
set_option maxHeartbeats 4000000 in
set_option maxRecDepth 100000 in
theorem c_K_moveToMemory (l : Launch) (D : va_G) (h0 : Nat) (a : Nat → Nat) (cI cB : ClassId) (S : St) (K : St → Prop) (h : wp_K_moveToMemory S K) (sz : Nat) : Met l y_K_moveToMemory (Cond.code y_K_moveToMemory b_K_moveToMemory 2 none :: gw) rm_K_moveToMemory (va_Pc [.ref h0] (PK D clK (tysK cI cB) (wsK h0 a cI cB S) sz)) (va_Qv (fun u : (Nat → Nat) × St => K u.2) (fun u t => QK D clK (tysK cI cB) (va_A (wsK h0 a cI cB S) sz) (wsK h0 u.1 cI cB u.2) t) (va_A (wsK h0 a cI cB S) sz)) 0 0 (va_A (wsK h0 a cI cB S) sz) := by
  refine met_of (rm := rm_K_moveToMemory) (pr := pr_K_moveToMemory) (Qc := fun A => va_Qv (fun u : (Nat → Nat) × St => K u.2) (fun u t => QK D clK (tysK cI cB) A (wsK h0 u.1 cI cB u.2) t) A) (by decide +kernel) dm_K_moveToMemory (Nat.le_of_ble_eq_true rfl) (fun p e s m args below meth c A C => ?_) sz
  unfold wp_K_moveToMemory at h
  show J p l e rm_K_moveToMemory s m args below meth c 2 D clK A 0 0 _ (wsK h0 a cI cB S) [(0, .ref h0)] 0 []
  refine j_aload_n C 0 1 rfl rfl rfl 0 rfl ?_
  refine j_get C 1 4 rfl rfl fg_K_58 0 rfl rfl ?_
  refine j_astore_n C 2 5 [(1, .ref (a 19)), (0, .ref h0)] rfl rfl rfl (by decide) rfl ?_
  refine j_aload_n C 3 6 rfl rfl rfl 1 rfl ?_
  refine j_aload_n C 4 7 rfl rfl rfl 1 rfl ?_
  refine j_get C 5 10 rfl rfl fg_K_54 0 rfl rfl ?_
  refine j_putw C 6 13 rfl rfl fp_K_58 0 rfl (Nat.le_of_ble_eq_true rfl) rfl rfl _ rfl ?_
  refine j_aload_n C 7 14 rfl rfl rfl 1 rfl ?_
  refine j_aload_n C 8 15 rfl rfl rfl 0 rfl ?_
  refine j_putw C 9 18 rfl rfl fp_K_54 0 rfl (Nat.le_of_ble_eq_true rfl) rfl rfl _ rfl ?_
  refine j_perm (ws' := wsK h0 (swA a) cI cB (swS S)) [0, 1, 2, 3, 4, 5, 6, 7, 8, 9, 10, 11, 12, 13, 14, 15, 16, 17, 19, 18] (by decide) rfl rfl ?_
  exact j_vret C 10 rfl (F := fun u : (Nat → Nat) × St => wsK h0 u.1 cI cB u.2) (S := (swA a, swS S)) h

abbrev rm_Eff_reset : Room := { frames := 0, cells := 0, slots := 0, locals := 0 }
def wp_Eff_reset (S : St) (p1 : Int32) (K : St → Prop) : Prop := ∀ S1 : St, S1 = st S 16 0 0 → (∀ S2 : St, S2 = st S1 16 1 p1 → (∀ S3 : St, S3 = st S2 16 2 1 → (∀ S4 : St, S4 = st S3 16 6 0 → (∀ S5 : St, S5 = st S4 16 8 0 → (∀ S6 : St, S6 = st S5 16 12 (p1 + (4 : Int32)) → (∀ S7 : St, S7 = st S6 16 13 0 → (∀ S8 : St, S8 = st S7 16 14 0 → (∀ S9 : St, S9 = st S8 16 15 0 → (K S9)))))))))
set_option maxHeartbeats 4000000 in
set_option maxRecDepth 100000 in
theorem c_Eff_reset (l : Launch) (D : va_G) (h0 : Nat) (a : Nat → Nat) (cI cB : ClassId) (S : St) (p1 : Int32) (K : St → Prop) (h : wp_Eff_reset S p1 K) (sz : Nat) : Met l y_Eff_reset (Cond.code y_Eff_reset b_Eff_reset 2 none :: gw) rm_Eff_reset (va_Pc [.ref (a 18), .int p1] (PK D clK (tysK cI cB) (wsK h0 a cI cB S) sz)) (va_Qv K (fun u t => QK D clK (tysK cI cB) (va_A (wsK h0 a cI cB S) sz) (wsK h0 a cI cB u) t) (va_A (wsK h0 a cI cB S) sz)) 0 0 (va_A (wsK h0 a cI cB S) sz) := by
  refine met_of (rm := rm_Eff_reset) (pr := pr_Eff_reset) (Qc := fun A => va_Qv K (fun u t => QK D clK (tysK cI cB) A (wsK h0 a cI cB u) t) A) (by decide +kernel) dm_Eff_reset (Nat.le_of_ble_eq_true rfl) (fun p e s m args below meth c A C => ?_) sz
  unfold wp_Eff_reset at h
  show J p l e rm_Eff_reset s m args below meth c 2 D clK A 0 0 _ (wsK h0 a cI cB S) [(0, .ref (a 18)), (1, .int p1)] 0 []
  refine j_aload_n C 0 1 rfl rfl rfl 0 rfl ?_
  refine j_iconst C 1 2 rfl rfl kI_0 ?_
  refine j_put C 2 5 rfl rfl fp_Eff_7 18 rfl (Nat.le_of_ble_eq_true rfl) (isB_nar isB_0) (isB_fit isB_0) (st S 16 0 0) (sK_18_0 _ _ _ _ _ _) (fun S1 eS1 => ?_)
  replace h := h S1 eS1
  refine j_aload_n C 3 6 rfl rfl rfl 0 rfl ?_
  refine j_iload_n C 4 7 rfl rfl rfl 1 rfl ?_
  refine j_put C 5 10 rfl rfl fp_Eff_13 18 rfl (Nat.le_of_ble_eq_true rfl) rfl rfl (st S1 16 1 p1) (sK_18_1 _ _ _ _ _ _) (fun S2 eS2 => ?_)
  replace h := h S2 eS2
  refine j_aload_n C 6 11 rfl rfl rfl 0 rfl ?_
  refine j_iconst C 7 12 rfl rfl kI_1 ?_
  refine j_put C 8 15 rfl rfl fp_Eff_17 18 rfl (Nat.le_of_ble_eq_true rfl) rfl rfl (st S2 16 2 1) (sK_18_2 _ _ _ _ _ _) (fun S3 eS3 => ?_)
  replace h := h S3 eS3
  refine j_aload_n C 9 16 rfl rfl rfl 0 rfl ?_
  refine j_iconst C 10 17 rfl rfl kI_0 ?_
  refine j_put C 11 20 rfl rfl fp_Eff_20 18 rfl (Nat.le_of_ble_eq_true rfl) rfl rfl (st S3 16 6 0) (sK_18_6 _ _ _ _ _ _) (fun S4 eS4 => ?_)
  replace h := h S4 eS4
  refine j_aload_n C 12 21 rfl rfl rfl 0 rfl ?_
  refine j_iconst C 13 22 rfl rfl kI_0 ?_
  refine j_put C 14 25 rfl rfl fp_Eff_23 18 rfl (Nat.le_of_ble_eq_true rfl) rfl rfl (st S4 16 8 0) (sK_18_8 _ _ _ _ _ _) (fun S5 eS5 => ?_)
  replace h := h S5 eS5
  refine j_aload_n C 15 26 rfl rfl rfl 0 rfl ?_
  refine j_iload_n C 16 27 rfl rfl rfl 1 rfl ?_
  refine j_iconst C 17 28 rfl rfl kI_4 ?_
  refine j_iadd C 18 29 rfl rfl ?_
  refine j_put C 19 32 rfl rfl fp_Eff_26 18 rfl (Nat.le_of_ble_eq_true rfl) rfl rfl (st S5 16 12 (p1 + (4 : Int32))) (sK_18_12 _ _ _ _ _ _) (fun S6 eS6 => ?_)
  replace h := h S6 eS6
  refine j_aload_n C 20 33 rfl rfl rfl 0 rfl ?_
  refine j_iconst C 21 34 rfl rfl kI_0 ?_
  refine j_put C 22 37 rfl rfl fp_Eff_29 18 rfl (Nat.le_of_ble_eq_true rfl) (isB_nar isB_0) (isB_fit isB_0) (st S6 16 13 0) (sK_18_13 _ _ _ _ _ _) (fun S7 eS7 => ?_)
  replace h := h S7 eS7
  refine j_aload_n C 23 38 rfl rfl rfl 0 rfl ?_
  refine j_iconst C 24 39 rfl rfl kI_0 ?_
  refine j_put C 25 42 rfl rfl fp_Eff_32 18 rfl (Nat.le_of_ble_eq_true rfl) (isB_nar isB_0) (isB_fit isB_0) (st S7 16 14 0) (sK_18_14 _ _ _ _ _ _) (fun S8 eS8 => ?_)
  replace h := h S8 eS8
  refine j_aload_n C 26 43 rfl rfl rfl 0 rfl ?_
  refine j_iconst C 27 44 rfl rfl kI_0 ?_
  refine j_put C 28 47 rfl rfl fp_Eff_35 18 rfl (Nat.le_of_ble_eq_true rfl) (isB_nar isB_0) (isB_fit isB_0) (st S8 16 15 0) (sK_18_15 _ _ _ _ _ _) (fun S9 eS9 => ?_)
  replace h := h S9 eS9
  exact j_vret C 29 rfl h
abbrev rm_Con_dueLine : Room := { frames := 0, cells := 0, slots := 0, locals := 0 }
def wp_Con_dueLine_58 (K : Int32 → St → Prop) (S : St) (k0 : Int32) : Prop := K k0 S
set_option maxHeartbeats 4000000 in
set_option maxRecDepth 100000 in
theorem L_Con_dueLine_58 {p : Program} {l : Launch} {e : Env} {s : State} {m : MethodId} {args : Array Value} {below : List Frame} {meth : Method} {c : Code} {A : Nat → Prop} {D : va_G} {h0 : Nat} {a : Nat → Nat} {cI cB : ClassId} {K : Int32 → St → Prop} (C : CX p rm_Con_dueLine s m args meth c b_Con_dueLine 2 "PipelinedCore$Controls" (some .int) pr_Con_dueLine D clK (tysK cI cB) A) (S : St) (k0 : Int32) (h : wp_Con_dueLine_58 K S k0) : J p l e rm_Con_dueLine s m args below meth c 2 D clK A 0 0 (MQ below (va_Qi K (fun u t => QK D clK (tysK cI cB) A (wsK h0 a cI cB u) t) A) args s 0 0 A) (wsK h0 a cI cB S) [] 58 [.int k0] := by
  unfold wp_Con_dueLine_58 at h
  exact j_iret C 32 rfl h
def wp_Con_dueLine_23 (K : Int32 → St → Prop) (S : St) (k0 : Int32) : Prop := (if (k0 &&& (2048 : Int32)) = 0 then ((if (k0 &&& (8 : Int32)) = 0 then ((if (k0 &&& (128 : Int32)) = 0 then ((wp_Con_dueLine_58 K S 0)) else ((wp_Con_dueLine_58 K S 7)))) else (K 3 S))) else (K 11 S))
set_option maxHeartbeats 4000000 in
set_option maxRecDepth 100000 in
theorem L_Con_dueLine_23 {p : Program} {l : Launch} {e : Env} {s : State} {m : MethodId} {args : Array Value} {below : List Frame} {meth : Method} {c : Code} {A : Nat → Prop} {D : va_G} {h0 : Nat} {a : Nat → Nat} {cI cB : ClassId} {K : Int32 → St → Prop} (C : CX p rm_Con_dueLine s m args meth c b_Con_dueLine 2 "PipelinedCore$Controls" (some .int) pr_Con_dueLine D clK (tysK cI cB) A) (S : St) (k0 : Int32) (h : wp_Con_dueLine_23 K S k0) : J p l e rm_Con_dueLine s m args below meth c 2 D clK A 0 0 (MQ below (va_Qi K (fun u t => QK D clK (tysK cI cB) A (wsK h0 a cI cB u) t) A) args s 0 0 A) (wsK h0 a cI cB S) [] 23 [.int k0] := by
  unfold wp_Con_dueLine_23 at h
  refine j_istore_n C 12 24 [(1, .int k0)] rfl rfl rfl (by decide) rfl ?_
  refine j_iload_n C 13 25 rfl rfl rfl 0 rfl ?_
  refine j_sipush C 14 28 rfl rfl kS_2048 ?_
  refine j_iand C 15 29 rfl rfl ?_
  refine j_if_eq C 16 35 32 rfl (by decide) rfl (fun c2 => ?_) (fun c2 => ?_)
  · replace h := ite_t h c2
    refine j_iload_n C 19 36 rfl rfl rfl 0 rfl ?_
    refine j_bipush C 20 38 rfl rfl kB_8 ?_
    refine j_iand C 21 39 rfl rfl ?_
    refine j_if_eq C 22 44 42 rfl (by decide) rfl (fun c3 => ?_) (fun c3 => ?_)
    · replace h := ite_t h c3
      refine j_iload_n C 25 45 rfl rfl rfl 0 rfl ?_
      refine j_sipush C 26 48 rfl rfl kS_128 ?_
      refine j_iand C 27 49 rfl rfl ?_
      refine j_if_eq C 28 57 52 rfl (by decide) rfl (fun c4 => ?_) (fun c4 => ?_)
      · replace h := ite_t h c4
        refine j_iconst C 31 58 rfl rfl kI_0 ?_
        refine j_sub [] rfl ?_
        exact L_Con_dueLine_58 C S 0 h
      · replace h := ite_f h c4
        refine j_bipush C 29 54 rfl rfl kB_7 ?_
        refine j_goto C 30 58 rfl (by decide) ?_
        refine j_sub [] rfl ?_
        exact L_Con_dueLine_58 C S 7 h
    · replace h := ite_f h c3
      refine j_iconst C 23 43 rfl rfl kI_3 ?_
      exact j_iret C 24 rfl h
  · replace h := ite_f h c2
    refine j_bipush C 17 34 rfl rfl kB_11 ?_
    exact j_iret C 18 rfl h
def wp_Con_dueLine (S : St)  (K : Int32 → St → Prop) : Prop := (if ((S 3 0) &&& (8 : Int32)) = 0 then ((wp_Con_dueLine_23 K S 0)) else ((wp_Con_dueLine_23 K S ((S 3 7) &&& (S 3 1)))))
set_option maxHeartbeats 4000000 in
set_option maxRecDepth 100000 in
theorem c_Con_dueLine (l : Launch) (D : va_G) (h0 : Nat) (a : Nat → Nat) (cI cB : ClassId) (S : St)  (K : Int32 → St → Prop) (h : wp_Con_dueLine S K) (sz : Nat) : Met l y_Con_dueLine (Cond.code y_Con_dueLine b_Con_dueLine 2 (some .int) :: gw) rm_Con_dueLine (va_Pc [.ref (a 3)] (PK D clK (tysK cI cB) (wsK h0 a cI cB S) sz)) (va_Qi K (fun u t => QK D clK (tysK cI cB) (va_A (wsK h0 a cI cB S) sz) (wsK h0 a cI cB u) t) (va_A (wsK h0 a cI cB S) sz)) 0 0 (va_A (wsK h0 a cI cB S) sz) := by
  refine met_of (rm := rm_Con_dueLine) (pr := pr_Con_dueLine) (Qc := fun A => va_Qi K (fun u t => QK D clK (tysK cI cB) A (wsK h0 a cI cB u) t) A) (by decide +kernel) dm_Con_dueLine (Nat.le_of_ble_eq_true rfl) (fun p e s m args below meth c A C => ?_) sz
  unfold wp_Con_dueLine at h
  show J p l e rm_Con_dueLine s m args below meth c 2 D clK A 0 0 _ (wsK h0 a cI cB S) [(0, .ref (a 3))] 0 []
  refine j_aload_n C 0 1 rfl rfl rfl 0 rfl ?_
  refine j_get C 1 4 rfl rfl fg_Con_7 3 rfl rfl ?_
  refine j_bipush C 2 6 rfl rfl kB_8 ?_
  refine j_iand C 3 7 rfl rfl ?_
  refine j_if_eq C 4 22 10 rfl (by decide) rfl (fun c1 => ?_) (fun c1 => ?_)
  · replace h := ite_t h c1
    refine j_iconst C 11 23 rfl rfl kI_0 ?_
    refine j_sub [] rfl ?_
    exact L_Con_dueLine_23 C S 0 h
  · replace h := ite_f h c1
    refine j_aload_n C 5 11 rfl rfl rfl 0 rfl ?_
    refine j_get C 6 14 rfl rfl fg_Con_31 3 rfl rfl ?_
    refine j_aload_n C 7 15 rfl rfl rfl 0 rfl ?_
    refine j_get C 8 18 rfl rfl fg_Con_13 3 rfl rfl ?_
    refine j_iand C 9 19 rfl rfl ?_
    refine j_goto C 10 23 rfl (by decide) ?_
    refine j_sub [] rfl ?_
    exact L_Con_dueLine_23 C S ((S 3 7) &&& (S 3 1)) h
abbrev rm_Con_enterTrap : Room := { frames := 0, cells := 0, slots := 0, locals := 0 }
def wp_Con_enterTrap_36 (K : Int32 → St → Prop) (S : St) (k0 : Int32) : Prop := ∀ S5 : St, S5 = st S 3 0 k0 → (K ((S5 3 2) &&& (-4 : Int32)) S5)
set_option maxHeartbeats 4000000 in
set_option maxRecDepth 100000 in
theorem L_Con_enterTrap_36 {p : Program} {l : Launch} {e : Env} {s : State} {m : MethodId} {args : Array Value} {below : List Frame} {meth : Method} {c : Code} {A : Nat → Prop} {D : va_G} {h0 : Nat} {a : Nat → Nat} {cI cB : ClassId} {K : Int32 → St → Prop} (C : CX p rm_Con_enterTrap s m args meth c b_Con_enterTrap 4 "PipelinedCore$Controls" (some .int) pr_Con_enterTrap D clK (tysK cI cB) A) (S : St) (k0 : Int32) (h : wp_Con_enterTrap_36 K S k0) : J p l e rm_Con_enterTrap s m args below meth c 4 D clK A 0 0 (MQ below (va_Qi K (fun u t => QK D clK (tysK cI cB) A (wsK h0 a cI cB u) t) A) args s 0 0 A) (wsK h0 a cI cB S) [(0, .ref (a 3))] 36 [.int k0, .ref (a 3)] := by
  unfold wp_Con_enterTrap_36 at h
  refine j_put C 20 39 rfl rfl fp_Con_7 3 rfl (Nat.le_of_ble_eq_true rfl) rfl rfl (st S 3 0 k0) (sK_3_0 _ _ _ _ _ _) (fun S5 eS5 => ?_)
  replace h := h S5 eS5
  refine j_aload_n C 21 40 rfl rfl rfl 0 rfl ?_
  refine j_get C 22 43 rfl rfl fg_Con_16 3 rfl rfl ?_
  refine j_bipush C 23 45 rfl rfl kB_m4 ?_
  refine j_iand C 24 46 rfl rfl ?_
  exact j_iret C 25 rfl h
def wp_Con_enterTrap (S : St) (p1 : Int32) (p2 : Int32) (p3 : Int32) (K : Int32 → St → Prop) : Prop := ∀ S1 : St, S1 = st S 3 4 (p1 &&& (-4 : Int32)) → (∀ S2 : St, S2 = st S1 3 5 p2 → (∀ S3 : St, S3 = st S2 3 6 p3 → ((if ((S3 3 0) &&& (8 : Int32)) = 0 then ((wp_Con_enterTrap_36 K S3 0)) else ((wp_Con_enterTrap_36 K S3 128))))))
set_option maxHeartbeats 4000000 in
set_option maxRecDepth 100000 in
theorem c_Con_enterTrap (l : Launch) (D : va_G) (h0 : Nat) (a : Nat → Nat) (cI cB : ClassId) (S : St) (p1 : Int32) (p2 : Int32) (p3 : Int32) (K : Int32 → St → Prop) (h : wp_Con_enterTrap S p1 p2 p3 K) (sz : Nat) : Met l y_Con_enterTrap (Cond.code y_Con_enterTrap b_Con_enterTrap 4 (some .int) :: gw) rm_Con_enterTrap (va_Pc [.ref (a 3), .int p1, .int p2, .int p3] (PK D clK (tysK cI cB) (wsK h0 a cI cB S) sz)) (va_Qi K (fun u t => QK D clK (tysK cI cB) (va_A (wsK h0 a cI cB S) sz) (wsK h0 a cI cB u) t) (va_A (wsK h0 a cI cB S) sz)) 0 0 (va_A (wsK h0 a cI cB S) sz) := by
  refine met_of (rm := rm_Con_enterTrap) (pr := pr_Con_enterTrap) (Qc := fun A => va_Qi K (fun u t => QK D clK (tysK cI cB) A (wsK h0 a cI cB u) t) A) (by decide +kernel) dm_Con_enterTrap (Nat.le_of_ble_eq_true rfl) (fun p e s m args below meth c A C => ?_) sz
  unfold wp_Con_enterTrap at h
  show J p l e rm_Con_enterTrap s m args below meth c 4 D clK A 0 0 _ (wsK h0 a cI cB S) [(0, .ref (a 3)), (1, .int p1), (2, .int p2), (3, .int p3)] 0 []
  refine j_aload_n C 0 1 rfl rfl rfl 0 rfl ?_
  refine j_iload_n C 1 2 rfl rfl rfl 1 rfl ?_
  refine j_bipush C 2 4 rfl rfl kB_m4 ?_
  refine j_iand C 3 5 rfl rfl ?_
  refine j_put C 4 8 rfl rfl fp_Con_22 3 rfl (Nat.le_of_ble_eq_true rfl) rfl rfl (st S 3 4 (p1 &&& (-4 : Int32))) (sK_3_4 _ _ _ _ _ _) (fun S1 eS1 => ?_)
  replace h := h S1 eS1
  refine j_aload_n C 5 9 rfl rfl rfl 0 rfl ?_
  refine j_iload_n C 6 10 rfl rfl rfl 2 rfl ?_
  refine j_put C 7 13 rfl rfl fp_Con_25 3 rfl (Nat.le_of_ble_eq_true rfl) rfl rfl (st S1 3 5 p2) (sK_3_5 _ _ _ _ _ _) (fun S2 eS2 => ?_)
  replace h := h S2 eS2
  refine j_aload_n C 8 14 rfl rfl rfl 0 rfl ?_
  refine j_iload_n C 9 15 rfl rfl rfl 3 rfl ?_
  refine j_put C 10 18 rfl rfl fp_Con_28 3 rfl (Nat.le_of_ble_eq_true rfl) rfl rfl (st S2 3 6 p3) (sK_3_6 _ _ _ _ _ _) (fun S3 eS3 => ?_)
  replace h := h S3 eS3
  refine j_aload_n C 11 19 rfl rfl rfl 0 rfl ?_
  refine j_aload_n C 12 20 rfl rfl rfl 0 rfl ?_
  refine j_get C 13 23 rfl rfl fg_Con_7 3 rfl rfl ?_
  refine j_bipush C 14 25 rfl rfl kB_8 ?_
  refine j_iand C 15 26 rfl rfl ?_
  refine j_if_eq C 16 35 29 rfl (by decide) rfl (fun c4 => ?_) (fun c4 => ?_)
  · replace h := ite_t h c4
    refine j_iconst C 19 36 rfl rfl kI_0 ?_
    refine j_sub [0] rfl ?_
    exact L_Con_enterTrap_36 C S3 0 h
  · replace h := ite_f h c4
    refine j_sipush C 17 32 rfl rfl kS_128 ?_
    refine j_goto C 18 36 rfl (by decide) ?_
    refine j_sub [0] rfl ?_
    exact L_Con_enterTrap_36 C S3 128 h
abbrev rm_Con_enterInterrupt : Room := { frames := 1, cells := 0, slots := 0, locals := 23 }
def wp_Con_enterInterrupt_29 (K : Int32 → St → Prop) (S : St) (k0 : Int32) : Prop := K k0 S
set_option maxHeartbeats 4000000 in
set_option maxRecDepth 100000 in
theorem L_Con_enterInterrupt_29 {p : Program} {l : Launch} {e : Env} {s : State} {m : MethodId} {args : Array Value} {below : List Frame} {meth : Method} {c : Code} {A : Nat → Prop} {D : va_G} {h0 : Nat} {a : Nat → Nat} {cI cB : ClassId} {K : Int32 → St → Prop} (C : CX p rm_Con_enterInterrupt s m args meth c b_Con_enterInterrupt 4 "PipelinedCore$Controls" (some .int) pr_Con_enterInterrupt D clK (tysK cI cB) A) (S : St) (k0 : Int32) (h : wp_Con_enterInterrupt_29 K S k0) : J p l e rm_Con_enterInterrupt s m args below meth c 4 D clK A 0 0 (MQ below (va_Qi K (fun u t => QK D clK (tysK cI cB) A (wsK h0 a cI cB u) t) A) args s 0 0 A) (wsK h0 a cI cB S) [] 29 [.int k0] := by
  unfold wp_Con_enterInterrupt_29 at h
  exact j_iret C 20 rfl h
def wp_Con_enterInterrupt (S : St) (p1 : Int32) (p2 : Int32) (K : Int32 → St → Prop) : Prop := wp_Con_enterTrap S p1 ((-2147483648 : Int32) + p2) 0 (fun r2 S1 => ((if ((S1 3 2) &&& (1 : Int32)) = 0 then ((wp_Con_enterInterrupt_29 K S1 r2)) else ((wp_Con_enterInterrupt_29 K S1 (r2 + ((4 : Int32) * p2)))))))
set_option maxHeartbeats 4000000 in
set_option maxRecDepth 100000 in
theorem c_Con_enterInterrupt (l : Launch) (D : va_G) (h0 : Nat) (a : Nat → Nat) (cI cB : ClassId) (S : St) (p1 : Int32) (p2 : Int32) (K : Int32 → St → Prop) (h : wp_Con_enterInterrupt S p1 p2 K) (sz : Nat) : Met l y_Con_enterInterrupt (Cond.code y_Con_enterInterrupt b_Con_enterInterrupt 4 (some .int) :: gw) rm_Con_enterInterrupt (va_Pc [.ref (a 3), .int p1, .int p2] (PK D clK (tysK cI cB) (wsK h0 a cI cB S) sz)) (va_Qi K (fun u t => QK D clK (tysK cI cB) (va_A (wsK h0 a cI cB S) sz) (wsK h0 a cI cB u) t) (va_A (wsK h0 a cI cB S) sz)) 0 0 (va_A (wsK h0 a cI cB S) sz) := by
  refine met_of (rm := rm_Con_enterInterrupt) (pr := pr_Con_enterInterrupt) (Qc := fun A => va_Qi K (fun u t => QK D clK (tysK cI cB) A (wsK h0 a cI cB u) t) A) (by decide +kernel) dm_Con_enterInterrupt (Nat.le_of_ble_eq_true rfl) (fun p e s m args below meth c A C => ?_) sz
  unfold wp_Con_enterInterrupt at h
  show J p l e rm_Con_enterInterrupt s m args below meth c 4 D clK A 0 0 _ (wsK h0 a cI cB S) [(0, .ref (a 3)), (1, .int p1), (2, .int p2)] 0 []
  refine j_aload_n C 0 1 rfl rfl rfl 0 rfl ?_
  refine j_iload_n C 1 2 rfl rfl rfl 1 rfl ?_
  refine j_ldc C 2 4 rfl rfl w422 ?_
  refine j_iload_n C 3 5 rfl rfl rfl 2 rfl ?_
  refine j_iadd C 4 6 rfl rfl ?_
  refine j_iconst C 5 7 rfl rfl kI_0 ?_
  refine j_callVi C 6 10 rfl rfl w423 m_Con_enterTrap (As := [.int p1, .int ((-2147483648 : Int32) + p2), .int 0]) (c_Con_enterTrap l D h0 a cI cB S p1 ((-2147483648 : Int32) + p2) 0 _ h) ⟨rfl, rfl⟩ ⟨Nat.le_of_ble_eq_true rfl, Nat.le_of_ble_eq_true rfl⟩ 3 rfl rfl rfl ⟨Nat.le_of_ble_eq_true rfl, Nat.le_of_ble_eq_true rfl⟩ (Nat.le_of_ble_eq_true rfl) rfl (fun r2 S1 h => ?_)
  refine j_istore_n C 7 11 [(3, .int r2), (0, .ref (a 3)), (1, .int p1), (2, .int p2)] rfl rfl rfl (by decide) rfl ?_
  refine j_aload_n C 8 12 rfl rfl rfl 1 rfl ?_
  refine j_get C 9 15 rfl rfl fg_Con_16 3 rfl rfl ?_
  refine j_iconst C 10 16 rfl rfl kI_1 ?_
  refine j_iand C 11 17 rfl rfl ?_
  refine j_if_eq C 12 28 20 rfl (by decide) rfl (fun c3 => ?_) (fun c3 => ?_)
  · replace h := ite_t h c3
    refine j_iload_n C 19 29 rfl rfl rfl 0 rfl ?_
    refine j_sub [] rfl ?_
    exact L_Con_enterInterrupt_29 C S1 r2 h
  · replace h := ite_f h c3
    refine j_iload_n C 13 21 rfl rfl rfl 0 rfl ?_
    refine j_iconst C 14 22 rfl rfl kI_4 ?_
    refine j_iload_n C 15 23 rfl rfl rfl 3 rfl ?_
    refine j_imul C 16 24 rfl rfl ?_
    refine j_iadd C 17 25 rfl rfl ?_
    refine j_goto C 18 29 rfl (by decide) ?_
    refine j_sub [] rfl ?_
    exact L_Con_enterInterrupt_29 C S1 (r2 + ((4 : Int32) * p2)) h
abbrev rm_K_operand : Room := { frames := 0, cells := 0, slots := 0, locals := 0 }
def wp_K_operand_51 (K : Int32 → St → Prop) (S : St) (k0 : Int32) : Prop := K k0 S
set_option maxHeartbeats 4000000 in
set_option maxRecDepth 100000 in
theorem L_K_operand_51 {p : Program} {l : Launch} {e : Env} {s : State} {m : MethodId} {args : Array Value} {below : List Frame} {meth : Method} {c : Code} {A : Nat → Prop} {D : va_G} {h0 : Nat} {a : Nat → Nat} {cI cB : ClassId} {K : Int32 → St → Prop} (C : CX p rm_K_operand s m args meth c b_K_operand 3 "PipelinedCore" (some .int) pr_K_operand D clK (tysK cI cB) A) (S : St) (k0 : Int32) (h : wp_K_operand_51 K S k0) : J p l e rm_K_operand s m args below meth c 3 D clK A 0 0 (MQ below (va_Qi K (fun u t => QK D clK (tysK cI cB) A (wsK h0 a cI cB u) t) A) args s 0 0 A) (wsK h0 a cI cB S) [] 51 [.int k0] := by
  unfold wp_K_operand_51 at h
  exact j_iret C 25 rfl h
def wp_K_operand_30 (K : Int32 → St → Prop) (S : St) (v1 : Int32) (k0 : Int32) : Prop := (if k0 = 0 then (vp_in v1 32 ∧ ((wp_K_operand_51 K S (S 2 v1.toNatClampNeg)))) else ((wp_K_operand_51 K S (S 17 7))))
set_option maxHeartbeats 4000000 in
set_option maxRecDepth 100000 in
theorem L_K_operand_30 {p : Program} {l : Launch} {e : Env} {s : State} {m : MethodId} {args : Array Value} {below : List Frame} {meth : Method} {c : Code} {A : Nat → Prop} {D : va_G} {h0 : Nat} {a : Nat → Nat} {cI cB : ClassId} {K : Int32 → St → Prop} (C : CX p rm_K_operand s m args meth c b_K_operand 3 "PipelinedCore" (some .int) pr_K_operand D clK (tysK cI cB) A) (S : St) (v1 : Int32) (k0 : Int32) (h : wp_K_operand_30 K S v1 k0) : J p l e rm_K_operand s m args below meth c 3 D clK A 0 0 (MQ below (va_Qi K (fun u t => QK D clK (tysK cI cB) A (wsK h0 a cI cB u) t) A) args s 0 0 A) (wsK h0 a cI cB S) [(0, .ref h0), (1, .int v1)] 30 [.int k0] := by
  unfold wp_K_operand_30 at h
  refine j_istore_n C 14 31 [(2, .int k0), (0, .ref h0), (1, .int v1)] rfl rfl rfl (by decide) rfl ?_
  refine j_iload_n C 15 32 rfl rfl rfl 0 rfl ?_
  refine j_if_eq C 16 45 35 rfl (by decide) rfl (fun c4 => ?_) (fun c4 => ?_)
  · replace h := ite_t h c4
    refine j_aload_n C 21 46 rfl rfl rfl 1 rfl ?_
    refine j_get C 22 49 rfl rfl fg_K_13 0 rfl rfl ?_
    refine j_iload_n C 23 50 rfl rfl rfl 2 rfl ?_
    refine j_iald C 24 51 rfl rfl 2 0 rfl rfl h.1 ?_
    replace h := h.2
    refine j_sub [] rfl ?_
    exact L_K_operand_51 C S (S 2 v1.toNatClampNeg) h
  · replace h := ite_f h c4
    refine j_aload_n C 17 36 rfl rfl rfl 1 rfl ?_
    refine j_get C 18 39 rfl rfl fg_K_58 0 rfl rfl ?_
    refine j_get C 19 42 rfl rfl fg_K_163 19 rfl rfl ?_
    refine j_goto C 20 51 rfl (by decide) ?_
    refine j_sub [] rfl ?_
    exact L_K_operand_51 C S (S 17 7) h
def wp_K_operand_29 (K : Int32 → St → Prop) (S : St) (v1 : Int32) : Prop := (wp_K_operand_30 K S v1 0)
set_option maxHeartbeats 4000000 in
set_option maxRecDepth 100000 in
theorem L_K_operand_29 {p : Program} {l : Launch} {e : Env} {s : State} {m : MethodId} {args : Array Value} {below : List Frame} {meth : Method} {c : Code} {A : Nat → Prop} {D : va_G} {h0 : Nat} {a : Nat → Nat} {cI cB : ClassId} {K : Int32 → St → Prop} (C : CX p rm_K_operand s m args meth c b_K_operand 3 "PipelinedCore" (some .int) pr_K_operand D clK (tysK cI cB) A) (S : St) (v1 : Int32) (h : wp_K_operand_29 K S v1) : J p l e rm_K_operand s m args below meth c 3 D clK A 0 0 (MQ below (va_Qi K (fun u t => QK D clK (tysK cI cB) A (wsK h0 a cI cB u) t) A) args s 0 0 A) (wsK h0 a cI cB S) [(0, .ref h0), (1, .int v1)] 29 [] := by
  unfold wp_K_operand_29 at h
  refine j_iconst C 13 30 rfl rfl kI_0 ?_
  exact L_K_operand_30 C S v1 0 h
def wp_K_operand (S : St) (p1 : Int32) (K : Int32 → St → Prop) : Prop := (if p1 = 0 then ((wp_K_operand_29 K S p1)) else ((if (S 17 0) = 0 then ((wp_K_operand_29 K S p1)) else ((if (S 17 6) = p1 then ((wp_K_operand_30 K S p1 1)) else ((wp_K_operand_29 K S p1)))))))
set_option maxHeartbeats 4000000 in
set_option maxRecDepth 100000 in
theorem c_K_operand (l : Launch) (D : va_G) (h0 : Nat) (a : Nat → Nat) (cI cB : ClassId) (S : St) (p1 : Int32) (K : Int32 → St → Prop) (h : wp_K_operand S p1 K) (sz : Nat) : Met l y_K_operand (Cond.code y_K_operand b_K_operand 3 (some .int) :: gw) rm_K_operand (va_Pc [.ref h0, .int p1] (PK D clK (tysK cI cB) (wsK h0 a cI cB S) sz)) (va_Qi K (fun u t => QK D clK (tysK cI cB) (va_A (wsK h0 a cI cB S) sz) (wsK h0 a cI cB u) t) (va_A (wsK h0 a cI cB S) sz)) 0 0 (va_A (wsK h0 a cI cB S) sz) := by
  refine met_of (rm := rm_K_operand) (pr := pr_K_operand) (Qc := fun A => va_Qi K (fun u t => QK D clK (tysK cI cB) A (wsK h0 a cI cB u) t) A) (by decide +kernel) dm_K_operand (Nat.le_of_ble_eq_true rfl) (fun p e s m args below meth c A C => ?_) sz
  unfold wp_K_operand at h
  show J p l e rm_K_operand s m args below meth c 3 D clK A 0 0 _ (wsK h0 a cI cB S) [(0, .ref h0), (1, .int p1)] 0 []
  refine j_iload_n C 0 1 rfl rfl rfl 1 rfl ?_
  refine j_if_eq C 1 29 4 rfl (by decide) rfl (fun c1 => ?_) (fun c1 => ?_)
  · replace h := ite_t h c1
    exact L_K_operand_29 C S p1 h
  · replace h := ite_f h c1
    refine j_aload_n C 2 5 rfl rfl rfl 0 rfl ?_
    refine j_get C 3 8 rfl rfl fg_K_58 0 rfl rfl ?_
    refine j_get C 4 11 rfl rfl fg_K_111 19 rfl rfl ?_
    refine j_if_eq C 5 29 14 rfl (by decide) rfl (fun c2 => ?_) (fun c2 => ?_)
    · replace h := ite_t h c2
      exact L_K_operand_29 C S p1 h
    · replace h := ite_f h c2
      refine j_aload_n C 6 15 rfl rfl rfl 0 rfl ?_
      refine j_get C 7 18 rfl rfl fg_K_58 0 rfl rfl ?_
      refine j_get C 8 21 rfl rfl fg_K_172 19 rfl rfl ?_
      refine j_iload_n C 9 22 rfl rfl rfl 1 rfl ?_
      refine j_icmp_ne C 10 29 25 rfl (by decide) rfl (fun c3 => ?_) (fun c3 => ?_)
      · replace h := ite_f h c3
        exact L_K_operand_29 C S p1 h
      · replace h := ite_t h c3
        refine j_iconst C 11 26 rfl rfl kI_1 ?_
        refine j_goto C 12 30 rfl (by decide) ?_
        exact L_K_operand_30 C S p1 1 h
abbrev rm_Ins_numberU : Room := { frames := 0, cells := 0, slots := 0, locals := 0 }
def wp_Ins_numberU (S : St)  (K : Int32 → St → Prop) : Prop := K ((S 15 2) &&& (-4096 : Int32)) S
set_option maxHeartbeats 4000000 in
set_option maxRecDepth 100000 in
theorem c_Ins_numberU (l : Launch) (D : va_G) (h0 : Nat) (a : Nat → Nat) (cI cB : ClassId) (S : St)  (K : Int32 → St → Prop) (h : wp_Ins_numberU S K) (sz : Nat) : Met l y_Ins_numberU (Cond.code y_Ins_numberU b_Ins_numberU 1 (some .int) :: gw) rm_Ins_numberU (va_Pc [.ref (a 17)] (PK D clK (tysK cI cB) (wsK h0 a cI cB S) sz)) (va_Qi K (fun u t => QK D clK (tysK cI cB) (va_A (wsK h0 a cI cB S) sz) (wsK h0 a cI cB u) t) (va_A (wsK h0 a cI cB S) sz)) 0 0 (va_A (wsK h0 a cI cB S) sz) := by
  refine met_of (rm := rm_Ins_numberU) (pr := pr_Ins_numberU) (Qc := fun A => va_Qi K (fun u t => QK D clK (tysK cI cB) A (wsK h0 a cI cB u) t) A) (by decide +kernel) dm_Ins_numberU (Nat.le_of_ble_eq_true rfl) (fun p e s m args below meth c A C => ?_) sz
  unfold wp_Ins_numberU at h
  show J p l e rm_Ins_numberU s m args below meth c 1 D clK A 0 0 _ (wsK h0 a cI cB S) [(0, .ref (a 17))] 0 []
  refine j_aload_n C 0 1 rfl rfl rfl 0 rfl ?_
  refine j_get C 1 4 rfl rfl fg_Ins_17 17 rfl rfl ?_
  refine j_sipush C 2 7 rfl rfl kS_m4096 ?_
  refine j_iand C 3 8 rfl rfl ?_
  exact j_iret C 4 rfl h
abbrev rm_Eff_setRegister : Room := { frames := 0, cells := 0, slots := 0, locals := 0 }
def wp_Eff_setRegister (S : St) (p1 : Int32) (p2 : Int32) (K : St → Prop) : Prop := ∀ S1 : St, S1 = st S 16 6 p1 → (∀ S2 : St, S2 = st S1 16 7 p2 → (K S2))
set_option maxHeartbeats 4000000 in
set_option maxRecDepth 100000 in
theorem c_Eff_setRegister (l : Launch) (D : va_G) (h0 : Nat) (a : Nat → Nat) (cI cB : ClassId) (S : St) (p1 : Int32) (p2 : Int32) (K : St → Prop) (h : wp_Eff_setRegister S p1 p2 K) (sz : Nat) : Met l y_Eff_setRegister (Cond.code y_Eff_setRegister b_Eff_setRegister 3 none :: gw) rm_Eff_setRegister (va_Pc [.ref (a 18), .int p1, .int p2] (PK D clK (tysK cI cB) (wsK h0 a cI cB S) sz)) (va_Qv K (fun u t => QK D clK (tysK cI cB) (va_A (wsK h0 a cI cB S) sz) (wsK h0 a cI cB u) t) (va_A (wsK h0 a cI cB S) sz)) 0 0 (va_A (wsK h0 a cI cB S) sz) := by
  refine met_of (rm := rm_Eff_setRegister) (pr := pr_Eff_setRegister) (Qc := fun A => va_Qv K (fun u t => QK D clK (tysK cI cB) A (wsK h0 a cI cB u) t) A) (by decide +kernel) dm_Eff_setRegister (Nat.le_of_ble_eq_true rfl) (fun p e s m args below meth c A C => ?_) sz
  unfold wp_Eff_setRegister at h
  show J p l e rm_Eff_setRegister s m args below meth c 3 D clK A 0 0 _ (wsK h0 a cI cB S) [(0, .ref (a 18)), (1, .int p1), (2, .int p2)] 0 []
  refine j_aload_n C 0 1 rfl rfl rfl 0 rfl ?_
  refine j_iload_n C 1 2 rfl rfl rfl 1 rfl ?_
  refine j_put C 2 5 rfl rfl fp_Eff_20 18 rfl (Nat.le_of_ble_eq_true rfl) rfl rfl (st S 16 6 p1) (sK_18_6 _ _ _ _ _ _) (fun S1 eS1 => ?_)
  replace h := h S1 eS1
  refine j_aload_n C 3 6 rfl rfl rfl 0 rfl ?_
  refine j_iload_n C 4 7 rfl rfl rfl 2 rfl ?_
  refine j_put C 5 10 rfl rfl fp_Eff_38 18 rfl (Nat.le_of_ble_eq_true rfl) rfl rfl (st S1 16 7 p2) (sK_18_7 _ _ _ _ _ _) (fun S2 eS2 => ?_)
  replace h := h S2 eS2
  exact j_vret C 6 rfl h
abbrev rm_Ins_numberJ : Room := { frames := 0, cells := 0, slots := 0, locals := 0 }
def wp_Ins_numberJ (S : St)  (K : Int32 → St → Prop) : Prop := K ((((((S 15 2) >>> ((31 : Int32) &&& 31)) <<< ((20 : Int32) &&& 31)) ||| ((S 15 2) &&& (1044480 : Int32))) ||| (((jushr (S 15 2) (20 : Int32)) &&& (1 : Int32)) <<< ((11 : Int32) &&& 31))) ||| (((jushr (S 15 2) (21 : Int32)) &&& (1023 : Int32)) <<< ((1 : Int32) &&& 31))) S
set_option maxHeartbeats 4000000 in
set_option maxRecDepth 100000 in
theorem c_Ins_numberJ (l : Launch) (D : va_G) (h0 : Nat) (a : Nat → Nat) (cI cB : ClassId) (S : St)  (K : Int32 → St → Prop) (h : wp_Ins_numberJ S K) (sz : Nat) : Met l y_Ins_numberJ (Cond.code y_Ins_numberJ b_Ins_numberJ 1 (some .int) :: gw) rm_Ins_numberJ (va_Pc [.ref (a 17)] (PK D clK (tysK cI cB) (wsK h0 a cI cB S) sz)) (va_Qi K (fun u t => QK D clK (tysK cI cB) (va_A (wsK h0 a cI cB S) sz) (wsK h0 a cI cB u) t) (va_A (wsK h0 a cI cB S) sz)) 0 0 (va_A (wsK h0 a cI cB S) sz) := by
  refine met_of (rm := rm_Ins_numberJ) (pr := pr_Ins_numberJ) (Qc := fun A => va_Qi K (fun u t => QK D clK (tysK cI cB) A (wsK h0 a cI cB u) t) A) (by decide +kernel) dm_Ins_numberJ (Nat.le_of_ble_eq_true rfl) (fun p e s m args below meth c A C => ?_) sz
  unfold wp_Ins_numberJ at h
  show J p l e rm_Ins_numberJ s m args below meth c 1 D clK A 0 0 _ (wsK h0 a cI cB S) [(0, .ref (a 17))] 0 []
  refine j_aload_n C 0 1 rfl rfl rfl 0 rfl ?_
  refine j_get C 1 4 rfl rfl fg_Ins_17 17 rfl rfl ?_
  refine j_bipush C 2 6 rfl rfl kB_31 ?_
  refine j_ishr C 3 7 rfl rfl ?_
  refine j_bipush C 4 9 rfl rfl kB_20 ?_
  refine j_ishl C 5 10 rfl rfl ?_
  refine j_aload_n C 6 11 rfl rfl rfl 0 rfl ?_
  refine j_get C 7 14 rfl rfl fg_Ins_17 17 rfl rfl ?_
  refine j_ldc C 8 16 rfl rfl w446 ?_
  refine j_iand C 9 17 rfl rfl ?_
  refine j_ior C 10 18 rfl rfl ?_
  refine j_aload_n C 11 19 rfl rfl rfl 0 rfl ?_
  refine j_get C 12 22 rfl rfl fg_Ins_17 17 rfl rfl ?_
  refine j_bipush C 13 24 rfl rfl kB_20 ?_
  refine j_iushr C 14 25 rfl rfl ?_
  refine j_iconst C 15 26 rfl rfl kI_1 ?_
  refine j_iand C 16 27 rfl rfl ?_
  refine j_bipush C 17 29 rfl rfl kB_11 ?_
  refine j_ishl C 18 30 rfl rfl ?_
  refine j_ior C 19 31 rfl rfl ?_
  refine j_aload_n C 20 32 rfl rfl rfl 0 rfl ?_
  refine j_get C 21 35 rfl rfl fg_Ins_17 17 rfl rfl ?_
  refine j_bipush C 22 37 rfl rfl kB_21 ?_
  refine j_iushr C 23 38 rfl rfl ?_
  refine j_sipush C 24 41 rfl rfl kS_1023 ?_
  refine j_iand C 25 42 rfl rfl ?_
  refine j_iconst C 26 43 rfl rfl kI_1 ?_
  refine j_ishl C 27 44 rfl rfl ?_
  refine j_ior C 28 45 rfl rfl ?_
  exact j_iret C 29 rfl h
abbrev rm_Eff_trap : Room := { frames := 0, cells := 0, slots := 0, locals := 0 }
def wp_Eff_trap (S : St) (p1 : Int32) (p2 : Int32) (K : St → Prop) : Prop := ∀ S1 : St, S1 = st S 16 15 1 → (∀ S2 : St, S2 = st S1 16 16 p1 → (∀ S3 : St, S3 = st S2 16 17 p2 → (K S3)))
set_option maxHeartbeats 4000000 in
set_option maxRecDepth 100000 in
theorem c_Eff_trap (l : Launch) (D : va_G) (h0 : Nat) (a : Nat → Nat) (cI cB : ClassId) (S : St) (p1 : Int32) (p2 : Int32) (K : St → Prop) (h : wp_Eff_trap S p1 p2 K) (sz : Nat) : Met l y_Eff_trap (Cond.code y_Eff_trap b_Eff_trap 3 none :: gw) rm_Eff_trap (va_Pc [.ref (a 18), .int p1, .int p2] (PK D clK (tysK cI cB) (wsK h0 a cI cB S) sz)) (va_Qv K (fun u t => QK D clK (tysK cI cB) (va_A (wsK h0 a cI cB S) sz) (wsK h0 a cI cB u) t) (va_A (wsK h0 a cI cB S) sz)) 0 0 (va_A (wsK h0 a cI cB S) sz) := by
  refine met_of (rm := rm_Eff_trap) (pr := pr_Eff_trap) (Qc := fun A => va_Qv K (fun u t => QK D clK (tysK cI cB) A (wsK h0 a cI cB u) t) A) (by decide +kernel) dm_Eff_trap (Nat.le_of_ble_eq_true rfl) (fun p e s m args below meth c A C => ?_) sz
  unfold wp_Eff_trap at h
  show J p l e rm_Eff_trap s m args below meth c 3 D clK A 0 0 _ (wsK h0 a cI cB S) [(0, .ref (a 18)), (1, .int p1), (2, .int p2)] 0 []
  refine j_aload_n C 0 1 rfl rfl rfl 0 rfl ?_
  refine j_iconst C 1 2 rfl rfl kI_1 ?_
  refine j_put C 2 5 rfl rfl fp_Eff_35 18 rfl (Nat.le_of_ble_eq_true rfl) (isB_nar isB_1) (isB_fit isB_1) (st S 16 15 1) (sK_18_15 _ _ _ _ _ _) (fun S1 eS1 => ?_)
  replace h := h S1 eS1
  refine j_aload_n C 3 6 rfl rfl rfl 0 rfl ?_
  refine j_iload_n C 4 7 rfl rfl rfl 1 rfl ?_
  refine j_put C 5 10 rfl rfl fp_Eff_41 18 rfl (Nat.le_of_ble_eq_true rfl) rfl rfl (st S1 16 16 p1) (sK_18_16 _ _ _ _ _ _) (fun S2 eS2 => ?_)
  replace h := h S2 eS2
  refine j_aload_n C 6 11 rfl rfl rfl 0 rfl ?_
  refine j_iload_n C 7 12 rfl rfl rfl 2 rfl ?_
  refine j_put C 8 15 rfl rfl fp_Eff_44 18 rfl (Nat.le_of_ble_eq_true rfl) rfl rfl (st S2 16 17 p2) (sK_18_17 _ _ _ _ _ _) (fun S3 eS3 => ?_)
  replace h := h S3 eS3
  exact j_vret C 9 rfl h
abbrev rm_Eff_jump : Room := { frames := 1, cells := 0, slots := 0, locals := 22 }
def wp_Eff_jump (S : St) (p1 : Int32) (K : St → Prop) : Prop := (if (p1 &&& (3 : Int32)) = 0 then (∀ S2 : St, S2 = st S 16 13 1 → (∀ S3 : St, S3 = st S2 16 12 p1 → (K S3))) else (wp_Eff_trap S 0 p1 (fun S4 => (K S4))))
set_option maxHeartbeats 4000000 in
set_option maxRecDepth 100000 in
theorem c_Eff_jump (l : Launch) (D : va_G) (h0 : Nat) (a : Nat → Nat) (cI cB : ClassId) (S : St) (p1 : Int32) (K : St → Prop) (h : wp_Eff_jump S p1 K) (sz : Nat) : Met l y_Eff_jump (Cond.code y_Eff_jump b_Eff_jump 2 none :: gw) rm_Eff_jump (va_Pc [.ref (a 18), .int p1] (PK D clK (tysK cI cB) (wsK h0 a cI cB S) sz)) (va_Qv K (fun u t => QK D clK (tysK cI cB) (va_A (wsK h0 a cI cB S) sz) (wsK h0 a cI cB u) t) (va_A (wsK h0 a cI cB S) sz)) 0 0 (va_A (wsK h0 a cI cB S) sz) := by
  refine met_of (rm := rm_Eff_jump) (pr := pr_Eff_jump) (Qc := fun A => va_Qv K (fun u t => QK D clK (tysK cI cB) A (wsK h0 a cI cB u) t) A) (by decide +kernel) dm_Eff_jump (Nat.le_of_ble_eq_true rfl) (fun p e s m args below meth c A C => ?_) sz
  unfold wp_Eff_jump at h
  show J p l e rm_Eff_jump s m args below meth c 2 D clK A 0 0 _ (wsK h0 a cI cB S) [(0, .ref (a 18)), (1, .int p1)] 0 []
  refine j_iload_n C 0 1 rfl rfl rfl 1 rfl ?_
  refine j_iconst C 1 2 rfl rfl kI_3 ?_
  refine j_iand C 2 3 rfl rfl ?_
  refine j_if_eq C 3 13 6 rfl (by decide) rfl (fun c1 => ?_) (fun c1 => ?_)
  · replace h := ite_t h c1
    refine j_aload_n C 9 14 rfl rfl rfl 0 rfl ?_
    refine j_iconst C 10 15 rfl rfl kI_1 ?_
    refine j_put C 11 18 rfl rfl fp_Eff_29 18 rfl (Nat.le_of_ble_eq_true rfl) (isB_nar isB_1) (isB_fit isB_1) (st S 16 13 1) (sK_18_13 _ _ _ _ _ _) (fun S2 eS2 => ?_)
    replace h := h S2 eS2
    refine j_aload_n C 12 19 rfl rfl rfl 0 rfl ?_
    refine j_iload_n C 13 20 rfl rfl rfl 1 rfl ?_
    refine j_put C 14 23 rfl rfl fp_Eff_26 18 rfl (Nat.le_of_ble_eq_true rfl) rfl rfl (st S2 16 12 p1) (sK_18_12 _ _ _ _ _ _) (fun S3 eS3 => ?_)
    replace h := h S3 eS3
    exact j_vret C 15 rfl h
  · replace h := ite_f h c1
    refine j_aload_n C 4 7 rfl rfl rfl 0 rfl ?_
    refine j_iconst C 5 8 rfl rfl kI_0 ?_
    refine j_iload_n C 6 9 rfl rfl rfl 1 rfl ?_
    refine j_callVv C 7 12 rfl rfl w454 m_Eff_trap (As := [.int 0, .int p1]) (c_Eff_trap l D h0 a cI cB S 0 p1 _ h) ⟨rfl, rfl⟩ ⟨Nat.le_of_ble_eq_true rfl, Nat.le_of_ble_eq_true rfl⟩ 18 rfl rfl rfl ⟨Nat.le_of_ble_eq_true rfl, Nat.le_of_ble_eq_true rfl⟩ (Nat.le_of_ble_eq_true rfl) rfl (fun S4 h => ?_)
    exact j_vret C 8 rfl h
abbrev rm_Exe_jump : Room := { frames := 2, cells := 0, slots := 0, locals := 43 }
def wp_Exe_jump (S : St) (p1 : Int32) (K : St → Prop) : Prop := wp_Eff_setRegister S (S 15 4) ((S 15 0) + (4 : Int32)) (fun S1 => (wp_Eff_jump S1 p1 (fun S3 => (K S3))))
set_option maxHeartbeats 4000000 in
set_option maxRecDepth 100000 in
theorem c_Exe_jump (l : Launch) (D : va_G) (h0 : Nat) (a : Nat → Nat) (cI cB : ClassId) (S : St) (p1 : Int32) (K : St → Prop) (h : wp_Exe_jump S p1 K) (sz : Nat) : Met l y_Exe_jump (Cond.code y_Exe_jump b_Exe_jump 3 none :: gw) rm_Exe_jump (va_Pc [.ref (a 17), .int p1, .ref (a 18)] (PK D clK (tysK cI cB) (wsK h0 a cI cB S) sz)) (va_Qv K (fun u t => QK D clK (tysK cI cB) (va_A (wsK h0 a cI cB S) sz) (wsK h0 a cI cB u) t) (va_A (wsK h0 a cI cB S) sz)) 0 0 (va_A (wsK h0 a cI cB S) sz) := by
  refine met_of (rm := rm_Exe_jump) (pr := pr_Exe_jump) (Qc := fun A => va_Qv K (fun u t => QK D clK (tysK cI cB) A (wsK h0 a cI cB u) t) A) (by decide +kernel) dm_Exe_jump (Nat.le_of_ble_eq_true rfl) (fun p e s m args below meth c A C => ?_) sz
  unfold wp_Exe_jump at h
  show J p l e rm_Exe_jump s m args below meth c 3 D clK A 0 0 _ (wsK h0 a cI cB S) [(0, .ref (a 17)), (1, .int p1), (2, .ref (a 18))] 0 []
  refine j_aload_n C 0 1 rfl rfl rfl 2 rfl ?_
  refine j_aload_n C 1 2 rfl rfl rfl 0 rfl ?_
  refine j_get C 2 5 rfl rfl fg_Exe_13 17 rfl rfl ?_
  refine j_aload_n C 3 6 rfl rfl rfl 0 rfl ?_
  refine j_get C 4 9 rfl rfl fg_Exe_26 17 rfl rfl ?_
  refine j_iconst C 5 10 rfl rfl kI_4 ?_
  refine j_iadd C 6 11 rfl rfl ?_
  refine j_callVv C 7 14 rfl rfl w438 m_Eff_setRegister (As := [.int (S 15 4), .int ((S 15 0) + (4 : Int32))]) (c_Eff_setRegister l D h0 a cI cB S (S 15 4) ((S 15 0) + (4 : Int32)) _ h) ⟨rfl, rfl⟩ ⟨Nat.le_of_ble_eq_true rfl, Nat.le_of_ble_eq_true rfl⟩ 18 rfl rfl rfl ⟨Nat.le_of_ble_eq_true rfl, Nat.le_of_ble_eq_true rfl⟩ (Nat.le_of_ble_eq_true rfl) rfl (fun S1 h => ?_)
  refine j_aload_n C 8 15 rfl rfl rfl 2 rfl ?_
  refine j_iload_n C 9 16 rfl rfl rfl 1 rfl ?_
  refine j_callVv C 10 19 rfl rfl w450 m_Eff_jump (As := [.int p1]) (c_Eff_jump l D h0 a cI cB S1 p1 _ h) ⟨rfl, rfl⟩ ⟨Nat.le_of_ble_eq_true rfl, Nat.le_of_ble_eq_true rfl⟩ 18 rfl rfl rfl ⟨Nat.le_of_ble_eq_true rfl, Nat.le_of_ble_eq_true rfl⟩ (Nat.le_of_ble_eq_true rfl) rfl (fun S3 h => ?_)
  exact j_vret C 11 rfl h
abbrev rm_Ins_numberI : Room := { frames := 0, cells := 0, slots := 0, locals := 0 }
def wp_Ins_numberI (S : St)  (K : Int32 → St → Prop) : Prop := K ((S 15 2) >>> ((20 : Int32) &&& 31)) S
set_option maxHeartbeats 4000000 in
set_option maxRecDepth 100000 in
theorem c_Ins_numberI (l : Launch) (D : va_G) (h0 : Nat) (a : Nat → Nat) (cI cB : ClassId) (S : St)  (K : Int32 → St → Prop) (h : wp_Ins_numberI S K) (sz : Nat) : Met l y_Ins_numberI (Cond.code y_Ins_numberI b_Ins_numberI 1 (some .int) :: gw) rm_Ins_numberI (va_Pc [.ref (a 17)] (PK D clK (tysK cI cB) (wsK h0 a cI cB S) sz)) (va_Qi K (fun u t => QK D clK (tysK cI cB) (va_A (wsK h0 a cI cB S) sz) (wsK h0 a cI cB u) t) (va_A (wsK h0 a cI cB S) sz)) 0 0 (va_A (wsK h0 a cI cB S) sz) := by
  refine met_of (rm := rm_Ins_numberI) (pr := pr_Ins_numberI) (Qc := fun A => va_Qi K (fun u t => QK D clK (tysK cI cB) A (wsK h0 a cI cB u) t) A) (by decide +kernel) dm_Ins_numberI (Nat.le_of_ble_eq_true rfl) (fun p e s m args below meth c A C => ?_) sz
  unfold wp_Ins_numberI at h
  show J p l e rm_Ins_numberI s m args below meth c 1 D clK A 0 0 _ (wsK h0 a cI cB S) [(0, .ref (a 17))] 0 []
  refine j_aload_n C 0 1 rfl rfl rfl 0 rfl ?_
  refine j_get C 1 4 rfl rfl fg_Ins_17 17 rfl rfl ?_
  refine j_bipush C 2 6 rfl rfl kB_20 ?_
  refine j_ishr C 3 7 rfl rfl ?_
  exact j_iret C 4 rfl h
abbrev rm_Exe_refuse : Room := { frames := 1, cells := 0, slots := 0, locals := 22 }
def wp_Exe_refuse (S : St)  (K : St → Prop) : Prop := wp_Eff_trap S 2 (S 15 2) (fun S1 => (K S1))
set_option maxHeartbeats 4000000 in
set_option maxRecDepth 100000 in
theorem c_Exe_refuse (l : Launch) (D : va_G) (h0 : Nat) (a : Nat → Nat) (cI cB : ClassId) (S : St)  (K : St → Prop) (h : wp_Exe_refuse S K) (sz : Nat) : Met l y_Exe_refuse (Cond.code y_Exe_refuse b_Exe_refuse 2 none :: gw) rm_Exe_refuse (va_Pc [.ref (a 17), .ref (a 18)] (PK D clK (tysK cI cB) (wsK h0 a cI cB S) sz)) (va_Qv K (fun u t => QK D clK (tysK cI cB) (va_A (wsK h0 a cI cB S) sz) (wsK h0 a cI cB u) t) (va_A (wsK h0 a cI cB S) sz)) 0 0 (va_A (wsK h0 a cI cB S) sz) := by
  refine met_of (rm := rm_Exe_refuse) (pr := pr_Exe_refuse) (Qc := fun A => va_Qv K (fun u t => QK D clK (tysK cI cB) A (wsK h0 a cI cB u) t) A) (by decide +kernel) dm_Exe_refuse (Nat.le_of_ble_eq_true rfl) (fun p e s m args below meth c A C => ?_) sz
  unfold wp_Exe_refuse at h
  show J p l e rm_Exe_refuse s m args below meth c 2 D clK A 0 0 _ (wsK h0 a cI cB S) [(0, .ref (a 17)), (1, .ref (a 18))] 0 []
  refine j_aload_n C 0 1 rfl rfl rfl 1 rfl ?_
  refine j_iconst C 1 2 rfl rfl kI_2 ?_
  refine j_aload_n C 2 3 rfl rfl rfl 0 rfl ?_
  refine j_get C 3 6 rfl rfl fg_Exe_75 17 rfl rfl ?_
  refine j_callVv C 4 9 rfl rfl w465 m_Eff_trap (As := [.int 2, .int (S 15 2)]) (c_Eff_trap l D h0 a cI cB S 2 (S 15 2) _ h) ⟨rfl, rfl⟩ ⟨Nat.le_of_ble_eq_true rfl, Nat.le_of_ble_eq_true rfl⟩ 18 rfl rfl rfl ⟨Nat.le_of_ble_eq_true rfl, Nat.le_of_ble_eq_true rfl⟩ (Nat.le_of_ble_eq_true rfl) rfl (fun S1 h => ?_)
  exact j_vret C 5 rfl h
abbrev rm_Ari_lessWithoutSigns : Room := { frames := 0, cells := 0, slots := 0, locals := 0 }
def wp_Ari_lessWithoutSigns_21 (K : Int32 → St → Prop) (S : St) (k0 : Int32) : Prop := isB k0 ∧ K k0 S
set_option maxHeartbeats 4000000 in
set_option maxRecDepth 100000 in
theorem L_Ari_lessWithoutSigns_21 {p : Program} {l : Launch} {e : Env} {s : State} {m : MethodId} {args : Array Value} {below : List Frame} {meth : Method} {c : Code} {A : Nat → Prop} {D : va_G} {h0 : Nat} {a : Nat → Nat} {cI cB : ClassId} {K : Int32 → St → Prop} (C : CX p rm_Ari_lessWithoutSigns s m args meth c b_Ari_lessWithoutSigns 2 "PipelinedCore$Arithmetic" (some .boolean) pr_Ari_lessWithoutSigns D clK (tysK cI cB) A) (S : St) (k0 : Int32) (h : wp_Ari_lessWithoutSigns_21 K S k0) : J p l e rm_Ari_lessWithoutSigns s m args below meth c 2 D clK A 0 0 (MQ below (va_Qi K (fun u t => QK D clK (tysK cI cB) A (wsK h0 a cI cB u) t) A) args s 0 0 A) (wsK h0 a cI cB S) [] 21 [.int k0] := by
  unfold wp_Ari_lessWithoutSigns_21 at h
  exact j_zret C 13 rfl h.1 h.2
def wp_Ari_lessWithoutSigns (S : St) (p1 : Int32) (p2 : Int32) (K : Int32 → St → Prop) : Prop := (if (0 : Int32) ≤ (lg_cmp (p1.toInt64 &&& (4294967295 : Int64)) (p2.toInt64 &&& (4294967295 : Int64))) then ((wp_Ari_lessWithoutSigns_21 K S 0)) else ((wp_Ari_lessWithoutSigns_21 K S 1)))
set_option maxHeartbeats 4000000 in
set_option maxRecDepth 100000 in
theorem c_Ari_lessWithoutSigns (l : Launch) (D : va_G) (h0 : Nat) (a : Nat → Nat) (cI cB : ClassId) (S : St) (p1 : Int32) (p2 : Int32) (K : Int32 → St → Prop) (h : wp_Ari_lessWithoutSigns S p1 p2 K) (sz : Nat) : Met l y_Ari_lessWithoutSigns (Cond.code y_Ari_lessWithoutSigns b_Ari_lessWithoutSigns 2 (some .boolean) :: gw) rm_Ari_lessWithoutSigns (va_Pc [.int p1, .int p2] (PK D clK (tysK cI cB) (wsK h0 a cI cB S) sz)) (va_Qi K (fun u t => QK D clK (tysK cI cB) (va_A (wsK h0 a cI cB S) sz) (wsK h0 a cI cB u) t) (va_A (wsK h0 a cI cB S) sz)) 0 0 (va_A (wsK h0 a cI cB S) sz) := by
  refine met_of (rm := rm_Ari_lessWithoutSigns) (pr := pr_Ari_lessWithoutSigns) (Qc := fun A => va_Qi K (fun u t => QK D clK (tysK cI cB) A (wsK h0 a cI cB u) t) A) (by decide +kernel) dm_Ari_lessWithoutSigns (Nat.le_of_ble_eq_true rfl) (fun p e s m args below meth c A C => ?_) sz
  unfold wp_Ari_lessWithoutSigns at h
  show J p l e rm_Ari_lessWithoutSigns s m args below meth c 2 D clK A 0 0 _ (wsK h0 a cI cB S) [(0, .int p1), (1, .int p2)] 0 []
  refine j_iload_n C 0 1 rfl rfl rfl 0 rfl ?_
  refine j_i2l C 1 2 rfl rfl ?_
  refine j_ldc2_w C 2 5 rfl rfl w475 ?_
  refine j_land C 3 6 rfl rfl ?_
  refine j_iload_n C 4 7 rfl rfl rfl 1 rfl ?_
  refine j_i2l C 5 8 rfl rfl ?_
  refine j_ldc2_w C 6 11 rfl rfl w475 ?_
  refine j_land C 7 12 rfl rfl ?_
  refine j_lcmp C 8 13 rfl rfl ?_
  refine j_if_ge C 9 20 16 rfl (by decide) rfl (fun c1 => ?_) (fun c1 => ?_)
  · replace h := ite_t h c1
    refine j_iconst C 12 21 rfl rfl kI_0 ?_
    refine j_sub [] rfl ?_
    exact L_Ari_lessWithoutSigns_21 C S 0 h
  · replace h := ite_f h c1
    refine j_iconst C 10 17 rfl rfl kI_1 ?_
    refine j_goto C 11 21 rfl (by decide) ?_
    refine j_sub [] rfl ?_
    exact L_Ari_lessWithoutSigns_21 C S 1 h
abbrev rm_Exe_conditionHolds : Room := { frames := 1, cells := 0, slots := 0, locals := 21 }
def wp_Exe_conditionHolds_54 (K : Int32 → St → Prop) (S : St) (k0 : Int32) : Prop := isB k0 ∧ K k0 S
set_option maxHeartbeats 4000000 in
set_option maxRecDepth 100000 in
theorem L_Exe_conditionHolds_54 {p : Program} {l : Launch} {e : Env} {s : State} {m : MethodId} {args : Array Value} {below : List Frame} {meth : Method} {c : Code} {A : Nat → Prop} {D : va_G} {h0 : Nat} {a : Nat → Nat} {cI cB : ClassId} {K : Int32 → St → Prop} (C : CX p rm_Exe_conditionHolds s m args meth c b_Exe_conditionHolds 3 "PipelinedCore$Execution" (some .boolean) pr_Exe_conditionHolds D clK (tysK cI cB) A) (S : St) (k0 : Int32) (h : wp_Exe_conditionHolds_54 K S k0) : J p l e rm_Exe_conditionHolds s m args below meth c 3 D clK A 0 0 (MQ below (va_Qi K (fun u t => QK D clK (tysK cI cB) A (wsK h0 a cI cB u) t) A) args s 0 0 A) (wsK h0 a cI cB S) [] 54 [.int k0] := by
  unfold wp_Exe_conditionHolds_54 at h
  exact j_zret C 8 rfl h.1 h.2
def wp_Exe_conditionHolds_65 (K : Int32 → St → Prop) (S : St) (k0 : Int32) : Prop := isB k0 ∧ K k0 S
set_option maxHeartbeats 4000000 in
set_option maxRecDepth 100000 in
theorem L_Exe_conditionHolds_65 {p : Program} {l : Launch} {e : Env} {s : State} {m : MethodId} {args : Array Value} {below : List Frame} {meth : Method} {c : Code} {A : Nat → Prop} {D : va_G} {h0 : Nat} {a : Nat → Nat} {cI cB : ClassId} {K : Int32 → St → Prop} (C : CX p rm_Exe_conditionHolds s m args meth c b_Exe_conditionHolds 3 "PipelinedCore$Execution" (some .boolean) pr_Exe_conditionHolds D clK (tysK cI cB) A) (S : St) (k0 : Int32) (h : wp_Exe_conditionHolds_65 K S k0) : J p l e rm_Exe_conditionHolds s m args below meth c 3 D clK A 0 0 (MQ below (va_Qi K (fun u t => QK D clK (tysK cI cB) A (wsK h0 a cI cB u) t) A) args s 0 0 A) (wsK h0 a cI cB S) [] 65 [.int k0] := by
  unfold wp_Exe_conditionHolds_65 at h
  exact j_zret C 15 rfl h.1 h.2
def wp_Exe_conditionHolds_76 (K : Int32 → St → Prop) (S : St) (k0 : Int32) : Prop := isB k0 ∧ K k0 S
set_option maxHeartbeats 4000000 in
set_option maxRecDepth 100000 in
theorem L_Exe_conditionHolds_76 {p : Program} {l : Launch} {e : Env} {s : State} {m : MethodId} {args : Array Value} {below : List Frame} {meth : Method} {c : Code} {A : Nat → Prop} {D : va_G} {h0 : Nat} {a : Nat → Nat} {cI cB : ClassId} {K : Int32 → St → Prop} (C : CX p rm_Exe_conditionHolds s m args meth c b_Exe_conditionHolds 3 "PipelinedCore$Execution" (some .boolean) pr_Exe_conditionHolds D clK (tysK cI cB) A) (S : St) (k0 : Int32) (h : wp_Exe_conditionHolds_76 K S k0) : J p l e rm_Exe_conditionHolds s m args below meth c 3 D clK A 0 0 (MQ below (va_Qi K (fun u t => QK D clK (tysK cI cB) A (wsK h0 a cI cB u) t) A) args s 0 0 A) (wsK h0 a cI cB S) [] 76 [.int k0] := by
  unfold wp_Exe_conditionHolds_76 at h
  exact j_zret C 22 rfl h.1 h.2
def wp_Exe_conditionHolds_87 (K : Int32 → St → Prop) (S : St) (k0 : Int32) : Prop := isB k0 ∧ K k0 S
set_option maxHeartbeats 4000000 in
set_option maxRecDepth 100000 in
theorem L_Exe_conditionHolds_87 {p : Program} {l : Launch} {e : Env} {s : State} {m : MethodId} {args : Array Value} {below : List Frame} {meth : Method} {c : Code} {A : Nat → Prop} {D : va_G} {h0 : Nat} {a : Nat → Nat} {cI cB : ClassId} {K : Int32 → St → Prop} (C : CX p rm_Exe_conditionHolds s m args meth c b_Exe_conditionHolds 3 "PipelinedCore$Execution" (some .boolean) pr_Exe_conditionHolds D clK (tysK cI cB) A) (S : St) (k0 : Int32) (h : wp_Exe_conditionHolds_87 K S k0) : J p l e rm_Exe_conditionHolds s m args below meth c 3 D clK A 0 0 (MQ below (va_Qi K (fun u t => QK D clK (tysK cI cB) A (wsK h0 a cI cB u) t) A) args s 0 0 A) (wsK h0 a cI cB S) [] 87 [.int k0] := by
  unfold wp_Exe_conditionHolds_87 at h
  exact j_zret C 29 rfl h.1 h.2
def wp_Exe_conditionHolds_107 (K : Int32 → St → Prop) (S : St) (k0 : Int32) : Prop := isB k0 ∧ K k0 S
set_option maxHeartbeats 4000000 in
set_option maxRecDepth 100000 in
theorem L_Exe_conditionHolds_107 {p : Program} {l : Launch} {e : Env} {s : State} {m : MethodId} {args : Array Value} {below : List Frame} {meth : Method} {c : Code} {A : Nat → Prop} {D : va_G} {h0 : Nat} {a : Nat → Nat} {cI cB : ClassId} {K : Int32 → St → Prop} (C : CX p rm_Exe_conditionHolds s m args meth c b_Exe_conditionHolds 3 "PipelinedCore$Execution" (some .boolean) pr_Exe_conditionHolds D clK (tysK cI cB) A) (S : St) (k0 : Int32) (h : wp_Exe_conditionHolds_107 K S k0) : J p l e rm_Exe_conditionHolds s m args below meth c 3 D clK A 0 0 (MQ below (va_Qi K (fun u t => QK D clK (tysK cI cB) A (wsK h0 a cI cB u) t) A) args s 0 0 A) (wsK h0 a cI cB S) [] 107 [.int k0] := by
  unfold wp_Exe_conditionHolds_107 at h
  exact j_zret C 41 rfl h.1 h.2
def wp_Exe_conditionHolds (S : St) (p1 : Int32) (p2 : Int32) (p3 : Int32) (K : Int32 → St → Prop) : Prop := (if p1 = 0 then ((if p2 = p3 then ((wp_Exe_conditionHolds_54 K S 1)) else ((wp_Exe_conditionHolds_54 K S 0)))) else (if p1 = 1 then ((if p2 = p3 then ((wp_Exe_conditionHolds_65 K S 0)) else ((wp_Exe_conditionHolds_65 K S 1)))) else (if p1 = 2 then (wp_Ari_lessWithoutSigns S p2 p3 (fun r5 S4 => ((if r5 = 0 then ((wp_Exe_conditionHolds_107 K S4 1)) else ((wp_Exe_conditionHolds_107 K S4 0)))))) else (if p1 = 3 then (wp_Ari_lessWithoutSigns S p2 p3 (fun r8 S7 => ((if r8 = 0 then ((wp_Exe_conditionHolds_107 K S7 1)) else ((wp_Exe_conditionHolds_107 K S7 0)))))) else (if p1 = 4 then ((if p3 ≤ p2 then ((wp_Exe_conditionHolds_76 K S 0)) else ((wp_Exe_conditionHolds_76 K S 1)))) else (if p1 = 5 then ((if p2 < p3 then ((wp_Exe_conditionHolds_87 K S 0)) else ((wp_Exe_conditionHolds_87 K S 1)))) else (if p1 = 6 then (wp_Ari_lessWithoutSigns S p2 p3 (fun r13 S12 => (isB r13 ∧ K r13 S12))) else (wp_Ari_lessWithoutSigns S p2 p3 (fun r15 S14 => ((if r15 = 0 then ((wp_Exe_conditionHolds_107 K S14 1)) else ((wp_Exe_conditionHolds_107 K S14 0)))))))))))))
set_option maxHeartbeats 4000000 in
set_option maxRecDepth 100000 in
theorem c_Exe_conditionHolds (l : Launch) (D : va_G) (h0 : Nat) (a : Nat → Nat) (cI cB : ClassId) (S : St) (p1 : Int32) (p2 : Int32) (p3 : Int32) (K : Int32 → St → Prop) (h : wp_Exe_conditionHolds S p1 p2 p3 K) (sz : Nat) : Met l y_Exe_conditionHolds (Cond.code y_Exe_conditionHolds b_Exe_conditionHolds 3 (some .boolean) :: gw) rm_Exe_conditionHolds (va_Pc [.int p1, .int p2, .int p3] (PK D clK (tysK cI cB) (wsK h0 a cI cB S) sz)) (va_Qi K (fun u t => QK D clK (tysK cI cB) (va_A (wsK h0 a cI cB S) sz) (wsK h0 a cI cB u) t) (va_A (wsK h0 a cI cB S) sz)) 0 0 (va_A (wsK h0 a cI cB S) sz) := by
  refine met_of (rm := rm_Exe_conditionHolds) (pr := pr_Exe_conditionHolds) (Qc := fun A => va_Qi K (fun u t => QK D clK (tysK cI cB) A (wsK h0 a cI cB u) t) A) (by decide +kernel) dm_Exe_conditionHolds (Nat.le_of_ble_eq_true rfl) (fun p e s m args below meth c A C => ?_) sz
  unfold wp_Exe_conditionHolds at h
  show J p l e rm_Exe_conditionHolds s m args below meth c 3 D clK A 0 0 _ (wsK h0 a cI cB S) [(0, .int p1), (1, .int p2), (2, .int p3)] 0 []
  refine j_iload_n C 0 1 rfl rfl rfl 0 rfl ?_
  refine j_table C 1 rfl [(0, 44), (1, 55), (2, 94), (3, 94), (4, 66), (5, 77), (6, 88)] 94 (by decide +kernel) (by decide) (by decide) (swP_c (fun c1_0 => ?_) (fun nc1_0 => swP_c (fun c1_1 => ?_) (fun nc1_1 => swP_c (fun c1_2 => ?_) (fun nc1_2 => swP_c (fun c1_3 => ?_) (fun nc1_3 => swP_c (fun c1_4 => ?_) (fun nc1_4 => swP_c (fun c1_5 => ?_) (fun nc1_5 => swP_c (fun c1_6 => ?_) (fun nc1_6 => swP_n ?_))))))))
  · replace h := ite_t h c1_0
    refine j_iload_n C 2 45 rfl rfl rfl 1 rfl ?_
    refine j_iload_n C 3 46 rfl rfl rfl 2 rfl ?_
    refine j_icmp_ne C 4 53 49 rfl (by decide) rfl (fun c2 => ?_) (fun c2 => ?_)
    · replace h := ite_f h c2
      refine j_iconst C 7 54 rfl rfl kI_0 ?_
      refine j_sub [] rfl ?_
      exact L_Exe_conditionHolds_54 C S 0 h
    · replace h := ite_t h c2
      refine j_iconst C 5 50 rfl rfl kI_1 ?_
      refine j_goto C 6 54 rfl (by decide) ?_
      refine j_sub [] rfl ?_
      exact L_Exe_conditionHolds_54 C S 1 h
  · replace h := ite_t (ite_f h nc1_0) c1_1
    refine j_iload_n C 9 56 rfl rfl rfl 1 rfl ?_
    refine j_iload_n C 10 57 rfl rfl rfl 2 rfl ?_
    refine j_icmp_eq C 11 64 60 rfl (by decide) rfl (fun c3 => ?_) (fun c3 => ?_)
    · replace h := ite_t h c3
      refine j_iconst C 14 65 rfl rfl kI_0 ?_
      refine j_sub [] rfl ?_
      exact L_Exe_conditionHolds_65 C S 0 h
    · replace h := ite_f h c3
      refine j_iconst C 12 61 rfl rfl kI_1 ?_
      refine j_goto C 13 65 rfl (by decide) ?_
      refine j_sub [] rfl ?_
      exact L_Exe_conditionHolds_65 C S 1 h
  · replace h := ite_t (ite_f (ite_f h nc1_0) nc1_1) c1_2
    refine j_iload_n C 34 95 rfl rfl rfl 1 rfl ?_
    refine j_iload_n C 35 96 rfl rfl rfl 2 rfl ?_
    refine j_callSi C 36 99 rfl rfl w472 m_Ari_lessWithoutSigns (As := [.int p2, .int p3]) (c_Ari_lessWithoutSigns l D h0 a cI cB S p2 p3 _ h) ⟨rfl, rfl⟩ ⟨Nat.le_of_ble_eq_true rfl, Nat.le_of_ble_eq_true rfl⟩ rfl ⟨Nat.le_of_ble_eq_true rfl, Nat.le_of_ble_eq_true rfl⟩ (Nat.le_of_ble_eq_true rfl) rfl (fun r5 S4 h => ?_)
    refine j_if_ne C 37 106 102 rfl (by decide) rfl (fun c6 => ?_) (fun c6 => ?_)
    · replace h := ite_f h c6
      refine j_iconst C 40 107 rfl rfl kI_0 ?_
      refine j_sub [] rfl ?_
      exact L_Exe_conditionHolds_107 C S4 0 h
    · replace h := ite_t h c6
      refine j_iconst C 38 103 rfl rfl kI_1 ?_
      refine j_goto C 39 107 rfl (by decide) ?_
      refine j_sub [] rfl ?_
      exact L_Exe_conditionHolds_107 C S4 1 h
  · replace h := ite_t (ite_f (ite_f (ite_f h nc1_0) nc1_1) nc1_2) c1_3
    refine j_iload_n C 34 95 rfl rfl rfl 1 rfl ?_
    refine j_iload_n C 35 96 rfl rfl rfl 2 rfl ?_
    refine j_callSi C 36 99 rfl rfl w472 m_Ari_lessWithoutSigns (As := [.int p2, .int p3]) (c_Ari_lessWithoutSigns l D h0 a cI cB S p2 p3 _ h) ⟨rfl, rfl⟩ ⟨Nat.le_of_ble_eq_true rfl, Nat.le_of_ble_eq_true rfl⟩ rfl ⟨Nat.le_of_ble_eq_true rfl, Nat.le_of_ble_eq_true rfl⟩ (Nat.le_of_ble_eq_true rfl) rfl (fun r8 S7 h => ?_)
    refine j_if_ne C 37 106 102 rfl (by decide) rfl (fun c9 => ?_) (fun c9 => ?_)
    · replace h := ite_f h c9
      refine j_iconst C 40 107 rfl rfl kI_0 ?_
      refine j_sub [] rfl ?_
      exact L_Exe_conditionHolds_107 C S7 0 h
    · replace h := ite_t h c9
      refine j_iconst C 38 103 rfl rfl kI_1 ?_
      refine j_goto C 39 107 rfl (by decide) ?_
      refine j_sub [] rfl ?_
      exact L_Exe_conditionHolds_107 C S7 1 h
  · replace h := ite_t (ite_f (ite_f (ite_f (ite_f h nc1_0) nc1_1) nc1_2) nc1_3) c1_4
    refine j_iload_n C 16 67 rfl rfl rfl 1 rfl ?_
    refine j_iload_n C 17 68 rfl rfl rfl 2 rfl ?_
    refine j_icmp_ge C 18 75 71 rfl (by decide) rfl (fun c10 => ?_) (fun c10 => ?_)
    · replace h := ite_t h c10
      refine j_iconst C 21 76 rfl rfl kI_0 ?_
      refine j_sub [] rfl ?_
      exact L_Exe_conditionHolds_76 C S 0 h
    · replace h := ite_f h c10
      refine j_iconst C 19 72 rfl rfl kI_1 ?_
      refine j_goto C 20 76 rfl (by decide) ?_
      refine j_sub [] rfl ?_
      exact L_Exe_conditionHolds_76 C S 1 h
  · replace h := ite_t (ite_f (ite_f (ite_f (ite_f (ite_f h nc1_0) nc1_1) nc1_2) nc1_3) nc1_4) c1_5
    refine j_iload_n C 23 78 rfl rfl rfl 1 rfl ?_
    refine j_iload_n C 24 79 rfl rfl rfl 2 rfl ?_
    refine j_icmp_lt C 25 86 82 rfl (by decide) rfl (fun c11 => ?_) (fun c11 => ?_)
    · replace h := ite_t h c11
      refine j_iconst C 28 87 rfl rfl kI_0 ?_
      refine j_sub [] rfl ?_
      exact L_Exe_conditionHolds_87 C S 0 h
    · replace h := ite_f h c11
      refine j_iconst C 26 83 rfl rfl kI_1 ?_
      refine j_goto C 27 87 rfl (by decide) ?_
      refine j_sub [] rfl ?_
      exact L_Exe_conditionHolds_87 C S 1 h
  · replace h := ite_t (ite_f (ite_f (ite_f (ite_f (ite_f (ite_f h nc1_0) nc1_1) nc1_2) nc1_3) nc1_4) nc1_5) c1_6
    refine j_iload_n C 30 89 rfl rfl rfl 1 rfl ?_
    refine j_iload_n C 31 90 rfl rfl rfl 2 rfl ?_
    refine j_callSi C 32 93 rfl rfl w472 m_Ari_lessWithoutSigns (As := [.int p2, .int p3]) (c_Ari_lessWithoutSigns l D h0 a cI cB S p2 p3 _ h) ⟨rfl, rfl⟩ ⟨Nat.le_of_ble_eq_true rfl, Nat.le_of_ble_eq_true rfl⟩ rfl ⟨Nat.le_of_ble_eq_true rfl, Nat.le_of_ble_eq_true rfl⟩ (Nat.le_of_ble_eq_true rfl) rfl (fun r13 S12 h => ?_)
    exact j_zret C 33 rfl h.1 h.2
  · replace h := (ite_f (ite_f (ite_f (ite_f (ite_f (ite_f (ite_f h nc1_0) nc1_1) nc1_2) nc1_3) nc1_4) nc1_5) nc1_6)
    refine j_iload_n C 34 95 rfl rfl rfl 1 rfl ?_
    refine j_iload_n C 35 96 rfl rfl rfl 2 rfl ?_
    refine j_callSi C 36 99 rfl rfl w472 m_Ari_lessWithoutSigns (As := [.int p2, .int p3]) (c_Ari_lessWithoutSigns l D h0 a cI cB S p2 p3 _ h) ⟨rfl, rfl⟩ ⟨Nat.le_of_ble_eq_true rfl, Nat.le_of_ble_eq_true rfl⟩ rfl ⟨Nat.le_of_ble_eq_true rfl, Nat.le_of_ble_eq_true rfl⟩ (Nat.le_of_ble_eq_true rfl) rfl (fun r15 S14 h => ?_)
    refine j_if_ne C 37 106 102 rfl (by decide) rfl (fun c16 => ?_) (fun c16 => ?_)
    · replace h := ite_f h c16
      refine j_iconst C 40 107 rfl rfl kI_0 ?_
      refine j_sub [] rfl ?_
      exact L_Exe_conditionHolds_107 C S14 0 h
    · replace h := ite_t h c16
      refine j_iconst C 38 103 rfl rfl kI_1 ?_
      refine j_goto C 39 107 rfl (by decide) ?_
      refine j_sub [] rfl ?_
      exact L_Exe_conditionHolds_107 C S14 1 h
abbrev rm_Ins_numberB : Room := { frames := 0, cells := 0, slots := 0, locals := 0 }
def wp_Ins_numberB (S : St)  (K : Int32 → St → Prop) : Prop := K ((((((S 15 2) >>> ((31 : Int32) &&& 31)) <<< ((12 : Int32) &&& 31)) ||| (((jushr (S 15 2) (7 : Int32)) &&& (1 : Int32)) <<< ((11 : Int32) &&& 31))) ||| (((jushr (S 15 2) (25 : Int32)) &&& (63 : Int32)) <<< ((5 : Int32) &&& 31))) ||| (((jushr (S 15 2) (8 : Int32)) &&& (15 : Int32)) <<< ((1 : Int32) &&& 31))) S
set_option maxHeartbeats 4000000 in
set_option maxRecDepth 100000 in
theorem c_Ins_numberB (l : Launch) (D : va_G) (h0 : Nat) (a : Nat → Nat) (cI cB : ClassId) (S : St)  (K : Int32 → St → Prop) (h : wp_Ins_numberB S K) (sz : Nat) : Met l y_Ins_numberB (Cond.code y_Ins_numberB b_Ins_numberB 1 (some .int) :: gw) rm_Ins_numberB (va_Pc [.ref (a 17)] (PK D clK (tysK cI cB) (wsK h0 a cI cB S) sz)) (va_Qi K (fun u t => QK D clK (tysK cI cB) (va_A (wsK h0 a cI cB S) sz) (wsK h0 a cI cB u) t) (va_A (wsK h0 a cI cB S) sz)) 0 0 (va_A (wsK h0 a cI cB S) sz) := by
  refine met_of (rm := rm_Ins_numberB) (pr := pr_Ins_numberB) (Qc := fun A => va_Qi K (fun u t => QK D clK (tysK cI cB) A (wsK h0 a cI cB u) t) A) (by decide +kernel) dm_Ins_numberB (Nat.le_of_ble_eq_true rfl) (fun p e s m args below meth c A C => ?_) sz
  unfold wp_Ins_numberB at h
  show J p l e rm_Ins_numberB s m args below meth c 1 D clK A 0 0 _ (wsK h0 a cI cB S) [(0, .ref (a 17))] 0 []
  refine j_aload_n C 0 1 rfl rfl rfl 0 rfl ?_
  refine j_get C 1 4 rfl rfl fg_Ins_17 17 rfl rfl ?_
  refine j_bipush C 2 6 rfl rfl kB_31 ?_
  refine j_ishr C 3 7 rfl rfl ?_
  refine j_bipush C 4 9 rfl rfl kB_12 ?_
  refine j_ishl C 5 10 rfl rfl ?_
  refine j_aload_n C 6 11 rfl rfl rfl 0 rfl ?_
  refine j_get C 7 14 rfl rfl fg_Ins_17 17 rfl rfl ?_
  refine j_bipush C 8 16 rfl rfl kB_7 ?_
  refine j_iushr C 9 17 rfl rfl ?_
  refine j_iconst C 10 18 rfl rfl kI_1 ?_
  refine j_iand C 11 19 rfl rfl ?_
  refine j_bipush C 12 21 rfl rfl kB_11 ?_
  refine j_ishl C 13 22 rfl rfl ?_
  refine j_ior C 14 23 rfl rfl ?_
  refine j_aload_n C 15 24 rfl rfl rfl 0 rfl ?_
  refine j_get C 16 27 rfl rfl fg_Ins_17 17 rfl rfl ?_
  refine j_bipush C 17 29 rfl rfl kB_25 ?_
  refine j_iushr C 18 30 rfl rfl ?_
  refine j_bipush C 19 32 rfl rfl kB_63 ?_
  refine j_iand C 20 33 rfl rfl ?_
  refine j_iconst C 21 34 rfl rfl kI_5 ?_
  refine j_ishl C 22 35 rfl rfl ?_
  refine j_ior C 23 36 rfl rfl ?_
  refine j_aload_n C 24 37 rfl rfl rfl 0 rfl ?_
  refine j_get C 25 40 rfl rfl fg_Ins_17 17 rfl rfl ?_
  refine j_bipush C 26 42 rfl rfl kB_8 ?_
  refine j_iushr C 27 43 rfl rfl ?_
  refine j_bipush C 28 45 rfl rfl kB_15 ?_
  refine j_iand C 29 46 rfl rfl ?_
  refine j_iconst C 30 47 rfl rfl kI_1 ?_
  refine j_ishl C 31 48 rfl rfl ?_
  refine j_ior C 32 49 rfl rfl ?_
  exact j_iret C 33 rfl h
abbrev rm_Exe_branch : Room := { frames := 2, cells := 0, slots := 0, locals := 43 }
def wp_Exe_branch_49 (K : St → Prop) (S : St)  : Prop := K S
set_option maxHeartbeats 4000000 in
set_option maxRecDepth 100000 in
theorem L_Exe_branch_49 {p : Program} {l : Launch} {e : Env} {s : State} {m : MethodId} {args : Array Value} {below : List Frame} {meth : Method} {c : Code} {A : Nat → Prop} {D : va_G} {h0 : Nat} {a : Nat → Nat} {cI cB : ClassId} {K : St → Prop} (C : CX p rm_Exe_branch s m args meth c b_Exe_branch 4 "PipelinedCore$Execution" none pr_Exe_branch D clK (tysK cI cB) A) (S : St)  (h : wp_Exe_branch_49 K S) : J p l e rm_Exe_branch s m args below meth c 4 D clK A 0 0 (MQ below (va_Qv K (fun u t => QK D clK (tysK cI cB) A (wsK h0 a cI cB u) t) A) args s 0 0 A) (wsK h0 a cI cB S) [] 49 [] := by
  unfold wp_Exe_branch_49 at h
  exact j_vret C 25 rfl h
def wp_Exe_branch_16 (K : St → Prop) (S : St)  : Prop := wp_Exe_refuse S (fun S10 => ((wp_Exe_branch_49 K S10)))
set_option maxHeartbeats 4000000 in
set_option maxRecDepth 100000 in
theorem L_Exe_branch_16 {p : Program} {l : Launch} {e : Env} {s : State} {m : MethodId} {args : Array Value} {below : List Frame} {meth : Method} {c : Code} {A : Nat → Prop} {D : va_G} {h0 : Nat} {a : Nat → Nat} {cI cB : ClassId} {K : St → Prop} (C : CX p rm_Exe_branch s m args meth c b_Exe_branch 4 "PipelinedCore$Execution" none pr_Exe_branch D clK (tysK cI cB) A) (S : St)  (h : wp_Exe_branch_16 K S) : J p l e rm_Exe_branch s m args below meth c 4 D clK A 0 0 (MQ below (va_Qv K (fun u t => QK D clK (tysK cI cB) A (wsK h0 a cI cB u) t) A) args s 0 0 A) (wsK h0 a cI cB S) [(0, .ref (a 17)), (3, .ref (a 18))] 16 [] := by
  unfold wp_Exe_branch_16 at h
  refine j_aload_n C 8 17 rfl rfl rfl 0 rfl ?_
  refine j_aload_n C 9 18 rfl rfl rfl 1 rfl ?_
  refine j_callSv C 10 21 rfl rfl w462 m_Exe_refuse (As := [.ref (a 17), .ref (a 18)]) (c_Exe_refuse l D h0 a cI cB S _ h) ⟨rfl, rfl⟩ ⟨Nat.le_of_ble_eq_true rfl, Nat.le_of_ble_eq_true rfl⟩ rfl ⟨Nat.le_of_ble_eq_true rfl, Nat.le_of_ble_eq_true rfl⟩ (Nat.le_of_ble_eq_true rfl) rfl (fun S10 h => ?_)
  refine j_goto C 11 49 rfl (by decide) ?_
  refine j_sub [] rfl ?_
  exact L_Exe_branch_49 C S10 h
def wp_Exe_branch (S : St) (p1 : Int32) (p2 : Int32) (K : St → Prop) : Prop := (if (S 15 5) = 2 then ((wp_Exe_branch_16 K S)) else ((if (S 15 5) = 3 then ((wp_Exe_branch_16 K S)) else (wp_Exe_conditionHolds S (S 15 5) p1 p2 (fun r4 S3 => ((if r4 = 0 then ((wp_Exe_branch_49 K S3)) else (wp_Ins_numberB S3 (fun r7 S6 => (wp_Eff_jump S6 ((S3 15 0) + r7) (fun S8 => ((wp_Exe_branch_49 K S8)))))))))))))
set_option maxHeartbeats 4000000 in
set_option maxRecDepth 100000 in
theorem c_Exe_branch (l : Launch) (D : va_G) (h0 : Nat) (a : Nat → Nat) (cI cB : ClassId) (S : St) (p1 : Int32) (p2 : Int32) (K : St → Prop) (h : wp_Exe_branch S p1 p2 K) (sz : Nat) : Met l y_Exe_branch (Cond.code y_Exe_branch b_Exe_branch 4 none :: gw) rm_Exe_branch (va_Pc [.ref (a 17), .int p1, .int p2, .ref (a 18)] (PK D clK (tysK cI cB) (wsK h0 a cI cB S) sz)) (va_Qv K (fun u t => QK D clK (tysK cI cB) (va_A (wsK h0 a cI cB S) sz) (wsK h0 a cI cB u) t) (va_A (wsK h0 a cI cB S) sz)) 0 0 (va_A (wsK h0 a cI cB S) sz) := by
  refine met_of (rm := rm_Exe_branch) (pr := pr_Exe_branch) (Qc := fun A => va_Qv K (fun u t => QK D clK (tysK cI cB) A (wsK h0 a cI cB u) t) A) (by decide +kernel) dm_Exe_branch (Nat.le_of_ble_eq_true rfl) (fun p e s m args below meth c A C => ?_) sz
  unfold wp_Exe_branch at h
  show J p l e rm_Exe_branch s m args below meth c 4 D clK A 0 0 _ (wsK h0 a cI cB S) [(0, .ref (a 17)), (1, .int p1), (2, .int p2), (3, .ref (a 18))] 0 []
  refine j_aload_n C 0 1 rfl rfl rfl 0 rfl ?_
  refine j_get C 1 4 rfl rfl fg_Exe_38 17 rfl rfl ?_
  refine j_iconst C 2 5 rfl rfl kI_2 ?_
  refine j_icmp_eq C 3 16 8 rfl (by decide) rfl (fun c1 => ?_) (fun c1 => ?_)
  · replace h := ite_t h c1
    refine j_sub [0, 3] rfl ?_
    exact L_Exe_branch_16 C S h
  · replace h := ite_f h c1
    refine j_aload_n C 4 9 rfl rfl rfl 0 rfl ?_
    refine j_get C 5 12 rfl rfl fg_Exe_38 17 rfl rfl ?_
    refine j_iconst C 6 13 rfl rfl kI_3 ?_
    refine j_icmp_ne C 7 24 16 rfl (by decide) rfl (fun c2 => ?_) (fun c2 => ?_)
    · replace h := ite_f h c2
      refine j_aload_n C 12 25 rfl rfl rfl 0 rfl ?_
      refine j_get C 13 28 rfl rfl fg_Exe_38 17 rfl rfl ?_
      refine j_iload_n C 14 29 rfl rfl rfl 1 rfl ?_
      refine j_iload_n C 15 30 rfl rfl rfl 2 rfl ?_
      refine j_callSi C 16 33 rfl rfl w469 m_Exe_conditionHolds (As := [.int (S 15 5), .int p1, .int p2]) (c_Exe_conditionHolds l D h0 a cI cB S (S 15 5) p1 p2 _ h) ⟨rfl, rfl⟩ ⟨Nat.le_of_ble_eq_true rfl, Nat.le_of_ble_eq_true rfl⟩ rfl ⟨Nat.le_of_ble_eq_true rfl, Nat.le_of_ble_eq_true rfl⟩ (Nat.le_of_ble_eq_true rfl) rfl (fun r4 S3 h => ?_)
      refine j_if_eq C 17 49 36 rfl (by decide) rfl (fun c5 => ?_) (fun c5 => ?_)
      · replace h := ite_t h c5
        refine j_sub [] rfl ?_
        exact L_Exe_branch_49 C S3 h
      · replace h := ite_f h c5
        refine j_aload_n C 18 37 rfl rfl rfl 3 rfl ?_
        refine j_aload_n C 19 38 rfl rfl rfl 0 rfl ?_
        refine j_get C 20 41 rfl rfl fg_Exe_26 17 rfl rfl ?_
        refine j_aload_n C 21 42 rfl rfl rfl 0 rfl ?_
        refine j_callVi C 22 45 rfl rfl w476 m_Ins_numberB (As := []) (c_Ins_numberB l D h0 a cI cB S3 _ h) ⟨rfl, rfl⟩ ⟨Nat.le_of_ble_eq_true rfl, Nat.le_of_ble_eq_true rfl⟩ 17 rfl rfl rfl ⟨Nat.le_of_ble_eq_true rfl, Nat.le_of_ble_eq_true rfl⟩ (Nat.le_of_ble_eq_true rfl) rfl (fun r7 S6 h => ?_)
        refine j_iadd C 23 46 rfl rfl ?_
        refine j_callVv C 24 49 rfl rfl w450 m_Eff_jump (As := [.int ((S3 15 0) + r7)]) (c_Eff_jump l D h0 a cI cB S6 ((S3 15 0) + r7) _ h) ⟨rfl, rfl⟩ ⟨Nat.le_of_ble_eq_true rfl, Nat.le_of_ble_eq_true rfl⟩ 18 rfl rfl rfl ⟨Nat.le_of_ble_eq_true rfl, Nat.le_of_ble_eq_true rfl⟩ (Nat.le_of_ble_eq_true rfl) rfl (fun S8 h => ?_)
        refine j_sub [] rfl ?_
        exact L_Exe_branch_49 C S8 h
    · replace h := ite_t h c2
      refine j_sub [0, 3] rfl ?_
      exact L_Exe_branch_16 C S h
abbrev rm_Sto_isStraight : Room := { frames := 0, cells := 0, slots := 0, locals := 0 }
def wp_Sto_isStraight_17 (K : Int32 → St → Prop) (S : St) (k0 : Int32) : Prop := isB k0 ∧ K k0 S
set_option maxHeartbeats 4000000 in
set_option maxRecDepth 100000 in
theorem L_Sto_isStraight_17 {p : Program} {l : Launch} {e : Env} {s : State} {m : MethodId} {args : Array Value} {below : List Frame} {meth : Method} {c : Code} {A : Nat → Prop} {D : va_G} {h0 : Nat} {a : Nat → Nat} {cI cB : ClassId} {K : Int32 → St → Prop} (C : CX p rm_Sto_isStraight s m args meth c b_Sto_isStraight 2 "PipelinedCore$Store" (some .boolean) pr_Sto_isStraight D clK (tysK cI cB) A) (S : St) (k0 : Int32) (h : wp_Sto_isStraight_17 K S k0) : J p l e rm_Sto_isStraight s m args below meth c 2 D clK A 0 0 (MQ below (va_Qi K (fun u t => QK D clK (tysK cI cB) A (wsK h0 a cI cB u) t) A) args s 0 0 A) (wsK h0 a cI cB S) [] 17 [.int k0] := by
  unfold wp_Sto_isStraight_17 at h
  exact j_zret C 13 rfl h.1 h.2
def wp_Sto_isStraight (S : St) (p1 : Int32) (p2 : Int32) (K : Int32 → St → Prop) : Prop := (if (p1 &&& (((1 : Int32) <<< ((p2 &&& (3 : Int32)) &&& 31)) - (1 : Int32))) = 0 then ((wp_Sto_isStraight_17 K S 1)) else ((wp_Sto_isStraight_17 K S 0)))
set_option maxHeartbeats 4000000 in
set_option maxRecDepth 100000 in
theorem c_Sto_isStraight (l : Launch) (D : va_G) (h0 : Nat) (a : Nat → Nat) (cI cB : ClassId) (S : St) (p1 : Int32) (p2 : Int32) (K : Int32 → St → Prop) (h : wp_Sto_isStraight S p1 p2 K) (sz : Nat) : Met l y_Sto_isStraight (Cond.code y_Sto_isStraight b_Sto_isStraight 2 (some .boolean) :: gw) rm_Sto_isStraight (va_Pc [.int p1, .int p2] (PK D clK (tysK cI cB) (wsK h0 a cI cB S) sz)) (va_Qi K (fun u t => QK D clK (tysK cI cB) (va_A (wsK h0 a cI cB S) sz) (wsK h0 a cI cB u) t) (va_A (wsK h0 a cI cB S) sz)) 0 0 (va_A (wsK h0 a cI cB S) sz) := by
  refine met_of (rm := rm_Sto_isStraight) (pr := pr_Sto_isStraight) (Qc := fun A => va_Qi K (fun u t => QK D clK (tysK cI cB) A (wsK h0 a cI cB u) t) A) (by decide +kernel) dm_Sto_isStraight (Nat.le_of_ble_eq_true rfl) (fun p e s m args below meth c A C => ?_) sz
  unfold wp_Sto_isStraight at h
  show J p l e rm_Sto_isStraight s m args below meth c 2 D clK A 0 0 _ (wsK h0 a cI cB S) [(0, .int p1), (1, .int p2)] 0 []
  refine j_iload_n C 0 1 rfl rfl rfl 0 rfl ?_
  refine j_iconst C 1 2 rfl rfl kI_1 ?_
  refine j_iload_n C 2 3 rfl rfl rfl 1 rfl ?_
  refine j_iconst C 3 4 rfl rfl kI_3 ?_
  refine j_iand C 4 5 rfl rfl ?_
  refine j_ishl C 5 6 rfl rfl ?_
  refine j_iconst C 6 7 rfl rfl kI_1 ?_
  refine j_isub C 7 8 rfl rfl ?_
  refine j_iand C 8 9 rfl rfl ?_
  refine j_if_ne C 9 16 12 rfl (by decide) rfl (fun c1 => ?_) (fun c1 => ?_)
  · replace h := ite_f h c1
    refine j_iconst C 12 17 rfl rfl kI_0 ?_
    refine j_sub [] rfl ?_
    exact L_Sto_isStraight_17 C S 0 h
  · replace h := ite_t h c1
    refine j_iconst C 10 13 rfl rfl kI_1 ?_
    refine j_goto C 11 17 rfl (by decide) ?_
    refine j_sub [] rfl ?_
    exact L_Sto_isStraight_17 C S 1 h
abbrev rm_Exe_read : Room := { frames := 2, cells := 0, slots := 0, locals := 43 }
def wp_Exe_read_86 (K : St → Prop) (S : St)  : Prop := K S
set_option maxHeartbeats 4000000 in
set_option maxRecDepth 100000 in
theorem L_Exe_read_86 {p : Program} {l : Launch} {e : Env} {s : State} {m : MethodId} {args : Array Value} {below : List Frame} {meth : Method} {c : Code} {A : Nat → Prop} {D : va_G} {h0 : Nat} {a : Nat → Nat} {cI cB : ClassId} {K : St → Prop} (C : CX p rm_Exe_read s m args meth c b_Exe_read 3 "PipelinedCore$Execution" none pr_Exe_read D clK (tysK cI cB) A) (S : St)  (h : wp_Exe_read_86 K S) : J p l e rm_Exe_read s m args below meth c 3 D clK A 0 0 (MQ below (va_Qv K (fun u t => QK D clK (tysK cI cB) A (wsK h0 a cI cB u) t) A) args s 0 0 A) (wsK h0 a cI cB S) [] 86 [] := by
  unfold wp_Exe_read_86 at h
  exact j_vret C 44 rfl h
def wp_Exe_read_16 (K : St → Prop) (S : St)  : Prop := wp_Exe_refuse S (fun S17 => ((wp_Exe_read_86 K S17)))
set_option maxHeartbeats 4000000 in
set_option maxRecDepth 100000 in
theorem L_Exe_read_16 {p : Program} {l : Launch} {e : Env} {s : State} {m : MethodId} {args : Array Value} {below : List Frame} {meth : Method} {c : Code} {A : Nat → Prop} {D : va_G} {h0 : Nat} {a : Nat → Nat} {cI cB : ClassId} {K : St → Prop} (C : CX p rm_Exe_read s m args meth c b_Exe_read 3 "PipelinedCore$Execution" none pr_Exe_read D clK (tysK cI cB) A) (S : St)  (h : wp_Exe_read_16 K S) : J p l e rm_Exe_read s m args below meth c 3 D clK A 0 0 (MQ below (va_Qv K (fun u t => QK D clK (tysK cI cB) A (wsK h0 a cI cB u) t) A) args s 0 0 A) (wsK h0 a cI cB S) [(0, .ref (a 17)), (2, .ref (a 18))] 16 [] := by
  unfold wp_Exe_read_16 at h
  refine j_aload_n C 8 17 rfl rfl rfl 0 rfl ?_
  refine j_aload_n C 9 18 rfl rfl rfl 1 rfl ?_
  refine j_callSv C 10 21 rfl rfl w462 m_Exe_refuse (As := [.ref (a 17), .ref (a 18)]) (c_Exe_refuse l D h0 a cI cB S _ h) ⟨rfl, rfl⟩ ⟨Nat.le_of_ble_eq_true rfl, Nat.le_of_ble_eq_true rfl⟩ rfl ⟨Nat.le_of_ble_eq_true rfl, Nat.le_of_ble_eq_true rfl⟩ (Nat.le_of_ble_eq_true rfl) rfl (fun S17 h => ?_)
  refine j_goto C 11 86 rfl (by decide) ?_
  refine j_sub [] rfl ?_
  exact L_Exe_read_86 C S17 h
def wp_Exe_read (S : St) (p1 : Int32) (K : St → Prop) : Prop := (if (S 15 5) = 3 then ((wp_Exe_read_16 K S)) else ((if (S 15 5) ≤ 5 then (wp_Sto_isStraight S p1 (S 15 5) (fun r4 S3 => ((if r4 = 0 then (wp_Eff_trap S3 4 p1 (fun S15 => ((wp_Exe_read_86 K S15)))) else (wp_Sto_has S3 p1 (fun r7 S6 => ((if r7 = 0 then (wp_Eff_trap S6 5 p1 (fun S13 => ((wp_Exe_read_86 K S13)))) else (∀ S9 : St, S9 = st S6 16 8 1 → (∀ S10 : St, S10 = st S9 16 6 (S9 15 4) → (∀ S11 : St, S11 = st S10 16 9 p1 → (∀ S12 : St, S12 = st S11 16 10 (S11 15 5) → ((wp_Exe_read_86 K S12)))))))))))))) else ((wp_Exe_read_16 K S)))))
set_option maxHeartbeats 4000000 in
set_option maxRecDepth 100000 in
theorem c_Exe_read (l : Launch) (D : va_G) (h0 : Nat) (a : Nat → Nat) (cI cB : ClassId) (S : St) (p1 : Int32) (K : St → Prop) (h : wp_Exe_read S p1 K) (sz : Nat) : Met l y_Exe_read (Cond.code y_Exe_read b_Exe_read 3 none :: gw) rm_Exe_read (va_Pc [.ref (a 17), .int p1, .ref (a 18)] (PK D clK (tysK cI cB) (wsK h0 a cI cB S) sz)) (va_Qv K (fun u t => QK D clK (tysK cI cB) (va_A (wsK h0 a cI cB S) sz) (wsK h0 a cI cB u) t) (va_A (wsK h0 a cI cB S) sz)) 0 0 (va_A (wsK h0 a cI cB S) sz) := by
  refine met_of (rm := rm_Exe_read) (pr := pr_Exe_read) (Qc := fun A => va_Qv K (fun u t => QK D clK (tysK cI cB) A (wsK h0 a cI cB u) t) A) (by decide +kernel) dm_Exe_read (Nat.le_of_ble_eq_true rfl) (fun p e s m args below meth c A C => ?_) sz
  unfold wp_Exe_read at h
  show J p l e rm_Exe_read s m args below meth c 3 D clK A 0 0 _ (wsK h0 a cI cB S) [(0, .ref (a 17)), (1, .int p1), (2, .ref (a 18))] 0 []
  refine j_aload_n C 0 1 rfl rfl rfl 0 rfl ?_
  refine j_get C 1 4 rfl rfl fg_Exe_38 17 rfl rfl ?_
  refine j_iconst C 2 5 rfl rfl kI_3 ?_
  refine j_icmp_eq C 3 16 8 rfl (by decide) rfl (fun c1 => ?_) (fun c1 => ?_)
  · replace h := ite_t h c1
    refine j_sub [0, 2] rfl ?_
    exact L_Exe_read_16 C S h
  · replace h := ite_f h c1
    refine j_aload_n C 4 9 rfl rfl rfl 0 rfl ?_
    refine j_get C 5 12 rfl rfl fg_Exe_38 17 rfl rfl ?_
    refine j_iconst C 6 13 rfl rfl kI_5 ?_
    refine j_icmp_le C 7 24 16 rfl (by decide) rfl (fun c2 => ?_) (fun c2 => ?_)
    · replace h := ite_t h c2
      refine j_iload_n C 12 25 rfl rfl rfl 1 rfl ?_
      refine j_aload_n C 13 26 rfl rfl rfl 0 rfl ?_
      refine j_get C 14 29 rfl rfl fg_Exe_38 17 rfl rfl ?_
      refine j_callSi C 15 32 rfl rfl w483 m_Sto_isStraight (As := [.int p1, .int (S 15 5)]) (c_Sto_isStraight l D h0 a cI cB S p1 (S 15 5) _ h) ⟨rfl, rfl⟩ ⟨Nat.le_of_ble_eq_true rfl, Nat.le_of_ble_eq_true rfl⟩ rfl ⟨Nat.le_of_ble_eq_true rfl, Nat.le_of_ble_eq_true rfl⟩ (Nat.le_of_ble_eq_true rfl) rfl (fun r4 S3 h => ?_)
      refine j_if_ne C 16 44 35 rfl (by decide) rfl (fun c5 => ?_) (fun c5 => ?_)
      · replace h := ite_f h c5
        refine j_iload_n C 22 45 rfl rfl rfl 1 rfl ?_
        refine j_callSi C 23 48 rfl rfl w486 m_Sto_has (As := [.int p1]) (c_Sto_has l D h0 a cI cB S3 p1 _ h) ⟨rfl, rfl⟩ ⟨Nat.le_of_ble_eq_true rfl, Nat.le_of_ble_eq_true rfl⟩ rfl ⟨Nat.le_of_ble_eq_true rfl, Nat.le_of_ble_eq_true rfl⟩ (Nat.le_of_ble_eq_true rfl) rfl (fun r7 S6 h => ?_)
        refine j_if_ne C 24 60 51 rfl (by decide) rfl (fun c8 => ?_) (fun c8 => ?_)
        · replace h := ite_f h c8
          refine j_aload_n C 30 61 rfl rfl rfl 2 rfl ?_
          refine j_iconst C 31 62 rfl rfl kI_1 ?_
          refine j_put C 32 65 rfl rfl fp_Exe_106 18 rfl (Nat.le_of_ble_eq_true rfl) rfl rfl (st S6 16 8 1) (sK_18_8 _ _ _ _ _ _) (fun S9 eS9 => ?_)
          replace h := h S9 eS9
          refine j_aload_n C 33 66 rfl rfl rfl 2 rfl ?_
          refine j_aload_n C 34 67 rfl rfl rfl 0 rfl ?_
          refine j_get C 35 70 rfl rfl fg_Exe_13 17 rfl rfl ?_
          refine j_put C 36 73 rfl rfl fp_Exe_109 18 rfl (Nat.le_of_ble_eq_true rfl) rfl rfl (st S9 16 6 (S9 15 4)) (sK_18_6 _ _ _ _ _ _) (fun S10 eS10 => ?_)
          replace h := h S10 eS10
          refine j_aload_n C 37 74 rfl rfl rfl 2 rfl ?_
          refine j_iload_n C 38 75 rfl rfl rfl 1 rfl ?_
          refine j_put C 39 78 rfl rfl fp_Exe_110 18 rfl (Nat.le_of_ble_eq_true rfl) rfl rfl (st S10 16 9 p1) (sK_18_9 _ _ _ _ _ _) (fun S11 eS11 => ?_)
          replace h := h S11 eS11
          refine j_aload_n C 40 79 rfl rfl rfl 2 rfl ?_
          refine j_aload_n C 41 80 rfl rfl rfl 0 rfl ?_
          refine j_get C 42 83 rfl rfl fg_Exe_38 17 rfl rfl ?_
          refine j_put C 43 86 rfl rfl fp_Exe_113 18 rfl (Nat.le_of_ble_eq_true rfl) rfl rfl (st S11 16 10 (S11 15 5)) (sK_18_10 _ _ _ _ _ _) (fun S12 eS12 => ?_)
          replace h := h S12 eS12
          refine j_sub [] rfl ?_
          exact L_Exe_read_86 C S12 h
        · replace h := ite_t h c8
          refine j_aload_n C 25 52 rfl rfl rfl 2 rfl ?_
          refine j_iconst C 26 53 rfl rfl kI_5 ?_
          refine j_iload_n C 27 54 rfl rfl rfl 1 rfl ?_
          refine j_callVv C 28 57 rfl rfl w465 m_Eff_trap (As := [.int 5, .int p1]) (c_Eff_trap l D h0 a cI cB S6 5 p1 _ h) ⟨rfl, rfl⟩ ⟨Nat.le_of_ble_eq_true rfl, Nat.le_of_ble_eq_true rfl⟩ 18 rfl rfl rfl ⟨Nat.le_of_ble_eq_true rfl, Nat.le_of_ble_eq_true rfl⟩ (Nat.le_of_ble_eq_true rfl) rfl (fun S13 h => ?_)
          refine j_goto C 29 86 rfl (by decide) ?_
          refine j_sub [] rfl ?_
          exact L_Exe_read_86 C S13 h
      · replace h := ite_t h c5
        refine j_aload_n C 17 36 rfl rfl rfl 2 rfl ?_
        refine j_iconst C 18 37 rfl rfl kI_4 ?_
        refine j_iload_n C 19 38 rfl rfl rfl 1 rfl ?_
        refine j_callVv C 20 41 rfl rfl w465 m_Eff_trap (As := [.int 4, .int p1]) (c_Eff_trap l D h0 a cI cB S3 4 p1 _ h) ⟨rfl, rfl⟩ ⟨Nat.le_of_ble_eq_true rfl, Nat.le_of_ble_eq_true rfl⟩ 18 rfl rfl rfl ⟨Nat.le_of_ble_eq_true rfl, Nat.le_of_ble_eq_true rfl⟩ (Nat.le_of_ble_eq_true rfl) rfl (fun S15 h => ?_)
        refine j_goto C 21 86 rfl (by decide) ?_
        refine j_sub [] rfl ?_
        exact L_Exe_read_86 C S15 h
    · replace h := ite_f h c2
      refine j_sub [0, 2] rfl ?_
      exact L_Exe_read_16 C S h
abbrev rm_Ins_numberS : Room := { frames := 0, cells := 0, slots := 0, locals := 0 }
def wp_Ins_numberS (S : St)  (K : Int32 → St → Prop) : Prop := K ((((S 15 2) >>> ((25 : Int32) &&& 31)) <<< ((5 : Int32) &&& 31)) ||| (S 15 4)) S
set_option maxHeartbeats 4000000 in
set_option maxRecDepth 100000 in
theorem c_Ins_numberS (l : Launch) (D : va_G) (h0 : Nat) (a : Nat → Nat) (cI cB : ClassId) (S : St)  (K : Int32 → St → Prop) (h : wp_Ins_numberS S K) (sz : Nat) : Met l y_Ins_numberS (Cond.code y_Ins_numberS b_Ins_numberS 1 (some .int) :: gw) rm_Ins_numberS (va_Pc [.ref (a 17)] (PK D clK (tysK cI cB) (wsK h0 a cI cB S) sz)) (va_Qi K (fun u t => QK D clK (tysK cI cB) (va_A (wsK h0 a cI cB S) sz) (wsK h0 a cI cB u) t) (va_A (wsK h0 a cI cB S) sz)) 0 0 (va_A (wsK h0 a cI cB S) sz) := by
  refine met_of (rm := rm_Ins_numberS) (pr := pr_Ins_numberS) (Qc := fun A => va_Qi K (fun u t => QK D clK (tysK cI cB) A (wsK h0 a cI cB u) t) A) (by decide +kernel) dm_Ins_numberS (Nat.le_of_ble_eq_true rfl) (fun p e s m args below meth c A C => ?_) sz
  unfold wp_Ins_numberS at h
  show J p l e rm_Ins_numberS s m args below meth c 1 D clK A 0 0 _ (wsK h0 a cI cB S) [(0, .ref (a 17))] 0 []
  refine j_aload_n C 0 1 rfl rfl rfl 0 rfl ?_
  refine j_get C 1 4 rfl rfl fg_Ins_17 17 rfl rfl ?_
  refine j_bipush C 2 6 rfl rfl kB_25 ?_
  refine j_ishr C 3 7 rfl rfl ?_
  refine j_iconst C 4 8 rfl rfl kI_5 ?_
  refine j_ishl C 5 9 rfl rfl ?_
  refine j_aload_n C 6 10 rfl rfl rfl 0 rfl ?_
  refine j_get C 7 13 rfl rfl fg_Ins_23 17 rfl rfl ?_
  refine j_ior C 8 14 rfl rfl ?_
  exact j_iret C 9 rfl h
abbrev rm_Exe_write : Room := { frames := 2, cells := 0, slots := 0, locals := 43 }
def wp_Exe_write_77 (K : St → Prop) (S : St)  : Prop := K S
set_option maxHeartbeats 4000000 in
set_option maxRecDepth 100000 in
theorem L_Exe_write_77 {p : Program} {l : Launch} {e : Env} {s : State} {m : MethodId} {args : Array Value} {below : List Frame} {meth : Method} {c : Code} {A : Nat → Prop} {D : va_G} {h0 : Nat} {a : Nat → Nat} {cI cB : ClassId} {K : St → Prop} (C : CX p rm_Exe_write s m args meth c b_Exe_write 4 "PipelinedCore$Execution" none pr_Exe_write D clK (tysK cI cB) A) (S : St)  (h : wp_Exe_write_77 K S) : J p l e rm_Exe_write s m args below meth c 4 D clK A 0 0 (MQ below (va_Qv K (fun u t => QK D clK (tysK cI cB) A (wsK h0 a cI cB u) t) A) args s 0 0 A) (wsK h0 a cI cB S) [] 77 [] := by
  unfold wp_Exe_write_77 at h
  exact j_vret C 39 rfl h
def wp_Exe_write (S : St) (p1 : Int32) (p2 : Int32) (K : St → Prop) : Prop := (if (S 15 5) ≤ 2 then (wp_Sto_isStraight S p1 (S 15 5) (fun r3 S2 => ((if r3 = 0 then (wp_Eff_trap S2 6 p1 (fun S14 => ((wp_Exe_write_77 K S14)))) else (wp_Sto_has S2 p1 (fun r6 S5 => ((if r6 = 0 then (wp_Eff_trap S5 7 p1 (fun S12 => ((wp_Exe_write_77 K S12)))) else (∀ S8 : St, S8 = st S5 16 8 2 → (∀ S9 : St, S9 = st S8 16 9 p1 → (∀ S10 : St, S10 = st S9 16 10 (S9 15 5) → (∀ S11 : St, S11 = st S10 16 11 p2 → ((wp_Exe_write_77 K S11)))))))))))))) else (wp_Exe_refuse S (fun S16 => ((wp_Exe_write_77 K S16)))))
set_option maxHeartbeats 4000000 in
set_option maxRecDepth 100000 in
theorem c_Exe_write (l : Launch) (D : va_G) (h0 : Nat) (a : Nat → Nat) (cI cB : ClassId) (S : St) (p1 : Int32) (p2 : Int32) (K : St → Prop) (h : wp_Exe_write S p1 p2 K) (sz : Nat) : Met l y_Exe_write (Cond.code y_Exe_write b_Exe_write 4 none :: gw) rm_Exe_write (va_Pc [.ref (a 17), .int p1, .int p2, .ref (a 18)] (PK D clK (tysK cI cB) (wsK h0 a cI cB S) sz)) (va_Qv K (fun u t => QK D clK (tysK cI cB) (va_A (wsK h0 a cI cB S) sz) (wsK h0 a cI cB u) t) (va_A (wsK h0 a cI cB S) sz)) 0 0 (va_A (wsK h0 a cI cB S) sz) := by
  refine met_of (rm := rm_Exe_write) (pr := pr_Exe_write) (Qc := fun A => va_Qv K (fun u t => QK D clK (tysK cI cB) A (wsK h0 a cI cB u) t) A) (by decide +kernel) dm_Exe_write (Nat.le_of_ble_eq_true rfl) (fun p e s m args below meth c A C => ?_) sz
  unfold wp_Exe_write at h
  show J p l e rm_Exe_write s m args below meth c 4 D clK A 0 0 _ (wsK h0 a cI cB S) [(0, .ref (a 17)), (1, .int p1), (2, .int p2), (3, .ref (a 18))] 0 []
  refine j_aload_n C 0 1 rfl rfl rfl 0 rfl ?_
  refine j_get C 1 4 rfl rfl fg_Exe_38 17 rfl rfl ?_
  refine j_iconst C 2 5 rfl rfl kI_2 ?_
  refine j_icmp_le C 3 16 8 rfl (by decide) rfl (fun c1 => ?_) (fun c1 => ?_)
  · replace h := ite_t h c1
    refine j_iload_n C 8 17 rfl rfl rfl 1 rfl ?_
    refine j_aload_n C 9 18 rfl rfl rfl 0 rfl ?_
    refine j_get C 10 21 rfl rfl fg_Exe_38 17 rfl rfl ?_
    refine j_callSi C 11 24 rfl rfl w483 m_Sto_isStraight (As := [.int p1, .int (S 15 5)]) (c_Sto_isStraight l D h0 a cI cB S p1 (S 15 5) _ h) ⟨rfl, rfl⟩ ⟨Nat.le_of_ble_eq_true rfl, Nat.le_of_ble_eq_true rfl⟩ rfl ⟨Nat.le_of_ble_eq_true rfl, Nat.le_of_ble_eq_true rfl⟩ (Nat.le_of_ble_eq_true rfl) rfl (fun r3 S2 h => ?_)
    refine j_if_ne C 12 37 27 rfl (by decide) rfl (fun c4 => ?_) (fun c4 => ?_)
    · replace h := ite_f h c4
      refine j_iload_n C 18 38 rfl rfl rfl 1 rfl ?_
      refine j_callSi C 19 41 rfl rfl w486 m_Sto_has (As := [.int p1]) (c_Sto_has l D h0 a cI cB S2 p1 _ h) ⟨rfl, rfl⟩ ⟨Nat.le_of_ble_eq_true rfl, Nat.le_of_ble_eq_true rfl⟩ rfl ⟨Nat.le_of_ble_eq_true rfl, Nat.le_of_ble_eq_true rfl⟩ (Nat.le_of_ble_eq_true rfl) rfl (fun r6 S5 h => ?_)
      refine j_if_ne C 20 54 44 rfl (by decide) rfl (fun c7 => ?_) (fun c7 => ?_)
      · replace h := ite_f h c7
        refine j_aload_n C 26 55 rfl rfl rfl 3 rfl ?_
        refine j_iconst C 27 56 rfl rfl kI_2 ?_
        refine j_put C 28 59 rfl rfl fp_Exe_106 18 rfl (Nat.le_of_ble_eq_true rfl) rfl rfl (st S5 16 8 2) (sK_18_8 _ _ _ _ _ _) (fun S8 eS8 => ?_)
        replace h := h S8 eS8
        refine j_aload_n C 29 60 rfl rfl rfl 3 rfl ?_
        refine j_iload_n C 30 61 rfl rfl rfl 1 rfl ?_
        refine j_put C 31 64 rfl rfl fp_Exe_110 18 rfl (Nat.le_of_ble_eq_true rfl) rfl rfl (st S8 16 9 p1) (sK_18_9 _ _ _ _ _ _) (fun S9 eS9 => ?_)
        replace h := h S9 eS9
        refine j_aload_n C 32 65 rfl rfl rfl 3 rfl ?_
        refine j_aload_n C 33 66 rfl rfl rfl 0 rfl ?_
        refine j_get C 34 69 rfl rfl fg_Exe_38 17 rfl rfl ?_
        refine j_put C 35 72 rfl rfl fp_Exe_113 18 rfl (Nat.le_of_ble_eq_true rfl) rfl rfl (st S9 16 10 (S9 15 5)) (sK_18_10 _ _ _ _ _ _) (fun S10 eS10 => ?_)
        replace h := h S10 eS10
        refine j_aload_n C 36 73 rfl rfl rfl 3 rfl ?_
        refine j_iload_n C 37 74 rfl rfl rfl 2 rfl ?_
        refine j_put C 38 77 rfl rfl fp_Exe_116 18 rfl (Nat.le_of_ble_eq_true rfl) rfl rfl (st S10 16 11 p2) (sK_18_11 _ _ _ _ _ _) (fun S11 eS11 => ?_)
        replace h := h S11 eS11
        refine j_sub [] rfl ?_
        exact L_Exe_write_77 C S11 h
      · replace h := ite_t h c7
        refine j_aload_n C 21 45 rfl rfl rfl 3 rfl ?_
        refine j_bipush C 22 47 rfl rfl kB_7 ?_
        refine j_iload_n C 23 48 rfl rfl rfl 1 rfl ?_
        refine j_callVv C 24 51 rfl rfl w465 m_Eff_trap (As := [.int 7, .int p1]) (c_Eff_trap l D h0 a cI cB S5 7 p1 _ h) ⟨rfl, rfl⟩ ⟨Nat.le_of_ble_eq_true rfl, Nat.le_of_ble_eq_true rfl⟩ 18 rfl rfl rfl ⟨Nat.le_of_ble_eq_true rfl, Nat.le_of_ble_eq_true rfl⟩ (Nat.le_of_ble_eq_true rfl) rfl (fun S12 h => ?_)
        refine j_goto C 25 77 rfl (by decide) ?_
        refine j_sub [] rfl ?_
        exact L_Exe_write_77 C S12 h
    · replace h := ite_t h c4
      refine j_aload_n C 13 28 rfl rfl rfl 3 rfl ?_
      refine j_bipush C 14 30 rfl rfl kB_6 ?_
      refine j_iload_n C 15 31 rfl rfl rfl 1 rfl ?_
      refine j_callVv C 16 34 rfl rfl w465 m_Eff_trap (As := [.int 6, .int p1]) (c_Eff_trap l D h0 a cI cB S2 6 p1 _ h) ⟨rfl, rfl⟩ ⟨Nat.le_of_ble_eq_true rfl, Nat.le_of_ble_eq_true rfl⟩ 18 rfl rfl rfl ⟨Nat.le_of_ble_eq_true rfl, Nat.le_of_ble_eq_true rfl⟩ (Nat.le_of_ble_eq_true rfl) rfl (fun S14 h => ?_)
      refine j_goto C 17 77 rfl (by decide) ?_
      refine j_sub [] rfl ?_
      exact L_Exe_write_77 C S14 h
  · replace h := ite_f h c1
    refine j_aload_n C 4 9 rfl rfl rfl 0 rfl ?_
    refine j_aload_n C 5 10 rfl rfl rfl 3 rfl ?_
    refine j_callSv C 6 13 rfl rfl w462 m_Exe_refuse (As := [.ref (a 17), .ref (a 18)]) (c_Exe_refuse l D h0 a cI cB S _ h) ⟨rfl, rfl⟩ ⟨Nat.le_of_ble_eq_true rfl, Nat.le_of_ble_eq_true rfl⟩ rfl ⟨Nat.le_of_ble_eq_true rfl, Nat.le_of_ble_eq_true rfl⟩ (Nat.le_of_ble_eq_true rfl) rfl (fun S16 h => ?_)
    refine j_goto C 7 77 rfl (by decide) ?_
    refine j_sub [] rfl ?_
    exact L_Exe_write_77 C S16 h
abbrev rm_Ari_plain : Room := { frames := 1, cells := 0, slots := 0, locals := 21 }
def wp_Ari_plain_65 (K : Int32 → St → Prop) (S : St) (k0 : Int32) : Prop := K k0 S
set_option maxHeartbeats 4000000 in
set_option maxRecDepth 100000 in
theorem L_Ari_plain_65 {p : Program} {l : Launch} {e : Env} {s : State} {m : MethodId} {args : Array Value} {below : List Frame} {meth : Method} {c : Code} {A : Nat → Prop} {D : va_G} {h0 : Nat} {a : Nat → Nat} {cI cB : ClassId} {K : Int32 → St → Prop} (C : CX p rm_Ari_plain s m args meth c b_Ari_plain 3 "PipelinedCore$Arithmetic" (some .int) pr_Ari_plain D clK (tysK cI cB) A) (S : St) (k0 : Int32) (h : wp_Ari_plain_65 K S k0) : J p l e rm_Ari_plain s m args below meth c 3 D clK A 0 0 (MQ below (va_Qi K (fun u t => QK D clK (tysK cI cB) A (wsK h0 a cI cB u) t) A) args s 0 0 A) (wsK h0 a cI cB S) [] 65 [.int k0] := by
  unfold wp_Ari_plain_65 at h
  exact j_iret C 18 rfl h
def wp_Ari_plain_79 (K : Int32 → St → Prop) (S : St) (k0 : Int32) : Prop := K k0 S
set_option maxHeartbeats 4000000 in
set_option maxRecDepth 100000 in
theorem L_Ari_plain_79 {p : Program} {l : Launch} {e : Env} {s : State} {m : MethodId} {args : Array Value} {below : List Frame} {meth : Method} {c : Code} {A : Nat → Prop} {D : va_G} {h0 : Nat} {a : Nat → Nat} {cI cB : ClassId} {K : Int32 → St → Prop} (C : CX p rm_Ari_plain s m args meth c b_Ari_plain 3 "PipelinedCore$Arithmetic" (some .int) pr_Ari_plain D clK (tysK cI cB) A) (S : St) (k0 : Int32) (h : wp_Ari_plain_79 K S k0) : J p l e rm_Ari_plain s m args below meth c 3 D clK A 0 0 (MQ below (va_Qi K (fun u t => QK D clK (tysK cI cB) A (wsK h0 a cI cB u) t) A) args s 0 0 A) (wsK h0 a cI cB S) [] 79 [.int k0] := by
  unfold wp_Ari_plain_79 at h
  exact j_iret C 26 rfl h
def wp_Ari_plain (S : St) (p1 : Int32) (p2 : Int32) (p3 : Int32) (K : Int32 → St → Prop) : Prop := (if p1 = 0 then (K (p2 + p3) S) else (if p1 = 1 then (K (p2 <<< ((p3 &&& (31 : Int32)) &&& 31)) S) else (if p1 = 2 then ((if p3 ≤ p2 then ((wp_Ari_plain_65 K S 0)) else ((wp_Ari_plain_65 K S 1)))) else (if p1 = 3 then (wp_Ari_lessWithoutSigns S p2 p3 (fun r4 S3 => ((if r4 = 0 then ((wp_Ari_plain_79 K S3 0)) else ((wp_Ari_plain_79 K S3 1)))))) else (if p1 = 4 then (K (p2 ^^^ p3) S) else (if p1 = 5 then (K (jushr p2 (p3 &&& (31 : Int32))) S) else (if p1 = 6 then (K (p2 ||| p3) S) else (K (p2 &&& p3) S))))))))
set_option maxHeartbeats 4000000 in
set_option maxRecDepth 100000 in
theorem c_Ari_plain (l : Launch) (D : va_G) (h0 : Nat) (a : Nat → Nat) (cI cB : ClassId) (S : St) (p1 : Int32) (p2 : Int32) (p3 : Int32) (K : Int32 → St → Prop) (h : wp_Ari_plain S p1 p2 p3 K) (sz : Nat) : Met l y_Ari_plain (Cond.code y_Ari_plain b_Ari_plain 3 (some .int) :: gw) rm_Ari_plain (va_Pc [.int p1, .int p2, .int p3] (PK D clK (tysK cI cB) (wsK h0 a cI cB S) sz)) (va_Qi K (fun u t => QK D clK (tysK cI cB) (va_A (wsK h0 a cI cB S) sz) (wsK h0 a cI cB u) t) (va_A (wsK h0 a cI cB S) sz)) 0 0 (va_A (wsK h0 a cI cB S) sz) := by
  refine met_of (rm := rm_Ari_plain) (pr := pr_Ari_plain) (Qc := fun A => va_Qi K (fun u t => QK D clK (tysK cI cB) A (wsK h0 a cI cB u) t) A) (by decide +kernel) dm_Ari_plain (Nat.le_of_ble_eq_true rfl) (fun p e s m args below meth c A C => ?_) sz
  unfold wp_Ari_plain at h
  show J p l e rm_Ari_plain s m args below meth c 3 D clK A 0 0 _ (wsK h0 a cI cB S) [(0, .int p1), (1, .int p2), (2, .int p3)] 0 []
  refine j_iload_n C 0 1 rfl rfl rfl 0 rfl ?_
  refine j_table C 1 rfl [(0, 44), (1, 48), (2, 55), (3, 66), (4, 80), (5, 84), (6, 91)] 95 (by decide +kernel) (by decide) (by decide) (swP_c (fun c1_0 => ?_) (fun nc1_0 => swP_c (fun c1_1 => ?_) (fun nc1_1 => swP_c (fun c1_2 => ?_) (fun nc1_2 => swP_c (fun c1_3 => ?_) (fun nc1_3 => swP_c (fun c1_4 => ?_) (fun nc1_4 => swP_c (fun c1_5 => ?_) (fun nc1_5 => swP_c (fun c1_6 => ?_) (fun nc1_6 => swP_n ?_))))))))
  · replace h := ite_t h c1_0
    refine j_iload_n C 2 45 rfl rfl rfl 1 rfl ?_
    refine j_iload_n C 3 46 rfl rfl rfl 2 rfl ?_
    refine j_iadd C 4 47 rfl rfl ?_
    exact j_iret C 5 rfl h
  · replace h := ite_t (ite_f h nc1_0) c1_1
    refine j_iload_n C 6 49 rfl rfl rfl 1 rfl ?_
    refine j_iload_n C 7 50 rfl rfl rfl 2 rfl ?_
    refine j_bipush C 8 52 rfl rfl kB_31 ?_
    refine j_iand C 9 53 rfl rfl ?_
    refine j_ishl C 10 54 rfl rfl ?_
    exact j_iret C 11 rfl h
  · replace h := ite_t (ite_f (ite_f h nc1_0) nc1_1) c1_2
    refine j_iload_n C 12 56 rfl rfl rfl 1 rfl ?_
    refine j_iload_n C 13 57 rfl rfl rfl 2 rfl ?_
    refine j_icmp_ge C 14 64 60 rfl (by decide) rfl (fun c2 => ?_) (fun c2 => ?_)
    · replace h := ite_t h c2
      refine j_iconst C 17 65 rfl rfl kI_0 ?_
      refine j_sub [] rfl ?_
      exact L_Ari_plain_65 C S 0 h
    · replace h := ite_f h c2
      refine j_iconst C 15 61 rfl rfl kI_1 ?_
      refine j_goto C 16 65 rfl (by decide) ?_
      refine j_sub [] rfl ?_
      exact L_Ari_plain_65 C S 1 h
  · replace h := ite_t (ite_f (ite_f (ite_f h nc1_0) nc1_1) nc1_2) c1_3
    refine j_iload_n C 19 67 rfl rfl rfl 1 rfl ?_
    refine j_iload_n C 20 68 rfl rfl rfl 2 rfl ?_
    refine j_callSi C 21 71 rfl rfl w500 m_Ari_lessWithoutSigns (As := [.int p2, .int p3]) (c_Ari_lessWithoutSigns l D h0 a cI cB S p2 p3 _ h) ⟨rfl, rfl⟩ ⟨Nat.le_of_ble_eq_true rfl, Nat.le_of_ble_eq_true rfl⟩ rfl ⟨Nat.le_of_ble_eq_true rfl, Nat.le_of_ble_eq_true rfl⟩ (Nat.le_of_ble_eq_true rfl) rfl (fun r4 S3 h => ?_)
    refine j_if_eq C 22 78 74 rfl (by decide) rfl (fun c5 => ?_) (fun c5 => ?_)
    · replace h := ite_t h c5
      refine j_iconst C 25 79 rfl rfl kI_0 ?_
      refine j_sub [] rfl ?_
      exact L_Ari_plain_79 C S3 0 h
    · replace h := ite_f h c5
      refine j_iconst C 23 75 rfl rfl kI_1 ?_
      refine j_goto C 24 79 rfl (by decide) ?_
      refine j_sub [] rfl ?_
      exact L_Ari_plain_79 C S3 1 h
  · replace h := ite_t (ite_f (ite_f (ite_f (ite_f h nc1_0) nc1_1) nc1_2) nc1_3) c1_4
    refine j_iload_n C 27 81 rfl rfl rfl 1 rfl ?_
    refine j_iload_n C 28 82 rfl rfl rfl 2 rfl ?_
    refine j_ixor C 29 83 rfl rfl ?_
    exact j_iret C 30 rfl h
  · replace h := ite_t (ite_f (ite_f (ite_f (ite_f (ite_f h nc1_0) nc1_1) nc1_2) nc1_3) nc1_4) c1_5
    refine j_iload_n C 31 85 rfl rfl rfl 1 rfl ?_
    refine j_iload_n C 32 86 rfl rfl rfl 2 rfl ?_
    refine j_bipush C 33 88 rfl rfl kB_31 ?_
    refine j_iand C 34 89 rfl rfl ?_
    refine j_iushr C 35 90 rfl rfl ?_
    exact j_iret C 36 rfl h
  · replace h := ite_t (ite_f (ite_f (ite_f (ite_f (ite_f (ite_f h nc1_0) nc1_1) nc1_2) nc1_3) nc1_4) nc1_5) c1_6
    refine j_iload_n C 37 92 rfl rfl rfl 1 rfl ?_
    refine j_iload_n C 38 93 rfl rfl rfl 2 rfl ?_
    refine j_ior C 39 94 rfl rfl ?_
    exact j_iret C 40 rfl h
  · replace h := (ite_f (ite_f (ite_f (ite_f (ite_f (ite_f (ite_f h nc1_0) nc1_1) nc1_2) nc1_3) nc1_4) nc1_5) nc1_6)
    refine j_iload_n C 41 96 rfl rfl rfl 1 rfl ?_
    refine j_iload_n C 42 97 rfl rfl rfl 2 rfl ?_
    refine j_iand C 43 98 rfl rfl ?_
    exact j_iret C 44 rfl h
abbrev rm_Exe_computeWithNumber : Room := { frames := 2, cells := 0, slots := 0, locals := 43 }
def wp_Exe_computeWithNumber_95 (K : St → Prop) (S : St)  : Prop := K S
set_option maxHeartbeats 4000000 in
set_option maxRecDepth 100000 in
theorem L_Exe_computeWithNumber_95 {p : Program} {l : Launch} {e : Env} {s : State} {m : MethodId} {args : Array Value} {below : List Frame} {meth : Method} {c : Code} {A : Nat → Prop} {D : va_G} {h0 : Nat} {a : Nat → Nat} {cI cB : ClassId} {K : St → Prop} (C : CX p rm_Exe_computeWithNumber s m args meth c b_Exe_computeWithNumber 4 "PipelinedCore$Execution" none pr_Exe_computeWithNumber D clK (tysK cI cB) A) (S : St)  (h : wp_Exe_computeWithNumber_95 K S) : J p l e rm_Exe_computeWithNumber s m args below meth c 4 D clK A 0 0 (MQ below (va_Qv K (fun u t => QK D clK (tysK cI cB) A (wsK h0 a cI cB u) t) A) args s 0 0 A) (wsK h0 a cI cB S) [] 95 [] := by
  unfold wp_Exe_computeWithNumber_95 at h
  exact j_vret C 48 rfl h
def wp_Exe_computeWithNumber_33 (K : St → Prop) (S : St) (v1 : Int32) : Prop := wp_Ins_numberI S (fun r10 S9 => (wp_Ari_plain S9 (S 15 5) v1 r10 (fun r12 S11 => (wp_Eff_setRegister S11 (S 15 4) r12 (fun S13 => ((wp_Exe_computeWithNumber_95 K S13)))))))
set_option maxHeartbeats 4000000 in
set_option maxRecDepth 100000 in
theorem L_Exe_computeWithNumber_33 {p : Program} {l : Launch} {e : Env} {s : State} {m : MethodId} {args : Array Value} {below : List Frame} {meth : Method} {c : Code} {A : Nat → Prop} {D : va_G} {h0 : Nat} {a : Nat → Nat} {cI cB : ClassId} {K : St → Prop} (C : CX p rm_Exe_computeWithNumber s m args meth c b_Exe_computeWithNumber 4 "PipelinedCore$Execution" none pr_Exe_computeWithNumber D clK (tysK cI cB) A) (S : St) (v1 : Int32) (h : wp_Exe_computeWithNumber_33 K S v1) : J p l e rm_Exe_computeWithNumber s m args below meth c 4 D clK A 0 0 (MQ below (va_Qv K (fun u t => QK D clK (tysK cI cB) A (wsK h0 a cI cB u) t) A) args s 0 0 A) (wsK h0 a cI cB S) [(0, .ref (a 17)), (1, .int v1), (2, .ref (a 18))] 33 [] := by
  unfold wp_Exe_computeWithNumber_33 at h
  refine j_aload_n C 17 34 rfl rfl rfl 2 rfl ?_
  refine j_aload_n C 18 35 rfl rfl rfl 0 rfl ?_
  refine j_get C 19 38 rfl rfl fg_Exe_13 17 rfl rfl ?_
  refine j_aload_n C 20 39 rfl rfl rfl 0 rfl ?_
  refine j_get C 21 42 rfl rfl fg_Exe_38 17 rfl rfl ?_
  refine j_iload_n C 22 43 rfl rfl rfl 1 rfl ?_
  refine j_aload_n C 23 44 rfl rfl rfl 0 rfl ?_
  refine j_callVi C 24 47 rfl rfl w458 m_Ins_numberI (As := []) (c_Ins_numberI l D h0 a cI cB S _ h) ⟨rfl, rfl⟩ ⟨Nat.le_of_ble_eq_true rfl, Nat.le_of_ble_eq_true rfl⟩ 17 rfl rfl rfl ⟨Nat.le_of_ble_eq_true rfl, Nat.le_of_ble_eq_true rfl⟩ (Nat.le_of_ble_eq_true rfl) rfl (fun r10 S9 h => ?_)
  refine j_callSi C 25 50 rfl rfl w497 m_Ari_plain (As := [.int (S 15 5), .int v1, .int r10]) (c_Ari_plain l D h0 a cI cB S9 (S 15 5) v1 r10 _ h) ⟨rfl, rfl⟩ ⟨Nat.le_of_ble_eq_true rfl, Nat.le_of_ble_eq_true rfl⟩ rfl ⟨Nat.le_of_ble_eq_true rfl, Nat.le_of_ble_eq_true rfl⟩ (Nat.le_of_ble_eq_true rfl) rfl (fun r12 S11 h => ?_)
  refine j_callVv C 26 53 rfl rfl w438 m_Eff_setRegister (As := [.int (S 15 4), .int r12]) (c_Eff_setRegister l D h0 a cI cB S11 (S 15 4) r12 _ h) ⟨rfl, rfl⟩ ⟨Nat.le_of_ble_eq_true rfl, Nat.le_of_ble_eq_true rfl⟩ 18 rfl rfl rfl ⟨Nat.le_of_ble_eq_true rfl, Nat.le_of_ble_eq_true rfl⟩ (Nat.le_of_ble_eq_true rfl) rfl (fun S13 h => ?_)
  refine j_goto C 27 95 rfl (by decide) ?_
  refine j_sub [] rfl ?_
  exact L_Exe_computeWithNumber_95 C S13 h
def wp_Exe_computeWithNumber_90 (K : St → Prop) (S : St)  : Prop := wp_Exe_refuse S (fun S15 => ((wp_Exe_computeWithNumber_95 K S15)))
set_option maxHeartbeats 4000000 in
set_option maxRecDepth 100000 in
theorem L_Exe_computeWithNumber_90 {p : Program} {l : Launch} {e : Env} {s : State} {m : MethodId} {args : Array Value} {below : List Frame} {meth : Method} {c : Code} {A : Nat → Prop} {D : va_G} {h0 : Nat} {a : Nat → Nat} {cI cB : ClassId} {K : St → Prop} (C : CX p rm_Exe_computeWithNumber s m args meth c b_Exe_computeWithNumber 4 "PipelinedCore$Execution" none pr_Exe_computeWithNumber D clK (tysK cI cB) A) (S : St)  (h : wp_Exe_computeWithNumber_90 K S) : J p l e rm_Exe_computeWithNumber s m args below meth c 4 D clK A 0 0 (MQ below (va_Qv K (fun u t => QK D clK (tysK cI cB) A (wsK h0 a cI cB u) t) A) args s 0 0 A) (wsK h0 a cI cB S) [(0, .ref (a 17)), (2, .ref (a 18))] 90 [] := by
  unfold wp_Exe_computeWithNumber_90 at h
  refine j_aload_n C 45 91 rfl rfl rfl 0 rfl ?_
  refine j_aload_n C 46 92 rfl rfl rfl 1 rfl ?_
  refine j_callSv C 47 95 rfl rfl w462 m_Exe_refuse (As := [.ref (a 17), .ref (a 18)]) (c_Exe_refuse l D h0 a cI cB S _ h) ⟨rfl, rfl⟩ ⟨Nat.le_of_ble_eq_true rfl, Nat.le_of_ble_eq_true rfl⟩ rfl ⟨Nat.le_of_ble_eq_true rfl, Nat.le_of_ble_eq_true rfl⟩ (Nat.le_of_ble_eq_true rfl) rfl (fun S15 h => ?_)
  refine j_sub [] rfl ?_
  exact L_Exe_computeWithNumber_95 C S15 h
def wp_Exe_computeWithNumber_21 (K : St → Prop) (S : St) (v1 : Int32) (k0 : Int32) : Prop := (if k0 = 0 then ((wp_Exe_computeWithNumber_33 K S v1)) else ((if (S 15 8) = 0 then ((wp_Exe_computeWithNumber_33 K S v1)) else ((if (S 15 5) = 5 then ((if (S 15 8) = 32 then (wp_Eff_setRegister S (S 15 4) (v1 >>> ((S 15 7) &&& 31)) (fun S7 => ((wp_Exe_computeWithNumber_95 K S7)))) else ((wp_Exe_computeWithNumber_90 K S)))) else ((wp_Exe_computeWithNumber_90 K S)))))))
set_option maxHeartbeats 4000000 in
set_option maxRecDepth 100000 in
theorem L_Exe_computeWithNumber_21 {p : Program} {l : Launch} {e : Env} {s : State} {m : MethodId} {args : Array Value} {below : List Frame} {meth : Method} {c : Code} {A : Nat → Prop} {D : va_G} {h0 : Nat} {a : Nat → Nat} {cI cB : ClassId} {K : St → Prop} (C : CX p rm_Exe_computeWithNumber s m args meth c b_Exe_computeWithNumber 4 "PipelinedCore$Execution" none pr_Exe_computeWithNumber D clK (tysK cI cB) A) (S : St) (v1 : Int32) (k0 : Int32) (h : wp_Exe_computeWithNumber_21 K S v1 k0) : J p l e rm_Exe_computeWithNumber s m args below meth c 4 D clK A 0 0 (MQ below (va_Qv K (fun u t => QK D clK (tysK cI cB) A (wsK h0 a cI cB u) t) A) args s 0 0 A) (wsK h0 a cI cB S) [(0, .ref (a 17)), (1, .int v1), (2, .ref (a 18))] 21 [.int k0] := by
  unfold wp_Exe_computeWithNumber_21 at h
  refine j_istore_n C 11 22 [(3, .int k0), (0, .ref (a 17)), (1, .int v1), (2, .ref (a 18))] rfl rfl rfl (by decide) rfl ?_
  refine j_iload_n C 12 23 rfl rfl rfl 0 rfl ?_
  refine j_if_eq C 13 33 26 rfl (by decide) rfl (fun c3 => ?_) (fun c3 => ?_)
  · replace h := ite_t h c3
    refine j_sub [1, 2, 3] rfl ?_
    exact L_Exe_computeWithNumber_33 C S v1 h
  · replace h := ite_f h c3
    refine j_aload_n C 14 27 rfl rfl rfl 1 rfl ?_
    refine j_get C 15 30 rfl rfl fg_Exe_119 17 rfl rfl ?_
    refine j_if_ne C 16 56 33 rfl (by decide) rfl (fun c4 => ?_) (fun c4 => ?_)
    · replace h := ite_f h c4
      refine j_aload_n C 28 57 rfl rfl rfl 1 rfl ?_
      refine j_get C 29 60 rfl rfl fg_Exe_38 17 rfl rfl ?_
      refine j_iconst C 30 61 rfl rfl kI_5 ?_
      refine j_icmp_ne C 31 90 64 rfl (by decide) rfl (fun c5 => ?_) (fun c5 => ?_)
      · replace h := ite_f h c5
        refine j_sub [1, 3] rfl ?_
        exact L_Exe_computeWithNumber_90 C S h
      · replace h := ite_t h c5
        refine j_aload_n C 32 65 rfl rfl rfl 1 rfl ?_
        refine j_get C 33 68 rfl rfl fg_Exe_119 17 rfl rfl ?_
        refine j_bipush C 34 70 rfl rfl kB_32 ?_
        refine j_icmp_ne C 35 90 73 rfl (by decide) rfl (fun c6 => ?_) (fun c6 => ?_)
        · replace h := ite_f h c6
          refine j_sub [1, 3] rfl ?_
          exact L_Exe_computeWithNumber_90 C S h
        · replace h := ite_t h c6
          refine j_aload_n C 36 74 rfl rfl rfl 3 rfl ?_
          refine j_aload_n C 37 75 rfl rfl rfl 1 rfl ?_
          refine j_get C 38 78 rfl rfl fg_Exe_13 17 rfl rfl ?_
          refine j_iload_n C 39 79 rfl rfl rfl 2 rfl ?_
          refine j_aload_n C 40 80 rfl rfl rfl 1 rfl ?_
          refine j_get C 41 83 rfl rfl fg_Exe_126 17 rfl rfl ?_
          refine j_ishr C 42 84 rfl rfl ?_
          refine j_callVv C 43 87 rfl rfl w438 m_Eff_setRegister (As := [.int (S 15 4), .int (v1 >>> ((S 15 7) &&& 31))]) (c_Eff_setRegister l D h0 a cI cB S (S 15 4) (v1 >>> ((S 15 7) &&& 31)) _ h) ⟨rfl, rfl⟩ ⟨Nat.le_of_ble_eq_true rfl, Nat.le_of_ble_eq_true rfl⟩ 18 rfl rfl rfl ⟨Nat.le_of_ble_eq_true rfl, Nat.le_of_ble_eq_true rfl⟩ (Nat.le_of_ble_eq_true rfl) rfl (fun S7 h => ?_)
          refine j_goto C 44 95 rfl (by decide) ?_
          refine j_sub [] rfl ?_
          exact L_Exe_computeWithNumber_95 C S7 h
    · replace h := ite_t h c4
      refine j_sub [1, 2, 3] rfl ?_
      exact L_Exe_computeWithNumber_33 C S v1 h
def wp_Exe_computeWithNumber_16 (K : St → Prop) (S : St) (v1 : Int32) : Prop := (wp_Exe_computeWithNumber_21 K S v1 1)
set_option maxHeartbeats 4000000 in
set_option maxRecDepth 100000 in
theorem L_Exe_computeWithNumber_16 {p : Program} {l : Launch} {e : Env} {s : State} {m : MethodId} {args : Array Value} {below : List Frame} {meth : Method} {c : Code} {A : Nat → Prop} {D : va_G} {h0 : Nat} {a : Nat → Nat} {cI cB : ClassId} {K : St → Prop} (C : CX p rm_Exe_computeWithNumber s m args meth c b_Exe_computeWithNumber 4 "PipelinedCore$Execution" none pr_Exe_computeWithNumber D clK (tysK cI cB) A) (S : St) (v1 : Int32) (h : wp_Exe_computeWithNumber_16 K S v1) : J p l e rm_Exe_computeWithNumber s m args below meth c 4 D clK A 0 0 (MQ below (va_Qv K (fun u t => QK D clK (tysK cI cB) A (wsK h0 a cI cB u) t) A) args s 0 0 A) (wsK h0 a cI cB S) [(0, .ref (a 17)), (1, .int v1), (2, .ref (a 18))] 16 [] := by
  unfold wp_Exe_computeWithNumber_16 at h
  refine j_iconst C 8 17 rfl rfl kI_1 ?_
  refine j_goto C 9 21 rfl (by decide) ?_
  exact L_Exe_computeWithNumber_21 C S v1 1 h
def wp_Exe_computeWithNumber (S : St) (p1 : Int32) (K : St → Prop) : Prop := (if (S 15 5) = 1 then ((wp_Exe_computeWithNumber_16 K S p1)) else ((if (S 15 5) = 5 then ((wp_Exe_computeWithNumber_16 K S p1)) else ((wp_Exe_computeWithNumber_21 K S p1 0)))))
set_option maxHeartbeats 4000000 in
set_option maxRecDepth 100000 in
theorem c_Exe_computeWithNumber (l : Launch) (D : va_G) (h0 : Nat) (a : Nat → Nat) (cI cB : ClassId) (S : St) (p1 : Int32) (K : St → Prop) (h : wp_Exe_computeWithNumber S p1 K) (sz : Nat) : Met l y_Exe_computeWithNumber (Cond.code y_Exe_computeWithNumber b_Exe_computeWithNumber 4 none :: gw) rm_Exe_computeWithNumber (va_Pc [.ref (a 17), .int p1, .ref (a 18)] (PK D clK (tysK cI cB) (wsK h0 a cI cB S) sz)) (va_Qv K (fun u t => QK D clK (tysK cI cB) (va_A (wsK h0 a cI cB S) sz) (wsK h0 a cI cB u) t) (va_A (wsK h0 a cI cB S) sz)) 0 0 (va_A (wsK h0 a cI cB S) sz) := by
  refine met_of (rm := rm_Exe_computeWithNumber) (pr := pr_Exe_computeWithNumber) (Qc := fun A => va_Qv K (fun u t => QK D clK (tysK cI cB) A (wsK h0 a cI cB u) t) A) (by decide +kernel) dm_Exe_computeWithNumber (Nat.le_of_ble_eq_true rfl) (fun p e s m args below meth c A C => ?_) sz
  unfold wp_Exe_computeWithNumber at h
  show J p l e rm_Exe_computeWithNumber s m args below meth c 4 D clK A 0 0 _ (wsK h0 a cI cB S) [(0, .ref (a 17)), (1, .int p1), (2, .ref (a 18))] 0 []
  refine j_aload_n C 0 1 rfl rfl rfl 0 rfl ?_
  refine j_get C 1 4 rfl rfl fg_Exe_38 17 rfl rfl ?_
  refine j_iconst C 2 5 rfl rfl kI_1 ?_
  refine j_icmp_eq C 3 16 8 rfl (by decide) rfl (fun c1 => ?_) (fun c1 => ?_)
  · replace h := ite_t h c1
    exact L_Exe_computeWithNumber_16 C S p1 h
  · replace h := ite_f h c1
    refine j_aload_n C 4 9 rfl rfl rfl 0 rfl ?_
    refine j_get C 5 12 rfl rfl fg_Exe_38 17 rfl rfl ?_
    refine j_iconst C 6 13 rfl rfl kI_5 ?_
    refine j_icmp_ne C 7 20 16 rfl (by decide) rfl (fun c2 => ?_) (fun c2 => ?_)
    · replace h := ite_f h c2
      refine j_iconst C 10 21 rfl rfl kI_0 ?_
      exact L_Exe_computeWithNumber_21 C S p1 0 h
    · replace h := ite_t h c2
      exact L_Exe_computeWithNumber_16 C S p1 h
abbrev rm_Ari_product : Room := { frames := 0, cells := 0, slots := 0, locals := 0 }
def wp_Ari_product (S : St) (p1 : Int32) (p2 : Int32) (p3 : Int32) (K : Int32 → St → Prop) : Prop := (if p1 = 0 then (K (p2 * p3) S) else (if p1 = 1 then (K ((jlshr (p2.toInt64 * p3.toInt64) 32 : Int64).toInt32) S) else (if p1 = 2 then (K ((jlshr (p2.toInt64 * (p3.toInt64 &&& (4294967295 : Int64))) 32 : Int64).toInt32) S) else (K ((jlushr ((p2.toInt64 &&& (4294967295 : Int64)) * (p3.toInt64 &&& (4294967295 : Int64))) 32 : Int64).toInt32) S))))
set_option maxHeartbeats 4000000 in
set_option maxRecDepth 100000 in
theorem c_Ari_product (l : Launch) (D : va_G) (h0 : Nat) (a : Nat → Nat) (cI cB : ClassId) (S : St) (p1 : Int32) (p2 : Int32) (p3 : Int32) (K : Int32 → St → Prop) (h : wp_Ari_product S p1 p2 p3 K) (sz : Nat) : Met l y_Ari_product (Cond.code y_Ari_product b_Ari_product 3 (some .int) :: gw) rm_Ari_product (va_Pc [.int p1, .int p2, .int p3] (PK D clK (tysK cI cB) (wsK h0 a cI cB S) sz)) (va_Qi K (fun u t => QK D clK (tysK cI cB) (va_A (wsK h0 a cI cB S) sz) (wsK h0 a cI cB u) t) (va_A (wsK h0 a cI cB S) sz)) 0 0 (va_A (wsK h0 a cI cB S) sz) := by
  refine met_of (rm := rm_Ari_product) (pr := pr_Ari_product) (Qc := fun A => va_Qi K (fun u t => QK D clK (tysK cI cB) A (wsK h0 a cI cB u) t) A) (by decide +kernel) dm_Ari_product (Nat.le_of_ble_eq_true rfl) (fun p e s m args below meth c A C => ?_) sz
  unfold wp_Ari_product at h
  show J p l e rm_Ari_product s m args below meth c 3 D clK A 0 0 _ (wsK h0 a cI cB S) [(0, .int p1), (1, .int p2), (2, .int p3)] 0 []
  refine j_iload_n C 0 1 rfl rfl rfl 0 rfl ?_
  refine j_table C 1 rfl [(0, 28), (1, 32), (2, 42)] 56 (by decide +kernel) (by decide) (by decide) (swP_c (fun c1_0 => ?_) (fun nc1_0 => swP_c (fun c1_1 => ?_) (fun nc1_1 => swP_c (fun c1_2 => ?_) (fun nc1_2 => swP_n ?_))))
  · replace h := ite_t h c1_0
    refine j_iload_n C 2 29 rfl rfl rfl 1 rfl ?_
    refine j_iload_n C 3 30 rfl rfl rfl 2 rfl ?_
    refine j_imul C 4 31 rfl rfl ?_
    exact j_iret C 5 rfl h
  · replace h := ite_t (ite_f h nc1_0) c1_1
    refine j_iload_n C 6 33 rfl rfl rfl 1 rfl ?_
    refine j_i2l C 7 34 rfl rfl ?_
    refine j_iload_n C 8 35 rfl rfl rfl 2 rfl ?_
    refine j_i2l C 9 36 rfl rfl ?_
    refine j_lmul C 10 37 rfl rfl ?_
    refine j_bipush C 11 39 rfl rfl kB_32 ?_
    refine j_lshr C 12 40 rfl rfl ?_
    refine j_l2i C 13 41 rfl rfl ?_
    exact j_iret C 14 rfl h
  · replace h := ite_t (ite_f (ite_f h nc1_0) nc1_1) c1_2
    refine j_iload_n C 15 43 rfl rfl rfl 1 rfl ?_
    refine j_i2l C 16 44 rfl rfl ?_
    refine j_iload_n C 17 45 rfl rfl rfl 2 rfl ?_
    refine j_i2l C 18 46 rfl rfl ?_
    refine j_ldc2_w C 19 49 rfl rfl w475 ?_
    refine j_land C 20 50 rfl rfl ?_
    refine j_lmul C 21 51 rfl rfl ?_
    refine j_bipush C 22 53 rfl rfl kB_32 ?_
    refine j_lshr C 23 54 rfl rfl ?_
    refine j_l2i C 24 55 rfl rfl ?_
    exact j_iret C 25 rfl h
  · replace h := (ite_f (ite_f (ite_f h nc1_0) nc1_1) nc1_2)
    refine j_iload_n C 26 57 rfl rfl rfl 1 rfl ?_
    refine j_i2l C 27 58 rfl rfl ?_
    refine j_ldc2_w C 28 61 rfl rfl w475 ?_
    refine j_land C 29 62 rfl rfl ?_
    refine j_iload_n C 30 63 rfl rfl rfl 2 rfl ?_
    refine j_i2l C 31 64 rfl rfl ?_
    refine j_ldc2_w C 32 67 rfl rfl w475 ?_
    refine j_land C 33 68 rfl rfl ?_
    refine j_lmul C 34 69 rfl rfl ?_
    refine j_bipush C 35 71 rfl rfl kB_32 ?_
    refine j_lushr C 36 72 rfl rfl ?_
    refine j_l2i C 37 73 rfl rfl ?_
    exact j_iret C 38 rfl h
abbrev rm_Ari_quotient : Room := { frames := 0, cells := 0, slots := 0, locals := 0 }
def wp_Ari_quotient_15 (K : Int32 → St → Prop) (S : St) (k0 : Int32) : Prop := K k0 S
set_option maxHeartbeats 4000000 in
set_option maxRecDepth 100000 in
theorem L_Ari_quotient_15 {p : Program} {l : Launch} {e : Env} {s : State} {m : MethodId} {args : Array Value} {below : List Frame} {meth : Method} {c : Code} {A : Nat → Prop} {D : va_G} {h0 : Nat} {a : Nat → Nat} {cI cB : ClassId} {K : Int32 → St → Prop} (C : CX p rm_Ari_quotient s m args meth c b_Ari_quotient 3 "PipelinedCore$Arithmetic" (some .int) pr_Ari_quotient D clK (tysK cI cB) A) (S : St) (k0 : Int32) (h : wp_Ari_quotient_15 K S k0) : J p l e rm_Ari_quotient s m args below meth c 3 D clK A 0 0 (MQ below (va_Qi K (fun u t => QK D clK (tysK cI cB) A (wsK h0 a cI cB u) t) A) args s 0 0 A) (wsK h0 a cI cB S) [] 15 [.int k0] := by
  unfold wp_Ari_quotient_15 at h
  exact j_iret C 8 rfl h
def wp_Ari_quotient (S : St) (p1 : Int32) (p2 : Int32) (p3 : Int32) (K : Int32 → St → Prop) : Prop := (if p3 = 0 then ((if (6 : Int32) ≤ p1 then ((wp_Ari_quotient_15 K S p2)) else ((wp_Ari_quotient_15 K S (-1))))) else ((if p1 = 4 then ((¬ p3.toInt64 = 0) ∧ (K ((p2.toInt64 / p3.toInt64 : Int64).toInt32) S)) else (if p1 = 5 then ((¬ (p3.toInt64 &&& (4294967295 : Int64)) = 0) ∧ (K (((p2.toInt64 &&& (4294967295 : Int64)) / (p3.toInt64 &&& (4294967295 : Int64)) : Int64).toInt32) S)) else (if p1 = 6 then ((¬ p3.toInt64 = 0) ∧ (K ((jlrem p2.toInt64 p3.toInt64 : Int64).toInt32) S)) else ((¬ (p3.toInt64 &&& (4294967295 : Int64)) = 0) ∧ (K ((jlrem (p2.toInt64 &&& (4294967295 : Int64)) (p3.toInt64 &&& (4294967295 : Int64)) : Int64).toInt32) S)))))))
set_option maxHeartbeats 4000000 in
set_option maxRecDepth 100000 in
theorem c_Ari_quotient (l : Launch) (D : va_G) (h0 : Nat) (a : Nat → Nat) (cI cB : ClassId) (S : St) (p1 : Int32) (p2 : Int32) (p3 : Int32) (K : Int32 → St → Prop) (h : wp_Ari_quotient S p1 p2 p3 K) (sz : Nat) : Met l y_Ari_quotient (Cond.code y_Ari_quotient b_Ari_quotient 3 (some .int) :: gw) rm_Ari_quotient (va_Pc [.int p1, .int p2, .int p3] (PK D clK (tysK cI cB) (wsK h0 a cI cB S) sz)) (va_Qi K (fun u t => QK D clK (tysK cI cB) (va_A (wsK h0 a cI cB S) sz) (wsK h0 a cI cB u) t) (va_A (wsK h0 a cI cB S) sz)) 0 0 (va_A (wsK h0 a cI cB S) sz) := by
  refine met_of (rm := rm_Ari_quotient) (pr := pr_Ari_quotient) (Qc := fun A => va_Qi K (fun u t => QK D clK (tysK cI cB) A (wsK h0 a cI cB u) t) A) (by decide +kernel) dm_Ari_quotient (Nat.le_of_ble_eq_true rfl) (fun p e s m args below meth c A C => ?_) sz
  unfold wp_Ari_quotient at h
  show J p l e rm_Ari_quotient s m args below meth c 3 D clK A 0 0 _ (wsK h0 a cI cB S) [(0, .int p1), (1, .int p2), (2, .int p3)] 0 []
  refine j_iload_n C 0 1 rfl rfl rfl 2 rfl ?_
  refine j_if_ne C 1 16 4 rfl (by decide) rfl (fun c1 => ?_) (fun c1 => ?_)
  · replace h := ite_f h c1
    refine j_iload_n C 9 17 rfl rfl rfl 0 rfl ?_
    refine j_table C 10 rfl [(4, 44), (5, 51), (6, 66)] 73 (by decide +kernel) (by decide) (by decide) (swP_c (fun c2_0 => ?_) (fun nc2_0 => swP_c (fun c2_1 => ?_) (fun nc2_1 => swP_c (fun c2_2 => ?_) (fun nc2_2 => swP_n ?_))))
    · replace h := ite_t h c2_0
      refine j_iload_n C 11 45 rfl rfl rfl 1 rfl ?_
      refine j_i2l C 12 46 rfl rfl ?_
      refine j_iload_n C 13 47 rfl rfl rfl 2 rfl ?_
      refine j_i2l C 14 48 rfl rfl ?_
      refine j_ldiv C 15 49 rfl rfl h.1 ?_
      replace h := h.2
      refine j_l2i C 16 50 rfl rfl ?_
      exact j_iret C 17 rfl h
    · replace h := ite_t (ite_f h nc2_0) c2_1
      refine j_iload_n C 18 52 rfl rfl rfl 1 rfl ?_
      refine j_i2l C 19 53 rfl rfl ?_
      refine j_ldc2_w C 20 56 rfl rfl w475 ?_
      refine j_land C 21 57 rfl rfl ?_
      refine j_iload_n C 22 58 rfl rfl rfl 2 rfl ?_
      refine j_i2l C 23 59 rfl rfl ?_
      refine j_ldc2_w C 24 62 rfl rfl w475 ?_
      refine j_land C 25 63 rfl rfl ?_
      refine j_ldiv C 26 64 rfl rfl h.1 ?_
      replace h := h.2
      refine j_l2i C 27 65 rfl rfl ?_
      exact j_iret C 28 rfl h
    · replace h := ite_t (ite_f (ite_f h nc2_0) nc2_1) c2_2
      refine j_iload_n C 29 67 rfl rfl rfl 1 rfl ?_
      refine j_i2l C 30 68 rfl rfl ?_
      refine j_iload_n C 31 69 rfl rfl rfl 2 rfl ?_
      refine j_i2l C 32 70 rfl rfl ?_
      refine j_lrem C 33 71 rfl rfl h.1 ?_
      replace h := h.2
      refine j_l2i C 34 72 rfl rfl ?_
      exact j_iret C 35 rfl h
    · replace h := (ite_f (ite_f (ite_f h nc2_0) nc2_1) nc2_2)
      refine j_iload_n C 36 74 rfl rfl rfl 1 rfl ?_
      refine j_i2l C 37 75 rfl rfl ?_
      refine j_ldc2_w C 38 78 rfl rfl w475 ?_
      refine j_land C 39 79 rfl rfl ?_
      refine j_iload_n C 40 80 rfl rfl rfl 2 rfl ?_
      refine j_i2l C 41 81 rfl rfl ?_
      refine j_ldc2_w C 42 84 rfl rfl w475 ?_
      refine j_land C 43 85 rfl rfl ?_
      refine j_lrem C 44 86 rfl rfl h.1 ?_
      replace h := h.2
      refine j_l2i C 45 87 rfl rfl ?_
      exact j_iret C 46 rfl h
  · replace h := ite_t h c1
    refine j_iload_n C 2 5 rfl rfl rfl 0 rfl ?_
    refine j_bipush C 3 7 rfl rfl kB_6 ?_
    refine j_icmp_ge C 4 14 10 rfl (by decide) rfl (fun c3 => ?_) (fun c3 => ?_)
    · replace h := ite_t h c3
      refine j_iload_n C 7 15 rfl rfl rfl 1 rfl ?_
      refine j_sub [] rfl ?_
      exact L_Ari_quotient_15 C S p2 h
    · replace h := ite_f h c3
      refine j_iconst C 5 11 rfl rfl kI_m1 ?_
      refine j_goto C 6 15 rfl (by decide) ?_
      refine j_sub [] rfl ?_
      exact L_Ari_quotient_15 C S (-1) h
abbrev rm_Exe_computeWithRegister : Room := { frames := 2, cells := 0, slots := 0, locals := 43 }
def wp_Exe_computeWithRegister_171 (K : St → Prop) (S : St)  : Prop := K S
set_option maxHeartbeats 4000000 in
set_option maxRecDepth 100000 in
theorem L_Exe_computeWithRegister_171 {p : Program} {l : Launch} {e : Env} {s : State} {m : MethodId} {args : Array Value} {below : List Frame} {meth : Method} {c : Code} {A : Nat → Prop} {D : va_G} {h0 : Nat} {a : Nat → Nat} {cI cB : ClassId} {K : St → Prop} (C : CX p rm_Exe_computeWithRegister s m args meth c b_Exe_computeWithRegister 4 "PipelinedCore$Execution" none pr_Exe_computeWithRegister D clK (tysK cI cB) A) (S : St)  (h : wp_Exe_computeWithRegister_171 K S) : J p l e rm_Exe_computeWithRegister s m args below meth c 4 D clK A 0 0 (MQ below (va_Qv K (fun u t => QK D clK (tysK cI cB) A (wsK h0 a cI cB u) t) A) args s 0 0 A) (wsK h0 a cI cB S) [] 171 [] := by
  unfold wp_Exe_computeWithRegister_171 at h
  exact j_vret C 87 rfl h
def wp_Exe_computeWithRegister_132 (K : St → Prop) (S : St) (v1 : Int32) (v2 : Int32) : Prop := (if (S 15 8) = 1 then (∀ S24 : St, S24 = st S 16 2 33 → (wp_Ari_quotient S24 (S24 15 5) v1 v2 (fun r26 S25 => (wp_Eff_setRegister S25 (S24 15 4) r26 (fun S27 => ((wp_Exe_computeWithRegister_171 K S27))))))) else (wp_Exe_refuse S (fun S22 => ((wp_Exe_computeWithRegister_171 K S22)))))
set_option maxHeartbeats 4000000 in
set_option maxRecDepth 100000 in
theorem L_Exe_computeWithRegister_132 {p : Program} {l : Launch} {e : Env} {s : State} {m : MethodId} {args : Array Value} {below : List Frame} {meth : Method} {c : Code} {A : Nat → Prop} {D : va_G} {h0 : Nat} {a : Nat → Nat} {cI cB : ClassId} {K : St → Prop} (C : CX p rm_Exe_computeWithRegister s m args meth c b_Exe_computeWithRegister 4 "PipelinedCore$Execution" none pr_Exe_computeWithRegister D clK (tysK cI cB) A) (S : St) (v1 : Int32) (v2 : Int32) (h : wp_Exe_computeWithRegister_132 K S v1 v2) : J p l e rm_Exe_computeWithRegister s m args below meth c 4 D clK A 0 0 (MQ below (va_Qv K (fun u t => QK D clK (tysK cI cB) A (wsK h0 a cI cB u) t) A) args s 0 0 A) (wsK h0 a cI cB S) [(0, .ref (a 17)), (1, .int v1), (2, .int v2), (3, .ref (a 18))] 132 [] := by
  unfold wp_Exe_computeWithRegister_132 at h
  refine j_aload_n C 67 133 rfl rfl rfl 0 rfl ?_
  refine j_get C 68 136 rfl rfl fg_Exe_119 17 rfl rfl ?_
  refine j_iconst C 69 137 rfl rfl kI_1 ?_
  refine j_icmp_ne C 70 166 140 rfl (by decide) rfl (fun c21 => ?_) (fun c21 => ?_)
  · replace h := ite_f h c21
    refine j_aload_n C 84 167 rfl rfl rfl 0 rfl ?_
    refine j_aload_n C 85 168 rfl rfl rfl 3 rfl ?_
    refine j_callSv C 86 171 rfl rfl w462 m_Exe_refuse (As := [.ref (a 17), .ref (a 18)]) (c_Exe_refuse l D h0 a cI cB S _ h) ⟨rfl, rfl⟩ ⟨Nat.le_of_ble_eq_true rfl, Nat.le_of_ble_eq_true rfl⟩ rfl ⟨Nat.le_of_ble_eq_true rfl, Nat.le_of_ble_eq_true rfl⟩ (Nat.le_of_ble_eq_true rfl) rfl (fun S22 h => ?_)
    refine j_sub [] rfl ?_
    exact L_Exe_computeWithRegister_171 C S22 h
  · replace h := ite_t h c21
    refine j_aload_n C 71 141 rfl rfl rfl 3 rfl ?_
    refine j_bipush C 72 143 rfl rfl kB_33 ?_
    refine j_put C 73 146 rfl rfl fp_Exe_129 18 rfl (Nat.le_of_ble_eq_true rfl) rfl rfl (st S 16 2 33) (sK_18_2 _ _ _ _ _ _) (fun S24 eS24 => ?_)
    replace h := h S24 eS24
    refine j_aload_n C 74 147 rfl rfl rfl 3 rfl ?_
    refine j_aload_n C 75 148 rfl rfl rfl 0 rfl ?_
    refine j_get C 76 151 rfl rfl fg_Exe_13 17 rfl rfl ?_
    refine j_aload_n C 77 152 rfl rfl rfl 0 rfl ?_
    refine j_get C 78 155 rfl rfl fg_Exe_38 17 rfl rfl ?_
    refine j_iload_n C 79 156 rfl rfl rfl 1 rfl ?_
    refine j_iload_n C 80 157 rfl rfl rfl 2 rfl ?_
    refine j_callSi C 81 160 rfl rfl w507 m_Ari_quotient (As := [.int (S24 15 5), .int v1, .int v2]) (c_Ari_quotient l D h0 a cI cB S24 (S24 15 5) v1 v2 _ h) ⟨rfl, rfl⟩ ⟨Nat.le_of_ble_eq_true rfl, Nat.le_of_ble_eq_true rfl⟩ rfl ⟨Nat.le_of_ble_eq_true rfl, Nat.le_of_ble_eq_true rfl⟩ (Nat.le_of_ble_eq_true rfl) rfl (fun r26 S25 h => ?_)
    refine j_callVv C 82 163 rfl rfl w438 m_Eff_setRegister (As := [.int (S24 15 4), .int r26]) (c_Eff_setRegister l D h0 a cI cB S25 (S24 15 4) r26 _ h) ⟨rfl, rfl⟩ ⟨Nat.le_of_ble_eq_true rfl, Nat.le_of_ble_eq_true rfl⟩ 18 rfl rfl rfl ⟨Nat.le_of_ble_eq_true rfl, Nat.le_of_ble_eq_true rfl⟩ (Nat.le_of_ble_eq_true rfl) rfl (fun S27 h => ?_)
    refine j_goto C 83 171 rfl (by decide) ?_
    refine j_sub [] rfl ?_
    exact L_Exe_computeWithRegister_171 C S27 h
def wp_Exe_computeWithRegister_91 (K : St → Prop) (S : St) (v1 : Int32) (v2 : Int32) : Prop := (if (S 15 8) = 1 then ((if (4 : Int32) ≤ (S 15 5) then ((wp_Exe_computeWithRegister_132 K S v1 v2)) else (∀ S16 : St, S16 = st S 16 2 4 → (wp_Ari_product S16 (S16 15 5) v1 v2 (fun r18 S17 => (wp_Eff_setRegister S17 (S16 15 4) r18 (fun S19 => ((wp_Exe_computeWithRegister_171 K S19))))))))) else ((wp_Exe_computeWithRegister_132 K S v1 v2)))
set_option maxHeartbeats 4000000 in
set_option maxRecDepth 100000 in
theorem L_Exe_computeWithRegister_91 {p : Program} {l : Launch} {e : Env} {s : State} {m : MethodId} {args : Array Value} {below : List Frame} {meth : Method} {c : Code} {A : Nat → Prop} {D : va_G} {h0 : Nat} {a : Nat → Nat} {cI cB : ClassId} {K : St → Prop} (C : CX p rm_Exe_computeWithRegister s m args meth c b_Exe_computeWithRegister 4 "PipelinedCore$Execution" none pr_Exe_computeWithRegister D clK (tysK cI cB) A) (S : St) (v1 : Int32) (v2 : Int32) (h : wp_Exe_computeWithRegister_91 K S v1 v2) : J p l e rm_Exe_computeWithRegister s m args below meth c 4 D clK A 0 0 (MQ below (va_Qv K (fun u t => QK D clK (tysK cI cB) A (wsK h0 a cI cB u) t) A) args s 0 0 A) (wsK h0 a cI cB S) [(0, .ref (a 17)), (1, .int v1), (2, .int v2), (3, .ref (a 18))] 91 [] := by
  unfold wp_Exe_computeWithRegister_91 at h
  refine j_aload_n C 46 92 rfl rfl rfl 0 rfl ?_
  refine j_get C 47 95 rfl rfl fg_Exe_119 17 rfl rfl ?_
  refine j_iconst C 48 96 rfl rfl kI_1 ?_
  refine j_icmp_ne C 49 132 99 rfl (by decide) rfl (fun c14 => ?_) (fun c14 => ?_)
  · replace h := ite_f h c14
    exact L_Exe_computeWithRegister_132 C S v1 v2 h
  · replace h := ite_t h c14
    refine j_aload_n C 50 100 rfl rfl rfl 0 rfl ?_
    refine j_get C 51 103 rfl rfl fg_Exe_38 17 rfl rfl ?_
    refine j_iconst C 52 104 rfl rfl kI_4 ?_
    refine j_icmp_ge C 53 132 107 rfl (by decide) rfl (fun c15 => ?_) (fun c15 => ?_)
    · replace h := ite_t h c15
      exact L_Exe_computeWithRegister_132 C S v1 v2 h
    · replace h := ite_f h c15
      refine j_aload_n C 54 108 rfl rfl rfl 3 rfl ?_
      refine j_iconst C 55 109 rfl rfl kI_4 ?_
      refine j_put C 56 112 rfl rfl fp_Exe_129 18 rfl (Nat.le_of_ble_eq_true rfl) rfl rfl (st S 16 2 4) (sK_18_2 _ _ _ _ _ _) (fun S16 eS16 => ?_)
      replace h := h S16 eS16
      refine j_aload_n C 57 113 rfl rfl rfl 3 rfl ?_
      refine j_aload_n C 58 114 rfl rfl rfl 0 rfl ?_
      refine j_get C 59 117 rfl rfl fg_Exe_13 17 rfl rfl ?_
      refine j_aload_n C 60 118 rfl rfl rfl 0 rfl ?_
      refine j_get C 61 121 rfl rfl fg_Exe_38 17 rfl rfl ?_
      refine j_iload_n C 62 122 rfl rfl rfl 1 rfl ?_
      refine j_iload_n C 63 123 rfl rfl rfl 2 rfl ?_
      refine j_callSi C 64 126 rfl rfl w504 m_Ari_product (As := [.int (S16 15 5), .int v1, .int v2]) (c_Ari_product l D h0 a cI cB S16 (S16 15 5) v1 v2 _ h) ⟨rfl, rfl⟩ ⟨Nat.le_of_ble_eq_true rfl, Nat.le_of_ble_eq_true rfl⟩ rfl ⟨Nat.le_of_ble_eq_true rfl, Nat.le_of_ble_eq_true rfl⟩ (Nat.le_of_ble_eq_true rfl) rfl (fun r18 S17 h => ?_)
      refine j_callVv C 65 129 rfl rfl w438 m_Eff_setRegister (As := [.int (S16 15 4), .int r18]) (c_Eff_setRegister l D h0 a cI cB S17 (S16 15 4) r18 _ h) ⟨rfl, rfl⟩ ⟨Nat.le_of_ble_eq_true rfl, Nat.le_of_ble_eq_true rfl⟩ 18 rfl rfl rfl ⟨Nat.le_of_ble_eq_true rfl, Nat.le_of_ble_eq_true rfl⟩ (Nat.le_of_ble_eq_true rfl) rfl (fun S19 h => ?_)
      refine j_goto C 66 171 rfl (by decide) ?_
      refine j_sub [] rfl ?_
      exact L_Exe_computeWithRegister_171 C S19 h
def wp_Exe_computeWithRegister_57 (K : St → Prop) (S : St) (v1 : Int32) (v2 : Int32) : Prop := (if (S 15 8) = 32 then ((if (S 15 5) = 5 then (wp_Eff_setRegister S (S 15 4) (v1 >>> ((v2 &&& (31 : Int32)) &&& 31)) (fun S12 => ((wp_Exe_computeWithRegister_171 K S12)))) else ((wp_Exe_computeWithRegister_91 K S v1 v2)))) else ((wp_Exe_computeWithRegister_91 K S v1 v2)))
set_option maxHeartbeats 4000000 in
set_option maxRecDepth 100000 in
theorem L_Exe_computeWithRegister_57 {p : Program} {l : Launch} {e : Env} {s : State} {m : MethodId} {args : Array Value} {below : List Frame} {meth : Method} {c : Code} {A : Nat → Prop} {D : va_G} {h0 : Nat} {a : Nat → Nat} {cI cB : ClassId} {K : St → Prop} (C : CX p rm_Exe_computeWithRegister s m args meth c b_Exe_computeWithRegister 4 "PipelinedCore$Execution" none pr_Exe_computeWithRegister D clK (tysK cI cB) A) (S : St) (v1 : Int32) (v2 : Int32) (h : wp_Exe_computeWithRegister_57 K S v1 v2) : J p l e rm_Exe_computeWithRegister s m args below meth c 4 D clK A 0 0 (MQ below (va_Qv K (fun u t => QK D clK (tysK cI cB) A (wsK h0 a cI cB u) t) A) args s 0 0 A) (wsK h0 a cI cB S) [(0, .ref (a 17)), (1, .int v1), (2, .int v2), (3, .ref (a 18))] 57 [] := by
  unfold wp_Exe_computeWithRegister_57 at h
  refine j_aload_n C 28 58 rfl rfl rfl 0 rfl ?_
  refine j_get C 29 61 rfl rfl fg_Exe_119 17 rfl rfl ?_
  refine j_bipush C 30 63 rfl rfl kB_32 ?_
  refine j_icmp_ne C 31 91 66 rfl (by decide) rfl (fun c10 => ?_) (fun c10 => ?_)
  · replace h := ite_f h c10
    exact L_Exe_computeWithRegister_91 C S v1 v2 h
  · replace h := ite_t h c10
    refine j_aload_n C 32 67 rfl rfl rfl 0 rfl ?_
    refine j_get C 33 70 rfl rfl fg_Exe_38 17 rfl rfl ?_
    refine j_iconst C 34 71 rfl rfl kI_5 ?_
    refine j_icmp_ne C 35 91 74 rfl (by decide) rfl (fun c11 => ?_) (fun c11 => ?_)
    · replace h := ite_f h c11
      exact L_Exe_computeWithRegister_91 C S v1 v2 h
    · replace h := ite_t h c11
      refine j_aload_n C 36 75 rfl rfl rfl 3 rfl ?_
      refine j_aload_n C 37 76 rfl rfl rfl 0 rfl ?_
      refine j_get C 38 79 rfl rfl fg_Exe_13 17 rfl rfl ?_
      refine j_iload_n C 39 80 rfl rfl rfl 1 rfl ?_
      refine j_iload_n C 40 81 rfl rfl rfl 2 rfl ?_
      refine j_bipush C 41 83 rfl rfl kB_31 ?_
      refine j_iand C 42 84 rfl rfl ?_
      refine j_ishr C 43 85 rfl rfl ?_
      refine j_callVv C 44 88 rfl rfl w438 m_Eff_setRegister (As := [.int (S 15 4), .int (v1 >>> ((v2 &&& (31 : Int32)) &&& 31))]) (c_Eff_setRegister l D h0 a cI cB S (S 15 4) (v1 >>> ((v2 &&& (31 : Int32)) &&& 31)) _ h) ⟨rfl, rfl⟩ ⟨Nat.le_of_ble_eq_true rfl, Nat.le_of_ble_eq_true rfl⟩ 18 rfl rfl rfl ⟨Nat.le_of_ble_eq_true rfl, Nat.le_of_ble_eq_true rfl⟩ (Nat.le_of_ble_eq_true rfl) rfl (fun S12 h => ?_)
      refine j_goto C 45 171 rfl (by decide) ?_
      refine j_sub [] rfl ?_
      exact L_Exe_computeWithRegister_171 C S12 h
def wp_Exe_computeWithRegister (S : St) (p1 : Int32) (p2 : Int32) (K : St → Prop) : Prop := (if (S 15 8) = 0 then (wp_Ari_plain S (S 15 5) p1 p2 (fun r7 S6 => (wp_Eff_setRegister S6 (S 15 4) r7 (fun S8 => ((wp_Exe_computeWithRegister_171 K S8)))))) else ((if (S 15 8) = 32 then ((if (S 15 5) = 0 then (wp_Eff_setRegister S (S 15 4) (p1 - p2) (fun S4 => ((wp_Exe_computeWithRegister_171 K S4)))) else ((wp_Exe_computeWithRegister_57 K S p1 p2)))) else ((wp_Exe_computeWithRegister_57 K S p1 p2)))))
set_option maxHeartbeats 4000000 in
set_option maxRecDepth 100000 in
theorem c_Exe_computeWithRegister (l : Launch) (D : va_G) (h0 : Nat) (a : Nat → Nat) (cI cB : ClassId) (S : St) (p1 : Int32) (p2 : Int32) (K : St → Prop) (h : wp_Exe_computeWithRegister S p1 p2 K) (sz : Nat) : Met l y_Exe_computeWithRegister (Cond.code y_Exe_computeWithRegister b_Exe_computeWithRegister 4 none :: gw) rm_Exe_computeWithRegister (va_Pc [.ref (a 17), .int p1, .int p2, .ref (a 18)] (PK D clK (tysK cI cB) (wsK h0 a cI cB S) sz)) (va_Qv K (fun u t => QK D clK (tysK cI cB) (va_A (wsK h0 a cI cB S) sz) (wsK h0 a cI cB u) t) (va_A (wsK h0 a cI cB S) sz)) 0 0 (va_A (wsK h0 a cI cB S) sz) := by
  refine met_of (rm := rm_Exe_computeWithRegister) (pr := pr_Exe_computeWithRegister) (Qc := fun A => va_Qv K (fun u t => QK D clK (tysK cI cB) A (wsK h0 a cI cB u) t) A) (by decide +kernel) dm_Exe_computeWithRegister (Nat.le_of_ble_eq_true rfl) (fun p e s m args below meth c A C => ?_) sz
  unfold wp_Exe_computeWithRegister at h
  show J p l e rm_Exe_computeWithRegister s m args below meth c 4 D clK A 0 0 _ (wsK h0 a cI cB S) [(0, .ref (a 17)), (1, .int p1), (2, .int p2), (3, .ref (a 18))] 0 []
  refine j_aload_n C 0 1 rfl rfl rfl 0 rfl ?_
  refine j_get C 1 4 rfl rfl fg_Exe_119 17 rfl rfl ?_
  refine j_if_ne C 2 27 7 rfl (by decide) rfl (fun c1 => ?_) (fun c1 => ?_)
  · replace h := ite_f h c1
    refine j_aload_n C 13 28 rfl rfl rfl 0 rfl ?_
    refine j_get C 14 31 rfl rfl fg_Exe_119 17 rfl rfl ?_
    refine j_bipush C 15 33 rfl rfl kB_32 ?_
    refine j_icmp_ne C 16 57 36 rfl (by decide) rfl (fun c2 => ?_) (fun c2 => ?_)
    · replace h := ite_f h c2
      exact L_Exe_computeWithRegister_57 C S p1 p2 h
    · replace h := ite_t h c2
      refine j_aload_n C 17 37 rfl rfl rfl 0 rfl ?_
      refine j_get C 18 40 rfl rfl fg_Exe_38 17 rfl rfl ?_
      refine j_if_ne C 19 57 43 rfl (by decide) rfl (fun c3 => ?_) (fun c3 => ?_)
      · replace h := ite_f h c3
        exact L_Exe_computeWithRegister_57 C S p1 p2 h
      · replace h := ite_t h c3
        refine j_aload_n C 20 44 rfl rfl rfl 3 rfl ?_
        refine j_aload_n C 21 45 rfl rfl rfl 0 rfl ?_
        refine j_get C 22 48 rfl rfl fg_Exe_13 17 rfl rfl ?_
        refine j_iload_n C 23 49 rfl rfl rfl 1 rfl ?_
        refine j_iload_n C 24 50 rfl rfl rfl 2 rfl ?_
        refine j_isub C 25 51 rfl rfl ?_
        refine j_callVv C 26 54 rfl rfl w438 m_Eff_setRegister (As := [.int (S 15 4), .int (p1 - p2)]) (c_Eff_setRegister l D h0 a cI cB S (S 15 4) (p1 - p2) _ h) ⟨rfl, rfl⟩ ⟨Nat.le_of_ble_eq_true rfl, Nat.le_of_ble_eq_true rfl⟩ 18 rfl rfl rfl ⟨Nat.le_of_ble_eq_true rfl, Nat.le_of_ble_eq_true rfl⟩ (Nat.le_of_ble_eq_true rfl) rfl (fun S4 h => ?_)
        refine j_goto C 27 171 rfl (by decide) ?_
        refine j_sub [] rfl ?_
        exact L_Exe_computeWithRegister_171 C S4 h
  · replace h := ite_t h c1
    refine j_aload_n C 3 8 rfl rfl rfl 3 rfl ?_
    refine j_aload_n C 4 9 rfl rfl rfl 0 rfl ?_
    refine j_get C 5 12 rfl rfl fg_Exe_13 17 rfl rfl ?_
    refine j_aload_n C 6 13 rfl rfl rfl 0 rfl ?_
    refine j_get C 7 16 rfl rfl fg_Exe_38 17 rfl rfl ?_
    refine j_iload_n C 8 17 rfl rfl rfl 1 rfl ?_
    refine j_iload_n C 9 18 rfl rfl rfl 2 rfl ?_
    refine j_callSi C 10 21 rfl rfl w497 m_Ari_plain (As := [.int (S 15 5), .int p1, .int p2]) (c_Ari_plain l D h0 a cI cB S (S 15 5) p1 p2 _ h) ⟨rfl, rfl⟩ ⟨Nat.le_of_ble_eq_true rfl, Nat.le_of_ble_eq_true rfl⟩ rfl ⟨Nat.le_of_ble_eq_true rfl, Nat.le_of_ble_eq_true rfl⟩ (Nat.le_of_ble_eq_true rfl) rfl (fun r7 S6 h => ?_)
    refine j_callVv C 11 24 rfl rfl w438 m_Eff_setRegister (As := [.int (S 15 4), .int r7]) (c_Eff_setRegister l D h0 a cI cB S6 (S 15 4) r7 _ h) ⟨rfl, rfl⟩ ⟨Nat.le_of_ble_eq_true rfl, Nat.le_of_ble_eq_true rfl⟩ 18 rfl rfl rfl ⟨Nat.le_of_ble_eq_true rfl, Nat.le_of_ble_eq_true rfl⟩ (Nat.le_of_ble_eq_true rfl) rfl (fun S8 h => ?_)
    refine j_goto C 12 171 rfl (by decide) ?_
    refine j_sub [] rfl ?_
    exact L_Exe_computeWithRegister_171 C S8 h
abbrev rm_Con_leaveTrap : Room := { frames := 0, cells := 0, slots := 0, locals := 0 }
def wp_Con_leaveTrap_21 (K : Int32 → St → Prop) (S : St) (k0 : Int32) : Prop := ∀ S2 : St, S2 = st S 3 0 k0 → (K (S2 3 4) S2)
set_option maxHeartbeats 4000000 in
set_option maxRecDepth 100000 in
theorem L_Con_leaveTrap_21 {p : Program} {l : Launch} {e : Env} {s : State} {m : MethodId} {args : Array Value} {below : List Frame} {meth : Method} {c : Code} {A : Nat → Prop} {D : va_G} {h0 : Nat} {a : Nat → Nat} {cI cB : ClassId} {K : Int32 → St → Prop} (C : CX p rm_Con_leaveTrap s m args meth c b_Con_leaveTrap 1 "PipelinedCore$Controls" (some .int) pr_Con_leaveTrap D clK (tysK cI cB) A) (S : St) (k0 : Int32) (h : wp_Con_leaveTrap_21 K S k0) : J p l e rm_Con_leaveTrap s m args below meth c 1 D clK A 0 0 (MQ below (va_Qi K (fun u t => QK D clK (tysK cI cB) A (wsK h0 a cI cB u) t) A) args s 0 0 A) (wsK h0 a cI cB S) [(0, .ref (a 3))] 21 [.int k0, .ref (a 3)] := by
  unfold wp_Con_leaveTrap_21 at h
  refine j_put C 9 24 rfl rfl fp_Con_7 3 rfl (Nat.le_of_ble_eq_true rfl) rfl rfl (st S 3 0 k0) (sK_3_0 _ _ _ _ _ _) (fun S2 eS2 => ?_)
  replace h := h S2 eS2
  refine j_aload_n C 10 25 rfl rfl rfl 0 rfl ?_
  refine j_get C 11 28 rfl rfl fg_Con_22 3 rfl rfl ?_
  exact j_iret C 12 rfl h
def wp_Con_leaveTrap (S : St)  (K : Int32 → St → Prop) : Prop := (if ((S 3 0) &&& (128 : Int32)) = 0 then ((wp_Con_leaveTrap_21 K S 128)) else ((wp_Con_leaveTrap_21 K S 136)))
set_option maxHeartbeats 4000000 in
set_option maxRecDepth 100000 in
theorem c_Con_leaveTrap (l : Launch) (D : va_G) (h0 : Nat) (a : Nat → Nat) (cI cB : ClassId) (S : St)  (K : Int32 → St → Prop) (h : wp_Con_leaveTrap S K) (sz : Nat) : Met l y_Con_leaveTrap (Cond.code y_Con_leaveTrap b_Con_leaveTrap 1 (some .int) :: gw) rm_Con_leaveTrap (va_Pc [.ref (a 3)] (PK D clK (tysK cI cB) (wsK h0 a cI cB S) sz)) (va_Qi K (fun u t => QK D clK (tysK cI cB) (va_A (wsK h0 a cI cB S) sz) (wsK h0 a cI cB u) t) (va_A (wsK h0 a cI cB S) sz)) 0 0 (va_A (wsK h0 a cI cB S) sz) := by
  refine met_of (rm := rm_Con_leaveTrap) (pr := pr_Con_leaveTrap) (Qc := fun A => va_Qi K (fun u t => QK D clK (tysK cI cB) A (wsK h0 a cI cB u) t) A) (by decide +kernel) dm_Con_leaveTrap (Nat.le_of_ble_eq_true rfl) (fun p e s m args below meth c A C => ?_) sz
  unfold wp_Con_leaveTrap at h
  show J p l e rm_Con_leaveTrap s m args below meth c 1 D clK A 0 0 _ (wsK h0 a cI cB S) [(0, .ref (a 3))] 0 []
  refine j_aload_n C 0 1 rfl rfl rfl 0 rfl ?_
  refine j_aload_n C 1 2 rfl rfl rfl 0 rfl ?_
  refine j_get C 2 5 rfl rfl fg_Con_7 3 rfl rfl ?_
  refine j_sipush C 3 8 rfl rfl kS_128 ?_
  refine j_iand C 4 9 rfl rfl ?_
  refine j_if_eq C 5 18 12 rfl (by decide) rfl (fun c1 => ?_) (fun c1 => ?_)
  · replace h := ite_t h c1
    refine j_sipush C 8 21 rfl rfl kS_128 ?_
    exact L_Con_leaveTrap_21 C S 128 h
  · replace h := ite_f h c1
    refine j_sipush C 6 15 rfl rfl kS_136 ?_
    refine j_goto C 7 21 rfl (by decide) ?_
    exact L_Con_leaveTrap_21 C S 136 h
abbrev rm_Exe_doWholeWord : Room := { frames := 2, cells := 0, slots := 0, locals := 43 }
def wp_Exe_doWholeWord_91 (K : St → Prop) (S : St)  : Prop := K S
set_option maxHeartbeats 4000000 in
set_option maxRecDepth 100000 in
theorem L_Exe_doWholeWord_91 {p : Program} {l : Launch} {e : Env} {s : State} {m : MethodId} {args : Array Value} {below : List Frame} {meth : Method} {c : Code} {A : Nat → Prop} {D : va_G} {h0 : Nat} {a : Nat → Nat} {cI cB : ClassId} {K : St → Prop} (C : CX p rm_Exe_doWholeWord s m args meth c b_Exe_doWholeWord 3 "PipelinedCore$Execution" none pr_Exe_doWholeWord D clK (tysK cI cB) A) (S : St)  (h : wp_Exe_doWholeWord_91 K S) : J p l e rm_Exe_doWholeWord s m args below meth c 3 D clK A 0 0 (MQ below (va_Qv K (fun u t => QK D clK (tysK cI cB) A (wsK h0 a cI cB u) t) A) args s 0 0 A) (wsK h0 a cI cB S) [] 91 [] := by
  unfold wp_Exe_doWholeWord_91 at h
  exact j_vret C 25 rfl h
def wp_Exe_doWholeWord (S : St)  (K : St → Prop) : Prop := (if (S 15 2) = 115 then (wp_Eff_trap S 11 0 (fun S2 => ((wp_Exe_doWholeWord_91 K S2)))) else (if (S 15 2) = 1048691 then (wp_Eff_trap S 3 0 (fun S4 => ((wp_Exe_doWholeWord_91 K S4)))) else (if (S 15 2) = 273678451 then ((wp_Exe_doWholeWord_91 K S)) else (if (S 15 2) = 807403635 then (∀ S6 : St, S6 = st S 16 14 1 → (wp_Con_leaveTrap S6 (fun r8 S7 => (∀ S9 : St, S9 = st S7 16 12 r8 → ((wp_Exe_doWholeWord_91 K S9)))))) else (wp_Exe_refuse S (fun S10 => ((wp_Exe_doWholeWord_91 K S10))))))))
set_option maxHeartbeats 4000000 in
set_option maxRecDepth 100000 in
theorem c_Exe_doWholeWord (l : Launch) (D : va_G) (h0 : Nat) (a : Nat → Nat) (cI cB : ClassId) (S : St)  (K : St → Prop) (h : wp_Exe_doWholeWord S K) (sz : Nat) : Met l y_Exe_doWholeWord (Cond.code y_Exe_doWholeWord b_Exe_doWholeWord 3 none :: gw) rm_Exe_doWholeWord (va_Pc [.ref (a 17), .ref (a 3), .ref (a 18)] (PK D clK (tysK cI cB) (wsK h0 a cI cB S) sz)) (va_Qv K (fun u t => QK D clK (tysK cI cB) (va_A (wsK h0 a cI cB S) sz) (wsK h0 a cI cB u) t) (va_A (wsK h0 a cI cB S) sz)) 0 0 (va_A (wsK h0 a cI cB S) sz) := by
  refine met_of (rm := rm_Exe_doWholeWord) (pr := pr_Exe_doWholeWord) (Qc := fun A => va_Qv K (fun u t => QK D clK (tysK cI cB) A (wsK h0 a cI cB u) t) A) (by decide +kernel) dm_Exe_doWholeWord (Nat.le_of_ble_eq_true rfl) (fun p e s m args below meth c A C => ?_) sz
  unfold wp_Exe_doWholeWord at h
  show J p l e rm_Exe_doWholeWord s m args below meth c 3 D clK A 0 0 _ (wsK h0 a cI cB S) [(0, .ref (a 17)), (1, .ref (a 3)), (2, .ref (a 18))] 0 []
  refine j_aload_n C 0 1 rfl rfl rfl 0 rfl ?_
  refine j_get C 1 4 rfl rfl fg_Exe_75 17 rfl rfl ?_
  refine j_lookup C 2 rfl (by decide) [(115, 48), (1048691, 58), (273678451, 83), (807403635, 67)] 86 (by decide +kernel) (by decide) (swP_c (fun c1_0 => ?_) (fun nc1_0 => swP_c (fun c1_1 => ?_) (fun nc1_1 => swP_c (fun c1_2 => ?_) (fun nc1_2 => swP_c (fun c1_3 => ?_) (fun nc1_3 => swP_n ?_)))))
  · replace h := ite_t h c1_0
    refine j_aload_n C 3 49 rfl rfl rfl 2 rfl ?_
    refine j_bipush C 4 51 rfl rfl kB_11 ?_
    refine j_iconst C 5 52 rfl rfl kI_0 ?_
    refine j_callVv C 6 55 rfl rfl w465 m_Eff_trap (As := [.int 11, .int 0]) (c_Eff_trap l D h0 a cI cB S 11 0 _ h) ⟨rfl, rfl⟩ ⟨Nat.le_of_ble_eq_true rfl, Nat.le_of_ble_eq_true rfl⟩ 18 rfl rfl rfl ⟨Nat.le_of_ble_eq_true rfl, Nat.le_of_ble_eq_true rfl⟩ (Nat.le_of_ble_eq_true rfl) rfl (fun S2 h => ?_)
    refine j_goto C 7 91 rfl (by decide) ?_
    refine j_sub [] rfl ?_
    exact L_Exe_doWholeWord_91 C S2 h
  · replace h := ite_t (ite_f h nc1_0) c1_1
    refine j_aload_n C 8 59 rfl rfl rfl 2 rfl ?_
    refine j_iconst C 9 60 rfl rfl kI_3 ?_
    refine j_iconst C 10 61 rfl rfl kI_0 ?_
    refine j_callVv C 11 64 rfl rfl w465 m_Eff_trap (As := [.int 3, .int 0]) (c_Eff_trap l D h0 a cI cB S 3 0 _ h) ⟨rfl, rfl⟩ ⟨Nat.le_of_ble_eq_true rfl, Nat.le_of_ble_eq_true rfl⟩ 18 rfl rfl rfl ⟨Nat.le_of_ble_eq_true rfl, Nat.le_of_ble_eq_true rfl⟩ (Nat.le_of_ble_eq_true rfl) rfl (fun S4 h => ?_)
    refine j_goto C 12 91 rfl (by decide) ?_
    refine j_sub [] rfl ?_
    exact L_Exe_doWholeWord_91 C S4 h
  · replace h := ite_t (ite_f (ite_f h nc1_0) nc1_1) c1_2
    refine j_goto C 21 91 rfl (by decide) ?_
    refine j_sub [] rfl ?_
    exact L_Exe_doWholeWord_91 C S h
  · replace h := ite_t (ite_f (ite_f (ite_f h nc1_0) nc1_1) nc1_2) c1_3
    refine j_aload_n C 13 68 rfl rfl rfl 2 rfl ?_
    refine j_iconst C 14 69 rfl rfl kI_1 ?_
    refine j_put C 15 72 rfl rfl fp_Exe_138 18 rfl (Nat.le_of_ble_eq_true rfl) (isB_nar isB_1) (isB_fit isB_1) (st S 16 14 1) (sK_18_14 _ _ _ _ _ _) (fun S6 eS6 => ?_)
    replace h := h S6 eS6
    refine j_aload_n C 16 73 rfl rfl rfl 2 rfl ?_
    refine j_aload_n C 17 74 rfl rfl rfl 1 rfl ?_
    refine j_callVi C 18 77 rfl rfl w513 m_Con_leaveTrap (As := []) (c_Con_leaveTrap l D h0 a cI cB S6 _ h) ⟨rfl, rfl⟩ ⟨Nat.le_of_ble_eq_true rfl, Nat.le_of_ble_eq_true rfl⟩ 3 rfl rfl rfl ⟨Nat.le_of_ble_eq_true rfl, Nat.le_of_ble_eq_true rfl⟩ (Nat.le_of_ble_eq_true rfl) rfl (fun r8 S7 h => ?_)
    refine j_put C 19 80 rfl rfl fp_Exe_147 18 rfl (Nat.le_of_ble_eq_true rfl) rfl rfl (st S7 16 12 r8) (sK_18_12 _ _ _ _ _ _) (fun S9 eS9 => ?_)
    replace h := h S9 eS9
    refine j_goto C 20 91 rfl (by decide) ?_
    refine j_sub [] rfl ?_
    exact L_Exe_doWholeWord_91 C S9 h
  · replace h := (ite_f (ite_f (ite_f (ite_f h nc1_0) nc1_1) nc1_2) nc1_3)
    refine j_aload_n C 22 87 rfl rfl rfl 0 rfl ?_
    refine j_aload_n C 23 88 rfl rfl rfl 2 rfl ?_
    refine j_callSv C 24 91 rfl rfl w462 m_Exe_refuse (As := [.ref (a 17), .ref (a 18)]) (c_Exe_refuse l D h0 a cI cB S _ h) ⟨rfl, rfl⟩ ⟨Nat.le_of_ble_eq_true rfl, Nat.le_of_ble_eq_true rfl⟩ rfl ⟨Nat.le_of_ble_eq_true rfl, Nat.le_of_ble_eq_true rfl⟩ (Nat.le_of_ble_eq_true rfl) rfl (fun S10 h => ?_)
    refine j_sub [] rfl ?_
    exact L_Exe_doWholeWord_91 C S10 h
abbrev rm_Con_has : Room := { frames := 0, cells := 0, slots := 0, locals := 0 }
def wp_Con_has (S : St) (p1 : Int32) (K : Int32 → St → Prop) : Prop := (if p1 = 768 then (K 1 S) else (if p1 = 772 then (K 1 S) else (if p1 = 773 then (K 1 S) else (if p1 = 832 then (K 1 S) else (if p1 = 833 then (K 1 S) else (if p1 = 834 then (K 1 S) else (if p1 = 835 then (K 1 S) else (if p1 = 836 then (K 1 S) else (K 0 S)))))))))
set_option maxHeartbeats 4000000 in
set_option maxRecDepth 100000 in
theorem c_Con_has (l : Launch) (D : va_G) (h0 : Nat) (a : Nat → Nat) (cI cB : ClassId) (S : St) (p1 : Int32) (K : Int32 → St → Prop) (h : wp_Con_has S p1 K) (sz : Nat) : Met l y_Con_has (Cond.code y_Con_has b_Con_has 1 (some .boolean) :: gw) rm_Con_has (va_Pc [.int p1] (PK D clK (tysK cI cB) (wsK h0 a cI cB S) sz)) (va_Qi K (fun u t => QK D clK (tysK cI cB) (va_A (wsK h0 a cI cB S) sz) (wsK h0 a cI cB u) t) (va_A (wsK h0 a cI cB S) sz)) 0 0 (va_A (wsK h0 a cI cB S) sz) := by
  refine met_of (rm := rm_Con_has) (pr := pr_Con_has) (Qc := fun A => va_Qi K (fun u t => QK D clK (tysK cI cB) A (wsK h0 a cI cB u) t) A) (by decide +kernel) dm_Con_has (Nat.le_of_ble_eq_true rfl) (fun p e s m args below meth c A C => ?_) sz
  unfold wp_Con_has at h
  show J p l e rm_Con_has s m args below meth c 1 D clK A 0 0 _ (wsK h0 a cI cB S) [(0, .int p1)] 0 []
  refine j_iload_n C 0 1 rfl rfl rfl 0 rfl ?_
  refine j_lookup C 1 rfl (by decide) [(768, 76), (772, 76), (773, 76), (832, 76), (833, 76), (834, 76), (835, 76), (836, 76)] 78 (by decide +kernel) (by decide) (swP_c (fun c1_0 => ?_) (fun nc1_0 => swP_c (fun c1_1 => ?_) (fun nc1_1 => swP_c (fun c1_2 => ?_) (fun nc1_2 => swP_c (fun c1_3 => ?_) (fun nc1_3 => swP_c (fun c1_4 => ?_) (fun nc1_4 => swP_c (fun c1_5 => ?_) (fun nc1_5 => swP_c (fun c1_6 => ?_) (fun nc1_6 => swP_c (fun c1_7 => ?_) (fun nc1_7 => swP_n ?_)))))))))
  · replace h := ite_t h c1_0
    refine j_iconst C 2 77 rfl rfl kI_1 ?_
    exact j_zret C 3 rfl isB_1 h
  · replace h := ite_t (ite_f h nc1_0) c1_1
    refine j_iconst C 2 77 rfl rfl kI_1 ?_
    exact j_zret C 3 rfl isB_1 h
  · replace h := ite_t (ite_f (ite_f h nc1_0) nc1_1) c1_2
    refine j_iconst C 2 77 rfl rfl kI_1 ?_
    exact j_zret C 3 rfl isB_1 h
  · replace h := ite_t (ite_f (ite_f (ite_f h nc1_0) nc1_1) nc1_2) c1_3
    refine j_iconst C 2 77 rfl rfl kI_1 ?_
    exact j_zret C 3 rfl isB_1 h
  · replace h := ite_t (ite_f (ite_f (ite_f (ite_f h nc1_0) nc1_1) nc1_2) nc1_3) c1_4
    refine j_iconst C 2 77 rfl rfl kI_1 ?_
    exact j_zret C 3 rfl isB_1 h
  · replace h := ite_t (ite_f (ite_f (ite_f (ite_f (ite_f h nc1_0) nc1_1) nc1_2) nc1_3) nc1_4) c1_5
    refine j_iconst C 2 77 rfl rfl kI_1 ?_
    exact j_zret C 3 rfl isB_1 h
  · replace h := ite_t (ite_f (ite_f (ite_f (ite_f (ite_f (ite_f h nc1_0) nc1_1) nc1_2) nc1_3) nc1_4) nc1_5) c1_6
    refine j_iconst C 2 77 rfl rfl kI_1 ?_
    exact j_zret C 3 rfl isB_1 h
  · replace h := ite_t (ite_f (ite_f (ite_f (ite_f (ite_f (ite_f (ite_f h nc1_0) nc1_1) nc1_2) nc1_3) nc1_4) nc1_5) nc1_6) c1_7
    refine j_iconst C 2 77 rfl rfl kI_1 ?_
    exact j_zret C 3 rfl isB_1 h
  · replace h := (ite_f (ite_f (ite_f (ite_f (ite_f (ite_f (ite_f (ite_f h nc1_0) nc1_1) nc1_2) nc1_3) nc1_4) nc1_5) nc1_6) nc1_7)
    refine j_iconst C 4 79 rfl rfl kI_0 ?_
    exact j_zret C 5 rfl isB_0 h
abbrev rm_Con_read : Room := { frames := 0, cells := 0, slots := 0, locals := 0 }
def wp_Con_read (S : St) (p1 : Int32) (K : Int32 → St → Prop) : Prop := (if p1 = 768 then (K (S 3 0) S) else (if p1 = 772 then (K (S 3 1) S) else (if p1 = 773 then (K (S 3 2) S) else (if p1 = 832 then (K (S 3 3) S) else (if p1 = 833 then (K (S 3 4) S) else (if p1 = 834 then (K (S 3 5) S) else (if p1 = 835 then (K (S 3 6) S) else (if p1 = 836 then (K (S 3 7) S) else (K 0 S)))))))))
set_option maxHeartbeats 4000000 in
set_option maxRecDepth 100000 in
theorem c_Con_read (l : Launch) (D : va_G) (h0 : Nat) (a : Nat → Nat) (cI cB : ClassId) (S : St) (p1 : Int32) (K : Int32 → St → Prop) (h : wp_Con_read S p1 K) (sz : Nat) : Met l y_Con_read (Cond.code y_Con_read b_Con_read 2 (some .int) :: gw) rm_Con_read (va_Pc [.ref (a 3), .int p1] (PK D clK (tysK cI cB) (wsK h0 a cI cB S) sz)) (va_Qi K (fun u t => QK D clK (tysK cI cB) (va_A (wsK h0 a cI cB S) sz) (wsK h0 a cI cB u) t) (va_A (wsK h0 a cI cB S) sz)) 0 0 (va_A (wsK h0 a cI cB S) sz) := by
  refine met_of (rm := rm_Con_read) (pr := pr_Con_read) (Qc := fun A => va_Qi K (fun u t => QK D clK (tysK cI cB) A (wsK h0 a cI cB u) t) A) (by decide +kernel) dm_Con_read (Nat.le_of_ble_eq_true rfl) (fun p e s m args below meth c A C => ?_) sz
  unfold wp_Con_read at h
  show J p l e rm_Con_read s m args below meth c 2 D clK A 0 0 _ (wsK h0 a cI cB S) [(0, .ref (a 3)), (1, .int p1)] 0 []
  refine j_iload_n C 0 1 rfl rfl rfl 1 rfl ?_
  refine j_lookup C 1 rfl (by decide) [(768, 76), (772, 81), (773, 86), (832, 91), (833, 96), (834, 101), (835, 106), (836, 111)] 116 (by decide +kernel) (by decide) (swP_c (fun c1_0 => ?_) (fun nc1_0 => swP_c (fun c1_1 => ?_) (fun nc1_1 => swP_c (fun c1_2 => ?_) (fun nc1_2 => swP_c (fun c1_3 => ?_) (fun nc1_3 => swP_c (fun c1_4 => ?_) (fun nc1_4 => swP_c (fun c1_5 => ?_) (fun nc1_5 => swP_c (fun c1_6 => ?_) (fun nc1_6 => swP_c (fun c1_7 => ?_) (fun nc1_7 => swP_n ?_)))))))))
  · replace h := ite_t h c1_0
    refine j_aload_n C 2 77 rfl rfl rfl 0 rfl ?_
    refine j_get C 3 80 rfl rfl fg_Con_7 3 rfl rfl ?_
    exact j_iret C 4 rfl h
  · replace h := ite_t (ite_f h nc1_0) c1_1
    refine j_aload_n C 5 82 rfl rfl rfl 0 rfl ?_
    refine j_get C 6 85 rfl rfl fg_Con_13 3 rfl rfl ?_
    exact j_iret C 7 rfl h
  · replace h := ite_t (ite_f (ite_f h nc1_0) nc1_1) c1_2
    refine j_aload_n C 8 87 rfl rfl rfl 0 rfl ?_
    refine j_get C 9 90 rfl rfl fg_Con_16 3 rfl rfl ?_
    exact j_iret C 10 rfl h
  · replace h := ite_t (ite_f (ite_f (ite_f h nc1_0) nc1_1) nc1_2) c1_3
    refine j_aload_n C 11 92 rfl rfl rfl 0 rfl ?_
    refine j_get C 12 95 rfl rfl fg_Con_19 3 rfl rfl ?_
    exact j_iret C 13 rfl h
  · replace h := ite_t (ite_f (ite_f (ite_f (ite_f h nc1_0) nc1_1) nc1_2) nc1_3) c1_4
    refine j_aload_n C 14 97 rfl rfl rfl 0 rfl ?_
    refine j_get C 15 100 rfl rfl fg_Con_22 3 rfl rfl ?_
    exact j_iret C 16 rfl h
  · replace h := ite_t (ite_f (ite_f (ite_f (ite_f (ite_f h nc1_0) nc1_1) nc1_2) nc1_3) nc1_4) c1_5
    refine j_aload_n C 17 102 rfl rfl rfl 0 rfl ?_
    refine j_get C 18 105 rfl rfl fg_Con_25 3 rfl rfl ?_
    exact j_iret C 19 rfl h
  · replace h := ite_t (ite_f (ite_f (ite_f (ite_f (ite_f (ite_f h nc1_0) nc1_1) nc1_2) nc1_3) nc1_4) nc1_5) c1_6
    refine j_aload_n C 20 107 rfl rfl rfl 0 rfl ?_
    refine j_get C 21 110 rfl rfl fg_Con_28 3 rfl rfl ?_
    exact j_iret C 22 rfl h
  · replace h := ite_t (ite_f (ite_f (ite_f (ite_f (ite_f (ite_f (ite_f h nc1_0) nc1_1) nc1_2) nc1_3) nc1_4) nc1_5) nc1_6) c1_7
    refine j_aload_n C 23 112 rfl rfl rfl 0 rfl ?_
    refine j_get C 24 115 rfl rfl fg_Con_31 3 rfl rfl ?_
    exact j_iret C 25 rfl h
  · replace h := (ite_f (ite_f (ite_f (ite_f (ite_f (ite_f (ite_f (ite_f h nc1_0) nc1_1) nc1_2) nc1_3) nc1_4) nc1_5) nc1_6) nc1_7)
    refine j_iconst C 26 117 rfl rfl kI_0 ?_
    exact j_iret C 27 rfl h
abbrev rm_Con_write : Room := { frames := 0, cells := 0, slots := 0, locals := 0 }
def wp_Con_write_135 (K : St → Prop) (S : St)  : Prop := K S
set_option maxHeartbeats 4000000 in
set_option maxRecDepth 100000 in
theorem L_Con_write_135 {p : Program} {l : Launch} {e : Env} {s : State} {m : MethodId} {args : Array Value} {below : List Frame} {meth : Method} {c : Code} {A : Nat → Prop} {D : va_G} {h0 : Nat} {a : Nat → Nat} {cI cB : ClassId} {K : St → Prop} (C : CX p rm_Con_write s m args meth c b_Con_write 3 "PipelinedCore$Controls" none pr_Con_write D clK (tysK cI cB) A) (S : St)  (h : wp_Con_write_135 K S) : J p l e rm_Con_write s m args below meth c 3 D clK A 0 0 (MQ below (va_Qv K (fun u t => QK D clK (tysK cI cB) A (wsK h0 a cI cB u) t) A) args s 0 0 A) (wsK h0 a cI cB S) [] 135 [] := by
  unfold wp_Con_write_135 at h
  exact j_vret C 36 rfl h
def wp_Con_write (S : St) (p1 : Int32) (p2 : Int32) (K : St → Prop) : Prop := (if p1 = 768 then (∀ S2 : St, S2 = st S 3 0 (p2 &&& (136 : Int32)) → ((wp_Con_write_135 K S2))) else (if p1 = 772 then (∀ S3 : St, S3 = st S 3 1 (p2 &&& (2184 : Int32)) → ((wp_Con_write_135 K S3))) else (if p1 = 773 then (∀ S4 : St, S4 = st S 3 2 p2 → ((wp_Con_write_135 K S4))) else (if p1 = 832 then (∀ S5 : St, S5 = st S 3 3 p2 → ((wp_Con_write_135 K S5))) else (if p1 = 833 then (∀ S6 : St, S6 = st S 3 4 (p2 &&& (-4 : Int32)) → ((wp_Con_write_135 K S6))) else (if p1 = 834 then (∀ S7 : St, S7 = st S 3 5 p2 → ((wp_Con_write_135 K S7))) else (if p1 = 835 then (∀ S8 : St, S8 = st S 3 6 p2 → ((wp_Con_write_135 K S8))) else ((wp_Con_write_135 K S)))))))))
set_option maxHeartbeats 4000000 in
set_option maxRecDepth 100000 in
theorem c_Con_write (l : Launch) (D : va_G) (h0 : Nat) (a : Nat → Nat) (cI cB : ClassId) (S : St) (p1 : Int32) (p2 : Int32) (K : St → Prop) (h : wp_Con_write S p1 p2 K) (sz : Nat) : Met l y_Con_write (Cond.code y_Con_write b_Con_write 3 none :: gw) rm_Con_write (va_Pc [.ref (a 3), .int p1, .int p2] (PK D clK (tysK cI cB) (wsK h0 a cI cB S) sz)) (va_Qv K (fun u t => QK D clK (tysK cI cB) (va_A (wsK h0 a cI cB S) sz) (wsK h0 a cI cB u) t) (va_A (wsK h0 a cI cB S) sz)) 0 0 (va_A (wsK h0 a cI cB S) sz) := by
  refine met_of (rm := rm_Con_write) (pr := pr_Con_write) (Qc := fun A => va_Qv K (fun u t => QK D clK (tysK cI cB) A (wsK h0 a cI cB u) t) A) (by decide +kernel) dm_Con_write (Nat.le_of_ble_eq_true rfl) (fun p e s m args below meth c A C => ?_) sz
  unfold wp_Con_write at h
  show J p l e rm_Con_write s m args below meth c 3 D clK A 0 0 _ (wsK h0 a cI cB S) [(0, .ref (a 3)), (1, .int p1), (2, .int p2)] 0 []
  refine j_iload_n C 0 1 rfl rfl rfl 1 rfl ?_
  refine j_lookup C 1 rfl (by decide) [(768, 68), (772, 80), (773, 92), (832, 100), (833, 108), (834, 119), (835, 127)] 135 (by decide +kernel) (by decide) (swP_c (fun c1_0 => ?_) (fun nc1_0 => swP_c (fun c1_1 => ?_) (fun nc1_1 => swP_c (fun c1_2 => ?_) (fun nc1_2 => swP_c (fun c1_3 => ?_) (fun nc1_3 => swP_c (fun c1_4 => ?_) (fun nc1_4 => swP_c (fun c1_5 => ?_) (fun nc1_5 => swP_c (fun c1_6 => ?_) (fun nc1_6 => swP_n ?_))))))))
  · replace h := ite_t h c1_0
    refine j_aload_n C 2 69 rfl rfl rfl 0 rfl ?_
    refine j_iload_n C 3 70 rfl rfl rfl 2 rfl ?_
    refine j_sipush C 4 73 rfl rfl kS_136 ?_
    refine j_iand C 5 74 rfl rfl ?_
    refine j_put C 6 77 rfl rfl fp_Con_7 3 rfl (Nat.le_of_ble_eq_true rfl) rfl rfl (st S 3 0 (p2 &&& (136 : Int32))) (sK_3_0 _ _ _ _ _ _) (fun S2 eS2 => ?_)
    replace h := h S2 eS2
    refine j_goto C 7 135 rfl (by decide) ?_
    refine j_sub [] rfl ?_
    exact L_Con_write_135 C S2 h
  · replace h := ite_t (ite_f h nc1_0) c1_1
    refine j_aload_n C 8 81 rfl rfl rfl 0 rfl ?_
    refine j_iload_n C 9 82 rfl rfl rfl 2 rfl ?_
    refine j_sipush C 10 85 rfl rfl kS_2184 ?_
    refine j_iand C 11 86 rfl rfl ?_
    refine j_put C 12 89 rfl rfl fp_Con_13 3 rfl (Nat.le_of_ble_eq_true rfl) rfl rfl (st S 3 1 (p2 &&& (2184 : Int32))) (sK_3_1 _ _ _ _ _ _) (fun S3 eS3 => ?_)
    replace h := h S3 eS3
    refine j_goto C 13 135 rfl (by decide) ?_
    refine j_sub [] rfl ?_
    exact L_Con_write_135 C S3 h
  · replace h := ite_t (ite_f (ite_f h nc1_0) nc1_1) c1_2
    refine j_aload_n C 14 93 rfl rfl rfl 0 rfl ?_
    refine j_iload_n C 15 94 rfl rfl rfl 2 rfl ?_
    refine j_put C 16 97 rfl rfl fp_Con_16 3 rfl (Nat.le_of_ble_eq_true rfl) rfl rfl (st S 3 2 p2) (sK_3_2 _ _ _ _ _ _) (fun S4 eS4 => ?_)
    replace h := h S4 eS4
    refine j_goto C 17 135 rfl (by decide) ?_
    refine j_sub [] rfl ?_
    exact L_Con_write_135 C S4 h
  · replace h := ite_t (ite_f (ite_f (ite_f h nc1_0) nc1_1) nc1_2) c1_3
    refine j_aload_n C 18 101 rfl rfl rfl 0 rfl ?_
    refine j_iload_n C 19 102 rfl rfl rfl 2 rfl ?_
    refine j_put C 20 105 rfl rfl fp_Con_19 3 rfl (Nat.le_of_ble_eq_true rfl) rfl rfl (st S 3 3 p2) (sK_3_3 _ _ _ _ _ _) (fun S5 eS5 => ?_)
    replace h := h S5 eS5
    refine j_goto C 21 135 rfl (by decide) ?_
    refine j_sub [] rfl ?_
    exact L_Con_write_135 C S5 h
  · replace h := ite_t (ite_f (ite_f (ite_f (ite_f h nc1_0) nc1_1) nc1_2) nc1_3) c1_4
    refine j_aload_n C 22 109 rfl rfl rfl 0 rfl ?_
    refine j_iload_n C 23 110 rfl rfl rfl 2 rfl ?_
    refine j_bipush C 24 112 rfl rfl kB_m4 ?_
    refine j_iand C 25 113 rfl rfl ?_
    refine j_put C 26 116 rfl rfl fp_Con_22 3 rfl (Nat.le_of_ble_eq_true rfl) rfl rfl (st S 3 4 (p2 &&& (-4 : Int32))) (sK_3_4 _ _ _ _ _ _) (fun S6 eS6 => ?_)
    replace h := h S6 eS6
    refine j_goto C 27 135 rfl (by decide) ?_
    refine j_sub [] rfl ?_
    exact L_Con_write_135 C S6 h
  · replace h := ite_t (ite_f (ite_f (ite_f (ite_f (ite_f h nc1_0) nc1_1) nc1_2) nc1_3) nc1_4) c1_5
    refine j_aload_n C 28 120 rfl rfl rfl 0 rfl ?_
    refine j_iload_n C 29 121 rfl rfl rfl 2 rfl ?_
    refine j_put C 30 124 rfl rfl fp_Con_25 3 rfl (Nat.le_of_ble_eq_true rfl) rfl rfl (st S 3 5 p2) (sK_3_5 _ _ _ _ _ _) (fun S7 eS7 => ?_)
    replace h := h S7 eS7
    refine j_goto C 31 135 rfl (by decide) ?_
    refine j_sub [] rfl ?_
    exact L_Con_write_135 C S7 h
  · replace h := ite_t (ite_f (ite_f (ite_f (ite_f (ite_f (ite_f h nc1_0) nc1_1) nc1_2) nc1_3) nc1_4) nc1_5) c1_6
    refine j_aload_n C 32 128 rfl rfl rfl 0 rfl ?_
    refine j_iload_n C 33 129 rfl rfl rfl 2 rfl ?_
    refine j_put C 34 132 rfl rfl fp_Con_28 3 rfl (Nat.le_of_ble_eq_true rfl) rfl rfl (st S 3 6 p2) (sK_3_6 _ _ _ _ _ _) (fun S8 eS8 => ?_)
    replace h := h S8 eS8
    refine j_goto C 35 135 rfl (by decide) ?_
    refine j_sub [] rfl ?_
    exact L_Con_write_135 C S8 h
  · replace h := (ite_f (ite_f (ite_f (ite_f (ite_f (ite_f (ite_f h nc1_0) nc1_1) nc1_2) nc1_3) nc1_4) nc1_5) nc1_6)
    refine j_sub [] rfl ?_
    exact L_Con_write_135 C S h
abbrev rm_Exe_useControl : Room := { frames := 2, cells := 0, slots := 0, locals := 43 }
def wp_Exe_useControl_25 (K : St → Prop) (S : St)  : Prop := wp_Exe_refuse S (fun S9 => (K S9))
set_option maxHeartbeats 4000000 in
set_option maxRecDepth 100000 in
theorem L_Exe_useControl_25 {p : Program} {l : Launch} {e : Env} {s : State} {m : MethodId} {args : Array Value} {below : List Frame} {meth : Method} {c : Code} {A : Nat → Prop} {D : va_G} {h0 : Nat} {a : Nat → Nat} {cI cB : ClassId} {K : St → Prop} (C : CX p rm_Exe_useControl s m args meth c b_Exe_useControl 7 "PipelinedCore$Execution" none pr_Exe_useControl D clK (tysK cI cB) A) (S : St)  (h : wp_Exe_useControl_25 K S) : J p l e rm_Exe_useControl s m args below meth c 7 D clK A 0 0 (MQ below (va_Qv K (fun u t => QK D clK (tysK cI cB) A (wsK h0 a cI cB u) t) A) args s 0 0 A) (wsK h0 a cI cB S) [(0, .ref (a 17)), (3, .ref (a 18))] 25 [] := by
  unfold wp_Exe_useControl_25 at h
  refine j_aload_n C 12 26 rfl rfl rfl 0 rfl ?_
  refine j_aload_n C 13 27 rfl rfl rfl 1 rfl ?_
  refine j_callSv C 14 30 rfl rfl w462 m_Exe_refuse (As := [.ref (a 17), .ref (a 18)]) (c_Exe_refuse l D h0 a cI cB S _ h) ⟨rfl, rfl⟩ ⟨Nat.le_of_ble_eq_true rfl, Nat.le_of_ble_eq_true rfl⟩ rfl ⟨Nat.le_of_ble_eq_true rfl, Nat.le_of_ble_eq_true rfl⟩ (Nat.le_of_ble_eq_true rfl) rfl (fun S9 h => ?_)
  exact j_vret C 15 rfl h
def wp_Exe_useControl_138 (K : St → Prop) (S : St)  : Prop := K S
set_option maxHeartbeats 4000000 in
set_option maxRecDepth 100000 in
theorem L_Exe_useControl_138 {p : Program} {l : Launch} {e : Env} {s : State} {m : MethodId} {args : Array Value} {below : List Frame} {meth : Method} {c : Code} {A : Nat → Prop} {D : va_G} {h0 : Nat} {a : Nat → Nat} {cI cB : ClassId} {K : St → Prop} (C : CX p rm_Exe_useControl s m args meth c b_Exe_useControl 7 "PipelinedCore$Execution" none pr_Exe_useControl D clK (tysK cI cB) A) (S : St)  (h : wp_Exe_useControl_138 K S) : J p l e rm_Exe_useControl s m args below meth c 7 D clK A 0 0 (MQ below (va_Qv K (fun u t => QK D clK (tysK cI cB) A (wsK h0 a cI cB u) t) A) args s 0 0 A) (wsK h0 a cI cB S) [] 138 [] := by
  unfold wp_Exe_useControl_138 at h
  exact j_vret C 59 rfl h
def wp_Exe_useControl_55 (K : St → Prop) (S : St) (v4 : Int32) (v5 : Int32) (k0 : Int32) : Prop := wp_Eff_setRegister S (S 15 4) v5 (fun S11 => ((if ((S11 15 5) &&& (3 : Int32)) = 1 then (wp_Con_write S11 v4 k0 (fun S14 => ((wp_Exe_useControl_138 K S14)))) else (if ((S11 15 5) &&& (3 : Int32)) = 2 then (wp_Con_write S11 v4 (v5 ||| k0) (fun S16 => ((wp_Exe_useControl_138 K S16)))) else (wp_Con_write S11 v4 (v5 &&& (k0 ^^^ (-1 : Int32))) (fun S18 => ((wp_Exe_useControl_138 K S18))))))))
set_option maxHeartbeats 4000000 in
set_option maxRecDepth 100000 in
theorem L_Exe_useControl_55 {p : Program} {l : Launch} {e : Env} {s : State} {m : MethodId} {args : Array Value} {below : List Frame} {meth : Method} {c : Code} {A : Nat → Prop} {D : va_G} {h0 : Nat} {a : Nat → Nat} {cI cB : ClassId} {K : St → Prop} (C : CX p rm_Exe_useControl s m args meth c b_Exe_useControl 7 "PipelinedCore$Execution" none pr_Exe_useControl D clK (tysK cI cB) A) (S : St) (v4 : Int32) (v5 : Int32) (k0 : Int32) (h : wp_Exe_useControl_55 K S v4 v5 k0) : J p l e rm_Exe_useControl s m args below meth c 7 D clK A 0 0 (MQ below (va_Qv K (fun u t => QK D clK (tysK cI cB) A (wsK h0 a cI cB u) t) A) args s 0 0 A) (wsK h0 a cI cB S) [(0, .ref (a 17)), (2, .ref (a 3)), (3, .ref (a 18)), (4, .int v4), (5, .int v5)] 55 [.int k0] := by
  unfold wp_Exe_useControl_55 at h
  refine j_istore C 28 57 [(6, .int k0), (0, .ref (a 17)), (2, .ref (a 3)), (3, .ref (a 18)), (4, .int v4), (5, .int v5)] rfl rfl (by decide) rfl ?_
  refine j_aload_n C 29 58 rfl rfl rfl 3 rfl ?_
  refine j_aload_n C 30 59 rfl rfl rfl 1 rfl ?_
  refine j_get C 31 62 rfl rfl fg_Exe_13 17 rfl rfl ?_
  refine j_iload C 32 64 rfl rfl 5 rfl ?_
  refine j_callVv C 33 67 rfl rfl w438 m_Eff_setRegister (As := [.int (S 15 4), .int v5]) (c_Eff_setRegister l D h0 a cI cB S (S 15 4) v5 _ h) ⟨rfl, rfl⟩ ⟨Nat.le_of_ble_eq_true rfl, Nat.le_of_ble_eq_true rfl⟩ 18 rfl rfl rfl ⟨Nat.le_of_ble_eq_true rfl, Nat.le_of_ble_eq_true rfl⟩ (Nat.le_of_ble_eq_true rfl) rfl (fun S11 h => ?_)
  refine j_aload_n C 34 68 rfl rfl rfl 1 rfl ?_
  refine j_get C 35 71 rfl rfl fg_Exe_38 17 rfl rfl ?_
  refine j_iconst C 36 72 rfl rfl kI_3 ?_
  refine j_iand C 37 73 rfl rfl ?_
  refine j_lookup C 38 rfl (by decide) [(1, 100), (2, 111)] 125 (by decide +kernel) (by decide) (swP_c (fun c13_0 => ?_) (fun nc13_0 => swP_c (fun c13_1 => ?_) (fun nc13_1 => swP_n ?_)))
  · replace h := ite_t h c13_0
    refine j_aload_n C 39 101 rfl rfl rfl 2 rfl ?_
    refine j_iload C 40 103 rfl rfl 4 rfl ?_
    refine j_iload C 41 105 rfl rfl 0 rfl ?_
    refine j_callVv C 42 108 rfl rfl w527 m_Con_write (As := [.int v4, .int k0]) (c_Con_write l D h0 a cI cB S11 v4 k0 _ h) ⟨rfl, rfl⟩ ⟨Nat.le_of_ble_eq_true rfl, Nat.le_of_ble_eq_true rfl⟩ 3 rfl rfl rfl ⟨Nat.le_of_ble_eq_true rfl, Nat.le_of_ble_eq_true rfl⟩ (Nat.le_of_ble_eq_true rfl) rfl (fun S14 h => ?_)
    refine j_goto C 43 138 rfl (by decide) ?_
    refine j_sub [] rfl ?_
    exact L_Exe_useControl_138 C S14 h
  · replace h := ite_t (ite_f h nc13_0) c13_1
    refine j_aload_n C 44 112 rfl rfl rfl 2 rfl ?_
    refine j_iload C 45 114 rfl rfl 4 rfl ?_
    refine j_iload C 46 116 rfl rfl 5 rfl ?_
    refine j_iload C 47 118 rfl rfl 0 rfl ?_
    refine j_ior C 48 119 rfl rfl ?_
    refine j_callVv C 49 122 rfl rfl w527 m_Con_write (As := [.int v4, .int (v5 ||| k0)]) (c_Con_write l D h0 a cI cB S11 v4 (v5 ||| k0) _ h) ⟨rfl, rfl⟩ ⟨Nat.le_of_ble_eq_true rfl, Nat.le_of_ble_eq_true rfl⟩ 3 rfl rfl rfl ⟨Nat.le_of_ble_eq_true rfl, Nat.le_of_ble_eq_true rfl⟩ (Nat.le_of_ble_eq_true rfl) rfl (fun S16 h => ?_)
    refine j_goto C 50 138 rfl (by decide) ?_
    refine j_sub [] rfl ?_
    exact L_Exe_useControl_138 C S16 h
  · replace h := (ite_f (ite_f h nc13_0) nc13_1)
    refine j_aload_n C 51 126 rfl rfl rfl 2 rfl ?_
    refine j_iload C 52 128 rfl rfl 4 rfl ?_
    refine j_iload C 53 130 rfl rfl 5 rfl ?_
    refine j_iload C 54 132 rfl rfl 0 rfl ?_
    refine j_iconst C 55 133 rfl rfl kI_m1 ?_
    refine j_ixor C 56 134 rfl rfl ?_
    refine j_iand C 57 135 rfl rfl ?_
    refine j_callVv C 58 138 rfl rfl w527 m_Con_write (As := [.int v4, .int (v5 &&& (k0 ^^^ (-1 : Int32)))]) (c_Con_write l D h0 a cI cB S11 v4 (v5 &&& (k0 ^^^ (-1 : Int32))) _ h) ⟨rfl, rfl⟩ ⟨Nat.le_of_ble_eq_true rfl, Nat.le_of_ble_eq_true rfl⟩ 3 rfl rfl rfl ⟨Nat.le_of_ble_eq_true rfl, Nat.le_of_ble_eq_true rfl⟩ (Nat.le_of_ble_eq_true rfl) rfl (fun S18 h => ?_)
    refine j_sub [] rfl ?_
    exact L_Exe_useControl_138 C S18 h
def wp_Exe_useControl (S : St) (p1 : Int32) (K : St → Prop) : Prop := ∀ x1 : Int32, x1 = jushr (S 15 2) (20 : Int32) → ((if (S 15 5) = 4 then ((wp_Exe_useControl_25 K S)) else (wp_Con_has S x1 (fun r4 S3 => ((if r4 = 0 then ((wp_Exe_useControl_25 K S3)) else (wp_Con_read S3 x1 (fun r7 S6 => ((if (4 : Int32) ≤ (S6 15 5) then ((wp_Exe_useControl_55 K S6 x1 r7 (S6 15 6))) else ((wp_Exe_useControl_55 K S6 x1 r7 p1))))))))))))
set_option maxHeartbeats 4000000 in
set_option maxRecDepth 100000 in
theorem c_Exe_useControl (l : Launch) (D : va_G) (h0 : Nat) (a : Nat → Nat) (cI cB : ClassId) (S : St) (p1 : Int32) (K : St → Prop) (h : wp_Exe_useControl S p1 K) (sz : Nat) : Met l y_Exe_useControl (Cond.code y_Exe_useControl b_Exe_useControl 7 none :: gw) rm_Exe_useControl (va_Pc [.ref (a 17), .int p1, .ref (a 3), .ref (a 18)] (PK D clK (tysK cI cB) (wsK h0 a cI cB S) sz)) (va_Qv K (fun u t => QK D clK (tysK cI cB) (va_A (wsK h0 a cI cB S) sz) (wsK h0 a cI cB u) t) (va_A (wsK h0 a cI cB S) sz)) 0 0 (va_A (wsK h0 a cI cB S) sz) := by
  refine met_of (rm := rm_Exe_useControl) (pr := pr_Exe_useControl) (Qc := fun A => va_Qv K (fun u t => QK D clK (tysK cI cB) A (wsK h0 a cI cB u) t) A) (by decide +kernel) dm_Exe_useControl (Nat.le_of_ble_eq_true rfl) (fun p e s m args below meth c A C => ?_) sz
  unfold wp_Exe_useControl at h
  show J p l e rm_Exe_useControl s m args below meth c 7 D clK A 0 0 _ (wsK h0 a cI cB S) [(0, .ref (a 17)), (1, .int p1), (2, .ref (a 3)), (3, .ref (a 18))] 0 []
  refine j_aload_n C 0 1 rfl rfl rfl 0 rfl ?_
  refine j_get C 1 4 rfl rfl fg_Exe_75 17 rfl rfl ?_
  refine j_bipush C 2 6 rfl rfl kB_20 ?_
  refine j_iushr C 3 7 rfl rfl ?_
  refine j_topi (fun x1 ex1 => ?_)
  replace h := h x1 ex1
  refine j_istore C 4 9 [(4, .int x1), (0, .ref (a 17)), (1, .int p1), (2, .ref (a 3)), (3, .ref (a 18))] rfl rfl (by decide) rfl ?_
  refine j_aload_n C 5 10 rfl rfl rfl 1 rfl ?_
  refine j_get C 6 13 rfl rfl fg_Exe_38 17 rfl rfl ?_
  refine j_iconst C 7 14 rfl rfl kI_4 ?_
  refine j_icmp_eq C 8 25 17 rfl (by decide) rfl (fun c2 => ?_) (fun c2 => ?_)
  · replace h := ite_t h c2
    refine j_sub [1, 4] rfl ?_
    exact L_Exe_useControl_25 C S h
  · replace h := ite_f h c2
    refine j_iload C 9 19 rfl rfl 0 rfl ?_
    refine j_callSi C 10 22 rfl rfl w520 m_Con_has (As := [.int x1]) (c_Con_has l D h0 a cI cB S x1 _ h) ⟨rfl, rfl⟩ ⟨Nat.le_of_ble_eq_true rfl, Nat.le_of_ble_eq_true rfl⟩ rfl ⟨Nat.le_of_ble_eq_true rfl, Nat.le_of_ble_eq_true rfl⟩ (Nat.le_of_ble_eq_true rfl) rfl (fun r4 S3 h => ?_)
    refine j_if_ne C 11 31 25 rfl (by decide) rfl (fun c5 => ?_) (fun c5 => ?_)
    · replace h := ite_f h c5
      refine j_aload_n C 16 32 rfl rfl rfl 3 rfl ?_
      refine j_iload C 17 34 rfl rfl 0 rfl ?_
      refine j_callVi C 18 37 rfl rfl w523 m_Con_read (As := [.int x1]) (c_Con_read l D h0 a cI cB S3 x1 _ h) ⟨rfl, rfl⟩ ⟨Nat.le_of_ble_eq_true rfl, Nat.le_of_ble_eq_true rfl⟩ 3 rfl rfl rfl ⟨Nat.le_of_ble_eq_true rfl, Nat.le_of_ble_eq_true rfl⟩ (Nat.le_of_ble_eq_true rfl) rfl (fun r7 S6 h => ?_)
      refine j_istore C 19 39 [(5, .int r7), (4, .int x1), (0, .ref (a 17)), (1, .int p1), (2, .ref (a 3)), (3, .ref (a 18))] rfl rfl (by decide) rfl ?_
      refine j_aload_n C 20 40 rfl rfl rfl 2 rfl ?_
      refine j_get C 21 43 rfl rfl fg_Exe_38 17 rfl rfl ?_
      refine j_iconst C 22 44 rfl rfl kI_4 ?_
      refine j_icmp_ge C 23 51 47 rfl (by decide) rfl (fun c8 => ?_) (fun c8 => ?_)
      · replace h := ite_t h c8
        refine j_aload_n C 26 52 rfl rfl rfl 2 rfl ?_
        refine j_get C 27 55 rfl rfl fg_Exe_154 17 rfl rfl ?_
        refine j_sub [2, 4, 5, 1, 0] rfl ?_
        exact L_Exe_useControl_55 C S6 x1 r7 (S6 15 6) h
      · replace h := ite_f h c8
        refine j_iload_n C 24 48 rfl rfl rfl 3 rfl ?_
        refine j_goto C 25 55 rfl (by decide) ?_
        refine j_sub [2, 4, 5, 1, 0] rfl ?_
        exact L_Exe_useControl_55 C S6 x1 r7 p1 h
    · replace h := ite_t h c5
      refine j_sub [1, 4] rfl ?_
      exact L_Exe_useControl_25 C S3 h
abbrev rm_Exe_perform : Room := { frames := 3, cells := 0, slots := 0, locals := 69 }
def wp_Exe_perform_293 (K : St → Prop) (S : St)  : Prop := K S
set_option maxHeartbeats 4000000 in
set_option maxRecDepth 100000 in
theorem L_Exe_perform_293 {p : Program} {l : Launch} {e : Env} {s : State} {m : MethodId} {args : Array Value} {below : List Frame} {meth : Method} {c : Code} {A : Nat → Prop} {D : va_G} {h0 : Nat} {a : Nat → Nat} {cI cB : ClassId} {K : St → Prop} (C : CX p rm_Exe_perform s m args meth c b_Exe_perform 5 "PipelinedCore$Execution" none pr_Exe_perform D clK (tysK cI cB) A) (S : St)  (h : wp_Exe_perform_293 K S) : J p l e rm_Exe_perform s m args below meth c 5 D clK A 0 0 (MQ below (va_Qv K (fun u t => QK D clK (tysK cI cB) A (wsK h0 a cI cB u) t) A) args s 0 0 A) (wsK h0 a cI cB S) [] 293 [] := by
  unfold wp_Exe_perform_293 at h
  exact j_vret C 98 rfl h
def wp_Exe_perform (S : St) (p1 : Int32) (p2 : Int32) (K : St → Prop) : Prop := (if (S 15 3) = 3 then (wp_Ins_numberI S (fun r3 S2 => (wp_Exe_read S2 (p1 + r3) (fun S4 => ((wp_Exe_perform_293 K S4)))))) else (if (S 15 3) = 15 then ((wp_Exe_perform_293 K S)) else (if (S 15 3) = 19 then (wp_Exe_computeWithNumber S p1 (fun S6 => ((wp_Exe_perform_293 K S6)))) else (if (S 15 3) = 23 then (wp_Ins_numberU S (fun r9 S8 => (wp_Eff_setRegister S8 (S 15 4) ((S 15 0) + r9) (fun S10 => ((wp_Exe_perform_293 K S10)))))) else (if (S 15 3) = 35 then (wp_Ins_numberS S (fun r13 S12 => (wp_Exe_write S12 (p1 + r13) p2 (fun S14 => ((wp_Exe_perform_293 K S14)))))) else (if (S 15 3) = 51 then (wp_Exe_computeWithRegister S p1 p2 (fun S16 => ((wp_Exe_perform_293 K S16)))) else (if (S 15 3) = 55 then (wp_Ins_numberU S (fun r19 S18 => (wp_Eff_setRegister S18 (S 15 4) r19 (fun S20 => ((wp_Exe_perform_293 K S20)))))) else (if (S 15 3) = 99 then (wp_Exe_branch S p1 p2 (fun S22 => ((wp_Exe_perform_293 K S22)))) else (if (S 15 3) = 103 then ((if (S 15 5) = 0 then (wp_Ins_numberI S (fun r28 S27 => (wp_Exe_jump S27 ((p1 + r28) &&& (-2 : Int32)) (fun S29 => ((wp_Exe_perform_293 K S29)))))) else (wp_Exe_refuse S (fun S25 => ((wp_Exe_perform_293 K S25)))))) else (if (S 15 3) = 111 then (wp_Ins_numberJ S (fun r32 S31 => (wp_Exe_jump S31 ((S 15 0) + r32) (fun S33 => ((wp_Exe_perform_293 K S33)))))) else (if (S 15 3) = 115 then ((if (S 15 5) = 0 then (wp_Exe_doWholeWord S (fun S38 => ((wp_Exe_perform_293 K S38)))) else (wp_Exe_useControl S p1 (fun S36 => ((wp_Exe_perform_293 K S36)))))) else (wp_Exe_refuse S (fun S40 => ((wp_Exe_perform_293 K S40)))))))))))))))
set_option maxHeartbeats 4000000 in
set_option maxRecDepth 100000 in
theorem c_Exe_perform (l : Launch) (D : va_G) (h0 : Nat) (a : Nat → Nat) (cI cB : ClassId) (S : St) (p1 : Int32) (p2 : Int32) (K : St → Prop) (h : wp_Exe_perform S p1 p2 K) (sz : Nat) : Met l y_Exe_perform (Cond.code y_Exe_perform b_Exe_perform 5 none :: gw) rm_Exe_perform (va_Pc [.ref (a 17), .int p1, .int p2, .ref (a 3), .ref (a 18)] (PK D clK (tysK cI cB) (wsK h0 a cI cB S) sz)) (va_Qv K (fun u t => QK D clK (tysK cI cB) (va_A (wsK h0 a cI cB S) sz) (wsK h0 a cI cB u) t) (va_A (wsK h0 a cI cB S) sz)) 0 0 (va_A (wsK h0 a cI cB S) sz) := by
  refine met_of (rm := rm_Exe_perform) (pr := pr_Exe_perform) (Qc := fun A => va_Qv K (fun u t => QK D clK (tysK cI cB) A (wsK h0 a cI cB u) t) A) (by decide +kernel) dm_Exe_perform (Nat.le_of_ble_eq_true rfl) (fun p e s m args below meth c A C => ?_) sz
  unfold wp_Exe_perform at h
  show J p l e rm_Exe_perform s m args below meth c 5 D clK A 0 0 _ (wsK h0 a cI cB S) [(0, .ref (a 17)), (1, .int p1), (2, .int p2), (3, .ref (a 3)), (4, .ref (a 18))] 0 []
  refine j_aload_n C 0 1 rfl rfl rfl 0 rfl ?_
  refine j_get C 1 4 rfl rfl fg_Exe_7 17 rfl rfl ?_
  refine j_lookup C 2 rfl (by decide) [(3, 204), (15, 284), (19, 235), (23, 120), (35, 219), (51, 245), (55, 104), (99, 193), (103, 159), (111, 141), (115, 256)] 287 (by decide +kernel) (by decide) (swP_c (fun c1_0 => ?_) (fun nc1_0 => swP_c (fun c1_1 => ?_) (fun nc1_1 => swP_c (fun c1_2 => ?_) (fun nc1_2 => swP_c (fun c1_3 => ?_) (fun nc1_3 => swP_c (fun c1_4 => ?_) (fun nc1_4 => swP_c (fun c1_5 => ?_) (fun nc1_5 => swP_c (fun c1_6 => ?_) (fun nc1_6 => swP_c (fun c1_7 => ?_) (fun nc1_7 => swP_c (fun c1_8 => ?_) (fun nc1_8 => swP_c (fun c1_9 => ?_) (fun nc1_9 => swP_c (fun c1_10 => ?_) (fun nc1_10 => swP_n ?_))))))))))))
  · replace h := ite_t h c1_0
    refine j_aload_n C 52 205 rfl rfl rfl 0 rfl ?_
    refine j_iload_n C 53 206 rfl rfl rfl 1 rfl ?_
    refine j_aload_n C 54 207 rfl rfl rfl 0 rfl ?_
    refine j_callVi C 55 210 rfl rfl w458 m_Ins_numberI (As := []) (c_Ins_numberI l D h0 a cI cB S _ h) ⟨rfl, rfl⟩ ⟨Nat.le_of_ble_eq_true rfl, Nat.le_of_ble_eq_true rfl⟩ 17 rfl rfl rfl ⟨Nat.le_of_ble_eq_true rfl, Nat.le_of_ble_eq_true rfl⟩ (Nat.le_of_ble_eq_true rfl) rfl (fun r3 S2 h => ?_)
    refine j_iadd C 56 211 rfl rfl ?_
    refine j_aload C 57 213 rfl rfl 4 rfl ?_
    refine j_callSv C 58 216 rfl rfl w480 m_Exe_read (As := [.ref (a 17), .int (p1 + r3), .ref (a 18)]) (c_Exe_read l D h0 a cI cB S2 (p1 + r3) _ h) ⟨rfl, rfl⟩ ⟨Nat.le_of_ble_eq_true rfl, Nat.le_of_ble_eq_true rfl⟩ rfl ⟨Nat.le_of_ble_eq_true rfl, Nat.le_of_ble_eq_true rfl⟩ (Nat.le_of_ble_eq_true rfl) rfl (fun S4 h => ?_)
    refine j_goto C 59 293 rfl (by decide) ?_
    refine j_sub [] rfl ?_
    exact L_Exe_perform_293 C S4 h
  · replace h := ite_t (ite_f h nc1_0) c1_1
    refine j_goto C 94 293 rfl (by decide) ?_
    refine j_sub [] rfl ?_
    exact L_Exe_perform_293 C S h
  · replace h := ite_t (ite_f (ite_f h nc1_0) nc1_1) c1_2
    refine j_aload_n C 69 236 rfl rfl rfl 0 rfl ?_
    refine j_iload_n C 70 237 rfl rfl rfl 1 rfl ?_
    refine j_aload C 71 239 rfl rfl 4 rfl ?_
    refine j_callSv C 72 242 rfl rfl w494 m_Exe_computeWithNumber (As := [.ref (a 17), .int p1, .ref (a 18)]) (c_Exe_computeWithNumber l D h0 a cI cB S p1 _ h) ⟨rfl, rfl⟩ ⟨Nat.le_of_ble_eq_true rfl, Nat.le_of_ble_eq_true rfl⟩ rfl ⟨Nat.le_of_ble_eq_true rfl, Nat.le_of_ble_eq_true rfl⟩ (Nat.le_of_ble_eq_true rfl) rfl (fun S6 h => ?_)
    refine j_goto C 73 293 rfl (by decide) ?_
    refine j_sub [] rfl ?_
    exact L_Exe_perform_293 C S6 h
  · replace h := ite_t (ite_f (ite_f (ite_f h nc1_0) nc1_1) nc1_2) c1_3
    refine j_aload C 10 122 rfl rfl 4 rfl ?_
    refine j_aload_n C 11 123 rfl rfl rfl 0 rfl ?_
    refine j_get C 12 126 rfl rfl fg_Exe_13 17 rfl rfl ?_
    refine j_aload_n C 13 127 rfl rfl rfl 0 rfl ?_
    refine j_get C 14 130 rfl rfl fg_Exe_26 17 rfl rfl ?_
    refine j_aload_n C 15 131 rfl rfl rfl 0 rfl ?_
    refine j_callVi C 16 134 rfl rfl w434 m_Ins_numberU (As := []) (c_Ins_numberU l D h0 a cI cB S _ h) ⟨rfl, rfl⟩ ⟨Nat.le_of_ble_eq_true rfl, Nat.le_of_ble_eq_true rfl⟩ 17 rfl rfl rfl ⟨Nat.le_of_ble_eq_true rfl, Nat.le_of_ble_eq_true rfl⟩ (Nat.le_of_ble_eq_true rfl) rfl (fun r9 S8 h => ?_)
    refine j_iadd C 17 135 rfl rfl ?_
    refine j_callVv C 18 138 rfl rfl w438 m_Eff_setRegister (As := [.int (S 15 4), .int ((S 15 0) + r9)]) (c_Eff_setRegister l D h0 a cI cB S8 (S 15 4) ((S 15 0) + r9) _ h) ⟨rfl, rfl⟩ ⟨Nat.le_of_ble_eq_true rfl, Nat.le_of_ble_eq_true rfl⟩ 18 rfl rfl rfl ⟨Nat.le_of_ble_eq_true rfl, Nat.le_of_ble_eq_true rfl⟩ (Nat.le_of_ble_eq_true rfl) rfl (fun S10 h => ?_)
    refine j_goto C 19 293 rfl (by decide) ?_
    refine j_sub [] rfl ?_
    exact L_Exe_perform_293 C S10 h
  · replace h := ite_t (ite_f (ite_f (ite_f (ite_f h nc1_0) nc1_1) nc1_2) nc1_3) c1_4
    refine j_aload_n C 60 220 rfl rfl rfl 0 rfl ?_
    refine j_iload_n C 61 221 rfl rfl rfl 1 rfl ?_
    refine j_aload_n C 62 222 rfl rfl rfl 0 rfl ?_
    refine j_callVi C 63 225 rfl rfl w487 m_Ins_numberS (As := []) (c_Ins_numberS l D h0 a cI cB S _ h) ⟨rfl, rfl⟩ ⟨Nat.le_of_ble_eq_true rfl, Nat.le_of_ble_eq_true rfl⟩ 17 rfl rfl rfl ⟨Nat.le_of_ble_eq_true rfl, Nat.le_of_ble_eq_true rfl⟩ (Nat.le_of_ble_eq_true rfl) rfl (fun r13 S12 h => ?_)
    refine j_iadd C 64 226 rfl rfl ?_
    refine j_iload_n C 65 227 rfl rfl rfl 2 rfl ?_
    refine j_aload C 66 229 rfl rfl 4 rfl ?_
    refine j_callSv C 67 232 rfl rfl w491 m_Exe_write (As := [.ref (a 17), .int (p1 + r13), .int p2, .ref (a 18)]) (c_Exe_write l D h0 a cI cB S12 (p1 + r13) p2 _ h) ⟨rfl, rfl⟩ ⟨Nat.le_of_ble_eq_true rfl, Nat.le_of_ble_eq_true rfl⟩ rfl ⟨Nat.le_of_ble_eq_true rfl, Nat.le_of_ble_eq_true rfl⟩ (Nat.le_of_ble_eq_true rfl) rfl (fun S14 h => ?_)
    refine j_goto C 68 293 rfl (by decide) ?_
    refine j_sub [] rfl ?_
    exact L_Exe_perform_293 C S14 h
  · replace h := ite_t (ite_f (ite_f (ite_f (ite_f (ite_f h nc1_0) nc1_1) nc1_2) nc1_3) nc1_4) c1_5
    refine j_aload_n C 74 246 rfl rfl rfl 0 rfl ?_
    refine j_iload_n C 75 247 rfl rfl rfl 1 rfl ?_
    refine j_iload_n C 76 248 rfl rfl rfl 2 rfl ?_
    refine j_aload C 77 250 rfl rfl 4 rfl ?_
    refine j_callSv C 78 253 rfl rfl w501 m_Exe_computeWithRegister (As := [.ref (a 17), .int p1, .int p2, .ref (a 18)]) (c_Exe_computeWithRegister l D h0 a cI cB S p1 p2 _ h) ⟨rfl, rfl⟩ ⟨Nat.le_of_ble_eq_true rfl, Nat.le_of_ble_eq_true rfl⟩ rfl ⟨Nat.le_of_ble_eq_true rfl, Nat.le_of_ble_eq_true rfl⟩ (Nat.le_of_ble_eq_true rfl) rfl (fun S16 h => ?_)
    refine j_goto C 79 293 rfl (by decide) ?_
    refine j_sub [] rfl ?_
    exact L_Exe_perform_293 C S16 h
  · replace h := ite_t (ite_f (ite_f (ite_f (ite_f (ite_f (ite_f h nc1_0) nc1_1) nc1_2) nc1_3) nc1_4) nc1_5) c1_6
    refine j_aload C 3 106 rfl rfl 4 rfl ?_
    refine j_aload_n C 4 107 rfl rfl rfl 0 rfl ?_
    refine j_get C 5 110 rfl rfl fg_Exe_13 17 rfl rfl ?_
    refine j_aload_n C 6 111 rfl rfl rfl 0 rfl ?_
    refine j_callVi C 7 114 rfl rfl w434 m_Ins_numberU (As := []) (c_Ins_numberU l D h0 a cI cB S _ h) ⟨rfl, rfl⟩ ⟨Nat.le_of_ble_eq_true rfl, Nat.le_of_ble_eq_true rfl⟩ 17 rfl rfl rfl ⟨Nat.le_of_ble_eq_true rfl, Nat.le_of_ble_eq_true rfl⟩ (Nat.le_of_ble_eq_true rfl) rfl (fun r19 S18 h => ?_)
    refine j_callVv C 8 117 rfl rfl w438 m_Eff_setRegister (As := [.int (S 15 4), .int r19]) (c_Eff_setRegister l D h0 a cI cB S18 (S 15 4) r19 _ h) ⟨rfl, rfl⟩ ⟨Nat.le_of_ble_eq_true rfl, Nat.le_of_ble_eq_true rfl⟩ 18 rfl rfl rfl ⟨Nat.le_of_ble_eq_true rfl, Nat.le_of_ble_eq_true rfl⟩ (Nat.le_of_ble_eq_true rfl) rfl (fun S20 h => ?_)
    refine j_goto C 9 293 rfl (by decide) ?_
    refine j_sub [] rfl ?_
    exact L_Exe_perform_293 C S20 h
  · replace h := ite_t (ite_f (ite_f (ite_f (ite_f (ite_f (ite_f (ite_f h nc1_0) nc1_1) nc1_2) nc1_3) nc1_4) nc1_5) nc1_6) c1_7
    refine j_aload_n C 46 194 rfl rfl rfl 0 rfl ?_
    refine j_iload_n C 47 195 rfl rfl rfl 1 rfl ?_
    refine j_iload_n C 48 196 rfl rfl rfl 2 rfl ?_
    refine j_aload C 49 198 rfl rfl 4 rfl ?_
    refine j_callSv C 50 201 rfl rfl w466 m_Exe_branch (As := [.ref (a 17), .int p1, .int p2, .ref (a 18)]) (c_Exe_branch l D h0 a cI cB S p1 p2 _ h) ⟨rfl, rfl⟩ ⟨Nat.le_of_ble_eq_true rfl, Nat.le_of_ble_eq_true rfl⟩ rfl ⟨Nat.le_of_ble_eq_true rfl, Nat.le_of_ble_eq_true rfl⟩ (Nat.le_of_ble_eq_true rfl) rfl (fun S22 h => ?_)
    refine j_goto C 51 293 rfl (by decide) ?_
    refine j_sub [] rfl ?_
    exact L_Exe_perform_293 C S22 h
  · replace h := ite_t (ite_f (ite_f (ite_f (ite_f (ite_f (ite_f (ite_f (ite_f h nc1_0) nc1_1) nc1_2) nc1_3) nc1_4) nc1_5) nc1_6) nc1_7) c1_8
    refine j_aload_n C 29 160 rfl rfl rfl 0 rfl ?_
    refine j_get C 30 163 rfl rfl fg_Exe_38 17 rfl rfl ?_
    refine j_if_ne C 31 184 166 rfl (by decide) rfl (fun c24 => ?_) (fun c24 => ?_)
    · replace h := ite_f h c24
      refine j_aload_n C 42 185 rfl rfl rfl 0 rfl ?_
      refine j_aload C 43 187 rfl rfl 4 rfl ?_
      refine j_callSv C 44 190 rfl rfl w462 m_Exe_refuse (As := [.ref (a 17), .ref (a 18)]) (c_Exe_refuse l D h0 a cI cB S _ h) ⟨rfl, rfl⟩ ⟨Nat.le_of_ble_eq_true rfl, Nat.le_of_ble_eq_true rfl⟩ rfl ⟨Nat.le_of_ble_eq_true rfl, Nat.le_of_ble_eq_true rfl⟩ (Nat.le_of_ble_eq_true rfl) rfl (fun S25 h => ?_)
      refine j_goto C 45 293 rfl (by decide) ?_
      refine j_sub [] rfl ?_
      exact L_Exe_perform_293 C S25 h
    · replace h := ite_t h c24
      refine j_aload_n C 32 167 rfl rfl rfl 0 rfl ?_
      refine j_iload_n C 33 168 rfl rfl rfl 1 rfl ?_
      refine j_aload_n C 34 169 rfl rfl rfl 0 rfl ?_
      refine j_callVi C 35 172 rfl rfl w458 m_Ins_numberI (As := []) (c_Ins_numberI l D h0 a cI cB S _ h) ⟨rfl, rfl⟩ ⟨Nat.le_of_ble_eq_true rfl, Nat.le_of_ble_eq_true rfl⟩ 17 rfl rfl rfl ⟨Nat.le_of_ble_eq_true rfl, Nat.le_of_ble_eq_true rfl⟩ (Nat.le_of_ble_eq_true rfl) rfl (fun r28 S27 h => ?_)
      refine j_iadd C 36 173 rfl rfl ?_
      refine j_bipush C 37 175 rfl rfl kB_m2 ?_
      refine j_iand C 38 176 rfl rfl ?_
      refine j_aload C 39 178 rfl rfl 4 rfl ?_
      refine j_callSv C 40 181 rfl rfl w447 m_Exe_jump (As := [.ref (a 17), .int ((p1 + r28) &&& (-2 : Int32)), .ref (a 18)]) (c_Exe_jump l D h0 a cI cB S27 ((p1 + r28) &&& (-2 : Int32)) _ h) ⟨rfl, rfl⟩ ⟨Nat.le_of_ble_eq_true rfl, Nat.le_of_ble_eq_true rfl⟩ rfl ⟨Nat.le_of_ble_eq_true rfl, Nat.le_of_ble_eq_true rfl⟩ (Nat.le_of_ble_eq_true rfl) rfl (fun S29 h => ?_)
      refine j_goto C 41 293 rfl (by decide) ?_
      refine j_sub [] rfl ?_
      exact L_Exe_perform_293 C S29 h
  · replace h := ite_t (ite_f (ite_f (ite_f (ite_f (ite_f (ite_f (ite_f (ite_f (ite_f h nc1_0) nc1_1) nc1_2) nc1_3) nc1_4) nc1_5) nc1_6) nc1_7) nc1_8) c1_9
    refine j_aload_n C 20 142 rfl rfl rfl 0 rfl ?_
    refine j_aload_n C 21 143 rfl rfl rfl 0 rfl ?_
    refine j_get C 22 146 rfl rfl fg_Exe_26 17 rfl rfl ?_
    refine j_aload_n C 23 147 rfl rfl rfl 0 rfl ?_
    refine j_callVi C 24 150 rfl rfl w442 m_Ins_numberJ (As := []) (c_Ins_numberJ l D h0 a cI cB S _ h) ⟨rfl, rfl⟩ ⟨Nat.le_of_ble_eq_true rfl, Nat.le_of_ble_eq_true rfl⟩ 17 rfl rfl rfl ⟨Nat.le_of_ble_eq_true rfl, Nat.le_of_ble_eq_true rfl⟩ (Nat.le_of_ble_eq_true rfl) rfl (fun r32 S31 h => ?_)
    refine j_iadd C 25 151 rfl rfl ?_
    refine j_aload C 26 153 rfl rfl 4 rfl ?_
    refine j_callSv C 27 156 rfl rfl w447 m_Exe_jump (As := [.ref (a 17), .int ((S 15 0) + r32), .ref (a 18)]) (c_Exe_jump l D h0 a cI cB S31 ((S 15 0) + r32) _ h) ⟨rfl, rfl⟩ ⟨Nat.le_of_ble_eq_true rfl, Nat.le_of_ble_eq_true rfl⟩ rfl ⟨Nat.le_of_ble_eq_true rfl, Nat.le_of_ble_eq_true rfl⟩ (Nat.le_of_ble_eq_true rfl) rfl (fun S33 h => ?_)
    refine j_goto C 28 293 rfl (by decide) ?_
    refine j_sub [] rfl ?_
    exact L_Exe_perform_293 C S33 h
  · replace h := ite_t (ite_f (ite_f (ite_f (ite_f (ite_f (ite_f (ite_f (ite_f (ite_f (ite_f h nc1_0) nc1_1) nc1_2) nc1_3) nc1_4) nc1_5) nc1_6) nc1_7) nc1_8) nc1_9) c1_10
    refine j_aload_n C 80 257 rfl rfl rfl 0 rfl ?_
    refine j_get C 81 260 rfl rfl fg_Exe_38 17 rfl rfl ?_
    refine j_if_ne C 82 273 263 rfl (by decide) rfl (fun c35 => ?_) (fun c35 => ?_)
    · replace h := ite_f h c35
      refine j_aload_n C 88 274 rfl rfl rfl 0 rfl ?_
      refine j_iload_n C 89 275 rfl rfl rfl 1 rfl ?_
      refine j_aload_n C 90 276 rfl rfl rfl 3 rfl ?_
      refine j_aload C 91 278 rfl rfl 4 rfl ?_
      refine j_callSv C 92 281 rfl rfl w517 m_Exe_useControl (As := [.ref (a 17), .int p1, .ref (a 3), .ref (a 18)]) (c_Exe_useControl l D h0 a cI cB S p1 _ h) ⟨rfl, rfl⟩ ⟨Nat.le_of_ble_eq_true rfl, Nat.le_of_ble_eq_true rfl⟩ rfl ⟨Nat.le_of_ble_eq_true rfl, Nat.le_of_ble_eq_true rfl⟩ (Nat.le_of_ble_eq_true rfl) rfl (fun S36 h => ?_)
      refine j_goto C 93 293 rfl (by decide) ?_
      refine j_sub [] rfl ?_
      exact L_Exe_perform_293 C S36 h
    · replace h := ite_t h c35
      refine j_aload_n C 83 264 rfl rfl rfl 0 rfl ?_
      refine j_aload_n C 84 265 rfl rfl rfl 3 rfl ?_
      refine j_aload C 85 267 rfl rfl 4 rfl ?_
      refine j_callSv C 86 270 rfl rfl w510 m_Exe_doWholeWord (As := [.ref (a 17), .ref (a 3), .ref (a 18)]) (c_Exe_doWholeWord l D h0 a cI cB S _ h) ⟨rfl, rfl⟩ ⟨Nat.le_of_ble_eq_true rfl, Nat.le_of_ble_eq_true rfl⟩ rfl ⟨Nat.le_of_ble_eq_true rfl, Nat.le_of_ble_eq_true rfl⟩ (Nat.le_of_ble_eq_true rfl) rfl (fun S38 h => ?_)
      refine j_goto C 87 293 rfl (by decide) ?_
      refine j_sub [] rfl ?_
      exact L_Exe_perform_293 C S38 h
  · replace h := (ite_f (ite_f (ite_f (ite_f (ite_f (ite_f (ite_f (ite_f (ite_f (ite_f (ite_f h nc1_0) nc1_1) nc1_2) nc1_3) nc1_4) nc1_5) nc1_6) nc1_7) nc1_8) nc1_9) nc1_10)
    refine j_aload_n C 95 288 rfl rfl rfl 0 rfl ?_
    refine j_aload C 96 290 rfl rfl 4 rfl ?_
    refine j_callSv C 97 293 rfl rfl w462 m_Exe_refuse (As := [.ref (a 17), .ref (a 18)]) (c_Exe_refuse l D h0 a cI cB S _ h) ⟨rfl, rfl⟩ ⟨Nat.le_of_ble_eq_true rfl, Nat.le_of_ble_eq_true rfl⟩ rfl ⟨Nat.le_of_ble_eq_true rfl, Nat.le_of_ble_eq_true rfl⟩ (Nat.le_of_ble_eq_true rfl) rfl (fun S40 h => ?_)
    refine j_sub [] rfl ?_
    exact L_Exe_perform_293 C S40 h
abbrev rm_Cac_visit : Room := { frames := 0, cells := 0, slots := 0, locals := 0 }
def wp_Cac_visit_81 (K : Int32 → St → Prop) (S : St) (v5 : Int32) : Prop := K v5 S
set_option maxHeartbeats 4000000 in
set_option maxRecDepth 100000 in
theorem L_Cac_visit_81 {p : Program} {l : Launch} {e : Env} {s : State} {m : MethodId} {args : Array Value} {below : List Frame} {meth : Method} {c : Code} {A : Nat → Prop} {D : va_G} {h0 : Nat} {a : Nat → Nat} {cI cB : ClassId} {K : Int32 → St → Prop} (C : CX p rm_Cac_visit s m args meth c b_Cac_visit 6 "PipelinedCore$Cache" (some .int) pr_Cac_visit D clK (tysK cI cB) A) (S : St) (v5 : Int32) (h : wp_Cac_visit_81 K S v5) : J p l e rm_Cac_visit s m args below meth c 6 D clK A 0 0 (MQ below (va_Qi K (fun u t => QK D clK (tysK cI cB) A (wsK h0 a cI cB u) t) A) args s 0 0 A) (wsK h0 a cI cB S) [(5, .int v5)] 81 [] := by
  unfold wp_Cac_visit_81 at h
  refine j_iload C 48 83 rfl rfl 0 rfl ?_
  exact j_iret C 49 rfl h
def wp_Cac_visit_69 (K : Int32 → St → Prop) (S : St) (v2 : Int32) (v4 : Int32) (v5 : Int32) : Prop := (if v2 = 0 then ((wp_Cac_visit_81 K S v5)) else (vp_in v4 4 ∧ (∀ S8 : St, S8 = st S 7 v4.toNatClampNeg (vp_nar .boolean 1) → ((wp_Cac_visit_81 K S8 v5)))))
set_option maxHeartbeats 4000000 in
set_option maxRecDepth 100000 in
theorem L_Cac_visit_69 {p : Program} {l : Launch} {e : Env} {s : State} {m : MethodId} {args : Array Value} {below : List Frame} {meth : Method} {c : Code} {A : Nat → Prop} {D : va_G} {h0 : Nat} {a : Nat → Nat} {cI cB : ClassId} {K : Int32 → St → Prop} (C : CX p rm_Cac_visit s m args meth c b_Cac_visit 6 "PipelinedCore$Cache" (some .int) pr_Cac_visit D clK (tysK cI cB) A) (S : St) (v2 : Int32) (v4 : Int32) (v5 : Int32) (h : wp_Cac_visit_69 K S v2 v4 v5) : J p l e rm_Cac_visit s m args below meth c 6 D clK A 0 0 (MQ below (va_Qi K (fun u t => QK D clK (tysK cI cB) A (wsK h0 a cI cB u) t) A) args s 0 0 A) (wsK h0 a cI cB S) [(0, .ref (a 6)), (2, .int v2), (4, .int v4), (5, .int v5)] 69 [] := by
  unfold wp_Cac_visit_69 at h
  refine j_iload_n C 41 70 rfl rfl rfl 1 rfl ?_
  refine j_if_eq C 42 81 73 rfl (by decide) rfl (fun c7 => ?_) (fun c7 => ?_)
  · replace h := ite_t h c7
    refine j_sub [3] rfl ?_
    exact L_Cac_visit_81 C S v5 h
  · replace h := ite_f h c7
    refine j_aload_n C 43 74 rfl rfl rfl 0 rfl ?_
    refine j_get C 44 77 rfl rfl fg_Cac_13 6 rfl rfl ?_
    refine j_iload C 45 79 rfl rfl 2 rfl ?_
    refine j_iconst C 46 80 rfl rfl kI_1 ?_
    refine j_zast C 47 81 rfl rfl 8 1 rfl rfl h.1 (st S 7 v4.toNatClampNeg (vp_nar .boolean 1)) (sK_8 _ _ _ _ _ _ _) (fun S8 eS8 => ?_)
    replace h := h.2
    replace h := h S8 eS8
    refine j_sub [3] rfl ?_
    exact L_Cac_visit_81 C S8 v5 h
def wp_Cac_visit_51 (K : Int32 → St → Prop) (S : St) (v2 : Int32) (v3 : Int32) (v4 : Int32) (k0 : Int32) : Prop := vp_in v4 4 ∧ (∀ S5 : St, S5 = st S 6 v4.toNatClampNeg v3 → (vp_in v4 4 ∧ (∀ S6 : St, S6 = st S5 7 v4.toNatClampNeg (vp_nar .boolean 0) → ((wp_Cac_visit_69 K S6 v2 v4 k0)))))
set_option maxHeartbeats 4000000 in
set_option maxRecDepth 100000 in
theorem L_Cac_visit_51 {p : Program} {l : Launch} {e : Env} {s : State} {m : MethodId} {args : Array Value} {below : List Frame} {meth : Method} {c : Code} {A : Nat → Prop} {D : va_G} {h0 : Nat} {a : Nat → Nat} {cI cB : ClassId} {K : Int32 → St → Prop} (C : CX p rm_Cac_visit s m args meth c b_Cac_visit 6 "PipelinedCore$Cache" (some .int) pr_Cac_visit D clK (tysK cI cB) A) (S : St) (v2 : Int32) (v3 : Int32) (v4 : Int32) (k0 : Int32) (h : wp_Cac_visit_51 K S v2 v3 v4 k0) : J p l e rm_Cac_visit s m args below meth c 6 D clK A 0 0 (MQ below (va_Qi K (fun u t => QK D clK (tysK cI cB) A (wsK h0 a cI cB u) t) A) args s 0 0 A) (wsK h0 a cI cB S) [(0, .ref (a 6)), (2, .int v2), (3, .int v3), (4, .int v4)] 51 [.int k0] := by
  unfold wp_Cac_visit_51 at h
  refine j_istore C 30 53 [(5, .int k0), (0, .ref (a 6)), (2, .int v2), (3, .int v3), (4, .int v4)] rfl rfl (by decide) rfl ?_
  refine j_aload_n C 31 54 rfl rfl rfl 1 rfl ?_
  refine j_get C 32 57 rfl rfl fg_Cac_9 6 rfl rfl ?_
  refine j_iload C 33 59 rfl rfl 4 rfl ?_
  refine j_iload_n C 34 60 rfl rfl rfl 3 rfl ?_
  refine j_iast C 35 61 rfl rfl 7 0 rfl rfl h.1 (st S 6 v4.toNatClampNeg v3) (sK_7 _ _ _ _ _ _ _) (fun S5 eS5 => ?_)
  replace h := h.2
  replace h := h S5 eS5
  refine j_aload_n C 36 62 rfl rfl rfl 1 rfl ?_
  refine j_get C 37 65 rfl rfl fg_Cac_13 6 rfl rfl ?_
  refine j_iload C 38 67 rfl rfl 4 rfl ?_
  refine j_iconst C 39 68 rfl rfl kI_0 ?_
  refine j_zast C 40 69 rfl rfl 8 1 rfl rfl h.1 (st S5 7 v4.toNatClampNeg (vp_nar .boolean 0)) (sK_8 _ _ _ _ _ _ _) (fun S6 eS6 => ?_)
  replace h := h.2
  replace h := h S6 eS6
  refine j_sub [1, 2, 4, 0] rfl ?_
  exact L_Cac_visit_69 C S6 v2 v4 k0 h
def wp_Cac_visit (S : St) (p1 : Int32) (p2 : Int32) (K : Int32 → St → Prop) : Prop := ∀ x1 : Int32, x1 = (p1 - (1024 : Int32)) / 16 → (∀ x2 : Int32, x2 = x1 &&& (3 : Int32) → (vp_in x2 4 ∧ ((if (S 6 x2.toNatClampNeg) = x1 then ((wp_Cac_visit_69 K S p2 x2 0)) else (vp_in x2 4 ∧ ((if (S 7 x2.toNatClampNeg) = 0 then ((wp_Cac_visit_51 K S p2 x1 x2 (S 5 0))) else ((wp_Cac_visit_51 K S p2 x1 x2 ((2 : Int32) * (S 5 0)))))))))))
set_option maxHeartbeats 4000000 in
set_option maxRecDepth 100000 in
theorem c_Cac_visit (l : Launch) (D : va_G) (h0 : Nat) (a : Nat → Nat) (cI cB : ClassId) (S : St) (p1 : Int32) (p2 : Int32) (K : Int32 → St → Prop) (h : wp_Cac_visit S p1 p2 K) (sz : Nat) : Met l y_Cac_visit (Cond.code y_Cac_visit b_Cac_visit 6 (some .int) :: gw) rm_Cac_visit (va_Pc [.ref (a 6), .int p1, .int p2] (PK D clK (tysK cI cB) (wsK h0 a cI cB S) sz)) (va_Qi K (fun u t => QK D clK (tysK cI cB) (va_A (wsK h0 a cI cB S) sz) (wsK h0 a cI cB u) t) (va_A (wsK h0 a cI cB S) sz)) 0 0 (va_A (wsK h0 a cI cB S) sz) := by
  refine met_of (rm := rm_Cac_visit) (pr := pr_Cac_visit) (Qc := fun A => va_Qi K (fun u t => QK D clK (tysK cI cB) A (wsK h0 a cI cB u) t) A) (by decide +kernel) dm_Cac_visit (Nat.le_of_ble_eq_true rfl) (fun p e s m args below meth c A C => ?_) sz
  unfold wp_Cac_visit at h
  show J p l e rm_Cac_visit s m args below meth c 6 D clK A 0 0 _ (wsK h0 a cI cB S) [(0, .ref (a 6)), (1, .int p1), (2, .int p2)] 0 []
  refine j_iload_n C 0 1 rfl rfl rfl 1 rfl ?_
  refine j_sipush C 1 4 rfl rfl kS_1024 ?_
  refine j_isub C 2 5 rfl rfl ?_
  refine j_bipush C 3 7 rfl rfl kB_16 ?_
  refine j_idiv C 4 8 rfl rfl (by decide) ?_
  refine j_topi (fun x1 ex1 => ?_)
  replace h := h x1 ex1
  refine j_istore_n C 5 9 [(3, .int x1), (0, .ref (a 6)), (1, .int p1), (2, .int p2)] rfl rfl rfl (by decide) rfl ?_
  refine j_iload_n C 6 10 rfl rfl rfl 0 rfl ?_
  refine j_iconst C 7 11 rfl rfl kI_3 ?_
  refine j_iand C 8 12 rfl rfl ?_
  refine j_topi (fun x2 ex2 => ?_)
  replace h := h x2 ex2
  refine j_istore C 9 14 [(4, .int x2), (3, .int x1), (0, .ref (a 6)), (1, .int p1), (2, .int p2)] rfl rfl (by decide) rfl ?_
  refine j_iconst C 10 15 rfl rfl kI_0 ?_
  refine j_istore C 11 17 [(5, .int 0), (4, .int x2), (3, .int x1), (0, .ref (a 6)), (1, .int p1), (2, .int p2)] rfl rfl (by decide) rfl ?_
  refine j_aload_n C 12 18 rfl rfl rfl 3 rfl ?_
  refine j_get C 13 21 rfl rfl fg_Cac_9 6 rfl rfl ?_
  refine j_iload C 14 23 rfl rfl 1 rfl ?_
  refine j_iald C 15 24 rfl rfl 7 0 rfl rfl h.1 ?_
  replace h := h.2
  refine j_iload_n C 16 25 rfl rfl rfl 2 rfl ?_
  refine j_icmp_eq C 17 69 28 rfl (by decide) rfl (fun c3 => ?_) (fun c3 => ?_)
  · replace h := ite_t h c3
    refine j_sub [3, 5, 1, 0] rfl ?_
    exact L_Cac_visit_69 C S p2 x2 0 h
  · replace h := ite_f h c3
    refine j_aload_n C 18 29 rfl rfl rfl 3 rfl ?_
    refine j_get C 19 32 rfl rfl fg_Cac_13 6 rfl rfl ?_
    refine j_iload C 20 34 rfl rfl 1 rfl ?_
    refine j_zald C 21 35 rfl rfl 8 1 rfl rfl h.1 ?_
    replace h := h.2
    refine j_if_eq C 22 47 38 rfl (by decide) rfl (fun c4 => ?_) (fun c4 => ?_)
    · replace h := ite_t h c4
      refine j_aload_n C 28 48 rfl rfl rfl 3 rfl ?_
      refine j_get C 29 51 rfl rfl fg_Cac_26 6 rfl rfl ?_
      refine j_sub [3, 5, 2, 1] rfl ?_
      exact L_Cac_visit_51 C S p2 x1 x2 (S 5 0) h
    · replace h := ite_f h c4
      refine j_iconst C 23 39 rfl rfl kI_2 ?_
      refine j_aload_n C 24 40 rfl rfl rfl 3 rfl ?_
      refine j_get C 25 43 rfl rfl fg_Cac_26 6 rfl rfl ?_
      refine j_imul C 26 44 rfl rfl ?_
      refine j_goto C 27 51 rfl (by decide) ?_
      refine j_sub [3, 5, 2, 1] rfl ?_
      exact L_Cac_visit_51 C S p2 x1 x2 ((2 : Int32) * (S 5 0)) h
abbrev rm_K_setTimes : Room := { frames := 1, cells := 0, slots := 0, locals := 25 }
def wp_K_setTimes_109 (K : St → Prop) (S : St) (k0 : Int32) : Prop := ∀ S12 : St, S12 = st S 0 12 k0 → (K S12)
set_option maxHeartbeats 4000000 in
set_option maxRecDepth 100000 in
theorem L_K_setTimes_109 {p : Program} {l : Launch} {e : Env} {s : State} {m : MethodId} {args : Array Value} {below : List Frame} {meth : Method} {c : Code} {A : Nat → Prop} {D : va_G} {h0 : Nat} {a : Nat → Nat} {cI cB : ClassId} {K : St → Prop} (C : CX p rm_K_setTimes s m args meth c b_K_setTimes 3 "PipelinedCore" none pr_K_setTimes D clK (tysK cI cB) A) (S : St) (k0 : Int32) (h : wp_K_setTimes_109 K S k0) : J p l e rm_K_setTimes s m args below meth c 3 D clK A 0 0 (MQ below (va_Qv K (fun u t => QK D clK (tysK cI cB) A (wsK h0 a cI cB u) t) A) args s 0 0 A) (wsK h0 a cI cB S) [] 109 [.int k0, .ref h0] := by
  unfold wp_K_setTimes_109 at h
  refine j_put C 59 112 rfl rfl fp_K_246 0 rfl (Nat.le_of_ble_eq_true rfl) rfl rfl (st S 0 12 k0) (sK_0_12 _ _ _ _ _ _) (fun S12 eS12 => ?_)
  replace h := h S12 eS12
  exact j_vret C 60 rfl h
def wp_K_setTimes_44 (K : St → Prop) (S : St) (v2 : Int32) (k0 : Int32) : Prop := isB k0 ∧ (∀ S6 : St, S6 = st S 16 5 k0 → (∀ S7 : St, S7 = st S6 16 3 (jmax ((S6 0 10) + (S6 16 2)) (S6 0 11)) → (∀ S8 : St, S8 = st S7 16 4 (((S7 16 3) + (1 : Int32)) + v2) → (∀ S9 : St, S9 = st S8 16 0 1 → (∀ S10 : St, S10 = st S9 0 11 (S9 16 4) → ((if (S10 16 8) = 1 then ((wp_K_setTimes_109 K S10 (S10 16 6))) else ((wp_K_setTimes_109 K S10 0)))))))))
set_option maxHeartbeats 4000000 in
set_option maxRecDepth 100000 in
theorem L_K_setTimes_44 {p : Program} {l : Launch} {e : Env} {s : State} {m : MethodId} {args : Array Value} {below : List Frame} {meth : Method} {c : Code} {A : Nat → Prop} {D : va_G} {h0 : Nat} {a : Nat → Nat} {cI cB : ClassId} {K : St → Prop} (C : CX p rm_K_setTimes s m args meth c b_K_setTimes 3 "PipelinedCore" none pr_K_setTimes D clK (tysK cI cB) A) (S : St) (v2 : Int32) (k0 : Int32) (h : wp_K_setTimes_44 K S v2 k0) : J p l e rm_K_setTimes s m args below meth c 3 D clK A 0 0 (MQ below (va_Qv K (fun u t => QK D clK (tysK cI cB) A (wsK h0 a cI cB u) t) A) args s 0 0 A) (wsK h0 a cI cB S) [(0, .ref h0), (1, .ref (a 18)), (2, .int v2)] 44 [.int k0, .ref (a 18)] := by
  unfold wp_K_setTimes_44 at h
  refine j_put C 24 47 rfl rfl fp_K_175 18 rfl (Nat.le_of_ble_eq_true rfl) (isB_nar h.1) (isB_fit h.1) (st S 16 5 k0) (sK_18_5 _ _ _ _ _ _) (fun S6 eS6 => ?_)
  replace h := h.2
  replace h := h S6 eS6
  refine j_aload_n C 25 48 rfl rfl rfl 1 rfl ?_
  refine j_aload_n C 26 49 rfl rfl rfl 0 rfl ?_
  refine j_get C 27 52 rfl rfl fg_K_70 0 rfl rfl ?_
  refine j_aload_n C 28 53 rfl rfl rfl 1 rfl ?_
  refine j_get C 29 56 rfl rfl fg_K_235 18 rfl rfl ?_
  refine j_iadd C 30 57 rfl rfl ?_
  refine j_aload_n C 31 58 rfl rfl rfl 0 rfl ?_
  refine j_get C 32 61 rfl rfl fg_K_238 0 rfl rfl ?_
  refine j_mmax C 33 64 rfl rfl w360 w249 w10 w250 (Nat.le_of_ble_eq_true rfl) (Nat.le_of_ble_eq_true rfl) ⟨Nat.le_of_ble_eq_true rfl, Nat.le_of_ble_eq_true rfl⟩ ?_
  refine j_put C 34 67 rfl rfl fp_K_140 18 rfl (Nat.le_of_ble_eq_true rfl) rfl rfl (st S6 16 3 (jmax ((S6 0 10) + (S6 16 2)) (S6 0 11))) (sK_18_3 _ _ _ _ _ _) (fun S7 eS7 => ?_)
  replace h := h S7 eS7
  refine j_aload_n C 35 68 rfl rfl rfl 1 rfl ?_
  refine j_aload_n C 36 69 rfl rfl rfl 1 rfl ?_
  refine j_get C 37 72 rfl rfl fg_K_140 18 rfl rfl ?_
  refine j_iconst C 38 73 rfl rfl kI_1 ?_
  refine j_iadd C 39 74 rfl rfl ?_
  refine j_iload_n C 40 75 rfl rfl rfl 2 rfl ?_
  refine j_iadd C 41 76 rfl rfl ?_
  refine j_put C 42 79 rfl rfl fp_K_133 18 rfl (Nat.le_of_ble_eq_true rfl) rfl rfl (st S7 16 4 (((S7 16 3) + (1 : Int32)) + v2)) (sK_18_4 _ _ _ _ _ _) (fun S8 eS8 => ?_)
  replace h := h S8 eS8
  refine j_aload_n C 43 80 rfl rfl rfl 1 rfl ?_
  refine j_iconst C 44 81 rfl rfl kI_1 ?_
  refine j_put C 45 84 rfl rfl fp_K_111 18 rfl (Nat.le_of_ble_eq_true rfl) (isB_nar isB_1) (isB_fit isB_1) (st S8 16 0 1) (sK_18_0 _ _ _ _ _ _) (fun S9 eS9 => ?_)
  replace h := h S9 eS9
  refine j_aload_n C 46 85 rfl rfl rfl 0 rfl ?_
  refine j_aload_n C 47 86 rfl rfl rfl 1 rfl ?_
  refine j_get C 48 89 rfl rfl fg_K_133 18 rfl rfl ?_
  refine j_put C 49 92 rfl rfl fp_K_238 0 rfl (Nat.le_of_ble_eq_true rfl) rfl rfl (st S9 0 11 (S9 16 4)) (sK_0_11 _ _ _ _ _ _) (fun S10 eS10 => ?_)
  replace h := h S10 eS10
  refine j_aload_n C 50 93 rfl rfl rfl 0 rfl ?_
  refine j_aload_n C 51 94 rfl rfl rfl 1 rfl ?_
  refine j_get C 52 97 rfl rfl fg_K_152 18 rfl rfl ?_
  refine j_iconst C 53 98 rfl rfl kI_1 ?_
  refine j_icmp_ne C 54 108 101 rfl (by decide) rfl (fun c11 => ?_) (fun c11 => ?_)
  · replace h := ite_f h c11
    refine j_iconst C 58 109 rfl rfl kI_0 ?_
    refine j_sub [] rfl ?_
    exact L_K_setTimes_109 C S10 0 h
  · replace h := ite_t h c11
    refine j_aload_n C 55 102 rfl rfl rfl 1 rfl ?_
    refine j_get C 56 105 rfl rfl fg_K_172 18 rfl rfl ?_
    refine j_goto C 57 109 rfl (by decide) ?_
    refine j_sub [] rfl ?_
    exact L_K_setTimes_109 C S10 (S10 16 6) h
def wp_K_setTimes_34 (K : St → Prop) (S : St) (v2 : Int32) : Prop := (if v2 ≤ 0 then ((wp_K_setTimes_44 K S v2 0)) else ((wp_K_setTimes_44 K S v2 1)))
set_option maxHeartbeats 4000000 in
set_option maxRecDepth 100000 in
theorem L_K_setTimes_34 {p : Program} {l : Launch} {e : Env} {s : State} {m : MethodId} {args : Array Value} {below : List Frame} {meth : Method} {c : Code} {A : Nat → Prop} {D : va_G} {h0 : Nat} {a : Nat → Nat} {cI cB : ClassId} {K : St → Prop} (C : CX p rm_K_setTimes s m args meth c b_K_setTimes 3 "PipelinedCore" none pr_K_setTimes D clK (tysK cI cB) A) (S : St) (v2 : Int32) (h : wp_K_setTimes_34 K S v2) : J p l e rm_K_setTimes s m args below meth c 3 D clK A 0 0 (MQ below (va_Qv K (fun u t => QK D clK (tysK cI cB) A (wsK h0 a cI cB u) t) A) args s 0 0 A) (wsK h0 a cI cB S) [(0, .ref h0), (1, .ref (a 18)), (2, .int v2)] 34 [] := by
  unfold wp_K_setTimes_34 at h
  refine j_aload_n C 18 35 rfl rfl rfl 1 rfl ?_
  refine j_iload_n C 19 36 rfl rfl rfl 2 rfl ?_
  refine j_if_le C 20 43 39 rfl (by decide) rfl (fun c5 => ?_) (fun c5 => ?_)
  · replace h := ite_t h c5
    refine j_iconst C 23 44 rfl rfl kI_0 ?_
    exact L_K_setTimes_44 C S v2 0 h
  · replace h := ite_f h c5
    refine j_iconst C 21 40 rfl rfl kI_1 ?_
    refine j_goto C 22 44 rfl (by decide) ?_
    exact L_K_setTimes_44 C S v2 1 h
def wp_K_setTimes_30 (K : St → Prop) (S : St) (k0 : Int32) (k1 : Int32) : Prop := wp_Cac_visit S k1 k0 (fun r4 S3 => ((wp_K_setTimes_34 K S3 r4)))
set_option maxHeartbeats 4000000 in
set_option maxRecDepth 100000 in
theorem L_K_setTimes_30 {p : Program} {l : Launch} {e : Env} {s : State} {m : MethodId} {args : Array Value} {below : List Frame} {meth : Method} {c : Code} {A : Nat → Prop} {D : va_G} {h0 : Nat} {a : Nat → Nat} {cI cB : ClassId} {K : St → Prop} (C : CX p rm_K_setTimes s m args meth c b_K_setTimes 3 "PipelinedCore" none pr_K_setTimes D clK (tysK cI cB) A) (S : St) (k0 : Int32) (k1 : Int32) (h : wp_K_setTimes_30 K S k0 k1) : J p l e rm_K_setTimes s m args below meth c 3 D clK A 0 0 (MQ below (va_Qv K (fun u t => QK D clK (tysK cI cB) A (wsK h0 a cI cB u) t) A) args s 0 0 A) (wsK h0 a cI cB S) [(0, .ref h0), (1, .ref (a 18))] 30 [.int k0, .int k1, .ref (a 6)] := by
  unfold wp_K_setTimes_30 at h
  refine j_callVi C 16 33 rfl rfl w537 m_Cac_visit (As := [.int k1, .int k0]) (c_Cac_visit l D h0 a cI cB S k1 k0 _ h) ⟨rfl, rfl⟩ ⟨Nat.le_of_ble_eq_true rfl, Nat.le_of_ble_eq_true rfl⟩ 6 rfl rfl rfl ⟨Nat.le_of_ble_eq_true rfl, Nat.le_of_ble_eq_true rfl⟩ (Nat.le_of_ble_eq_true rfl) rfl (fun r4 S3 h => ?_)
  refine j_istore_n C 17 34 [(2, .int r4), (0, .ref h0), (1, .ref (a 18))] rfl rfl rfl (by decide) rfl ?_
  refine j_sub [1, 2, 0] rfl ?_
  exact L_K_setTimes_34 C S3 r4 h
def wp_K_setTimes (S : St)  (K : St → Prop) : Prop := (if (S 16 8) = 0 then ((wp_K_setTimes_34 K S 0)) else ((if (S 16 8) = 2 then ((wp_K_setTimes_30 K S 1 (S 16 9))) else ((wp_K_setTimes_30 K S 0 (S 16 9))))))
set_option maxHeartbeats 4000000 in
set_option maxRecDepth 100000 in
theorem c_K_setTimes (l : Launch) (D : va_G) (h0 : Nat) (a : Nat → Nat) (cI cB : ClassId) (S : St)  (K : St → Prop) (h : wp_K_setTimes S K) (sz : Nat) : Met l y_K_setTimes (Cond.code y_K_setTimes b_K_setTimes 3 none :: gw) rm_K_setTimes (va_Pc [.ref h0, .ref (a 18)] (PK D clK (tysK cI cB) (wsK h0 a cI cB S) sz)) (va_Qv K (fun u t => QK D clK (tysK cI cB) (va_A (wsK h0 a cI cB S) sz) (wsK h0 a cI cB u) t) (va_A (wsK h0 a cI cB S) sz)) 0 0 (va_A (wsK h0 a cI cB S) sz) := by
  refine met_of (rm := rm_K_setTimes) (pr := pr_K_setTimes) (Qc := fun A => va_Qv K (fun u t => QK D clK (tysK cI cB) A (wsK h0 a cI cB u) t) A) (by decide +kernel) dm_K_setTimes (Nat.le_of_ble_eq_true rfl) (fun p e s m args below meth c A C => ?_) sz
  unfold wp_K_setTimes at h
  show J p l e rm_K_setTimes s m args below meth c 3 D clK A 0 0 _ (wsK h0 a cI cB S) [(0, .ref h0), (1, .ref (a 18))] 0 []
  refine j_iconst C 0 1 rfl rfl kI_0 ?_
  refine j_istore_n C 1 2 [(2, .int 0), (0, .ref h0), (1, .ref (a 18))] rfl rfl rfl (by decide) rfl ?_
  refine j_aload_n C 2 3 rfl rfl rfl 2 rfl ?_
  refine j_get C 3 6 rfl rfl fg_K_152 18 rfl rfl ?_
  refine j_if_eq C 4 34 9 rfl (by decide) rfl (fun c1 => ?_) (fun c1 => ?_)
  · replace h := ite_t h c1
    refine j_sub [1, 2, 0] rfl ?_
    exact L_K_setTimes_34 C S 0 h
  · replace h := ite_f h c1
    refine j_aload_n C 5 10 rfl rfl rfl 1 rfl ?_
    refine j_get C 6 13 rfl rfl fg_K_66 0 rfl rfl ?_
    refine j_aload_n C 7 14 rfl rfl rfl 2 rfl ?_
    refine j_get C 8 17 rfl rfl fg_K_155 18 rfl rfl ?_
    refine j_aload_n C 9 18 rfl rfl rfl 2 rfl ?_
    refine j_get C 10 21 rfl rfl fg_K_152 18 rfl rfl ?_
    refine j_iconst C 11 22 rfl rfl kI_2 ?_
    refine j_icmp_ne C 12 29 25 rfl (by decide) rfl (fun c2 => ?_) (fun c2 => ?_)
    · replace h := ite_f h c2
      refine j_iconst C 15 30 rfl rfl kI_0 ?_
      refine j_sub [1, 2] rfl ?_
      exact L_K_setTimes_30 C S 0 (S 16 9) h
    · replace h := ite_t h c2
      refine j_iconst C 13 26 rfl rfl kI_1 ?_
      refine j_goto C 14 30 rfl (by decide) ?_
      refine j_sub [1, 2] rfl ?_
      exact L_K_setTimes_30 C S 1 (S 16 9) h
abbrev rm_Ins_mayJump : Room := { frames := 0, cells := 0, slots := 0, locals := 0 }
def wp_Ins_mayJump_32 (K : Int32 → St → Prop) (S : St) (k0 : Int32) : Prop := isB k0 ∧ K k0 S
set_option maxHeartbeats 4000000 in
set_option maxRecDepth 100000 in
theorem L_Ins_mayJump_32 {p : Program} {l : Launch} {e : Env} {s : State} {m : MethodId} {args : Array Value} {below : List Frame} {meth : Method} {c : Code} {A : Nat → Prop} {D : va_G} {h0 : Nat} {a : Nat → Nat} {cI cB : ClassId} {K : Int32 → St → Prop} (C : CX p rm_Ins_mayJump s m args meth c b_Ins_mayJump 1 "PipelinedCore$Instruction" (some .boolean) pr_Ins_mayJump D clK (tysK cI cB) A) (S : St) (k0 : Int32) (h : wp_Ins_mayJump_32 K S k0) : J p l e rm_Ins_mayJump s m args below meth c 1 D clK A 0 0 (MQ below (va_Qi K (fun u t => QK D clK (tysK cI cB) A (wsK h0 a cI cB u) t) A) args s 0 0 A) (wsK h0 a cI cB S) [] 32 [.int k0] := by
  unfold wp_Ins_mayJump_32 at h
  exact j_zret C 15 rfl h.1 h.2
def wp_Ins_mayJump_27 (K : Int32 → St → Prop) (S : St)  : Prop := (wp_Ins_mayJump_32 K S 1)
set_option maxHeartbeats 4000000 in
set_option maxRecDepth 100000 in
theorem L_Ins_mayJump_27 {p : Program} {l : Launch} {e : Env} {s : State} {m : MethodId} {args : Array Value} {below : List Frame} {meth : Method} {c : Code} {A : Nat → Prop} {D : va_G} {h0 : Nat} {a : Nat → Nat} {cI cB : ClassId} {K : Int32 → St → Prop} (C : CX p rm_Ins_mayJump s m args meth c b_Ins_mayJump 1 "PipelinedCore$Instruction" (some .boolean) pr_Ins_mayJump D clK (tysK cI cB) A) (S : St)  (h : wp_Ins_mayJump_27 K S) : J p l e rm_Ins_mayJump s m args below meth c 1 D clK A 0 0 (MQ below (va_Qi K (fun u t => QK D clK (tysK cI cB) A (wsK h0 a cI cB u) t) A) args s 0 0 A) (wsK h0 a cI cB S) [] 27 [] := by
  unfold wp_Ins_mayJump_27 at h
  refine j_iconst C 12 28 rfl rfl kI_1 ?_
  refine j_goto C 13 32 rfl (by decide) ?_
  exact L_Ins_mayJump_32 C S 1 h
def wp_Ins_mayJump (S : St)  (K : Int32 → St → Prop) : Prop := (if (S 15 3) = 111 then ((wp_Ins_mayJump_27 K S)) else ((if (S 15 3) = 103 then ((wp_Ins_mayJump_27 K S)) else ((if (S 15 3) = 99 then ((wp_Ins_mayJump_27 K S)) else ((wp_Ins_mayJump_32 K S 0)))))))
set_option maxHeartbeats 4000000 in
set_option maxRecDepth 100000 in
theorem c_Ins_mayJump (l : Launch) (D : va_G) (h0 : Nat) (a : Nat → Nat) (cI cB : ClassId) (S : St)  (K : Int32 → St → Prop) (h : wp_Ins_mayJump S K) (sz : Nat) : Met l y_Ins_mayJump (Cond.code y_Ins_mayJump b_Ins_mayJump 1 (some .boolean) :: gw) rm_Ins_mayJump (va_Pc [.ref (a 17)] (PK D clK (tysK cI cB) (wsK h0 a cI cB S) sz)) (va_Qi K (fun u t => QK D clK (tysK cI cB) (va_A (wsK h0 a cI cB S) sz) (wsK h0 a cI cB u) t) (va_A (wsK h0 a cI cB S) sz)) 0 0 (va_A (wsK h0 a cI cB S) sz) := by
  refine met_of (rm := rm_Ins_mayJump) (pr := pr_Ins_mayJump) (Qc := fun A => va_Qi K (fun u t => QK D clK (tysK cI cB) A (wsK h0 a cI cB u) t) A) (by decide +kernel) dm_Ins_mayJump (Nat.le_of_ble_eq_true rfl) (fun p e s m args below meth c A C => ?_) sz
  unfold wp_Ins_mayJump at h
  show J p l e rm_Ins_mayJump s m args below meth c 1 D clK A 0 0 _ (wsK h0 a cI cB S) [(0, .ref (a 17))] 0 []
  refine j_aload_n C 0 1 rfl rfl rfl 0 rfl ?_
  refine j_get C 1 4 rfl rfl fg_Ins_20 17 rfl rfl ?_
  refine j_bipush C 2 6 rfl rfl kB_111 ?_
  refine j_icmp_eq C 3 27 9 rfl (by decide) rfl (fun c1 => ?_) (fun c1 => ?_)
  · replace h := ite_t h c1
    refine j_sub [] rfl ?_
    exact L_Ins_mayJump_27 C S h
  · replace h := ite_f h c1
    refine j_aload_n C 4 10 rfl rfl rfl 0 rfl ?_
    refine j_get C 5 13 rfl rfl fg_Ins_20 17 rfl rfl ?_
    refine j_bipush C 6 15 rfl rfl kB_103 ?_
    refine j_icmp_eq C 7 27 18 rfl (by decide) rfl (fun c2 => ?_) (fun c2 => ?_)
    · replace h := ite_t h c2
      refine j_sub [] rfl ?_
      exact L_Ins_mayJump_27 C S h
    · replace h := ite_f h c2
      refine j_aload_n C 8 19 rfl rfl rfl 0 rfl ?_
      refine j_get C 9 22 rfl rfl fg_Ins_20 17 rfl rfl ?_
      refine j_bipush C 10 24 rfl rfl kB_99 ?_
      refine j_icmp_ne C 11 31 27 rfl (by decide) rfl (fun c3 => ?_) (fun c3 => ?_)
      · replace h := ite_f h c3
        refine j_iconst C 14 32 rfl rfl kI_0 ?_
        refine j_sub [] rfl ?_
        exact L_Ins_mayJump_32 C S 0 h
      · replace h := ite_t h c3
        refine j_sub [] rfl ?_
        exact L_Ins_mayJump_27 C S h
abbrev rm_For_keepEarlier : Room := { frames := 0, cells := 0, slots := 0, locals := 0 }
def wp_For_keepEarlier_3 (K : St → Prop) : Nat → St → Int32 → Int32 → Prop
  | 0 => fun _ _ _ => False
  | f + 1 => fun S v1 v2 => (fun KH : St → Int32 → Int32 → Prop => (if v2 < 4 then (vp_in 0 2 ∧ (vp_in 1 2 ∧ (∀ S2 : St, S2 = st S 11 (1 : Int32).toNatClampNeg (S 11 (0 : Int32).toNatClampNeg) → (vp_in 0 2 ∧ (∀ S3 : St, S3 = st S2 11 (0 : Int32).toNatClampNeg v1 → (K S3)))))) else (vp_in (v2 - (4 : Int32)) 12 ∧ (vp_in v2 12 ∧ (∀ S4 : St, S4 = st S 8 v2.toNatClampNeg (S 8 (v2 - (4 : Int32) : Int32).toNatClampNeg) → (vp_in (v2 - (4 : Int32)) 12 ∧ (vp_in v2 12 ∧ (∀ S5 : St, S5 = st S4 9 v2.toNatClampNeg (S4 9 (v2 - (4 : Int32) : Int32).toNatClampNeg) → (vp_in (v2 - (4 : Int32)) 12 ∧ (vp_in v2 12 ∧ (∀ S6 : St, S6 = st S5 10 v2.toNatClampNeg (S5 10 (v2 - (4 : Int32) : Int32).toNatClampNeg) → ((KH S6 v1 (v2 + (-1))))))))))))))) (wp_For_keepEarlier_3 K f)
set_option maxHeartbeats 4000000 in
set_option maxRecDepth 100000 in
theorem L_For_keepEarlier_3 {p : Program} {l : Launch} {e : Env} {s : State} {m : MethodId} {args : Array Value} {below : List Frame} {meth : Method} {c : Code} {A : Nat → Prop} {D : va_G} {h0 : Nat} {a : Nat → Nat} {cI cB : ClassId} {K : St → Prop} (C : CX p rm_For_keepEarlier s m args meth c b_For_keepEarlier 3 "PipelinedCore$Foreteller" none pr_For_keepEarlier D clK (tysK cI cB) A) (f : Nat) : ∀ (S : St) (v1 : Int32) (v2 : Int32), wp_For_keepEarlier_3 K f S v1 v2 → J p l e rm_For_keepEarlier s m args below meth c 3 D clK A 0 0 (MQ below (va_Qv K (fun u t => QK D clK (tysK cI cB) A (wsK h0 a cI cB u) t) A) args s 0 0 A) (wsK h0 a cI cB S) [(0, .ref (a 9)), (1, .int v1), (2, .int v2)] 3 [] := by
  induction f with
  | zero => exact fun _ _ _ h => h.elim
  | succ f ih =>
    intro S v1 v2 h
    have hKH := ih
    rw [wp_For_keepEarlier_3] at h
    generalize wp_For_keepEarlier_3 K f = KH at h hKH
    try dsimp only at h
    refine j_iload_n C 2 4 rfl rfl rfl 2 rfl ?_
    refine j_iconst C 3 5 rfl rfl kI_4 ?_
    refine j_icmp_lt C 4 56 8 rfl (by decide) rfl (fun c1 => ?_) (fun c1 => ?_)
    · replace h := ite_t h c1
      refine j_aload_n C 37 57 rfl rfl rfl 0 rfl ?_
      refine j_get C 38 60 rfl rfl fg_For_19 9 rfl rfl ?_
      refine j_iconst C 39 61 rfl rfl kI_1 ?_
      refine j_aload_n C 40 62 rfl rfl rfl 0 rfl ?_
      refine j_get C 41 65 rfl rfl fg_For_19 9 rfl rfl ?_
      refine j_iconst C 42 66 rfl rfl kI_0 ?_
      refine j_iald C 43 67 rfl rfl 13 0 rfl rfl h.1 ?_
      replace h := h.2
      refine j_iast C 44 68 rfl rfl 13 0 rfl rfl h.1 (st S 11 (1 : Int32).toNatClampNeg (S 11 (0 : Int32).toNatClampNeg)) (sK_13 _ _ _ _ _ _ _) (fun S2 eS2 => ?_)
      replace h := h.2
      replace h := h S2 eS2
      refine j_aload_n C 45 69 rfl rfl rfl 0 rfl ?_
      refine j_get C 46 72 rfl rfl fg_For_19 9 rfl rfl ?_
      refine j_iconst C 47 73 rfl rfl kI_0 ?_
      refine j_iload_n C 48 74 rfl rfl rfl 1 rfl ?_
      refine j_iast C 49 75 rfl rfl 13 0 rfl rfl h.1 (st S2 11 (0 : Int32).toNatClampNeg v1) (sK_13 _ _ _ _ _ _ _) (fun S3 eS3 => ?_)
      replace h := h.2
      replace h := h S3 eS3
      exact j_vret C 50 rfl h
    · replace h := ite_f h c1
      refine j_aload_n C 5 9 rfl rfl rfl 0 rfl ?_
      refine j_get C 6 12 rfl rfl fg_For_9 9 rfl rfl ?_
      refine j_iload_n C 7 13 rfl rfl rfl 2 rfl ?_
      refine j_aload_n C 8 14 rfl rfl rfl 0 rfl ?_
      refine j_get C 9 17 rfl rfl fg_For_9 9 rfl rfl ?_
      refine j_iload_n C 10 18 rfl rfl rfl 2 rfl ?_
      refine j_iconst C 11 19 rfl rfl kI_4 ?_
      refine j_isub C 12 20 rfl rfl ?_
      refine j_iald C 13 21 rfl rfl 10 0 rfl rfl h.1 ?_
      replace h := h.2
      refine j_iast C 14 22 rfl rfl 10 0 rfl rfl h.1 (st S 8 v2.toNatClampNeg (S 8 (v2 - (4 : Int32) : Int32).toNatClampNeg)) (sK_10 _ _ _ _ _ _ _) (fun S4 eS4 => ?_)
      replace h := h.2
      replace h := h S4 eS4
      refine j_aload_n C 15 23 rfl rfl rfl 0 rfl ?_
      refine j_get C 16 26 rfl rfl fg_For_13 9 rfl rfl ?_
      refine j_iload_n C 17 27 rfl rfl rfl 2 rfl ?_
      refine j_aload_n C 18 28 rfl rfl rfl 0 rfl ?_
      refine j_get C 19 31 rfl rfl fg_For_13 9 rfl rfl ?_
      refine j_iload_n C 20 32 rfl rfl rfl 2 rfl ?_
      refine j_iconst C 21 33 rfl rfl kI_4 ?_
      refine j_isub C 22 34 rfl rfl ?_
      refine j_iald C 23 35 rfl rfl 11 0 rfl rfl h.1 ?_
      replace h := h.2
      refine j_iast C 24 36 rfl rfl 11 0 rfl rfl h.1 (st S4 9 v2.toNatClampNeg (S4 9 (v2 - (4 : Int32) : Int32).toNatClampNeg)) (sK_11 _ _ _ _ _ _ _) (fun S5 eS5 => ?_)
      replace h := h.2
      replace h := h S5 eS5
      refine j_aload_n C 25 37 rfl rfl rfl 0 rfl ?_
      refine j_get C 26 40 rfl rfl fg_For_16 9 rfl rfl ?_
      refine j_iload_n C 27 41 rfl rfl rfl 2 rfl ?_
      refine j_aload_n C 28 42 rfl rfl rfl 0 rfl ?_
      refine j_get C 29 45 rfl rfl fg_For_16 9 rfl rfl ?_
      refine j_iload_n C 30 46 rfl rfl rfl 2 rfl ?_
      refine j_iconst C 31 47 rfl rfl kI_4 ?_
      refine j_isub C 32 48 rfl rfl ?_
      refine j_iald C 33 49 rfl rfl 12 0 rfl rfl h.1 ?_
      replace h := h.2
      refine j_iast C 34 50 rfl rfl 12 0 rfl rfl h.1 (st S5 10 v2.toNatClampNeg (S5 10 (v2 - (4 : Int32) : Int32).toNatClampNeg)) (sK_12 _ _ _ _ _ _ _) (fun S6 eS6 => ?_)
      replace h := h.2
      replace h := h S6 eS6
      refine j_iinc C 35 53 [(2, .int (v2 + (-1))), (0, .ref (a 9)), (1, .int v1)] rfl rfl 2 rfl kI_m1 (by decide) rfl ?_
      refine j_goto C 36 3 rfl (by decide) ?_
      refine j_sub [1, 2, 0] rfl ?_
      exact hKH S6 v1 (v2 + (-1)) h
def wp_For_keepEarlier (S : St) (p1 : Int32) (K : St → Prop) : Prop := (∃ f, wp_For_keepEarlier_3 K f S p1 11)
set_option maxHeartbeats 4000000 in
set_option maxRecDepth 100000 in
theorem c_For_keepEarlier (l : Launch) (D : va_G) (h0 : Nat) (a : Nat → Nat) (cI cB : ClassId) (S : St) (p1 : Int32) (K : St → Prop) (h : wp_For_keepEarlier S p1 K) (sz : Nat) : Met l y_For_keepEarlier (Cond.code y_For_keepEarlier b_For_keepEarlier 3 none :: gw) rm_For_keepEarlier (va_Pc [.ref (a 9), .int p1] (PK D clK (tysK cI cB) (wsK h0 a cI cB S) sz)) (va_Qv K (fun u t => QK D clK (tysK cI cB) (va_A (wsK h0 a cI cB S) sz) (wsK h0 a cI cB u) t) (va_A (wsK h0 a cI cB S) sz)) 0 0 (va_A (wsK h0 a cI cB S) sz) := by
  refine met_of (rm := rm_For_keepEarlier) (pr := pr_For_keepEarlier) (Qc := fun A => va_Qv K (fun u t => QK D clK (tysK cI cB) A (wsK h0 a cI cB u) t) A) (by decide +kernel) dm_For_keepEarlier (Nat.le_of_ble_eq_true rfl) (fun p e s m args below meth c A C => ?_) sz
  unfold wp_For_keepEarlier at h
  show J p l e rm_For_keepEarlier s m args below meth c 3 D clK A 0 0 _ (wsK h0 a cI cB S) [(0, .ref (a 9)), (1, .int p1)] 0 []
  refine j_bipush C 0 2 rfl rfl kB_11 ?_
  refine j_istore_n C 1 3 [(2, .int 11), (0, .ref (a 9)), (1, .int p1)] rfl rfl rfl (by decide) rfl ?_
  refine j_sub [1, 2, 0] rfl ?_
  obtain ⟨f, h⟩ := h
  exact L_For_keepEarlier_3 C f S p1 11 h
abbrev rm_For_learn : Room := { frames := 1, cells := 0, slots := 0, locals := 22 }
def wp_For_learn_93 (K : St → Prop) (S : St) (v1 : Int32) (v3 : Int32) (v5 : Int32) (k0 : Int32) (k1 : Int32) : Prop := vp_in k1 12 ∧ (∀ S11 : St, S11 = st S 10 k1.toNatClampNeg k0 → (vp_in v5 12 ∧ (∀ S12 : St, S12 = st S11 8 v5.toNatClampNeg v1 → (vp_in v5 12 ∧ (∀ S13 : St, S13 = st S12 9 v5.toNatClampNeg v3 → (K S13))))))
set_option maxHeartbeats 4000000 in
set_option maxRecDepth 100000 in
theorem L_For_learn_93 {p : Program} {l : Launch} {e : Env} {s : State} {m : MethodId} {args : Array Value} {below : List Frame} {meth : Method} {c : Code} {A : Nat → Prop} {D : va_G} {h0 : Nat} {a : Nat → Nat} {cI cB : ClassId} {K : St → Prop} (C : CX p rm_For_learn s m args meth c b_For_learn 7 "PipelinedCore$Foreteller" none pr_For_learn D clK (tysK cI cB) A) (S : St) (v1 : Int32) (v3 : Int32) (v5 : Int32) (k0 : Int32) (k1 : Int32) (h : wp_For_learn_93 K S v1 v3 v5 k0 k1) : J p l e rm_For_learn s m args below meth c 7 D clK A 0 0 (MQ below (va_Qv K (fun u t => QK D clK (tysK cI cB) A (wsK h0 a cI cB u) t) A) args s 0 0 A) (wsK h0 a cI cB S) [(0, .ref (a 9)), (1, .int v1), (3, .int v3), (5, .int v5)] 93 [.int k0, .int k1, .ref (a 12)] := by
  unfold wp_For_learn_93 at h
  refine j_iast C 51 94 rfl rfl 12 0 rfl rfl h.1 (st S 10 k1.toNatClampNeg k0) (sK_12 _ _ _ _ _ _ _) (fun S11 eS11 => ?_)
  replace h := h.2
  replace h := h S11 eS11
  refine j_aload_n C 52 95 rfl rfl rfl 0 rfl ?_
  refine j_get C 53 98 rfl rfl fg_For_9 9 rfl rfl ?_
  refine j_iload C 54 100 rfl rfl 3 rfl ?_
  refine j_iload_n C 55 101 rfl rfl rfl 1 rfl ?_
  refine j_iast C 56 102 rfl rfl 10 0 rfl rfl h.1 (st S11 8 v5.toNatClampNeg v1) (sK_10 _ _ _ _ _ _ _) (fun S12 eS12 => ?_)
  replace h := h.2
  replace h := h S12 eS12
  refine j_aload_n C 57 103 rfl rfl rfl 0 rfl ?_
  refine j_get C 58 106 rfl rfl fg_For_13 9 rfl rfl ?_
  refine j_iload C 59 108 rfl rfl 3 rfl ?_
  refine j_iload_n C 60 109 rfl rfl rfl 2 rfl ?_
  refine j_iast C 61 110 rfl rfl 11 0 rfl rfl h.1 (st S12 9 v5.toNatClampNeg v3) (sK_11 _ _ _ _ _ _ _) (fun S13 eS13 => ?_)
  replace h := h.2
  replace h := h S13 eS13
  exact j_vret C 62 rfl h
def wp_For_learn_34 (K : St → Prop) (S : St) (v1 : Int32) (v2 : Int32) (v3 : Int32) (v4 : Int32) (v5 : Int32) (v6 : Int32) : Prop := wp_For_keepEarlier S v4 (fun S6 => ((if v2 = 0 then (vp_in v5 12 ∧ (vp_in v5 12 ∧ (∀ S10 : St, S10 = st S6 10 v5.toNatClampNeg (jmax 0 ((S6 10 v5.toNatClampNeg) - (1 : Int32))) → (K S10)))) else ((if v6 = 0 then ((wp_For_learn_93 K S6 v1 v3 v5 2 v5)) else (vp_in v5 12 ∧ ((wp_For_learn_93 K S6 v1 v3 v5 (jmin 3 ((S6 10 v5.toNatClampNeg) + (1 : Int32))) v5))))))))
set_option maxHeartbeats 4000000 in
set_option maxRecDepth 100000 in
theorem L_For_learn_34 {p : Program} {l : Launch} {e : Env} {s : State} {m : MethodId} {args : Array Value} {below : List Frame} {meth : Method} {c : Code} {A : Nat → Prop} {D : va_G} {h0 : Nat} {a : Nat → Nat} {cI cB : ClassId} {K : St → Prop} (C : CX p rm_For_learn s m args meth c b_For_learn 7 "PipelinedCore$Foreteller" none pr_For_learn D clK (tysK cI cB) A) (S : St) (v1 : Int32) (v2 : Int32) (v3 : Int32) (v4 : Int32) (v5 : Int32) (v6 : Int32) (h : wp_For_learn_34 K S v1 v2 v3 v4 v5 v6) : J p l e rm_For_learn s m args below meth c 7 D clK A 0 0 (MQ below (va_Qv K (fun u t => QK D clK (tysK cI cB) A (wsK h0 a cI cB u) t) A) args s 0 0 A) (wsK h0 a cI cB S) [(0, .ref (a 9)), (1, .int v1), (2, .int v2), (3, .int v3), (4, .int v4), (5, .int v5), (6, .int v6)] 34 [] := by
  unfold wp_For_learn_34 at h
  refine j_aload_n C 18 35 rfl rfl rfl 0 rfl ?_
  refine j_iload C 19 37 rfl rfl 4 rfl ?_
  refine j_callVv C 20 40 rfl rfl w553 m_For_keepEarlier (As := [.int v4]) (c_For_keepEarlier l D h0 a cI cB S v4 _ h) ⟨rfl, rfl⟩ ⟨Nat.le_of_ble_eq_true rfl, Nat.le_of_ble_eq_true rfl⟩ 9 rfl rfl rfl ⟨Nat.le_of_ble_eq_true rfl, Nat.le_of_ble_eq_true rfl⟩ (Nat.le_of_ble_eq_true rfl) rfl (fun S6 h => ?_)
  refine j_iload_n C 21 41 rfl rfl rfl 2 rfl ?_
  refine j_if_ne C 22 65 44 rfl (by decide) rfl (fun c8 => ?_) (fun c8 => ?_)
  · replace h := ite_f h c8
    refine j_aload_n C 36 66 rfl rfl rfl 0 rfl ?_
    refine j_get C 37 69 rfl rfl fg_For_16 9 rfl rfl ?_
    refine j_iload C 38 71 rfl rfl 5 rfl ?_
    refine j_iload C 39 73 rfl rfl 6 rfl ?_
    refine j_if_eq C 40 92 76 rfl (by decide) rfl (fun c9 => ?_) (fun c9 => ?_)
    · replace h := ite_t h c9
      refine j_iconst C 50 93 rfl rfl kI_2 ?_
      refine j_sub [0, 1, 3, 5] rfl ?_
      exact L_For_learn_93 C S6 v1 v3 v5 2 v5 h
    · replace h := ite_f h c9
      refine j_iconst C 41 77 rfl rfl kI_3 ?_
      refine j_aload_n C 42 78 rfl rfl rfl 0 rfl ?_
      refine j_get C 43 81 rfl rfl fg_For_16 9 rfl rfl ?_
      refine j_iload C 44 83 rfl rfl 5 rfl ?_
      refine j_iald C 45 84 rfl rfl 12 0 rfl rfl h.1 ?_
      replace h := h.2
      refine j_iconst C 46 85 rfl rfl kI_1 ?_
      refine j_iadd C 47 86 rfl rfl ?_
      refine j_mmin C 48 89 rfl rfl w558 w246 w10 w247 (Nat.le_of_ble_eq_true rfl) (Nat.le_of_ble_eq_true rfl) ⟨Nat.le_of_ble_eq_true rfl, Nat.le_of_ble_eq_true rfl⟩ ?_
      refine j_goto C 49 93 rfl (by decide) ?_
      refine j_sub [0, 1, 3, 5] rfl ?_
      exact L_For_learn_93 C S6 v1 v3 v5 (jmin 3 ((S6 10 v5.toNatClampNeg) + (1 : Int32))) v5 h
  · replace h := ite_t h c8
    refine j_aload_n C 23 45 rfl rfl rfl 0 rfl ?_
    refine j_get C 24 48 rfl rfl fg_For_16 9 rfl rfl ?_
    refine j_iload C 25 50 rfl rfl 5 rfl ?_
    refine j_iconst C 26 51 rfl rfl kI_0 ?_
    refine j_aload_n C 27 52 rfl rfl rfl 0 rfl ?_
    refine j_get C 28 55 rfl rfl fg_For_16 9 rfl rfl ?_
    refine j_iload C 29 57 rfl rfl 5 rfl ?_
    refine j_iald C 30 58 rfl rfl 12 0 rfl rfl h.1 ?_
    replace h := h.2
    refine j_iconst C 31 59 rfl rfl kI_1 ?_
    refine j_isub C 32 60 rfl rfl ?_
    refine j_mmax C 33 63 rfl rfl w557 w249 w10 w250 (Nat.le_of_ble_eq_true rfl) (Nat.le_of_ble_eq_true rfl) ⟨Nat.le_of_ble_eq_true rfl, Nat.le_of_ble_eq_true rfl⟩ ?_
    refine j_iast C 34 64 rfl rfl 12 0 rfl rfl h.1 (st S6 10 v5.toNatClampNeg (jmax 0 ((S6 10 v5.toNatClampNeg) - (1 : Int32)))) (sK_12 _ _ _ _ _ _ _) (fun S10 eS10 => ?_)
    replace h := h.2
    replace h := h S10 eS10
    exact j_vret C 35 rfl h
def wp_For_learn_22 (K : St → Prop) (S : St) (v1 : Int32) (v2 : Int32) (v3 : Int32) (v4 : Int32) (v5 : Int32) (k0 : Int32) : Prop := (if k0 = 0 then ((if v2 = 0 then (K S) else ((wp_For_learn_34 K S v1 v2 v3 v4 v5 k0)))) else ((wp_For_learn_34 K S v1 v2 v3 v4 v5 k0)))
set_option maxHeartbeats 4000000 in
set_option maxRecDepth 100000 in
theorem L_For_learn_22 {p : Program} {l : Launch} {e : Env} {s : State} {m : MethodId} {args : Array Value} {below : List Frame} {meth : Method} {c : Code} {A : Nat → Prop} {D : va_G} {h0 : Nat} {a : Nat → Nat} {cI cB : ClassId} {K : St → Prop} (C : CX p rm_For_learn s m args meth c b_For_learn 7 "PipelinedCore$Foreteller" none pr_For_learn D clK (tysK cI cB) A) (S : St) (v1 : Int32) (v2 : Int32) (v3 : Int32) (v4 : Int32) (v5 : Int32) (k0 : Int32) (h : wp_For_learn_22 K S v1 v2 v3 v4 v5 k0) : J p l e rm_For_learn s m args below meth c 7 D clK A 0 0 (MQ below (va_Qv K (fun u t => QK D clK (tysK cI cB) A (wsK h0 a cI cB u) t) A) args s 0 0 A) (wsK h0 a cI cB S) [(0, .ref (a 9)), (1, .int v1), (2, .int v2), (3, .int v3), (4, .int v4), (5, .int v5)] 22 [.int k0] := by
  unfold wp_For_learn_22 at h
  refine j_istore C 12 24 [(6, .int k0), (0, .ref (a 9)), (1, .int v1), (2, .int v2), (3, .int v3), (4, .int v4), (5, .int v5)] rfl rfl (by decide) rfl ?_
  refine j_iload C 13 26 rfl rfl 0 rfl ?_
  refine j_if_ne C 14 34 29 rfl (by decide) rfl (fun c4 => ?_) (fun c4 => ?_)
  · replace h := ite_f h c4
    refine j_sub [1, 2, 3, 4, 5, 6, 0] rfl ?_
    exact L_For_learn_34 C S v1 v2 v3 v4 v5 k0 h
  · replace h := ite_t h c4
    refine j_iload_n C 15 30 rfl rfl rfl 3 rfl ?_
    refine j_if_ne C 16 34 33 rfl (by decide) rfl (fun c5 => ?_) (fun c5 => ?_)
    · replace h := ite_f h c5
      refine j_sub [1, 2, 3, 4, 5, 6, 0] rfl ?_
      exact L_For_learn_34 C S v1 v2 v3 v4 v5 k0 h
    · replace h := ite_t h c5
      exact j_vret C 17 rfl h
def wp_For_learn (S : St) (p1 : Int32) (p2 : Int32) (p3 : Int32) (p4 : Int32) (K : St → Prop) : Prop := wp_For_entryFor S p1 (fun r2 S1 => (vp_in r2 12 ∧ ((if (S1 8 r2.toNatClampNeg) = p1 then ((wp_For_learn_22 K S1 p1 p2 p3 p4 r2 1)) else ((wp_For_learn_22 K S1 p1 p2 p3 p4 r2 0))))))
set_option maxHeartbeats 4000000 in
set_option maxRecDepth 100000 in
theorem c_For_learn (l : Launch) (D : va_G) (h0 : Nat) (a : Nat → Nat) (cI cB : ClassId) (S : St) (p1 : Int32) (p2 : Int32) (p3 : Int32) (p4 : Int32) (K : St → Prop) (h : wp_For_learn S p1 p2 p3 p4 K) (sz : Nat) : Met l y_For_learn (Cond.code y_For_learn b_For_learn 7 none :: gw) rm_For_learn (va_Pc [.ref (a 9), .int p1, .int p2, .int p3, .int p4] (PK D clK (tysK cI cB) (wsK h0 a cI cB S) sz)) (va_Qv K (fun u t => QK D clK (tysK cI cB) (va_A (wsK h0 a cI cB S) sz) (wsK h0 a cI cB u) t) (va_A (wsK h0 a cI cB S) sz)) 0 0 (va_A (wsK h0 a cI cB S) sz) := by
  refine met_of (rm := rm_For_learn) (pr := pr_For_learn) (Qc := fun A => va_Qv K (fun u t => QK D clK (tysK cI cB) A (wsK h0 a cI cB u) t) A) (by decide +kernel) dm_For_learn (Nat.le_of_ble_eq_true rfl) (fun p e s m args below meth c A C => ?_) sz
  unfold wp_For_learn at h
  show J p l e rm_For_learn s m args below meth c 7 D clK A 0 0 _ (wsK h0 a cI cB S) [(0, .ref (a 9)), (1, .int p1), (2, .int p2), (3, .int p3), (4, .int p4)] 0 []
  refine j_iload_n C 0 1 rfl rfl rfl 1 rfl ?_
  refine j_callSi C 1 4 rfl rfl w357 m_For_entryFor (As := [.int p1]) (c_For_entryFor l D h0 a cI cB S p1 _ h) ⟨rfl, rfl⟩ ⟨Nat.le_of_ble_eq_true rfl, Nat.le_of_ble_eq_true rfl⟩ rfl ⟨Nat.le_of_ble_eq_true rfl, Nat.le_of_ble_eq_true rfl⟩ (Nat.le_of_ble_eq_true rfl) rfl (fun r2 S1 h => ?_)
  refine j_istore C 2 6 [(5, .int r2), (0, .ref (a 9)), (1, .int p1), (2, .int p2), (3, .int p3), (4, .int p4)] rfl rfl (by decide) rfl ?_
  refine j_aload_n C 3 7 rfl rfl rfl 1 rfl ?_
  refine j_get C 4 10 rfl rfl fg_For_9 9 rfl rfl ?_
  refine j_iload C 5 12 rfl rfl 0 rfl ?_
  refine j_iald C 6 13 rfl rfl 10 0 rfl rfl h.1 ?_
  replace h := h.2
  refine j_iload_n C 7 14 rfl rfl rfl 2 rfl ?_
  refine j_icmp_ne C 8 21 17 rfl (by decide) rfl (fun c3 => ?_) (fun c3 => ?_)
  · replace h := ite_f h c3
    refine j_iconst C 11 22 rfl rfl kI_0 ?_
    refine j_sub [1, 2, 3, 4, 5, 0] rfl ?_
    exact L_For_learn_22 C S1 p1 p2 p3 p4 r2 0 h
  · replace h := ite_t h c3
    refine j_iconst C 9 18 rfl rfl kI_1 ?_
    refine j_goto C 10 22 rfl (by decide) ?_
    refine j_sub [1, 2, 3, 4, 5, 0] rfl ?_
    exact L_For_learn_22 C S1 p1 p2 p3 p4 r2 1 h
abbrev rm_K_goOn : Room := { frames := 3, cells := 0, slots := 0, locals := 69 }
def wp_K_goOn_97 (K : St → Prop) (S : St) (k0 : Int32) : Prop := wp_K_expect S (S 16 12) k0 (S 16 3) (fun S11 => (K S11))
set_option maxHeartbeats 4000000 in
set_option maxRecDepth 100000 in
theorem L_K_goOn_97 {p : Program} {l : Launch} {e : Env} {s : State} {m : MethodId} {args : Array Value} {below : List Frame} {meth : Method} {c : Code} {A : Nat → Prop} {D : va_G} {h0 : Nat} {a : Nat → Nat} {cI cB : ClassId} {K : St → Prop} (C : CX p rm_K_goOn s m args meth c b_K_goOn 4 "PipelinedCore" none pr_K_goOn D clK (tysK cI cB) A) (S : St) (k0 : Int32) (h : wp_K_goOn_97 K S k0) : J p l e rm_K_goOn s m args below meth c 4 D clK A 0 0 (MQ below (va_Qv K (fun u t => QK D clK (tysK cI cB) A (wsK h0 a cI cB u) t) A) args s 0 0 A) (wsK h0 a cI cB S) [(0, .ref h0), (1, .ref (a 18))] 97 [.int k0] := by
  unfold wp_K_goOn_97 at h
  refine j_istore_n C 47 98 [(3, .int k0), (0, .ref h0), (1, .ref (a 18))] rfl rfl rfl (by decide) rfl ?_
  refine j_aload_n C 48 99 rfl rfl rfl 1 rfl ?_
  refine j_aload_n C 49 100 rfl rfl rfl 2 rfl ?_
  refine j_get C 50 103 rfl rfl fg_K_249 18 rfl rfl ?_
  refine j_iload_n C 51 104 rfl rfl rfl 0 rfl ?_
  refine j_aload_n C 52 105 rfl rfl rfl 2 rfl ?_
  refine j_get C 53 108 rfl rfl fg_K_140 18 rfl rfl ?_
  refine j_callVv C 54 111 rfl rfl w345 m_K_expect (As := [.int (S 16 12), .int k0, .int (S 16 3)]) (c_K_expect l D h0 a cI cB S (S 16 12) k0 (S 16 3) _ h) ⟨rfl, rfl⟩ ⟨Nat.le_of_ble_eq_true rfl, Nat.le_of_ble_eq_true rfl⟩ 0 rfl rfl rfl ⟨Nat.le_of_ble_eq_true rfl, Nat.le_of_ble_eq_true rfl⟩ (Nat.le_of_ble_eq_true rfl) rfl (fun S11 h => ?_)
  exact j_vret C 55 rfl h
def wp_K_goOn_91 (K : St → Prop) (S : St)  : Prop := (wp_K_goOn_97 K S ((S 0 10) + (1 : Int32)))
set_option maxHeartbeats 4000000 in
set_option maxRecDepth 100000 in
theorem L_K_goOn_91 {p : Program} {l : Launch} {e : Env} {s : State} {m : MethodId} {args : Array Value} {below : List Frame} {meth : Method} {c : Code} {A : Nat → Prop} {D : va_G} {h0 : Nat} {a : Nat → Nat} {cI cB : ClassId} {K : St → Prop} (C : CX p rm_K_goOn s m args meth c b_K_goOn 4 "PipelinedCore" none pr_K_goOn D clK (tysK cI cB) A) (S : St)  (h : wp_K_goOn_91 K S) : J p l e rm_K_goOn s m args below meth c 4 D clK A 0 0 (MQ below (va_Qv K (fun u t => QK D clK (tysK cI cB) A (wsK h0 a cI cB u) t) A) args s 0 0 A) (wsK h0 a cI cB S) [(0, .ref h0), (1, .ref (a 18))] 91 [] := by
  unfold wp_K_goOn_91 at h
  refine j_aload_n C 43 92 rfl rfl rfl 0 rfl ?_
  refine j_get C 44 95 rfl rfl fg_K_70 0 rfl rfl ?_
  refine j_iconst C 45 96 rfl rfl kI_1 ?_
  refine j_iadd C 46 97 rfl rfl ?_
  exact L_K_goOn_97 C S ((S 0 10) + (1 : Int32)) h
def wp_K_goOn_70 (K : St → Prop) (S : St) (v2 : Int32) : Prop := (if v2 = 0 then ((wp_K_goOn_91 K S)) else ((if (S 16 14) = 0 then ((wp_K_goOn_97 K S (S 15 10))) else ((wp_K_goOn_91 K S)))))
set_option maxHeartbeats 4000000 in
set_option maxRecDepth 100000 in
theorem L_K_goOn_70 {p : Program} {l : Launch} {e : Env} {s : State} {m : MethodId} {args : Array Value} {below : List Frame} {meth : Method} {c : Code} {A : Nat → Prop} {D : va_G} {h0 : Nat} {a : Nat → Nat} {cI cB : ClassId} {K : St → Prop} (C : CX p rm_K_goOn s m args meth c b_K_goOn 4 "PipelinedCore" none pr_K_goOn D clK (tysK cI cB) A) (S : St) (v2 : Int32) (h : wp_K_goOn_70 K S v2) : J p l e rm_K_goOn s m args below meth c 4 D clK A 0 0 (MQ below (va_Qv K (fun u t => QK D clK (tysK cI cB) A (wsK h0 a cI cB u) t) A) args s 0 0 A) (wsK h0 a cI cB S) [(0, .ref h0), (1, .ref (a 18)), (2, .int v2)] 70 [] := by
  unfold wp_K_goOn_70 at h
  refine j_iload_n C 34 71 rfl rfl rfl 2 rfl ?_
  refine j_if_eq C 35 91 74 rfl (by decide) rfl (fun c9 => ?_) (fun c9 => ?_)
  · replace h := ite_t h c9
    refine j_sub [0, 1] rfl ?_
    exact L_K_goOn_91 C S h
  · replace h := ite_f h c9
    refine j_aload_n C 36 75 rfl rfl rfl 1 rfl ?_
    refine j_get C 37 78 rfl rfl fg_K_266 18 rfl rfl ?_
    refine j_if_ne C 38 91 81 rfl (by decide) rfl (fun c10 => ?_) (fun c10 => ?_)
    · replace h := ite_f h c10
      refine j_sub [0, 1] rfl ?_
      exact L_K_goOn_91 C S h
    · replace h := ite_t h c10
      refine j_aload_n C 39 82 rfl rfl rfl 0 rfl ?_
      refine j_get C 40 85 rfl rfl fg_K_47 0 rfl rfl ?_
      refine j_get C 41 88 rfl rfl fg_K_269 17 rfl rfl ?_
      refine j_goto C 42 97 rfl (by decide) ?_
      refine j_sub [0, 1] rfl ?_
      exact L_K_goOn_97 C S (S 15 10) h
def wp_K_goOn_19 (K : St → Prop) (S : St) (k0 : Int32) : Prop := wp_Ins_mayJump S (fun r3 S2 => ((if r3 = 0 then ((wp_K_goOn_70 K S2 k0)) else (wp_For_learn S2 (S2 15 0) (S2 16 13) (S2 16 12) (S2 0 10) (fun S5 => ((if k0 = 0 then (∀ S8 : St, S8 = st S5 0 16 ((S5 0 16) + (1 : Int32)) → ((wp_K_goOn_70 K S8 k0))) else ((wp_K_goOn_70 K S5 k0)))))))))
set_option maxHeartbeats 4000000 in
set_option maxRecDepth 100000 in
theorem L_K_goOn_19 {p : Program} {l : Launch} {e : Env} {s : State} {m : MethodId} {args : Array Value} {below : List Frame} {meth : Method} {c : Code} {A : Nat → Prop} {D : va_G} {h0 : Nat} {a : Nat → Nat} {cI cB : ClassId} {K : St → Prop} (C : CX p rm_K_goOn s m args meth c b_K_goOn 4 "PipelinedCore" none pr_K_goOn D clK (tysK cI cB) A) (S : St) (k0 : Int32) (h : wp_K_goOn_19 K S k0) : J p l e rm_K_goOn s m args below meth c 4 D clK A 0 0 (MQ below (va_Qv K (fun u t => QK D clK (tysK cI cB) A (wsK h0 a cI cB u) t) A) args s 0 0 A) (wsK h0 a cI cB S) [(0, .ref h0), (1, .ref (a 18))] 19 [.int k0] := by
  unfold wp_K_goOn_19 at h
  refine j_istore_n C 9 20 [(2, .int k0), (0, .ref h0), (1, .ref (a 18))] rfl rfl rfl (by decide) rfl ?_
  refine j_aload_n C 10 21 rfl rfl rfl 1 rfl ?_
  refine j_get C 11 24 rfl rfl fg_K_47 0 rfl rfl ?_
  refine j_callVi C 12 27 rfl rfl w545 m_Ins_mayJump (As := []) (c_Ins_mayJump l D h0 a cI cB S _ h) ⟨rfl, rfl⟩ ⟨Nat.le_of_ble_eq_true rfl, Nat.le_of_ble_eq_true rfl⟩ 17 rfl rfl rfl ⟨Nat.le_of_ble_eq_true rfl, Nat.le_of_ble_eq_true rfl⟩ (Nat.le_of_ble_eq_true rfl) rfl (fun r3 S2 h => ?_)
  refine j_if_eq C 13 70 30 rfl (by decide) rfl (fun c4 => ?_) (fun c4 => ?_)
  · replace h := ite_t h c4
    refine j_sub [1, 2, 0] rfl ?_
    exact L_K_goOn_70 C S2 k0 h
  · replace h := ite_f h c4
    refine j_aload_n C 14 31 rfl rfl rfl 1 rfl ?_
    refine j_get C 15 34 rfl rfl fg_K_33 0 rfl rfl ?_
    refine j_aload_n C 16 35 rfl rfl rfl 1 rfl ?_
    refine j_get C 17 38 rfl rfl fg_K_47 0 rfl rfl ?_
    refine j_get C 18 41 rfl rfl fg_K_180 17 rfl rfl ?_
    refine j_aload_n C 19 42 rfl rfl rfl 2 rfl ?_
    refine j_get C 20 45 rfl rfl fg_K_259 18 rfl rfl ?_
    refine j_aload_n C 21 46 rfl rfl rfl 2 rfl ?_
    refine j_get C 22 49 rfl rfl fg_K_249 18 rfl rfl ?_
    refine j_aload_n C 23 50 rfl rfl rfl 1 rfl ?_
    refine j_get C 24 53 rfl rfl fg_K_70 0 rfl rfl ?_
    refine j_callVv C 25 56 rfl rfl w549 m_For_learn (As := [.int (S2 15 0), .int (S2 16 13), .int (S2 16 12), .int (S2 0 10)]) (c_For_learn l D h0 a cI cB S2 (S2 15 0) (S2 16 13) (S2 16 12) (S2 0 10) _ h) ⟨rfl, rfl⟩ ⟨Nat.le_of_ble_eq_true rfl, Nat.le_of_ble_eq_true rfl⟩ 9 rfl rfl rfl ⟨Nat.le_of_ble_eq_true rfl, Nat.le_of_ble_eq_true rfl⟩ (Nat.le_of_ble_eq_true rfl) rfl (fun S5 h => ?_)
    refine j_iload_n C 26 57 rfl rfl rfl 0 rfl ?_
    refine j_if_ne C 27 70 60 rfl (by decide) rfl (fun c7 => ?_) (fun c7 => ?_)
    · replace h := ite_f h c7
      refine j_sub [1, 2, 0] rfl ?_
      exact L_K_goOn_70 C S5 k0 h
    · replace h := ite_t h c7
      refine j_aload_n C 28 61 rfl rfl rfl 1 rfl ?_
      refine j_dup C 29 62 rfl rfl rfl ?_
      refine j_get C 30 65 rfl rfl fg_K_130 0 rfl rfl ?_
      refine j_iconst C 31 66 rfl rfl kI_1 ?_
      refine j_iadd C 32 67 rfl rfl ?_
      refine j_put C 33 70 rfl rfl fp_K_130 0 rfl (Nat.le_of_ble_eq_true rfl) rfl rfl (st S5 0 16 ((S5 0 16) + (1 : Int32))) (sK_0_16 _ _ _ _ _ _) (fun S8 eS8 => ?_)
      replace h := h S8 eS8
      refine j_sub [1, 2, 0] rfl ?_
      exact L_K_goOn_70 C S8 k0 h
def wp_K_goOn (S : St)  (K : St → Prop) : Prop := (if (S 16 12) = (S 15 9) then ((wp_K_goOn_19 K S 1)) else ((wp_K_goOn_19 K S 0)))
set_option maxHeartbeats 4000000 in
set_option maxRecDepth 100000 in
theorem c_K_goOn (l : Launch) (D : va_G) (h0 : Nat) (a : Nat → Nat) (cI cB : ClassId) (S : St)  (K : St → Prop) (h : wp_K_goOn S K) (sz : Nat) : Met l y_K_goOn (Cond.code y_K_goOn b_K_goOn 4 none :: gw) rm_K_goOn (va_Pc [.ref h0, .ref (a 18)] (PK D clK (tysK cI cB) (wsK h0 a cI cB S) sz)) (va_Qv K (fun u t => QK D clK (tysK cI cB) (va_A (wsK h0 a cI cB S) sz) (wsK h0 a cI cB u) t) (va_A (wsK h0 a cI cB S) sz)) 0 0 (va_A (wsK h0 a cI cB S) sz) := by
  refine met_of (rm := rm_K_goOn) (pr := pr_K_goOn) (Qc := fun A => va_Qv K (fun u t => QK D clK (tysK cI cB) A (wsK h0 a cI cB u) t) A) (by decide +kernel) dm_K_goOn (Nat.le_of_ble_eq_true rfl) (fun p e s m args below meth c A C => ?_) sz
  unfold wp_K_goOn at h
  show J p l e rm_K_goOn s m args below meth c 4 D clK A 0 0 _ (wsK h0 a cI cB S) [(0, .ref h0), (1, .ref (a 18))] 0 []
  refine j_aload_n C 0 1 rfl rfl rfl 1 rfl ?_
  refine j_get C 1 4 rfl rfl fg_K_249 18 rfl rfl ?_
  refine j_aload_n C 2 5 rfl rfl rfl 0 rfl ?_
  refine j_get C 3 8 rfl rfl fg_K_47 0 rfl rfl ?_
  refine j_get C 4 11 rfl rfl fg_K_252 17 rfl rfl ?_
  refine j_icmp_ne C 5 18 14 rfl (by decide) rfl (fun c1 => ?_) (fun c1 => ?_)
  · replace h := ite_f h c1
    refine j_iconst C 8 19 rfl rfl kI_0 ?_
    exact L_K_goOn_19 C S 0 h
  · replace h := ite_t h c1
    refine j_iconst C 6 15 rfl rfl kI_1 ?_
    refine j_goto C 7 19 rfl (by decide) ?_
    exact L_K_goOn_19 C S 1 h
abbrev rm_K_begin : Room := { frames := 4, cells := 0, slots := 0, locals := 93 }
def wp_K_begin_124 (K : St → Prop) (S : St)  : Prop := (if (S 16 15) = 0 then (wp_K_setTimes S (fun S21 => (wp_K_goOn S21 (fun S23 => (K S23))))) else (∀ S25 : St, S25 = st S 0 14 ((S 0 14) + (1 : Int32)) → (wp_Con_enterTrap S25 (S25 15 0) (S25 16 16) (S25 16 17) (fun r27 S26 => (wp_K_expect S26 r27 ((S26 0 10) + (1 : Int32)) ((S26 0 10) + (1 : Int32)) (fun S28 => (K S28)))))))
set_option maxHeartbeats 4000000 in
set_option maxRecDepth 100000 in
theorem L_K_begin_124 {p : Program} {l : Launch} {e : Env} {s : State} {m : MethodId} {args : Array Value} {below : List Frame} {meth : Method} {c : Code} {A : Nat → Prop} {D : va_G} {h0 : Nat} {a : Nat → Nat} {cI cB : ClassId} {K : St → Prop} (C : CX p rm_K_begin s m args meth c b_K_begin 4 "PipelinedCore" none pr_K_begin D clK (tysK cI cB) A) (S : St)  (h : wp_K_begin_124 K S) : J p l e rm_K_begin s m args below meth c 4 D clK A 0 0 (MQ below (va_Qv K (fun u t => QK D clK (tysK cI cB) A (wsK h0 a cI cB u) t) A) args s 0 0 A) (wsK h0 a cI cB S) [(0, .ref h0), (1, .ref (a 18))] 124 [] := by
  unfold wp_K_begin_124 at h
  refine j_aload_n C 62 125 rfl rfl rfl 1 rfl ?_
  refine j_get C 63 128 rfl rfl fg_K_212 18 rfl rfl ?_
  refine j_if_eq C 64 182 131 rfl (by decide) rfl (fun c20 => ?_) (fun c20 => ?_)
  · replace h := ite_t h c20
    refine j_aload_n C 94 183 rfl rfl rfl 0 rfl ?_
    refine j_aload_n C 95 184 rfl rfl rfl 1 rfl ?_
    refine j_callVv C 96 187 rfl rfl w533 m_K_setTimes (As := [.ref (a 18)]) (c_K_setTimes l D h0 a cI cB S _ h) ⟨rfl, rfl⟩ ⟨Nat.le_of_ble_eq_true rfl, Nat.le_of_ble_eq_true rfl⟩ 0 rfl rfl rfl ⟨Nat.le_of_ble_eq_true rfl, Nat.le_of_ble_eq_true rfl⟩ (Nat.le_of_ble_eq_true rfl) rfl (fun S21 h => ?_)
    refine j_aload_n C 97 188 rfl rfl rfl 0 rfl ?_
    refine j_aload_n C 98 189 rfl rfl rfl 1 rfl ?_
    refine j_callVv C 99 192 rfl rfl w541 m_K_goOn (As := [.ref (a 18)]) (c_K_goOn l D h0 a cI cB S21 _ h) ⟨rfl, rfl⟩ ⟨Nat.le_of_ble_eq_true rfl, Nat.le_of_ble_eq_true rfl⟩ 0 rfl rfl rfl ⟨Nat.le_of_ble_eq_true rfl, Nat.le_of_ble_eq_true rfl⟩ (Nat.le_of_ble_eq_true rfl) rfl (fun S23 h => ?_)
    exact j_vret C 100 rfl h
  · replace h := ite_f h c20
    refine j_aload_n C 65 132 rfl rfl rfl 0 rfl ?_
    refine j_dup C 66 133 rfl rfl rfl ?_
    refine j_get C 67 136 rfl rfl fg_K_124 0 rfl rfl ?_
    refine j_iconst C 68 137 rfl rfl kI_1 ?_
    refine j_iadd C 69 138 rfl rfl ?_
    refine j_put C 70 141 rfl rfl fp_K_124 0 rfl (Nat.le_of_ble_eq_true rfl) rfl rfl (st S 0 14 ((S 0 14) + (1 : Int32))) (sK_0_14 _ _ _ _ _ _) (fun S25 eS25 => ?_)
    replace h := h S25 eS25
    refine j_aload_n C 71 142 rfl rfl rfl 0 rfl ?_
    refine j_get C 72 145 rfl rfl fg_K_19 0 rfl rfl ?_
    refine j_aload_n C 73 146 rfl rfl rfl 0 rfl ?_
    refine j_get C 74 149 rfl rfl fg_K_47 0 rfl rfl ?_
    refine j_get C 75 152 rfl rfl fg_K_180 17 rfl rfl ?_
    refine j_aload_n C 76 153 rfl rfl rfl 1 rfl ?_
    refine j_get C 77 156 rfl rfl fg_K_215 18 rfl rfl ?_
    refine j_aload_n C 78 157 rfl rfl rfl 1 rfl ?_
    refine j_get C 79 160 rfl rfl fg_K_218 18 rfl rfl ?_
    refine j_callVi C 80 163 rfl rfl w532 m_Con_enterTrap (As := [.int (S25 15 0), .int (S25 16 16), .int (S25 16 17)]) (c_Con_enterTrap l D h0 a cI cB S25 (S25 15 0) (S25 16 16) (S25 16 17) _ h) ⟨rfl, rfl⟩ ⟨Nat.le_of_ble_eq_true rfl, Nat.le_of_ble_eq_true rfl⟩ 3 rfl rfl rfl ⟨Nat.le_of_ble_eq_true rfl, Nat.le_of_ble_eq_true rfl⟩ (Nat.le_of_ble_eq_true rfl) rfl (fun r27 S26 h => ?_)
    refine j_istore_n C 81 164 [(3, .int r27), (0, .ref h0), (1, .ref (a 18))] rfl rfl rfl (by decide) rfl ?_
    refine j_aload_n C 82 165 rfl rfl rfl 1 rfl ?_
    refine j_iload_n C 83 166 rfl rfl rfl 0 rfl ?_
    refine j_aload_n C 84 167 rfl rfl rfl 1 rfl ?_
    refine j_get C 85 170 rfl rfl fg_K_70 0 rfl rfl ?_
    refine j_iconst C 86 171 rfl rfl kI_1 ?_
    refine j_iadd C 87 172 rfl rfl ?_
    refine j_aload_n C 88 173 rfl rfl rfl 1 rfl ?_
    refine j_get C 89 176 rfl rfl fg_K_70 0 rfl rfl ?_
    refine j_iconst C 90 177 rfl rfl kI_1 ?_
    refine j_iadd C 91 178 rfl rfl ?_
    refine j_callVv C 92 181 rfl rfl w345 m_K_expect (As := [.int r27, .int ((S26 0 10) + (1 : Int32)), .int ((S26 0 10) + (1 : Int32))]) (c_K_expect l D h0 a cI cB S26 r27 ((S26 0 10) + (1 : Int32)) ((S26 0 10) + (1 : Int32)) _ h) ⟨rfl, rfl⟩ ⟨Nat.le_of_ble_eq_true rfl, Nat.le_of_ble_eq_true rfl⟩ 0 rfl rfl rfl ⟨Nat.le_of_ble_eq_true rfl, Nat.le_of_ble_eq_true rfl⟩ (Nat.le_of_ble_eq_true rfl) rfl (fun S28 h => ?_)
    exact j_vret C 93 rfl h
def wp_K_begin (S : St)  (K : St → Prop) : Prop := wp_Eff_reset S (S 15 0) (fun S1 => (wp_Con_dueLine S1 (fun r4 S3 => ((if r4 = 0 then ((if (S3 15 1) = 0 then (wp_Eff_trap S3 1 (S3 15 0) (fun S7 => ((wp_K_begin_124 K S7)))) else (wp_K_operand S3 (S3 15 6) (fun r10 S9 => (wp_K_operand S9 (S9 15 7) (fun r12 S11 => (wp_Exe_perform S11 r10 r12 (fun S13 => ((wp_K_begin_124 K S13)))))))))) else (∀ S15 : St, S15 = st S3 0 15 ((S3 0 15) + (1 : Int32)) → (wp_Con_enterInterrupt S15 (S15 15 0) r4 (fun r17 S16 => (wp_K_expect S16 r17 ((S16 0 10) + (1 : Int32)) ((S16 0 10) + (1 : Int32)) (fun S18 => (K S18)))))))))))
set_option maxHeartbeats 4000000 in
set_option maxRecDepth 100000 in
theorem c_K_begin (l : Launch) (D : va_G) (h0 : Nat) (a : Nat → Nat) (cI cB : ClassId) (S : St)  (K : St → Prop) (h : wp_K_begin S K) (sz : Nat) : Met l y_K_begin (Cond.code y_K_begin b_K_begin 4 none :: gw) rm_K_begin (va_Pc [.ref h0, .ref (a 18)] (PK D clK (tysK cI cB) (wsK h0 a cI cB S) sz)) (va_Qv K (fun u t => QK D clK (tysK cI cB) (va_A (wsK h0 a cI cB S) sz) (wsK h0 a cI cB u) t) (va_A (wsK h0 a cI cB S) sz)) 0 0 (va_A (wsK h0 a cI cB S) sz) := by
  refine met_of (rm := rm_K_begin) (pr := pr_K_begin) (Qc := fun A => va_Qv K (fun u t => QK D clK (tysK cI cB) A (wsK h0 a cI cB u) t) A) (by decide +kernel) dm_K_begin (Nat.le_of_ble_eq_true rfl) (fun p e s m args below meth c A C => ?_) sz
  unfold wp_K_begin at h
  show J p l e rm_K_begin s m args below meth c 4 D clK A 0 0 _ (wsK h0 a cI cB S) [(0, .ref h0), (1, .ref (a 18))] 0 []
  refine j_aload_n C 0 1 rfl rfl rfl 1 rfl ?_
  refine j_aload_n C 1 2 rfl rfl rfl 0 rfl ?_
  refine j_get C 2 5 rfl rfl fg_K_47 0 rfl rfl ?_
  refine j_get C 3 8 rfl rfl fg_K_180 17 rfl rfl ?_
  refine j_callVv C 4 11 rfl rfl w410 m_Eff_reset (As := [.int (S 15 0)]) (c_Eff_reset l D h0 a cI cB S (S 15 0) _ h) ⟨rfl, rfl⟩ ⟨Nat.le_of_ble_eq_true rfl, Nat.le_of_ble_eq_true rfl⟩ 18 rfl rfl rfl ⟨Nat.le_of_ble_eq_true rfl, Nat.le_of_ble_eq_true rfl⟩ (Nat.le_of_ble_eq_true rfl) rfl (fun S1 h => ?_)
  refine j_aload_n C 5 12 rfl rfl rfl 0 rfl ?_
  refine j_get C 6 15 rfl rfl fg_K_19 0 rfl rfl ?_
  refine j_callVi C 7 18 rfl rfl w414 m_Con_dueLine (As := []) (c_Con_dueLine l D h0 a cI cB S1 _ h) ⟨rfl, rfl⟩ ⟨Nat.le_of_ble_eq_true rfl, Nat.le_of_ble_eq_true rfl⟩ 3 rfl rfl rfl ⟨Nat.le_of_ble_eq_true rfl, Nat.le_of_ble_eq_true rfl⟩ (Nat.le_of_ble_eq_true rfl) rfl (fun r4 S3 h => ?_)
  refine j_istore_n C 8 19 [(2, .int r4), (0, .ref h0), (1, .ref (a 18))] rfl rfl rfl (by decide) rfl ?_
  refine j_iload_n C 9 20 rfl rfl rfl 0 rfl ?_
  refine j_if_eq C 10 65 23 rfl (by decide) rfl (fun c5 => ?_) (fun c5 => ?_)
  · replace h := ite_t h c5
    refine j_aload_n C 35 66 rfl rfl rfl 1 rfl ?_
    refine j_get C 36 69 rfl rfl fg_K_47 0 rfl rfl ?_
    refine j_get C 37 72 rfl rfl fg_K_191 17 rfl rfl ?_
    refine j_if_eq C 38 112 75 rfl (by decide) rfl (fun c6 => ?_) (fun c6 => ?_)
    · replace h := ite_t h c6
      refine j_aload_n C 56 113 rfl rfl rfl 2 rfl ?_
      refine j_iconst C 57 114 rfl rfl kI_1 ?_
      refine j_aload_n C 58 115 rfl rfl rfl 1 rfl ?_
      refine j_get C 59 118 rfl rfl fg_K_47 0 rfl rfl ?_
      refine j_get C 60 121 rfl rfl fg_K_180 17 rfl rfl ?_
      refine j_callVv C 61 124 rfl rfl w531 m_Eff_trap (As := [.int 1, .int (S3 15 0)]) (c_Eff_trap l D h0 a cI cB S3 1 (S3 15 0) _ h) ⟨rfl, rfl⟩ ⟨Nat.le_of_ble_eq_true rfl, Nat.le_of_ble_eq_true rfl⟩ 18 rfl rfl rfl ⟨Nat.le_of_ble_eq_true rfl, Nat.le_of_ble_eq_true rfl⟩ (Nat.le_of_ble_eq_true rfl) rfl (fun S7 h => ?_)
      refine j_sub [1, 2] rfl ?_
      exact L_K_begin_124 C S7 h
    · replace h := ite_f h c6
      refine j_aload_n C 39 76 rfl rfl rfl 1 rfl ?_
      refine j_get C 40 79 rfl rfl fg_K_47 0 rfl rfl ?_
      refine j_aload_n C 41 80 rfl rfl rfl 1 rfl ?_
      refine j_aload_n C 42 81 rfl rfl rfl 1 rfl ?_
      refine j_get C 43 84 rfl rfl fg_K_47 0 rfl rfl ?_
      refine j_get C 44 87 rfl rfl fg_K_194 17 rfl rfl ?_
      refine j_callVi C 45 90 rfl rfl w427 m_K_operand (As := [.int (S3 15 6)]) (c_K_operand l D h0 a cI cB S3 (S3 15 6) _ h) ⟨rfl, rfl⟩ ⟨Nat.le_of_ble_eq_true rfl, Nat.le_of_ble_eq_true rfl⟩ 0 rfl rfl rfl ⟨Nat.le_of_ble_eq_true rfl, Nat.le_of_ble_eq_true rfl⟩ (Nat.le_of_ble_eq_true rfl) rfl (fun r10 S9 h => ?_)
      refine j_aload_n C 46 91 rfl rfl rfl 1 rfl ?_
      refine j_aload_n C 47 92 rfl rfl rfl 1 rfl ?_
      refine j_get C 48 95 rfl rfl fg_K_47 0 rfl rfl ?_
      refine j_get C 49 98 rfl rfl fg_K_200 17 rfl rfl ?_
      refine j_callVi C 50 101 rfl rfl w427 m_K_operand (As := [.int (S9 15 7)]) (c_K_operand l D h0 a cI cB S9 (S9 15 7) _ h) ⟨rfl, rfl⟩ ⟨Nat.le_of_ble_eq_true rfl, Nat.le_of_ble_eq_true rfl⟩ 0 rfl rfl rfl ⟨Nat.le_of_ble_eq_true rfl, Nat.le_of_ble_eq_true rfl⟩ (Nat.le_of_ble_eq_true rfl) rfl (fun r12 S11 h => ?_)
      refine j_aload_n C 51 102 rfl rfl rfl 1 rfl ?_
      refine j_get C 52 105 rfl rfl fg_K_19 0 rfl rfl ?_
      refine j_aload_n C 53 106 rfl rfl rfl 2 rfl ?_
      refine j_callSv C 54 109 rfl rfl w431 m_Exe_perform (As := [.ref (a 17), .int r10, .int r12, .ref (a 3), .ref (a 18)]) (c_Exe_perform l D h0 a cI cB S11 r10 r12 _ h) ⟨rfl, rfl⟩ ⟨Nat.le_of_ble_eq_true rfl, Nat.le_of_ble_eq_true rfl⟩ rfl ⟨Nat.le_of_ble_eq_true rfl, Nat.le_of_ble_eq_true rfl⟩ (Nat.le_of_ble_eq_true rfl) rfl (fun S13 h => ?_)
      refine j_goto C 55 124 rfl (by decide) ?_
      refine j_sub [1, 2] rfl ?_
      exact L_K_begin_124 C S13 h
  · replace h := ite_f h c5
    refine j_aload_n C 11 24 rfl rfl rfl 1 rfl ?_
    refine j_dup C 12 25 rfl rfl rfl ?_
    refine j_get C 13 28 rfl rfl fg_K_127 0 rfl rfl ?_
    refine j_iconst C 14 29 rfl rfl kI_1 ?_
    refine j_iadd C 15 30 rfl rfl ?_
    refine j_put C 16 33 rfl rfl fp_K_127 0 rfl (Nat.le_of_ble_eq_true rfl) rfl rfl (st S3 0 15 ((S3 0 15) + (1 : Int32))) (sK_0_15 _ _ _ _ _ _) (fun S15 eS15 => ?_)
    replace h := h S15 eS15
    refine j_aload_n C 17 34 rfl rfl rfl 1 rfl ?_
    refine j_aload_n C 18 35 rfl rfl rfl 1 rfl ?_
    refine j_get C 19 38 rfl rfl fg_K_19 0 rfl rfl ?_
    refine j_aload_n C 20 39 rfl rfl rfl 1 rfl ?_
    refine j_get C 21 42 rfl rfl fg_K_47 0 rfl rfl ?_
    refine j_get C 22 45 rfl rfl fg_K_180 17 rfl rfl ?_
    refine j_iload_n C 23 46 rfl rfl rfl 0 rfl ?_
    refine j_callVi C 24 49 rfl rfl w418 m_Con_enterInterrupt (As := [.int (S15 15 0), .int r4]) (c_Con_enterInterrupt l D h0 a cI cB S15 (S15 15 0) r4 _ h) ⟨rfl, rfl⟩ ⟨Nat.le_of_ble_eq_true rfl, Nat.le_of_ble_eq_true rfl⟩ 3 rfl rfl rfl ⟨Nat.le_of_ble_eq_true rfl, Nat.le_of_ble_eq_true rfl⟩ (Nat.le_of_ble_eq_true rfl) rfl (fun r17 S16 h => ?_)
    refine j_aload_n C 25 50 rfl rfl rfl 1 rfl ?_
    refine j_get C 26 53 rfl rfl fg_K_70 0 rfl rfl ?_
    refine j_iconst C 27 54 rfl rfl kI_1 ?_
    refine j_iadd C 28 55 rfl rfl ?_
    refine j_aload_n C 29 56 rfl rfl rfl 1 rfl ?_
    refine j_get C 30 59 rfl rfl fg_K_70 0 rfl rfl ?_
    refine j_iconst C 31 60 rfl rfl kI_1 ?_
    refine j_iadd C 32 61 rfl rfl ?_
    refine j_callVv C 33 64 rfl rfl w345 m_K_expect (As := [.int r17, .int ((S16 0 10) + (1 : Int32)), .int ((S16 0 10) + (1 : Int32))]) (c_K_expect l D h0 a cI cB S16 r17 ((S16 0 10) + (1 : Int32)) ((S16 0 10) + (1 : Int32)) _ h) ⟨rfl, rfl⟩ ⟨Nat.le_of_ble_eq_true rfl, Nat.le_of_ble_eq_true rfl⟩ 0 rfl rfl rfl ⟨Nat.le_of_ble_eq_true rfl, Nat.le_of_ble_eq_true rfl⟩ (Nat.le_of_ble_eq_true rfl) rfl (fun S18 h => ?_)
    exact j_vret C 34 rfl h
abbrev rm_K_makeCycle : Room := { frames := 5, cells := 0, slots := 0, locals := 116 }
def wp_K_makeCycle_92 (K : St → Prop) (S : St)  : Prop := K S
set_option maxHeartbeats 4000000 in
set_option maxRecDepth 100000 in
theorem L_K_makeCycle_92 {p : Program} {l : Launch} {e : Env} {s : State} {m : MethodId} {args : Array Value} {below : List Frame} {meth : Method} {c : Code} {A : Nat → Prop} {D : va_G} {h0 : Nat} {cI cB : ClassId} {K : St → Prop} (C : CX p rm_K_makeCycle s m args meth c b_K_makeCycle 1 "PipelinedCore" none pr_K_makeCycle D clK (tysK cI cB) A) (a : Nat → Nat) (S : St)  (h : wp_K_makeCycle_92 K S) : J p l e rm_K_makeCycle s m args below meth c 1 D clK A 0 0 (MQ below (va_Qv (fun u : (Nat → Nat) × St => K u.2) (fun u t => QK D clK (tysK cI cB) A (wsK h0 u.1 cI cB u.2) t) A) args s 0 0 A) (wsK h0 a cI cB S) [] 92 [] := by
  unfold wp_K_makeCycle_92 at h
  exact j_vret C 42 rfl (F := fun u : (Nat → Nat) × St => wsK h0 u.1 cI cB u.2) (S := (a, S)) h
def wp_K_makeCycle_70 (K : St → Prop) (S : St)  : Prop := (if (S 15 11) = (S 0 10) then (wp_K_begin S (fun S12 => ((wp_K_makeCycle_92 K S12)))) else ((wp_K_makeCycle_92 K S)))
set_option maxHeartbeats 4000000 in
set_option maxRecDepth 100000 in
theorem L_K_makeCycle_70 {p : Program} {l : Launch} {e : Env} {s : State} {m : MethodId} {args : Array Value} {below : List Frame} {meth : Method} {c : Code} {A : Nat → Prop} {D : va_G} {h0 : Nat} {cI cB : ClassId} {K : St → Prop} (C : CX p rm_K_makeCycle s m args meth c b_K_makeCycle 1 "PipelinedCore" none pr_K_makeCycle D clK (tysK cI cB) A) (a : Nat → Nat) (S : St)  (h : wp_K_makeCycle_70 K S) : J p l e rm_K_makeCycle s m args below meth c 1 D clK A 0 0 (MQ below (va_Qv (fun u : (Nat → Nat) × St => K u.2) (fun u t => QK D clK (tysK cI cB) A (wsK h0 u.1 cI cB u.2) t) A) args s 0 0 A) (wsK h0 a cI cB S) [(0, .ref h0)] 70 [] := by
  unfold wp_K_makeCycle_70 at h
  refine j_aload_n C 32 71 rfl rfl rfl 0 rfl ?_
  refine j_get C 33 74 rfl rfl fg_K_47 0 rfl rfl ?_
  refine j_get C 34 77 rfl rfl fg_K_146 17 rfl rfl ?_
  refine j_aload_n C 35 78 rfl rfl rfl 0 rfl ?_
  refine j_get C 36 81 rfl rfl fg_K_70 0 rfl rfl ?_
  refine j_icmp_ne C 37 92 84 rfl (by decide) rfl (fun c11 => ?_) (fun c11 => ?_)
  · replace h := ite_f h c11
    refine j_sub [] rfl ?_
    exact L_K_makeCycle_92 C a S h
  · replace h := ite_t h c11
    refine j_aload_n C 38 85 rfl rfl rfl 0 rfl ?_
    refine j_aload_n C 39 86 rfl rfl rfl 0 rfl ?_
    refine j_get C 40 89 rfl rfl fg_K_54 0 rfl rfl ?_
    refine j_callVv C 41 92 rfl rfl w406 m_K_begin (As := [.ref (a 18)]) (c_K_begin l D h0 a cI cB S _ h) ⟨rfl, rfl⟩ ⟨Nat.le_of_ble_eq_true rfl, Nat.le_of_ble_eq_true rfl⟩ 0 rfl rfl rfl ⟨Nat.le_of_ble_eq_true rfl, Nat.le_of_ble_eq_true rfl⟩ (Nat.le_of_ble_eq_true rfl) rfl (fun S12 h => ?_)
    refine j_sub [] rfl ?_
    exact L_K_makeCycle_92 C a S12 h
def wp_K_makeCycle_42 (K : St → Prop) (S : St)  : Prop := (if (S 16 0) = 0 then ((wp_K_makeCycle_70 K S)) else ((if (S 16 3) = (S 0 10) then (wp_K_moveToMemory S (fun S8 => ((wp_K_makeCycle_70 K S8)))) else ((wp_K_makeCycle_70 K S)))))
set_option maxHeartbeats 4000000 in
set_option maxRecDepth 100000 in
theorem L_K_makeCycle_42 {p : Program} {l : Launch} {e : Env} {s : State} {m : MethodId} {args : Array Value} {below : List Frame} {meth : Method} {c : Code} {A : Nat → Prop} {D : va_G} {h0 : Nat} {cI cB : ClassId} {K : St → Prop} (C : CX p rm_K_makeCycle s m args meth c b_K_makeCycle 1 "PipelinedCore" none pr_K_makeCycle D clK (tysK cI cB) A) (a : Nat → Nat) (S : St)  (h : wp_K_makeCycle_42 K S) : J p l e rm_K_makeCycle s m args below meth c 1 D clK A 0 0 (MQ below (va_Qv (fun u : (Nat → Nat) × St => K u.2) (fun u t => QK D clK (tysK cI cB) A (wsK h0 u.1 cI cB u.2) t) A) args s 0 0 A) (wsK h0 a cI cB S) [(0, .ref h0)] 42 [] := by
  unfold wp_K_makeCycle_42 at h
  refine j_aload_n C 20 43 rfl rfl rfl 0 rfl ?_
  refine j_get C 21 46 rfl rfl fg_K_54 0 rfl rfl ?_
  refine j_get C 22 49 rfl rfl fg_K_111 18 rfl rfl ?_
  refine j_if_eq C 23 70 52 rfl (by decide) rfl (fun c6 => ?_) (fun c6 => ?_)
  · replace h := ite_t h c6
    exact L_K_makeCycle_70 C a S h
  · replace h := ite_f h c6
    refine j_aload_n C 24 53 rfl rfl rfl 0 rfl ?_
    refine j_get C 25 56 rfl rfl fg_K_54 0 rfl rfl ?_
    refine j_get C 26 59 rfl rfl fg_K_140 18 rfl rfl ?_
    refine j_aload_n C 27 60 rfl rfl rfl 0 rfl ?_
    refine j_get C 28 63 rfl rfl fg_K_70 0 rfl rfl ?_
    refine j_icmp_ne C 29 70 66 rfl (by decide) rfl (fun c7 => ?_) (fun c7 => ?_)
    · replace h := ite_f h c7
      exact L_K_makeCycle_70 C a S h
    · replace h := ite_t h c7
      refine j_aload_n C 30 67 rfl rfl rfl 0 rfl ?_
      refine j_callVv C 31 70 rfl rfl w402 m_K_moveToMemory (As := []) (F := fun u : (Nat → Nat) × St => wsK h0 u.1 cI cB u.2) (S := (a, S)) (c_K_moveToMemory l D h0 a cI cB S _ h) ⟨rfl, rfl⟩ ⟨Nat.le_of_ble_eq_true rfl, Nat.le_of_ble_eq_true rfl⟩ 0 rfl rfl rfl ⟨Nat.le_of_ble_eq_true rfl, Nat.le_of_ble_eq_true rfl⟩ (Nat.le_of_ble_eq_true rfl) rfl (fun uS8 h => ?_)
      obtain ⟨a10, S8⟩ := uS8
      dsimp only at h ⊢
      exact L_K_makeCycle_70 C a10 S8 h
def wp_K_makeCycle (S : St)  (K : St → Prop) : Prop := ∀ S1 : St, S1 = st S 0 10 ((S 0 10) + (1 : Int32)) → ((if (S1 17 0) = 0 then ((wp_K_makeCycle_42 K S1)) else ((if (S1 17 4) = (S1 0 10) then (wp_K_end S1 (fun S4 => ((wp_K_makeCycle_42 K S4)))) else ((wp_K_makeCycle_42 K S1))))))
set_option maxHeartbeats 4000000 in
set_option maxRecDepth 100000 in
theorem c_K_makeCycle (l : Launch) (D : va_G) (h0 : Nat) (a : Nat → Nat) (cI cB : ClassId) (S : St)  (K : St → Prop) (h : wp_K_makeCycle S K) (sz : Nat) : Met l y_K_makeCycle (Cond.code y_K_makeCycle b_K_makeCycle 1 none :: gw) rm_K_makeCycle (va_Pc [.ref h0] (PK D clK (tysK cI cB) (wsK h0 a cI cB S) sz)) (va_Qv (fun u : (Nat → Nat) × St => K u.2) (fun u t => QK D clK (tysK cI cB) (va_A (wsK h0 a cI cB S) sz) (wsK h0 u.1 cI cB u.2) t) (va_A (wsK h0 a cI cB S) sz)) 0 0 (va_A (wsK h0 a cI cB S) sz) := by
  refine met_of (rm := rm_K_makeCycle) (pr := pr_K_makeCycle) (Qc := fun A => va_Qv (fun u : (Nat → Nat) × St => K u.2) (fun u t => QK D clK (tysK cI cB) A (wsK h0 u.1 cI cB u.2) t) A) (by decide +kernel) dm_K_makeCycle (Nat.le_of_ble_eq_true rfl) (fun p e s m args below meth c A C => ?_) sz
  unfold wp_K_makeCycle at h
  show J p l e rm_K_makeCycle s m args below meth c 1 D clK A 0 0 _ (wsK h0 a cI cB S) [(0, .ref h0)] 0 []
  refine j_aload_n C 0 1 rfl rfl rfl 0 rfl ?_
  refine j_dup C 1 2 rfl rfl rfl ?_
  refine j_get C 2 5 rfl rfl fg_K_70 0 rfl rfl ?_
  refine j_iconst C 3 6 rfl rfl kI_1 ?_
  refine j_iadd C 4 7 rfl rfl ?_
  refine j_put C 5 10 rfl rfl fp_K_70 0 rfl (Nat.le_of_ble_eq_true rfl) rfl rfl (st S 0 10 ((S 0 10) + (1 : Int32))) (sK_0_10 _ _ _ _ _ _) (fun S1 eS1 => ?_)
  replace h := h S1 eS1
  refine j_aload_n C 6 11 rfl rfl rfl 0 rfl ?_
  refine j_get C 7 14 rfl rfl fg_K_58 0 rfl rfl ?_
  refine j_get C 8 17 rfl rfl fg_K_111 19 rfl rfl ?_
  refine j_if_eq C 9 42 20 rfl (by decide) rfl (fun c2 => ?_) (fun c2 => ?_)
  · replace h := ite_t h c2
    exact L_K_makeCycle_42 C a S1 h
  · replace h := ite_f h c2
    refine j_aload_n C 10 21 rfl rfl rfl 0 rfl ?_
    refine j_get C 11 24 rfl rfl fg_K_58 0 rfl rfl ?_
    refine j_get C 12 27 rfl rfl fg_K_133 19 rfl rfl ?_
    refine j_aload_n C 13 28 rfl rfl rfl 0 rfl ?_
    refine j_get C 14 31 rfl rfl fg_K_70 0 rfl rfl ?_
    refine j_icmp_ne C 15 42 34 rfl (by decide) rfl (fun c3 => ?_) (fun c3 => ?_)
    · replace h := ite_f h c3
      exact L_K_makeCycle_42 C a S1 h
    · replace h := ite_t h c3
      refine j_aload_n C 16 35 rfl rfl rfl 0 rfl ?_
      refine j_aload_n C 17 36 rfl rfl rfl 0 rfl ?_
      refine j_get C 18 39 rfl rfl fg_K_58 0 rfl rfl ?_
      refine j_callVv C 19 42 rfl rfl w377 m_K_end (As := [.ref (a 19)]) (c_K_end l D h0 a cI cB S1 _ h) ⟨rfl, rfl⟩ ⟨Nat.le_of_ble_eq_true rfl, Nat.le_of_ble_eq_true rfl⟩ 0 rfl rfl rfl ⟨Nat.le_of_ble_eq_true rfl, Nat.le_of_ble_eq_true rfl⟩ (Nat.le_of_ble_eq_true rfl) rfl (fun S4 h => ?_)
      exact L_K_makeCycle_42 C a S4 h
abbrev rm_K_run : Room := { frames := 6, cells := 0, slots := 0, locals := 136 }
def wp_K_run_11 (K : Int32 → St → Prop) (S : St)  : Prop := K (-1) S
set_option maxHeartbeats 4000000 in
set_option maxRecDepth 100000 in
theorem L_K_run_11 {p : Program} {l : Launch} {e : Env} {s : State} {m : MethodId} {args : Array Value} {below : List Frame} {meth : Method} {c : Code} {A : Nat → Prop} {D : va_G} {h0 : Nat} {cI cB : ClassId} {K : Int32 → St → Prop} (C : CX p rm_K_run s m args meth c b_K_run 4 "PipelinedCore" (some .int) pr_K_run D clK (tysK cI cB) A) (a : Nat → Nat) (S : St)  (h : wp_K_run_11 K S) : J p l e rm_K_run s m args below meth c 4 D clK A 0 0 (MQ below (va_Qi (fun r (u : (Nat → Nat) × St) => K r u.2) (fun u t => QK D clK (tysK cI cB) A (wsK h0 u.1 cI cB u.2) t) A) args s 0 0 A) (wsK h0 a cI cB S) [] 11 [] := by
  unfold wp_K_run_11 at h
  refine j_iconst C 6 12 rfl rfl kI_m1 ?_
  exact j_iret C 7 rfl (F := fun u : (Nat → Nat) × St => wsK h0 u.1 cI cB u.2) (S := (a, S)) h
def wp_K_run_37 (K : Int32 → St → Prop) : Nat → St → Int32 → Int32 → Int32 → Prop
  | 0 => fun _ _ _ _ => False
  | f + 1 => fun S v1 v2 v3 => (fun KH : St → Int32 → Int32 → Int32 → Prop => (if v1 ≤ v3 then (K ((S 12 2) - v2) S) else (wp_K_makeCycle S (fun S8 => ((KH S8 v1 v2 (v3 + 1))))))) (wp_K_run_37 K f)
set_option maxHeartbeats 4000000 in
set_option maxRecDepth 100000 in
theorem L_K_run_37 {p : Program} {l : Launch} {e : Env} {s : State} {m : MethodId} {args : Array Value} {below : List Frame} {meth : Method} {c : Code} {A : Nat → Prop} {D : va_G} {h0 : Nat} {cI cB : ClassId} {K : Int32 → St → Prop} (C : CX p rm_K_run s m args meth c b_K_run 4 "PipelinedCore" (some .int) pr_K_run D clK (tysK cI cB) A) (f : Nat) : ∀ (a : Nat → Nat) (S : St) (v1 : Int32) (v2 : Int32) (v3 : Int32), wp_K_run_37 K f S v1 v2 v3 → J p l e rm_K_run s m args below meth c 4 D clK A 0 0 (MQ below (va_Qi (fun r (u : (Nat → Nat) × St) => K r u.2) (fun u t => QK D clK (tysK cI cB) A (wsK h0 u.1 cI cB u.2) t) A) args s 0 0 A) (wsK h0 a cI cB S) [(0, .ref h0), (1, .int v1), (2, .int v2), (3, .int v3)] 37 [] := by
  induction f with
  | zero => exact fun _ _ _ _ _ h => h.elim
  | succ f ih =>
    intro a S v1 v2 v3 h
    have hKH := ih
    rw [wp_K_run_37] at h
    generalize wp_K_run_37 K f = KH at h hKH
    try dsimp only at h
    refine j_iload_n C 22 38 rfl rfl rfl 3 rfl ?_
    refine j_iload_n C 23 39 rfl rfl rfl 1 rfl ?_
    refine j_icmp_ge C 24 52 42 rfl (by decide) rfl (fun c7 => ?_) (fun c7 => ?_)
    · replace h := ite_t h c7
      refine j_aload_n C 29 53 rfl rfl rfl 0 rfl ?_
      refine j_get C 30 56 rfl rfl fg_K_40 0 rfl rfl ?_
      refine j_get C 31 59 rfl rfl fg_K_89 14 rfl rfl ?_
      refine j_iload_n C 32 60 rfl rfl rfl 2 rfl ?_
      refine j_isub C 33 61 rfl rfl ?_
      exact j_iret C 34 rfl (F := fun u : (Nat → Nat) × St => wsK h0 u.1 cI cB u.2) (S := (a, S)) h
    · replace h := ite_f h c7
      refine j_aload_n C 25 43 rfl rfl rfl 0 rfl ?_
      refine j_callVv C 26 46 rfl rfl w373 m_K_makeCycle (As := []) (F := fun u : (Nat → Nat) × St => wsK h0 u.1 cI cB u.2) (S := (a, S)) (c_K_makeCycle l D h0 a cI cB S _ h) ⟨rfl, rfl⟩ ⟨Nat.le_of_ble_eq_true rfl, Nat.le_of_ble_eq_true rfl⟩ 0 rfl rfl rfl ⟨Nat.le_of_ble_eq_true rfl, Nat.le_of_ble_eq_true rfl⟩ (Nat.le_of_ble_eq_true rfl) rfl (fun uS8 h => ?_)
      obtain ⟨a10, S8⟩ := uS8
      dsimp only at h ⊢
      refine j_iinc C 27 49 [(3, .int (v3 + 1)), (0, .ref h0), (1, .int v1), (2, .int v2)] rfl rfl 3 rfl kI_1 (by decide) rfl ?_
      refine j_goto C 28 37 rfl (by decide) ?_
      refine j_sub [1, 2, 3, 0] rfl ?_
      exact hKH a10 S8 v1 v2 (v3 + 1) h
def wp_K_run_27 (K : Int32 → St → Prop) (S : St) (v1 : Int32) : Prop := ∀ x6 : Int32, x6 = S 12 2 → ((∃ f, wp_K_run_37 K f S v1 x6 0))
set_option maxHeartbeats 4000000 in
set_option maxRecDepth 100000 in
theorem L_K_run_27 {p : Program} {l : Launch} {e : Env} {s : State} {m : MethodId} {args : Array Value} {below : List Frame} {meth : Method} {c : Code} {A : Nat → Prop} {D : va_G} {h0 : Nat} {cI cB : ClassId} {K : Int32 → St → Prop} (C : CX p rm_K_run s m args meth c b_K_run 4 "PipelinedCore" (some .int) pr_K_run D clK (tysK cI cB) A) (a : Nat → Nat) (S : St) (v1 : Int32) (h : wp_K_run_27 K S v1) : J p l e rm_K_run s m args below meth c 4 D clK A 0 0 (MQ below (va_Qi (fun r (u : (Nat → Nat) × St) => K r u.2) (fun u t => QK D clK (tysK cI cB) A (wsK h0 u.1 cI cB u.2) t) A) args s 0 0 A) (wsK h0 a cI cB S) [(0, .ref h0), (1, .int v1)] 27 [] := by
  unfold wp_K_run_27 at h
  refine j_aload_n C 16 28 rfl rfl rfl 0 rfl ?_
  refine j_get C 17 31 rfl rfl fg_K_40 0 rfl rfl ?_
  refine j_get C 18 34 rfl rfl fg_K_89 14 rfl rfl ?_
  refine j_topi (fun x6 ex6 => ?_)
  replace h := h x6 ex6
  refine j_istore_n C 19 35 [(2, .int x6), (0, .ref h0), (1, .int v1)] rfl rfl rfl (by decide) rfl ?_
  refine j_iconst C 20 36 rfl rfl kI_0 ?_
  refine j_istore_n C 21 37 [(3, .int 0), (2, .int x6), (0, .ref h0), (1, .int v1)] rfl rfl rfl (by decide) rfl ?_
  refine j_sub [2, 3, 1, 0] rfl ?_
  obtain ⟨f, h⟩ := h
  exact L_K_run_37 C f a S v1 x6 0 h
def wp_K_run (S : St) (p1 : Int32) (K : Int32 → St → Prop) : Prop := (if p1 < 1 then ((wp_K_run_11 K S)) else ((if p1 ≤ 100 then ((if (S 0 10) = 0 then (wp_K_expect S 0 1 0 (fun S4 => ((wp_K_run_27 K S4 p1)))) else ((wp_K_run_27 K S p1)))) else ((wp_K_run_11 K S)))))
set_option maxHeartbeats 4000000 in
set_option maxRecDepth 100000 in
theorem c_K_run (l : Launch) (D : va_G) (h0 : Nat) (a : Nat → Nat) (cI cB : ClassId) (S : St) (p1 : Int32) (K : Int32 → St → Prop) (h : wp_K_run S p1 K) (sz : Nat) : Met l y_K_run (Cond.code y_K_run b_K_run 4 (some .int) :: gw) rm_K_run (va_Pc [.ref h0, .int p1] (PK D clK (tysK cI cB) (wsK h0 a cI cB S) sz)) (va_Qi (fun r (u : (Nat → Nat) × St) => K r u.2) (fun u t => QK D clK (tysK cI cB) (va_A (wsK h0 a cI cB S) sz) (wsK h0 u.1 cI cB u.2) t) (va_A (wsK h0 a cI cB S) sz)) 0 0 (va_A (wsK h0 a cI cB S) sz) := by
  refine met_of (rm := rm_K_run) (pr := pr_K_run) (Qc := fun A => va_Qi (fun r (u : (Nat → Nat) × St) => K r u.2) (fun u t => QK D clK (tysK cI cB) A (wsK h0 u.1 cI cB u.2) t) A) (by decide +kernel) dm_K_run (Nat.le_of_ble_eq_true rfl) (fun p e s m args below meth c A C => ?_) sz
  unfold wp_K_run at h
  show J p l e rm_K_run s m args below meth c 4 D clK A 0 0 _ (wsK h0 a cI cB S) [(0, .ref h0), (1, .int p1)] 0 []
  refine j_iload_n C 0 1 rfl rfl rfl 1 rfl ?_
  refine j_iconst C 1 2 rfl rfl kI_1 ?_
  refine j_icmp_lt C 2 11 5 rfl (by decide) rfl (fun c1 => ?_) (fun c1 => ?_)
  · replace h := ite_t h c1
    refine j_sub [] rfl ?_
    exact L_K_run_11 C a S h
  · replace h := ite_f h c1
    refine j_iload_n C 3 6 rfl rfl rfl 1 rfl ?_
    refine j_bipush C 4 8 rfl rfl kB_100 ?_
    refine j_icmp_le C 5 13 11 rfl (by decide) rfl (fun c2 => ?_) (fun c2 => ?_)
    · replace h := ite_t h c2
      refine j_aload_n C 8 14 rfl rfl rfl 0 rfl ?_
      refine j_get C 9 17 rfl rfl fg_K_70 0 rfl rfl ?_
      refine j_if_ne C 10 27 20 rfl (by decide) rfl (fun c3 => ?_) (fun c3 => ?_)
      · replace h := ite_f h c3
        exact L_K_run_27 C a S p1 h
      · replace h := ite_t h c3
        refine j_aload_n C 11 21 rfl rfl rfl 0 rfl ?_
        refine j_iconst C 12 22 rfl rfl kI_0 ?_
        refine j_iconst C 13 23 rfl rfl kI_1 ?_
        refine j_iconst C 14 24 rfl rfl kI_0 ?_
        refine j_callVv C 15 27 rfl rfl w345 m_K_expect (As := [.int 0, .int 1, .int 0]) (c_K_expect l D h0 a cI cB S 0 1 0 _ h) ⟨rfl, rfl⟩ ⟨Nat.le_of_ble_eq_true rfl, Nat.le_of_ble_eq_true rfl⟩ 0 rfl rfl rfl ⟨Nat.le_of_ble_eq_true rfl, Nat.le_of_ble_eq_true rfl⟩ (Nat.le_of_ble_eq_true rfl) rfl (fun S4 h => ?_)
        exact L_K_run_27 C a S4 p1 h
    · replace h := ite_f h c2
      refine j_sub [] rfl ?_
      exact L_K_run_11 C a S h
abbrev rm_K_reg : Room := { frames := 0, cells := 0, slots := 0, locals := 0 }
def wp_K_reg_20 (K : Int32 → St → Prop) (S : St) (k0 : Int32) : Prop := K k0 S
set_option maxHeartbeats 4000000 in
set_option maxRecDepth 100000 in
theorem L_K_reg_20 {p : Program} {l : Launch} {e : Env} {s : State} {m : MethodId} {args : Array Value} {below : List Frame} {meth : Method} {c : Code} {A : Nat → Prop} {D : va_G} {h0 : Nat} {a : Nat → Nat} {cI cB : ClassId} {K : Int32 → St → Prop} (C : CX p rm_K_reg s m args meth c b_K_reg 2 "PipelinedCore" (some .int) pr_K_reg D clK (tysK cI cB) A) (S : St) (k0 : Int32) (h : wp_K_reg_20 K S k0) : J p l e rm_K_reg s m args below meth c 2 D clK A 0 0 (MQ below (va_Qi K (fun u t => QK D clK (tysK cI cB) A (wsK h0 a cI cB u) t) A) args s 0 0 A) (wsK h0 a cI cB S) [] 20 [.int k0] := by
  unfold wp_K_reg_20 at h
  exact j_iret C 11 rfl h
def wp_K_reg_10 (K : Int32 → St → Prop) (S : St)  : Prop := (wp_K_reg_20 K S 0)
set_option maxHeartbeats 4000000 in
set_option maxRecDepth 100000 in
theorem L_K_reg_10 {p : Program} {l : Launch} {e : Env} {s : State} {m : MethodId} {args : Array Value} {below : List Frame} {meth : Method} {c : Code} {A : Nat → Prop} {D : va_G} {h0 : Nat} {a : Nat → Nat} {cI cB : ClassId} {K : Int32 → St → Prop} (C : CX p rm_K_reg s m args meth c b_K_reg 2 "PipelinedCore" (some .int) pr_K_reg D clK (tysK cI cB) A) (S : St)  (h : wp_K_reg_10 K S) : J p l e rm_K_reg s m args below meth c 2 D clK A 0 0 (MQ below (va_Qi K (fun u t => QK D clK (tysK cI cB) A (wsK h0 a cI cB u) t) A) args s 0 0 A) (wsK h0 a cI cB S) [] 10 [] := by
  unfold wp_K_reg_10 at h
  refine j_iconst C 5 11 rfl rfl kI_0 ?_
  refine j_goto C 6 20 rfl (by decide) ?_
  exact L_K_reg_20 C S 0 h
def wp_K_reg (S : St) (p1 : Int32) (K : Int32 → St → Prop) : Prop := (if p1 < 0 then ((wp_K_reg_10 K S)) else ((if p1 < 32 then (vp_in p1 32 ∧ ((wp_K_reg_20 K S (S 2 p1.toNatClampNeg)))) else ((wp_K_reg_10 K S)))))
set_option maxHeartbeats 4000000 in
set_option maxRecDepth 100000 in
theorem c_K_reg (l : Launch) (D : va_G) (h0 : Nat) (a : Nat → Nat) (cI cB : ClassId) (S : St) (p1 : Int32) (K : Int32 → St → Prop) (h : wp_K_reg S p1 K) (sz : Nat) : Met l y_K_reg (Cond.code y_K_reg b_K_reg 2 (some .int) :: gw) rm_K_reg (va_Pc [.ref h0, .int p1] (PK D clK (tysK cI cB) (wsK h0 a cI cB S) sz)) (va_Qi K (fun u t => QK D clK (tysK cI cB) (va_A (wsK h0 a cI cB S) sz) (wsK h0 a cI cB u) t) (va_A (wsK h0 a cI cB S) sz)) 0 0 (va_A (wsK h0 a cI cB S) sz) := by
  refine met_of (rm := rm_K_reg) (pr := pr_K_reg) (Qc := fun A => va_Qi K (fun u t => QK D clK (tysK cI cB) A (wsK h0 a cI cB u) t) A) (by decide +kernel) dm_K_reg (Nat.le_of_ble_eq_true rfl) (fun p e s m args below meth c A C => ?_) sz
  unfold wp_K_reg at h
  show J p l e rm_K_reg s m args below meth c 2 D clK A 0 0 _ (wsK h0 a cI cB S) [(0, .ref h0), (1, .int p1)] 0 []
  refine j_iload_n C 0 1 rfl rfl rfl 1 rfl ?_
  refine j_if_lt C 1 10 4 rfl (by decide) rfl (fun c1 => ?_) (fun c1 => ?_)
  · replace h := ite_t h c1
    refine j_sub [] rfl ?_
    exact L_K_reg_10 C S h
  · replace h := ite_f h c1
    refine j_iload_n C 2 5 rfl rfl rfl 1 rfl ?_
    refine j_bipush C 3 7 rfl rfl kB_32 ?_
    refine j_icmp_lt C 4 14 10 rfl (by decide) rfl (fun c2 => ?_) (fun c2 => ?_)
    · replace h := ite_t h c2
      refine j_aload_n C 7 15 rfl rfl rfl 0 rfl ?_
      refine j_get C 8 18 rfl rfl fg_K_13 0 rfl rfl ?_
      refine j_iload_n C 9 19 rfl rfl rfl 1 rfl ?_
      refine j_iald C 10 20 rfl rfl 2 0 rfl rfl h.1 ?_
      replace h := h.2
      refine j_sub [] rfl ?_
      exact L_K_reg_20 C S (S 2 p1.toNatClampNeg) h
    · replace h := ite_f h c2
      refine j_sub [] rfl ?_
      exact L_K_reg_10 C S h
