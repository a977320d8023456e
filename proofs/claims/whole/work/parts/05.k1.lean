abbrev rm_K_code : Room := { frames := 0, cells := 0, slots := 0, locals := 0 }
def wp_K_code_18 (K : Int32 → St → Prop) (S : St)  : Prop := K 0 S
set_option maxHeartbeats 4000000 in
set_option maxRecDepth 100000 in
theorem L_K_code_18 {p : Program} {l : Launch} {e : Env} {s : State} {m : MethodId} {args : Array Value} {below : List Frame} {meth : Method} {c : Code} {A : Nat → Prop} {D : va_G} {h0 : Nat} {a : Nat → Nat} {cI cB : ClassId} {K : Int32 → St → Prop} (C : CX p rm_K_code s m args meth c b_K_code 3 "PipelinedCore" (some .boolean) pr_K_code D clK (tysK cI cB) A) (S : St)  (h : wp_K_code_18 K S) : J p l e rm_K_code s m args below meth c 3 D clK A 0 0 (MQ below (va_Qi K (fun u t => QK D clK (tysK cI cB) A (wsK h0 a cI cB u) t) A) args s 0 0 A) (wsK h0 a cI cB S) [] 18 [] := by
  unfold wp_K_code_18 at h
  refine j_iconst C 8 19 rfl rfl kI_0 ?_
  exact j_zret C 9 rfl isB_0 h
def wp_K_code (S : St) (p1 : Int32) (p2 : Int32) (K : Int32 → St → Prop) : Prop := ((p1 < 0 → ((wp_K_code_18 K S))) ∧ (¬ p1 < 0 → ((((128 : Int32) ≤ p1 → ((wp_K_code_18 K S))) ∧ (¬ (128 : Int32) ≤ p1 → ((((S 0 10) ≤ 0 → (vp_in p1 128 ∧ (∀ S4 : St, S4 = st S 1 p1.toNatClampNeg p2 → (K 1 S4)))) ∧ (¬ (S 0 10) ≤ 0 → ((wp_K_code_18 K S))))))))))
set_option maxHeartbeats 4000000 in
set_option maxRecDepth 100000 in
theorem c_K_code (l : Launch) (D : va_G) (h0 : Nat) (a : Nat → Nat) (cI cB : ClassId) (S : St) (p1 : Int32) (p2 : Int32) (K : Int32 → St → Prop) (h : wp_K_code S p1 p2 K) (sz : Nat) : Met l y_K_code (Cond.code y_K_code b_K_code 3 (some .boolean) :: gw) rm_K_code (va_Pc [.ref h0, .int p1, .int p2] (PK D clK (tysK cI cB) (wsK h0 a cI cB S) sz)) (va_Qi K (fun u t => QK D clK (tysK cI cB) (va_A (wsK h0 a cI cB S) sz) (wsK h0 a cI cB u) t) (va_A (wsK h0 a cI cB S) sz)) 0 0 (va_A (wsK h0 a cI cB S) sz) := by
  refine met_of (rm := rm_K_code) (pr := pr_K_code) (Qc := fun A => va_Qi K (fun u t => QK D clK (tysK cI cB) A (wsK h0 a cI cB u) t) A) (by decide +kernel) dm_K_code (Nat.le_of_ble_eq_true rfl) (fun p e s m args below meth c A C => ?_) sz
  unfold wp_K_code at h
  show J p l e rm_K_code s m args below meth c 3 D clK A 0 0 _ (wsK h0 a cI cB S) [(0, .ref h0), (1, .int p1), (2, .int p2)] 0 []
  refine j_iload_n C 0 1 rfl rfl rfl 1 rfl ?_
  refine j_if_lt C 1 18 4 rfl (by decide) rfl (fun c1 => ?_) (fun c1 => ?_)
  · replace h := h.1 c1
    refine j_sub [] rfl ?_
    exact L_K_code_18 C S h
  · replace h := h.2 c1
    refine j_iload_n C 2 5 rfl rfl rfl 1 rfl ?_
    refine j_sipush C 3 8 rfl rfl kS_128 ?_
    refine j_icmp_ge C 4 18 11 rfl (by decide) rfl (fun c2 => ?_) (fun c2 => ?_)
    · replace h := h.1 c2
      refine j_sub [] rfl ?_
      exact L_K_code_18 C S h
    · replace h := h.2 c2
      refine j_aload_n C 5 12 rfl rfl rfl 0 rfl ?_
      refine j_get C 6 15 rfl rfl fg_K_70 0 rfl rfl ?_
      refine j_if_le C 7 20 18 rfl (by decide) rfl (fun c3 => ?_) (fun c3 => ?_)
      · replace h := h.1 c3
        refine j_aload_n C 10 21 rfl rfl rfl 0 rfl ?_
        refine j_get C 11 24 rfl rfl fg_K_9 0 rfl rfl ?_
        refine j_iload_n C 12 25 rfl rfl rfl 1 rfl ?_
        refine j_iload_n C 13 26 rfl rfl rfl 2 rfl ?_
        refine j_iast C 14 27 rfl rfl 1 0 rfl rfl h.1 (st S 1 p1.toNatClampNeg p2) (sK_1 _ _ _ _ _ _ _) (fun S4 eS4 => ?_)
        replace h := h.2
        replace h := h S4 eS4
        refine j_iconst C 15 28 rfl rfl kI_1 ?_
        exact j_zret C 16 rfl isB_1 h
      · replace h := h.2 c3
        refine j_sub [] rfl ?_
        exact L_K_code_18 C S h
abbrev rm_Sto_has : Room := { frames := 0, cells := 0, slots := 0, locals := 0 }
def wp_Sto_has_19 (K : Int32 → St → Prop) (S : St) (k0 : Int32) : Prop := isB k0 ∧ K k0 S
set_option maxHeartbeats 4000000 in
set_option maxRecDepth 100000 in
theorem L_Sto_has_19 {p : Program} {l : Launch} {e : Env} {s : State} {m : MethodId} {args : Array Value} {below : List Frame} {meth : Method} {c : Code} {A : Nat → Prop} {D : va_G} {h0 : Nat} {a : Nat → Nat} {cI cB : ClassId} {K : Int32 → St → Prop} (C : CX p rm_Sto_has s m args meth c b_Sto_has 1 "PipelinedCore$Store" (some .boolean) pr_Sto_has D clK (tysK cI cB) A) (S : St) (k0 : Int32) (h : wp_Sto_has_19 K S k0) : J p l e rm_Sto_has s m args below meth c 1 D clK A 0 0 (MQ below (va_Qi K (fun u t => QK D clK (tysK cI cB) A (wsK h0 a cI cB u) t) A) args s 0 0 A) (wsK h0 a cI cB S) [] 19 [.int k0] := by
  unfold wp_Sto_has_19 at h
  exact j_zret C 9 rfl h.1 h.2
def wp_Sto_has_18 (K : Int32 → St → Prop) (S : St)  : Prop := (wp_Sto_has_19 K S 0)
set_option maxHeartbeats 4000000 in
set_option maxRecDepth 100000 in
theorem L_Sto_has_18 {p : Program} {l : Launch} {e : Env} {s : State} {m : MethodId} {args : Array Value} {below : List Frame} {meth : Method} {c : Code} {A : Nat → Prop} {D : va_G} {h0 : Nat} {a : Nat → Nat} {cI cB : ClassId} {K : Int32 → St → Prop} (C : CX p rm_Sto_has s m args meth c b_Sto_has 1 "PipelinedCore$Store" (some .boolean) pr_Sto_has D clK (tysK cI cB) A) (S : St)  (h : wp_Sto_has_18 K S) : J p l e rm_Sto_has s m args below meth c 1 D clK A 0 0 (MQ below (va_Qi K (fun u t => QK D clK (tysK cI cB) A (wsK h0 a cI cB u) t) A) args s 0 0 A) (wsK h0 a cI cB S) [] 18 [] := by
  unfold wp_Sto_has_18 at h
  refine j_iconst C 8 19 rfl rfl kI_0 ?_
  exact L_Sto_has_19 C S 0 h
def wp_Sto_has (S : St) (p1 : Int32) (K : Int32 → St → Prop) : Prop := ((p1 < 1024 → ((wp_Sto_has_18 K S))) ∧ (¬ p1 < 1024 → ((((1280 : Int32) ≤ p1 → ((wp_Sto_has_18 K S))) ∧ (¬ (1280 : Int32) ≤ p1 → ((wp_Sto_has_19 K S 1)))))))
set_option maxHeartbeats 4000000 in
set_option maxRecDepth 100000 in
theorem c_Sto_has (l : Launch) (D : va_G) (h0 : Nat) (a : Nat → Nat) (cI cB : ClassId) (S : St) (p1 : Int32) (K : Int32 → St → Prop) (h : wp_Sto_has S p1 K) (sz : Nat) : Met l y_Sto_has (Cond.code y_Sto_has b_Sto_has 1 (some .boolean) :: gw) rm_Sto_has (va_Pc [.int p1] (PK D clK (tysK cI cB) (wsK h0 a cI cB S) sz)) (va_Qi K (fun u t => QK D clK (tysK cI cB) (va_A (wsK h0 a cI cB S) sz) (wsK h0 a cI cB u) t) (va_A (wsK h0 a cI cB S) sz)) 0 0 (va_A (wsK h0 a cI cB S) sz) := by
  refine met_of (rm := rm_Sto_has) (pr := pr_Sto_has) (Qc := fun A => va_Qi K (fun u t => QK D clK (tysK cI cB) A (wsK h0 a cI cB u) t) A) (by decide +kernel) dm_Sto_has (Nat.le_of_ble_eq_true rfl) (fun p e s m args below meth c A C => ?_) sz
  unfold wp_Sto_has at h
  show J p l e rm_Sto_has s m args below meth c 1 D clK A 0 0 _ (wsK h0 a cI cB S) [(0, .int p1)] 0 []
  refine j_iload_n C 0 1 rfl rfl rfl 0 rfl ?_
  refine j_sipush C 1 4 rfl rfl kS_1024 ?_
  refine j_icmp_lt C 2 18 7 rfl (by decide) rfl (fun c1 => ?_) (fun c1 => ?_)
  · replace h := h.1 c1
    refine j_sub [] rfl ?_
    exact L_Sto_has_18 C S h
  · replace h := h.2 c1
    refine j_iload_n C 3 8 rfl rfl rfl 0 rfl ?_
    refine j_sipush C 4 11 rfl rfl kS_1280 ?_
    refine j_icmp_ge C 5 18 14 rfl (by decide) rfl (fun c2 => ?_) (fun c2 => ?_)
    · replace h := h.1 c2
      refine j_sub [] rfl ?_
      exact L_Sto_has_18 C S h
    · replace h := h.2 c2
      refine j_iconst C 6 15 rfl rfl kI_1 ?_
      refine j_goto C 7 19 rfl (by decide) ?_
      refine j_sub [] rfl ?_
      exact L_Sto_has_19 C S 1 h
abbrev rm_Sto_hasWord : Room := { frames := 1, cells := 0, slots := 0, locals := 20 }
def wp_Sto_hasWord_18 (K : Int32 → St → Prop) (S : St) (k0 : Int32) : Prop := isB k0 ∧ K k0 S
set_option maxHeartbeats 4000000 in
set_option maxRecDepth 100000 in
theorem L_Sto_hasWord_18 {p : Program} {l : Launch} {e : Env} {s : State} {m : MethodId} {args : Array Value} {below : List Frame} {meth : Method} {c : Code} {A : Nat → Prop} {D : va_G} {h0 : Nat} {a : Nat → Nat} {cI cB : ClassId} {K : Int32 → St → Prop} (C : CX p rm_Sto_hasWord s m args meth c b_Sto_hasWord 1 "PipelinedCore$Store" (some .boolean) pr_Sto_hasWord D clK (tysK cI cB) A) (S : St) (k0 : Int32) (h : wp_Sto_hasWord_18 K S k0) : J p l e rm_Sto_hasWord s m args below meth c 1 D clK A 0 0 (MQ below (va_Qi K (fun u t => QK D clK (tysK cI cB) A (wsK h0 a cI cB u) t) A) args s 0 0 A) (wsK h0 a cI cB S) [] 18 [.int k0] := by
  unfold wp_Sto_hasWord_18 at h
  exact j_zret C 10 rfl h.1 h.2
def wp_Sto_hasWord_17 (K : Int32 → St → Prop) (S : St)  : Prop := (wp_Sto_hasWord_18 K S 0)
set_option maxHeartbeats 4000000 in
set_option maxRecDepth 100000 in
theorem L_Sto_hasWord_17 {p : Program} {l : Launch} {e : Env} {s : State} {m : MethodId} {args : Array Value} {below : List Frame} {meth : Method} {c : Code} {A : Nat → Prop} {D : va_G} {h0 : Nat} {a : Nat → Nat} {cI cB : ClassId} {K : Int32 → St → Prop} (C : CX p rm_Sto_hasWord s m args meth c b_Sto_hasWord 1 "PipelinedCore$Store" (some .boolean) pr_Sto_hasWord D clK (tysK cI cB) A) (S : St)  (h : wp_Sto_hasWord_17 K S) : J p l e rm_Sto_hasWord s m args below meth c 1 D clK A 0 0 (MQ below (va_Qi K (fun u t => QK D clK (tysK cI cB) A (wsK h0 a cI cB u) t) A) args s 0 0 A) (wsK h0 a cI cB S) [] 17 [] := by
  unfold wp_Sto_hasWord_17 at h
  refine j_iconst C 9 18 rfl rfl kI_0 ?_
  exact L_Sto_hasWord_18 C S 0 h
def wp_Sto_hasWord (S : St) (p1 : Int32) (K : Int32 → St → Prop) : Prop := wp_Sto_has S p1 (fun r2 S1 => (((r2 = 0 → ((wp_Sto_hasWord_17 K S1))) ∧ (¬ r2 = 0 → (((¬ (p1 &&& 3) = 0 → ((wp_Sto_hasWord_17 K S1))) ∧ ((p1 &&& 3) = 0 → ((wp_Sto_hasWord_18 K S1 1)))))))))
set_option maxHeartbeats 4000000 in
set_option maxRecDepth 100000 in
theorem c_Sto_hasWord (l : Launch) (D : va_G) (h0 : Nat) (a : Nat → Nat) (cI cB : ClassId) (S : St) (p1 : Int32) (K : Int32 → St → Prop) (h : wp_Sto_hasWord S p1 K) (sz : Nat) : Met l y_Sto_hasWord (Cond.code y_Sto_hasWord b_Sto_hasWord 1 (some .boolean) :: gw) rm_Sto_hasWord (va_Pc [.int p1] (PK D clK (tysK cI cB) (wsK h0 a cI cB S) sz)) (va_Qi K (fun u t => QK D clK (tysK cI cB) (va_A (wsK h0 a cI cB S) sz) (wsK h0 a cI cB u) t) (va_A (wsK h0 a cI cB S) sz)) 0 0 (va_A (wsK h0 a cI cB S) sz) := by
  refine met_of (rm := rm_Sto_hasWord) (pr := pr_Sto_hasWord) (Qc := fun A => va_Qi K (fun u t => QK D clK (tysK cI cB) A (wsK h0 a cI cB u) t) A) (by decide +kernel) dm_Sto_hasWord (Nat.le_of_ble_eq_true rfl) (fun p e s m args below meth c A C => ?_) sz
  unfold wp_Sto_hasWord at h
  show J p l e rm_Sto_hasWord s m args below meth c 1 D clK A 0 0 _ (wsK h0 a cI cB S) [(0, .int p1)] 0 []
  refine j_iload_n C 0 1 rfl rfl rfl 0 rfl ?_
  refine j_callSi C 1 4 rfl rfl w326 m_Sto_has (As := [.int p1]) (c_Sto_has l D h0 a cI cB S p1 _ h) ⟨rfl, rfl⟩ ⟨Nat.le_of_ble_eq_true rfl, Nat.le_of_ble_eq_true rfl⟩ rfl ⟨Nat.le_of_ble_eq_true rfl, Nat.le_of_ble_eq_true rfl⟩ (Nat.le_of_ble_eq_true rfl) rfl (fun r2 S1 h => ?_)
  refine j_if_eq C 2 17 7 rfl (by decide) rfl (fun c3 => ?_) (fun c3 => ?_)
  · replace h := h.1 c3
    refine j_sub [] rfl ?_
    exact L_Sto_hasWord_17 C S1 h
  · replace h := h.2 c3
    refine j_iload_n C 3 8 rfl rfl rfl 0 rfl ?_
    refine j_iconst C 4 9 rfl rfl kI_3 ?_
    refine j_iand C 5 10 rfl rfl ?_
    refine j_if_ne C 6 17 13 rfl (by decide) rfl (fun c4 => ?_) (fun c4 => ?_)
    · replace h := h.1 c4
      refine j_sub [] rfl ?_
      exact L_Sto_hasWord_17 C S1 h
    · replace h := h.2 c4
      refine j_iconst C 7 14 rfl rfl kI_1 ?_
      refine j_goto C 8 18 rfl (by decide) ?_
      refine j_sub [] rfl ?_
      exact L_Sto_hasWord_18 C S1 1 h
abbrev rm_Sto_setWord : Room := { frames := 1, cells := 0, slots := 0, locals := 20 }
def wp_Sto_setWord_20 (K : St → Prop) (S : St)  : Prop := K S
set_option maxHeartbeats 4000000 in
set_option maxRecDepth 100000 in
theorem L_Sto_setWord_20 {p : Program} {l : Launch} {e : Env} {s : State} {m : MethodId} {args : Array Value} {below : List Frame} {meth : Method} {c : Code} {A : Nat → Prop} {D : va_G} {h0 : Nat} {a : Nat → Nat} {cI cB : ClassId} {K : St → Prop} (C : CX p rm_Sto_setWord s m args meth c b_Sto_setWord 3 "PipelinedCore$Store" none pr_Sto_setWord D clK (tysK cI cB) A) (S : St)  (h : wp_Sto_setWord_20 K S) : J p l e rm_Sto_setWord s m args below meth c 3 D clK A 0 0 (MQ below (va_Qv K (fun u t => QK D clK (tysK cI cB) A (wsK h0 a cI cB u) t) A) args s 0 0 A) (wsK h0 a cI cB S) [] 20 [] := by
  unfold wp_Sto_setWord_20 at h
  exact j_vret C 12 rfl h
def wp_Sto_setWord (S : St) (p1 : Int32) (p2 : Int32) (K : St → Prop) : Prop := wp_Sto_has S p1 (fun r2 S1 => (((r2 = 0 → ((wp_Sto_setWord_20 K S1))) ∧ (¬ r2 = 0 → (vp_in ((p1 - 1024) >>> (2 &&& 31)) 64 ∧ (∀ S4 : St, S4 = st S1 4 ((p1 - 1024) >>> (2 &&& 31) : Int32).toNatClampNeg p2 → ((wp_Sto_setWord_20 K S4))))))))
set_option maxHeartbeats 4000000 in
set_option maxRecDepth 100000 in
theorem c_Sto_setWord (l : Launch) (D : va_G) (h0 : Nat) (a : Nat → Nat) (cI cB : ClassId) (S : St) (p1 : Int32) (p2 : Int32) (K : St → Prop) (h : wp_Sto_setWord S p1 p2 K) (sz : Nat) : Met l y_Sto_setWord (Cond.code y_Sto_setWord b_Sto_setWord 3 none :: gw) rm_Sto_setWord (va_Pc [.ref (a 4), .int p1, .int p2] (PK D clK (tysK cI cB) (wsK h0 a cI cB S) sz)) (va_Qv K (fun u t => QK D clK (tysK cI cB) (va_A (wsK h0 a cI cB S) sz) (wsK h0 a cI cB u) t) (va_A (wsK h0 a cI cB S) sz)) 0 0 (va_A (wsK h0 a cI cB S) sz) := by
  refine met_of (rm := rm_Sto_setWord) (pr := pr_Sto_setWord) (Qc := fun A => va_Qv K (fun u t => QK D clK (tysK cI cB) A (wsK h0 a cI cB u) t) A) (by decide +kernel) dm_Sto_setWord (Nat.le_of_ble_eq_true rfl) (fun p e s m args below meth c A C => ?_) sz
  unfold wp_Sto_setWord at h
  show J p l e rm_Sto_setWord s m args below meth c 3 D clK A 0 0 _ (wsK h0 a cI cB S) [(0, .ref (a 4)), (1, .int p1), (2, .int p2)] 0 []
  refine j_iload_n C 0 1 rfl rfl rfl 1 rfl ?_
  refine j_callSi C 1 4 rfl rfl w326 m_Sto_has (As := [.int p1]) (c_Sto_has l D h0 a cI cB S p1 _ h) ⟨rfl, rfl⟩ ⟨Nat.le_of_ble_eq_true rfl, Nat.le_of_ble_eq_true rfl⟩ rfl ⟨Nat.le_of_ble_eq_true rfl, Nat.le_of_ble_eq_true rfl⟩ (Nat.le_of_ble_eq_true rfl) rfl (fun r2 S1 h => ?_)
  refine j_if_eq C 2 20 7 rfl (by decide) rfl (fun c3 => ?_) (fun c3 => ?_)
  · replace h := h.1 c3
    refine j_sub [] rfl ?_
    exact L_Sto_setWord_20 C S1 h
  · replace h := h.2 c3
    refine j_aload_n C 3 8 rfl rfl rfl 0 rfl ?_
    refine j_get C 4 11 rfl rfl fg_Sto_9 4 rfl rfl ?_
    refine j_iload_n C 5 12 rfl rfl rfl 1 rfl ?_
    refine j_sipush C 6 15 rfl rfl kS_1024 ?_
    refine j_isub C 7 16 rfl rfl ?_
    refine j_iconst C 8 17 rfl rfl kI_2 ?_
    refine j_ishr C 9 18 rfl rfl ?_
    refine j_iload_n C 10 19 rfl rfl rfl 2 rfl ?_
    refine j_iast C 11 20 rfl rfl 5 0 rfl rfl h.1 (st S1 4 ((p1 - 1024) >>> (2 &&& 31) : Int32).toNatClampNeg p2) (sK_5 _ _ _ _ _ _ _) (fun S4 eS4 => ?_)
    replace h := h.2
    replace h := h S4 eS4
    refine j_sub [] rfl ?_
    exact L_Sto_setWord_20 C S4 h
abbrev rm_K_data : Room := { frames := 2, cells := 0, slots := 0, locals := 42 }
def wp_K_data_14 (K : Int32 → St → Prop) (S : St)  : Prop := K 0 S
set_option maxHeartbeats 4000000 in
set_option maxRecDepth 100000 in
theorem L_K_data_14 {p : Program} {l : Launch} {e : Env} {s : State} {m : MethodId} {args : Array Value} {below : List Frame} {meth : Method} {c : Code} {A : Nat → Prop} {D : va_G} {h0 : Nat} {a : Nat → Nat} {cI cB : ClassId} {K : Int32 → St → Prop} (C : CX p rm_K_data s m args meth c b_K_data 3 "PipelinedCore" (some .boolean) pr_K_data D clK (tysK cI cB) A) (S : St)  (h : wp_K_data_14 K S) : J p l e rm_K_data s m args below meth c 3 D clK A 0 0 (MQ below (va_Qi K (fun u t => QK D clK (tysK cI cB) A (wsK h0 a cI cB u) t) A) args s 0 0 A) (wsK h0 a cI cB S) [] 14 [] := by
  unfold wp_K_data_14 at h
  refine j_iconst C 6 15 rfl rfl kI_0 ?_
  exact j_zret C 7 rfl isB_0 h
def wp_K_data (S : St) (p1 : Int32) (p2 : Int32) (K : Int32 → St → Prop) : Prop := wp_Sto_hasWord S p1 (fun r2 S1 => (((r2 = 0 → ((wp_K_data_14 K S1))) ∧ (¬ r2 = 0 → ((((S1 0 10) ≤ 0 → (wp_Sto_setWord S1 p1 p2 (fun S5 => (K 1 S5)))) ∧ (¬ (S1 0 10) ≤ 0 → ((wp_K_data_14 K S1)))))))))
set_option maxHeartbeats 4000000 in
set_option maxRecDepth 100000 in
theorem c_K_data (l : Launch) (D : va_G) (h0 : Nat) (a : Nat → Nat) (cI cB : ClassId) (S : St) (p1 : Int32) (p2 : Int32) (K : Int32 → St → Prop) (h : wp_K_data S p1 p2 K) (sz : Nat) : Met l y_K_data (Cond.code y_K_data b_K_data 3 (some .boolean) :: gw) rm_K_data (va_Pc [.ref h0, .int p1, .int p2] (PK D clK (tysK cI cB) (wsK h0 a cI cB S) sz)) (va_Qi K (fun u t => QK D clK (tysK cI cB) (va_A (wsK h0 a cI cB S) sz) (wsK h0 a cI cB u) t) (va_A (wsK h0 a cI cB S) sz)) 0 0 (va_A (wsK h0 a cI cB S) sz) := by
  refine met_of (rm := rm_K_data) (pr := pr_K_data) (Qc := fun A => va_Qi K (fun u t => QK D clK (tysK cI cB) A (wsK h0 a cI cB u) t) A) (by decide +kernel) dm_K_data (Nat.le_of_ble_eq_true rfl) (fun p e s m args below meth c A C => ?_) sz
  unfold wp_K_data at h
  show J p l e rm_K_data s m args below meth c 3 D clK A 0 0 _ (wsK h0 a cI cB S) [(0, .ref h0), (1, .int p1), (2, .int p2)] 0 []
  refine j_iload_n C 0 1 rfl rfl rfl 1 rfl ?_
  refine j_callSi C 1 4 rfl rfl w323 m_Sto_hasWord (As := [.int p1]) (c_Sto_hasWord l D h0 a cI cB S p1 _ h) ⟨rfl, rfl⟩ ⟨Nat.le_of_ble_eq_true rfl, Nat.le_of_ble_eq_true rfl⟩ rfl ⟨Nat.le_of_ble_eq_true rfl, Nat.le_of_ble_eq_true rfl⟩ (Nat.le_of_ble_eq_true rfl) rfl (fun r2 S1 h => ?_)
  refine j_if_eq C 2 14 7 rfl (by decide) rfl (fun c3 => ?_) (fun c3 => ?_)
  · replace h := h.1 c3
    refine j_sub [] rfl ?_
    exact L_K_data_14 C S1 h
  · replace h := h.2 c3
    refine j_aload_n C 3 8 rfl rfl rfl 0 rfl ?_
    refine j_get C 4 11 rfl rfl fg_K_70 0 rfl rfl ?_
    refine j_if_le C 5 16 14 rfl (by decide) rfl (fun c4 => ?_) (fun c4 => ?_)
    · replace h := h.1 c4
      refine j_aload_n C 8 17 rfl rfl rfl 0 rfl ?_
      refine j_get C 9 20 rfl rfl fg_K_26 0 rfl rfl ?_
      refine j_iload_n C 10 21 rfl rfl rfl 1 rfl ?_
      refine j_iload_n C 11 22 rfl rfl rfl 2 rfl ?_
      refine j_callVv C 12 25 rfl rfl w329 m_Sto_setWord (As := [.int p1, .int p2]) (c_Sto_setWord l D h0 a cI cB S1 p1 p2 _ h) ⟨rfl, rfl⟩ ⟨Nat.le_of_ble_eq_true rfl, Nat.le_of_ble_eq_true rfl⟩ 4 rfl rfl rfl ⟨Nat.le_of_ble_eq_true rfl, Nat.le_of_ble_eq_true rfl⟩ (Nat.le_of_ble_eq_true rfl) rfl (fun S5 h => ?_)
      refine j_iconst C 13 26 rfl rfl kI_1 ?_
      exact j_zret C 14 rfl isB_1 h
    · replace h := h.2 c4
      refine j_sub [] rfl ?_
      exact L_K_data_14 C S1 h
abbrev rm_Con_setLines : Room := { frames := 0, cells := 0, slots := 0, locals := 0 }
def wp_Con_setLines (S : St) (p1 : Int32) (K : Int32 → St → Prop) : Prop := (((p1 &&& (-2185)) = 0 → (∀ S2 : St, S2 = st S 3 7 p1 → (K 1 S2))) ∧ (¬ (p1 &&& (-2185)) = 0 → (K 0 S)))
set_option maxHeartbeats 4000000 in
set_option maxRecDepth 100000 in
theorem c_Con_setLines (l : Launch) (D : va_G) (h0 : Nat) (a : Nat → Nat) (cI cB : ClassId) (S : St) (p1 : Int32) (K : Int32 → St → Prop) (h : wp_Con_setLines S p1 K) (sz : Nat) : Met l y_Con_setLines (Cond.code y_Con_setLines b_Con_setLines 2 (some .boolean) :: gw) rm_Con_setLines (va_Pc [.ref (a 3), .int p1] (PK D clK (tysK cI cB) (wsK h0 a cI cB S) sz)) (va_Qi K (fun u t => QK D clK (tysK cI cB) (va_A (wsK h0 a cI cB S) sz) (wsK h0 a cI cB u) t) (va_A (wsK h0 a cI cB S) sz)) 0 0 (va_A (wsK h0 a cI cB S) sz) := by
  refine met_of (rm := rm_Con_setLines) (pr := pr_Con_setLines) (Qc := fun A => va_Qi K (fun u t => QK D clK (tysK cI cB) A (wsK h0 a cI cB u) t) A) (by decide +kernel) dm_Con_setLines (Nat.le_of_ble_eq_true rfl) (fun p e s m args below meth c A C => ?_) sz
  unfold wp_Con_setLines at h
  show J p l e rm_Con_setLines s m args below meth c 2 D clK A 0 0 _ (wsK h0 a cI cB S) [(0, .ref (a 3)), (1, .int p1)] 0 []
  refine j_iload_n C 0 1 rfl rfl rfl 1 rfl ?_
  refine j_sipush C 1 4 rfl rfl kS_m2185 ?_
  refine j_iand C 2 5 rfl rfl ?_
  refine j_if_eq C 3 10 8 rfl (by decide) rfl (fun c1 => ?_) (fun c1 => ?_)
  · replace h := h.1 c1
    refine j_aload_n C 6 11 rfl rfl rfl 0 rfl ?_
    refine j_iload_n C 7 12 rfl rfl rfl 1 rfl ?_
    refine j_put C 8 15 rfl rfl fp_Con_31 3 rfl (Nat.le_of_ble_eq_true rfl) rfl rfl (st S 3 7 p1) (sK_3_7 _ _ _ _ _ _) (fun S2 eS2 => ?_)
    replace h := h S2 eS2
    refine j_iconst C 9 16 rfl rfl kI_1 ?_
    exact j_zret C 10 rfl isB_1 h
  · replace h := h.2 c1
    refine j_iconst C 4 9 rfl rfl kI_0 ?_
    exact j_zret C 5 rfl isB_0 h
abbrev rm_K_lines : Room := { frames := 1, cells := 0, slots := 0, locals := 21 }
def wp_K_lines (S : St) (p1 : Int32) (K : Int32 → St → Prop) : Prop := wp_Con_setLines S p1 (fun r2 S1 => (isB r2 ∧ K r2 S1))
set_option maxHeartbeats 4000000 in
set_option maxRecDepth 100000 in
theorem c_K_lines (l : Launch) (D : va_G) (h0 : Nat) (a : Nat → Nat) (cI cB : ClassId) (S : St) (p1 : Int32) (K : Int32 → St → Prop) (h : wp_K_lines S p1 K) (sz : Nat) : Met l y_K_lines (Cond.code y_K_lines b_K_lines 2 (some .boolean) :: gw) rm_K_lines (va_Pc [.ref h0, .int p1] (PK D clK (tysK cI cB) (wsK h0 a cI cB S) sz)) (va_Qi K (fun u t => QK D clK (tysK cI cB) (va_A (wsK h0 a cI cB S) sz) (wsK h0 a cI cB u) t) (va_A (wsK h0 a cI cB S) sz)) 0 0 (va_A (wsK h0 a cI cB S) sz) := by
  refine met_of (rm := rm_K_lines) (pr := pr_K_lines) (Qc := fun A => va_Qi K (fun u t => QK D clK (tysK cI cB) A (wsK h0 a cI cB u) t) A) (by decide +kernel) dm_K_lines (Nat.le_of_ble_eq_true rfl) (fun p e s m args below meth c A C => ?_) sz
  unfold wp_K_lines at h
  show J p l e rm_K_lines s m args below meth c 2 D clK A 0 0 _ (wsK h0 a cI cB S) [(0, .ref h0), (1, .int p1)] 0 []
  refine j_aload_n C 0 1 rfl rfl rfl 0 rfl ?_
  refine j_get C 1 4 rfl rfl fg_K_19 0 rfl rfl ?_
  refine j_iload_n C 2 5 rfl rfl rfl 1 rfl ?_
  refine j_callVi C 3 8 rfl rfl w337 m_Con_setLines (As := [.int p1]) (c_Con_setLines l D h0 a cI cB S p1 _ h) ⟨rfl, rfl⟩ ⟨Nat.le_of_ble_eq_true rfl, Nat.le_of_ble_eq_true rfl⟩ 3 rfl rfl rfl ⟨Nat.le_of_ble_eq_true rfl, Nat.le_of_ble_eq_true rfl⟩ (Nat.le_of_ble_eq_true rfl) rfl (fun r2 S1 h => ?_)
  exact j_zret C 4 rfl h.1 h.2
abbrev rm_Ins_decode : Room := { frames := 0, cells := 0, slots := 0, locals := 0 }
def wp_Ins_decode (S : St) (p1 : Int32) (p2 : Int32) (p3 : Int32) (K : St → Prop) : Prop := ∀ S1 : St, S1 = st S 15 0 p1 → (isB p2 ∧ (∀ S2 : St, S2 = st S1 15 1 p2 → (∀ S3 : St, S3 = st S2 15 2 p3 → (∀ S4 : St, S4 = st S3 15 3 ((S3 15 2) &&& 127) → (∀ S5 : St, S5 = st S4 15 4 ((jushr (S4 15 2) 7) &&& 31) → (∀ S6 : St, S6 = st S5 15 5 ((jushr (S5 15 2) 12) &&& 7) → (∀ S7 : St, S7 = st S6 15 6 ((jushr (S6 15 2) 15) &&& 31) → (∀ S8 : St, S8 = st S7 15 7 ((jushr (S7 15 2) 20) &&& 31) → (∀ S9 : St, S9 = st S8 15 8 (jushr (S8 15 2) 25) → (K S9))))))))))
set_option maxHeartbeats 4000000 in
set_option maxRecDepth 100000 in
theorem c_Ins_decode (l : Launch) (D : va_G) (h0 : Nat) (a : Nat → Nat) (cI cB : ClassId) (S : St) (p1 : Int32) (p2 : Int32) (p3 : Int32) (K : St → Prop) (h : wp_Ins_decode S p1 p2 p3 K) (sz : Nat) : Met l y_Ins_decode (Cond.code y_Ins_decode b_Ins_decode 4 none :: gw) rm_Ins_decode (va_Pc [.ref (a 17), .int p1, .int p2, .int p3] (PK D clK (tysK cI cB) (wsK h0 a cI cB S) sz)) (va_Qv K (fun u t => QK D clK (tysK cI cB) (va_A (wsK h0 a cI cB S) sz) (wsK h0 a cI cB u) t) (va_A (wsK h0 a cI cB S) sz)) 0 0 (va_A (wsK h0 a cI cB S) sz) := by
  refine met_of (rm := rm_Ins_decode) (pr := pr_Ins_decode) (Qc := fun A => va_Qv K (fun u t => QK D clK (tysK cI cB) A (wsK h0 a cI cB u) t) A) (by decide +kernel) dm_Ins_decode (Nat.le_of_ble_eq_true rfl) (fun p e s m args below meth c A C => ?_) sz
  unfold wp_Ins_decode at h
  show J p l e rm_Ins_decode s m args below meth c 4 D clK A 0 0 _ (wsK h0 a cI cB S) [(0, .ref (a 17)), (1, .int p1), (2, .int p2), (3, .int p3)] 0 []
  refine j_aload_n C 0 1 rfl rfl rfl 0 rfl ?_
  refine j_iload_n C 1 2 rfl rfl rfl 1 rfl ?_
  refine j_put C 2 5 rfl rfl fp_Ins_7 17 rfl (Nat.le_of_ble_eq_true rfl) rfl rfl (st S 15 0 p1) (sK_17_0 _ _ _ _ _ _) (fun S1 eS1 => ?_)
  replace h := h S1 eS1
  refine j_aload_n C 3 6 rfl rfl rfl 0 rfl ?_
  refine j_iload_n C 4 7 rfl rfl rfl 2 rfl ?_
  refine j_put C 5 10 rfl rfl fp_Ins_13 17 rfl (Nat.le_of_ble_eq_true rfl) (isB_nar h.1) (isB_fit h.1) (st S1 15 1 p2) (sK_17_1 _ _ _ _ _ _) (fun S2 eS2 => ?_)
  replace h := h.2
  replace h := h S2 eS2
  refine j_aload_n C 6 11 rfl rfl rfl 0 rfl ?_
  refine j_iload_n C 7 12 rfl rfl rfl 3 rfl ?_
  refine j_put C 8 15 rfl rfl fp_Ins_17 17 rfl (Nat.le_of_ble_eq_true rfl) rfl rfl (st S2 15 2 p3) (sK_17_2 _ _ _ _ _ _) (fun S3 eS3 => ?_)
  replace h := h S3 eS3
  refine j_aload_n C 9 16 rfl rfl rfl 0 rfl ?_
  refine j_aload_n C 10 17 rfl rfl rfl 0 rfl ?_
  refine j_get C 11 20 rfl rfl fg_Ins_17 17 rfl rfl ?_
  refine j_bipush C 12 22 rfl rfl kB_127 ?_
  refine j_iand C 13 23 rfl rfl ?_
  refine j_put C 14 26 rfl rfl fp_Ins_20 17 rfl (Nat.le_of_ble_eq_true rfl) rfl rfl (st S3 15 3 ((S3 15 2) &&& 127)) (sK_17_3 _ _ _ _ _ _) (fun S4 eS4 => ?_)
  replace h := h S4 eS4
  refine j_aload_n C 15 27 rfl rfl rfl 0 rfl ?_
  refine j_aload_n C 16 28 rfl rfl rfl 0 rfl ?_
  refine j_get C 17 31 rfl rfl fg_Ins_17 17 rfl rfl ?_
  refine j_bipush C 18 33 rfl rfl kB_7 ?_
  refine j_iushr C 19 34 rfl rfl ?_
  refine j_bipush C 20 36 rfl rfl kB_31 ?_
  refine j_iand C 21 37 rfl rfl ?_
  refine j_put C 22 40 rfl rfl fp_Ins_23 17 rfl (Nat.le_of_ble_eq_true rfl) rfl rfl (st S4 15 4 ((jushr (S4 15 2) 7) &&& 31)) (sK_17_4 _ _ _ _ _ _) (fun S5 eS5 => ?_)
  replace h := h S5 eS5
  refine j_aload_n C 23 41 rfl rfl rfl 0 rfl ?_
  refine j_aload_n C 24 42 rfl rfl rfl 0 rfl ?_
  refine j_get C 25 45 rfl rfl fg_Ins_17 17 rfl rfl ?_
  refine j_bipush C 26 47 rfl rfl kB_12 ?_
  refine j_iushr C 27 48 rfl rfl ?_
  refine j_bipush C 28 50 rfl rfl kB_7 ?_
  refine j_iand C 29 51 rfl rfl ?_
  refine j_put C 30 54 rfl rfl fp_Ins_26 17 rfl (Nat.le_of_ble_eq_true rfl) rfl rfl (st S5 15 5 ((jushr (S5 15 2) 12) &&& 7)) (sK_17_5 _ _ _ _ _ _) (fun S6 eS6 => ?_)
  replace h := h S6 eS6
  refine j_aload_n C 31 55 rfl rfl rfl 0 rfl ?_
  refine j_aload_n C 32 56 rfl rfl rfl 0 rfl ?_
  refine j_get C 33 59 rfl rfl fg_Ins_17 17 rfl rfl ?_
  refine j_bipush C 34 61 rfl rfl kB_15 ?_
  refine j_iushr C 35 62 rfl rfl ?_
  refine j_bipush C 36 64 rfl rfl kB_31 ?_
  refine j_iand C 37 65 rfl rfl ?_
  refine j_put C 38 68 rfl rfl fp_Ins_29 17 rfl (Nat.le_of_ble_eq_true rfl) rfl rfl (st S6 15 6 ((jushr (S6 15 2) 15) &&& 31)) (sK_17_6 _ _ _ _ _ _) (fun S7 eS7 => ?_)
  replace h := h S7 eS7
  refine j_aload_n C 39 69 rfl rfl rfl 0 rfl ?_
  refine j_aload_n C 40 70 rfl rfl rfl 0 rfl ?_
  refine j_get C 41 73 rfl rfl fg_Ins_17 17 rfl rfl ?_
  refine j_bipush C 42 75 rfl rfl kB_20 ?_
  refine j_iushr C 43 76 rfl rfl ?_
  refine j_bipush C 44 78 rfl rfl kB_31 ?_
  refine j_iand C 45 79 rfl rfl ?_
  refine j_put C 46 82 rfl rfl fp_Ins_32 17 rfl (Nat.le_of_ble_eq_true rfl) rfl rfl (st S7 15 7 ((jushr (S7 15 2) 20) &&& 31)) (sK_17_7 _ _ _ _ _ _) (fun S8 eS8 => ?_)
  replace h := h S8 eS8
  refine j_aload_n C 47 83 rfl rfl rfl 0 rfl ?_
  refine j_aload_n C 48 84 rfl rfl rfl 0 rfl ?_
  refine j_get C 49 87 rfl rfl fg_Ins_17 17 rfl rfl ?_
  refine j_bipush C 50 89 rfl rfl kB_25 ?_
  refine j_iushr C 51 90 rfl rfl ?_
  refine j_put C 52 93 rfl rfl fp_Ins_35 17 rfl (Nat.le_of_ble_eq_true rfl) rfl rfl (st S8 15 8 (jushr (S8 15 2) 25)) (sK_17_8 _ _ _ _ _ _) (fun S9 eS9 => ?_)
  replace h := h S9 eS9
  exact j_vret C 53 rfl h
abbrev rm_For_entryFor : Room := { frames := 0, cells := 0, slots := 0, locals := 0 }
def wp_For_entryFor (S : St) (p1 : Int32) (K : Int32 → St → Prop) : Prop := K ((p1 >>> (2 &&& 31)) &&& 3) S
set_option maxHeartbeats 4000000 in
set_option maxRecDepth 100000 in
theorem c_For_entryFor (l : Launch) (D : va_G) (h0 : Nat) (a : Nat → Nat) (cI cB : ClassId) (S : St) (p1 : Int32) (K : Int32 → St → Prop) (h : wp_For_entryFor S p1 K) (sz : Nat) : Met l y_For_entryFor (Cond.code y_For_entryFor b_For_entryFor 1 (some .int) :: gw) rm_For_entryFor (va_Pc [.int p1] (PK D clK (tysK cI cB) (wsK h0 a cI cB S) sz)) (va_Qi K (fun u t => QK D clK (tysK cI cB) (va_A (wsK h0 a cI cB S) sz) (wsK h0 a cI cB u) t) (va_A (wsK h0 a cI cB S) sz)) 0 0 (va_A (wsK h0 a cI cB S) sz) := by
  refine met_of (rm := rm_For_entryFor) (pr := pr_For_entryFor) (Qc := fun A => va_Qi K (fun u t => QK D clK (tysK cI cB) A (wsK h0 a cI cB u) t) A) (by decide +kernel) dm_For_entryFor (Nat.le_of_ble_eq_true rfl) (fun p e s m args below meth c A C => ?_) sz
  unfold wp_For_entryFor at h
  show J p l e rm_For_entryFor s m args below meth c 1 D clK A 0 0 _ (wsK h0 a cI cB S) [(0, .int p1)] 0 []
  refine j_iload_n C 0 1 rfl rfl rfl 0 rfl ?_
  refine j_iconst C 1 2 rfl rfl kI_2 ?_
  refine j_ishr C 2 3 rfl rfl ?_
  refine j_iconst C 3 4 rfl rfl kI_3 ?_
  refine j_iand C 4 5 rfl rfl ?_
  exact j_iret C 5 rfl h
abbrev rm_For_foretell : Room := { frames := 1, cells := 0, slots := 0, locals := 20 }
def wp_For_foretell_27 (K : Int32 → St → Prop) (KH : St → Int32 → Int32 → Int32 → Int32 → Prop) (S : St) (v1 : Int32) (v2 : Int32) (v3 : Int32) (v4 : Int32) : Prop := (KH S v1 v2 v3 (v4 + 1))
set_option maxHeartbeats 4000000 in
set_option maxRecDepth 100000 in
theorem L_For_foretell_27 {p : Program} {l : Launch} {e : Env} {s : State} {m : MethodId} {args : Array Value} {below : List Frame} {meth : Method} {c : Code} {A : Nat → Prop} {D : va_G} {h0 : Nat} {a : Nat → Nat} {cI cB : ClassId} {K : Int32 → St → Prop} (C : CX p rm_For_foretell s m args meth c b_For_foretell 6 "PipelinedCore$Foreteller" (some .int) pr_For_foretell D clK (tysK cI cB) A) (KH : St → Int32 → Int32 → Int32 → Int32 → Prop) (hKH : ∀ (S : St) (v1 : Int32) (v2 : Int32) (v3 : Int32) (v4 : Int32), KH S v1 v2 v3 v4 → J p l e rm_For_foretell s m args below meth c 6 D clK A 0 0 (MQ below (va_Qi K (fun u t => QK D clK (tysK cI cB) A (wsK h0 a cI cB u) t) A) args s 0 0 A) (wsK h0 a cI cB S) [(0, .ref (a 9)), (1, .int v1), (2, .int v2), (3, .int v3), (4, .int v4)] 5 []) (S : St) (v1 : Int32) (v2 : Int32) (v3 : Int32) (v4 : Int32) (h : wp_For_foretell_27 K KH S v1 v2 v3 v4) : J p l e rm_For_foretell s m args below meth c 6 D clK A 0 0 (MQ below (va_Qi K (fun u t => QK D clK (tysK cI cB) A (wsK h0 a cI cB u) t) A) args s 0 0 A) (wsK h0 a cI cB S) [(0, .ref (a 9)), (1, .int v1), (2, .int v2), (3, .int v3), (4, .int v4)] 27 [] := by
  unfold wp_For_foretell_27 at h
  refine j_iinc C 17 30 [(4, .int (v4 + 1)), (0, .ref (a 9)), (1, .int v1), (2, .int v2), (3, .int v3)] rfl rfl 4 rfl kI_1 (by decide) rfl ?_
  refine j_goto C 18 5 rfl (by decide) ?_
  refine j_sub [1, 2, 3, 4, 0] rfl ?_
  exact hKH S v1 v2 v3 (v4 + 1) h
def wp_For_foretell_90 (K : Int32 → St → Prop) (S : St) (k0 : Int32) : Prop := K k0 S
set_option maxHeartbeats 4000000 in
set_option maxRecDepth 100000 in
theorem L_For_foretell_90 {p : Program} {l : Launch} {e : Env} {s : State} {m : MethodId} {args : Array Value} {below : List Frame} {meth : Method} {c : Code} {A : Nat → Prop} {D : va_G} {h0 : Nat} {a : Nat → Nat} {cI cB : ClassId} {K : Int32 → St → Prop} (C : CX p rm_For_foretell s m args meth c b_For_foretell 6 "PipelinedCore$Foreteller" (some .int) pr_For_foretell D clK (tysK cI cB) A) (S : St) (k0 : Int32) (h : wp_For_foretell_90 K S k0) : J p l e rm_For_foretell s m args below meth c 6 D clK A 0 0 (MQ below (va_Qi K (fun u t => QK D clK (tysK cI cB) A (wsK h0 a cI cB u) t) A) args s 0 0 A) (wsK h0 a cI cB S) [] 90 [.int k0] := by
  unfold wp_For_foretell_90 at h
  exact j_iret C 52 rfl h
def wp_For_foretell_70 (K : Int32 → St → Prop) (S : St) (v1 : Int32) (v4 : Int32) (k0 : Int32) : Prop := ((k0 = 0 → ((wp_For_foretell_90 K S (v1 + 4)))) ∧ (¬ k0 = 0 → (vp_in v4 12 ∧ ((wp_For_foretell_90 K S (S 9 v4.toNatClampNeg))))))
set_option maxHeartbeats 4000000 in
set_option maxRecDepth 100000 in
theorem L_For_foretell_70 {p : Program} {l : Launch} {e : Env} {s : State} {m : MethodId} {args : Array Value} {below : List Frame} {meth : Method} {c : Code} {A : Nat → Prop} {D : va_G} {h0 : Nat} {a : Nat → Nat} {cI cB : ClassId} {K : Int32 → St → Prop} (C : CX p rm_For_foretell s m args meth c b_For_foretell 6 "PipelinedCore$Foreteller" (some .int) pr_For_foretell D clK (tysK cI cB) A) (S : St) (v1 : Int32) (v4 : Int32) (k0 : Int32) (h : wp_For_foretell_70 K S v1 v4 k0) : J p l e rm_For_foretell s m args below meth c 6 D clK A 0 0 (MQ below (va_Qi K (fun u t => QK D clK (tysK cI cB) A (wsK h0 a cI cB u) t) A) args s 0 0 A) (wsK h0 a cI cB S) [(0, .ref (a 9)), (1, .int v1), (4, .int v4)] 70 [.int k0] := by
  unfold wp_For_foretell_70 at h
  refine j_istore C 41 72 [(5, .int k0), (0, .ref (a 9)), (1, .int v1), (4, .int v4)] rfl rfl (by decide) rfl ?_
  refine j_iload C 42 74 rfl rfl 0 rfl ?_
  refine j_if_eq C 43 87 77 rfl (by decide) rfl (fun c9 => ?_) (fun c9 => ?_)
  · replace h := h.1 c9
    refine j_iload_n C 49 88 rfl rfl rfl 2 rfl ?_
    refine j_iconst C 50 89 rfl rfl kI_4 ?_
    refine j_iadd C 51 90 rfl rfl ?_
    refine j_sub [] rfl ?_
    exact L_For_foretell_90 C S (v1 + 4) h
  · replace h := h.2 c9
    refine j_aload_n C 44 78 rfl rfl rfl 1 rfl ?_
    refine j_get C 45 81 rfl rfl fg_For_13 9 rfl rfl ?_
    refine j_iload C 46 83 rfl rfl 3 rfl ?_
    refine j_iald C 47 84 rfl rfl 11 0 rfl rfl h.1 ?_
    replace h := h.2
    refine j_goto C 48 90 rfl (by decide) ?_
    refine j_sub [] rfl ?_
    exact L_For_foretell_90 C S (S 9 v4.toNatClampNeg) h
def wp_For_foretell_69 (K : Int32 → St → Prop) (S : St) (v1 : Int32) (v4 : Int32) : Prop := (wp_For_foretell_70 K S v1 v4 0)
set_option maxHeartbeats 4000000 in
set_option maxRecDepth 100000 in
theorem L_For_foretell_69 {p : Program} {l : Launch} {e : Env} {s : State} {m : MethodId} {args : Array Value} {below : List Frame} {meth : Method} {c : Code} {A : Nat → Prop} {D : va_G} {h0 : Nat} {a : Nat → Nat} {cI cB : ClassId} {K : Int32 → St → Prop} (C : CX p rm_For_foretell s m args meth c b_For_foretell 6 "PipelinedCore$Foreteller" (some .int) pr_For_foretell D clK (tysK cI cB) A) (S : St) (v1 : Int32) (v4 : Int32) (h : wp_For_foretell_69 K S v1 v4) : J p l e rm_For_foretell s m args below meth c 6 D clK A 0 0 (MQ below (va_Qi K (fun u t => QK D clK (tysK cI cB) A (wsK h0 a cI cB u) t) A) args s 0 0 A) (wsK h0 a cI cB S) [(0, .ref (a 9)), (1, .int v1), (4, .int v4)] 69 [] := by
  unfold wp_For_foretell_69 at h
  refine j_iconst C 40 70 rfl rfl kI_0 ?_
  exact L_For_foretell_70 C S v1 v4 0 h
def wp_For_foretell_5 (K : Int32 → St → Prop) : Nat → St → Int32 → Int32 → Int32 → Int32 → Prop
  | 0 => fun _ _ _ _ _ => False
  | f + 1 => fun S v1 v2 v3 v4 => (fun KH : St → Int32 → Int32 → Int32 → Int32 → Prop => (((2 : Int32) ≤ v4 → (wp_For_entryFor S v1 (fun r3 S2 => (∀ x4 : Int32, x4 = (v3 * 4) + r3 → (vp_in x4 12 ∧ (((¬ (S2 8 x4.toNatClampNeg) = v1 → ((wp_For_foretell_69 K S2 v1 x4))) ∧ ((S2 8 x4.toNatClampNeg) = v1 → (vp_in x4 12 ∧ ((((S2 10 x4.toNatClampNeg) < 2 → ((wp_For_foretell_69 K S2 v1 x4))) ∧ (¬ (S2 10 x4.toNatClampNeg) < 2 → ((wp_For_foretell_70 K S2 v1 x4 1)))))))))))))) ∧ (¬ (2 : Int32) ≤ v4 → (vp_in v4 2 ∧ ((((S 11 v4.toNatClampNeg) < v2 → ((wp_For_foretell_27 K KH S v1 v2 v3 v4))) ∧ (¬ (S 11 v4.toNatClampNeg) < v2 → (∀ x8 : Int32, x8 = v4 + 1 → ((wp_For_foretell_27 K KH S v1 v2 x8 v4)))))))))) (wp_For_foretell_5 K f)
set_option maxHeartbeats 4000000 in
set_option maxRecDepth 100000 in
theorem L_For_foretell_5 {p : Program} {l : Launch} {e : Env} {s : State} {m : MethodId} {args : Array Value} {below : List Frame} {meth : Method} {c : Code} {A : Nat → Prop} {D : va_G} {h0 : Nat} {a : Nat → Nat} {cI cB : ClassId} {K : Int32 → St → Prop} (C : CX p rm_For_foretell s m args meth c b_For_foretell 6 "PipelinedCore$Foreteller" (some .int) pr_For_foretell D clK (tysK cI cB) A) (f : Nat) : ∀ (S : St) (v1 : Int32) (v2 : Int32) (v3 : Int32) (v4 : Int32), wp_For_foretell_5 K f S v1 v2 v3 v4 → J p l e rm_For_foretell s m args below meth c 6 D clK A 0 0 (MQ below (va_Qi K (fun u t => QK D clK (tysK cI cB) A (wsK h0 a cI cB u) t) A) args s 0 0 A) (wsK h0 a cI cB S) [(0, .ref (a 9)), (1, .int v1), (2, .int v2), (3, .int v3), (4, .int v4)] 5 [] := by
  induction f with
  | zero => exact fun _ _ _ _ _ h => h.elim
  | succ f ih =>
    intro S v1 v2 v3 v4 h
    have hKH := ih
    rw [wp_For_foretell_5] at h
    generalize wp_For_foretell_5 K f = KH at h hKH
    dsimp only at h
    refine j_iload C 4 7 rfl rfl 4 rfl ?_
    refine j_iconst C 5 8 rfl rfl kI_2 ?_
    refine j_icmp_ge C 6 33 11 rfl (by decide) rfl (fun c1 => ?_) (fun c1 => ?_)
    · replace h := h.1 c1
      refine j_iload_n C 19 34 rfl rfl rfl 3 rfl ?_
      refine j_iconst C 20 35 rfl rfl kI_4 ?_
      refine j_imul C 21 36 rfl rfl ?_
      refine j_iload_n C 22 37 rfl rfl rfl 1 rfl ?_
      refine j_callSi C 23 40 rfl rfl w357 m_For_entryFor (As := [.int v1]) (c_For_entryFor l D h0 a cI cB S v1 _ h) ⟨rfl, rfl⟩ ⟨Nat.le_of_ble_eq_true rfl, Nat.le_of_ble_eq_true rfl⟩ rfl ⟨Nat.le_of_ble_eq_true rfl, Nat.le_of_ble_eq_true rfl⟩ (Nat.le_of_ble_eq_true rfl) rfl (fun r3 S2 h => ?_)
      refine j_iadd C 24 41 rfl rfl ?_
      refine j_topi (fun x4 ex4 => ?_)
      replace h := h x4 ex4
      refine j_istore C 25 43 [(4, .int x4), (0, .ref (a 9)), (1, .int v1), (2, .int v2), (3, .int v3)] rfl rfl (by decide) rfl ?_
      refine j_aload_n C 26 44 rfl rfl rfl 1 rfl ?_
      refine j_get C 27 47 rfl rfl fg_For_9 9 rfl rfl ?_
      refine j_iload C 28 49 rfl rfl 0 rfl ?_
      refine j_iald C 29 50 rfl rfl 10 0 rfl rfl h.1 ?_
      replace h := h.2
      refine j_iload_n C 30 51 rfl rfl rfl 2 rfl ?_
      refine j_icmp_ne C 31 69 54 rfl (by decide) rfl (fun c5 => ?_) (fun c5 => ?_)
      · replace h := h.1 c5
        refine j_sub [1, 2, 0] rfl ?_
        exact L_For_foretell_69 C S2 v1 x4 h
      · replace h := h.2 c5
        refine j_aload_n C 32 55 rfl rfl rfl 1 rfl ?_
        refine j_get C 33 58 rfl rfl fg_For_16 9 rfl rfl ?_
        refine j_iload C 34 60 rfl rfl 0 rfl ?_
        refine j_iald C 35 61 rfl rfl 12 0 rfl rfl h.1 ?_
        replace h := h.2
        refine j_iconst C 36 62 rfl rfl kI_2 ?_
        refine j_icmp_lt C 37 69 65 rfl (by decide) rfl (fun c6 => ?_) (fun c6 => ?_)
        · replace h := h.1 c6
          refine j_sub [1, 2, 0] rfl ?_
          exact L_For_foretell_69 C S2 v1 x4 h
        · replace h := h.2 c6
          refine j_iconst C 38 66 rfl rfl kI_1 ?_
          refine j_goto C 39 70 rfl (by decide) ?_
          refine j_sub [1, 2, 0] rfl ?_
          exact L_For_foretell_70 C S2 v1 x4 1 h
    · replace h := h.2 c1
      refine j_aload_n C 7 12 rfl rfl rfl 0 rfl ?_
      refine j_get C 8 15 rfl rfl fg_For_19 9 rfl rfl ?_
      refine j_iload C 9 17 rfl rfl 4 rfl ?_
      refine j_iald C 10 18 rfl rfl 13 0 rfl rfl h.1 ?_
      replace h := h.2
      refine j_iload_n C 11 19 rfl rfl rfl 2 rfl ?_
      refine j_icmp_lt C 12 27 22 rfl (by decide) rfl (fun c7 => ?_) (fun c7 => ?_)
      · replace h := h.1 c7
        exact L_For_foretell_27 C KH hKH S v1 v2 v3 v4 h
      · replace h := h.2 c7
        refine j_iload C 13 24 rfl rfl 4 rfl ?_
        refine j_iconst C 14 25 rfl rfl kI_1 ?_
        refine j_iadd C 15 26 rfl rfl ?_
        refine j_topi (fun x8 ex8 => ?_)
        replace h := h x8 ex8
        refine j_istore_n C 16 27 [(3, .int x8), (0, .ref (a 9)), (1, .int v1), (2, .int v2), (4, .int v4)] rfl rfl rfl (by decide) rfl ?_
        refine j_sub [1, 2, 3, 0, 4] rfl ?_
        exact L_For_foretell_27 C KH hKH S v1 v2 x8 v4 h
def wp_For_foretell (S : St) (p1 : Int32) (p2 : Int32) (K : Int32 → St → Prop) : Prop := (∃ f, wp_For_foretell_5 K f S p1 p2 0 0)
set_option maxHeartbeats 4000000 in
set_option maxRecDepth 100000 in
theorem c_For_foretell (l : Launch) (D : va_G) (h0 : Nat) (a : Nat → Nat) (cI cB : ClassId) (S : St) (p1 : Int32) (p2 : Int32) (K : Int32 → St → Prop) (h : wp_For_foretell S p1 p2 K) (sz : Nat) : Met l y_For_foretell (Cond.code y_For_foretell b_For_foretell 6 (some .int) :: gw) rm_For_foretell (va_Pc [.ref (a 9), .int p1, .int p2] (PK D clK (tysK cI cB) (wsK h0 a cI cB S) sz)) (va_Qi K (fun u t => QK D clK (tysK cI cB) (va_A (wsK h0 a cI cB S) sz) (wsK h0 a cI cB u) t) (va_A (wsK h0 a cI cB S) sz)) 0 0 (va_A (wsK h0 a cI cB S) sz) := by
  refine met_of (rm := rm_For_foretell) (pr := pr_For_foretell) (Qc := fun A => va_Qi K (fun u t => QK D clK (tysK cI cB) A (wsK h0 a cI cB u) t) A) (by decide +kernel) dm_For_foretell (Nat.le_of_ble_eq_true rfl) (fun p e s m args below meth c A C => ?_) sz
  unfold wp_For_foretell at h
  show J p l e rm_For_foretell s m args below meth c 6 D clK A 0 0 _ (wsK h0 a cI cB S) [(0, .ref (a 9)), (1, .int p1), (2, .int p2)] 0 []
  refine j_iconst C 0 1 rfl rfl kI_0 ?_
  refine j_istore_n C 1 2 [(3, .int 0), (0, .ref (a 9)), (1, .int p1), (2, .int p2)] rfl rfl rfl (by decide) rfl ?_
  refine j_iconst C 2 3 rfl rfl kI_0 ?_
  refine j_istore C 3 5 [(4, .int 0), (3, .int 0), (0, .ref (a 9)), (1, .int p1), (2, .int p2)] rfl rfl (by decide) rfl ?_
  refine j_sub [2, 3, 4, 1, 0] rfl ?_
  obtain ⟨f, h⟩ := h
  exact L_For_foretell_5 C f S p1 p2 0 0 h
abbrev rm_Ins_usesA : Room := { frames := 0, cells := 0, slots := 0, locals := 0 }
def wp_Ins_usesA_78 (K : Int32 → St → Prop) (S : St) (k0 : Int32) : Prop := isB k0 ∧ K k0 S
set_option maxHeartbeats 4000000 in
set_option maxRecDepth 100000 in
theorem L_Ins_usesA_78 {p : Program} {l : Launch} {e : Env} {s : State} {m : MethodId} {args : Array Value} {below : List Frame} {meth : Method} {c : Code} {A : Nat → Prop} {D : va_G} {h0 : Nat} {a : Nat → Nat} {cI cB : ClassId} {K : Int32 → St → Prop} (C : CX p rm_Ins_usesA s m args meth c b_Ins_usesA 1 "PipelinedCore$Instruction" (some .boolean) pr_Ins_usesA D clK (tysK cI cB) A) (S : St) (k0 : Int32) (h : wp_Ins_usesA_78 K S k0) : J p l e rm_Ins_usesA s m args below meth c 1 D clK A 0 0 (MQ below (va_Qi K (fun u t => QK D clK (tysK cI cB) A (wsK h0 a cI cB u) t) A) args s 0 0 A) (wsK h0 a cI cB S) [] 78 [.int k0] := by
  unfold wp_Ins_usesA_78 at h
  exact j_zret C 15 rfl h.1 h.2
def wp_Ins_usesA_77 (K : Int32 → St → Prop) (S : St)  : Prop := (wp_Ins_usesA_78 K S 0)
set_option maxHeartbeats 4000000 in
set_option maxRecDepth 100000 in
theorem L_Ins_usesA_77 {p : Program} {l : Launch} {e : Env} {s : State} {m : MethodId} {args : Array Value} {below : List Frame} {meth : Method} {c : Code} {A : Nat → Prop} {D : va_G} {h0 : Nat} {a : Nat → Nat} {cI cB : ClassId} {K : Int32 → St → Prop} (C : CX p rm_Ins_usesA s m args meth c b_Ins_usesA 1 "PipelinedCore$Instruction" (some .boolean) pr_Ins_usesA D clK (tysK cI cB) A) (S : St)  (h : wp_Ins_usesA_77 K S) : J p l e rm_Ins_usesA s m args below meth c 1 D clK A 0 0 (MQ below (va_Qi K (fun u t => QK D clK (tysK cI cB) A (wsK h0 a cI cB u) t) A) args s 0 0 A) (wsK h0 a cI cB S) [] 77 [] := by
  unfold wp_Ins_usesA_77 at h
  refine j_iconst C 14 78 rfl rfl kI_0 ?_
  exact L_Ins_usesA_78 C S 0 h
def wp_Ins_usesA (S : St)  (K : Int32 → St → Prop) : Prop := (((S 15 3) = 15 → (K 0 S)) ∧ (¬ (S 15 3) = 15 → (((S 15 3) = 23 → (K 0 S)) ∧ (¬ (S 15 3) = 23 → (((S 15 3) = 55 → (K 0 S)) ∧ (¬ (S 15 3) = 55 → (((S 15 3) = 111 → (K 0 S)) ∧ (¬ (S 15 3) = 111 → (((S 15 3) = 115 → ((((S 15 5) = 0 → ((wp_Ins_usesA_77 K S))) ∧ (¬ (S 15 5) = 0 → ((((5 : Int32) ≤ (S 15 5) → ((wp_Ins_usesA_77 K S))) ∧ (¬ (5 : Int32) ≤ (S 15 5) → ((wp_Ins_usesA_78 K S 1))))))))) ∧ (¬ (S 15 3) = 115 → (K 1 S)))))))))))
set_option maxHeartbeats 4000000 in
set_option maxRecDepth 100000 in
theorem c_Ins_usesA (l : Launch) (D : va_G) (h0 : Nat) (a : Nat → Nat) (cI cB : ClassId) (S : St)  (K : Int32 → St → Prop) (h : wp_Ins_usesA S K) (sz : Nat) : Met l y_Ins_usesA (Cond.code y_Ins_usesA b_Ins_usesA 1 (some .boolean) :: gw) rm_Ins_usesA (va_Pc [.ref (a 17)] (PK D clK (tysK cI cB) (wsK h0 a cI cB S) sz)) (va_Qi K (fun u t => QK D clK (tysK cI cB) (va_A (wsK h0 a cI cB S) sz) (wsK h0 a cI cB u) t) (va_A (wsK h0 a cI cB S) sz)) 0 0 (va_A (wsK h0 a cI cB S) sz) := by
  refine met_of (rm := rm_Ins_usesA) (pr := pr_Ins_usesA) (Qc := fun A => va_Qi K (fun u t => QK D clK (tysK cI cB) A (wsK h0 a cI cB u) t) A) (by decide +kernel) dm_Ins_usesA (Nat.le_of_ble_eq_true rfl) (fun p e s m args below meth c A C => ?_) sz
  unfold wp_Ins_usesA at h
  show J p l e rm_Ins_usesA s m args below meth c 1 D clK A 0 0 _ (wsK h0 a cI cB S) [(0, .ref (a 17))] 0 []
  refine j_aload_n C 0 1 rfl rfl rfl 0 rfl ?_
  refine j_get C 1 4 rfl rfl fg_Ins_20 17 rfl rfl ?_
  refine j_lookup C 2 rfl (by decide) [(15, 56), (23, 56), (55, 56), (111, 56), (115, 58)] 79 (by decide +kernel) (by decide) (swP_c (fun c1_0 => ?_) (fun nc1_0 => swP_c (fun c1_1 => ?_) (fun nc1_1 => swP_c (fun c1_2 => ?_) (fun nc1_2 => swP_c (fun c1_3 => ?_) (fun nc1_3 => swP_c (fun c1_4 => ?_) (fun nc1_4 => swP_n ?_))))))
  · replace h := h.1 c1_0
    refine j_iconst C 3 57 rfl rfl kI_0 ?_
    exact j_zret C 4 rfl isB_0 h
  · replace h := (h.2 nc1_0).1 c1_1
    refine j_iconst C 3 57 rfl rfl kI_0 ?_
    exact j_zret C 4 rfl isB_0 h
  · replace h := ((h.2 nc1_0).2 nc1_1).1 c1_2
    refine j_iconst C 3 57 rfl rfl kI_0 ?_
    exact j_zret C 4 rfl isB_0 h
  · replace h := (((h.2 nc1_0).2 nc1_1).2 nc1_2).1 c1_3
    refine j_iconst C 3 57 rfl rfl kI_0 ?_
    exact j_zret C 4 rfl isB_0 h
  · replace h := ((((h.2 nc1_0).2 nc1_1).2 nc1_2).2 nc1_3).1 c1_4
    refine j_aload_n C 5 59 rfl rfl rfl 0 rfl ?_
    refine j_get C 6 62 rfl rfl fg_Ins_26 17 rfl rfl ?_
    refine j_if_eq C 7 77 65 rfl (by decide) rfl (fun c2 => ?_) (fun c2 => ?_)
    · replace h := h.1 c2
      refine j_sub [] rfl ?_
      exact L_Ins_usesA_77 C S h
    · replace h := h.2 c2
      refine j_aload_n C 8 66 rfl rfl rfl 0 rfl ?_
      refine j_get C 9 69 rfl rfl fg_Ins_26 17 rfl rfl ?_
      refine j_iconst C 10 70 rfl rfl kI_5 ?_
      refine j_icmp_ge C 11 77 73 rfl (by decide) rfl (fun c3 => ?_) (fun c3 => ?_)
      · replace h := h.1 c3
        refine j_sub [] rfl ?_
        exact L_Ins_usesA_77 C S h
      · replace h := h.2 c3
        refine j_iconst C 12 74 rfl rfl kI_1 ?_
        refine j_goto C 13 78 rfl (by decide) ?_
        refine j_sub [] rfl ?_
        exact L_Ins_usesA_78 C S 1 h
  · replace h := (((((h.2 nc1_0).2 nc1_1).2 nc1_2).2 nc1_3).2 nc1_4)
    refine j_iconst C 16 80 rfl rfl kI_1 ?_
    exact j_zret C 17 rfl isB_1 h
abbrev rm_Ins_usesB : Room := { frames := 0, cells := 0, slots := 0, locals := 0 }
def wp_Ins_usesB_32 (K : Int32 → St → Prop) (S : St) (k0 : Int32) : Prop := isB k0 ∧ K k0 S
set_option maxHeartbeats 4000000 in
set_option maxRecDepth 100000 in
theorem L_Ins_usesB_32 {p : Program} {l : Launch} {e : Env} {s : State} {m : MethodId} {args : Array Value} {below : List Frame} {meth : Method} {c : Code} {A : Nat → Prop} {D : va_G} {h0 : Nat} {a : Nat → Nat} {cI cB : ClassId} {K : Int32 → St → Prop} (C : CX p rm_Ins_usesB s m args meth c b_Ins_usesB 1 "PipelinedCore$Instruction" (some .boolean) pr_Ins_usesB D clK (tysK cI cB) A) (S : St) (k0 : Int32) (h : wp_Ins_usesB_32 K S k0) : J p l e rm_Ins_usesB s m args below meth c 1 D clK A 0 0 (MQ below (va_Qi K (fun u t => QK D clK (tysK cI cB) A (wsK h0 a cI cB u) t) A) args s 0 0 A) (wsK h0 a cI cB S) [] 32 [.int k0] := by
  unfold wp_Ins_usesB_32 at h
  exact j_zret C 15 rfl h.1 h.2
def wp_Ins_usesB_27 (K : Int32 → St → Prop) (S : St)  : Prop := (wp_Ins_usesB_32 K S 1)
set_option maxHeartbeats 4000000 in
set_option maxRecDepth 100000 in
theorem L_Ins_usesB_27 {p : Program} {l : Launch} {e : Env} {s : State} {m : MethodId} {args : Array Value} {below : List Frame} {meth : Method} {c : Code} {A : Nat → Prop} {D : va_G} {h0 : Nat} {a : Nat → Nat} {cI cB : ClassId} {K : Int32 → St → Prop} (C : CX p rm_Ins_usesB s m args meth c b_Ins_usesB 1 "PipelinedCore$Instruction" (some .boolean) pr_Ins_usesB D clK (tysK cI cB) A) (S : St)  (h : wp_Ins_usesB_27 K S) : J p l e rm_Ins_usesB s m args below meth c 1 D clK A 0 0 (MQ below (va_Qi K (fun u t => QK D clK (tysK cI cB) A (wsK h0 a cI cB u) t) A) args s 0 0 A) (wsK h0 a cI cB S) [] 27 [] := by
  unfold wp_Ins_usesB_27 at h
  refine j_iconst C 12 28 rfl rfl kI_1 ?_
  refine j_goto C 13 32 rfl (by decide) ?_
  exact L_Ins_usesB_32 C S 1 h
def wp_Ins_usesB (S : St)  (K : Int32 → St → Prop) : Prop := (((S 15 3) = 99 → ((wp_Ins_usesB_27 K S))) ∧ (¬ (S 15 3) = 99 → ((((S 15 3) = 35 → ((wp_Ins_usesB_27 K S))) ∧ (¬ (S 15 3) = 35 → (((¬ (S 15 3) = 51 → ((wp_Ins_usesB_32 K S 0))) ∧ ((S 15 3) = 51 → ((wp_Ins_usesB_27 K S))))))))))
set_option maxHeartbeats 4000000 in
set_option maxRecDepth 100000 in
theorem c_Ins_usesB (l : Launch) (D : va_G) (h0 : Nat) (a : Nat → Nat) (cI cB : ClassId) (S : St)  (K : Int32 → St → Prop) (h : wp_Ins_usesB S K) (sz : Nat) : Met l y_Ins_usesB (Cond.code y_Ins_usesB b_Ins_usesB 1 (some .boolean) :: gw) rm_Ins_usesB (va_Pc [.ref (a 17)] (PK D clK (tysK cI cB) (wsK h0 a cI cB S) sz)) (va_Qi K (fun u t => QK D clK (tysK cI cB) (va_A (wsK h0 a cI cB S) sz) (wsK h0 a cI cB u) t) (va_A (wsK h0 a cI cB S) sz)) 0 0 (va_A (wsK h0 a cI cB S) sz) := by
  refine met_of (rm := rm_Ins_usesB) (pr := pr_Ins_usesB) (Qc := fun A => va_Qi K (fun u t => QK D clK (tysK cI cB) A (wsK h0 a cI cB u) t) A) (by decide +kernel) dm_Ins_usesB (Nat.le_of_ble_eq_true rfl) (fun p e s m args below meth c A C => ?_) sz
  unfold wp_Ins_usesB at h
  show J p l e rm_Ins_usesB s m args below meth c 1 D clK A 0 0 _ (wsK h0 a cI cB S) [(0, .ref (a 17))] 0 []
  refine j_aload_n C 0 1 rfl rfl rfl 0 rfl ?_
  refine j_get C 1 4 rfl rfl fg_Ins_20 17 rfl rfl ?_
  refine j_bipush C 2 6 rfl rfl kB_99 ?_
  refine j_icmp_eq C 3 27 9 rfl (by decide) rfl (fun c1 => ?_) (fun c1 => ?_)
  · replace h := h.1 c1
    refine j_sub [] rfl ?_
    exact L_Ins_usesB_27 C S h
  · replace h := h.2 c1
    refine j_aload_n C 4 10 rfl rfl rfl 0 rfl ?_
    refine j_get C 5 13 rfl rfl fg_Ins_20 17 rfl rfl ?_
    refine j_bipush C 6 15 rfl rfl kB_35 ?_
    refine j_icmp_eq C 7 27 18 rfl (by decide) rfl (fun c2 => ?_) (fun c2 => ?_)
    · replace h := h.1 c2
      refine j_sub [] rfl ?_
      exact L_Ins_usesB_27 C S h
    · replace h := h.2 c2
      refine j_aload_n C 8 19 rfl rfl rfl 0 rfl ?_
      refine j_get C 9 22 rfl rfl fg_Ins_20 17 rfl rfl ?_
      refine j_bipush C 10 24 rfl rfl kB_51 ?_
      refine j_icmp_ne C 11 31 27 rfl (by decide) rfl (fun c3 => ?_) (fun c3 => ?_)
      · replace h := h.1 c3
        refine j_iconst C 14 32 rfl rfl kI_0 ?_
        refine j_sub [] rfl ?_
        exact L_Ins_usesB_32 C S 0 h
      · replace h := h.2 c3
        refine j_sub [] rfl ?_
        exact L_Ins_usesB_27 C S h
abbrev rm_Ins_uses : Room := { frames := 1, cells := 0, slots := 0, locals := 20 }
def wp_Ins_uses_35 (K : Int32 → St → Prop) (S : St) (k0 : Int32) : Prop := isB k0 ∧ K k0 S
set_option maxHeartbeats 4000000 in
set_option maxRecDepth 100000 in
theorem L_Ins_uses_35 {p : Program} {l : Launch} {e : Env} {s : State} {m : MethodId} {args : Array Value} {below : List Frame} {meth : Method} {c : Code} {A : Nat → Prop} {D : va_G} {h0 : Nat} {a : Nat → Nat} {cI cB : ClassId} {K : Int32 → St → Prop} (C : CX p rm_Ins_uses s m args meth c b_Ins_uses 2 "PipelinedCore$Instruction" (some .boolean) pr_Ins_uses D clK (tysK cI cB) A) (S : St) (k0 : Int32) (h : wp_Ins_uses_35 K S k0) : J p l e rm_Ins_uses s m args below meth c 2 D clK A 0 0 (MQ below (va_Qi K (fun u t => QK D clK (tysK cI cB) A (wsK h0 a cI cB u) t) A) args s 0 0 A) (wsK h0 a cI cB S) [] 35 [.int k0] := by
  unfold wp_Ins_uses_35 at h
  exact j_zret C 17 rfl h.1 h.2
def wp_Ins_uses_30 (K : Int32 → St → Prop) (S : St)  : Prop := (wp_Ins_uses_35 K S 1)
set_option maxHeartbeats 4000000 in
set_option maxRecDepth 100000 in
theorem L_Ins_uses_30 {p : Program} {l : Launch} {e : Env} {s : State} {m : MethodId} {args : Array Value} {below : List Frame} {meth : Method} {c : Code} {A : Nat → Prop} {D : va_G} {h0 : Nat} {a : Nat → Nat} {cI cB : ClassId} {K : Int32 → St → Prop} (C : CX p rm_Ins_uses s m args meth c b_Ins_uses 2 "PipelinedCore$Instruction" (some .boolean) pr_Ins_uses D clK (tysK cI cB) A) (S : St)  (h : wp_Ins_uses_30 K S) : J p l e rm_Ins_uses s m args below meth c 2 D clK A 0 0 (MQ below (va_Qi K (fun u t => QK D clK (tysK cI cB) A (wsK h0 a cI cB u) t) A) args s 0 0 A) (wsK h0 a cI cB S) [] 30 [] := by
  unfold wp_Ins_uses_30 at h
  refine j_iconst C 14 31 rfl rfl kI_1 ?_
  refine j_goto C 15 35 rfl (by decide) ?_
  exact L_Ins_uses_35 C S 1 h
def wp_Ins_uses_34 (K : Int32 → St → Prop) (S : St)  : Prop := (wp_Ins_uses_35 K S 0)
set_option maxHeartbeats 4000000 in
set_option maxRecDepth 100000 in
theorem L_Ins_uses_34 {p : Program} {l : Launch} {e : Env} {s : State} {m : MethodId} {args : Array Value} {below : List Frame} {meth : Method} {c : Code} {A : Nat → Prop} {D : va_G} {h0 : Nat} {a : Nat → Nat} {cI cB : ClassId} {K : Int32 → St → Prop} (C : CX p rm_Ins_uses s m args meth c b_Ins_uses 2 "PipelinedCore$Instruction" (some .boolean) pr_Ins_uses D clK (tysK cI cB) A) (S : St)  (h : wp_Ins_uses_34 K S) : J p l e rm_Ins_uses s m args below meth c 2 D clK A 0 0 (MQ below (va_Qi K (fun u t => QK D clK (tysK cI cB) A (wsK h0 a cI cB u) t) A) args s 0 0 A) (wsK h0 a cI cB S) [] 34 [] := by
  unfold wp_Ins_uses_34 at h
  refine j_iconst C 16 35 rfl rfl kI_0 ?_
  exact L_Ins_uses_35 C S 0 h
def wp_Ins_uses_15 (K : Int32 → St → Prop) (S : St) (v1 : Int32) : Prop := wp_Ins_usesB S (fun r6 S5 => (((r6 = 0 → ((wp_Ins_uses_34 K S5))) ∧ (¬ r6 = 0 → (((¬ (S5 15 7) = v1 → ((wp_Ins_uses_34 K S5))) ∧ ((S5 15 7) = v1 → ((wp_Ins_uses_30 K S5)))))))))
set_option maxHeartbeats 4000000 in
set_option maxRecDepth 100000 in
theorem L_Ins_uses_15 {p : Program} {l : Launch} {e : Env} {s : State} {m : MethodId} {args : Array Value} {below : List Frame} {meth : Method} {c : Code} {A : Nat → Prop} {D : va_G} {h0 : Nat} {a : Nat → Nat} {cI cB : ClassId} {K : Int32 → St → Prop} (C : CX p rm_Ins_uses s m args meth c b_Ins_uses 2 "PipelinedCore$Instruction" (some .boolean) pr_Ins_uses D clK (tysK cI cB) A) (S : St) (v1 : Int32) (h : wp_Ins_uses_15 K S v1) : J p l e rm_Ins_uses s m args below meth c 2 D clK A 0 0 (MQ below (va_Qi K (fun u t => QK D clK (tysK cI cB) A (wsK h0 a cI cB u) t) A) args s 0 0 A) (wsK h0 a cI cB S) [(0, .ref (a 17)), (1, .int v1)] 15 [] := by
  unfold wp_Ins_uses_15 at h
  refine j_aload_n C 7 16 rfl rfl rfl 0 rfl ?_
  refine j_callVi C 8 19 rfl rfl w369 m_Ins_usesB (As := []) (c_Ins_usesB l D h0 a cI cB S _ h) ⟨rfl, rfl⟩ ⟨Nat.le_of_ble_eq_true rfl, Nat.le_of_ble_eq_true rfl⟩ 17 rfl rfl rfl ⟨Nat.le_of_ble_eq_true rfl, Nat.le_of_ble_eq_true rfl⟩ (Nat.le_of_ble_eq_true rfl) rfl (fun r6 S5 h => ?_)
  refine j_if_eq C 9 34 22 rfl (by decide) rfl (fun c7 => ?_) (fun c7 => ?_)
  · replace h := h.1 c7
    refine j_sub [] rfl ?_
    exact L_Ins_uses_34 C S5 h
  · replace h := h.2 c7
    refine j_aload_n C 10 23 rfl rfl rfl 0 rfl ?_
    refine j_get C 11 26 rfl rfl fg_Ins_32 17 rfl rfl ?_
    refine j_iload_n C 12 27 rfl rfl rfl 1 rfl ?_
    refine j_icmp_ne C 13 34 30 rfl (by decide) rfl (fun c8 => ?_) (fun c8 => ?_)
    · replace h := h.1 c8
      refine j_sub [] rfl ?_
      exact L_Ins_uses_34 C S5 h
    · replace h := h.2 c8
      refine j_sub [] rfl ?_
      exact L_Ins_uses_30 C S5 h
def wp_Ins_uses (S : St) (p1 : Int32) (K : Int32 → St → Prop) : Prop := wp_Ins_usesA S (fun r2 S1 => (((r2 = 0 → ((wp_Ins_uses_15 K S1 p1))) ∧ (¬ r2 = 0 → ((((S1 15 6) = p1 → ((wp_Ins_uses_30 K S1))) ∧ (¬ (S1 15 6) = p1 → ((wp_Ins_uses_15 K S1 p1)))))))))
set_option maxHeartbeats 4000000 in
set_option maxRecDepth 100000 in
theorem c_Ins_uses (l : Launch) (D : va_G) (h0 : Nat) (a : Nat → Nat) (cI cB : ClassId) (S : St) (p1 : Int32) (K : Int32 → St → Prop) (h : wp_Ins_uses S p1 K) (sz : Nat) : Met l y_Ins_uses (Cond.code y_Ins_uses b_Ins_uses 2 (some .boolean) :: gw) rm_Ins_uses (va_Pc [.ref (a 17), .int p1] (PK D clK (tysK cI cB) (wsK h0 a cI cB S) sz)) (va_Qi K (fun u t => QK D clK (tysK cI cB) (va_A (wsK h0 a cI cB S) sz) (wsK h0 a cI cB u) t) (va_A (wsK h0 a cI cB S) sz)) 0 0 (va_A (wsK h0 a cI cB S) sz) := by
  refine met_of (rm := rm_Ins_uses) (pr := pr_Ins_uses) (Qc := fun A => va_Qi K (fun u t => QK D clK (tysK cI cB) A (wsK h0 a cI cB u) t) A) (by decide +kernel) dm_Ins_uses (Nat.le_of_ble_eq_true rfl) (fun p e s m args below meth c A C => ?_) sz
  unfold wp_Ins_uses at h
  show J p l e rm_Ins_uses s m args below meth c 2 D clK A 0 0 _ (wsK h0 a cI cB S) [(0, .ref (a 17)), (1, .int p1)] 0 []
  refine j_aload_n C 0 1 rfl rfl rfl 0 rfl ?_
  refine j_callVi C 1 4 rfl rfl w365 m_Ins_usesA (As := []) (c_Ins_usesA l D h0 a cI cB S _ h) ⟨rfl, rfl⟩ ⟨Nat.le_of_ble_eq_true rfl, Nat.le_of_ble_eq_true rfl⟩ 17 rfl rfl rfl ⟨Nat.le_of_ble_eq_true rfl, Nat.le_of_ble_eq_true rfl⟩ (Nat.le_of_ble_eq_true rfl) rfl (fun r2 S1 h => ?_)
  refine j_if_eq C 2 15 7 rfl (by decide) rfl (fun c3 => ?_) (fun c3 => ?_)
  · replace h := h.1 c3
    exact L_Ins_uses_15 C S1 p1 h
  · replace h := h.2 c3
    refine j_aload_n C 3 8 rfl rfl rfl 0 rfl ?_
    refine j_get C 4 11 rfl rfl fg_Ins_29 17 rfl rfl ?_
    refine j_iload_n C 5 12 rfl rfl rfl 1 rfl ?_
    refine j_icmp_eq C 6 30 15 rfl (by decide) rfl (fun c4 => ?_) (fun c4 => ?_)
    · replace h := h.1 c4
      refine j_sub [] rfl ?_
      exact L_Ins_uses_30 C S1 h
    · replace h := h.2 c4
      exact L_Ins_uses_15 C S1 p1 h
abbrev rm_K_expect : Room := { frames := 2, cells := 0, slots := 0, locals := 45 }
def wp_K_expect_146 (K : St → Prop) (S : St)  : Prop := K S
set_option maxHeartbeats 4000000 in
set_option maxRecDepth 100000 in
theorem L_K_expect_146 {p : Program} {l : Launch} {e : Env} {s : State} {m : MethodId} {args : Array Value} {below : List Frame} {meth : Method} {c : Code} {A : Nat → Prop} {D : va_G} {h0 : Nat} {a : Nat → Nat} {cI cB : ClassId} {K : St → Prop} (C : CX p rm_K_expect s m args meth c b_K_expect 5 "PipelinedCore" none pr_K_expect D clK (tysK cI cB) A) (S : St)  (h : wp_K_expect_146 K S) : J p l e rm_K_expect s m args below meth c 5 D clK A 0 0 (MQ below (va_Qv K (fun u t => QK D clK (tysK cI cB) A (wsK h0 a cI cB u) t) A) args s 0 0 A) (wsK h0 a cI cB S) [] 146 [] := by
  unfold wp_K_expect_146 at h
  exact j_vret C 73 rfl h
def wp_K_expect_48 (K : St → Prop) (S : St) (v1 : Int32) (v2 : Int32) (v3 : Int32) (k0 : Int32) (k1 : Int32) (k2 : Int32) : Prop := wp_Ins_decode S k2 k1 k0 (fun S5 => (wp_For_foretell S5 v1 v2 (fun r8 S7 => (∀ S9 : St, S9 = st S7 15 9 r8 → (∀ S10 : St, S10 = st S9 15 10 (jmax (v2 + 1) (S9 0 10)) → (∀ S11 : St, S11 = st S10 15 11 (jmax ((S10 15 10) + 1) v3) → ((((S11 0 12) = 0 → ((wp_K_expect_146 K S11))) ∧ (¬ (S11 0 12) = 0 → (wp_Ins_uses S11 (S11 0 12) (fun r14 S13 => (((r14 = 0 → ((wp_K_expect_146 K S13))) ∧ (¬ r14 = 0 → (∀ S16 : St, S16 = st S13 15 11 (jmax (S13 15 11) (S13 0 11)) → ((wp_K_expect_146 K S16)))))))))))))))))
set_option maxHeartbeats 4000000 in
set_option maxRecDepth 100000 in
theorem L_K_expect_48 {p : Program} {l : Launch} {e : Env} {s : State} {m : MethodId} {args : Array Value} {below : List Frame} {meth : Method} {c : Code} {A : Nat → Prop} {D : va_G} {h0 : Nat} {a : Nat → Nat} {cI cB : ClassId} {K : St → Prop} (C : CX p rm_K_expect s m args meth c b_K_expect 5 "PipelinedCore" none pr_K_expect D clK (tysK cI cB) A) (S : St) (v1 : Int32) (v2 : Int32) (v3 : Int32) (k0 : Int32) (k1 : Int32) (k2 : Int32) (h : wp_K_expect_48 K S v1 v2 v3 k0 k1 k2) : J p l e rm_K_expect s m args below meth c 5 D clK A 0 0 (MQ below (va_Qv K (fun u t => QK D clK (tysK cI cB) A (wsK h0 a cI cB u) t) A) args s 0 0 A) (wsK h0 a cI cB S) [(0, .ref h0), (1, .int v1), (2, .int v2), (3, .int v3)] 48 [.int k0, .int k1, .int k2, .ref (a 17)] := by
  unfold wp_K_expect_48 at h
  refine j_callVv C 27 51 rfl rfl w349 m_Ins_decode (As := [.int k2, .int k1, .int k0]) (c_Ins_decode l D h0 a cI cB S k2 k1 k0 _ h) ⟨rfl, rfl⟩ ⟨Nat.le_of_ble_eq_true rfl, Nat.le_of_ble_eq_true rfl⟩ 17 rfl rfl rfl ⟨Nat.le_of_ble_eq_true rfl, Nat.le_of_ble_eq_true rfl⟩ (Nat.le_of_ble_eq_true rfl) rfl (fun S5 h => ?_)
  refine j_aload_n C 28 52 rfl rfl rfl 0 rfl ?_
  refine j_get C 29 55 rfl rfl fg_K_47 0 rfl rfl ?_
  refine j_aload_n C 30 56 rfl rfl rfl 0 rfl ?_
  refine j_get C 31 59 rfl rfl fg_K_33 0 rfl rfl ?_
  refine j_iload_n C 32 60 rfl rfl rfl 1 rfl ?_
  refine j_iload_n C 33 61 rfl rfl rfl 2 rfl ?_
  refine j_callVi C 34 64 rfl rfl w353 m_For_foretell (As := [.int v1, .int v2]) (c_For_foretell l D h0 a cI cB S5 v1 v2 _ h) ⟨rfl, rfl⟩ ⟨Nat.le_of_ble_eq_true rfl, Nat.le_of_ble_eq_true rfl⟩ 9 rfl rfl rfl ⟨Nat.le_of_ble_eq_true rfl, Nat.le_of_ble_eq_true rfl⟩ (Nat.le_of_ble_eq_true rfl) rfl (fun r8 S7 h => ?_)
  refine j_put C 35 67 rfl rfl fp_K_252 17 rfl (Nat.le_of_ble_eq_true rfl) rfl rfl (st S7 15 9 r8) (sK_17_9 _ _ _ _ _ _) (fun S9 eS9 => ?_)
  replace h := h S9 eS9
  refine j_aload_n C 36 68 rfl rfl rfl 0 rfl ?_
  refine j_get C 37 71 rfl rfl fg_K_47 0 rfl rfl ?_
  refine j_iload_n C 38 72 rfl rfl rfl 2 rfl ?_
  refine j_iconst C 39 73 rfl rfl kI_1 ?_
  refine j_iadd C 40 74 rfl rfl ?_
  refine j_aload_n C 41 75 rfl rfl rfl 0 rfl ?_
  refine j_get C 42 78 rfl rfl fg_K_70 0 rfl rfl ?_
  refine j_mmax C 43 81 rfl rfl w360 w249 w10 w250 (Nat.le_of_ble_eq_true rfl) (Nat.le_of_ble_eq_true rfl) ⟨Nat.le_of_ble_eq_true rfl, Nat.le_of_ble_eq_true rfl⟩ ?_
  refine j_put C 44 84 rfl rfl fp_K_269 17 rfl (Nat.le_of_ble_eq_true rfl) rfl rfl (st S9 15 10 (jmax (v2 + 1) (S9 0 10))) (sK_17_10 _ _ _ _ _ _) (fun S10 eS10 => ?_)
  replace h := h S10 eS10
  refine j_aload_n C 45 85 rfl rfl rfl 0 rfl ?_
  refine j_get C 46 88 rfl rfl fg_K_47 0 rfl rfl ?_
  refine j_aload_n C 47 89 rfl rfl rfl 0 rfl ?_
  refine j_get C 48 92 rfl rfl fg_K_47 0 rfl rfl ?_
  refine j_get C 49 95 rfl rfl fg_K_269 17 rfl rfl ?_
  refine j_iconst C 50 96 rfl rfl kI_1 ?_
  refine j_iadd C 51 97 rfl rfl ?_
  refine j_iload_n C 52 98 rfl rfl rfl 3 rfl ?_
  refine j_mmax C 53 101 rfl rfl w360 w249 w10 w250 (Nat.le_of_ble_eq_true rfl) (Nat.le_of_ble_eq_true rfl) ⟨Nat.le_of_ble_eq_true rfl, Nat.le_of_ble_eq_true rfl⟩ ?_
  refine j_put C 54 104 rfl rfl fp_K_146 17 rfl (Nat.le_of_ble_eq_true rfl) rfl rfl (st S10 15 11 (jmax ((S10 15 10) + 1) v3)) (sK_17_11 _ _ _ _ _ _) (fun S11 eS11 => ?_)
  replace h := h S11 eS11
  refine j_aload_n C 55 105 rfl rfl rfl 0 rfl ?_
  refine j_get C 56 108 rfl rfl fg_K_246 0 rfl rfl ?_
  refine j_if_eq C 57 146 111 rfl (by decide) rfl (fun c12 => ?_) (fun c12 => ?_)
  · replace h := h.1 c12
    refine j_sub [] rfl ?_
    exact L_K_expect_146 C S11 h
  · replace h := h.2 c12
    refine j_aload_n C 58 112 rfl rfl rfl 0 rfl ?_
    refine j_get C 59 115 rfl rfl fg_K_47 0 rfl rfl ?_
    refine j_aload_n C 60 116 rfl rfl rfl 0 rfl ?_
    refine j_get C 61 119 rfl rfl fg_K_246 0 rfl rfl ?_
    refine j_callVi C 62 122 rfl rfl w361 m_Ins_uses (As := [.int (S11 0 12)]) (c_Ins_uses l D h0 a cI cB S11 (S11 0 12) _ h) ⟨rfl, rfl⟩ ⟨Nat.le_of_ble_eq_true rfl, Nat.le_of_ble_eq_true rfl⟩ 17 rfl rfl rfl ⟨Nat.le_of_ble_eq_true rfl, Nat.le_of_ble_eq_true rfl⟩ (Nat.le_of_ble_eq_true rfl) rfl (fun r14 S13 h => ?_)
    refine j_if_eq C 63 146 125 rfl (by decide) rfl (fun c15 => ?_) (fun c15 => ?_)
    · replace h := h.1 c15
      refine j_sub [] rfl ?_
      exact L_K_expect_146 C S13 h
    · replace h := h.2 c15
      refine j_aload_n C 64 126 rfl rfl rfl 0 rfl ?_
      refine j_get C 65 129 rfl rfl fg_K_47 0 rfl rfl ?_
      refine j_aload_n C 66 130 rfl rfl rfl 0 rfl ?_
      refine j_get C 67 133 rfl rfl fg_K_47 0 rfl rfl ?_
      refine j_get C 68 136 rfl rfl fg_K_146 17 rfl rfl ?_
      refine j_aload_n C 69 137 rfl rfl rfl 0 rfl ?_
      refine j_get C 70 140 rfl rfl fg_K_238 0 rfl rfl ?_
      refine j_mmax C 71 143 rfl rfl w360 w249 w10 w250 (Nat.le_of_ble_eq_true rfl) (Nat.le_of_ble_eq_true rfl) ⟨Nat.le_of_ble_eq_true rfl, Nat.le_of_ble_eq_true rfl⟩ ?_
      refine j_put C 72 146 rfl rfl fp_K_146 17 rfl (Nat.le_of_ble_eq_true rfl) rfl rfl (st S13 15 11 (jmax (S13 15 11) (S13 0 11))) (sK_17_11 _ _ _ _ _ _) (fun S16 eS16 => ?_)
      replace h := h S16 eS16
      refine j_sub [] rfl ?_
      exact L_K_expect_146 C S16 h
def wp_K_expect_22 (K : St → Prop) (S : St) (v1 : Int32) (v2 : Int32) (v3 : Int32) (k0 : Int32) : Prop := ((k0 = 0 → ((wp_K_expect_48 K S v1 v2 v3 0 k0 v1))) ∧ (¬ k0 = 0 → (vp_in (v1 >>> (2 &&& 31)) 128 ∧ ((wp_K_expect_48 K S v1 v2 v3 (S 1 (v1 >>> (2 &&& 31) : Int32).toNatClampNeg) k0 v1)))))
set_option maxHeartbeats 4000000 in
set_option maxRecDepth 100000 in
theorem L_K_expect_22 {p : Program} {l : Launch} {e : Env} {s : State} {m : MethodId} {args : Array Value} {below : List Frame} {meth : Method} {c : Code} {A : Nat → Prop} {D : va_G} {h0 : Nat} {a : Nat → Nat} {cI cB : ClassId} {K : St → Prop} (C : CX p rm_K_expect s m args meth c b_K_expect 5 "PipelinedCore" none pr_K_expect D clK (tysK cI cB) A) (S : St) (v1 : Int32) (v2 : Int32) (v3 : Int32) (k0 : Int32) (h : wp_K_expect_22 K S v1 v2 v3 k0) : J p l e rm_K_expect s m args below meth c 5 D clK A 0 0 (MQ below (va_Qv K (fun u t => QK D clK (tysK cI cB) A (wsK h0 a cI cB u) t) A) args s 0 0 A) (wsK h0 a cI cB S) [(0, .ref h0), (1, .int v1), (2, .int v2), (3, .int v3)] 22 [.int k0] := by
  unfold wp_K_expect_22 at h
  refine j_istore C 12 24 [(4, .int k0), (0, .ref h0), (1, .int v1), (2, .int v2), (3, .int v3)] rfl rfl (by decide) rfl ?_
  refine j_aload_n C 13 25 rfl rfl rfl 1 rfl ?_
  refine j_get C 14 28 rfl rfl fg_K_47 0 rfl rfl ?_
  refine j_iload_n C 15 29 rfl rfl rfl 2 rfl ?_
  refine j_iload C 16 31 rfl rfl 0 rfl ?_
  refine j_iload C 17 33 rfl rfl 0 rfl ?_
  refine j_if_eq C 18 47 36 rfl (by decide) rfl (fun c4 => ?_) (fun c4 => ?_)
  · replace h := h.1 c4
    refine j_iconst C 26 48 rfl rfl kI_0 ?_
    refine j_sub [1, 2, 3, 4] rfl ?_
    exact L_K_expect_48 C S v1 v2 v3 0 k0 v1 h
  · replace h := h.2 c4
    refine j_aload_n C 19 37 rfl rfl rfl 1 rfl ?_
    refine j_get C 20 40 rfl rfl fg_K_9 0 rfl rfl ?_
    refine j_iload_n C 21 41 rfl rfl rfl 2 rfl ?_
    refine j_iconst C 22 42 rfl rfl kI_2 ?_
    refine j_ishr C 23 43 rfl rfl ?_
    refine j_iald C 24 44 rfl rfl 1 0 rfl rfl h.1 ?_
    replace h := h.2
    refine j_goto C 25 48 rfl (by decide) ?_
    refine j_sub [1, 2, 3, 4] rfl ?_
    exact L_K_expect_48 C S v1 v2 v3 (S 1 (v1 >>> (2 &&& 31) : Int32).toNatClampNeg) k0 v1 h
def wp_K_expect_21 (K : St → Prop) (S : St) (v1 : Int32) (v2 : Int32) (v3 : Int32) : Prop := (wp_K_expect_22 K S v1 v2 v3 0)
set_option maxHeartbeats 4000000 in
set_option maxRecDepth 100000 in
theorem L_K_expect_21 {p : Program} {l : Launch} {e : Env} {s : State} {m : MethodId} {args : Array Value} {below : List Frame} {meth : Method} {c : Code} {A : Nat → Prop} {D : va_G} {h0 : Nat} {a : Nat → Nat} {cI cB : ClassId} {K : St → Prop} (C : CX p rm_K_expect s m args meth c b_K_expect 5 "PipelinedCore" none pr_K_expect D clK (tysK cI cB) A) (S : St) (v1 : Int32) (v2 : Int32) (v3 : Int32) (h : wp_K_expect_21 K S v1 v2 v3) : J p l e rm_K_expect s m args below meth c 5 D clK A 0 0 (MQ below (va_Qv K (fun u t => QK D clK (tysK cI cB) A (wsK h0 a cI cB u) t) A) args s 0 0 A) (wsK h0 a cI cB S) [(0, .ref h0), (1, .int v1), (2, .int v2), (3, .int v3)] 21 [] := by
  unfold wp_K_expect_21 at h
  refine j_iconst C 11 22 rfl rfl kI_0 ?_
  exact L_K_expect_22 C S v1 v2 v3 0 h
def wp_K_expect (S : St) (p1 : Int32) (p2 : Int32) (p3 : Int32) (K : St → Prop) : Prop := ((¬ (p1 &&& 3) = 0 → ((wp_K_expect_21 K S p1 p2 p3))) ∧ ((p1 &&& 3) = 0 → (((p1 < 0 → ((wp_K_expect_21 K S p1 p2 p3))) ∧ (¬ p1 < 0 → ((((512 : Int32) ≤ p1 → ((wp_K_expect_21 K S p1 p2 p3))) ∧ (¬ (512 : Int32) ≤ p1 → ((wp_K_expect_22 K S p1 p2 p3 1))))))))))
set_option maxHeartbeats 4000000 in
set_option maxRecDepth 100000 in
theorem c_K_expect (l : Launch) (D : va_G) (h0 : Nat) (a : Nat → Nat) (cI cB : ClassId) (S : St) (p1 : Int32) (p2 : Int32) (p3 : Int32) (K : St → Prop) (h : wp_K_expect S p1 p2 p3 K) (sz : Nat) : Met l y_K_expect (Cond.code y_K_expect b_K_expect 5 none :: gw) rm_K_expect (va_Pc [.ref h0, .int p1, .int p2, .int p3] (PK D clK (tysK cI cB) (wsK h0 a cI cB S) sz)) (va_Qv K (fun u t => QK D clK (tysK cI cB) (va_A (wsK h0 a cI cB S) sz) (wsK h0 a cI cB u) t) (va_A (wsK h0 a cI cB S) sz)) 0 0 (va_A (wsK h0 a cI cB S) sz) := by
  refine met_of (rm := rm_K_expect) (pr := pr_K_expect) (Qc := fun A => va_Qv K (fun u t => QK D clK (tysK cI cB) A (wsK h0 a cI cB u) t) A) (by decide +kernel) dm_K_expect (Nat.le_of_ble_eq_true rfl) (fun p e s m args below meth c A C => ?_) sz
  unfold wp_K_expect at h
  show J p l e rm_K_expect s m args below meth c 5 D clK A 0 0 _ (wsK h0 a cI cB S) [(0, .ref h0), (1, .int p1), (2, .int p2), (3, .int p3)] 0 []
  refine j_iload_n C 0 1 rfl rfl rfl 1 rfl ?_
  refine j_iconst C 1 2 rfl rfl kI_3 ?_
  refine j_iand C 2 3 rfl rfl ?_
  refine j_if_ne C 3 21 6 rfl (by decide) rfl (fun c1 => ?_) (fun c1 => ?_)
  · replace h := h.1 c1
    exact L_K_expect_21 C S p1 p2 p3 h
  · replace h := h.2 c1
    refine j_iload_n C 4 7 rfl rfl rfl 1 rfl ?_
    refine j_if_lt C 5 21 10 rfl (by decide) rfl (fun c2 => ?_) (fun c2 => ?_)
    · replace h := h.1 c2
      exact L_K_expect_21 C S p1 p2 p3 h
    · replace h := h.2 c2
      refine j_iload_n C 6 11 rfl rfl rfl 1 rfl ?_
      refine j_sipush C 7 14 rfl rfl kS_512 ?_
      refine j_icmp_ge C 8 21 17 rfl (by decide) rfl (fun c3 => ?_) (fun c3 => ?_)
      · replace h := h.1 c3
        exact L_K_expect_21 C S p1 p2 p3 h
      · replace h := h.2 c3
        refine j_iconst C 9 18 rfl rfl kI_1 ?_
        refine j_goto C 10 22 rfl (by decide) ?_
        exact L_K_expect_22 C S p1 p2 p3 1 h
abbrev rm_Sto_wordAround : Room := { frames := 1, cells := 0, slots := 0, locals := 20 }
def wp_Sto_wordAround_23 (K : Int32 → St → Prop) (S : St) (k0 : Int32) : Prop := K k0 S
set_option maxHeartbeats 4000000 in
set_option maxRecDepth 100000 in
theorem L_Sto_wordAround_23 {p : Program} {l : Launch} {e : Env} {s : State} {m : MethodId} {args : Array Value} {below : List Frame} {meth : Method} {c : Code} {A : Nat → Prop} {D : va_G} {h0 : Nat} {a : Nat → Nat} {cI cB : ClassId} {K : Int32 → St → Prop} (C : CX p rm_Sto_wordAround s m args meth c b_Sto_wordAround 2 "PipelinedCore$Store" (some .int) pr_Sto_wordAround D clK (tysK cI cB) A) (S : St) (k0 : Int32) (h : wp_Sto_wordAround_23 K S k0) : J p l e rm_Sto_wordAround s m args below meth c 2 D clK A 0 0 (MQ below (va_Qi K (fun u t => QK D clK (tysK cI cB) A (wsK h0 a cI cB u) t) A) args s 0 0 A) (wsK h0 a cI cB S) [] 23 [.int k0] := by
  unfold wp_Sto_wordAround_23 at h
  exact j_iret C 13 rfl h
def wp_Sto_wordAround (S : St) (p1 : Int32) (K : Int32 → St → Prop) : Prop := wp_Sto_has S p1 (fun r2 S1 => (((r2 = 0 → ((wp_Sto_wordAround_23 K S1 0))) ∧ (¬ r2 = 0 → (vp_in ((p1 - 1024) >>> (2 &&& 31)) 64 ∧ ((wp_Sto_wordAround_23 K S1 (S1 4 ((p1 - 1024) >>> (2 &&& 31) : Int32).toNatClampNeg))))))))
set_option maxHeartbeats 4000000 in
set_option maxRecDepth 100000 in
theorem c_Sto_wordAround (l : Launch) (D : va_G) (h0 : Nat) (a : Nat → Nat) (cI cB : ClassId) (S : St) (p1 : Int32) (K : Int32 → St → Prop) (h : wp_Sto_wordAround S p1 K) (sz : Nat) : Met l y_Sto_wordAround (Cond.code y_Sto_wordAround b_Sto_wordAround 2 (some .int) :: gw) rm_Sto_wordAround (va_Pc [.ref (a 4), .int p1] (PK D clK (tysK cI cB) (wsK h0 a cI cB S) sz)) (va_Qi K (fun u t => QK D clK (tysK cI cB) (va_A (wsK h0 a cI cB S) sz) (wsK h0 a cI cB u) t) (va_A (wsK h0 a cI cB S) sz)) 0 0 (va_A (wsK h0 a cI cB S) sz) := by
  refine met_of (rm := rm_Sto_wordAround) (pr := pr_Sto_wordAround) (Qc := fun A => va_Qi K (fun u t => QK D clK (tysK cI cB) A (wsK h0 a cI cB u) t) A) (by decide +kernel) dm_Sto_wordAround (Nat.le_of_ble_eq_true rfl) (fun p e s m args below meth c A C => ?_) sz
  unfold wp_Sto_wordAround at h
  show J p l e rm_Sto_wordAround s m args below meth c 2 D clK A 0 0 _ (wsK h0 a cI cB S) [(0, .ref (a 4)), (1, .int p1)] 0 []
  refine j_iload_n C 0 1 rfl rfl rfl 1 rfl ?_
  refine j_callSi C 1 4 rfl rfl w326 m_Sto_has (As := [.int p1]) (c_Sto_has l D h0 a cI cB S p1 _ h) ⟨rfl, rfl⟩ ⟨Nat.le_of_ble_eq_true rfl, Nat.le_of_ble_eq_true rfl⟩ rfl ⟨Nat.le_of_ble_eq_true rfl, Nat.le_of_ble_eq_true rfl⟩ (Nat.le_of_ble_eq_true rfl) rfl (fun r2 S1 h => ?_)
  refine j_if_eq C 2 22 7 rfl (by decide) rfl (fun c3 => ?_) (fun c3 => ?_)
  · replace h := h.1 c3
    refine j_iconst C 12 23 rfl rfl kI_0 ?_
    refine j_sub [] rfl ?_
    exact L_Sto_wordAround_23 C S1 0 h
  · replace h := h.2 c3
    refine j_aload_n C 3 8 rfl rfl rfl 0 rfl ?_
    refine j_get C 4 11 rfl rfl fg_Sto_9 4 rfl rfl ?_
    refine j_iload_n C 5 12 rfl rfl rfl 1 rfl ?_
    refine j_sipush C 6 15 rfl rfl kS_1024 ?_
    refine j_isub C 7 16 rfl rfl ?_
    refine j_iconst C 8 17 rfl rfl kI_2 ?_
    refine j_ishr C 9 18 rfl rfl ?_
    refine j_iald C 10 19 rfl rfl 5 0 rfl rfl h.1 ?_
    replace h := h.2
    refine j_goto C 11 23 rfl (by decide) ?_
    refine j_sub [] rfl ?_
    exact L_Sto_wordAround_23 C S1 (S1 4 ((p1 - 1024) >>> (2 &&& 31) : Int32).toNatClampNeg) h
abbrev rm_Sto_bitsBelow : Room := { frames := 0, cells := 0, slots := 0, locals := 0 }
def wp_Sto_bitsBelow (S : St) (p1 : Int32) (K : Int32 → St → Prop) : Prop := K ((p1 &&& 3) * 8) S
set_option maxHeartbeats 4000000 in
set_option maxRecDepth 100000 in
theorem c_Sto_bitsBelow (l : Launch) (D : va_G) (h0 : Nat) (a : Nat → Nat) (cI cB : ClassId) (S : St) (p1 : Int32) (K : Int32 → St → Prop) (h : wp_Sto_bitsBelow S p1 K) (sz : Nat) : Met l y_Sto_bitsBelow (Cond.code y_Sto_bitsBelow b_Sto_bitsBelow 1 (some .int) :: gw) rm_Sto_bitsBelow (va_Pc [.int p1] (PK D clK (tysK cI cB) (wsK h0 a cI cB S) sz)) (va_Qi K (fun u t => QK D clK (tysK cI cB) (va_A (wsK h0 a cI cB S) sz) (wsK h0 a cI cB u) t) (va_A (wsK h0 a cI cB S) sz)) 0 0 (va_A (wsK h0 a cI cB S) sz) := by
  refine met_of (rm := rm_Sto_bitsBelow) (pr := pr_Sto_bitsBelow) (Qc := fun A => va_Qi K (fun u t => QK D clK (tysK cI cB) A (wsK h0 a cI cB u) t) A) (by decide +kernel) dm_Sto_bitsBelow (Nat.le_of_ble_eq_true rfl) (fun p e s m args below meth c A C => ?_) sz
  unfold wp_Sto_bitsBelow at h
  show J p l e rm_Sto_bitsBelow s m args below meth c 1 D clK A 0 0 _ (wsK h0 a cI cB S) [(0, .int p1)] 0 []
  refine j_iload_n C 0 1 rfl rfl rfl 0 rfl ?_
  refine j_iconst C 1 2 rfl rfl kI_3 ?_
  refine j_iand C 2 3 rfl rfl ?_
  refine j_bipush C 3 5 rfl rfl kB_8 ?_
  refine j_imul C 4 6 rfl rfl ?_
  exact j_iret C 5 rfl h
abbrev rm_Sto_read : Room := { frames := 2, cells := 0, slots := 0, locals := 41 }
def wp_Sto_read (S : St) (p1 : Int32) (p2 : Int32) (K : Int32 → St → Prop) : Prop := wp_Sto_wordAround S p1 (fun r2 S1 => (wp_Sto_bitsBelow S1 p1 (fun r4 S3 => (∀ x5 : Int32, x5 = jushr r2 r4 → (((p2 = 0 → (K x5.toInt8.toInt32 S3)) ∧ (¬ p2 = 0 → ((p2 = 1 → (K x5.toInt16.toInt32 S3)) ∧ (¬ p2 = 1 → ((p2 = 2 → (K x5 S3)) ∧ (¬ p2 = 2 → ((p2 = 3 → (K x5 S3)) ∧ (¬ p2 = 3 → ((p2 = 4 → (K (x5 &&& 255) S3)) ∧ (¬ p2 = 4 → ((p2 = 5 → (K (x5 &&& 65535) S3)) ∧ (¬ p2 = 5 → (K x5 S3))))))))))))))))))
set_option maxHeartbeats 4000000 in
set_option maxRecDepth 100000 in
theorem c_Sto_read (l : Launch) (D : va_G) (h0 : Nat) (a : Nat → Nat) (cI cB : ClassId) (S : St) (p1 : Int32) (p2 : Int32) (K : Int32 → St → Prop) (h : wp_Sto_read S p1 p2 K) (sz : Nat) : Met l y_Sto_read (Cond.code y_Sto_read b_Sto_read 4 (some .int) :: gw) rm_Sto_read (va_Pc [.ref (a 4), .int p1, .int p2] (PK D clK (tysK cI cB) (wsK h0 a cI cB S) sz)) (va_Qi K (fun u t => QK D clK (tysK cI cB) (va_A (wsK h0 a cI cB S) sz) (wsK h0 a cI cB u) t) (va_A (wsK h0 a cI cB S) sz)) 0 0 (va_A (wsK h0 a cI cB S) sz) := by
  refine met_of (rm := rm_Sto_read) (pr := pr_Sto_read) (Qc := fun A => va_Qi K (fun u t => QK D clK (tysK cI cB) A (wsK h0 a cI cB u) t) A) (by decide +kernel) dm_Sto_read (Nat.le_of_ble_eq_true rfl) (fun p e s m args below meth c A C => ?_) sz
  unfold wp_Sto_read at h
  show J p l e rm_Sto_read s m args below meth c 4 D clK A 0 0 _ (wsK h0 a cI cB S) [(0, .ref (a 4)), (1, .int p1), (2, .int p2)] 0 []
  refine j_aload_n C 0 1 rfl rfl rfl 0 rfl ?_
  refine j_iload_n C 1 2 rfl rfl rfl 1 rfl ?_
  refine j_callVi C 2 5 rfl rfl w385 m_Sto_wordAround (As := [.int p1]) (c_Sto_wordAround l D h0 a cI cB S p1 _ h) ⟨rfl, rfl⟩ ⟨Nat.le_of_ble_eq_true rfl, Nat.le_of_ble_eq_true rfl⟩ 4 rfl rfl rfl ⟨Nat.le_of_ble_eq_true rfl, Nat.le_of_ble_eq_true rfl⟩ (Nat.le_of_ble_eq_true rfl) rfl (fun r2 S1 h => ?_)
  refine j_iload_n C 3 6 rfl rfl rfl 1 rfl ?_
  refine j_callSi C 4 9 rfl rfl w389 m_Sto_bitsBelow (As := [.int p1]) (c_Sto_bitsBelow l D h0 a cI cB S1 p1 _ h) ⟨rfl, rfl⟩ ⟨Nat.le_of_ble_eq_true rfl, Nat.le_of_ble_eq_true rfl⟩ rfl ⟨Nat.le_of_ble_eq_true rfl, Nat.le_of_ble_eq_true rfl⟩ (Nat.le_of_ble_eq_true rfl) rfl (fun r4 S3 h => ?_)
  refine j_iushr C 5 10 rfl rfl ?_
  refine j_topi (fun x5 ex5 => ?_)
  replace h := h x5 ex5
  refine j_istore_n C 6 11 [(3, .int x5), (0, .ref (a 4)), (1, .int p1), (2, .int p2)] rfl rfl rfl (by decide) rfl ?_
  refine j_iload_n C 7 12 rfl rfl rfl 3 rfl ?_
  refine j_table C 8 rfl [(0, 52), (1, 55), (2, 69), (3, 69), (4, 58), (5, 64)] 69 (by decide +kernel) (by decide) (by decide) (swP_c (fun c6_0 => ?_) (fun nc6_0 => swP_c (fun c6_1 => ?_) (fun nc6_1 => swP_c (fun c6_2 => ?_) (fun nc6_2 => swP_c (fun c6_3 => ?_) (fun nc6_3 => swP_c (fun c6_4 => ?_) (fun nc6_4 => swP_c (fun c6_5 => ?_) (fun nc6_5 => swP_n ?_)))))))
  · replace h := h.1 c6_0
    refine j_iload_n C 9 53 rfl rfl rfl 0 rfl ?_
    refine j_i2b C 10 54 rfl rfl ?_
    exact j_iret C 11 rfl h
  · replace h := (h.2 nc6_0).1 c6_1
    refine j_iload_n C 12 56 rfl rfl rfl 0 rfl ?_
    refine j_i2s C 13 57 rfl rfl ?_
    exact j_iret C 14 rfl h
  · replace h := ((h.2 nc6_0).2 nc6_1).1 c6_2
    refine j_iload_n C 23 70 rfl rfl rfl 0 rfl ?_
    exact j_iret C 24 rfl h
  · replace h := (((h.2 nc6_0).2 nc6_1).2 nc6_2).1 c6_3
    refine j_iload_n C 23 70 rfl rfl rfl 0 rfl ?_
    exact j_iret C 24 rfl h
  · replace h := ((((h.2 nc6_0).2 nc6_1).2 nc6_2).2 nc6_3).1 c6_4
    refine j_iload_n C 15 59 rfl rfl rfl 0 rfl ?_
    refine j_sipush C 16 62 rfl rfl kS_255 ?_
    refine j_iand C 17 63 rfl rfl ?_
    exact j_iret C 18 rfl h
  · replace h := (((((h.2 nc6_0).2 nc6_1).2 nc6_2).2 nc6_3).2 nc6_4).1 c6_5
    refine j_iload_n C 19 65 rfl rfl rfl 0 rfl ?_
    refine j_ldc C 20 67 rfl rfl w392 ?_
    refine j_iand C 21 68 rfl rfl ?_
    exact j_iret C 22 rfl h
  · replace h := ((((((h.2 nc6_0).2 nc6_1).2 nc6_2).2 nc6_3).2 nc6_4).2 nc6_5)
    refine j_iload_n C 23 70 rfl rfl rfl 0 rfl ?_
    exact j_iret C 24 rfl h
abbrev rm_Sto_write : Room := { frames := 2, cells := 0, slots := 0, locals := 42 }
def wp_Sto_write_21 (K : St → Prop) (S : St) (v1 : Int32) (v3 : Int32) (k0 : Int32) : Prop := wp_Sto_bitsBelow S v1 (fun r4 S3 => (∀ x5 : Int32, x5 = k0 <<< (r4 &&& 31) → (wp_Sto_wordAround S3 v1 (fun r7 S6 => (∀ x8 : Int32, x8 = r7 &&& (x5 ^^^ (-1)) → (wp_Sto_bitsBelow S6 v1 (fun r10 S9 => (wp_Sto_setWord S9 v1 (x8 ||| ((v3 <<< (r10 &&& 31)) &&& x5)) (fun S11 => (K S11))))))))))
set_option maxHeartbeats 4000000 in
set_option maxRecDepth 100000 in
theorem L_Sto_write_21 {p : Program} {l : Launch} {e : Env} {s : State} {m : MethodId} {args : Array Value} {below : List Frame} {meth : Method} {c : Code} {A : Nat → Prop} {D : va_G} {h0 : Nat} {a : Nat → Nat} {cI cB : ClassId} {K : St → Prop} (C : CX p rm_Sto_write s m args meth c b_Sto_write 7 "PipelinedCore$Store" none pr_Sto_write D clK (tysK cI cB) A) (S : St) (v1 : Int32) (v3 : Int32) (k0 : Int32) (h : wp_Sto_write_21 K S v1 v3 k0) : J p l e rm_Sto_write s m args below meth c 7 D clK A 0 0 (MQ below (va_Qv K (fun u t => QK D clK (tysK cI cB) A (wsK h0 a cI cB u) t) A) args s 0 0 A) (wsK h0 a cI cB S) [(0, .ref (a 4)), (1, .int v1), (3, .int v3)] 21 [.int k0] := by
  unfold wp_Sto_write_21 at h
  refine j_istore C 10 23 [(4, .int k0), (0, .ref (a 4)), (1, .int v1), (3, .int v3)] rfl rfl (by decide) rfl ?_
  refine j_iload C 11 25 rfl rfl 0 rfl ?_
  refine j_iload_n C 12 26 rfl rfl rfl 2 rfl ?_
  refine j_callSi C 13 29 rfl rfl w389 m_Sto_bitsBelow (As := [.int v1]) (c_Sto_bitsBelow l D h0 a cI cB S v1 _ h) ⟨rfl, rfl⟩ ⟨Nat.le_of_ble_eq_true rfl, Nat.le_of_ble_eq_true rfl⟩ rfl ⟨Nat.le_of_ble_eq_true rfl, Nat.le_of_ble_eq_true rfl⟩ (Nat.le_of_ble_eq_true rfl) rfl (fun r4 S3 h => ?_)
  refine j_ishl C 14 30 rfl rfl ?_
  refine j_topi (fun x5 ex5 => ?_)
  replace h := h x5 ex5
  refine j_istore C 15 32 [(5, .int x5), (4, .int k0), (0, .ref (a 4)), (1, .int v1), (3, .int v3)] rfl rfl (by decide) rfl ?_
  refine j_aload_n C 16 33 rfl rfl rfl 2 rfl ?_
  refine j_iload_n C 17 34 rfl rfl rfl 3 rfl ?_
  refine j_callVi C 18 37 rfl rfl w385 m_Sto_wordAround (As := [.int v1]) (c_Sto_wordAround l D h0 a cI cB S3 v1 _ h) ⟨rfl, rfl⟩ ⟨Nat.le_of_ble_eq_true rfl, Nat.le_of_ble_eq_true rfl⟩ 4 rfl rfl rfl ⟨Nat.le_of_ble_eq_true rfl, Nat.le_of_ble_eq_true rfl⟩ (Nat.le_of_ble_eq_true rfl) rfl (fun r7 S6 h => ?_)
  refine j_iload C 19 39 rfl rfl 0 rfl ?_
  refine j_iconst C 20 40 rfl rfl kI_m1 ?_
  refine j_ixor C 21 41 rfl rfl ?_
  refine j_iand C 22 42 rfl rfl ?_
  refine j_topi (fun x8 ex8 => ?_)
  replace h := h x8 ex8
  refine j_istore C 23 44 [(6, .int x8), (5, .int x5), (4, .int k0), (0, .ref (a 4)), (1, .int v1), (3, .int v3)] rfl rfl (by decide) rfl ?_
  refine j_aload_n C 24 45 rfl rfl rfl 3 rfl ?_
  refine j_iload_n C 25 46 rfl rfl rfl 4 rfl ?_
  refine j_iload C 26 48 rfl rfl 0 rfl ?_
  refine j_iload_n C 27 49 rfl rfl rfl 5 rfl ?_
  refine j_iload_n C 28 50 rfl rfl rfl 4 rfl ?_
  refine j_callSi C 29 53 rfl rfl w389 m_Sto_bitsBelow (As := [.int v1]) (c_Sto_bitsBelow l D h0 a cI cB S6 v1 _ h) ⟨rfl, rfl⟩ ⟨Nat.le_of_ble_eq_true rfl, Nat.le_of_ble_eq_true rfl⟩ rfl ⟨Nat.le_of_ble_eq_true rfl, Nat.le_of_ble_eq_true rfl⟩ (Nat.le_of_ble_eq_true rfl) rfl (fun r10 S9 h => ?_)
  refine j_ishl C 30 54 rfl rfl ?_
  refine j_iload C 31 56 rfl rfl 1 rfl ?_
  refine j_iand C 32 57 rfl rfl ?_
  refine j_ior C 33 58 rfl rfl ?_
  refine j_callVv C 34 61 rfl rfl w397 m_Sto_setWord (As := [.int v1, .int (x8 ||| ((v3 <<< (r10 &&& 31)) &&& x5))]) (c_Sto_setWord l D h0 a cI cB S9 v1 (x8 ||| ((v3 <<< (r10 &&& 31)) &&& x5)) _ h) ⟨rfl, rfl⟩ ⟨Nat.le_of_ble_eq_true rfl, Nat.le_of_ble_eq_true rfl⟩ 4 rfl rfl rfl ⟨Nat.le_of_ble_eq_true rfl, Nat.le_of_ble_eq_true rfl⟩ (Nat.le_of_ble_eq_true rfl) rfl (fun S11 h => ?_)
  exact j_vret C 35 rfl h
def wp_Sto_write (S : St) (p1 : Int32) (p2 : Int32) (p3 : Int32) (K : St → Prop) : Prop := ((¬ p2 = 0 → (((¬ p2 = 1 → ((wp_Sto_write_21 K S p1 p3 (-1)))) ∧ (p2 = 1 → ((wp_Sto_write_21 K S p1 p3 65535)))))) ∧ (p2 = 0 → ((wp_Sto_write_21 K S p1 p3 255))))
set_option maxHeartbeats 4000000 in
set_option maxRecDepth 100000 in
theorem c_Sto_write (l : Launch) (D : va_G) (h0 : Nat) (a : Nat → Nat) (cI cB : ClassId) (S : St) (p1 : Int32) (p2 : Int32) (p3 : Int32) (K : St → Prop) (h : wp_Sto_write S p1 p2 p3 K) (sz : Nat) : Met l y_Sto_write (Cond.code y_Sto_write b_Sto_write 7 none :: gw) rm_Sto_write (va_Pc [.ref (a 4), .int p1, .int p2, .int p3] (PK D clK (tysK cI cB) (wsK h0 a cI cB S) sz)) (va_Qv K (fun u t => QK D clK (tysK cI cB) (va_A (wsK h0 a cI cB S) sz) (wsK h0 a cI cB u) t) (va_A (wsK h0 a cI cB S) sz)) 0 0 (va_A (wsK h0 a cI cB S) sz) := by
  refine met_of (rm := rm_Sto_write) (pr := pr_Sto_write) (Qc := fun A => va_Qv K (fun u t => QK D clK (tysK cI cB) A (wsK h0 a cI cB u) t) A) (by decide +kernel) dm_Sto_write (Nat.le_of_ble_eq_true rfl) (fun p e s m args below meth c A C => ?_) sz
  unfold wp_Sto_write at h
  show J p l e rm_Sto_write s m args below meth c 7 D clK A 0 0 _ (wsK h0 a cI cB S) [(0, .ref (a 4)), (1, .int p1), (2, .int p2), (3, .int p3)] 0 []
  refine j_iload_n C 0 1 rfl rfl rfl 2 rfl ?_
  refine j_if_ne C 1 10 4 rfl (by decide) rfl (fun c1 => ?_) (fun c1 => ?_)
  · replace h := h.1 c1
    refine j_iload_n C 4 11 rfl rfl rfl 2 rfl ?_
    refine j_iconst C 5 12 rfl rfl kI_1 ?_
    refine j_icmp_ne C 6 20 15 rfl (by decide) rfl (fun c2 => ?_) (fun c2 => ?_)
    · replace h := h.1 c2
      refine j_iconst C 9 21 rfl rfl kI_m1 ?_
      refine j_sub [0, 1, 3] rfl ?_
      exact L_Sto_write_21 C S p1 p3 (-1) h
    · replace h := h.2 c2
      refine j_ldc C 7 17 rfl rfl w392 ?_
      refine j_goto C 8 21 rfl (by decide) ?_
      refine j_sub [0, 1, 3] rfl ?_
      exact L_Sto_write_21 C S p1 p3 65535 h
  · replace h := h.2 c1
    refine j_sipush C 2 7 rfl rfl kS_255 ?_
    refine j_goto C 3 21 rfl (by decide) ?_
    refine j_sub [0, 1, 3] rfl ?_
    exact L_Sto_write_21 C S p1 p3 255 h
abbrev rm_His_add : Room := { frames := 0, cells := 0, slots := 0, locals := 0 }
def wp_His_add (S : St) (p1 : Int32) (p2 : Int32) (K : St → Prop) : Prop := ∀ x1 : Int32, x1 = (S 12 2) &&& 15 → (vp_in x1 16 ∧ (∀ S2 : St, S2 = st S 13 x1.toNatClampNeg p1 → (vp_in x1 16 ∧ (∀ S3 : St, S3 = st S2 14 x1.toNatClampNeg p2 → (∀ S4 : St, S4 = st S3 12 2 ((S3 12 2) + 1) → (K S4))))))
set_option maxHeartbeats 4000000 in
set_option maxRecDepth 100000 in
theorem c_His_add (l : Launch) (D : va_G) (h0 : Nat) (a : Nat → Nat) (cI cB : ClassId) (S : St) (p1 : Int32) (p2 : Int32) (K : St → Prop) (h : wp_His_add S p1 p2 K) (sz : Nat) : Met l y_His_add (Cond.code y_His_add b_His_add 4 none :: gw) rm_His_add (va_Pc [.ref (a 14), .int p1, .int p2] (PK D clK (tysK cI cB) (wsK h0 a cI cB S) sz)) (va_Qv K (fun u t => QK D clK (tysK cI cB) (va_A (wsK h0 a cI cB S) sz) (wsK h0 a cI cB u) t) (va_A (wsK h0 a cI cB S) sz)) 0 0 (va_A (wsK h0 a cI cB S) sz) := by
  refine met_of (rm := rm_His_add) (pr := pr_His_add) (Qc := fun A => va_Qv K (fun u t => QK D clK (tysK cI cB) A (wsK h0 a cI cB u) t) A) (by decide +kernel) dm_His_add (Nat.le_of_ble_eq_true rfl) (fun p e s m args below meth c A C => ?_) sz
  unfold wp_His_add at h
  show J p l e rm_His_add s m args below meth c 4 D clK A 0 0 _ (wsK h0 a cI cB S) [(0, .ref (a 14)), (1, .int p1), (2, .int p2)] 0 []
  refine j_aload_n C 0 1 rfl rfl rfl 0 rfl ?_
  refine j_get C 1 4 rfl rfl fg_His_16 14 rfl rfl ?_
  refine j_bipush C 2 6 rfl rfl kB_15 ?_
  refine j_iand C 3 7 rfl rfl ?_
  refine j_topi (fun x1 ex1 => ?_)
  replace h := h x1 ex1
  refine j_istore_n C 4 8 [(3, .int x1), (0, .ref (a 14)), (1, .int p1), (2, .int p2)] rfl rfl rfl (by decide) rfl ?_
  refine j_aload_n C 5 9 rfl rfl rfl 1 rfl ?_
  refine j_get C 6 12 rfl rfl fg_His_9 14 rfl rfl ?_
  refine j_iload_n C 7 13 rfl rfl rfl 0 rfl ?_
  refine j_iload_n C 8 14 rfl rfl rfl 2 rfl ?_
  refine j_iast C 9 15 rfl rfl 15 0 rfl rfl h.1 (st S 13 x1.toNatClampNeg p1) (sK_15 _ _ _ _ _ _ _) (fun S2 eS2 => ?_)
  replace h := h.2
  replace h := h S2 eS2
  refine j_aload_n C 10 16 rfl rfl rfl 1 rfl ?_
  refine j_get C 11 19 rfl rfl fg_His_13 14 rfl rfl ?_
  refine j_iload_n C 12 20 rfl rfl rfl 0 rfl ?_
  refine j_iload_n C 13 21 rfl rfl rfl 3 rfl ?_
  refine j_iast C 14 22 rfl rfl 16 0 rfl rfl h.1 (st S2 14 x1.toNatClampNeg p2) (sK_16 _ _ _ _ _ _ _) (fun S3 eS3 => ?_)
  replace h := h.2
  replace h := h S3 eS3
  refine j_aload_n C 15 23 rfl rfl rfl 1 rfl ?_
  refine j_dup C 16 24 rfl rfl rfl ?_
  refine j_get C 17 27 rfl rfl fg_His_16 14 rfl rfl ?_
  refine j_iconst C 18 28 rfl rfl kI_1 ?_
  refine j_iadd C 19 29 rfl rfl ?_
  refine j_put C 20 32 rfl rfl fp_His_16 14 rfl (Nat.le_of_ble_eq_true rfl) rfl rfl (st S3 12 2 ((S3 12 2) + 1)) (sK_14_2 _ _ _ _ _ _) (fun S4 eS4 => ?_)
  replace h := h S4 eS4
  exact j_vret C 21 rfl h
abbrev rm_K_end : Room := { frames := 3, cells := 0, slots := 0, locals := 68 }
def wp_K_end_99 (K : St → Prop) (S : St)  : Prop := wp_His_add S (S 17 1) (S 0 10) (fun S13 => (K S13))
set_option maxHeartbeats 4000000 in
set_option maxRecDepth 100000 in
theorem L_K_end_99 {p : Program} {l : Launch} {e : Env} {s : State} {m : MethodId} {args : Array Value} {below : List Frame} {meth : Method} {c : Code} {A : Nat → Prop} {D : va_G} {h0 : Nat} {a : Nat → Nat} {cI cB : ClassId} {K : St → Prop} (C : CX p rm_K_end s m args meth c b_K_end 2 "PipelinedCore" none pr_K_end D clK (tysK cI cB) A) (S : St)  (h : wp_K_end_99 K S) : J p l e rm_K_end s m args below meth c 2 D clK A 0 0 (MQ below (va_Qv K (fun u t => QK D clK (tysK cI cB) A (wsK h0 a cI cB u) t) A) args s 0 0 A) (wsK h0 a cI cB S) [(0, .ref h0), (1, .ref (a 19))] 99 [] := by
  unfold wp_K_end_99 at h
  refine j_aload_n C 49 100 rfl rfl rfl 0 rfl ?_
  refine j_get C 50 103 rfl rfl fg_K_40 0 rfl rfl ?_
  refine j_aload_n C 51 104 rfl rfl rfl 1 rfl ?_
  refine j_get C 52 107 rfl rfl fg_K_115 19 rfl rfl ?_
  refine j_aload_n C 53 108 rfl rfl rfl 0 rfl ?_
  refine j_get C 54 111 rfl rfl fg_K_70 0 rfl rfl ?_
  refine j_callVv C 55 114 rfl rfl w398 m_His_add (As := [.int (S 17 1), .int (S 0 10)]) (c_His_add l D h0 a cI cB S (S 17 1) (S 0 10) _ h) ⟨rfl, rfl⟩ ⟨Nat.le_of_ble_eq_true rfl, Nat.le_of_ble_eq_true rfl⟩ 14 rfl rfl rfl ⟨Nat.le_of_ble_eq_true rfl, Nat.le_of_ble_eq_true rfl⟩ (Nat.le_of_ble_eq_true rfl) rfl (fun S13 h => ?_)
  exact j_vret C 56 rfl h
def wp_K_end_82 (K : St → Prop) (S : St)  : Prop := (((S 17 5) = 0 → ((wp_K_end_99 K S))) ∧ (¬ (S 17 5) = 0 → (∀ S12 : St, S12 = st S 0 13 ((S 0 13) + 1) → ((wp_K_end_99 K S12)))))
set_option maxHeartbeats 4000000 in
set_option maxRecDepth 100000 in
theorem L_K_end_82 {p : Program} {l : Launch} {e : Env} {s : State} {m : MethodId} {args : Array Value} {below : List Frame} {meth : Method} {c : Code} {A : Nat → Prop} {D : va_G} {h0 : Nat} {a : Nat → Nat} {cI cB : ClassId} {K : St → Prop} (C : CX p rm_K_end s m args meth c b_K_end 2 "PipelinedCore" none pr_K_end D clK (tysK cI cB) A) (S : St)  (h : wp_K_end_82 K S) : J p l e rm_K_end s m args below meth c 2 D clK A 0 0 (MQ below (va_Qv K (fun u t => QK D clK (tysK cI cB) A (wsK h0 a cI cB u) t) A) args s 0 0 A) (wsK h0 a cI cB S) [(0, .ref h0), (1, .ref (a 19))] 82 [] := by
  unfold wp_K_end_82 at h
  refine j_aload_n C 40 83 rfl rfl rfl 1 rfl ?_
  refine j_get C 41 86 rfl rfl fg_K_175 19 rfl rfl ?_
  refine j_if_eq C 42 99 89 rfl (by decide) rfl (fun c11 => ?_) (fun c11 => ?_)
  · replace h := h.1 c11
    exact L_K_end_99 C S h
  · replace h := h.2 c11
    refine j_aload_n C 43 90 rfl rfl rfl 0 rfl ?_
    refine j_dup C 44 91 rfl rfl rfl ?_
    refine j_get C 45 94 rfl rfl fg_K_121 0 rfl rfl ?_
    refine j_iconst C 46 95 rfl rfl kI_1 ?_
    refine j_iadd C 47 96 rfl rfl ?_
    refine j_put C 48 99 rfl rfl fp_K_121 0 rfl (Nat.le_of_ble_eq_true rfl) rfl rfl (st S 0 13 ((S 0 13) + 1)) (sK_0_13 _ _ _ _ _ _) (fun S12 eS12 => ?_)
    replace h := h S12 eS12
    exact L_K_end_99 C S12 h
def wp_K_end_62 (K : St → Prop) (S : St)  : Prop := (((S 17 6) = 0 → ((wp_K_end_82 K S))) ∧ (¬ (S 17 6) = 0 → (vp_in (S 17 6) 32 ∧ (∀ S10 : St, S10 = st S 2 (S 17 6 : Int32).toNatClampNeg (S 17 7) → ((wp_K_end_82 K S10))))))
set_option maxHeartbeats 4000000 in
set_option maxRecDepth 100000 in
theorem L_K_end_62 {p : Program} {l : Launch} {e : Env} {s : State} {m : MethodId} {args : Array Value} {below : List Frame} {meth : Method} {c : Code} {A : Nat → Prop} {D : va_G} {h0 : Nat} {a : Nat → Nat} {cI cB : ClassId} {K : St → Prop} (C : CX p rm_K_end s m args meth c b_K_end 2 "PipelinedCore" none pr_K_end D clK (tysK cI cB) A) (S : St)  (h : wp_K_end_62 K S) : J p l e rm_K_end s m args below meth c 2 D clK A 0 0 (MQ below (va_Qv K (fun u t => QK D clK (tysK cI cB) A (wsK h0 a cI cB u) t) A) args s 0 0 A) (wsK h0 a cI cB S) [(0, .ref h0), (1, .ref (a 19))] 62 [] := by
  unfold wp_K_end_62 at h
  refine j_aload_n C 30 63 rfl rfl rfl 1 rfl ?_
  refine j_get C 31 66 rfl rfl fg_K_172 19 rfl rfl ?_
  refine j_if_eq C 32 82 69 rfl (by decide) rfl (fun c9 => ?_) (fun c9 => ?_)
  · replace h := h.1 c9
    exact L_K_end_82 C S h
  · replace h := h.2 c9
    refine j_aload_n C 33 70 rfl rfl rfl 0 rfl ?_
    refine j_get C 34 73 rfl rfl fg_K_13 0 rfl rfl ?_
    refine j_aload_n C 35 74 rfl rfl rfl 1 rfl ?_
    refine j_get C 36 77 rfl rfl fg_K_172 19 rfl rfl ?_
    refine j_aload_n C 37 78 rfl rfl rfl 1 rfl ?_
    refine j_get C 38 81 rfl rfl fg_K_163 19 rfl rfl ?_
    refine j_iast C 39 82 rfl rfl 2 0 rfl rfl h.1 (st S 2 (S 17 6 : Int32).toNatClampNeg (S 17 7)) (sK_2 _ _ _ _ _ _ _) (fun S10 eS10 => ?_)
    replace h := h.2
    replace h := h S10 eS10
    exact L_K_end_82 C S10 h
def wp_K_end (S : St)  (K : St → Prop) : Prop := ∀ S1 : St, S1 = st S 17 0 0 → (((¬ (S1 17 8) = 1 → (((¬ (S1 17 8) = 2 → ((wp_K_end_62 K S1))) ∧ ((S1 17 8) = 2 → (wp_Sto_write S1 (S1 17 9) (S1 17 10) (S1 17 11) (fun S4 => ((wp_K_end_62 K S4)))))))) ∧ ((S1 17 8) = 1 → (wp_Sto_read S1 (S1 17 9) (S1 17 10) (fun r7 S6 => (∀ S8 : St, S8 = st S6 17 7 r7 → ((wp_K_end_62 K S8))))))))
set_option maxHeartbeats 4000000 in
set_option maxRecDepth 100000 in
theorem c_K_end (l : Launch) (D : va_G) (h0 : Nat) (a : Nat → Nat) (cI cB : ClassId) (S : St)  (K : St → Prop) (h : wp_K_end S K) (sz : Nat) : Met l y_K_end (Cond.code y_K_end b_K_end 2 none :: gw) rm_K_end (va_Pc [.ref h0, .ref (a 19)] (PK D clK (tysK cI cB) (wsK h0 a cI cB S) sz)) (va_Qv K (fun u t => QK D clK (tysK cI cB) (va_A (wsK h0 a cI cB S) sz) (wsK h0 a cI cB u) t) (va_A (wsK h0 a cI cB S) sz)) 0 0 (va_A (wsK h0 a cI cB S) sz) := by
  refine met_of (rm := rm_K_end) (pr := pr_K_end) (Qc := fun A => va_Qv K (fun u t => QK D clK (tysK cI cB) A (wsK h0 a cI cB u) t) A) (by decide +kernel) dm_K_end (Nat.le_of_ble_eq_true rfl) (fun p e s m args below meth c A C => ?_) sz
  unfold wp_K_end at h
  show J p l e rm_K_end s m args below meth c 2 D clK A 0 0 _ (wsK h0 a cI cB S) [(0, .ref h0), (1, .ref (a 19))] 0 []
  refine j_aload_n C 0 1 rfl rfl rfl 1 rfl ?_
  refine j_iconst C 1 2 rfl rfl kI_0 ?_
  refine j_put C 2 5 rfl rfl fp_K_111 19 rfl (Nat.le_of_ble_eq_true rfl) (isB_nar isB_0) (isB_fit isB_0) (st S 17 0 0) (sK_19_0 _ _ _ _ _ _) (fun S1 eS1 => ?_)
  replace h := h S1 eS1
  refine j_aload_n C 3 6 rfl rfl rfl 1 rfl ?_
  refine j_get C 4 9 rfl rfl fg_K_152 19 rfl rfl ?_
  refine j_iconst C 5 10 rfl rfl kI_1 ?_
  refine j_icmp_ne C 6 35 13 rfl (by decide) rfl (fun c2 => ?_) (fun c2 => ?_)
  · replace h := h.1 c2
    refine j_aload_n C 17 36 rfl rfl rfl 1 rfl ?_
    refine j_get C 18 39 rfl rfl fg_K_152 19 rfl rfl ?_
    refine j_iconst C 19 40 rfl rfl kI_2 ?_
    refine j_icmp_ne C 20 62 43 rfl (by decide) rfl (fun c3 => ?_) (fun c3 => ?_)
    · replace h := h.1 c3
      exact L_K_end_62 C S1 h
    · replace h := h.2 c3
      refine j_aload_n C 21 44 rfl rfl rfl 0 rfl ?_
      refine j_get C 22 47 rfl rfl fg_K_26 0 rfl rfl ?_
      refine j_aload_n C 23 48 rfl rfl rfl 1 rfl ?_
      refine j_get C 24 51 rfl rfl fg_K_155 19 rfl rfl ?_
      refine j_aload_n C 25 52 rfl rfl rfl 1 rfl ?_
      refine j_get C 26 55 rfl rfl fg_K_158 19 rfl rfl ?_
      refine j_aload_n C 27 56 rfl rfl rfl 1 rfl ?_
      refine j_get C 28 59 rfl rfl fg_K_166 19 rfl rfl ?_
      refine j_callVv C 29 62 rfl rfl w393 m_Sto_write (As := [.int (S1 17 9), .int (S1 17 10), .int (S1 17 11)]) (c_Sto_write l D h0 a cI cB S1 (S1 17 9) (S1 17 10) (S1 17 11) _ h) ⟨rfl, rfl⟩ ⟨Nat.le_of_ble_eq_true rfl, Nat.le_of_ble_eq_true rfl⟩ 4 rfl rfl rfl ⟨Nat.le_of_ble_eq_true rfl, Nat.le_of_ble_eq_true rfl⟩ (Nat.le_of_ble_eq_true rfl) rfl (fun S4 h => ?_)
      exact L_K_end_62 C S4 h
  · replace h := h.2 c2
    refine j_aload_n C 7 14 rfl rfl rfl 1 rfl ?_
    refine j_aload_n C 8 15 rfl rfl rfl 0 rfl ?_
    refine j_get C 9 18 rfl rfl fg_K_26 0 rfl rfl ?_
    refine j_aload_n C 10 19 rfl rfl rfl 1 rfl ?_
    refine j_get C 11 22 rfl rfl fg_K_155 19 rfl rfl ?_
    refine j_aload_n C 12 23 rfl rfl rfl 1 rfl ?_
    refine j_get C 13 26 rfl rfl fg_K_158 19 rfl rfl ?_
    refine j_callVi C 14 29 rfl rfl w381 m_Sto_read (As := [.int (S1 17 9), .int (S1 17 10)]) (c_Sto_read l D h0 a cI cB S1 (S1 17 9) (S1 17 10) _ h) ⟨rfl, rfl⟩ ⟨Nat.le_of_ble_eq_true rfl, Nat.le_of_ble_eq_true rfl⟩ 4 rfl rfl rfl ⟨Nat.le_of_ble_eq_true rfl, Nat.le_of_ble_eq_true rfl⟩ (Nat.le_of_ble_eq_true rfl) rfl (fun r7 S6 h => ?_)
    refine j_put C 15 32 rfl rfl fp_K_163 19 rfl (Nat.le_of_ble_eq_true rfl) rfl rfl (st S6 17 7 r7) (sK_19_7 _ _ _ _ _ _) (fun S8 eS8 => ?_)
    replace h := h S8 eS8
    refine j_goto C 16 62 rfl (by decide) ?_
    exact L_K_end_62 C S8 h
