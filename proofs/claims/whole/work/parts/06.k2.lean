abbrev rm_K_control : Room := { frames := 1, cells := 0, slots := 0, locals := 21 }
def wp_K_control (S : St) (p1 : Int32) (K : Int32 → St → Prop) : Prop := wp_Con_read S p1 (fun r2 S1 => (K r2 S1))
set_option maxHeartbeats 4000000 in
set_option maxRecDepth 100000 in
theorem c_K_control (l : Launch) (D : va_G) (h0 : Nat) (a : Nat → Nat) (cI cB : ClassId) (S : St) (p1 : Int32) (K : Int32 → St → Prop) (h : wp_K_control S p1 K) (sz : Nat) : Met l y_K_control (Cond.code y_K_control b_K_control 2 (some .int) :: gw) rm_K_control (va_Pc [.ref h0, .int p1] (PK D clK (tysK cI cB) (wsK h0 a cI cB S) sz)) (va_Qi K (fun u t => QK D clK (tysK cI cB) (va_A (wsK h0 a cI cB S) sz) (wsK h0 a cI cB u) t) (va_A (wsK h0 a cI cB S) sz)) 0 0 (va_A (wsK h0 a cI cB S) sz) := by
  refine met_of (rm := rm_K_control) (pr := pr_K_control) (Qc := fun A => va_Qi K (fun u t => QK D clK (tysK cI cB) A (wsK h0 a cI cB u) t) A) (by decide +kernel) dm_K_control (Nat.le_of_ble_eq_true rfl) (fun p e s m args below meth c A C => ?_) sz
  unfold wp_K_control at h
  show J p l e rm_K_control s m args below meth c 2 D clK A 0 0 _ (wsK h0 a cI cB S) [(0, .ref h0), (1, .int p1)] 0 []
  refine j_aload_n C 0 1 rfl rfl rfl 0 rfl ?_
  refine j_get C 1 4 rfl rfl fg_K_19 0 rfl rfl ?_
  refine j_iload_n C 2 5 rfl rfl rfl 1 rfl ?_
  refine j_callVi C 3 8 rfl rfl w567 m_Con_read (As := [.int p1]) (c_Con_read l D h0 a cI cB S p1 _ h) ⟨rfl, rfl⟩ ⟨Nat.le_of_ble_eq_true rfl, Nat.le_of_ble_eq_true rfl⟩ 3 rfl rfl rfl ⟨Nat.le_of_ble_eq_true rfl, Nat.le_of_ble_eq_true rfl⟩ (Nat.le_of_ble_eq_true rfl) rfl (fun r2 S1 h => ?_)
  exact j_iret C 4 rfl h
abbrev rm_K_word : Room := { frames := 2, cells := 0, slots := 0, locals := 41 }
def wp_K_word_19 (K : Int32 → St → Prop) (S : St) (k0 : Int32) : Prop := K k0 S
set_option maxHeartbeats 4000000 in
set_option maxRecDepth 100000 in
theorem L_K_word_19 {p : Program} {l : Launch} {e : Env} {s : State} {m : MethodId} {args : Array Value} {below : List Frame} {meth : Method} {c : Code} {A : Nat → Prop} {D : va_G} {h0 : Nat} {a : Nat → Nat} {cI cB : ClassId} {K : Int32 → St → Prop} (C : CX p rm_K_word s m args meth c b_K_word 2 "PipelinedCore" (some .int) pr_K_word D clK (tysK cI cB) A) (S : St) (k0 : Int32) (h : wp_K_word_19 K S k0) : J p l e rm_K_word s m args below meth c 2 D clK A 0 0 (MQ below (va_Qi K (fun u t => QK D clK (tysK cI cB) A (wsK h0 a cI cB u) t) A) args s 0 0 A) (wsK h0 a cI cB S) [] 19 [.int k0] := by
  unfold wp_K_word_19 at h
  exact j_iret C 9 rfl h
def wp_K_word (S : St) (p1 : Int32) (K : Int32 → St → Prop) : Prop := wp_Sto_hasWord S p1 (fun r2 S1 => ((if r2 = 0 then ((wp_K_word_19 K S1 0)) else (wp_Sto_wordAround S1 p1 (fun r5 S4 => ((wp_K_word_19 K S4 r5)))))))
set_option maxHeartbeats 4000000 in
set_option maxRecDepth 100000 in
theorem c_K_word (l : Launch) (D : va_G) (h0 : Nat) (a : Nat → Nat) (cI cB : ClassId) (S : St) (p1 : Int32) (K : Int32 → St → Prop) (h : wp_K_word S p1 K) (sz : Nat) : Met l y_K_word (Cond.code y_K_word b_K_word 2 (some .int) :: gw) rm_K_word (va_Pc [.ref h0, .int p1] (PK D clK (tysK cI cB) (wsK h0 a cI cB S) sz)) (va_Qi K (fun u t => QK D clK (tysK cI cB) (va_A (wsK h0 a cI cB S) sz) (wsK h0 a cI cB u) t) (va_A (wsK h0 a cI cB S) sz)) 0 0 (va_A (wsK h0 a cI cB S) sz) := by
  refine met_of (rm := rm_K_word) (pr := pr_K_word) (Qc := fun A => va_Qi K (fun u t => QK D clK (tysK cI cB) A (wsK h0 a cI cB u) t) A) (by decide +kernel) dm_K_word (Nat.le_of_ble_eq_true rfl) (fun p e s m args below meth c A C => ?_) sz
  unfold wp_K_word at h
  show J p l e rm_K_word s m args below meth c 2 D clK A 0 0 _ (wsK h0 a cI cB S) [(0, .ref h0), (1, .int p1)] 0 []
  refine j_iload_n C 0 1 rfl rfl rfl 1 rfl ?_
  refine j_callSi C 1 4 rfl rfl w323 m_Sto_hasWord (As := [.int p1]) (c_Sto_hasWord l D h0 a cI cB S p1 _ h) ⟨rfl, rfl⟩ ⟨Nat.le_of_ble_eq_true rfl, Nat.le_of_ble_eq_true rfl⟩ rfl ⟨Nat.le_of_ble_eq_true rfl, Nat.le_of_ble_eq_true rfl⟩ (Nat.le_of_ble_eq_true rfl) rfl (fun r2 S1 h => ?_)
  refine j_if_eq C 2 18 7 rfl (by decide) rfl (fun c3 => ?_) (fun c3 => ?_)
  · replace h := ite_t h c3
    refine j_iconst C 8 19 rfl rfl kI_0 ?_
    refine j_sub [] rfl ?_
    exact L_K_word_19 C S1 0 h
  · replace h := ite_f h c3
    refine j_aload_n C 3 8 rfl rfl rfl 0 rfl ?_
    refine j_get C 4 11 rfl rfl fg_K_26 0 rfl rfl ?_
    refine j_iload_n C 5 12 rfl rfl rfl 1 rfl ?_
    refine j_callVi C 6 15 rfl rfl w572 m_Sto_wordAround (As := [.int p1]) (c_Sto_wordAround l D h0 a cI cB S1 p1 _ h) ⟨rfl, rfl⟩ ⟨Nat.le_of_ble_eq_true rfl, Nat.le_of_ble_eq_true rfl⟩ 4 rfl rfl rfl ⟨Nat.le_of_ble_eq_true rfl, Nat.le_of_ble_eq_true rfl⟩ (Nat.le_of_ble_eq_true rfl) rfl (fun r5 S4 h => ?_)
    refine j_goto C 7 19 rfl (by decide) ?_
    refine j_sub [] rfl ?_
    exact L_K_word_19 C S4 r5 h
abbrev rm_His_has : Room := { frames := 0, cells := 0, slots := 0, locals := 0 }
def wp_His_has_23 (K : Int32 → St → Prop) (S : St) (k0 : Int32) : Prop := isB k0 ∧ K k0 S
set_option maxHeartbeats 4000000 in
set_option maxRecDepth 100000 in
theorem L_His_has_23 {p : Program} {l : Launch} {e : Env} {s : State} {m : MethodId} {args : Array Value} {below : List Frame} {meth : Method} {c : Code} {A : Nat → Prop} {D : va_G} {h0 : Nat} {a : Nat → Nat} {cI cB : ClassId} {K : Int32 → St → Prop} (C : CX p rm_His_has s m args meth c b_His_has 2 "PipelinedCore$History" (some .boolean) pr_His_has D clK (tysK cI cB) A) (S : St) (k0 : Int32) (h : wp_His_has_23 K S k0) : J p l e rm_His_has s m args below meth c 2 D clK A 0 0 (MQ below (va_Qi K (fun u t => QK D clK (tysK cI cB) A (wsK h0 a cI cB u) t) A) args s 0 0 A) (wsK h0 a cI cB S) [] 23 [.int k0] := by
  unfold wp_His_has_23 at h
  exact j_zret C 12 rfl h.1 h.2
def wp_His_has_22 (K : Int32 → St → Prop) (S : St)  : Prop := (wp_His_has_23 K S 0)
set_option maxHeartbeats 4000000 in
set_option maxRecDepth 100000 in
theorem L_His_has_22 {p : Program} {l : Launch} {e : Env} {s : State} {m : MethodId} {args : Array Value} {below : List Frame} {meth : Method} {c : Code} {A : Nat → Prop} {D : va_G} {h0 : Nat} {a : Nat → Nat} {cI cB : ClassId} {K : Int32 → St → Prop} (C : CX p rm_His_has s m args meth c b_His_has 2 "PipelinedCore$History" (some .boolean) pr_His_has D clK (tysK cI cB) A) (S : St)  (h : wp_His_has_22 K S) : J p l e rm_His_has s m args below meth c 2 D clK A 0 0 (MQ below (va_Qi K (fun u t => QK D clK (tysK cI cB) A (wsK h0 a cI cB u) t) A) args s 0 0 A) (wsK h0 a cI cB S) [] 22 [] := by
  unfold wp_His_has_22 at h
  refine j_iconst C 11 23 rfl rfl kI_0 ?_
  exact L_His_has_23 C S 0 h
def wp_His_has (S : St) (p1 : Int32) (K : Int32 → St → Prop) : Prop := (if p1 < 0 then ((wp_His_has_22 K S)) else ((if (16 : Int32) ≤ p1 then ((wp_His_has_22 K S)) else ((if (S 12 2) ≤ p1 then ((wp_His_has_22 K S)) else ((wp_His_has_23 K S 1)))))))
set_option maxHeartbeats 4000000 in
set_option maxRecDepth 100000 in
theorem c_His_has (l : Launch) (D : va_G) (h0 : Nat) (a : Nat → Nat) (cI cB : ClassId) (S : St) (p1 : Int32) (K : Int32 → St → Prop) (h : wp_His_has S p1 K) (sz : Nat) : Met l y_His_has (Cond.code y_His_has b_His_has 2 (some .boolean) :: gw) rm_His_has (va_Pc [.ref (a 14), .int p1] (PK D clK (tysK cI cB) (wsK h0 a cI cB S) sz)) (va_Qi K (fun u t => QK D clK (tysK cI cB) (va_A (wsK h0 a cI cB S) sz) (wsK h0 a cI cB u) t) (va_A (wsK h0 a cI cB S) sz)) 0 0 (va_A (wsK h0 a cI cB S) sz) := by
  refine met_of (rm := rm_His_has) (pr := pr_His_has) (Qc := fun A => va_Qi K (fun u t => QK D clK (tysK cI cB) A (wsK h0 a cI cB u) t) A) (by decide +kernel) dm_His_has (Nat.le_of_ble_eq_true rfl) (fun p e s m args below meth c A C => ?_) sz
  unfold wp_His_has at h
  show J p l e rm_His_has s m args below meth c 2 D clK A 0 0 _ (wsK h0 a cI cB S) [(0, .ref (a 14)), (1, .int p1)] 0 []
  refine j_iload_n C 0 1 rfl rfl rfl 1 rfl ?_
  refine j_if_lt C 1 22 4 rfl (by decide) rfl (fun c1 => ?_) (fun c1 => ?_)
  · replace h := ite_t h c1
    refine j_sub [] rfl ?_
    exact L_His_has_22 C S h
  · replace h := ite_f h c1
    refine j_iload_n C 2 5 rfl rfl rfl 1 rfl ?_
    refine j_bipush C 3 7 rfl rfl kB_16 ?_
    refine j_icmp_ge C 4 22 10 rfl (by decide) rfl (fun c2 => ?_) (fun c2 => ?_)
    · replace h := ite_t h c2
      refine j_sub [] rfl ?_
      exact L_His_has_22 C S h
    · replace h := ite_f h c2
      refine j_iload_n C 5 11 rfl rfl rfl 1 rfl ?_
      refine j_aload_n C 6 12 rfl rfl rfl 0 rfl ?_
      refine j_get C 7 15 rfl rfl fg_His_16 14 rfl rfl ?_
      refine j_icmp_ge C 8 22 18 rfl (by decide) rfl (fun c3 => ?_) (fun c3 => ?_)
      · replace h := ite_t h c3
        refine j_sub [] rfl ?_
        exact L_His_has_22 C S h
      · replace h := ite_f h c3
        refine j_iconst C 9 19 rfl rfl kI_1 ?_
        refine j_goto C 10 23 rfl (by decide) ?_
        refine j_sub [] rfl ?_
        exact L_His_has_23 C S 1 h
abbrev rm_His_placeOf : Room := { frames := 0, cells := 0, slots := 0, locals := 0 }
def wp_His_placeOf (S : St) (p1 : Int32) (K : Int32 → St → Prop) : Prop := K ((((S 12 2) - (1 : Int32)) - p1) &&& (15 : Int32)) S
set_option maxHeartbeats 4000000 in
set_option maxRecDepth 100000 in
theorem c_His_placeOf (l : Launch) (D : va_G) (h0 : Nat) (a : Nat → Nat) (cI cB : ClassId) (S : St) (p1 : Int32) (K : Int32 → St → Prop) (h : wp_His_placeOf S p1 K) (sz : Nat) : Met l y_His_placeOf (Cond.code y_His_placeOf b_His_placeOf 2 (some .int) :: gw) rm_His_placeOf (va_Pc [.ref (a 14), .int p1] (PK D clK (tysK cI cB) (wsK h0 a cI cB S) sz)) (va_Qi K (fun u t => QK D clK (tysK cI cB) (va_A (wsK h0 a cI cB S) sz) (wsK h0 a cI cB u) t) (va_A (wsK h0 a cI cB S) sz)) 0 0 (va_A (wsK h0 a cI cB S) sz) := by
  refine met_of (rm := rm_His_placeOf) (pr := pr_His_placeOf) (Qc := fun A => va_Qi K (fun u t => QK D clK (tysK cI cB) A (wsK h0 a cI cB u) t) A) (by decide +kernel) dm_His_placeOf (Nat.le_of_ble_eq_true rfl) (fun p e s m args below meth c A C => ?_) sz
  unfold wp_His_placeOf at h
  show J p l e rm_His_placeOf s m args below meth c 2 D clK A 0 0 _ (wsK h0 a cI cB S) [(0, .ref (a 14)), (1, .int p1)] 0 []
  refine j_aload_n C 0 1 rfl rfl rfl 0 rfl ?_
  refine j_get C 1 4 rfl rfl fg_His_16 14 rfl rfl ?_
  refine j_iconst C 2 5 rfl rfl kI_1 ?_
  refine j_isub C 3 6 rfl rfl ?_
  refine j_iload_n C 4 7 rfl rfl rfl 1 rfl ?_
  refine j_isub C 5 8 rfl rfl ?_
  refine j_bipush C 6 10 rfl rfl kB_15 ?_
  refine j_iand C 7 11 rfl rfl ?_
  exact j_iret C 8 rfl h
abbrev rm_His_address : Room := { frames := 1, cells := 0, slots := 0, locals := 21 }
def wp_His_address (S : St) (p1 : Int32) (K : Int32 → St → Prop) : Prop := wp_His_placeOf S p1 (fun r2 S1 => (vp_in r2 16 ∧ (K (S1 13 r2.toNatClampNeg) S1)))
set_option maxHeartbeats 4000000 in
set_option maxRecDepth 100000 in
theorem c_His_address (l : Launch) (D : va_G) (h0 : Nat) (a : Nat → Nat) (cI cB : ClassId) (S : St) (p1 : Int32) (K : Int32 → St → Prop) (h : wp_His_address S p1 K) (sz : Nat) : Met l y_His_address (Cond.code y_His_address b_His_address 2 (some .int) :: gw) rm_His_address (va_Pc [.ref (a 14), .int p1] (PK D clK (tysK cI cB) (wsK h0 a cI cB S) sz)) (va_Qi K (fun u t => QK D clK (tysK cI cB) (va_A (wsK h0 a cI cB S) sz) (wsK h0 a cI cB u) t) (va_A (wsK h0 a cI cB S) sz)) 0 0 (va_A (wsK h0 a cI cB S) sz) := by
  refine met_of (rm := rm_His_address) (pr := pr_His_address) (Qc := fun A => va_Qi K (fun u t => QK D clK (tysK cI cB) A (wsK h0 a cI cB u) t) A) (by decide +kernel) dm_His_address (Nat.le_of_ble_eq_true rfl) (fun p e s m args below meth c A C => ?_) sz
  unfold wp_His_address at h
  show J p l e rm_His_address s m args below meth c 2 D clK A 0 0 _ (wsK h0 a cI cB S) [(0, .ref (a 14)), (1, .int p1)] 0 []
  refine j_aload_n C 0 1 rfl rfl rfl 0 rfl ?_
  refine j_get C 1 4 rfl rfl fg_His_9 14 rfl rfl ?_
  refine j_aload_n C 2 5 rfl rfl rfl 0 rfl ?_
  refine j_iload_n C 3 6 rfl rfl rfl 1 rfl ?_
  refine j_callVi C 4 9 rfl rfl w585 m_His_placeOf (As := [.int p1]) (c_His_placeOf l D h0 a cI cB S p1 _ h) ⟨rfl, rfl⟩ ⟨Nat.le_of_ble_eq_true rfl, Nat.le_of_ble_eq_true rfl⟩ 14 rfl rfl rfl ⟨Nat.le_of_ble_eq_true rfl, Nat.le_of_ble_eq_true rfl⟩ (Nat.le_of_ble_eq_true rfl) rfl (fun r2 S1 h => ?_)
  refine j_iald C 5 10 rfl rfl 15 0 rfl rfl h.1 ?_
  replace h := h.2
  exact j_iret C 6 rfl h
abbrev rm_His_time : Room := { frames := 1, cells := 0, slots := 0, locals := 21 }
def wp_His_time (S : St) (p1 : Int32) (K : Int32 → St → Prop) : Prop := wp_His_placeOf S p1 (fun r2 S1 => (vp_in r2 16 ∧ (K (S1 14 r2.toNatClampNeg) S1)))
set_option maxHeartbeats 4000000 in
set_option maxRecDepth 100000 in
theorem c_His_time (l : Launch) (D : va_G) (h0 : Nat) (a : Nat → Nat) (cI cB : ClassId) (S : St) (p1 : Int32) (K : Int32 → St → Prop) (h : wp_His_time S p1 K) (sz : Nat) : Met l y_His_time (Cond.code y_His_time b_His_time 2 (some .int) :: gw) rm_His_time (va_Pc [.ref (a 14), .int p1] (PK D clK (tysK cI cB) (wsK h0 a cI cB S) sz)) (va_Qi K (fun u t => QK D clK (tysK cI cB) (va_A (wsK h0 a cI cB S) sz) (wsK h0 a cI cB u) t) (va_A (wsK h0 a cI cB S) sz)) 0 0 (va_A (wsK h0 a cI cB S) sz) := by
  refine met_of (rm := rm_His_time) (pr := pr_His_time) (Qc := fun A => va_Qi K (fun u t => QK D clK (tysK cI cB) A (wsK h0 a cI cB u) t) A) (by decide +kernel) dm_His_time (Nat.le_of_ble_eq_true rfl) (fun p e s m args below meth c A C => ?_) sz
  unfold wp_His_time at h
  show J p l e rm_His_time s m args below meth c 2 D clK A 0 0 _ (wsK h0 a cI cB S) [(0, .ref (a 14)), (1, .int p1)] 0 []
  refine j_aload_n C 0 1 rfl rfl rfl 0 rfl ?_
  refine j_get C 1 4 rfl rfl fg_His_13 14 rfl rfl ?_
  refine j_aload_n C 2 5 rfl rfl rfl 0 rfl ?_
  refine j_iload_n C 3 6 rfl rfl rfl 1 rfl ?_
  refine j_callVi C 4 9 rfl rfl w585 m_His_placeOf (As := [.int p1]) (c_His_placeOf l D h0 a cI cB S p1 _ h) ⟨rfl, rfl⟩ ⟨Nat.le_of_ble_eq_true rfl, Nat.le_of_ble_eq_true rfl⟩ 14 rfl rfl rfl ⟨Nat.le_of_ble_eq_true rfl, Nat.le_of_ble_eq_true rfl⟩ (Nat.le_of_ble_eq_true rfl) rfl (fun r2 S1 h => ?_)
  refine j_iald C 5 10 rfl rfl 16 0 rfl rfl h.1 ?_
  replace h := h.2
  exact j_iret C 6 rfl h
abbrev rm_K_ended : Room := { frames := 2, cells := 0, slots := 0, locals := 42 }
def wp_K_ended (S : St) (p1 : Int32) (p2 : Int32) (K : Int32 → St → Prop) : Prop := wp_His_has S p1 (fun r2 S1 => ((if r2 = 0 then (K (-1) S1) else ((if p2 = 0 then (wp_His_address S1 p1 (fun r6 S5 => (K r6 S5))) else (if p2 = 1 then (wp_His_time S1 p1 (fun r8 S7 => (K r8 S7))) else (K (-1) S1)))))))
set_option maxHeartbeats 4000000 in
set_option maxRecDepth 100000 in
theorem c_K_ended (l : Launch) (D : va_G) (h0 : Nat) (a : Nat → Nat) (cI cB : ClassId) (S : St) (p1 : Int32) (p2 : Int32) (K : Int32 → St → Prop) (h : wp_K_ended S p1 p2 K) (sz : Nat) : Met l y_K_ended (Cond.code y_K_ended b_K_ended 3 (some .int) :: gw) rm_K_ended (va_Pc [.ref h0, .int p1, .int p2] (PK D clK (tysK cI cB) (wsK h0 a cI cB S) sz)) (va_Qi K (fun u t => QK D clK (tysK cI cB) (va_A (wsK h0 a cI cB S) sz) (wsK h0 a cI cB u) t) (va_A (wsK h0 a cI cB S) sz)) 0 0 (va_A (wsK h0 a cI cB S) sz) := by
  refine met_of (rm := rm_K_ended) (pr := pr_K_ended) (Qc := fun A => va_Qi K (fun u t => QK D clK (tysK cI cB) A (wsK h0 a cI cB u) t) A) (by decide +kernel) dm_K_ended (Nat.le_of_ble_eq_true rfl) (fun p e s m args below meth c A C => ?_) sz
  unfold wp_K_ended at h
  show J p l e rm_K_ended s m args below meth c 3 D clK A 0 0 _ (wsK h0 a cI cB S) [(0, .ref h0), (1, .int p1), (2, .int p2)] 0 []
  refine j_aload_n C 0 1 rfl rfl rfl 0 rfl ?_
  refine j_get C 1 4 rfl rfl fg_K_40 0 rfl rfl ?_
  refine j_iload_n C 2 5 rfl rfl rfl 1 rfl ?_
  refine j_callVi C 3 8 rfl rfl w577 m_His_has (As := [.int p1]) (c_His_has l D h0 a cI cB S p1 _ h) ⟨rfl, rfl⟩ ⟨Nat.le_of_ble_eq_true rfl, Nat.le_of_ble_eq_true rfl⟩ 14 rfl rfl rfl ⟨Nat.le_of_ble_eq_true rfl, Nat.le_of_ble_eq_true rfl⟩ (Nat.le_of_ble_eq_true rfl) rfl (fun r2 S1 h => ?_)
  refine j_if_ne C 4 13 11 rfl (by decide) rfl (fun c3 => ?_) (fun c3 => ?_)
  · replace h := ite_f h c3
    refine j_iload_n C 7 14 rfl rfl rfl 2 rfl ?_
    refine j_lookup C 8 rfl (by decide) [(0, 40), (1, 49)] 58 (by decide +kernel) (by decide) (swP_c (fun c4_0 => ?_) (fun nc4_0 => swP_c (fun c4_1 => ?_) (fun nc4_1 => swP_n ?_)))
    · replace h := ite_t h c4_0
      refine j_aload_n C 9 41 rfl rfl rfl 0 rfl ?_
      refine j_get C 10 44 rfl rfl fg_K_40 0 rfl rfl ?_
      refine j_iload_n C 11 45 rfl rfl rfl 1 rfl ?_
      refine j_callVi C 12 48 rfl rfl w581 m_His_address (As := [.int p1]) (c_His_address l D h0 a cI cB S1 p1 _ h) ⟨rfl, rfl⟩ ⟨Nat.le_of_ble_eq_true rfl, Nat.le_of_ble_eq_true rfl⟩ 14 rfl rfl rfl ⟨Nat.le_of_ble_eq_true rfl, Nat.le_of_ble_eq_true rfl⟩ (Nat.le_of_ble_eq_true rfl) rfl (fun r6 S5 h => ?_)
      exact j_iret C 13 rfl h
    · replace h := ite_t (ite_f h nc4_0) c4_1
      refine j_aload_n C 14 50 rfl rfl rfl 0 rfl ?_
      refine j_get C 15 53 rfl rfl fg_K_40 0 rfl rfl ?_
      refine j_iload_n C 16 54 rfl rfl rfl 1 rfl ?_
      refine j_callVi C 17 57 rfl rfl w589 m_His_time (As := [.int p1]) (c_His_time l D h0 a cI cB S1 p1 _ h) ⟨rfl, rfl⟩ ⟨Nat.le_of_ble_eq_true rfl, Nat.le_of_ble_eq_true rfl⟩ 14 rfl rfl rfl ⟨Nat.le_of_ble_eq_true rfl, Nat.le_of_ble_eq_true rfl⟩ (Nat.le_of_ble_eq_true rfl) rfl (fun r8 S7 h => ?_)
      exact j_iret C 18 rfl h
    · replace h := (ite_f (ite_f h nc4_0) nc4_1)
      refine j_iconst C 19 59 rfl rfl kI_m1 ?_
      exact j_iret C 20 rfl h
  · replace h := ite_t h c3
    refine j_iconst C 5 12 rfl rfl kI_m1 ?_
    exact j_iret C 6 rfl h
abbrev rm_K_stage : Room := { frames := 2, cells := 0, slots := 0, locals := 42 }
def wp_K_stage_49 (K : Int32 → St → Prop) (S : St) (k0 : Int32) : Prop := K k0 S
set_option maxHeartbeats 4000000 in
set_option maxRecDepth 100000 in
theorem L_K_stage_49 {p : Program} {l : Launch} {e : Env} {s : State} {m : MethodId} {args : Array Value} {below : List Frame} {meth : Method} {c : Code} {A : Nat → Prop} {D : va_G} {h0 : Nat} {a : Nat → Nat} {cI cB : ClassId} {K : Int32 → St → Prop} (C : CX p rm_K_stage s m args meth c b_K_stage 2 "PipelinedCore" (some .int) pr_K_stage D clK (tysK cI cB) A) (S : St) (k0 : Int32) (h : wp_K_stage_49 K S k0) : J p l e rm_K_stage s m args below meth c 2 D clK A 0 0 (MQ below (va_Qi K (fun u t => QK D clK (tysK cI cB) A (wsK h0 a cI cB u) t) A) args s 0 0 A) (wsK h0 a cI cB S) [] 49 [.int k0] := by
  unfold wp_K_stage_49 at h
  exact j_iret C 11 rfl h
def wp_K_stage_71 (K : Int32 → St → Prop) (S : St) (k0 : Int32) : Prop := K k0 S
set_option maxHeartbeats 4000000 in
set_option maxRecDepth 100000 in
theorem L_K_stage_71 {p : Program} {l : Launch} {e : Env} {s : State} {m : MethodId} {args : Array Value} {below : List Frame} {meth : Method} {c : Code} {A : Nat → Prop} {D : va_G} {h0 : Nat} {a : Nat → Nat} {cI cB : ClassId} {K : Int32 → St → Prop} (C : CX p rm_K_stage s m args meth c b_K_stage 2 "PipelinedCore" (some .int) pr_K_stage D clK (tysK cI cB) A) (S : St) (k0 : Int32) (h : wp_K_stage_71 K S k0) : J p l e rm_K_stage s m args below meth c 2 D clK A 0 0 (MQ below (va_Qi K (fun u t => QK D clK (tysK cI cB) A (wsK h0 a cI cB u) t) A) args s 0 0 A) (wsK h0 a cI cB S) [] 71 [.int k0] := by
  unfold wp_K_stage_71 at h
  exact j_iret C 21 rfl h
def wp_K_stage_110 (K : Int32 → St → Prop) (S : St) (k0 : Int32) : Prop := K k0 S
set_option maxHeartbeats 4000000 in
set_option maxRecDepth 100000 in
theorem L_K_stage_110 {p : Program} {l : Launch} {e : Env} {s : State} {m : MethodId} {args : Array Value} {below : List Frame} {meth : Method} {c : Code} {A : Nat → Prop} {D : va_G} {h0 : Nat} {a : Nat → Nat} {cI cB : ClassId} {K : Int32 → St → Prop} (C : CX p rm_K_stage s m args meth c b_K_stage 2 "PipelinedCore" (some .int) pr_K_stage D clK (tysK cI cB) A) (S : St) (k0 : Int32) (h : wp_K_stage_110 K S k0) : J p l e rm_K_stage s m args below meth c 2 D clK A 0 0 (MQ below (va_Qi K (fun u t => QK D clK (tysK cI cB) A (wsK h0 a cI cB u) t) A) args s 0 0 A) (wsK h0 a cI cB S) [] 110 [.int k0] := by
  unfold wp_K_stage_110 at h
  exact j_iret C 40 rfl h
def wp_K_stage_109 (K : Int32 → St → Prop) (S : St)  : Prop := (wp_K_stage_110 K S (-1))
set_option maxHeartbeats 4000000 in
set_option maxRecDepth 100000 in
theorem L_K_stage_109 {p : Program} {l : Launch} {e : Env} {s : State} {m : MethodId} {args : Array Value} {below : List Frame} {meth : Method} {c : Code} {A : Nat → Prop} {D : va_G} {h0 : Nat} {a : Nat → Nat} {cI cB : ClassId} {K : Int32 → St → Prop} (C : CX p rm_K_stage s m args meth c b_K_stage 2 "PipelinedCore" (some .int) pr_K_stage D clK (tysK cI cB) A) (S : St)  (h : wp_K_stage_109 K S) : J p l e rm_K_stage s m args below meth c 2 D clK A 0 0 (MQ below (va_Qi K (fun u t => QK D clK (tysK cI cB) A (wsK h0 a cI cB u) t) A) args s 0 0 A) (wsK h0 a cI cB S) [] 109 [] := by
  unfold wp_K_stage_109 at h
  refine j_iconst C 39 110 rfl rfl kI_m1 ?_
  exact L_K_stage_110 C S (-1) h
def wp_K_stage (S : St) (p1 : Int32) (K : Int32 → St → Prop) : Prop := (if p1 = 2 then ((if (S 16 0) = 0 then ((wp_K_stage_49 K S (-1))) else ((wp_K_stage_49 K S (S 16 1))))) else (if p1 = 3 then ((if (S 17 0) = 0 then ((wp_K_stage_71 K S (-1))) else ((wp_K_stage_71 K S (S 17 1))))) else (if p1 = 4 then (wp_His_has S 0 (fun r5 S4 => ((if r5 = 0 then ((wp_K_stage_109 K S4)) else (wp_His_time S4 0 (fun r8 S7 => ((if r8 = (S7 0 10) then (wp_His_address S7 0 (fun r11 S10 => ((wp_K_stage_110 K S10 r11)))) else ((wp_K_stage_109 K S7)))))))))) else (K (-1) S))))
set_option maxHeartbeats 4000000 in
set_option maxRecDepth 100000 in
theorem c_K_stage (l : Launch) (D : va_G) (h0 : Nat) (a : Nat → Nat) (cI cB : ClassId) (S : St) (p1 : Int32) (K : Int32 → St → Prop) (h : wp_K_stage S p1 K) (sz : Nat) : Met l y_K_stage (Cond.code y_K_stage b_K_stage 2 (some .int) :: gw) rm_K_stage (va_Pc [.ref h0, .int p1] (PK D clK (tysK cI cB) (wsK h0 a cI cB S) sz)) (va_Qi K (fun u t => QK D clK (tysK cI cB) (va_A (wsK h0 a cI cB S) sz) (wsK h0 a cI cB u) t) (va_A (wsK h0 a cI cB S) sz)) 0 0 (va_A (wsK h0 a cI cB S) sz) := by
  refine met_of (rm := rm_K_stage) (pr := pr_K_stage) (Qc := fun A => va_Qi K (fun u t => QK D clK (tysK cI cB) A (wsK h0 a cI cB u) t) A) (by decide +kernel) dm_K_stage (Nat.le_of_ble_eq_true rfl) (fun p e s m args below meth c A C => ?_) sz
  unfold wp_K_stage at h
  show J p l e rm_K_stage s m args below meth c 2 D clK A 0 0 _ (wsK h0 a cI cB S) [(0, .ref h0), (1, .int p1)] 0 []
  refine j_iload_n C 0 1 rfl rfl rfl 1 rfl ?_
  refine j_table C 1 rfl [(2, 28), (3, 50), (4, 72)] 111 (by decide +kernel) (by decide) (by decide) (swP_c (fun c1_0 => ?_) (fun nc1_0 => swP_c (fun c1_1 => ?_) (fun nc1_1 => swP_c (fun c1_2 => ?_) (fun nc1_2 => swP_n ?_))))
  · replace h := ite_t h c1_0
    refine j_aload_n C 2 29 rfl rfl rfl 0 rfl ?_
    refine j_get C 3 32 rfl rfl fg_K_54 0 rfl rfl ?_
    refine j_get C 4 35 rfl rfl fg_K_111 18 rfl rfl ?_
    refine j_if_eq C 5 48 38 rfl (by decide) rfl (fun c2 => ?_) (fun c2 => ?_)
    · replace h := ite_t h c2
      refine j_iconst C 10 49 rfl rfl kI_m1 ?_
      refine j_sub [] rfl ?_
      exact L_K_stage_49 C S (-1) h
    · replace h := ite_f h c2
      refine j_aload_n C 6 39 rfl rfl rfl 0 rfl ?_
      refine j_get C 7 42 rfl rfl fg_K_54 0 rfl rfl ?_
      refine j_get C 8 45 rfl rfl fg_K_115 18 rfl rfl ?_
      refine j_goto C 9 49 rfl (by decide) ?_
      refine j_sub [] rfl ?_
      exact L_K_stage_49 C S (S 16 1) h
  · replace h := ite_t (ite_f h nc1_0) c1_1
    refine j_aload_n C 12 51 rfl rfl rfl 0 rfl ?_
    refine j_get C 13 54 rfl rfl fg_K_58 0 rfl rfl ?_
    refine j_get C 14 57 rfl rfl fg_K_111 19 rfl rfl ?_
    refine j_if_eq C 15 70 60 rfl (by decide) rfl (fun c3 => ?_) (fun c3 => ?_)
    · replace h := ite_t h c3
      refine j_iconst C 20 71 rfl rfl kI_m1 ?_
      refine j_sub [] rfl ?_
      exact L_K_stage_71 C S (-1) h
    · replace h := ite_f h c3
      refine j_aload_n C 16 61 rfl rfl rfl 0 rfl ?_
      refine j_get C 17 64 rfl rfl fg_K_58 0 rfl rfl ?_
      refine j_get C 18 67 rfl rfl fg_K_115 19 rfl rfl ?_
      refine j_goto C 19 71 rfl (by decide) ?_
      refine j_sub [] rfl ?_
      exact L_K_stage_71 C S (S 17 1) h
  · replace h := ite_t (ite_f (ite_f h nc1_0) nc1_1) c1_2
    refine j_aload_n C 22 73 rfl rfl rfl 0 rfl ?_
    refine j_get C 23 76 rfl rfl fg_K_40 0 rfl rfl ?_
    refine j_iconst C 24 77 rfl rfl kI_0 ?_
    refine j_callVi C 25 80 rfl rfl w577 m_His_has (As := [.int 0]) (c_His_has l D h0 a cI cB S 0 _ h) ⟨rfl, rfl⟩ ⟨Nat.le_of_ble_eq_true rfl, Nat.le_of_ble_eq_true rfl⟩ 14 rfl rfl rfl ⟨Nat.le_of_ble_eq_true rfl, Nat.le_of_ble_eq_true rfl⟩ (Nat.le_of_ble_eq_true rfl) rfl (fun r5 S4 h => ?_)
    refine j_if_eq C 26 109 83 rfl (by decide) rfl (fun c6 => ?_) (fun c6 => ?_)
    · replace h := ite_t h c6
      refine j_sub [] rfl ?_
      exact L_K_stage_109 C S4 h
    · replace h := ite_f h c6
      refine j_aload_n C 27 84 rfl rfl rfl 0 rfl ?_
      refine j_get C 28 87 rfl rfl fg_K_40 0 rfl rfl ?_
      refine j_iconst C 29 88 rfl rfl kI_0 ?_
      refine j_callVi C 30 91 rfl rfl w589 m_His_time (As := [.int 0]) (c_His_time l D h0 a cI cB S4 0 _ h) ⟨rfl, rfl⟩ ⟨Nat.le_of_ble_eq_true rfl, Nat.le_of_ble_eq_true rfl⟩ 14 rfl rfl rfl ⟨Nat.le_of_ble_eq_true rfl, Nat.le_of_ble_eq_true rfl⟩ (Nat.le_of_ble_eq_true rfl) rfl (fun r8 S7 h => ?_)
      refine j_aload_n C 31 92 rfl rfl rfl 0 rfl ?_
      refine j_get C 32 95 rfl rfl fg_K_70 0 rfl rfl ?_
      refine j_icmp_ne C 33 109 98 rfl (by decide) rfl (fun c9 => ?_) (fun c9 => ?_)
      · replace h := ite_f h c9
        refine j_sub [] rfl ?_
        exact L_K_stage_109 C S7 h
      · replace h := ite_t h c9
        refine j_aload_n C 34 99 rfl rfl rfl 0 rfl ?_
        refine j_get C 35 102 rfl rfl fg_K_40 0 rfl rfl ?_
        refine j_iconst C 36 103 rfl rfl kI_0 ?_
        refine j_callVi C 37 106 rfl rfl w581 m_His_address (As := [.int 0]) (c_His_address l D h0 a cI cB S7 0 _ h) ⟨rfl, rfl⟩ ⟨Nat.le_of_ble_eq_true rfl, Nat.le_of_ble_eq_true rfl⟩ 14 rfl rfl rfl ⟨Nat.le_of_ble_eq_true rfl, Nat.le_of_ble_eq_true rfl⟩ (Nat.le_of_ble_eq_true rfl) rfl (fun r11 S10 h => ?_)
        refine j_goto C 38 110 rfl (by decide) ?_
        refine j_sub [] rfl ?_
        exact L_K_stage_110 C S10 r11 h
  · replace h := (ite_f (ite_f (ite_f h nc1_0) nc1_1) nc1_2)
    refine j_iconst C 41 112 rfl rfl kI_m1 ?_
    exact j_iret C 42 rfl h
abbrev rm_K_foretold : Room := { frames := 2, cells := 0, slots := 0, locals := 45 }
def wp_K_foretold (S : St) (p1 : Int32) (K : Int32 → St → Prop) : Prop := wp_For_foretell S p1 ((S 0 10) + (1 : Int32)) (fun r2 S1 => (K r2 S1))
set_option maxHeartbeats 4000000 in
set_option maxRecDepth 100000 in
theorem c_K_foretold (l : Launch) (D : va_G) (h0 : Nat) (a : Nat → Nat) (cI cB : ClassId) (S : St) (p1 : Int32) (K : Int32 → St → Prop) (h : wp_K_foretold S p1 K) (sz : Nat) : Met l y_K_foretold (Cond.code y_K_foretold b_K_foretold 2 (some .int) :: gw) rm_K_foretold (va_Pc [.ref h0, .int p1] (PK D clK (tysK cI cB) (wsK h0 a cI cB S) sz)) (va_Qi K (fun u t => QK D clK (tysK cI cB) (va_A (wsK h0 a cI cB S) sz) (wsK h0 a cI cB u) t) (va_A (wsK h0 a cI cB S) sz)) 0 0 (va_A (wsK h0 a cI cB S) sz) := by
  refine met_of (rm := rm_K_foretold) (pr := pr_K_foretold) (Qc := fun A => va_Qi K (fun u t => QK D clK (tysK cI cB) A (wsK h0 a cI cB u) t) A) (by decide +kernel) dm_K_foretold (Nat.le_of_ble_eq_true rfl) (fun p e s m args below meth c A C => ?_) sz
  unfold wp_K_foretold at h
  show J p l e rm_K_foretold s m args below meth c 2 D clK A 0 0 _ (wsK h0 a cI cB S) [(0, .ref h0), (1, .int p1)] 0 []
  refine j_aload_n C 0 1 rfl rfl rfl 0 rfl ?_
  refine j_get C 1 4 rfl rfl fg_K_33 0 rfl rfl ?_
  refine j_iload_n C 2 5 rfl rfl rfl 1 rfl ?_
  refine j_aload_n C 3 6 rfl rfl rfl 0 rfl ?_
  refine j_get C 4 9 rfl rfl fg_K_70 0 rfl rfl ?_
  refine j_iconst C 5 10 rfl rfl kI_1 ?_
  refine j_iadd C 6 11 rfl rfl ?_
  refine j_callVi C 7 14 rfl rfl w353 m_For_foretell (As := [.int p1, .int ((S 0 10) + (1 : Int32))]) (c_For_foretell l D h0 a cI cB S p1 ((S 0 10) + (1 : Int32)) _ h) ⟨rfl, rfl⟩ ⟨Nat.le_of_ble_eq_true rfl, Nat.le_of_ble_eq_true rfl⟩ 9 rfl rfl rfl ⟨Nat.le_of_ble_eq_true rfl, Nat.le_of_ble_eq_true rfl⟩ (Nat.le_of_ble_eq_true rfl) rfl (fun r2 S1 h => ?_)
  exact j_iret C 8 rfl h
abbrev rm_K_figure : Room := { frames := 0, cells := 0, slots := 0, locals := 0 }
def wp_K_figure (S : St) (p1 : Int32) (K : Int32 → St → Prop) : Prop := (if p1 = 0 then (K (S 0 10) S) else (if p1 = 1 then (K (S 12 2) S) else (if p1 = 2 then (K (S 0 13) S) else (if p1 = 3 then (K (S 0 14) S) else (if p1 = 4 then (K (S 0 15) S) else (if p1 = 5 then (K (S 0 16) S) else (K (-1) S)))))))
set_option maxHeartbeats 4000000 in
set_option maxRecDepth 100000 in
theorem c_K_figure (l : Launch) (D : va_G) (h0 : Nat) (a : Nat → Nat) (cI cB : ClassId) (S : St) (p1 : Int32) (K : Int32 → St → Prop) (h : wp_K_figure S p1 K) (sz : Nat) : Met l y_K_figure (Cond.code y_K_figure b_K_figure 2 (some .int) :: gw) rm_K_figure (va_Pc [.ref h0, .int p1] (PK D clK (tysK cI cB) (wsK h0 a cI cB S) sz)) (va_Qi K (fun u t => QK D clK (tysK cI cB) (va_A (wsK h0 a cI cB S) sz) (wsK h0 a cI cB u) t) (va_A (wsK h0 a cI cB S) sz)) 0 0 (va_A (wsK h0 a cI cB S) sz) := by
  refine met_of (rm := rm_K_figure) (pr := pr_K_figure) (Qc := fun A => va_Qi K (fun u t => QK D clK (tysK cI cB) A (wsK h0 a cI cB u) t) A) (by decide +kernel) dm_K_figure (Nat.le_of_ble_eq_true rfl) (fun p e s m args below meth c A C => ?_) sz
  unfold wp_K_figure at h
  show J p l e rm_K_figure s m args below meth c 2 D clK A 0 0 _ (wsK h0 a cI cB S) [(0, .ref h0), (1, .int p1)] 0 []
  refine j_iload_n C 0 1 rfl rfl rfl 1 rfl ?_
  refine j_table C 1 rfl [(0, 40), (1, 45), (2, 53), (3, 58), (4, 63), (5, 68)] 73 (by decide +kernel) (by decide) (by decide) (swP_c (fun c1_0 => ?_) (fun nc1_0 => swP_c (fun c1_1 => ?_) (fun nc1_1 => swP_c (fun c1_2 => ?_) (fun nc1_2 => swP_c (fun c1_3 => ?_) (fun nc1_3 => swP_c (fun c1_4 => ?_) (fun nc1_4 => swP_c (fun c1_5 => ?_) (fun nc1_5 => swP_n ?_)))))))
  · replace h := ite_t h c1_0
    refine j_aload_n C 2 41 rfl rfl rfl 0 rfl ?_
    refine j_get C 3 44 rfl rfl fg_K_70 0 rfl rfl ?_
    exact j_iret C 4 rfl h
  · replace h := ite_t (ite_f h nc1_0) c1_1
    refine j_aload_n C 5 46 rfl rfl rfl 0 rfl ?_
    refine j_get C 6 49 rfl rfl fg_K_40 0 rfl rfl ?_
    refine j_get C 7 52 rfl rfl fg_K_89 14 rfl rfl ?_
    exact j_iret C 8 rfl h
  · replace h := ite_t (ite_f (ite_f h nc1_0) nc1_1) c1_2
    refine j_aload_n C 9 54 rfl rfl rfl 0 rfl ?_
    refine j_get C 10 57 rfl rfl fg_K_121 0 rfl rfl ?_
    exact j_iret C 11 rfl h
  · replace h := ite_t (ite_f (ite_f (ite_f h nc1_0) nc1_1) nc1_2) c1_3
    refine j_aload_n C 12 59 rfl rfl rfl 0 rfl ?_
    refine j_get C 13 62 rfl rfl fg_K_124 0 rfl rfl ?_
    exact j_iret C 14 rfl h
  · replace h := ite_t (ite_f (ite_f (ite_f (ite_f h nc1_0) nc1_1) nc1_2) nc1_3) c1_4
    refine j_aload_n C 15 64 rfl rfl rfl 0 rfl ?_
    refine j_get C 16 67 rfl rfl fg_K_127 0 rfl rfl ?_
    exact j_iret C 17 rfl h
  · replace h := ite_t (ite_f (ite_f (ite_f (ite_f (ite_f h nc1_0) nc1_1) nc1_2) nc1_3) nc1_4) c1_5
    refine j_aload_n C 18 69 rfl rfl rfl 0 rfl ?_
    refine j_get C 19 72 rfl rfl fg_K_130 0 rfl rfl ?_
    exact j_iret C 20 rfl h
  · replace h := (ite_f (ite_f (ite_f (ite_f (ite_f (ite_f h nc1_0) nc1_1) nc1_2) nc1_3) nc1_4) nc1_5)
    refine j_iconst C 21 74 rfl rfl kI_m1 ?_
    exact j_iret C 22 rfl h
