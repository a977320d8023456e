/-! the state of a module: rows of ints -/
abbrev St : Type := Nat → Nat → Int32
def st (S : St) (i k : Nat) (v : Int32) : St := fun i' => if i' = i then upd (S i) k v else S i'
/-- a code's instructions, by their places -/
abbrev okAt (cc : ByteArray) (pr : List (Nat × Instr × Nat)) : Prop := ∀ q ∈ pr, decode cc q.1 = .ok (q.2.1, q.2.2)
theorem okAt_at {cc : ByteArray} {pr : List (Nat × Instr × Nat)} {i pc n : Nat} {g : Instr} (h : okAt cc pr) (hi : pr[i]? = some (pc, g, n)) : decode cc pc = .ok (g, n) := h (pc, g, n) (List.mem_of_getElem? hi)
def jushr (x y : Int32) : Int32 := (x.toUInt32 >>> (y.toUInt32 &&& Int32.toUInt32 31)).toInt32
def jrem (x y : Int32) : Int32 := x - x / y * y
def jlrem (x y : Int64) : Int64 := x - x / y * y
def jlshr (x : Int64) (y : Int32) : Int64 := x >>> (y.toInt64 &&& 63)
def jlushr (x : Int64) (y : Int32) : Int64 := (x.toUInt64 >>> (y.toInt64.toUInt64 &&& Int64.toUInt64 63)).toInt64
def jmax (x y : Int32) : Int32 := if x < y then y else x
def jmin (x y : Int32) : Int32 := if y < x then y else x
def isB (x : Int32) : Prop := x = 0 ∨ x = 1
theorem isB_nar {x : Int32} (h : isB x) : narrow .boolean (.int x) = .int x := by
  rcases h with rfl | rfl <;> decide +kernel
theorem isB_fit {x : Int32} (h : isB x) : fits .boolean (.int x) = true := by
  rcases h with rfl | rfl <;> decide +kernel
theorem isB_0 : isB 0 := Or.inl rfl
theorem isB_1 : isB 1 := Or.inr rfl
/-- a field's link, for reading -/
def fg (cl : List vw_C) (own : String) (index ci k : Nat) : Prop := ∃ (Cn : String) (T : u_T) (N : Nat), cl[ci]? = some (Cn, T, N) ∧ (∀ w ∈ u_ws Cn T N, w ∈ gw) ∧ k < N ∧ Cond.fieldLink own index (T k).1 (T k).2.1 (T k).2.2.1 ∈ gw
/-- a field's link, for writing -/
def fp (cl : List vw_C) (own : String) (index ci k : Nat) (ty : FieldType) : Prop := ∃ (Cn : String) (T : u_T) (N : Nat) (ty0 : Nat → FieldType), cl[ci]? = some (Cn, T, N) ∧ (∀ w ∈ u_ws Cn T N, w ∈ gw) ∧ k < N ∧ Cond.fieldLink own index (T k).1 (T k).2.1 (T k).2.2.1 ∈ gw ∧ (∀ k, k < N → parseFieldDescriptor (T k).2.2.1 = some (ty0 k)) ∧ (∀ a, a < N → ∀ b, b < N → a ≠ b → (T a).2.1 ≠ (T b).2.1) ∧ (T k).2.2.2 = false ∧ parseFieldDescriptor (T k).2.2.1 = some ty
/-- what a call needs of a method with a receiver, of one without -/
def mI (y : MethodName) (bytes : ByteArray) (maxL : Nat) (ret : Option FieldType) (n : Nat) : Prop := Cond.instanceMethod y ∈ gw ∧ Cond.selects y.cls y y ∈ gw ∧ Cond.initialized y.cls ∈ gw ∧ Cond.code y bytes maxL ret ∈ gw ∧ y.cls ≠ "java/lang/invoke/MethodHandle" ∧ y.cls ≠ "java/lang/invoke/VarHandle" ∧ (parseMethodDescriptor y.desc).map (fun d => d.parameters.length) = some n
def mS (y : MethodName) (bytes : ByteArray) (maxL : Nat) (ret : Option FieldType) (n : Nat) : Prop := Cond.static y ∈ gw ∧ Cond.initialized y.cls ∈ gw ∧ Cond.code y bytes maxL ret ∈ gw ∧ y.cls ≠ "java/lang/invoke/MethodHandle" ∧ y.cls ≠ "java/lang/invoke/VarHandle" ∧ (parseMethodDescriptor y.desc).map (fun d => d.parameters.length) = some n
theorem gw_code {y : MethodName} {bytes : ByteArray} {maxL : Nat} {ret : Option FieldType} (h : Cond.code y bytes maxL ret ∈ gw) : GoodIn gw (Cond.code y bytes maxL ret :: gw) := fun w hw => by
  have hw' : w ∈ gw := by
    rcases List.mem_cons.mp hw with e | e
    · rw [e]; exact h
    · exact e
  exact ⟨hw', good_of_word (List.mem_filter.mp hw').2⟩
/-- a contract's start and end over a world -/
def PK (D : va_G) (cl : List vw_C) (tys : List (ClassId × FieldType)) (ws : va_W) (sz : Nat) (U : State) : Prop := U.heap.size = sz ∧ va_P D cl ws U.heap ∧ va_K D cl tys U ∧ va_D (fun _ => True) ws
def QK (D : va_G) (cl : List vw_C) (tys : List (ClassId × FieldType)) (A : Nat → Prop) (ws : va_W) (t : State) : Prop := va_P D cl ws t.heap ∧ va_K D cl tys t ∧ va_D A ws
/-- a switch by keys -/
def swP (x : Int32) (P : Nat → Prop) (d : Nat) : List (Int32 × Nat) → Prop
  | [] => P d
  | q :: r => (x = q.1 → P q.2) ∧ (¬ x = q.1 → swP x P d r)
theorem swP_off {x : Int32} {P : Nat → Prop} {d pc : Nat} {dflt : Int} (hd : (pc : Int) + dflt = (d : Int)) : ∀ (ks : List (Int32 × Nat)), swP x P d ks → ∃ t : Nat, P t ∧ (pc : Int) + Op.lookupswitch.offset (ks.map fun q => (q.1.toInt, (q.2 : Int) - (pc : Int))) dflt x.toInt = (t : Int)
  | [], h => ⟨d, h, hd⟩
  | q :: r, h => by
    by_cases c : x = q.1
    · refine ⟨q.2, h.1 c, ?_⟩
      rw [List.map_cons, Op.lookupswitch.offset_cons, if_pos (by rw [c])]
      omega
    · obtain ⟨t, h1, h2⟩ := swP_off hd r (h.2 c)
      refine ⟨t, h1, ?_⟩
      rw [List.map_cons, lv_osw c rfl]
      exact h2
theorem swP_case {x : Int32} {P : Nat → Prop} {d : Nat} : ∀ (ks : List (Int32 × Nat)), swP x P d ks → (∃ q ∈ ks, x = q.1 ∧ P q.2) ∨ ((∀ q ∈ ks, ¬ x = q.1) ∧ P d)
  | [], h => Or.inr ⟨fun _ h => absurd h List.not_mem_nil, h⟩
  | q :: r, h => by
    by_cases c : x = q.1
    · exact Or.inl ⟨q, List.mem_cons_self, c, h.1 c⟩
    · rcases swP_case r (h.2 c) with ⟨q', h1, h2⟩ | ⟨h1, h2⟩
      · exact Or.inl ⟨q', List.mem_cons_of_mem _ h1, h2⟩
      · refine Or.inr ⟨fun q' hq => ?_, h2⟩
        rcases List.mem_cons.mp hq with rfl | hq
        · exact c
        · exact h1 q' hq
section JR
variable {p : Program} {l : Launch} {e : Env} {R : Room} {s : State} {m : MethodId} {args : Array Value} {below : List Frame} {meth : Method} {c : Code} {Q : State → Prop} {cc : ByteArray} {nL : Nat} {own : String} {ret : Option FieldType} {pr : List (Nat × Instr × Nat)} {D : va_G} {cl : List vw_C} {tys : List (ClassId × FieldType)} {A : Nat → Prop} {kc ks : Nat} {ws : va_W} {lv : List (Nat × Value)} {pc : Nat} {rs : List Value}
/-- the fixed things of a walk -/
def CX (p : Program) (R : Room) (s : State) (m : MethodId) (args : Array Value) (meth : Method) (c : Code) (cc : ByteArray) (nL : Nat) (own : String) (ret : Option FieldType) (pr : List (Nat × Instr × Nat)) (D : va_G) (cl : List vw_C) (tys : List (ClassId × FieldType)) (A : Nat → Prop) : Prop :=
  CallFix p m c cc nL s args gw own ∧ va_K D cl tys s ∧ (∀ q, s.heap.size ≤ q → A q) ∧ okAt cc pr ∧ meth.sig.returnType = ret ∧ meth.locks = false
/-- the machine comes from here to Q, whatever heap holds the world, whatever frame holds the numbers -/
def J (p : Program) (l : Launch) (e : Env) (R : Room) (s : State) (m : MethodId) (args : Array Value) (below : List Frame) (meth : Method) (c : Code) (nL : Nat) (D : va_G) (cl : List vw_C) (A : Nat → Prop) (kc ks : Nat) (Q : State → Prop) (ws : va_W) (lv : List (Nat × Value)) (pc : Nat) (rs : List Value) : Prop :=
  ∀ (H : Heap) (locs : List Loc) (ls : Array Slot), va_P D cl ws H → va_D A ws → va_S A s.heap H locs → lv_has ls nL lv → W p l e R s m args below meth c H locs kc ks Q (F0 m pc ls rs)
theorem j_iadd (C : CX p R s m args meth c cc nL own ret pr D cl tys A) (i n : Nat) {x y : Int32} (hi : pr[i]? = some (pc, .iadd, 1)) (hn : pc + 1 = n)  (k : J p l e R s m args below meth c nL D cl A kc ks Q ws lv n (.int (x + y) :: rs)) : J p l e R s m args below meth c nL D cl A kc ks Q ws lv pc (.int y :: .int x :: rs) := by
  subst hn
  intro H locs ls hP hD hS hl
  exact lv_iadd C.1.1 C.1.2.1 (okAt_at C.2.2.2.1 hi) (k H locs ls hP hD hS hl)
theorem j_isub (C : CX p R s m args meth c cc nL own ret pr D cl tys A) (i n : Nat) {x y : Int32} (hi : pr[i]? = some (pc, .isub, 1)) (hn : pc + 1 = n)  (k : J p l e R s m args below meth c nL D cl A kc ks Q ws lv n (.int (x - y) :: rs)) : J p l e R s m args below meth c nL D cl A kc ks Q ws lv pc (.int y :: .int x :: rs) := by
  subst hn
  intro H locs ls hP hD hS hl
  exact lv_isub C.1.1 C.1.2.1 (okAt_at C.2.2.2.1 hi) (k H locs ls hP hD hS hl)
theorem j_imul (C : CX p R s m args meth c cc nL own ret pr D cl tys A) (i n : Nat) {x y : Int32} (hi : pr[i]? = some (pc, .imul, 1)) (hn : pc + 1 = n)  (k : J p l e R s m args below meth c nL D cl A kc ks Q ws lv n (.int (x * y) :: rs)) : J p l e R s m args below meth c nL D cl A kc ks Q ws lv pc (.int y :: .int x :: rs) := by
  subst hn
  intro H locs ls hP hD hS hl
  exact lv_imul C.1.1 C.1.2.1 (okAt_at C.2.2.2.1 hi) (k H locs ls hP hD hS hl)
theorem j_iand (C : CX p R s m args meth c cc nL own ret pr D cl tys A) (i n : Nat) {x y : Int32} (hi : pr[i]? = some (pc, .iand, 1)) (hn : pc + 1 = n)  (k : J p l e R s m args below meth c nL D cl A kc ks Q ws lv n (.int (x &&& y) :: rs)) : J p l e R s m args below meth c nL D cl A kc ks Q ws lv pc (.int y :: .int x :: rs) := by
  subst hn
  intro H locs ls hP hD hS hl
  exact lv_iand C.1.1 C.1.2.1 (okAt_at C.2.2.2.1 hi) (k H locs ls hP hD hS hl)
theorem j_ior (C : CX p R s m args meth c cc nL own ret pr D cl tys A) (i n : Nat) {x y : Int32} (hi : pr[i]? = some (pc, .ior, 1)) (hn : pc + 1 = n)  (k : J p l e R s m args below meth c nL D cl A kc ks Q ws lv n (.int (x ||| y) :: rs)) : J p l e R s m args below meth c nL D cl A kc ks Q ws lv pc (.int y :: .int x :: rs) := by
  subst hn
  intro H locs ls hP hD hS hl
  exact lv_ior C.1.1 C.1.2.1 (okAt_at C.2.2.2.1 hi) (k H locs ls hP hD hS hl)
theorem j_ixor (C : CX p R s m args meth c cc nL own ret pr D cl tys A) (i n : Nat) {x y : Int32} (hi : pr[i]? = some (pc, .ixor, 1)) (hn : pc + 1 = n)  (k : J p l e R s m args below meth c nL D cl A kc ks Q ws lv n (.int (x ^^^ y) :: rs)) : J p l e R s m args below meth c nL D cl A kc ks Q ws lv pc (.int y :: .int x :: rs) := by
  subst hn
  intro H locs ls hP hD hS hl
  exact lv_ixor C.1.1 C.1.2.1 (okAt_at C.2.2.2.1 hi) (k H locs ls hP hD hS hl)
theorem j_ishl (C : CX p R s m args meth c cc nL own ret pr D cl tys A) (i n : Nat) {x y : Int32} (hi : pr[i]? = some (pc, .ishl, 1)) (hn : pc + 1 = n)  (k : J p l e R s m args below meth c nL D cl A kc ks Q ws lv n (.int (x <<< (y &&& 31)) :: rs)) : J p l e R s m args below meth c nL D cl A kc ks Q ws lv pc (.int y :: .int x :: rs) := by
  subst hn
  intro H locs ls hP hD hS hl
  exact lv_ishl C.1.1 C.1.2.1 (okAt_at C.2.2.2.1 hi) (k H locs ls hP hD hS hl)
theorem j_ishr (C : CX p R s m args meth c cc nL own ret pr D cl tys A) (i n : Nat) {x y : Int32} (hi : pr[i]? = some (pc, .ishr, 1)) (hn : pc + 1 = n)  (k : J p l e R s m args below meth c nL D cl A kc ks Q ws lv n (.int (x >>> (y &&& 31)) :: rs)) : J p l e R s m args below meth c nL D cl A kc ks Q ws lv pc (.int y :: .int x :: rs) := by
  subst hn
  intro H locs ls hP hD hS hl
  exact lv_ishr C.1.1 C.1.2.1 (okAt_at C.2.2.2.1 hi) (k H locs ls hP hD hS hl)
theorem j_iushr (C : CX p R s m args meth c cc nL own ret pr D cl tys A) (i n : Nat) {x y : Int32} (hi : pr[i]? = some (pc, .iushr, 1)) (hn : pc + 1 = n)  (k : J p l e R s m args below meth c nL D cl A kc ks Q ws lv n (.int (jushr x y) :: rs)) : J p l e R s m args below meth c nL D cl A kc ks Q ws lv pc (.int y :: .int x :: rs) := by
  subst hn
  intro H locs ls hP hD hS hl
  exact lv_iushr C.1.1 C.1.2.1 (okAt_at C.2.2.2.1 hi) rfl (k H locs ls hP hD hS hl)
theorem j_idiv (C : CX p R s m args meth c cc nL own ret pr D cl tys A) (i n : Nat) {x y : Int32} (hi : pr[i]? = some (pc, .idiv, 1)) (hn : pc + 1 = n) (h : ¬ y = 0) (k : J p l e R s m args below meth c nL D cl A kc ks Q ws lv n (.int (x / y) :: rs)) : J p l e R s m args below meth c nL D cl A kc ks Q ws lv pc (.int y :: .int x :: rs) := by
  subst hn
  intro H locs ls hP hD hS hl
  exact lv_idiv C.1.1 C.1.2.1 (okAt_at C.2.2.2.1 hi) h (k H locs ls hP hD hS hl)
theorem j_irem (C : CX p R s m args meth c cc nL own ret pr D cl tys A) (i n : Nat) {x y : Int32} (hi : pr[i]? = some (pc, .irem, 1)) (hn : pc + 1 = n) (h : ¬ y = 0) (k : J p l e R s m args below meth c nL D cl A kc ks Q ws lv n (.int (jrem x y) :: rs)) : J p l e R s m args below meth c nL D cl A kc ks Q ws lv pc (.int y :: .int x :: rs) := by
  subst hn
  intro H locs ls hP hD hS hl
  exact lv_irem C.1.1 C.1.2.1 (okAt_at C.2.2.2.1 hi) h (k H locs ls hP hD hS hl)
theorem j_ladd (C : CX p R s m args meth c cc nL own ret pr D cl tys A) (i n : Nat) {x y : Int64} (hi : pr[i]? = some (pc, .ladd, 1)) (hn : pc + 1 = n)  (k : J p l e R s m args below meth c nL D cl A kc ks Q ws lv n (.long (x + y) :: rs)) : J p l e R s m args below meth c nL D cl A kc ks Q ws lv pc (.long y :: .long x :: rs) := by
  subst hn
  intro H locs ls hP hD hS hl
  exact lv_ladd C.1.1 C.1.2.1 (okAt_at C.2.2.2.1 hi) (k H locs ls hP hD hS hl)
theorem j_lsub (C : CX p R s m args meth c cc nL own ret pr D cl tys A) (i n : Nat) {x y : Int64} (hi : pr[i]? = some (pc, .lsub, 1)) (hn : pc + 1 = n)  (k : J p l e R s m args below meth c nL D cl A kc ks Q ws lv n (.long (x - y) :: rs)) : J p l e R s m args below meth c nL D cl A kc ks Q ws lv pc (.long y :: .long x :: rs) := by
  subst hn
  intro H locs ls hP hD hS hl
  exact lv_lsub C.1.1 C.1.2.1 (okAt_at C.2.2.2.1 hi) (k H locs ls hP hD hS hl)
theorem j_lmul (C : CX p R s m args meth c cc nL own ret pr D cl tys A) (i n : Nat) {x y : Int64} (hi : pr[i]? = some (pc, .lmul, 1)) (hn : pc + 1 = n)  (k : J p l e R s m args below meth c nL D cl A kc ks Q ws lv n (.long (x * y) :: rs)) : J p l e R s m args below meth c nL D cl A kc ks Q ws lv pc (.long y :: .long x :: rs) := by
  subst hn
  intro H locs ls hP hD hS hl
  exact lv_lmul C.1.1 C.1.2.1 (okAt_at C.2.2.2.1 hi) (k H locs ls hP hD hS hl)
theorem j_land (C : CX p R s m args meth c cc nL own ret pr D cl tys A) (i n : Nat) {x y : Int64} (hi : pr[i]? = some (pc, .land, 1)) (hn : pc + 1 = n)  (k : J p l e R s m args below meth c nL D cl A kc ks Q ws lv n (.long (x &&& y) :: rs)) : J p l e R s m args below meth c nL D cl A kc ks Q ws lv pc (.long y :: .long x :: rs) := by
  subst hn
  intro H locs ls hP hD hS hl
  exact lv_land C.1.1 C.1.2.1 (okAt_at C.2.2.2.1 hi) (k H locs ls hP hD hS hl)
theorem j_lor (C : CX p R s m args meth c cc nL own ret pr D cl tys A) (i n : Nat) {x y : Int64} (hi : pr[i]? = some (pc, .lor, 1)) (hn : pc + 1 = n)  (k : J p l e R s m args below meth c nL D cl A kc ks Q ws lv n (.long (x ||| y) :: rs)) : J p l e R s m args below meth c nL D cl A kc ks Q ws lv pc (.long y :: .long x :: rs) := by
  subst hn
  intro H locs ls hP hD hS hl
  exact lv_lor C.1.1 C.1.2.1 (okAt_at C.2.2.2.1 hi) (k H locs ls hP hD hS hl)
theorem j_lxor (C : CX p R s m args meth c cc nL own ret pr D cl tys A) (i n : Nat) {x y : Int64} (hi : pr[i]? = some (pc, .lxor, 1)) (hn : pc + 1 = n)  (k : J p l e R s m args below meth c nL D cl A kc ks Q ws lv n (.long (x ^^^ y) :: rs)) : J p l e R s m args below meth c nL D cl A kc ks Q ws lv pc (.long y :: .long x :: rs) := by
  subst hn
  intro H locs ls hP hD hS hl
  exact lv_lxor C.1.1 C.1.2.1 (okAt_at C.2.2.2.1 hi) (k H locs ls hP hD hS hl)
theorem j_ldiv (C : CX p R s m args meth c cc nL own ret pr D cl tys A) (i n : Nat) {x y : Int64} (hi : pr[i]? = some (pc, .ldiv, 1)) (hn : pc + 1 = n) (h : ¬ y = 0) (k : J p l e R s m args below meth c nL D cl A kc ks Q ws lv n (.long (x / y) :: rs)) : J p l e R s m args below meth c nL D cl A kc ks Q ws lv pc (.long y :: .long x :: rs) := by
  subst hn
  intro H locs ls hP hD hS hl
  exact lv_ldiv C.1.1 C.1.2.1 (okAt_at C.2.2.2.1 hi) h (k H locs ls hP hD hS hl)
theorem j_lrem (C : CX p R s m args meth c cc nL own ret pr D cl tys A) (i n : Nat) {x y : Int64} (hi : pr[i]? = some (pc, .lrem, 1)) (hn : pc + 1 = n) (h : ¬ y = 0) (k : J p l e R s m args below meth c nL D cl A kc ks Q ws lv n (.long (jlrem x y) :: rs)) : J p l e R s m args below meth c nL D cl A kc ks Q ws lv pc (.long y :: .long x :: rs) := by
  subst hn
  intro H locs ls hP hD hS hl
  exact lv_lrem C.1.1 C.1.2.1 (okAt_at C.2.2.2.1 hi) h (k H locs ls hP hD hS hl)
theorem j_lshr (C : CX p R s m args meth c cc nL own ret pr D cl tys A) (i n : Nat) {x : Int64} {y : Int32} (hi : pr[i]? = some (pc, .lshr, 1)) (hn : pc + 1 = n)  (k : J p l e R s m args below meth c nL D cl A kc ks Q ws lv n (.long (jlshr x y) :: rs)) : J p l e R s m args below meth c nL D cl A kc ks Q ws lv pc (.int y :: .long x :: rs) := by
  subst hn
  intro H locs ls hP hD hS hl
  exact lv_lshr C.1.1 C.1.2.1 (okAt_at C.2.2.2.1 hi) rfl (k H locs ls hP hD hS hl)
theorem j_lushr (C : CX p R s m args meth c cc nL own ret pr D cl tys A) (i n : Nat) {x : Int64} {y : Int32} (hi : pr[i]? = some (pc, .lushr, 1)) (hn : pc + 1 = n)  (k : J p l e R s m args below meth c nL D cl A kc ks Q ws lv n (.long (jlushr x y) :: rs)) : J p l e R s m args below meth c nL D cl A kc ks Q ws lv pc (.int y :: .long x :: rs) := by
  subst hn
  intro H locs ls hP hD hS hl
  exact lv_lushr C.1.1 C.1.2.1 (okAt_at C.2.2.2.1 hi) rfl (k H locs ls hP hD hS hl)
theorem j_lcmp (C : CX p R s m args meth c cc nL own ret pr D cl tys A) (i n : Nat) {x y : Int64} (hi : pr[i]? = some (pc, .lcmp, 1)) (hn : pc + 1 = n)  (k : J p l e R s m args below meth c nL D cl A kc ks Q ws lv n (.int (lg_cmp x y) :: rs)) : J p l e R s m args below meth c nL D cl A kc ks Q ws lv pc (.long y :: .long x :: rs) := by
  subst hn
  intro H locs ls hP hD hS hl
  exact W.lcmp C.1.1 C.1.2.1 (okAt_at C.2.2.2.1 hi) (k H locs ls hP hD hS hl)
theorem j_i2l (C : CX p R s m args meth c cc nL own ret pr D cl tys A) (i n : Nat) {x : Int32} (hi : pr[i]? = some (pc, .i2l, 1)) (hn : pc + 1 = n)  (k : J p l e R s m args below meth c nL D cl A kc ks Q ws lv n (.long x.toInt64 :: rs)) : J p l e R s m args below meth c nL D cl A kc ks Q ws lv pc (.int x :: rs) := by
  subst hn
  intro H locs ls hP hD hS hl
  exact lv_i2l C.1.1 C.1.2.1 (okAt_at C.2.2.2.1 hi) rfl (k H locs ls hP hD hS hl)
theorem j_l2i (C : CX p R s m args meth c cc nL own ret pr D cl tys A) (i n : Nat) {x : Int64} (hi : pr[i]? = some (pc, .l2i, 1)) (hn : pc + 1 = n)  (k : J p l e R s m args below meth c nL D cl A kc ks Q ws lv n (.int x.toInt32 :: rs)) : J p l e R s m args below meth c nL D cl A kc ks Q ws lv pc (.long x :: rs) := by
  subst hn
  intro H locs ls hP hD hS hl
  exact lv_l2i C.1.1 C.1.2.1 (okAt_at C.2.2.2.1 hi) rfl (k H locs ls hP hD hS hl)
theorem j_i2b (C : CX p R s m args meth c cc nL own ret pr D cl tys A) (i n : Nat) {x : Int32} (hi : pr[i]? = some (pc, .i2b, 1)) (hn : pc + 1 = n)  (k : J p l e R s m args below meth c nL D cl A kc ks Q ws lv n (.int x.toInt8.toInt32 :: rs)) : J p l e R s m args below meth c nL D cl A kc ks Q ws lv pc (.int x :: rs) := by
  subst hn
  intro H locs ls hP hD hS hl
  exact lv_i2b C.1.1 C.1.2.1 (okAt_at C.2.2.2.1 hi) rfl (k H locs ls hP hD hS hl)
theorem j_i2s (C : CX p R s m args meth c cc nL own ret pr D cl tys A) (i n : Nat) {x : Int32} (hi : pr[i]? = some (pc, .i2s, 1)) (hn : pc + 1 = n)  (k : J p l e R s m args below meth c nL D cl A kc ks Q ws lv n (.int x.toInt16.toInt32 :: rs)) : J p l e R s m args below meth c nL D cl A kc ks Q ws lv pc (.int x :: rs) := by
  subst hn
  intro H locs ls hP hD hS hl
  exact lv_i2s C.1.1 C.1.2.1 (okAt_at C.2.2.2.1 hi) rfl (k H locs ls hP hD hS hl)
theorem j_iconst (C : CX p R s m args meth c cc nL own ret pr D cl tys A) (i n : Nat) {z : Int} {v : Int32} (hi : pr[i]? = some (pc, .iconst z, 1)) (hn : pc + 1 = n) (hv : Int32.ofInt z = v) (k : J p l e R s m args below meth c nL D cl A kc ks Q ws lv n (.int v :: rs)) : J p l e R s m args below meth c nL D cl A kc ks Q ws lv pc rs := by
  subst hn
  intro H locs ls hP hD hS hl
  exact lv_iconst C.1.1 C.1.2.1 (okAt_at C.2.2.2.1 hi) hv (k H locs ls hP hD hS hl)
theorem j_bipush (C : CX p R s m args meth c cc nL own ret pr D cl tys A) (i n : Nat) {z : Int} {v : Int32} (hi : pr[i]? = some (pc, .bipush z, 2)) (hn : pc + 2 = n) (hv : (Int8.ofInt z).toInt32 = v) (k : J p l e R s m args below meth c nL D cl A kc ks Q ws lv n (.int v :: rs)) : J p l e R s m args below meth c nL D cl A kc ks Q ws lv pc rs := by
  subst hn
  intro H locs ls hP hD hS hl
  exact lv_bipush C.1.1 C.1.2.1 (okAt_at C.2.2.2.1 hi) hv (k H locs ls hP hD hS hl)
theorem j_sipush (C : CX p R s m args meth c cc nL own ret pr D cl tys A) (i n : Nat) {z : Int} {v : Int32} (hi : pr[i]? = some (pc, .sipush z, 3)) (hn : pc + 3 = n) (hv : (Int16.ofInt z).toInt32 = v) (k : J p l e R s m args below meth c nL D cl A kc ks Q ws lv n (.int v :: rs)) : J p l e R s m args below meth c nL D cl A kc ks Q ws lv pc rs := by
  subst hn
  intro H locs ls hP hD hS hl
  exact lv_sipush C.1.1 C.1.2.1 (okAt_at C.2.2.2.1 hi) hv (k H locs ls hP hD hS hl)
theorem j_ldc (C : CX p R s m args meth c cc nL own ret pr D cl tys A) (i n : Nat) {x : Nat} {v : Int32} (hi : pr[i]? = some (pc, .ldc x, 2)) (hn : pc + 2 = n) (hv : Cond.constant own x v ∈ gw) (k : J p l e R s m args below meth c nL D cl A kc ks Q ws lv n (.int v :: rs)) : J p l e R s m args below meth c nL D cl A kc ks Q ws lv pc rs := by
  subst hn
  intro H locs ls hP hD hS hl
  exact lv_ldc C.1.1 C.1.2.1 C.1.2.2.2.1 (C.1.2.2.2.2 _ hv) (okAt_at C.2.2.2.1 hi) (k H locs ls hP hD hS hl)
theorem j_ldc_w (C : CX p R s m args meth c cc nL own ret pr D cl tys A) (i n : Nat) {x : Nat} {v : Int32} (hi : pr[i]? = some (pc, .ldc_w x, 3)) (hn : pc + 3 = n) (hv : Cond.constant own x v ∈ gw) (k : J p l e R s m args below meth c nL D cl A kc ks Q ws lv n (.int v :: rs)) : J p l e R s m args below meth c nL D cl A kc ks Q ws lv pc rs := by
  subst hn
  intro H locs ls hP hD hS hl
  exact lv_ldcw C.1.1 C.1.2.1 C.1.2.2.2.1 (C.1.2.2.2.2 _ hv) (okAt_at C.2.2.2.1 hi) (k H locs ls hP hD hS hl)
theorem j_ldc2_w (C : CX p R s m args meth c cc nL own ret pr D cl tys A) (i n : Nat) {x : Nat} {v : Int64} (hi : pr[i]? = some (pc, .ldc2_w x, 3)) (hn : pc + 3 = n) (hv : Cond.constantLong own x v ∈ gw) (k : J p l e R s m args below meth c nL D cl A kc ks Q ws lv n (.long v :: rs)) : J p l e R s m args below meth c nL D cl A kc ks Q ws lv pc rs := by
  subst hn
  intro H locs ls hP hD hS hl
  exact lv_ldc2 C.1.1 C.1.2.1 C.1.2.2.2.1 (C.1.2.2.2.2 _ hv) (okAt_at C.2.2.2.1 hi) (k H locs ls hP hD hS hl)
theorem j_iload_n (C : CX p R s m args meth c cc nL own ret pr D cl tys A) (i n : Nat) {t : Fin 4} {j : Nat} {x : Int32} (hi : pr[i]? = some (pc, .iload_n t, 1)) (hn : pc + 1 = n) (hj : (t : Nat) = j) (q : Nat) (hq : lv[q]? = some (j, .int x)) (k : J p l e R s m args below meth c nL D cl A kc ks Q ws lv n (.int x :: rs)) : J p l e R s m args below meth c nL D cl A kc ks Q ws lv pc rs := by
  subst hn
  intro H locs ls hP hD hS hl
  exact lv_iload_n C.1.1 C.1.2.1 (okAt_at C.2.2.2.1 hi) hj (lv_at hl q hq) (k H locs ls hP hD hS hl)
theorem j_iload (C : CX p R s m args meth c cc nL own ret pr D cl tys A) (i n : Nat) {j : Nat} {x : Int32} (hi : pr[i]? = some (pc, .iload j, 2)) (hn : pc + 2 = n) (q : Nat) (hq : lv[q]? = some (j, .int x)) (k : J p l e R s m args below meth c nL D cl A kc ks Q ws lv n (.int x :: rs)) : J p l e R s m args below meth c nL D cl A kc ks Q ws lv pc rs := by
  subst hn
  intro H locs ls hP hD hS hl
  exact lv_iload C.1.1 C.1.2.1 (okAt_at C.2.2.2.1 hi) (lv_at hl q hq) (k H locs ls hP hD hS hl)
theorem j_lload_n (C : CX p R s m args meth c cc nL own ret pr D cl tys A) (i n : Nat) {t : Fin 4} {j : Nat} {x : Int64} (hi : pr[i]? = some (pc, .lload_n t, 1)) (hn : pc + 1 = n) (hj : (t : Nat) = j) (q : Nat) (hq : lv[q]? = some (j, .long x)) (k : J p l e R s m args below meth c nL D cl A kc ks Q ws lv n (.long x :: rs)) : J p l e R s m args below meth c nL D cl A kc ks Q ws lv pc rs := by
  subst hn
  intro H locs ls hP hD hS hl
  exact lv_lload_n C.1.1 C.1.2.1 (okAt_at C.2.2.2.1 hi) hj (lv_at hl q hq) (k H locs ls hP hD hS hl)
theorem j_lload (C : CX p R s m args meth c cc nL own ret pr D cl tys A) (i n : Nat) {j : Nat} {x : Int64} (hi : pr[i]? = some (pc, .lload j, 2)) (hn : pc + 2 = n) (q : Nat) (hq : lv[q]? = some (j, .long x)) (k : J p l e R s m args below meth c nL D cl A kc ks Q ws lv n (.long x :: rs)) : J p l e R s m args below meth c nL D cl A kc ks Q ws lv pc rs := by
  subst hn
  intro H locs ls hP hD hS hl
  exact lv_lload C.1.1 C.1.2.1 (okAt_at C.2.2.2.1 hi) (lv_at hl q hq) (k H locs ls hP hD hS hl)
theorem j_aload_n (C : CX p R s m args meth c cc nL own ret pr D cl tys A) (i n : Nat) {t : Fin 4} {j : Nat} {x : Nat} (hi : pr[i]? = some (pc, .aload_n t, 1)) (hn : pc + 1 = n) (hj : (t : Nat) = j) (q : Nat) (hq : lv[q]? = some (j, .ref x)) (k : J p l e R s m args below meth c nL D cl A kc ks Q ws lv n (.ref x :: rs)) : J p l e R s m args below meth c nL D cl A kc ks Q ws lv pc rs := by
  subst hn
  intro H locs ls hP hD hS hl
  exact lv_aload_n C.1.1 C.1.2.1 (okAt_at C.2.2.2.1 hi) hj (lv_at hl q hq) (k H locs ls hP hD hS hl)
theorem j_aload (C : CX p R s m args meth c cc nL own ret pr D cl tys A) (i n : Nat) {j : Nat} {x : Nat} (hi : pr[i]? = some (pc, .aload j, 2)) (hn : pc + 2 = n) (q : Nat) (hq : lv[q]? = some (j, .ref x)) (k : J p l e R s m args below meth c nL D cl A kc ks Q ws lv n (.ref x :: rs)) : J p l e R s m args below meth c nL D cl A kc ks Q ws lv pc rs := by
  subst hn
  intro H locs ls hP hD hS hl
  exact lv_aload C.1.1 C.1.2.1 (okAt_at C.2.2.2.1 hi) (lv_at hl q hq) (k H locs ls hP hD hS hl)
theorem j_istore_n (C : CX p R s m args meth c cc nL own ret pr D cl tys A) (i n : Nat) {t : Fin 4} {j : Nat} {x : Int32} (lv' : List (Nat × Value)) (hi : pr[i]? = some (pc, .istore_n t, 1)) (hn : pc + 1 = n) (hj : (t : Nat) = j) (hlim : j < nL) (hf : (j, Value.int x) :: lv.filter (fun q => !(q.1 == j) && !(q.1 + 1 == j && q.2.category == 2)) = lv') (k : J p l e R s m args below meth c nL D cl A kc ks Q ws lv' n rs) : J p l e R s m args below meth c nL D cl A kc ks Q ws lv pc (.int x :: rs) := by
  subst hn
  intro H locs ls hP hD hS hl
  exact lv_istore_n C.1.1 C.1.2.1 (okAt_at C.2.2.2.1 hi) hj hl hlim hf (fun ls hl => k H locs ls hP hD hS hl)
theorem j_istore (C : CX p R s m args meth c cc nL own ret pr D cl tys A) (i n : Nat) {j : Nat} {x : Int32} (lv' : List (Nat × Value)) (hi : pr[i]? = some (pc, .istore j, 2)) (hn : pc + 2 = n) (hlim : j < nL) (hf : (j, Value.int x) :: lv.filter (fun q => !(q.1 == j) && !(q.1 + 1 == j && q.2.category == 2)) = lv') (k : J p l e R s m args below meth c nL D cl A kc ks Q ws lv' n rs) : J p l e R s m args below meth c nL D cl A kc ks Q ws lv pc (.int x :: rs) := by
  subst hn
  intro H locs ls hP hD hS hl
  exact lv_istore C.1.1 C.1.2.1 (okAt_at C.2.2.2.1 hi) hl hlim hf (fun ls hl => k H locs ls hP hD hS hl)
theorem j_lstore_n (C : CX p R s m args meth c cc nL own ret pr D cl tys A) (i n : Nat) {t : Fin 4} {j : Nat} {x : Int64} (lv' : List (Nat × Value)) (hi : pr[i]? = some (pc, .lstore_n t, 1)) (hn : pc + 1 = n) (hj : (t : Nat) = j) (hlim : j + 1 < nL) (hf : (j, Value.long x) :: lv.filter (fun q => !(q.1 == j) && (!(q.1 == j + 1) && !(q.1 + 1 == j && q.2.category == 2))) = lv') (k : J p l e R s m args below meth c nL D cl A kc ks Q ws lv' n rs) : J p l e R s m args below meth c nL D cl A kc ks Q ws lv pc (.long x :: rs) := by
  subst hn
  intro H locs ls hP hD hS hl
  exact lv_lstore_n C.1.1 C.1.2.1 (okAt_at C.2.2.2.1 hi) hj hl hlim hf (fun ls hl => k H locs ls hP hD hS hl)
theorem j_lstore (C : CX p R s m args meth c cc nL own ret pr D cl tys A) (i n : Nat) {j : Nat} {x : Int64} (lv' : List (Nat × Value)) (hi : pr[i]? = some (pc, .lstore j, 2)) (hn : pc + 2 = n) (hlim : j + 1 < nL) (hf : (j, Value.long x) :: lv.filter (fun q => !(q.1 == j) && (!(q.1 == j + 1) && !(q.1 + 1 == j && q.2.category == 2))) = lv') (k : J p l e R s m args below meth c nL D cl A kc ks Q ws lv' n rs) : J p l e R s m args below meth c nL D cl A kc ks Q ws lv pc (.long x :: rs) := by
  subst hn
  intro H locs ls hP hD hS hl
  exact lv_lstore C.1.1 C.1.2.1 (okAt_at C.2.2.2.1 hi) hl hlim hf (fun ls hl => k H locs ls hP hD hS hl)
theorem j_astore_n (C : CX p R s m args meth c cc nL own ret pr D cl tys A) (i n : Nat) {t : Fin 4} {j : Nat} {x : Nat} (lv' : List (Nat × Value)) (hi : pr[i]? = some (pc, .astore_n t, 1)) (hn : pc + 1 = n) (hj : (t : Nat) = j) (hlim : j < nL) (hf : (j, Value.ref x) :: lv.filter (fun q => !(q.1 == j) && !(q.1 + 1 == j && q.2.category == 2)) = lv') (k : J p l e R s m args below meth c nL D cl A kc ks Q ws lv' n rs) : J p l e R s m args below meth c nL D cl A kc ks Q ws lv pc (.ref x :: rs) := by
  subst hn
  intro H locs ls hP hD hS hl
  exact lv_astore_n C.1.1 C.1.2.1 (okAt_at C.2.2.2.1 hi) hj hl hlim hf (fun ls hl => k H locs ls hP hD hS hl)
theorem j_astore (C : CX p R s m args meth c cc nL own ret pr D cl tys A) (i n : Nat) {j : Nat} {x : Nat} (lv' : List (Nat × Value)) (hi : pr[i]? = some (pc, .astore j, 2)) (hn : pc + 2 = n) (hlim : j < nL) (hf : (j, Value.ref x) :: lv.filter (fun q => !(q.1 == j) && !(q.1 + 1 == j && q.2.category == 2)) = lv') (k : J p l e R s m args below meth c nL D cl A kc ks Q ws lv' n rs) : J p l e R s m args below meth c nL D cl A kc ks Q ws lv pc (.ref x :: rs) := by
  subst hn
  intro H locs ls hP hD hS hl
  exact lv_astore C.1.1 C.1.2.1 (okAt_at C.2.2.2.1 hi) hl hlim hf (fun ls hl => k H locs ls hP hD hS hl)
theorem j_iinc (C : CX p R s m args meth c cc nL own ret pr D cl tys A) (i n : Nat) {j : Nat} {z : Int} {x v : Int32} (lv' : List (Nat × Value)) (hi : pr[i]? = some (pc, .iinc j z, 3)) (hn : pc + 3 = n) (q : Nat) (hq : lv[q]? = some (j, .int x)) (hv : Int32.ofInt z = v) (hlim : j < nL) (hf : (j, Value.int (x + v)) :: lv.filter (fun q => !(q.1 == j) && !(q.1 + 1 == j && q.2.category == 2)) = lv') (k : J p l e R s m args below meth c nL D cl A kc ks Q ws lv' n rs) : J p l e R s m args below meth c nL D cl A kc ks Q ws lv pc rs := by
  subst hn
  intro H locs ls hP hD hS hl
  exact lv_iinc (v := x + v) C.1.1 C.1.2.1 (okAt_at C.2.2.2.1 hi) hl hq (by rw [hv]) hlim hf (fun ls hl => k H locs ls hP hD hS hl)
theorem j_dup (C : CX p R s m args meth c cc nL own ret pr D cl tys A) (i n : Nat) {v : Value} (hi : pr[i]? = some (pc, .dup, 1)) (hn : pc + 1 = n) (hv : v.category = 1) (k : J p l e R s m args below meth c nL D cl A kc ks Q ws lv n (v :: v :: rs)) : J p l e R s m args below meth c nL D cl A kc ks Q ws lv pc (v :: rs) := by
  subst hn
  intro H locs ls hP hD hS hl
  exact lv_dup C.1.1 C.1.2.1 (okAt_at C.2.2.2.1 hi) hv (k H locs ls hP hD hS hl)
theorem j_topi {x : Int32} (k : ∀ y : Int32, y = x → J p l e R s m args below meth c nL D cl A kc ks Q ws lv pc (.int y :: rs)) : J p l e R s m args below meth c nL D cl A kc ks Q ws lv pc (.int x :: rs) := k x rfl
theorem j_topl {x : Int64} (k : ∀ y : Int64, y = x → J p l e R s m args below meth c nL D cl A kc ks Q ws lv pc (.long y :: rs)) : J p l e R s m args below meth c nL D cl A kc ks Q ws lv pc (.long x :: rs) := k x rfl
theorem j_sub {lv' : List (Nat × Value)} (is : List Nat) (h : lv_pick lv is = lv') (k : J p l e R s m args below meth c nL D cl A kc ks Q ws lv' pc rs) : J p l e R s m args below meth c nL D cl A kc ks Q ws lv pc rs := fun H locs ls hP hD hS hl => k H locs ls hP hD hS (lv_sub hl is h)
theorem j_goto (C : CX p R s m args meth c cc nL own ret pr D cl tys A) (i n : Nat) {off : Int} (hi : pr[i]? = some (pc, .goto off, 3)) (hn : (pc : Int) + off = (n : Int)) (k : J p l e R s m args below meth c nL D cl A kc ks Q ws lv n rs) : J p l e R s m args below meth c nL D cl A kc ks Q ws lv pc rs := fun H locs ls hP hD hS hl => lv_goto C.1.1 C.1.2.1 (okAt_at C.2.2.2.1 hi) hn (k H locs ls hP hD hS hl)
theorem j_if_eq (C : CX p R s m args meth c cc nL own ret pr D cl tys A) (i t n : Nat) {off : Int} {x : Int32} (hi : pr[i]? = some (pc, .ifCond .eq off, 3)) (ht : (pc : Int) + off = (t : Int)) (hn : pc + 3 = n) (kt : (x = 0) → J p l e R s m args below meth c nL D cl A kc ks Q ws lv t rs) (kf : ¬ (x = 0) → J p l e R s m args below meth c nL D cl A kc ks Q ws lv n rs) : J p l e R s m args below meth c nL D cl A kc ks Q ws lv pc (.int x :: rs) := by
  subst hn
  intro H locs ls hP hD hS hl
  exact lv_if_eq C.1.1 C.1.2.1 (okAt_at C.2.2.2.1 hi) ht (fun q => kt q H locs ls hP hD hS hl) (fun q => kf q H locs ls hP hD hS hl)
theorem j_icmp_eq (C : CX p R s m args meth c cc nL own ret pr D cl tys A) (i t n : Nat) {off : Int} {x y : Int32} (hi : pr[i]? = some (pc, .if_icmp .eq off, 3)) (ht : (pc : Int) + off = (t : Int)) (hn : pc + 3 = n) (kt : (x = y) → J p l e R s m args below meth c nL D cl A kc ks Q ws lv t rs) (kf : ¬ (x = y) → J p l e R s m args below meth c nL D cl A kc ks Q ws lv n rs) : J p l e R s m args below meth c nL D cl A kc ks Q ws lv pc (.int y :: .int x :: rs) := by
  subst hn
  intro H locs ls hP hD hS hl
  exact lv_icmp_eq C.1.1 C.1.2.1 (okAt_at C.2.2.2.1 hi) ht (fun q => kt q H locs ls hP hD hS hl) (fun q => kf q H locs ls hP hD hS hl)
theorem j_if_ne (C : CX p R s m args meth c cc nL own ret pr D cl tys A) (i t n : Nat) {off : Int} {x : Int32} (hi : pr[i]? = some (pc, .ifCond .ne off, 3)) (ht : (pc : Int) + off = (t : Int)) (hn : pc + 3 = n) (kt : (¬ x = 0) → J p l e R s m args below meth c nL D cl A kc ks Q ws lv t rs) (kf : x = 0 → J p l e R s m args below meth c nL D cl A kc ks Q ws lv n rs) : J p l e R s m args below meth c nL D cl A kc ks Q ws lv pc (.int x :: rs) := by
  subst hn
  intro H locs ls hP hD hS hl
  exact lv_if_ne C.1.1 C.1.2.1 (okAt_at C.2.2.2.1 hi) ht (fun q => kt q H locs ls hP hD hS hl) (fun q => kf q H locs ls hP hD hS hl)
theorem j_icmp_ne (C : CX p R s m args meth c cc nL own ret pr D cl tys A) (i t n : Nat) {off : Int} {x y : Int32} (hi : pr[i]? = some (pc, .if_icmp .ne off, 3)) (ht : (pc : Int) + off = (t : Int)) (hn : pc + 3 = n) (kt : (¬ x = y) → J p l e R s m args below meth c nL D cl A kc ks Q ws lv t rs) (kf : x = y → J p l e R s m args below meth c nL D cl A kc ks Q ws lv n rs) : J p l e R s m args below meth c nL D cl A kc ks Q ws lv pc (.int y :: .int x :: rs) := by
  subst hn
  intro H locs ls hP hD hS hl
  exact lv_icmp_ne C.1.1 C.1.2.1 (okAt_at C.2.2.2.1 hi) ht (fun q => kt q H locs ls hP hD hS hl) (fun q => kf q H locs ls hP hD hS hl)
theorem j_if_lt (C : CX p R s m args meth c cc nL own ret pr D cl tys A) (i t n : Nat) {off : Int} {x : Int32} (hi : pr[i]? = some (pc, .ifCond .lt off, 3)) (ht : (pc : Int) + off = (t : Int)) (hn : pc + 3 = n) (kt : (x < 0) → J p l e R s m args below meth c nL D cl A kc ks Q ws lv t rs) (kf : ¬ (x < 0) → J p l e R s m args below meth c nL D cl A kc ks Q ws lv n rs) : J p l e R s m args below meth c nL D cl A kc ks Q ws lv pc (.int x :: rs) := by
  subst hn
  intro H locs ls hP hD hS hl
  exact lv_if_lt C.1.1 C.1.2.1 (okAt_at C.2.2.2.1 hi) ht (fun q => kt q H locs ls hP hD hS hl) (fun q => kf q H locs ls hP hD hS hl)
theorem j_icmp_lt (C : CX p R s m args meth c cc nL own ret pr D cl tys A) (i t n : Nat) {off : Int} {x y : Int32} (hi : pr[i]? = some (pc, .if_icmp .lt off, 3)) (ht : (pc : Int) + off = (t : Int)) (hn : pc + 3 = n) (kt : (x < y) → J p l e R s m args below meth c nL D cl A kc ks Q ws lv t rs) (kf : ¬ (x < y) → J p l e R s m args below meth c nL D cl A kc ks Q ws lv n rs) : J p l e R s m args below meth c nL D cl A kc ks Q ws lv pc (.int y :: .int x :: rs) := by
  subst hn
  intro H locs ls hP hD hS hl
  exact lv_icmp_lt C.1.1 C.1.2.1 (okAt_at C.2.2.2.1 hi) ht (fun q => kt q H locs ls hP hD hS hl) (fun q => kf q H locs ls hP hD hS hl)
theorem j_if_ge (C : CX p R s m args meth c cc nL own ret pr D cl tys A) (i t n : Nat) {off : Int} {x : Int32} (hi : pr[i]? = some (pc, .ifCond .ge off, 3)) (ht : (pc : Int) + off = (t : Int)) (hn : pc + 3 = n) (kt : (0 ≤ x) → J p l e R s m args below meth c nL D cl A kc ks Q ws lv t rs) (kf : ¬ (0 ≤ x) → J p l e R s m args below meth c nL D cl A kc ks Q ws lv n rs) : J p l e R s m args below meth c nL D cl A kc ks Q ws lv pc (.int x :: rs) := by
  subst hn
  intro H locs ls hP hD hS hl
  exact lv_if_ge C.1.1 C.1.2.1 (okAt_at C.2.2.2.1 hi) ht (fun q => kt q H locs ls hP hD hS hl) (fun q => kf q H locs ls hP hD hS hl)
theorem j_icmp_ge (C : CX p R s m args meth c cc nL own ret pr D cl tys A) (i t n : Nat) {off : Int} {x y : Int32} (hi : pr[i]? = some (pc, .if_icmp .ge off, 3)) (ht : (pc : Int) + off = (t : Int)) (hn : pc + 3 = n) (kt : (y ≤ x) → J p l e R s m args below meth c nL D cl A kc ks Q ws lv t rs) (kf : ¬ (y ≤ x) → J p l e R s m args below meth c nL D cl A kc ks Q ws lv n rs) : J p l e R s m args below meth c nL D cl A kc ks Q ws lv pc (.int y :: .int x :: rs) := by
  subst hn
  intro H locs ls hP hD hS hl
  exact lv_icmp_ge C.1.1 C.1.2.1 (okAt_at C.2.2.2.1 hi) ht (fun q => kt q H locs ls hP hD hS hl) (fun q => kf q H locs ls hP hD hS hl)
theorem j_if_gt (C : CX p R s m args meth c cc nL own ret pr D cl tys A) (i t n : Nat) {off : Int} {x : Int32} (hi : pr[i]? = some (pc, .ifCond .gt off, 3)) (ht : (pc : Int) + off = (t : Int)) (hn : pc + 3 = n) (kt : (0 < x) → J p l e R s m args below meth c nL D cl A kc ks Q ws lv t rs) (kf : ¬ (0 < x) → J p l e R s m args below meth c nL D cl A kc ks Q ws lv n rs) : J p l e R s m args below meth c nL D cl A kc ks Q ws lv pc (.int x :: rs) := by
  subst hn
  intro H locs ls hP hD hS hl
  exact lv_if_gt C.1.1 C.1.2.1 (okAt_at C.2.2.2.1 hi) ht (fun q => kt q H locs ls hP hD hS hl) (fun q => kf q H locs ls hP hD hS hl)
theorem j_icmp_gt (C : CX p R s m args meth c cc nL own ret pr D cl tys A) (i t n : Nat) {off : Int} {x y : Int32} (hi : pr[i]? = some (pc, .if_icmp .gt off, 3)) (ht : (pc : Int) + off = (t : Int)) (hn : pc + 3 = n) (kt : (y < x) → J p l e R s m args below meth c nL D cl A kc ks Q ws lv t rs) (kf : ¬ (y < x) → J p l e R s m args below meth c nL D cl A kc ks Q ws lv n rs) : J p l e R s m args below meth c nL D cl A kc ks Q ws lv pc (.int y :: .int x :: rs) := by
  subst hn
  intro H locs ls hP hD hS hl
  exact lv_icmp_gt C.1.1 C.1.2.1 (okAt_at C.2.2.2.1 hi) ht (fun q => kt q H locs ls hP hD hS hl) (fun q => kf q H locs ls hP hD hS hl)
theorem j_if_le (C : CX p R s m args meth c cc nL own ret pr D cl tys A) (i t n : Nat) {off : Int} {x : Int32} (hi : pr[i]? = some (pc, .ifCond .le off, 3)) (ht : (pc : Int) + off = (t : Int)) (hn : pc + 3 = n) (kt : (x ≤ 0) → J p l e R s m args below meth c nL D cl A kc ks Q ws lv t rs) (kf : ¬ (x ≤ 0) → J p l e R s m args below meth c nL D cl A kc ks Q ws lv n rs) : J p l e R s m args below meth c nL D cl A kc ks Q ws lv pc (.int x :: rs) := by
  subst hn
  intro H locs ls hP hD hS hl
  exact lv_if_le C.1.1 C.1.2.1 (okAt_at C.2.2.2.1 hi) ht (fun q => kt q H locs ls hP hD hS hl) (fun q => kf q H locs ls hP hD hS hl)
theorem j_icmp_le (C : CX p R s m args meth c cc nL own ret pr D cl tys A) (i t n : Nat) {off : Int} {x y : Int32} (hi : pr[i]? = some (pc, .if_icmp .le off, 3)) (ht : (pc : Int) + off = (t : Int)) (hn : pc + 3 = n) (kt : (x ≤ y) → J p l e R s m args below meth c nL D cl A kc ks Q ws lv t rs) (kf : ¬ (x ≤ y) → J p l e R s m args below meth c nL D cl A kc ks Q ws lv n rs) : J p l e R s m args below meth c nL D cl A kc ks Q ws lv pc (.int y :: .int x :: rs) := by
  subst hn
  intro H locs ls hP hD hS hl
  exact lv_icmp_le C.1.1 C.1.2.1 (okAt_at C.2.2.2.1 hi) ht (fun q => kt q H locs ls hP hD hS hl) (fun q => kf q H locs ls hP hD hS hl)
theorem j_lookup (C : CX p R s m args meth c cc nL own ret pr D cl tys A) (i : Nat) {dflt : Int} {ps : Array (Int × Int)} {len : Nat} {x : Int32} (hi : pr[i]? = some (pc, .lookupswitch dflt ps, len)) (hp : (ps.toList.zip (ps.toList.drop 1)).all (fun (a, next) => a.1 < next.1) = true) (kk : List (Int32 × Nat)) (d : Nat) (hk : ps.toList = kk.map fun q => (q.1.toInt, (q.2 : Int) - (pc : Int))) (hd : (pc : Int) + dflt = (d : Int)) (h : swP x (fun t => J p l e R s m args below meth c nL D cl A kc ks Q ws lv t rs) d kk) : J p l e R s m args below meth c nL D cl A kc ks Q ws lv pc (.int x :: rs) := by
  intro H locs ls hP hD hS hl
  obtain ⟨t, h1, h2⟩ := swP_off hd kk h
  exact lv_lookup C.1.1 C.1.2.1 (okAt_at C.2.2.2.1 hi) hp rfl (by rw [hk]; exact h2) (h1 H locs ls hP hD hS hl)
theorem j_table (C : CX p R s m args meth c cc nL own ret pr D cl tys A) (i : Nat) {dflt lo hi' : Int} {offs : Array Int} {len : Nat} {x : Int32} (hi : pr[i]? = some (pc, .tableswitch dflt lo hi' offs, len)) (kk : List (Int32 × Nat)) (d : Nat) (hk : (List.range offs.size).map (fun (j : Nat) => (lo + (j : Int), offs.getD j 0)) = kk.map fun q => (q.1.toInt, (q.2 : Int) - (pc : Int))) (hs : lo + (offs.size : Int) = hi' + 1) (hd : (pc : Int) + dflt = (d : Int)) (h : swP x (fun t => J p l e R s m args below meth c nL D cl A kc ks Q ws lv t rs) d kk) : J p l e R s m args below meth c nL D cl A kc ks Q ws lv pc (.int x :: rs) := by
  intro H locs ls hP hD hS hl
  rcases swP_case kk h with ⟨q, hq, rfl, h1⟩ | ⟨h0, h1⟩
  · have hm : (q.1.toInt, (q.2 : Int) - (pc : Int)) ∈ (List.range offs.size).map (fun (j : Nat) => (lo + (j : Int), offs.getD j 0)) := by
      rw [hk]; exact List.mem_map.mpr ⟨q, hq, rfl⟩
    obtain ⟨j, hj, he⟩ := List.mem_map.mp hm
    have hj := List.mem_range.mp hj
    have e1 : lo + (j : Int) = q.1.toInt := congrArg Prod.fst he
    have e2 : offs.getD j 0 = (q.2 : Int) - (pc : Int) := congrArg Prod.snd he
    refine lv_tableIn (off := (q.2 : Int) - (pc : Int)) (tgt := q.2) C.1.1 C.1.2.1 (okAt_at C.2.2.2.1 hi) (by omega) (by omega) ?_ (by omega) (h1 H locs ls hP hD hS hl)
    rw [show (q.1.toInt - lo).toNat = j by omega, ← e2]
    simp [Array.getD, hj]
  · by_cases hr : x.toInt < lo ∨ hi' < x.toInt
    · exact lv_tableOut C.1.1 C.1.2.1 (okAt_at C.2.2.2.1 hi) hr hd (h1 H locs ls hP hD hS hl)
    · exfalso
      have hj : (x.toInt - lo).toNat < offs.size := by omega
      have hm : (lo + (((x.toInt - lo).toNat : Nat) : Int), offs.getD (x.toInt - lo).toNat 0) ∈ kk.map (fun q => (q.1.toInt, (q.2 : Int) - (pc : Int))) := by
        rw [← hk]; exact List.mem_map.mpr ⟨_, List.mem_range.mpr hj, rfl⟩
      obtain ⟨q, hq, he⟩ := List.mem_map.mp hm
      have e1 : q.1.toInt = lo + (((x.toInt - lo).toNat : Nat) : Int) := congrArg Prod.fst he
      exact h0 q hq (Int32.toInt_inj.mp (by rw [e1]; omega))
theorem j_get (C : CX p R s m args meth c cc nL own ret pr D cl tys A) (i n : Nat) {index : Nat} (hi : pr[i]? = some (pc, .getfield index, 3)) (hn : pc + 3 = n) {ci f : Nat} (hf : fg cl own index ci f) (q : Nat) {a : Nat} {fs : List Value} {v : Value} (he : ws[q]? = some (a, .inr (ci, fs))) (hv : fs[f]? = some v) (k : J p l e R s m args below meth c nL D cl A kc ks Q ws lv n (v :: rs)) : J p l e R s m args below meth c nL D cl A kc ks Q ws lv pc (.ref a :: rs) := by
  subst hn
  intro H locs ls hP hD hS hl
  obtain ⟨Cn, T, N, h1, h2, h3, h4⟩ := hf
  exact va_get C.1.1 C.1.2.1 C.1.2.2.2.2 h2 C.1.2.2.2.1 C.2.1 hP q he h1 f h3 (C.1.2.2.2.2 _ h4) (fun _ h => h) hv (okAt_at C.2.2.2.1 hi) (k H locs ls hP hD hS hl)
theorem j_put (C : CX p R s m args meth c cc nL own ret pr D cl tys A) (i n : Nat) {index : Nat} (hi : pr[i]? = some (pc, .putfield index, 3)) (hn : pc + 3 = n) {ci f : Nat} {ty : FieldType} (hf : fp cl own index ci f ty) (q : Nat) {a : Nat} {fs : List Value} {v : Value} {F : St → va_W} {S : St} (he : (F S)[q]? = some (a, .inr (ci, fs))) (hfl : f < fs.length) (hna : narrow ty v = v) (hfi : fits ty v = true) (S' : St) (hw : (F S).set q (a, .inr (ci, fs.set f v)) = F S') (k : ∀ S1, S1 = S' → J p l e R s m args below meth c nL D cl A kc ks Q (F S1) lv n rs) : J p l e R s m args below meth c nL D cl A kc ks Q (F S) lv pc (v :: .ref a :: rs) := by
  subst hn
  intro H locs ls hP hD hS hl
  obtain ⟨Cn, T, N, ty0, h1, h2, h3, h4, h5, h6, h7, h8⟩ := hf
  exact va_put C.1.1 C.1.2.1 C.1.2.2.2.2 h2 ty0 h5 h6 C.1.2.2.2.1 C.2.1 hP hD hS q he h1 f h3 (C.1.2.2.2.2 _ h4) (fun _ h => h) h7 h8 hna hfi hfl (okAt_at C.2.2.2.1 hi) (fun H locs hP hD hS => k S' rfl H locs ls (hw ▸ hP) (hw ▸ hD) hS hl)
theorem j_putw (C : CX p R s m args meth c cc nL own ret pr D cl tys A) (i n : Nat) {index : Nat} (hi : pr[i]? = some (pc, .putfield index, 3)) (hn : pc + 3 = n) {ci f : Nat} {ty : FieldType} (hf : fp cl own index ci f ty) (q : Nat) {a : Nat} {fs : List Value} {v : Value} (he : ws[q]? = some (a, .inr (ci, fs))) (hfl : f < fs.length) (hna : narrow ty v = v) (hfi : fits ty v = true) (ws' : va_W) (hw : ws.set q (a, .inr (ci, fs.set f v)) = ws') (k : J p l e R s m args below meth c nL D cl A kc ks Q ws' lv n rs) : J p l e R s m args below meth c nL D cl A kc ks Q ws lv pc (v :: .ref a :: rs) := by
  subst hn
  intro H locs ls hP hD hS hl
  obtain ⟨Cn, T, N, ty0, h1, h2, h3, h4, h5, h6, h7, h8⟩ := hf
  exact va_put C.1.1 C.1.2.1 C.1.2.2.2.2 h2 ty0 h5 h6 C.1.2.2.2.1 C.2.1 hP hD hS q he h1 f h3 (C.1.2.2.2.2 _ h4) (fun _ h => h) h7 h8 hna hfi hfl (okAt_at C.2.2.2.1 hi) (fun H locs hP hD hS => k H locs ls (hw ▸ hP) (hw ▸ hD) hS hl)
theorem j_iald (C : CX p R s m args meth c cc nL own ret pr D cl tys A) (i n : Nat) (hi : pr[i]? = some (pc, .iaload, 1)) (hn : pc + 1 = n) (q t : Nat) {a nn : Nat} {cA : ClassId} {f : Nat → Int32} {x : Int32} (ha : ws[q]? = some (a, .inl (cA, nn, .inl f))) (ht : tys[t]? = some (cA, .int)) (hin : vp_in x nn) (k : J p l e R s m args below meth c nL D cl A kc ks Q ws lv n (.int (f x.toNatClampNeg) :: rs)) : J p l e R s m args below meth c nL D cl A kc ks Q ws lv pc (.int x :: .ref a :: rs) := by
  subst hn
  intro H locs ls hP hD hS hl
  exact va_iald C.1.1 C.1.2.1 C.2.1 hP q t ha ht hin (okAt_at C.2.2.2.1 hi) (k H locs ls hP hD hS hl)
theorem j_zald (C : CX p R s m args meth c cc nL own ret pr D cl tys A) (i n : Nat) (hi : pr[i]? = some (pc, .baload, 1)) (hn : pc + 1 = n) (q t : Nat) {a nn : Nat} {cA : ClassId} {f : Nat → Int32} {x : Int32} (ha : ws[q]? = some (a, .inl (cA, nn, .inl f))) (ht : tys[t]? = some (cA, .boolean)) (hin : vp_in x nn) (k : J p l e R s m args below meth c nL D cl A kc ks Q ws lv n (.int (f x.toNatClampNeg) :: rs)) : J p l e R s m args below meth c nL D cl A kc ks Q ws lv pc (.int x :: .ref a :: rs) := by
  subst hn
  intro H locs ls hP hD hS hl
  exact va_zald C.1.1 C.1.2.1 C.2.1 hP q t ha ht hin (okAt_at C.2.2.2.1 hi) (k H locs ls hP hD hS hl)
theorem j_iast (C : CX p R s m args meth c cc nL own ret pr D cl tys A) (i n : Nat) (hi : pr[i]? = some (pc, .iastore, 1)) (hn : pc + 1 = n) (q t : Nat) {a nn : Nat} {cA : ClassId} {f : Nat → Int32} {x y : Int32} {F : St → va_W} {S : St} (ha : (F S)[q]? = some (a, .inl (cA, nn, .inl f))) (ht : tys[t]? = some (cA, .int)) (hin : vp_in x nn) (S' : St) (hw : (F S).set q (a, .inl (cA, nn, .inl (upd f x.toNatClampNeg y))) = F S') (k : ∀ S1, S1 = S' → J p l e R s m args below meth c nL D cl A kc ks Q (F S1) lv n rs) : J p l e R s m args below meth c nL D cl A kc ks Q (F S) lv pc (.int y :: .int x :: .ref a :: rs) := by
  subst hn
  intro H locs ls hP hD hS hl
  exact va_iast C.1.1 C.1.2.1 C.2.1 hP hD hS q t ha ht hin (okAt_at C.2.2.2.1 hi) (fun H locs hP hD hS => k S' rfl H locs ls (hw ▸ hP) (hw ▸ hD) hS hl)
theorem j_zast (C : CX p R s m args meth c cc nL own ret pr D cl tys A) (i n : Nat) (hi : pr[i]? = some (pc, .bastore, 1)) (hn : pc + 1 = n) (q t : Nat) {a nn : Nat} {cA : ClassId} {f : Nat → Int32} {x y : Int32} {F : St → va_W} {S : St} (ha : (F S)[q]? = some (a, .inl (cA, nn, .inl f))) (ht : tys[t]? = some (cA, .boolean)) (hin : vp_in x nn) (S' : St) (hw : (F S).set q (a, .inl (cA, nn, .inl (upd f x.toNatClampNeg (vp_nar .boolean y)))) = F S') (k : ∀ S1, S1 = S' → J p l e R s m args below meth c nL D cl A kc ks Q (F S1) lv n rs) : J p l e R s m args below meth c nL D cl A kc ks Q (F S) lv pc (.int y :: .int x :: .ref a :: rs) := by
  subst hn
  intro H locs ls hP hD hS hl
  exact va_zast C.1.1 C.1.2.1 C.2.1 hP hD hS q t ha ht hin (okAt_at C.2.2.2.1 hi) (fun H locs hP hD hS => k S' rfl H locs ls (hw ▸ hP) (hw ▸ hD) hS hl)
theorem j_callVi (C : CX p R s m args meth c cc nL own ret pr D cl tys A) (i n : Nat) {index : Nat} {y : MethodName} {bytes : ByteArray} {maxL na : Nat} {rt : Option FieldType} {rm : Room} {b : Nat} {As stk : List Value} (hi : pr[i]? = some (pc, .invokevirtual index, 3)) (hn : pc + 3 = n) (hlink : Cond.methodLink own index y ∈ gw) (hm : mI y bytes maxL rt na) {σ : Type} {F : σ → va_W} {S : σ} {K : Int32 → σ → Prop} (hM : ∀ sz : Nat, Met l y (Cond.code y bytes maxL rt :: gw) rm (va_Pc (.ref b :: As) (PK D cl tys (F S) sz)) (va_Qi K (fun u t => QK D cl tys (va_A (F S) sz) (F u) t) (va_A (F S) sz)) 0 0 (va_A (F S) sz)) (hrm : rm.cells = 0 ∧ rm.slots = 0) (hR : rm.frames + 1 ≤ R.frames ∧ 8 + (maxL + 11) + rm.locals ≤ R.locals) (q : Nat) {ci : Nat} {fs : List Value} {Tn : u_T} {Nn : Nat} (he : (F S)[q]? = some (b, .inr (ci, fs))) (hc : cl[ci]? = some (y.cls, Tn, Nn)) (hlen : As.length = na) (hcs : kc ≤ R.cells ∧ ks ≤ R.slots) (hsum : (rs.map fun v => v.category).sum ≤ 8) (hstk : stk = As.reverse ++ .ref b :: rs) (k : ∀ r u, K r u → J p l e R s m args below meth c nL D cl A kc ks Q (F u) lv n (.int r :: rs)) : J p l e R s m args below meth c nL D cl A kc ks Q (F S) lv pc stk := by
  subst hn hstk
  intro H locs ls hP hD hS hl
  have hFc : ∀ q, va_A (F S) H.size q → A q := by
    intro q h
    rcases h with ⟨j, e1, h⟩ | h
    · exact hD.2 j (q, e1) h
    · exact C.2.2.1 q (Nat.le_trans hS.1 h)
  obtain ⟨w1, w2, w3, w4, d1, d2, d3⟩ := hm
  have cw : CallW R s args own y.cls index y bytes maxL rt (Cond.code y bytes maxL rt :: gw) rm 0 0 na := ⟨callB_of na C.1.2.2.2.2 (gw_code w4) rfl hrm.1 hrm.2 (C.1.2.2.2.2 _ w3) (C.1.2.2.2.2 _ hlink) ⟨d1, d2, d3⟩ hR, C.1.2.2.2.2 _ w1, C.1.2.2.2.2 _ w2⟩
  refine va_calli (va_runV (As := As) (rest := rs) C.1 (hM H.size) cw ⟨fun a U g mk z => by obtain ⟨z0, z1, zP, zK, zD⟩ := z; exact ⟨z0, z1, zP, va_K.moved (u := U) (U := U.calling g mk a) (Vm.Alike.refl U.vm) zK, zD⟩, va_recv C.2.1 hP hc he, fun U hU hW => ⟨rfl, by rw [hU], by rw [hU]; exact hP, va_K.moved hW.alike C.2.1, hD.weaken (fun _ _ _ _ => trivial)⟩⟩ rfl hlen hl.1 rfl (lv_room hsum) (okAt_at C.2.2.2.1 hi) hcs) hS (fun q _ h => hFc q h) hFc (fun r u t H1 locs1 ht hvm hw hB hz hk hS1 => ?_)
  obtain ⟨hP1, hK1, hD1⟩ := hB
  rw [ht] at hP1
  exact k r u hw H1 locs1 ls hP1 (hD1.weaken (fun _ q _ h => hFc q.1 h)) hS1 hl
theorem j_callVv (C : CX p R s m args meth c cc nL own ret pr D cl tys A) (i n : Nat) {index : Nat} {y : MethodName} {bytes : ByteArray} {maxL na : Nat} {rt : Option FieldType} {rm : Room} {b : Nat} {As stk : List Value} (hi : pr[i]? = some (pc, .invokevirtual index, 3)) (hn : pc + 3 = n) (hlink : Cond.methodLink own index y ∈ gw) (hm : mI y bytes maxL rt na) {σ : Type} {F : σ → va_W} {S : σ} {K : σ → Prop} (hM : ∀ sz : Nat, Met l y (Cond.code y bytes maxL rt :: gw) rm (va_Pc (.ref b :: As) (PK D cl tys (F S) sz)) (va_Qv K (fun u t => QK D cl tys (va_A (F S) sz) (F u) t) (va_A (F S) sz)) 0 0 (va_A (F S) sz)) (hrm : rm.cells = 0 ∧ rm.slots = 0) (hR : rm.frames + 1 ≤ R.frames ∧ 8 + (maxL + 11) + rm.locals ≤ R.locals) (q : Nat) {ci : Nat} {fs : List Value} {Tn : u_T} {Nn : Nat} (he : (F S)[q]? = some (b, .inr (ci, fs))) (hc : cl[ci]? = some (y.cls, Tn, Nn)) (hlen : As.length = na) (hcs : kc ≤ R.cells ∧ ks ≤ R.slots) (hsum : (rs.map fun v => v.category).sum ≤ 8) (hstk : stk = As.reverse ++ .ref b :: rs) (k : ∀ u, K u → J p l e R s m args below meth c nL D cl A kc ks Q (F u) lv n rs) : J p l e R s m args below meth c nL D cl A kc ks Q (F S) lv pc stk := by
  subst hn hstk
  intro H locs ls hP hD hS hl
  have hFc : ∀ q, va_A (F S) H.size q → A q := by
    intro q h
    rcases h with ⟨j, e1, h⟩ | h
    · exact hD.2 j (q, e1) h
    · exact C.2.2.1 q (Nat.le_trans hS.1 h)
  obtain ⟨w1, w2, w3, w4, d1, d2, d3⟩ := hm
  have cw : CallW R s args own y.cls index y bytes maxL rt (Cond.code y bytes maxL rt :: gw) rm 0 0 na := ⟨callB_of na C.1.2.2.2.2 (gw_code w4) rfl hrm.1 hrm.2 (C.1.2.2.2.2 _ w3) (C.1.2.2.2.2 _ hlink) ⟨d1, d2, d3⟩ hR, C.1.2.2.2.2 _ w1, C.1.2.2.2.2 _ w2⟩
  refine va_callv (va_runV (As := As) (rest := rs) C.1 (hM H.size) cw ⟨fun a U g mk z => by obtain ⟨z0, z1, zP, zK, zD⟩ := z; exact ⟨z0, z1, zP, va_K.moved (u := U) (U := U.calling g mk a) (Vm.Alike.refl U.vm) zK, zD⟩, va_recv C.2.1 hP hc he, fun U hU hW => ⟨rfl, by rw [hU], by rw [hU]; exact hP, va_K.moved hW.alike C.2.1, hD.weaken (fun _ _ _ _ => trivial)⟩⟩ rfl hlen hl.1 rfl (lv_room hsum) (okAt_at C.2.2.2.1 hi) hcs) hS (fun q _ h => hFc q h) hFc (fun u t H1 locs1 ht hvm hw hB hz hk hS1 => ?_)
  obtain ⟨hP1, hK1, hD1⟩ := hB
  rw [ht] at hP1
  exact k u hw H1 locs1 ls hP1 (hD1.weaken (fun _ q _ h => hFc q.1 h)) hS1 hl
theorem j_callSi (C : CX p R s m args meth c cc nL own ret pr D cl tys A) (i n : Nat) {index : Nat} {y : MethodName} {bytes : ByteArray} {maxL na : Nat} {rt : Option FieldType} {rm : Room} {As stk : List Value} (hi : pr[i]? = some (pc, .invokestatic index, 3)) (hn : pc + 3 = n) (hlink : Cond.methodLink own index y ∈ gw) (hm : mS y bytes maxL rt na) {σ : Type} {F : σ → va_W} {S : σ} {K : Int32 → σ → Prop} (hM : ∀ sz : Nat, Met l y (Cond.code y bytes maxL rt :: gw) rm (va_Pc As (PK D cl tys (F S) sz)) (va_Qi K (fun u t => QK D cl tys (va_A (F S) sz) (F u) t) (va_A (F S) sz)) 0 0 (va_A (F S) sz)) (hrm : rm.cells = 0 ∧ rm.slots = 0) (hR : rm.frames + 1 ≤ R.frames ∧ 8 + (maxL + 11) + rm.locals ≤ R.locals) (hlen : As.length = na) (hcs : kc ≤ R.cells ∧ ks ≤ R.slots) (hsum : (rs.map fun v => v.category).sum ≤ 8) (hstk : stk = As.reverse ++ rs) (k : ∀ r u, K r u → J p l e R s m args below meth c nL D cl A kc ks Q (F u) lv n (.int r :: rs)) : J p l e R s m args below meth c nL D cl A kc ks Q (F S) lv pc stk := by
  subst hn hstk
  intro H locs ls hP hD hS hl
  have hFc : ∀ q, va_A (F S) H.size q → A q := by
    intro q h
    rcases h with ⟨j, e1, h⟩ | h
    · exact hD.2 j (q, e1) h
    · exact C.2.2.1 q (Nat.le_trans hS.1 h)
  obtain ⟨w1, w3, w4, d1, d2, d3⟩ := hm
  have cw : CallB R s args own index y bytes maxL rt (Cond.code y bytes maxL rt :: gw) rm 0 0 na ∧ (Cond.static y).before args s = true := ⟨callB_of na C.1.2.2.2.2 (gw_code w4) rfl hrm.1 hrm.2 (C.1.2.2.2.2 _ w3) (C.1.2.2.2.2 _ hlink) ⟨d1, d2, d3⟩ hR, C.1.2.2.2.2 _ w1⟩
  refine va_calli (va_runS (As := As) (rest := rs) C.1 (hM H.size) cw ⟨fun a U g mk z => by obtain ⟨z0, z1, zP, zK, zD⟩ := z; exact ⟨z0, z1, zP, va_K.moved (u := U) (U := U.calling g mk a) (Vm.Alike.refl U.vm) zK, zD⟩, fun U hU hW => ⟨rfl, by rw [hU], by rw [hU]; exact hP, va_K.moved hW.alike C.2.1, hD.weaken (fun _ _ _ _ => trivial)⟩⟩ rfl hlen hl.1 rfl (lv_room hsum) (okAt_at C.2.2.2.1 hi) hcs) hS (fun q _ h => hFc q h) hFc (fun r u t H1 locs1 ht hvm hw hB hz hk hS1 => ?_)
  obtain ⟨hP1, hK1, hD1⟩ := hB
  rw [ht] at hP1
  exact k r u hw H1 locs1 ls hP1 (hD1.weaken (fun _ q _ h => hFc q.1 h)) hS1 hl
theorem j_callSv (C : CX p R s m args meth c cc nL own ret pr D cl tys A) (i n : Nat) {index : Nat} {y : MethodName} {bytes : ByteArray} {maxL na : Nat} {rt : Option FieldType} {rm : Room} {As stk : List Value} (hi : pr[i]? = some (pc, .invokestatic index, 3)) (hn : pc + 3 = n) (hlink : Cond.methodLink own index y ∈ gw) (hm : mS y bytes maxL rt na) {σ : Type} {F : σ → va_W} {S : σ} {K : σ → Prop} (hM : ∀ sz : Nat, Met l y (Cond.code y bytes maxL rt :: gw) rm (va_Pc As (PK D cl tys (F S) sz)) (va_Qv K (fun u t => QK D cl tys (va_A (F S) sz) (F u) t) (va_A (F S) sz)) 0 0 (va_A (F S) sz)) (hrm : rm.cells = 0 ∧ rm.slots = 0) (hR : rm.frames + 1 ≤ R.frames ∧ 8 + (maxL + 11) + rm.locals ≤ R.locals) (hlen : As.length = na) (hcs : kc ≤ R.cells ∧ ks ≤ R.slots) (hsum : (rs.map fun v => v.category).sum ≤ 8) (hstk : stk = As.reverse ++ rs) (k : ∀ u, K u → J p l e R s m args below meth c nL D cl A kc ks Q (F u) lv n rs) : J p l e R s m args below meth c nL D cl A kc ks Q (F S) lv pc stk := by
  subst hn hstk
  intro H locs ls hP hD hS hl
  have hFc : ∀ q, va_A (F S) H.size q → A q := by
    intro q h
    rcases h with ⟨j, e1, h⟩ | h
    · exact hD.2 j (q, e1) h
    · exact C.2.2.1 q (Nat.le_trans hS.1 h)
  obtain ⟨w1, w3, w4, d1, d2, d3⟩ := hm
  have cw : CallB R s args own index y bytes maxL rt (Cond.code y bytes maxL rt :: gw) rm 0 0 na ∧ (Cond.static y).before args s = true := ⟨callB_of na C.1.2.2.2.2 (gw_code w4) rfl hrm.1 hrm.2 (C.1.2.2.2.2 _ w3) (C.1.2.2.2.2 _ hlink) ⟨d1, d2, d3⟩ hR, C.1.2.2.2.2 _ w1⟩
  refine va_callv (va_runS (As := As) (rest := rs) C.1 (hM H.size) cw ⟨fun a U g mk z => by obtain ⟨z0, z1, zP, zK, zD⟩ := z; exact ⟨z0, z1, zP, va_K.moved (u := U) (U := U.calling g mk a) (Vm.Alike.refl U.vm) zK, zD⟩, fun U hU hW => ⟨rfl, by rw [hU], by rw [hU]; exact hP, va_K.moved hW.alike C.2.1, hD.weaken (fun _ _ _ _ => trivial)⟩⟩ rfl hlen hl.1 rfl (lv_room hsum) (okAt_at C.2.2.2.1 hi) hcs) hS (fun q _ h => hFc q h) hFc (fun u t H1 locs1 ht hvm hw hB hz hk hS1 => ?_)
  obtain ⟨hP1, hK1, hD1⟩ := hB
  rw [ht] at hP1
  exact k u hw H1 locs1 ls hP1 (hD1.weaken (fun _ q _ h => hFc q.1 h)) hS1 hl
theorem j_mmax (C : CX p R s m args meth c cc nL own ret pr D cl tys A) (i n : Nat) {index : Nat} (hi : pr[i]? = some (pc, .invokestatic index, 3)) (hn : pc + 3 = n) (hlink : Cond.methodLink own index Lib.Math.max.name ∈ gw) (hst : Cond.static Lib.Math.max.name ∈ gw) (hin : Cond.initialized "java/lang/Math" ∈ gw) (hco : Cond.code Lib.Math.max.name Lib.Math.max.code 2 (some .int) ∈ gw) (hfr : 1 ≤ R.frames) (hlo : (rs.map fun v => v.category).sum + 13 ≤ R.locals) (hcs : kc ≤ R.cells ∧ ks ≤ R.slots) {x y : Int32} (k : J p l e R s m args below meth c nL D cl A kc ks Q ws lv n (.int (jmax x y) :: rs)) : J p l e R s m args below meth c nL D cl A kc ks Q ws lv pc (.int y :: .int x :: rs) := by
  subst hn
  intro H locs ls hP hD hS hl
  exact va_mmax C.1.1 C.1.2.1 (by rw [C.1.2.2.1]; exact hl.1.symm) C.1.2.2.2.1 (C.1.2.2.2.2 _ hlink) (C.1.2.2.2.2 _ hst) (C.1.2.2.2.2 _ hin) (C.1.2.2.2.2 _ hco) hfr hlo hcs.1 hcs.2 (okAt_at C.2.2.2.1 hi) (k H locs ls hP hD hS hl)
theorem j_mmin (C : CX p R s m args meth c cc nL own ret pr D cl tys A) (i n : Nat) {index : Nat} (hi : pr[i]? = some (pc, .invokestatic index, 3)) (hn : pc + 3 = n) (hlink : Cond.methodLink own index Lib.Math.min.name ∈ gw) (hst : Cond.static Lib.Math.min.name ∈ gw) (hin : Cond.initialized "java/lang/Math" ∈ gw) (hco : Cond.code Lib.Math.min.name Lib.Math.min.code 2 (some .int) ∈ gw) (hfr : 1 ≤ R.frames) (hlo : (rs.map fun v => v.category).sum + 13 ≤ R.locals) (hcs : kc ≤ R.cells ∧ ks ≤ R.slots) {x y : Int32} (k : J p l e R s m args below meth c nL D cl A kc ks Q ws lv n (.int (jmin x y) :: rs)) : J p l e R s m args below meth c nL D cl A kc ks Q ws lv pc (.int y :: .int x :: rs) := by
  subst hn
  intro H locs ls hP hD hS hl
  exact va_mmin C.1.1 C.1.2.1 (by rw [C.1.2.2.1]; exact hl.1.symm) C.1.2.2.2.1 (C.1.2.2.2.2 _ hlink) (C.1.2.2.2.2 _ hst) (C.1.2.2.2.2 _ hin) (C.1.2.2.2.2 _ hco) hfr hlo hcs.1 hcs.2 (okAt_at C.2.2.2.1 hi) (k H locs ls hP hD hS hl)
theorem j_iret (C : CX p R s m args meth c cc nL own (some .int) pr D cl tys A) (i : Nat) (hi : pr[i]? = some (pc, .ireturn, 1)) {σ : Type} {F : σ → va_W} {S : σ} {K : Int32 → σ → Prop} {v : Int32} (h : K v S) : J p l e R s m args below meth c nL D cl A kc ks (MQ below (va_Qi K (fun u t => QK D cl tys A (F u) t) A) args s kc ks A) (F S) lv pc [.int v] := by
  intro H locs ls hP hD hS hl
  exact W.iret C.1.1 C.1.2.1 C.2.2.2.2.1 (fun t ht hW => ⟨⟨v, S, rfl, h, by rw [ht]; exact hP, va_K.moved hW.alike C.2.1, hD⟩, hS.F ht⟩) hS.2.2 (okAt_at C.2.2.2.1 hi) C.2.2.2.2.2
theorem j_zret (C : CX p R s m args meth c cc nL own (some .boolean) pr D cl tys A) (i : Nat) (hi : pr[i]? = some (pc, .ireturn, 1)) {σ : Type} {F : σ → va_W} {S : σ} {K : Int32 → σ → Prop} {v : Int32} (hv : isB v) (h : K v S) : J p l e R s m args below meth c nL D cl A kc ks (MQ below (va_Qi K (fun u t => QK D cl tys A (F u) t) A) args s kc ks A) (F S) lv pc [.int v] := by
  intro H locs ls hP hD hS hl
  exact W.zret C.1.1 C.1.2.1 C.2.2.2.2.1 (isB_nar hv) (fun t ht hW => ⟨⟨v, S, rfl, h, by rw [ht]; exact hP, va_K.moved hW.alike C.2.1, hD⟩, hS.F ht⟩) hS.2.2 (okAt_at C.2.2.2.1 hi) C.2.2.2.2.2
theorem j_vret (C : CX p R s m args meth c cc nL own none pr D cl tys A) (i : Nat) (hi : pr[i]? = some (pc, .return_, 1)) {σ : Type} {F : σ → va_W} {S : σ} {K : σ → Prop} (h : K S) : J p l e R s m args below meth c nL D cl A kc ks (MQ below (va_Qv K (fun u t => QK D cl tys A (F u) t) A) args s kc ks A) (F S) lv pc [] := by
  intro H locs ls hP hD hS hl
  exact W.vret C.1.1 C.1.2.1 C.2.2.2.2.1 (fun t ht hW => ⟨⟨S, rfl, h, by rw [ht]; exact hP, va_K.moved hW.alike C.2.1, hD⟩, hS.F ht⟩) hS.2.2 (okAt_at C.2.2.2.1 hi) C.2.2.2.2.2
theorem swP_c {x k : Int32} {P : Nat → Prop} {d t : Nat} {r : List (Int32 × Nat)} (a : x = k → P t) (b : ¬ x = k → swP x P d r) : swP x P d ((k, t) :: r) := ⟨a, b⟩
theorem swP_n {x : Int32} {P : Nat → Prop} {d : Nat} (a : P d) : swP x P d [] := a
theorem j_perm {ws' : va_W} (is : List Nat) (hn : va_nd is = true) (hs : is.map (fun i => ws[i]?) = ws'.map some) (hs' : is.filterMap (fun i => ws[i]?) = ws') (k : J p l e R s m args below meth c nL D cl A kc ks Q ws' lv pc rs) : J p l e R s m args below meth c nL D cl A kc ks Q ws lv pc rs := fun H locs ls hP hD hS hl => k H locs ls (hP.sub is hs') (hD.sub is hn hs) hS hl
end JR
/-- a method's contract out of its walk -/
theorem met_of {l : Launch} {y : MethodName} {bytes : ByteArray} {maxL : Nat} {rt : Option FieldType} {rm : Room} {D : va_G} {cl : List vw_C} {tys : List (ClassId × FieldType)} {ws : va_W} {av : List Value} {pr : List (Nat × Instr × Nat)} {Qc : (Nat → Prop) → Array Value → State → Outcome → State → Prop} (hy : plainName y.cls = true) (hpr : okAt bytes pr) (hav : (lg_sl av).length ≤ maxL) (body : ∀ (p : Program) (e : Env) (s : State) (m : MethodId) (args : Array Value) (below : List Frame) (meth : Method) (c : Code) (A : Nat → Prop), CX p rm s m args meth c bytes maxL y.cls rt pr D cl tys A → J p l e rm s m args below meth c maxL D cl A 0 0 (MQ below (Qc A) args s 0 0 A) ws (lv_args 0 av) 0 []) (sz : Nat) : Met l y (Cond.code y bytes maxL rt :: gw) rm (va_Pc av (PK D cl tys ws sz)) (Qc (va_A ws sz)) 0 0 (va_A ws sz) := by
  refine Met.ofW (cc := bytes) (maxL := maxL) (ret := rt) hy rfl ?_
  intro p e s m args below meth c s₁ B hml hv
  obtain ⟨rfl, hsz, hP, hK, hD0⟩ := hv
  subst hsz
  have hts := atoms_spec (ws := Cond.code y bytes maxL rt :: gw) B.pre
  have hown : s.vm.findClass y.cls = some m.cls := findClass_of_methodNamed B.named
  have hD := hD0.self (sz := s.heap.size)
  have hl := lv_entry av (n := maxL) hav
  rw [lg_entry_eq]
  exact body p e s m av.toArray below meth c (va_A ws s.heap.size) ⟨⟨B.exec, B.bytes, hml, hown, fun w h => hts w (List.mem_cons_of_mem _ h)⟩, hK, fun q h => Or.inr h, hpr, B.returns, B.notSynchronized⟩ s.heap [] _ hP hD va_S.rf hl
