/-- what a call needs of a constructor -/
def mC (y : MethodName) (bytes : ByteArray) (maxL : Nat) (n : Nat) : Prop := y.name = "<init>" ∧ Cond.instanceMethod y ∈ gw ∧ Cond.initialized y.cls ∈ gw ∧ Cond.code y bytes maxL none ∈ gw ∧ y.cls ≠ "java/lang/invoke/MethodHandle" ∧ y.cls ≠ "java/lang/invoke/VarHandle" ∧ (parseMethodDescriptor y.desc).map (fun d => d.parameters.length) = some n
/-- a final field's link, in its constructor -/
def fF (cl : List vw_C) (own : String) (index ci k : Nat) (ty : FieldType) : Prop := ∃ (Cn : String) (T : u_T) (N : Nat) (ty0 : Nat → FieldType), cl[ci]? = some (Cn, T, N) ∧ (∀ w ∈ u_ws Cn T N, w ∈ gw) ∧ k < N ∧ Cond.fieldLink own index (T k).1 (T k).2.1 (T k).2.2.1 ∈ gw ∧ (∀ k, k < N → parseFieldDescriptor (T k).2.2.1 = some (ty0 k)) ∧ (∀ a, a < N → ∀ b, b < N → a ≠ b → (T a).2.1 ≠ (T b).2.1) ∧ (T k).2.2.2 = true ∧ parseFieldDescriptor (T k).2.2.1 = some ty ∧ (T k).1 = own
theorem va_left {D : va_G} {cl : List vw_C} {X Y : va_W} {H : Heap} (h : va_P D cl (X ++ Y) H) : va_P D cl X H := fun k q hk => h k q (by
  have hl : k < X.length := (List.getElem?_eq_some_iff.mp hk).1
  rw [List.getElem?_append_left hl]; exact hk)
theorem va_right {D : va_G} {cl : List vw_C} {X Y : va_W} {H : Heap} (h : va_P D cl (X ++ Y) H) : va_P D cl Y H := fun k q hk => h (X.length + k) q (by
  rw [List.getElem?_append_right (by omega), Nat.add_sub_cancel_left]; exact hk)
theorem va_Dleft {A : Nat → Prop} {X Y : va_W} (h : va_D A (X ++ Y)) : va_D A X := by
  have at' : ∀ (k : Nat) (q : Nat × va_E), X[k]? = some q → (X ++ Y)[k]? = some q := fun k q hk => by
    have hl : k < X.length := (List.getElem?_eq_some_iff.mp hk).1
    rw [List.getElem?_append_left hl]; exact hk
  exact ⟨fun i j p q hi hj e => h.1 i j p q (at' i p hi) (at' j q hj) e, fun k q hk => h.2 k q (at' k q hk)⟩
theorem va_Dright {A : Nat → Prop} {X Y : va_W} (h : va_D A (X ++ Y)) : va_D A Y := by
  have at' : ∀ (k : Nat) (q : Nat × va_E), Y[k]? = some q → (X ++ Y)[X.length + k]? = some q := fun k q hk => by
    rw [List.getElem?_append_right (by omega), Nat.add_sub_cancel_left]; exact hk
  exact ⟨fun i j p q hi hj e => by have := h.1 _ _ p q (at' i p hi) (at' j q hj) e; omega, fun k q hk => h.2 _ q (at' k q hk)⟩
theorem va_Dapart {A : Nat → Prop} {X Y : va_W} (h : va_D A (X ++ Y)) {i j : Nat} {p q : Nat × va_E} (hi : X[i]? = some p) (hj : Y[j]? = some q) : p.1 ≠ q.1 := by
  intro e
  have hl : i < X.length := (List.getElem?_eq_some_iff.mp hi).1
  have := h.1 i (X.length + j) p q (by rw [List.getElem?_append_left hl]; exact hi) (by rw [List.getElem?_append_right (by omega), Nat.add_sub_cancel_left]; exact hj) e
  omega
theorem va_again {A : Nat → Prop} {D : va_G} {cl : List vw_C} {X Y Y1 : va_W} {H H1 : Heap} (hP : va_P D cl (X ++ Y) H) (hD : va_D A (X ++ Y)) (hk : ∀ q : Nat, q < H.size → ¬ va_A Y H.size q → H1[q]? = H[q]?) (hF : ∀ q, va_A Y H.size q → A q) (hP1 : va_P D cl Y1 H1) (hD1 : va_D (va_A Y H.size) Y1) : va_P D cl (X ++ Y1) H1 ∧ va_D A (X ++ Y1) := by
  have ap : ∀ (k : Nat) (q : Nat × va_E), X[k]? = some q → q.1 < H.size ∧ ¬ va_A Y H.size q.1 := by
    intro k q hq
    have hl := (va_left hP k q hq).lt
    refine ⟨hl, fun h => ?_⟩
    rcases h with ⟨j, e, h⟩ | h
    · exact va_Dapart hD hq h rfl
    · omega
  refine ⟨va_P.app (fun k q hq => (va_left hP k q hq).kept (hk q.1 (ap k q hq).1 (ap k q hq).2)) hP1, va_D.app (va_Dleft hD) (hD1.weaken (fun k q _ h => hF q.1 h)) (fun i j x y hx hy hxy => ?_)⟩
  exact (ap i x hx).2 (by rw [hxy]; exact hD1.2 j y hy)
theorem va_freeY {A : Nat → Prop} {X Y : va_W} {H0 H : Heap} {locs : List Loc} (hD : va_D A (X ++ Y)) (hS : va_S A H0 H locs) (hA : ∀ q, H0.size ≤ q → A q) : ∀ q, va_A Y H.size q → A q := by
  intro q h
  rcases h with ⟨j, e1, h⟩ | h
  · exact (va_Dright hD).2 j (q, e1) h
  · exact hA q (Nat.le_trans hS.1 h)
section JF
variable {p : Program} {l : Launch} {e : Env} {R : Room} {s : State} {m : MethodId} {args : Array Value} {below : List Frame} {meth : Method} {c : Code} {Q : State → Prop} {cc : ByteArray} {nL : Nat} {own : String} {ret : Option FieldType} {pr : List (Nat × Instr × Nat)} {D : va_G} {cl : List vw_C} {tys : List (ClassId × FieldType)} {A : Nat → Prop} {kc ks : Nat} {ws : va_W} {lv : List (Nat × Value)} {pc : Nat} {rs : List Value}
theorem j_swap {X Y : va_W} (k : J p l e R s m args below meth c nL D cl A kc ks Q (Y ++ X) lv pc rs) : J p l e R s m args below meth c nL D cl A kc ks Q (X ++ Y) lv pc rs := fun H locs ls hP hD hS hl => k H locs ls (va_P.app (va_right hP) (va_left hP)) (va_D.app (va_Dright hD) (va_Dleft hD) (fun i j x y hx hy e => va_Dapart hD hy hx e.symm)) hS hl
theorem j_eqw {ws' : va_W} (h : ws = ws') (k : J p l e R s m args below meth c nL D cl A kc ks Q ws' lv pc rs) : J p l e R s m args below meth c nL D cl A kc ks Q ws lv pc rs := h ▸ k
theorem j_fcallVi (C : CX p R s m args meth c cc nL own ret pr D cl tys A) (i n : Nat) {index : Nat} {y : MethodName} {bytes : ByteArray} {maxL na mc ms kc' ks' : Nat} {rt : Option FieldType} {rm : Room} {b : Nat} {As stk : List Value} (hi : pr[i]? = some (pc, .invokevirtual index, 3)) (hn : pc + 3 = n) (hlink : Cond.methodLink own index y ∈ gw) (hm : mI y bytes maxL rt na) {σ : Type} {X wc : va_W} {F : σ → va_W} {K : Int32 → σ → Prop} (hM : ∀ sz : Nat, Met l y (Cond.code y bytes maxL rt :: gw) rm (va_Pc (.ref b :: As) (PK D cl tys wc sz)) (va_Qi K (fun u t => QK D cl tys (va_A wc sz) (F u) t) (va_A wc sz)) mc ms (va_A wc sz)) (hrm : rm.cells = mc ∧ rm.slots = ms) (hR : rm.frames + 1 ≤ R.frames ∧ 8 + (maxL + 11) + rm.locals ≤ R.locals) (q : Nat) {ci : Nat} {fs : List Value} {Tn : u_T} {Nn : Nat} (he : wc[q]? = some (b, .inr (ci, fs))) (hc : cl[ci]? = some (y.cls, Tn, Nn)) (hlen : As.length = na) (hkc : kc + mc = kc') (hks : ks + ms = ks') (hcs : kc' ≤ R.cells ∧ ks' ≤ R.slots) (hsum : (rs.map fun v => v.category).sum ≤ 8) (hstk : stk = As.reverse ++ .ref b :: rs) (k : ∀ r u, K r u → J p l e R s m args below meth c nL D cl A kc' ks' Q (X ++ F u) lv n (.int r :: rs)) : J p l e R s m args below meth c nL D cl A kc ks Q (X ++ wc) lv pc stk := by
  subst hn hstk hkc hks
  intro H locs ls hP hD hS hl
  have hFc := va_freeY hD hS C.2.2.1
  have hPc := va_right hP
  have hDc := va_Dright hD
  obtain ⟨w1, w2, w3, w4, d1, d2, d3⟩ := hm
  have cw : CallW R s args own y.cls index y bytes maxL rt (Cond.code y bytes maxL rt :: gw) rm mc ms na := ⟨callB_of na C.1.2.2.2.2 (gw_code w4) rfl hrm.1 hrm.2 (C.1.2.2.2.2 _ w3) (C.1.2.2.2.2 _ hlink) ⟨d1, d2, d3⟩ hR, C.1.2.2.2.2 _ w1, C.1.2.2.2.2 _ w2⟩
  refine va_calli (va_runV (As := As) (rest := rs) C.1 (hM H.size) cw ⟨fun a U g mk z => by obtain ⟨z0, z1, zP, zK, zD⟩ := z; exact ⟨z0, z1, zP, va_K.moved (u := U) (U := U.calling g mk a) (Vm.Alike.refl U.vm) zK, zD⟩, va_recv C.2.1 hPc hc he, fun U hU hW => ⟨rfl, by rw [hU], by rw [hU]; exact hPc, va_K.moved hW.alike C.2.1, hDc.weaken (fun _ _ _ _ => trivial)⟩⟩ rfl hlen hl.1 rfl (lv_room hsum) (okAt_at C.2.2.2.1 hi) hcs) hS (fun q _ h => hFc q h) hFc (fun r u t H1 locs1 ht hvm hw hB hz hk hS1 => ?_)
  obtain ⟨hP1, hK1, hD1⟩ := hB
  rw [ht] at hP1
  obtain ⟨hP2, hD2⟩ := va_again hP hD hk hFc hP1 hD1
  exact k r u hw H1 locs1 ls hP2 hD2 hS1 hl
theorem j_fcallVv (C : CX p R s m args meth c cc nL own ret pr D cl tys A) (i n : Nat) {index : Nat} {y : MethodName} {bytes : ByteArray} {maxL na mc ms kc' ks' : Nat} {rt : Option FieldType} {rm : Room} {b : Nat} {As stk : List Value} (hi : pr[i]? = some (pc, .invokevirtual index, 3)) (hn : pc + 3 = n) (hlink : Cond.methodLink own index y ∈ gw) (hm : mI y bytes maxL rt na) {σ : Type} {X wc : va_W} {F : σ → va_W} {K : σ → Prop} (hM : ∀ sz : Nat, Met l y (Cond.code y bytes maxL rt :: gw) rm (va_Pc (.ref b :: As) (PK D cl tys wc sz)) (va_Qv K (fun u t => QK D cl tys (va_A wc sz) (F u) t) (va_A wc sz)) mc ms (va_A wc sz)) (hrm : rm.cells = mc ∧ rm.slots = ms) (hR : rm.frames + 1 ≤ R.frames ∧ 8 + (maxL + 11) + rm.locals ≤ R.locals) (q : Nat) {ci : Nat} {fs : List Value} {Tn : u_T} {Nn : Nat} (he : wc[q]? = some (b, .inr (ci, fs))) (hc : cl[ci]? = some (y.cls, Tn, Nn)) (hlen : As.length = na) (hkc : kc + mc = kc') (hks : ks + ms = ks') (hcs : kc' ≤ R.cells ∧ ks' ≤ R.slots) (hsum : (rs.map fun v => v.category).sum ≤ 8) (hstk : stk = As.reverse ++ .ref b :: rs) (k : ∀ u, K u → J p l e R s m args below meth c nL D cl A kc' ks' Q (X ++ F u) lv n rs) : J p l e R s m args below meth c nL D cl A kc ks Q (X ++ wc) lv pc stk := by
  subst hn hstk hkc hks
  intro H locs ls hP hD hS hl
  have hFc := va_freeY hD hS C.2.2.1
  have hPc := va_right hP
  have hDc := va_Dright hD
  obtain ⟨w1, w2, w3, w4, d1, d2, d3⟩ := hm
  have cw : CallW R s args own y.cls index y bytes maxL rt (Cond.code y bytes maxL rt :: gw) rm mc ms na := ⟨callB_of na C.1.2.2.2.2 (gw_code w4) rfl hrm.1 hrm.2 (C.1.2.2.2.2 _ w3) (C.1.2.2.2.2 _ hlink) ⟨d1, d2, d3⟩ hR, C.1.2.2.2.2 _ w1, C.1.2.2.2.2 _ w2⟩
  refine va_callv (va_runV (As := As) (rest := rs) C.1 (hM H.size) cw ⟨fun a U g mk z => by obtain ⟨z0, z1, zP, zK, zD⟩ := z; exact ⟨z0, z1, zP, va_K.moved (u := U) (U := U.calling g mk a) (Vm.Alike.refl U.vm) zK, zD⟩, va_recv C.2.1 hPc hc he, fun U hU hW => ⟨rfl, by rw [hU], by rw [hU]; exact hPc, va_K.moved hW.alike C.2.1, hDc.weaken (fun _ _ _ _ => trivial)⟩⟩ rfl hlen hl.1 rfl (lv_room hsum) (okAt_at C.2.2.2.1 hi) hcs) hS (fun q _ h => hFc q h) hFc (fun u t H1 locs1 ht hvm hw hB hz hk hS1 => ?_)
  obtain ⟨hP1, hK1, hD1⟩ := hB
  rw [ht] at hP1
  obtain ⟨hP2, hD2⟩ := va_again hP hD hk hFc hP1 hD1
  exact k u hw H1 locs1 ls hP2 hD2 hS1 hl
theorem j_fcallSi (C : CX p R s m args meth c cc nL own ret pr D cl tys A) (i n : Nat) {index : Nat} {y : MethodName} {bytes : ByteArray} {maxL na mc ms kc' ks' : Nat} {rt : Option FieldType} {rm : Room} {As stk : List Value} (hi : pr[i]? = some (pc, .invokestatic index, 3)) (hn : pc + 3 = n) (hlink : Cond.methodLink own index y ∈ gw) (hm : mS y bytes maxL rt na) {σ : Type} {X wc : va_W} {F : σ → va_W} {K : Int32 → σ → Prop} {E : State → Prop} (hXb : ∀ a U g mk, E U → E (State.calling U g mk a)) (hX : ∀ U : State, s.WarmedH U.vm → E U) (hM : ∀ sz : Nat, Met l y (Cond.code y bytes maxL rt :: gw) rm (va_Pc As (fun U => PK D cl tys wc sz U ∧ E U)) (va_Qi K (fun u t => QK D cl tys (va_A wc sz) (F u) t) (va_A wc sz)) mc ms (va_A wc sz)) (hrm : rm.cells = mc ∧ rm.slots = ms) (hR : rm.frames + 1 ≤ R.frames ∧ 8 + (maxL + 11) + rm.locals ≤ R.locals) (hlen : As.length = na) (hkc : kc + mc = kc') (hks : ks + ms = ks') (hcs : kc' ≤ R.cells ∧ ks' ≤ R.slots) (hsum : (rs.map fun v => v.category).sum ≤ 8) (hstk : stk = As.reverse ++ rs) (k : ∀ r u, K r u → J p l e R s m args below meth c nL D cl A kc' ks' Q (X ++ F u) lv n (.int r :: rs)) : J p l e R s m args below meth c nL D cl A kc ks Q (X ++ wc) lv pc stk := by
  subst hn hstk hkc hks
  intro H locs ls hP hD hS hl
  have hFc := va_freeY hD hS C.2.2.1
  have hPc := va_right hP
  have hDc := va_Dright hD
  obtain ⟨w1, w3, w4, d1, d2, d3⟩ := hm
  have cw : CallB R s args own index y bytes maxL rt (Cond.code y bytes maxL rt :: gw) rm mc ms na ∧ (Cond.static y).before args s = true := ⟨callB_of na C.1.2.2.2.2 (gw_code w4) rfl hrm.1 hrm.2 (C.1.2.2.2.2 _ w3) (C.1.2.2.2.2 _ hlink) ⟨d1, d2, d3⟩ hR, C.1.2.2.2.2 _ w1⟩
  refine va_calli (va_runS (As := As) (rest := rs) C.1 (hM H.size) cw ⟨fun a U g mk z => by obtain ⟨z0, ⟨z1, zP, zK, zD⟩, zX⟩ := z; exact ⟨z0, ⟨z1, zP, va_K.moved (u := U) (U := U.calling g mk a) (Vm.Alike.refl U.vm) zK, zD⟩, hXb a U g mk zX⟩, fun U hU hW => ⟨rfl, ⟨by rw [hU], by rw [hU]; exact hPc, va_K.moved hW.alike C.2.1, hDc.weaken (fun _ _ _ _ => trivial)⟩, hX U hW⟩⟩ rfl hlen hl.1 rfl (lv_room hsum) (okAt_at C.2.2.2.1 hi) hcs) hS (fun q _ h => hFc q h) hFc (fun r u t H1 locs1 ht hvm hw hB hz hk hS1 => ?_)
  obtain ⟨hP1, hK1, hD1⟩ := hB
  rw [ht] at hP1
  obtain ⟨hP2, hD2⟩ := va_again hP hD hk hFc hP1 hD1
  exact k r u hw H1 locs1 ls hP2 hD2 hS1 hl
theorem j_fcallSv (C : CX p R s m args meth c cc nL own ret pr D cl tys A) (i n : Nat) {index : Nat} {y : MethodName} {bytes : ByteArray} {maxL na mc ms kc' ks' : Nat} {rt : Option FieldType} {rm : Room} {As stk : List Value} (hi : pr[i]? = some (pc, .invokestatic index, 3)) (hn : pc + 3 = n) (hlink : Cond.methodLink own index y ∈ gw) (hm : mS y bytes maxL rt na) {σ : Type} {X wc : va_W} {F : σ → va_W} {K : σ → Prop} {E : State → Prop} (hXb : ∀ a U g mk, E U → E (State.calling U g mk a)) (hX : ∀ U : State, s.WarmedH U.vm → E U) (hM : ∀ sz : Nat, Met l y (Cond.code y bytes maxL rt :: gw) rm (va_Pc As (fun U => PK D cl tys wc sz U ∧ E U)) (va_Qv K (fun u t => QK D cl tys (va_A wc sz) (F u) t) (va_A wc sz)) mc ms (va_A wc sz)) (hrm : rm.cells = mc ∧ rm.slots = ms) (hR : rm.frames + 1 ≤ R.frames ∧ 8 + (maxL + 11) + rm.locals ≤ R.locals) (hlen : As.length = na) (hkc : kc + mc = kc') (hks : ks + ms = ks') (hcs : kc' ≤ R.cells ∧ ks' ≤ R.slots) (hsum : (rs.map fun v => v.category).sum ≤ 8) (hstk : stk = As.reverse ++ rs) (k : ∀ u, K u → J p l e R s m args below meth c nL D cl A kc' ks' Q (X ++ F u) lv n rs) : J p l e R s m args below meth c nL D cl A kc ks Q (X ++ wc) lv pc stk := by
  subst hn hstk hkc hks
  intro H locs ls hP hD hS hl
  have hFc := va_freeY hD hS C.2.2.1
  have hPc := va_right hP
  have hDc := va_Dright hD
  obtain ⟨w1, w3, w4, d1, d2, d3⟩ := hm
  have cw : CallB R s args own index y bytes maxL rt (Cond.code y bytes maxL rt :: gw) rm mc ms na ∧ (Cond.static y).before args s = true := ⟨callB_of na C.1.2.2.2.2 (gw_code w4) rfl hrm.1 hrm.2 (C.1.2.2.2.2 _ w3) (C.1.2.2.2.2 _ hlink) ⟨d1, d2, d3⟩ hR, C.1.2.2.2.2 _ w1⟩
  refine va_callv (va_runS (As := As) (rest := rs) C.1 (hM H.size) cw ⟨fun a U g mk z => by obtain ⟨z0, ⟨z1, zP, zK, zD⟩, zX⟩ := z; exact ⟨z0, ⟨z1, zP, va_K.moved (u := U) (U := U.calling g mk a) (Vm.Alike.refl U.vm) zK, zD⟩, hXb a U g mk zX⟩, fun U hU hW => ⟨rfl, ⟨by rw [hU], by rw [hU]; exact hPc, va_K.moved hW.alike C.2.1, hDc.weaken (fun _ _ _ _ => trivial)⟩, hX U hW⟩⟩ rfl hlen hl.1 rfl (lv_room hsum) (okAt_at C.2.2.2.1 hi) hcs) hS (fun q _ h => hFc q h) hFc (fun u t H1 locs1 ht hvm hw hB hz hk hS1 => ?_)
  obtain ⟨hP1, hK1, hD1⟩ := hB
  rw [ht] at hP1
  obtain ⟨hP2, hD2⟩ := va_again hP hD hk hFc hP1 hD1
  exact k u hw H1 locs1 ls hP2 hD2 hS1 hl
theorem j_fcallIv (C : CX p R s m args meth c cc nL own ret pr D cl tys A) (i n : Nat) {index : Nat} {y : MethodName} {bytes : ByteArray} {maxL na mc ms kc' ks' : Nat} {rm : Room} {b : Nat} {As stk : List Value} (hi : pr[i]? = some (pc, .invokespecial index, 3)) (hn : pc + 3 = n) (hlink : Cond.methodLink own index y ∈ gw) (hm : mC y bytes maxL na) {σ : Type} {X wc : va_W} {F : σ → va_W} {K : σ → Prop} {E : State → Prop} (hXb : ∀ a U g mk, E U → E (State.calling U g mk a)) (hX : ∀ U : State, s.WarmedH U.vm → E U) (hM : ∀ sz : Nat, Met l y (Cond.code y bytes maxL none :: gw) rm (va_Pc (.ref b :: As) (fun U => PK D cl tys wc sz U ∧ E U)) (va_Qv K (fun u t => QK D cl tys (va_A wc sz) (F u) t) (va_A wc sz)) mc ms (va_A wc sz)) (hrm : rm.cells = mc ∧ rm.slots = ms) (hR : rm.frames + 1 ≤ R.frames ∧ 8 + (maxL + 11) + rm.locals ≤ R.locals) (hlen : As.length = na) (hkc : kc + mc = kc') (hks : ks + ms = ks') (hcs : kc' ≤ R.cells ∧ ks' ≤ R.slots) (hsum : (rs.map fun v => v.category).sum ≤ 8) (hstk : stk = As.reverse ++ .ref b :: rs) (k : ∀ u, K u → J p l e R s m args below meth c nL D cl A kc' ks' Q (X ++ F u) lv n rs) : J p l e R s m args below meth c nL D cl A kc ks Q (X ++ wc) lv pc stk := by
  subst hn hstk hkc hks
  intro H locs ls hP hD hS hl
  have hFc := va_freeY hD hS C.2.2.1
  have hPc := va_right hP
  have hDc := va_Dright hD
  obtain ⟨w0, w1, w3, w4, d1, d2, d3⟩ := hm
  have cw : CallB R s args own index y bytes maxL none (Cond.code y bytes maxL none :: gw) rm mc ms na ∧ y.name = "<init>" ∧ (Cond.instanceMethod y).before args s = true := cwI na C.1.2.2.2.2 (gw_code w4) rfl hrm.1 hrm.2 (C.1.2.2.2.2 _ w3) (C.1.2.2.2.2 _ hlink) (C.1.2.2.2.2 _ w1) w0 ⟨d1, d2, d3⟩ hR
  refine va_callv (va_runI (As := As) (rest := rs) C.1 (hM H.size) cw ⟨fun a U g mk z => by obtain ⟨z0, ⟨z1, zP, zK, zD⟩, zX⟩ := z; exact ⟨z0, ⟨z1, zP, va_K.moved (u := U) (U := U.calling g mk a) (Vm.Alike.refl U.vm) zK, zD⟩, hXb a U g mk zX⟩, fun U hU hW => ⟨rfl, ⟨by rw [hU], by rw [hU]; exact hPc, va_K.moved hW.alike C.2.1, hDc.weaken (fun _ _ _ _ => trivial)⟩, hX U hW⟩⟩ rfl hlen hl.1 rfl (lv_room hsum) (okAt_at C.2.2.2.1 hi) hcs) hS (fun q _ h => hFc q h) hFc (fun u t H1 locs1 ht hvm hw hB hz hk hS1 => ?_)
  obtain ⟨hP1, hK1, hD1⟩ := hB
  rw [ht] at hP1
  obtain ⟨hP2, hD2⟩ := va_again hP hD hk hFc hP1 hD1
  exact k u hw H1 locs1 ls hP2 hD2 hS1 hl
theorem j_fcallNv (C : CX p R s m args meth c cc nL own ret pr D cl tys A) (i n : Nat) {index : Nat} {y : MethodName} {bytes : ByteArray} {maxL na mc ms kc' ks' : Nat} {rm : Room} {b : Nat} {As stk : List Value} {host : String} (hi : pr[i]? = some (pc, .invokespecial index, 3)) (hn : pc + 3 = n) (hlink : va_Nw (.methodLinkNest own index y host) s) (hm : mC y bytes maxL na) {σ : Type} {X wc : va_W} {F : σ → va_W} {K : σ → Prop} {E : State → Prop} (hXb : ∀ a U g mk, E U → E (State.calling U g mk a)) (hX : ∀ U : State, s.WarmedH U.vm → E U) (hM : ∀ sz : Nat, Met l y (Cond.code y bytes maxL none :: gw) rm (va_Pc (.ref b :: As) (fun U => PK D cl tys wc sz U ∧ E U)) (va_Qv K (fun u t => QK D cl tys (va_A wc sz) (F u) t) (va_A wc sz)) mc ms (va_A wc sz)) (hrm : rm.cells = mc ∧ rm.slots = ms) (hR : rm.frames + 1 ≤ R.frames ∧ 8 + (maxL + 11) + rm.locals ≤ R.locals) (hlen : As.length = na) (hkc : kc + mc = kc') (hks : ks + ms = ks') (hcs : kc' ≤ R.cells ∧ ks' ≤ R.slots) (hsum : (rs.map fun v => v.category).sum ≤ 8) (hstk : stk = As.reverse ++ .ref b :: rs) (k : ∀ u, K u → J p l e R s m args below meth c nL D cl A kc' ks' Q (X ++ F u) lv n rs) : J p l e R s m args below meth c nL D cl A kc ks Q (X ++ wc) lv pc stk := by
  subst hn hstk hkc hks
  intro H locs ls hP hD hS hl
  have hFc := va_freeY hD hS C.2.2.1
  have hPc := va_right hP
  have hDc := va_Dright hD
  obtain ⟨w0, w1, w3, w4, d1, d2, d3⟩ := hm
  have cw : va_CN R s args own index y host bytes maxL none (Cond.code y bytes maxL none :: gw) rm mc ms na ∧ y.name = "<init>" ∧ (Cond.instanceMethod y).before args s = true := ⟨va_cnB na C.1.2.2.2.2 (gw_code w4) rfl hrm.1 hrm.2 hlink (C.1.2.2.2.2 _ w3) ⟨d1, d2, d3⟩ hR, w0, C.1.2.2.2.2 _ w1⟩
  refine va_callv (va_runIN (As := As) (rest := rs) C.1 (hM H.size) cw ⟨fun a U g mk z => by obtain ⟨z0, ⟨z1, zP, zK, zD⟩, zX⟩ := z; exact ⟨z0, ⟨z1, zP, va_K.moved (u := U) (U := U.calling g mk a) (Vm.Alike.refl U.vm) zK, zD⟩, hXb a U g mk zX⟩, fun U hU hW => ⟨rfl, ⟨by rw [hU], by rw [hU]; exact hPc, va_K.moved hW.alike C.2.1, hDc.weaken (fun _ _ _ _ => trivial)⟩, hX U hW⟩⟩ rfl hlen hl.1 rfl (lv_room hsum) (okAt_at C.2.2.2.1 hi) hcs) hS (fun q _ h => hFc q h) hFc (fun u t H1 locs1 ht hvm hw hB hz hk hS1 => ?_)
  obtain ⟨hP1, hK1, hD1⟩ := hB
  rw [ht] at hP1
  obtain ⟨hP2, hD2⟩ := va_again hP hD hk hFc hP1 hD1
  exact k u hw H1 locs1 ls hP2 hD2 hS1 hl
theorem j_new (C : CX p R s m args meth c cc nL own ret pr D cl tys A) (i n : Nat) {index : Nat} (hi : pr[i]? = some (pc, .new index, 3)) (hn : pc + 3 = n) {Cn : String} {T : u_T} {N ci kc' ks' : Nat} (hcl : Cond.classLink own index Cn ∈ gw) (hinst : Cond.instantiable Cn N ∈ gw) (hini : Cond.initialized Cn ∈ gw) (hc : cl[ci]? = some (Cn, T, N)) (hin : ∀ w ∈ u_ws Cn T N, w ∈ gw) (ty : Nat → FieldType) (hty : ∀ k, k < N → parseFieldDescriptor (T k).2.2.1 = some (ty k)) (fs : List Value) (hfs : ∀ j, j < N → defaultValue (ty j) = vp_V fs j) (hkc : kc + 1 = kc') (hks : ks + N = ks') (hcs : kc' ≤ R.cells ∧ ks' ≤ R.slots) (k : ∀ q : Nat, J p l e R s m args below meth c nL D cl A kc' ks' Q (ws ++ [(q, .inr (ci, fs))]) lv n (.ref q :: rs)) : J p l e R s m args below meth c nL D cl A kc ks Q ws lv pc rs := by
  subst hn hkc hks
  intro H locs ls hP hD hS hl
  exact va_new C.1.1 C.1.2.1 C.1.2.2.2.2 hin ty hty C.1.2.2.2.1 (C.1.2.2.2.2 _ hcl) (C.1.2.2.2.2 _ hinst) (C.1.2.2.2.2 _ hini) C.2.1 hP hD hS C.2.2.1 hc hfs hcs.1 hcs.2 (okAt_at C.2.2.2.1 hi) (fun q H1 hP hD hS => k q H1 locs ls hP hD hS hl)
theorem j_newai (C : CX p R s m args meth c cc nL own ret pr D cl tys A) (i n : Nat) (hi : pr[i]? = some (pc, .newarray .int, 2)) (hn : pc + 2 = n) (harr : Cond.arrayClass .int ∈ gw) (t : Nat) {cA : ClassId} (ht : tys[t]? = some (cA, .int)) {x : Int32} (N' : Nat) {kc' ks' : Nat} (hx : ¬ x < 0) (hN : x.toNatClampNeg = N') (hb : N' * componentBytes .int ≤ 536870912) (hkc : kc + 1 = kc') (hks : ks + N' = ks') (hcs : kc' ≤ R.cells ∧ ks' ≤ R.slots) (k : ∀ q : Nat, J p l e R s m args below meth c nL D cl A kc' ks' Q (ws ++ [(q, .inl (cA, N', .inl (fun _ => 0)))]) lv n (.ref q :: rs)) : J p l e R s m args below meth c nL D cl A kc ks Q ws lv pc (.int x :: rs) := by
  subst hn hkc hks
  intro H locs ls hP hD hS hl
  refine va_newa (atype := .int) (ty := .int) (a0 := (N', .inl (fun _ => 0))) C.1.1 C.1.2.1 (C.1.2.2.2.2 _ harr) rfl C.2.1 hP hD hS C.2.2.1 (fun cA => rfl) hx hN hb hcs.1 hcs.2 (okAt_at C.2.2.2.1 hi) (fun q cA' H1 hK1 hP1 hD1 hS1 => ?_)
  have e1 : s.vm.findClass ("[" ++ FieldType.toString .int) = some cA' := by
    have h1 := (hK1.2 tys.length (cA', .int) (by rw [List.getElem?_append_right (by omega)]; simp)).2
    exact h1
  have e2 : s.vm.findClass ("[" ++ FieldType.toString .int) = some cA := (C.2.1.2 t _ ht).2
  have e3 : cA' = cA := Option.some.inj (e1.symm.trans e2)
  subst e3
  exact k q H1 locs ls hP1 hD1 hS1 hl
theorem j_newaz (C : CX p R s m args meth c cc nL own ret pr D cl tys A) (i n : Nat) (hi : pr[i]? = some (pc, .newarray .boolean, 2)) (hn : pc + 2 = n) (harr : Cond.arrayClass .boolean ∈ gw) (t : Nat) {cA : ClassId} (ht : tys[t]? = some (cA, .boolean)) {x : Int32} (N' : Nat) {kc' ks' : Nat} (hx : ¬ x < 0) (hN : x.toNatClampNeg = N') (hb : N' * componentBytes .boolean ≤ 536870912) (hkc : kc + 1 = kc') (hks : ks + N' = ks') (hcs : kc' ≤ R.cells ∧ ks' ≤ R.slots) (k : ∀ q : Nat, J p l e R s m args below meth c nL D cl A kc' ks' Q (ws ++ [(q, .inl (cA, N', .inl (fun _ => 0)))]) lv n (.ref q :: rs)) : J p l e R s m args below meth c nL D cl A kc ks Q ws lv pc (.int x :: rs) := by
  subst hn hkc hks
  intro H locs ls hP hD hS hl
  refine va_newa (atype := .boolean) (ty := .boolean) (a0 := (N', .inl (fun _ => 0))) C.1.1 C.1.2.1 (C.1.2.2.2.2 _ harr) rfl C.2.1 hP hD hS C.2.2.1 (fun cA => rfl) hx hN hb hcs.1 hcs.2 (okAt_at C.2.2.2.1 hi) (fun q cA' H1 hK1 hP1 hD1 hS1 => ?_)
  have e1 : s.vm.findClass ("[" ++ FieldType.toString .boolean) = some cA' := by
    have h1 := (hK1.2 tys.length (cA', .boolean) (by rw [List.getElem?_append_right (by omega)]; simp)).2
    exact h1
  have e2 : s.vm.findClass ("[" ++ FieldType.toString .boolean) = some cA := (C.2.1.2 t _ ht).2
  have e3 : cA' = cA := Option.some.inj (e1.symm.trans e2)
  subst e3
  exact k q H1 locs ls hP1 hD1 hS1 hl
theorem j_putF (C : CX p R s m args meth c cc nL own ret pr D cl tys A) (hnm : meth.name = "<init>") (i n : Nat) {index : Nat} (hi : pr[i]? = some (pc, .putfield index, 3)) (hn : pc + 3 = n) {ci f : Nat} {ty : FieldType} (hf : fF cl own index ci f ty) (q : Nat) {a : Nat} {fs : List Value} {v : Value} (he : ws[q]? = some (a, .inr (ci, fs))) (hfl : f < fs.length) (hna : narrow ty v = v) (hfi : fits ty v = true) (ws' : va_W) (hw : ws.set q (a, .inr (ci, fs.set f v)) = ws') (k : J p l e R s m args below meth c nL D cl A kc ks Q ws' lv n rs) : J p l e R s m args below meth c nL D cl A kc ks Q ws lv pc (v :: .ref a :: rs) := by
  subst hn
  intro H locs ls hP hD hS hl
  obtain ⟨Cn, T, N, ty0, h1, h2, h3, h4, h5, h6, h7, h8, h9⟩ := hf
  exact va_putF C.1.1 C.1.2.1 C.1.2.2.2.2 h2 ty0 h5 h6 C.1.2.2.2.1 C.2.1 hP hD hS q he h1 f h3 (C.1.2.2.2.2 _ h4) (fun _ h => h) h7 hnm h9 h8 hna hfi hfl (okAt_at C.2.2.2.1 hi) (fun H locs hP hD hS => k H locs ls (hw ▸ hP) (hw ▸ hD) hS hl)
theorem j_objInit (C : CX p R s m args meth c cc nL own ret pr D cl tys A) (i n : Nat) {index : Nat} (hi : pr[i]? = some (pc, .invokespecial index, 3)) (hn : pc + 3 = n) (hlink : Cond.methodLink own index Lib.objectInit ∈ gw) (hins : Cond.instanceMethod Lib.objectInit ∈ gw) (hco : Cond.code Lib.objectInit ⟨#[0xb1]⟩ 1 none ∈ gw) {a : Nat} (hfr : 1 ≤ R.frames) (hlo : (rs.map fun v => v.category).sum + 12 ≤ R.locals) (k : J p l e R s m args below meth c nL D cl A kc ks Q ws lv n rs) : J p l e R s m args below meth c nL D cl A kc ks Q ws lv pc (.ref a :: rs) := by
  subst hn
  intro H locs ls hP hD hS hl
  refine W.objInit C.1.1 C.1.2.1 C.1.2.2.2.1 (C.1.2.2.2.2 _ hlink) (C.1.2.2.2.2 _ hins) (C.1.2.2.2.2 _ hco) rfl (by rw [C.1.2.2.1]; exact hl.1) rfl (okAt_at C.2.2.2.1 hi) hfr (by show 2 * 0 + _ + 12 ≤ _; omega) ?_
  exact k H locs ls hP hD hS hl
theorem j_iastw (C : CX p R s m args meth c cc nL own ret pr D cl tys A) (i n : Nat) (hi : pr[i]? = some (pc, .iastore, 1)) (hn : pc + 1 = n) (q t : Nat) {a nn : Nat} {cA : ClassId} {f : Nat → Int32} {x y : Int32} (ha : ws[q]? = some (a, .inl (cA, nn, .inl f))) (ht : tys[t]? = some (cA, .int)) (hin : vp_in x nn) (ws' : va_W) (hw : ws.set q (a, .inl (cA, nn, .inl (upd f x.toNatClampNeg y))) = ws') (k : J p l e R s m args below meth c nL D cl A kc ks Q ws' lv n rs) : J p l e R s m args below meth c nL D cl A kc ks Q ws lv pc (.int y :: .int x :: .ref a :: rs) := by
  subst hn
  intro H locs ls hP hD hS hl
  exact va_iast C.1.1 C.1.2.1 C.2.1 hP hD hS q t ha ht hin (okAt_at C.2.2.2.1 hi) (fun H locs hP hD hS => k H locs ls (hw ▸ hP) (hw ▸ hD) hS hl)
theorem j_alen (C : CX p R s m args meth c cc nL own ret pr D cl tys A) (i n : Nat) (hi : pr[i]? = some (pc, .arraylength, 1)) (hn : pc + 1 = n) (q t : Nat) {a nn : Nat} {cA : ClassId} {f : Nat → Int32} (ha : ws[q]? = some (a, .inl (cA, nn, .inl f))) (ht : tys[t]? = some (cA, .int)) (k : J p l e R s m args below meth c nL D cl A kc ks Q ws lv n (.int (Int32.ofNat nn) :: rs)) : J p l e R s m args below meth c nL D cl A kc ks Q ws lv pc (.ref a :: rs) := by
  subst hn
  intro H locs ls hP hD hS hl
  exact va_alen (v := Int32.ofNat nn) C.1.1 C.1.2.1 C.2.1 hP q t ha ht rfl (okAt_at C.2.2.2.1 hi) (k H locs ls hP hD hS hl)
theorem j_slen (C : CX p R s m args meth c cc nL own ret pr D cl tys A) (i n : Nat) (hi : pr[i]? = some (pc, .arraylength, 1)) (hn : pc + 1 = n) {b L : Nat} {xs : Nat → Int32} (hX : va_X b L xs s s.heap) (hbl : b < s.heap.size) (hbA : ¬ A b) (k : J p l e R s m args below meth c nL D cl A kc ks Q ws lv n (.int (Int32.ofNat L) :: rs)) : J p l e R s m args below meth c nL D cl A kc ks Q ws lv pc (.ref b :: rs) := by
  subst hn
  intro H locs ls hP hD hS hl
  exact va_slen C.1.1 C.1.2.1 hX hbl hbA hS (okAt_at C.2.2.2.1 hi) (k H locs ls hP hD hS hl)
theorem j_sld (C : CX p R s m args meth c cc nL own ret pr D cl tys A) (i n : Nat) (hi : pr[i]? = some (pc, .iaload, 1)) (hn : pc + 1 = n) {b L : Nat} {xs : Nat → Int32} (hX : va_X b L xs s s.heap) (hbl : b < s.heap.size) (hbA : ¬ A b) {x : Int32} (hin : vp_in x L) (k : J p l e R s m args below meth c nL D cl A kc ks Q ws lv n (.int (xs x.toNatClampNeg) :: rs)) : J p l e R s m args below meth c nL D cl A kc ks Q ws lv pc (.int x :: .ref b :: rs) := by
  subst hn
  intro H locs ls hP hD hS hl
  exact va_sld C.1.1 C.1.2.1 hX hbl hbA hS hin (okAt_at C.2.2.2.1 hi) (k H locs ls hP hD hS hl)
end JF
/-- a contract out of its walk, where cells are made; E: what else the tables must say -/
theorem met_ofI {l : Launch} {y : MethodName} {bytes : ByteArray} {maxL : Nat} {rt : Option FieldType} {rm : Room} {D : va_G} {cl : List vw_C} {tys : List (ClassId × FieldType)} {ws : va_W} {av : List Value} {pr : List (Nat × Instr × Nat)} {mc ms : Nat} {E : State → Prop} {Qc : (Nat → Prop) → Array Value → State → Outcome → State → Prop} (hy : plainName y.cls = true) (hpr : okAt bytes pr) (hav : (lg_sl av).length ≤ maxL) (body : ∀ (p : Program) (e : Env) (s : State) (m : MethodId) (args : Array Value) (below : List Frame) (meth : Method) (c : Code) (A : Nat → Prop), CX p rm s m args meth c bytes maxL y.cls rt pr D cl tys A → meth.name = y.name → E s → (∀ q, A q → s.heap.size ≤ q ∨ ∃ (k : Nat) (e : va_E), ws[k]? = some (q, e)) → J p l e rm s m args below meth c maxL D cl A 0 0 (MQ below (Qc A) args s mc ms A) ws (lv_args 0 av) 0 []) (sz : Nat) : Met l y (Cond.code y bytes maxL rt :: gw) rm (va_Pc av (fun U => PK D cl tys ws sz U ∧ E U)) (Qc (va_A ws sz)) mc ms (va_A ws sz) := by
  refine Met.ofW (cc := bytes) (maxL := maxL) (ret := rt) hy rfl ?_
  intro p e s m args below meth c s₁ B hml hv
  obtain ⟨rfl, ⟨hsz, hP, hK, hD0⟩, hE⟩ := hv
  subst hsz
  have hts := atoms_spec (ws := Cond.code y bytes maxL rt :: gw) B.pre
  have hown : s.vm.findClass y.cls = some m.cls := findClass_of_methodNamed B.named
  have hD := hD0.self (sz := s.heap.size)
  have hl := lv_entry av (n := maxL) hav
  rw [lg_entry_eq]
  exact body p e s m av.toArray below meth c (va_A ws s.heap.size) ⟨⟨B.exec, B.bytes, hml, hown, fun w h => hts w (List.mem_cons_of_mem _ h)⟩, hK, fun q h => Or.inr h, hpr, B.returns, B.notSynchronized⟩ (name_of_methodNamed B.named B.method).1 hE (fun q h => h.symm) s.heap [] _ hP hD va_S.rf hl
theorem arr_of {args : Array Value} {s : State} {ty : FieldType} (h : (Cond.arrayClass ty).before args s = true) : ∃ cA : ClassId, ArrOfT s cA ty ∧ s.vm.findClass ("[" ++ ty.toString) = some cA := by
  obtain ⟨cA, kA, comp, h1, h2, h3⟩ := Cond.arrayClass_spec h
  exact ⟨cA, fun n z => ⟨fun k h => (by cases h), kA, h2, comp, h3⟩, h1⟩
