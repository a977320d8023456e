abbrev rm_M_decide : Room := { frames := 3, cells := 0, slots := 0, locals := 68 }
def wp_M_decide_287 (K : St → Prop) (S : St)  : Prop := K S
set_option maxHeartbeats 4000000 in
set_option maxRecDepth 100000 in
theorem L_M_decide_287 {p : Program} {l : Launch} {e : Env} {s : State} {m : MethodId} {args : Array Value} {below : List Frame} {meth : Method} {c : Code} {A : Nat → Prop} {D : va_G} {h0 : Nat} {a : Nat → Nat} {cI cB : ClassId} {K : St → Prop} (C : CX p rm_M_decide s m args meth c b_M_decide 3 "PipelinedCoreModel" none pr_M_decide D clK (tysK cI cB) A) (S : St)  (h : wp_M_decide_287 K S) : J p l e rm_M_decide s m args below meth c 3 D clK A 0 0 (MQ below (va_Qv K (fun u t => QK D clK (tysK cI cB) A (wsM h0 a cI cB u) t) A) args s 0 0 A) (wsM h0 a cI cB S) [] 287 [] := by
  unfold wp_M_decide_287 at h
  exact j_vret C 147 rfl h
def wp_M_decide_106 (K : St → Prop) (S : St) (k0 : Int32) (k1 : Int32) : Prop := ∀ S36 : St, S36 = st S 0 49 (k1 + k0) → ((wp_M_decide_287 K S36))
set_option maxHeartbeats 4000000 in
set_option maxRecDepth 100000 in
theorem L_M_decide_106 {p : Program} {l : Launch} {e : Env} {s : State} {m : MethodId} {args : Array Value} {below : List Frame} {meth : Method} {c : Code} {A : Nat → Prop} {D : va_G} {h0 : Nat} {a : Nat → Nat} {cI cB : ClassId} {K : St → Prop} (C : CX p rm_M_decide s m args meth c b_M_decide 3 "PipelinedCoreModel" none pr_M_decide D clK (tysK cI cB) A) (S : St) (k0 : Int32) (k1 : Int32) (h : wp_M_decide_106 K S k0 k1) : J p l e rm_M_decide s m args below meth c 3 D clK A 0 0 (MQ below (va_Qv K (fun u t => QK D clK (tysK cI cB) A (wsM h0 a cI cB u) t) A) args s 0 0 A) (wsM h0 a cI cB S) [] 106 [.int k0, .int k1, .ref h0] := by
  unfold wp_M_decide_106 at h
  refine j_iadd C 56 107 rfl rfl ?_
  refine j_put C 57 110 rfl rfl fp_M_139 0 rfl (Nat.le_of_ble_eq_true rfl) rfl rfl (st S 0 49 (k1 + k0)) (sM_0_49 _ _ _ _ _ _) (fun S36 eS36 => ?_)
  replace h := h S36 eS36
  refine j_goto C 58 287 rfl (by decide) ?_
  exact L_M_decide_287 C S36 h
def wp_M_decide_83 (K : St → Prop) (S : St) (v1 : Int32) : Prop := (if v1 = 23 then ((wp_M_decide_106 K S (S 0 6) ((S 0 44) &&& (-4096 : Int32)))) else ((wp_M_decide_106 K S 0 ((S 0 44) &&& (-4096 : Int32)))))
set_option maxHeartbeats 4000000 in
set_option maxRecDepth 100000 in
theorem L_M_decide_83 {p : Program} {l : Launch} {e : Env} {s : State} {m : MethodId} {args : Array Value} {below : List Frame} {meth : Method} {c : Code} {A : Nat → Prop} {D : va_G} {h0 : Nat} {a : Nat → Nat} {cI cB : ClassId} {K : St → Prop} (C : CX p rm_M_decide s m args meth c b_M_decide 3 "PipelinedCoreModel" none pr_M_decide D clK (tysK cI cB) A) (S : St) (v1 : Int32) (h : wp_M_decide_83 K S v1) : J p l e rm_M_decide s m args below meth c 3 D clK A 0 0 (MQ below (va_Qv K (fun u t => QK D clK (tysK cI cB) A (wsM h0 a cI cB u) t) A) args s 0 0 A) (wsM h0 a cI cB S) [(0, .ref h0), (1, .int v1)] 83 [] := by
  unfold wp_M_decide_83 at h
  refine j_aload_n C 44 84 rfl rfl rfl 0 rfl ?_
  refine j_aload_n C 45 85 rfl rfl rfl 0 rfl ?_
  refine j_get C 46 88 rfl rfl fg_M_103 0 rfl rfl ?_
  refine j_sipush C 47 91 rfl rfl kS_m4096 ?_
  refine j_iand C 48 92 rfl rfl ?_
  refine j_iload_n C 49 93 rfl rfl rfl 1 rfl ?_
  refine j_bipush C 50 95 rfl rfl kB_23 ?_
  refine j_icmp_ne C 51 105 98 rfl (by decide) rfl (fun c35 => ?_) (fun c35 => ?_)
  · replace h := ite_f h c35
    refine j_iconst C 55 106 rfl rfl kI_0 ?_
    refine j_sub [] rfl ?_
    exact L_M_decide_106 C S 0 ((S 0 44) &&& (-4096 : Int32)) h
  · replace h := ite_t h c35
    refine j_aload_n C 52 99 rfl rfl rfl 0 rfl ?_
    refine j_get C 53 102 rfl rfl fg_M_162 0 rfl rfl ?_
    refine j_goto C 54 106 rfl (by decide) ?_
    refine j_sub [] rfl ?_
    exact L_M_decide_106 C S (S 0 6) ((S 0 44) &&& (-4096 : Int32)) h
def wp_M_decide_200 (K : St → Prop) (S : St) (v1 : Int32) : Prop := (if v1 = 99 then (wp_M_branch S (fun S56 => ((wp_M_decide_287 K S56)))) else ((if v1 = 3 then (wp_M_load S (fun S54 => ((wp_M_decide_287 K S54)))) else ((if v1 = 35 then (wp_M_store S (fun S52 => ((wp_M_decide_287 K S52)))) else ((if v1 = 19 then (wp_M_immediate S (fun S50 => ((wp_M_decide_287 K S50)))) else ((if v1 = 51 then (wp_M_operation S (fun S48 => ((wp_M_decide_287 K S48)))) else ((if v1 = 115 then (wp_M_system S (fun S46 => ((wp_M_decide_287 K S46)))) else ((if v1 = 15 then ((wp_M_decide_287 K S)) else (wp_M_illegal S (fun S44 => ((wp_M_decide_287 K S44)))))))))))))))))
set_option maxHeartbeats 4000000 in
set_option maxRecDepth 100000 in
theorem L_M_decide_200 {p : Program} {l : Launch} {e : Env} {s : State} {m : MethodId} {args : Array Value} {below : List Frame} {meth : Method} {c : Code} {A : Nat → Prop} {D : va_G} {h0 : Nat} {a : Nat → Nat} {cI cB : ClassId} {K : St → Prop} (C : CX p rm_M_decide s m args meth c b_M_decide 3 "PipelinedCoreModel" none pr_M_decide D clK (tysK cI cB) A) (S : St) (v1 : Int32) (h : wp_M_decide_200 K S v1) : J p l e rm_M_decide s m args below meth c 3 D clK A 0 0 (MQ below (va_Qv K (fun u t => QK D clK (tysK cI cB) A (wsM h0 a cI cB u) t) A) args s 0 0 A) (wsM h0 a cI cB S) [(0, .ref h0), (1, .int v1)] 200 [] := by
  unfold wp_M_decide_200 at h
  refine j_iload_n C 106 201 rfl rfl rfl 1 rfl ?_
  refine j_bipush C 107 203 rfl rfl kB_99 ?_
  refine j_icmp_ne C 108 213 206 rfl (by decide) rfl (fun c37 => ?_) (fun c37 => ?_)
  · replace h := ite_f h c37
    refine j_iload_n C 112 214 rfl rfl rfl 1 rfl ?_
    refine j_iconst C 113 215 rfl rfl kI_3 ?_
    refine j_icmp_ne C 114 225 218 rfl (by decide) rfl (fun c38 => ?_) (fun c38 => ?_)
    · replace h := ite_f h c38
      refine j_iload_n C 118 226 rfl rfl rfl 1 rfl ?_
      refine j_bipush C 119 228 rfl rfl kB_35 ?_
      refine j_icmp_ne C 120 238 231 rfl (by decide) rfl (fun c39 => ?_) (fun c39 => ?_)
      · replace h := ite_f h c39
        refine j_iload_n C 124 239 rfl rfl rfl 1 rfl ?_
        refine j_bipush C 125 241 rfl rfl kB_19 ?_
        refine j_icmp_ne C 126 251 244 rfl (by decide) rfl (fun c40 => ?_) (fun c40 => ?_)
        · replace h := ite_f h c40
          refine j_iload_n C 130 252 rfl rfl rfl 1 rfl ?_
          refine j_bipush C 131 254 rfl rfl kB_51 ?_
          refine j_icmp_ne C 132 264 257 rfl (by decide) rfl (fun c41 => ?_) (fun c41 => ?_)
          · replace h := ite_f h c41
            refine j_iload_n C 136 265 rfl rfl rfl 1 rfl ?_
            refine j_bipush C 137 267 rfl rfl kB_115 ?_
            refine j_icmp_ne C 138 277 270 rfl (by decide) rfl (fun c42 => ?_) (fun c42 => ?_)
            · replace h := ite_f h c42
              refine j_iload_n C 142 278 rfl rfl rfl 1 rfl ?_
              refine j_bipush C 143 280 rfl rfl kB_15 ?_
              refine j_icmp_eq C 144 287 283 rfl (by decide) rfl (fun c43 => ?_) (fun c43 => ?_)
              · replace h := ite_t h c43
                refine j_sub [] rfl ?_
                exact L_M_decide_287 C S h
              · replace h := ite_f h c43
                refine j_aload_n C 145 284 rfl rfl rfl 0 rfl ?_
                refine j_callVv C 146 287 rfl rfl w887 m_M_illegal (As := []) (c_M_illegal l D h0 a cI cB S _ h) ⟨rfl, rfl⟩ ⟨Nat.le_of_ble_eq_true rfl, Nat.le_of_ble_eq_true rfl⟩ 0 rfl rfl rfl ⟨Nat.le_of_ble_eq_true rfl, Nat.le_of_ble_eq_true rfl⟩ (Nat.le_of_ble_eq_true rfl) rfl (fun S44 h => ?_)
                refine j_sub [] rfl ?_
                exact L_M_decide_287 C S44 h
            · replace h := ite_t h c42
              refine j_aload_n C 139 271 rfl rfl rfl 0 rfl ?_
              refine j_callVv C 140 274 rfl rfl w929 m_M_system (As := []) (c_M_system l D h0 a cI cB S _ h) ⟨rfl, rfl⟩ ⟨Nat.le_of_ble_eq_true rfl, Nat.le_of_ble_eq_true rfl⟩ 0 rfl rfl rfl ⟨Nat.le_of_ble_eq_true rfl, Nat.le_of_ble_eq_true rfl⟩ (Nat.le_of_ble_eq_true rfl) rfl (fun S46 h => ?_)
              refine j_goto C 141 287 rfl (by decide) ?_
              refine j_sub [] rfl ?_
              exact L_M_decide_287 C S46 h
          · replace h := ite_t h c41
            refine j_aload_n C 133 258 rfl rfl rfl 0 rfl ?_
            refine j_callVv C 134 261 rfl rfl w919 m_M_operation (As := []) (c_M_operation l D h0 a cI cB S _ h) ⟨rfl, rfl⟩ ⟨Nat.le_of_ble_eq_true rfl, Nat.le_of_ble_eq_true rfl⟩ 0 rfl rfl rfl ⟨Nat.le_of_ble_eq_true rfl, Nat.le_of_ble_eq_true rfl⟩ (Nat.le_of_ble_eq_true rfl) rfl (fun S48 h => ?_)
            refine j_goto C 135 287 rfl (by decide) ?_
            refine j_sub [] rfl ?_
            exact L_M_decide_287 C S48 h
        · replace h := ite_t h c40
          refine j_aload_n C 127 245 rfl rfl rfl 0 rfl ?_
          refine j_callVv C 128 248 rfl rfl w912 m_M_immediate (As := []) (c_M_immediate l D h0 a cI cB S _ h) ⟨rfl, rfl⟩ ⟨Nat.le_of_ble_eq_true rfl, Nat.le_of_ble_eq_true rfl⟩ 0 rfl rfl rfl ⟨Nat.le_of_ble_eq_true rfl, Nat.le_of_ble_eq_true rfl⟩ (Nat.le_of_ble_eq_true rfl) rfl (fun S50 h => ?_)
          refine j_goto C 129 287 rfl (by decide) ?_
          refine j_sub [] rfl ?_
          exact L_M_decide_287 C S50 h
      · replace h := ite_t h c39
        refine j_aload_n C 121 232 rfl rfl rfl 0 rfl ?_
        refine j_callVv C 122 235 rfl rfl w904 m_M_store (As := []) (c_M_store l D h0 a cI cB S _ h) ⟨rfl, rfl⟩ ⟨Nat.le_of_ble_eq_true rfl, Nat.le_of_ble_eq_true rfl⟩ 0 rfl rfl rfl ⟨Nat.le_of_ble_eq_true rfl, Nat.le_of_ble_eq_true rfl⟩ (Nat.le_of_ble_eq_true rfl) rfl (fun S52 h => ?_)
        refine j_goto C 123 287 rfl (by decide) ?_
        refine j_sub [] rfl ?_
        exact L_M_decide_287 C S52 h
    · replace h := ite_t h c38
      refine j_aload_n C 115 219 rfl rfl rfl 0 rfl ?_
      refine j_callVv C 116 222 rfl rfl w895 m_M_load (As := []) (c_M_load l D h0 a cI cB S _ h) ⟨rfl, rfl⟩ ⟨Nat.le_of_ble_eq_true rfl, Nat.le_of_ble_eq_true rfl⟩ 0 rfl rfl rfl ⟨Nat.le_of_ble_eq_true rfl, Nat.le_of_ble_eq_true rfl⟩ (Nat.le_of_ble_eq_true rfl) rfl (fun S54 h => ?_)
      refine j_goto C 117 287 rfl (by decide) ?_
      refine j_sub [] rfl ?_
      exact L_M_decide_287 C S54 h
  · replace h := ite_t h c37
    refine j_aload_n C 109 207 rfl rfl rfl 0 rfl ?_
    refine j_callVv C 110 210 rfl rfl w875 m_M_branch (As := []) (c_M_branch l D h0 a cI cB S _ h) ⟨rfl, rfl⟩ ⟨Nat.le_of_ble_eq_true rfl, Nat.le_of_ble_eq_true rfl⟩ 0 rfl rfl rfl ⟨Nat.le_of_ble_eq_true rfl, Nat.le_of_ble_eq_true rfl⟩ (Nat.le_of_ble_eq_true rfl) rfl (fun S56 h => ?_)
    refine j_goto C 111 287 rfl (by decide) ?_
    refine j_sub [] rfl ?_
    exact L_M_decide_287 C S56 h
def wp_M_decide_68 (K : St → Prop) (S : St) (v1 : Int32) (k0 : Int32) : Prop := ∀ S13 : St, S13 = st S 0 48 k0 → ((if v1 = 55 then ((wp_M_decide_83 K S13 v1)) else ((if v1 = 23 then ((wp_M_decide_83 K S13 v1)) else ((if v1 = 111 then (∀ S29 : St, S29 = st S13 0 53 1 → (∀ S30 : St, S30 = st S29 0 49 ((S29 0 6) + (4 : Int32)) → (wp_M_numberJ S30 (fun r32 S31 => (wp_M_go S31 ((S30 0 6) + r32) (fun S33 => ((wp_M_decide_287 K S33)))))))) else ((if v1 = 103 then (wp_M_bits S13 12 3 (fun r19 S18 => ((if r19 = 0 then (∀ S21 : St, S21 = st S18 0 53 1 → (∀ S22 : St, S22 = st S21 0 49 ((S21 0 6) + (4 : Int32)) → (wp_M_regA S22 (fun r24 S23 => (wp_M_numberI S23 (fun r26 S25 => (wp_M_go S25 ((r24 + r26) &&& (-2 : Int32)) (fun S27 => ((wp_M_decide_287 K S27)))))))))) else ((wp_M_decide_200 K S18 v1)))))) else ((wp_M_decide_200 K S13 v1))))))))))
set_option maxHeartbeats 4000000 in
set_option maxRecDepth 100000 in
theorem L_M_decide_68 {p : Program} {l : Launch} {e : Env} {s : State} {m : MethodId} {args : Array Value} {below : List Frame} {meth : Method} {c : Code} {A : Nat → Prop} {D : va_G} {h0 : Nat} {a : Nat → Nat} {cI cB : ClassId} {K : St → Prop} (C : CX p rm_M_decide s m args meth c b_M_decide 3 "PipelinedCoreModel" none pr_M_decide D clK (tysK cI cB) A) (S : St) (v1 : Int32) (k0 : Int32) (h : wp_M_decide_68 K S v1 k0) : J p l e rm_M_decide s m args below meth c 3 D clK A 0 0 (MQ below (va_Qv K (fun u t => QK D clK (tysK cI cB) A (wsM h0 a cI cB u) t) A) args s 0 0 A) (wsM h0 a cI cB S) [(0, .ref h0), (1, .int v1)] 68 [.int k0, .ref h0] := by
  unfold wp_M_decide_68 at h
  refine j_put C 37 71 rfl rfl fp_M_199 0 rfl (Nat.le_of_ble_eq_true rfl) rfl rfl (st S 0 48 k0) (sM_0_48 _ _ _ _ _ _) (fun S13 eS13 => ?_)
  replace h := h S13 eS13
  refine j_iload_n C 38 72 rfl rfl rfl 1 rfl ?_
  refine j_bipush C 39 74 rfl rfl kB_55 ?_
  refine j_icmp_eq C 40 83 77 rfl (by decide) rfl (fun c14 => ?_) (fun c14 => ?_)
  · replace h := ite_t h c14
    exact L_M_decide_83 C S13 v1 h
  · replace h := ite_f h c14
    refine j_iload_n C 41 78 rfl rfl rfl 1 rfl ?_
    refine j_bipush C 42 80 rfl rfl kB_23 ?_
    refine j_icmp_ne C 43 113 83 rfl (by decide) rfl (fun c15 => ?_) (fun c15 => ?_)
    · replace h := ite_f h c15
      refine j_iload_n C 59 114 rfl rfl rfl 1 rfl ?_
      refine j_bipush C 60 116 rfl rfl kB_111 ?_
      refine j_icmp_ne C 61 150 119 rfl (by decide) rfl (fun c16 => ?_) (fun c16 => ?_)
      · replace h := ite_f h c16
        refine j_iload_n C 79 151 rfl rfl rfl 1 rfl ?_
        refine j_bipush C 80 153 rfl rfl kB_103 ?_
        refine j_icmp_ne C 81 200 156 rfl (by decide) rfl (fun c17 => ?_) (fun c17 => ?_)
        · replace h := ite_f h c17
          exact L_M_decide_200 C S13 v1 h
        · replace h := ite_t h c17
          refine j_aload_n C 82 157 rfl rfl rfl 0 rfl ?_
          refine j_bipush C 83 159 rfl rfl kB_12 ?_
          refine j_iconst C 84 160 rfl rfl kI_3 ?_
          refine j_callVi C 85 163 rfl rfl w822 m_M_bits (As := [.int 12, .int 3]) (c_M_bits l D h0 a cI cB S13 12 3 _ h) ⟨rfl, rfl⟩ ⟨Nat.le_of_ble_eq_true rfl, Nat.le_of_ble_eq_true rfl⟩ 0 rfl rfl rfl ⟨Nat.le_of_ble_eq_true rfl, Nat.le_of_ble_eq_true rfl⟩ (Nat.le_of_ble_eq_true rfl) rfl (fun r19 S18 h => ?_)
          refine j_if_ne C 86 200 166 rfl (by decide) rfl (fun c20 => ?_) (fun c20 => ?_)
          · replace h := ite_f h c20
            exact L_M_decide_200 C S18 v1 h
          · replace h := ite_t h c20
            refine j_aload_n C 87 167 rfl rfl rfl 0 rfl ?_
            refine j_iconst C 88 168 rfl rfl kI_1 ?_
            refine j_put C 89 171 rfl rfl fp_M_159 0 rfl (Nat.le_of_ble_eq_true rfl) (isB_nar isB_1) (isB_fit isB_1) (st S18 0 53 1) (sM_0_53 _ _ _ _ _ _) (fun S21 eS21 => ?_)
            replace h := h S21 eS21
            refine j_aload_n C 90 172 rfl rfl rfl 0 rfl ?_
            refine j_aload_n C 91 173 rfl rfl rfl 0 rfl ?_
            refine j_get C 92 176 rfl rfl fg_M_162 0 rfl rfl ?_
            refine j_iconst C 93 177 rfl rfl kI_4 ?_
            refine j_iadd C 94 178 rfl rfl ?_
            refine j_put C 95 181 rfl rfl fp_M_139 0 rfl (Nat.le_of_ble_eq_true rfl) rfl rfl (st S21 0 49 ((S21 0 6) + (4 : Int32))) (sM_0_49 _ _ _ _ _ _) (fun S22 eS22 => ?_)
            replace h := h S22 eS22
            refine j_aload_n C 96 182 rfl rfl rfl 0 rfl ?_
            refine j_aload_n C 97 183 rfl rfl rfl 0 rfl ?_
            refine j_callVi C 98 186 rfl rfl w867 m_M_regA (As := []) (c_M_regA l D h0 a cI cB S22 _ h) ⟨rfl, rfl⟩ ⟨Nat.le_of_ble_eq_true rfl, Nat.le_of_ble_eq_true rfl⟩ 0 rfl rfl rfl ⟨Nat.le_of_ble_eq_true rfl, Nat.le_of_ble_eq_true rfl⟩ (Nat.le_of_ble_eq_true rfl) rfl (fun r24 S23 h => ?_)
            refine j_aload_n C 99 187 rfl rfl rfl 0 rfl ?_
            refine j_callVi C 100 190 rfl rfl w871 m_M_numberI (As := []) (c_M_numberI l D h0 a cI cB S23 _ h) ⟨rfl, rfl⟩ ⟨Nat.le_of_ble_eq_true rfl, Nat.le_of_ble_eq_true rfl⟩ 0 rfl rfl rfl ⟨Nat.le_of_ble_eq_true rfl, Nat.le_of_ble_eq_true rfl⟩ (Nat.le_of_ble_eq_true rfl) rfl (fun r26 S25 h => ?_)
            refine j_iadd C 101 191 rfl rfl ?_
            refine j_bipush C 102 193 rfl rfl kB_m2 ?_
            refine j_iand C 103 194 rfl rfl ?_
            refine j_callVv C 104 197 rfl rfl w863 m_M_go (As := [.int ((r24 + r26) &&& (-2 : Int32))]) (c_M_go l D h0 a cI cB S25 ((r24 + r26) &&& (-2 : Int32)) _ h) ⟨rfl, rfl⟩ ⟨Nat.le_of_ble_eq_true rfl, Nat.le_of_ble_eq_true rfl⟩ 0 rfl rfl rfl ⟨Nat.le_of_ble_eq_true rfl, Nat.le_of_ble_eq_true rfl⟩ (Nat.le_of_ble_eq_true rfl) rfl (fun S27 h => ?_)
            refine j_goto C 105 287 rfl (by decide) ?_
            refine j_sub [] rfl ?_
            exact L_M_decide_287 C S27 h
      · replace h := ite_t h c16
        refine j_aload_n C 62 120 rfl rfl rfl 0 rfl ?_
        refine j_iconst C 63 121 rfl rfl kI_1 ?_
        refine j_put C 64 124 rfl rfl fp_M_159 0 rfl (Nat.le_of_ble_eq_true rfl) (isB_nar isB_1) (isB_fit isB_1) (st S13 0 53 1) (sM_0_53 _ _ _ _ _ _) (fun S29 eS29 => ?_)
        replace h := h S29 eS29
        refine j_aload_n C 65 125 rfl rfl rfl 0 rfl ?_
        refine j_aload_n C 66 126 rfl rfl rfl 0 rfl ?_
        refine j_get C 67 129 rfl rfl fg_M_162 0 rfl rfl ?_
        refine j_iconst C 68 130 rfl rfl kI_4 ?_
        refine j_iadd C 69 131 rfl rfl ?_
        refine j_put C 70 134 rfl rfl fp_M_139 0 rfl (Nat.le_of_ble_eq_true rfl) rfl rfl (st S29 0 49 ((S29 0 6) + (4 : Int32))) (sM_0_49 _ _ _ _ _ _) (fun S30 eS30 => ?_)
        replace h := h S30 eS30
        refine j_aload_n C 71 135 rfl rfl rfl 0 rfl ?_
        refine j_aload_n C 72 136 rfl rfl rfl 0 rfl ?_
        refine j_get C 73 139 rfl rfl fg_M_162 0 rfl rfl ?_
        refine j_aload_n C 74 140 rfl rfl rfl 0 rfl ?_
        refine j_callVi C 75 143 rfl rfl w859 m_M_numberJ (As := []) (c_M_numberJ l D h0 a cI cB S30 _ h) ⟨rfl, rfl⟩ ⟨Nat.le_of_ble_eq_true rfl, Nat.le_of_ble_eq_true rfl⟩ 0 rfl rfl rfl ⟨Nat.le_of_ble_eq_true rfl, Nat.le_of_ble_eq_true rfl⟩ (Nat.le_of_ble_eq_true rfl) rfl (fun r32 S31 h => ?_)
        refine j_iadd C 76 144 rfl rfl ?_
        refine j_callVv C 77 147 rfl rfl w863 m_M_go (As := [.int ((S30 0 6) + r32)]) (c_M_go l D h0 a cI cB S31 ((S30 0 6) + r32) _ h) ⟨rfl, rfl⟩ ⟨Nat.le_of_ble_eq_true rfl, Nat.le_of_ble_eq_true rfl⟩ 0 rfl rfl rfl ⟨Nat.le_of_ble_eq_true rfl, Nat.le_of_ble_eq_true rfl⟩ (Nat.le_of_ble_eq_true rfl) rfl (fun S33 h => ?_)
        refine j_goto C 78 287 rfl (by decide) ?_
        refine j_sub [] rfl ?_
        exact L_M_decide_287 C S33 h
    · replace h := ite_t h c15
      exact L_M_decide_83 C S13 v1 h
def wp_M_decide_51 (K : St → Prop) (S : St) (v1 : Int32) (k0 : Int32) : Prop := (if k0 = 0 then ((wp_M_decide_68 K S v1 0)) else (wp_M_bits S 7 5 (fun r12 S11 => ((wp_M_decide_68 K S11 v1 r12)))))
set_option maxHeartbeats 4000000 in
set_option maxRecDepth 100000 in
theorem L_M_decide_51 {p : Program} {l : Launch} {e : Env} {s : State} {m : MethodId} {args : Array Value} {below : List Frame} {meth : Method} {c : Code} {A : Nat → Prop} {D : va_G} {h0 : Nat} {a : Nat → Nat} {cI cB : ClassId} {K : St → Prop} (C : CX p rm_M_decide s m args meth c b_M_decide 3 "PipelinedCoreModel" none pr_M_decide D clK (tysK cI cB) A) (S : St) (v1 : Int32) (k0 : Int32) (h : wp_M_decide_51 K S v1 k0) : J p l e rm_M_decide s m args below meth c 3 D clK A 0 0 (MQ below (va_Qv K (fun u t => QK D clK (tysK cI cB) A (wsM h0 a cI cB u) t) A) args s 0 0 A) (wsM h0 a cI cB S) [(0, .ref h0), (1, .int v1)] 51 [.int k0] := by
  unfold wp_M_decide_51 at h
  refine j_istore_n C 27 52 [(2, .int k0), (0, .ref h0), (1, .int v1)] rfl rfl rfl (by decide) rfl ?_
  refine j_aload_n C 28 53 rfl rfl rfl 1 rfl ?_
  refine j_iload_n C 29 54 rfl rfl rfl 0 rfl ?_
  refine j_if_eq C 30 67 57 rfl (by decide) rfl (fun c10 => ?_) (fun c10 => ?_)
  · replace h := ite_t h c10
    refine j_iconst C 36 68 rfl rfl kI_0 ?_
    refine j_sub [1, 2] rfl ?_
    exact L_M_decide_68 C S v1 0 h
  · replace h := ite_f h c10
    refine j_aload_n C 31 58 rfl rfl rfl 1 rfl ?_
    refine j_bipush C 32 60 rfl rfl kB_7 ?_
    refine j_iconst C 33 61 rfl rfl kI_5 ?_
    refine j_callVi C 34 64 rfl rfl w822 m_M_bits (As := [.int 7, .int 5]) (c_M_bits l D h0 a cI cB S 7 5 _ h) ⟨rfl, rfl⟩ ⟨Nat.le_of_ble_eq_true rfl, Nat.le_of_ble_eq_true rfl⟩ 0 rfl rfl rfl ⟨Nat.le_of_ble_eq_true rfl, Nat.le_of_ble_eq_true rfl⟩ (Nat.le_of_ble_eq_true rfl) rfl (fun r12 S11 h => ?_)
    refine j_goto C 35 68 rfl (by decide) ?_
    refine j_sub [1, 2] rfl ?_
    exact L_M_decide_68 C S11 v1 r12 h
def wp_M_decide_46 (K : St → Prop) (S : St) (v1 : Int32) : Prop := (wp_M_decide_51 K S v1 1)
set_option maxHeartbeats 4000000 in
set_option maxRecDepth 100000 in
theorem L_M_decide_46 {p : Program} {l : Launch} {e : Env} {s : State} {m : MethodId} {args : Array Value} {below : List Frame} {meth : Method} {c : Code} {A : Nat → Prop} {D : va_G} {h0 : Nat} {a : Nat → Nat} {cI cB : ClassId} {K : St → Prop} (C : CX p rm_M_decide s m args meth c b_M_decide 3 "PipelinedCoreModel" none pr_M_decide D clK (tysK cI cB) A) (S : St) (v1 : Int32) (h : wp_M_decide_46 K S v1) : J p l e rm_M_decide s m args below meth c 3 D clK A 0 0 (MQ below (va_Qv K (fun u t => QK D clK (tysK cI cB) A (wsM h0 a cI cB u) t) A) args s 0 0 A) (wsM h0 a cI cB S) [(0, .ref h0), (1, .int v1)] 46 [] := by
  unfold wp_M_decide_46 at h
  refine j_iconst C 24 47 rfl rfl kI_1 ?_
  refine j_goto C 25 51 rfl (by decide) ?_
  exact L_M_decide_51 C S v1 1 h
def wp_M_decide (S : St)  (K : St → Prop) : Prop := wp_M_op S (fun r2 S1 => ((if r2 = 55 then ((wp_M_decide_46 K S1 r2)) else ((if r2 = 23 then ((wp_M_decide_46 K S1 r2)) else ((if r2 = 111 then ((wp_M_decide_46 K S1 r2)) else ((if r2 = 103 then ((wp_M_decide_46 K S1 r2)) else ((if r2 = 3 then ((wp_M_decide_46 K S1 r2)) else ((if r2 = 19 then ((wp_M_decide_46 K S1 r2)) else ((if r2 = 51 then ((wp_M_decide_46 K S1 r2)) else ((wp_M_decide_51 K S1 r2 0)))))))))))))))))
set_option maxHeartbeats 4000000 in
set_option maxRecDepth 100000 in
theorem c_M_decide (l : Launch) (D : va_G) (h0 : Nat) (a : Nat → Nat) (cI cB : ClassId) (S : St)  (K : St → Prop) (h : wp_M_decide S K) (sz : Nat) : Met l y_M_decide (Cond.code y_M_decide b_M_decide 3 none :: gw) rm_M_decide (va_Pc [.ref h0] (PK D clK (tysK cI cB) (wsM h0 a cI cB S) sz)) (va_Qv K (fun u t => QK D clK (tysK cI cB) (va_A (wsM h0 a cI cB S) sz) (wsM h0 a cI cB u) t) (va_A (wsM h0 a cI cB S) sz)) 0 0 (va_A (wsM h0 a cI cB S) sz) := by
  refine met_of (rm := rm_M_decide) (pr := pr_M_decide) (Qc := fun A => va_Qv K (fun u t => QK D clK (tysK cI cB) A (wsM h0 a cI cB u) t) A) (by decide +kernel) dm_M_decide (Nat.le_of_ble_eq_true rfl) (fun p e s m args below meth c A C => ?_) sz
  unfold wp_M_decide at h
  show J p l e rm_M_decide s m args below meth c 3 D clK A 0 0 _ (wsM h0 a cI cB S) [(0, .ref h0)] 0 []
  refine j_aload_n C 0 1 rfl rfl rfl 0 rfl ?_
  refine j_callVi C 1 4 rfl rfl w818 m_M_op (As := []) (c_M_op l D h0 a cI cB S _ h) ⟨rfl, rfl⟩ ⟨Nat.le_of_ble_eq_true rfl, Nat.le_of_ble_eq_true rfl⟩ 0 rfl rfl rfl ⟨Nat.le_of_ble_eq_true rfl, Nat.le_of_ble_eq_true rfl⟩ (Nat.le_of_ble_eq_true rfl) rfl (fun r2 S1 h => ?_)
  refine j_istore_n C 2 5 [(1, .int r2), (0, .ref h0)] rfl rfl rfl (by decide) rfl ?_
  refine j_iload_n C 3 6 rfl rfl rfl 0 rfl ?_
  refine j_bipush C 4 8 rfl rfl kB_55 ?_
  refine j_icmp_eq C 5 46 11 rfl (by decide) rfl (fun c3 => ?_) (fun c3 => ?_)
  · replace h := ite_t h c3
    refine j_sub [1, 0] rfl ?_
    exact L_M_decide_46 C S1 r2 h
  · replace h := ite_f h c3
    refine j_iload_n C 6 12 rfl rfl rfl 0 rfl ?_
    refine j_bipush C 7 14 rfl rfl kB_23 ?_
    refine j_icmp_eq C 8 46 17 rfl (by decide) rfl (fun c4 => ?_) (fun c4 => ?_)
    · replace h := ite_t h c4
      refine j_sub [1, 0] rfl ?_
      exact L_M_decide_46 C S1 r2 h
    · replace h := ite_f h c4
      refine j_iload_n C 9 18 rfl rfl rfl 0 rfl ?_
      refine j_bipush C 10 20 rfl rfl kB_111 ?_
      refine j_icmp_eq C 11 46 23 rfl (by decide) rfl (fun c5 => ?_) (fun c5 => ?_)
      · replace h := ite_t h c5
        refine j_sub [1, 0] rfl ?_
        exact L_M_decide_46 C S1 r2 h
      · replace h := ite_f h c5
        refine j_iload_n C 12 24 rfl rfl rfl 0 rfl ?_
        refine j_bipush C 13 26 rfl rfl kB_103 ?_
        refine j_icmp_eq C 14 46 29 rfl (by decide) rfl (fun c6 => ?_) (fun c6 => ?_)
        · replace h := ite_t h c6
          refine j_sub [1, 0] rfl ?_
          exact L_M_decide_46 C S1 r2 h
        · replace h := ite_f h c6
          refine j_iload_n C 15 30 rfl rfl rfl 0 rfl ?_
          refine j_iconst C 16 31 rfl rfl kI_3 ?_
          refine j_icmp_eq C 17 46 34 rfl (by decide) rfl (fun c7 => ?_) (fun c7 => ?_)
          · replace h := ite_t h c7
            refine j_sub [1, 0] rfl ?_
            exact L_M_decide_46 C S1 r2 h
          · replace h := ite_f h c7
            refine j_iload_n C 18 35 rfl rfl rfl 0 rfl ?_
            refine j_bipush C 19 37 rfl rfl kB_19 ?_
            refine j_icmp_eq C 20 46 40 rfl (by decide) rfl (fun c8 => ?_) (fun c8 => ?_)
            · replace h := ite_t h c8
              refine j_sub [1, 0] rfl ?_
              exact L_M_decide_46 C S1 r2 h
            · replace h := ite_f h c8
              refine j_iload_n C 21 41 rfl rfl rfl 0 rfl ?_
              refine j_bipush C 22 43 rfl rfl kB_51 ?_
              refine j_icmp_ne C 23 50 46 rfl (by decide) rfl (fun c9 => ?_) (fun c9 => ?_)
              · replace h := ite_f h c9
                refine j_iconst C 26 51 rfl rfl kI_0 ?_
                refine j_sub [1, 0] rfl ?_
                exact L_M_decide_51 C S1 r2 0 h
              · replace h := ite_t h c9
                refine j_sub [1, 0] rfl ?_
                exact L_M_decide_46 C S1 r2 h
abbrev rm_M_enter : Room := { frames := 0, cells := 0, slots := 0, locals := 0 }
def wp_M_enter_49 (K : St → Prop) (S : St) (v3 : Int32) (k0 : Int32) (k1 : Int32) : Prop := vp_in k1 8 ∧ (∀ S5 : St, S5 = st S 4 k1.toNatClampNeg k0 → (∀ S6 : St, S6 = st S5 0 47 v3 → (K S6)))
set_option maxHeartbeats 4000000 in
set_option maxRecDepth 100000 in
theorem L_M_enter_49 {p : Program} {l : Launch} {e : Env} {s : State} {m : MethodId} {args : Array Value} {below : List Frame} {meth : Method} {c : Code} {A : Nat → Prop} {D : va_G} {h0 : Nat} {a : Nat → Nat} {cI cB : ClassId} {K : St → Prop} (C : CX p rm_M_enter s m args meth c b_M_enter 4 "PipelinedCoreModel" none pr_M_enter D clK (tysK cI cB) A) (S : St) (v3 : Int32) (k0 : Int32) (k1 : Int32) (h : wp_M_enter_49 K S v3 k0 k1) : J p l e rm_M_enter s m args below meth c 4 D clK A 0 0 (MQ below (va_Qv K (fun u t => QK D clK (tysK cI cB) A (wsM h0 a cI cB u) t) A) args s 0 0 A) (wsM h0 a cI cB S) [(0, .ref h0), (3, .int v3)] 49 [.int k0, .int k1, .ref (a 4)] := by
  unfold wp_M_enter_49 at h
  refine j_iast C 29 50 rfl rfl 4 0 rfl rfl h.1 (st S 4 k1.toNatClampNeg k0) (sM_4 _ _ _ _ _ _ _) (fun S5 eS5 => ?_)
  replace h := h.2
  replace h := h S5 eS5
  refine j_aload_n C 30 51 rfl rfl rfl 0 rfl ?_
  refine j_iload_n C 31 52 rfl rfl rfl 1 rfl ?_
  refine j_put C 32 55 rfl rfl fp_M_152 0 rfl (Nat.le_of_ble_eq_true rfl) rfl rfl (st S5 0 47 v3) (sM_0_47 _ _ _ _ _ _) (fun S6 eS6 => ?_)
  replace h := h S6 eS6
  exact j_vret C 33 rfl h
def wp_M_enter (S : St) (p1 : Int32) (p2 : Int32) (p3 : Int32) (K : St → Prop) : Prop := vp_in 4 8 ∧ (∀ S1 : St, S1 = st S 4 (4 : Int32).toNatClampNeg (S 0 6) → (vp_in 5 8 ∧ (∀ S2 : St, S2 = st S1 4 (5 : Int32).toNatClampNeg p1 → (vp_in 6 8 ∧ (∀ S3 : St, S3 = st S2 4 (6 : Int32).toNatClampNeg p2 → (vp_in 0 8 ∧ ((if ((S3 4 (0 : Int32).toNatClampNeg) &&& (8 : Int32)) = 0 then ((wp_M_enter_49 K S3 p3 0 0)) else ((wp_M_enter_49 K S3 p3 128 0))))))))))
set_option maxHeartbeats 4000000 in
set_option maxRecDepth 100000 in
theorem c_M_enter (l : Launch) (D : va_G) (h0 : Nat) (a : Nat → Nat) (cI cB : ClassId) (S : St) (p1 : Int32) (p2 : Int32) (p3 : Int32) (K : St → Prop) (h : wp_M_enter S p1 p2 p3 K) (sz : Nat) : Met l y_M_enter (Cond.code y_M_enter b_M_enter 4 none :: gw) rm_M_enter (va_Pc [.ref h0, .int p1, .int p2, .int p3] (PK D clK (tysK cI cB) (wsM h0 a cI cB S) sz)) (va_Qv K (fun u t => QK D clK (tysK cI cB) (va_A (wsM h0 a cI cB S) sz) (wsM h0 a cI cB u) t) (va_A (wsM h0 a cI cB S) sz)) 0 0 (va_A (wsM h0 a cI cB S) sz) := by
  refine met_of (rm := rm_M_enter) (pr := pr_M_enter) (Qc := fun A => va_Qv K (fun u t => QK D clK (tysK cI cB) A (wsM h0 a cI cB u) t) A) (by decide +kernel) dm_M_enter (Nat.le_of_ble_eq_true rfl) (fun p e s m args below meth c A C => ?_) sz
  unfold wp_M_enter at h
  show J p l e rm_M_enter s m args below meth c 4 D clK A 0 0 _ (wsM h0 a cI cB S) [(0, .ref h0), (1, .int p1), (2, .int p2), (3, .int p3)] 0 []
  refine j_aload_n C 0 1 rfl rfl rfl 0 rfl ?_
  refine j_get C 1 4 rfl rfl fg_M_19 0 rfl rfl ?_
  refine j_iconst C 2 5 rfl rfl kI_4 ?_
  refine j_aload_n C 3 6 rfl rfl rfl 0 rfl ?_
  refine j_get C 4 9 rfl rfl fg_M_162 0 rfl rfl ?_
  refine j_iast C 5 10 rfl rfl 4 0 rfl rfl h.1 (st S 4 (4 : Int32).toNatClampNeg (S 0 6)) (sM_4 _ _ _ _ _ _ _) (fun S1 eS1 => ?_)
  replace h := h.2
  replace h := h S1 eS1
  refine j_aload_n C 6 11 rfl rfl rfl 0 rfl ?_
  refine j_get C 7 14 rfl rfl fg_M_19 0 rfl rfl ?_
  refine j_iconst C 8 15 rfl rfl kI_5 ?_
  refine j_iload_n C 9 16 rfl rfl rfl 1 rfl ?_
  refine j_iast C 10 17 rfl rfl 4 0 rfl rfl h.1 (st S1 4 (5 : Int32).toNatClampNeg p1) (sM_4 _ _ _ _ _ _ _) (fun S2 eS2 => ?_)
  replace h := h.2
  replace h := h S2 eS2
  refine j_aload_n C 11 18 rfl rfl rfl 0 rfl ?_
  refine j_get C 12 21 rfl rfl fg_M_19 0 rfl rfl ?_
  refine j_bipush C 13 23 rfl rfl kB_6 ?_
  refine j_iload_n C 14 24 rfl rfl rfl 2 rfl ?_
  refine j_iast C 15 25 rfl rfl 4 0 rfl rfl h.1 (st S2 4 (6 : Int32).toNatClampNeg p2) (sM_4 _ _ _ _ _ _ _) (fun S3 eS3 => ?_)
  replace h := h.2
  replace h := h S3 eS3
  refine j_aload_n C 16 26 rfl rfl rfl 0 rfl ?_
  refine j_get C 17 29 rfl rfl fg_M_19 0 rfl rfl ?_
  refine j_iconst C 18 30 rfl rfl kI_0 ?_
  refine j_aload_n C 19 31 rfl rfl rfl 0 rfl ?_
  refine j_get C 20 34 rfl rfl fg_M_19 0 rfl rfl ?_
  refine j_iconst C 21 35 rfl rfl kI_0 ?_
  refine j_iald C 22 36 rfl rfl 4 0 rfl rfl h.1 ?_
  replace h := h.2
  refine j_bipush C 23 38 rfl rfl kB_8 ?_
  refine j_iand C 24 39 rfl rfl ?_
  refine j_if_eq C 25 48 42 rfl (by decide) rfl (fun c4 => ?_) (fun c4 => ?_)
  · replace h := ite_t h c4
    refine j_iconst C 28 49 rfl rfl kI_0 ?_
    refine j_sub [0, 3] rfl ?_
    exact L_M_enter_49 C S3 p3 0 0 h
  · replace h := ite_f h c4
    refine j_sipush C 26 45 rfl rfl kS_128 ?_
    refine j_goto C 27 49 rfl (by decide) ?_
    refine j_sub [0, 3] rfl ?_
    exact L_M_enter_49 C S3 p3 128 0 h
abbrev rm_M_decoding : Room := { frames := 0, cells := 0, slots := 0, locals := 0 }
def wp_M_decoding_30 (K : Int32 → St → Prop) (S : St) (k0 : Int32) : Prop := K k0 S
set_option maxHeartbeats 4000000 in
set_option maxRecDepth 100000 in
theorem L_M_decoding_30 {p : Program} {l : Launch} {e : Env} {s : State} {m : MethodId} {args : Array Value} {below : List Frame} {meth : Method} {c : Code} {A : Nat → Prop} {D : va_G} {h0 : Nat} {a : Nat → Nat} {cI cB : ClassId} {K : Int32 → St → Prop} (C : CX p rm_M_decoding s m args meth c b_M_decoding 2 "PipelinedCoreModel" (some .int) pr_M_decoding D clK (tysK cI cB) A) (S : St) (k0 : Int32) (h : wp_M_decoding_30 K S k0) : J p l e rm_M_decoding s m args below meth c 2 D clK A 0 0 (MQ below (va_Qi K (fun u t => QK D clK (tysK cI cB) A (wsM h0 a cI cB u) t) A) args s 0 0 A) (wsM h0 a cI cB S) [] 30 [.int k0] := by
  unfold wp_M_decoding_30 at h
  exact j_iret C 16 rfl h
def wp_M_decoding_29 (K : Int32 → St → Prop) (S : St) (v1 : Int32) : Prop := (wp_M_decoding_30 K S v1)
set_option maxHeartbeats 4000000 in
set_option maxRecDepth 100000 in
theorem L_M_decoding_29 {p : Program} {l : Launch} {e : Env} {s : State} {m : MethodId} {args : Array Value} {below : List Frame} {meth : Method} {c : Code} {A : Nat → Prop} {D : va_G} {h0 : Nat} {a : Nat → Nat} {cI cB : ClassId} {K : Int32 → St → Prop} (C : CX p rm_M_decoding s m args meth c b_M_decoding 2 "PipelinedCoreModel" (some .int) pr_M_decoding D clK (tysK cI cB) A) (S : St) (v1 : Int32) (h : wp_M_decoding_29 K S v1) : J p l e rm_M_decoding s m args below meth c 2 D clK A 0 0 (MQ below (va_Qi K (fun u t => QK D clK (tysK cI cB) A (wsM h0 a cI cB u) t) A) args s 0 0 A) (wsM h0 a cI cB S) [(1, .int v1)] 29 [] := by
  unfold wp_M_decoding_29 at h
  refine j_iload_n C 15 30 rfl rfl rfl 0 rfl ?_
  refine j_sub [] rfl ?_
  exact L_M_decoding_30 C S v1 h
def wp_M_decoding (S : St)  (K : Int32 → St → Prop) : Prop := ∀ x1 : Int32, x1 = (S 0 16) + (1 : Int32) → ((if (S 0 9) = 0 then ((wp_M_decoding_29 K S x1)) else ((if (S 0 11) ≤ x1 then ((wp_M_decoding_29 K S x1)) else ((wp_M_decoding_30 K S (S 0 11)))))))
set_option maxHeartbeats 4000000 in
set_option maxRecDepth 100000 in
theorem c_M_decoding (l : Launch) (D : va_G) (h0 : Nat) (a : Nat → Nat) (cI cB : ClassId) (S : St)  (K : Int32 → St → Prop) (h : wp_M_decoding S K) (sz : Nat) : Met l y_M_decoding (Cond.code y_M_decoding b_M_decoding 2 (some .int) :: gw) rm_M_decoding (va_Pc [.ref h0] (PK D clK (tysK cI cB) (wsM h0 a cI cB S) sz)) (va_Qi K (fun u t => QK D clK (tysK cI cB) (va_A (wsM h0 a cI cB S) sz) (wsM h0 a cI cB u) t) (va_A (wsM h0 a cI cB S) sz)) 0 0 (va_A (wsM h0 a cI cB S) sz) := by
  refine met_of (rm := rm_M_decoding) (pr := pr_M_decoding) (Qc := fun A => va_Qi K (fun u t => QK D clK (tysK cI cB) A (wsM h0 a cI cB u) t) A) (by decide +kernel) dm_M_decoding (Nat.le_of_ble_eq_true rfl) (fun p e s m args below meth c A C => ?_) sz
  unfold wp_M_decoding at h
  show J p l e rm_M_decoding s m args below meth c 2 D clK A 0 0 _ (wsM h0 a cI cB S) [(0, .ref h0)] 0 []
  refine j_aload_n C 0 1 rfl rfl rfl 0 rfl ?_
  refine j_get C 1 4 rfl rfl fg_M_28 0 rfl rfl ?_
  refine j_iconst C 2 5 rfl rfl kI_1 ?_
  refine j_iadd C 3 6 rfl rfl ?_
  refine j_topi (fun x1 ex1 => ?_)
  replace h := h x1 ex1
  refine j_istore_n C 4 7 [(1, .int x1), (0, .ref h0)] rfl rfl rfl (by decide) rfl ?_
  refine j_aload_n C 5 8 rfl rfl rfl 1 rfl ?_
  refine j_get C 6 11 rfl rfl fg_M_234 0 rfl rfl ?_
  refine j_if_eq C 7 29 14 rfl (by decide) rfl (fun c2 => ?_) (fun c2 => ?_)
  · replace h := ite_t h c2
    refine j_sub [0] rfl ?_
    exact L_M_decoding_29 C S x1 h
  · replace h := ite_f h c2
    refine j_aload_n C 8 15 rfl rfl rfl 1 rfl ?_
    refine j_get C 9 18 rfl rfl fg_M_243 0 rfl rfl ?_
    refine j_iload_n C 10 19 rfl rfl rfl 0 rfl ?_
    refine j_icmp_le C 11 29 22 rfl (by decide) rfl (fun c3 => ?_) (fun c3 => ?_)
    · replace h := ite_t h c3
      refine j_sub [0] rfl ?_
      exact L_M_decoding_29 C S x1 h
    · replace h := ite_f h c3
      refine j_aload_n C 12 23 rfl rfl rfl 1 rfl ?_
      refine j_get C 13 26 rfl rfl fg_M_243 0 rfl rfl ?_
      refine j_goto C 14 30 rfl (by decide) ?_
      refine j_sub [] rfl ?_
      exact L_M_decoding_30 C S (S 0 11) h
abbrev rm_M_beginning : Room := { frames := 3, cells := 0, slots := 0, locals := 65 }
def wp_M_beginning_162 (K : Int32 → St → Prop) (S : St) (k0 : Int32) : Prop := K k0 S
set_option maxHeartbeats 4000000 in
set_option maxRecDepth 100000 in
theorem L_M_beginning_162 {p : Program} {l : Launch} {e : Env} {s : State} {m : MethodId} {args : Array Value} {below : List Frame} {meth : Method} {c : Code} {A : Nat → Prop} {D : va_G} {h0 : Nat} {a : Nat → Nat} {cI cB : ClassId} {K : Int32 → St → Prop} (C : CX p rm_M_beginning s m args meth c b_M_beginning 5 "PipelinedCoreModel" (some .int) pr_M_beginning D clK (tysK cI cB) A) (S : St) (k0 : Int32) (h : wp_M_beginning_162 K S k0) : J p l e rm_M_beginning s m args below meth c 5 D clK A 0 0 (MQ below (va_Qi K (fun u t => QK D clK (tysK cI cB) A (wsM h0 a cI cB u) t) A) args s 0 0 A) (wsM h0 a cI cB S) [] 162 [.int k0] := by
  unfold wp_M_beginning_162 at h
  exact j_iret C 84 rfl h
def wp_M_beginning_161 (K : Int32 → St → Prop) (S : St) (v2 : Int32) : Prop := (wp_M_beginning_162 K S v2)
set_option maxHeartbeats 4000000 in
set_option maxRecDepth 100000 in
theorem L_M_beginning_161 {p : Program} {l : Launch} {e : Env} {s : State} {m : MethodId} {args : Array Value} {below : List Frame} {meth : Method} {c : Code} {A : Nat → Prop} {D : va_G} {h0 : Nat} {a : Nat → Nat} {cI cB : ClassId} {K : Int32 → St → Prop} (C : CX p rm_M_beginning s m args meth c b_M_beginning 5 "PipelinedCoreModel" (some .int) pr_M_beginning D clK (tysK cI cB) A) (S : St) (v2 : Int32) (h : wp_M_beginning_161 K S v2) : J p l e rm_M_beginning s m args below meth c 5 D clK A 0 0 (MQ below (va_Qi K (fun u t => QK D clK (tysK cI cB) A (wsM h0 a cI cB u) t) A) args s 0 0 A) (wsM h0 a cI cB S) [(2, .int v2)] 161 [] := by
  unfold wp_M_beginning_161 at h
  refine j_iload_n C 83 162 rfl rfl rfl 0 rfl ?_
  refine j_sub [] rfl ?_
  exact L_M_beginning_162 C S v2 h
def wp_M_beginning_139 (K : Int32 → St → Prop) (S : St) (v2 : Int32) (k0 : Int32) : Prop := (if k0 = 0 then ((wp_M_beginning_161 K S v2)) else ((if (S 0 14) ≤ v2 then ((wp_M_beginning_161 K S v2)) else ((wp_M_beginning_162 K S (S 0 14))))))
set_option maxHeartbeats 4000000 in
set_option maxRecDepth 100000 in
theorem L_M_beginning_139 {p : Program} {l : Launch} {e : Env} {s : State} {m : MethodId} {args : Array Value} {below : List Frame} {meth : Method} {c : Code} {A : Nat → Prop} {D : va_G} {h0 : Nat} {a : Nat → Nat} {cI cB : ClassId} {K : Int32 → St → Prop} (C : CX p rm_M_beginning s m args meth c b_M_beginning 5 "PipelinedCoreModel" (some .int) pr_M_beginning D clK (tysK cI cB) A) (S : St) (v2 : Int32) (k0 : Int32) (h : wp_M_beginning_139 K S v2 k0) : J p l e rm_M_beginning s m args below meth c 5 D clK A 0 0 (MQ below (va_Qi K (fun u t => QK D clK (tysK cI cB) A (wsM h0 a cI cB u) t) A) args s 0 0 A) (wsM h0 a cI cB S) [(0, .ref h0), (2, .int v2)] 139 [.int k0] := by
  unfold wp_M_beginning_139 at h
  refine j_istore C 73 141 [(4, .int k0), (0, .ref h0), (2, .int v2)] rfl rfl (by decide) rfl ?_
  refine j_iload C 74 143 rfl rfl 0 rfl ?_
  refine j_if_eq C 75 161 146 rfl (by decide) rfl (fun c25 => ?_) (fun c25 => ?_)
  · replace h := ite_t h c25
    refine j_sub [2] rfl ?_
    exact L_M_beginning_161 C S v2 h
  · replace h := ite_f h c25
    refine j_aload_n C 76 147 rfl rfl rfl 1 rfl ?_
    refine j_get C 77 150 rfl rfl fg_M_258 0 rfl rfl ?_
    refine j_iload_n C 78 151 rfl rfl rfl 2 rfl ?_
    refine j_icmp_le C 79 161 154 rfl (by decide) rfl (fun c26 => ?_) (fun c26 => ?_)
    · replace h := ite_t h c26
      refine j_sub [2] rfl ?_
      exact L_M_beginning_161 C S v2 h
    · replace h := ite_f h c26
      refine j_aload_n C 80 155 rfl rfl rfl 1 rfl ?_
      refine j_get C 81 158 rfl rfl fg_M_258 0 rfl rfl ?_
      refine j_goto C 82 162 rfl (by decide) ?_
      refine j_sub [] rfl ?_
      exact L_M_beginning_162 C S (S 0 14) h
def wp_M_beginning_134 (K : Int32 → St → Prop) (S : St) (v2 : Int32) : Prop := (wp_M_beginning_139 K S v2 1)
set_option maxHeartbeats 4000000 in
set_option maxRecDepth 100000 in
theorem L_M_beginning_134 {p : Program} {l : Launch} {e : Env} {s : State} {m : MethodId} {args : Array Value} {below : List Frame} {meth : Method} {c : Code} {A : Nat → Prop} {D : va_G} {h0 : Nat} {a : Nat → Nat} {cI cB : ClassId} {K : Int32 → St → Prop} (C : CX p rm_M_beginning s m args meth c b_M_beginning 5 "PipelinedCoreModel" (some .int) pr_M_beginning D clK (tysK cI cB) A) (S : St) (v2 : Int32) (h : wp_M_beginning_134 K S v2) : J p l e rm_M_beginning s m args below meth c 5 D clK A 0 0 (MQ below (va_Qi K (fun u t => QK D clK (tysK cI cB) A (wsM h0 a cI cB u) t) A) args s 0 0 A) (wsM h0 a cI cB S) [(0, .ref h0), (2, .int v2)] 134 [] := by
  unfold wp_M_beginning_134 at h
  refine j_iconst C 70 135 rfl rfl kI_1 ?_
  refine j_goto C 71 139 rfl (by decide) ?_
  exact L_M_beginning_139 C S v2 1 h
def wp_M_beginning_138 (K : Int32 → St → Prop) (S : St) (v2 : Int32) : Prop := (wp_M_beginning_139 K S v2 0)
set_option maxHeartbeats 4000000 in
set_option maxRecDepth 100000 in
theorem L_M_beginning_138 {p : Program} {l : Launch} {e : Env} {s : State} {m : MethodId} {args : Array Value} {below : List Frame} {meth : Method} {c : Code} {A : Nat → Prop} {D : va_G} {h0 : Nat} {a : Nat → Nat} {cI cB : ClassId} {K : Int32 → St → Prop} (C : CX p rm_M_beginning s m args meth c b_M_beginning 5 "PipelinedCoreModel" (some .int) pr_M_beginning D clK (tysK cI cB) A) (S : St) (v2 : Int32) (h : wp_M_beginning_138 K S v2) : J p l e rm_M_beginning s m args below meth c 5 D clK A 0 0 (MQ below (va_Qi K (fun u t => QK D clK (tysK cI cB) A (wsM h0 a cI cB u) t) A) args s 0 0 A) (wsM h0 a cI cB S) [(0, .ref h0), (2, .int v2)] 138 [] := by
  unfold wp_M_beginning_138 at h
  refine j_iconst C 72 139 rfl rfl kI_0 ?_
  exact L_M_beginning_139 C S v2 0 h
def wp_M_beginning_113 (K : Int32 → St → Prop) (S : St) (v2 : Int32) : Prop := wp_M_usesB S (fun r20 S19 => ((if r20 = 0 then ((wp_M_beginning_138 K S19 v2)) else (wp_M_bits S19 20 5 (fun r23 S22 => ((if r23 = (S22 0 15) then ((wp_M_beginning_134 K S22 v2)) else ((wp_M_beginning_138 K S22 v2)))))))))
set_option maxHeartbeats 4000000 in
set_option maxRecDepth 100000 in
theorem L_M_beginning_113 {p : Program} {l : Launch} {e : Env} {s : State} {m : MethodId} {args : Array Value} {below : List Frame} {meth : Method} {c : Code} {A : Nat → Prop} {D : va_G} {h0 : Nat} {a : Nat → Nat} {cI cB : ClassId} {K : Int32 → St → Prop} (C : CX p rm_M_beginning s m args meth c b_M_beginning 5 "PipelinedCoreModel" (some .int) pr_M_beginning D clK (tysK cI cB) A) (S : St) (v2 : Int32) (h : wp_M_beginning_113 K S v2) : J p l e rm_M_beginning s m args below meth c 5 D clK A 0 0 (MQ below (va_Qi K (fun u t => QK D clK (tysK cI cB) A (wsM h0 a cI cB u) t) A) args s 0 0 A) (wsM h0 a cI cB S) [(0, .ref h0), (2, .int v2)] 113 [] := by
  unfold wp_M_beginning_113 at h
  refine j_aload_n C 60 114 rfl rfl rfl 0 rfl ?_
  refine j_callVi C 61 117 rfl rfl w826 m_M_usesB (As := []) (c_M_usesB l D h0 a cI cB S _ h) ⟨rfl, rfl⟩ ⟨Nat.le_of_ble_eq_true rfl, Nat.le_of_ble_eq_true rfl⟩ 0 rfl rfl rfl ⟨Nat.le_of_ble_eq_true rfl, Nat.le_of_ble_eq_true rfl⟩ (Nat.le_of_ble_eq_true rfl) rfl (fun r20 S19 h => ?_)
  refine j_if_eq C 62 138 120 rfl (by decide) rfl (fun c21 => ?_) (fun c21 => ?_)
  · replace h := ite_t h c21
    exact L_M_beginning_138 C S19 v2 h
  · replace h := ite_f h c21
    refine j_aload_n C 63 121 rfl rfl rfl 0 rfl ?_
    refine j_bipush C 64 123 rfl rfl kB_20 ?_
    refine j_iconst C 65 124 rfl rfl kI_5 ?_
    refine j_callVi C 66 127 rfl rfl w822 m_M_bits (As := [.int 20, .int 5]) (c_M_bits l D h0 a cI cB S19 20 5 _ h) ⟨rfl, rfl⟩ ⟨Nat.le_of_ble_eq_true rfl, Nat.le_of_ble_eq_true rfl⟩ 0 rfl rfl rfl ⟨Nat.le_of_ble_eq_true rfl, Nat.le_of_ble_eq_true rfl⟩ (Nat.le_of_ble_eq_true rfl) rfl (fun r23 S22 h => ?_)
    refine j_aload_n C 67 128 rfl rfl rfl 0 rfl ?_
    refine j_get C 68 131 rfl rfl fg_M_249 0 rfl rfl ?_
    refine j_icmp_ne C 69 138 134 rfl (by decide) rfl (fun c24 => ?_) (fun c24 => ?_)
    · replace h := ite_f h c24
      exact L_M_beginning_138 C S22 v2 h
    · replace h := ite_t h c24
      exact L_M_beginning_134 C S22 v2 h
def wp_M_beginning_77 (K : Int32 → St → Prop) (S : St) (k0 : Int32) : Prop := (if (S 0 13) = 0 then ((wp_M_beginning_138 K S k0)) else ((if (S 0 15) = 0 then ((wp_M_beginning_138 K S k0)) else (wp_M_usesA S (fun r14 S13 => ((if r14 = 0 then ((wp_M_beginning_113 K S13 k0)) else (wp_M_bits S13 15 5 (fun r17 S16 => ((if r17 = (S16 0 15) then ((wp_M_beginning_134 K S16 k0)) else ((wp_M_beginning_113 K S16 k0)))))))))))))
set_option maxHeartbeats 4000000 in
set_option maxRecDepth 100000 in
theorem L_M_beginning_77 {p : Program} {l : Launch} {e : Env} {s : State} {m : MethodId} {args : Array Value} {below : List Frame} {meth : Method} {c : Code} {A : Nat → Prop} {D : va_G} {h0 : Nat} {a : Nat → Nat} {cI cB : ClassId} {K : Int32 → St → Prop} (C : CX p rm_M_beginning s m args meth c b_M_beginning 5 "PipelinedCoreModel" (some .int) pr_M_beginning D clK (tysK cI cB) A) (S : St) (k0 : Int32) (h : wp_M_beginning_77 K S k0) : J p l e rm_M_beginning s m args below meth c 5 D clK A 0 0 (MQ below (va_Qi K (fun u t => QK D clK (tysK cI cB) A (wsM h0 a cI cB u) t) A) args s 0 0 A) (wsM h0 a cI cB S) [(0, .ref h0)] 77 [.int k0] := by
  unfold wp_M_beginning_77 at h
  refine j_istore_n C 43 78 [(2, .int k0), (0, .ref h0)] rfl rfl rfl (by decide) rfl ?_
  refine j_aload_n C 44 79 rfl rfl rfl 1 rfl ?_
  refine j_get C 45 82 rfl rfl fg_M_246 0 rfl rfl ?_
  refine j_if_eq C 46 138 85 rfl (by decide) rfl (fun c11 => ?_) (fun c11 => ?_)
  · replace h := ite_t h c11
    refine j_sub [1, 0] rfl ?_
    exact L_M_beginning_138 C S k0 h
  · replace h := ite_f h c11
    refine j_aload_n C 47 86 rfl rfl rfl 1 rfl ?_
    refine j_get C 48 89 rfl rfl fg_M_249 0 rfl rfl ?_
    refine j_if_eq C 49 138 92 rfl (by decide) rfl (fun c12 => ?_) (fun c12 => ?_)
    · replace h := ite_t h c12
      refine j_sub [1, 0] rfl ?_
      exact L_M_beginning_138 C S k0 h
    · replace h := ite_f h c12
      refine j_aload_n C 50 93 rfl rfl rfl 1 rfl ?_
      refine j_callVi C 51 96 rfl rfl w814 m_M_usesA (As := []) (c_M_usesA l D h0 a cI cB S _ h) ⟨rfl, rfl⟩ ⟨Nat.le_of_ble_eq_true rfl, Nat.le_of_ble_eq_true rfl⟩ 0 rfl rfl rfl ⟨Nat.le_of_ble_eq_true rfl, Nat.le_of_ble_eq_true rfl⟩ (Nat.le_of_ble_eq_true rfl) rfl (fun r14 S13 h => ?_)
      refine j_if_eq C 52 113 99 rfl (by decide) rfl (fun c15 => ?_) (fun c15 => ?_)
      · replace h := ite_t h c15
        refine j_sub [1, 0] rfl ?_
        exact L_M_beginning_113 C S13 k0 h
      · replace h := ite_f h c15
        refine j_aload_n C 53 100 rfl rfl rfl 1 rfl ?_
        refine j_bipush C 54 102 rfl rfl kB_15 ?_
        refine j_iconst C 55 103 rfl rfl kI_5 ?_
        refine j_callVi C 56 106 rfl rfl w822 m_M_bits (As := [.int 15, .int 5]) (c_M_bits l D h0 a cI cB S13 15 5 _ h) ⟨rfl, rfl⟩ ⟨Nat.le_of_ble_eq_true rfl, Nat.le_of_ble_eq_true rfl⟩ 0 rfl rfl rfl ⟨Nat.le_of_ble_eq_true rfl, Nat.le_of_ble_eq_true rfl⟩ (Nat.le_of_ble_eq_true rfl) rfl (fun r17 S16 h => ?_)
        refine j_aload_n C 57 107 rfl rfl rfl 1 rfl ?_
        refine j_get C 58 110 rfl rfl fg_M_249 0 rfl rfl ?_
        refine j_icmp_eq C 59 134 113 rfl (by decide) rfl (fun c18 => ?_) (fun c18 => ?_)
        · replace h := ite_t h c18
          refine j_sub [1, 0] rfl ?_
          exact L_M_beginning_134 C S16 k0 h
        · replace h := ite_f h c18
          refine j_sub [1, 0] rfl ?_
          exact L_M_beginning_113 C S16 k0 h
def wp_M_beginning_66 (K : Int32 → St → Prop) (S : St) (v2 : Int32) (k0 : Int32) : Prop := (if k0 ≤ v2 then ((wp_M_beginning_77 K S v2)) else ((wp_M_beginning_77 K S k0)))
set_option maxHeartbeats 4000000 in
set_option maxRecDepth 100000 in
theorem L_M_beginning_66 {p : Program} {l : Launch} {e : Env} {s : State} {m : MethodId} {args : Array Value} {below : List Frame} {meth : Method} {c : Code} {A : Nat → Prop} {D : va_G} {h0 : Nat} {a : Nat → Nat} {cI cB : ClassId} {K : Int32 → St → Prop} (C : CX p rm_M_beginning s m args meth c b_M_beginning 5 "PipelinedCoreModel" (some .int) pr_M_beginning D clK (tysK cI cB) A) (S : St) (v2 : Int32) (k0 : Int32) (h : wp_M_beginning_66 K S v2 k0) : J p l e rm_M_beginning s m args below meth c 5 D clK A 0 0 (MQ below (va_Qi K (fun u t => QK D clK (tysK cI cB) A (wsM h0 a cI cB u) t) A) args s 0 0 A) (wsM h0 a cI cB S) [(0, .ref h0), (2, .int v2)] 66 [.int k0] := by
  unfold wp_M_beginning_66 at h
  refine j_istore_n C 36 67 [(3, .int k0), (0, .ref h0), (2, .int v2)] rfl rfl rfl (by decide) rfl ?_
  refine j_iload_n C 37 68 rfl rfl rfl 0 rfl ?_
  refine j_iload_n C 38 69 rfl rfl rfl 2 rfl ?_
  refine j_icmp_le C 39 76 72 rfl (by decide) rfl (fun c10 => ?_) (fun c10 => ?_)
  · replace h := ite_t h c10
    refine j_iload_n C 42 77 rfl rfl rfl 2 rfl ?_
    refine j_sub [1] rfl ?_
    exact L_M_beginning_77 C S v2 h
  · replace h := ite_f h c10
    refine j_iload_n C 40 73 rfl rfl rfl 0 rfl ?_
    refine j_goto C 41 77 rfl (by decide) ?_
    refine j_sub [1] rfl ?_
    exact L_M_beginning_77 C S k0 h
def wp_M_beginning_23 (K : Int32 → St → Prop) (S : St) (k0 : Int32) : Prop := ∀ S4 : St, S4 = st S 0 44 k0 → (wp_M_decoding S4 (fun r6 S5 => (∀ x7 : Int32, x7 = r6 + (1 : Int32) → ((if (S5 0 9) = 0 then ((wp_M_beginning_66 K S5 x7 0)) else ((if (S5 0 10) = 0 then ((wp_M_beginning_66 K S5 x7 ((S5 0 11) + (1 : Int32)))) else ((wp_M_beginning_66 K S5 x7 (S5 0 12))))))))))
set_option maxHeartbeats 4000000 in
set_option maxRecDepth 100000 in
theorem L_M_beginning_23 {p : Program} {l : Launch} {e : Env} {s : State} {m : MethodId} {args : Array Value} {below : List Frame} {meth : Method} {c : Code} {A : Nat → Prop} {D : va_G} {h0 : Nat} {a : Nat → Nat} {cI cB : ClassId} {K : Int32 → St → Prop} (C : CX p rm_M_beginning s m args meth c b_M_beginning 5 "PipelinedCoreModel" (some .int) pr_M_beginning D clK (tysK cI cB) A) (S : St) (k0 : Int32) (h : wp_M_beginning_23 K S k0) : J p l e rm_M_beginning s m args below meth c 5 D clK A 0 0 (MQ below (va_Qi K (fun u t => QK D clK (tysK cI cB) A (wsM h0 a cI cB u) t) A) args s 0 0 A) (wsM h0 a cI cB S) [(0, .ref h0)] 23 [.int k0, .ref h0] := by
  unfold wp_M_beginning_23 at h
  refine j_put C 13 26 rfl rfl fp_M_103 0 rfl (Nat.le_of_ble_eq_true rfl) rfl rfl (st S 0 44 k0) (sM_0_44 _ _ _ _ _ _) (fun S4 eS4 => ?_)
  replace h := h S4 eS4
  refine j_aload_n C 14 27 rfl rfl rfl 0 rfl ?_
  refine j_callVi C 15 30 rfl rfl w810 m_M_decoding (As := []) (c_M_decoding l D h0 a cI cB S4 _ h) ⟨rfl, rfl⟩ ⟨Nat.le_of_ble_eq_true rfl, Nat.le_of_ble_eq_true rfl⟩ 0 rfl rfl rfl ⟨Nat.le_of_ble_eq_true rfl, Nat.le_of_ble_eq_true rfl⟩ (Nat.le_of_ble_eq_true rfl) rfl (fun r6 S5 h => ?_)
  refine j_istore_n C 16 31 [(1, .int r6), (0, .ref h0)] rfl rfl rfl (by decide) rfl ?_
  refine j_iload_n C 17 32 rfl rfl rfl 0 rfl ?_
  refine j_iconst C 18 33 rfl rfl kI_1 ?_
  refine j_iadd C 19 34 rfl rfl ?_
  refine j_topi (fun x7 ex7 => ?_)
  replace h := h x7 ex7
  refine j_istore_n C 20 35 [(2, .int x7), (1, .int r6), (0, .ref h0)] rfl rfl rfl (by decide) rfl ?_
  refine j_aload_n C 21 36 rfl rfl rfl 2 rfl ?_
  refine j_get C 22 39 rfl rfl fg_M_234 0 rfl rfl ?_
  refine j_if_ne C 23 46 42 rfl (by decide) rfl (fun c8 => ?_) (fun c8 => ?_)
  · replace h := ite_f h c8
    refine j_aload_n C 26 47 rfl rfl rfl 2 rfl ?_
    refine j_get C 27 50 rfl rfl fg_M_237 0 rfl rfl ?_
    refine j_if_eq C 28 60 53 rfl (by decide) rfl (fun c9 => ?_) (fun c9 => ?_)
    · replace h := ite_t h c9
      refine j_aload_n C 32 61 rfl rfl rfl 2 rfl ?_
      refine j_get C 33 64 rfl rfl fg_M_243 0 rfl rfl ?_
      refine j_iconst C 34 65 rfl rfl kI_1 ?_
      refine j_iadd C 35 66 rfl rfl ?_
      refine j_sub [2, 0] rfl ?_
      exact L_M_beginning_66 C S5 x7 ((S5 0 11) + (1 : Int32)) h
    · replace h := ite_f h c9
      refine j_aload_n C 29 54 rfl rfl rfl 2 rfl ?_
      refine j_get C 30 57 rfl rfl fg_M_240 0 rfl rfl ?_
      refine j_goto C 31 66 rfl (by decide) ?_
      refine j_sub [2, 0] rfl ?_
      exact L_M_beginning_66 C S5 x7 (S5 0 12) h
  · replace h := ite_t h c8
    refine j_iconst C 24 43 rfl rfl kI_0 ?_
    refine j_goto C 25 66 rfl (by decide) ?_
    refine j_sub [2, 0] rfl ?_
    exact L_M_beginning_66 C S5 x7 0 h
def wp_M_beginning (S : St)  (K : Int32 → St → Prop) : Prop := wp_M_inCode S (fun r2 S1 => ((if r2 = 0 then ((wp_M_beginning_23 K S1 0)) else (vp_in ((S1 0 6) / 4) 128 ∧ ((wp_M_beginning_23 K S1 (S1 1 ((S1 0 6) / 4 : Int32).toNatClampNeg)))))))
set_option maxHeartbeats 4000000 in
set_option maxRecDepth 100000 in
theorem c_M_beginning (l : Launch) (D : va_G) (h0 : Nat) (a : Nat → Nat) (cI cB : ClassId) (S : St)  (K : Int32 → St → Prop) (h : wp_M_beginning S K) (sz : Nat) : Met l y_M_beginning (Cond.code y_M_beginning b_M_beginning 5 (some .int) :: gw) rm_M_beginning (va_Pc [.ref h0] (PK D clK (tysK cI cB) (wsM h0 a cI cB S) sz)) (va_Qi K (fun u t => QK D clK (tysK cI cB) (va_A (wsM h0 a cI cB S) sz) (wsM h0 a cI cB u) t) (va_A (wsM h0 a cI cB S) sz)) 0 0 (va_A (wsM h0 a cI cB S) sz) := by
  refine met_of (rm := rm_M_beginning) (pr := pr_M_beginning) (Qc := fun A => va_Qi K (fun u t => QK D clK (tysK cI cB) A (wsM h0 a cI cB u) t) A) (by decide +kernel) dm_M_beginning (Nat.le_of_ble_eq_true rfl) (fun p e s m args below meth c A C => ?_) sz
  unfold wp_M_beginning at h
  show J p l e rm_M_beginning s m args below meth c 5 D clK A 0 0 _ (wsM h0 a cI cB S) [(0, .ref h0)] 0 []
  refine j_aload_n C 0 1 rfl rfl rfl 0 rfl ?_
  refine j_aload_n C 1 2 rfl rfl rfl 0 rfl ?_
  refine j_callVi C 2 5 rfl rfl w806 m_M_inCode (As := []) (c_M_inCode l D h0 a cI cB S _ h) ⟨rfl, rfl⟩ ⟨Nat.le_of_ble_eq_true rfl, Nat.le_of_ble_eq_true rfl⟩ 0 rfl rfl rfl ⟨Nat.le_of_ble_eq_true rfl, Nat.le_of_ble_eq_true rfl⟩ (Nat.le_of_ble_eq_true rfl) rfl (fun r2 S1 h => ?_)
  refine j_if_eq C 3 22 8 rfl (by decide) rfl (fun c3 => ?_) (fun c3 => ?_)
  · replace h := ite_t h c3
    refine j_iconst C 12 23 rfl rfl kI_0 ?_
    exact L_M_beginning_23 C S1 0 h
  · replace h := ite_f h c3
    refine j_aload_n C 4 9 rfl rfl rfl 0 rfl ?_
    refine j_get C 5 12 rfl rfl fg_M_7 0 rfl rfl ?_
    refine j_aload_n C 6 13 rfl rfl rfl 0 rfl ?_
    refine j_get C 7 16 rfl rfl fg_M_162 0 rfl rfl ?_
    refine j_iconst C 8 17 rfl rfl kI_4 ?_
    refine j_idiv C 9 18 rfl rfl (by decide) ?_
    refine j_iald C 10 19 rfl rfl 1 0 rfl rfl h.1 ?_
    replace h := h.2
    refine j_goto C 11 23 rfl (by decide) ?_
    exact L_M_beginning_23 C S1 (S1 1 ((S1 0 6) / 4 : Int32).toNatClampNeg) h
abbrev rm_M_learn : Room := { frames := 0, cells := 0, slots := 0, locals := 0 }
def wp_M_learn_137 (K : St → Prop) (S : St)  : Prop := K S
set_option maxHeartbeats 4000000 in
set_option maxRecDepth 100000 in
theorem L_M_learn_137 {p : Program} {l : Launch} {e : Env} {s : State} {m : MethodId} {args : Array Value} {below : List Frame} {meth : Method} {c : Code} {A : Nat → Prop} {D : va_G} {h0 : Nat} {a : Nat → Nat} {cI cB : ClassId} {K : St → Prop} (C : CX p rm_M_learn s m args meth c b_M_learn 6 "PipelinedCoreModel" none pr_M_learn D clK (tysK cI cB) A) (S : St)  (h : wp_M_learn_137 K S) : J p l e rm_M_learn s m args below meth c 6 D clK A 0 0 (MQ below (va_Qv K (fun u t => QK D clK (tysK cI cB) A (wsM h0 a cI cB u) t) A) args s 0 0 A) (wsM h0 a cI cB S) [] 137 [] := by
  unfold wp_M_learn_137 at h
  exact j_vret C 78 rfl h
def wp_M_learn_104 (K : St → Prop) (S : St) (k0 : Int32) (k1 : Int32) : Prop := vp_in k1 8 ∧ (∀ S12 : St, S12 = st S 19 k1.toNatClampNeg k0 → ((wp_M_learn_137 K S12)))
set_option maxHeartbeats 4000000 in
set_option maxRecDepth 100000 in
theorem L_M_learn_104 {p : Program} {l : Launch} {e : Env} {s : State} {m : MethodId} {args : Array Value} {below : List Frame} {meth : Method} {c : Code} {A : Nat → Prop} {D : va_G} {h0 : Nat} {a : Nat → Nat} {cI cB : ClassId} {K : St → Prop} (C : CX p rm_M_learn s m args meth c b_M_learn 6 "PipelinedCoreModel" none pr_M_learn D clK (tysK cI cB) A) (S : St) (k0 : Int32) (k1 : Int32) (h : wp_M_learn_104 K S k0 k1) : J p l e rm_M_learn s m args below meth c 6 D clK A 0 0 (MQ below (va_Qv K (fun u t => QK D clK (tysK cI cB) A (wsM h0 a cI cB u) t) A) args s 0 0 A) (wsM h0 a cI cB S) [] 104 [.int k0, .int k1, .ref (a 19)] := by
  unfold wp_M_learn_104 at h
  refine j_iast C 59 105 rfl rfl 19 0 rfl rfl h.1 (st S 19 k1.toNatClampNeg k0) (sM_19 _ _ _ _ _ _ _) (fun S12 eS12 => ?_)
  replace h := h.2
  replace h := h S12 eS12
  refine j_goto C 60 137 rfl (by decide) ?_
  exact L_M_learn_137 C S12 h
def wp_M_learn_81 (K : St → Prop) (S : St) (v3 : Int32) (v4 : Int32) (v5 : Int32) (k0 : Int32) (k1 : Int32) : Prop := vp_in k1 8 ∧ (∀ S10 : St, S10 = st S 20 k1.toNatClampNeg k0 → ((if v4 = 0 then (vp_in v5 8 ∧ ((wp_M_learn_104 K S10 (S10 19 v5.toNatClampNeg) v5))) else ((wp_M_learn_104 K S10 v3 v5)))))
set_option maxHeartbeats 4000000 in
set_option maxRecDepth 100000 in
theorem L_M_learn_81 {p : Program} {l : Launch} {e : Env} {s : State} {m : MethodId} {args : Array Value} {below : List Frame} {meth : Method} {c : Code} {A : Nat → Prop} {D : va_G} {h0 : Nat} {a : Nat → Nat} {cI cB : ClassId} {K : St → Prop} (C : CX p rm_M_learn s m args meth c b_M_learn 6 "PipelinedCoreModel" none pr_M_learn D clK (tysK cI cB) A) (S : St) (v3 : Int32) (v4 : Int32) (v5 : Int32) (k0 : Int32) (k1 : Int32) (h : wp_M_learn_81 K S v3 v4 v5 k0 k1) : J p l e rm_M_learn s m args below meth c 6 D clK A 0 0 (MQ below (va_Qv K (fun u t => QK D clK (tysK cI cB) A (wsM h0 a cI cB u) t) A) args s 0 0 A) (wsM h0 a cI cB S) [(0, .ref h0), (3, .int v3), (4, .int v4), (5, .int v5)] 81 [.int k0, .int k1, .ref (a 20)] := by
  unfold wp_M_learn_81 at h
  refine j_iast C 47 82 rfl rfl 20 0 rfl rfl h.1 (st S 20 k1.toNatClampNeg k0) (sM_20 _ _ _ _ _ _ _) (fun S10 eS10 => ?_)
  replace h := h.2
  replace h := h S10 eS10
  refine j_aload_n C 48 83 rfl rfl rfl 0 rfl ?_
  refine j_get C 49 86 rfl rfl fg_M_69 0 rfl rfl ?_
  refine j_iload C 50 88 rfl rfl 3 rfl ?_
  refine j_iload C 51 90 rfl rfl 2 rfl ?_
  refine j_if_eq C 52 97 93 rfl (by decide) rfl (fun c11 => ?_) (fun c11 => ?_)
  · replace h := ite_t h c11
    refine j_aload_n C 55 98 rfl rfl rfl 0 rfl ?_
    refine j_get C 56 101 rfl rfl fg_M_69 0 rfl rfl ?_
    refine j_iload C 57 103 rfl rfl 3 rfl ?_
    refine j_iald C 58 104 rfl rfl 19 0 rfl rfl h.1 ?_
    replace h := h.2
    refine j_sub [] rfl ?_
    exact L_M_learn_104 C S10 (S10 19 v5.toNatClampNeg) v5 h
  · replace h := ite_f h c11
    refine j_iload_n C 53 94 rfl rfl rfl 1 rfl ?_
    refine j_goto C 54 104 rfl (by decide) ?_
    refine j_sub [] rfl ?_
    exact L_M_learn_104 C S10 v3 v5 h
def wp_M_learn (S : St) (p1 : Int32) (p2 : Int32) (p3 : Int32) (p4 : Int32) (K : St → Prop) : Prop := ∀ x1 : Int32, x1 = p1 + ((p2 >>> ((2 : Int32) &&& 31)) &&& (3 : Int32)) → (vp_in x1 8 ∧ ((if (S 18 x1.toNatClampNeg) = p2 then ((if p4 = 0 then (vp_in x1 8 ∧ ((if (S 20 x1.toNatClampNeg) ≤ 0 then ((wp_M_learn_81 K S p3 p4 x1 0 x1)) else (vp_in x1 8 ∧ ((wp_M_learn_81 K S p3 p4 x1 ((S 20 x1.toNatClampNeg) - (1 : Int32)) x1)))))) else (vp_in x1 8 ∧ ((if (3 : Int32) ≤ (S 20 x1.toNatClampNeg) then ((wp_M_learn_81 K S p3 p4 x1 3 x1)) else (vp_in x1 8 ∧ ((wp_M_learn_81 K S p3 p4 x1 ((S 20 x1.toNatClampNeg) + (1 : Int32)) x1)))))))) else ((if p4 = 0 then ((wp_M_learn_137 K S)) else (vp_in x1 8 ∧ (∀ S4 : St, S4 = st S 18 x1.toNatClampNeg p2 → (vp_in x1 8 ∧ (∀ S5 : St, S5 = st S4 19 x1.toNatClampNeg p3 → (vp_in x1 8 ∧ (∀ S6 : St, S6 = st S5 20 x1.toNatClampNeg 2 → ((wp_M_learn_137 K S6)))))))))))))
set_option maxHeartbeats 4000000 in
set_option maxRecDepth 100000 in
theorem c_M_learn (l : Launch) (D : va_G) (h0 : Nat) (a : Nat → Nat) (cI cB : ClassId) (S : St) (p1 : Int32) (p2 : Int32) (p3 : Int32) (p4 : Int32) (K : St → Prop) (h : wp_M_learn S p1 p2 p3 p4 K) (sz : Nat) : Met l y_M_learn (Cond.code y_M_learn b_M_learn 6 none :: gw) rm_M_learn (va_Pc [.ref h0, .int p1, .int p2, .int p3, .int p4] (PK D clK (tysK cI cB) (wsM h0 a cI cB S) sz)) (va_Qv K (fun u t => QK D clK (tysK cI cB) (va_A (wsM h0 a cI cB S) sz) (wsM h0 a cI cB u) t) (va_A (wsM h0 a cI cB S) sz)) 0 0 (va_A (wsM h0 a cI cB S) sz) := by
  refine met_of (rm := rm_M_learn) (pr := pr_M_learn) (Qc := fun A => va_Qv K (fun u t => QK D clK (tysK cI cB) A (wsM h0 a cI cB u) t) A) (by decide +kernel) dm_M_learn (Nat.le_of_ble_eq_true rfl) (fun p e s m args below meth c A C => ?_) sz
  unfold wp_M_learn at h
  show J p l e rm_M_learn s m args below meth c 6 D clK A 0 0 _ (wsM h0 a cI cB S) [(0, .ref h0), (1, .int p1), (2, .int p2), (3, .int p3), (4, .int p4)] 0 []
  refine j_iload_n C 0 1 rfl rfl rfl 1 rfl ?_
  refine j_iload_n C 1 2 rfl rfl rfl 2 rfl ?_
  refine j_iconst C 2 3 rfl rfl kI_2 ?_
  refine j_ishr C 3 4 rfl rfl ?_
  refine j_iconst C 4 5 rfl rfl kI_3 ?_
  refine j_iand C 5 6 rfl rfl ?_
  refine j_iadd C 6 7 rfl rfl ?_
  refine j_topi (fun x1 ex1 => ?_)
  replace h := h x1 ex1
  refine j_istore C 7 9 [(5, .int x1), (0, .ref h0), (1, .int p1), (2, .int p2), (3, .int p3), (4, .int p4)] rfl rfl (by decide) rfl ?_
  refine j_aload_n C 8 10 rfl rfl rfl 1 rfl ?_
  refine j_get C 9 13 rfl rfl fg_M_66 0 rfl rfl ?_
  refine j_iload C 10 15 rfl rfl 0 rfl ?_
  refine j_iald C 11 16 rfl rfl 18 0 rfl rfl h.1 ?_
  replace h := h.2
  refine j_iload_n C 12 17 rfl rfl rfl 3 rfl ?_
  refine j_icmp_ne C 13 108 20 rfl (by decide) rfl (fun c2 => ?_) (fun c2 => ?_)
  · replace h := ite_f h c2
    refine j_iload C 61 110 rfl rfl 5 rfl ?_
    refine j_if_eq C 62 137 113 rfl (by decide) rfl (fun c3 => ?_) (fun c3 => ?_)
    · replace h := ite_t h c3
      refine j_sub [] rfl ?_
      exact L_M_learn_137 C S h
    · replace h := ite_f h c3
      refine j_aload_n C 63 114 rfl rfl rfl 1 rfl ?_
      refine j_get C 64 117 rfl rfl fg_M_66 0 rfl rfl ?_
      refine j_iload C 65 119 rfl rfl 0 rfl ?_
      refine j_iload_n C 66 120 rfl rfl rfl 3 rfl ?_
      refine j_iast C 67 121 rfl rfl 18 0 rfl rfl h.1 (st S 18 x1.toNatClampNeg p2) (sM_18 _ _ _ _ _ _ _) (fun S4 eS4 => ?_)
      replace h := h.2
      replace h := h S4 eS4
      refine j_aload_n C 68 122 rfl rfl rfl 1 rfl ?_
      refine j_get C 69 125 rfl rfl fg_M_69 0 rfl rfl ?_
      refine j_iload C 70 127 rfl rfl 0 rfl ?_
      refine j_iload_n C 71 128 rfl rfl rfl 4 rfl ?_
      refine j_iast C 72 129 rfl rfl 19 0 rfl rfl h.1 (st S4 19 x1.toNatClampNeg p3) (sM_19 _ _ _ _ _ _ _) (fun S5 eS5 => ?_)
      replace h := h.2
      replace h := h S5 eS5
      refine j_aload_n C 73 130 rfl rfl rfl 1 rfl ?_
      refine j_get C 74 133 rfl rfl fg_M_72 0 rfl rfl ?_
      refine j_iload C 75 135 rfl rfl 0 rfl ?_
      refine j_iconst C 76 136 rfl rfl kI_2 ?_
      refine j_iast C 77 137 rfl rfl 20 0 rfl rfl h.1 (st S5 20 x1.toNatClampNeg 2) (sM_20 _ _ _ _ _ _ _) (fun S6 eS6 => ?_)
      replace h := h.2
      replace h := h S6 eS6
      refine j_sub [] rfl ?_
      exact L_M_learn_137 C S6 h
  · replace h := ite_t h c2
    refine j_aload_n C 14 21 rfl rfl rfl 1 rfl ?_
    refine j_get C 15 24 rfl rfl fg_M_72 0 rfl rfl ?_
    refine j_iload C 16 26 rfl rfl 0 rfl ?_
    refine j_iload C 17 28 rfl rfl 5 rfl ?_
    refine j_if_eq C 18 58 31 rfl (by decide) rfl (fun c7 => ?_) (fun c7 => ?_)
    · replace h := ite_t h c7
      refine j_aload_n C 34 59 rfl rfl rfl 1 rfl ?_
      refine j_get C 35 62 rfl rfl fg_M_72 0 rfl rfl ?_
      refine j_iload C 36 64 rfl rfl 0 rfl ?_
      refine j_iald C 37 65 rfl rfl 20 0 rfl rfl h.1 ?_
      replace h := h.2
      refine j_if_le C 38 80 68 rfl (by decide) rfl (fun c8 => ?_) (fun c8 => ?_)
      · replace h := ite_t h c8
        refine j_iconst C 46 81 rfl rfl kI_0 ?_
        refine j_sub [1, 4, 5, 0] rfl ?_
        exact L_M_learn_81 C S p3 p4 x1 0 x1 h
      · replace h := ite_f h c8
        refine j_aload_n C 39 69 rfl rfl rfl 1 rfl ?_
        refine j_get C 40 72 rfl rfl fg_M_72 0 rfl rfl ?_
        refine j_iload C 41 74 rfl rfl 0 rfl ?_
        refine j_iald C 42 75 rfl rfl 20 0 rfl rfl h.1 ?_
        replace h := h.2
        refine j_iconst C 43 76 rfl rfl kI_1 ?_
        refine j_isub C 44 77 rfl rfl ?_
        refine j_goto C 45 81 rfl (by decide) ?_
        refine j_sub [1, 4, 5, 0] rfl ?_
        exact L_M_learn_81 C S p3 p4 x1 ((S 20 x1.toNatClampNeg) - (1 : Int32)) x1 h
    · replace h := ite_f h c7
      refine j_aload_n C 19 32 rfl rfl rfl 1 rfl ?_
      refine j_get C 20 35 rfl rfl fg_M_72 0 rfl rfl ?_
      refine j_iload C 21 37 rfl rfl 0 rfl ?_
      refine j_iald C 22 38 rfl rfl 20 0 rfl rfl h.1 ?_
      replace h := h.2
      refine j_iconst C 23 39 rfl rfl kI_3 ?_
      refine j_icmp_ge C 24 54 42 rfl (by decide) rfl (fun c9 => ?_) (fun c9 => ?_)
      · replace h := ite_t h c9
        refine j_iconst C 32 55 rfl rfl kI_3 ?_
        refine j_goto C 33 81 rfl (by decide) ?_
        refine j_sub [1, 4, 5, 0] rfl ?_
        exact L_M_learn_81 C S p3 p4 x1 3 x1 h
      · replace h := ite_f h c9
        refine j_aload_n C 25 43 rfl rfl rfl 1 rfl ?_
        refine j_get C 26 46 rfl rfl fg_M_72 0 rfl rfl ?_
        refine j_iload C 27 48 rfl rfl 0 rfl ?_
        refine j_iald C 28 49 rfl rfl 20 0 rfl rfl h.1 ?_
        replace h := h.2
        refine j_iconst C 29 50 rfl rfl kI_1 ?_
        refine j_iadd C 30 51 rfl rfl ?_
        refine j_goto C 31 81 rfl (by decide) ?_
        refine j_sub [1, 4, 5, 0] rfl ?_
        exact L_M_learn_81 C S p3 p4 x1 ((S 20 x1.toNatClampNeg) + (1 : Int32)) x1 h
abbrev rm_M_guess : Room := { frames := 0, cells := 0, slots := 0, locals := 0 }
def wp_M_guess_44 (K : Int32 → St → Prop) (S : St) (k0 : Int32) : Prop := K k0 S
set_option maxHeartbeats 4000000 in
set_option maxRecDepth 100000 in
theorem L_M_guess_44 {p : Program} {l : Launch} {e : Env} {s : State} {m : MethodId} {args : Array Value} {below : List Frame} {meth : Method} {c : Code} {A : Nat → Prop} {D : va_G} {h0 : Nat} {a : Nat → Nat} {cI cB : ClassId} {K : Int32 → St → Prop} (C : CX p rm_M_guess s m args meth c b_M_guess 4 "PipelinedCoreModel" (some .int) pr_M_guess D clK (tysK cI cB) A) (S : St) (k0 : Int32) (h : wp_M_guess_44 K S k0) : J p l e rm_M_guess s m args below meth c 4 D clK A 0 0 (MQ below (va_Qi K (fun u t => QK D clK (tysK cI cB) A (wsM h0 a cI cB u) t) A) args s 0 0 A) (wsM h0 a cI cB S) [] 44 [.int k0] := by
  unfold wp_M_guess_44 at h
  exact j_iret C 30 rfl h
def wp_M_guess_41 (K : Int32 → St → Prop) (S : St) (v2 : Int32) : Prop := (wp_M_guess_44 K S (v2 + (4 : Int32)))
set_option maxHeartbeats 4000000 in
set_option maxRecDepth 100000 in
theorem L_M_guess_41 {p : Program} {l : Launch} {e : Env} {s : State} {m : MethodId} {args : Array Value} {below : List Frame} {meth : Method} {c : Code} {A : Nat → Prop} {D : va_G} {h0 : Nat} {a : Nat → Nat} {cI cB : ClassId} {K : Int32 → St → Prop} (C : CX p rm_M_guess s m args meth c b_M_guess 4 "PipelinedCoreModel" (some .int) pr_M_guess D clK (tysK cI cB) A) (S : St) (v2 : Int32) (h : wp_M_guess_41 K S v2) : J p l e rm_M_guess s m args below meth c 4 D clK A 0 0 (MQ below (va_Qi K (fun u t => QK D clK (tysK cI cB) A (wsM h0 a cI cB u) t) A) args s 0 0 A) (wsM h0 a cI cB S) [(2, .int v2)] 41 [] := by
  unfold wp_M_guess_41 at h
  refine j_iload_n C 27 42 rfl rfl rfl 0 rfl ?_
  refine j_iconst C 28 43 rfl rfl kI_4 ?_
  refine j_iadd C 29 44 rfl rfl ?_
  refine j_sub [] rfl ?_
  exact L_M_guess_44 C S (v2 + (4 : Int32)) h
def wp_M_guess (S : St) (p1 : Int32) (p2 : Int32) (K : Int32 → St → Prop) : Prop := ∀ x1 : Int32, x1 = p1 + ((p2 >>> ((2 : Int32) &&& 31)) &&& (3 : Int32)) → (vp_in x1 8 ∧ ((if (S 18 x1.toNatClampNeg) = p2 then ((if p2 < 0 then ((wp_M_guess_41 K S p2)) else (vp_in x1 8 ∧ ((if (S 20 x1.toNatClampNeg) ≤ 1 then ((wp_M_guess_41 K S p2)) else (vp_in x1 8 ∧ ((wp_M_guess_44 K S (S 19 x1.toNatClampNeg))))))))) else ((wp_M_guess_41 K S p2)))))
set_option maxHeartbeats 4000000 in
set_option maxRecDepth 100000 in
theorem c_M_guess (l : Launch) (D : va_G) (h0 : Nat) (a : Nat → Nat) (cI cB : ClassId) (S : St) (p1 : Int32) (p2 : Int32) (K : Int32 → St → Prop) (h : wp_M_guess S p1 p2 K) (sz : Nat) : Met l y_M_guess (Cond.code y_M_guess b_M_guess 4 (some .int) :: gw) rm_M_guess (va_Pc [.ref h0, .int p1, .int p2] (PK D clK (tysK cI cB) (wsM h0 a cI cB S) sz)) (va_Qi K (fun u t => QK D clK (tysK cI cB) (va_A (wsM h0 a cI cB S) sz) (wsM h0 a cI cB u) t) (va_A (wsM h0 a cI cB S) sz)) 0 0 (va_A (wsM h0 a cI cB S) sz) := by
  refine met_of (rm := rm_M_guess) (pr := pr_M_guess) (Qc := fun A => va_Qi K (fun u t => QK D clK (tysK cI cB) A (wsM h0 a cI cB u) t) A) (by decide +kernel) dm_M_guess (Nat.le_of_ble_eq_true rfl) (fun p e s m args below meth c A C => ?_) sz
  unfold wp_M_guess at h
  show J p l e rm_M_guess s m args below meth c 4 D clK A 0 0 _ (wsM h0 a cI cB S) [(0, .ref h0), (1, .int p1), (2, .int p2)] 0 []
  refine j_iload_n C 0 1 rfl rfl rfl 1 rfl ?_
  refine j_iload_n C 1 2 rfl rfl rfl 2 rfl ?_
  refine j_iconst C 2 3 rfl rfl kI_2 ?_
  refine j_ishr C 3 4 rfl rfl ?_
  refine j_iconst C 4 5 rfl rfl kI_3 ?_
  refine j_iand C 5 6 rfl rfl ?_
  refine j_iadd C 6 7 rfl rfl ?_
  refine j_topi (fun x1 ex1 => ?_)
  replace h := h x1 ex1
  refine j_istore_n C 7 8 [(3, .int x1), (0, .ref h0), (1, .int p1), (2, .int p2)] rfl rfl rfl (by decide) rfl ?_
  refine j_aload_n C 8 9 rfl rfl rfl 1 rfl ?_
  refine j_get C 9 12 rfl rfl fg_M_66 0 rfl rfl ?_
  refine j_iload_n C 10 13 rfl rfl rfl 0 rfl ?_
  refine j_iald C 11 14 rfl rfl 18 0 rfl rfl h.1 ?_
  replace h := h.2
  refine j_iload_n C 12 15 rfl rfl rfl 3 rfl ?_
  refine j_icmp_ne C 13 41 18 rfl (by decide) rfl (fun c2 => ?_) (fun c2 => ?_)
  · replace h := ite_f h c2
    refine j_sub [3] rfl ?_
    exact L_M_guess_41 C S p2 h
  · replace h := ite_t h c2
    refine j_iload_n C 14 19 rfl rfl rfl 3 rfl ?_
    refine j_if_lt C 15 41 22 rfl (by decide) rfl (fun c3 => ?_) (fun c3 => ?_)
    · replace h := ite_t h c3
      refine j_sub [3] rfl ?_
      exact L_M_guess_41 C S p2 h
    · replace h := ite_f h c3
      refine j_aload_n C 16 23 rfl rfl rfl 1 rfl ?_
      refine j_get C 17 26 rfl rfl fg_M_72 0 rfl rfl ?_
      refine j_iload_n C 18 27 rfl rfl rfl 0 rfl ?_
      refine j_iald C 19 28 rfl rfl 20 0 rfl rfl h.1 ?_
      replace h := h.2
      refine j_iconst C 20 29 rfl rfl kI_1 ?_
      refine j_icmp_le C 21 41 32 rfl (by decide) rfl (fun c4 => ?_) (fun c4 => ?_)
      · replace h := ite_t h c4
        refine j_sub [3] rfl ?_
        exact L_M_guess_41 C S p2 h
      · replace h := ite_f h c4
        refine j_aload_n C 22 33 rfl rfl rfl 1 rfl ?_
        refine j_get C 23 36 rfl rfl fg_M_69 0 rfl rfl ?_
        refine j_iload_n C 24 37 rfl rfl rfl 0 rfl ?_
        refine j_iald C 25 38 rfl rfl 19 0 rfl rfl h.1 ?_
        replace h := h.2
        refine j_goto C 26 44 rfl (by decide) ?_
        refine j_sub [] rfl ?_
        exact L_M_guess_44 C S (S 19 x1.toNatClampNeg) h
abbrev rm_M_fetched : Room := { frames := 1, cells := 0, slots := 0, locals := 25 }
def wp_M_fetched_102 (K : Int32 → St → Prop) (KH : St → Int32 → Int32 → Prop) (S : St) (v1 : Int32) (v2 : Int32) : Prop := (KH S v1 (v2 + 1))
set_option maxHeartbeats 4000000 in
set_option maxRecDepth 100000 in
theorem L_M_fetched_102 {p : Program} {l : Launch} {e : Env} {s : State} {m : MethodId} {args : Array Value} {below : List Frame} {meth : Method} {c : Code} {A : Nat → Prop} {D : va_G} {h0 : Nat} {a : Nat → Nat} {cI cB : ClassId} {K : Int32 → St → Prop} (C : CX p rm_M_fetched s m args meth c b_M_fetched 3 "PipelinedCoreModel" (some .int) pr_M_fetched D clK (tysK cI cB) A) (KH : St → Int32 → Int32 → Prop) (hKH : ∀ (S : St) (v1 : Int32) (v2 : Int32), KH S v1 v2 → J p l e rm_M_fetched s m args below meth c 3 D clK A 0 0 (MQ below (va_Qi K (fun u t => QK D clK (tysK cI cB) A (wsM h0 a cI cB u) t) A) args s 0 0 A) (wsM h0 a cI cB S) [(0, .ref h0), (1, .int v1), (2, .int v2)] 4 []) (S : St) (v1 : Int32) (v2 : Int32) (h : wp_M_fetched_102 K KH S v1 v2) : J p l e rm_M_fetched s m args below meth c 3 D clK A 0 0 (MQ below (va_Qi K (fun u t => QK D clK (tysK cI cB) A (wsM h0 a cI cB u) t) A) args s 0 0 A) (wsM h0 a cI cB S) [(0, .ref h0), (1, .int v1), (2, .int v2)] 102 [] := by
  unfold wp_M_fetched_102 at h
  refine j_iinc C 64 105 [(2, .int (v2 + 1)), (0, .ref h0), (1, .int v1)] rfl rfl 2 rfl kI_1 (by decide) rfl ?_
  refine j_goto C 65 4 rfl (by decide) ?_
  refine j_sub [1, 2, 0] rfl ?_
  exact hKH S v1 (v2 + 1) h
def wp_M_fetched_4 (K : Int32 → St → Prop) : Nat → St → Int32 → Int32 → Prop
  | 0 => fun _ _ _ => False
  | f + 1 => fun S v1 v2 => (fun KH : St → Int32 → Int32 → Prop => (if (S 0 32) ≤ v2 then (∀ S2 : St, S2 = st S 0 32 v1 → (wp_M_guess S2 0 (S2 0 6) (fun r4 S3 => (K r4 S3)))) else (vp_in v2 160 ∧ ((if (S 0 16) ≤ (S 24 v2.toNatClampNeg) then (vp_in v2 160 ∧ (vp_in v1 160 ∧ (∀ S6 : St, S6 = st S 21 v1.toNatClampNeg (S 21 v2.toNatClampNeg) → (vp_in v2 160 ∧ (vp_in v1 160 ∧ (∀ S7 : St, S7 = st S6 22 v1.toNatClampNeg (S6 22 v2.toNatClampNeg) → (vp_in v2 160 ∧ (vp_in v1 160 ∧ (∀ S8 : St, S8 = st S7 23 v1.toNatClampNeg (vp_nar .boolean (S7 23 v2.toNatClampNeg)) → (vp_in v2 160 ∧ (vp_in v1 160 ∧ (∀ S9 : St, S9 = st S8 24 v1.toNatClampNeg (S8 24 v2.toNatClampNeg) → ((wp_M_fetched_102 K KH S9 (v1 + 1) v2)))))))))))))) else (vp_in v2 160 ∧ (vp_in v2 160 ∧ (vp_in v2 160 ∧ (wp_M_learn S 0 (S 21 v2.toNatClampNeg) (S 22 v2.toNatClampNeg) (S 23 v2.toNatClampNeg) (fun S10 => ((wp_M_fetched_102 K KH S10 v1 v2)))))))))))) (wp_M_fetched_4 K f)
set_option maxHeartbeats 4000000 in
set_option maxRecDepth 100000 in
theorem L_M_fetched_4 {p : Program} {l : Launch} {e : Env} {s : State} {m : MethodId} {args : Array Value} {below : List Frame} {meth : Method} {c : Code} {A : Nat → Prop} {D : va_G} {h0 : Nat} {a : Nat → Nat} {cI cB : ClassId} {K : Int32 → St → Prop} (C : CX p rm_M_fetched s m args meth c b_M_fetched 3 "PipelinedCoreModel" (some .int) pr_M_fetched D clK (tysK cI cB) A) (f : Nat) : ∀ (S : St) (v1 : Int32) (v2 : Int32), wp_M_fetched_4 K f S v1 v2 → J p l e rm_M_fetched s m args below meth c 3 D clK A 0 0 (MQ below (va_Qi K (fun u t => QK D clK (tysK cI cB) A (wsM h0 a cI cB u) t) A) args s 0 0 A) (wsM h0 a cI cB S) [(0, .ref h0), (1, .int v1), (2, .int v2)] 4 [] := by
  induction f with
  | zero => exact fun _ _ _ h => h.elim
  | succ f ih =>
    intro S v1 v2 h
    have hKH := ih
    rw [wp_M_fetched_4] at h
    generalize wp_M_fetched_4 K f = KH at h hKH
    try dsimp only at h
    refine j_iload_n C 4 5 rfl rfl rfl 2 rfl ?_
    refine j_aload_n C 5 6 rfl rfl rfl 0 rfl ?_
    refine j_get C 6 9 rfl rfl fg_M_284 0 rfl rfl ?_
    refine j_icmp_ge C 7 108 12 rfl (by decide) rfl (fun c1 => ?_) (fun c1 => ?_)
    · replace h := ite_t h c1
      refine j_aload_n C 66 109 rfl rfl rfl 0 rfl ?_
      refine j_iload_n C 67 110 rfl rfl rfl 1 rfl ?_
      refine j_put C 68 113 rfl rfl fp_M_284 0 rfl (Nat.le_of_ble_eq_true rfl) rfl rfl (st S 0 32 v1) (sM_0_32 _ _ _ _ _ _) (fun S2 eS2 => ?_)
      replace h := h S2 eS2
      refine j_aload_n C 69 114 rfl rfl rfl 0 rfl ?_
      refine j_iconst C 70 115 rfl rfl kI_0 ?_
      refine j_aload_n C 71 116 rfl rfl rfl 0 rfl ?_
      refine j_get C 72 119 rfl rfl fg_M_162 0 rfl rfl ?_
      refine j_callVi C 73 122 rfl rfl w842 m_M_guess (As := [.int 0, .int (S2 0 6)]) (c_M_guess l D h0 a cI cB S2 0 (S2 0 6) _ h) ⟨rfl, rfl⟩ ⟨Nat.le_of_ble_eq_true rfl, Nat.le_of_ble_eq_true rfl⟩ 0 rfl rfl rfl ⟨Nat.le_of_ble_eq_true rfl, Nat.le_of_ble_eq_true rfl⟩ (Nat.le_of_ble_eq_true rfl) rfl (fun r4 S3 h => ?_)
      exact j_iret C 74 rfl h
    · replace h := ite_f h c1
      refine j_aload_n C 8 13 rfl rfl rfl 0 rfl ?_
      refine j_get C 9 16 rfl rfl fg_M_84 0 rfl rfl ?_
      refine j_iload_n C 10 17 rfl rfl rfl 2 rfl ?_
      refine j_iald C 11 18 rfl rfl 24 0 rfl rfl h.1 ?_
      replace h := h.2
      refine j_aload_n C 12 19 rfl rfl rfl 0 rfl ?_
      refine j_get C 13 22 rfl rfl fg_M_28 0 rfl rfl ?_
      refine j_icmp_ge C 14 51 25 rfl (by decide) rfl (fun c5 => ?_) (fun c5 => ?_)
      · replace h := ite_t h c5
        refine j_aload_n C 31 52 rfl rfl rfl 0 rfl ?_
        refine j_get C 32 55 rfl rfl fg_M_75 0 rfl rfl ?_
        refine j_iload_n C 33 56 rfl rfl rfl 1 rfl ?_
        refine j_aload_n C 34 57 rfl rfl rfl 0 rfl ?_
        refine j_get C 35 60 rfl rfl fg_M_75 0 rfl rfl ?_
        refine j_iload_n C 36 61 rfl rfl rfl 2 rfl ?_
        refine j_iald C 37 62 rfl rfl 21 0 rfl rfl h.1 ?_
        replace h := h.2
        refine j_iast C 38 63 rfl rfl 21 0 rfl rfl h.1 (st S 21 v1.toNatClampNeg (S 21 v2.toNatClampNeg)) (sM_21 _ _ _ _ _ _ _) (fun S6 eS6 => ?_)
        replace h := h.2
        replace h := h S6 eS6
        refine j_aload_n C 39 64 rfl rfl rfl 0 rfl ?_
        refine j_get C 40 67 rfl rfl fg_M_78 0 rfl rfl ?_
        refine j_iload_n C 41 68 rfl rfl rfl 1 rfl ?_
        refine j_aload_n C 42 69 rfl rfl rfl 0 rfl ?_
        refine j_get C 43 72 rfl rfl fg_M_78 0 rfl rfl ?_
        refine j_iload_n C 44 73 rfl rfl rfl 2 rfl ?_
        refine j_iald C 45 74 rfl rfl 22 0 rfl rfl h.1 ?_
        replace h := h.2
        refine j_iast C 46 75 rfl rfl 22 0 rfl rfl h.1 (st S6 22 v1.toNatClampNeg (S6 22 v2.toNatClampNeg)) (sM_22 _ _ _ _ _ _ _) (fun S7 eS7 => ?_)
        replace h := h.2
        replace h := h S7 eS7
        refine j_aload_n C 47 76 rfl rfl rfl 0 rfl ?_
        refine j_get C 48 79 rfl rfl fg_M_81 0 rfl rfl ?_
        refine j_iload_n C 49 80 rfl rfl rfl 1 rfl ?_
        refine j_aload_n C 50 81 rfl rfl rfl 0 rfl ?_
        refine j_get C 51 84 rfl rfl fg_M_81 0 rfl rfl ?_
        refine j_iload_n C 52 85 rfl rfl rfl 2 rfl ?_
        refine j_zald C 53 86 rfl rfl 23 1 rfl rfl h.1 ?_
        replace h := h.2
        refine j_zast C 54 87 rfl rfl 23 1 rfl rfl h.1 (st S7 23 v1.toNatClampNeg (vp_nar .boolean (S7 23 v2.toNatClampNeg))) (sM_23 _ _ _ _ _ _ _) (fun S8 eS8 => ?_)
        replace h := h.2
        replace h := h S8 eS8
        refine j_aload_n C 55 88 rfl rfl rfl 0 rfl ?_
        refine j_get C 56 91 rfl rfl fg_M_84 0 rfl rfl ?_
        refine j_iload_n C 57 92 rfl rfl rfl 1 rfl ?_
        refine j_aload_n C 58 93 rfl rfl rfl 0 rfl ?_
        refine j_get C 59 96 rfl rfl fg_M_84 0 rfl rfl ?_
        refine j_iload_n C 60 97 rfl rfl rfl 2 rfl ?_
        refine j_iald C 61 98 rfl rfl 24 0 rfl rfl h.1 ?_
        replace h := h.2
        refine j_iast C 62 99 rfl rfl 24 0 rfl rfl h.1 (st S8 24 v1.toNatClampNeg (S8 24 v2.toNatClampNeg)) (sM_24 _ _ _ _ _ _ _) (fun S9 eS9 => ?_)
        replace h := h.2
        replace h := h S9 eS9
        refine j_iinc C 63 102 [(1, .int (v1 + 1)), (0, .ref h0), (2, .int v2)] rfl rfl 1 rfl kI_1 (by decide) rfl ?_
        refine j_sub [1, 0, 2] rfl ?_
        exact L_M_fetched_102 C KH hKH S9 (v1 + 1) v2 h
      · replace h := ite_f h c5
        refine j_aload_n C 15 26 rfl rfl rfl 0 rfl ?_
        refine j_iconst C 16 27 rfl rfl kI_0 ?_
        refine j_aload_n C 17 28 rfl rfl rfl 0 rfl ?_
        refine j_get C 18 31 rfl rfl fg_M_75 0 rfl rfl ?_
        refine j_iload_n C 19 32 rfl rfl rfl 2 rfl ?_
        refine j_iald C 20 33 rfl rfl 21 0 rfl rfl h.1 ?_
        replace h := h.2
        refine j_aload_n C 21 34 rfl rfl rfl 0 rfl ?_
        refine j_get C 22 37 rfl rfl fg_M_78 0 rfl rfl ?_
        refine j_iload_n C 23 38 rfl rfl rfl 2 rfl ?_
        refine j_iald C 24 39 rfl rfl 22 0 rfl rfl h.1 ?_
        replace h := h.2
        refine j_aload_n C 25 40 rfl rfl rfl 0 rfl ?_
        refine j_get C 26 43 rfl rfl fg_M_81 0 rfl rfl ?_
        refine j_iload_n C 27 44 rfl rfl rfl 2 rfl ?_
        refine j_zald C 28 45 rfl rfl 23 1 rfl rfl h.1 ?_
        replace h := h.2
        refine j_callVv C 29 48 rfl rfl w838 m_M_learn (As := [.int 0, .int (S 21 v2.toNatClampNeg), .int (S 22 v2.toNatClampNeg), .int (S 23 v2.toNatClampNeg)]) (c_M_learn l D h0 a cI cB S 0 (S 21 v2.toNatClampNeg) (S 22 v2.toNatClampNeg) (S 23 v2.toNatClampNeg) _ h) ⟨rfl, rfl⟩ ⟨Nat.le_of_ble_eq_true rfl, Nat.le_of_ble_eq_true rfl⟩ 0 rfl rfl rfl ⟨Nat.le_of_ble_eq_true rfl, Nat.le_of_ble_eq_true rfl⟩ (Nat.le_of_ble_eq_true rfl) rfl (fun S10 h => ?_)
        refine j_goto C 30 102 rfl (by decide) ?_
        exact L_M_fetched_102 C KH hKH S10 v1 v2 h
def wp_M_fetched (S : St)  (K : Int32 → St → Prop) : Prop := (∃ f, wp_M_fetched_4 K f S 0 0)
set_option maxHeartbeats 4000000 in
set_option maxRecDepth 100000 in
theorem c_M_fetched (l : Launch) (D : va_G) (h0 : Nat) (a : Nat → Nat) (cI cB : ClassId) (S : St)  (K : Int32 → St → Prop) (h : wp_M_fetched S K) (sz : Nat) : Met l y_M_fetched (Cond.code y_M_fetched b_M_fetched 3 (some .int) :: gw) rm_M_fetched (va_Pc [.ref h0] (PK D clK (tysK cI cB) (wsM h0 a cI cB S) sz)) (va_Qi K (fun u t => QK D clK (tysK cI cB) (va_A (wsM h0 a cI cB S) sz) (wsM h0 a cI cB u) t) (va_A (wsM h0 a cI cB S) sz)) 0 0 (va_A (wsM h0 a cI cB S) sz) := by
  refine met_of (rm := rm_M_fetched) (pr := pr_M_fetched) (Qc := fun A => va_Qi K (fun u t => QK D clK (tysK cI cB) A (wsM h0 a cI cB u) t) A) (by decide +kernel) dm_M_fetched (Nat.le_of_ble_eq_true rfl) (fun p e s m args below meth c A C => ?_) sz
  unfold wp_M_fetched at h
  show J p l e rm_M_fetched s m args below meth c 3 D clK A 0 0 _ (wsM h0 a cI cB S) [(0, .ref h0)] 0 []
  refine j_iconst C 0 1 rfl rfl kI_0 ?_
  refine j_istore_n C 1 2 [(1, .int 0), (0, .ref h0)] rfl rfl rfl (by decide) rfl ?_
  refine j_iconst C 2 3 rfl rfl kI_0 ?_
  refine j_istore_n C 3 4 [(2, .int 0), (1, .int 0), (0, .ref h0)] rfl rfl rfl (by decide) rfl ?_
  refine j_sub [2, 1, 0] rfl ?_
  obtain ⟨f, h⟩ := h
  exact L_M_fetched_4 C f S 0 0 h
abbrev rm_M_fulfil : Room := { frames := 4, cells := 0, slots := 0, locals := 90 }
def wp_M_fulfil_103 (K : St → Prop) (S : St)  : Prop := K S
set_option maxHeartbeats 4000000 in
set_option maxRecDepth 100000 in
theorem L_M_fulfil_103 {p : Program} {l : Launch} {e : Env} {s : State} {m : MethodId} {args : Array Value} {below : List Frame} {meth : Method} {c : Code} {A : Nat → Prop} {D : va_G} {h0 : Nat} {a : Nat → Nat} {cI cB : ClassId} {K : St → Prop} (C : CX p rm_M_fulfil s m args meth c b_M_fulfil 1 "PipelinedCoreModel" none pr_M_fulfil D clK (tysK cI cB) A) (S : St)  (h : wp_M_fulfil_103 K S) : J p l e rm_M_fulfil s m args below meth c 1 D clK A 0 0 (MQ below (va_Qv K (fun u t => QK D clK (tysK cI cB) A (wsM h0 a cI cB u) t) A) args s 0 0 A) (wsM h0 a cI cB S) [] 103 [] := by
  unfold wp_M_fulfil_103 at h
  exact j_vret C 52 rfl h
def wp_M_fulfil_102 (K : St → Prop) (S : St) (k0 : Int32) (k1 : Int32) : Prop := vp_in k1 8 ∧ (∀ S14 : St, S14 = st S 4 k1.toNatClampNeg k0 → ((wp_M_fulfil_103 K S14)))
set_option maxHeartbeats 4000000 in
set_option maxRecDepth 100000 in
theorem L_M_fulfil_102 {p : Program} {l : Launch} {e : Env} {s : State} {m : MethodId} {args : Array Value} {below : List Frame} {meth : Method} {c : Code} {A : Nat → Prop} {D : va_G} {h0 : Nat} {a : Nat → Nat} {cI cB : ClassId} {K : St → Prop} (C : CX p rm_M_fulfil s m args meth c b_M_fulfil 1 "PipelinedCoreModel" none pr_M_fulfil D clK (tysK cI cB) A) (S : St) (k0 : Int32) (k1 : Int32) (h : wp_M_fulfil_102 K S k0 k1) : J p l e rm_M_fulfil s m args below meth c 1 D clK A 0 0 (MQ below (va_Qv K (fun u t => QK D clK (tysK cI cB) A (wsM h0 a cI cB u) t) A) args s 0 0 A) (wsM h0 a cI cB S) [] 102 [.int k0, .int k1, .ref (a 4)] := by
  unfold wp_M_fulfil_102 at h
  refine j_iast C 51 103 rfl rfl 4 0 rfl rfl h.1 (st S 4 k1.toNatClampNeg k0) (sM_4 _ _ _ _ _ _ _) (fun S14 eS14 => ?_)
  replace h := h.2
  replace h := h S14 eS14
  exact L_M_fulfil_103 C S14 h
def wp_M_fulfil_27 (K : St → Prop) (S : St)  : Prop := (if (S 0 45) < 0 then ((if (S 0 55) = 0 then ((wp_M_fulfil_103 K S)) else (vp_in 4 8 ∧ (∀ S10 : St, S10 = st S 0 47 (S 4 (4 : Int32).toNatClampNeg) → (vp_in 0 8 ∧ ((if ((S10 4 (0 : Int32).toNatClampNeg) &&& (128 : Int32)) = 0 then ((wp_M_fulfil_102 K S10 128 0)) else ((wp_M_fulfil_102 K S10 136 0))))))))) else (vp_in 2 8 ∧ (wp_M_enter S (S 0 45) (S 0 46) ((S 4 (2 : Int32).toNatClampNeg) &&& (-4 : Int32)) (fun S12 => ((wp_M_fulfil_103 K S12))))))
set_option maxHeartbeats 4000000 in
set_option maxRecDepth 100000 in
theorem L_M_fulfil_27 {p : Program} {l : Launch} {e : Env} {s : State} {m : MethodId} {args : Array Value} {below : List Frame} {meth : Method} {c : Code} {A : Nat → Prop} {D : va_G} {h0 : Nat} {a : Nat → Nat} {cI cB : ClassId} {K : St → Prop} (C : CX p rm_M_fulfil s m args meth c b_M_fulfil 1 "PipelinedCoreModel" none pr_M_fulfil D clK (tysK cI cB) A) (S : St)  (h : wp_M_fulfil_27 K S) : J p l e rm_M_fulfil s m args below meth c 1 D clK A 0 0 (MQ below (va_Qv K (fun u t => QK D clK (tysK cI cB) A (wsM h0 a cI cB u) t) A) args s 0 0 A) (wsM h0 a cI cB S) [(0, .ref h0)] 27 [] := by
  unfold wp_M_fulfil_27 at h
  refine j_aload_n C 13 28 rfl rfl rfl 0 rfl ?_
  refine j_get C 14 31 rfl rfl fg_M_120 0 rfl rfl ?_
  refine j_if_lt C 15 58 34 rfl (by decide) rfl (fun c8 => ?_) (fun c8 => ?_)
  · replace h := ite_t h c8
    refine j_aload_n C 29 59 rfl rfl rfl 0 rfl ?_
    refine j_get C 30 62 rfl rfl fg_M_195 0 rfl rfl ?_
    refine j_if_eq C 31 103 65 rfl (by decide) rfl (fun c9 => ?_) (fun c9 => ?_)
    · replace h := ite_t h c9
      refine j_sub [] rfl ?_
      exact L_M_fulfil_103 C S h
    · replace h := ite_f h c9
      refine j_aload_n C 32 66 rfl rfl rfl 0 rfl ?_
      refine j_aload_n C 33 67 rfl rfl rfl 0 rfl ?_
      refine j_get C 34 70 rfl rfl fg_M_19 0 rfl rfl ?_
      refine j_iconst C 35 71 rfl rfl kI_4 ?_
      refine j_iald C 36 72 rfl rfl 4 0 rfl rfl h.1 ?_
      replace h := h.2
      refine j_put C 37 75 rfl rfl fp_M_152 0 rfl (Nat.le_of_ble_eq_true rfl) rfl rfl (st S 0 47 (S 4 (4 : Int32).toNatClampNeg)) (sM_0_47 _ _ _ _ _ _) (fun S10 eS10 => ?_)
      replace h := h S10 eS10
      refine j_aload_n C 38 76 rfl rfl rfl 0 rfl ?_
      refine j_get C 39 79 rfl rfl fg_M_19 0 rfl rfl ?_
      refine j_iconst C 40 80 rfl rfl kI_0 ?_
      refine j_aload_n C 41 81 rfl rfl rfl 0 rfl ?_
      refine j_get C 42 84 rfl rfl fg_M_19 0 rfl rfl ?_
      refine j_iconst C 43 85 rfl rfl kI_0 ?_
      refine j_iald C 44 86 rfl rfl 4 0 rfl rfl h.1 ?_
      replace h := h.2
      refine j_sipush C 45 89 rfl rfl kS_128 ?_
      refine j_iand C 46 90 rfl rfl ?_
      refine j_if_eq C 47 99 93 rfl (by decide) rfl (fun c11 => ?_) (fun c11 => ?_)
      · replace h := ite_t h c11
        refine j_sipush C 50 102 rfl rfl kS_128 ?_
        refine j_sub [] rfl ?_
        exact L_M_fulfil_102 C S10 128 0 h
      · replace h := ite_f h c11
        refine j_sipush C 48 96 rfl rfl kS_136 ?_
        refine j_goto C 49 102 rfl (by decide) ?_
        refine j_sub [] rfl ?_
        exact L_M_fulfil_102 C S10 136 0 h
  · replace h := ite_f h c8
    refine j_aload_n C 16 35 rfl rfl rfl 0 rfl ?_
    refine j_aload_n C 17 36 rfl rfl rfl 0 rfl ?_
    refine j_get C 18 39 rfl rfl fg_M_120 0 rfl rfl ?_
    refine j_aload_n C 19 40 rfl rfl rfl 0 rfl ?_
    refine j_get C 20 43 rfl rfl fg_M_123 0 rfl rfl ?_
    refine j_aload_n C 21 44 rfl rfl rfl 0 rfl ?_
    refine j_get C 22 47 rfl rfl fg_M_19 0 rfl rfl ?_
    refine j_iconst C 23 48 rfl rfl kI_2 ?_
    refine j_iald C 24 49 rfl rfl 4 0 rfl rfl h.1 ?_
    replace h := h.2
    refine j_bipush C 25 51 rfl rfl kB_m4 ?_
    refine j_iand C 26 52 rfl rfl ?_
    refine j_callVv C 27 55 rfl rfl w847 m_M_enter (As := [.int (S 0 45), .int (S 0 46), .int ((S 4 (2 : Int32).toNatClampNeg) &&& (-4 : Int32))]) (c_M_enter l D h0 a cI cB S (S 0 45) (S 0 46) ((S 4 (2 : Int32).toNatClampNeg) &&& (-4 : Int32)) _ h) ⟨rfl, rfl⟩ ⟨Nat.le_of_ble_eq_true rfl, Nat.le_of_ble_eq_true rfl⟩ 0 rfl rfl rfl ⟨Nat.le_of_ble_eq_true rfl, Nat.le_of_ble_eq_true rfl⟩ (Nat.le_of_ble_eq_true rfl) rfl (fun S12 h => ?_)
    refine j_goto C 28 103 rfl (by decide) ?_
    refine j_sub [] rfl ?_
    exact L_M_fulfil_103 C S12 h
def wp_M_fulfil (S : St)  (K : St → Prop) : Prop := wp_M_inCode S (fun r2 S1 => ((if r2 = 0 then (∀ S4 : St, S4 = st S1 0 45 1 → (∀ S5 : St, S5 = st S4 0 46 (S4 0 6) → ((wp_M_fulfil_27 K S5)))) else (wp_M_decide S1 (fun S6 => ((wp_M_fulfil_27 K S6)))))))
set_option maxHeartbeats 4000000 in
set_option maxRecDepth 100000 in
theorem c_M_fulfil (l : Launch) (D : va_G) (h0 : Nat) (a : Nat → Nat) (cI cB : ClassId) (S : St)  (K : St → Prop) (h : wp_M_fulfil S K) (sz : Nat) : Met l y_M_fulfil (Cond.code y_M_fulfil b_M_fulfil 1 none :: gw) rm_M_fulfil (va_Pc [.ref h0] (PK D clK (tysK cI cB) (wsM h0 a cI cB S) sz)) (va_Qv K (fun u t => QK D clK (tysK cI cB) (va_A (wsM h0 a cI cB S) sz) (wsM h0 a cI cB u) t) (va_A (wsM h0 a cI cB S) sz)) 0 0 (va_A (wsM h0 a cI cB S) sz) := by
  refine met_of (rm := rm_M_fulfil) (pr := pr_M_fulfil) (Qc := fun A => va_Qv K (fun u t => QK D clK (tysK cI cB) A (wsM h0 a cI cB u) t) A) (by decide +kernel) dm_M_fulfil (Nat.le_of_ble_eq_true rfl) (fun p e s m args below meth c A C => ?_) sz
  unfold wp_M_fulfil at h
  show J p l e rm_M_fulfil s m args below meth c 1 D clK A 0 0 _ (wsM h0 a cI cB S) [(0, .ref h0)] 0 []
  refine j_aload_n C 0 1 rfl rfl rfl 0 rfl ?_
  refine j_callVi C 1 4 rfl rfl w806 m_M_inCode (As := []) (c_M_inCode l D h0 a cI cB S _ h) ⟨rfl, rfl⟩ ⟨Nat.le_of_ble_eq_true rfl, Nat.le_of_ble_eq_true rfl⟩ 0 rfl rfl rfl ⟨Nat.le_of_ble_eq_true rfl, Nat.le_of_ble_eq_true rfl⟩ (Nat.le_of_ble_eq_true rfl) rfl (fun r2 S1 h => ?_)
  refine j_if_eq C 2 14 7 rfl (by decide) rfl (fun c3 => ?_) (fun c3 => ?_)
  · replace h := ite_t h c3
    refine j_aload_n C 6 15 rfl rfl rfl 0 rfl ?_
    refine j_iconst C 7 16 rfl rfl kI_1 ?_
    refine j_put C 8 19 rfl rfl fp_M_120 0 rfl (Nat.le_of_ble_eq_true rfl) rfl rfl (st S1 0 45 1) (sM_0_45 _ _ _ _ _ _) (fun S4 eS4 => ?_)
    replace h := h S4 eS4
    refine j_aload_n C 9 20 rfl rfl rfl 0 rfl ?_
    refine j_aload_n C 10 21 rfl rfl rfl 0 rfl ?_
    refine j_get C 11 24 rfl rfl fg_M_162 0 rfl rfl ?_
    refine j_put C 12 27 rfl rfl fp_M_123 0 rfl (Nat.le_of_ble_eq_true rfl) rfl rfl (st S4 0 46 (S4 0 6)) (sM_0_46 _ _ _ _ _ _) (fun S5 eS5 => ?_)
    replace h := h S5 eS5
    exact L_M_fulfil_27 C S5 h
  · replace h := ite_f h c3
    refine j_aload_n C 3 8 rfl rfl rfl 0 rfl ?_
    refine j_callVv C 4 11 rfl rfl w855 m_M_decide (As := []) (c_M_decide l D h0 a cI cB S1 _ h) ⟨rfl, rfl⟩ ⟨Nat.le_of_ble_eq_true rfl, Nat.le_of_ble_eq_true rfl⟩ 0 rfl rfl rfl ⟨Nat.le_of_ble_eq_true rfl, Nat.le_of_ble_eq_true rfl⟩ (Nat.le_of_ble_eq_true rfl) rfl (fun S6 h => ?_)
    refine j_goto C 5 27 rfl (by decide) ?_
    exact L_M_fulfil_27 C S6 h
abbrev rm_M_cached : Room := { frames := 0, cells := 0, slots := 0, locals := 0 }
def wp_M_cached_101 (K : Int32 → St → Prop) (S : St) (v1 : Int32) (v2 : Int32) (v3 : Int32) (k0 : Int32) (k1 : Int32) : Prop := vp_in k1 4 ∧ (∀ S9 : St, S9 = st S 17 k1.toNatClampNeg (vp_nar .boolean k0) → (vp_in v2 4 ∧ (∀ S10 : St, S10 = st S9 16 v2.toNatClampNeg v1 → (K v3 S10))))
set_option maxHeartbeats 4000000 in
set_option maxRecDepth 100000 in
theorem L_M_cached_101 {p : Program} {l : Launch} {e : Env} {s : State} {m : MethodId} {args : Array Value} {below : List Frame} {meth : Method} {c : Code} {A : Nat → Prop} {D : va_G} {h0 : Nat} {a : Nat → Nat} {cI cB : ClassId} {K : Int32 → St → Prop} (C : CX p rm_M_cached s m args meth c b_M_cached 4 "PipelinedCoreModel" (some .int) pr_M_cached D clK (tysK cI cB) A) (S : St) (v1 : Int32) (v2 : Int32) (v3 : Int32) (k0 : Int32) (k1 : Int32) (h : wp_M_cached_101 K S v1 v2 v3 k0 k1) : J p l e rm_M_cached s m args below meth c 4 D clK A 0 0 (MQ below (va_Qi K (fun u t => QK D clK (tysK cI cB) A (wsM h0 a cI cB u) t) A) args s 0 0 A) (wsM h0 a cI cB S) [(0, .ref h0), (1, .int v1), (2, .int v2), (3, .int v3)] 101 [.int k0, .int k1, .ref (a 17)] := by
  unfold wp_M_cached_101 at h
  refine j_zast C 59 102 rfl rfl 17 1 rfl rfl h.1 (st S 17 k1.toNatClampNeg (vp_nar .boolean k0)) (sM_17 _ _ _ _ _ _ _) (fun S9 eS9 => ?_)
  replace h := h.2
  replace h := h S9 eS9
  refine j_aload_n C 60 103 rfl rfl rfl 0 rfl ?_
  refine j_get C 61 106 rfl rfl fg_M_60 0 rfl rfl ?_
  refine j_iload_n C 62 107 rfl rfl rfl 2 rfl ?_
  refine j_iload_n C 63 108 rfl rfl rfl 1 rfl ?_
  refine j_iast C 64 109 rfl rfl 16 0 rfl rfl h.1 (st S9 16 v2.toNatClampNeg v1) (sM_16 _ _ _ _ _ _ _) (fun S10 eS10 => ?_)
  replace h := h.2
  replace h := h S10 eS10
  refine j_iload_n C 65 110 rfl rfl rfl 3 rfl ?_
  exact j_iret C 66 rfl h
def wp_M_cached_96 (K : Int32 → St → Prop) (S : St) (v1 : Int32) (v2 : Int32) (v3 : Int32) (k0 : Int32) : Prop := (wp_M_cached_101 K S v1 v2 v3 1 k0)
set_option maxHeartbeats 4000000 in
set_option maxRecDepth 100000 in
theorem L_M_cached_96 {p : Program} {l : Launch} {e : Env} {s : State} {m : MethodId} {args : Array Value} {below : List Frame} {meth : Method} {c : Code} {A : Nat → Prop} {D : va_G} {h0 : Nat} {a : Nat → Nat} {cI cB : ClassId} {K : Int32 → St → Prop} (C : CX p rm_M_cached s m args meth c b_M_cached 4 "PipelinedCoreModel" (some .int) pr_M_cached D clK (tysK cI cB) A) (S : St) (v1 : Int32) (v2 : Int32) (v3 : Int32) (k0 : Int32) (h : wp_M_cached_96 K S v1 v2 v3 k0) : J p l e rm_M_cached s m args below meth c 4 D clK A 0 0 (MQ below (va_Qi K (fun u t => QK D clK (tysK cI cB) A (wsM h0 a cI cB u) t) A) args s 0 0 A) (wsM h0 a cI cB S) [(0, .ref h0), (1, .int v1), (2, .int v2), (3, .int v3)] 96 [.int k0, .ref (a 17)] := by
  unfold wp_M_cached_96 at h
  refine j_iconst C 56 97 rfl rfl kI_1 ?_
  refine j_goto C 57 101 rfl (by decide) ?_
  exact L_M_cached_101 C S v1 v2 v3 1 k0 h
def wp_M_cached_100 (K : Int32 → St → Prop) (S : St) (v1 : Int32) (v2 : Int32) (v3 : Int32) (k0 : Int32) : Prop := (wp_M_cached_101 K S v1 v2 v3 0 k0)
set_option maxHeartbeats 4000000 in
set_option maxRecDepth 100000 in
theorem L_M_cached_100 {p : Program} {l : Launch} {e : Env} {s : State} {m : MethodId} {args : Array Value} {below : List Frame} {meth : Method} {c : Code} {A : Nat → Prop} {D : va_G} {h0 : Nat} {a : Nat → Nat} {cI cB : ClassId} {K : Int32 → St → Prop} (C : CX p rm_M_cached s m args meth c b_M_cached 4 "PipelinedCoreModel" (some .int) pr_M_cached D clK (tysK cI cB) A) (S : St) (v1 : Int32) (v2 : Int32) (v3 : Int32) (k0 : Int32) (h : wp_M_cached_100 K S v1 v2 v3 k0) : J p l e rm_M_cached s m args below meth c 4 D clK A 0 0 (MQ below (va_Qi K (fun u t => QK D clK (tysK cI cB) A (wsM h0 a cI cB u) t) A) args s 0 0 A) (wsM h0 a cI cB S) [(0, .ref h0), (1, .int v1), (2, .int v2), (3, .int v3)] 100 [.int k0, .ref (a 17)] := by
  unfold wp_M_cached_100 at h
  refine j_iconst C 58 101 rfl rfl kI_0 ?_
  exact L_M_cached_101 C S v1 v2 v3 0 k0 h
def wp_M_cached_64 (K : Int32 → St → Prop) (S : St) (v1 : Int32) (v2 : Int32) (k0 : Int32) : Prop := (if (S 0 51) = 0 then (vp_in v2 4 ∧ ((if (S 16 v2.toNatClampNeg) = v1 then (vp_in v2 4 ∧ ((if (S 17 v2.toNatClampNeg) = 0 then ((wp_M_cached_100 K S v1 v2 k0 v2)) else ((wp_M_cached_96 K S v1 v2 k0 v2))))) else ((wp_M_cached_100 K S v1 v2 k0 v2))))) else ((wp_M_cached_96 K S v1 v2 k0 v2)))
set_option maxHeartbeats 4000000 in
set_option maxRecDepth 100000 in
theorem L_M_cached_64 {p : Program} {l : Launch} {e : Env} {s : State} {m : MethodId} {args : Array Value} {below : List Frame} {meth : Method} {c : Code} {A : Nat → Prop} {D : va_G} {h0 : Nat} {a : Nat → Nat} {cI cB : ClassId} {K : Int32 → St → Prop} (C : CX p rm_M_cached s m args meth c b_M_cached 4 "PipelinedCoreModel" (some .int) pr_M_cached D clK (tysK cI cB) A) (S : St) (v1 : Int32) (v2 : Int32) (k0 : Int32) (h : wp_M_cached_64 K S v1 v2 k0) : J p l e rm_M_cached s m args below meth c 4 D clK A 0 0 (MQ below (va_Qi K (fun u t => QK D clK (tysK cI cB) A (wsM h0 a cI cB u) t) A) args s 0 0 A) (wsM h0 a cI cB S) [(0, .ref h0), (1, .int v1), (2, .int v2)] 64 [.int k0] := by
  unfold wp_M_cached_64 at h
  refine j_istore_n C 38 65 [(3, .int k0), (0, .ref h0), (1, .int v1), (2, .int v2)] rfl rfl rfl (by decide) rfl ?_
  refine j_aload_n C 39 66 rfl rfl rfl 1 rfl ?_
  refine j_get C 40 69 rfl rfl fg_M_63 0 rfl rfl ?_
  refine j_iload_n C 41 70 rfl rfl rfl 3 rfl ?_
  refine j_aload_n C 42 71 rfl rfl rfl 1 rfl ?_
  refine j_get C 43 74 rfl rfl fg_M_183 0 rfl rfl ?_
  refine j_if_ne C 44 96 77 rfl (by decide) rfl (fun c6 => ?_) (fun c6 => ?_)
  · replace h := ite_f h c6
    refine j_sub [1, 2, 3, 0] rfl ?_
    exact L_M_cached_96 C S v1 v2 k0 v2 h
  · replace h := ite_t h c6
    refine j_aload_n C 45 78 rfl rfl rfl 1 rfl ?_
    refine j_get C 46 81 rfl rfl fg_M_60 0 rfl rfl ?_
    refine j_iload_n C 47 82 rfl rfl rfl 3 rfl ?_
    refine j_iald C 48 83 rfl rfl 16 0 rfl rfl h.1 ?_
    replace h := h.2
    refine j_iload_n C 49 84 rfl rfl rfl 2 rfl ?_
    refine j_icmp_ne C 50 100 87 rfl (by decide) rfl (fun c7 => ?_) (fun c7 => ?_)
    · replace h := ite_f h c7
      refine j_sub [1, 2, 3, 0] rfl ?_
      exact L_M_cached_100 C S v1 v2 k0 v2 h
    · replace h := ite_t h c7
      refine j_aload_n C 51 88 rfl rfl rfl 1 rfl ?_
      refine j_get C 52 91 rfl rfl fg_M_63 0 rfl rfl ?_
      refine j_iload_n C 53 92 rfl rfl rfl 3 rfl ?_
      refine j_zald C 54 93 rfl rfl 17 1 rfl rfl h.1 ?_
      replace h := h.2
      refine j_if_eq C 55 100 96 rfl (by decide) rfl (fun c8 => ?_) (fun c8 => ?_)
      · replace h := ite_t h c8
        refine j_sub [1, 2, 3, 0] rfl ?_
        exact L_M_cached_100 C S v1 v2 k0 v2 h
      · replace h := ite_f h c8
        refine j_sub [1, 2, 3, 0] rfl ?_
        exact L_M_cached_96 C S v1 v2 k0 v2 h
def wp_M_cached_58 (K : Int32 → St → Prop) (S : St) (v1 : Int32) (v2 : Int32) : Prop := (wp_M_cached_64 K S v1 v2 ((4 : Int32) * (S 0 0)))
set_option maxHeartbeats 4000000 in
set_option maxRecDepth 100000 in
theorem L_M_cached_58 {p : Program} {l : Launch} {e : Env} {s : State} {m : MethodId} {args : Array Value} {below : List Frame} {meth : Method} {c : Code} {A : Nat → Prop} {D : va_G} {h0 : Nat} {a : Nat → Nat} {cI cB : ClassId} {K : Int32 → St → Prop} (C : CX p rm_M_cached s m args meth c b_M_cached 4 "PipelinedCoreModel" (some .int) pr_M_cached D clK (tysK cI cB) A) (S : St) (v1 : Int32) (v2 : Int32) (h : wp_M_cached_58 K S v1 v2) : J p l e rm_M_cached s m args below meth c 4 D clK A 0 0 (MQ below (va_Qi K (fun u t => QK D clK (tysK cI cB) A (wsM h0 a cI cB u) t) A) args s 0 0 A) (wsM h0 a cI cB S) [(0, .ref h0), (1, .int v1), (2, .int v2)] 58 [] := by
  unfold wp_M_cached_58 at h
  refine j_iconst C 34 59 rfl rfl kI_4 ?_
  refine j_aload_n C 35 60 rfl rfl rfl 0 rfl ?_
  refine j_get C 36 63 rfl rfl fg_M_93 0 rfl rfl ?_
  refine j_imul C 37 64 rfl rfl ?_
  exact L_M_cached_64 C S v1 v2 ((4 : Int32) * (S 0 0)) h
def wp_M_cached (S : St)  (K : Int32 → St → Prop) : Prop := ∀ x1 : Int32, x1 = ((S 0 50) - (1024 : Int32)) / 16 → (∀ x2 : Int32, x2 = jrem x1 4 → (vp_in x2 4 ∧ ((if (S 16 x2.toNatClampNeg) = x1 then ((wp_M_cached_64 K S x1 x2 0)) else (vp_in x2 4 ∧ ((if (S 16 x2.toNatClampNeg) < 0 then ((wp_M_cached_58 K S x1 x2)) else (vp_in x2 4 ∧ ((if (S 17 x2.toNatClampNeg) = 0 then ((wp_M_cached_58 K S x1 x2)) else ((wp_M_cached_64 K S x1 x2 ((8 : Int32) * (S 0 0))))))))))))))
set_option maxHeartbeats 4000000 in
set_option maxRecDepth 100000 in
theorem c_M_cached (l : Launch) (D : va_G) (h0 : Nat) (a : Nat → Nat) (cI cB : ClassId) (S : St)  (K : Int32 → St → Prop) (h : wp_M_cached S K) (sz : Nat) : Met l y_M_cached (Cond.code y_M_cached b_M_cached 4 (some .int) :: gw) rm_M_cached (va_Pc [.ref h0] (PK D clK (tysK cI cB) (wsM h0 a cI cB S) sz)) (va_Qi K (fun u t => QK D clK (tysK cI cB) (va_A (wsM h0 a cI cB S) sz) (wsM h0 a cI cB u) t) (va_A (wsM h0 a cI cB S) sz)) 0 0 (va_A (wsM h0 a cI cB S) sz) := by
  refine met_of (rm := rm_M_cached) (pr := pr_M_cached) (Qc := fun A => va_Qi K (fun u t => QK D clK (tysK cI cB) A (wsM h0 a cI cB u) t) A) (by decide +kernel) dm_M_cached (Nat.le_of_ble_eq_true rfl) (fun p e s m args below meth c A C => ?_) sz
  unfold wp_M_cached at h
  show J p l e rm_M_cached s m args below meth c 4 D clK A 0 0 _ (wsM h0 a cI cB S) [(0, .ref h0)] 0 []
  refine j_aload_n C 0 1 rfl rfl rfl 0 rfl ?_
  refine j_get C 1 4 rfl rfl fg_M_172 0 rfl rfl ?_
  refine j_sipush C 2 7 rfl rfl kS_1024 ?_
  refine j_isub C 3 8 rfl rfl ?_
  refine j_bipush C 4 10 rfl rfl kB_16 ?_
  refine j_idiv C 5 11 rfl rfl (by decide) ?_
  refine j_topi (fun x1 ex1 => ?_)
  replace h := h x1 ex1
  refine j_istore_n C 6 12 [(1, .int x1), (0, .ref h0)] rfl rfl rfl (by decide) rfl ?_
  refine j_iload_n C 7 13 rfl rfl rfl 0 rfl ?_
  refine j_iconst C 8 14 rfl rfl kI_4 ?_
  refine j_irem C 9 15 rfl rfl (by decide) ?_
  refine j_topi (fun x2 ex2 => ?_)
  replace h := h x2 ex2
  refine j_istore_n C 10 16 [(2, .int x2), (1, .int x1), (0, .ref h0)] rfl rfl rfl (by decide) rfl ?_
  refine j_aload_n C 11 17 rfl rfl rfl 2 rfl ?_
  refine j_get C 12 20 rfl rfl fg_M_60 0 rfl rfl ?_
  refine j_iload_n C 13 21 rfl rfl rfl 0 rfl ?_
  refine j_iald C 14 22 rfl rfl 16 0 rfl rfl h.1 ?_
  replace h := h.2
  refine j_iload_n C 15 23 rfl rfl rfl 1 rfl ?_
  refine j_icmp_ne C 16 30 26 rfl (by decide) rfl (fun c3 => ?_) (fun c3 => ?_)
  · replace h := ite_f h c3
    refine j_aload_n C 19 31 rfl rfl rfl 2 rfl ?_
    refine j_get C 20 34 rfl rfl fg_M_60 0 rfl rfl ?_
    refine j_iload_n C 21 35 rfl rfl rfl 0 rfl ?_
    refine j_iald C 22 36 rfl rfl 16 0 rfl rfl h.1 ?_
    replace h := h.2
    refine j_if_lt C 23 58 39 rfl (by decide) rfl (fun c4 => ?_) (fun c4 => ?_)
    · replace h := ite_t h c4
      refine j_sub [2, 1, 0] rfl ?_
      exact L_M_cached_58 C S x1 x2 h
    · replace h := ite_f h c4
      refine j_aload_n C 24 40 rfl rfl rfl 2 rfl ?_
      refine j_get C 25 43 rfl rfl fg_M_63 0 rfl rfl ?_
      refine j_iload_n C 26 44 rfl rfl rfl 0 rfl ?_
      refine j_zald C 27 45 rfl rfl 17 1 rfl rfl h.1 ?_
      replace h := h.2
      refine j_if_eq C 28 58 48 rfl (by decide) rfl (fun c5 => ?_) (fun c5 => ?_)
      · replace h := ite_t h c5
        refine j_sub [2, 1, 0] rfl ?_
        exact L_M_cached_58 C S x1 x2 h
      · replace h := ite_f h c5
        refine j_bipush C 29 50 rfl rfl kB_8 ?_
        refine j_aload_n C 30 51 rfl rfl rfl 2 rfl ?_
        refine j_get C 31 54 rfl rfl fg_M_93 0 rfl rfl ?_
        refine j_imul C 32 55 rfl rfl ?_
        refine j_goto C 33 64 rfl (by decide) ?_
        refine j_sub [2, 1, 0] rfl ?_
        exact L_M_cached_64 C S x1 x2 ((8 : Int32) * (S 0 0)) h
  · replace h := ite_t h c3
    refine j_iconst C 17 27 rfl rfl kI_0 ?_
    refine j_goto C 18 64 rfl (by decide) ?_
    refine j_sub [2, 1, 0] rfl ?_
    exact L_M_cached_64 C S x1 x2 0 h
abbrev rm_M_finish : Room := { frames := 2, cells := 0, slots := 0, locals := 42 }
def wp_M_finish_327 (K : St → Prop) (S : St) (k0 : Int32) : Prop := ∀ S36 : St, S36 = st S 0 15 k0 → (∀ S37 : St, S37 = st S36 0 17 ((S36 0 17) + (1 : Int32)) → (K S37))
set_option maxHeartbeats 4000000 in
set_option maxRecDepth 100000 in
theorem L_M_finish_327 {p : Program} {l : Launch} {e : Env} {s : State} {m : MethodId} {args : Array Value} {below : List Frame} {meth : Method} {c : Code} {A : Nat → Prop} {D : va_G} {h0 : Nat} {a : Nat → Nat} {cI cB : ClassId} {K : St → Prop} (C : CX p rm_M_finish s m args meth c b_M_finish 7 "PipelinedCoreModel" none pr_M_finish D clK (tysK cI cB) A) (S : St) (k0 : Int32) (h : wp_M_finish_327 K S k0) : J p l e rm_M_finish s m args below meth c 7 D clK A 0 0 (MQ below (va_Qv K (fun u t => QK D clK (tysK cI cB) A (wsM h0 a cI cB u) t) A) args s 0 0 A) (wsM h0 a cI cB S) [(0, .ref h0)] 327 [.int k0, .ref h0] := by
  unfold wp_M_finish_327 at h
  refine j_put C 174 330 rfl rfl fp_M_249 0 rfl (Nat.le_of_ble_eq_true rfl) rfl rfl (st S 0 15 k0) (sM_0_15 _ _ _ _ _ _) (fun S36 eS36 => ?_)
  replace h := h S36 eS36
  refine j_aload_n C 175 331 rfl rfl rfl 0 rfl ?_
  refine j_dup C 176 332 rfl rfl rfl ?_
  refine j_get C 177 335 rfl rfl fg_M_296 0 rfl rfl ?_
  refine j_iconst C 178 336 rfl rfl kI_1 ?_
  refine j_iadd C 179 337 rfl rfl ?_
  refine j_put C 180 340 rfl rfl fp_M_296 0 rfl (Nat.le_of_ble_eq_true rfl) rfl rfl (st S36 0 17 ((S36 0 17) + (1 : Int32))) (sM_0_17 _ _ _ _ _ _) (fun S37 eS37 => ?_)
  replace h := h S37 eS37
  exact j_vret C 181 rfl h
def wp_M_finish_289 (K : St → Prop) (S : St) (v2 : Int32) (v5 : Int32) : Prop := ∀ S32 : St, S32 = st S 0 12 v5 → (∀ S33 : St, S33 = st S32 0 13 1 → (vp_in (S33 0 17) 160 ∧ (∀ S34 : St, S34 = st S33 0 14 (S33 10 (S33 0 17 : Int32).toNatClampNeg) → ((if v2 = 3 then ((wp_M_finish_327 K S34 (S34 0 48))) else ((wp_M_finish_327 K S34 0)))))))
set_option maxHeartbeats 4000000 in
set_option maxRecDepth 100000 in
theorem L_M_finish_289 {p : Program} {l : Launch} {e : Env} {s : State} {m : MethodId} {args : Array Value} {below : List Frame} {meth : Method} {c : Code} {A : Nat → Prop} {D : va_G} {h0 : Nat} {a : Nat → Nat} {cI cB : ClassId} {K : St → Prop} (C : CX p rm_M_finish s m args meth c b_M_finish 7 "PipelinedCoreModel" none pr_M_finish D clK (tysK cI cB) A) (S : St) (v2 : Int32) (v5 : Int32) (h : wp_M_finish_289 K S v2 v5) : J p l e rm_M_finish s m args below meth c 7 D clK A 0 0 (MQ below (va_Qv K (fun u t => QK D clK (tysK cI cB) A (wsM h0 a cI cB u) t) A) args s 0 0 A) (wsM h0 a cI cB S) [(0, .ref h0), (2, .int v2), (5, .int v5)] 289 [] := by
  unfold wp_M_finish_289 at h
  refine j_aload_n C 153 290 rfl rfl rfl 0 rfl ?_
  refine j_iload C 154 292 rfl rfl 2 rfl ?_
  refine j_put C 155 295 rfl rfl fp_M_240 0 rfl (Nat.le_of_ble_eq_true rfl) rfl rfl (st S 0 12 v5) (sM_0_12 _ _ _ _ _ _) (fun S32 eS32 => ?_)
  replace h := h S32 eS32
  refine j_aload_n C 156 296 rfl rfl rfl 0 rfl ?_
  refine j_iconst C 157 297 rfl rfl kI_1 ?_
  refine j_put C 158 300 rfl rfl fp_M_246 0 rfl (Nat.le_of_ble_eq_true rfl) (isB_nar isB_1) (isB_fit isB_1) (st S32 0 13 1) (sM_0_13 _ _ _ _ _ _) (fun S33 eS33 => ?_)
  replace h := h S33 eS33
  refine j_aload_n C 159 301 rfl rfl rfl 0 rfl ?_
  refine j_aload_n C 160 302 rfl rfl rfl 0 rfl ?_
  refine j_get C 161 305 rfl rfl fg_M_41 0 rfl rfl ?_
  refine j_aload_n C 162 306 rfl rfl rfl 0 rfl ?_
  refine j_get C 163 309 rfl rfl fg_M_296 0 rfl rfl ?_
  refine j_iald C 164 310 rfl rfl 10 0 rfl rfl h.1 ?_
  replace h := h.2
  refine j_put C 165 313 rfl rfl fp_M_258 0 rfl (Nat.le_of_ble_eq_true rfl) rfl rfl (st S33 0 14 (S33 10 (S33 0 17 : Int32).toNatClampNeg)) (sM_0_14 _ _ _ _ _ _) (fun S34 eS34 => ?_)
  replace h := h S34 eS34
  refine j_aload_n C 166 314 rfl rfl rfl 0 rfl ?_
  refine j_iload_n C 167 315 rfl rfl rfl 1 rfl ?_
  refine j_iconst C 168 316 rfl rfl kI_3 ?_
  refine j_icmp_ne C 169 326 319 rfl (by decide) rfl (fun c35 => ?_) (fun c35 => ?_)
  · replace h := ite_f h c35
    refine j_iconst C 173 327 rfl rfl kI_0 ?_
    refine j_sub [0] rfl ?_
    exact L_M_finish_327 C S34 0 h
  · replace h := ite_t h c35
    refine j_aload_n C 170 320 rfl rfl rfl 0 rfl ?_
    refine j_get C 171 323 rfl rfl fg_M_199 0 rfl rfl ?_
    refine j_goto C 172 327 rfl (by decide) ?_
    refine j_sub [0] rfl ?_
    exact L_M_finish_327 C S34 (S34 0 48) h
def wp_M_finish_264 (K : St → Prop) (S : St) (v2 : Int32) (v5 : Int32) : Prop := (if (S 0 51) = 0 then ((wp_M_finish_289 K S v2 v5)) else (vp_in (S 0 17) 160 ∧ (vp_in (S 13 (S 0 17 : Int32).toNatClampNeg) 64 ∧ (∀ S31 : St, S31 = st S 3 (S 13 (S 0 17 : Int32).toNatClampNeg : Int32).toNatClampNeg (S 0 52) → ((wp_M_finish_289 K S31 v2 v5))))))
set_option maxHeartbeats 4000000 in
set_option maxRecDepth 100000 in
theorem L_M_finish_264 {p : Program} {l : Launch} {e : Env} {s : State} {m : MethodId} {args : Array Value} {below : List Frame} {meth : Method} {c : Code} {A : Nat → Prop} {D : va_G} {h0 : Nat} {a : Nat → Nat} {cI cB : ClassId} {K : St → Prop} (C : CX p rm_M_finish s m args meth c b_M_finish 7 "PipelinedCoreModel" none pr_M_finish D clK (tysK cI cB) A) (S : St) (v2 : Int32) (v5 : Int32) (h : wp_M_finish_264 K S v2 v5) : J p l e rm_M_finish s m args below meth c 7 D clK A 0 0 (MQ below (va_Qv K (fun u t => QK D clK (tysK cI cB) A (wsM h0 a cI cB u) t) A) args s 0 0 A) (wsM h0 a cI cB S) [(0, .ref h0), (2, .int v2), (5, .int v5)] 264 [] := by
  unfold wp_M_finish_264 at h
  refine j_aload_n C 140 265 rfl rfl rfl 0 rfl ?_
  refine j_get C 141 268 rfl rfl fg_M_183 0 rfl rfl ?_
  refine j_if_eq C 142 289 271 rfl (by decide) rfl (fun c30 => ?_) (fun c30 => ?_)
  · replace h := ite_t h c30
    exact L_M_finish_289 C S v2 v5 h
  · replace h := ite_f h c30
    refine j_aload_n C 143 272 rfl rfl rfl 0 rfl ?_
    refine j_get C 144 275 rfl rfl fg_M_16 0 rfl rfl ?_
    refine j_aload_n C 145 276 rfl rfl rfl 0 rfl ?_
    refine j_get C 146 279 rfl rfl fg_M_50 0 rfl rfl ?_
    refine j_aload_n C 147 280 rfl rfl rfl 0 rfl ?_
    refine j_get C 148 283 rfl rfl fg_M_296 0 rfl rfl ?_
    refine j_iald C 149 284 rfl rfl 13 0 rfl rfl h.1 ?_
    replace h := h.2
    refine j_aload_n C 150 285 rfl rfl rfl 0 rfl ?_
    refine j_get C 151 288 rfl rfl fg_M_186 0 rfl rfl ?_
    refine j_iast C 152 289 rfl rfl 3 0 rfl rfl h.1 (st S 3 (S 13 (S 0 17 : Int32).toNatClampNeg : Int32).toNatClampNeg (S 0 52)) (sM_3 _ _ _ _ _ _ _) (fun S31 eS31 => ?_)
    replace h := h.2
    replace h := h S31 eS31
    exact L_M_finish_289 C S31 v2 v5 h
def wp_M_finish_243 (K : St → Prop) (S : St) (v2 : Int32) (v5 : Int32) (k0 : Int32) (k1 : Int32) : Prop := vp_in k1 160 ∧ (∀ S27 : St, S27 = st S 15 k1.toNatClampNeg (vp_nar .boolean k0) → ((if (S27 0 48) = 0 then ((wp_M_finish_264 K S27 v2 v5)) else (vp_in (S27 0 48) 32 ∧ (∀ S29 : St, S29 = st S27 2 (S27 0 48 : Int32).toNatClampNeg (S27 0 49) → ((wp_M_finish_264 K S29 v2 v5)))))))
set_option maxHeartbeats 4000000 in
set_option maxRecDepth 100000 in
theorem L_M_finish_243 {p : Program} {l : Launch} {e : Env} {s : State} {m : MethodId} {args : Array Value} {below : List Frame} {meth : Method} {c : Code} {A : Nat → Prop} {D : va_G} {h0 : Nat} {a : Nat → Nat} {cI cB : ClassId} {K : St → Prop} (C : CX p rm_M_finish s m args meth c b_M_finish 7 "PipelinedCoreModel" none pr_M_finish D clK (tysK cI cB) A) (S : St) (v2 : Int32) (v5 : Int32) (k0 : Int32) (k1 : Int32) (h : wp_M_finish_243 K S v2 v5 k0 k1) : J p l e rm_M_finish s m args below meth c 7 D clK A 0 0 (MQ below (va_Qv K (fun u t => QK D clK (tysK cI cB) A (wsM h0 a cI cB u) t) A) args s 0 0 A) (wsM h0 a cI cB S) [(0, .ref h0), (2, .int v2), (5, .int v5)] 243 [.int k0, .int k1, .ref (a 15)] := by
  unfold wp_M_finish_243 at h
  refine j_zast C 129 244 rfl rfl 15 1 rfl rfl h.1 (st S 15 k1.toNatClampNeg (vp_nar .boolean k0)) (sM_15 _ _ _ _ _ _ _) (fun S27 eS27 => ?_)
  replace h := h.2
  replace h := h S27 eS27
  refine j_aload_n C 130 245 rfl rfl rfl 0 rfl ?_
  refine j_get C 131 248 rfl rfl fg_M_199 0 rfl rfl ?_
  refine j_if_eq C 132 264 251 rfl (by decide) rfl (fun c28 => ?_) (fun c28 => ?_)
  · replace h := ite_t h c28
    exact L_M_finish_264 C S27 v2 v5 h
  · replace h := ite_f h c28
    refine j_aload_n C 133 252 rfl rfl rfl 0 rfl ?_
    refine j_get C 134 255 rfl rfl fg_M_13 0 rfl rfl ?_
    refine j_aload_n C 135 256 rfl rfl rfl 0 rfl ?_
    refine j_get C 136 259 rfl rfl fg_M_199 0 rfl rfl ?_
    refine j_aload_n C 137 260 rfl rfl rfl 0 rfl ?_
    refine j_get C 138 263 rfl rfl fg_M_139 0 rfl rfl ?_
    refine j_iast C 139 264 rfl rfl 2 0 rfl rfl h.1 (st S27 2 (S27 0 48 : Int32).toNatClampNeg (S27 0 49)) (sM_2 _ _ _ _ _ _ _) (fun S29 eS29 => ?_)
    replace h := h.2
    replace h := h S29 eS29
    exact L_M_finish_264 C S29 v2 v5 h
def wp_M_finish_211 (K : St → Prop) (S : St) (v2 : Int32) (v5 : Int32) (v6 : Int32) (k0 : Int32) (k1 : Int32) : Prop := vp_in k1 160 ∧ (∀ S24 : St, S24 = st S 13 k1.toNatClampNeg k0 → (vp_in (S24 0 17) 160 ∧ (∀ S25 : St, S25 = st S24 14 (S24 0 17 : Int32).toNatClampNeg (S24 0 52) → ((if v6 ≤ 0 then ((wp_M_finish_243 K S25 v2 v5 0 (S25 0 17))) else ((wp_M_finish_243 K S25 v2 v5 1 (S25 0 17))))))))
set_option maxHeartbeats 4000000 in
set_option maxRecDepth 100000 in
theorem L_M_finish_211 {p : Program} {l : Launch} {e : Env} {s : State} {m : MethodId} {args : Array Value} {below : List Frame} {meth : Method} {c : Code} {A : Nat → Prop} {D : va_G} {h0 : Nat} {a : Nat → Nat} {cI cB : ClassId} {K : St → Prop} (C : CX p rm_M_finish s m args meth c b_M_finish 7 "PipelinedCoreModel" none pr_M_finish D clK (tysK cI cB) A) (S : St) (v2 : Int32) (v5 : Int32) (v6 : Int32) (k0 : Int32) (k1 : Int32) (h : wp_M_finish_211 K S v2 v5 v6 k0 k1) : J p l e rm_M_finish s m args below meth c 7 D clK A 0 0 (MQ below (va_Qv K (fun u t => QK D clK (tysK cI cB) A (wsM h0 a cI cB u) t) A) args s 0 0 A) (wsM h0 a cI cB S) [(0, .ref h0), (2, .int v2), (5, .int v5), (6, .int v6)] 211 [.int k0, .int k1, .ref (a 13)] := by
  unfold wp_M_finish_211 at h
  refine j_iast C 112 212 rfl rfl 13 0 rfl rfl h.1 (st S 13 k1.toNatClampNeg k0) (sM_13 _ _ _ _ _ _ _) (fun S24 eS24 => ?_)
  replace h := h.2
  replace h := h S24 eS24
  refine j_aload_n C 113 213 rfl rfl rfl 0 rfl ?_
  refine j_get C 114 216 rfl rfl fg_M_53 0 rfl rfl ?_
  refine j_aload_n C 115 217 rfl rfl rfl 0 rfl ?_
  refine j_get C 116 220 rfl rfl fg_M_296 0 rfl rfl ?_
  refine j_aload_n C 117 221 rfl rfl rfl 0 rfl ?_
  refine j_get C 118 224 rfl rfl fg_M_186 0 rfl rfl ?_
  refine j_iast C 119 225 rfl rfl 14 0 rfl rfl h.1 (st S24 14 (S24 0 17 : Int32).toNatClampNeg (S24 0 52)) (sM_14 _ _ _ _ _ _ _) (fun S25 eS25 => ?_)
  replace h := h.2
  replace h := h S25 eS25
  refine j_aload_n C 120 226 rfl rfl rfl 0 rfl ?_
  refine j_get C 121 229 rfl rfl fg_M_56 0 rfl rfl ?_
  refine j_aload_n C 122 230 rfl rfl rfl 0 rfl ?_
  refine j_get C 123 233 rfl rfl fg_M_296 0 rfl rfl ?_
  refine j_iload C 124 235 rfl rfl 3 rfl ?_
  refine j_if_le C 125 242 238 rfl (by decide) rfl (fun c26 => ?_) (fun c26 => ?_)
  · replace h := ite_t h c26
    refine j_iconst C 128 243 rfl rfl kI_0 ?_
    refine j_sub [0, 1, 2] rfl ?_
    exact L_M_finish_243 C S25 v2 v5 0 (S25 0 17) h
  · replace h := ite_f h c26
    refine j_iconst C 126 239 rfl rfl kI_1 ?_
    refine j_goto C 127 243 rfl (by decide) ?_
    refine j_sub [0, 1, 2] rfl ?_
    exact L_M_finish_243 C S25 v2 v5 1 (S25 0 17) h
def wp_M_finish_104 (K : St → Prop) (S : St) (v1 : Int32) (v2 : Int32) (v5 : Int32) (k0 : Int32) : Prop := vp_in (S 0 17) 160 ∧ (∀ S17 : St, S17 = st S 8 (S 0 17 : Int32).toNatClampNeg v1 → (vp_in (S17 0 17) 160 ∧ (∀ S18 : St, S18 = st S17 9 (S17 0 17 : Int32).toNatClampNeg v5 → (vp_in (S18 0 17) 160 ∧ (∀ S19 : St, S19 = st S18 10 (S18 0 17 : Int32).toNatClampNeg ((v5 + (1 : Int32)) + k0) → (vp_in (S19 0 17) 160 ∧ (∀ S20 : St, S20 = st S19 7 (S19 0 17 : Int32).toNatClampNeg (S19 0 6) → (vp_in (S20 0 17) 160 ∧ (∀ S21 : St, S21 = st S20 11 (S20 0 17 : Int32).toNatClampNeg (S20 0 48) → (vp_in (S21 0 17) 160 ∧ (∀ S22 : St, S22 = st S21 12 (S21 0 17 : Int32).toNatClampNeg (S21 0 49) → ((if (S22 0 51) = 0 then ((wp_M_finish_211 K S22 v2 v5 k0 (-1) (S22 0 17))) else ((wp_M_finish_211 K S22 v2 v5 k0 (((S22 0 50) - (1024 : Int32)) / 4) (S22 0 17))))))))))))))))
set_option maxHeartbeats 4000000 in
set_option maxRecDepth 100000 in
theorem L_M_finish_104 {p : Program} {l : Launch} {e : Env} {s : State} {m : MethodId} {args : Array Value} {below : List Frame} {meth : Method} {c : Code} {A : Nat → Prop} {D : va_G} {h0 : Nat} {a : Nat → Nat} {cI cB : ClassId} {K : St → Prop} (C : CX p rm_M_finish s m args meth c b_M_finish 7 "PipelinedCoreModel" none pr_M_finish D clK (tysK cI cB) A) (S : St) (v1 : Int32) (v2 : Int32) (v5 : Int32) (k0 : Int32) (h : wp_M_finish_104 K S v1 v2 v5 k0) : J p l e rm_M_finish s m args below meth c 7 D clK A 0 0 (MQ below (va_Qv K (fun u t => QK D clK (tysK cI cB) A (wsM h0 a cI cB u) t) A) args s 0 0 A) (wsM h0 a cI cB S) [(0, .ref h0), (1, .int v1), (2, .int v2), (5, .int v5)] 104 [.int k0] := by
  unfold wp_M_finish_104 at h
  refine j_istore C 53 106 [(6, .int k0), (0, .ref h0), (1, .int v1), (2, .int v2), (5, .int v5)] rfl rfl (by decide) rfl ?_
  refine j_aload_n C 54 107 rfl rfl rfl 1 rfl ?_
  refine j_get C 55 110 rfl rfl fg_M_35 0 rfl rfl ?_
  refine j_aload_n C 56 111 rfl rfl rfl 1 rfl ?_
  refine j_get C 57 114 rfl rfl fg_M_296 0 rfl rfl ?_
  refine j_iload_n C 58 115 rfl rfl rfl 2 rfl ?_
  refine j_iast C 59 116 rfl rfl 8 0 rfl rfl h.1 (st S 8 (S 0 17 : Int32).toNatClampNeg v1) (sM_8 _ _ _ _ _ _ _) (fun S17 eS17 => ?_)
  replace h := h.2
  replace h := h S17 eS17
  refine j_aload_n C 60 117 rfl rfl rfl 1 rfl ?_
  refine j_get C 61 120 rfl rfl fg_M_38 0 rfl rfl ?_
  refine j_aload_n C 62 121 rfl rfl rfl 1 rfl ?_
  refine j_get C 63 124 rfl rfl fg_M_296 0 rfl rfl ?_
  refine j_iload C 64 126 rfl rfl 4 rfl ?_
  refine j_iast C 65 127 rfl rfl 9 0 rfl rfl h.1 (st S17 9 (S17 0 17 : Int32).toNatClampNeg v5) (sM_9 _ _ _ _ _ _ _) (fun S18 eS18 => ?_)
  replace h := h.2
  replace h := h S18 eS18
  refine j_aload_n C 66 128 rfl rfl rfl 1 rfl ?_
  refine j_get C 67 131 rfl rfl fg_M_41 0 rfl rfl ?_
  refine j_aload_n C 68 132 rfl rfl rfl 1 rfl ?_
  refine j_get C 69 135 rfl rfl fg_M_296 0 rfl rfl ?_
  refine j_iload C 70 137 rfl rfl 4 rfl ?_
  refine j_iconst C 71 138 rfl rfl kI_1 ?_
  refine j_iadd C 72 139 rfl rfl ?_
  refine j_iload C 73 141 rfl rfl 0 rfl ?_
  refine j_iadd C 74 142 rfl rfl ?_
  refine j_iast C 75 143 rfl rfl 10 0 rfl rfl h.1 (st S18 10 (S18 0 17 : Int32).toNatClampNeg ((v5 + (1 : Int32)) + k0)) (sM_10 _ _ _ _ _ _ _) (fun S19 eS19 => ?_)
  replace h := h.2
  replace h := h S19 eS19
  refine j_aload_n C 76 144 rfl rfl rfl 1 rfl ?_
  refine j_get C 77 147 rfl rfl fg_M_32 0 rfl rfl ?_
  refine j_aload_n C 78 148 rfl rfl rfl 1 rfl ?_
  refine j_get C 79 151 rfl rfl fg_M_296 0 rfl rfl ?_
  refine j_aload_n C 80 152 rfl rfl rfl 1 rfl ?_
  refine j_get C 81 155 rfl rfl fg_M_162 0 rfl rfl ?_
  refine j_iast C 82 156 rfl rfl 7 0 rfl rfl h.1 (st S19 7 (S19 0 17 : Int32).toNatClampNeg (S19 0 6)) (sM_7 _ _ _ _ _ _ _) (fun S20 eS20 => ?_)
  replace h := h.2
  replace h := h S20 eS20
  refine j_aload_n C 83 157 rfl rfl rfl 1 rfl ?_
  refine j_get C 84 160 rfl rfl fg_M_44 0 rfl rfl ?_
  refine j_aload_n C 85 161 rfl rfl rfl 1 rfl ?_
  refine j_get C 86 164 rfl rfl fg_M_296 0 rfl rfl ?_
  refine j_aload_n C 87 165 rfl rfl rfl 1 rfl ?_
  refine j_get C 88 168 rfl rfl fg_M_199 0 rfl rfl ?_
  refine j_iast C 89 169 rfl rfl 11 0 rfl rfl h.1 (st S20 11 (S20 0 17 : Int32).toNatClampNeg (S20 0 48)) (sM_11 _ _ _ _ _ _ _) (fun S21 eS21 => ?_)
  replace h := h.2
  replace h := h S21 eS21
  refine j_aload_n C 90 170 rfl rfl rfl 1 rfl ?_
  refine j_get C 91 173 rfl rfl fg_M_47 0 rfl rfl ?_
  refine j_aload_n C 92 174 rfl rfl rfl 1 rfl ?_
  refine j_get C 93 177 rfl rfl fg_M_296 0 rfl rfl ?_
  refine j_aload_n C 94 178 rfl rfl rfl 1 rfl ?_
  refine j_get C 95 181 rfl rfl fg_M_139 0 rfl rfl ?_
  refine j_iast C 96 182 rfl rfl 12 0 rfl rfl h.1 (st S21 12 (S21 0 17 : Int32).toNatClampNeg (S21 0 49)) (sM_12 _ _ _ _ _ _ _) (fun S22 eS22 => ?_)
  replace h := h.2
  replace h := h S22 eS22
  refine j_aload_n C 97 183 rfl rfl rfl 1 rfl ?_
  refine j_get C 98 186 rfl rfl fg_M_50 0 rfl rfl ?_
  refine j_aload_n C 99 187 rfl rfl rfl 1 rfl ?_
  refine j_get C 100 190 rfl rfl fg_M_296 0 rfl rfl ?_
  refine j_aload_n C 101 191 rfl rfl rfl 1 rfl ?_
  refine j_get C 102 194 rfl rfl fg_M_183 0 rfl rfl ?_
  refine j_if_eq C 103 210 197 rfl (by decide) rfl (fun c23 => ?_) (fun c23 => ?_)
  · replace h := ite_t h c23
    refine j_iconst C 111 211 rfl rfl kI_m1 ?_
    refine j_sub [1, 3, 4, 0] rfl ?_
    exact L_M_finish_211 C S22 v2 v5 k0 (-1) (S22 0 17) h
  · replace h := ite_f h c23
    refine j_aload_n C 104 198 rfl rfl rfl 1 rfl ?_
    refine j_get C 105 201 rfl rfl fg_M_172 0 rfl rfl ?_
    refine j_sipush C 106 204 rfl rfl kS_1024 ?_
    refine j_isub C 107 205 rfl rfl ?_
    refine j_iconst C 108 206 rfl rfl kI_4 ?_
    refine j_idiv C 109 207 rfl rfl (by decide) ?_
    refine j_goto C 110 211 rfl (by decide) ?_
    refine j_sub [1, 3, 4, 0] rfl ?_
    exact L_M_finish_211 C S22 v2 v5 k0 (((S22 0 50) - (1024 : Int32)) / 4) (S22 0 17) h
def wp_M_finish_87 (K : St → Prop) (S : St) (v1 : Int32) (v2 : Int32) (k0 : Int32) : Prop := (if (S 0 50) < 0 then ((wp_M_finish_104 K S v1 v2 k0 0)) else (wp_M_cached S (fun r16 S15 => ((wp_M_finish_104 K S15 v1 v2 k0 r16)))))
set_option maxHeartbeats 4000000 in
set_option maxRecDepth 100000 in
theorem L_M_finish_87 {p : Program} {l : Launch} {e : Env} {s : State} {m : MethodId} {args : Array Value} {below : List Frame} {meth : Method} {c : Code} {A : Nat → Prop} {D : va_G} {h0 : Nat} {a : Nat → Nat} {cI cB : ClassId} {K : St → Prop} (C : CX p rm_M_finish s m args meth c b_M_finish 7 "PipelinedCoreModel" none pr_M_finish D clK (tysK cI cB) A) (S : St) (v1 : Int32) (v2 : Int32) (k0 : Int32) (h : wp_M_finish_87 K S v1 v2 k0) : J p l e rm_M_finish s m args below meth c 7 D clK A 0 0 (MQ below (va_Qv K (fun u t => QK D clK (tysK cI cB) A (wsM h0 a cI cB u) t) A) args s 0 0 A) (wsM h0 a cI cB S) [(0, .ref h0), (1, .int v1), (2, .int v2)] 87 [.int k0] := by
  unfold wp_M_finish_87 at h
  refine j_istore C 45 89 [(5, .int k0), (0, .ref h0), (1, .int v1), (2, .int v2)] rfl rfl (by decide) rfl ?_
  refine j_aload_n C 46 90 rfl rfl rfl 1 rfl ?_
  refine j_get C 47 93 rfl rfl fg_M_172 0 rfl rfl ?_
  refine j_if_lt C 48 103 96 rfl (by decide) rfl (fun c14 => ?_) (fun c14 => ?_)
  · replace h := ite_t h c14
    refine j_iconst C 52 104 rfl rfl kI_0 ?_
    refine j_sub [1, 2, 3, 0] rfl ?_
    exact L_M_finish_104 C S v1 v2 k0 0 h
  · replace h := ite_f h c14
    refine j_aload_n C 49 97 rfl rfl rfl 1 rfl ?_
    refine j_callVi C 50 100 rfl rfl w947 m_M_cached (As := []) (c_M_cached l D h0 a cI cB S _ h) ⟨rfl, rfl⟩ ⟨Nat.le_of_ble_eq_true rfl, Nat.le_of_ble_eq_true rfl⟩ 0 rfl rfl rfl ⟨Nat.le_of_ble_eq_true rfl, Nat.le_of_ble_eq_true rfl⟩ (Nat.le_of_ble_eq_true rfl) rfl (fun r16 S15 h => ?_)
    refine j_goto C 51 104 rfl (by decide) ?_
    refine j_sub [1, 2, 3, 0] rfl ?_
    exact L_M_finish_104 C S15 v1 v2 k0 r16 h
def wp_M_finish_85 (K : St → Prop) (S : St) (v1 : Int32) (v2 : Int32) (v5 : Int32) : Prop := (wp_M_finish_87 K S v1 v2 v5)
set_option maxHeartbeats 4000000 in
set_option maxRecDepth 100000 in
theorem L_M_finish_85 {p : Program} {l : Launch} {e : Env} {s : State} {m : MethodId} {args : Array Value} {below : List Frame} {meth : Method} {c : Code} {A : Nat → Prop} {D : va_G} {h0 : Nat} {a : Nat → Nat} {cI cB : ClassId} {K : St → Prop} (C : CX p rm_M_finish s m args meth c b_M_finish 7 "PipelinedCoreModel" none pr_M_finish D clK (tysK cI cB) A) (S : St) (v1 : Int32) (v2 : Int32) (v5 : Int32) (h : wp_M_finish_85 K S v1 v2 v5) : J p l e rm_M_finish s m args below meth c 7 D clK A 0 0 (MQ below (va_Qv K (fun u t => QK D clK (tysK cI cB) A (wsM h0 a cI cB u) t) A) args s 0 0 A) (wsM h0 a cI cB S) [(0, .ref h0), (1, .int v1), (2, .int v2), (5, .int v5)] 85 [] := by
  unfold wp_M_finish_85 at h
  refine j_iload C 44 87 rfl rfl 3 rfl ?_
  refine j_sub [0, 1, 2] rfl ?_
  exact L_M_finish_87 C S v1 v2 v5 h
def wp_M_finish_59 (K : St → Prop) (S : St) (v1 : Int32) (v2 : Int32) (k0 : Int32) (k1 : Int32) : Prop := ∀ x11 : Int32, x11 = k1 + k0 → ((if (S 0 13) = 0 then ((wp_M_finish_85 K S v1 v2 x11)) else ((if (S 0 14) ≤ x11 then ((wp_M_finish_85 K S v1 v2 x11)) else ((wp_M_finish_87 K S v1 v2 (S 0 14)))))))
set_option maxHeartbeats 4000000 in
set_option maxRecDepth 100000 in
theorem L_M_finish_59 {p : Program} {l : Launch} {e : Env} {s : State} {m : MethodId} {args : Array Value} {below : List Frame} {meth : Method} {c : Code} {A : Nat → Prop} {D : va_G} {h0 : Nat} {a : Nat → Nat} {cI cB : ClassId} {K : St → Prop} (C : CX p rm_M_finish s m args meth c b_M_finish 7 "PipelinedCoreModel" none pr_M_finish D clK (tysK cI cB) A) (S : St) (v1 : Int32) (v2 : Int32) (k0 : Int32) (k1 : Int32) (h : wp_M_finish_59 K S v1 v2 k0 k1) : J p l e rm_M_finish s m args below meth c 7 D clK A 0 0 (MQ below (va_Qv K (fun u t => QK D clK (tysK cI cB) A (wsM h0 a cI cB u) t) A) args s 0 0 A) (wsM h0 a cI cB S) [(0, .ref h0), (1, .int v1), (2, .int v2)] 59 [.int k0, .int k1] := by
  unfold wp_M_finish_59 at h
  refine j_iadd C 32 60 rfl rfl ?_
  refine j_topi (fun x11 ex11 => ?_)
  replace h := h x11 ex11
  refine j_istore C 33 62 [(5, .int x11), (0, .ref h0), (1, .int v1), (2, .int v2)] rfl rfl (by decide) rfl ?_
  refine j_aload_n C 34 63 rfl rfl rfl 1 rfl ?_
  refine j_get C 35 66 rfl rfl fg_M_246 0 rfl rfl ?_
  refine j_if_eq C 36 85 69 rfl (by decide) rfl (fun c12 => ?_) (fun c12 => ?_)
  · replace h := ite_t h c12
    refine j_sub [1, 2, 3, 0] rfl ?_
    exact L_M_finish_85 C S v1 v2 x11 h
  · replace h := ite_f h c12
    refine j_aload_n C 37 70 rfl rfl rfl 1 rfl ?_
    refine j_get C 38 73 rfl rfl fg_M_258 0 rfl rfl ?_
    refine j_iload C 39 75 rfl rfl 0 rfl ?_
    refine j_icmp_le C 40 85 78 rfl (by decide) rfl (fun c13 => ?_) (fun c13 => ?_)
    · replace h := ite_t h c13
      refine j_sub [1, 2, 3, 0] rfl ?_
      exact L_M_finish_85 C S v1 v2 x11 h
    · replace h := ite_f h c13
      refine j_aload_n C 41 79 rfl rfl rfl 1 rfl ?_
      refine j_get C 42 82 rfl rfl fg_M_258 0 rfl rfl ?_
      refine j_goto C 43 87 rfl (by decide) ?_
      refine j_sub [1, 2, 3] rfl ?_
      exact L_M_finish_87 C S v1 v2 (S 0 14) h
def wp_M_finish_36 (K : St → Prop) (S : St) (v1 : Int32) (v2 : Int32) (v3 : Int32) (k0 : Int32) : Prop := (if k0 = 0 then ((wp_M_finish_59 K S v1 v2 1 v1)) else ((if (4 : Int32) ≤ v3 then ((wp_M_finish_59 K S v1 v2 33 v1)) else ((wp_M_finish_59 K S v1 v2 4 v1)))))
set_option maxHeartbeats 4000000 in
set_option maxRecDepth 100000 in
theorem L_M_finish_36 {p : Program} {l : Launch} {e : Env} {s : State} {m : MethodId} {args : Array Value} {below : List Frame} {meth : Method} {c : Code} {A : Nat → Prop} {D : va_G} {h0 : Nat} {a : Nat → Nat} {cI cB : ClassId} {K : St → Prop} (C : CX p rm_M_finish s m args meth c b_M_finish 7 "PipelinedCoreModel" none pr_M_finish D clK (tysK cI cB) A) (S : St) (v1 : Int32) (v2 : Int32) (v3 : Int32) (k0 : Int32) (h : wp_M_finish_36 K S v1 v2 v3 k0) : J p l e rm_M_finish s m args below meth c 7 D clK A 0 0 (MQ below (va_Qv K (fun u t => QK D clK (tysK cI cB) A (wsM h0 a cI cB u) t) A) args s 0 0 A) (wsM h0 a cI cB S) [(0, .ref h0), (1, .int v1), (2, .int v2), (3, .int v3)] 36 [.int k0] := by
  unfold wp_M_finish_36 at h
  refine j_istore C 20 38 [(4, .int k0), (0, .ref h0), (1, .int v1), (2, .int v2), (3, .int v3)] rfl rfl (by decide) rfl ?_
  refine j_iload_n C 21 39 rfl rfl rfl 2 rfl ?_
  refine j_iload C 22 41 rfl rfl 0 rfl ?_
  refine j_if_ne C 23 48 44 rfl (by decide) rfl (fun c9 => ?_) (fun c9 => ?_)
  · replace h := ite_f h c9
    refine j_iload_n C 26 49 rfl rfl rfl 4 rfl ?_
    refine j_iconst C 27 50 rfl rfl kI_4 ?_
    refine j_icmp_ge C 28 57 53 rfl (by decide) rfl (fun c10 => ?_) (fun c10 => ?_)
    · replace h := ite_t h c10
      refine j_bipush C 31 59 rfl rfl kB_33 ?_
      refine j_sub [1, 2, 3] rfl ?_
      exact L_M_finish_59 C S v1 v2 33 v1 h
    · replace h := ite_f h c10
      refine j_iconst C 29 54 rfl rfl kI_4 ?_
      refine j_goto C 30 59 rfl (by decide) ?_
      refine j_sub [1, 2, 3] rfl ?_
      exact L_M_finish_59 C S v1 v2 4 v1 h
  · replace h := ite_t h c9
    refine j_iconst C 24 45 rfl rfl kI_1 ?_
    refine j_goto C 25 59 rfl (by decide) ?_
    refine j_sub [1, 2, 3] rfl ?_
    exact L_M_finish_59 C S v1 v2 1 v1 h
def wp_M_finish_35 (K : St → Prop) (S : St) (v1 : Int32) (v2 : Int32) (v3 : Int32) : Prop := (wp_M_finish_36 K S v1 v2 v3 0)
set_option maxHeartbeats 4000000 in
set_option maxRecDepth 100000 in
theorem L_M_finish_35 {p : Program} {l : Launch} {e : Env} {s : State} {m : MethodId} {args : Array Value} {below : List Frame} {meth : Method} {c : Code} {A : Nat → Prop} {D : va_G} {h0 : Nat} {a : Nat → Nat} {cI cB : ClassId} {K : St → Prop} (C : CX p rm_M_finish s m args meth c b_M_finish 7 "PipelinedCoreModel" none pr_M_finish D clK (tysK cI cB) A) (S : St) (v1 : Int32) (v2 : Int32) (v3 : Int32) (h : wp_M_finish_35 K S v1 v2 v3) : J p l e rm_M_finish s m args below meth c 7 D clK A 0 0 (MQ below (va_Qv K (fun u t => QK D clK (tysK cI cB) A (wsM h0 a cI cB u) t) A) args s 0 0 A) (wsM h0 a cI cB S) [(0, .ref h0), (1, .int v1), (2, .int v2), (3, .int v3)] 35 [] := by
  unfold wp_M_finish_35 at h
  refine j_iconst C 19 36 rfl rfl kI_0 ?_
  exact L_M_finish_36 C S v1 v2 v3 0 h
def wp_M_finish (S : St) (p1 : Int32) (K : St → Prop) : Prop := wp_M_op S (fun r2 S1 => (wp_M_bits S1 12 3 (fun r4 S3 => ((if r2 = 51 then (wp_M_bits S3 25 7 (fun r7 S6 => ((if r7 = 1 then ((wp_M_finish_36 K S6 p1 r2 r4 1)) else ((wp_M_finish_35 K S6 p1 r2 r4)))))) else ((wp_M_finish_35 K S3 p1 r2 r4)))))))
set_option maxHeartbeats 4000000 in
set_option maxRecDepth 100000 in
theorem c_M_finish (l : Launch) (D : va_G) (h0 : Nat) (a : Nat → Nat) (cI cB : ClassId) (S : St) (p1 : Int32) (K : St → Prop) (h : wp_M_finish S p1 K) (sz : Nat) : Met l y_M_finish (Cond.code y_M_finish b_M_finish 7 none :: gw) rm_M_finish (va_Pc [.ref h0, .int p1] (PK D clK (tysK cI cB) (wsM h0 a cI cB S) sz)) (va_Qv K (fun u t => QK D clK (tysK cI cB) (va_A (wsM h0 a cI cB S) sz) (wsM h0 a cI cB u) t) (va_A (wsM h0 a cI cB S) sz)) 0 0 (va_A (wsM h0 a cI cB S) sz) := by
  refine met_of (rm := rm_M_finish) (pr := pr_M_finish) (Qc := fun A => va_Qv K (fun u t => QK D clK (tysK cI cB) A (wsM h0 a cI cB u) t) A) (by decide +kernel) dm_M_finish (Nat.le_of_ble_eq_true rfl) (fun p e s m args below meth c A C => ?_) sz
  unfold wp_M_finish at h
  show J p l e rm_M_finish s m args below meth c 7 D clK A 0 0 _ (wsM h0 a cI cB S) [(0, .ref h0), (1, .int p1)] 0 []
  refine j_aload_n C 0 1 rfl rfl rfl 0 rfl ?_
  refine j_callVi C 1 4 rfl rfl w818 m_M_op (As := []) (c_M_op l D h0 a cI cB S _ h) ⟨rfl, rfl⟩ ⟨Nat.le_of_ble_eq_true rfl, Nat.le_of_ble_eq_true rfl⟩ 0 rfl rfl rfl ⟨Nat.le_of_ble_eq_true rfl, Nat.le_of_ble_eq_true rfl⟩ (Nat.le_of_ble_eq_true rfl) rfl (fun r2 S1 h => ?_)
  refine j_istore_n C 2 5 [(2, .int r2), (0, .ref h0), (1, .int p1)] rfl rfl rfl (by decide) rfl ?_
  refine j_aload_n C 3 6 rfl rfl rfl 1 rfl ?_
  refine j_bipush C 4 8 rfl rfl kB_12 ?_
  refine j_iconst C 5 9 rfl rfl kI_3 ?_
  refine j_callVi C 6 12 rfl rfl w822 m_M_bits (As := [.int 12, .int 3]) (c_M_bits l D h0 a cI cB S1 12 3 _ h) ⟨rfl, rfl⟩ ⟨Nat.le_of_ble_eq_true rfl, Nat.le_of_ble_eq_true rfl⟩ 0 rfl rfl rfl ⟨Nat.le_of_ble_eq_true rfl, Nat.le_of_ble_eq_true rfl⟩ (Nat.le_of_ble_eq_true rfl) rfl (fun r4 S3 h => ?_)
  refine j_istore_n C 7 13 [(3, .int r4), (2, .int r2), (0, .ref h0), (1, .int p1)] rfl rfl rfl (by decide) rfl ?_
  refine j_iload_n C 8 14 rfl rfl rfl 1 rfl ?_
  refine j_bipush C 9 16 rfl rfl kB_51 ?_
  refine j_icmp_ne C 10 35 19 rfl (by decide) rfl (fun c5 => ?_) (fun c5 => ?_)
  · replace h := ite_f h c5
    refine j_sub [2, 3, 1, 0] rfl ?_
    exact L_M_finish_35 C S3 p1 r2 r4 h
  · replace h := ite_t h c5
    refine j_aload_n C 11 20 rfl rfl rfl 2 rfl ?_
    refine j_bipush C 12 22 rfl rfl kB_25 ?_
    refine j_bipush C 13 24 rfl rfl kB_7 ?_
    refine j_callVi C 14 27 rfl rfl w822 m_M_bits (As := [.int 25, .int 7]) (c_M_bits l D h0 a cI cB S3 25 7 _ h) ⟨rfl, rfl⟩ ⟨Nat.le_of_ble_eq_true rfl, Nat.le_of_ble_eq_true rfl⟩ 0 rfl rfl rfl ⟨Nat.le_of_ble_eq_true rfl, Nat.le_of_ble_eq_true rfl⟩ (Nat.le_of_ble_eq_true rfl) rfl (fun r7 S6 h => ?_)
    refine j_iconst C 15 28 rfl rfl kI_1 ?_
    refine j_icmp_ne C 16 35 31 rfl (by decide) rfl (fun c8 => ?_) (fun c8 => ?_)
    · replace h := ite_f h c8
      refine j_sub [2, 3, 1, 0] rfl ?_
      exact L_M_finish_35 C S6 p1 r2 r4 h
    · replace h := ite_t h c8
      refine j_iconst C 17 32 rfl rfl kI_1 ?_
      refine j_goto C 18 36 rfl (by decide) ?_
      refine j_sub [2, 3, 1, 0] rfl ?_
      exact L_M_finish_36 C S6 p1 r2 r4 1 h
abbrev rm_M_perform : Room := { frames := 5, cells := 0, slots := 0, locals := 110 }
def wp_M_perform_404 (K : St → Prop) (S : St)  : Prop := ∀ S49 : St, S49 = st S 0 6 (S 0 47) → (K S49)
set_option maxHeartbeats 4000000 in
set_option maxRecDepth 100000 in
theorem L_M_perform_404 {p : Program} {l : Launch} {e : Env} {s : State} {m : MethodId} {args : Array Value} {below : List Frame} {meth : Method} {c : Code} {A : Nat → Prop} {D : va_G} {h0 : Nat} {a : Nat → Nat} {cI cB : ClassId} {K : St → Prop} (C : CX p rm_M_perform s m args meth c b_M_perform 8 "PipelinedCoreModel" none pr_M_perform D clK (tysK cI cB) A) (S : St)  (h : wp_M_perform_404 K S) : J p l e rm_M_perform s m args below meth c 8 D clK A 0 0 (MQ below (va_Qv K (fun u t => QK D clK (tysK cI cB) A (wsM h0 a cI cB u) t) A) args s 0 0 A) (wsM h0 a cI cB S) [(0, .ref h0)] 404 [] := by
  unfold wp_M_perform_404 at h
  refine j_aload_n C 220 405 rfl rfl rfl 0 rfl ?_
  refine j_aload_n C 221 406 rfl rfl rfl 0 rfl ?_
  refine j_get C 222 409 rfl rfl fg_M_152 0 rfl rfl ?_
  refine j_put C 223 412 rfl rfl fp_M_162 0 rfl (Nat.le_of_ble_eq_true rfl) rfl rfl (st S 0 6 (S 0 47)) (sM_0_6 _ _ _ _ _ _) (fun S49 eS49 => ?_)
  replace h := h S49 eS49
  exact j_vret C 224 rfl h
def wp_M_perform_375 (K : St → Prop) (S : St) (v1 : Int32) (v6 : Int32) (k0 : Int32) : Prop := ∀ S42 : St, S42 = st S 0 16 k0 → (∀ S43 : St, S43 = st S42 0 9 1 → (isB v6 ∧ (∀ S44 : St, S44 = st S43 0 10 v6 → (∀ S45 : St, S45 = st S44 0 11 v1 → ((if v6 = 0 then ((wp_M_perform_404 K S45)) else (wp_M_finish S45 v1 (fun S47 => ((wp_M_perform_404 K S47))))))))))
set_option maxHeartbeats 4000000 in
set_option maxRecDepth 100000 in
theorem L_M_perform_375 {p : Program} {l : Launch} {e : Env} {s : State} {m : MethodId} {args : Array Value} {below : List Frame} {meth : Method} {c : Code} {A : Nat → Prop} {D : va_G} {h0 : Nat} {a : Nat → Nat} {cI cB : ClassId} {K : St → Prop} (C : CX p rm_M_perform s m args meth c b_M_perform 8 "PipelinedCoreModel" none pr_M_perform D clK (tysK cI cB) A) (S : St) (v1 : Int32) (v6 : Int32) (k0 : Int32) (h : wp_M_perform_375 K S v1 v6 k0) : J p l e rm_M_perform s m args below meth c 8 D clK A 0 0 (MQ below (va_Qv K (fun u t => QK D clK (tysK cI cB) A (wsM h0 a cI cB u) t) A) args s 0 0 A) (wsM h0 a cI cB S) [(0, .ref h0), (1, .int v1), (6, .int v6)] 375 [.int k0, .ref h0] := by
  unfold wp_M_perform_375 at h
  refine j_put C 205 378 rfl rfl fp_M_28 0 rfl (Nat.le_of_ble_eq_true rfl) rfl rfl (st S 0 16 k0) (sM_0_16 _ _ _ _ _ _) (fun S42 eS42 => ?_)
  replace h := h S42 eS42
  refine j_aload_n C 206 379 rfl rfl rfl 0 rfl ?_
  refine j_iconst C 207 380 rfl rfl kI_1 ?_
  refine j_put C 208 383 rfl rfl fp_M_234 0 rfl (Nat.le_of_ble_eq_true rfl) (isB_nar isB_1) (isB_fit isB_1) (st S42 0 9 1) (sM_0_9 _ _ _ _ _ _) (fun S43 eS43 => ?_)
  replace h := h S43 eS43
  refine j_aload_n C 209 384 rfl rfl rfl 0 rfl ?_
  refine j_iload C 210 386 rfl rfl 2 rfl ?_
  refine j_put C 211 389 rfl rfl fp_M_237 0 rfl (Nat.le_of_ble_eq_true rfl) (isB_nar h.1) (isB_fit h.1) (st S43 0 10 v6) (sM_0_10 _ _ _ _ _ _) (fun S44 eS44 => ?_)
  replace h := h.2
  replace h := h S44 eS44
  refine j_aload_n C 212 390 rfl rfl rfl 0 rfl ?_
  refine j_iload_n C 213 391 rfl rfl rfl 1 rfl ?_
  refine j_put C 214 394 rfl rfl fp_M_243 0 rfl (Nat.le_of_ble_eq_true rfl) rfl rfl (st S44 0 11 v1) (sM_0_11 _ _ _ _ _ _) (fun S45 eS45 => ?_)
  replace h := h S45 eS45
  refine j_iload C 215 396 rfl rfl 2 rfl ?_
  refine j_if_eq C 216 404 399 rfl (by decide) rfl (fun c46 => ?_) (fun c46 => ?_)
  · replace h := ite_t h c46
    refine j_sub [0] rfl ?_
    exact L_M_perform_404 C S45 h
  · replace h := ite_f h c46
    refine j_aload_n C 217 400 rfl rfl rfl 0 rfl ?_
    refine j_iload_n C 218 401 rfl rfl rfl 1 rfl ?_
    refine j_callVv C 219 404 rfl rfl w943 m_M_finish (As := [.int v1]) (c_M_finish l D h0 a cI cB S45 v1 _ h) ⟨rfl, rfl⟩ ⟨Nat.le_of_ble_eq_true rfl, Nat.le_of_ble_eq_true rfl⟩ 0 rfl rfl rfl ⟨Nat.le_of_ble_eq_true rfl, Nat.le_of_ble_eq_true rfl⟩ (Nat.le_of_ble_eq_true rfl) rfl (fun S47 h => ?_)
    refine j_sub [0] rfl ?_
    exact L_M_perform_404 C S47 h
def wp_M_perform_372 (K : St → Prop) (S : St) (v1 : Int32) (v6 : Int32) : Prop := (wp_M_perform_375 K S v1 v6 (v1 + (1 : Int32)))
set_option maxHeartbeats 4000000 in
set_option maxRecDepth 100000 in
theorem L_M_perform_372 {p : Program} {l : Launch} {e : Env} {s : State} {m : MethodId} {args : Array Value} {below : List Frame} {meth : Method} {c : Code} {A : Nat → Prop} {D : va_G} {h0 : Nat} {a : Nat → Nat} {cI cB : ClassId} {K : St → Prop} (C : CX p rm_M_perform s m args meth c b_M_perform 8 "PipelinedCoreModel" none pr_M_perform D clK (tysK cI cB) A) (S : St) (v1 : Int32) (v6 : Int32) (h : wp_M_perform_372 K S v1 v6) : J p l e rm_M_perform s m args below meth c 8 D clK A 0 0 (MQ below (va_Qv K (fun u t => QK D clK (tysK cI cB) A (wsM h0 a cI cB u) t) A) args s 0 0 A) (wsM h0 a cI cB S) [(0, .ref h0), (1, .int v1), (6, .int v6)] 372 [.ref h0] := by
  unfold wp_M_perform_372 at h
  refine j_iload_n C 202 373 rfl rfl rfl 1 rfl ?_
  refine j_iconst C 203 374 rfl rfl kI_1 ?_
  refine j_iadd C 204 375 rfl rfl ?_
  exact L_M_perform_375 C S v1 v6 (v1 + (1 : Int32)) h
def wp_M_perform_347 (K : St → Prop) (S : St) (v1 : Int32) (v2 : Int32) (v3 : Int32) (v6 : Int32) : Prop := (if v6 = 0 then ((wp_M_perform_372 K S v1 v6)) else ((if (S 0 55) = 0 then ((if (S 0 47) = v2 then ((wp_M_perform_375 K S v1 v6 v3)) else ((wp_M_perform_372 K S v1 v6)))) else ((wp_M_perform_372 K S v1 v6)))))
set_option maxHeartbeats 4000000 in
set_option maxRecDepth 100000 in
theorem L_M_perform_347 {p : Program} {l : Launch} {e : Env} {s : State} {m : MethodId} {args : Array Value} {below : List Frame} {meth : Method} {c : Code} {A : Nat → Prop} {D : va_G} {h0 : Nat} {a : Nat → Nat} {cI cB : ClassId} {K : St → Prop} (C : CX p rm_M_perform s m args meth c b_M_perform 8 "PipelinedCoreModel" none pr_M_perform D clK (tysK cI cB) A) (S : St) (v1 : Int32) (v2 : Int32) (v3 : Int32) (v6 : Int32) (h : wp_M_perform_347 K S v1 v2 v3 v6) : J p l e rm_M_perform s m args below meth c 8 D clK A 0 0 (MQ below (va_Qv K (fun u t => QK D clK (tysK cI cB) A (wsM h0 a cI cB u) t) A) args s 0 0 A) (wsM h0 a cI cB S) [(0, .ref h0), (1, .int v1), (2, .int v2), (3, .int v3), (6, .int v6)] 347 [] := by
  unfold wp_M_perform_347 at h
  refine j_aload_n C 190 348 rfl rfl rfl 0 rfl ?_
  refine j_iload C 191 350 rfl rfl 4 rfl ?_
  refine j_if_eq C 192 372 353 rfl (by decide) rfl (fun c39 => ?_) (fun c39 => ?_)
  · replace h := ite_t h c39
    refine j_sub [0, 1, 4] rfl ?_
    exact L_M_perform_372 C S v1 v6 h
  · replace h := ite_f h c39
    refine j_aload_n C 193 354 rfl rfl rfl 0 rfl ?_
    refine j_get C 194 357 rfl rfl fg_M_195 0 rfl rfl ?_
    refine j_if_ne C 195 372 360 rfl (by decide) rfl (fun c40 => ?_) (fun c40 => ?_)
    · replace h := ite_f h c40
      refine j_sub [0, 1, 4] rfl ?_
      exact L_M_perform_372 C S v1 v6 h
    · replace h := ite_t h c40
      refine j_aload_n C 196 361 rfl rfl rfl 0 rfl ?_
      refine j_get C 197 364 rfl rfl fg_M_152 0 rfl rfl ?_
      refine j_iload_n C 198 365 rfl rfl rfl 2 rfl ?_
      refine j_icmp_ne C 199 372 368 rfl (by decide) rfl (fun c41 => ?_) (fun c41 => ?_)
      · replace h := ite_f h c41
        refine j_sub [0, 1, 4] rfl ?_
        exact L_M_perform_372 C S v1 v6 h
      · replace h := ite_t h c41
        refine j_iload_n C 200 369 rfl rfl rfl 3 rfl ?_
        refine j_goto C 201 375 rfl (by decide) ?_
        refine j_sub [0, 1, 4] rfl ?_
        exact L_M_perform_375 C S v1 v6 v3 h
def wp_M_perform_267 (K : St → Prop) (S : St) (v1 : Int32) (v2 : Int32) (v3 : Int32) (v6 : Int32) (k0 : Int32) (k1 : Int32) : Prop := ∀ S31 : St, S31 = st S 0 43 (k1 + k0) → (wp_M_learn S31 4 (S31 0 6) (S31 0 47) (S31 0 54) (fun S32 => (vp_in (S32 0 32) 160 ∧ (∀ S34 : St, S34 = st S32 21 (S32 0 32 : Int32).toNatClampNeg (S32 0 6) → (vp_in (S34 0 32) 160 ∧ (∀ S35 : St, S35 = st S34 22 (S34 0 32 : Int32).toNatClampNeg (S34 0 47) → (vp_in (S35 0 32) 160 ∧ (∀ S36 : St, S36 = st S35 23 (S35 0 32 : Int32).toNatClampNeg (vp_nar .boolean (S35 0 54)) → (vp_in (S36 0 32) 160 ∧ (∀ S37 : St, S37 = st S36 24 (S36 0 32 : Int32).toNatClampNeg v1 → (∀ S38 : St, S38 = st S37 0 32 ((S37 0 32) + (1 : Int32)) → ((wp_M_perform_347 K S38 v1 v2 v3 v6)))))))))))))
set_option maxHeartbeats 4000000 in
set_option maxRecDepth 100000 in
theorem L_M_perform_267 {p : Program} {l : Launch} {e : Env} {s : State} {m : MethodId} {args : Array Value} {below : List Frame} {meth : Method} {c : Code} {A : Nat → Prop} {D : va_G} {h0 : Nat} {a : Nat → Nat} {cI cB : ClassId} {K : St → Prop} (C : CX p rm_M_perform s m args meth c b_M_perform 8 "PipelinedCoreModel" none pr_M_perform D clK (tysK cI cB) A) (S : St) (v1 : Int32) (v2 : Int32) (v3 : Int32) (v6 : Int32) (k0 : Int32) (k1 : Int32) (h : wp_M_perform_267 K S v1 v2 v3 v6 k0 k1) : J p l e rm_M_perform s m args below meth c 8 D clK A 0 0 (MQ below (va_Qv K (fun u t => QK D clK (tysK cI cB) A (wsM h0 a cI cB u) t) A) args s 0 0 A) (wsM h0 a cI cB S) [(0, .ref h0), (1, .int v1), (2, .int v2), (3, .int v3), (6, .int v6)] 267 [.int k0, .int k1, .ref h0] := by
  unfold wp_M_perform_267 at h
  refine j_iadd C 146 268 rfl rfl ?_
  refine j_put C 147 271 rfl rfl fp_M_277 0 rfl (Nat.le_of_ble_eq_true rfl) rfl rfl (st S 0 43 (k1 + k0)) (sM_0_43 _ _ _ _ _ _) (fun S31 eS31 => ?_)
  replace h := h S31 eS31
  refine j_aload_n C 148 272 rfl rfl rfl 0 rfl ?_
  refine j_iconst C 149 273 rfl rfl kI_4 ?_
  refine j_aload_n C 150 274 rfl rfl rfl 0 rfl ?_
  refine j_get C 151 277 rfl rfl fg_M_162 0 rfl rfl ?_
  refine j_aload_n C 152 278 rfl rfl rfl 0 rfl ?_
  refine j_get C 153 281 rfl rfl fg_M_152 0 rfl rfl ?_
  refine j_aload_n C 154 282 rfl rfl rfl 0 rfl ?_
  refine j_get C 155 285 rfl rfl fg_M_155 0 rfl rfl ?_
  refine j_callVv C 156 288 rfl rfl w838 m_M_learn (As := [.int 4, .int (S31 0 6), .int (S31 0 47), .int (S31 0 54)]) (c_M_learn l D h0 a cI cB S31 4 (S31 0 6) (S31 0 47) (S31 0 54) _ h) ⟨rfl, rfl⟩ ⟨Nat.le_of_ble_eq_true rfl, Nat.le_of_ble_eq_true rfl⟩ 0 rfl rfl rfl ⟨Nat.le_of_ble_eq_true rfl, Nat.le_of_ble_eq_true rfl⟩ (Nat.le_of_ble_eq_true rfl) rfl (fun S32 h => ?_)
  refine j_aload_n C 157 289 rfl rfl rfl 0 rfl ?_
  refine j_get C 158 292 rfl rfl fg_M_75 0 rfl rfl ?_
  refine j_aload_n C 159 293 rfl rfl rfl 0 rfl ?_
  refine j_get C 160 296 rfl rfl fg_M_284 0 rfl rfl ?_
  refine j_aload_n C 161 297 rfl rfl rfl 0 rfl ?_
  refine j_get C 162 300 rfl rfl fg_M_162 0 rfl rfl ?_
  refine j_iast C 163 301 rfl rfl 21 0 rfl rfl h.1 (st S32 21 (S32 0 32 : Int32).toNatClampNeg (S32 0 6)) (sM_21 _ _ _ _ _ _ _) (fun S34 eS34 => ?_)
  replace h := h.2
  replace h := h S34 eS34
  refine j_aload_n C 164 302 rfl rfl rfl 0 rfl ?_
  refine j_get C 165 305 rfl rfl fg_M_78 0 rfl rfl ?_
  refine j_aload_n C 166 306 rfl rfl rfl 0 rfl ?_
  refine j_get C 167 309 rfl rfl fg_M_284 0 rfl rfl ?_
  refine j_aload_n C 168 310 rfl rfl rfl 0 rfl ?_
  refine j_get C 169 313 rfl rfl fg_M_152 0 rfl rfl ?_
  refine j_iast C 170 314 rfl rfl 22 0 rfl rfl h.1 (st S34 22 (S34 0 32 : Int32).toNatClampNeg (S34 0 47)) (sM_22 _ _ _ _ _ _ _) (fun S35 eS35 => ?_)
  replace h := h.2
  replace h := h S35 eS35
  refine j_aload_n C 171 315 rfl rfl rfl 0 rfl ?_
  refine j_get C 172 318 rfl rfl fg_M_81 0 rfl rfl ?_
  refine j_aload_n C 173 319 rfl rfl rfl 0 rfl ?_
  refine j_get C 174 322 rfl rfl fg_M_284 0 rfl rfl ?_
  refine j_aload_n C 175 323 rfl rfl rfl 0 rfl ?_
  refine j_get C 176 326 rfl rfl fg_M_155 0 rfl rfl ?_
  refine j_zast C 177 327 rfl rfl 23 1 rfl rfl h.1 (st S35 23 (S35 0 32 : Int32).toNatClampNeg (vp_nar .boolean (S35 0 54))) (sM_23 _ _ _ _ _ _ _) (fun S36 eS36 => ?_)
  replace h := h.2
  replace h := h S36 eS36
  refine j_aload_n C 178 328 rfl rfl rfl 0 rfl ?_
  refine j_get C 179 331 rfl rfl fg_M_84 0 rfl rfl ?_
  refine j_aload_n C 180 332 rfl rfl rfl 0 rfl ?_
  refine j_get C 181 335 rfl rfl fg_M_284 0 rfl rfl ?_
  refine j_iload_n C 182 336 rfl rfl rfl 1 rfl ?_
  refine j_iast C 183 337 rfl rfl 24 0 rfl rfl h.1 (st S36 24 (S36 0 32 : Int32).toNatClampNeg v1) (sM_24 _ _ _ _ _ _ _) (fun S37 eS37 => ?_)
  replace h := h.2
  replace h := h S37 eS37
  refine j_aload_n C 184 338 rfl rfl rfl 0 rfl ?_
  refine j_dup C 185 339 rfl rfl rfl ?_
  refine j_get C 186 342 rfl rfl fg_M_284 0 rfl rfl ?_
  refine j_iconst C 187 343 rfl rfl kI_1 ?_
  refine j_iadd C 188 344 rfl rfl ?_
  refine j_put C 189 347 rfl rfl fp_M_284 0 rfl (Nat.le_of_ble_eq_true rfl) rfl rfl (st S37 0 32 ((S37 0 32) + (1 : Int32))) (sM_0_32 _ _ _ _ _ _) (fun S38 eS38 => ?_)
  replace h := h S38 eS38
  exact L_M_perform_347 C S38 v1 v2 v3 v6 h
def wp_M_perform_235 (K : St → Prop) (S : St) (v1 : Int32) (v2 : Int32) (v3 : Int32) (k0 : Int32) : Prop := (if k0 = 0 then ((wp_M_perform_347 K S v1 v2 v3 k0)) else ((if (S 0 53) = 0 then ((wp_M_perform_347 K S v1 v2 v3 k0)) else ((if (S 0 47) = v2 then ((wp_M_perform_267 K S v1 v2 v3 k0 0 (S 0 43))) else ((wp_M_perform_267 K S v1 v2 v3 k0 1 (S 0 43))))))))
set_option maxHeartbeats 4000000 in
set_option maxRecDepth 100000 in
theorem L_M_perform_235 {p : Program} {l : Launch} {e : Env} {s : State} {m : MethodId} {args : Array Value} {below : List Frame} {meth : Method} {c : Code} {A : Nat → Prop} {D : va_G} {h0 : Nat} {a : Nat → Nat} {cI cB : ClassId} {K : St → Prop} (C : CX p rm_M_perform s m args meth c b_M_perform 8 "PipelinedCoreModel" none pr_M_perform D clK (tysK cI cB) A) (S : St) (v1 : Int32) (v2 : Int32) (v3 : Int32) (k0 : Int32) (h : wp_M_perform_235 K S v1 v2 v3 k0) : J p l e rm_M_perform s m args below meth c 8 D clK A 0 0 (MQ below (va_Qv K (fun u t => QK D clK (tysK cI cB) A (wsM h0 a cI cB u) t) A) args s 0 0 A) (wsM h0 a cI cB S) [(0, .ref h0), (1, .int v1), (2, .int v2), (3, .int v3)] 235 [.int k0] := by
  unfold wp_M_perform_235 at h
  refine j_istore C 130 237 [(6, .int k0), (0, .ref h0), (1, .int v1), (2, .int v2), (3, .int v3)] rfl rfl (by decide) rfl ?_
  refine j_iload C 131 239 rfl rfl 0 rfl ?_
  refine j_if_eq C 132 347 242 rfl (by decide) rfl (fun c28 => ?_) (fun c28 => ?_)
  · replace h := ite_t h c28
    refine j_sub [1, 2, 3, 4, 0] rfl ?_
    exact L_M_perform_347 C S v1 v2 v3 k0 h
  · replace h := ite_f h c28
    refine j_aload_n C 133 243 rfl rfl rfl 1 rfl ?_
    refine j_get C 134 246 rfl rfl fg_M_159 0 rfl rfl ?_
    refine j_if_eq C 135 347 249 rfl (by decide) rfl (fun c29 => ?_) (fun c29 => ?_)
    · replace h := ite_t h c29
      refine j_sub [1, 2, 3, 4, 0] rfl ?_
      exact L_M_perform_347 C S v1 v2 v3 k0 h
    · replace h := ite_f h c29
      refine j_aload_n C 136 250 rfl rfl rfl 1 rfl ?_
      refine j_dup C 137 251 rfl rfl rfl ?_
      refine j_get C 138 254 rfl rfl fg_M_277 0 rfl rfl ?_
      refine j_aload_n C 139 255 rfl rfl rfl 1 rfl ?_
      refine j_get C 140 258 rfl rfl fg_M_152 0 rfl rfl ?_
      refine j_iload_n C 141 259 rfl rfl rfl 3 rfl ?_
      refine j_icmp_eq C 142 266 262 rfl (by decide) rfl (fun c30 => ?_) (fun c30 => ?_)
      · replace h := ite_t h c30
        refine j_iconst C 145 267 rfl rfl kI_0 ?_
        refine j_sub [1, 2, 3, 4, 0] rfl ?_
        exact L_M_perform_267 C S v1 v2 v3 k0 0 (S 0 43) h
      · replace h := ite_f h c30
        refine j_iconst C 143 263 rfl rfl kI_1 ?_
        refine j_goto C 144 267 rfl (by decide) ?_
        refine j_sub [1, 2, 3, 4, 0] rfl ?_
        exact L_M_perform_267 C S v1 v2 v3 k0 1 (S 0 43) h
def wp_M_perform_234 (K : St → Prop) (S : St) (v1 : Int32) (v2 : Int32) (v3 : Int32) : Prop := (wp_M_perform_235 K S v1 v2 v3 0)
set_option maxHeartbeats 4000000 in
set_option maxRecDepth 100000 in
theorem L_M_perform_234 {p : Program} {l : Launch} {e : Env} {s : State} {m : MethodId} {args : Array Value} {below : List Frame} {meth : Method} {c : Code} {A : Nat → Prop} {D : va_G} {h0 : Nat} {a : Nat → Nat} {cI cB : ClassId} {K : St → Prop} (C : CX p rm_M_perform s m args meth c b_M_perform 8 "PipelinedCoreModel" none pr_M_perform D clK (tysK cI cB) A) (S : St) (v1 : Int32) (v2 : Int32) (v3 : Int32) (h : wp_M_perform_234 K S v1 v2 v3) : J p l e rm_M_perform s m args below meth c 8 D clK A 0 0 (MQ below (va_Qv K (fun u t => QK D clK (tysK cI cB) A (wsM h0 a cI cB u) t) A) args s 0 0 A) (wsM h0 a cI cB S) [(0, .ref h0), (1, .int v1), (2, .int v2), (3, .int v3)] 234 [] := by
  unfold wp_M_perform_234 at h
  refine j_iconst C 129 235 rfl rfl kI_0 ?_
  exact L_M_perform_235 C S v1 v2 v3 0 h
def wp_M_perform_218 (K : St → Prop) (S : St) (v1 : Int32) (v2 : Int32) (v3 : Int32) (v5 : Int32) : Prop := (if v5 = 0 then ((if (0 : Int32) ≤ (S 0 45) then ((wp_M_perform_234 K S v1 v2 v3)) else ((wp_M_perform_235 K S v1 v2 v3 1)))) else ((wp_M_perform_234 K S v1 v2 v3)))
set_option maxHeartbeats 4000000 in
set_option maxRecDepth 100000 in
theorem L_M_perform_218 {p : Program} {l : Launch} {e : Env} {s : State} {m : MethodId} {args : Array Value} {below : List Frame} {meth : Method} {c : Code} {A : Nat → Prop} {D : va_G} {h0 : Nat} {a : Nat → Nat} {cI cB : ClassId} {K : St → Prop} (C : CX p rm_M_perform s m args meth c b_M_perform 8 "PipelinedCoreModel" none pr_M_perform D clK (tysK cI cB) A) (S : St) (v1 : Int32) (v2 : Int32) (v3 : Int32) (v5 : Int32) (h : wp_M_perform_218 K S v1 v2 v3 v5) : J p l e rm_M_perform s m args below meth c 8 D clK A 0 0 (MQ below (va_Qv K (fun u t => QK D clK (tysK cI cB) A (wsM h0 a cI cB u) t) A) args s 0 0 A) (wsM h0 a cI cB S) [(0, .ref h0), (1, .int v1), (2, .int v2), (3, .int v3), (5, .int v5)] 218 [] := by
  unfold wp_M_perform_218 at h
  refine j_iload C 122 220 rfl rfl 4 rfl ?_
  refine j_if_ne C 123 234 223 rfl (by decide) rfl (fun c26 => ?_) (fun c26 => ?_)
  · replace h := ite_f h c26
    refine j_sub [0, 1, 2, 3] rfl ?_
    exact L_M_perform_234 C S v1 v2 v3 h
  · replace h := ite_t h c26
    refine j_aload_n C 124 224 rfl rfl rfl 0 rfl ?_
    refine j_get C 125 227 rfl rfl fg_M_120 0 rfl rfl ?_
    refine j_if_ge C 126 234 230 rfl (by decide) rfl (fun c27 => ?_) (fun c27 => ?_)
    · replace h := ite_t h c27
      refine j_sub [0, 1, 2, 3] rfl ?_
      exact L_M_perform_234 C S v1 v2 v3 h
    · replace h := ite_f h c27
      refine j_iconst C 127 231 rfl rfl kI_1 ?_
      refine j_goto C 128 235 rfl (by decide) ?_
      refine j_sub [0, 1, 2, 3] rfl ?_
      exact L_M_perform_235 C S v1 v2 v3 1 h
def wp_M_perform_177 (K : St → Prop) (S : St) (v1 : Int32) (v2 : Int32) (v3 : Int32) (v5 : Int32) (k0 : Int32) (k1 : Int32) (k2 : Int32) : Prop := wp_M_enter S k2 k1 k0 (fun S23 => (∀ S25 : St, S25 = st S23 0 42 ((S23 0 42) + (1 : Int32)) → ((wp_M_perform_218 K S25 v1 v2 v3 v5))))
set_option maxHeartbeats 4000000 in
set_option maxRecDepth 100000 in
theorem L_M_perform_177 {p : Program} {l : Launch} {e : Env} {s : State} {m : MethodId} {args : Array Value} {below : List Frame} {meth : Method} {c : Code} {A : Nat → Prop} {D : va_G} {h0 : Nat} {a : Nat → Nat} {cI cB : ClassId} {K : St → Prop} (C : CX p rm_M_perform s m args meth c b_M_perform 8 "PipelinedCoreModel" none pr_M_perform D clK (tysK cI cB) A) (S : St) (v1 : Int32) (v2 : Int32) (v3 : Int32) (v5 : Int32) (k0 : Int32) (k1 : Int32) (k2 : Int32) (h : wp_M_perform_177 K S v1 v2 v3 v5 k0 k1 k2) : J p l e rm_M_perform s m args below meth c 8 D clK A 0 0 (MQ below (va_Qv K (fun u t => QK D clK (tysK cI cB) A (wsM h0 a cI cB u) t) A) args s 0 0 A) (wsM h0 a cI cB S) [(0, .ref h0), (1, .int v1), (2, .int v2), (3, .int v3), (5, .int v5)] 177 [.int k0, .int k1, .int k2, .ref h0] := by
  unfold wp_M_perform_177 at h
  refine j_callVv C 101 180 rfl rfl w847 m_M_enter (As := [.int k2, .int k1, .int k0]) (c_M_enter l D h0 a cI cB S k2 k1 k0 _ h) ⟨rfl, rfl⟩ ⟨Nat.le_of_ble_eq_true rfl, Nat.le_of_ble_eq_true rfl⟩ 0 rfl rfl rfl ⟨Nat.le_of_ble_eq_true rfl, Nat.le_of_ble_eq_true rfl⟩ (Nat.le_of_ble_eq_true rfl) rfl (fun S23 h => ?_)
  refine j_aload_n C 102 181 rfl rfl rfl 0 rfl ?_
  refine j_dup C 103 182 rfl rfl rfl ?_
  refine j_get C 104 185 rfl rfl fg_M_268 0 rfl rfl ?_
  refine j_iconst C 105 186 rfl rfl kI_1 ?_
  refine j_iadd C 106 187 rfl rfl ?_
  refine j_put C 107 190 rfl rfl fp_M_268 0 rfl (Nat.le_of_ble_eq_true rfl) rfl rfl (st S23 0 42 ((S23 0 42) + (1 : Int32))) (sM_0_42 _ _ _ _ _ _) (fun S25 eS25 => ?_)
  replace h := h S25 eS25
  refine j_goto C 108 218 rfl (by decide) ?_
  exact L_M_perform_218 C S25 v1 v2 v3 v5 h
def wp_M_perform_132 (K : St → Prop) (S : St) (v1 : Int32) (v2 : Int32) (v3 : Int32) (v5 : Int32) (k0 : Int32) : Prop := vp_in 2 8 ∧ (∀ x21 : Int32, x21 = (S 4 (2 : Int32).toNatClampNeg) &&& (-4 : Int32) → (vp_in 2 8 ∧ ((if ((S 4 (2 : Int32).toNatClampNeg) &&& (1 : Int32)) = 1 then ((wp_M_perform_177 K S v1 v2 v3 v5 (x21 + ((4 : Int32) * k0)) 0 ((-2147483648 : Int32) + k0))) else ((wp_M_perform_177 K S v1 v2 v3 v5 x21 0 ((-2147483648 : Int32) + k0)))))))
set_option maxHeartbeats 4000000 in
set_option maxRecDepth 100000 in
theorem L_M_perform_132 {p : Program} {l : Launch} {e : Env} {s : State} {m : MethodId} {args : Array Value} {below : List Frame} {meth : Method} {c : Code} {A : Nat → Prop} {D : va_G} {h0 : Nat} {a : Nat → Nat} {cI cB : ClassId} {K : St → Prop} (C : CX p rm_M_perform s m args meth c b_M_perform 8 "PipelinedCoreModel" none pr_M_perform D clK (tysK cI cB) A) (S : St) (v1 : Int32) (v2 : Int32) (v3 : Int32) (v5 : Int32) (k0 : Int32) (h : wp_M_perform_132 K S v1 v2 v3 v5 k0) : J p l e rm_M_perform s m args below meth c 8 D clK A 0 0 (MQ below (va_Qv K (fun u t => QK D clK (tysK cI cB) A (wsM h0 a cI cB u) t) A) args s 0 0 A) (wsM h0 a cI cB S) [(0, .ref h0), (1, .int v1), (2, .int v2), (3, .int v3), (5, .int v5)] 132 [.int k0] := by
  unfold wp_M_perform_132 at h
  refine j_istore C 73 134 [(6, .int k0), (0, .ref h0), (1, .int v1), (2, .int v2), (3, .int v3), (5, .int v5)] rfl rfl (by decide) rfl ?_
  refine j_aload_n C 74 135 rfl rfl rfl 1 rfl ?_
  refine j_get C 75 138 rfl rfl fg_M_19 0 rfl rfl ?_
  refine j_iconst C 76 139 rfl rfl kI_2 ?_
  refine j_iald C 77 140 rfl rfl 4 0 rfl rfl h.1 ?_
  replace h := h.2
  refine j_bipush C 78 142 rfl rfl kB_m4 ?_
  refine j_iand C 79 143 rfl rfl ?_
  refine j_topi (fun x21 ex21 => ?_)
  replace h := h x21 ex21
  refine j_istore C 80 145 [(7, .int x21), (6, .int k0), (0, .ref h0), (1, .int v1), (2, .int v2), (3, .int v3), (5, .int v5)] rfl rfl (by decide) rfl ?_
  refine j_aload_n C 81 146 rfl rfl rfl 2 rfl ?_
  refine j_ldc_w C 82 149 rfl rfl w846 ?_
  refine j_iload C 83 151 rfl rfl 1 rfl ?_
  refine j_iadd C 84 152 rfl rfl ?_
  refine j_iconst C 85 153 rfl rfl kI_0 ?_
  refine j_aload_n C 86 154 rfl rfl rfl 2 rfl ?_
  refine j_get C 87 157 rfl rfl fg_M_19 0 rfl rfl ?_
  refine j_iconst C 88 158 rfl rfl kI_2 ?_
  refine j_iald C 89 159 rfl rfl 4 0 rfl rfl h.1 ?_
  replace h := h.2
  refine j_iconst C 90 160 rfl rfl kI_1 ?_
  refine j_iand C 91 161 rfl rfl ?_
  refine j_iconst C 92 162 rfl rfl kI_1 ?_
  refine j_icmp_ne C 93 175 165 rfl (by decide) rfl (fun c22 => ?_) (fun c22 => ?_)
  · replace h := ite_f h c22
    refine j_iload C 100 177 rfl rfl 0 rfl ?_
    refine j_sub [2, 3, 4, 5, 6] rfl ?_
    exact L_M_perform_177 C S v1 v2 v3 v5 x21 0 ((-2147483648 : Int32) + k0) h
  · replace h := ite_t h c22
    refine j_iload C 94 167 rfl rfl 0 rfl ?_
    refine j_iconst C 95 168 rfl rfl kI_4 ?_
    refine j_iload C 96 170 rfl rfl 1 rfl ?_
    refine j_imul C 97 171 rfl rfl ?_
    refine j_iadd C 98 172 rfl rfl ?_
    refine j_goto C 99 177 rfl (by decide) ?_
    refine j_sub [2, 3, 4, 5, 6] rfl ?_
    exact L_M_perform_177 C S v1 v2 v3 v5 (x21 + ((4 : Int32) * k0)) 0 ((-2147483648 : Int32) + k0) h
def wp_M_perform_214 (K : St → Prop) (S : St) (v1 : Int32) (v2 : Int32) (v3 : Int32) (v5 : Int32) (k0 : Int32) (k1 : Int32) : Prop := ∀ S50 : St, S50 = st S 0 41 (k1 + k0) → ((wp_M_perform_218 K S50 v1 v2 v3 v5))
set_option maxHeartbeats 4000000 in
set_option maxRecDepth 100000 in
theorem L_M_perform_214 {p : Program} {l : Launch} {e : Env} {s : State} {m : MethodId} {args : Array Value} {below : List Frame} {meth : Method} {c : Code} {A : Nat → Prop} {D : va_G} {h0 : Nat} {a : Nat → Nat} {cI cB : ClassId} {K : St → Prop} (C : CX p rm_M_perform s m args meth c b_M_perform 8 "PipelinedCoreModel" none pr_M_perform D clK (tysK cI cB) A) (S : St) (v1 : Int32) (v2 : Int32) (v3 : Int32) (v5 : Int32) (k0 : Int32) (k1 : Int32) (h : wp_M_perform_214 K S v1 v2 v3 v5 k0 k1) : J p l e rm_M_perform s m args below meth c 8 D clK A 0 0 (MQ below (va_Qv K (fun u t => QK D clK (tysK cI cB) A (wsM h0 a cI cB u) t) A) args s 0 0 A) (wsM h0 a cI cB S) [(0, .ref h0), (1, .int v1), (2, .int v2), (3, .int v3), (5, .int v5)] 214 [.int k0, .int k1, .ref h0] := by
  unfold wp_M_perform_214 at h
  refine j_iadd C 120 215 rfl rfl ?_
  refine j_put C 121 218 rfl rfl fp_M_274 0 rfl (Nat.le_of_ble_eq_true rfl) rfl rfl (st S 0 41 (k1 + k0)) (sM_0_41 _ _ _ _ _ _) (fun S50 eS50 => ?_)
  replace h := h S50 eS50
  exact L_M_perform_218 C S50 v1 v2 v3 v5 h
def wp_M_perform_97 (K : St → Prop) (S : St) (v1 : Int32) (v2 : Int32) (v3 : Int32) (v4 : Int32) (k0 : Int32) : Prop := (if k0 = 0 then (wp_M_fulfil S (fun S16 => ((if (S16 0 45) < 0 then ((wp_M_perform_214 K S16 v1 v2 v3 k0 0 (S16 0 41))) else ((wp_M_perform_214 K S16 v1 v2 v3 k0 1 (S16 0 41))))))) else ((if (v4 &&& (2048 : Int32)) = 0 then ((if (v4 &&& (8 : Int32)) = 0 then ((wp_M_perform_132 K S v1 v2 v3 k0 7)) else ((wp_M_perform_132 K S v1 v2 v3 k0 3)))) else ((wp_M_perform_132 K S v1 v2 v3 k0 11)))))
set_option maxHeartbeats 4000000 in
set_option maxRecDepth 100000 in
theorem L_M_perform_97 {p : Program} {l : Launch} {e : Env} {s : State} {m : MethodId} {args : Array Value} {below : List Frame} {meth : Method} {c : Code} {A : Nat → Prop} {D : va_G} {h0 : Nat} {a : Nat → Nat} {cI cB : ClassId} {K : St → Prop} (C : CX p rm_M_perform s m args meth c b_M_perform 8 "PipelinedCoreModel" none pr_M_perform D clK (tysK cI cB) A) (S : St) (v1 : Int32) (v2 : Int32) (v3 : Int32) (v4 : Int32) (k0 : Int32) (h : wp_M_perform_97 K S v1 v2 v3 v4 k0) : J p l e rm_M_perform s m args below meth c 8 D clK A 0 0 (MQ below (va_Qv K (fun u t => QK D clK (tysK cI cB) A (wsM h0 a cI cB u) t) A) args s 0 0 A) (wsM h0 a cI cB S) [(0, .ref h0), (1, .int v1), (2, .int v2), (3, .int v3), (4, .int v4)] 97 [.int k0] := by
  unfold wp_M_perform_97 at h
  refine j_istore C 57 99 [(5, .int k0), (0, .ref h0), (1, .int v1), (2, .int v2), (3, .int v3), (4, .int v4)] rfl rfl (by decide) rfl ?_
  refine j_iload C 58 101 rfl rfl 0 rfl ?_
  refine j_if_eq C 59 193 104 rfl (by decide) rfl (fun c15 => ?_) (fun c15 => ?_)
  · replace h := ite_t h c15
    refine j_aload_n C 109 194 rfl rfl rfl 1 rfl ?_
    refine j_callVv C 110 197 rfl rfl w851 m_M_fulfil (As := []) (c_M_fulfil l D h0 a cI cB S _ h) ⟨rfl, rfl⟩ ⟨Nat.le_of_ble_eq_true rfl, Nat.le_of_ble_eq_true rfl⟩ 0 rfl rfl rfl ⟨Nat.le_of_ble_eq_true rfl, Nat.le_of_ble_eq_true rfl⟩ (Nat.le_of_ble_eq_true rfl) rfl (fun S16 h => ?_)
    refine j_aload_n C 111 198 rfl rfl rfl 1 rfl ?_
    refine j_dup C 112 199 rfl rfl rfl ?_
    refine j_get C 113 202 rfl rfl fg_M_274 0 rfl rfl ?_
    refine j_aload_n C 114 203 rfl rfl rfl 1 rfl ?_
    refine j_get C 115 206 rfl rfl fg_M_120 0 rfl rfl ?_
    refine j_if_lt C 116 213 209 rfl (by decide) rfl (fun c18 => ?_) (fun c18 => ?_)
    · replace h := ite_t h c18
      refine j_iconst C 119 214 rfl rfl kI_0 ?_
      refine j_sub [1, 2, 3, 4, 0] rfl ?_
      exact L_M_perform_214 C S16 v1 v2 v3 k0 0 (S16 0 41) h
    · replace h := ite_f h c18
      refine j_iconst C 117 210 rfl rfl kI_1 ?_
      refine j_goto C 118 214 rfl (by decide) ?_
      refine j_sub [1, 2, 3, 4, 0] rfl ?_
      exact L_M_perform_214 C S16 v1 v2 v3 k0 1 (S16 0 41) h
  · replace h := ite_f h c15
    refine j_iload C 60 106 rfl rfl 5 rfl ?_
    refine j_sipush C 61 109 rfl rfl kS_2048 ?_
    refine j_iand C 62 110 rfl rfl ?_
    refine j_if_eq C 63 118 113 rfl (by decide) rfl (fun c19 => ?_) (fun c19 => ?_)
    · replace h := ite_t h c19
      refine j_iload C 66 120 rfl rfl 5 rfl ?_
      refine j_bipush C 67 122 rfl rfl kB_8 ?_
      refine j_iand C 68 123 rfl rfl ?_
      refine j_if_eq C 69 130 126 rfl (by decide) rfl (fun c20 => ?_) (fun c20 => ?_)
      · replace h := ite_t h c20
        refine j_bipush C 72 132 rfl rfl kB_7 ?_
        refine j_sub [1, 2, 3, 4, 0] rfl ?_
        exact L_M_perform_132 C S v1 v2 v3 k0 7 h
      · replace h := ite_f h c20
        refine j_iconst C 70 127 rfl rfl kI_3 ?_
        refine j_goto C 71 132 rfl (by decide) ?_
        refine j_sub [1, 2, 3, 4, 0] rfl ?_
        exact L_M_perform_132 C S v1 v2 v3 k0 3 h
    · replace h := ite_f h c19
      refine j_bipush C 64 115 rfl rfl kB_11 ?_
      refine j_goto C 65 132 rfl (by decide) ?_
      refine j_sub [1, 2, 3, 4, 0] rfl ?_
      exact L_M_perform_132 C S v1 v2 v3 k0 11 h
def wp_M_perform_85 (K : St → Prop) (S : St) (v1 : Int32) (v2 : Int32) (v3 : Int32) (k0 : Int32) : Prop := (if k0 = 0 then ((wp_M_perform_97 K S v1 v2 v3 k0 0)) else ((wp_M_perform_97 K S v1 v2 v3 k0 1)))
set_option maxHeartbeats 4000000 in
set_option maxRecDepth 100000 in
theorem L_M_perform_85 {p : Program} {l : Launch} {e : Env} {s : State} {m : MethodId} {args : Array Value} {below : List Frame} {meth : Method} {c : Code} {A : Nat → Prop} {D : va_G} {h0 : Nat} {a : Nat → Nat} {cI cB : ClassId} {K : St → Prop} (C : CX p rm_M_perform s m args meth c b_M_perform 8 "PipelinedCoreModel" none pr_M_perform D clK (tysK cI cB) A) (S : St) (v1 : Int32) (v2 : Int32) (v3 : Int32) (k0 : Int32) (h : wp_M_perform_85 K S v1 v2 v3 k0) : J p l e rm_M_perform s m args below meth c 8 D clK A 0 0 (MQ below (va_Qv K (fun u t => QK D clK (tysK cI cB) A (wsM h0 a cI cB u) t) A) args s 0 0 A) (wsM h0 a cI cB S) [(0, .ref h0), (1, .int v1), (2, .int v2), (3, .int v3)] 85 [.int k0] := by
  unfold wp_M_perform_85 at h
  refine j_istore C 51 87 [(4, .int k0), (0, .ref h0), (1, .int v1), (2, .int v2), (3, .int v3)] rfl rfl (by decide) rfl ?_
  refine j_iload C 52 89 rfl rfl 0 rfl ?_
  refine j_if_eq C 53 96 92 rfl (by decide) rfl (fun c14 => ?_) (fun c14 => ?_)
  · replace h := ite_t h c14
    refine j_iconst C 56 97 rfl rfl kI_0 ?_
    refine j_sub [1, 2, 3, 4, 0] rfl ?_
    exact L_M_perform_97 C S v1 v2 v3 k0 0 h
  · replace h := ite_f h c14
    refine j_iconst C 54 93 rfl rfl kI_1 ?_
    refine j_goto C 55 97 rfl (by decide) ?_
    refine j_sub [1, 2, 3, 4, 0] rfl ?_
    exact L_M_perform_97 C S v1 v2 v3 k0 1 h
def wp_M_perform (S : St) (p1 : Int32) (K : St → Prop) : Prop := wp_M_fetched S (fun r2 S1 => (∀ S3 : St, S3 = st S1 0 45 (-1) → (∀ S4 : St, S4 = st S3 0 47 ((S3 0 6) + (4 : Int32)) → (∀ S5 : St, S5 = st S4 0 48 0 → (∀ S6 : St, S6 = st S5 0 50 (-1) → (∀ S7 : St, S7 = st S6 0 51 0 → (∀ S8 : St, S8 = st S7 0 53 0 → (∀ S9 : St, S9 = st S8 0 54 0 → (∀ S10 : St, S10 = st S9 0 55 0 → (wp_M_decoding S10 (fun r12 S11 => (vp_in 0 8 ∧ ((if ((S11 4 (0 : Int32).toNatClampNeg) &&& (8 : Int32)) = 0 then ((wp_M_perform_85 K S11 p1 r2 r12 0)) else (vp_in 7 8 ∧ (vp_in 1 8 ∧ ((wp_M_perform_85 K S11 p1 r2 r12 ((S11 4 (7 : Int32).toNatClampNeg) &&& (S11 4 (1 : Int32).toNatClampNeg))))))))))))))))))))
set_option maxHeartbeats 4000000 in
set_option maxRecDepth 100000 in
theorem c_M_perform (l : Launch) (D : va_G) (h0 : Nat) (a : Nat → Nat) (cI cB : ClassId) (S : St) (p1 : Int32) (K : St → Prop) (h : wp_M_perform S p1 K) (sz : Nat) : Met l y_M_perform (Cond.code y_M_perform b_M_perform 8 none :: gw) rm_M_perform (va_Pc [.ref h0, .int p1] (PK D clK (tysK cI cB) (wsM h0 a cI cB S) sz)) (va_Qv K (fun u t => QK D clK (tysK cI cB) (va_A (wsM h0 a cI cB S) sz) (wsM h0 a cI cB u) t) (va_A (wsM h0 a cI cB S) sz)) 0 0 (va_A (wsM h0 a cI cB S) sz) := by
  refine met_of (rm := rm_M_perform) (pr := pr_M_perform) (Qc := fun A => va_Qv K (fun u t => QK D clK (tysK cI cB) A (wsM h0 a cI cB u) t) A) (by decide +kernel) dm_M_perform (Nat.le_of_ble_eq_true rfl) (fun p e s m args below meth c A C => ?_) sz
  unfold wp_M_perform at h
  show J p l e rm_M_perform s m args below meth c 8 D clK A 0 0 _ (wsM h0 a cI cB S) [(0, .ref h0), (1, .int p1)] 0 []
  refine j_aload_n C 0 1 rfl rfl rfl 0 rfl ?_
  refine j_callVi C 1 4 rfl rfl w834 m_M_fetched (As := []) (c_M_fetched l D h0 a cI cB S _ h) ⟨rfl, rfl⟩ ⟨Nat.le_of_ble_eq_true rfl, Nat.le_of_ble_eq_true rfl⟩ 0 rfl rfl rfl ⟨Nat.le_of_ble_eq_true rfl, Nat.le_of_ble_eq_true rfl⟩ (Nat.le_of_ble_eq_true rfl) rfl (fun r2 S1 h => ?_)
  refine j_istore_n C 2 5 [(2, .int r2), (0, .ref h0), (1, .int p1)] rfl rfl rfl (by decide) rfl ?_
  refine j_aload_n C 3 6 rfl rfl rfl 1 rfl ?_
  refine j_iconst C 4 7 rfl rfl kI_m1 ?_
  refine j_put C 5 10 rfl rfl fp_M_120 0 rfl (Nat.le_of_ble_eq_true rfl) rfl rfl (st S1 0 45 (-1)) (sM_0_45 _ _ _ _ _ _) (fun S3 eS3 => ?_)
  replace h := h S3 eS3
  refine j_aload_n C 6 11 rfl rfl rfl 1 rfl ?_
  refine j_aload_n C 7 12 rfl rfl rfl 1 rfl ?_
  refine j_get C 8 15 rfl rfl fg_M_162 0 rfl rfl ?_
  refine j_iconst C 9 16 rfl rfl kI_4 ?_
  refine j_iadd C 10 17 rfl rfl ?_
  refine j_put C 11 20 rfl rfl fp_M_152 0 rfl (Nat.le_of_ble_eq_true rfl) rfl rfl (st S3 0 47 ((S3 0 6) + (4 : Int32))) (sM_0_47 _ _ _ _ _ _) (fun S4 eS4 => ?_)
  replace h := h S4 eS4
  refine j_aload_n C 12 21 rfl rfl rfl 1 rfl ?_
  refine j_iconst C 13 22 rfl rfl kI_0 ?_
  refine j_put C 14 25 rfl rfl fp_M_199 0 rfl (Nat.le_of_ble_eq_true rfl) rfl rfl (st S4 0 48 0) (sM_0_48 _ _ _ _ _ _) (fun S5 eS5 => ?_)
  replace h := h S5 eS5
  refine j_aload_n C 15 26 rfl rfl rfl 1 rfl ?_
  refine j_iconst C 16 27 rfl rfl kI_m1 ?_
  refine j_put C 17 30 rfl rfl fp_M_172 0 rfl (Nat.le_of_ble_eq_true rfl) rfl rfl (st S5 0 50 (-1)) (sM_0_50 _ _ _ _ _ _) (fun S6 eS6 => ?_)
  replace h := h S6 eS6
  refine j_aload_n C 18 31 rfl rfl rfl 1 rfl ?_
  refine j_iconst C 19 32 rfl rfl kI_0 ?_
  refine j_put C 20 35 rfl rfl fp_M_183 0 rfl (Nat.le_of_ble_eq_true rfl) (isB_nar isB_0) (isB_fit isB_0) (st S6 0 51 0) (sM_0_51 _ _ _ _ _ _) (fun S7 eS7 => ?_)
  replace h := h S7 eS7
  refine j_aload_n C 21 36 rfl rfl rfl 1 rfl ?_
  refine j_iconst C 22 37 rfl rfl kI_0 ?_
  refine j_put C 23 40 rfl rfl fp_M_159 0 rfl (Nat.le_of_ble_eq_true rfl) (isB_nar isB_0) (isB_fit isB_0) (st S7 0 53 0) (sM_0_53 _ _ _ _ _ _) (fun S8 eS8 => ?_)
  replace h := h S8 eS8
  refine j_aload_n C 24 41 rfl rfl rfl 1 rfl ?_
  refine j_iconst C 25 42 rfl rfl kI_0 ?_
  refine j_put C 26 45 rfl rfl fp_M_155 0 rfl (Nat.le_of_ble_eq_true rfl) (isB_nar isB_0) (isB_fit isB_0) (st S8 0 54 0) (sM_0_54 _ _ _ _ _ _) (fun S9 eS9 => ?_)
  replace h := h S9 eS9
  refine j_aload_n C 27 46 rfl rfl rfl 1 rfl ?_
  refine j_iconst C 28 47 rfl rfl kI_0 ?_
  refine j_put C 29 50 rfl rfl fp_M_195 0 rfl (Nat.le_of_ble_eq_true rfl) (isB_nar isB_0) (isB_fit isB_0) (st S9 0 55 0) (sM_0_55 _ _ _ _ _ _) (fun S10 eS10 => ?_)
  replace h := h S10 eS10
  refine j_aload_n C 30 51 rfl rfl rfl 1 rfl ?_
  refine j_callVi C 31 54 rfl rfl w810 m_M_decoding (As := []) (c_M_decoding l D h0 a cI cB S10 _ h) ⟨rfl, rfl⟩ ⟨Nat.le_of_ble_eq_true rfl, Nat.le_of_ble_eq_true rfl⟩ 0 rfl rfl rfl ⟨Nat.le_of_ble_eq_true rfl, Nat.le_of_ble_eq_true rfl⟩ (Nat.le_of_ble_eq_true rfl) rfl (fun r12 S11 h => ?_)
  refine j_istore_n C 32 55 [(3, .int r12), (2, .int r2), (0, .ref h0), (1, .int p1)] rfl rfl rfl (by decide) rfl ?_
  refine j_aload_n C 33 56 rfl rfl rfl 2 rfl ?_
  refine j_get C 34 59 rfl rfl fg_M_19 0 rfl rfl ?_
  refine j_iconst C 35 60 rfl rfl kI_0 ?_
  refine j_iald C 36 61 rfl rfl 4 0 rfl rfl h.1 ?_
  replace h := h.2
  refine j_bipush C 37 63 rfl rfl kB_8 ?_
  refine j_iand C 38 64 rfl rfl ?_
  refine j_if_eq C 39 84 67 rfl (by decide) rfl (fun c13 => ?_) (fun c13 => ?_)
  · replace h := ite_t h c13
    refine j_iconst C 50 85 rfl rfl kI_0 ?_
    refine j_sub [2, 3, 1, 0] rfl ?_
    exact L_M_perform_85 C S11 p1 r2 r12 0 h
  · replace h := ite_f h c13
    refine j_aload_n C 40 68 rfl rfl rfl 2 rfl ?_
    refine j_get C 41 71 rfl rfl fg_M_19 0 rfl rfl ?_
    refine j_bipush C 42 73 rfl rfl kB_7 ?_
    refine j_iald C 43 74 rfl rfl 4 0 rfl rfl h.1 ?_
    replace h := h.2
    refine j_aload_n C 44 75 rfl rfl rfl 2 rfl ?_
    refine j_get C 45 78 rfl rfl fg_M_19 0 rfl rfl ?_
    refine j_iconst C 46 79 rfl rfl kI_1 ?_
    refine j_iald C 47 80 rfl rfl 4 0 rfl rfl h.1 ?_
    replace h := h.2
    refine j_iand C 48 81 rfl rfl ?_
    refine j_goto C 49 85 rfl (by decide) ?_
    refine j_sub [2, 3, 1, 0] rfl ?_
    exact L_M_perform_85 C S11 p1 r2 r12 ((S11 4 (7 : Int32).toNatClampNeg) &&& (S11 4 (1 : Int32).toNatClampNeg)) h
abbrev rm_M_end : Room := { frames := 0, cells := 0, slots := 0, locals := 0 }
def wp_M_end_71 (K : St → Prop) (S : St) (v1 : Int32) (k0 : Int32) (k1 : Int32) : Prop := ∀ S6 : St, S6 = st S 0 40 (k1 + k0) → (vp_in v1 160 ∧ (vp_in (jrem (S6 0 37) 16) 16 ∧ (∀ S7 : St, S7 = st S6 25 (jrem (S6 0 37) 16 : Int32).toNatClampNeg (S6 7 v1.toNatClampNeg) → (vp_in v1 160 ∧ (vp_in (jrem (S7 0 37) 16) 16 ∧ (∀ S8 : St, S8 = st S7 26 (jrem (S7 0 37) 16 : Int32).toNatClampNeg (S7 10 v1.toNatClampNeg) → (∀ S9 : St, S9 = st S8 0 37 ((S8 0 37) + (1 : Int32)) → (K S9))))))))
set_option maxHeartbeats 4000000 in
set_option maxRecDepth 100000 in
theorem L_M_end_71 {p : Program} {l : Launch} {e : Env} {s : State} {m : MethodId} {args : Array Value} {below : List Frame} {meth : Method} {c : Code} {A : Nat → Prop} {D : va_G} {h0 : Nat} {a : Nat → Nat} {cI cB : ClassId} {K : St → Prop} (C : CX p rm_M_end s m args meth c b_M_end 2 "PipelinedCoreModel" none pr_M_end D clK (tysK cI cB) A) (S : St) (v1 : Int32) (k0 : Int32) (k1 : Int32) (h : wp_M_end_71 K S v1 k0 k1) : J p l e rm_M_end s m args below meth c 2 D clK A 0 0 (MQ below (va_Qv K (fun u t => QK D clK (tysK cI cB) A (wsM h0 a cI cB u) t) A) args s 0 0 A) (wsM h0 a cI cB S) [(0, .ref h0), (1, .int v1)] 71 [.int k0, .int k1, .ref h0] := by
  unfold wp_M_end_71 at h
  refine j_iadd C 43 72 rfl rfl ?_
  refine j_put C 44 75 rfl rfl fp_M_302 0 rfl (Nat.le_of_ble_eq_true rfl) rfl rfl (st S 0 40 (k1 + k0)) (sM_0_40 _ _ _ _ _ _) (fun S6 eS6 => ?_)
  replace h := h S6 eS6
  refine j_aload_n C 45 76 rfl rfl rfl 0 rfl ?_
  refine j_get C 46 79 rfl rfl fg_M_87 0 rfl rfl ?_
  refine j_aload_n C 47 80 rfl rfl rfl 0 rfl ?_
  refine j_get C 48 83 rfl rfl fg_M_305 0 rfl rfl ?_
  refine j_bipush C 49 85 rfl rfl kB_16 ?_
  refine j_irem C 50 86 rfl rfl (by decide) ?_
  refine j_aload_n C 51 87 rfl rfl rfl 0 rfl ?_
  refine j_get C 52 90 rfl rfl fg_M_32 0 rfl rfl ?_
  refine j_iload_n C 53 91 rfl rfl rfl 1 rfl ?_
  refine j_iald C 54 92 rfl rfl 7 0 rfl rfl h.1 ?_
  replace h := h.2
  refine j_iast C 55 93 rfl rfl 25 0 rfl rfl h.1 (st S6 25 (jrem (S6 0 37) 16 : Int32).toNatClampNeg (S6 7 v1.toNatClampNeg)) (sM_25 _ _ _ _ _ _ _) (fun S7 eS7 => ?_)
  replace h := h.2
  replace h := h S7 eS7
  refine j_aload_n C 56 94 rfl rfl rfl 0 rfl ?_
  refine j_get C 57 97 rfl rfl fg_M_90 0 rfl rfl ?_
  refine j_aload_n C 58 98 rfl rfl rfl 0 rfl ?_
  refine j_get C 59 101 rfl rfl fg_M_305 0 rfl rfl ?_
  refine j_bipush C 60 103 rfl rfl kB_16 ?_
  refine j_irem C 61 104 rfl rfl (by decide) ?_
  refine j_aload_n C 62 105 rfl rfl rfl 0 rfl ?_
  refine j_get C 63 108 rfl rfl fg_M_41 0 rfl rfl ?_
  refine j_iload_n C 64 109 rfl rfl rfl 1 rfl ?_
  refine j_iald C 65 110 rfl rfl 10 0 rfl rfl h.1 ?_
  replace h := h.2
  refine j_iast C 66 111 rfl rfl 26 0 rfl rfl h.1 (st S7 26 (jrem (S7 0 37) 16 : Int32).toNatClampNeg (S7 10 v1.toNatClampNeg)) (sM_26 _ _ _ _ _ _ _) (fun S8 eS8 => ?_)
  replace h := h.2
  replace h := h S8 eS8
  refine j_aload_n C 67 112 rfl rfl rfl 0 rfl ?_
  refine j_dup C 68 113 rfl rfl rfl ?_
  refine j_get C 69 116 rfl rfl fg_M_305 0 rfl rfl ?_
  refine j_iconst C 70 117 rfl rfl kI_1 ?_
  refine j_iadd C 71 118 rfl rfl ?_
  refine j_put C 72 121 rfl rfl fp_M_305 0 rfl (Nat.le_of_ble_eq_true rfl) rfl rfl (st S8 0 37 ((S8 0 37) + (1 : Int32))) (sM_0_37 _ _ _ _ _ _) (fun S9 eS9 => ?_)
  replace h := h S9 eS9
  exact j_vret C 73 rfl h
def wp_M_end_52 (K : St → Prop) (S : St) (v1 : Int32) : Prop := vp_in v1 160 ∧ ((if (S 15 v1.toNatClampNeg) = 0 then ((wp_M_end_71 K S v1 0 (S 0 40))) else ((wp_M_end_71 K S v1 1 (S 0 40)))))
set_option maxHeartbeats 4000000 in
set_option maxRecDepth 100000 in
theorem L_M_end_52 {p : Program} {l : Launch} {e : Env} {s : State} {m : MethodId} {args : Array Value} {below : List Frame} {meth : Method} {c : Code} {A : Nat → Prop} {D : va_G} {h0 : Nat} {a : Nat → Nat} {cI cB : ClassId} {K : St → Prop} (C : CX p rm_M_end s m args meth c b_M_end 2 "PipelinedCoreModel" none pr_M_end D clK (tysK cI cB) A) (S : St) (v1 : Int32) (h : wp_M_end_52 K S v1) : J p l e rm_M_end s m args below meth c 2 D clK A 0 0 (MQ below (va_Qv K (fun u t => QK D clK (tysK cI cB) A (wsM h0 a cI cB u) t) A) args s 0 0 A) (wsM h0 a cI cB S) [(0, .ref h0), (1, .int v1)] 52 [] := by
  unfold wp_M_end_52 at h
  refine j_aload_n C 32 53 rfl rfl rfl 0 rfl ?_
  refine j_dup C 33 54 rfl rfl rfl ?_
  refine j_get C 34 57 rfl rfl fg_M_302 0 rfl rfl ?_
  refine j_aload_n C 35 58 rfl rfl rfl 0 rfl ?_
  refine j_get C 36 61 rfl rfl fg_M_56 0 rfl rfl ?_
  refine j_iload_n C 37 62 rfl rfl rfl 1 rfl ?_
  refine j_zald C 38 63 rfl rfl 15 1 rfl rfl h.1 ?_
  replace h := h.2
  refine j_if_eq C 39 70 66 rfl (by decide) rfl (fun c5 => ?_) (fun c5 => ?_)
  · replace h := ite_t h c5
    refine j_iconst C 42 71 rfl rfl kI_0 ?_
    exact L_M_end_71 C S v1 0 (S 0 40) h
  · replace h := ite_f h c5
    refine j_iconst C 40 67 rfl rfl kI_1 ?_
    refine j_goto C 41 71 rfl (by decide) ?_
    exact L_M_end_71 C S v1 1 (S 0 40) h
def wp_M_end_26 (K : St → Prop) (S : St) (v1 : Int32) : Prop := vp_in v1 160 ∧ ((if (S 13 v1.toNatClampNeg) < 0 then ((wp_M_end_52 K S v1)) else (vp_in v1 160 ∧ (vp_in v1 160 ∧ (vp_in (S 13 v1.toNatClampNeg) 64 ∧ (∀ S4 : St, S4 = st S 6 (S 13 v1.toNatClampNeg : Int32).toNatClampNeg (S 14 v1.toNatClampNeg) → ((wp_M_end_52 K S4 v1))))))))
set_option maxHeartbeats 4000000 in
set_option maxRecDepth 100000 in
theorem L_M_end_26 {p : Program} {l : Launch} {e : Env} {s : State} {m : MethodId} {args : Array Value} {below : List Frame} {meth : Method} {c : Code} {A : Nat → Prop} {D : va_G} {h0 : Nat} {a : Nat → Nat} {cI cB : ClassId} {K : St → Prop} (C : CX p rm_M_end s m args meth c b_M_end 2 "PipelinedCoreModel" none pr_M_end D clK (tysK cI cB) A) (S : St) (v1 : Int32) (h : wp_M_end_26 K S v1) : J p l e rm_M_end s m args below meth c 2 D clK A 0 0 (MQ below (va_Qv K (fun u t => QK D clK (tysK cI cB) A (wsM h0 a cI cB u) t) A) args s 0 0 A) (wsM h0 a cI cB S) [(0, .ref h0), (1, .int v1)] 26 [] := by
  unfold wp_M_end_26 at h
  refine j_aload_n C 16 27 rfl rfl rfl 0 rfl ?_
  refine j_get C 17 30 rfl rfl fg_M_50 0 rfl rfl ?_
  refine j_iload_n C 18 31 rfl rfl rfl 1 rfl ?_
  refine j_iald C 19 32 rfl rfl 13 0 rfl rfl h.1 ?_
  replace h := h.2
  refine j_if_lt C 20 52 35 rfl (by decide) rfl (fun c3 => ?_) (fun c3 => ?_)
  · replace h := ite_t h c3
    exact L_M_end_52 C S v1 h
  · replace h := ite_f h c3
    refine j_aload_n C 21 36 rfl rfl rfl 0 rfl ?_
    refine j_get C 22 39 rfl rfl fg_M_25 0 rfl rfl ?_
    refine j_aload_n C 23 40 rfl rfl rfl 0 rfl ?_
    refine j_get C 24 43 rfl rfl fg_M_50 0 rfl rfl ?_
    refine j_iload_n C 25 44 rfl rfl rfl 1 rfl ?_
    refine j_iald C 26 45 rfl rfl 13 0 rfl rfl h.1 ?_
    replace h := h.2
    refine j_aload_n C 27 46 rfl rfl rfl 0 rfl ?_
    refine j_get C 28 49 rfl rfl fg_M_53 0 rfl rfl ?_
    refine j_iload_n C 29 50 rfl rfl rfl 1 rfl ?_
    refine j_iald C 30 51 rfl rfl 14 0 rfl rfl h.1 ?_
    replace h := h.2
    refine j_iast C 31 52 rfl rfl 6 0 rfl rfl h.1 (st S 6 (S 13 v1.toNatClampNeg : Int32).toNatClampNeg (S 14 v1.toNatClampNeg)) (sM_6 _ _ _ _ _ _ _) (fun S4 eS4 => ?_)
    replace h := h.2
    replace h := h S4 eS4
    exact L_M_end_52 C S4 v1 h
def wp_M_end (S : St) (p1 : Int32) (K : St → Prop) : Prop := vp_in p1 160 ∧ ((if (S 11 p1.toNatClampNeg) = 0 then ((wp_M_end_26 K S p1)) else (vp_in p1 160 ∧ (vp_in p1 160 ∧ (vp_in (S 11 p1.toNatClampNeg) 32 ∧ (∀ S2 : St, S2 = st S 5 (S 11 p1.toNatClampNeg : Int32).toNatClampNeg (S 12 p1.toNatClampNeg) → ((wp_M_end_26 K S2 p1))))))))
set_option maxHeartbeats 4000000 in
set_option maxRecDepth 100000 in
theorem c_M_end (l : Launch) (D : va_G) (h0 : Nat) (a : Nat → Nat) (cI cB : ClassId) (S : St) (p1 : Int32) (K : St → Prop) (h : wp_M_end S p1 K) (sz : Nat) : Met l y_M_end (Cond.code y_M_end b_M_end 2 none :: gw) rm_M_end (va_Pc [.ref h0, .int p1] (PK D clK (tysK cI cB) (wsM h0 a cI cB S) sz)) (va_Qv K (fun u t => QK D clK (tysK cI cB) (va_A (wsM h0 a cI cB S) sz) (wsM h0 a cI cB u) t) (va_A (wsM h0 a cI cB S) sz)) 0 0 (va_A (wsM h0 a cI cB S) sz) := by
  refine met_of (rm := rm_M_end) (pr := pr_M_end) (Qc := fun A => va_Qv K (fun u t => QK D clK (tysK cI cB) A (wsM h0 a cI cB u) t) A) (by decide +kernel) dm_M_end (Nat.le_of_ble_eq_true rfl) (fun p e s m args below meth c A C => ?_) sz
  unfold wp_M_end at h
  show J p l e rm_M_end s m args below meth c 2 D clK A 0 0 _ (wsM h0 a cI cB S) [(0, .ref h0), (1, .int p1)] 0 []
  refine j_aload_n C 0 1 rfl rfl rfl 0 rfl ?_
  refine j_get C 1 4 rfl rfl fg_M_44 0 rfl rfl ?_
  refine j_iload_n C 2 5 rfl rfl rfl 1 rfl ?_
  refine j_iald C 3 6 rfl rfl 11 0 rfl rfl h.1 ?_
  replace h := h.2
  refine j_if_eq C 4 26 9 rfl (by decide) rfl (fun c1 => ?_) (fun c1 => ?_)
  · replace h := ite_t h c1
    exact L_M_end_26 C S p1 h
  · replace h := ite_f h c1
    refine j_aload_n C 5 10 rfl rfl rfl 0 rfl ?_
    refine j_get C 6 13 rfl rfl fg_M_22 0 rfl rfl ?_
    refine j_aload_n C 7 14 rfl rfl rfl 0 rfl ?_
    refine j_get C 8 17 rfl rfl fg_M_44 0 rfl rfl ?_
    refine j_iload_n C 9 18 rfl rfl rfl 1 rfl ?_
    refine j_iald C 10 19 rfl rfl 11 0 rfl rfl h.1 ?_
    replace h := h.2
    refine j_aload_n C 11 20 rfl rfl rfl 0 rfl ?_
    refine j_get C 12 23 rfl rfl fg_M_47 0 rfl rfl ?_
    refine j_iload_n C 13 24 rfl rfl rfl 1 rfl ?_
    refine j_iald C 14 25 rfl rfl 12 0 rfl rfl h.1 ?_
    replace h := h.2
    refine j_iast C 15 26 rfl rfl 5 0 rfl rfl h.1 (st S 5 (S 11 p1.toNatClampNeg : Int32).toNatClampNeg (S 12 p1.toNatClampNeg)) (sM_5 _ _ _ _ _ _ _) (fun S2 eS2 => ?_)
    replace h := h.2
    replace h := h S2 eS2
    exact L_M_end_26 C S2 p1 h
abbrev rm_M_shift : Room := { frames := 0, cells := 0, slots := 0, locals := 0 }
def wp_M_shift_2 (K : St → Prop) : Nat → St → Int32 → Int32 → Prop
  | 0 => fun _ _ _ => False
  | f + 1 => fun S v1 v2 => (fun KH : St → Int32 → Int32 → Prop => (if (S 0 17) ≤ v2 then (∀ S2 : St, S2 = st S 0 17 ((S 0 17) - v1) → (K S2)) else (vp_in v2 160 ∧ (vp_in (v2 - v1) 160 ∧ (∀ S3 : St, S3 = st S 7 (v2 - v1 : Int32).toNatClampNeg (S 7 v2.toNatClampNeg) → (vp_in v2 160 ∧ (vp_in (v2 - v1) 160 ∧ (∀ S4 : St, S4 = st S3 8 (v2 - v1 : Int32).toNatClampNeg (S3 8 v2.toNatClampNeg) → (vp_in v2 160 ∧ (vp_in (v2 - v1) 160 ∧ (∀ S5 : St, S5 = st S4 9 (v2 - v1 : Int32).toNatClampNeg (S4 9 v2.toNatClampNeg) → (vp_in v2 160 ∧ (vp_in (v2 - v1) 160 ∧ (∀ S6 : St, S6 = st S5 10 (v2 - v1 : Int32).toNatClampNeg (S5 10 v2.toNatClampNeg) → (vp_in v2 160 ∧ (vp_in (v2 - v1) 160 ∧ (∀ S7 : St, S7 = st S6 11 (v2 - v1 : Int32).toNatClampNeg (S6 11 v2.toNatClampNeg) → (vp_in v2 160 ∧ (vp_in (v2 - v1) 160 ∧ (∀ S8 : St, S8 = st S7 12 (v2 - v1 : Int32).toNatClampNeg (S7 12 v2.toNatClampNeg) → (vp_in v2 160 ∧ (vp_in (v2 - v1) 160 ∧ (∀ S9 : St, S9 = st S8 13 (v2 - v1 : Int32).toNatClampNeg (S8 13 v2.toNatClampNeg) → (vp_in v2 160 ∧ (vp_in (v2 - v1) 160 ∧ (∀ S10 : St, S10 = st S9 14 (v2 - v1 : Int32).toNatClampNeg (S9 14 v2.toNatClampNeg) → (vp_in v2 160 ∧ (vp_in (v2 - v1) 160 ∧ (∀ S11 : St, S11 = st S10 15 (v2 - v1 : Int32).toNatClampNeg (vp_nar .boolean (S10 15 v2.toNatClampNeg)) → ((KH S11 v1 (v2 + 1)))))))))))))))))))))))))))))))) (wp_M_shift_2 K f)
set_option maxHeartbeats 4000000 in
set_option maxRecDepth 100000 in
theorem L_M_shift_2 {p : Program} {l : Launch} {e : Env} {s : State} {m : MethodId} {args : Array Value} {below : List Frame} {meth : Method} {c : Code} {A : Nat → Prop} {D : va_G} {h0 : Nat} {a : Nat → Nat} {cI cB : ClassId} {K : St → Prop} (C : CX p rm_M_shift s m args meth c b_M_shift 3 "PipelinedCoreModel" none pr_M_shift D clK (tysK cI cB) A) (f : Nat) : ∀ (S : St) (v1 : Int32) (v2 : Int32), wp_M_shift_2 K f S v1 v2 → J p l e rm_M_shift s m args below meth c 3 D clK A 0 0 (MQ below (va_Qv K (fun u t => QK D clK (tysK cI cB) A (wsM h0 a cI cB u) t) A) args s 0 0 A) (wsM h0 a cI cB S) [(0, .ref h0), (1, .int v1), (2, .int v2)] 2 [] := by
  induction f with
  | zero => exact fun _ _ _ h => h.elim
  | succ f ih =>
    intro S v1 v2 h
    have hKH := ih
    rw [wp_M_shift_2] at h
    generalize wp_M_shift_2 K f = KH at h hKH
    try dsimp only at h
    refine j_iload_n C 2 3 rfl rfl rfl 2 rfl ?_
    refine j_aload_n C 3 4 rfl rfl rfl 0 rfl ?_
    refine j_get C 4 7 rfl rfl fg_M_296 0 rfl rfl ?_
    refine j_icmp_ge C 5 142 10 rfl (by decide) rfl (fun c1 => ?_) (fun c1 => ?_)
    · replace h := ite_t h c1
      refine j_aload_n C 98 143 rfl rfl rfl 0 rfl ?_
      refine j_dup C 99 144 rfl rfl rfl ?_
      refine j_get C 100 147 rfl rfl fg_M_296 0 rfl rfl ?_
      refine j_iload_n C 101 148 rfl rfl rfl 1 rfl ?_
      refine j_isub C 102 149 rfl rfl ?_
      refine j_put C 103 152 rfl rfl fp_M_296 0 rfl (Nat.le_of_ble_eq_true rfl) rfl rfl (st S 0 17 ((S 0 17) - v1)) (sM_0_17 _ _ _ _ _ _) (fun S2 eS2 => ?_)
      replace h := h S2 eS2
      exact j_vret C 104 rfl h
    · replace h := ite_f h c1
      refine j_aload_n C 6 11 rfl rfl rfl 0 rfl ?_
      refine j_get C 7 14 rfl rfl fg_M_32 0 rfl rfl ?_
      refine j_iload_n C 8 15 rfl rfl rfl 2 rfl ?_
      refine j_iload_n C 9 16 rfl rfl rfl 1 rfl ?_
      refine j_isub C 10 17 rfl rfl ?_
      refine j_aload_n C 11 18 rfl rfl rfl 0 rfl ?_
      refine j_get C 12 21 rfl rfl fg_M_32 0 rfl rfl ?_
      refine j_iload_n C 13 22 rfl rfl rfl 2 rfl ?_
      refine j_iald C 14 23 rfl rfl 7 0 rfl rfl h.1 ?_
      replace h := h.2
      refine j_iast C 15 24 rfl rfl 7 0 rfl rfl h.1 (st S 7 (v2 - v1 : Int32).toNatClampNeg (S 7 v2.toNatClampNeg)) (sM_7 _ _ _ _ _ _ _) (fun S3 eS3 => ?_)
      replace h := h.2
      replace h := h S3 eS3
      refine j_aload_n C 16 25 rfl rfl rfl 0 rfl ?_
      refine j_get C 17 28 rfl rfl fg_M_35 0 rfl rfl ?_
      refine j_iload_n C 18 29 rfl rfl rfl 2 rfl ?_
      refine j_iload_n C 19 30 rfl rfl rfl 1 rfl ?_
      refine j_isub C 20 31 rfl rfl ?_
      refine j_aload_n C 21 32 rfl rfl rfl 0 rfl ?_
      refine j_get C 22 35 rfl rfl fg_M_35 0 rfl rfl ?_
      refine j_iload_n C 23 36 rfl rfl rfl 2 rfl ?_
      refine j_iald C 24 37 rfl rfl 8 0 rfl rfl h.1 ?_
      replace h := h.2
      refine j_iast C 25 38 rfl rfl 8 0 rfl rfl h.1 (st S3 8 (v2 - v1 : Int32).toNatClampNeg (S3 8 v2.toNatClampNeg)) (sM_8 _ _ _ _ _ _ _) (fun S4 eS4 => ?_)
      replace h := h.2
      replace h := h S4 eS4
      refine j_aload_n C 26 39 rfl rfl rfl 0 rfl ?_
      refine j_get C 27 42 rfl rfl fg_M_38 0 rfl rfl ?_
      refine j_iload_n C 28 43 rfl rfl rfl 2 rfl ?_
      refine j_iload_n C 29 44 rfl rfl rfl 1 rfl ?_
      refine j_isub C 30 45 rfl rfl ?_
      refine j_aload_n C 31 46 rfl rfl rfl 0 rfl ?_
      refine j_get C 32 49 rfl rfl fg_M_38 0 rfl rfl ?_
      refine j_iload_n C 33 50 rfl rfl rfl 2 rfl ?_
      refine j_iald C 34 51 rfl rfl 9 0 rfl rfl h.1 ?_
      replace h := h.2
      refine j_iast C 35 52 rfl rfl 9 0 rfl rfl h.1 (st S4 9 (v2 - v1 : Int32).toNatClampNeg (S4 9 v2.toNatClampNeg)) (sM_9 _ _ _ _ _ _ _) (fun S5 eS5 => ?_)
      replace h := h.2
      replace h := h S5 eS5
      refine j_aload_n C 36 53 rfl rfl rfl 0 rfl ?_
      refine j_get C 37 56 rfl rfl fg_M_41 0 rfl rfl ?_
      refine j_iload_n C 38 57 rfl rfl rfl 2 rfl ?_
      refine j_iload_n C 39 58 rfl rfl rfl 1 rfl ?_
      refine j_isub C 40 59 rfl rfl ?_
      refine j_aload_n C 41 60 rfl rfl rfl 0 rfl ?_
      refine j_get C 42 63 rfl rfl fg_M_41 0 rfl rfl ?_
      refine j_iload_n C 43 64 rfl rfl rfl 2 rfl ?_
      refine j_iald C 44 65 rfl rfl 10 0 rfl rfl h.1 ?_
      replace h := h.2
      refine j_iast C 45 66 rfl rfl 10 0 rfl rfl h.1 (st S5 10 (v2 - v1 : Int32).toNatClampNeg (S5 10 v2.toNatClampNeg)) (sM_10 _ _ _ _ _ _ _) (fun S6 eS6 => ?_)
      replace h := h.2
      replace h := h S6 eS6
      refine j_aload_n C 46 67 rfl rfl rfl 0 rfl ?_
      refine j_get C 47 70 rfl rfl fg_M_44 0 rfl rfl ?_
      refine j_iload_n C 48 71 rfl rfl rfl 2 rfl ?_
      refine j_iload_n C 49 72 rfl rfl rfl 1 rfl ?_
      refine j_isub C 50 73 rfl rfl ?_
      refine j_aload_n C 51 74 rfl rfl rfl 0 rfl ?_
      refine j_get C 52 77 rfl rfl fg_M_44 0 rfl rfl ?_
      refine j_iload_n C 53 78 rfl rfl rfl 2 rfl ?_
      refine j_iald C 54 79 rfl rfl 11 0 rfl rfl h.1 ?_
      replace h := h.2
      refine j_iast C 55 80 rfl rfl 11 0 rfl rfl h.1 (st S6 11 (v2 - v1 : Int32).toNatClampNeg (S6 11 v2.toNatClampNeg)) (sM_11 _ _ _ _ _ _ _) (fun S7 eS7 => ?_)
      replace h := h.2
      replace h := h S7 eS7
      refine j_aload_n C 56 81 rfl rfl rfl 0 rfl ?_
      refine j_get C 57 84 rfl rfl fg_M_47 0 rfl rfl ?_
      refine j_iload_n C 58 85 rfl rfl rfl 2 rfl ?_
      refine j_iload_n C 59 86 rfl rfl rfl 1 rfl ?_
      refine j_isub C 60 87 rfl rfl ?_
      refine j_aload_n C 61 88 rfl rfl rfl 0 rfl ?_
      refine j_get C 62 91 rfl rfl fg_M_47 0 rfl rfl ?_
      refine j_iload_n C 63 92 rfl rfl rfl 2 rfl ?_
      refine j_iald C 64 93 rfl rfl 12 0 rfl rfl h.1 ?_
      replace h := h.2
      refine j_iast C 65 94 rfl rfl 12 0 rfl rfl h.1 (st S7 12 (v2 - v1 : Int32).toNatClampNeg (S7 12 v2.toNatClampNeg)) (sM_12 _ _ _ _ _ _ _) (fun S8 eS8 => ?_)
      replace h := h.2
      replace h := h S8 eS8
      refine j_aload_n C 66 95 rfl rfl rfl 0 rfl ?_
      refine j_get C 67 98 rfl rfl fg_M_50 0 rfl rfl ?_
      refine j_iload_n C 68 99 rfl rfl rfl 2 rfl ?_
      refine j_iload_n C 69 100 rfl rfl rfl 1 rfl ?_
      refine j_isub C 70 101 rfl rfl ?_
      refine j_aload_n C 71 102 rfl rfl rfl 0 rfl ?_
      refine j_get C 72 105 rfl rfl fg_M_50 0 rfl rfl ?_
      refine j_iload_n C 73 106 rfl rfl rfl 2 rfl ?_
      refine j_iald C 74 107 rfl rfl 13 0 rfl rfl h.1 ?_
      replace h := h.2
      refine j_iast C 75 108 rfl rfl 13 0 rfl rfl h.1 (st S8 13 (v2 - v1 : Int32).toNatClampNeg (S8 13 v2.toNatClampNeg)) (sM_13 _ _ _ _ _ _ _) (fun S9 eS9 => ?_)
      replace h := h.2
      replace h := h S9 eS9
      refine j_aload_n C 76 109 rfl rfl rfl 0 rfl ?_
      refine j_get C 77 112 rfl rfl fg_M_53 0 rfl rfl ?_
      refine j_iload_n C 78 113 rfl rfl rfl 2 rfl ?_
      refine j_iload_n C 79 114 rfl rfl rfl 1 rfl ?_
      refine j_isub C 80 115 rfl rfl ?_
      refine j_aload_n C 81 116 rfl rfl rfl 0 rfl ?_
      refine j_get C 82 119 rfl rfl fg_M_53 0 rfl rfl ?_
      refine j_iload_n C 83 120 rfl rfl rfl 2 rfl ?_
      refine j_iald C 84 121 rfl rfl 14 0 rfl rfl h.1 ?_
      replace h := h.2
      refine j_iast C 85 122 rfl rfl 14 0 rfl rfl h.1 (st S9 14 (v2 - v1 : Int32).toNatClampNeg (S9 14 v2.toNatClampNeg)) (sM_14 _ _ _ _ _ _ _) (fun S10 eS10 => ?_)
      replace h := h.2
      replace h := h S10 eS10
      refine j_aload_n C 86 123 rfl rfl rfl 0 rfl ?_
      refine j_get C 87 126 rfl rfl fg_M_56 0 rfl rfl ?_
      refine j_iload_n C 88 127 rfl rfl rfl 2 rfl ?_
      refine j_iload_n C 89 128 rfl rfl rfl 1 rfl ?_
      refine j_isub C 90 129 rfl rfl ?_
      refine j_aload_n C 91 130 rfl rfl rfl 0 rfl ?_
      refine j_get C 92 133 rfl rfl fg_M_56 0 rfl rfl ?_
      refine j_iload_n C 93 134 rfl rfl rfl 2 rfl ?_
      refine j_zald C 94 135 rfl rfl 15 1 rfl rfl h.1 ?_
      replace h := h.2
      refine j_zast C 95 136 rfl rfl 15 1 rfl rfl h.1 (st S10 15 (v2 - v1 : Int32).toNatClampNeg (vp_nar .boolean (S10 15 v2.toNatClampNeg))) (sM_15 _ _ _ _ _ _ _) (fun S11 eS11 => ?_)
      replace h := h.2
      replace h := h S11 eS11
      refine j_iinc C 96 139 [(2, .int (v2 + 1)), (0, .ref h0), (1, .int v1)] rfl rfl 2 rfl kI_1 (by decide) rfl ?_
      refine j_goto C 97 2 rfl (by decide) ?_
      refine j_sub [1, 2, 0] rfl ?_
      exact hKH S11 v1 (v2 + 1) h
def wp_M_shift (S : St) (p1 : Int32) (K : St → Prop) : Prop := (∃ f, wp_M_shift_2 K f S p1 p1)
set_option maxHeartbeats 4000000 in
set_option maxRecDepth 100000 in
theorem c_M_shift (l : Launch) (D : va_G) (h0 : Nat) (a : Nat → Nat) (cI cB : ClassId) (S : St) (p1 : Int32) (K : St → Prop) (h : wp_M_shift S p1 K) (sz : Nat) : Met l y_M_shift (Cond.code y_M_shift b_M_shift 3 none :: gw) rm_M_shift (va_Pc [.ref h0, .int p1] (PK D clK (tysK cI cB) (wsM h0 a cI cB S) sz)) (va_Qv K (fun u t => QK D clK (tysK cI cB) (va_A (wsM h0 a cI cB S) sz) (wsM h0 a cI cB u) t) (va_A (wsM h0 a cI cB S) sz)) 0 0 (va_A (wsM h0 a cI cB S) sz) := by
  refine met_of (rm := rm_M_shift) (pr := pr_M_shift) (Qc := fun A => va_Qv K (fun u t => QK D clK (tysK cI cB) A (wsM h0 a cI cB u) t) A) (by decide +kernel) dm_M_shift (Nat.le_of_ble_eq_true rfl) (fun p e s m args below meth c A C => ?_) sz
  unfold wp_M_shift at h
  show J p l e rm_M_shift s m args below meth c 3 D clK A 0 0 _ (wsM h0 a cI cB S) [(0, .ref h0), (1, .int p1)] 0 []
  refine j_iload_n C 0 1 rfl rfl rfl 1 rfl ?_
  refine j_istore_n C 1 2 [(2, .int p1), (0, .ref h0), (1, .int p1)] rfl rfl rfl (by decide) rfl ?_
  refine j_sub [1, 2, 0] rfl ?_
  obtain ⟨f, h⟩ := h
  exact L_M_shift_2 C f S p1 p1 h
abbrev rm_M_run : Room := { frames := 6, cells := 0, slots := 0, locals := 137 }
def wp_M_run_11 (K : Int32 → St → Prop) (S : St)  : Prop := K (-1) S
set_option maxHeartbeats 4000000 in
set_option maxRecDepth 100000 in
theorem L_M_run_11 {p : Program} {l : Launch} {e : Env} {s : State} {m : MethodId} {args : Array Value} {below : List Frame} {meth : Method} {c : Code} {A : Nat → Prop} {D : va_G} {h0 : Nat} {a : Nat → Nat} {cI cB : ClassId} {K : Int32 → St → Prop} (C : CX p rm_M_run s m args meth c b_M_run 4 "PipelinedCoreModel" (some .int) pr_M_run D clK (tysK cI cB) A) (S : St)  (h : wp_M_run_11 K S) : J p l e rm_M_run s m args below meth c 4 D clK A 0 0 (MQ below (va_Qi K (fun u t => QK D clK (tysK cI cB) A (wsM h0 a cI cB u) t) A) args s 0 0 A) (wsM h0 a cI cB S) [] 11 [] := by
  unfold wp_M_run_11 at h
  refine j_iconst C 6 12 rfl rfl kI_m1 ?_
  exact j_iret C 7 rfl h
def wp_M_run_83 (K : Int32 → St → Prop) (S : St) (v3 : Int32) : Prop := wp_M_shift S v3 (fun S15 => (K v3 S15))
set_option maxHeartbeats 4000000 in
set_option maxRecDepth 100000 in
theorem L_M_run_83 {p : Program} {l : Launch} {e : Env} {s : State} {m : MethodId} {args : Array Value} {below : List Frame} {meth : Method} {c : Code} {A : Nat → Prop} {D : va_G} {h0 : Nat} {a : Nat → Nat} {cI cB : ClassId} {K : Int32 → St → Prop} (C : CX p rm_M_run s m args meth c b_M_run 4 "PipelinedCoreModel" (some .int) pr_M_run D clK (tysK cI cB) A) (S : St) (v3 : Int32) (h : wp_M_run_83 K S v3) : J p l e rm_M_run s m args below meth c 4 D clK A 0 0 (MQ below (va_Qi K (fun u t => QK D clK (tysK cI cB) A (wsM h0 a cI cB u) t) A) args s 0 0 A) (wsM h0 a cI cB S) [(0, .ref h0), (3, .int v3)] 83 [] := by
  unfold wp_M_run_83 at h
  refine j_aload_n C 46 84 rfl rfl rfl 0 rfl ?_
  refine j_iload_n C 47 85 rfl rfl rfl 1 rfl ?_
  refine j_callVv C 48 88 rfl rfl w955 m_M_shift (As := [.int v3]) (c_M_shift l D h0 a cI cB S v3 _ h) ⟨rfl, rfl⟩ ⟨Nat.le_of_ble_eq_true rfl, Nat.le_of_ble_eq_true rfl⟩ 0 rfl rfl rfl ⟨Nat.le_of_ble_eq_true rfl, Nat.le_of_ble_eq_true rfl⟩ (Nat.le_of_ble_eq_true rfl) rfl (fun S15 h => ?_)
  refine j_iload_n C 49 89 rfl rfl rfl 1 rfl ?_
  exact j_iret C 50 rfl h
def wp_M_run_51 (K : Int32 → St → Prop) : Nat → St → Int32 → Prop
  | 0 => fun _ _ => False
  | f + 1 => fun S v3 => (fun KH : St → Int32 → Prop => (if (S 0 17) ≤ v3 then ((wp_M_run_83 K S v3)) else (vp_in v3 160 ∧ ((if (S 0 1) < (S 10 v3.toNatClampNeg) then ((wp_M_run_83 K S v3)) else (wp_M_end S v3 (fun S13 => ((KH S13 (v3 + 1)))))))))) (wp_M_run_51 K f)
set_option maxHeartbeats 4000000 in
set_option maxRecDepth 100000 in
theorem L_M_run_51 {p : Program} {l : Launch} {e : Env} {s : State} {m : MethodId} {args : Array Value} {below : List Frame} {meth : Method} {c : Code} {A : Nat → Prop} {D : va_G} {h0 : Nat} {a : Nat → Nat} {cI cB : ClassId} {K : Int32 → St → Prop} (C : CX p rm_M_run s m args meth c b_M_run 4 "PipelinedCoreModel" (some .int) pr_M_run D clK (tysK cI cB) A) (f : Nat) : ∀ (S : St) (v3 : Int32), wp_M_run_51 K f S v3 → J p l e rm_M_run s m args below meth c 4 D clK A 0 0 (MQ below (va_Qi K (fun u t => QK D clK (tysK cI cB) A (wsM h0 a cI cB u) t) A) args s 0 0 A) (wsM h0 a cI cB S) [(0, .ref h0), (3, .int v3)] 51 [] := by
  induction f with
  | zero => exact fun _ _ h => h.elim
  | succ f ih =>
    intro S v3 h
    have hKH := ih
    rw [wp_M_run_51] at h
    generalize wp_M_run_51 K f = KH at h hKH
    try dsimp only at h
    refine j_iload_n C 30 52 rfl rfl rfl 1 rfl ?_
    refine j_aload_n C 31 53 rfl rfl rfl 0 rfl ?_
    refine j_get C 32 56 rfl rfl fg_M_296 0 rfl rfl ?_
    refine j_icmp_ge C 33 83 59 rfl (by decide) rfl (fun c11 => ?_) (fun c11 => ?_)
    · replace h := ite_t h c11
      exact L_M_run_83 C S v3 h
    · replace h := ite_f h c11
      refine j_aload_n C 34 60 rfl rfl rfl 0 rfl ?_
      refine j_get C 35 63 rfl rfl fg_M_41 0 rfl rfl ?_
      refine j_iload_n C 36 64 rfl rfl rfl 1 rfl ?_
      refine j_iald C 37 65 rfl rfl 10 0 rfl rfl h.1 ?_
      replace h := h.2
      refine j_aload_n C 38 66 rfl rfl rfl 0 rfl ?_
      refine j_get C 39 69 rfl rfl fg_M_96 0 rfl rfl ?_
      refine j_icmp_gt C 40 83 72 rfl (by decide) rfl (fun c12 => ?_) (fun c12 => ?_)
      · replace h := ite_t h c12
        exact L_M_run_83 C S v3 h
      · replace h := ite_f h c12
        refine j_aload_n C 41 73 rfl rfl rfl 0 rfl ?_
        refine j_iload_n C 42 74 rfl rfl rfl 1 rfl ?_
        refine j_callVv C 43 77 rfl rfl w951 m_M_end (As := [.int v3]) (c_M_end l D h0 a cI cB S v3 _ h) ⟨rfl, rfl⟩ ⟨Nat.le_of_ble_eq_true rfl, Nat.le_of_ble_eq_true rfl⟩ 0 rfl rfl rfl ⟨Nat.le_of_ble_eq_true rfl, Nat.le_of_ble_eq_true rfl⟩ (Nat.le_of_ble_eq_true rfl) rfl (fun S13 h => ?_)
        refine j_iinc C 44 80 [(3, .int (v3 + 1)), (0, .ref h0)] rfl rfl 1 rfl kI_1 (by decide) rfl ?_
        refine j_goto C 45 51 rfl (by decide) ?_
        refine j_sub [1, 0] rfl ?_
        exact hKH S13 (v3 + 1) h
def wp_M_run_28 (K : Int32 → St → Prop) : Nat → St → Int32 → Prop
  | 0 => fun _ _ => False
  | f + 1 => fun S v2 => (fun KH : St → Int32 → Prop => (if (S 0 1) < v2 then ((∃ f, wp_M_run_51 K f S 0)) else (wp_M_perform S v2 (fun S7 => (wp_M_beginning S7 (fun r10 S9 => ((KH S9 r10)))))))) (wp_M_run_28 K f)
set_option maxHeartbeats 4000000 in
set_option maxRecDepth 100000 in
theorem L_M_run_28 {p : Program} {l : Launch} {e : Env} {s : State} {m : MethodId} {args : Array Value} {below : List Frame} {meth : Method} {c : Code} {A : Nat → Prop} {D : va_G} {h0 : Nat} {a : Nat → Nat} {cI cB : ClassId} {K : Int32 → St → Prop} (C : CX p rm_M_run s m args meth c b_M_run 4 "PipelinedCoreModel" (some .int) pr_M_run D clK (tysK cI cB) A) (f : Nat) : ∀ (S : St) (v2 : Int32), wp_M_run_28 K f S v2 → J p l e rm_M_run s m args below meth c 4 D clK A 0 0 (MQ below (va_Qi K (fun u t => QK D clK (tysK cI cB) A (wsM h0 a cI cB u) t) A) args s 0 0 A) (wsM h0 a cI cB S) [(0, .ref h0), (2, .int v2)] 28 [] := by
  induction f with
  | zero => exact fun _ _ h => h.elim
  | succ f ih =>
    intro S v2 h
    have hKH := ih
    rw [wp_M_run_28] at h
    generalize wp_M_run_28 K f = KH at h hKH
    try dsimp only at h
    refine j_iload_n C 17 29 rfl rfl rfl 1 rfl ?_
    refine j_aload_n C 18 30 rfl rfl rfl 0 rfl ?_
    refine j_get C 19 33 rfl rfl fg_M_96 0 rfl rfl ?_
    refine j_icmp_gt C 20 49 36 rfl (by decide) rfl (fun c6 => ?_) (fun c6 => ?_)
    · replace h := ite_t h c6
      refine j_iconst C 28 50 rfl rfl kI_0 ?_
      refine j_istore_n C 29 51 [(3, .int 0), (0, .ref h0), (2, .int v2)] rfl rfl rfl (by decide) rfl ?_
      refine j_sub [1, 0] rfl ?_
      obtain ⟨f, h⟩ := h
      exact L_M_run_51 C f S 0 h
    · replace h := ite_f h c6
      refine j_aload_n C 21 37 rfl rfl rfl 0 rfl ?_
      refine j_iload_n C 22 38 rfl rfl rfl 1 rfl ?_
      refine j_callVv C 23 41 rfl rfl w830 m_M_perform (As := [.int v2]) (c_M_perform l D h0 a cI cB S v2 _ h) ⟨rfl, rfl⟩ ⟨Nat.le_of_ble_eq_true rfl, Nat.le_of_ble_eq_true rfl⟩ 0 rfl rfl rfl ⟨Nat.le_of_ble_eq_true rfl, Nat.le_of_ble_eq_true rfl⟩ (Nat.le_of_ble_eq_true rfl) rfl (fun S7 h => ?_)
      refine j_aload_n C 24 42 rfl rfl rfl 0 rfl ?_
      refine j_callVi C 25 45 rfl rfl w802 m_M_beginning (As := []) (c_M_beginning l D h0 a cI cB S7 _ h) ⟨rfl, rfl⟩ ⟨Nat.le_of_ble_eq_true rfl, Nat.le_of_ble_eq_true rfl⟩ 0 rfl rfl rfl ⟨Nat.le_of_ble_eq_true rfl, Nat.le_of_ble_eq_true rfl⟩ (Nat.le_of_ble_eq_true rfl) rfl (fun r10 S9 h => ?_)
      refine j_istore_n C 26 46 [(2, .int r10), (0, .ref h0)] rfl rfl rfl (by decide) rfl ?_
      refine j_goto C 27 28 rfl (by decide) ?_
      refine j_sub [1, 0] rfl ?_
      exact hKH S9 r10 h
def wp_M_run (S : St) (p1 : Int32) (K : Int32 → St → Prop) : Prop := (if p1 < 1 then ((wp_M_run_11 K S)) else ((if p1 ≤ 100 then (∀ S3 : St, S3 = st S 0 1 ((S 0 1) + p1) → (wp_M_beginning S3 (fun r5 S4 => ((∃ f, wp_M_run_28 K f S4 r5))))) else ((wp_M_run_11 K S)))))
set_option maxHeartbeats 4000000 in
set_option maxRecDepth 100000 in
theorem c_M_run (l : Launch) (D : va_G) (h0 : Nat) (a : Nat → Nat) (cI cB : ClassId) (S : St) (p1 : Int32) (K : Int32 → St → Prop) (h : wp_M_run S p1 K) (sz : Nat) : Met l y_M_run (Cond.code y_M_run b_M_run 4 (some .int) :: gw) rm_M_run (va_Pc [.ref h0, .int p1] (PK D clK (tysK cI cB) (wsM h0 a cI cB S) sz)) (va_Qi K (fun u t => QK D clK (tysK cI cB) (va_A (wsM h0 a cI cB S) sz) (wsM h0 a cI cB u) t) (va_A (wsM h0 a cI cB S) sz)) 0 0 (va_A (wsM h0 a cI cB S) sz) := by
  refine met_of (rm := rm_M_run) (pr := pr_M_run) (Qc := fun A => va_Qi K (fun u t => QK D clK (tysK cI cB) A (wsM h0 a cI cB u) t) A) (by decide +kernel) dm_M_run (Nat.le_of_ble_eq_true rfl) (fun p e s m args below meth c A C => ?_) sz
  unfold wp_M_run at h
  show J p l e rm_M_run s m args below meth c 4 D clK A 0 0 _ (wsM h0 a cI cB S) [(0, .ref h0), (1, .int p1)] 0 []
  refine j_iload_n C 0 1 rfl rfl rfl 1 rfl ?_
  refine j_iconst C 1 2 rfl rfl kI_1 ?_
  refine j_icmp_lt C 2 11 5 rfl (by decide) rfl (fun c1 => ?_) (fun c1 => ?_)
  · replace h := ite_t h c1
    refine j_sub [] rfl ?_
    exact L_M_run_11 C S h
  · replace h := ite_f h c1
    refine j_iload_n C 3 6 rfl rfl rfl 1 rfl ?_
    refine j_bipush C 4 8 rfl rfl kB_100 ?_
    refine j_icmp_le C 5 13 11 rfl (by decide) rfl (fun c2 => ?_) (fun c2 => ?_)
    · replace h := ite_t h c2
      refine j_aload_n C 8 14 rfl rfl rfl 0 rfl ?_
      refine j_dup C 9 15 rfl rfl rfl ?_
      refine j_get C 10 18 rfl rfl fg_M_96 0 rfl rfl ?_
      refine j_iload_n C 11 19 rfl rfl rfl 1 rfl ?_
      refine j_iadd C 12 20 rfl rfl ?_
      refine j_put C 13 23 rfl rfl fp_M_96 0 rfl (Nat.le_of_ble_eq_true rfl) rfl rfl (st S 0 1 ((S 0 1) + p1)) (sM_0_1 _ _ _ _ _ _) (fun S3 eS3 => ?_)
      replace h := h S3 eS3
      refine j_aload_n C 14 24 rfl rfl rfl 0 rfl ?_
      refine j_callVi C 15 27 rfl rfl w802 m_M_beginning (As := []) (c_M_beginning l D h0 a cI cB S3 _ h) ⟨rfl, rfl⟩ ⟨Nat.le_of_ble_eq_true rfl, Nat.le_of_ble_eq_true rfl⟩ 0 rfl rfl rfl ⟨Nat.le_of_ble_eq_true rfl, Nat.le_of_ble_eq_true rfl⟩ (Nat.le_of_ble_eq_true rfl) rfl (fun r5 S4 h => ?_)
      refine j_istore_n C 16 28 [(2, .int r5), (0, .ref h0), (1, .int p1)] rfl rfl rfl (by decide) rfl ?_
      refine j_sub [1, 0] rfl ?_
      obtain ⟨f, h⟩ := h
      exact L_M_run_28 C f S4 r5 h
    · replace h := ite_f h c2
      refine j_sub [] rfl ?_
      exact L_M_run_11 C S h
abbrev rm_M_reg : Room := { frames := 0, cells := 0, slots := 0, locals := 0 }
def wp_M_reg_20 (K : Int32 → St → Prop) (S : St) (k0 : Int32) : Prop := K k0 S
set_option maxHeartbeats 4000000 in
set_option maxRecDepth 100000 in
theorem L_M_reg_20 {p : Program} {l : Launch} {e : Env} {s : State} {m : MethodId} {args : Array Value} {below : List Frame} {meth : Method} {c : Code} {A : Nat → Prop} {D : va_G} {h0 : Nat} {a : Nat → Nat} {cI cB : ClassId} {K : Int32 → St → Prop} (C : CX p rm_M_reg s m args meth c b_M_reg 2 "PipelinedCoreModel" (some .int) pr_M_reg D clK (tysK cI cB) A) (S : St) (k0 : Int32) (h : wp_M_reg_20 K S k0) : J p l e rm_M_reg s m args below meth c 2 D clK A 0 0 (MQ below (va_Qi K (fun u t => QK D clK (tysK cI cB) A (wsM h0 a cI cB u) t) A) args s 0 0 A) (wsM h0 a cI cB S) [] 20 [.int k0] := by
  unfold wp_M_reg_20 at h
  exact j_iret C 11 rfl h
def wp_M_reg_19 (K : Int32 → St → Prop) (S : St)  : Prop := (wp_M_reg_20 K S 0)
set_option maxHeartbeats 4000000 in
set_option maxRecDepth 100000 in
theorem L_M_reg_19 {p : Program} {l : Launch} {e : Env} {s : State} {m : MethodId} {args : Array Value} {below : List Frame} {meth : Method} {c : Code} {A : Nat → Prop} {D : va_G} {h0 : Nat} {a : Nat → Nat} {cI cB : ClassId} {K : Int32 → St → Prop} (C : CX p rm_M_reg s m args meth c b_M_reg 2 "PipelinedCoreModel" (some .int) pr_M_reg D clK (tysK cI cB) A) (S : St)  (h : wp_M_reg_19 K S) : J p l e rm_M_reg s m args below meth c 2 D clK A 0 0 (MQ below (va_Qi K (fun u t => QK D clK (tysK cI cB) A (wsM h0 a cI cB u) t) A) args s 0 0 A) (wsM h0 a cI cB S) [] 19 [] := by
  unfold wp_M_reg_19 at h
  refine j_iconst C 10 20 rfl rfl kI_0 ?_
  exact L_M_reg_20 C S 0 h
def wp_M_reg (S : St) (p1 : Int32) (K : Int32 → St → Prop) : Prop := (if p1 < 0 then ((wp_M_reg_19 K S)) else ((if (32 : Int32) ≤ p1 then ((wp_M_reg_19 K S)) else (vp_in p1 32 ∧ ((wp_M_reg_20 K S (S 5 p1.toNatClampNeg)))))))
set_option maxHeartbeats 4000000 in
set_option maxRecDepth 100000 in
theorem c_M_reg (l : Launch) (D : va_G) (h0 : Nat) (a : Nat → Nat) (cI cB : ClassId) (S : St) (p1 : Int32) (K : Int32 → St → Prop) (h : wp_M_reg S p1 K) (sz : Nat) : Met l y_M_reg (Cond.code y_M_reg b_M_reg 2 (some .int) :: gw) rm_M_reg (va_Pc [.ref h0, .int p1] (PK D clK (tysK cI cB) (wsM h0 a cI cB S) sz)) (va_Qi K (fun u t => QK D clK (tysK cI cB) (va_A (wsM h0 a cI cB S) sz) (wsM h0 a cI cB u) t) (va_A (wsM h0 a cI cB S) sz)) 0 0 (va_A (wsM h0 a cI cB S) sz) := by
  refine met_of (rm := rm_M_reg) (pr := pr_M_reg) (Qc := fun A => va_Qi K (fun u t => QK D clK (tysK cI cB) A (wsM h0 a cI cB u) t) A) (by decide +kernel) dm_M_reg (Nat.le_of_ble_eq_true rfl) (fun p e s m args below meth c A C => ?_) sz
  unfold wp_M_reg at h
  show J p l e rm_M_reg s m args below meth c 2 D clK A 0 0 _ (wsM h0 a cI cB S) [(0, .ref h0), (1, .int p1)] 0 []
  refine j_iload_n C 0 1 rfl rfl rfl 1 rfl ?_
  refine j_if_lt C 1 19 4 rfl (by decide) rfl (fun c1 => ?_) (fun c1 => ?_)
  · replace h := ite_t h c1
    refine j_sub [] rfl ?_
    exact L_M_reg_19 C S h
  · replace h := ite_f h c1
    refine j_iload_n C 2 5 rfl rfl rfl 1 rfl ?_
    refine j_bipush C 3 7 rfl rfl kB_32 ?_
    refine j_icmp_ge C 4 19 10 rfl (by decide) rfl (fun c2 => ?_) (fun c2 => ?_)
    · replace h := ite_t h c2
      refine j_sub [] rfl ?_
      exact L_M_reg_19 C S h
    · replace h := ite_f h c2
      refine j_aload_n C 5 11 rfl rfl rfl 0 rfl ?_
      refine j_get C 6 14 rfl rfl fg_M_22 0 rfl rfl ?_
      refine j_iload_n C 7 15 rfl rfl rfl 1 rfl ?_
      refine j_iald C 8 16 rfl rfl 5 0 rfl rfl h.1 ?_
      replace h := h.2
      refine j_goto C 9 20 rfl (by decide) ?_
      refine j_sub [] rfl ?_
      exact L_M_reg_20 C S (S 5 p1.toNatClampNeg) h
abbrev rm_M_control : Room := { frames := 1, cells := 0, slots := 0, locals := 20 }
def wp_M_control_19 (K : Int32 → St → Prop) (S : St) (k0 : Int32) : Prop := K k0 S
set_option maxHeartbeats 4000000 in
set_option maxRecDepth 100000 in
theorem L_M_control_19 {p : Program} {l : Launch} {e : Env} {s : State} {m : MethodId} {args : Array Value} {below : List Frame} {meth : Method} {c : Code} {A : Nat → Prop} {D : va_G} {h0 : Nat} {a : Nat → Nat} {cI cB : ClassId} {K : Int32 → St → Prop} (C : CX p rm_M_control s m args meth c b_M_control 3 "PipelinedCoreModel" (some .int) pr_M_control D clK (tysK cI cB) A) (S : St) (k0 : Int32) (h : wp_M_control_19 K S k0) : J p l e rm_M_control s m args below meth c 3 D clK A 0 0 (MQ below (va_Qi K (fun u t => QK D clK (tysK cI cB) A (wsM h0 a cI cB u) t) A) args s 0 0 A) (wsM h0 a cI cB S) [] 19 [.int k0] := by
  unfold wp_M_control_19 at h
  exact j_iret C 11 rfl h
def wp_M_control (S : St) (p1 : Int32) (K : Int32 → St → Prop) : Prop := wp_M_placeOf S p1 (fun r2 S1 => ((if (0 : Int32) ≤ r2 then (vp_in r2 8 ∧ ((wp_M_control_19 K S1 (S1 4 r2.toNatClampNeg)))) else ((wp_M_control_19 K S1 0)))))
set_option maxHeartbeats 4000000 in
set_option maxRecDepth 100000 in
theorem c_M_control (l : Launch) (D : va_G) (h0 : Nat) (a : Nat → Nat) (cI cB : ClassId) (S : St) (p1 : Int32) (K : Int32 → St → Prop) (h : wp_M_control S p1 K) (sz : Nat) : Met l y_M_control (Cond.code y_M_control b_M_control 3 (some .int) :: gw) rm_M_control (va_Pc [.ref h0, .int p1] (PK D clK (tysK cI cB) (wsM h0 a cI cB S) sz)) (va_Qi K (fun u t => QK D clK (tysK cI cB) (va_A (wsM h0 a cI cB S) sz) (wsM h0 a cI cB u) t) (va_A (wsM h0 a cI cB S) sz)) 0 0 (va_A (wsM h0 a cI cB S) sz) := by
  refine met_of (rm := rm_M_control) (pr := pr_M_control) (Qc := fun A => va_Qi K (fun u t => QK D clK (tysK cI cB) A (wsM h0 a cI cB u) t) A) (by decide +kernel) dm_M_control (Nat.le_of_ble_eq_true rfl) (fun p e s m args below meth c A C => ?_) sz
  unfold wp_M_control at h
  show J p l e rm_M_control s m args below meth c 3 D clK A 0 0 _ (wsM h0 a cI cB S) [(0, .ref h0), (1, .int p1)] 0 []
  refine j_iload_n C 0 1 rfl rfl rfl 1 rfl ?_
  refine j_callSi C 1 4 rfl rfl w933 m_M_placeOf (As := [.int p1]) (c_M_placeOf l D h0 a cI cB S p1 _ h) ⟨rfl, rfl⟩ ⟨Nat.le_of_ble_eq_true rfl, Nat.le_of_ble_eq_true rfl⟩ rfl ⟨Nat.le_of_ble_eq_true rfl, Nat.le_of_ble_eq_true rfl⟩ (Nat.le_of_ble_eq_true rfl) rfl (fun r2 S1 h => ?_)
  refine j_istore_n C 2 5 [(2, .int r2), (0, .ref h0), (1, .int p1)] rfl rfl rfl (by decide) rfl ?_
  refine j_iload_n C 3 6 rfl rfl rfl 0 rfl ?_
  refine j_if_ge C 4 13 9 rfl (by decide) rfl (fun c3 => ?_) (fun c3 => ?_)
  · replace h := ite_t h c3
    refine j_aload_n C 7 14 rfl rfl rfl 1 rfl ?_
    refine j_get C 8 17 rfl rfl fg_M_19 0 rfl rfl ?_
    refine j_iload_n C 9 18 rfl rfl rfl 0 rfl ?_
    refine j_iald C 10 19 rfl rfl 4 0 rfl rfl h.1 ?_
    replace h := h.2
    refine j_sub [] rfl ?_
    exact L_M_control_19 C S1 (S1 4 r2.toNatClampNeg) h
  · replace h := ite_f h c3
    refine j_iconst C 5 10 rfl rfl kI_0 ?_
    refine j_goto C 6 19 rfl (by decide) ?_
    refine j_sub [] rfl ?_
    exact L_M_control_19 C S1 0 h
abbrev rm_M_word : Room := { frames := 1, cells := 0, slots := 0, locals := 20 }
def wp_M_word_29 (K : Int32 → St → Prop) (S : St) (k0 : Int32) : Prop := K k0 S
set_option maxHeartbeats 4000000 in
set_option maxRecDepth 100000 in
theorem L_M_word_29 {p : Program} {l : Launch} {e : Env} {s : State} {m : MethodId} {args : Array Value} {below : List Frame} {meth : Method} {c : Code} {A : Nat → Prop} {D : va_G} {h0 : Nat} {a : Nat → Nat} {cI cB : ClassId} {K : Int32 → St → Prop} (C : CX p rm_M_word s m args meth c b_M_word 2 "PipelinedCoreModel" (some .int) pr_M_word D clK (tysK cI cB) A) (S : St) (k0 : Int32) (h : wp_M_word_29 K S k0) : J p l e rm_M_word s m args below meth c 2 D clK A 0 0 (MQ below (va_Qi K (fun u t => QK D clK (tysK cI cB) A (wsM h0 a cI cB u) t) A) args s 0 0 A) (wsM h0 a cI cB S) [] 29 [.int k0] := by
  unfold wp_M_word_29 at h
  exact j_iret C 17 rfl h
def wp_M_word_28 (K : Int32 → St → Prop) (S : St)  : Prop := (wp_M_word_29 K S 0)
set_option maxHeartbeats 4000000 in
set_option maxRecDepth 100000 in
theorem L_M_word_28 {p : Program} {l : Launch} {e : Env} {s : State} {m : MethodId} {args : Array Value} {below : List Frame} {meth : Method} {c : Code} {A : Nat → Prop} {D : va_G} {h0 : Nat} {a : Nat → Nat} {cI cB : ClassId} {K : Int32 → St → Prop} (C : CX p rm_M_word s m args meth c b_M_word 2 "PipelinedCoreModel" (some .int) pr_M_word D clK (tysK cI cB) A) (S : St)  (h : wp_M_word_28 K S) : J p l e rm_M_word s m args below meth c 2 D clK A 0 0 (MQ below (va_Qi K (fun u t => QK D clK (tysK cI cB) A (wsM h0 a cI cB u) t) A) args s 0 0 A) (wsM h0 a cI cB S) [] 28 [] := by
  unfold wp_M_word_28 at h
  refine j_iconst C 16 29 rfl rfl kI_0 ?_
  exact L_M_word_29 C S 0 h
def wp_M_word (S : St) (p1 : Int32) (K : Int32 → St → Prop) : Prop := wp_M_isData S p1 (fun r2 S1 => ((if r2 = 0 then ((wp_M_word_28 K S1)) else ((if (jrem p1 4) = 0 then (vp_in ((p1 - (1024 : Int32)) / 4) 64 ∧ ((wp_M_word_29 K S1 (S1 6 ((p1 - (1024 : Int32)) / 4 : Int32).toNatClampNeg)))) else ((wp_M_word_28 K S1)))))))
set_option maxHeartbeats 4000000 in
set_option maxRecDepth 100000 in
theorem c_M_word (l : Launch) (D : va_G) (h0 : Nat) (a : Nat → Nat) (cI cB : ClassId) (S : St) (p1 : Int32) (K : Int32 → St → Prop) (h : wp_M_word S p1 K) (sz : Nat) : Met l y_M_word (Cond.code y_M_word b_M_word 2 (some .int) :: gw) rm_M_word (va_Pc [.ref h0, .int p1] (PK D clK (tysK cI cB) (wsM h0 a cI cB S) sz)) (va_Qi K (fun u t => QK D clK (tysK cI cB) (va_A (wsM h0 a cI cB S) sz) (wsM h0 a cI cB u) t) (va_A (wsM h0 a cI cB S) sz)) 0 0 (va_A (wsM h0 a cI cB S) sz) := by
  refine met_of (rm := rm_M_word) (pr := pr_M_word) (Qc := fun A => va_Qi K (fun u t => QK D clK (tysK cI cB) A (wsM h0 a cI cB u) t) A) (by decide +kernel) dm_M_word (Nat.le_of_ble_eq_true rfl) (fun p e s m args below meth c A C => ?_) sz
  unfold wp_M_word at h
  show J p l e rm_M_word s m args below meth c 2 D clK A 0 0 _ (wsM h0 a cI cB S) [(0, .ref h0), (1, .int p1)] 0 []
  refine j_iload_n C 0 1 rfl rfl rfl 1 rfl ?_
  refine j_callSi C 1 4 rfl rfl w791 m_M_isData (As := [.int p1]) (c_M_isData l D h0 a cI cB S p1 _ h) ⟨rfl, rfl⟩ ⟨Nat.le_of_ble_eq_true rfl, Nat.le_of_ble_eq_true rfl⟩ rfl ⟨Nat.le_of_ble_eq_true rfl, Nat.le_of_ble_eq_true rfl⟩ (Nat.le_of_ble_eq_true rfl) rfl (fun r2 S1 h => ?_)
  refine j_if_eq C 2 28 7 rfl (by decide) rfl (fun c3 => ?_) (fun c3 => ?_)
  · replace h := ite_t h c3
    refine j_sub [] rfl ?_
    exact L_M_word_28 C S1 h
  · replace h := ite_f h c3
    refine j_iload_n C 3 8 rfl rfl rfl 1 rfl ?_
    refine j_iconst C 4 9 rfl rfl kI_4 ?_
    refine j_irem C 5 10 rfl rfl (by decide) ?_
    refine j_if_ne C 6 28 13 rfl (by decide) rfl (fun c4 => ?_) (fun c4 => ?_)
    · replace h := ite_f h c4
      refine j_sub [] rfl ?_
      exact L_M_word_28 C S1 h
    · replace h := ite_t h c4
      refine j_aload_n C 7 14 rfl rfl rfl 0 rfl ?_
      refine j_get C 8 17 rfl rfl fg_M_25 0 rfl rfl ?_
      refine j_iload_n C 9 18 rfl rfl rfl 1 rfl ?_
      refine j_sipush C 10 21 rfl rfl kS_1024 ?_
      refine j_isub C 11 22 rfl rfl ?_
      refine j_iconst C 12 23 rfl rfl kI_4 ?_
      refine j_idiv C 13 24 rfl rfl (by decide) ?_
      refine j_iald C 14 25 rfl rfl 6 0 rfl rfl h.1 ?_
      replace h := h.2
      refine j_goto C 15 29 rfl (by decide) ?_
      refine j_sub [] rfl ?_
      exact L_M_word_29 C S1 (S1 6 ((p1 - (1024 : Int32)) / 4 : Int32).toNatClampNeg) h
abbrev rm_M_ended : Room := { frames := 0, cells := 0, slots := 0, locals := 0 }
def wp_M_ended_27 (K : Int32 → St → Prop) (S : St)  : Prop := K (-1) S
set_option maxHeartbeats 4000000 in
set_option maxRecDepth 100000 in
theorem L_M_ended_27 {p : Program} {l : Launch} {e : Env} {s : State} {m : MethodId} {args : Array Value} {below : List Frame} {meth : Method} {c : Code} {A : Nat → Prop} {D : va_G} {h0 : Nat} {a : Nat → Nat} {cI cB : ClassId} {K : Int32 → St → Prop} (C : CX p rm_M_ended s m args meth c b_M_ended 4 "PipelinedCoreModel" (some .int) pr_M_ended D clK (tysK cI cB) A) (S : St)  (h : wp_M_ended_27 K S) : J p l e rm_M_ended s m args below meth c 4 D clK A 0 0 (MQ below (va_Qi K (fun u t => QK D clK (tysK cI cB) A (wsM h0 a cI cB u) t) A) args s 0 0 A) (wsM h0 a cI cB S) [] 27 [] := by
  unfold wp_M_ended_27 at h
  refine j_iconst C 14 28 rfl rfl kI_m1 ?_
  exact j_iret C 15 rfl h
def wp_M_ended_60 (K : Int32 → St → Prop) (S : St) (k0 : Int32) : Prop := K k0 S
set_option maxHeartbeats 4000000 in
set_option maxRecDepth 100000 in
theorem L_M_ended_60 {p : Program} {l : Launch} {e : Env} {s : State} {m : MethodId} {args : Array Value} {below : List Frame} {meth : Method} {c : Code} {A : Nat → Prop} {D : va_G} {h0 : Nat} {a : Nat → Nat} {cI cB : ClassId} {K : Int32 → St → Prop} (C : CX p rm_M_ended s m args meth c b_M_ended 4 "PipelinedCoreModel" (some .int) pr_M_ended D clK (tysK cI cB) A) (S : St) (k0 : Int32) (h : wp_M_ended_60 K S k0) : J p l e rm_M_ended s m args below meth c 4 D clK A 0 0 (MQ below (va_Qi K (fun u t => QK D clK (tysK cI cB) A (wsM h0 a cI cB u) t) A) args s 0 0 A) (wsM h0 a cI cB S) [] 60 [.int k0] := by
  unfold wp_M_ended_60 at h
  exact j_iret C 36 rfl h
def wp_M_ended (S : St) (p1 : Int32) (p2 : Int32) (K : Int32 → St → Prop) : Prop := (if p1 < 0 then ((wp_M_ended_27 K S)) else ((if (15 : Int32) < p1 then ((wp_M_ended_27 K S)) else ((if (S 0 37) ≤ p1 then ((wp_M_ended_27 K S)) else ((if p2 < 0 then ((wp_M_ended_27 K S)) else ((if p2 ≤ 1 then (∀ x6 : Int32, x6 = jrem (((S 0 37) - (1 : Int32)) - p1) 16 → ((if p2 = 0 then (vp_in x6 16 ∧ ((wp_M_ended_60 K S (S 25 x6.toNatClampNeg)))) else (vp_in x6 16 ∧ ((wp_M_ended_60 K S (S 26 x6.toNatClampNeg))))))) else ((wp_M_ended_27 K S)))))))))))
set_option maxHeartbeats 4000000 in
set_option maxRecDepth 100000 in
theorem c_M_ended (l : Launch) (D : va_G) (h0 : Nat) (a : Nat → Nat) (cI cB : ClassId) (S : St) (p1 : Int32) (p2 : Int32) (K : Int32 → St → Prop) (h : wp_M_ended S p1 p2 K) (sz : Nat) : Met l y_M_ended (Cond.code y_M_ended b_M_ended 4 (some .int) :: gw) rm_M_ended (va_Pc [.ref h0, .int p1, .int p2] (PK D clK (tysK cI cB) (wsM h0 a cI cB S) sz)) (va_Qi K (fun u t => QK D clK (tysK cI cB) (va_A (wsM h0 a cI cB S) sz) (wsM h0 a cI cB u) t) (va_A (wsM h0 a cI cB S) sz)) 0 0 (va_A (wsM h0 a cI cB S) sz) := by
  refine met_of (rm := rm_M_ended) (pr := pr_M_ended) (Qc := fun A => va_Qi K (fun u t => QK D clK (tysK cI cB) A (wsM h0 a cI cB u) t) A) (by decide +kernel) dm_M_ended (Nat.le_of_ble_eq_true rfl) (fun p e s m args below meth c A C => ?_) sz
  unfold wp_M_ended at h
  show J p l e rm_M_ended s m args below meth c 4 D clK A 0 0 _ (wsM h0 a cI cB S) [(0, .ref h0), (1, .int p1), (2, .int p2)] 0 []
  refine j_iload_n C 0 1 rfl rfl rfl 1 rfl ?_
  refine j_if_lt C 1 27 4 rfl (by decide) rfl (fun c1 => ?_) (fun c1 => ?_)
  · replace h := ite_t h c1
    refine j_sub [] rfl ?_
    exact L_M_ended_27 C S h
  · replace h := ite_f h c1
    refine j_iload_n C 2 5 rfl rfl rfl 1 rfl ?_
    refine j_bipush C 3 7 rfl rfl kB_15 ?_
    refine j_icmp_gt C 4 27 10 rfl (by decide) rfl (fun c2 => ?_) (fun c2 => ?_)
    · replace h := ite_t h c2
      refine j_sub [] rfl ?_
      exact L_M_ended_27 C S h
    · replace h := ite_f h c2
      refine j_iload_n C 5 11 rfl rfl rfl 1 rfl ?_
      refine j_aload_n C 6 12 rfl rfl rfl 0 rfl ?_
      refine j_get C 7 15 rfl rfl fg_M_305 0 rfl rfl ?_
      refine j_icmp_ge C 8 27 18 rfl (by decide) rfl (fun c3 => ?_) (fun c3 => ?_)
      · replace h := ite_t h c3
        refine j_sub [] rfl ?_
        exact L_M_ended_27 C S h
      · replace h := ite_f h c3
        refine j_iload_n C 9 19 rfl rfl rfl 2 rfl ?_
        refine j_if_lt C 10 27 22 rfl (by decide) rfl (fun c4 => ?_) (fun c4 => ?_)
        · replace h := ite_t h c4
          refine j_sub [] rfl ?_
          exact L_M_ended_27 C S h
        · replace h := ite_f h c4
          refine j_iload_n C 11 23 rfl rfl rfl 2 rfl ?_
          refine j_iconst C 12 24 rfl rfl kI_1 ?_
          refine j_icmp_le C 13 29 27 rfl (by decide) rfl (fun c5 => ?_) (fun c5 => ?_)
          · replace h := ite_t h c5
            refine j_aload_n C 16 30 rfl rfl rfl 0 rfl ?_
            refine j_get C 17 33 rfl rfl fg_M_305 0 rfl rfl ?_
            refine j_iconst C 18 34 rfl rfl kI_1 ?_
            refine j_isub C 19 35 rfl rfl ?_
            refine j_iload_n C 20 36 rfl rfl rfl 1 rfl ?_
            refine j_isub C 21 37 rfl rfl ?_
            refine j_bipush C 22 39 rfl rfl kB_16 ?_
            refine j_irem C 23 40 rfl rfl (by decide) ?_
            refine j_topi (fun x6 ex6 => ?_)
            replace h := h x6 ex6
            refine j_istore_n C 24 41 [(3, .int x6), (0, .ref h0), (1, .int p1), (2, .int p2)] rfl rfl rfl (by decide) rfl ?_
            refine j_iload_n C 25 42 rfl rfl rfl 3 rfl ?_
            refine j_if_ne C 26 54 45 rfl (by decide) rfl (fun c7 => ?_) (fun c7 => ?_)
            · replace h := ite_f h c7
              refine j_aload_n C 32 55 rfl rfl rfl 1 rfl ?_
              refine j_get C 33 58 rfl rfl fg_M_90 0 rfl rfl ?_
              refine j_iload_n C 34 59 rfl rfl rfl 0 rfl ?_
              refine j_iald C 35 60 rfl rfl 26 0 rfl rfl h.1 ?_
              replace h := h.2
              refine j_sub [] rfl ?_
              exact L_M_ended_60 C S (S 26 x6.toNatClampNeg) h
            · replace h := ite_t h c7
              refine j_aload_n C 27 46 rfl rfl rfl 1 rfl ?_
              refine j_get C 28 49 rfl rfl fg_M_87 0 rfl rfl ?_
              refine j_iload_n C 29 50 rfl rfl rfl 0 rfl ?_
              refine j_iald C 30 51 rfl rfl 25 0 rfl rfl h.1 ?_
              replace h := h.2
              refine j_goto C 31 60 rfl (by decide) ?_
              refine j_sub [] rfl ?_
              exact L_M_ended_60 C S (S 25 x6.toNatClampNeg) h
          · replace h := ite_f h c5
            refine j_sub [] rfl ?_
            exact L_M_ended_27 C S h
abbrev rm_M_stage : Room := { frames := 1, cells := 0, slots := 0, locals := 23 }
def wp_M_stage_68 (K : Int32 → St → Prop) (S : St) (v2 : Int32) : Prop := vp_in v2 160 ∧ (K (S 7 v2.toNatClampNeg) S)
set_option maxHeartbeats 4000000 in
set_option maxRecDepth 100000 in
theorem L_M_stage_68 {p : Program} {l : Launch} {e : Env} {s : State} {m : MethodId} {args : Array Value} {below : List Frame} {meth : Method} {c : Code} {A : Nat → Prop} {D : va_G} {h0 : Nat} {a : Nat → Nat} {cI cB : ClassId} {K : Int32 → St → Prop} (C : CX p rm_M_stage s m args meth c b_M_stage 5 "PipelinedCoreModel" (some .int) pr_M_stage D clK (tysK cI cB) A) (S : St) (v2 : Int32) (h : wp_M_stage_68 K S v2) : J p l e rm_M_stage s m args below meth c 5 D clK A 0 0 (MQ below (va_Qi K (fun u t => QK D clK (tysK cI cB) A (wsM h0 a cI cB u) t) A) args s 0 0 A) (wsM h0 a cI cB S) [(0, .ref h0), (2, .int v2)] 68 [] := by
  unfold wp_M_stage_68 at h
  refine j_aload_n C 38 69 rfl rfl rfl 0 rfl ?_
  refine j_get C 39 72 rfl rfl fg_M_32 0 rfl rfl ?_
  refine j_iload_n C 40 73 rfl rfl rfl 1 rfl ?_
  refine j_iald C 41 74 rfl rfl 7 0 rfl rfl h.1 ?_
  replace h := h.2
  exact j_iret C 42 rfl h
def wp_M_stage_57 (K : Int32 → St → Prop) (KH : St → Int32 → Int32 → Prop) (S : St) (v1 : Int32) (v2 : Int32) (v3 : Int32) (k0 : Int32) : Prop := (if v3 = 0 then ((if k0 = 0 then ((KH S v1 (v2 + 1))) else ((wp_M_stage_68 K S v2)))) else ((wp_M_stage_68 K S v2)))
set_option maxHeartbeats 4000000 in
set_option maxRecDepth 100000 in
theorem L_M_stage_57 {p : Program} {l : Launch} {e : Env} {s : State} {m : MethodId} {args : Array Value} {below : List Frame} {meth : Method} {c : Code} {A : Nat → Prop} {D : va_G} {h0 : Nat} {a : Nat → Nat} {cI cB : ClassId} {K : Int32 → St → Prop} (C : CX p rm_M_stage s m args meth c b_M_stage 5 "PipelinedCoreModel" (some .int) pr_M_stage D clK (tysK cI cB) A) (KH : St → Int32 → Int32 → Prop) (hKH : ∀ (S : St) (v1 : Int32) (v2 : Int32), KH S v1 v2 → J p l e rm_M_stage s m args below meth c 5 D clK A 0 0 (MQ below (va_Qi K (fun u t => QK D clK (tysK cI cB) A (wsM h0 a cI cB u) t) A) args s 0 0 A) (wsM h0 a cI cB S) [(0, .ref h0), (1, .int v1), (2, .int v2)] 2 []) (S : St) (v1 : Int32) (v2 : Int32) (v3 : Int32) (k0 : Int32) (h : wp_M_stage_57 K KH S v1 v2 v3 k0) : J p l e rm_M_stage s m args below meth c 5 D clK A 0 0 (MQ below (va_Qi K (fun u t => QK D clK (tysK cI cB) A (wsM h0 a cI cB u) t) A) args s 0 0 A) (wsM h0 a cI cB S) [(0, .ref h0), (1, .int v1), (2, .int v2), (3, .int v3)] 57 [.int k0] := by
  unfold wp_M_stage_57 at h
  refine j_istore C 33 59 [(4, .int k0), (0, .ref h0), (1, .int v1), (2, .int v2), (3, .int v3)] rfl rfl (by decide) rfl ?_
  refine j_iload_n C 34 60 rfl rfl rfl 4 rfl ?_
  refine j_if_ne C 35 68 63 rfl (by decide) rfl (fun c11 => ?_) (fun c11 => ?_)
  · replace h := ite_f h c11
    refine j_sub [1, 3] rfl ?_
    exact L_M_stage_68 C S v2 h
  · replace h := ite_t h c11
    refine j_iload C 36 65 rfl rfl 0 rfl ?_
    refine j_if_eq C 37 75 68 rfl (by decide) rfl (fun c12 => ?_) (fun c12 => ?_)
    · replace h := ite_t h c12
      refine j_iinc C 43 78 [(2, .int (v2 + 1)), (4, .int k0), (0, .ref h0), (1, .int v1), (3, .int v3)] rfl rfl 3 rfl kI_1 (by decide) rfl ?_
      refine j_goto C 44 2 rfl (by decide) ?_
      refine j_sub [2, 3, 0] rfl ?_
      exact hKH S v1 (v2 + 1) h
    · replace h := ite_f h c12
      refine j_sub [1, 3] rfl ?_
      exact L_M_stage_68 C S v2 h
def wp_M_stage_56 (K : Int32 → St → Prop) (KH : St → Int32 → Int32 → Prop) (S : St) (v1 : Int32) (v2 : Int32) (v3 : Int32) : Prop := (wp_M_stage_57 K KH S v1 v2 v3 0)
set_option maxHeartbeats 4000000 in
set_option maxRecDepth 100000 in
theorem L_M_stage_56 {p : Program} {l : Launch} {e : Env} {s : State} {m : MethodId} {args : Array Value} {below : List Frame} {meth : Method} {c : Code} {A : Nat → Prop} {D : va_G} {h0 : Nat} {a : Nat → Nat} {cI cB : ClassId} {K : Int32 → St → Prop} (C : CX p rm_M_stage s m args meth c b_M_stage 5 "PipelinedCoreModel" (some .int) pr_M_stage D clK (tysK cI cB) A) (KH : St → Int32 → Int32 → Prop) (hKH : ∀ (S : St) (v1 : Int32) (v2 : Int32), KH S v1 v2 → J p l e rm_M_stage s m args below meth c 5 D clK A 0 0 (MQ below (va_Qi K (fun u t => QK D clK (tysK cI cB) A (wsM h0 a cI cB u) t) A) args s 0 0 A) (wsM h0 a cI cB S) [(0, .ref h0), (1, .int v1), (2, .int v2)] 2 []) (S : St) (v1 : Int32) (v2 : Int32) (v3 : Int32) (h : wp_M_stage_56 K KH S v1 v2 v3) : J p l e rm_M_stage s m args below meth c 5 D clK A 0 0 (MQ below (va_Qi K (fun u t => QK D clK (tysK cI cB) A (wsM h0 a cI cB u) t) A) args s 0 0 A) (wsM h0 a cI cB S) [(0, .ref h0), (1, .int v1), (2, .int v2), (3, .int v3)] 56 [] := by
  unfold wp_M_stage_56 at h
  refine j_iconst C 32 57 rfl rfl kI_0 ?_
  exact L_M_stage_57 C KH hKH S v1 v2 v3 0 h
def wp_M_stage_33 (K : Int32 → St → Prop) (KH : St → Int32 → Int32 → Prop) (S : St) (v1 : Int32) (v2 : Int32) (k0 : Int32) : Prop := (if v1 = 3 then (vp_in v2 160 ∧ ((if (S 0 1) < (S 9 v2.toNatClampNeg) then ((wp_M_stage_56 K KH S v1 v2 k0)) else ((wp_M_stage_57 K KH S v1 v2 k0 1))))) else ((wp_M_stage_56 K KH S v1 v2 k0)))
set_option maxHeartbeats 4000000 in
set_option maxRecDepth 100000 in
theorem L_M_stage_33 {p : Program} {l : Launch} {e : Env} {s : State} {m : MethodId} {args : Array Value} {below : List Frame} {meth : Method} {c : Code} {A : Nat → Prop} {D : va_G} {h0 : Nat} {a : Nat → Nat} {cI cB : ClassId} {K : Int32 → St → Prop} (C : CX p rm_M_stage s m args meth c b_M_stage 5 "PipelinedCoreModel" (some .int) pr_M_stage D clK (tysK cI cB) A) (KH : St → Int32 → Int32 → Prop) (hKH : ∀ (S : St) (v1 : Int32) (v2 : Int32), KH S v1 v2 → J p l e rm_M_stage s m args below meth c 5 D clK A 0 0 (MQ below (va_Qi K (fun u t => QK D clK (tysK cI cB) A (wsM h0 a cI cB u) t) A) args s 0 0 A) (wsM h0 a cI cB S) [(0, .ref h0), (1, .int v1), (2, .int v2)] 2 []) (S : St) (v1 : Int32) (v2 : Int32) (k0 : Int32) (h : wp_M_stage_33 K KH S v1 v2 k0) : J p l e rm_M_stage s m args below meth c 5 D clK A 0 0 (MQ below (va_Qi K (fun u t => QK D clK (tysK cI cB) A (wsM h0 a cI cB u) t) A) args s 0 0 A) (wsM h0 a cI cB S) [(0, .ref h0), (1, .int v1), (2, .int v2)] 33 [.int k0] := by
  unfold wp_M_stage_33 at h
  refine j_istore_n C 19 34 [(3, .int k0), (0, .ref h0), (1, .int v1), (2, .int v2)] rfl rfl rfl (by decide) rfl ?_
  refine j_iload_n C 20 35 rfl rfl rfl 2 rfl ?_
  refine j_iconst C 21 36 rfl rfl kI_3 ?_
  refine j_icmp_ne C 22 56 39 rfl (by decide) rfl (fun c9 => ?_) (fun c9 => ?_)
  · replace h := ite_f h c9
    refine j_sub [1, 2, 3, 0] rfl ?_
    exact L_M_stage_56 C KH hKH S v1 v2 k0 h
  · replace h := ite_t h c9
    refine j_aload_n C 23 40 rfl rfl rfl 1 rfl ?_
    refine j_get C 24 43 rfl rfl fg_M_38 0 rfl rfl ?_
    refine j_iload_n C 25 44 rfl rfl rfl 3 rfl ?_
    refine j_iald C 26 45 rfl rfl 9 0 rfl rfl h.1 ?_
    replace h := h.2
    refine j_aload_n C 27 46 rfl rfl rfl 1 rfl ?_
    refine j_get C 28 49 rfl rfl fg_M_96 0 rfl rfl ?_
    refine j_icmp_gt C 29 56 52 rfl (by decide) rfl (fun c10 => ?_) (fun c10 => ?_)
    · replace h := ite_t h c10
      refine j_sub [1, 2, 3, 0] rfl ?_
      exact L_M_stage_56 C KH hKH S v1 v2 k0 h
    · replace h := ite_f h c10
      refine j_iconst C 30 53 rfl rfl kI_1 ?_
      refine j_goto C 31 57 rfl (by decide) ?_
      refine j_sub [1, 2, 3, 0] rfl ?_
      exact L_M_stage_57 C KH hKH S v1 v2 k0 1 h
def wp_M_stage_32 (K : Int32 → St → Prop) (KH : St → Int32 → Int32 → Prop) (S : St) (v1 : Int32) (v2 : Int32) : Prop := (wp_M_stage_33 K KH S v1 v2 0)
set_option maxHeartbeats 4000000 in
set_option maxRecDepth 100000 in
theorem L_M_stage_32 {p : Program} {l : Launch} {e : Env} {s : State} {m : MethodId} {args : Array Value} {below : List Frame} {meth : Method} {c : Code} {A : Nat → Prop} {D : va_G} {h0 : Nat} {a : Nat → Nat} {cI cB : ClassId} {K : Int32 → St → Prop} (C : CX p rm_M_stage s m args meth c b_M_stage 5 "PipelinedCoreModel" (some .int) pr_M_stage D clK (tysK cI cB) A) (KH : St → Int32 → Int32 → Prop) (hKH : ∀ (S : St) (v1 : Int32) (v2 : Int32), KH S v1 v2 → J p l e rm_M_stage s m args below meth c 5 D clK A 0 0 (MQ below (va_Qi K (fun u t => QK D clK (tysK cI cB) A (wsM h0 a cI cB u) t) A) args s 0 0 A) (wsM h0 a cI cB S) [(0, .ref h0), (1, .int v1), (2, .int v2)] 2 []) (S : St) (v1 : Int32) (v2 : Int32) (h : wp_M_stage_32 K KH S v1 v2) : J p l e rm_M_stage s m args below meth c 5 D clK A 0 0 (MQ below (va_Qi K (fun u t => QK D clK (tysK cI cB) A (wsM h0 a cI cB u) t) A) args s 0 0 A) (wsM h0 a cI cB S) [(0, .ref h0), (1, .int v1), (2, .int v2)] 32 [] := by
  unfold wp_M_stage_32 at h
  refine j_iconst C 18 33 rfl rfl kI_0 ?_
  exact L_M_stage_33 C KH hKH S v1 v2 0 h
def wp_M_stage_126 (K : Int32 → St → Prop) (S : St) (k0 : Int32) : Prop := K k0 S
set_option maxHeartbeats 4000000 in
set_option maxRecDepth 100000 in
theorem L_M_stage_126 {p : Program} {l : Launch} {e : Env} {s : State} {m : MethodId} {args : Array Value} {below : List Frame} {meth : Method} {c : Code} {A : Nat → Prop} {D : va_G} {h0 : Nat} {a : Nat → Nat} {cI cB : ClassId} {K : Int32 → St → Prop} (C : CX p rm_M_stage s m args meth c b_M_stage 5 "PipelinedCoreModel" (some .int) pr_M_stage D clK (tysK cI cB) A) (S : St) (k0 : Int32) (h : wp_M_stage_126 K S k0) : J p l e rm_M_stage s m args below meth c 5 D clK A 0 0 (MQ below (va_Qi K (fun u t => QK D clK (tysK cI cB) A (wsM h0 a cI cB u) t) A) args s 0 0 A) (wsM h0 a cI cB S) [] 126 [.int k0] := by
  unfold wp_M_stage_126 at h
  exact j_iret C 70 rfl h
def wp_M_stage_111 (K : Int32 → St → Prop) (S : St) (k0 : Int32) : Prop := (if k0 = 0 then ((wp_M_stage_126 K S (-1))) else (wp_M_ended S 0 0 (fun r15 S14 => ((wp_M_stage_126 K S14 r15)))))
set_option maxHeartbeats 4000000 in
set_option maxRecDepth 100000 in
theorem L_M_stage_111 {p : Program} {l : Launch} {e : Env} {s : State} {m : MethodId} {args : Array Value} {below : List Frame} {meth : Method} {c : Code} {A : Nat → Prop} {D : va_G} {h0 : Nat} {a : Nat → Nat} {cI cB : ClassId} {K : Int32 → St → Prop} (C : CX p rm_M_stage s m args meth c b_M_stage 5 "PipelinedCoreModel" (some .int) pr_M_stage D clK (tysK cI cB) A) (S : St) (k0 : Int32) (h : wp_M_stage_111 K S k0) : J p l e rm_M_stage s m args below meth c 5 D clK A 0 0 (MQ below (va_Qi K (fun u t => QK D clK (tysK cI cB) A (wsM h0 a cI cB u) t) A) args s 0 0 A) (wsM h0 a cI cB S) [(0, .ref h0)] 111 [.int k0] := by
  unfold wp_M_stage_111 at h
  refine j_istore_n C 61 112 [(2, .int k0), (0, .ref h0)] rfl rfl rfl (by decide) rfl ?_
  refine j_iload_n C 62 113 rfl rfl rfl 0 rfl ?_
  refine j_if_eq C 63 125 116 rfl (by decide) rfl (fun c13 => ?_) (fun c13 => ?_)
  · replace h := ite_t h c13
    refine j_iconst C 69 126 rfl rfl kI_m1 ?_
    refine j_sub [] rfl ?_
    exact L_M_stage_126 C S (-1) h
  · replace h := ite_f h c13
    refine j_aload_n C 64 117 rfl rfl rfl 1 rfl ?_
    refine j_iconst C 65 118 rfl rfl kI_0 ?_
    refine j_iconst C 66 119 rfl rfl kI_0 ?_
    refine j_callVi C 67 122 rfl rfl w979 m_M_ended (As := [.int 0, .int 0]) (c_M_ended l D h0 a cI cB S 0 0 _ h) ⟨rfl, rfl⟩ ⟨Nat.le_of_ble_eq_true rfl, Nat.le_of_ble_eq_true rfl⟩ 0 rfl rfl rfl ⟨Nat.le_of_ble_eq_true rfl, Nat.le_of_ble_eq_true rfl⟩ (Nat.le_of_ble_eq_true rfl) rfl (fun r15 S14 h => ?_)
    refine j_goto C 68 126 rfl (by decide) ?_
    refine j_sub [] rfl ?_
    exact L_M_stage_126 C S14 r15 h
def wp_M_stage_110 (K : Int32 → St → Prop) (S : St)  : Prop := (wp_M_stage_111 K S 0)
set_option maxHeartbeats 4000000 in
set_option maxRecDepth 100000 in
theorem L_M_stage_110 {p : Program} {l : Launch} {e : Env} {s : State} {m : MethodId} {args : Array Value} {below : List Frame} {meth : Method} {c : Code} {A : Nat → Prop} {D : va_G} {h0 : Nat} {a : Nat → Nat} {cI cB : ClassId} {K : Int32 → St → Prop} (C : CX p rm_M_stage s m args meth c b_M_stage 5 "PipelinedCoreModel" (some .int) pr_M_stage D clK (tysK cI cB) A) (S : St)  (h : wp_M_stage_110 K S) : J p l e rm_M_stage s m args below meth c 5 D clK A 0 0 (MQ below (va_Qi K (fun u t => QK D clK (tysK cI cB) A (wsM h0 a cI cB u) t) A) args s 0 0 A) (wsM h0 a cI cB S) [(0, .ref h0)] 110 [] := by
  unfold wp_M_stage_110 at h
  refine j_iconst C 60 111 rfl rfl kI_0 ?_
  exact L_M_stage_111 C S 0 h
def wp_M_stage_2 (K : Int32 → St → Prop) : Nat → St → Int32 → Int32 → Prop
  | 0 => fun _ _ _ => False
  | f + 1 => fun S v1 v2 => (fun KH : St → Int32 → Int32 → Prop => (if (S 0 17) ≤ v2 then ((if v1 = 4 then (wp_M_ended S 0 1 (fun r4 S3 => ((if r4 = (S3 0 1) then ((if (S3 0 37) ≤ 0 then ((wp_M_stage_110 K S3)) else ((wp_M_stage_111 K S3 1)))) else ((wp_M_stage_110 K S3)))))) else ((wp_M_stage_110 K S)))) else ((if v1 = 2 then (vp_in v2 160 ∧ ((if (S 9 v2.toNatClampNeg) ≤ (S 0 1) then ((wp_M_stage_32 K KH S v1 v2)) else ((wp_M_stage_33 K KH S v1 v2 1))))) else ((wp_M_stage_32 K KH S v1 v2)))))) (wp_M_stage_2 K f)
set_option maxHeartbeats 4000000 in
set_option maxRecDepth 100000 in
theorem L_M_stage_2 {p : Program} {l : Launch} {e : Env} {s : State} {m : MethodId} {args : Array Value} {below : List Frame} {meth : Method} {c : Code} {A : Nat → Prop} {D : va_G} {h0 : Nat} {a : Nat → Nat} {cI cB : ClassId} {K : Int32 → St → Prop} (C : CX p rm_M_stage s m args meth c b_M_stage 5 "PipelinedCoreModel" (some .int) pr_M_stage D clK (tysK cI cB) A) (f : Nat) : ∀ (S : St) (v1 : Int32) (v2 : Int32), wp_M_stage_2 K f S v1 v2 → J p l e rm_M_stage s m args below meth c 5 D clK A 0 0 (MQ below (va_Qi K (fun u t => QK D clK (tysK cI cB) A (wsM h0 a cI cB u) t) A) args s 0 0 A) (wsM h0 a cI cB S) [(0, .ref h0), (1, .int v1), (2, .int v2)] 2 [] := by
  induction f with
  | zero => exact fun _ _ _ h => h.elim
  | succ f ih =>
    intro S v1 v2 h
    have hKH := ih
    rw [wp_M_stage_2] at h
    generalize wp_M_stage_2 K f = KH at h hKH
    try dsimp only at h
    refine j_iload_n C 2 3 rfl rfl rfl 2 rfl ?_
    refine j_aload_n C 3 4 rfl rfl rfl 0 rfl ?_
    refine j_get C 4 7 rfl rfl fg_M_296 0 rfl rfl ?_
    refine j_icmp_ge C 5 81 10 rfl (by decide) rfl (fun c1 => ?_) (fun c1 => ?_)
    · replace h := ite_t h c1
      refine j_iload_n C 45 82 rfl rfl rfl 1 rfl ?_
      refine j_iconst C 46 83 rfl rfl kI_4 ?_
      refine j_icmp_ne C 47 110 86 rfl (by decide) rfl (fun c2 => ?_) (fun c2 => ?_)
      · replace h := ite_f h c2
        refine j_sub [0] rfl ?_
        exact L_M_stage_110 C S h
      · replace h := ite_t h c2
        refine j_aload_n C 48 87 rfl rfl rfl 0 rfl ?_
        refine j_iconst C 49 88 rfl rfl kI_0 ?_
        refine j_iconst C 50 89 rfl rfl kI_1 ?_
        refine j_callVi C 51 92 rfl rfl w979 m_M_ended (As := [.int 0, .int 1]) (c_M_ended l D h0 a cI cB S 0 1 _ h) ⟨rfl, rfl⟩ ⟨Nat.le_of_ble_eq_true rfl, Nat.le_of_ble_eq_true rfl⟩ 0 rfl rfl rfl ⟨Nat.le_of_ble_eq_true rfl, Nat.le_of_ble_eq_true rfl⟩ (Nat.le_of_ble_eq_true rfl) rfl (fun r4 S3 h => ?_)
        refine j_aload_n C 52 93 rfl rfl rfl 0 rfl ?_
        refine j_get C 53 96 rfl rfl fg_M_96 0 rfl rfl ?_
        refine j_icmp_ne C 54 110 99 rfl (by decide) rfl (fun c5 => ?_) (fun c5 => ?_)
        · replace h := ite_f h c5
          refine j_sub [0] rfl ?_
          exact L_M_stage_110 C S3 h
        · replace h := ite_t h c5
          refine j_aload_n C 55 100 rfl rfl rfl 0 rfl ?_
          refine j_get C 56 103 rfl rfl fg_M_305 0 rfl rfl ?_
          refine j_if_le C 57 110 106 rfl (by decide) rfl (fun c6 => ?_) (fun c6 => ?_)
          · replace h := ite_t h c6
            refine j_sub [0] rfl ?_
            exact L_M_stage_110 C S3 h
          · replace h := ite_f h c6
            refine j_iconst C 58 107 rfl rfl kI_1 ?_
            refine j_goto C 59 111 rfl (by decide) ?_
            refine j_sub [0] rfl ?_
            exact L_M_stage_111 C S3 1 h
    · replace h := ite_f h c1
      refine j_iload_n C 6 11 rfl rfl rfl 1 rfl ?_
      refine j_iconst C 7 12 rfl rfl kI_2 ?_
      refine j_icmp_ne C 8 32 15 rfl (by decide) rfl (fun c7 => ?_) (fun c7 => ?_)
      · replace h := ite_f h c7
        exact L_M_stage_32 C KH hKH S v1 v2 h
      · replace h := ite_t h c7
        refine j_aload_n C 9 16 rfl rfl rfl 0 rfl ?_
        refine j_get C 10 19 rfl rfl fg_M_38 0 rfl rfl ?_
        refine j_iload_n C 11 20 rfl rfl rfl 2 rfl ?_
        refine j_iald C 12 21 rfl rfl 9 0 rfl rfl h.1 ?_
        replace h := h.2
        refine j_aload_n C 13 22 rfl rfl rfl 0 rfl ?_
        refine j_get C 14 25 rfl rfl fg_M_96 0 rfl rfl ?_
        refine j_icmp_le C 15 32 28 rfl (by decide) rfl (fun c8 => ?_) (fun c8 => ?_)
        · replace h := ite_t h c8
          exact L_M_stage_32 C KH hKH S v1 v2 h
        · replace h := ite_f h c8
          refine j_iconst C 16 29 rfl rfl kI_1 ?_
          refine j_goto C 17 33 rfl (by decide) ?_
          exact L_M_stage_33 C KH hKH S v1 v2 1 h
def wp_M_stage (S : St) (p1 : Int32) (K : Int32 → St → Prop) : Prop := (∃ f, wp_M_stage_2 K f S p1 0)
set_option maxHeartbeats 4000000 in
set_option maxRecDepth 100000 in
theorem c_M_stage (l : Launch) (D : va_G) (h0 : Nat) (a : Nat → Nat) (cI cB : ClassId) (S : St) (p1 : Int32) (K : Int32 → St → Prop) (h : wp_M_stage S p1 K) (sz : Nat) : Met l y_M_stage (Cond.code y_M_stage b_M_stage 5 (some .int) :: gw) rm_M_stage (va_Pc [.ref h0, .int p1] (PK D clK (tysK cI cB) (wsM h0 a cI cB S) sz)) (va_Qi K (fun u t => QK D clK (tysK cI cB) (va_A (wsM h0 a cI cB S) sz) (wsM h0 a cI cB u) t) (va_A (wsM h0 a cI cB S) sz)) 0 0 (va_A (wsM h0 a cI cB S) sz) := by
  refine met_of (rm := rm_M_stage) (pr := pr_M_stage) (Qc := fun A => va_Qi K (fun u t => QK D clK (tysK cI cB) A (wsM h0 a cI cB u) t) A) (by decide +kernel) dm_M_stage (Nat.le_of_ble_eq_true rfl) (fun p e s m args below meth c A C => ?_) sz
  unfold wp_M_stage at h
  show J p l e rm_M_stage s m args below meth c 5 D clK A 0 0 _ (wsM h0 a cI cB S) [(0, .ref h0), (1, .int p1)] 0 []
  refine j_iconst C 0 1 rfl rfl kI_0 ?_
  refine j_istore_n C 1 2 [(2, .int 0), (0, .ref h0), (1, .int p1)] rfl rfl rfl (by decide) rfl ?_
  refine j_sub [1, 2, 0] rfl ?_
  obtain ⟨f, h⟩ := h
  exact L_M_stage_2 C f S p1 0 h
abbrev rm_M_foretold : Room := { frames := 1, cells := 0, slots := 0, locals := 23 }
def wp_M_foretold (S : St) (p1 : Int32) (K : Int32 → St → Prop) : Prop := wp_M_guess S 4 p1 (fun r2 S1 => (K r2 S1))
set_option maxHeartbeats 4000000 in
set_option maxRecDepth 100000 in
theorem c_M_foretold (l : Launch) (D : va_G) (h0 : Nat) (a : Nat → Nat) (cI cB : ClassId) (S : St) (p1 : Int32) (K : Int32 → St → Prop) (h : wp_M_foretold S p1 K) (sz : Nat) : Met l y_M_foretold (Cond.code y_M_foretold b_M_foretold 2 (some .int) :: gw) rm_M_foretold (va_Pc [.ref h0, .int p1] (PK D clK (tysK cI cB) (wsM h0 a cI cB S) sz)) (va_Qi K (fun u t => QK D clK (tysK cI cB) (va_A (wsM h0 a cI cB S) sz) (wsM h0 a cI cB u) t) (va_A (wsM h0 a cI cB S) sz)) 0 0 (va_A (wsM h0 a cI cB S) sz) := by
  refine met_of (rm := rm_M_foretold) (pr := pr_M_foretold) (Qc := fun A => va_Qi K (fun u t => QK D clK (tysK cI cB) A (wsM h0 a cI cB u) t) A) (by decide +kernel) dm_M_foretold (Nat.le_of_ble_eq_true rfl) (fun p e s m args below meth c A C => ?_) sz
  unfold wp_M_foretold at h
  show J p l e rm_M_foretold s m args below meth c 2 D clK A 0 0 _ (wsM h0 a cI cB S) [(0, .ref h0), (1, .int p1)] 0 []
  refine j_aload_n C 0 1 rfl rfl rfl 0 rfl ?_
  refine j_iconst C 1 2 rfl rfl kI_4 ?_
  refine j_iload_n C 2 3 rfl rfl rfl 1 rfl ?_
  refine j_callVi C 3 6 rfl rfl w842 m_M_guess (As := [.int 4, .int p1]) (c_M_guess l D h0 a cI cB S 4 p1 _ h) ⟨rfl, rfl⟩ ⟨Nat.le_of_ble_eq_true rfl, Nat.le_of_ble_eq_true rfl⟩ 0 rfl rfl rfl ⟨Nat.le_of_ble_eq_true rfl, Nat.le_of_ble_eq_true rfl⟩ (Nat.le_of_ble_eq_true rfl) rfl (fun r2 S1 h => ?_)
  exact j_iret C 4 rfl h
abbrev rm_M_figure : Room := { frames := 0, cells := 0, slots := 0, locals := 0 }
def wp_M_figure_72 (K : Int32 → St → Prop) (S : St) (k0 : Int32) : Prop := K k0 S
set_option maxHeartbeats 4000000 in
set_option maxRecDepth 100000 in
theorem L_M_figure_72 {p : Program} {l : Launch} {e : Env} {s : State} {m : MethodId} {args : Array Value} {below : List Frame} {meth : Method} {c : Code} {A : Nat → Prop} {D : va_G} {h0 : Nat} {a : Nat → Nat} {cI cB : ClassId} {K : Int32 → St → Prop} (C : CX p rm_M_figure s m args meth c b_M_figure 2 "PipelinedCoreModel" (some .int) pr_M_figure D clK (tysK cI cB) A) (S : St) (k0 : Int32) (h : wp_M_figure_72 K S k0) : J p l e rm_M_figure s m args below meth c 2 D clK A 0 0 (MQ below (va_Qi K (fun u t => QK D clK (tysK cI cB) A (wsM h0 a cI cB u) t) A) args s 0 0 A) (wsM h0 a cI cB S) [] 72 [.int k0] := by
  unfold wp_M_figure_72 at h
  exact j_iret C 36 rfl h
def wp_M_figure (S : St) (p1 : Int32) (K : Int32 → St → Prop) : Prop := (if p1 = 0 then ((wp_M_figure_72 K S (S 0 1))) else ((if p1 = 1 then ((wp_M_figure_72 K S (S 0 37))) else ((if p1 = 2 then ((wp_M_figure_72 K S (S 0 40))) else ((if p1 = 3 then ((wp_M_figure_72 K S (S 0 41))) else ((if p1 = 4 then ((wp_M_figure_72 K S (S 0 42))) else ((if p1 = 5 then ((wp_M_figure_72 K S (S 0 43))) else ((wp_M_figure_72 K S (-1))))))))))))))
set_option maxHeartbeats 4000000 in
set_option maxRecDepth 100000 in
theorem c_M_figure (l : Launch) (D : va_G) (h0 : Nat) (a : Nat → Nat) (cI cB : ClassId) (S : St) (p1 : Int32) (K : Int32 → St → Prop) (h : wp_M_figure S p1 K) (sz : Nat) : Met l y_M_figure (Cond.code y_M_figure b_M_figure 2 (some .int) :: gw) rm_M_figure (va_Pc [.ref h0, .int p1] (PK D clK (tysK cI cB) (wsM h0 a cI cB S) sz)) (va_Qi K (fun u t => QK D clK (tysK cI cB) (va_A (wsM h0 a cI cB S) sz) (wsM h0 a cI cB u) t) (va_A (wsM h0 a cI cB S) sz)) 0 0 (va_A (wsM h0 a cI cB S) sz) := by
  refine met_of (rm := rm_M_figure) (pr := pr_M_figure) (Qc := fun A => va_Qi K (fun u t => QK D clK (tysK cI cB) A (wsM h0 a cI cB u) t) A) (by decide +kernel) dm_M_figure (Nat.le_of_ble_eq_true rfl) (fun p e s m args below meth c A C => ?_) sz
  unfold wp_M_figure at h
  show J p l e rm_M_figure s m args below meth c 2 D clK A 0 0 _ (wsM h0 a cI cB S) [(0, .ref h0), (1, .int p1)] 0 []
  refine j_iload_n C 0 1 rfl rfl rfl 1 rfl ?_
  refine j_if_ne C 1 11 4 rfl (by decide) rfl (fun c1 => ?_) (fun c1 => ?_)
  · replace h := ite_f h c1
    refine j_iload_n C 5 12 rfl rfl rfl 1 rfl ?_
    refine j_iconst C 6 13 rfl rfl kI_1 ?_
    refine j_icmp_ne C 7 23 16 rfl (by decide) rfl (fun c2 => ?_) (fun c2 => ?_)
    · replace h := ite_f h c2
      refine j_iload_n C 11 24 rfl rfl rfl 1 rfl ?_
      refine j_iconst C 12 25 rfl rfl kI_2 ?_
      refine j_icmp_ne C 13 35 28 rfl (by decide) rfl (fun c3 => ?_) (fun c3 => ?_)
      · replace h := ite_f h c3
        refine j_iload_n C 17 36 rfl rfl rfl 1 rfl ?_
        refine j_iconst C 18 37 rfl rfl kI_3 ?_
        refine j_icmp_ne C 19 47 40 rfl (by decide) rfl (fun c4 => ?_) (fun c4 => ?_)
        · replace h := ite_f h c4
          refine j_iload_n C 23 48 rfl rfl rfl 1 rfl ?_
          refine j_iconst C 24 49 rfl rfl kI_4 ?_
          refine j_icmp_ne C 25 59 52 rfl (by decide) rfl (fun c5 => ?_) (fun c5 => ?_)
          · replace h := ite_f h c5
            refine j_iload_n C 29 60 rfl rfl rfl 1 rfl ?_
            refine j_iconst C 30 61 rfl rfl kI_5 ?_
            refine j_icmp_ne C 31 71 64 rfl (by decide) rfl (fun c6 => ?_) (fun c6 => ?_)
            · replace h := ite_f h c6
              refine j_iconst C 35 72 rfl rfl kI_m1 ?_
              refine j_sub [] rfl ?_
              exact L_M_figure_72 C S (-1) h
            · replace h := ite_t h c6
              refine j_aload_n C 32 65 rfl rfl rfl 0 rfl ?_
              refine j_get C 33 68 rfl rfl fg_M_277 0 rfl rfl ?_
              refine j_goto C 34 72 rfl (by decide) ?_
              refine j_sub [] rfl ?_
              exact L_M_figure_72 C S (S 0 43) h
          · replace h := ite_t h c5
            refine j_aload_n C 26 53 rfl rfl rfl 0 rfl ?_
            refine j_get C 27 56 rfl rfl fg_M_268 0 rfl rfl ?_
            refine j_goto C 28 72 rfl (by decide) ?_
            refine j_sub [] rfl ?_
            exact L_M_figure_72 C S (S 0 42) h
        · replace h := ite_t h c4
          refine j_aload_n C 20 41 rfl rfl rfl 0 rfl ?_
          refine j_get C 21 44 rfl rfl fg_M_274 0 rfl rfl ?_
          refine j_goto C 22 72 rfl (by decide) ?_
          refine j_sub [] rfl ?_
          exact L_M_figure_72 C S (S 0 41) h
      · replace h := ite_t h c3
        refine j_aload_n C 14 29 rfl rfl rfl 0 rfl ?_
        refine j_get C 15 32 rfl rfl fg_M_302 0 rfl rfl ?_
        refine j_goto C 16 72 rfl (by decide) ?_
        refine j_sub [] rfl ?_
        exact L_M_figure_72 C S (S 0 40) h
    · replace h := ite_t h c2
      refine j_aload_n C 8 17 rfl rfl rfl 0 rfl ?_
      refine j_get C 9 20 rfl rfl fg_M_305 0 rfl rfl ?_
      refine j_goto C 10 72 rfl (by decide) ?_
      refine j_sub [] rfl ?_
      exact L_M_figure_72 C S (S 0 37) h
  · replace h := ite_t h c1
    refine j_aload_n C 2 5 rfl rfl rfl 0 rfl ?_
    refine j_get C 3 8 rfl rfl fg_M_96 0 rfl rfl ?_
    refine j_goto C 4 72 rfl (by decide) ?_
    refine j_sub [] rfl ?_
    exact L_M_figure_72 C S (S 0 1) h
