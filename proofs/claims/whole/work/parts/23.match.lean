/-! the relation behind an instruction's work -/
def okS (S S' : St) : Prop := (∀ i, i ≠ 16 → i ≠ 3 → S' i = S i) ∧ ∀ k, k < 2 → S' 16 k = S 16 k
def okT (T T' : St) : Prop := (∀ i, i ≠ 0 → i ≠ 4 → T' i = T i) ∧ ∀ k, k < 45 → T' 0 k = T 0 k
theorem okS_rf (S : St) : okS S S := ⟨fun _ _ _ => rfl, fun _ _ => rfl⟩
theorem okT_rf (T : St) : okT T T := ⟨fun _ _ _ => rfl, fun _ _ => rfl⟩
theorem okS_16 {S S' : St} {k : Nat} {v : Int32} (hk : 2 ≤ k) (h : okS S S') : okS S (st S' 16 k v) :=
  ⟨fun i h1 h2 => by rw [st_ne h1]; exact h.1 i h1 h2, fun j hj => by rw [st_eq, upd_n (by omega)]; exact h.2 j hj⟩
theorem okS_3 {S S' : St} {k : Nat} {v : Int32} (h : okS S S') : okS S (st S' 3 k v) :=
  ⟨fun i h1 h2 => by rw [st_ne h2]; exact h.1 i h1 h2, fun j hj => by rw [st_ne (by decide)]; exact h.2 j hj⟩
theorem okT_0 {T T' : St} {k : Nat} {v : Int32} (hk : 45 ≤ k) (h : okT T T') : okT T (st T' 0 k v) :=
  ⟨fun i h1 h2 => by rw [st_ne h1]; exact h.1 i h1 h2, fun j hj => by rw [st_eq, upd_n (by omega)]; exact h.2 j hj⟩
theorem okT_4 {T T' : St} {k : Nat} {v : Int32} (h : okT T T') : okT T (st T' 4 k v) :=
  ⟨fun i h1 h2 => by rw [st_ne h2]; exact h.1 i h1 h2, fun j hj => by rw [st_ne (by decide)]; exact h.2 j hj⟩
def jmpr (o : Int32) : Int32 := if o = 111 ∨ o = 103 ∨ o = 99 then 1 else 0
def effF (o g f : Int32) : Int32 := if o = 51 ∧ g = 1 then (if (4 : Int32) ≤ f then 33 else 4) else 1
/-- the controls keep their shape -/
def okC (g : Nat → Int32) : Prop := g 4 &&& 3 = 0 ∧ g 7 &&& (-2185) = 0
/-- no trap: register, jump, return, effort, access -/
def MK (S S' T T' : St) : Prop := S' 16 15 = 0 ∧ T' 0 45 = -1 ∧ T' 0 48 = S' 16 6 ∧ vp_in (S' 16 6) 32 ∧ T' 0 54 = S' 16 13 ∧ isB (S' 16 13) ∧ T' 0 55 = S' 16 14 ∧
  ((S' 16 14 = 0 ∧ S' 16 12 = T' 0 47 ∧ S' 3 = T' 4) ∨ (S' 16 14 = 1 ∧ T' 4 = T 4 ∧ S' 16 12 = T 4 4 ∧ S' 3 = upd (T 4) 0 (if T 4 0 &&& 128 = 0 then 128 else 136))) ∧
  T' 0 53 = jmpr (S 15 3) ∧ S' 16 12 &&& 3 = 0 ∧ S' 16 2 = effF (S 15 3) (S 15 8) (S 15 5) ∧ okC (T' 4) ∧
  ((S' 16 8 = 0 ∧ T' 0 50 = -1 ∧ T' 0 51 = 0 ∧ (¬ S' 16 6 = 0 → T' 0 49 = S' 16 7) ∧ ¬ S 15 3 = 3) ∨
   (S' 16 8 = 1 ∧ T' 0 50 = S' 16 9 ∧ inD (S' 16 9) ∧ T' 0 51 = 0 ∧ T' 0 49 = rdv (T 3) (S' 16 9) (S' 16 10) ∧ S 15 3 = 3) ∨
   (S' 16 8 = 2 ∧ T' 0 50 = S' 16 9 ∧ inD (S' 16 9) ∧ T' 0 51 = 1 ∧ S' 16 6 = 0 ∧ T' 0 52 = mrg (T 3) (S' 16 9) (S' 16 10) (S' 16 11) ∧ ¬ S 15 3 = 3))
/-- a trap -/
def MT (S S' T T' : St) : Prop := S' 16 15 = 1 ∧ S' 3 = S 3 ∧ T' 4 = T 4 ∧ T' 0 45 = S' 16 16 ∧ 0 ≤ S' 16 16 ∧ T' 0 46 = S' 16 17
def MX (S S' T T' : St) : Prop := okS S S' ∧ okT T T' ∧ (MT S S' T T' ∨ MK S S' T T')
def uA (o f : Int32) : Prop := ¬ (o = 55 ∨ o = 23 ∨ o = 111 ∨ o = 15 ∨ (o = 115 ∧ (f = 0 ∨ ¬ f ≤ 4)))
def uB (o : Int32) : Prop := o = 99 ∨ o = 35 ∨ o = 51
/-- the coming one's row is its word's parts -/
def DEC (S : St) : Prop := S 15 3 = wOp (S 15 2) ∧ S 15 4 = wRd (S 15 2) ∧ S 15 5 = wF (S 15 2) ∧ S 15 6 = wA (S 15 2) ∧ S 15 7 = wB (S 15 2) ∧ S 15 8 = wG (S 15 2)
def RS (S : St) : Prop := S 16 2 = 1 ∧ S 16 6 = 0 ∧ S 16 8 = 0 ∧ S 16 12 = S 15 0 + 4 ∧ S 16 13 = 0 ∧ S 16 14 = 0 ∧ S 16 15 = 0
def RT (T : St) : Prop := T 0 45 = -1 ∧ T 0 47 = T 0 6 + 4 ∧ T 0 48 = 0 ∧ T 0 50 = -1 ∧ T 0 51 = 0 ∧ T 0 53 = 0 ∧ T 0 54 = 0 ∧ T 0 55 = 0
def HX (S T : St) (a b : Int32) : Prop := T 0 44 = S 15 2 ∧ T 0 6 = S 15 0 ∧ DEC S ∧ S 15 0 &&& 3 = 0 ∧ S 3 = T 4 ∧ okC (T 4) ∧ RS S ∧ RT T ∧ (uA (S 15 3) (S 15 5) → a = T 2 (wA (S 15 2)).toNatClampNeg) ∧ (uB (S 15 3) → b = T 2 (wB (S 15 2)).toNatClampNeg)
theorem al_iff (x : Int32) : x &&& 3 = 0 ↔ x.toBitVec.toNat % 4 = 0 := by
  constructor
  · intro h
    have := and_nat x 3 2 (by decide)
    rw [h] at this
    exact this.symm
  · intro h
    exact i32_nat (by rw [and_nat x 3 2 (by decide)]; exact h)
theorem al_add {x y : Int32} (hx : x &&& 3 = 0) (hy : y &&& 3 = 0) : (x + y) &&& 3 = 0 := by
  rw [al_iff] at hx hy ⊢
  show (x.toBitVec + y.toBitVec).toNat % 4 = 0
  rw [BitVec.toNat_add]
  omega
theorem al_and (x : Int32) : (x &&& (-4)) &&& 3 = 0 := by
  rw [Int32.and_assoc]
  have : (-4 : Int32) &&& 3 = 0 := by decide
  rw [this]
  exact Int32.and_zero
/-- a register's new number, nothing else -/
theorem mk_reg {S T S' T' : St} {a b : Int32} (h : HX S T a b) (hS : okS S S') (hT : okT T T') (c : S' 3 = T' 4) (c4 : okC (T' 4)) (s15 : S' 16 15 = S 16 15) (t45 : T' 0 45 = T 0 45) (rd : T' 0 48 = S' 16 6) (hin : vp_in (S' 16 6) 32) (s13 : S' 16 13 = S 16 13) (t54 : T' 0 54 = T 0 54) (s14 : S' 16 14 = S 16 14) (t55 : T' 0 55 = T 0 55) (s12 : S' 16 12 = S 16 12) (t47 : T' 0 47 = T 0 47) (t53 : T' 0 53 = jmpr (S 15 3)) (eff : S' 16 2 = effF (S 15 3) (S 15 8) (S 15 5)) (s8 : S' 16 8 = S 16 8) (t50 : T' 0 50 = T 0 50) (t51 : T' 0 51 = T 0 51) (val : ¬ S' 16 6 = 0 → T' 0 49 = S' 16 7) (op3 : ¬ S 15 3 = 3) : MX S S' T T' := by
  obtain ⟨hw, hpc, hd, hal, hC, hRA, ⟨r2, r6, r8, r12, r13, r14, r15⟩, ⟨q45, q47, q48, q50, q51, q53, q54, q55⟩, hA, hB⟩ := h
  refine ⟨hS, hT, Or.inr ⟨by rw [s15, r15], by rw [t45, q45], rd, hin, by rw [t54, s13, q54, r13], by rw [s13, r13]; exact isB_0, by rw [t55, s14, q55, r14], Or.inl ⟨by rw [s14, r14], by rw [s12, t47, r12, q47, hpc], c⟩, t53, ?_, eff, c4, Or.inl ⟨by rw [s8, r8], by rw [t50, q50], by rw [t51, q51], val, op3⟩⟩⟩
  rw [s12, r12]
  exact al_add hal (by decide)
theorem mk_trap {S T S' T' : St} (hS : okS S S') (hT : okT T T') (s15 : S' 16 15 = 1) (c : S' 3 = S 3) (c4 : T' 4 = T 4) (t45 : T' 0 45 = S' 16 16) (hc : 0 ≤ S' 16 16) (t46 : T' 0 46 = S' 16 17) : MX S S' T T' := ⟨hS, hT, Or.inl ⟨s15, c, c4, t45, hc, t46⟩⟩
theorem e_setR (S : St) (r v : Int32) : evV (wp_Eff_setRegister S r v) (st (st S 16 6 r) 16 7 v) := fun K k => by
  unfold wp_Eff_setRegister
  intro S1 e1 S2 e2
  subst e1 e2
  exact k
theorem e_trapK (S : St) (c v : Int32) : evV (wp_Eff_trap S c v) (st (st (st S 16 15 1) 16 16 c) 16 17 v) := fun K k => by
  unfold wp_Eff_trap
  intro S1 e1 S2 e2 S3 e3
  subst e1 e2 e3
  exact k
theorem e_refuse (S : St) : evV (wp_Exe_refuse S) (st (st (st S 16 15 1) 16 16 2) 16 17 (S 15 2)) := fun K k => by
  unfold wp_Exe_refuse
  exact e_trapK S 2 (S 15 2) _ k
theorem e_illegal (T : St) : evV (wp_M_illegal T) (st (st T 0 45 2) 0 46 (T 0 44)) := fun K k => by
  unfold wp_M_illegal
  intro S1 e1 S2 e2
  subst e1 e2
  exact k
theorem mx_ill {S S0 T T0 : St} {a b : Int32} (h : HX S T a b) (h0 : okS S S0) (h1 : okT T T0) (hw : T0 0 44 = S0 15 2) (c : S0 3 = S 3) (c4 : T0 4 = T 4) : MX S (st (st (st S0 16 15 1) 16 16 2) 16 17 (S0 15 2)) T (st (st T0 0 45 2) 0 46 (T0 0 44)) :=
  mk_trap (okS_16 (by decide) (okS_16 (by decide) (okS_16 (by decide) h0))) (okT_0 (by decide) (okT_0 (by decide) h1)) rfl c c4 rfl (show (0 : Int32) ≤ 2 by decide) hw
def mks (o : Int32) : Prop := o = 55 ∨ o = 23 ∨ o = 111 ∨ o = 103 ∨ o = 3 ∨ o = 19 ∨ o = 51
theorem e_dec1 {T : St} {K : St → Prop} (hm : mks (wOp (T 0 44))) (h : wp_M_decide_68 K T (wOp (T 0 44)) (wRd (T 0 44))) : wp_M_decide T K := by
  have k : wp_M_decide_46 K T (wOp (T 0 44)) := by
    unfold wp_M_decide_46 wp_M_decide_51
    rw [if_neg (by decide)]
    exact e_rd T _ h
  unfold wp_M_decide
  refine e_op T _ ?_
  repeat' split
  all_goals first | exact k | skip
  exfalso
  rcases hm with h | h | h | h | h | h | h <;> contradiction
theorem e_dec0 {T : St} {K : St → Prop} (hm : ¬ mks (wOp (T 0 44))) (h : wp_M_decide_68 K T (wOp (T 0 44)) 0) : wp_M_decide T K := by
  unfold wp_M_decide
  refine e_op T _ ?_
  have n := hm
  unfold mks at n
  simp only [not_or] at n
  obtain ⟨n1, n2, n3, n4, n5, n6, n7⟩ := n
  rw [if_neg n1, if_neg n2, if_neg n3, if_neg n4, if_neg n5, if_neg n6, if_neg n7]
  unfold wp_M_decide_51
  rw [if_pos rfl]
  exact h
