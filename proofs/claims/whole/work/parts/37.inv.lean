/-! what a walk without loops gives: one state -/
def Inv (F : (St → Prop) → Prop) : Prop := ∀ P, F P → ∃ S, P S ∧ ∀ K : St → Prop, K S → F K
def InvI (F : (Int32 → St → Prop) → Prop) : Prop := ∀ P, F P → ∃ r S, P r S ∧ ∀ K : Int32 → St → Prop, K r S → F K
theorem iv_ret (S : St) : Inv (fun K => K S) := fun _ h => ⟨S, h, fun _ k => k⟩
theorem iv_ite {c : Prop} {d : Decidable c} {A B : (St → Prop) → Prop} (a : Inv A) (b : Inv B) : Inv (fun K => @ite Prop c d (A K) (B K)) := fun P h => by
  replace h : @ite Prop c d (A P) (B P) := h
  by_cases hc : c
  · rw [if_pos hc] at h
    obtain ⟨S, p, f⟩ := a P h
    exact ⟨S, p, fun K k => it hc (f K k)⟩
  · rw [if_neg hc] at h
    obtain ⟨S, p, f⟩ := b P h
    exact ⟨S, p, fun K k => ie hc (f K k)⟩
theorem iv_and {c : Prop} {B : (St → Prop) → Prop} (b : Inv B) : Inv (fun K => c ∧ B K) := fun P h => by
  obtain ⟨S, p, f⟩ := b P h.2
  exact ⟨S, p, fun K k => ⟨h.1, f K k⟩⟩
theorem iv_all {α : Type} {e : α} {B : α → (St → Prop) → Prop} (b : Inv (B e)) : Inv (fun K => ∀ S1 : α, S1 = e → B S1 K) := fun P h => by
  obtain ⟨S, p, f⟩ := b P (h e rfl)
  exact ⟨S, p, fun K k S1 e1 => by rw [e1]; exact f K k⟩
theorem iv_cI {W : (Int32 → St → Prop) → Prop} (w : InvI W) {B : Int32 → St → (St → Prop) → Prop} (b : ∀ r S, Inv (B r S)) : Inv (fun K => W (fun r S => B r S K)) := fun P h => by
  obtain ⟨r1, S1, p1, f1⟩ := w _ h
  obtain ⟨S, p, f⟩ := b r1 S1 P p1
  exact ⟨S, p, fun K k => f1 _ (f K k)⟩
theorem iv_cV {W : (St → Prop) → Prop} (w : Inv W) {B : St → (St → Prop) → Prop} (b : ∀ S, Inv (B S)) : Inv (fun K => W (fun S => B S K)) := fun P h => by
  obtain ⟨S1, p1, f1⟩ := w _ h
  obtain ⟨S, p, f⟩ := b S1 P p1
  exact ⟨S, p, fun K k => f1 _ (f K k)⟩
theorem ii_ret (r : Int32) (S : St) : InvI (fun K => K r S) := fun _ h => ⟨r, S, h, fun _ k => k⟩
theorem ii_ite {c : Prop} {d : Decidable c} {A B : (Int32 → St → Prop) → Prop} (a : InvI A) (b : InvI B) : InvI (fun K => @ite Prop c d (A K) (B K)) := fun P h => by
  replace h : @ite Prop c d (A P) (B P) := h
  by_cases hc : c
  · rw [if_pos hc] at h
    obtain ⟨r, S, p, f⟩ := a P h
    exact ⟨r, S, p, fun K k => it hc (f K k)⟩
  · rw [if_neg hc] at h
    obtain ⟨r, S, p, f⟩ := b P h
    exact ⟨r, S, p, fun K k => ie hc (f K k)⟩
theorem ii_and {c : Prop} {B : (Int32 → St → Prop) → Prop} (b : InvI B) : InvI (fun K => c ∧ B K) := fun P h => by
  obtain ⟨r, S, p, f⟩ := b P h.2
  exact ⟨r, S, p, fun K k => ⟨h.1, f K k⟩⟩
theorem ii_all {α : Type} {e : α} {B : α → (Int32 → St → Prop) → Prop} (b : InvI (B e)) : InvI (fun K => ∀ S1 : α, S1 = e → B S1 K) := fun P h => by
  obtain ⟨r, S, p, f⟩ := b P (h e rfl)
  exact ⟨r, S, p, fun K k S1 e1 => by rw [e1]; exact f K k⟩
theorem ii_cI {W : (Int32 → St → Prop) → Prop} (w : InvI W) {B : Int32 → St → (Int32 → St → Prop) → Prop} (b : ∀ r S, InvI (B r S)) : InvI (fun K => W (fun r S => B r S K)) := fun P h => by
  obtain ⟨r1, S1, p1, f1⟩ := w _ h
  obtain ⟨r, S, p, f⟩ := b r1 S1 P p1
  exact ⟨r, S, p, fun K k => f1 _ (f K k)⟩
theorem ii_cV {W : (St → Prop) → Prop} (w : Inv W) {B : St → (Int32 → St → Prop) → Prop} (b : ∀ S, InvI (B S)) : InvI (fun K => W (fun S => B S K)) := fun P h => by
  obtain ⟨S1, p1, f1⟩ := w _ h
  obtain ⟨r, S, p, f⟩ := b S1 P p1
  exact ⟨r, S, p, fun K k => f1 _ (f K k)⟩
theorem inv_wp_Sto_has_19 (S : St) (k0 : Int32) : InvI (fun K => wp_Sto_has_19 K S k0) := by
  unfold wp_Sto_has_19
  repeat' (first | with_reducible refine ii_ite ?_ ?_ | with_reducible refine ii_and ?_ | with_reducible refine ii_all ?_ | with_reducible exact ii_ret _ _)
theorem inv_wp_Sto_has_18 (S : St) : InvI (fun K => wp_Sto_has_18 K S) := by
  unfold wp_Sto_has_18
  repeat' (first | with_reducible exact inv_wp_Sto_has_19 _ _ | with_reducible refine ii_ite ?_ ?_ | with_reducible refine ii_and ?_ | with_reducible refine ii_all ?_ | with_reducible exact ii_ret _ _)
theorem inv_wp_Sto_has (S : St) (p1 : Int32) : InvI (fun K => wp_Sto_has S p1 K) := by
  unfold wp_Sto_has
  repeat' (first | with_reducible exact inv_wp_Sto_has_18 _ | with_reducible exact inv_wp_Sto_has_19 _ _ | with_reducible refine ii_ite ?_ ?_ | with_reducible refine ii_and ?_ | with_reducible refine ii_all ?_ | with_reducible exact ii_ret _ _)
theorem inv_wp_Ins_numberU (S : St) : InvI (fun K => wp_Ins_numberU S K) := by
  unfold wp_Ins_numberU
  repeat' (first | with_reducible refine ii_ite ?_ ?_ | with_reducible refine ii_and ?_ | with_reducible refine ii_all ?_ | with_reducible exact ii_ret _ _)
theorem inv_wp_Eff_setRegister (S : St) (p1 : Int32) (p2 : Int32) : Inv (fun K => wp_Eff_setRegister S p1 p2 K) := by
  unfold wp_Eff_setRegister
  repeat' (first | with_reducible refine iv_ite ?_ ?_ | with_reducible refine iv_and ?_ | with_reducible refine iv_all ?_ | with_reducible exact iv_ret _)
theorem inv_wp_Ins_numberJ (S : St) : InvI (fun K => wp_Ins_numberJ S K) := by
  unfold wp_Ins_numberJ
  repeat' (first | with_reducible refine ii_ite ?_ ?_ | with_reducible refine ii_and ?_ | with_reducible refine ii_all ?_ | with_reducible exact ii_ret _ _)
theorem inv_wp_Eff_trap (S : St) (p1 : Int32) (p2 : Int32) : Inv (fun K => wp_Eff_trap S p1 p2 K) := by
  unfold wp_Eff_trap
  repeat' (first | with_reducible refine iv_ite ?_ ?_ | with_reducible refine iv_and ?_ | with_reducible refine iv_all ?_ | with_reducible exact iv_ret _)
theorem inv_wp_Eff_jump (S : St) (p1 : Int32) : Inv (fun K => wp_Eff_jump S p1 K) := by
  unfold wp_Eff_jump
  repeat' (first | with_reducible (refine iv_cV (inv_wp_Eff_trap _ _ _) ?_; intros) | with_reducible exact inv_wp_Eff_trap _ _ _ | with_reducible refine iv_ite ?_ ?_ | with_reducible refine iv_and ?_ | with_reducible refine iv_all ?_ | with_reducible exact iv_ret _)
theorem inv_wp_Exe_jump (S : St) (p1 : Int32) : Inv (fun K => wp_Exe_jump S p1 K) := by
  unfold wp_Exe_jump
  repeat' (first | with_reducible (refine iv_cV (inv_wp_Eff_setRegister _ _ _) ?_; intros) | with_reducible exact inv_wp_Eff_setRegister _ _ _ | with_reducible (refine iv_cV (inv_wp_Eff_jump _ _) ?_; intros) | with_reducible exact inv_wp_Eff_jump _ _ | with_reducible refine iv_ite ?_ ?_ | with_reducible refine iv_and ?_ | with_reducible refine iv_all ?_ | with_reducible exact iv_ret _)
theorem inv_wp_Ins_numberI (S : St) : InvI (fun K => wp_Ins_numberI S K) := by
  unfold wp_Ins_numberI
  repeat' (first | with_reducible refine ii_ite ?_ ?_ | with_reducible refine ii_and ?_ | with_reducible refine ii_all ?_ | with_reducible exact ii_ret _ _)
theorem inv_wp_Exe_refuse (S : St) : Inv (fun K => wp_Exe_refuse S K) := by
  unfold wp_Exe_refuse
  repeat' (first | with_reducible (refine iv_cV (inv_wp_Eff_trap _ _ _) ?_; intros) | with_reducible exact inv_wp_Eff_trap _ _ _ | with_reducible refine iv_ite ?_ ?_ | with_reducible refine iv_and ?_ | with_reducible refine iv_all ?_ | with_reducible exact iv_ret _)
theorem inv_wp_Ari_lessWithoutSigns_21 (S : St) (k0 : Int32) : InvI (fun K => wp_Ari_lessWithoutSigns_21 K S k0) := by
  unfold wp_Ari_lessWithoutSigns_21
  repeat' (first | with_reducible refine ii_ite ?_ ?_ | with_reducible refine ii_and ?_ | with_reducible refine ii_all ?_ | with_reducible exact ii_ret _ _)
theorem inv_wp_Ari_lessWithoutSigns (S : St) (p1 : Int32) (p2 : Int32) : InvI (fun K => wp_Ari_lessWithoutSigns S p1 p2 K) := by
  unfold wp_Ari_lessWithoutSigns
  repeat' (first | with_reducible exact inv_wp_Ari_lessWithoutSigns_21 _ _ | with_reducible refine ii_ite ?_ ?_ | with_reducible refine ii_and ?_ | with_reducible refine ii_all ?_ | with_reducible exact ii_ret _ _)
theorem inv_wp_Exe_conditionHolds_54 (S : St) (k0 : Int32) : InvI (fun K => wp_Exe_conditionHolds_54 K S k0) := by
  unfold wp_Exe_conditionHolds_54
  repeat' (first | with_reducible refine ii_ite ?_ ?_ | with_reducible refine ii_and ?_ | with_reducible refine ii_all ?_ | with_reducible exact ii_ret _ _)
theorem inv_wp_Exe_conditionHolds_65 (S : St) (k0 : Int32) : InvI (fun K => wp_Exe_conditionHolds_65 K S k0) := by
  unfold wp_Exe_conditionHolds_65
  repeat' (first | with_reducible refine ii_ite ?_ ?_ | with_reducible refine ii_and ?_ | with_reducible refine ii_all ?_ | with_reducible exact ii_ret _ _)
theorem inv_wp_Exe_conditionHolds_76 (S : St) (k0 : Int32) : InvI (fun K => wp_Exe_conditionHolds_76 K S k0) := by
  unfold wp_Exe_conditionHolds_76
  repeat' (first | with_reducible refine ii_ite ?_ ?_ | with_reducible refine ii_and ?_ | with_reducible refine ii_all ?_ | with_reducible exact ii_ret _ _)
theorem inv_wp_Exe_conditionHolds_87 (S : St) (k0 : Int32) : InvI (fun K => wp_Exe_conditionHolds_87 K S k0) := by
  unfold wp_Exe_conditionHolds_87
  repeat' (first | with_reducible refine ii_ite ?_ ?_ | with_reducible refine ii_and ?_ | with_reducible refine ii_all ?_ | with_reducible exact ii_ret _ _)
theorem inv_wp_Exe_conditionHolds_107 (S : St) (k0 : Int32) : InvI (fun K => wp_Exe_conditionHolds_107 K S k0) := by
  unfold wp_Exe_conditionHolds_107
  repeat' (first | with_reducible refine ii_ite ?_ ?_ | with_reducible refine ii_and ?_ | with_reducible refine ii_all ?_ | with_reducible exact ii_ret _ _)
theorem inv_wp_Exe_conditionHolds (S : St) (p1 : Int32) (p2 : Int32) (p3 : Int32) : InvI (fun K => wp_Exe_conditionHolds S p1 p2 p3 K) := by
  unfold wp_Exe_conditionHolds
  repeat' (first | with_reducible exact inv_wp_Exe_conditionHolds_54 _ _ | with_reducible exact inv_wp_Exe_conditionHolds_65 _ _ | with_reducible (refine ii_cI (inv_wp_Ari_lessWithoutSigns _ _ _) ?_; intros) | with_reducible exact inv_wp_Ari_lessWithoutSigns _ _ _ | with_reducible exact inv_wp_Exe_conditionHolds_107 _ _ | with_reducible exact inv_wp_Exe_conditionHolds_76 _ _ | with_reducible exact inv_wp_Exe_conditionHolds_87 _ _ | with_reducible refine ii_ite ?_ ?_ | with_reducible refine ii_and ?_ | with_reducible refine ii_all ?_ | with_reducible exact ii_ret _ _)
theorem inv_wp_Ins_numberB (S : St) : InvI (fun K => wp_Ins_numberB S K) := by
  unfold wp_Ins_numberB
  repeat' (first | with_reducible refine ii_ite ?_ ?_ | with_reducible refine ii_and ?_ | with_reducible refine ii_all ?_ | with_reducible exact ii_ret _ _)
theorem inv_wp_Exe_branch_49 (S : St) : Inv (fun K => wp_Exe_branch_49 K S) := by
  unfold wp_Exe_branch_49
  repeat' (first | with_reducible refine iv_ite ?_ ?_ | with_reducible refine iv_and ?_ | with_reducible refine iv_all ?_ | with_reducible exact iv_ret _)
theorem inv_wp_Exe_branch_16 (S : St) : Inv (fun K => wp_Exe_branch_16 K S) := by
  unfold wp_Exe_branch_16
  repeat' (first | with_reducible (refine iv_cV (inv_wp_Exe_refuse _) ?_; intros) | with_reducible exact inv_wp_Exe_refuse _ | with_reducible exact inv_wp_Exe_branch_49 _ | with_reducible refine iv_ite ?_ ?_ | with_reducible refine iv_and ?_ | with_reducible refine iv_all ?_ | with_reducible exact iv_ret _)
theorem inv_wp_Exe_branch (S : St) (p1 : Int32) (p2 : Int32) : Inv (fun K => wp_Exe_branch S p1 p2 K) := by
  unfold wp_Exe_branch
  repeat' (first | with_reducible exact inv_wp_Exe_branch_16 _ | with_reducible (refine iv_cI (inv_wp_Exe_conditionHolds _ _ _ _) ?_; intros) | with_reducible exact inv_wp_Exe_conditionHolds _ _ _ _ | with_reducible exact inv_wp_Exe_branch_49 _ | with_reducible (refine iv_cI (inv_wp_Ins_numberB _) ?_; intros) | with_reducible exact inv_wp_Ins_numberB _ | with_reducible (refine iv_cV (inv_wp_Eff_jump _ _) ?_; intros) | with_reducible exact inv_wp_Eff_jump _ _ | with_reducible refine iv_ite ?_ ?_ | with_reducible refine iv_and ?_ | with_reducible refine iv_all ?_ | with_reducible exact iv_ret _)
theorem inv_wp_Sto_isStraight_17 (S : St) (k0 : Int32) : InvI (fun K => wp_Sto_isStraight_17 K S k0) := by
  unfold wp_Sto_isStraight_17
  repeat' (first | with_reducible refine ii_ite ?_ ?_ | with_reducible refine ii_and ?_ | with_reducible refine ii_all ?_ | with_reducible exact ii_ret _ _)
theorem inv_wp_Sto_isStraight (S : St) (p1 : Int32) (p2 : Int32) : InvI (fun K => wp_Sto_isStraight S p1 p2 K) := by
  unfold wp_Sto_isStraight
  repeat' (first | with_reducible exact inv_wp_Sto_isStraight_17 _ _ | with_reducible refine ii_ite ?_ ?_ | with_reducible refine ii_and ?_ | with_reducible refine ii_all ?_ | with_reducible exact ii_ret _ _)
theorem inv_wp_Exe_read_86 (S : St) : Inv (fun K => wp_Exe_read_86 K S) := by
  unfold wp_Exe_read_86
  repeat' (first | with_reducible refine iv_ite ?_ ?_ | with_reducible refine iv_and ?_ | with_reducible refine iv_all ?_ | with_reducible exact iv_ret _)
theorem inv_wp_Exe_read_16 (S : St) : Inv (fun K => wp_Exe_read_16 K S) := by
  unfold wp_Exe_read_16
  repeat' (first | with_reducible (refine iv_cV (inv_wp_Exe_refuse _) ?_; intros) | with_reducible exact inv_wp_Exe_refuse _ | with_reducible exact inv_wp_Exe_read_86 _ | with_reducible refine iv_ite ?_ ?_ | with_reducible refine iv_and ?_ | with_reducible refine iv_all ?_ | with_reducible exact iv_ret _)
theorem inv_wp_Exe_read (S : St) (p1 : Int32) : Inv (fun K => wp_Exe_read S p1 K) := by
  unfold wp_Exe_read
  repeat' (first | with_reducible exact inv_wp_Exe_read_16 _ | with_reducible (refine iv_cI (inv_wp_Sto_isStraight _ _ _) ?_; intros) | with_reducible exact inv_wp_Sto_isStraight _ _ _ | with_reducible (refine iv_cV (inv_wp_Eff_trap _ _ _) ?_; intros) | with_reducible exact inv_wp_Eff_trap _ _ _ | with_reducible exact inv_wp_Exe_read_86 _ | with_reducible (refine iv_cI (inv_wp_Sto_has _ _) ?_; intros) | with_reducible exact inv_wp_Sto_has _ _ | with_reducible refine iv_ite ?_ ?_ | with_reducible refine iv_and ?_ | with_reducible refine iv_all ?_ | with_reducible exact iv_ret _)
theorem inv_wp_Ins_numberS (S : St) : InvI (fun K => wp_Ins_numberS S K) := by
  unfold wp_Ins_numberS
  repeat' (first | with_reducible refine ii_ite ?_ ?_ | with_reducible refine ii_and ?_ | with_reducible refine ii_all ?_ | with_reducible exact ii_ret _ _)
theorem inv_wp_Exe_write_77 (S : St) : Inv (fun K => wp_Exe_write_77 K S) := by
  unfold wp_Exe_write_77
  repeat' (first | with_reducible refine iv_ite ?_ ?_ | with_reducible refine iv_and ?_ | with_reducible refine iv_all ?_ | with_reducible exact iv_ret _)
theorem inv_wp_Exe_write (S : St) (p1 : Int32) (p2 : Int32) : Inv (fun K => wp_Exe_write S p1 p2 K) := by
  unfold wp_Exe_write
  repeat' (first | with_reducible (refine iv_cI (inv_wp_Sto_isStraight _ _ _) ?_; intros) | with_reducible exact inv_wp_Sto_isStraight _ _ _ | with_reducible (refine iv_cV (inv_wp_Eff_trap _ _ _) ?_; intros) | with_reducible exact inv_wp_Eff_trap _ _ _ | with_reducible exact inv_wp_Exe_write_77 _ | with_reducible (refine iv_cI (inv_wp_Sto_has _ _) ?_; intros) | with_reducible exact inv_wp_Sto_has _ _ | with_reducible (refine iv_cV (inv_wp_Exe_refuse _) ?_; intros) | with_reducible exact inv_wp_Exe_refuse _ | with_reducible refine iv_ite ?_ ?_ | with_reducible refine iv_and ?_ | with_reducible refine iv_all ?_ | with_reducible exact iv_ret _)
theorem inv_wp_Ari_plain_65 (S : St) (k0 : Int32) : InvI (fun K => wp_Ari_plain_65 K S k0) := by
  unfold wp_Ari_plain_65
  repeat' (first | with_reducible refine ii_ite ?_ ?_ | with_reducible refine ii_and ?_ | with_reducible refine ii_all ?_ | with_reducible exact ii_ret _ _)
theorem inv_wp_Ari_plain_79 (S : St) (k0 : Int32) : InvI (fun K => wp_Ari_plain_79 K S k0) := by
  unfold wp_Ari_plain_79
  repeat' (first | with_reducible refine ii_ite ?_ ?_ | with_reducible refine ii_and ?_ | with_reducible refine ii_all ?_ | with_reducible exact ii_ret _ _)
theorem inv_wp_Ari_plain (S : St) (p1 : Int32) (p2 : Int32) (p3 : Int32) : InvI (fun K => wp_Ari_plain S p1 p2 p3 K) := by
  unfold wp_Ari_plain
  repeat' (first | with_reducible exact inv_wp_Ari_plain_65 _ _ | with_reducible (refine ii_cI (inv_wp_Ari_lessWithoutSigns _ _ _) ?_; intros) | with_reducible exact inv_wp_Ari_lessWithoutSigns _ _ _ | with_reducible exact inv_wp_Ari_plain_79 _ _ | with_reducible refine ii_ite ?_ ?_ | with_reducible refine ii_and ?_ | with_reducible refine ii_all ?_ | with_reducible exact ii_ret _ _)
theorem inv_wp_Exe_computeWithNumber_95 (S : St) : Inv (fun K => wp_Exe_computeWithNumber_95 K S) := by
  unfold wp_Exe_computeWithNumber_95
  repeat' (first | with_reducible refine iv_ite ?_ ?_ | with_reducible refine iv_and ?_ | with_reducible refine iv_all ?_ | with_reducible exact iv_ret _)
theorem inv_wp_Exe_computeWithNumber_33 (S : St) (v1 : Int32) : Inv (fun K => wp_Exe_computeWithNumber_33 K S v1) := by
  unfold wp_Exe_computeWithNumber_33
  repeat' (first | with_reducible (refine iv_cI (inv_wp_Ins_numberI _) ?_; intros) | with_reducible exact inv_wp_Ins_numberI _ | with_reducible (refine iv_cI (inv_wp_Ari_plain _ _ _ _) ?_; intros) | with_reducible exact inv_wp_Ari_plain _ _ _ _ | with_reducible (refine iv_cV (inv_wp_Eff_setRegister _ _ _) ?_; intros) | with_reducible exact inv_wp_Eff_setRegister _ _ _ | with_reducible exact inv_wp_Exe_computeWithNumber_95 _ | with_reducible refine iv_ite ?_ ?_ | with_reducible refine iv_and ?_ | with_reducible refine iv_all ?_ | with_reducible exact iv_ret _)
theorem inv_wp_Exe_computeWithNumber_90 (S : St) : Inv (fun K => wp_Exe_computeWithNumber_90 K S) := by
  unfold wp_Exe_computeWithNumber_90
  repeat' (first | with_reducible (refine iv_cV (inv_wp_Exe_refuse _) ?_; intros) | with_reducible exact inv_wp_Exe_refuse _ | with_reducible exact inv_wp_Exe_computeWithNumber_95 _ | with_reducible refine iv_ite ?_ ?_ | with_reducible refine iv_and ?_ | with_reducible refine iv_all ?_ | with_reducible exact iv_ret _)
theorem inv_wp_Exe_computeWithNumber_21 (S : St) (v1 : Int32) (k0 : Int32) : Inv (fun K => wp_Exe_computeWithNumber_21 K S v1 k0) := by
  unfold wp_Exe_computeWithNumber_21
  repeat' (first | with_reducible exact inv_wp_Exe_computeWithNumber_33 _ _ | with_reducible (refine iv_cV (inv_wp_Eff_setRegister _ _ _) ?_; intros) | with_reducible exact inv_wp_Eff_setRegister _ _ _ | with_reducible exact inv_wp_Exe_computeWithNumber_95 _ | with_reducible exact inv_wp_Exe_computeWithNumber_90 _ | with_reducible refine iv_ite ?_ ?_ | with_reducible refine iv_and ?_ | with_reducible refine iv_all ?_ | with_reducible exact iv_ret _)
theorem inv_wp_Exe_computeWithNumber_16 (S : St) (v1 : Int32) : Inv (fun K => wp_Exe_computeWithNumber_16 K S v1) := by
  unfold wp_Exe_computeWithNumber_16
  repeat' (first | with_reducible exact inv_wp_Exe_computeWithNumber_21 _ _ _ | with_reducible refine iv_ite ?_ ?_ | with_reducible refine iv_and ?_ | with_reducible refine iv_all ?_ | with_reducible exact iv_ret _)
theorem inv_wp_Exe_computeWithNumber (S : St) (p1 : Int32) : Inv (fun K => wp_Exe_computeWithNumber S p1 K) := by
  unfold wp_Exe_computeWithNumber
  repeat' (first | with_reducible exact inv_wp_Exe_computeWithNumber_16 _ _ | with_reducible exact inv_wp_Exe_computeWithNumber_21 _ _ _ | with_reducible refine iv_ite ?_ ?_ | with_reducible refine iv_and ?_ | with_reducible refine iv_all ?_ | with_reducible exact iv_ret _)
theorem inv_wp_Ari_product (S : St) (p1 : Int32) (p2 : Int32) (p3 : Int32) : InvI (fun K => wp_Ari_product S p1 p2 p3 K) := by
  unfold wp_Ari_product
  repeat' (first | with_reducible refine ii_ite ?_ ?_ | with_reducible refine ii_and ?_ | with_reducible refine ii_all ?_ | with_reducible exact ii_ret _ _)
theorem inv_wp_Ari_quotient_15 (S : St) (k0 : Int32) : InvI (fun K => wp_Ari_quotient_15 K S k0) := by
  unfold wp_Ari_quotient_15
  repeat' (first | with_reducible refine ii_ite ?_ ?_ | with_reducible refine ii_and ?_ | with_reducible refine ii_all ?_ | with_reducible exact ii_ret _ _)
theorem inv_wp_Ari_quotient (S : St) (p1 : Int32) (p2 : Int32) (p3 : Int32) : InvI (fun K => wp_Ari_quotient S p1 p2 p3 K) := by
  unfold wp_Ari_quotient
  repeat' (first | with_reducible exact inv_wp_Ari_quotient_15 _ _ | with_reducible refine ii_ite ?_ ?_ | with_reducible refine ii_and ?_ | with_reducible refine ii_all ?_ | with_reducible exact ii_ret _ _)
theorem inv_wp_Exe_computeWithRegister_171 (S : St) : Inv (fun K => wp_Exe_computeWithRegister_171 K S) := by
  unfold wp_Exe_computeWithRegister_171
  repeat' (first | with_reducible refine iv_ite ?_ ?_ | with_reducible refine iv_and ?_ | with_reducible refine iv_all ?_ | with_reducible exact iv_ret _)
theorem inv_wp_Exe_computeWithRegister_132 (S : St) (v1 : Int32) (v2 : Int32) : Inv (fun K => wp_Exe_computeWithRegister_132 K S v1 v2) := by
  unfold wp_Exe_computeWithRegister_132
  repeat' (first | with_reducible (refine iv_cI (inv_wp_Ari_quotient _ _ _ _) ?_; intros) | with_reducible exact inv_wp_Ari_quotient _ _ _ _ | with_reducible (refine iv_cV (inv_wp_Eff_setRegister _ _ _) ?_; intros) | with_reducible exact inv_wp_Eff_setRegister _ _ _ | with_reducible exact inv_wp_Exe_computeWithRegister_171 _ | with_reducible (refine iv_cV (inv_wp_Exe_refuse _) ?_; intros) | with_reducible exact inv_wp_Exe_refuse _ | with_reducible refine iv_ite ?_ ?_ | with_reducible refine iv_and ?_ | with_reducible refine iv_all ?_ | with_reducible exact iv_ret _)
theorem inv_wp_Exe_computeWithRegister_91 (S : St) (v1 : Int32) (v2 : Int32) : Inv (fun K => wp_Exe_computeWithRegister_91 K S v1 v2) := by
  unfold wp_Exe_computeWithRegister_91
  repeat' (first | with_reducible exact inv_wp_Exe_computeWithRegister_132 _ _ _ | with_reducible (refine iv_cI (inv_wp_Ari_product _ _ _ _) ?_; intros) | with_reducible exact inv_wp_Ari_product _ _ _ _ | with_reducible (refine iv_cV (inv_wp_Eff_setRegister _ _ _) ?_; intros) | with_reducible exact inv_wp_Eff_setRegister _ _ _ | with_reducible exact inv_wp_Exe_computeWithRegister_171 _ | with_reducible refine iv_ite ?_ ?_ | with_reducible refine iv_and ?_ | with_reducible refine iv_all ?_ | with_reducible exact iv_ret _)
theorem inv_wp_Exe_computeWithRegister_57 (S : St) (v1 : Int32) (v2 : Int32) : Inv (fun K => wp_Exe_computeWithRegister_57 K S v1 v2) := by
  unfold wp_Exe_computeWithRegister_57
  repeat' (first | with_reducible (refine iv_cV (inv_wp_Eff_setRegister _ _ _) ?_; intros) | with_reducible exact inv_wp_Eff_setRegister _ _ _ | with_reducible exact inv_wp_Exe_computeWithRegister_171 _ | with_reducible exact inv_wp_Exe_computeWithRegister_91 _ _ _ | with_reducible refine iv_ite ?_ ?_ | with_reducible refine iv_and ?_ | with_reducible refine iv_all ?_ | with_reducible exact iv_ret _)
theorem inv_wp_Exe_computeWithRegister (S : St) (p1 : Int32) (p2 : Int32) : Inv (fun K => wp_Exe_computeWithRegister S p1 p2 K) := by
  unfold wp_Exe_computeWithRegister
  repeat' (first | with_reducible (refine iv_cI (inv_wp_Ari_plain _ _ _ _) ?_; intros) | with_reducible exact inv_wp_Ari_plain _ _ _ _ | with_reducible (refine iv_cV (inv_wp_Eff_setRegister _ _ _) ?_; intros) | with_reducible exact inv_wp_Eff_setRegister _ _ _ | with_reducible exact inv_wp_Exe_computeWithRegister_171 _ | with_reducible exact inv_wp_Exe_computeWithRegister_57 _ _ _ | with_reducible refine iv_ite ?_ ?_ | with_reducible refine iv_and ?_ | with_reducible refine iv_all ?_ | with_reducible exact iv_ret _)
theorem inv_wp_Con_leaveTrap_21 (S : St) (k0 : Int32) : InvI (fun K => wp_Con_leaveTrap_21 K S k0) := by
  unfold wp_Con_leaveTrap_21
  repeat' (first | with_reducible refine ii_ite ?_ ?_ | with_reducible refine ii_and ?_ | with_reducible refine ii_all ?_ | with_reducible exact ii_ret _ _)
theorem inv_wp_Con_leaveTrap (S : St) : InvI (fun K => wp_Con_leaveTrap S K) := by
  unfold wp_Con_leaveTrap
  repeat' (first | with_reducible exact inv_wp_Con_leaveTrap_21 _ _ | with_reducible refine ii_ite ?_ ?_ | with_reducible refine ii_and ?_ | with_reducible refine ii_all ?_ | with_reducible exact ii_ret _ _)
theorem inv_wp_Exe_doWholeWord_91 (S : St) : Inv (fun K => wp_Exe_doWholeWord_91 K S) := by
  unfold wp_Exe_doWholeWord_91
  repeat' (first | with_reducible refine iv_ite ?_ ?_ | with_reducible refine iv_and ?_ | with_reducible refine iv_all ?_ | with_reducible exact iv_ret _)
theorem inv_wp_Exe_doWholeWord (S : St) : Inv (fun K => wp_Exe_doWholeWord S K) := by
  unfold wp_Exe_doWholeWord
  repeat' (first | with_reducible (refine iv_cV (inv_wp_Eff_trap _ _ _) ?_; intros) | with_reducible exact inv_wp_Eff_trap _ _ _ | with_reducible exact inv_wp_Exe_doWholeWord_91 _ | with_reducible (refine iv_cI (inv_wp_Con_leaveTrap _) ?_; intros) | with_reducible exact inv_wp_Con_leaveTrap _ | with_reducible (refine iv_cV (inv_wp_Exe_refuse _) ?_; intros) | with_reducible exact inv_wp_Exe_refuse _ | with_reducible refine iv_ite ?_ ?_ | with_reducible refine iv_and ?_ | with_reducible refine iv_all ?_ | with_reducible exact iv_ret _)
theorem inv_wp_Con_has (S : St) (p1 : Int32) : InvI (fun K => wp_Con_has S p1 K) := by
  unfold wp_Con_has
  repeat' (first | with_reducible refine ii_ite ?_ ?_ | with_reducible refine ii_and ?_ | with_reducible refine ii_all ?_ | with_reducible exact ii_ret _ _)
theorem inv_wp_Con_read (S : St) (p1 : Int32) : InvI (fun K => wp_Con_read S p1 K) := by
  unfold wp_Con_read
  repeat' (first | with_reducible refine ii_ite ?_ ?_ | with_reducible refine ii_and ?_ | with_reducible refine ii_all ?_ | with_reducible exact ii_ret _ _)
theorem inv_wp_Con_write_135 (S : St) : Inv (fun K => wp_Con_write_135 K S) := by
  unfold wp_Con_write_135
  repeat' (first | with_reducible refine iv_ite ?_ ?_ | with_reducible refine iv_and ?_ | with_reducible refine iv_all ?_ | with_reducible exact iv_ret _)
theorem inv_wp_Con_write (S : St) (p1 : Int32) (p2 : Int32) : Inv (fun K => wp_Con_write S p1 p2 K) := by
  unfold wp_Con_write
  repeat' (first | with_reducible exact inv_wp_Con_write_135 _ | with_reducible refine iv_ite ?_ ?_ | with_reducible refine iv_and ?_ | with_reducible refine iv_all ?_ | with_reducible exact iv_ret _)
theorem inv_wp_Exe_useControl_25 (S : St) : Inv (fun K => wp_Exe_useControl_25 K S) := by
  unfold wp_Exe_useControl_25
  repeat' (first | with_reducible (refine iv_cV (inv_wp_Exe_refuse _) ?_; intros) | with_reducible exact inv_wp_Exe_refuse _ | with_reducible refine iv_ite ?_ ?_ | with_reducible refine iv_and ?_ | with_reducible refine iv_all ?_ | with_reducible exact iv_ret _)
theorem inv_wp_Exe_useControl_138 (S : St) : Inv (fun K => wp_Exe_useControl_138 K S) := by
  unfold wp_Exe_useControl_138
  repeat' (first | with_reducible refine iv_ite ?_ ?_ | with_reducible refine iv_and ?_ | with_reducible refine iv_all ?_ | with_reducible exact iv_ret _)
theorem inv_wp_Exe_useControl_55 (S : St) (v4 : Int32) (v5 : Int32) (k0 : Int32) : Inv (fun K => wp_Exe_useControl_55 K S v4 v5 k0) := by
  unfold wp_Exe_useControl_55
  repeat' (first | with_reducible (refine iv_cV (inv_wp_Eff_setRegister _ _ _) ?_; intros) | with_reducible exact inv_wp_Eff_setRegister _ _ _ | with_reducible (refine iv_cV (inv_wp_Con_write _ _ _) ?_; intros) | with_reducible exact inv_wp_Con_write _ _ _ | with_reducible exact inv_wp_Exe_useControl_138 _ | with_reducible refine iv_ite ?_ ?_ | with_reducible refine iv_and ?_ | with_reducible refine iv_all ?_ | with_reducible exact iv_ret _)
theorem inv_wp_Exe_useControl (S : St) (p1 : Int32) : Inv (fun K => wp_Exe_useControl S p1 K) := by
  unfold wp_Exe_useControl
  repeat' (first | with_reducible exact inv_wp_Exe_useControl_25 _ | with_reducible (refine iv_cI (inv_wp_Con_has _ _) ?_; intros) | with_reducible exact inv_wp_Con_has _ _ | with_reducible (refine iv_cI (inv_wp_Con_read _ _) ?_; intros) | with_reducible exact inv_wp_Con_read _ _ | with_reducible exact inv_wp_Exe_useControl_55 _ _ _ _ | with_reducible refine iv_ite ?_ ?_ | with_reducible refine iv_and ?_ | with_reducible refine iv_all ?_ | with_reducible exact iv_ret _)
theorem inv_wp_Exe_perform_293 (S : St) : Inv (fun K => wp_Exe_perform_293 K S) := by
  unfold wp_Exe_perform_293
  repeat' (first | with_reducible refine iv_ite ?_ ?_ | with_reducible refine iv_and ?_ | with_reducible refine iv_all ?_ | with_reducible exact iv_ret _)
theorem inv_wp_Exe_perform (S : St) (p1 : Int32) (p2 : Int32) : Inv (fun K => wp_Exe_perform S p1 p2 K) := by
  unfold wp_Exe_perform
  repeat' (first | with_reducible (refine iv_cI (inv_wp_Ins_numberI _) ?_; intros) | with_reducible exact inv_wp_Ins_numberI _ | with_reducible (refine iv_cV (inv_wp_Exe_read _ _) ?_; intros) | with_reducible exact inv_wp_Exe_read _ _ | with_reducible exact inv_wp_Exe_perform_293 _ | with_reducible (refine iv_cV (inv_wp_Exe_computeWithNumber _ _) ?_; intros) | with_reducible exact inv_wp_Exe_computeWithNumber _ _ | with_reducible (refine iv_cI (inv_wp_Ins_numberU _) ?_; intros) | with_reducible exact inv_wp_Ins_numberU _ | with_reducible (refine iv_cV (inv_wp_Eff_setRegister _ _ _) ?_; intros) | with_reducible exact inv_wp_Eff_setRegister _ _ _ | with_reducible (refine iv_cI (inv_wp_Ins_numberS _) ?_; intros) | with_reducible exact inv_wp_Ins_numberS _ | with_reducible (refine iv_cV (inv_wp_Exe_write _ _ _) ?_; intros) | with_reducible exact inv_wp_Exe_write _ _ _ | with_reducible (refine iv_cV (inv_wp_Exe_computeWithRegister _ _ _) ?_; intros) | with_reducible exact inv_wp_Exe_computeWithRegister _ _ _ | with_reducible (refine iv_cV (inv_wp_Exe_branch _ _ _) ?_; intros) | with_reducible exact inv_wp_Exe_branch _ _ _ | with_reducible (refine iv_cV (inv_wp_Exe_jump _ _) ?_; intros) | with_reducible exact inv_wp_Exe_jump _ _ | with_reducible (refine iv_cV (inv_wp_Exe_refuse _) ?_; intros) | with_reducible exact inv_wp_Exe_refuse _ | with_reducible (refine iv_cI (inv_wp_Ins_numberJ _) ?_; intros) | with_reducible exact inv_wp_Ins_numberJ _ | with_reducible (refine iv_cV (inv_wp_Exe_doWholeWord _) ?_; intros) | with_reducible exact inv_wp_Exe_doWholeWord _ | with_reducible (refine iv_cV (inv_wp_Exe_useControl _ _) ?_; intros) | with_reducible exact inv_wp_Exe_useControl _ _ | with_reducible refine iv_ite ?_ ?_ | with_reducible refine iv_and ?_ | with_reducible refine iv_all ?_ | with_reducible exact iv_ret _)
theorem inv_wp_M_isData_19 (S : St) (k0 : Int32) : InvI (fun K => wp_M_isData_19 K S k0) := by
  unfold wp_M_isData_19
  repeat' (first | with_reducible refine ii_ite ?_ ?_ | with_reducible refine ii_and ?_ | with_reducible refine ii_all ?_ | with_reducible exact ii_ret _ _)
theorem inv_wp_M_isData_18 (S : St) : InvI (fun K => wp_M_isData_18 K S) := by
  unfold wp_M_isData_18
  repeat' (first | with_reducible exact inv_wp_M_isData_19 _ _ | with_reducible refine ii_ite ?_ ?_ | with_reducible refine ii_and ?_ | with_reducible refine ii_all ?_ | with_reducible exact ii_ret _ _)
theorem inv_wp_M_isData (S : St) (p1 : Int32) : InvI (fun K => wp_M_isData S p1 K) := by
  unfold wp_M_isData
  repeat' (first | with_reducible exact inv_wp_M_isData_18 _ | with_reducible exact inv_wp_M_isData_19 _ _ | with_reducible refine ii_ite ?_ ?_ | with_reducible refine ii_and ?_ | with_reducible refine ii_all ?_ | with_reducible exact ii_ret _ _)
theorem inv_wp_M_bits (S : St) (p1 : Int32) (p2 : Int32) : InvI (fun K => wp_M_bits S p1 p2 K) := by
  unfold wp_M_bits
  repeat' (first | with_reducible refine ii_ite ?_ ?_ | with_reducible refine ii_and ?_ | with_reducible refine ii_all ?_ | with_reducible exact ii_ret _ _)
theorem inv_wp_M_op (S : St) : InvI (fun K => wp_M_op S K) := by
  unfold wp_M_op
  repeat' (first | with_reducible (refine ii_cI (inv_wp_M_bits _ _ _) ?_; intros) | with_reducible exact inv_wp_M_bits _ _ _ | with_reducible refine ii_ite ?_ ?_ | with_reducible refine ii_and ?_ | with_reducible refine ii_all ?_ | with_reducible exact ii_ret _ _)
theorem inv_wp_M_numberI (S : St) : InvI (fun K => wp_M_numberI S K) := by
  unfold wp_M_numberI
  repeat' (first | with_reducible refine ii_ite ?_ ?_ | with_reducible refine ii_and ?_ | with_reducible refine ii_all ?_ | with_reducible exact ii_ret _ _)
theorem inv_wp_M_numberS (S : St) : InvI (fun K => wp_M_numberS S K) := by
  unfold wp_M_numberS
  repeat' (first | with_reducible (refine ii_cI (inv_wp_M_bits _ _ _) ?_; intros) | with_reducible exact inv_wp_M_bits _ _ _ | with_reducible refine ii_ite ?_ ?_ | with_reducible refine ii_and ?_ | with_reducible refine ii_all ?_ | with_reducible exact ii_ret _ _)
theorem inv_wp_M_numberB (S : St) : InvI (fun K => wp_M_numberB S K) := by
  unfold wp_M_numberB
  repeat' (first | with_reducible (refine ii_cI (inv_wp_M_bits _ _ _) ?_; intros) | with_reducible exact inv_wp_M_bits _ _ _ | with_reducible refine ii_ite ?_ ?_ | with_reducible refine ii_and ?_ | with_reducible refine ii_all ?_ | with_reducible exact ii_ret _ _)
theorem inv_wp_M_numberJ (S : St) : InvI (fun K => wp_M_numberJ S K) := by
  unfold wp_M_numberJ
  repeat' (first | with_reducible (refine ii_cI (inv_wp_M_bits _ _ _) ?_; intros) | with_reducible exact inv_wp_M_bits _ _ _ | with_reducible refine ii_ite ?_ ?_ | with_reducible refine ii_and ?_ | with_reducible refine ii_all ?_ | with_reducible exact ii_ret _ _)
theorem inv_wp_M_regA (S : St) : InvI (fun K => wp_M_regA S K) := by
  unfold wp_M_regA
  repeat' (first | with_reducible (refine ii_cI (inv_wp_M_bits _ _ _) ?_; intros) | with_reducible exact inv_wp_M_bits _ _ _ | with_reducible refine ii_ite ?_ ?_ | with_reducible refine ii_and ?_ | with_reducible refine ii_all ?_ | with_reducible exact ii_ret _ _)
theorem inv_wp_M_regB (S : St) : InvI (fun K => wp_M_regB S K) := by
  unfold wp_M_regB
  repeat' (first | with_reducible (refine ii_cI (inv_wp_M_bits _ _ _) ?_; intros) | with_reducible exact inv_wp_M_bits _ _ _ | with_reducible refine ii_ite ?_ ?_ | with_reducible refine ii_and ?_ | with_reducible refine ii_all ?_ | with_reducible exact ii_ret _ _)
theorem inv_wp_M_below_21 (S : St) (k0 : Int32) : InvI (fun K => wp_M_below_21 K S k0) := by
  unfold wp_M_below_21
  repeat' (first | with_reducible refine ii_ite ?_ ?_ | with_reducible refine ii_and ?_ | with_reducible refine ii_all ?_ | with_reducible exact ii_ret _ _)
theorem inv_wp_M_below (S : St) (p1 : Int32) (p2 : Int32) : InvI (fun K => wp_M_below S p1 p2 K) := by
  unfold wp_M_below
  repeat' (first | with_reducible exact inv_wp_M_below_21 _ _ | with_reducible refine ii_ite ?_ ?_ | with_reducible refine ii_and ?_ | with_reducible refine ii_all ?_ | with_reducible exact ii_ret _ _)
theorem inv_wp_M_plain_61 (S : St) (k0 : Int32) : InvI (fun K => wp_M_plain_61 K S k0) := by
  unfold wp_M_plain_61
  repeat' (first | with_reducible refine ii_ite ?_ ?_ | with_reducible refine ii_and ?_ | with_reducible refine ii_all ?_ | with_reducible exact ii_ret _ _)
theorem inv_wp_M_plain_77 (S : St) (k0 : Int32) : InvI (fun K => wp_M_plain_77 K S k0) := by
  unfold wp_M_plain_77
  repeat' (first | with_reducible refine ii_ite ?_ ?_ | with_reducible refine ii_and ?_ | with_reducible refine ii_all ?_ | with_reducible exact ii_ret _ _)
theorem inv_wp_M_plain_91 (S : St) (k0 : Int32) : InvI (fun K => wp_M_plain_91 K S k0) := by
  unfold wp_M_plain_91
  repeat' (first | with_reducible refine ii_ite ?_ ?_ | with_reducible refine ii_and ?_ | with_reducible refine ii_all ?_ | with_reducible exact ii_ret _ _)
theorem inv_wp_M_plain_111 (S : St) (k0 : Int32) : InvI (fun K => wp_M_plain_111 K S k0) := by
  unfold wp_M_plain_111
  repeat' (first | with_reducible refine ii_ite ?_ ?_ | with_reducible refine ii_and ?_ | with_reducible refine ii_all ?_ | with_reducible exact ii_ret _ _)
theorem inv_wp_M_plain (S : St) (p1 : Int32) (p2 : Int32) (p3 : Int32) (p4 : Int32) : InvI (fun K => wp_M_plain S p1 p2 p3 p4 K) := by
  unfold wp_M_plain
  repeat' (first | with_reducible exact inv_wp_M_plain_61 _ _ | with_reducible exact inv_wp_M_plain_77 _ _ | with_reducible (refine ii_cI (inv_wp_M_below _ _ _) ?_; intros) | with_reducible exact inv_wp_M_below _ _ _ | with_reducible exact inv_wp_M_plain_91 _ _ | with_reducible exact inv_wp_M_plain_111 _ _ | with_reducible refine ii_ite ?_ ?_ | with_reducible refine ii_and ?_ | with_reducible refine ii_all ?_ | with_reducible exact ii_ret _ _)
theorem inv_wp_M_product_53 (S : St) (k0 : Int32) : InvI (fun K => wp_M_product_53 K S k0) := by
  unfold wp_M_product_53
  repeat' (first | with_reducible refine ii_ite ?_ ?_ | with_reducible refine ii_and ?_ | with_reducible refine ii_all ?_ | with_reducible exact ii_ret _ _)
theorem inv_wp_M_product_33 (S : St) (v0 : Int32) (v1 : Int32) (v2 : Int32) (v3 : Int64) (k0 : Int64) : InvI (fun K => wp_M_product_33 K S v0 v1 v2 v3 k0) := by
  unfold wp_M_product_33
  repeat' (first | with_reducible exact inv_wp_M_product_53 _ _ | with_reducible refine ii_ite ?_ ?_ | with_reducible refine ii_and ?_ | with_reducible refine ii_all ?_ | with_reducible exact ii_ret _ _)
theorem inv_wp_M_product_16 (S : St) (v0 : Int32) (v1 : Int32) (v2 : Int32) (k0 : Int64) : InvI (fun K => wp_M_product_16 K S v0 v1 v2 k0) := by
  unfold wp_M_product_16
  repeat' (first | with_reducible exact inv_wp_M_product_33 _ _ _ _ _ _ | with_reducible refine ii_ite ?_ ?_ | with_reducible refine ii_and ?_ | with_reducible refine ii_all ?_ | with_reducible exact ii_ret _ _)
theorem inv_wp_M_product (S : St) (p1 : Int32) (p2 : Int32) (p3 : Int32) : InvI (fun K => wp_M_product S p1 p2 p3 K) := by
  unfold wp_M_product
  repeat' (first | with_reducible exact inv_wp_M_product_16 _ _ _ _ _ | with_reducible refine ii_ite ?_ ?_ | with_reducible refine ii_and ?_ | with_reducible refine ii_all ?_ | with_reducible exact ii_ret _ _)
theorem inv_wp_M_quotient_32 (S : St) (k0 : Int32) : InvI (fun K => wp_M_quotient_32 K S k0) := by
  unfold wp_M_quotient_32
  repeat' (first | with_reducible refine ii_ite ?_ ?_ | with_reducible refine ii_and ?_ | with_reducible refine ii_all ?_ | with_reducible exact ii_ret _ _)
theorem inv_wp_M_quotient_86 (S : St) (k0 : Int64) : InvI (fun K => wp_M_quotient_86 K S k0) := by
  unfold wp_M_quotient_86
  repeat' (first | with_reducible refine ii_ite ?_ ?_ | with_reducible refine ii_and ?_ | with_reducible refine ii_all ?_ | with_reducible exact ii_ret _ _)
theorem inv_wp_M_quotient_65 (S : St) (v0 : Int32) (v4 : Int64) (k0 : Int64) : InvI (fun K => wp_M_quotient_65 K S v0 v4 k0) := by
  unfold wp_M_quotient_65
  repeat' (first | with_reducible exact inv_wp_M_quotient_86 _ _ | with_reducible refine ii_ite ?_ ?_ | with_reducible refine ii_and ?_ | with_reducible refine ii_all ?_ | with_reducible exact ii_ret _ _)
theorem inv_wp_M_quotient_48 (S : St) (v0 : Int32) (v2 : Int32) (v3 : Int32) (k0 : Int64) : InvI (fun K => wp_M_quotient_48 K S v0 v2 v3 k0) := by
  unfold wp_M_quotient_48
  repeat' (first | with_reducible exact inv_wp_M_quotient_65 _ _ _ _ | with_reducible refine ii_ite ?_ ?_ | with_reducible refine ii_and ?_ | with_reducible refine ii_all ?_ | with_reducible exact ii_ret _ _)
theorem inv_wp_M_quotient_16 (S : St) (v0 : Int32) (v1 : Int32) (v2 : Int32) (k0 : Int32) : InvI (fun K => wp_M_quotient_16 K S v0 v1 v2 k0) := by
  unfold wp_M_quotient_16
  repeat' (first | with_reducible exact inv_wp_M_quotient_32 _ _ | with_reducible exact inv_wp_M_quotient_48 _ _ _ _ _ | with_reducible refine ii_ite ?_ ?_ | with_reducible refine ii_and ?_ | with_reducible refine ii_all ?_ | with_reducible exact ii_ret _ _)
theorem inv_wp_M_quotient_11 (S : St) (v0 : Int32) (v1 : Int32) (v2 : Int32) : InvI (fun K => wp_M_quotient_11 K S v0 v1 v2) := by
  unfold wp_M_quotient_11
  repeat' (first | with_reducible exact inv_wp_M_quotient_16 _ _ _ _ _ | with_reducible refine ii_ite ?_ ?_ | with_reducible refine ii_and ?_ | with_reducible refine ii_all ?_ | with_reducible exact ii_ret _ _)
theorem inv_wp_M_quotient (S : St) (p1 : Int32) (p2 : Int32) (p3 : Int32) : InvI (fun K => wp_M_quotient S p1 p2 p3 K) := by
  unfold wp_M_quotient
  repeat' (first | with_reducible exact inv_wp_M_quotient_11 _ _ _ _ | with_reducible exact inv_wp_M_quotient_16 _ _ _ _ _ | with_reducible refine ii_ite ?_ ?_ | with_reducible refine ii_and ?_ | with_reducible refine ii_all ?_ | with_reducible exact ii_ret _ _)
theorem inv_wp_M_illegal (S : St) : Inv (fun K => wp_M_illegal S K) := by
  unfold wp_M_illegal
  repeat' (first | with_reducible refine iv_ite ?_ ?_ | with_reducible refine iv_and ?_ | with_reducible refine iv_all ?_ | with_reducible exact iv_ret _)
theorem inv_wp_M_immediate_52 (S : St) : Inv (fun K => wp_M_immediate_52 K S) := by
  unfold wp_M_immediate_52
  repeat' (first | with_reducible (refine iv_cV (inv_wp_M_illegal _) ?_; intros) | with_reducible exact inv_wp_M_illegal _ | with_reducible refine iv_ite ?_ ?_ | with_reducible refine iv_and ?_ | with_reducible refine iv_all ?_ | with_reducible exact iv_ret _)
theorem inv_wp_M_immediate_96 (S : St) (k0 : Int32) (k1 : Int32) (k2 : Int32) (k3 : Int32) : Inv (fun K => wp_M_immediate_96 K S k0 k1 k2 k3) := by
  unfold wp_M_immediate_96
  repeat' (first | with_reducible (refine iv_cI (inv_wp_M_plain _ _ _ _ _) ?_; intros) | with_reducible exact inv_wp_M_plain _ _ _ _ _ | with_reducible refine iv_ite ?_ ?_ | with_reducible refine iv_and ?_ | with_reducible refine iv_all ?_ | with_reducible exact iv_ret _)
theorem inv_wp_M_immediate_95 (S : St) (k0 : Int32) (k1 : Int32) (k2 : Int32) : Inv (fun K => wp_M_immediate_95 K S k0 k1 k2) := by
  unfold wp_M_immediate_95
  repeat' (first | with_reducible exact inv_wp_M_immediate_96 _ _ _ _ _ | with_reducible refine iv_ite ?_ ?_ | with_reducible refine iv_and ?_ | with_reducible refine iv_all ?_ | with_reducible exact iv_ret _)
theorem inv_wp_M_immediate_81 (S : St) (v2 : Int32) (v3 : Int32) (k0 : Int32) (k1 : Int32) (k2 : Int32) : Inv (fun K => wp_M_immediate_81 K S v2 v3 k0 k1 k2) := by
  unfold wp_M_immediate_81
  repeat' (first | with_reducible exact inv_wp_M_immediate_95 _ _ _ _ | with_reducible exact inv_wp_M_immediate_96 _ _ _ _ _ | with_reducible refine iv_ite ?_ ?_ | with_reducible refine iv_and ?_ | with_reducible refine iv_all ?_ | with_reducible exact iv_ret _)
theorem inv_wp_M_immediate_57 (S : St) (v1 : Int32) (v2 : Int32) (v3 : Int32) : Inv (fun K => wp_M_immediate_57 K S v1 v2 v3) := by
  unfold wp_M_immediate_57
  repeat' (first | with_reducible (refine iv_cI (inv_wp_M_regA _) ?_; intros) | with_reducible exact inv_wp_M_regA _ | with_reducible (refine iv_cI (inv_wp_M_numberI _) ?_; intros) | with_reducible exact inv_wp_M_numberI _ | with_reducible exact inv_wp_M_immediate_81 _ _ _ _ _ _ | with_reducible (refine iv_cI (inv_wp_M_bits _ _ _) ?_; intros) | with_reducible exact inv_wp_M_bits _ _ _ | with_reducible refine iv_ite ?_ ?_ | with_reducible refine iv_and ?_ | with_reducible refine iv_all ?_ | with_reducible exact iv_ret _)
theorem inv_wp_M_immediate_32 (S : St) (v1 : Int32) (v2 : Int32) (k0 : Int32) : Inv (fun K => wp_M_immediate_32 K S v1 v2 k0) := by
  unfold wp_M_immediate_32
  repeat' (first | with_reducible exact inv_wp_M_immediate_57 _ _ _ _ | with_reducible exact inv_wp_M_immediate_52 _ | with_reducible refine iv_ite ?_ ?_ | with_reducible refine iv_and ?_ | with_reducible refine iv_all ?_ | with_reducible exact iv_ret _)
theorem inv_wp_M_immediate_27 (S : St) (v1 : Int32) (v2 : Int32) : Inv (fun K => wp_M_immediate_27 K S v1 v2) := by
  unfold wp_M_immediate_27
  repeat' (first | with_reducible exact inv_wp_M_immediate_32 _ _ _ _ | with_reducible refine iv_ite ?_ ?_ | with_reducible refine iv_and ?_ | with_reducible refine iv_all ?_ | with_reducible exact iv_ret _)
theorem inv_wp_M_immediate (S : St) : Inv (fun K => wp_M_immediate S K) := by
  unfold wp_M_immediate
  repeat' (first | with_reducible (refine iv_cI (inv_wp_M_bits _ _ _) ?_; intros) | with_reducible exact inv_wp_M_bits _ _ _ | with_reducible exact inv_wp_M_immediate_27 _ _ _ | with_reducible exact inv_wp_M_immediate_32 _ _ _ _ | with_reducible refine iv_ite ?_ ?_ | with_reducible refine iv_and ?_ | with_reducible refine iv_all ?_ | with_reducible exact iv_ret _)
theorem inv_wp_M_operation_129 (S : St) : Inv (fun K => wp_M_operation_129 K S) := by
  unfold wp_M_operation_129
  repeat' (first | with_reducible refine iv_ite ?_ ?_ | with_reducible refine iv_and ?_ | with_reducible refine iv_all ?_ | with_reducible exact iv_ret _)
theorem inv_wp_M_operation_96 (S : St) (k0 : Int32) : Inv (fun K => wp_M_operation_96 K S k0) := by
  unfold wp_M_operation_96
  repeat' (first | with_reducible exact inv_wp_M_operation_129 _ | with_reducible refine iv_ite ?_ ?_ | with_reducible refine iv_and ?_ | with_reducible refine iv_all ?_ | with_reducible exact iv_ret _)
theorem inv_wp_M_operation_123 (S : St) (k0 : Int32) (k1 : Int32) (k2 : Int32) (k3 : Int32) : Inv (fun K => wp_M_operation_123 K S k0 k1 k2 k3) := by
  unfold wp_M_operation_123
  repeat' (first | with_reducible (refine iv_cI (inv_wp_M_plain _ _ _ _ _) ?_; intros) | with_reducible exact inv_wp_M_plain _ _ _ _ _ | with_reducible exact inv_wp_M_operation_129 _ | with_reducible refine iv_ite ?_ ?_ | with_reducible refine iv_and ?_ | with_reducible refine iv_all ?_ | with_reducible exact iv_ret _)
theorem inv_wp_M_operation_46 (S : St) (v1 : Int32) (v2 : Int32) (k0 : Int32) : Inv (fun K => wp_M_operation_46 K S v1 v2 k0) := by
  unfold wp_M_operation_46
  repeat' (first | with_reducible (refine iv_cV (inv_wp_M_illegal _) ?_; intros) | with_reducible exact inv_wp_M_illegal _ | with_reducible exact inv_wp_M_operation_129 _ | with_reducible (refine iv_cI (inv_wp_M_regA _) ?_; intros) | with_reducible exact inv_wp_M_regA _ | with_reducible (refine iv_cI (inv_wp_M_regB _) ?_; intros) | with_reducible exact inv_wp_M_regB _ | with_reducible (refine iv_cI (inv_wp_M_quotient _ _ _ _) ?_; intros) | with_reducible exact inv_wp_M_quotient _ _ _ _ | with_reducible exact inv_wp_M_operation_96 _ _ | with_reducible (refine iv_cI (inv_wp_M_product _ _ _ _) ?_; intros) | with_reducible exact inv_wp_M_product _ _ _ _ | with_reducible exact inv_wp_M_operation_123 _ _ _ _ _ | with_reducible refine iv_ite ?_ ?_ | with_reducible refine iv_and ?_ | with_reducible refine iv_all ?_ | with_reducible exact iv_ret _)
theorem inv_wp_M_operation_41 (S : St) (v1 : Int32) (v2 : Int32) : Inv (fun K => wp_M_operation_41 K S v1 v2) := by
  unfold wp_M_operation_41
  repeat' (first | with_reducible exact inv_wp_M_operation_46 _ _ _ _ | with_reducible refine iv_ite ?_ ?_ | with_reducible refine iv_and ?_ | with_reducible refine iv_all ?_ | with_reducible exact iv_ret _)
theorem inv_wp_M_operation_45 (S : St) (v1 : Int32) (v2 : Int32) : Inv (fun K => wp_M_operation_45 K S v1 v2) := by
  unfold wp_M_operation_45
  repeat' (first | with_reducible exact inv_wp_M_operation_46 _ _ _ _ | with_reducible refine iv_ite ?_ ?_ | with_reducible refine iv_and ?_ | with_reducible refine iv_all ?_ | with_reducible exact iv_ret _)
theorem inv_wp_M_operation (S : St) : Inv (fun K => wp_M_operation S K) := by
  unfold wp_M_operation
  repeat' (first | with_reducible (refine iv_cI (inv_wp_M_bits _ _ _) ?_; intros) | with_reducible exact inv_wp_M_bits _ _ _ | with_reducible exact inv_wp_M_operation_41 _ _ _ | with_reducible exact inv_wp_M_operation_45 _ _ _ | with_reducible refine iv_ite ?_ ?_ | with_reducible refine iv_and ?_ | with_reducible refine iv_all ?_ | with_reducible exact iv_ret _)
theorem inv_wp_M_go_26 (S : St) : Inv (fun K => wp_M_go_26 K S) := by
  unfold wp_M_go_26
  repeat' (first | with_reducible refine iv_ite ?_ ?_ | with_reducible refine iv_and ?_ | with_reducible refine iv_all ?_ | with_reducible exact iv_ret _)
theorem inv_wp_M_go (S : St) (p1 : Int32) : Inv (fun K => wp_M_go S p1 K) := by
  unfold wp_M_go
  repeat' (first | with_reducible exact inv_wp_M_go_26 _ | with_reducible refine iv_ite ?_ ?_ | with_reducible refine iv_and ?_ | with_reducible refine iv_all ?_ | with_reducible exact iv_ret _)
theorem inv_wp_M_branch_72 (S : St) : Inv (fun K => wp_M_branch_72 K S) := by
  unfold wp_M_branch_72
  repeat' (first | with_reducible (refine iv_cV (inv_wp_M_illegal _) ?_; intros) | with_reducible exact inv_wp_M_illegal _ | with_reducible refine iv_ite ?_ ?_ | with_reducible refine iv_and ?_ | with_reducible refine iv_all ?_ | with_reducible exact iv_ret _)
theorem inv_wp_M_branch_112 (S : St) : Inv (fun K => wp_M_branch_112 K S) := by
  unfold wp_M_branch_112
  repeat' (first | with_reducible refine iv_ite ?_ ?_ | with_reducible refine iv_and ?_ | with_reducible refine iv_all ?_ | with_reducible exact iv_ret _)
theorem inv_wp_M_branch_96 (S : St) (k0 : Int32) (k1 : Int32) : Inv (fun K => wp_M_branch_96 K S k0 k1) := by
  unfold wp_M_branch_96
  repeat' (first | with_reducible exact inv_wp_M_branch_112 _ | with_reducible (refine iv_cI (inv_wp_M_numberB _) ?_; intros) | with_reducible exact inv_wp_M_numberB _ | with_reducible (refine iv_cV (inv_wp_M_go _ _) ?_; intros) | with_reducible exact inv_wp_M_go _ _ | with_reducible refine iv_ite ?_ ?_ | with_reducible refine iv_and ?_ | with_reducible refine iv_all ?_ | with_reducible exact iv_ret _)
theorem inv_wp_M_branch_60 (S : St) (v1 : Int32) (k0 : Int32) : Inv (fun K => wp_M_branch_60 K S v1 k0) := by
  unfold wp_M_branch_60
  repeat' (first | with_reducible exact inv_wp_M_branch_72 _ | with_reducible exact inv_wp_M_branch_96 _ _ _ | with_reducible refine iv_ite ?_ ?_ | with_reducible refine iv_and ?_ | with_reducible refine iv_all ?_ | with_reducible exact iv_ret _)
theorem inv_wp_M_branch (S : St) : Inv (fun K => wp_M_branch S K) := by
  unfold wp_M_branch
  repeat' (first | with_reducible (refine iv_cI (inv_wp_M_bits _ _ _) ?_; intros) | with_reducible exact inv_wp_M_bits _ _ _ | with_reducible (refine iv_cI (inv_wp_M_regA _) ?_; intros) | with_reducible exact inv_wp_M_regA _ | with_reducible (refine iv_cI (inv_wp_M_regB _) ?_; intros) | with_reducible exact inv_wp_M_regB _ | with_reducible (refine iv_cI (inv_wp_M_below _ _ _) ?_; intros) | with_reducible exact inv_wp_M_below _ _ _ | with_reducible exact inv_wp_M_branch_60 _ _ _ | with_reducible refine iv_ite ?_ ?_ | with_reducible refine iv_and ?_ | with_reducible refine iv_all ?_ | with_reducible exact iv_ret _)
theorem inv_wp_M_reach_35 (S : St) (k0 : Int32) : Inv (fun K => wp_M_reach_35 K S k0) := by
  unfold wp_M_reach_35
  repeat' (first | with_reducible refine iv_ite ?_ ?_ | with_reducible refine iv_and ?_ | with_reducible refine iv_all ?_ | with_reducible exact iv_ret _)
theorem inv_wp_M_reach (S : St) (p1 : Int32) (p2 : Int32) (p3 : Int32) : Inv (fun K => wp_M_reach S p1 p2 p3 K) := by
  unfold wp_M_reach
  repeat' (first | with_reducible (refine iv_cI (inv_wp_M_isData _ _) ?_; intros) | with_reducible exact inv_wp_M_isData _ _ | with_reducible exact inv_wp_M_reach_35 _ _ | with_reducible refine iv_ite ?_ ?_ | with_reducible refine iv_and ?_ | with_reducible refine iv_all ?_ | with_reducible exact iv_ret _)
theorem inv_wp_M_load_18 (S : St) : Inv (fun K => wp_M_load_18 K S) := by
  unfold wp_M_load_18
  repeat' (first | with_reducible (refine iv_cV (inv_wp_M_illegal _) ?_; intros) | with_reducible exact inv_wp_M_illegal _ | with_reducible refine iv_ite ?_ ?_ | with_reducible refine iv_and ?_ | with_reducible refine iv_all ?_ | with_reducible exact iv_ret _)
theorem inv_wp_M_load_124 (S : St) (k0 : Int32) : Inv (fun K => wp_M_load_124 K S k0) := by
  unfold wp_M_load_124
  repeat' (first | with_reducible refine iv_ite ?_ ?_ | with_reducible refine iv_and ?_ | with_reducible refine iv_all ?_ | with_reducible exact iv_ret _)
theorem inv_wp_M_load (S : St) : Inv (fun K => wp_M_load S K) := by
  unfold wp_M_load
  repeat' (first | with_reducible (refine iv_cI (inv_wp_M_bits _ _ _) ?_; intros) | with_reducible exact inv_wp_M_bits _ _ _ | with_reducible exact inv_wp_M_load_18 _ | with_reducible (refine iv_cI (inv_wp_M_regA _) ?_; intros) | with_reducible exact inv_wp_M_regA _ | with_reducible (refine iv_cI (inv_wp_M_numberI _) ?_; intros) | with_reducible exact inv_wp_M_numberI _ | with_reducible (refine iv_cV (inv_wp_M_reach _ _ _ _) ?_; intros) | with_reducible exact inv_wp_M_reach _ _ _ _ | with_reducible exact inv_wp_M_load_124 _ _ | with_reducible refine iv_ite ?_ ?_ | with_reducible refine iv_and ?_ | with_reducible refine iv_all ?_ | with_reducible exact iv_ret _)
theorem inv_wp_M_store_77 (S : St) (v2 : Int32) (k0 : Int32) : Inv (fun K => wp_M_store_77 K S v2 k0) := by
  unfold wp_M_store_77
  repeat' (first | with_reducible (refine iv_cI (inv_wp_M_regB _) ?_; intros) | with_reducible exact inv_wp_M_regB _ | with_reducible refine iv_ite ?_ ?_ | with_reducible refine iv_and ?_ | with_reducible refine iv_all ?_ | with_reducible exact iv_ret _)
theorem inv_wp_M_store_75 (S : St) (v2 : Int32) (k0 : Int32) : Inv (fun K => wp_M_store_75 K S v2 k0) := by
  unfold wp_M_store_75
  repeat' (first | with_reducible exact inv_wp_M_store_77 _ _ _ | with_reducible refine iv_ite ?_ ?_ | with_reducible refine iv_and ?_ | with_reducible refine iv_all ?_ | with_reducible exact iv_ret _)
theorem inv_wp_M_store (S : St) : Inv (fun K => wp_M_store S K) := by
  unfold wp_M_store
  repeat' (first | with_reducible (refine iv_cI (inv_wp_M_bits _ _ _) ?_; intros) | with_reducible exact inv_wp_M_bits _ _ _ | with_reducible (refine iv_cI (inv_wp_M_regA _) ?_; intros) | with_reducible exact inv_wp_M_regA _ | with_reducible (refine iv_cI (inv_wp_M_numberS _) ?_; intros) | with_reducible exact inv_wp_M_numberS _ | with_reducible (refine iv_cV (inv_wp_M_reach _ _ _ _) ?_; intros) | with_reducible exact inv_wp_M_reach _ _ _ _ | with_reducible exact inv_wp_M_store_77 _ _ _ | with_reducible exact inv_wp_M_store_75 _ _ _ | with_reducible (refine iv_cV (inv_wp_M_illegal _) ?_; intros) | with_reducible exact inv_wp_M_illegal _ | with_reducible refine iv_ite ?_ ?_ | with_reducible refine iv_and ?_ | with_reducible refine iv_all ?_ | with_reducible exact iv_ret _)
theorem inv_wp_M_placeOf_56 (S : St) (k0 : Int32) : InvI (fun K => wp_M_placeOf_56 K S k0) := by
  unfold wp_M_placeOf_56
  repeat' (first | with_reducible refine ii_ite ?_ ?_ | with_reducible refine ii_and ?_ | with_reducible refine ii_all ?_ | with_reducible exact ii_ret _ _)
theorem inv_wp_M_placeOf_55 (S : St) : InvI (fun K => wp_M_placeOf_55 K S) := by
  unfold wp_M_placeOf_55
  repeat' (first | with_reducible exact inv_wp_M_placeOf_56 _ _ | with_reducible refine ii_ite ?_ ?_ | with_reducible refine ii_and ?_ | with_reducible refine ii_all ?_ | with_reducible exact ii_ret _ _)
theorem inv_wp_M_placeOf (S : St) (p1 : Int32) : InvI (fun K => wp_M_placeOf S p1 K) := by
  unfold wp_M_placeOf
  repeat' (first | with_reducible exact inv_wp_M_placeOf_56 _ _ | with_reducible exact inv_wp_M_placeOf_55 _ | with_reducible refine ii_ite ?_ ?_ | with_reducible refine ii_and ?_ | with_reducible refine ii_all ?_ | with_reducible exact ii_ret _ _)
theorem inv_wp_M_change_61 (S : St) (k0 : Int32) (k1 : Int32) : Inv (fun K => wp_M_change_61 K S k0 k1) := by
  unfold wp_M_change_61
  repeat' (first | with_reducible refine iv_ite ?_ ?_ | with_reducible refine iv_and ?_ | with_reducible refine iv_all ?_ | with_reducible exact iv_ret _)
theorem inv_wp_M_change_38 (S : St) (v1 : Int32) (k0 : Int32) : Inv (fun K => wp_M_change_38 K S v1 k0) := by
  unfold wp_M_change_38
  repeat' (first | with_reducible exact inv_wp_M_change_61 _ _ _ | with_reducible refine iv_ite ?_ ?_ | with_reducible refine iv_and ?_ | with_reducible refine iv_all ?_ | with_reducible exact iv_ret _)
theorem inv_wp_M_change (S : St) (p1 : Int32) (p2 : Int32) : Inv (fun K => wp_M_change S p1 p2 K) := by
  unfold wp_M_change
  repeat' (first | with_reducible exact inv_wp_M_change_38 _ _ _ | with_reducible refine iv_ite ?_ ?_ | with_reducible refine iv_and ?_ | with_reducible refine iv_all ?_ | with_reducible exact iv_ret _)
theorem inv_wp_M_system_198 (S : St) : Inv (fun K => wp_M_system_198 K S) := by
  unfold wp_M_system_198
  repeat' (first | with_reducible refine iv_ite ?_ ?_ | with_reducible refine iv_and ?_ | with_reducible refine iv_all ?_ | with_reducible exact iv_ret _)
theorem inv_wp_M_system_54 (S : St) (k0 : Int32) : Inv (fun K => wp_M_system_54 K S k0) := by
  unfold wp_M_system_54
  repeat' (first | with_reducible exact inv_wp_M_system_198 _ | with_reducible refine iv_ite ?_ ?_ | with_reducible refine iv_and ?_ | with_reducible refine iv_all ?_ | with_reducible exact iv_ret _)
theorem inv_wp_M_system_38 (S : St) : Inv (fun K => wp_M_system_38 K S) := by
  unfold wp_M_system_38
  repeat' (first | with_reducible exact inv_wp_M_system_54 _ _ | with_reducible refine iv_ite ?_ ?_ | with_reducible refine iv_and ?_ | with_reducible refine iv_all ?_ | with_reducible exact iv_ret _)
theorem inv_wp_M_system_101 (S : St) : Inv (fun K => wp_M_system_101 K S) := by
  unfold wp_M_system_101
  repeat' (first | with_reducible (refine iv_cV (inv_wp_M_illegal _) ?_; intros) | with_reducible exact inv_wp_M_illegal _ | with_reducible exact inv_wp_M_system_198 _ | with_reducible refine iv_ite ?_ ?_ | with_reducible refine iv_and ?_ | with_reducible refine iv_all ?_ | with_reducible exact iv_ret _)
theorem inv_wp_M_system_195 (S : St) (k0 : Int32) (k1 : Int32) : Inv (fun K => wp_M_system_195 K S k0 k1) := by
  unfold wp_M_system_195
  repeat' (first | with_reducible (refine iv_cV (inv_wp_M_change _ _ _) ?_; intros) | with_reducible exact inv_wp_M_change _ _ _ | with_reducible exact inv_wp_M_system_198 _ | with_reducible refine iv_ite ?_ ?_ | with_reducible refine iv_and ?_ | with_reducible refine iv_all ?_ | with_reducible exact iv_ret _)
theorem inv_wp_M_system_136 (S : St) (v1 : Int32) (v2 : Int32) (k0 : Int32) : Inv (fun K => wp_M_system_136 K S v1 v2 k0) := by
  unfold wp_M_system_136
  repeat' (first | with_reducible (refine iv_cI (inv_wp_M_bits _ _ _) ?_; intros) | with_reducible exact inv_wp_M_bits _ _ _ | with_reducible exact inv_wp_M_system_195 _ _ _ | with_reducible refine iv_ite ?_ ?_ | with_reducible refine iv_and ?_ | with_reducible refine iv_all ?_ | with_reducible exact iv_ret _)
theorem inv_wp_M_system_108 (S : St) (v1 : Int32) (v2 : Int32) : Inv (fun K => wp_M_system_108 K S v1 v2) := by
  unfold wp_M_system_108
  repeat' (first | with_reducible exact inv_wp_M_system_198 _ | with_reducible (refine iv_cI (inv_wp_M_bits _ _ _) ?_; intros) | with_reducible exact inv_wp_M_bits _ _ _ | with_reducible exact inv_wp_M_system_136 _ _ _ _ | with_reducible (refine iv_cI (inv_wp_M_regA _) ?_; intros) | with_reducible exact inv_wp_M_regA _ | with_reducible refine iv_ite ?_ ?_ | with_reducible refine iv_and ?_ | with_reducible refine iv_all ?_ | with_reducible exact iv_ret _)
theorem inv_wp_M_system (S : St) : Inv (fun K => wp_M_system S K) := by
  unfold wp_M_system
  repeat' (first | with_reducible (refine iv_cI (inv_wp_M_bits _ _ _) ?_; intros) | with_reducible exact inv_wp_M_bits _ _ _ | with_reducible (refine iv_cI (inv_wp_M_placeOf _ _) ?_; intros) | with_reducible exact inv_wp_M_placeOf _ _ | with_reducible exact inv_wp_M_system_38 _ | with_reducible exact inv_wp_M_system_198 _ | with_reducible exact inv_wp_M_system_108 _ _ _ | with_reducible exact inv_wp_M_system_101 _ | with_reducible refine iv_ite ?_ ?_ | with_reducible refine iv_and ?_ | with_reducible refine iv_all ?_ | with_reducible exact iv_ret _)
theorem inv_wp_M_decide_287 (S : St) : Inv (fun K => wp_M_decide_287 K S) := by
  unfold wp_M_decide_287
  repeat' (first | with_reducible refine iv_ite ?_ ?_ | with_reducible refine iv_and ?_ | with_reducible refine iv_all ?_ | with_reducible exact iv_ret _)
theorem inv_wp_M_decide_106 (S : St) (k0 : Int32) (k1 : Int32) : Inv (fun K => wp_M_decide_106 K S k0 k1) := by
  unfold wp_M_decide_106
  repeat' (first | with_reducible exact inv_wp_M_decide_287 _ | with_reducible refine iv_ite ?_ ?_ | with_reducible refine iv_and ?_ | with_reducible refine iv_all ?_ | with_reducible exact iv_ret _)
theorem inv_wp_M_decide_83 (S : St) (v1 : Int32) : Inv (fun K => wp_M_decide_83 K S v1) := by
  unfold wp_M_decide_83
  repeat' (first | with_reducible exact inv_wp_M_decide_106 _ _ _ | with_reducible refine iv_ite ?_ ?_ | with_reducible refine iv_and ?_ | with_reducible refine iv_all ?_ | with_reducible exact iv_ret _)
theorem inv_wp_M_decide_200 (S : St) (v1 : Int32) : Inv (fun K => wp_M_decide_200 K S v1) := by
  unfold wp_M_decide_200
  repeat' (first | with_reducible (refine iv_cV (inv_wp_M_branch _) ?_; intros) | with_reducible exact inv_wp_M_branch _ | with_reducible exact inv_wp_M_decide_287 _ | with_reducible (refine iv_cV (inv_wp_M_load _) ?_; intros) | with_reducible exact inv_wp_M_load _ | with_reducible (refine iv_cV (inv_wp_M_store _) ?_; intros) | with_reducible exact inv_wp_M_store _ | with_reducible (refine iv_cV (inv_wp_M_immediate _) ?_; intros) | with_reducible exact inv_wp_M_immediate _ | with_reducible (refine iv_cV (inv_wp_M_operation _) ?_; intros) | with_reducible exact inv_wp_M_operation _ | with_reducible (refine iv_cV (inv_wp_M_system _) ?_; intros) | with_reducible exact inv_wp_M_system _ | with_reducible (refine iv_cV (inv_wp_M_illegal _) ?_; intros) | with_reducible exact inv_wp_M_illegal _ | with_reducible refine iv_ite ?_ ?_ | with_reducible refine iv_and ?_ | with_reducible refine iv_all ?_ | with_reducible exact iv_ret _)
theorem inv_wp_M_decide_68 (S : St) (v1 : Int32) (k0 : Int32) : Inv (fun K => wp_M_decide_68 K S v1 k0) := by
  unfold wp_M_decide_68
  repeat' (first | with_reducible exact inv_wp_M_decide_83 _ _ | with_reducible (refine iv_cI (inv_wp_M_numberJ _) ?_; intros) | with_reducible exact inv_wp_M_numberJ _ | with_reducible (refine iv_cV (inv_wp_M_go _ _) ?_; intros) | with_reducible exact inv_wp_M_go _ _ | with_reducible exact inv_wp_M_decide_287 _ | with_reducible (refine iv_cI (inv_wp_M_bits _ _ _) ?_; intros) | with_reducible exact inv_wp_M_bits _ _ _ | with_reducible (refine iv_cI (inv_wp_M_regA _) ?_; intros) | with_reducible exact inv_wp_M_regA _ | with_reducible (refine iv_cI (inv_wp_M_numberI _) ?_; intros) | with_reducible exact inv_wp_M_numberI _ | with_reducible exact inv_wp_M_decide_200 _ _ | with_reducible refine iv_ite ?_ ?_ | with_reducible refine iv_and ?_ | with_reducible refine iv_all ?_ | with_reducible exact iv_ret _)
theorem inv_wp_M_decide_51 (S : St) (v1 : Int32) (k0 : Int32) : Inv (fun K => wp_M_decide_51 K S v1 k0) := by
  unfold wp_M_decide_51
  repeat' (first | with_reducible exact inv_wp_M_decide_68 _ _ _ | with_reducible (refine iv_cI (inv_wp_M_bits _ _ _) ?_; intros) | with_reducible exact inv_wp_M_bits _ _ _ | with_reducible refine iv_ite ?_ ?_ | with_reducible refine iv_and ?_ | with_reducible refine iv_all ?_ | with_reducible exact iv_ret _)
theorem inv_wp_M_decide_46 (S : St) (v1 : Int32) : Inv (fun K => wp_M_decide_46 K S v1) := by
  unfold wp_M_decide_46
  repeat' (first | with_reducible exact inv_wp_M_decide_51 _ _ _ | with_reducible refine iv_ite ?_ ?_ | with_reducible refine iv_and ?_ | with_reducible refine iv_all ?_ | with_reducible exact iv_ret _)
theorem inv_wp_M_decide (S : St) : Inv (fun K => wp_M_decide S K) := by
  unfold wp_M_decide
  repeat' (first | with_reducible (refine iv_cI (inv_wp_M_op _) ?_; intros) | with_reducible exact inv_wp_M_op _ | with_reducible exact inv_wp_M_decide_46 _ _ | with_reducible exact inv_wp_M_decide_51 _ _ _ | with_reducible refine iv_ite ?_ ?_ | with_reducible refine iv_and ?_ | with_reducible refine iv_all ?_ | with_reducible exact iv_ret _)
theorem exec_ev {S T : St} {a b : Int32} (H : HX S T a b) : ∃ S' T', evV (wp_Exe_perform S a b) S' ∧ evV (wp_M_decide T) T' ∧ MX S S' T T' := by
  obtain ⟨S', p1, f1⟩ := inv_wp_Exe_perform S a b _ (exec H)
  obtain ⟨T', p2, f2⟩ := inv_wp_M_decide T _ p1
  exact ⟨S', T', f1, f2, p2⟩
