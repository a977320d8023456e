def Iv (n : Nat) (S T : St) : Prop := n ≤ 512 ∧ S 0 10 = T 0 1
theorem Iv_init (p1 : Int32) (gF gC : Nat → Int32) (h1 : ∀ j : Nat, j < 12 → gF j = -1) (h2 : ∀ j : Nat, j < 4 → gC j = -1) : wp_M_init_229 (fun T => Iv 0 (S0 p1 gF gC) T) T0 p1 := sorry
theorem Iv_step (n : Nat) (S T : St) (x x1 x2 : Int32) (hn : n < 512) (h : Iv n S T) : wp_step x x1 x2 S T (Iv (n + 1)) := sorry
