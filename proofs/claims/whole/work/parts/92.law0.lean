/-! the law, by pieces -/
/-- a piece of a method's code -/
def z_okl (P : List zM) (TH : List (String × Nat × Nat × Nat)) (M : zM) (C : List (Nat × Instr × Nat × zX)) (pe : List (List Nat)) : Bool := decide (pe.length = C.length) && (C.zip pe).all fun w => z_oke M w.1 w.2 && z_okt TH M w.1.1 w.1.2.1 w.1.2.2.2 w.2 && z_okc P M w.1.2.1 w.1.2.2.2 w.2
theorem z_okl_app {P : List zM} {TH : List (String × Nat × Nat × Nat)} {M : zM} {C1 C2 : List (Nat × Instr × Nat × zX)} {p1 p2 : List (List Nat)} (h1 : z_okl P TH M C1 p1 = true) (h2 : z_okl P TH M C2 p2 = true) : z_okl P TH M (C1 ++ C2) (p1 ++ p2) = true := by
  unfold z_okl at h1 h2 ⊢
  simp only [Bool.and_eq_true, decide_eq_true_eq] at h1 h2 ⊢
  refine ⟨by simp [h1.1, h2.1], ?_⟩
  rw [List.zip_append h1.1.symm, List.all_append, h1.2, h2.2]
  rfl
theorem z_okm_l {P : List zM} {TH : List (String × Nat × Nat × Nat)} {M : zM} {ph : List Nat} {pe : List (List Nat)} (h1 : z_okh M ph = true) (h2 : plainFor (zm_y M) = true) (h3 : z_okl P TH M (zm_c M) pe = true) : z_okm P TH M ph pe = true := by
  unfold z_okl at h3
  unfold z_okm
  rw [h1, h2, Bool.true_and, Bool.true_and]
  exact h3
abbrev zlp_0 : List (List Nat) := [[94, 95, 73], [], [98, 73, 97, 96], [], [932, 933, 74], [], [936, 74, 935, 934], [], [], [444], [], [], [], [], [], [], [], [], [], [], [], [], [], [], [], [], [], [], [], [], [], [], [], [], [], [], [], [138, 72, 137, 136], [], [], [], [], [], [], [], [], [], [], [], [], [1072, 74, 1069, 1070, 1071], [], [], [1068, 74, 1065, 1066, 1067], [], [], [], [], [], []]
set_option maxRecDepth 100000 in
theorem zlk_0 : z_okl zP zTH zm_L_law zl_0 zlp_0 = true := by decide +kernel
abbrev zlp_1 : List (List Nat) := [[], [], [], [], [], [], [], [], [], [], [], [], [], [], [], [], [], [262, 72, 261, 260], [], [], [], [], [], [], [], [1095, 74, 1092, 1093, 1094], [], [], [1068, 74, 1065, 1066, 1067], [], [], [], [], [], [], [], [], [], [], [], [], [], [], [], [], [], [], [], [], [], [], [], [], [], [], [], [], [], [], []]
set_option maxRecDepth 100000 in
theorem zlk_1 : z_okl zP zTH zm_L_law zl_1 zlp_1 = true := by decide +kernel
abbrev zlp_2 : List (List Nat) := [[], [], [], [], [], [], [], [], [], [], [], [], [], [], [], [], [], [305, 72, 304, 303], [], [], [], [], [], [], [], [], [], [], [], [], [], [], [], [], [], [], [], [], [], [], [], [], [], [], [], [], [], [], [], [], [1107, 74, 1104, 1105, 1106], [], [], [1068, 74, 1065, 1066, 1067], [], [], [], [], [], []]
set_option maxRecDepth 100000 in
theorem zlk_2 : z_okl zP zTH zm_L_law zl_2 zlp_2 = true := by decide +kernel
