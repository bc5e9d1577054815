/-! rules for each instruction, printed by program: methods 94 to 131 -/
section
variable {L : zL} {S : List Value} {q : zS} {Q : zU → zS → Prop} {a b c d e x0 x1 x2 x3 x4 x5 y0 y1 y2 y3 y4 y5 y6 y7 : Int} {u u2 v0 v1 v2 v3 v4 v5 v6 v7 w0 w1 w2 w3 w4 w5 w6 : Nat} {v r0 r1 r2 r3 : Value} {l0 l1 l2 l3 l4 l5 l6 l7 l8 l9 l10 l11 l12 l13 : Option Value}
set_option maxRecDepth 100000 in
theorem g94_0 : z_go zP 94 0 [some (.ref u)] S q Q ↔ z_go zP 94 1 [some (.ref u)] (.ref u :: S) q Q := ge_x (len := 1) (x := (0, 0, [])) p_94 rfl rfl
set_option maxRecDepth 100000 in
theorem g94_1 : z_go zP 94 1 L [.ref u] q Q ↔ z_go zP 94 4 L [] q Q := ge_oin (len := 3) (x := (0, 7, [])) (by show 0 ≤ 4; omega) rfl p_94 rfl
set_option maxRecDepth 100000 in
theorem g94_4 : z_go zP 94 4 [some (.ref u)] S q Q ↔ z_go zP 94 5 [some (.ref u)] (.ref u :: S) q Q := ge_x (len := 1) (x := (0, 0, [])) p_94 rfl rfl
set_option maxRecDepth 100000 in
theorem g94_5 : z_go zP 94 5 L S q Q ↔ z_go zP 94 7 L (zi 61 :: S) q Q := ge_x (len := 2) (x := (0, 0, [])) p_94 rfl rfl
set_option maxRecDepth 100000 in
theorem g94_7 (a1 : 0 ≤ a) (a2 : a ≤ 60000) : z_go zP 94 7 L (zi a :: S) q Q ↔ z_go zP 94 9 L (.ref q.2.1 :: S) (z_new 100 a.toNat (fun _ => zi 0) q) Q := ge_nwa (len := 2) (x := (0, 0, [])) (n8 := componentBytes .int) a1 a2 (by decide) p_94 rfl rfl
set_option maxRecDepth 100000 in
theorem g94_9 : z_go zP 94 9 L (v :: .ref u :: S) q Q ↔ ∃ q1, z_put [9] 3 q u v = some q1 ∧ z_go zP 94 12 L S q1 Q := ge_putf (len := 3) (x := (3, 0, [9])) p_94 rfl
set_option maxRecDepth 100000 in
theorem g94_12 : z_go zP 94 12 [some (.ref u)] S q Q ↔ z_go zP 94 13 [some (.ref u)] (.ref u :: S) q Q := ge_x (len := 1) (x := (0, 0, [])) p_94 rfl rfl
set_option maxRecDepth 100000 in
theorem g94_13 : z_go zP 94 13 L S q Q ↔ z_go zP 94 15 L (zi 61 :: S) q Q := ge_x (len := 2) (x := (0, 0, [])) p_94 rfl rfl
set_option maxRecDepth 100000 in
theorem g94_15 (a1 : 0 ≤ a) (a2 : a ≤ 60000) : z_go zP 94 15 L (zi a :: S) q Q ↔ z_go zP 94 17 L (.ref q.2.1 :: S) (z_new 102 a.toNat (fun _ => zi 0) q) Q := ge_nwa (len := 2) (x := (0, 0, [])) (n8 := componentBytes .boolean) a1 a2 (by decide) p_94 rfl rfl
set_option maxRecDepth 100000 in
theorem g94_17 : z_go zP 94 17 L (v :: .ref u :: S) q Q ↔ ∃ q1, z_put [9] 4 q u v = some q1 ∧ z_go zP 94 20 L S q1 Q := ge_putf (len := 3) (x := (4, 0, [9])) p_94 rfl
set_option maxRecDepth 100000 in
theorem g94_20 : z_go zP 94 20 [some (.ref u)] S q Q ↔ z_go zP 94 21 [some (.ref u)] (.ref u :: S) q Q := ge_x (len := 1) (x := (0, 0, [])) p_94 rfl rfl
set_option maxRecDepth 100000 in
theorem g94_21 : z_go zP 94 21 L S q Q ↔ z_go zP 94 23 L (zi 61 :: S) q Q := ge_x (len := 2) (x := (0, 0, [])) p_94 rfl rfl
set_option maxRecDepth 100000 in
theorem g94_23 (a1 : 0 ≤ a) (a2 : a ≤ 60000) : z_go zP 94 23 L (zi a :: S) q Q ↔ z_go zP 94 25 L (.ref q.2.1 :: S) (z_new 100 a.toNat (fun _ => zi 0) q) Q := ge_nwa (len := 2) (x := (0, 0, [])) (n8 := componentBytes .int) a1 a2 (by decide) p_94 rfl rfl
set_option maxRecDepth 100000 in
theorem g94_25 : z_go zP 94 25 L (v :: .ref u :: S) q Q ↔ ∃ q1, z_put [9] 5 q u v = some q1 ∧ z_go zP 94 28 L S q1 Q := ge_putf (len := 3) (x := (5, 0, [9])) p_94 rfl
set_option maxRecDepth 100000 in
theorem g94_28 : z_go zP 94 28 [some (.ref u)] S q Q ↔ z_go zP 94 29 [some (.ref u)] (.ref u :: S) q Q := ge_x (len := 1) (x := (0, 0, [])) p_94 rfl rfl
set_option maxRecDepth 100000 in
theorem g94_29 : z_go zP 94 29 L S q Q ↔ z_go zP 94 31 L (zi 61 :: S) q Q := ge_x (len := 2) (x := (0, 0, [])) p_94 rfl rfl
set_option maxRecDepth 100000 in
theorem g94_31 (a1 : 0 ≤ a) (a2 : a ≤ 60000) : z_go zP 94 31 L (zi a :: S) q Q ↔ z_go zP 94 33 L (.ref q.2.1 :: S) (z_new 100 a.toNat (fun _ => zi 0) q) Q := ge_nwa (len := 2) (x := (0, 0, [])) (n8 := componentBytes .int) a1 a2 (by decide) p_94 rfl rfl
set_option maxRecDepth 100000 in
theorem g94_33 : z_go zP 94 33 L (v :: .ref u :: S) q Q ↔ ∃ q1, z_put [9] 6 q u v = some q1 ∧ z_go zP 94 36 L S q1 Q := ge_putf (len := 3) (x := (6, 0, [9])) p_94 rfl
set_option maxRecDepth 100000 in
theorem g94_36 : z_go zP 94 36 [some (.ref u)] S q Q ↔ z_go zP 94 37 [some (.ref u)] (.ref u :: S) q Q := ge_x (len := 1) (x := (0, 0, [])) p_94 rfl rfl
set_option maxRecDepth 100000 in
theorem g94_37 : z_go zP 94 37 L S q Q ↔ z_go zP 94 39 L (zi 61 :: S) q Q := ge_x (len := 2) (x := (0, 0, [])) p_94 rfl rfl
set_option maxRecDepth 100000 in
theorem g94_39 (a1 : 0 ≤ a) (a2 : a ≤ 60000) : z_go zP 94 39 L (zi a :: S) q Q ↔ z_go zP 94 41 L (.ref q.2.1 :: S) (z_new 100 a.toNat (fun _ => zi 0) q) Q := ge_nwa (len := 2) (x := (0, 0, [])) (n8 := componentBytes .int) a1 a2 (by decide) p_94 rfl rfl
set_option maxRecDepth 100000 in
theorem g94_41 : z_go zP 94 41 L (v :: .ref u :: S) q Q ↔ ∃ q1, z_put [9] 7 q u v = some q1 ∧ z_go zP 94 44 L S q1 Q := ge_putf (len := 3) (x := (7, 0, [9])) p_94 rfl
set_option maxRecDepth 100000 in
theorem g94_44 : z_go zP 94 44 [some (.ref u)] S q Q ↔ z_go zP 94 45 [some (.ref u)] (.ref u :: S) q Q := ge_x (len := 1) (x := (0, 0, [])) p_94 rfl rfl
set_option maxRecDepth 100000 in
theorem g94_45 : z_go zP 94 45 L S q Q ↔ z_go zP 94 47 L (zi 61 :: S) q Q := ge_x (len := 2) (x := (0, 0, [])) p_94 rfl rfl
set_option maxRecDepth 100000 in
theorem g94_47 (a1 : 0 ≤ a) (a2 : a ≤ 60000) : z_go zP 94 47 L (zi a :: S) q Q ↔ z_go zP 94 49 L (.ref q.2.1 :: S) (z_new 100 a.toNat (fun _ => zi 0) q) Q := ge_nwa (len := 2) (x := (0, 0, [])) (n8 := componentBytes .int) a1 a2 (by decide) p_94 rfl rfl
set_option maxRecDepth 100000 in
theorem g94_49 : z_go zP 94 49 L (v :: .ref u :: S) q Q ↔ ∃ q1, z_put [9] 8 q u v = some q1 ∧ z_go zP 94 52 L S q1 Q := ge_putf (len := 3) (x := (8, 0, [9])) p_94 rfl
set_option maxRecDepth 100000 in
theorem g94_52 : z_go zP 94 52 [some (.ref u)] S q Q ↔ z_go zP 94 53 [some (.ref u)] (.ref u :: S) q Q := ge_x (len := 1) (x := (0, 0, [])) p_94 rfl rfl
set_option maxRecDepth 100000 in
theorem g94_53 : z_go zP 94 53 L S q Q ↔ z_go zP 94 55 L (zi 61 :: S) q Q := ge_x (len := 2) (x := (0, 0, [])) p_94 rfl rfl
set_option maxRecDepth 100000 in
theorem g94_55 (a1 : 0 ≤ a) (a2 : a ≤ 60000) : z_go zP 94 55 L (zi a :: S) q Q ↔ z_go zP 94 57 L (.ref q.2.1 :: S) (z_new 100 a.toNat (fun _ => zi 0) q) Q := ge_nwa (len := 2) (x := (0, 0, [])) (n8 := componentBytes .int) a1 a2 (by decide) p_94 rfl rfl
set_option maxRecDepth 100000 in
theorem g94_57 : z_go zP 94 57 L (v :: .ref u :: S) q Q ↔ ∃ q1, z_put [9] 9 q u v = some q1 ∧ z_go zP 94 60 L S q1 Q := ge_putf (len := 3) (x := (9, 0, [9])) p_94 rfl
set_option maxRecDepth 100000 in
theorem g94_60 : z_go zP 94 60 [some (.ref u)] S q Q ↔ z_go zP 94 61 [some (.ref u)] (.ref u :: S) q Q := ge_x (len := 1) (x := (0, 0, [])) p_94 rfl rfl
set_option maxRecDepth 100000 in
theorem g94_61 : z_go zP 94 61 L S q Q ↔ z_go zP 94 63 L (zi 61 :: S) q Q := ge_x (len := 2) (x := (0, 0, [])) p_94 rfl rfl
set_option maxRecDepth 100000 in
theorem g94_63 (a1 : 0 ≤ a) (a2 : a ≤ 60000) : z_go zP 94 63 L (zi a :: S) q Q ↔ z_go zP 94 65 L (.ref q.2.1 :: S) (z_new 100 a.toNat (fun _ => zi 0) q) Q := ge_nwa (len := 2) (x := (0, 0, [])) (n8 := componentBytes .int) a1 a2 (by decide) p_94 rfl rfl
set_option maxRecDepth 100000 in
theorem g94_65 : z_go zP 94 65 L (v :: .ref u :: S) q Q ↔ ∃ q1, z_put [9] 10 q u v = some q1 ∧ z_go zP 94 68 L S q1 Q := ge_putf (len := 3) (x := (10, 0, [9])) p_94 rfl
set_option maxRecDepth 100000 in
theorem g94_68 : z_go zP 94 68 [some (.ref u)] S q Q ↔ z_go zP 94 69 [some (.ref u)] (.ref u :: S) q Q := ge_x (len := 1) (x := (0, 0, [])) p_94 rfl rfl
set_option maxRecDepth 100000 in
theorem g94_69 : z_go zP 94 69 L S q Q ↔ z_go zP 94 71 L (zi 61 :: S) q Q := ge_x (len := 2) (x := (0, 0, [])) p_94 rfl rfl
set_option maxRecDepth 100000 in
theorem g94_71 (a1 : 0 ≤ a) (a2 : a ≤ 60000) : z_go zP 94 71 L (zi a :: S) q Q ↔ z_go zP 94 73 L (.ref q.2.1 :: S) (z_new 100 a.toNat (fun _ => zi 0) q) Q := ge_nwa (len := 2) (x := (0, 0, [])) (n8 := componentBytes .int) a1 a2 (by decide) p_94 rfl rfl
set_option maxRecDepth 100000 in
theorem g94_73 : z_go zP 94 73 L (v :: .ref u :: S) q Q ↔ ∃ q1, z_put [9] 11 q u v = some q1 ∧ z_go zP 94 76 L S q1 Q := ge_putf (len := 3) (x := (11, 0, [9])) p_94 rfl
set_option maxRecDepth 100000 in
theorem g94_76 : z_go zP 94 76 [some (.ref u)] S q Q ↔ z_go zP 94 77 [some (.ref u)] (.ref u :: S) q Q := ge_x (len := 1) (x := (0, 0, [])) p_94 rfl rfl
set_option maxRecDepth 100000 in
theorem g94_77 : z_go zP 94 77 L S q Q ↔ z_go zP 94 79 L (zi 61 :: S) q Q := ge_x (len := 2) (x := (0, 0, [])) p_94 rfl rfl
set_option maxRecDepth 100000 in
theorem g94_79 (a1 : 0 ≤ a) (a2 : a ≤ 60000) : z_go zP 94 79 L (zi a :: S) q Q ↔ z_go zP 94 81 L (.ref q.2.1 :: S) (z_new 100 a.toNat (fun _ => zi 0) q) Q := ge_nwa (len := 2) (x := (0, 0, [])) (n8 := componentBytes .int) a1 a2 (by decide) p_94 rfl rfl
set_option maxRecDepth 100000 in
theorem g94_81 : z_go zP 94 81 L (v :: .ref u :: S) q Q ↔ ∃ q1, z_put [9] 12 q u v = some q1 ∧ z_go zP 94 84 L S q1 Q := ge_putf (len := 3) (x := (12, 0, [9])) p_94 rfl
set_option maxRecDepth 100000 in
theorem g94_84 : z_go zP 94 84 [some (.ref u)] S q Q ↔ z_go zP 94 85 [some (.ref u)] (.ref u :: S) q Q := ge_x (len := 1) (x := (0, 0, [])) p_94 rfl rfl
set_option maxRecDepth 100000 in
theorem g94_85 : z_go zP 94 85 L S q Q ↔ z_go zP 94 87 L (zi 61 :: S) q Q := ge_x (len := 2) (x := (0, 0, [])) p_94 rfl rfl
set_option maxRecDepth 100000 in
theorem g94_87 (a1 : 0 ≤ a) (a2 : a ≤ 60000) : z_go zP 94 87 L (zi a :: S) q Q ↔ z_go zP 94 89 L (.ref q.2.1 :: S) (z_new 100 a.toNat (fun _ => zi 0) q) Q := ge_nwa (len := 2) (x := (0, 0, [])) (n8 := componentBytes .int) a1 a2 (by decide) p_94 rfl rfl
set_option maxRecDepth 100000 in
theorem g94_89 : z_go zP 94 89 L (v :: .ref u :: S) q Q ↔ ∃ q1, z_put [9] 13 q u v = some q1 ∧ z_go zP 94 92 L S q1 Q := ge_putf (len := 3) (x := (13, 0, [9])) p_94 rfl
set_option maxRecDepth 100000 in
theorem g94_92 : z_go zP 94 92 [some (.ref u)] S q Q ↔ z_go zP 94 93 [some (.ref u)] (.ref u :: S) q Q := ge_x (len := 1) (x := (0, 0, [])) p_94 rfl rfl
set_option maxRecDepth 100000 in
theorem g94_93 : z_go zP 94 93 L S q Q ↔ z_go zP 94 96 L (zi 1464 :: S) q Q := ge_x (len := 3) (x := (0, 0, [])) p_94 rfl rfl
set_option maxRecDepth 100000 in
theorem g94_96 (a1 : 0 ≤ a) (a2 : a ≤ 60000) : z_go zP 94 96 L (zi a :: S) q Q ↔ z_go zP 94 98 L (.ref q.2.1 :: S) (z_new 100 a.toNat (fun _ => zi 0) q) Q := ge_nwa (len := 2) (x := (0, 0, [])) (n8 := componentBytes .int) a1 a2 (by decide) p_94 rfl rfl
set_option maxRecDepth 100000 in
theorem g94_98 : z_go zP 94 98 L (v :: .ref u :: S) q Q ↔ ∃ q1, z_put [9] 14 q u v = some q1 ∧ z_go zP 94 101 L S q1 Q := ge_putf (len := 3) (x := (14, 0, [9])) p_94 rfl
set_option maxRecDepth 100000 in
theorem g94_101 : z_go zP 94 101 [some (.ref u)] S q Q ↔ z_go zP 94 102 [some (.ref u)] (.ref u :: S) q Q := ge_x (len := 1) (x := (0, 0, [])) p_94 rfl rfl
set_option maxRecDepth 100000 in
theorem g94_102 : z_go zP 94 102 L S q Q ↔ z_go zP 94 105 L (zi 1464 :: S) q Q := ge_x (len := 3) (x := (0, 0, [])) p_94 rfl rfl
set_option maxRecDepth 100000 in
theorem g94_105 (a1 : 0 ≤ a) (a2 : a ≤ 60000) : z_go zP 94 105 L (zi a :: S) q Q ↔ z_go zP 94 107 L (.ref q.2.1 :: S) (z_new 100 a.toNat (fun _ => zi 0) q) Q := ge_nwa (len := 2) (x := (0, 0, [])) (n8 := componentBytes .int) a1 a2 (by decide) p_94 rfl rfl
set_option maxRecDepth 100000 in
theorem g94_107 : z_go zP 94 107 L (v :: .ref u :: S) q Q ↔ ∃ q1, z_put [9] 15 q u v = some q1 ∧ z_go zP 94 110 L S q1 Q := ge_putf (len := 3) (x := (15, 0, [9])) p_94 rfl
set_option maxRecDepth 100000 in
theorem g94_110 : z_go zP 94 110 [some (.ref u)] S q Q ↔ z_go zP 94 111 [some (.ref u)] (.ref u :: S) q Q := ge_x (len := 1) (x := (0, 0, [])) p_94 rfl rfl
set_option maxRecDepth 100000 in
theorem g94_111 : z_go zP 94 111 L S q Q ↔ z_go zP 94 114 L (zi 1464 :: S) q Q := ge_x (len := 3) (x := (0, 0, [])) p_94 rfl rfl
set_option maxRecDepth 100000 in
theorem g94_114 (a1 : 0 ≤ a) (a2 : a ≤ 60000) : z_go zP 94 114 L (zi a :: S) q Q ↔ z_go zP 94 116 L (.ref q.2.1 :: S) (z_new 100 a.toNat (fun _ => zi 0) q) Q := ge_nwa (len := 2) (x := (0, 0, [])) (n8 := componentBytes .int) a1 a2 (by decide) p_94 rfl rfl
set_option maxRecDepth 100000 in
theorem g94_116 : z_go zP 94 116 L (v :: .ref u :: S) q Q ↔ ∃ q1, z_put [9] 16 q u v = some q1 ∧ z_go zP 94 119 L S q1 Q := ge_putf (len := 3) (x := (16, 0, [9])) p_94 rfl
set_option maxRecDepth 100000 in
theorem g94_119 : z_go zP 94 119 [some (.ref u)] S q Q ↔ z_go zP 94 120 [some (.ref u)] (.ref u :: S) q Q := ge_x (len := 1) (x := (0, 0, [])) p_94 rfl rfl
set_option maxRecDepth 100000 in
theorem g94_120 : z_go zP 94 120 L S q Q ↔ z_go zP 94 123 L (zi 1464 :: S) q Q := ge_x (len := 3) (x := (0, 0, [])) p_94 rfl rfl
set_option maxRecDepth 100000 in
theorem g94_123 (a1 : 0 ≤ a) (a2 : a ≤ 60000) : z_go zP 94 123 L (zi a :: S) q Q ↔ z_go zP 94 125 L (.ref q.2.1 :: S) (z_new 100 a.toNat (fun _ => zi 0) q) Q := ge_nwa (len := 2) (x := (0, 0, [])) (n8 := componentBytes .int) a1 a2 (by decide) p_94 rfl rfl
set_option maxRecDepth 100000 in
theorem g94_125 : z_go zP 94 125 L (v :: .ref u :: S) q Q ↔ ∃ q1, z_put [9] 17 q u v = some q1 ∧ z_go zP 94 128 L S q1 Q := ge_putf (len := 3) (x := (17, 0, [9])) p_94 rfl
set_option maxRecDepth 100000 in
theorem g94_128 : z_go zP 94 128 [some (.ref u)] S q Q ↔ z_go zP 94 129 [some (.ref u)] (.ref u :: S) q Q := ge_x (len := 1) (x := (0, 0, [])) p_94 rfl rfl
set_option maxRecDepth 100000 in
theorem g94_129 : z_go zP 94 129 L S q Q ↔ z_go zP 94 132 L (zi 1464 :: S) q Q := ge_x (len := 3) (x := (0, 0, [])) p_94 rfl rfl
set_option maxRecDepth 100000 in
theorem g94_132 (a1 : 0 ≤ a) (a2 : a ≤ 60000) : z_go zP 94 132 L (zi a :: S) q Q ↔ z_go zP 94 134 L (.ref q.2.1 :: S) (z_new 100 a.toNat (fun _ => zi 0) q) Q := ge_nwa (len := 2) (x := (0, 0, [])) (n8 := componentBytes .int) a1 a2 (by decide) p_94 rfl rfl
set_option maxRecDepth 100000 in
theorem g94_134 : z_go zP 94 134 L (v :: .ref u :: S) q Q ↔ ∃ q1, z_put [9] 18 q u v = some q1 ∧ z_go zP 94 137 L S q1 Q := ge_putf (len := 3) (x := (18, 0, [9])) p_94 rfl
set_option maxRecDepth 100000 in
theorem g94_137 : z_go zP 94 137 [some (.ref u)] S q Q ↔ z_go zP 94 138 [some (.ref u)] (.ref u :: S) q Q := ge_x (len := 1) (x := (0, 0, [])) p_94 rfl rfl
set_option maxRecDepth 100000 in
theorem g94_138 : z_go zP 94 138 L S q Q ↔ z_go zP 94 141 L (zi 1464 :: S) q Q := ge_x (len := 3) (x := (0, 0, [])) p_94 rfl rfl
set_option maxRecDepth 100000 in
theorem g94_141 (a1 : 0 ≤ a) (a2 : a ≤ 60000) : z_go zP 94 141 L (zi a :: S) q Q ↔ z_go zP 94 143 L (.ref q.2.1 :: S) (z_new 101 a.toNat (fun _ => zl 0) q) Q := ge_nwa (len := 2) (x := (0, 0, [])) (n8 := componentBytes .long) a1 a2 (by decide) p_94 rfl rfl
set_option maxRecDepth 100000 in
theorem g94_143 : z_go zP 94 143 L (v :: .ref u :: S) q Q ↔ ∃ q1, z_put [9] 19 q u v = some q1 ∧ z_go zP 94 146 L S q1 Q := ge_putf (len := 3) (x := (19, 0, [9])) p_94 rfl
set_option maxRecDepth 100000 in
theorem g94_146 : z_go zP 94 146 [some (.ref u)] S q Q ↔ z_go zP 94 147 [some (.ref u)] (.ref u :: S) q Q := ge_x (len := 1) (x := (0, 0, [])) p_94 rfl rfl
set_option maxRecDepth 100000 in
theorem g94_147 : z_go zP 94 147 L S q Q ↔ z_go zP 94 149 L (zi 122 :: S) q Q := ge_x (len := 2) (x := (0, 0, [])) p_94 rfl rfl
set_option maxRecDepth 100000 in
theorem g94_149 (a1 : 0 ≤ a) (a2 : a ≤ 60000) : z_go zP 94 149 L (zi a :: S) q Q ↔ z_go zP 94 151 L (.ref q.2.1 :: S) (z_new 100 a.toNat (fun _ => zi 0) q) Q := ge_nwa (len := 2) (x := (0, 0, [])) (n8 := componentBytes .int) a1 a2 (by decide) p_94 rfl rfl
set_option maxRecDepth 100000 in
theorem g94_151 : z_go zP 94 151 L (v :: .ref u :: S) q Q ↔ ∃ q1, z_put [9] 20 q u v = some q1 ∧ z_go zP 94 154 L S q1 Q := ge_putf (len := 3) (x := (20, 0, [9])) p_94 rfl
set_option maxRecDepth 100000 in
theorem g94_154 : z_go zP 94 154 [some (.ref u)] S q Q ↔ z_go zP 94 155 [some (.ref u)] (.ref u :: S) q Q := ge_x (len := 1) (x := (0, 0, [])) p_94 rfl rfl
set_option maxRecDepth 100000 in
theorem g94_155 : z_go zP 94 155 L S q Q ↔ z_go zP 94 157 L (zi 122 :: S) q Q := ge_x (len := 2) (x := (0, 0, [])) p_94 rfl rfl
set_option maxRecDepth 100000 in
theorem g94_157 (a1 : 0 ≤ a) (a2 : a ≤ 60000) : z_go zP 94 157 L (zi a :: S) q Q ↔ z_go zP 94 159 L (.ref q.2.1 :: S) (z_new 100 a.toNat (fun _ => zi 0) q) Q := ge_nwa (len := 2) (x := (0, 0, [])) (n8 := componentBytes .int) a1 a2 (by decide) p_94 rfl rfl
set_option maxRecDepth 100000 in
theorem g94_159 : z_go zP 94 159 L (v :: .ref u :: S) q Q ↔ ∃ q1, z_put [9] 21 q u v = some q1 ∧ z_go zP 94 162 L S q1 Q := ge_putf (len := 3) (x := (21, 0, [9])) p_94 rfl
set_option maxRecDepth 100000 in
theorem g94_162 : z_go zP 94 162 [some (.ref u)] S q Q ↔ z_go zP 94 163 [some (.ref u)] (.ref u :: S) q Q := ge_x (len := 1) (x := (0, 0, [])) p_94 rfl rfl
set_option maxRecDepth 100000 in
theorem g94_163 : z_go zP 94 163 L S q Q ↔ z_go zP 94 165 L (zi 122 :: S) q Q := ge_x (len := 2) (x := (0, 0, [])) p_94 rfl rfl
set_option maxRecDepth 100000 in
theorem g94_165 (a1 : 0 ≤ a) (a2 : a ≤ 60000) : z_go zP 94 165 L (zi a :: S) q Q ↔ z_go zP 94 167 L (.ref q.2.1 :: S) (z_new 102 a.toNat (fun _ => zi 0) q) Q := ge_nwa (len := 2) (x := (0, 0, [])) (n8 := componentBytes .boolean) a1 a2 (by decide) p_94 rfl rfl
set_option maxRecDepth 100000 in
theorem g94_167 : z_go zP 94 167 L (v :: .ref u :: S) q Q ↔ ∃ q1, z_put [9] 22 q u v = some q1 ∧ z_go zP 94 170 L S q1 Q := ge_putf (len := 3) (x := (22, 0, [9])) p_94 rfl
set_option maxRecDepth 100000 in
theorem g94_170 : z_go zP 94 170 [some (.ref u)] S q Q ↔ z_go zP 94 171 [some (.ref u)] (.ref u :: S) q Q := ge_x (len := 1) (x := (0, 0, [])) p_94 rfl rfl
set_option maxRecDepth 100000 in
theorem g94_171 : z_go zP 94 171 L S q Q ↔ z_go zP 94 173 L (zi 61 :: S) q Q := ge_x (len := 2) (x := (0, 0, [])) p_94 rfl rfl
set_option maxRecDepth 100000 in
theorem g94_173 (a1 : 0 ≤ a) (a2 : a ≤ 60000) : z_go zP 94 173 L (zi a :: S) q Q ↔ z_go zP 94 175 L (.ref q.2.1 :: S) (z_new 100 a.toNat (fun _ => zi 0) q) Q := ge_nwa (len := 2) (x := (0, 0, [])) (n8 := componentBytes .int) a1 a2 (by decide) p_94 rfl rfl
set_option maxRecDepth 100000 in
theorem g94_175 : z_go zP 94 175 L (v :: .ref u :: S) q Q ↔ ∃ q1, z_put [9] 23 q u v = some q1 ∧ z_go zP 94 178 L S q1 Q := ge_putf (len := 3) (x := (23, 0, [9])) p_94 rfl
set_option maxRecDepth 100000 in
theorem g94_178 : z_go zP 94 178 [some (.ref u)] S q Q ↔ z_go zP 94 179 [some (.ref u)] (.ref u :: S) q Q := ge_x (len := 1) (x := (0, 0, [])) p_94 rfl rfl
set_option maxRecDepth 100000 in
theorem g94_179 : z_go zP 94 179 L S q Q ↔ z_go zP 94 181 L (zi 61 :: S) q Q := ge_x (len := 2) (x := (0, 0, [])) p_94 rfl rfl
set_option maxRecDepth 100000 in
theorem g94_181 (a1 : 0 ≤ a) (a2 : a ≤ 60000) : z_go zP 94 181 L (zi a :: S) q Q ↔ z_go zP 94 183 L (.ref q.2.1 :: S) (z_new 100 a.toNat (fun _ => zi 0) q) Q := ge_nwa (len := 2) (x := (0, 0, [])) (n8 := componentBytes .int) a1 a2 (by decide) p_94 rfl rfl
set_option maxRecDepth 100000 in
theorem g94_183 : z_go zP 94 183 L (v :: .ref u :: S) q Q ↔ ∃ q1, z_put [9] 24 q u v = some q1 ∧ z_go zP 94 186 L S q1 Q := ge_putf (len := 3) (x := (24, 0, [9])) p_94 rfl
set_option maxRecDepth 100000 in
theorem g94_186 : z_go zP 94 186 [some (.ref u)] S q Q ↔ z_go zP 94 187 [some (.ref u)] (.ref u :: S) q Q := ge_x (len := 1) (x := (0, 0, [])) p_94 rfl rfl
set_option maxRecDepth 100000 in
theorem g94_187 : z_go zP 94 187 L S q Q ↔ z_go zP 94 190 L (zi 976 :: S) q Q := ge_x (len := 3) (x := (0, 0, [])) p_94 rfl rfl
set_option maxRecDepth 100000 in
theorem g94_190 (a1 : 0 ≤ a) (a2 : a ≤ 60000) : z_go zP 94 190 L (zi a :: S) q Q ↔ z_go zP 94 192 L (.ref q.2.1 :: S) (z_new 100 a.toNat (fun _ => zi 0) q) Q := ge_nwa (len := 2) (x := (0, 0, [])) (n8 := componentBytes .int) a1 a2 (by decide) p_94 rfl rfl
set_option maxRecDepth 100000 in
theorem g94_192 : z_go zP 94 192 L (v :: .ref u :: S) q Q ↔ ∃ q1, z_put [9] 25 q u v = some q1 ∧ z_go zP 94 195 L S q1 Q := ge_putf (len := 3) (x := (25, 0, [9])) p_94 rfl
set_option maxRecDepth 100000 in
theorem g94_195 : z_go zP 94 195 [some (.ref u)] S q Q ↔ z_go zP 94 196 [some (.ref u)] (.ref u :: S) q Q := ge_x (len := 1) (x := (0, 0, [])) p_94 rfl rfl
set_option maxRecDepth 100000 in
theorem g94_196 : z_go zP 94 196 L S q Q ↔ z_go zP 94 199 L (zi 244 :: S) q Q := ge_x (len := 3) (x := (0, 0, [])) p_94 rfl rfl
set_option maxRecDepth 100000 in
theorem g94_199 (a1 : 0 ≤ a) (a2 : a ≤ 60000) : z_go zP 94 199 L (zi a :: S) q Q ↔ z_go zP 94 201 L (.ref q.2.1 :: S) (z_new 100 a.toNat (fun _ => zi 0) q) Q := ge_nwa (len := 2) (x := (0, 0, [])) (n8 := componentBytes .int) a1 a2 (by decide) p_94 rfl rfl
set_option maxRecDepth 100000 in
theorem g94_201 : z_go zP 94 201 L (v :: .ref u :: S) q Q ↔ ∃ q1, z_put [9] 26 q u v = some q1 ∧ z_go zP 94 204 L S q1 Q := ge_putf (len := 3) (x := (26, 0, [9])) p_94 rfl
set_option maxRecDepth 100000 in
theorem g94_204 : z_go zP 94 204 [some (.ref u)] S q Q ↔ z_go zP 94 205 [some (.ref u)] (.ref u :: S) q Q := ge_x (len := 1) (x := (0, 0, [])) p_94 rfl rfl
set_option maxRecDepth 100000 in
theorem g94_205 : z_go zP 94 205 L S q Q ↔ z_go zP 94 208 L (zi 244 :: S) q Q := ge_x (len := 3) (x := (0, 0, [])) p_94 rfl rfl
set_option maxRecDepth 100000 in
theorem g94_208 (a1 : 0 ≤ a) (a2 : a ≤ 60000) : z_go zP 94 208 L (zi a :: S) q Q ↔ z_go zP 94 210 L (.ref q.2.1 :: S) (z_new 100 a.toNat (fun _ => zi 0) q) Q := ge_nwa (len := 2) (x := (0, 0, [])) (n8 := componentBytes .int) a1 a2 (by decide) p_94 rfl rfl
set_option maxRecDepth 100000 in
theorem g94_210 : z_go zP 94 210 L (v :: .ref u :: S) q Q ↔ ∃ q1, z_put [9] 27 q u v = some q1 ∧ z_go zP 94 213 L S q1 Q := ge_putf (len := 3) (x := (27, 0, [9])) p_94 rfl
set_option maxRecDepth 100000 in
theorem g94_213 : z_go zP 94 213 [some (.ref u)] S q Q ↔ z_go zP 94 214 [some (.ref u)] (.ref u :: S) q Q := ge_x (len := 1) (x := (0, 0, [])) p_94 rfl rfl
set_option maxRecDepth 100000 in
theorem g94_214 : z_go zP 94 214 L S q Q ↔ z_go zP 94 216 L (zi 61 :: S) q Q := ge_x (len := 2) (x := (0, 0, [])) p_94 rfl rfl
set_option maxRecDepth 100000 in
theorem g94_216 (a1 : 0 ≤ a) (a2 : a ≤ 60000) : z_go zP 94 216 L (zi a :: S) q Q ↔ z_go zP 94 218 L (.ref q.2.1 :: S) (z_new 100 a.toNat (fun _ => zi 0) q) Q := ge_nwa (len := 2) (x := (0, 0, [])) (n8 := componentBytes .int) a1 a2 (by decide) p_94 rfl rfl
set_option maxRecDepth 100000 in
theorem g94_218 : z_go zP 94 218 L (v :: .ref u :: S) q Q ↔ ∃ q1, z_put [9] 28 q u v = some q1 ∧ z_go zP 94 221 L S q1 Q := ge_putf (len := 3) (x := (28, 0, [9])) p_94 rfl
set_option maxRecDepth 100000 in
theorem g94_221 : z_go zP 94 221 [some (.ref u)] S q Q ↔ z_go zP 94 222 [some (.ref u)] (.ref u :: S) q Q := ge_x (len := 1) (x := (0, 0, [])) p_94 rfl rfl
set_option maxRecDepth 100000 in
theorem g94_222 : z_go zP 94 222 L S q Q ↔ z_go zP 94 224 L (zi 61 :: S) q Q := ge_x (len := 2) (x := (0, 0, [])) p_94 rfl rfl
set_option maxRecDepth 100000 in
theorem g94_224 (a1 : 0 ≤ a) (a2 : a ≤ 60000) : z_go zP 94 224 L (zi a :: S) q Q ↔ z_go zP 94 226 L (.ref q.2.1 :: S) (z_new 100 a.toNat (fun _ => zi 0) q) Q := ge_nwa (len := 2) (x := (0, 0, [])) (n8 := componentBytes .int) a1 a2 (by decide) p_94 rfl rfl
set_option maxRecDepth 100000 in
theorem g94_226 : z_go zP 94 226 L (v :: .ref u :: S) q Q ↔ ∃ q1, z_put [9] 29 q u v = some q1 ∧ z_go zP 94 229 L S q1 Q := ge_putf (len := 3) (x := (29, 0, [9])) p_94 rfl
set_option maxRecDepth 100000 in
theorem g94_229 : z_go zP 94 229 [some (.ref u)] S q Q ↔ z_go zP 94 230 [some (.ref u)] (.ref u :: S) q Q := ge_x (len := 1) (x := (0, 0, [])) p_94 rfl rfl
set_option maxRecDepth 100000 in
theorem g94_230 : z_go zP 94 230 L S q Q ↔ z_go zP 94 232 L (zi 56028 :: S) q Q := ge_x (len := 2) (x := (56028, 0, [])) p_94 rfl rfl
set_option maxRecDepth 100000 in
theorem g94_232 (a1 : 0 ≤ a) (a2 : a ≤ 60000) : z_go zP 94 232 L (zi a :: S) q Q ↔ z_go zP 94 234 L (.ref q.2.1 :: S) (z_new 101 a.toNat (fun _ => zl 0) q) Q := ge_nwa (len := 2) (x := (0, 0, [])) (n8 := componentBytes .long) a1 a2 (by decide) p_94 rfl rfl
set_option maxRecDepth 100000 in
theorem g94_234 : z_go zP 94 234 L (v :: .ref u :: S) q Q ↔ ∃ q1, z_put [9] 36 q u v = some q1 ∧ z_go zP 94 237 L S q1 Q := ge_putf (len := 3) (x := (36, 0, [9])) p_94 rfl
set_option maxRecDepth 100000 in
theorem g94_237 : z_go zP 94 237 [some (.ref u)] S q Q ↔ z_go zP 94 238 [some (.ref u)] (.ref u :: S) q Q := ge_x (len := 1) (x := (0, 0, [])) p_94 rfl rfl
set_option maxRecDepth 100000 in
theorem g94_238 : z_go zP 94 238 L S q Q ↔ z_go zP 94 241 L (zi 2001 :: S) q Q := ge_x (len := 3) (x := (0, 0, [])) p_94 rfl rfl
set_option maxRecDepth 100000 in
theorem g94_241 (a1 : 0 ≤ a) (a2 : a ≤ 60000) : z_go zP 94 241 L (zi a :: S) q Q ↔ z_go zP 94 243 L (.ref q.2.1 :: S) (z_new 100 a.toNat (fun _ => zi 0) q) Q := ge_nwa (len := 2) (x := (0, 0, [])) (n8 := componentBytes .int) a1 a2 (by decide) p_94 rfl rfl
set_option maxRecDepth 100000 in
theorem g94_243 : z_go zP 94 243 L (v :: .ref u :: S) q Q ↔ ∃ q1, z_put [9] 37 q u v = some q1 ∧ z_go zP 94 246 L S q1 Q := ge_putf (len := 3) (x := (37, 0, [9])) p_94 rfl
set_option maxRecDepth 100000 in
theorem g94_246 : z_go zP 94 246 [some (.ref u)] S q Q ↔ z_go zP 94 247 [some (.ref u)] (.ref u :: S) q Q := ge_x (len := 1) (x := (0, 0, [])) p_94 rfl rfl
set_option maxRecDepth 100000 in
theorem g94_247 : z_go zP 94 247 L S q Q ↔ z_go zP 94 249 L (zi 28 :: S) q Q := ge_x (len := 2) (x := (0, 0, [])) p_94 rfl rfl
set_option maxRecDepth 100000 in
theorem g94_249 (a1 : 0 ≤ a) (a2 : a ≤ 60000) : z_go zP 94 249 L (zi a :: S) q Q ↔ z_go zP 94 251 L (.ref q.2.1 :: S) (z_new 101 a.toNat (fun _ => zl 0) q) Q := ge_nwa (len := 2) (x := (0, 0, [])) (n8 := componentBytes .long) a1 a2 (by decide) p_94 rfl rfl
set_option maxRecDepth 100000 in
theorem g94_251 : z_go zP 94 251 L (v :: .ref u :: S) q Q ↔ ∃ q1, z_put [9] 38 q u v = some q1 ∧ z_go zP 94 254 L S q1 Q := ge_putf (len := 3) (x := (38, 0, [9])) p_94 rfl
set_option maxRecDepth 100000 in
theorem g94_254 : z_go zP 94 254 [some (.ref u)] S q Q ↔ z_go zP 94 255 [some (.ref u)] (.ref u :: S) q Q := ge_x (len := 1) (x := (0, 0, [])) p_94 rfl rfl
set_option maxRecDepth 100000 in
theorem g94_255 : z_go zP 94 255 L S q Q ↔ z_go zP 94 258 L (zi 2003 :: S) q Q := ge_x (len := 3) (x := (0, 0, [])) p_94 rfl rfl
set_option maxRecDepth 100000 in
theorem g94_258 (a1 : 0 ≤ a) (a2 : a ≤ 60000) : z_go zP 94 258 L (zi a :: S) q Q ↔ z_go zP 94 260 L (.ref q.2.1 :: S) (z_new 100 a.toNat (fun _ => zi 0) q) Q := ge_nwa (len := 2) (x := (0, 0, [])) (n8 := componentBytes .int) a1 a2 (by decide) p_94 rfl rfl
set_option maxRecDepth 100000 in
theorem g94_260 : z_go zP 94 260 L (v :: .ref u :: S) q Q ↔ ∃ q1, z_put [9] 39 q u v = some q1 ∧ z_go zP 94 263 L S q1 Q := ge_putf (len := 3) (x := (39, 0, [9])) p_94 rfl
set_option maxRecDepth 100000 in
theorem g94_263 : z_go zP 94 263 [some (.ref u)] S q Q ↔ z_go zP 94 264 [some (.ref u)] (.ref u :: S) q Q := ge_x (len := 1) (x := (0, 0, [])) p_94 rfl rfl
set_option maxRecDepth 100000 in
theorem g94_264 : z_go zP 94 264 L S q Q ↔ z_go zP 94 267 L (zi 2001 :: S) q Q := ge_x (len := 3) (x := (0, 0, [])) p_94 rfl rfl
set_option maxRecDepth 100000 in
theorem g94_267 (a1 : 0 ≤ a) (a2 : a ≤ 60000) : z_go zP 94 267 L (zi a :: S) q Q ↔ z_go zP 94 269 L (.ref q.2.1 :: S) (z_new 100 a.toNat (fun _ => zi 0) q) Q := ge_nwa (len := 2) (x := (0, 0, [])) (n8 := componentBytes .int) a1 a2 (by decide) p_94 rfl rfl
set_option maxRecDepth 100000 in
theorem g94_269 : z_go zP 94 269 L (v :: .ref u :: S) q Q ↔ ∃ q1, z_put [9] 40 q u v = some q1 ∧ z_go zP 94 272 L S q1 Q := ge_putf (len := 3) (x := (40, 0, [9])) p_94 rfl
set_option maxRecDepth 100000 in
theorem g94_272 : z_go zP 94 272 [some (.ref u)] S q Q ↔ z_go zP 94 273 [some (.ref u)] (.ref u :: S) q Q := ge_x (len := 1) (x := (0, 0, [])) p_94 rfl rfl
set_option maxRecDepth 100000 in
theorem g94_273 : z_go zP 94 273 L S q Q ↔ z_go zP 94 275 L (zi 61 :: S) q Q := ge_x (len := 2) (x := (0, 0, [])) p_94 rfl rfl
set_option maxRecDepth 100000 in
theorem g94_275 (a1 : 0 ≤ a) (a2 : a ≤ 60000) : z_go zP 94 275 L (zi a :: S) q Q ↔ z_go zP 94 277 L (.ref q.2.1 :: S) (z_new 102 a.toNat (fun _ => zi 0) q) Q := ge_nwa (len := 2) (x := (0, 0, [])) (n8 := componentBytes .boolean) a1 a2 (by decide) p_94 rfl rfl
set_option maxRecDepth 100000 in
theorem g94_277 : z_go zP 94 277 L (v :: .ref u :: S) q Q ↔ ∃ q1, z_put [9] 41 q u v = some q1 ∧ z_go zP 94 280 L S q1 Q := ge_putf (len := 3) (x := (41, 0, [9])) p_94 rfl
set_option maxRecDepth 100000 in
theorem g94_280 : z_go zP 94 280 L [] q Q ↔ Q (.inl none) q := z_go_rt (len := 1) (x := (0, 0, [])) p_94 rfl rfl rfl
theorem g95_0 : z_go zP 95 0 [some (.ref u)] S q Q ↔ z_go zP 95 1 [some (.ref u)] (.ref u :: S) q Q := ge_x (len := 1) (x := (0, 0, [])) p_95 rfl rfl
theorem g95_1 : z_go zP 95 1 L (.ref u :: S) q Q ↔ ∃ v, z_get [9] 0 q.1 u = some v ∧ z_go zP 95 4 L (v :: S) q Q := ge_getf (len := 3) (x := (0, 0, [9])) p_95 rfl
theorem g95_4 : z_go zP 95 4 L [zi a] q Q ↔ Q (.inl (some (zi a))) q := ge_rti (len := 1) (x := (0, 0, [])) p_95 rfl rfl
theorem g96_0 : z_go zP 96 0 [some (.ref u), l1] S q Q ↔ z_go zP 96 1 [some (.ref u), l1] (.ref u :: S) q Q := ge_x (len := 1) (x := (0, 0, [])) p_96 rfl rfl
theorem g96_1 : z_go zP 96 1 [l0, some (zi a)] S q Q ↔ z_go zP 96 2 [l0, some (zi a)] (zi a :: S) q Q := ge_x (len := 1) (x := (0, 0, [])) p_96 rfl rfl
theorem g96_2 : z_go zP 96 2 L (v :: .ref u :: S) q Q ↔ ∃ q1, z_put [9] 0 q u v = some q1 ∧ z_go zP 96 5 L S q1 Q := ge_putf (len := 3) (x := (0, 0, [9])) p_96 rfl
theorem g96_5 : z_go zP 96 5 L S q Q ↔ z_go zP 96 6 L (zi 0 :: S) q Q := ge_x (len := 1) (x := (0, 0, [])) p_96 rfl rfl
theorem g96_6 : z_go zP 96 6 L [zi a] q Q ↔ Q (.inl (some (zi a))) q := ge_rti (len := 1) (x := (0, 0, [])) p_96 rfl rfl
theorem g97_0 : z_go zP 97 0 [some (zi a), l1, l2] S q Q ↔ z_go zP 97 1 [some (zi a), l1, l2] (zi a :: S) q Q := ge_x (len := 1) (x := (0, 0, [])) p_97 rfl rfl
theorem g97_1 : z_go zP 97 1 [l0, some (zi a), l2] S q Q ↔ z_go zP 97 2 [l0, some (zi a), l2] (zi a :: S) q Q := ge_x (len := 1) (x := (0, 0, [])) p_97 rfl rfl
theorem g97_2 (a1 : -2147483648 ≤ a) (a2 : a < 2147483648) (b1 : -2147483648 ≤ b) (b2 : b < 2147483648) : z_go zP 97 2 L (zi b :: zi a :: S) q Q ↔ if a < b then z_go zP 97 14 L S q Q else z_go zP 97 5 L S q Q := ge_ic_lt (len := 3) (x := (0, 0, [])) a1 a2 b1 b2 p_97 rfl rfl
theorem g97_5 : z_go zP 97 5 [some (zi a), l1, l2] S q Q ↔ z_go zP 97 6 [some (zi a), l1, l2] (zi a :: S) q Q := ge_x (len := 1) (x := (0, 0, [])) p_97 rfl rfl
theorem g97_6 : z_go zP 97 6 [l0, l1, some (zi a)] S q Q ↔ z_go zP 97 7 [l0, l1, some (zi a)] (zi a :: S) q Q := ge_x (len := 1) (x := (0, 0, [])) p_97 rfl rfl
theorem g97_7 (a1 : -2147483648 ≤ a) (a2 : a < 2147483648) (b1 : -2147483648 ≤ b) (b2 : b < 2147483648) : z_go zP 97 7 L (zi b :: zi a :: S) q Q ↔ if b < a then z_go zP 97 14 L S q Q else z_go zP 97 10 L S q Q := ge_ic_gt (len := 3) (x := (0, 0, [])) a1 a2 b1 b2 p_97 rfl rfl
theorem g97_10 : z_go zP 97 10 L S q Q ↔ z_go zP 97 11 L (zi 1 :: S) q Q := ge_x (len := 1) (x := (0, 0, [])) p_97 rfl rfl
theorem g97_11 : z_go zP 97 11 L S q Q ↔ z_go zP 97 15 L S q Q := ge_to (len := 3) (x := (0, 0, [])) p_97 rfl rfl rfl
theorem g97_14 : z_go zP 97 14 L S q Q ↔ z_go zP 97 15 L (zi 0 :: S) q Q := ge_x (len := 1) (x := (0, 0, [])) p_97 rfl rfl
theorem g97_15_0 : z_go zP 97 15 L [zi 0] q Q ↔ Q (.inl (some (zi 0))) q := z_go_rt (len := 1) (x := (0, 0, [])) p_97 rfl rfl rfl
theorem g97_15_1 : z_go zP 97 15 L [zi 1] q Q ↔ Q (.inl (some (zi 1))) q := z_go_rt (len := 1) (x := (0, 0, [])) p_97 rfl rfl rfl
theorem g97_15b {c : Prop} [Decidable c] : z_go zP 97 15 L [zi (bI c)] q Q ↔ Q (.inl (some (zi (bI c)))) q := (by rcases bI_01 (c := c) with h | h <;> rw [h] <;> exact z_go_rt (len := 1) (x := (0, 0, [])) p_97 rfl rfl rfl)
theorem g98_0 : z_go zP 98 0 [some (.ref u), l1, l2] S q Q ↔ z_go zP 98 1 [some (.ref u), l1, l2] (.ref u :: S) q Q := ge_x (len := 1) (x := (0, 0, [])) p_98 rfl rfl
theorem g98_1 : z_go zP 98 1 [l0, some (zi a), l2] S q Q ↔ z_go zP 98 2 [l0, some (zi a), l2] (zi a :: S) q Q := ge_x (len := 1) (x := (0, 0, [])) p_98 rfl rfl
theorem g98_2 : z_go zP 98 2 L (v :: .ref u :: S) q Q ↔ ∃ q1, z_put [9] 1 q u v = some q1 ∧ z_go zP 98 5 L S q1 Q := ge_putf (len := 3) (x := (1, 0, [9])) p_98 rfl
theorem g98_5 : z_go zP 98 5 [some (.ref u), l1, l2] S q Q ↔ z_go zP 98 6 [some (.ref u), l1, l2] (.ref u :: S) q Q := ge_x (len := 1) (x := (0, 0, [])) p_98 rfl rfl
theorem g98_6 : z_go zP 98 6 [l0, l1, some (zi a)] S q Q ↔ z_go zP 98 7 [l0, l1, some (zi a)] (zi a :: S) q Q := ge_x (len := 1) (x := (0, 0, [])) p_98 rfl rfl
theorem g98_7 : z_go zP 98 7 L [zi x0, .ref u] q Q ↔ z_tg q.1 u = some 9 ∧ z_go zP 96 0 [some (.ref u), some (zi x0)] [] q (zc 98 10 L [] Q) := ge_vc (len := 3) (pc := 7) (S := [zi x0, .ref u]) (u := u) (k1 := 96) (A := [.ref u, zi x0]) (r := []) (tag := 9) (n0 := 1) (zwb_le (by show 0 ≤ 4; omega)) p_98 rfl rfl rfl p_96 (by show 2 ≤ 2; omega) rfl
theorem g98_10 : z_go zP 98 10 L [zi a] q Q ↔ Q (.inl (some (zi a))) q := ge_rti (len := 1) (x := (0, 0, [])) p_98 rfl rfl
theorem g99_0 : z_go zP 99 0 [l0, some (zi a)] S q Q ↔ z_go zP 99 1 [l0, some (zi a)] (zi a :: S) q Q := ge_x (len := 1) (x := (0, 0, [])) p_99 rfl rfl
theorem g99_1 : z_go zP 99 1 L S q Q ↔ z_go zP 99 2 L (zi 1 :: S) q Q := ge_x (len := 1) (x := (0, 0, [])) p_99 rfl rfl
theorem g99_2 : z_go zP 99 2 [some (.ref u), l1] S q Q ↔ z_go zP 99 3 [some (.ref u), l1] (.ref u :: S) q Q := ge_x (len := 1) (x := (0, 0, [])) p_99 rfl rfl
theorem g99_3 : z_go zP 99 3 L (.ref u :: S) q Q ↔ ∃ v, z_get [9] 2 q.1 u = some v ∧ z_go zP 99 6 L (v :: S) q Q := ge_getf (len := 3) (x := (2, 0, [9])) p_99 rfl
theorem g99_6 : z_go zP 99 6 L [zi x2, zi x1, zi x0] q Q ↔ z_go zP 97 0 [some (zi x0), some (zi x1), some (zi x2)] [] q (zd 99 9 L [] Q) := (z_go_cl (len := 3) (x := (97, 2, [3])) (k1 := 97) (A := [zi x0, zi x1, zi x2]) (r := []) p_99 rfl rfl rfl rfl (by simp only [z_cl, List.drop]; rw [if_pos]; rfl; exact by first | exact ⟨by decide, (zwb_le (by show 0 ≤ 4; omega))⟩ | exact ⟨by decide, by show 3 ≤ 3; omega, (zwb_le (by show 0 ≤ 4; omega))⟩) p_97 (by show 3 ≤ 3; omega)).trans (ge_bk_d rfl)
theorem g99_9 (a1 : -2147483648 ≤ a) (a2 : a < 2147483648) : z_go zP 99 9 L (zi a :: S) q Q ↔ if a = 0 then z_go zP 99 25 L S q Q else z_go zP 99 12 L S q Q := ge_if_eq (len := 3) (x := (0, 0, [])) a1 a2 p_99 rfl rfl
theorem g99_9b {c : Prop} [Decidable c] : z_go zP 99 9 L (zi (bI c) :: S) q Q ↔ if c then z_go zP 99 12 L S q Q else z_go zP 99 25 L S q Q := ge_if_eq_b (len := 3) (x := (0, 0, [])) p_99 rfl rfl
theorem g99_12 : z_go zP 99 12 [some (.ref u), l1] S q Q ↔ z_go zP 99 13 [some (.ref u), l1] (.ref u :: S) q Q := ge_x (len := 1) (x := (0, 0, [])) p_99 rfl rfl
theorem g99_13 : z_go zP 99 13 L (.ref u :: S) q Q ↔ ∃ v, z_get [9] 4 q.1 u = some v ∧ z_go zP 99 16 L (v :: S) q Q := ge_getf (len := 3) (x := (4, 0, [9])) p_99 rfl
theorem g99_16 : z_go zP 99 16 [l0, some (zi a)] S q Q ↔ z_go zP 99 17 [l0, some (zi a)] (zi a :: S) q Q := ge_x (len := 1) (x := (0, 0, [])) p_99 rfl rfl
theorem g99_17 : z_go zP 99 17 L (zi a :: .ref u :: S) q Q ↔ ∃ v, z_at [102] q.1 u (Int32.ofInt a) = some v ∧ z_go zP 99 18 L (v :: S) q Q := ge_bald (len := 1) (x := (0, 0, [])) p_99 rfl
theorem g99_18 (a1 : -2147483648 ≤ a) (a2 : a < 2147483648) : z_go zP 99 18 L (zi a :: S) q Q ↔ if a = 0 then z_go zP 99 25 L S q Q else z_go zP 99 21 L S q Q := ge_if_eq (len := 3) (x := (0, 0, [])) a1 a2 p_99 rfl rfl
theorem g99_18b {c : Prop} [Decidable c] : z_go zP 99 18 L (zi (bI c) :: S) q Q ↔ if c then z_go zP 99 21 L S q Q else z_go zP 99 25 L S q Q := ge_if_eq_b (len := 3) (x := (0, 0, [])) p_99 rfl rfl
theorem g99_21 : z_go zP 99 21 L S q Q ↔ z_go zP 99 22 L (zi 1 :: S) q Q := ge_x (len := 1) (x := (0, 0, [])) p_99 rfl rfl
theorem g99_22 : z_go zP 99 22 L S q Q ↔ z_go zP 99 26 L S q Q := ge_to (len := 3) (x := (0, 0, [])) p_99 rfl rfl rfl
theorem g99_25 : z_go zP 99 25 L S q Q ↔ z_go zP 99 26 L (zi 0 :: S) q Q := ge_x (len := 1) (x := (0, 0, [])) p_99 rfl rfl
theorem g99_26_0 : z_go zP 99 26 L [zi 0] q Q ↔ Q (.inl (some (zi 0))) q := z_go_rt (len := 1) (x := (0, 0, [])) p_99 rfl rfl rfl
theorem g99_26_1 : z_go zP 99 26 L [zi 1] q Q ↔ Q (.inl (some (zi 1))) q := z_go_rt (len := 1) (x := (0, 0, [])) p_99 rfl rfl rfl
theorem g99_26b {c : Prop} [Decidable c] : z_go zP 99 26 L [zi (bI c)] q Q ↔ Q (.inl (some (zi (bI c)))) q := (by rcases bI_01 (c := c) with h | h <;> rw [h] <;> exact z_go_rt (len := 1) (x := (0, 0, [])) p_99 rfl rfl rfl)
theorem g100_0 : z_go zP 100 0 [some (.ref u), l1, l2, l3, l4] S q Q ↔ z_go zP 100 1 [some (.ref u), l1, l2, l3, l4] (.ref u :: S) q Q := ge_x (len := 1) (x := (0, 0, [])) p_100 rfl rfl
theorem g100_1 : z_go zP 100 1 L S q Q ↔ z_go zP 100 2 L (zi 0 :: S) q Q := ge_x (len := 1) (x := (0, 0, [])) p_100 rfl rfl
theorem g100_2 : z_go zP 100 2 L (v :: .ref u :: S) q Q ↔ ∃ q1, z_put [9] 0 q u v = some q1 ∧ z_go zP 100 5 L S q1 Q := ge_putf (len := 3) (x := (0, 0, [9])) p_100 rfl
theorem g100_5 : z_go zP 100 5 [some (.ref u), l1, l2, l3, l4] S q Q ↔ z_go zP 100 6 [some (.ref u), l1, l2, l3, l4] (.ref u :: S) q Q := ge_x (len := 1) (x := (0, 0, [])) p_100 rfl rfl
theorem g100_6 : z_go zP 100 6 [l0, some (zi a), l2, l3, l4] S q Q ↔ z_go zP 100 7 [l0, some (zi a), l2, l3, l4] (zi a :: S) q Q := ge_x (len := 1) (x := (0, 0, [])) p_100 rfl rfl
theorem g100_7 : z_go zP 100 7 L [zi x0, .ref u] q Q ↔ z_tg q.1 u = some 9 ∧ z_go zP 99 0 [some (.ref u), some (zi x0)] [] q (zc 100 10 L [] Q) := ge_vc (len := 3) (pc := 7) (S := [zi x0, .ref u]) (u := u) (k1 := 99) (A := [.ref u, zi x0]) (r := []) (tag := 9) (n0 := 1) (zwb_le (by show 0 ≤ 4; omega)) p_100 rfl rfl rfl p_99 (by show 2 ≤ 2; omega) rfl
theorem g100_10 (a1 : -2147483648 ≤ a) (a2 : a < 2147483648) : z_go zP 100 10 L (zi a :: S) q Q ↔ if ¬ a = 0 then z_go zP 100 17 L S q Q else z_go zP 100 13 L S q Q := ge_if_ne (len := 3) (x := (0, 0, [])) a1 a2 p_100 rfl rfl
theorem g100_10b {c : Prop} [Decidable c] : z_go zP 100 10 L (zi (bI c) :: S) q Q ↔ if c then z_go zP 100 17 L S q Q else z_go zP 100 13 L S q Q := ge_if_ne_b (len := 3) (x := (0, 0, [])) p_100 rfl rfl
theorem g100_13 : z_go zP 100 13 L S q Q ↔ z_go zP 100 14 L (zi 1 :: S) q Q := ge_x (len := 1) (x := (0, 0, [])) p_100 rfl rfl
theorem g100_14 : z_go zP 100 14 L S q Q ↔ z_go zP 100 32 L S q Q := ge_to (len := 3) (x := (0, 0, [])) p_100 rfl rfl rfl
theorem g100_17 : z_go zP 100 17 [some (.ref u), l1, l2, l3, l4] S q Q ↔ z_go zP 100 18 [some (.ref u), l1, l2, l3, l4] (.ref u :: S) q Q := ge_x (len := 1) (x := (0, 0, [])) p_100 rfl rfl
theorem g100_18 : z_go zP 100 18 L (.ref u :: S) q Q ↔ ∃ v, z_get [9] 3 q.1 u = some v ∧ z_go zP 100 21 L (v :: S) q Q := ge_getf (len := 3) (x := (3, 0, [9])) p_100 rfl
theorem g100_21 : z_go zP 100 21 [l0, some (zi a), l2, l3, l4] S q Q ↔ z_go zP 100 22 [l0, some (zi a), l2, l3, l4] (zi a :: S) q Q := ge_x (len := 1) (x := (0, 0, [])) p_100 rfl rfl
theorem g100_22 : z_go zP 100 22 L (zi a :: .ref u :: S) q Q ↔ ∃ v, z_at [99, 100] q.1 u (Int32.ofInt a) = some v ∧ z_go zP 100 23 L (v :: S) q Q := ge_iald (len := 1) (x := (0, 0, [])) p_100 rfl
theorem g100_23 : z_go zP 100 23 [l0, l1, some (zi a), l3, l4] S q Q ↔ z_go zP 100 24 [l0, l1, some (zi a), l3, l4] (zi a :: S) q Q := ge_x (len := 1) (x := (0, 0, [])) p_100 rfl rfl
theorem g100_24 (a1 : -2147483648 ≤ a) (a2 : a < 2147483648) (b1 : -2147483648 ≤ b) (b2 : b < 2147483648) : z_go zP 100 24 L (zi b :: zi a :: S) q Q ↔ if a = b then z_go zP 100 31 L S q Q else z_go zP 100 27 L S q Q := ge_ic_eq (len := 3) (x := (0, 0, [])) a1 a2 b1 b2 p_100 rfl rfl
theorem g100_27 : z_go zP 100 27 L S q Q ↔ z_go zP 100 28 L (zi 2 :: S) q Q := ge_x (len := 1) (x := (0, 0, [])) p_100 rfl rfl
theorem g100_28 : z_go zP 100 28 L S q Q ↔ z_go zP 100 32 L S q Q := ge_to (len := 3) (x := (0, 0, [])) p_100 rfl rfl rfl
theorem g100_31 : z_go zP 100 31 L S q Q ↔ z_go zP 100 32 L (zi 0 :: S) q Q := ge_x (len := 1) (x := (0, 0, [])) p_100 rfl rfl
theorem g100_32 : z_go zP 100 32 [l0, l1, l2, l3, l4] (zi a :: S) q Q ↔ z_go zP 100 34 [l0, l1, l2, (zkl l3), some (zi a)] S q Q := (by cases l3 with | none => exact ge_x (len := 2) (x := (0, 0, [])) p_100 rfl rfl | some v => cases v <;> exact ge_x (len := 2) (x := (0, 0, [])) p_100 rfl rfl)
theorem g100_34 : z_go zP 100 34 [l0, l1, l2, l3, some (zi a)] S q Q ↔ z_go zP 100 36 [l0, l1, l2, l3, some (zi a)] (zi a :: S) q Q := ge_x (len := 2) (x := (0, 0, [])) p_100 rfl rfl
theorem g100_36 (a1 : -2147483648 ≤ a) (a2 : a < 2147483648) : z_go zP 100 36 L (zi a :: S) q Q ↔ if a ≤ 0 then z_go zP 100 47 L S q Q else z_go zP 100 39 L S q Q := ge_if_le (len := 3) (x := (0, 0, [])) a1 a2 p_100 rfl rfl
theorem g100_39 : z_go zP 100 39 [some (.ref u), l1, l2, l3, l4] S q Q ↔ z_go zP 100 40 [some (.ref u), l1, l2, l3, l4] (.ref u :: S) q Q := ge_x (len := 1) (x := (0, 0, [])) p_100 rfl rfl
theorem g100_40 : z_go zP 100 40 [l0, l1, l2, l3, some (zi a)] S q Q ↔ z_go zP 100 42 [l0, l1, l2, l3, some (zi a)] (zi a :: S) q Q := ge_x (len := 2) (x := (0, 0, [])) p_100 rfl rfl
theorem g100_42 : z_go zP 100 42 [l0, l1, l2, some (zi a), l4] S q Q ↔ z_go zP 100 43 [l0, l1, l2, some (zi a), l4] (zi a :: S) q Q := ge_x (len := 1) (x := (0, 0, [])) p_100 rfl rfl
theorem g100_43 : z_go zP 100 43 L [zi x1, zi x0, .ref u] q Q ↔ z_tg q.1 u = some 9 ∧ z_go zP 98 0 [some (.ref u), some (zi x0), some (zi x1)] [] q (zc 100 46 L [] Q) := ge_vc (len := 3) (pc := 43) (S := [zi x1, zi x0, .ref u]) (u := u) (k1 := 98) (A := [.ref u, zi x0, zi x1]) (r := []) (tag := 9) (n0 := 2) (zwb_le (by show 0 ≤ 4; omega)) p_100 rfl rfl rfl p_98 (by show 3 ≤ 3; omega) rfl
theorem g100_46 : z_go zP 100 46 L (zi a :: S) q Q ↔ z_go zP 100 47 L S q Q := ge_x (len := 1) (x := (0, 0, [])) p_100 rfl rfl
theorem g100_46r : z_go zP 100 46 L (.ref u :: S) q Q ↔ z_go zP 100 47 L S q Q := ge_x (len := 1) (x := (0, 0, [])) p_100 rfl rfl
theorem g100_47 : z_go zP 100 47 [l0, l1, l2, l3, some (zi a)] S q Q ↔ z_go zP 100 49 [l0, l1, l2, l3, some (zi a)] (zi a :: S) q Q := ge_x (len := 2) (x := (0, 0, [])) p_100 rfl rfl
theorem g100_49 (a1 : -2147483648 ≤ a) (a2 : a < 2147483648) : z_go zP 100 49 L (zi a :: S) q Q ↔ if ¬ a = 0 then z_go zP 100 56 L S q Q else z_go zP 100 52 L S q Q := ge_if_ne (len := 3) (x := (0, 0, [])) a1 a2 p_100 rfl rfl
theorem g100_49b {c : Prop} [Decidable c] : z_go zP 100 49 L (zi (bI c) :: S) q Q ↔ if c then z_go zP 100 56 L S q Q else z_go zP 100 52 L S q Q := ge_if_ne_b (len := 3) (x := (0, 0, [])) p_100 rfl rfl
theorem g100_52 : z_go zP 100 52 L S q Q ↔ z_go zP 100 53 L (zi 1 :: S) q Q := ge_x (len := 1) (x := (0, 0, [])) p_100 rfl rfl
theorem g100_53 : z_go zP 100 53 L S q Q ↔ z_go zP 100 57 L S q Q := ge_to (len := 3) (x := (0, 0, [])) p_100 rfl rfl rfl
theorem g100_56 : z_go zP 100 56 L S q Q ↔ z_go zP 100 57 L (zi 0 :: S) q Q := ge_x (len := 1) (x := (0, 0, [])) p_100 rfl rfl
theorem g100_57_0 : z_go zP 100 57 L [zi 0] q Q ↔ Q (.inl (some (zi 0))) q := z_go_rt (len := 1) (x := (0, 0, [])) p_100 rfl rfl rfl
theorem g100_57_1 : z_go zP 100 57 L [zi 1] q Q ↔ Q (.inl (some (zi 1))) q := z_go_rt (len := 1) (x := (0, 0, [])) p_100 rfl rfl rfl
theorem g100_57b {c : Prop} [Decidable c] : z_go zP 100 57 L [zi (bI c)] q Q ↔ Q (.inl (some (zi (bI c)))) q := (by rcases bI_01 (c := c) with h | h <;> rw [h] <;> exact z_go_rt (len := 1) (x := (0, 0, [])) p_100 rfl rfl rfl)
theorem g101_0 : z_go zP 101 0 L S q Q ↔ z_go zP 101 1 L (zi 0 :: S) q Q := ge_x (len := 1) (x := (0, 0, [])) p_101 rfl rfl
theorem g101_1 : z_go zP 101 1 [l0, l1, l2, l3, l4] (zi a :: S) q Q ↔ z_go zP 101 2 [l0, (zkl l1), some (zi a), l3, l4] S q Q := (by cases l1 with | none => exact ge_x (len := 1) (x := (0, 0, [])) p_101 rfl rfl | some v => cases v <;> exact ge_x (len := 1) (x := (0, 0, [])) p_101 rfl rfl)
theorem g101_2 : z_go zP 101 2 L S q Q ↔ z_go zP 101 3 L (zi 1 :: S) q Q := ge_x (len := 1) (x := (0, 0, [])) p_101 rfl rfl
theorem g101_3 : z_go zP 101 3 [l0, l1, l2, l3, l4] (zi a :: S) q Q ↔ z_go zP 101 4 [l0, l1, (zkl l2), some (zi a), l4] S q Q := (by cases l2 with | none => exact ge_x (len := 1) (x := (0, 0, [])) p_101 rfl rfl | some v => cases v <;> exact ge_x (len := 1) (x := (0, 0, [])) p_101 rfl rfl)
theorem g101_4 : z_go zP 101 4 [l0, l1, l2, some (zi a), l4] S q Q ↔ z_go zP 101 5 [l0, l1, l2, some (zi a), l4] (zi a :: S) q Q := ge_x (len := 1) (x := (0, 0, [])) p_101 rfl rfl
theorem g101_5 : z_go zP 101 5 [some (.ref u), l1, l2, l3, l4] S q Q ↔ z_go zP 101 6 [some (.ref u), l1, l2, l3, l4] (.ref u :: S) q Q := ge_x (len := 1) (x := (0, 0, [])) p_101 rfl rfl
theorem g101_6 : z_go zP 101 6 L (.ref u :: S) q Q ↔ ∃ v, z_get [9] 2 q.1 u = some v ∧ z_go zP 101 9 L (v :: S) q Q := ge_getf (len := 3) (x := (2, 0, [9])) p_101 rfl
theorem g101_9 (a1 : -2147483648 ≤ a) (a2 : a < 2147483648) (b1 : -2147483648 ≤ b) (b2 : b < 2147483648) : z_go zP 101 9 L (zi b :: zi a :: S) q Q ↔ if b < a then z_go zP 101 100 L S q Q else z_go zP 101 12 L S q Q := ge_ic_gt (len := 3) (x := (0, 0, [])) a1 a2 b1 b2 p_101 rfl rfl
theorem g101_12 : z_go zP 101 12 [some (.ref u), l1, l2, l3, l4] S q Q ↔ z_go zP 101 13 [some (.ref u), l1, l2, l3, l4] (.ref u :: S) q Q := ge_x (len := 1) (x := (0, 0, [])) p_101 rfl rfl
theorem g101_13 : z_go zP 101 13 L (.ref u :: S) q Q ↔ ∃ v, z_get [9] 3 q.1 u = some v ∧ z_go zP 101 16 L (v :: S) q Q := ge_getf (len := 3) (x := (3, 0, [9])) p_101 rfl
theorem g101_16 : z_go zP 101 16 [l0, l1, l2, some (zi a), l4] S q Q ↔ z_go zP 101 17 [l0, l1, l2, some (zi a), l4] (zi a :: S) q Q := ge_x (len := 1) (x := (0, 0, [])) p_101 rfl rfl
theorem g101_17 : z_go zP 101 17 L (zi a :: .ref u :: S) q Q ↔ ∃ v, z_at [99, 100] q.1 u (Int32.ofInt a) = some v ∧ z_go zP 101 18 L (v :: S) q Q := ge_iald (len := 1) (x := (0, 0, [])) p_101 rfl
theorem g101_18 : z_go zP 101 18 L S q Q ↔ z_go zP 101 19 L (zi 1 :: S) q Q := ge_x (len := 1) (x := (0, 0, [])) p_101 rfl rfl
theorem g101_19 (a1 : -2147483648 ≤ a) (a2 : a < 2147483648) (b1 : -2147483648 ≤ b) (b2 : b < 2147483648) : z_go zP 101 19 L (zi b :: zi a :: S) q Q ↔ if a = b then z_go zP 101 32 L S q Q else z_go zP 101 22 L S q Q := ge_ic_eq (len := 3) (x := (0, 0, [])) a1 a2 b1 b2 p_101 rfl rfl
theorem g101_22 : z_go zP 101 22 [some (.ref u), l1, l2, l3, l4] S q Q ↔ z_go zP 101 23 [some (.ref u), l1, l2, l3, l4] (.ref u :: S) q Q := ge_x (len := 1) (x := (0, 0, [])) p_101 rfl rfl
theorem g101_23 : z_go zP 101 23 L (.ref u :: S) q Q ↔ ∃ v, z_get [9] 5 q.1 u = some v ∧ z_go zP 101 26 L (v :: S) q Q := ge_getf (len := 3) (x := (5, 0, [9])) p_101 rfl
theorem g101_26 : z_go zP 101 26 [l0, l1, l2, some (zi a), l4] S q Q ↔ z_go zP 101 27 [l0, l1, l2, some (zi a), l4] (zi a :: S) q Q := ge_x (len := 1) (x := (0, 0, [])) p_101 rfl rfl
theorem g101_27 : z_go zP 101 27 L (zi a :: .ref u :: S) q Q ↔ ∃ v, z_at [99, 100] q.1 u (Int32.ofInt a) = some v ∧ z_go zP 101 28 L (v :: S) q Q := ge_iald (len := 1) (x := (0, 0, [])) p_101 rfl
theorem g101_28 : z_go zP 101 28 [l0, some (zi a), l2, l3, l4] S q Q ↔ z_go zP 101 29 [l0, some (zi a), l2, l3, l4] (zi a :: S) q Q := ge_x (len := 1) (x := (0, 0, [])) p_101 rfl rfl
theorem g101_29 (a1 : -2147483648 ≤ a) (a2 : a < 2147483648) (b1 : -2147483648 ≤ b) (b2 : b < 2147483648) : z_go zP 101 29 L (zi b :: zi a :: S) q Q ↔ if a = b then z_go zP 101 63 L S q Q else z_go zP 101 32 L S q Q := ge_ic_eq (len := 3) (x := (0, 0, [])) a1 a2 b1 b2 p_101 rfl rfl
theorem g101_32 : z_go zP 101 32 [some (.ref u), l1, l2, l3, l4] S q Q ↔ z_go zP 101 33 [some (.ref u), l1, l2, l3, l4] (.ref u :: S) q Q := ge_x (len := 1) (x := (0, 0, [])) p_101 rfl rfl
theorem g101_33 : z_go zP 101 33 L (.ref u :: S) q Q ↔ ∃ v, z_get [9] 3 q.1 u = some v ∧ z_go zP 101 36 L (v :: S) q Q := ge_getf (len := 3) (x := (3, 0, [9])) p_101 rfl
theorem g101_36 : z_go zP 101 36 [l0, l1, l2, some (zi a), l4] S q Q ↔ z_go zP 101 37 [l0, l1, l2, some (zi a), l4] (zi a :: S) q Q := ge_x (len := 1) (x := (0, 0, [])) p_101 rfl rfl
theorem g101_37 : z_go zP 101 37 L (zi a :: .ref u :: S) q Q ↔ ∃ v, z_at [99, 100] q.1 u (Int32.ofInt a) = some v ∧ z_go zP 101 38 L (v :: S) q Q := ge_iald (len := 1) (x := (0, 0, [])) p_101 rfl
theorem g101_38 : z_go zP 101 38 L S q Q ↔ z_go zP 101 39 L (zi 5 :: S) q Q := ge_x (len := 1) (x := (0, 0, [])) p_101 rfl rfl
theorem g101_39 (a1 : -2147483648 ≤ a) (a2 : a < 2147483648) (b1 : -2147483648 ≤ b) (b2 : b < 2147483648) : z_go zP 101 39 L (zi b :: zi a :: S) q Q ↔ if a = b then z_go zP 101 53 L S q Q else z_go zP 101 42 L S q Q := ge_ic_eq (len := 3) (x := (0, 0, [])) a1 a2 b1 b2 p_101 rfl rfl
theorem g101_42 : z_go zP 101 42 [some (.ref u), l1, l2, l3, l4] S q Q ↔ z_go zP 101 43 [some (.ref u), l1, l2, l3, l4] (.ref u :: S) q Q := ge_x (len := 1) (x := (0, 0, [])) p_101 rfl rfl
theorem g101_43 : z_go zP 101 43 L (.ref u :: S) q Q ↔ ∃ v, z_get [9] 3 q.1 u = some v ∧ z_go zP 101 46 L (v :: S) q Q := ge_getf (len := 3) (x := (3, 0, [9])) p_101 rfl
theorem g101_46 : z_go zP 101 46 [l0, l1, l2, some (zi a), l4] S q Q ↔ z_go zP 101 47 [l0, l1, l2, some (zi a), l4] (zi a :: S) q Q := ge_x (len := 1) (x := (0, 0, [])) p_101 rfl rfl
theorem g101_47 : z_go zP 101 47 L (zi a :: .ref u :: S) q Q ↔ ∃ v, z_at [99, 100] q.1 u (Int32.ofInt a) = some v ∧ z_go zP 101 48 L (v :: S) q Q := ge_iald (len := 1) (x := (0, 0, [])) p_101 rfl
theorem g101_48 : z_go zP 101 48 L S q Q ↔ z_go zP 101 50 L (zi 6 :: S) q Q := ge_x (len := 2) (x := (0, 0, [])) p_101 rfl rfl
theorem g101_50 (a1 : -2147483648 ≤ a) (a2 : a < 2147483648) (b1 : -2147483648 ≤ b) (b2 : b < 2147483648) : z_go zP 101 50 L (zi b :: zi a :: S) q Q ↔ if ¬ a = b then z_go zP 101 67 L S q Q else z_go zP 101 53 L S q Q := ge_ic_ne (len := 3) (x := (0, 0, [])) a1 a2 b1 b2 p_101 rfl rfl
theorem g101_53 : z_go zP 101 53 [some (.ref u), l1, l2, l3, l4] S q Q ↔ z_go zP 101 54 [some (.ref u), l1, l2, l3, l4] (.ref u :: S) q Q := ge_x (len := 1) (x := (0, 0, [])) p_101 rfl rfl
theorem g101_54 : z_go zP 101 54 L (.ref u :: S) q Q ↔ ∃ v, z_get [9] 6 q.1 u = some v ∧ z_go zP 101 57 L (v :: S) q Q := ge_getf (len := 3) (x := (6, 0, [9])) p_101 rfl
theorem g101_57 : z_go zP 101 57 [l0, l1, l2, some (zi a), l4] S q Q ↔ z_go zP 101 58 [l0, l1, l2, some (zi a), l4] (zi a :: S) q Q := ge_x (len := 1) (x := (0, 0, [])) p_101 rfl rfl
theorem g101_58 : z_go zP 101 58 L (zi a :: .ref u :: S) q Q ↔ ∃ v, z_at [99, 100] q.1 u (Int32.ofInt a) = some v ∧ z_go zP 101 59 L (v :: S) q Q := ge_iald (len := 1) (x := (0, 0, [])) p_101 rfl
theorem g101_59 : z_go zP 101 59 [l0, some (zi a), l2, l3, l4] S q Q ↔ z_go zP 101 60 [l0, some (zi a), l2, l3, l4] (zi a :: S) q Q := ge_x (len := 1) (x := (0, 0, [])) p_101 rfl rfl
theorem g101_60 (a1 : -2147483648 ≤ a) (a2 : a < 2147483648) (b1 : -2147483648 ≤ b) (b2 : b < 2147483648) : z_go zP 101 60 L (zi b :: zi a :: S) q Q ↔ if ¬ a = b then z_go zP 101 67 L S q Q else z_go zP 101 63 L S q Q := ge_ic_ne (len := 3) (x := (0, 0, [])) a1 a2 b1 b2 p_101 rfl rfl
theorem g101_63 : z_go zP 101 63 L S q Q ↔ z_go zP 101 64 L (zi 1 :: S) q Q := ge_x (len := 1) (x := (0, 0, [])) p_101 rfl rfl
theorem g101_64 : z_go zP 101 64 L S q Q ↔ z_go zP 101 68 L S q Q := ge_to (len := 3) (x := (0, 0, [])) p_101 rfl rfl rfl
theorem g101_67 : z_go zP 101 67 L S q Q ↔ z_go zP 101 68 L (zi 0 :: S) q Q := ge_x (len := 1) (x := (0, 0, [])) p_101 rfl rfl
theorem g101_68 : z_go zP 101 68 [l0, l1, l2, l3, l4] (zi a :: S) q Q ↔ z_go zP 101 70 [l0, l1, l2, (zkl l3), some (zi a)] S q Q := (by cases l3 with | none => exact ge_x (len := 2) (x := (0, 0, [])) p_101 rfl rfl | some v => cases v <;> exact ge_x (len := 2) (x := (0, 0, [])) p_101 rfl rfl)
theorem g101_70 : z_go zP 101 70 [l0, l1, some (zi a), l3, l4] S q Q ↔ z_go zP 101 71 [l0, l1, some (zi a), l3, l4] (zi a :: S) q Q := ge_x (len := 1) (x := (0, 0, [])) p_101 rfl rfl
theorem g101_71 (a1 : -2147483648 ≤ a) (a2 : a < 2147483648) : z_go zP 101 71 L (zi a :: S) q Q ↔ if ¬ a = 0 then z_go zP 101 88 L S q Q else z_go zP 101 74 L S q Q := ge_if_ne (len := 3) (x := (0, 0, [])) a1 a2 p_101 rfl rfl
theorem g101_71b {c : Prop} [Decidable c] : z_go zP 101 71 L (zi (bI c) :: S) q Q ↔ if c then z_go zP 101 88 L S q Q else z_go zP 101 74 L S q Q := ge_if_ne_b (len := 3) (x := (0, 0, [])) p_101 rfl rfl
theorem g101_74 : z_go zP 101 74 [some (.ref u), l1, l2, l3, l4] S q Q ↔ z_go zP 101 75 [some (.ref u), l1, l2, l3, l4] (.ref u :: S) q Q := ge_x (len := 1) (x := (0, 0, [])) p_101 rfl rfl
theorem g101_75 : z_go zP 101 75 L (.ref u :: S) q Q ↔ ∃ v, z_get [9] 4 q.1 u = some v ∧ z_go zP 101 78 L (v :: S) q Q := ge_getf (len := 3) (x := (4, 0, [9])) p_101 rfl
theorem g101_78 : z_go zP 101 78 [l0, l1, l2, some (zi a), l4] S q Q ↔ z_go zP 101 79 [l0, l1, l2, some (zi a), l4] (zi a :: S) q Q := ge_x (len := 1) (x := (0, 0, [])) p_101 rfl rfl
theorem g101_79 : z_go zP 101 79 L (zi a :: .ref u :: S) q Q ↔ ∃ v, z_at [102] q.1 u (Int32.ofInt a) = some v ∧ z_go zP 101 80 L (v :: S) q Q := ge_bald (len := 1) (x := (0, 0, [])) p_101 rfl
theorem g101_80 (a1 : -2147483648 ≤ a) (a2 : a < 2147483648) : z_go zP 101 80 L (zi a :: S) q Q ↔ if a = 0 then z_go zP 101 92 L S q Q else z_go zP 101 83 L S q Q := ge_if_eq (len := 3) (x := (0, 0, [])) a1 a2 p_101 rfl rfl
theorem g101_80b {c : Prop} [Decidable c] : z_go zP 101 80 L (zi (bI c) :: S) q Q ↔ if c then z_go zP 101 83 L S q Q else z_go zP 101 92 L S q Q := ge_if_eq_b (len := 3) (x := (0, 0, [])) p_101 rfl rfl
theorem g101_83 : z_go zP 101 83 [l0, l1, l2, l3, some (zi a)] S q Q ↔ z_go zP 101 85 [l0, l1, l2, l3, some (zi a)] (zi a :: S) q Q := ge_x (len := 2) (x := (0, 0, [])) p_101 rfl rfl
theorem g101_85 (a1 : -2147483648 ≤ a) (a2 : a < 2147483648) : z_go zP 101 85 L (zi a :: S) q Q ↔ if a = 0 then z_go zP 101 92 L S q Q else z_go zP 101 88 L S q Q := ge_if_eq (len := 3) (x := (0, 0, [])) a1 a2 p_101 rfl rfl
theorem g101_85b {c : Prop} [Decidable c] : z_go zP 101 85 L (zi (bI c) :: S) q Q ↔ if c then z_go zP 101 88 L S q Q else z_go zP 101 92 L S q Q := ge_if_eq_b (len := 3) (x := (0, 0, [])) p_101 rfl rfl
theorem g101_88 : z_go zP 101 88 L S q Q ↔ z_go zP 101 89 L (zi 1 :: S) q Q := ge_x (len := 1) (x := (0, 0, [])) p_101 rfl rfl
theorem g101_89 : z_go zP 101 89 L S q Q ↔ z_go zP 101 93 L S q Q := ge_to (len := 3) (x := (0, 0, [])) p_101 rfl rfl rfl
theorem g101_92 : z_go zP 101 92 L S q Q ↔ z_go zP 101 93 L (zi 0 :: S) q Q := ge_x (len := 1) (x := (0, 0, [])) p_101 rfl rfl
theorem g101_93 : z_go zP 101 93 [l0, l1, l2, l3, l4] (zi a :: S) q Q ↔ z_go zP 101 94 [l0, (zkl l1), some (zi a), l3, l4] S q Q := (by cases l1 with | none => exact ge_x (len := 1) (x := (0, 0, [])) p_101 rfl rfl | some v => cases v <;> exact ge_x (len := 1) (x := (0, 0, [])) p_101 rfl rfl)
theorem g101_94 : z_go zP 101 94 [l0, l1, l2, some (zi a), l4] S q Q ↔ z_go zP 101 97 [l0, l1, (zkl l2), some (zi (a + 1)), l4] S q Q := (by unfold zi; rw [Int32.ofInt_add]; cases l2 with | none => exact ge_x (len := 3) (x := (0, 0, [])) p_101 rfl rfl | some v => cases v <;> exact ge_x (len := 3) (x := (0, 0, [])) p_101 rfl rfl)
theorem g101_97 : z_go zP 101 97 L S q Q ↔ z_go zP 101 4 L S q Q := ge_to (len := 3) (x := (0, 0, [])) p_101 rfl rfl rfl
theorem g101_100 : z_go zP 101 100 [l0, l1, some (zi a), l3, l4] S q Q ↔ z_go zP 101 101 [l0, l1, some (zi a), l3, l4] (zi a :: S) q Q := ge_x (len := 1) (x := (0, 0, [])) p_101 rfl rfl
theorem g101_101_0 : z_go zP 101 101 L [zi 0] q Q ↔ Q (.inl (some (zi 0))) q := z_go_rt (len := 1) (x := (0, 0, [])) p_101 rfl rfl rfl
theorem g101_101_1 : z_go zP 101 101 L [zi 1] q Q ↔ Q (.inl (some (zi 1))) q := z_go_rt (len := 1) (x := (0, 0, [])) p_101 rfl rfl rfl
theorem g101_101b {c : Prop} [Decidable c] : z_go zP 101 101 L [zi (bI c)] q Q ↔ Q (.inl (some (zi (bI c)))) q := (by rcases bI_01 (c := c) with h | h <;> rw [h] <;> exact z_go_rt (len := 1) (x := (0, 0, [])) p_101 rfl rfl rfl)
theorem g102_0 : z_go zP 102 0 [some (.ref u), l1, l2, l3] S q Q ↔ z_go zP 102 1 [some (.ref u), l1, l2, l3] (.ref u :: S) q Q := ge_x (len := 1) (x := (0, 0, [])) p_102 rfl rfl
theorem g102_1 : z_go zP 102 1 L (.ref u :: S) q Q ↔ z_go zP 102 2 L (.ref u :: .ref u :: S) q Q := ge_x (len := 1) (x := (0, 0, [])) p_102 rfl rfl
theorem g102_1i : z_go zP 102 1 L (zi a :: S) q Q ↔ z_go zP 102 2 L (zi a :: zi a :: S) q Q := ge_x (len := 1) (x := (0, 0, [])) p_102 rfl rfl
theorem g102_2 : z_go zP 102 2 L (.ref u :: S) q Q ↔ ∃ v, z_get [9] 2 q.1 u = some v ∧ z_go zP 102 5 L (v :: S) q Q := ge_getf (len := 3) (x := (2, 0, [9])) p_102 rfl
theorem g102_5 : z_go zP 102 5 L S q Q ↔ z_go zP 102 6 L (zi 1 :: S) q Q := ge_x (len := 1) (x := (0, 0, [])) p_102 rfl rfl
theorem g102_6 : z_go zP 102 6 L (zi b :: zi a :: S) q Q ↔ z_go zP 102 7 L (zi (a + b) :: S) q Q := ge_iadd (len := 1) (x := (0, 0, [])) p_102 rfl
theorem g102_7 : z_go zP 102 7 L (v :: .ref u :: S) q Q ↔ ∃ q1, z_put [9] 2 q u v = some q1 ∧ z_go zP 102 10 L S q1 Q := ge_putf (len := 3) (x := (2, 0, [9])) p_102 rfl
theorem g102_10 : z_go zP 102 10 [some (.ref u), l1, l2, l3] S q Q ↔ z_go zP 102 11 [some (.ref u), l1, l2, l3] (.ref u :: S) q Q := ge_x (len := 1) (x := (0, 0, [])) p_102 rfl rfl
theorem g102_11 : z_go zP 102 11 L (.ref u :: S) q Q ↔ ∃ v, z_get [9] 3 q.1 u = some v ∧ z_go zP 102 14 L (v :: S) q Q := ge_getf (len := 3) (x := (3, 0, [9])) p_102 rfl
theorem g102_14 : z_go zP 102 14 [some (.ref u), l1, l2, l3] S q Q ↔ z_go zP 102 15 [some (.ref u), l1, l2, l3] (.ref u :: S) q Q := ge_x (len := 1) (x := (0, 0, [])) p_102 rfl rfl
theorem g102_15 : z_go zP 102 15 L (.ref u :: S) q Q ↔ ∃ v, z_get [9] 2 q.1 u = some v ∧ z_go zP 102 18 L (v :: S) q Q := ge_getf (len := 3) (x := (2, 0, [9])) p_102 rfl
theorem g102_18 : z_go zP 102 18 [l0, some (zi a), l2, l3] S q Q ↔ z_go zP 102 19 [l0, some (zi a), l2, l3] (zi a :: S) q Q := ge_x (len := 1) (x := (0, 0, [])) p_102 rfl rfl
theorem g102_19 : z_go zP 102 19 L (zi b :: zi a :: .ref u :: S) q Q ↔ ∃ q1, z_st 100 q u (Int32.ofInt a) (zi b) = some q1 ∧ z_go zP 102 20 L S q1 Q := ge_iast (len := 1) (x := (0, 0, [])) p_102 rfl
theorem g102_20 : z_go zP 102 20 [some (.ref u), l1, l2, l3] S q Q ↔ z_go zP 102 21 [some (.ref u), l1, l2, l3] (.ref u :: S) q Q := ge_x (len := 1) (x := (0, 0, [])) p_102 rfl rfl
theorem g102_21 : z_go zP 102 21 L (.ref u :: S) q Q ↔ ∃ v, z_get [9] 4 q.1 u = some v ∧ z_go zP 102 24 L (v :: S) q Q := ge_getf (len := 3) (x := (4, 0, [9])) p_102 rfl
theorem g102_24 : z_go zP 102 24 [some (.ref u), l1, l2, l3] S q Q ↔ z_go zP 102 25 [some (.ref u), l1, l2, l3] (.ref u :: S) q Q := ge_x (len := 1) (x := (0, 0, [])) p_102 rfl rfl
theorem g102_25 : z_go zP 102 25 L (.ref u :: S) q Q ↔ ∃ v, z_get [9] 2 q.1 u = some v ∧ z_go zP 102 28 L (v :: S) q Q := ge_getf (len := 3) (x := (2, 0, [9])) p_102 rfl
theorem g102_28 : z_go zP 102 28 L S q Q ↔ z_go zP 102 29 L (zi 1 :: S) q Q := ge_x (len := 1) (x := (0, 0, [])) p_102 rfl rfl
theorem g102_29 (hb : b = 0 ∨ b = 1) : z_go zP 102 29 L (zi b :: zi a :: .ref u :: S) q Q ↔ ∃ q1, z_st 102 q u (Int32.ofInt a) (zi b) = some q1 ∧ z_go zP 102 30 L S q1 Q := ge_bast (len := 1) (x := (0, 0, [])) hb p_102 rfl
theorem g102_30 : z_go zP 102 30 [some (.ref u), l1, l2, l3] S q Q ↔ z_go zP 102 31 [some (.ref u), l1, l2, l3] (.ref u :: S) q Q := ge_x (len := 1) (x := (0, 0, [])) p_102 rfl rfl
theorem g102_31 : z_go zP 102 31 L (.ref u :: S) q Q ↔ ∃ v, z_get [9] 5 q.1 u = some v ∧ z_go zP 102 34 L (v :: S) q Q := ge_getf (len := 3) (x := (5, 0, [9])) p_102 rfl
theorem g102_34 : z_go zP 102 34 [some (.ref u), l1, l2, l3] S q Q ↔ z_go zP 102 35 [some (.ref u), l1, l2, l3] (.ref u :: S) q Q := ge_x (len := 1) (x := (0, 0, [])) p_102 rfl rfl
theorem g102_35 : z_go zP 102 35 L (.ref u :: S) q Q ↔ ∃ v, z_get [9] 2 q.1 u = some v ∧ z_go zP 102 38 L (v :: S) q Q := ge_getf (len := 3) (x := (2, 0, [9])) p_102 rfl
theorem g102_38 : z_go zP 102 38 [l0, l1, some (zi a), l3] S q Q ↔ z_go zP 102 39 [l0, l1, some (zi a), l3] (zi a :: S) q Q := ge_x (len := 1) (x := (0, 0, [])) p_102 rfl rfl
theorem g102_39 : z_go zP 102 39 L (zi b :: zi a :: .ref u :: S) q Q ↔ ∃ q1, z_st 100 q u (Int32.ofInt a) (zi b) = some q1 ∧ z_go zP 102 40 L S q1 Q := ge_iast (len := 1) (x := (0, 0, [])) p_102 rfl
theorem g102_40 : z_go zP 102 40 [some (.ref u), l1, l2, l3] S q Q ↔ z_go zP 102 41 [some (.ref u), l1, l2, l3] (.ref u :: S) q Q := ge_x (len := 1) (x := (0, 0, [])) p_102 rfl rfl
theorem g102_41 : z_go zP 102 41 L (.ref u :: S) q Q ↔ ∃ v, z_get [9] 6 q.1 u = some v ∧ z_go zP 102 44 L (v :: S) q Q := ge_getf (len := 3) (x := (6, 0, [9])) p_102 rfl
theorem g102_44 : z_go zP 102 44 [some (.ref u), l1, l2, l3] S q Q ↔ z_go zP 102 45 [some (.ref u), l1, l2, l3] (.ref u :: S) q Q := ge_x (len := 1) (x := (0, 0, [])) p_102 rfl rfl
theorem g102_45 : z_go zP 102 45 L (.ref u :: S) q Q ↔ ∃ v, z_get [9] 2 q.1 u = some v ∧ z_go zP 102 48 L (v :: S) q Q := ge_getf (len := 3) (x := (2, 0, [9])) p_102 rfl
theorem g102_48 : z_go zP 102 48 [l0, l1, l2, some (zi a)] S q Q ↔ z_go zP 102 49 [l0, l1, l2, some (zi a)] (zi a :: S) q Q := ge_x (len := 1) (x := (0, 0, [])) p_102 rfl rfl
theorem g102_49 : z_go zP 102 49 L (zi b :: zi a :: .ref u :: S) q Q ↔ ∃ q1, z_st 100 q u (Int32.ofInt a) (zi b) = some q1 ∧ z_go zP 102 50 L S q1 Q := ge_iast (len := 1) (x := (0, 0, [])) p_102 rfl
theorem g102_50 : z_go zP 102 50 [some (.ref u), l1, l2, l3] S q Q ↔ z_go zP 102 51 [some (.ref u), l1, l2, l3] (.ref u :: S) q Q := ge_x (len := 1) (x := (0, 0, [])) p_102 rfl rfl
theorem g102_51 : z_go zP 102 51 L (.ref u :: S) q Q ↔ ∃ v, z_get [9] 2 q.1 u = some v ∧ z_go zP 102 54 L (v :: S) q Q := ge_getf (len := 3) (x := (2, 0, [9])) p_102 rfl
theorem g102_54 : z_go zP 102 54 L [zi a] q Q ↔ Q (.inl (some (zi a))) q := ge_rti (len := 1) (x := (0, 0, [])) p_102 rfl rfl
theorem g103_0 : z_go zP 103 0 [some (.ref u), l1] S q Q ↔ z_go zP 103 1 [some (.ref u), l1] (.ref u :: S) q Q := ge_x (len := 1) (x := (0, 0, [])) p_103 rfl rfl
theorem g103_1 : z_go zP 103 1 L (.ref u :: S) q Q ↔ ∃ v, z_get [9] 2 q.1 u = some v ∧ z_go zP 103 4 L (v :: S) q Q := ge_getf (len := 3) (x := (2, 0, [9])) p_103 rfl
theorem g103_4 : z_go zP 103 4 L S q Q ↔ z_go zP 103 6 L (zi 60 :: S) q Q := ge_x (len := 2) (x := (0, 0, [])) p_103 rfl rfl
theorem g103_6 (a1 : -2147483648 ≤ a) (a2 : a < 2147483648) (b1 : -2147483648 ≤ b) (b2 : b < 2147483648) : z_go zP 103 6 L (zi b :: zi a :: S) q Q ↔ if ¬ a = b then z_go zP 103 17 L S q Q else z_go zP 103 9 L S q Q := ge_ic_ne (len := 3) (x := (0, 0, [])) a1 a2 b1 b2 p_103 rfl rfl
theorem g103_9 : z_go zP 103 9 [some (.ref u), l1] S q Q ↔ z_go zP 103 10 [some (.ref u), l1] (.ref u :: S) q Q := ge_x (len := 1) (x := (0, 0, [])) p_103 rfl rfl
theorem g103_10 : z_go zP 103 10 L S q Q ↔ z_go zP 103 12 L (zi 6 :: S) q Q := ge_x (len := 2) (x := (0, 0, [])) p_103 rfl rfl
theorem g103_12 : z_go zP 103 12 [l0, some (zi a)] S q Q ↔ z_go zP 103 13 [l0, some (zi a)] (zi a :: S) q Q := ge_x (len := 1) (x := (0, 0, [])) p_103 rfl rfl
theorem g103_13 : z_go zP 103 13 L [zi x1, zi x0, .ref u] q Q ↔ z_tg q.1 u = some 9 ∧ z_go zP 98 0 [some (.ref u), some (zi x0), some (zi x1)] [] q (zc 103 16 L [] Q) := ge_vc (len := 3) (pc := 13) (S := [zi x1, zi x0, .ref u]) (u := u) (k1 := 98) (A := [.ref u, zi x0, zi x1]) (r := []) (tag := 9) (n0 := 2) (zwb_le (by show 0 ≤ 4; omega)) p_103 rfl rfl rfl p_98 (by show 3 ≤ 3; omega) rfl
theorem g103_16 : z_go zP 103 16 L (zi a :: S) q Q ↔ z_go zP 103 17 L S q Q := ge_x (len := 1) (x := (0, 0, [])) p_103 rfl rfl
theorem g103_16r : z_go zP 103 16 L (.ref u :: S) q Q ↔ z_go zP 103 17 L S q Q := ge_x (len := 1) (x := (0, 0, [])) p_103 rfl rfl
theorem g103_17 : z_go zP 103 17 [some (.ref u), l1] S q Q ↔ z_go zP 103 18 [some (.ref u), l1] (.ref u :: S) q Q := ge_x (len := 1) (x := (0, 0, [])) p_103 rfl rfl
theorem g103_18 : z_go zP 103 18 L (.ref u :: S) q Q ↔ ∃ v, z_get [9] 2 q.1 u = some v ∧ z_go zP 103 21 L (v :: S) q Q := ge_getf (len := 3) (x := (2, 0, [9])) p_103 rfl
theorem g103_21 : z_go zP 103 21 L S q Q ↔ z_go zP 103 23 L (zi 60 :: S) q Q := ge_x (len := 2) (x := (0, 0, [])) p_103 rfl rfl
theorem g103_23 (a1 : -2147483648 ≤ a) (a2 : a < 2147483648) (b1 : -2147483648 ≤ b) (b2 : b < 2147483648) : z_go zP 103 23 L (zi b :: zi a :: S) q Q ↔ if ¬ a = b then z_go zP 103 30 L S q Q else z_go zP 103 26 L S q Q := ge_ic_ne (len := 3) (x := (0, 0, [])) a1 a2 b1 b2 p_103 rfl rfl
theorem g103_26 : z_go zP 103 26 L S q Q ↔ z_go zP 103 27 L (zi 1 :: S) q Q := ge_x (len := 1) (x := (0, 0, [])) p_103 rfl rfl
theorem g103_27 : z_go zP 103 27 L S q Q ↔ z_go zP 103 31 L S q Q := ge_to (len := 3) (x := (0, 0, [])) p_103 rfl rfl rfl
theorem g103_30 : z_go zP 103 30 L S q Q ↔ z_go zP 103 31 L (zi 0 :: S) q Q := ge_x (len := 1) (x := (0, 0, [])) p_103 rfl rfl
theorem g103_31_0 : z_go zP 103 31 L [zi 0] q Q ↔ Q (.inl (some (zi 0))) q := z_go_rt (len := 1) (x := (0, 0, [])) p_103 rfl rfl rfl
theorem g103_31_1 : z_go zP 103 31 L [zi 1] q Q ↔ Q (.inl (some (zi 1))) q := z_go_rt (len := 1) (x := (0, 0, [])) p_103 rfl rfl rfl
theorem g103_31b {c : Prop} [Decidable c] : z_go zP 103 31 L [zi (bI c)] q Q ↔ Q (.inl (some (zi (bI c)))) q := (by rcases bI_01 (c := c) with h | h <;> rw [h] <;> exact z_go_rt (len := 1) (x := (0, 0, [])) p_103 rfl rfl rfl)
theorem g104_0 : z_go zP 104 0 [some (.ref u), l1, l2, l3] S q Q ↔ z_go zP 104 1 [some (.ref u), l1, l2, l3] (.ref u :: S) q Q := ge_x (len := 1) (x := (0, 0, [])) p_104 rfl rfl
theorem g104_1 : z_go zP 104 1 L S q Q ↔ z_go zP 104 2 L (zi 0 :: S) q Q := ge_x (len := 1) (x := (0, 0, [])) p_104 rfl rfl
theorem g104_2 : z_go zP 104 2 L (v :: .ref u :: S) q Q ↔ ∃ q1, z_put [9] 0 q u v = some q1 ∧ z_go zP 104 5 L S q1 Q := ge_putf (len := 3) (x := (0, 0, [9])) p_104 rfl
theorem g104_5 : z_go zP 104 5 [l0, some (zi a), l2, l3] S q Q ↔ z_go zP 104 6 [l0, some (zi a), l2, l3] (zi a :: S) q Q := ge_x (len := 1) (x := (0, 0, [])) p_104 rfl rfl
theorem g104_6 : z_go zP 104 6 L S q Q ↔ z_go zP 104 7 L (zi 1 :: S) q Q := ge_x (len := 1) (x := (0, 0, [])) p_104 rfl rfl
theorem g104_7 : z_go zP 104 7 L S q Q ↔ z_go zP 104 9 L (zi 32 :: S) q Q := ge_x (len := 2) (x := (0, 0, [])) p_104 rfl rfl
theorem g104_9 : z_go zP 104 9 L [zi x2, zi x1, zi x0] q Q ↔ z_go zP 97 0 [some (zi x0), some (zi x1), some (zi x2)] [] q (zd 104 12 L [] Q) := (z_go_cl (len := 3) (x := (97, 2, [3])) (k1 := 97) (A := [zi x0, zi x1, zi x2]) (r := []) p_104 rfl rfl rfl rfl (by simp only [z_cl, List.drop]; rw [if_pos]; rfl; exact by first | exact ⟨by decide, (zwb_le (by show 0 ≤ 4; omega))⟩ | exact ⟨by decide, by show 3 ≤ 3; omega, (zwb_le (by show 0 ≤ 4; omega))⟩) p_97 (by show 3 ≤ 3; omega)).trans (ge_bk_d rfl)
theorem g104_12 (a1 : -2147483648 ≤ a) (a2 : a < 2147483648) : z_go zP 104 12 L (zi a :: S) q Q ↔ if a = 0 then z_go zP 104 25 L S q Q else z_go zP 104 15 L S q Q := ge_if_eq (len := 3) (x := (0, 0, [])) a1 a2 p_104 rfl rfl
theorem g104_12b {c : Prop} [Decidable c] : z_go zP 104 12 L (zi (bI c) :: S) q Q ↔ if c then z_go zP 104 15 L S q Q else z_go zP 104 25 L S q Q := ge_if_eq_b (len := 3) (x := (0, 0, [])) p_104 rfl rfl
theorem g104_15 : z_go zP 104 15 [l0, l1, some (zi a), l3] S q Q ↔ z_go zP 104 16 [l0, l1, some (zi a), l3] (zi a :: S) q Q := ge_x (len := 1) (x := (0, 0, [])) p_104 rfl rfl
theorem g104_16 : z_go zP 104 16 L S q Q ↔ z_go zP 104 17 L (zi 1 :: S) q Q := ge_x (len := 1) (x := (0, 0, [])) p_104 rfl rfl
theorem g104_17 : z_go zP 104 17 L S q Q ↔ z_go zP 104 19 L (zi 8 :: S) q Q := ge_x (len := 2) (x := (0, 0, [])) p_104 rfl rfl
theorem g104_19 : z_go zP 104 19 L [zi x2, zi x1, zi x0] q Q ↔ z_go zP 97 0 [some (zi x0), some (zi x1), some (zi x2)] [] q (zd 104 22 L [] Q) := (z_go_cl (len := 3) (x := (97, 2, [3])) (k1 := 97) (A := [zi x0, zi x1, zi x2]) (r := []) p_104 rfl rfl rfl rfl (by simp only [z_cl, List.drop]; rw [if_pos]; rfl; exact by first | exact ⟨by decide, (zwb_le (by show 0 ≤ 4; omega))⟩ | exact ⟨by decide, by show 3 ≤ 3; omega, (zwb_le (by show 0 ≤ 4; omega))⟩) p_97 (by show 3 ≤ 3; omega)).trans (ge_bk_d rfl)
theorem g104_22 (a1 : -2147483648 ≤ a) (a2 : a < 2147483648) : z_go zP 104 22 L (zi a :: S) q Q ↔ if ¬ a = 0 then z_go zP 104 31 L S q Q else z_go zP 104 25 L S q Q := ge_if_ne (len := 3) (x := (0, 0, [])) a1 a2 p_104 rfl rfl
theorem g104_22b {c : Prop} [Decidable c] : z_go zP 104 22 L (zi (bI c) :: S) q Q ↔ if c then z_go zP 104 31 L S q Q else z_go zP 104 25 L S q Q := ge_if_ne_b (len := 3) (x := (0, 0, [])) p_104 rfl rfl
theorem g104_25 : z_go zP 104 25 [some (.ref u), l1, l2, l3] S q Q ↔ z_go zP 104 26 [some (.ref u), l1, l2, l3] (.ref u :: S) q Q := ge_x (len := 1) (x := (0, 0, [])) p_104 rfl rfl
theorem g104_26 : z_go zP 104 26 L S q Q ↔ z_go zP 104 27 L (zi 1 :: S) q Q := ge_x (len := 1) (x := (0, 0, [])) p_104 rfl rfl
theorem g104_27 : z_go zP 104 27 L [zi x0, .ref u] q Q ↔ z_tg q.1 u = some 9 ∧ z_go zP 96 0 [some (.ref u), some (zi x0)] [] q (zc 104 30 L [] Q) := ge_vc (len := 3) (pc := 27) (S := [zi x0, .ref u]) (u := u) (k1 := 96) (A := [.ref u, zi x0]) (r := []) (tag := 9) (n0 := 1) (zwb_le (by show 0 ≤ 4; omega)) p_104 rfl rfl rfl p_96 (by show 2 ≤ 2; omega) rfl
theorem g104_30 : z_go zP 104 30 L [zi a] q Q ↔ Q (.inl (some (zi a))) q := ge_rti (len := 1) (x := (0, 0, [])) p_104 rfl rfl
theorem g104_31 : z_go zP 104 31 [some (.ref u), l1, l2, l3] S q Q ↔ z_go zP 104 32 [some (.ref u), l1, l2, l3] (.ref u :: S) q Q := ge_x (len := 1) (x := (0, 0, [])) p_104 rfl rfl
theorem g104_32 : z_go zP 104 32 L S q Q ↔ z_go zP 104 33 L (zi 2 :: S) q Q := ge_x (len := 1) (x := (0, 0, [])) p_104 rfl rfl
theorem g104_33 : z_go zP 104 33 L [zi x0, .ref u] q Q ↔ z_tg q.1 u = some 9 ∧ z_go zP 103 0 [some (.ref u), some (zi x0)] [] q (zc 104 36 L [] Q) := ge_vc (len := 3) (pc := 33) (S := [zi x0, .ref u]) (u := u) (k1 := 103) (A := [.ref u, zi x0]) (r := []) (tag := 9) (n0 := 1) (zwb_le (by show 0 ≤ 4; omega)) p_104 rfl rfl rfl p_103 (by show 2 ≤ 2; omega) rfl
theorem g104_36 (a1 : -2147483648 ≤ a) (a2 : a < 2147483648) : z_go zP 104 36 L (zi a :: S) q Q ↔ if a = 0 then z_go zP 104 41 L S q Q else z_go zP 104 39 L S q Q := ge_if_eq (len := 3) (x := (0, 0, [])) a1 a2 p_104 rfl rfl
theorem g104_36b {c : Prop} [Decidable c] : z_go zP 104 36 L (zi (bI c) :: S) q Q ↔ if c then z_go zP 104 39 L S q Q else z_go zP 104 41 L S q Q := ge_if_eq_b (len := 3) (x := (0, 0, [])) p_104 rfl rfl
theorem g104_39 : z_go zP 104 39 L S q Q ↔ z_go zP 104 40 L (zi 0 :: S) q Q := ge_x (len := 1) (x := (0, 0, [])) p_104 rfl rfl
theorem g104_40 : z_go zP 104 40 L [zi a] q Q ↔ Q (.inl (some (zi a))) q := ge_rti (len := 1) (x := (0, 0, [])) p_104 rfl rfl
theorem g104_41 : z_go zP 104 41 [some (.ref u), l1, l2, l3] S q Q ↔ z_go zP 104 42 [some (.ref u), l1, l2, l3] (.ref u :: S) q Q := ge_x (len := 1) (x := (0, 0, [])) p_104 rfl rfl
theorem g104_42 : z_go zP 104 42 L S q Q ↔ z_go zP 104 43 L (zi 1 :: S) q Q := ge_x (len := 1) (x := (0, 0, [])) p_104 rfl rfl
theorem g104_43 : z_go zP 104 43 L S q Q ↔ z_go zP 104 44 L (zi 0 :: S) q Q := ge_x (len := 1) (x := (0, 0, [])) p_104 rfl rfl
theorem g104_44 : z_go zP 104 44 L S q Q ↔ z_go zP 104 45 L (zi 0 :: S) q Q := ge_x (len := 1) (x := (0, 0, [])) p_104 rfl rfl
theorem g104_45 : z_go zP 104 45 L [zi x2, zi x1, zi x0, .ref u] q Q ↔ z_tg q.1 u = some 9 ∧ z_go zP 102 0 [some (.ref u), some (zi x0), some (zi x1), some (zi x2)] [] q (zc 104 48 L [] Q) := ge_vc (len := 3) (pc := 45) (S := [zi x2, zi x1, zi x0, .ref u]) (u := u) (k1 := 102) (A := [.ref u, zi x0, zi x1, zi x2]) (r := []) (tag := 9) (n0 := 3) (zwb_le (by show 0 ≤ 4; omega)) p_104 rfl rfl rfl p_102 (by show 4 ≤ 4; omega) rfl
theorem g104_48 : z_go zP 104 48 [l0, l1, l2, l3] (zi a :: S) q Q ↔ z_go zP 104 49 [l0, l1, (zkl l2), some (zi a)] S q Q := (by cases l2 with | none => exact ge_x (len := 1) (x := (0, 0, [])) p_104 rfl rfl | some v => cases v <;> exact ge_x (len := 1) (x := (0, 0, [])) p_104 rfl rfl)
theorem g104_49 : z_go zP 104 49 [some (.ref u), l1, l2, l3] S q Q ↔ z_go zP 104 50 [some (.ref u), l1, l2, l3] (.ref u :: S) q Q := ge_x (len := 1) (x := (0, 0, [])) p_104 rfl rfl
theorem g104_50 : z_go zP 104 50 L (.ref u :: S) q Q ↔ ∃ v, z_get [9] 7 q.1 u = some v ∧ z_go zP 104 53 L (v :: S) q Q := ge_getf (len := 3) (x := (7, 0, [9])) p_104 rfl
theorem g104_53 : z_go zP 104 53 [l0, l1, l2, some (zi a)] S q Q ↔ z_go zP 104 54 [l0, l1, l2, some (zi a)] (zi a :: S) q Q := ge_x (len := 1) (x := (0, 0, [])) p_104 rfl rfl
theorem g104_54 : z_go zP 104 54 [l0, some (zi a), l2, l3] S q Q ↔ z_go zP 104 55 [l0, some (zi a), l2, l3] (zi a :: S) q Q := ge_x (len := 1) (x := (0, 0, [])) p_104 rfl rfl
theorem g104_55 : z_go zP 104 55 L (zi b :: zi a :: .ref u :: S) q Q ↔ ∃ q1, z_st 100 q u (Int32.ofInt a) (zi b) = some q1 ∧ z_go zP 104 56 L S q1 Q := ge_iast (len := 1) (x := (0, 0, [])) p_104 rfl
theorem g104_56 : z_go zP 104 56 [some (.ref u), l1, l2, l3] S q Q ↔ z_go zP 104 57 [some (.ref u), l1, l2, l3] (.ref u :: S) q Q := ge_x (len := 1) (x := (0, 0, [])) p_104 rfl rfl
theorem g104_57 : z_go zP 104 57 L (.ref u :: S) q Q ↔ ∃ v, z_get [9] 8 q.1 u = some v ∧ z_go zP 104 60 L (v :: S) q Q := ge_getf (len := 3) (x := (8, 0, [9])) p_104 rfl
theorem g104_60 : z_go zP 104 60 [l0, l1, l2, some (zi a)] S q Q ↔ z_go zP 104 61 [l0, l1, l2, some (zi a)] (zi a :: S) q Q := ge_x (len := 1) (x := (0, 0, [])) p_104 rfl rfl
theorem g104_61 : z_go zP 104 61 [l0, l1, some (zi a), l3] S q Q ↔ z_go zP 104 62 [l0, l1, some (zi a), l3] (zi a :: S) q Q := ge_x (len := 1) (x := (0, 0, [])) p_104 rfl rfl
theorem g104_62 : z_go zP 104 62 L (zi b :: zi a :: .ref u :: S) q Q ↔ ∃ q1, z_st 100 q u (Int32.ofInt a) (zi b) = some q1 ∧ z_go zP 104 63 L S q1 Q := ge_iast (len := 1) (x := (0, 0, [])) p_104 rfl
theorem g104_63 : z_go zP 104 63 [l0, l1, l2, some (zi a)] S q Q ↔ z_go zP 104 64 [l0, l1, l2, some (zi a)] (zi a :: S) q Q := ge_x (len := 1) (x := (0, 0, [])) p_104 rfl rfl
theorem g104_64 : z_go zP 104 64 L [zi a] q Q ↔ Q (.inl (some (zi a))) q := ge_rti (len := 1) (x := (0, 0, [])) p_104 rfl rfl
theorem g105_0 : z_go zP 105 0 [some (.ref u), l1, l2] S q Q ↔ z_go zP 105 1 [some (.ref u), l1, l2] (.ref u :: S) q Q := ge_x (len := 1) (x := (0, 0, [])) p_105 rfl rfl
theorem g105_1 : z_go zP 105 1 [l0, some (zi a), l2] S q Q ↔ z_go zP 105 2 [l0, some (zi a), l2] (zi a :: S) q Q := ge_x (len := 1) (x := (0, 0, [])) p_105 rfl rfl
theorem g105_2 : z_go zP 105 2 L S q Q ↔ z_go zP 105 3 L (zi 1 :: S) q Q := ge_x (len := 1) (x := (0, 0, [])) p_105 rfl rfl
theorem g105_3 : z_go zP 105 3 L S q Q ↔ z_go zP 105 4 L (zi 1 :: S) q Q := ge_x (len := 1) (x := (0, 0, [])) p_105 rfl rfl
theorem g105_4 : z_go zP 105 4 L [zi x2, zi x1, zi x0, .ref u] q Q ↔ z_tg q.1 u = some 9 ∧ z_go zP 100 0 [some (.ref u), some (zi x0), some (zi x1), some (zi x2), none] [] q (zc 105 7 L [] Q) := ge_vc (len := 3) (pc := 4) (S := [zi x2, zi x1, zi x0, .ref u]) (u := u) (k1 := 100) (A := [.ref u, zi x0, zi x1, zi x2]) (r := []) (tag := 9) (n0 := 3) (zwb_le (by show 0 ≤ 4; omega)) p_105 rfl rfl rfl p_100 (by show 4 ≤ 5; omega) rfl
theorem g105_7 (a1 : -2147483648 ≤ a) (a2 : a < 2147483648) : z_go zP 105 7 L (zi a :: S) q Q ↔ if a = 0 then z_go zP 105 18 L S q Q else z_go zP 105 10 L S q Q := ge_if_eq (len := 3) (x := (0, 0, [])) a1 a2 p_105 rfl rfl
theorem g105_7b {c : Prop} [Decidable c] : z_go zP 105 7 L (zi (bI c) :: S) q Q ↔ if c then z_go zP 105 10 L S q Q else z_go zP 105 18 L S q Q := ge_if_eq_b (len := 3) (x := (0, 0, [])) p_105 rfl rfl
theorem g105_10 : z_go zP 105 10 [some (.ref u), l1, l2] S q Q ↔ z_go zP 105 11 [some (.ref u), l1, l2] (.ref u :: S) q Q := ge_x (len := 1) (x := (0, 0, [])) p_105 rfl rfl
theorem g105_11 : z_go zP 105 11 L S q Q ↔ z_go zP 105 12 L (zi 1 :: S) q Q := ge_x (len := 1) (x := (0, 0, [])) p_105 rfl rfl
theorem g105_12 : z_go zP 105 12 L [zi x0, .ref u] q Q ↔ z_tg q.1 u = some 9 ∧ z_go zP 103 0 [some (.ref u), some (zi x0)] [] q (zc 105 15 L [] Q) := ge_vc (len := 3) (pc := 12) (S := [zi x0, .ref u]) (u := u) (k1 := 103) (A := [.ref u, zi x0]) (r := []) (tag := 9) (n0 := 1) (zwb_le (by show 0 ≤ 4; omega)) p_105 rfl rfl rfl p_103 (by show 2 ≤ 2; omega) rfl
theorem g105_15 (a1 : -2147483648 ≤ a) (a2 : a < 2147483648) : z_go zP 105 15 L (zi a :: S) q Q ↔ if a = 0 then z_go zP 105 20 L S q Q else z_go zP 105 18 L S q Q := ge_if_eq (len := 3) (x := (0, 0, [])) a1 a2 p_105 rfl rfl
theorem g105_15b {c : Prop} [Decidable c] : z_go zP 105 15 L (zi (bI c) :: S) q Q ↔ if c then z_go zP 105 18 L S q Q else z_go zP 105 20 L S q Q := ge_if_eq_b (len := 3) (x := (0, 0, [])) p_105 rfl rfl
theorem g105_18 : z_go zP 105 18 L S q Q ↔ z_go zP 105 19 L (zi 0 :: S) q Q := ge_x (len := 1) (x := (0, 0, [])) p_105 rfl rfl
theorem g105_19 : z_go zP 105 19 L [zi a] q Q ↔ Q (.inl (some (zi a))) q := ge_rti (len := 1) (x := (0, 0, [])) p_105 rfl rfl
theorem g105_20 : z_go zP 105 20 [some (.ref u), l1, l2] S q Q ↔ z_go zP 105 21 [some (.ref u), l1, l2] (.ref u :: S) q Q := ge_x (len := 1) (x := (0, 0, [])) p_105 rfl rfl
theorem g105_21 : z_go zP 105 21 L S q Q ↔ z_go zP 105 22 L (zi 2 :: S) q Q := ge_x (len := 1) (x := (0, 0, [])) p_105 rfl rfl
theorem g105_22 : z_go zP 105 22 [l0, some (zi a), l2] S q Q ↔ z_go zP 105 23 [l0, some (zi a), l2] (zi a :: S) q Q := ge_x (len := 1) (x := (0, 0, [])) p_105 rfl rfl
theorem g105_23 : z_go zP 105 23 L S q Q ↔ z_go zP 105 24 L (zi 0 :: S) q Q := ge_x (len := 1) (x := (0, 0, [])) p_105 rfl rfl
theorem g105_24 : z_go zP 105 24 L [zi x2, zi x1, zi x0, .ref u] q Q ↔ z_tg q.1 u = some 9 ∧ z_go zP 102 0 [some (.ref u), some (zi x0), some (zi x1), some (zi x2)] [] q (zc 105 27 L [] Q) := ge_vc (len := 3) (pc := 24) (S := [zi x2, zi x1, zi x0, .ref u]) (u := u) (k1 := 102) (A := [.ref u, zi x0, zi x1, zi x2]) (r := []) (tag := 9) (n0 := 3) (zwb_le (by show 0 ≤ 4; omega)) p_105 rfl rfl rfl p_102 (by show 4 ≤ 4; omega) rfl
theorem g105_27 : z_go zP 105 27 [l0, l1, l2] (zi a :: S) q Q ↔ z_go zP 105 28 [l0, (zkl l1), some (zi a)] S q Q := (by cases l1 with | none => exact ge_x (len := 1) (x := (0, 0, [])) p_105 rfl rfl | some v => cases v <;> exact ge_x (len := 1) (x := (0, 0, [])) p_105 rfl rfl)
theorem g105_28 : z_go zP 105 28 [some (.ref u), l1, l2] S q Q ↔ z_go zP 105 29 [some (.ref u), l1, l2] (.ref u :: S) q Q := ge_x (len := 1) (x := (0, 0, [])) p_105 rfl rfl
theorem g105_29 : z_go zP 105 29 L (.ref u :: S) q Q ↔ ∃ v, z_get [9] 13 q.1 u = some v ∧ z_go zP 105 32 L (v :: S) q Q := ge_getf (len := 3) (x := (13, 0, [9])) p_105 rfl
theorem g105_32 : z_go zP 105 32 [l0, l1, some (zi a)] S q Q ↔ z_go zP 105 33 [l0, l1, some (zi a)] (zi a :: S) q Q := ge_x (len := 1) (x := (0, 0, [])) p_105 rfl rfl
theorem g105_33 : z_go zP 105 33 L S q Q ↔ z_go zP 105 34 L (zi 0 :: S) q Q := ge_x (len := 1) (x := (0, 0, [])) p_105 rfl rfl
theorem g105_34 : z_go zP 105 34 L (zi b :: zi a :: .ref u :: S) q Q ↔ ∃ q1, z_st 100 q u (Int32.ofInt a) (zi b) = some q1 ∧ z_go zP 105 35 L S q1 Q := ge_iast (len := 1) (x := (0, 0, [])) p_105 rfl
theorem g105_35 : z_go zP 105 35 [l0, l1, some (zi a)] S q Q ↔ z_go zP 105 36 [l0, l1, some (zi a)] (zi a :: S) q Q := ge_x (len := 1) (x := (0, 0, [])) p_105 rfl rfl
theorem g105_36 : z_go zP 105 36 L [zi a] q Q ↔ Q (.inl (some (zi a))) q := ge_rti (len := 1) (x := (0, 0, [])) p_105 rfl rfl
theorem g106_0 : z_go zP 106 0 [some (.ref u), l1, l2, l3, l4, l5, l6, l7] S q Q ↔ z_go zP 106 1 [some (.ref u), l1, l2, l3, l4, l5, l6, l7] (.ref u :: S) q Q := ge_x (len := 1) (x := (0, 0, [])) p_106 rfl rfl
theorem g106_1 : z_go zP 106 1 [l0, some (zi a), l2, l3, l4, l5, l6, l7] S q Q ↔ z_go zP 106 2 [l0, some (zi a), l2, l3, l4, l5, l6, l7] (zi a :: S) q Q := ge_x (len := 1) (x := (0, 0, [])) p_106 rfl rfl
theorem g106_2 : z_go zP 106 2 L S q Q ↔ z_go zP 106 3 L (zi 2 :: S) q Q := ge_x (len := 1) (x := (0, 0, [])) p_106 rfl rfl
theorem g106_3 : z_go zP 106 3 L S q Q ↔ z_go zP 106 4 L (zi 1 :: S) q Q := ge_x (len := 1) (x := (0, 0, [])) p_106 rfl rfl
theorem g106_4 : z_go zP 106 4 L [zi x2, zi x1, zi x0, .ref u] q Q ↔ z_tg q.1 u = some 9 ∧ z_go zP 100 0 [some (.ref u), some (zi x0), some (zi x1), some (zi x2), none] [] q (zc 106 7 L [] Q) := ge_vc (len := 3) (pc := 4) (S := [zi x2, zi x1, zi x0, .ref u]) (u := u) (k1 := 100) (A := [.ref u, zi x0, zi x1, zi x2]) (r := []) (tag := 9) (n0 := 3) (zwb_le (by show 0 ≤ 4; omega)) p_106 rfl rfl rfl p_100 (by show 4 ≤ 5; omega) rfl
theorem g106_7 (a1 : -2147483648 ≤ a) (a2 : a < 2147483648) : z_go zP 106 7 L (zi a :: S) q Q ↔ if ¬ a = 0 then z_go zP 106 12 L S q Q else z_go zP 106 10 L S q Q := ge_if_ne (len := 3) (x := (0, 0, [])) a1 a2 p_106 rfl rfl
theorem g106_7b {c : Prop} [Decidable c] : z_go zP 106 7 L (zi (bI c) :: S) q Q ↔ if c then z_go zP 106 12 L S q Q else z_go zP 106 10 L S q Q := ge_if_ne_b (len := 3) (x := (0, 0, [])) p_106 rfl rfl
theorem g106_10 : z_go zP 106 10 L S q Q ↔ z_go zP 106 11 L (zi 0 :: S) q Q := ge_x (len := 1) (x := (0, 0, [])) p_106 rfl rfl
theorem g106_11 : z_go zP 106 11 L [zi a] q Q ↔ Q (.inl (some (zi a))) q := ge_rti (len := 1) (x := (0, 0, [])) p_106 rfl rfl
theorem g106_12 : z_go zP 106 12 [some (.ref u), l1, l2, l3, l4, l5, l6, l7] S q Q ↔ z_go zP 106 13 [some (.ref u), l1, l2, l3, l4, l5, l6, l7] (.ref u :: S) q Q := ge_x (len := 1) (x := (0, 0, [])) p_106 rfl rfl
theorem g106_13 : z_go zP 106 13 [l0, some (zi a), l2, l3, l4, l5, l6, l7] S q Q ↔ z_go zP 106 14 [l0, some (zi a), l2, l3, l4, l5, l6, l7] (zi a :: S) q Q := ge_x (len := 1) (x := (0, 0, [])) p_106 rfl rfl
theorem g106_14 : z_go zP 106 14 L [zi x0, .ref u] q Q ↔ z_tg q.1 u = some 9 ∧ z_go zP 101 0 [some (.ref u), some (zi x0), none, none, none] [] q (zc 106 17 L [] Q) := ge_vc (len := 3) (pc := 14) (S := [zi x0, .ref u]) (u := u) (k1 := 101) (A := [.ref u, zi x0]) (r := []) (tag := 9) (n0 := 1) (zwb_le (by show 0 ≤ 4; omega)) p_106 rfl rfl rfl p_101 (by show 2 ≤ 5; omega) rfl
theorem g106_17 (a1 : -2147483648 ≤ a) (a2 : a < 2147483648) : z_go zP 106 17 L (zi a :: S) q Q ↔ if a = 0 then z_go zP 106 27 L S q Q else z_go zP 106 20 L S q Q := ge_if_eq (len := 3) (x := (0, 0, [])) a1 a2 p_106 rfl rfl
theorem g106_17b {c : Prop} [Decidable c] : z_go zP 106 17 L (zi (bI c) :: S) q Q ↔ if c then z_go zP 106 20 L S q Q else z_go zP 106 27 L S q Q := ge_if_eq_b (len := 3) (x := (0, 0, [])) p_106 rfl rfl
theorem g106_20 : z_go zP 106 20 [some (.ref u), l1, l2, l3, l4, l5, l6, l7] S q Q ↔ z_go zP 106 21 [some (.ref u), l1, l2, l3, l4, l5, l6, l7] (.ref u :: S) q Q := ge_x (len := 1) (x := (0, 0, [])) p_106 rfl rfl
theorem g106_21 : z_go zP 106 21 L S q Q ↔ z_go zP 106 22 L (zi 3 :: S) q Q := ge_x (len := 1) (x := (0, 0, [])) p_106 rfl rfl
theorem g106_22 : z_go zP 106 22 L S q Q ↔ z_go zP 106 23 L (zi 1 :: S) q Q := ge_x (len := 1) (x := (0, 0, [])) p_106 rfl rfl
theorem g106_23 : z_go zP 106 23 L [zi x1, zi x0, .ref u] q Q ↔ z_tg q.1 u = some 9 ∧ z_go zP 98 0 [some (.ref u), some (zi x0), some (zi x1)] [] q (zc 106 26 L [] Q) := ge_vc (len := 3) (pc := 23) (S := [zi x1, zi x0, .ref u]) (u := u) (k1 := 98) (A := [.ref u, zi x0, zi x1]) (r := []) (tag := 9) (n0 := 2) (zwb_le (by show 0 ≤ 4; omega)) p_106 rfl rfl rfl p_98 (by show 3 ≤ 3; omega) rfl
theorem g106_26 : z_go zP 106 26 L [zi a] q Q ↔ Q (.inl (some (zi a))) q := ge_rti (len := 1) (x := (0, 0, [])) p_106 rfl rfl
theorem g106_27 : z_go zP 106 27 [l0, l1, some (zi a), l3, l4, l5, l6, l7] S q Q ↔ z_go zP 106 28 [l0, l1, some (zi a), l3, l4, l5, l6, l7] (zi a :: S) q Q := ge_x (len := 1) (x := (0, 0, [])) p_106 rfl rfl
theorem g106_28 : z_go zP 106 28 L S q Q ↔ z_go zP 106 29 L (zi 0 :: S) q Q := ge_x (len := 1) (x := (0, 0, [])) p_106 rfl rfl
theorem g106_29 : z_go zP 106 29 L S q Q ↔ z_go zP 106 31 L (zi 7 :: S) q Q := ge_x (len := 2) (x := (0, 0, [])) p_106 rfl rfl
theorem g106_31 : z_go zP 106 31 L [zi x2, zi x1, zi x0] q Q ↔ z_go zP 97 0 [some (zi x0), some (zi x1), some (zi x2)] [] q (zd 106 34 L [] Q) := (z_go_cl (len := 3) (x := (97, 2, [3])) (k1 := 97) (A := [zi x0, zi x1, zi x2]) (r := []) p_106 rfl rfl rfl rfl (by simp only [z_cl, List.drop]; rw [if_pos]; rfl; exact by first | exact ⟨by decide, (zwb_le (by show 0 ≤ 4; omega))⟩ | exact ⟨by decide, by show 3 ≤ 3; omega, (zwb_le (by show 0 ≤ 4; omega))⟩) p_97 (by show 3 ≤ 3; omega)).trans (ge_bk_d rfl)
theorem g106_34 (a1 : -2147483648 ≤ a) (a2 : a < 2147483648) : z_go zP 106 34 L (zi a :: S) q Q ↔ if a = 0 then z_go zP 106 66 L S q Q else z_go zP 106 37 L S q Q := ge_if_eq (len := 3) (x := (0, 0, [])) a1 a2 p_106 rfl rfl
theorem g106_34b {c : Prop} [Decidable c] : z_go zP 106 34 L (zi (bI c) :: S) q Q ↔ if c then z_go zP 106 37 L S q Q else z_go zP 106 66 L S q Q := ge_if_eq_b (len := 3) (x := (0, 0, [])) p_106 rfl rfl
theorem g106_37 : z_go zP 106 37 [l0, l1, l2, some (zi a), l4, l5, l6, l7] S q Q ↔ z_go zP 106 38 [l0, l1, l2, some (zi a), l4, l5, l6, l7] (zi a :: S) q Q := ge_x (len := 1) (x := (0, 0, [])) p_106 rfl rfl
theorem g106_38 : z_go zP 106 38 L S q Q ↔ z_go zP 106 39 L (zi 0 :: S) q Q := ge_x (len := 1) (x := (0, 0, [])) p_106 rfl rfl
theorem g106_39 : z_go zP 106 39 L S q Q ↔ z_go zP 106 40 L (zi 3 :: S) q Q := ge_x (len := 1) (x := (0, 0, [])) p_106 rfl rfl
theorem g106_40 : z_go zP 106 40 L [zi x2, zi x1, zi x0] q Q ↔ z_go zP 97 0 [some (zi x0), some (zi x1), some (zi x2)] [] q (zd 106 43 L [] Q) := (z_go_cl (len := 3) (x := (97, 2, [3])) (k1 := 97) (A := [zi x0, zi x1, zi x2]) (r := []) p_106 rfl rfl rfl rfl (by simp only [z_cl, List.drop]; rw [if_pos]; rfl; exact by first | exact ⟨by decide, (zwb_le (by show 0 ≤ 4; omega))⟩ | exact ⟨by decide, by show 3 ≤ 3; omega, (zwb_le (by show 0 ≤ 4; omega))⟩) p_97 (by show 3 ≤ 3; omega)).trans (ge_bk_d rfl)
theorem g106_43 (a1 : -2147483648 ≤ a) (a2 : a < 2147483648) : z_go zP 106 43 L (zi a :: S) q Q ↔ if a = 0 then z_go zP 106 66 L S q Q else z_go zP 106 46 L S q Q := ge_if_eq (len := 3) (x := (0, 0, [])) a1 a2 p_106 rfl rfl
theorem g106_43b {c : Prop} [Decidable c] : z_go zP 106 43 L (zi (bI c) :: S) q Q ↔ if c then z_go zP 106 46 L S q Q else z_go zP 106 66 L S q Q := ge_if_eq_b (len := 3) (x := (0, 0, [])) p_106 rfl rfl
theorem g106_46 : z_go zP 106 46 [l0, l1, l2, l3, some (zi a), l5, l6, l7] S q Q ↔ z_go zP 106 48 [l0, l1, l2, l3, some (zi a), l5, l6, l7] (zi a :: S) q Q := ge_x (len := 2) (x := (0, 0, [])) p_106 rfl rfl
theorem g106_48 : z_go zP 106 48 L S q Q ↔ z_go zP 106 49 L (zi 0 :: S) q Q := ge_x (len := 1) (x := (0, 0, [])) p_106 rfl rfl
theorem g106_49 : z_go zP 106 49 L S q Q ↔ z_go zP 106 50 L (zi 3 :: S) q Q := ge_x (len := 1) (x := (0, 0, [])) p_106 rfl rfl
theorem g106_50 : z_go zP 106 50 L [zi x2, zi x1, zi x0] q Q ↔ z_go zP 97 0 [some (zi x0), some (zi x1), some (zi x2)] [] q (zd 106 53 L [] Q) := (z_go_cl (len := 3) (x := (97, 2, [3])) (k1 := 97) (A := [zi x0, zi x1, zi x2]) (r := []) p_106 rfl rfl rfl rfl (by simp only [z_cl, List.drop]; rw [if_pos]; rfl; exact by first | exact ⟨by decide, (zwb_le (by show 0 ≤ 4; omega))⟩ | exact ⟨by decide, by show 3 ≤ 3; omega, (zwb_le (by show 0 ≤ 4; omega))⟩) p_97 (by show 3 ≤ 3; omega)).trans (ge_bk_d rfl)
theorem g106_53 (a1 : -2147483648 ≤ a) (a2 : a < 2147483648) : z_go zP 106 53 L (zi a :: S) q Q ↔ if a = 0 then z_go zP 106 66 L S q Q else z_go zP 106 56 L S q Q := ge_if_eq (len := 3) (x := (0, 0, [])) a1 a2 p_106 rfl rfl
theorem g106_53b {c : Prop} [Decidable c] : z_go zP 106 53 L (zi (bI c) :: S) q Q ↔ if c then z_go zP 106 56 L S q Q else z_go zP 106 66 L S q Q := ge_if_eq_b (len := 3) (x := (0, 0, [])) p_106 rfl rfl
theorem g106_56 : z_go zP 106 56 [l0, l1, l2, l3, l4, some (zi a), l6, l7] S q Q ↔ z_go zP 106 58 [l0, l1, l2, l3, l4, some (zi a), l6, l7] (zi a :: S) q Q := ge_x (len := 2) (x := (0, 0, [])) p_106 rfl rfl
theorem g106_58 : z_go zP 106 58 L S q Q ↔ z_go zP 106 59 L (zi 0 :: S) q Q := ge_x (len := 1) (x := (0, 0, [])) p_106 rfl rfl
theorem g106_59 : z_go zP 106 59 L S q Q ↔ z_go zP 106 60 L (zi 3 :: S) q Q := ge_x (len := 1) (x := (0, 0, [])) p_106 rfl rfl
theorem g106_60 : z_go zP 106 60 L [zi x2, zi x1, zi x0] q Q ↔ z_go zP 97 0 [some (zi x0), some (zi x1), some (zi x2)] [] q (zd 106 63 L [] Q) := (z_go_cl (len := 3) (x := (97, 2, [3])) (k1 := 97) (A := [zi x0, zi x1, zi x2]) (r := []) p_106 rfl rfl rfl rfl (by simp only [z_cl, List.drop]; rw [if_pos]; rfl; exact by first | exact ⟨by decide, (zwb_le (by show 0 ≤ 4; omega))⟩ | exact ⟨by decide, by show 3 ≤ 3; omega, (zwb_le (by show 0 ≤ 4; omega))⟩) p_97 (by show 3 ≤ 3; omega)).trans (ge_bk_d rfl)
theorem g106_63 (a1 : -2147483648 ≤ a) (a2 : a < 2147483648) : z_go zP 106 63 L (zi a :: S) q Q ↔ if ¬ a = 0 then z_go zP 106 72 L S q Q else z_go zP 106 66 L S q Q := ge_if_ne (len := 3) (x := (0, 0, [])) a1 a2 p_106 rfl rfl
theorem g106_63b {c : Prop} [Decidable c] : z_go zP 106 63 L (zi (bI c) :: S) q Q ↔ if c then z_go zP 106 72 L S q Q else z_go zP 106 66 L S q Q := ge_if_ne_b (len := 3) (x := (0, 0, [])) p_106 rfl rfl
theorem g106_66 : z_go zP 106 66 [some (.ref u), l1, l2, l3, l4, l5, l6, l7] S q Q ↔ z_go zP 106 67 [some (.ref u), l1, l2, l3, l4, l5, l6, l7] (.ref u :: S) q Q := ge_x (len := 1) (x := (0, 0, [])) p_106 rfl rfl
theorem g106_67 : z_go zP 106 67 L S q Q ↔ z_go zP 106 68 L (zi 2 :: S) q Q := ge_x (len := 1) (x := (0, 0, [])) p_106 rfl rfl
theorem g106_68 : z_go zP 106 68 L [zi x0, .ref u] q Q ↔ z_tg q.1 u = some 9 ∧ z_go zP 96 0 [some (.ref u), some (zi x0)] [] q (zc 106 71 L [] Q) := ge_vc (len := 3) (pc := 68) (S := [zi x0, .ref u]) (u := u) (k1 := 96) (A := [.ref u, zi x0]) (r := []) (tag := 9) (n0 := 1) (zwb_le (by show 0 ≤ 4; omega)) p_106 rfl rfl rfl p_96 (by show 2 ≤ 2; omega) rfl
theorem g106_71 : z_go zP 106 71 L [zi a] q Q ↔ Q (.inl (some (zi a))) q := ge_rti (len := 1) (x := (0, 0, [])) p_106 rfl rfl
theorem g106_72 : z_go zP 106 72 [some (.ref u), l1, l2, l3, l4, l5, l6, l7] S q Q ↔ z_go zP 106 73 [some (.ref u), l1, l2, l3, l4, l5, l6, l7] (.ref u :: S) q Q := ge_x (len := 1) (x := (0, 0, [])) p_106 rfl rfl
theorem g106_73 : z_go zP 106 73 L (.ref u :: S) q Q ↔ ∃ v, z_get [9] 13 q.1 u = some v ∧ z_go zP 106 76 L (v :: S) q Q := ge_getf (len := 3) (x := (13, 0, [9])) p_106 rfl
theorem g106_76 : z_go zP 106 76 [l0, some (zi a), l2, l3, l4, l5, l6, l7] S q Q ↔ z_go zP 106 77 [l0, some (zi a), l2, l3, l4, l5, l6, l7] (zi a :: S) q Q := ge_x (len := 1) (x := (0, 0, [])) p_106 rfl rfl
theorem g106_77 : z_go zP 106 77 L (zi a :: .ref u :: S) q Q ↔ ∃ v, z_at [99, 100] q.1 u (Int32.ofInt a) = some v ∧ z_go zP 106 78 L (v :: S) q Q := ge_iald (len := 1) (x := (0, 0, [])) p_106 rfl
theorem g106_78 : z_go zP 106 78 L S q Q ↔ z_go zP 106 80 L (zi 24 :: S) q Q := ge_x (len := 2) (x := (0, 0, [])) p_106 rfl rfl
theorem g106_80 (a1 : -2147483648 ≤ a) (a2 : a < 2147483648) (b1 : -2147483648 ≤ b) (b2 : b < 2147483648) : z_go zP 106 80 L (zi b :: zi a :: S) q Q ↔ if ¬ a = b then z_go zP 106 89 L S q Q else z_go zP 106 83 L S q Q := ge_ic_ne (len := 3) (x := (0, 0, [])) a1 a2 b1 b2 p_106 rfl rfl
theorem g106_83 : z_go zP 106 83 [some (.ref u), l1, l2, l3, l4, l5, l6, l7] S q Q ↔ z_go zP 106 84 [some (.ref u), l1, l2, l3, l4, l5, l6, l7] (.ref u :: S) q Q := ge_x (len := 1) (x := (0, 0, [])) p_106 rfl rfl
theorem g106_84 : z_go zP 106 84 L S q Q ↔ z_go zP 106 85 L (zi 3 :: S) q Q := ge_x (len := 1) (x := (0, 0, [])) p_106 rfl rfl
theorem g106_85 : z_go zP 106 85 L [zi x0, .ref u] q Q ↔ z_tg q.1 u = some 9 ∧ z_go zP 96 0 [some (.ref u), some (zi x0)] [] q (zc 106 88 L [] Q) := ge_vc (len := 3) (pc := 85) (S := [zi x0, .ref u]) (u := u) (k1 := 96) (A := [.ref u, zi x0]) (r := []) (tag := 9) (n0 := 1) (zwb_le (by show 0 ≤ 4; omega)) p_106 rfl rfl rfl p_96 (by show 2 ≤ 2; omega) rfl
theorem g106_88 : z_go zP 106 88 L [zi a] q Q ↔ Q (.inl (some (zi a))) q := ge_rti (len := 1) (x := (0, 0, [])) p_106 rfl rfl
theorem g106_89 : z_go zP 106 89 L S q Q ↔ z_go zP 106 91 L (zi 24 :: S) q Q := ge_x (len := 2) (x := (0, 0, [])) p_106 rfl rfl
theorem g106_91 : z_go zP 106 91 [l0, some (zi a), l2, l3, l4, l5, l6, l7] S q Q ↔ z_go zP 106 92 [l0, some (zi a), l2, l3, l4, l5, l6, l7] (zi a :: S) q Q := ge_x (len := 1) (x := (0, 0, [])) p_106 rfl rfl
theorem g106_92 : z_go zP 106 92 L (zi b :: zi a :: S) q Q ↔ z_go zP 106 93 L (zi (a * b) :: S) q Q := ge_imul (len := 1) (x := (0, 0, [])) p_106 rfl
theorem g106_93 : z_go zP 106 93 [some (.ref u), l1, l2, l3, l4, l5, l6, l7] S q Q ↔ z_go zP 106 94 [some (.ref u), l1, l2, l3, l4, l5, l6, l7] (.ref u :: S) q Q := ge_x (len := 1) (x := (0, 0, [])) p_106 rfl rfl
theorem g106_94 : z_go zP 106 94 L (.ref u :: S) q Q ↔ ∃ v, z_get [9] 13 q.1 u = some v ∧ z_go zP 106 97 L (v :: S) q Q := ge_getf (len := 3) (x := (13, 0, [9])) p_106 rfl
theorem g106_97 : z_go zP 106 97 [l0, some (zi a), l2, l3, l4, l5, l6, l7] S q Q ↔ z_go zP 106 98 [l0, some (zi a), l2, l3, l4, l5, l6, l7] (zi a :: S) q Q := ge_x (len := 1) (x := (0, 0, [])) p_106 rfl rfl
theorem g106_98 : z_go zP 106 98 L (zi a :: .ref u :: S) q Q ↔ ∃ v, z_at [99, 100] q.1 u (Int32.ofInt a) = some v ∧ z_go zP 106 99 L (v :: S) q Q := ge_iald (len := 1) (x := (0, 0, [])) p_106 rfl
theorem g106_99 : z_go zP 106 99 L (zi b :: zi a :: S) q Q ↔ z_go zP 106 100 L (zi (a + b) :: S) q Q := ge_iadd (len := 1) (x := (0, 0, [])) p_106 rfl
theorem g106_100 : z_go zP 106 100 [l0, l1, l2, l3, l4, l5, l6, l7] (zi a :: S) q Q ↔ z_go zP 106 102 [l0, l1, l2, l3, l4, l5, (zkl l6), some (zi a)] S q Q := (by cases l6 with | none => exact ge_x (len := 2) (x := (0, 0, [])) p_106 rfl rfl | some v => cases v <;> exact ge_x (len := 2) (x := (0, 0, [])) p_106 rfl rfl)
theorem g106_102 : z_go zP 106 102 [some (.ref u), l1, l2, l3, l4, l5, l6, l7] S q Q ↔ z_go zP 106 103 [some (.ref u), l1, l2, l3, l4, l5, l6, l7] (.ref u :: S) q Q := ge_x (len := 1) (x := (0, 0, [])) p_106 rfl rfl
theorem g106_103 : z_go zP 106 103 L (.ref u :: S) q Q ↔ ∃ v, z_get [9] 14 q.1 u = some v ∧ z_go zP 106 106 L (v :: S) q Q := ge_getf (len := 3) (x := (14, 0, [9])) p_106 rfl
theorem g106_106 : z_go zP 106 106 [l0, l1, l2, l3, l4, l5, l6, some (zi a)] S q Q ↔ z_go zP 106 108 [l0, l1, l2, l3, l4, l5, l6, some (zi a)] (zi a :: S) q Q := ge_x (len := 2) (x := (0, 0, [])) p_106 rfl rfl
theorem g106_108 : z_go zP 106 108 [l0, l1, some (zi a), l3, l4, l5, l6, l7] S q Q ↔ z_go zP 106 109 [l0, l1, some (zi a), l3, l4, l5, l6, l7] (zi a :: S) q Q := ge_x (len := 1) (x := (0, 0, [])) p_106 rfl rfl
theorem g106_109 : z_go zP 106 109 L (zi b :: zi a :: .ref u :: S) q Q ↔ ∃ q1, z_st 100 q u (Int32.ofInt a) (zi b) = some q1 ∧ z_go zP 106 110 L S q1 Q := ge_iast (len := 1) (x := (0, 0, [])) p_106 rfl
theorem g106_110 : z_go zP 106 110 [some (.ref u), l1, l2, l3, l4, l5, l6, l7] S q Q ↔ z_go zP 106 111 [some (.ref u), l1, l2, l3, l4, l5, l6, l7] (.ref u :: S) q Q := ge_x (len := 1) (x := (0, 0, [])) p_106 rfl rfl
theorem g106_111 : z_go zP 106 111 L (.ref u :: S) q Q ↔ ∃ v, z_get [9] 15 q.1 u = some v ∧ z_go zP 106 114 L (v :: S) q Q := ge_getf (len := 3) (x := (15, 0, [9])) p_106 rfl
theorem g106_114 : z_go zP 106 114 [l0, l1, l2, l3, l4, l5, l6, some (zi a)] S q Q ↔ z_go zP 106 116 [l0, l1, l2, l3, l4, l5, l6, some (zi a)] (zi a :: S) q Q := ge_x (len := 2) (x := (0, 0, [])) p_106 rfl rfl
theorem g106_116 : z_go zP 106 116 [l0, l1, l2, some (zi a), l4, l5, l6, l7] S q Q ↔ z_go zP 106 117 [l0, l1, l2, some (zi a), l4, l5, l6, l7] (zi a :: S) q Q := ge_x (len := 1) (x := (0, 0, [])) p_106 rfl rfl
theorem g106_117 : z_go zP 106 117 L (zi b :: zi a :: .ref u :: S) q Q ↔ ∃ q1, z_st 100 q u (Int32.ofInt a) (zi b) = some q1 ∧ z_go zP 106 118 L S q1 Q := ge_iast (len := 1) (x := (0, 0, [])) p_106 rfl
theorem g106_118 : z_go zP 106 118 [some (.ref u), l1, l2, l3, l4, l5, l6, l7] S q Q ↔ z_go zP 106 119 [some (.ref u), l1, l2, l3, l4, l5, l6, l7] (.ref u :: S) q Q := ge_x (len := 1) (x := (0, 0, [])) p_106 rfl rfl
theorem g106_119 : z_go zP 106 119 L (.ref u :: S) q Q ↔ ∃ v, z_get [9] 16 q.1 u = some v ∧ z_go zP 106 122 L (v :: S) q Q := ge_getf (len := 3) (x := (16, 0, [9])) p_106 rfl
theorem g106_122 : z_go zP 106 122 [l0, l1, l2, l3, l4, l5, l6, some (zi a)] S q Q ↔ z_go zP 106 124 [l0, l1, l2, l3, l4, l5, l6, some (zi a)] (zi a :: S) q Q := ge_x (len := 2) (x := (0, 0, [])) p_106 rfl rfl
theorem g106_124 : z_go zP 106 124 [l0, l1, l2, l3, some (zi a), l5, l6, l7] S q Q ↔ z_go zP 106 126 [l0, l1, l2, l3, some (zi a), l5, l6, l7] (zi a :: S) q Q := ge_x (len := 2) (x := (0, 0, [])) p_106 rfl rfl
theorem g106_126 : z_go zP 106 126 L (zi b :: zi a :: .ref u :: S) q Q ↔ ∃ q1, z_st 100 q u (Int32.ofInt a) (zi b) = some q1 ∧ z_go zP 106 127 L S q1 Q := ge_iast (len := 1) (x := (0, 0, [])) p_106 rfl
theorem g106_127 : z_go zP 106 127 [some (.ref u), l1, l2, l3, l4, l5, l6, l7] S q Q ↔ z_go zP 106 128 [some (.ref u), l1, l2, l3, l4, l5, l6, l7] (.ref u :: S) q Q := ge_x (len := 1) (x := (0, 0, [])) p_106 rfl rfl
theorem g106_128 : z_go zP 106 128 L (.ref u :: S) q Q ↔ ∃ v, z_get [9] 17 q.1 u = some v ∧ z_go zP 106 131 L (v :: S) q Q := ge_getf (len := 3) (x := (17, 0, [9])) p_106 rfl
theorem g106_131 : z_go zP 106 131 [l0, l1, l2, l3, l4, l5, l6, some (zi a)] S q Q ↔ z_go zP 106 133 [l0, l1, l2, l3, l4, l5, l6, some (zi a)] (zi a :: S) q Q := ge_x (len := 2) (x := (0, 0, [])) p_106 rfl rfl
theorem g106_133 : z_go zP 106 133 [l0, l1, l2, l3, l4, some (zi a), l6, l7] S q Q ↔ z_go zP 106 135 [l0, l1, l2, l3, l4, some (zi a), l6, l7] (zi a :: S) q Q := ge_x (len := 2) (x := (0, 0, [])) p_106 rfl rfl
theorem g106_135 : z_go zP 106 135 L (zi b :: zi a :: .ref u :: S) q Q ↔ ∃ q1, z_st 100 q u (Int32.ofInt a) (zi b) = some q1 ∧ z_go zP 106 136 L S q1 Q := ge_iast (len := 1) (x := (0, 0, [])) p_106 rfl
theorem g106_136 : z_go zP 106 136 [some (.ref u), l1, l2, l3, l4, l5, l6, l7] S q Q ↔ z_go zP 106 137 [some (.ref u), l1, l2, l3, l4, l5, l6, l7] (.ref u :: S) q Q := ge_x (len := 1) (x := (0, 0, [])) p_106 rfl rfl
theorem g106_137 : z_go zP 106 137 L (.ref u :: S) q Q ↔ ∃ v, z_get [9] 18 q.1 u = some v ∧ z_go zP 106 140 L (v :: S) q Q := ge_getf (len := 3) (x := (18, 0, [9])) p_106 rfl
theorem g106_140 : z_go zP 106 140 [l0, l1, l2, l3, l4, l5, l6, some (zi a)] S q Q ↔ z_go zP 106 142 [l0, l1, l2, l3, l4, l5, l6, some (zi a)] (zi a :: S) q Q := ge_x (len := 2) (x := (0, 0, [])) p_106 rfl rfl
theorem g106_142 : z_go zP 106 142 [l0, l1, l2, l3, l4, l5, some (zi a), l7] S q Q ↔ z_go zP 106 144 [l0, l1, l2, l3, l4, l5, some (zi a), l7] (zi a :: S) q Q := ge_x (len := 2) (x := (0, 0, [])) p_106 rfl rfl
theorem g106_144 : z_go zP 106 144 L (zi b :: zi a :: .ref u :: S) q Q ↔ ∃ q1, z_st 100 q u (Int32.ofInt a) (zi b) = some q1 ∧ z_go zP 106 145 L S q1 Q := ge_iast (len := 1) (x := (0, 0, [])) p_106 rfl
theorem g106_145 : z_go zP 106 145 [some (.ref u), l1, l2, l3, l4, l5, l6, l7] S q Q ↔ z_go zP 106 146 [some (.ref u), l1, l2, l3, l4, l5, l6, l7] (.ref u :: S) q Q := ge_x (len := 1) (x := (0, 0, [])) p_106 rfl rfl
theorem g106_146 : z_go zP 106 146 L (.ref u :: S) q Q ↔ ∃ v, z_get [9] 13 q.1 u = some v ∧ z_go zP 106 149 L (v :: S) q Q := ge_getf (len := 3) (x := (13, 0, [9])) p_106 rfl
theorem g106_149 : z_go zP 106 149 [l0, some (zi a), l2, l3, l4, l5, l6, l7] S q Q ↔ z_go zP 106 150 [l0, some (zi a), l2, l3, l4, l5, l6, l7] (zi a :: S) q Q := ge_x (len := 1) (x := (0, 0, [])) p_106 rfl rfl
theorem g106_150 : z_go zP 106 150 L (zi a :: .ref u :: S) q Q ↔ z_go zP 106 151 L (zi a :: .ref u :: zi a :: .ref u :: S) q Q := ge_x (len := 1) (x := (0, 0, [])) p_106 rfl rfl
theorem g106_151 : z_go zP 106 151 L (zi a :: .ref u :: S) q Q ↔ ∃ v, z_at [99, 100] q.1 u (Int32.ofInt a) = some v ∧ z_go zP 106 152 L (v :: S) q Q := ge_iald (len := 1) (x := (0, 0, [])) p_106 rfl
theorem g106_152 : z_go zP 106 152 L S q Q ↔ z_go zP 106 153 L (zi 1 :: S) q Q := ge_x (len := 1) (x := (0, 0, [])) p_106 rfl rfl
theorem g106_153 : z_go zP 106 153 L (zi b :: zi a :: S) q Q ↔ z_go zP 106 154 L (zi (a + b) :: S) q Q := ge_iadd (len := 1) (x := (0, 0, [])) p_106 rfl
theorem g106_154 : z_go zP 106 154 L (zi b :: zi a :: .ref u :: S) q Q ↔ ∃ q1, z_st 100 q u (Int32.ofInt a) (zi b) = some q1 ∧ z_go zP 106 155 L S q1 Q := ge_iast (len := 1) (x := (0, 0, [])) p_106 rfl
theorem g106_155 : z_go zP 106 155 [some (.ref u), l1, l2, l3, l4, l5, l6, l7] S q Q ↔ z_go zP 106 156 [some (.ref u), l1, l2, l3, l4, l5, l6, l7] (.ref u :: S) q Q := ge_x (len := 1) (x := (0, 0, [])) p_106 rfl rfl
theorem g106_156 : z_go zP 106 156 L (.ref u :: S) q Q ↔ ∃ v, z_get [9] 13 q.1 u = some v ∧ z_go zP 106 159 L (v :: S) q Q := ge_getf (len := 3) (x := (13, 0, [9])) p_106 rfl
theorem g106_159 : z_go zP 106 159 [l0, some (zi a), l2, l3, l4, l5, l6, l7] S q Q ↔ z_go zP 106 160 [l0, some (zi a), l2, l3, l4, l5, l6, l7] (zi a :: S) q Q := ge_x (len := 1) (x := (0, 0, [])) p_106 rfl rfl
theorem g106_160 : z_go zP 106 160 L (zi a :: .ref u :: S) q Q ↔ ∃ v, z_at [99, 100] q.1 u (Int32.ofInt a) = some v ∧ z_go zP 106 161 L (v :: S) q Q := ge_iald (len := 1) (x := (0, 0, [])) p_106 rfl
theorem g106_161 : z_go zP 106 161 L [zi a] q Q ↔ Q (.inl (some (zi a))) q := ge_rti (len := 1) (x := (0, 0, [])) p_106 rfl rfl
theorem g107_0 : z_go zP 107 0 [some (zi a), l1, l2, l3] S q Q ↔ z_go zP 107 1 [some (zi a), l1, l2, l3] (zi a :: S) q Q := ge_x (len := 1) (x := (0, 0, [])) p_107 rfl rfl
theorem g107_1 : z_go zP 107 1 L S q Q ↔ z_go zP 107 2 L (zi 1 :: S) q Q := ge_x (len := 1) (x := (0, 0, [])) p_107 rfl rfl
theorem g107_2 : z_go zP 107 2 L S q Q ↔ z_go zP 107 4 L (zi 8 :: S) q Q := ge_x (len := 2) (x := (0, 0, [])) p_107 rfl rfl
theorem g107_4 : z_go zP 107 4 L [zi x2, zi x1, zi x0] q Q ↔ z_go zP 97 0 [some (zi x0), some (zi x1), some (zi x2)] [] q (zd 107 7 L [] Q) := (z_go_cl (len := 3) (x := (97, 2, [3])) (k1 := 97) (A := [zi x0, zi x1, zi x2]) (r := []) p_107 rfl rfl rfl rfl (by simp only [z_cl, List.drop]; rw [if_pos]; rfl; exact by first | exact ⟨by decide, (zwb_le (by show 0 ≤ 4; omega))⟩ | exact ⟨by decide, by show 3 ≤ 3; omega, (zwb_le (by show 0 ≤ 4; omega))⟩) p_97 (by show 3 ≤ 3; omega)).trans (ge_bk_d rfl)
theorem g107_7 (a1 : -2147483648 ≤ a) (a2 : a < 2147483648) : z_go zP 107 7 L (zi a :: S) q Q ↔ if a = 0 then z_go zP 107 44 L S q Q else z_go zP 107 10 L S q Q := ge_if_eq (len := 3) (x := (0, 0, [])) a1 a2 p_107 rfl rfl
theorem g107_7b {c : Prop} [Decidable c] : z_go zP 107 7 L (zi (bI c) :: S) q Q ↔ if c then z_go zP 107 10 L S q Q else z_go zP 107 44 L S q Q := ge_if_eq_b (len := 3) (x := (0, 0, [])) p_107 rfl rfl
theorem g107_10 : z_go zP 107 10 [l0, some (zi a), l2, l3] S q Q ↔ z_go zP 107 11 [l0, some (zi a), l2, l3] (zi a :: S) q Q := ge_x (len := 1) (x := (0, 0, [])) p_107 rfl rfl
theorem g107_11 : z_go zP 107 11 L S q Q ↔ z_go zP 107 12 L (zi 0 :: S) q Q := ge_x (len := 1) (x := (0, 0, [])) p_107 rfl rfl
theorem g107_12 : z_go zP 107 12 L S q Q ↔ z_go zP 107 14 L (zi 8 :: S) q Q := ge_x (len := 2) (x := (0, 0, [])) p_107 rfl rfl
theorem g107_14 : z_go zP 107 14 L [zi x2, zi x1, zi x0] q Q ↔ z_go zP 97 0 [some (zi x0), some (zi x1), some (zi x2)] [] q (zd 107 17 L [] Q) := (z_go_cl (len := 3) (x := (97, 2, [3])) (k1 := 97) (A := [zi x0, zi x1, zi x2]) (r := []) p_107 rfl rfl rfl rfl (by simp only [z_cl, List.drop]; rw [if_pos]; rfl; exact by first | exact ⟨by decide, (zwb_le (by show 0 ≤ 4; omega))⟩ | exact ⟨by decide, by show 3 ≤ 3; omega, (zwb_le (by show 0 ≤ 4; omega))⟩) p_97 (by show 3 ≤ 3; omega)).trans (ge_bk_d rfl)
theorem g107_17 (a1 : -2147483648 ≤ a) (a2 : a < 2147483648) : z_go zP 107 17 L (zi a :: S) q Q ↔ if a = 0 then z_go zP 107 44 L S q Q else z_go zP 107 20 L S q Q := ge_if_eq (len := 3) (x := (0, 0, [])) a1 a2 p_107 rfl rfl
theorem g107_17b {c : Prop} [Decidable c] : z_go zP 107 17 L (zi (bI c) :: S) q Q ↔ if c then z_go zP 107 20 L S q Q else z_go zP 107 44 L S q Q := ge_if_eq_b (len := 3) (x := (0, 0, [])) p_107 rfl rfl
theorem g107_20 : z_go zP 107 20 [l0, l1, some (zi a), l3] S q Q ↔ z_go zP 107 21 [l0, l1, some (zi a), l3] (zi a :: S) q Q := ge_x (len := 1) (x := (0, 0, [])) p_107 rfl rfl
theorem g107_21 : z_go zP 107 21 L S q Q ↔ z_go zP 107 22 L (zi 0 :: S) q Q := ge_x (len := 1) (x := (0, 0, [])) p_107 rfl rfl
theorem g107_22 : z_go zP 107 22 L S q Q ↔ z_go zP 107 24 L (zi 8 :: S) q Q := ge_x (len := 2) (x := (0, 0, [])) p_107 rfl rfl
theorem g107_24 : z_go zP 107 24 L [zi x2, zi x1, zi x0] q Q ↔ z_go zP 97 0 [some (zi x0), some (zi x1), some (zi x2)] [] q (zd 107 27 L [] Q) := (z_go_cl (len := 3) (x := (97, 2, [3])) (k1 := 97) (A := [zi x0, zi x1, zi x2]) (r := []) p_107 rfl rfl rfl rfl (by simp only [z_cl, List.drop]; rw [if_pos]; rfl; exact by first | exact ⟨by decide, (zwb_le (by show 0 ≤ 4; omega))⟩ | exact ⟨by decide, by show 3 ≤ 3; omega, (zwb_le (by show 0 ≤ 4; omega))⟩) p_97 (by show 3 ≤ 3; omega)).trans (ge_bk_d rfl)
theorem g107_27 (a1 : -2147483648 ≤ a) (a2 : a < 2147483648) : z_go zP 107 27 L (zi a :: S) q Q ↔ if a = 0 then z_go zP 107 44 L S q Q else z_go zP 107 30 L S q Q := ge_if_eq (len := 3) (x := (0, 0, [])) a1 a2 p_107 rfl rfl
theorem g107_27b {c : Prop} [Decidable c] : z_go zP 107 27 L (zi (bI c) :: S) q Q ↔ if c then z_go zP 107 30 L S q Q else z_go zP 107 44 L S q Q := ge_if_eq_b (len := 3) (x := (0, 0, [])) p_107 rfl rfl
theorem g107_30 : z_go zP 107 30 [l0, l1, l2, some (zi a)] S q Q ↔ z_go zP 107 31 [l0, l1, l2, some (zi a)] (zi a :: S) q Q := ge_x (len := 1) (x := (0, 0, [])) p_107 rfl rfl
theorem g107_31 : z_go zP 107 31 L S q Q ↔ z_go zP 107 32 L (zi 0 :: S) q Q := ge_x (len := 1) (x := (0, 0, [])) p_107 rfl rfl
theorem g107_32 : z_go zP 107 32 L S q Q ↔ z_go zP 107 34 L (zi 8 :: S) q Q := ge_x (len := 2) (x := (0, 0, [])) p_107 rfl rfl
theorem g107_34 : z_go zP 107 34 L [zi x2, zi x1, zi x0] q Q ↔ z_go zP 97 0 [some (zi x0), some (zi x1), some (zi x2)] [] q (zd 107 37 L [] Q) := (z_go_cl (len := 3) (x := (97, 2, [3])) (k1 := 97) (A := [zi x0, zi x1, zi x2]) (r := []) p_107 rfl rfl rfl rfl (by simp only [z_cl, List.drop]; rw [if_pos]; rfl; exact by first | exact ⟨by decide, (zwb_le (by show 0 ≤ 4; omega))⟩ | exact ⟨by decide, by show 3 ≤ 3; omega, (zwb_le (by show 0 ≤ 4; omega))⟩) p_97 (by show 3 ≤ 3; omega)).trans (ge_bk_d rfl)
theorem g107_37 (a1 : -2147483648 ≤ a) (a2 : a < 2147483648) : z_go zP 107 37 L (zi a :: S) q Q ↔ if a = 0 then z_go zP 107 44 L S q Q else z_go zP 107 40 L S q Q := ge_if_eq (len := 3) (x := (0, 0, [])) a1 a2 p_107 rfl rfl
theorem g107_37b {c : Prop} [Decidable c] : z_go zP 107 37 L (zi (bI c) :: S) q Q ↔ if c then z_go zP 107 40 L S q Q else z_go zP 107 44 L S q Q := ge_if_eq_b (len := 3) (x := (0, 0, [])) p_107 rfl rfl
theorem g107_40 : z_go zP 107 40 L S q Q ↔ z_go zP 107 41 L (zi 1 :: S) q Q := ge_x (len := 1) (x := (0, 0, [])) p_107 rfl rfl
theorem g107_41 : z_go zP 107 41 L S q Q ↔ z_go zP 107 45 L S q Q := ge_to (len := 3) (x := (0, 0, [])) p_107 rfl rfl rfl
theorem g107_44 : z_go zP 107 44 L S q Q ↔ z_go zP 107 45 L (zi 0 :: S) q Q := ge_x (len := 1) (x := (0, 0, [])) p_107 rfl rfl
theorem g107_45_0 : z_go zP 107 45 L [zi 0] q Q ↔ Q (.inl (some (zi 0))) q := z_go_rt (len := 1) (x := (0, 0, [])) p_107 rfl rfl rfl
theorem g107_45_1 : z_go zP 107 45 L [zi 1] q Q ↔ Q (.inl (some (zi 1))) q := z_go_rt (len := 1) (x := (0, 0, [])) p_107 rfl rfl rfl
theorem g107_45b {c : Prop} [Decidable c] : z_go zP 107 45 L [zi (bI c)] q Q ↔ Q (.inl (some (zi (bI c)))) q := (by rcases bI_01 (c := c) with h | h <;> rw [h] <;> exact z_go_rt (len := 1) (x := (0, 0, [])) p_107 rfl rfl rfl)
theorem g108_0 : z_go zP 108 0 [some (.ref u), l1, l2, l3, l4, l5] S q Q ↔ z_go zP 108 1 [some (.ref u), l1, l2, l3, l4, l5] (.ref u :: S) q Q := ge_x (len := 1) (x := (0, 0, [])) p_108 rfl rfl
theorem g108_1 : z_go zP 108 1 L (.ref u :: S) q Q ↔ ∃ v, z_get [9] 9 q.1 u = some v ∧ z_go zP 108 4 L (v :: S) q Q := ge_getf (len := 3) (x := (9, 0, [9])) p_108 rfl
theorem g108_4 : z_go zP 108 4 [l0, some (zi a), l2, l3, l4, l5] S q Q ↔ z_go zP 108 5 [l0, some (zi a), l2, l3, l4, l5] (zi a :: S) q Q := ge_x (len := 1) (x := (0, 0, [])) p_108 rfl rfl
theorem g108_5 : z_go zP 108 5 [l0, l1, some (zi a), l3, l4, l5] S q Q ↔ z_go zP 108 6 [l0, l1, some (zi a), l3, l4, l5] (zi a :: S) q Q := ge_x (len := 1) (x := (0, 0, [])) p_108 rfl rfl
theorem g108_6 : z_go zP 108 6 L (zi b :: zi a :: .ref u :: S) q Q ↔ ∃ q1, z_st 100 q u (Int32.ofInt a) (zi b) = some q1 ∧ z_go zP 108 7 L S q1 Q := ge_iast (len := 1) (x := (0, 0, [])) p_108 rfl
theorem g108_7 : z_go zP 108 7 [some (.ref u), l1, l2, l3, l4, l5] S q Q ↔ z_go zP 108 8 [some (.ref u), l1, l2, l3, l4, l5] (.ref u :: S) q Q := ge_x (len := 1) (x := (0, 0, [])) p_108 rfl rfl
theorem g108_8 : z_go zP 108 8 L (.ref u :: S) q Q ↔ ∃ v, z_get [9] 10 q.1 u = some v ∧ z_go zP 108 11 L (v :: S) q Q := ge_getf (len := 3) (x := (10, 0, [9])) p_108 rfl
theorem g108_11 : z_go zP 108 11 [l0, some (zi a), l2, l3, l4, l5] S q Q ↔ z_go zP 108 12 [l0, some (zi a), l2, l3, l4, l5] (zi a :: S) q Q := ge_x (len := 1) (x := (0, 0, [])) p_108 rfl rfl
theorem g108_12 : z_go zP 108 12 [l0, l1, l2, some (zi a), l4, l5] S q Q ↔ z_go zP 108 13 [l0, l1, l2, some (zi a), l4, l5] (zi a :: S) q Q := ge_x (len := 1) (x := (0, 0, [])) p_108 rfl rfl
theorem g108_13 : z_go zP 108 13 L (zi b :: zi a :: .ref u :: S) q Q ↔ ∃ q1, z_st 100 q u (Int32.ofInt a) (zi b) = some q1 ∧ z_go zP 108 14 L S q1 Q := ge_iast (len := 1) (x := (0, 0, [])) p_108 rfl
theorem g108_14 : z_go zP 108 14 [some (.ref u), l1, l2, l3, l4, l5] S q Q ↔ z_go zP 108 15 [some (.ref u), l1, l2, l3, l4, l5] (.ref u :: S) q Q := ge_x (len := 1) (x := (0, 0, [])) p_108 rfl rfl
theorem g108_15 : z_go zP 108 15 L (.ref u :: S) q Q ↔ ∃ v, z_get [9] 11 q.1 u = some v ∧ z_go zP 108 18 L (v :: S) q Q := ge_getf (len := 3) (x := (11, 0, [9])) p_108 rfl
theorem g108_18 : z_go zP 108 18 [l0, some (zi a), l2, l3, l4, l5] S q Q ↔ z_go zP 108 19 [l0, some (zi a), l2, l3, l4, l5] (zi a :: S) q Q := ge_x (len := 1) (x := (0, 0, [])) p_108 rfl rfl
theorem g108_19 : z_go zP 108 19 [l0, l1, l2, l3, some (zi a), l5] S q Q ↔ z_go zP 108 21 [l0, l1, l2, l3, some (zi a), l5] (zi a :: S) q Q := ge_x (len := 2) (x := (0, 0, [])) p_108 rfl rfl
theorem g108_21 : z_go zP 108 21 L (zi b :: zi a :: .ref u :: S) q Q ↔ ∃ q1, z_st 100 q u (Int32.ofInt a) (zi b) = some q1 ∧ z_go zP 108 22 L S q1 Q := ge_iast (len := 1) (x := (0, 0, [])) p_108 rfl
theorem g108_22 : z_go zP 108 22 [some (.ref u), l1, l2, l3, l4, l5] S q Q ↔ z_go zP 108 23 [some (.ref u), l1, l2, l3, l4, l5] (.ref u :: S) q Q := ge_x (len := 1) (x := (0, 0, [])) p_108 rfl rfl
theorem g108_23 : z_go zP 108 23 L (.ref u :: S) q Q ↔ ∃ v, z_get [9] 12 q.1 u = some v ∧ z_go zP 108 26 L (v :: S) q Q := ge_getf (len := 3) (x := (12, 0, [9])) p_108 rfl
theorem g108_26 : z_go zP 108 26 [l0, some (zi a), l2, l3, l4, l5] S q Q ↔ z_go zP 108 27 [l0, some (zi a), l2, l3, l4, l5] (zi a :: S) q Q := ge_x (len := 1) (x := (0, 0, [])) p_108 rfl rfl
theorem g108_27 : z_go zP 108 27 [l0, l1, l2, l3, l4, some (zi a)] S q Q ↔ z_go zP 108 29 [l0, l1, l2, l3, l4, some (zi a)] (zi a :: S) q Q := ge_x (len := 2) (x := (0, 0, [])) p_108 rfl rfl
theorem g108_29 : z_go zP 108 29 L (zi b :: zi a :: .ref u :: S) q Q ↔ ∃ q1, z_st 100 q u (Int32.ofInt a) (zi b) = some q1 ∧ z_go zP 108 30 L S q1 Q := ge_iast (len := 1) (x := (0, 0, [])) p_108 rfl
theorem g108_30 : z_go zP 108 30 L [] q Q ↔ Q (.inl none) q := z_go_rt (len := 1) (x := (0, 0, [])) p_108 rfl rfl rfl
theorem g109_0 : z_go zP 109 0 [some (.ref u), l1, l2, l3, l4, l5] S q Q ↔ z_go zP 109 1 [some (.ref u), l1, l2, l3, l4, l5] (.ref u :: S) q Q := ge_x (len := 1) (x := (0, 0, [])) p_109 rfl rfl
theorem g109_1 : z_go zP 109 1 [l0, some (zi a), l2, l3, l4, l5] S q Q ↔ z_go zP 109 2 [l0, some (zi a), l2, l3, l4, l5] (zi a :: S) q Q := ge_x (len := 1) (x := (0, 0, [])) p_109 rfl rfl
theorem g109_2 : z_go zP 109 2 L S q Q ↔ z_go zP 109 3 L (zi 1 :: S) q Q := ge_x (len := 1) (x := (0, 0, [])) p_109 rfl rfl
theorem g109_3 : z_go zP 109 3 L S q Q ↔ z_go zP 109 4 L (zi 1 :: S) q Q := ge_x (len := 1) (x := (0, 0, [])) p_109 rfl rfl
theorem g109_4 : z_go zP 109 4 L [zi x2, zi x1, zi x0, .ref u] q Q ↔ z_tg q.1 u = some 9 ∧ z_go zP 100 0 [some (.ref u), some (zi x0), some (zi x1), some (zi x2), none] [] q (zc 109 7 L [] Q) := ge_vc (len := 3) (pc := 4) (S := [zi x2, zi x1, zi x0, .ref u]) (u := u) (k1 := 100) (A := [.ref u, zi x0, zi x1, zi x2]) (r := []) (tag := 9) (n0 := 3) (zwb_le (by show 0 ≤ 4; omega)) p_109 rfl rfl rfl p_100 (by show 4 ≤ 5; omega) rfl
theorem g109_7 (a1 : -2147483648 ≤ a) (a2 : a < 2147483648) : z_go zP 109 7 L (zi a :: S) q Q ↔ if ¬ a = 0 then z_go zP 109 12 L S q Q else z_go zP 109 10 L S q Q := ge_if_ne (len := 3) (x := (0, 0, [])) a1 a2 p_109 rfl rfl
theorem g109_7b {c : Prop} [Decidable c] : z_go zP 109 7 L (zi (bI c) :: S) q Q ↔ if c then z_go zP 109 12 L S q Q else z_go zP 109 10 L S q Q := ge_if_ne_b (len := 3) (x := (0, 0, [])) p_109 rfl rfl
theorem g109_10 : z_go zP 109 10 L S q Q ↔ z_go zP 109 11 L (zi 0 :: S) q Q := ge_x (len := 1) (x := (0, 0, [])) p_109 rfl rfl
theorem g109_11 : z_go zP 109 11 L [zi a] q Q ↔ Q (.inl (some (zi a))) q := ge_rti (len := 1) (x := (0, 0, [])) p_109 rfl rfl
theorem g109_12 : z_go zP 109 12 [l0, l1, some (zi a), l3, l4, l5] S q Q ↔ z_go zP 109 13 [l0, l1, some (zi a), l3, l4, l5] (zi a :: S) q Q := ge_x (len := 1) (x := (0, 0, [])) p_109 rfl rfl
theorem g109_13 : z_go zP 109 13 [l0, l1, l2, some (zi a), l4, l5] S q Q ↔ z_go zP 109 14 [l0, l1, l2, some (zi a), l4, l5] (zi a :: S) q Q := ge_x (len := 1) (x := (0, 0, [])) p_109 rfl rfl
theorem g109_14 : z_go zP 109 14 [l0, l1, l2, l3, some (zi a), l5] S q Q ↔ z_go zP 109 16 [l0, l1, l2, l3, some (zi a), l5] (zi a :: S) q Q := ge_x (len := 2) (x := (0, 0, [])) p_109 rfl rfl
theorem g109_16 : z_go zP 109 16 [l0, l1, l2, l3, l4, some (zi a)] S q Q ↔ z_go zP 109 18 [l0, l1, l2, l3, l4, some (zi a)] (zi a :: S) q Q := ge_x (len := 2) (x := (0, 0, [])) p_109 rfl rfl
theorem g109_18 : z_go zP 109 18 L [zi x3, zi x2, zi x1, zi x0] q Q ↔ z_go zP 107 0 [some (zi x0), some (zi x1), some (zi x2), some (zi x3)] [] q (zd 109 21 L [] Q) := (z_go_cl (len := 3) (x := (107, 2, [4])) (k1 := 107) (A := [zi x0, zi x1, zi x2, zi x3]) (r := []) p_109 rfl rfl rfl rfl (by simp only [z_cl, List.drop]; rw [if_pos]; rfl; exact by first | exact ⟨by decide, (zwb_le (by show 0 ≤ 4; omega))⟩ | exact ⟨by decide, by show 4 ≤ 4; omega, (zwb_le (by show 0 ≤ 4; omega))⟩) p_107 (by show 4 ≤ 4; omega)).trans (ge_bk_d rfl)
theorem g109_21 (a1 : -2147483648 ≤ a) (a2 : a < 2147483648) : z_go zP 109 21 L (zi a :: S) q Q ↔ if ¬ a = 0 then z_go zP 109 30 L S q Q else z_go zP 109 24 L S q Q := ge_if_ne (len := 3) (x := (0, 0, [])) a1 a2 p_109 rfl rfl
theorem g109_21b {c : Prop} [Decidable c] : z_go zP 109 21 L (zi (bI c) :: S) q Q ↔ if c then z_go zP 109 30 L S q Q else z_go zP 109 24 L S q Q := ge_if_ne_b (len := 3) (x := (0, 0, [])) p_109 rfl rfl
theorem g109_24 : z_go zP 109 24 [some (.ref u), l1, l2, l3, l4, l5] S q Q ↔ z_go zP 109 25 [some (.ref u), l1, l2, l3, l4, l5] (.ref u :: S) q Q := ge_x (len := 1) (x := (0, 0, [])) p_109 rfl rfl
theorem g109_25 : z_go zP 109 25 L S q Q ↔ z_go zP 109 26 L (zi 2 :: S) q Q := ge_x (len := 1) (x := (0, 0, [])) p_109 rfl rfl
theorem g109_26 : z_go zP 109 26 L [zi x0, .ref u] q Q ↔ z_tg q.1 u = some 9 ∧ z_go zP 96 0 [some (.ref u), some (zi x0)] [] q (zc 109 29 L [] Q) := ge_vc (len := 3) (pc := 26) (S := [zi x0, .ref u]) (u := u) (k1 := 96) (A := [.ref u, zi x0]) (r := []) (tag := 9) (n0 := 1) (zwb_le (by show 0 ≤ 4; omega)) p_109 rfl rfl rfl p_96 (by show 2 ≤ 2; omega) rfl
theorem g109_29 : z_go zP 109 29 L [zi a] q Q ↔ Q (.inl (some (zi a))) q := ge_rti (len := 1) (x := (0, 0, [])) p_109 rfl rfl
theorem g109_30 : z_go zP 109 30 [some (.ref u), l1, l2, l3, l4, l5] S q Q ↔ z_go zP 109 31 [some (.ref u), l1, l2, l3, l4, l5] (.ref u :: S) q Q := ge_x (len := 1) (x := (0, 0, [])) p_109 rfl rfl
theorem g109_31 : z_go zP 109 31 L S q Q ↔ z_go zP 109 32 L (zi 1 :: S) q Q := ge_x (len := 1) (x := (0, 0, [])) p_109 rfl rfl
theorem g109_32 : z_go zP 109 32 L [zi x0, .ref u] q Q ↔ z_tg q.1 u = some 9 ∧ z_go zP 103 0 [some (.ref u), some (zi x0)] [] q (zc 109 35 L [] Q) := ge_vc (len := 3) (pc := 32) (S := [zi x0, .ref u]) (u := u) (k1 := 103) (A := [.ref u, zi x0]) (r := []) (tag := 9) (n0 := 1) (zwb_le (by show 0 ≤ 4; omega)) p_109 rfl rfl rfl p_103 (by show 2 ≤ 2; omega) rfl
theorem g109_35 (a1 : -2147483648 ≤ a) (a2 : a < 2147483648) : z_go zP 109 35 L (zi a :: S) q Q ↔ if a = 0 then z_go zP 109 40 L S q Q else z_go zP 109 38 L S q Q := ge_if_eq (len := 3) (x := (0, 0, [])) a1 a2 p_109 rfl rfl
theorem g109_35b {c : Prop} [Decidable c] : z_go zP 109 35 L (zi (bI c) :: S) q Q ↔ if c then z_go zP 109 38 L S q Q else z_go zP 109 40 L S q Q := ge_if_eq_b (len := 3) (x := (0, 0, [])) p_109 rfl rfl
theorem g109_38 : z_go zP 109 38 L S q Q ↔ z_go zP 109 39 L (zi 0 :: S) q Q := ge_x (len := 1) (x := (0, 0, [])) p_109 rfl rfl
theorem g109_39 : z_go zP 109 39 L [zi a] q Q ↔ Q (.inl (some (zi a))) q := ge_rti (len := 1) (x := (0, 0, [])) p_109 rfl rfl
theorem g109_40 : z_go zP 109 40 [some (.ref u), l1, l2, l3, l4, l5] S q Q ↔ z_go zP 109 41 [some (.ref u), l1, l2, l3, l4, l5] (.ref u :: S) q Q := ge_x (len := 1) (x := (0, 0, [])) p_109 rfl rfl
theorem g109_41 : z_go zP 109 41 [some (.ref u), l1, l2, l3, l4, l5] S q Q ↔ z_go zP 109 42 [some (.ref u), l1, l2, l3, l4, l5] (.ref u :: S) q Q := ge_x (len := 1) (x := (0, 0, [])) p_109 rfl rfl
theorem g109_42 : z_go zP 109 42 L S q Q ↔ z_go zP 109 43 L (zi 4 :: S) q Q := ge_x (len := 1) (x := (0, 0, [])) p_109 rfl rfl
theorem g109_43 : z_go zP 109 43 [l0, some (zi a), l2, l3, l4, l5] S q Q ↔ z_go zP 109 44 [l0, some (zi a), l2, l3, l4, l5] (zi a :: S) q Q := ge_x (len := 1) (x := (0, 0, [])) p_109 rfl rfl
theorem g109_44 : z_go zP 109 44 L S q Q ↔ z_go zP 109 45 L (zi 0 :: S) q Q := ge_x (len := 1) (x := (0, 0, [])) p_109 rfl rfl
theorem g109_45 : z_go zP 109 45 L [zi x2, zi x1, zi x0, .ref u, r0] q Q ↔ z_tg q.1 u = some 9 ∧ z_go zP 102 0 [some (.ref u), some (zi x0), some (zi x1), some (zi x2)] [] q (zc 109 48 L [r0] Q) := ge_vc (len := 3) (pc := 45) (S := [zi x2, zi x1, zi x0, .ref u, r0]) (u := u) (k1 := 102) (A := [.ref u, zi x0, zi x1, zi x2]) (r := [r0]) (tag := 9) (n0 := 3) (zwb_le (by show 1 ≤ 4; omega)) p_109 rfl rfl rfl p_102 (by show 4 ≤ 4; omega) rfl
theorem g109_48 : z_go zP 109 48 [l0, l1, some (zi a), l3, l4, l5] S q Q ↔ z_go zP 109 49 [l0, l1, some (zi a), l3, l4, l5] (zi a :: S) q Q := ge_x (len := 1) (x := (0, 0, [])) p_109 rfl rfl
theorem g109_49 : z_go zP 109 49 [l0, l1, l2, some (zi a), l4, l5] S q Q ↔ z_go zP 109 50 [l0, l1, l2, some (zi a), l4, l5] (zi a :: S) q Q := ge_x (len := 1) (x := (0, 0, [])) p_109 rfl rfl
theorem g109_50 : z_go zP 109 50 [l0, l1, l2, l3, some (zi a), l5] S q Q ↔ z_go zP 109 52 [l0, l1, l2, l3, some (zi a), l5] (zi a :: S) q Q := ge_x (len := 2) (x := (0, 0, [])) p_109 rfl rfl
theorem g109_52 : z_go zP 109 52 [l0, l1, l2, l3, l4, some (zi a)] S q Q ↔ z_go zP 109 54 [l0, l1, l2, l3, l4, some (zi a)] (zi a :: S) q Q := ge_x (len := 2) (x := (0, 0, [])) p_109 rfl rfl
theorem g109_54 : z_go zP 109 54 L [zi x4, zi x3, zi x2, zi x1, zi x0, .ref u] q Q ↔ z_tg q.1 u = some 9 ∧ z_go zP 108 0 [some (.ref u), some (zi x0), some (zi x1), some (zi x2), some (zi x3), some (zi x4)] [] q (zc 109 57 L [] Q) := ge_vc (len := 3) (pc := 54) (S := [zi x4, zi x3, zi x2, zi x1, zi x0, .ref u]) (u := u) (k1 := 108) (A := [.ref u, zi x0, zi x1, zi x2, zi x3, zi x4]) (r := []) (tag := 9) (n0 := 5) (zwb_le (by show 0 ≤ 4; omega)) p_109 rfl rfl rfl p_108 (by show 6 ≤ 6; omega) rfl
theorem g109_57 : z_go zP 109 57 [some (.ref u), l1, l2, l3, l4, l5] S q Q ↔ z_go zP 109 58 [some (.ref u), l1, l2, l3, l4, l5] (.ref u :: S) q Q := ge_x (len := 1) (x := (0, 0, [])) p_109 rfl rfl
theorem g109_58 : z_go zP 109 58 L (.ref u :: S) q Q ↔ ∃ v, z_get [9] 2 q.1 u = some v ∧ z_go zP 109 61 L (v :: S) q Q := ge_getf (len := 3) (x := (2, 0, [9])) p_109 rfl
theorem g109_61 : z_go zP 109 61 L [zi a] q Q ↔ Q (.inl (some (zi a))) q := ge_rti (len := 1) (x := (0, 0, [])) p_109 rfl rfl
theorem g110_0 : z_go zP 110 0 [some (.ref u), l1, l2, l3, l4, l5, l6] S q Q ↔ z_go zP 110 1 [some (.ref u), l1, l2, l3, l4, l5, l6] (.ref u :: S) q Q := ge_x (len := 1) (x := (0, 0, [])) p_110 rfl rfl
theorem g110_1 : z_go zP 110 1 [l0, some (zi a), l2, l3, l4, l5, l6] S q Q ↔ z_go zP 110 2 [l0, some (zi a), l2, l3, l4, l5, l6] (zi a :: S) q Q := ge_x (len := 1) (x := (0, 0, [])) p_110 rfl rfl
theorem g110_2 : z_go zP 110 2 L S q Q ↔ z_go zP 110 3 L (zi 4 :: S) q Q := ge_x (len := 1) (x := (0, 0, [])) p_110 rfl rfl
theorem g110_3 : z_go zP 110 3 L S q Q ↔ z_go zP 110 4 L (zi 1 :: S) q Q := ge_x (len := 1) (x := (0, 0, [])) p_110 rfl rfl
theorem g110_4 : z_go zP 110 4 L [zi x2, zi x1, zi x0, .ref u] q Q ↔ z_tg q.1 u = some 9 ∧ z_go zP 100 0 [some (.ref u), some (zi x0), some (zi x1), some (zi x2), none] [] q (zc 110 7 L [] Q) := ge_vc (len := 3) (pc := 4) (S := [zi x2, zi x1, zi x0, .ref u]) (u := u) (k1 := 100) (A := [.ref u, zi x0, zi x1, zi x2]) (r := []) (tag := 9) (n0 := 3) (zwb_le (by show 0 ≤ 4; omega)) p_110 rfl rfl rfl p_100 (by show 4 ≤ 5; omega) rfl
theorem g110_7 (a1 : -2147483648 ≤ a) (a2 : a < 2147483648) : z_go zP 110 7 L (zi a :: S) q Q ↔ if ¬ a = 0 then z_go zP 110 12 L S q Q else z_go zP 110 10 L S q Q := ge_if_ne (len := 3) (x := (0, 0, [])) a1 a2 p_110 rfl rfl
theorem g110_7b {c : Prop} [Decidable c] : z_go zP 110 7 L (zi (bI c) :: S) q Q ↔ if c then z_go zP 110 12 L S q Q else z_go zP 110 10 L S q Q := ge_if_ne_b (len := 3) (x := (0, 0, [])) p_110 rfl rfl
theorem g110_10 : z_go zP 110 10 L S q Q ↔ z_go zP 110 11 L (zi 0 :: S) q Q := ge_x (len := 1) (x := (0, 0, [])) p_110 rfl rfl
theorem g110_11 : z_go zP 110 11 L [zi a] q Q ↔ Q (.inl (some (zi a))) q := ge_rti (len := 1) (x := (0, 0, [])) p_110 rfl rfl
theorem g110_12 : z_go zP 110 12 [some (.ref u), l1, l2, l3, l4, l5, l6] S q Q ↔ z_go zP 110 13 [some (.ref u), l1, l2, l3, l4, l5, l6] (.ref u :: S) q Q := ge_x (len := 1) (x := (0, 0, [])) p_110 rfl rfl
theorem g110_13 : z_go zP 110 13 [l0, some (zi a), l2, l3, l4, l5, l6] S q Q ↔ z_go zP 110 14 [l0, some (zi a), l2, l3, l4, l5, l6] (zi a :: S) q Q := ge_x (len := 1) (x := (0, 0, [])) p_110 rfl rfl
theorem g110_14 : z_go zP 110 14 L [zi x0, .ref u] q Q ↔ z_tg q.1 u = some 9 ∧ z_go zP 101 0 [some (.ref u), some (zi x0), none, none, none] [] q (zc 110 17 L [] Q) := ge_vc (len := 3) (pc := 14) (S := [zi x0, .ref u]) (u := u) (k1 := 101) (A := [.ref u, zi x0]) (r := []) (tag := 9) (n0 := 1) (zwb_le (by show 0 ≤ 4; omega)) p_110 rfl rfl rfl p_101 (by show 2 ≤ 5; omega) rfl
theorem g110_17 (a1 : -2147483648 ≤ a) (a2 : a < 2147483648) : z_go zP 110 17 L (zi a :: S) q Q ↔ if a = 0 then z_go zP 110 27 L S q Q else z_go zP 110 20 L S q Q := ge_if_eq (len := 3) (x := (0, 0, [])) a1 a2 p_110 rfl rfl
theorem g110_17b {c : Prop} [Decidable c] : z_go zP 110 17 L (zi (bI c) :: S) q Q ↔ if c then z_go zP 110 20 L S q Q else z_go zP 110 27 L S q Q := ge_if_eq_b (len := 3) (x := (0, 0, [])) p_110 rfl rfl
theorem g110_20 : z_go zP 110 20 [some (.ref u), l1, l2, l3, l4, l5, l6] S q Q ↔ z_go zP 110 21 [some (.ref u), l1, l2, l3, l4, l5, l6] (.ref u :: S) q Q := ge_x (len := 1) (x := (0, 0, [])) p_110 rfl rfl
theorem g110_21 : z_go zP 110 21 L S q Q ↔ z_go zP 110 22 L (zi 3 :: S) q Q := ge_x (len := 1) (x := (0, 0, [])) p_110 rfl rfl
theorem g110_22 : z_go zP 110 22 L S q Q ↔ z_go zP 110 23 L (zi 1 :: S) q Q := ge_x (len := 1) (x := (0, 0, [])) p_110 rfl rfl
theorem g110_23 : z_go zP 110 23 L [zi x1, zi x0, .ref u] q Q ↔ z_tg q.1 u = some 9 ∧ z_go zP 98 0 [some (.ref u), some (zi x0), some (zi x1)] [] q (zc 110 26 L [] Q) := ge_vc (len := 3) (pc := 23) (S := [zi x1, zi x0, .ref u]) (u := u) (k1 := 98) (A := [.ref u, zi x0, zi x1]) (r := []) (tag := 9) (n0 := 2) (zwb_le (by show 0 ≤ 4; omega)) p_110 rfl rfl rfl p_98 (by show 3 ≤ 3; omega) rfl
theorem g110_26 : z_go zP 110 26 L [zi a] q Q ↔ Q (.inl (some (zi a))) q := ge_rti (len := 1) (x := (0, 0, [])) p_110 rfl rfl
theorem g110_27 : z_go zP 110 27 [l0, l1, some (zi a), l3, l4, l5, l6] S q Q ↔ z_go zP 110 28 [l0, l1, some (zi a), l3, l4, l5, l6] (zi a :: S) q Q := ge_x (len := 1) (x := (0, 0, [])) p_110 rfl rfl
theorem g110_28 : z_go zP 110 28 [l0, l1, l2, some (zi a), l4, l5, l6] S q Q ↔ z_go zP 110 29 [l0, l1, l2, some (zi a), l4, l5, l6] (zi a :: S) q Q := ge_x (len := 1) (x := (0, 0, [])) p_110 rfl rfl
theorem g110_29 : z_go zP 110 29 [l0, l1, l2, l3, some (zi a), l5, l6] S q Q ↔ z_go zP 110 31 [l0, l1, l2, l3, some (zi a), l5, l6] (zi a :: S) q Q := ge_x (len := 2) (x := (0, 0, [])) p_110 rfl rfl
theorem g110_31 : z_go zP 110 31 [l0, l1, l2, l3, l4, some (zi a), l6] S q Q ↔ z_go zP 110 33 [l0, l1, l2, l3, l4, some (zi a), l6] (zi a :: S) q Q := ge_x (len := 2) (x := (0, 0, [])) p_110 rfl rfl
theorem g110_33 : z_go zP 110 33 L [zi x3, zi x2, zi x1, zi x0] q Q ↔ z_go zP 107 0 [some (zi x0), some (zi x1), some (zi x2), some (zi x3)] [] q (zd 110 36 L [] Q) := (z_go_cl (len := 3) (x := (107, 2, [4])) (k1 := 107) (A := [zi x0, zi x1, zi x2, zi x3]) (r := []) p_110 rfl rfl rfl rfl (by simp only [z_cl, List.drop]; rw [if_pos]; rfl; exact by first | exact ⟨by decide, (zwb_le (by show 0 ≤ 4; omega))⟩ | exact ⟨by decide, by show 4 ≤ 4; omega, (zwb_le (by show 0 ≤ 4; omega))⟩) p_107 (by show 4 ≤ 4; omega)).trans (ge_bk_d rfl)
theorem g110_36 (a1 : -2147483648 ≤ a) (a2 : a < 2147483648) : z_go zP 110 36 L (zi a :: S) q Q ↔ if ¬ a = 0 then z_go zP 110 45 L S q Q else z_go zP 110 39 L S q Q := ge_if_ne (len := 3) (x := (0, 0, [])) a1 a2 p_110 rfl rfl
theorem g110_36b {c : Prop} [Decidable c] : z_go zP 110 36 L (zi (bI c) :: S) q Q ↔ if c then z_go zP 110 45 L S q Q else z_go zP 110 39 L S q Q := ge_if_ne_b (len := 3) (x := (0, 0, [])) p_110 rfl rfl
theorem g110_39 : z_go zP 110 39 [some (.ref u), l1, l2, l3, l4, l5, l6] S q Q ↔ z_go zP 110 40 [some (.ref u), l1, l2, l3, l4, l5, l6] (.ref u :: S) q Q := ge_x (len := 1) (x := (0, 0, [])) p_110 rfl rfl
theorem g110_40 : z_go zP 110 40 L S q Q ↔ z_go zP 110 41 L (zi 2 :: S) q Q := ge_x (len := 1) (x := (0, 0, [])) p_110 rfl rfl
theorem g110_41 : z_go zP 110 41 L [zi x0, .ref u] q Q ↔ z_tg q.1 u = some 9 ∧ z_go zP 96 0 [some (.ref u), some (zi x0)] [] q (zc 110 44 L [] Q) := ge_vc (len := 3) (pc := 41) (S := [zi x0, .ref u]) (u := u) (k1 := 96) (A := [.ref u, zi x0]) (r := []) (tag := 9) (n0 := 1) (zwb_le (by show 0 ≤ 4; omega)) p_110 rfl rfl rfl p_96 (by show 2 ≤ 2; omega) rfl
theorem g110_44 : z_go zP 110 44 L [zi a] q Q ↔ Q (.inl (some (zi a))) q := ge_rti (len := 1) (x := (0, 0, [])) p_110 rfl rfl
theorem g110_45 : z_go zP 110 45 [some (.ref u), l1, l2, l3, l4, l5, l6] S q Q ↔ z_go zP 110 46 [some (.ref u), l1, l2, l3, l4, l5, l6] (.ref u :: S) q Q := ge_x (len := 1) (x := (0, 0, [])) p_110 rfl rfl
theorem g110_46 : z_go zP 110 46 L (.ref u :: S) q Q ↔ ∃ v, z_get [9] 9 q.1 u = some v ∧ z_go zP 110 49 L (v :: S) q Q := ge_getf (len := 3) (x := (9, 0, [9])) p_110 rfl
theorem g110_49 : z_go zP 110 49 [l0, some (zi a), l2, l3, l4, l5, l6] S q Q ↔ z_go zP 110 50 [l0, some (zi a), l2, l3, l4, l5, l6] (zi a :: S) q Q := ge_x (len := 1) (x := (0, 0, [])) p_110 rfl rfl
theorem g110_50 : z_go zP 110 50 L (zi a :: .ref u :: S) q Q ↔ ∃ v, z_at [99, 100] q.1 u (Int32.ofInt a) = some v ∧ z_go zP 110 51 L (v :: S) q Q := ge_iald (len := 1) (x := (0, 0, [])) p_110 rfl
theorem g110_51 : z_go zP 110 51 [l0, l1, l2, l3, l4, l5, l6] (zi a :: S) q Q ↔ z_go zP 110 53 [l0, l1, l2, l3, l4, (zkl l5), some (zi a)] S q Q := (by cases l5 with | none => exact ge_x (len := 2) (x := (0, 0, [])) p_110 rfl rfl | some v => cases v <;> exact ge_x (len := 2) (x := (0, 0, [])) p_110 rfl rfl)
theorem g110_53 : z_go zP 110 53 [some (.ref u), l1, l2, l3, l4, l5, l6] S q Q ↔ z_go zP 110 54 [some (.ref u), l1, l2, l3, l4, l5, l6] (.ref u :: S) q Q := ge_x (len := 1) (x := (0, 0, [])) p_110 rfl rfl
theorem g110_54 : z_go zP 110 54 [l0, some (zi a), l2, l3, l4, l5, l6] S q Q ↔ z_go zP 110 55 [l0, some (zi a), l2, l3, l4, l5, l6] (zi a :: S) q Q := ge_x (len := 1) (x := (0, 0, [])) p_110 rfl rfl
theorem g110_55 : z_go zP 110 55 [l0, l1, some (zi a), l3, l4, l5, l6] S q Q ↔ z_go zP 110 56 [l0, l1, some (zi a), l3, l4, l5, l6] (zi a :: S) q Q := ge_x (len := 1) (x := (0, 0, [])) p_110 rfl rfl
theorem g110_56 : z_go zP 110 56 [l0, l1, l2, some (zi a), l4, l5, l6] S q Q ↔ z_go zP 110 57 [l0, l1, l2, some (zi a), l4, l5, l6] (zi a :: S) q Q := ge_x (len := 1) (x := (0, 0, [])) p_110 rfl rfl
theorem g110_57 : z_go zP 110 57 [l0, l1, l2, l3, some (zi a), l5, l6] S q Q ↔ z_go zP 110 59 [l0, l1, l2, l3, some (zi a), l5, l6] (zi a :: S) q Q := ge_x (len := 2) (x := (0, 0, [])) p_110 rfl rfl
theorem g110_59 : z_go zP 110 59 [l0, l1, l2, l3, l4, some (zi a), l6] S q Q ↔ z_go zP 110 61 [l0, l1, l2, l3, l4, some (zi a), l6] (zi a :: S) q Q := ge_x (len := 2) (x := (0, 0, [])) p_110 rfl rfl
theorem g110_61 : z_go zP 110 61 L [zi x4, zi x3, zi x2, zi x1, zi x0, .ref u] q Q ↔ z_tg q.1 u = some 9 ∧ z_go zP 108 0 [some (.ref u), some (zi x0), some (zi x1), some (zi x2), some (zi x3), some (zi x4)] [] q (zc 110 64 L [] Q) := ge_vc (len := 3) (pc := 61) (S := [zi x4, zi x3, zi x2, zi x1, zi x0, .ref u]) (u := u) (k1 := 108) (A := [.ref u, zi x0, zi x1, zi x2, zi x3, zi x4]) (r := []) (tag := 9) (n0 := 5) (zwb_le (by show 0 ≤ 4; omega)) p_110 rfl rfl rfl p_108 (by show 6 ≤ 6; omega) rfl
theorem g110_64 : z_go zP 110 64 [l0, l1, l2, l3, l4, l5, some (zi a)] S q Q ↔ z_go zP 110 66 [l0, l1, l2, l3, l4, l5, some (zi a)] (zi a :: S) q Q := ge_x (len := 2) (x := (0, 0, [])) p_110 rfl rfl
theorem g110_66 : z_go zP 110 66 L [zi a] q Q ↔ Q (.inl (some (zi a))) q := ge_rti (len := 1) (x := (0, 0, [])) p_110 rfl rfl
theorem g111_0 : z_go zP 111 0 L S q Q ↔ z_go zP 111 2 L (zi 12 :: S) q Q := ge_x (len := 2) (x := (0, 0, [])) p_111 rfl rfl
theorem g111_2 : z_go zP 111 2 [l0, some (zi a), l2] S q Q ↔ z_go zP 111 3 [l0, some (zi a), l2] (zi a :: S) q Q := ge_x (len := 1) (x := (0, 0, [])) p_111 rfl rfl
theorem g111_3 : z_go zP 111 3 L (zi b :: zi a :: S) q Q ↔ z_go zP 111 4 L (zi (a * b) :: S) q Q := ge_imul (len := 1) (x := (0, 0, [])) p_111 rfl
theorem g111_4 : z_go zP 111 4 [l0, l1, l2] (zi a :: S) q Q ↔ z_go zP 111 5 [l0, (zkl l1), some (zi a)] S q Q := (by cases l1 with | none => exact ge_x (len := 1) (x := (0, 0, [])) p_111 rfl rfl | some v => cases v <;> exact ge_x (len := 1) (x := (0, 0, [])) p_111 rfl rfl)
theorem g111_5 : z_go zP 111 5 [l0, l1, some (zi a)] S q Q ↔ z_go zP 111 6 [l0, l1, some (zi a)] (zi a :: S) q Q := ge_x (len := 1) (x := (0, 0, [])) p_111 rfl rfl
theorem g111_6 : z_go zP 111 6 L S q Q ↔ z_go zP 111 8 L (zi 12 :: S) q Q := ge_x (len := 2) (x := (0, 0, [])) p_111 rfl rfl
theorem g111_8 : z_go zP 111 8 [l0, some (zi a), l2] S q Q ↔ z_go zP 111 9 [l0, some (zi a), l2] (zi a :: S) q Q := ge_x (len := 1) (x := (0, 0, [])) p_111 rfl rfl
theorem g111_9 : z_go zP 111 9 L (zi b :: zi a :: S) q Q ↔ z_go zP 111 10 L (zi (a * b) :: S) q Q := ge_imul (len := 1) (x := (0, 0, [])) p_111 rfl
theorem g111_10 : z_go zP 111 10 L S q Q ↔ z_go zP 111 12 L (zi 12 :: S) q Q := ge_x (len := 2) (x := (0, 0, [])) p_111 rfl rfl
theorem g111_12 : z_go zP 111 12 L (zi b :: zi a :: S) q Q ↔ z_go zP 111 13 L (zi (a + b) :: S) q Q := ge_iadd (len := 1) (x := (0, 0, [])) p_111 rfl
theorem g111_13 (a1 : -2147483648 ≤ a) (a2 : a < 2147483648) (b1 : -2147483648 ≤ b) (b2 : b < 2147483648) : z_go zP 111 13 L (zi b :: zi a :: S) q Q ↔ if b ≤ a then z_go zP 111 29 L S q Q else z_go zP 111 16 L S q Q := ge_ic_ge (len := 3) (x := (0, 0, [])) a1 a2 b1 b2 p_111 rfl rfl
theorem g111_16 : z_go zP 111 16 [some (.ref u), l1, l2] S q Q ↔ z_go zP 111 17 [some (.ref u), l1, l2] (.ref u :: S) q Q := ge_x (len := 1) (x := (0, 0, [])) p_111 rfl rfl
theorem g111_17 : z_go zP 111 17 L (.ref u :: S) q Q ↔ ∃ v, z_get [9] 19 q.1 u = some v ∧ z_go zP 111 20 L (v :: S) q Q := ge_getf (len := 3) (x := (19, 0, [9])) p_111 rfl
theorem g111_20 : z_go zP 111 20 [l0, l1, some (zi a)] S q Q ↔ z_go zP 111 21 [l0, l1, some (zi a)] (zi a :: S) q Q := ge_x (len := 1) (x := (0, 0, [])) p_111 rfl rfl
theorem g111_21 : z_go zP 111 21 L S q Q ↔ z_go zP 111 22 L (zl 0 :: S) q Q := ge_x (len := 1) (x := (0, 0, [])) p_111 rfl rfl
theorem g111_22 : z_go zP 111 22 L (zl b :: zi a :: .ref u :: S) q Q ↔ ∃ q1, z_st 101 q u (Int32.ofInt a) (zl b) = some q1 ∧ z_go zP 111 23 L S q1 Q := ge_last (len := 1) (x := (0, 0, [])) p_111 rfl
theorem g111_23 : z_go zP 111 23 [l0, l1, some (zi a)] S q Q ↔ z_go zP 111 26 [l0, (zkl l1), some (zi (a + 1))] S q Q := (by unfold zi; rw [Int32.ofInt_add]; cases l1 with | none => exact ge_x (len := 3) (x := (0, 0, [])) p_111 rfl rfl | some v => cases v <;> exact ge_x (len := 3) (x := (0, 0, [])) p_111 rfl rfl)
theorem g111_26 : z_go zP 111 26 L S q Q ↔ z_go zP 111 5 L S q Q := ge_to (len := 3) (x := (0, 0, [])) p_111 rfl rfl rfl
theorem g111_29 : z_go zP 111 29 [some (.ref u), l1, l2] S q Q ↔ z_go zP 111 30 [some (.ref u), l1, l2] (.ref u :: S) q Q := ge_x (len := 1) (x := (0, 0, [])) p_111 rfl rfl
theorem g111_30 : z_go zP 111 30 L (.ref u :: S) q Q ↔ ∃ v, z_get [9] 20 q.1 u = some v ∧ z_go zP 111 33 L (v :: S) q Q := ge_getf (len := 3) (x := (20, 0, [9])) p_111 rfl
theorem g111_33 : z_go zP 111 33 [l0, some (zi a), l2] S q Q ↔ z_go zP 111 34 [l0, some (zi a), l2] (zi a :: S) q Q := ge_x (len := 1) (x := (0, 0, [])) p_111 rfl rfl
theorem g111_34 : z_go zP 111 34 L S q Q ↔ z_go zP 111 35 L (zi 0 :: S) q Q := ge_x (len := 1) (x := (0, 0, [])) p_111 rfl rfl
theorem g111_35 : z_go zP 111 35 L (zi b :: zi a :: .ref u :: S) q Q ↔ ∃ q1, z_st 100 q u (Int32.ofInt a) (zi b) = some q1 ∧ z_go zP 111 36 L S q1 Q := ge_iast (len := 1) (x := (0, 0, [])) p_111 rfl
theorem g111_36 : z_go zP 111 36 [some (.ref u), l1, l2] S q Q ↔ z_go zP 111 37 [some (.ref u), l1, l2] (.ref u :: S) q Q := ge_x (len := 1) (x := (0, 0, [])) p_111 rfl rfl
theorem g111_37 : z_go zP 111 37 L (.ref u :: S) q Q ↔ ∃ v, z_get [9] 21 q.1 u = some v ∧ z_go zP 111 40 L (v :: S) q Q := ge_getf (len := 3) (x := (21, 0, [9])) p_111 rfl
theorem g111_40 : z_go zP 111 40 [l0, some (zi a), l2] S q Q ↔ z_go zP 111 41 [l0, some (zi a), l2] (zi a :: S) q Q := ge_x (len := 1) (x := (0, 0, [])) p_111 rfl rfl
theorem g111_41 : z_go zP 111 41 L S q Q ↔ z_go zP 111 42 L (zi 0 :: S) q Q := ge_x (len := 1) (x := (0, 0, [])) p_111 rfl rfl
theorem g111_42 : z_go zP 111 42 L (zi b :: zi a :: .ref u :: S) q Q ↔ ∃ q1, z_st 100 q u (Int32.ofInt a) (zi b) = some q1 ∧ z_go zP 111 43 L S q1 Q := ge_iast (len := 1) (x := (0, 0, [])) p_111 rfl
theorem g111_43 : z_go zP 111 43 [some (.ref u), l1, l2] S q Q ↔ z_go zP 111 44 [some (.ref u), l1, l2] (.ref u :: S) q Q := ge_x (len := 1) (x := (0, 0, [])) p_111 rfl rfl
theorem g111_44 : z_go zP 111 44 L (.ref u :: S) q Q ↔ ∃ v, z_get [9] 22 q.1 u = some v ∧ z_go zP 111 47 L (v :: S) q Q := ge_getf (len := 3) (x := (22, 0, [9])) p_111 rfl
theorem g111_47 : z_go zP 111 47 [l0, some (zi a), l2] S q Q ↔ z_go zP 111 48 [l0, some (zi a), l2] (zi a :: S) q Q := ge_x (len := 1) (x := (0, 0, [])) p_111 rfl rfl
theorem g111_48 : z_go zP 111 48 L S q Q ↔ z_go zP 111 49 L (zi 0 :: S) q Q := ge_x (len := 1) (x := (0, 0, [])) p_111 rfl rfl
theorem g111_49 (hb : b = 0 ∨ b = 1) : z_go zP 111 49 L (zi b :: zi a :: .ref u :: S) q Q ↔ ∃ q1, z_st 102 q u (Int32.ofInt a) (zi b) = some q1 ∧ z_go zP 111 50 L S q1 Q := ge_bast (len := 1) (x := (0, 0, [])) hb p_111 rfl
theorem g111_50 : z_go zP 111 50 L [] q Q ↔ Q (.inl none) q := z_go_rt (len := 1) (x := (0, 0, [])) p_111 rfl rfl rfl
theorem g112_0 : z_go zP 112 0 [l0, l1, some (zl a), l3] S q Q ↔ z_go zP 112 1 [l0, l1, some (zl a), l3] (zl a :: S) q Q := ge_x (len := 1) (x := (0, 0, [])) p_112 rfl rfl
theorem g112_1 : z_go zP 112 1 L S q Q ↔ z_go zP 112 2 L (zl 1 :: S) q Q := ge_x (len := 1) (x := (0, 0, [])) p_112 rfl rfl
theorem g112_2 : z_go zP 112 2 [some (.ref u), l1, l2, l3] S q Q ↔ z_go zP 112 3 [some (.ref u), l1, l2, l3] (.ref u :: S) q Q := ge_x (len := 1) (x := (0, 0, [])) p_112 rfl rfl
theorem g112_3 : z_go zP 112 3 L (.ref u :: S) q Q ↔ ∃ v, z_get [9] 7 q.1 u = some v ∧ z_go zP 112 6 L (v :: S) q Q := ge_getf (len := 3) (x := (7, 0, [9])) p_112 rfl
theorem g112_6 : z_go zP 112 6 [l0, some (zi a), l2, l3] S q Q ↔ z_go zP 112 7 [l0, some (zi a), l2, l3] (zi a :: S) q Q := ge_x (len := 1) (x := (0, 0, [])) p_112 rfl rfl
theorem g112_7 : z_go zP 112 7 L (zi a :: .ref u :: S) q Q ↔ ∃ v, z_at [99, 100] q.1 u (Int32.ofInt a) = some v ∧ z_go zP 112 8 L (v :: S) q Q := ge_iald (len := 1) (x := (0, 0, [])) p_112 rfl
theorem g112_8 : z_go zP 112 8 L (zi b :: zl a :: S) q Q ↔ z_go zP 112 9 L (zl (llshl a b) :: S) q Q := ge_lshl (len := 1) (x := (0, 0, [])) p_112 rfl
theorem g112_9 : z_go zP 112 9 L S q Q ↔ z_go zP 112 10 L (zl 1 :: S) q Q := ge_x (len := 1) (x := (0, 0, [])) p_112 rfl rfl
theorem g112_10 : z_go zP 112 10 L (zl b :: zl a :: S) q Q ↔ z_go zP 112 11 L (zl (a - b) :: S) q Q := ge_lsub (len := 1) (x := (0, 0, [])) p_112 rfl
theorem g112_11 : z_go zP 112 11 L (zl b :: zl a :: S) q Q ↔ z_go zP 112 12 L (zl (lland a b) :: S) q Q := ge_land (len := 1) (x := (0, 0, [])) p_112 rfl
theorem g112_12 : z_go zP 112 12 L [zl a] q Q ↔ Q (.inl (some (zl a))) q := z_go_rt (len := 1) (x := (0, 0, [])) p_112 rfl rfl rfl
theorem g113_0 : z_go zP 113 0 [l0, some (zi a), l2] S q Q ↔ z_go zP 113 1 [l0, some (zi a), l2] (zi a :: S) q Q := ge_x (len := 1) (x := (0, 0, [])) p_113 rfl rfl
theorem g113_1 : z_go zP 113 1 [l0, l1, some (zi a)] S q Q ↔ z_go zP 113 2 [l0, l1, some (zi a)] (zi a :: S) q Q := ge_x (len := 1) (x := (0, 0, [])) p_113 rfl rfl
theorem g113_2 (a1 : -2147483648 ≤ a) (a2 : a < 2147483648) (b1 : 0 < b) (b2 : b < 2147483648) : z_go zP 113 2 L (zi b :: zi a :: S) q Q ↔ z_go zP 113 3 L (zi (a.tmod b) :: S) q Q := ge_irem (len := 1) (x := (0, 0, [])) a1 a2 b1 b2 p_113 rfl
theorem g113_3 : z_go zP 113 3 [l0, l1, some (zi a)] S q Q ↔ z_go zP 113 4 [l0, l1, some (zi a)] (zi a :: S) q Q := ge_x (len := 1) (x := (0, 0, [])) p_113 rfl rfl
theorem g113_4 : z_go zP 113 4 L (zi b :: zi a :: S) q Q ↔ z_go zP 113 5 L (zi (a + b) :: S) q Q := ge_iadd (len := 1) (x := (0, 0, [])) p_113 rfl
theorem g113_5 : z_go zP 113 5 [l0, l1, some (zi a)] S q Q ↔ z_go zP 113 6 [l0, l1, some (zi a)] (zi a :: S) q Q := ge_x (len := 1) (x := (0, 0, [])) p_113 rfl rfl
theorem g113_6 (a1 : -2147483648 ≤ a) (a2 : a < 2147483648) (b1 : 0 < b) (b2 : b < 2147483648) : z_go zP 113 6 L (zi b :: zi a :: S) q Q ↔ z_go zP 113 7 L (zi (a.tmod b) :: S) q Q := ge_irem (len := 1) (x := (0, 0, [])) a1 a2 b1 b2 p_113 rfl
theorem g113_7 : z_go zP 113 7 L [zi a] q Q ↔ Q (.inl (some (zi a))) q := ge_rti (len := 1) (x := (0, 0, [])) p_113 rfl rfl
theorem g114_0 : z_go zP 114 0 L S q Q ↔ z_go zP 114 2 L (zi 24 :: S) q Q := ge_x (len := 2) (x := (0, 0, [])) p_114 rfl rfl
theorem g114_2 : z_go zP 114 2 [l0, l1, some (zi a)] S q Q ↔ z_go zP 114 3 [l0, l1, some (zi a)] (zi a :: S) q Q := ge_x (len := 1) (x := (0, 0, [])) p_114 rfl rfl
theorem g114_3 : z_go zP 114 3 L (zi b :: zi a :: S) q Q ↔ z_go zP 114 4 L (zi (a * b) :: S) q Q := ge_imul (len := 1) (x := (0, 0, [])) p_114 rfl
theorem g114_4 : z_go zP 114 4 [some (.ref u), l1, l2] S q Q ↔ z_go zP 114 5 [some (.ref u), l1, l2] (.ref u :: S) q Q := ge_x (len := 1) (x := (0, 0, [])) p_114 rfl rfl
theorem g114_5 : z_go zP 114 5 L (.ref u :: S) q Q ↔ ∃ v, z_get [9] 20 q.1 u = some v ∧ z_go zP 114 8 L (v :: S) q Q := ge_getf (len := 3) (x := (20, 0, [9])) p_114 rfl
theorem g114_8 : z_go zP 114 8 [l0, some (zi a), l2] S q Q ↔ z_go zP 114 9 [l0, some (zi a), l2] (zi a :: S) q Q := ge_x (len := 1) (x := (0, 0, [])) p_114 rfl rfl
theorem g114_9 : z_go zP 114 9 L (zi a :: .ref u :: S) q Q ↔ ∃ v, z_at [99, 100] q.1 u (Int32.ofInt a) = some v ∧ z_go zP 114 10 L (v :: S) q Q := ge_iald (len := 1) (x := (0, 0, [])) p_114 rfl
theorem g114_10 : z_go zP 114 10 L (zi b :: zi a :: S) q Q ↔ z_go zP 114 11 L (zi (a + b) :: S) q Q := ge_iadd (len := 1) (x := (0, 0, [])) p_114 rfl
theorem g114_11 : z_go zP 114 11 L [zi a] q Q ↔ Q (.inl (some (zi a))) q := ge_rti (len := 1) (x := (0, 0, [])) p_114 rfl rfl
theorem g115_0 : z_go zP 115 0 [some (.ref u), l1, l2] S q Q ↔ z_go zP 115 1 [some (.ref u), l1, l2] (.ref u :: S) q Q := ge_x (len := 1) (x := (0, 0, [])) p_115 rfl rfl
theorem g115_1 : z_go zP 115 1 L (.ref u :: S) q Q ↔ ∃ v, z_get [9] 14 q.1 u = some v ∧ z_go zP 115 4 L (v :: S) q Q := ge_getf (len := 3) (x := (14, 0, [9])) p_115 rfl
theorem g115_4 : z_go zP 115 4 [l0, l1, some (zi a)] S q Q ↔ z_go zP 115 5 [l0, l1, some (zi a)] (zi a :: S) q Q := ge_x (len := 1) (x := (0, 0, [])) p_115 rfl rfl
theorem g115_5 : z_go zP 115 5 L (zi a :: .ref u :: S) q Q ↔ ∃ v, z_at [99, 100] q.1 u (Int32.ofInt a) = some v ∧ z_go zP 115 6 L (v :: S) q Q := ge_iald (len := 1) (x := (0, 0, [])) p_115 rfl
theorem g115_6 : z_go zP 115 6 L S q Q ↔ z_go zP 115 8 L (zi 6 :: S) q Q := ge_x (len := 2) (x := (0, 0, [])) p_115 rfl rfl
theorem g115_8 (a1 : -2147483648 ≤ a) (a2 : a < 2147483648) (b1 : -2147483648 ≤ b) (b2 : b < 2147483648) : z_go zP 115 8 L (zi b :: zi a :: S) q Q ↔ if ¬ a = b then z_go zP 115 36 L S q Q else z_go zP 115 11 L S q Q := ge_ic_ne (len := 3) (x := (0, 0, [])) a1 a2 b1 b2 p_115 rfl rfl
theorem g115_11 : z_go zP 115 11 [some (.ref u), l1, l2] S q Q ↔ z_go zP 115 12 [some (.ref u), l1, l2] (.ref u :: S) q Q := ge_x (len := 1) (x := (0, 0, [])) p_115 rfl rfl
theorem g115_12 : z_go zP 115 12 L (.ref u :: S) q Q ↔ ∃ v, z_get [9] 19 q.1 u = some v ∧ z_go zP 115 15 L (v :: S) q Q := ge_getf (len := 3) (x := (19, 0, [9])) p_115 rfl
theorem g115_15 : z_go zP 115 15 L S q Q ↔ z_go zP 115 17 L (zi 12 :: S) q Q := ge_x (len := 2) (x := (0, 0, [])) p_115 rfl rfl
theorem g115_17 : z_go zP 115 17 [l0, some (zi a), l2] S q Q ↔ z_go zP 115 18 [l0, some (zi a), l2] (zi a :: S) q Q := ge_x (len := 1) (x := (0, 0, [])) p_115 rfl rfl
theorem g115_18 : z_go zP 115 18 L (zi b :: zi a :: S) q Q ↔ z_go zP 115 19 L (zi (a * b) :: S) q Q := ge_imul (len := 1) (x := (0, 0, [])) p_115 rfl
theorem g115_19 : z_go zP 115 19 [some (.ref u), l1, l2] S q Q ↔ z_go zP 115 20 [some (.ref u), l1, l2] (.ref u :: S) q Q := ge_x (len := 1) (x := (0, 0, [])) p_115 rfl rfl
theorem g115_20 : z_go zP 115 20 L (.ref u :: S) q Q ↔ ∃ v, z_get [9] 16 q.1 u = some v ∧ z_go zP 115 23 L (v :: S) q Q := ge_getf (len := 3) (x := (16, 0, [9])) p_115 rfl
theorem g115_23 : z_go zP 115 23 [l0, l1, some (zi a)] S q Q ↔ z_go zP 115 24 [l0, l1, some (zi a)] (zi a :: S) q Q := ge_x (len := 1) (x := (0, 0, [])) p_115 rfl rfl
theorem g115_24 : z_go zP 115 24 L (zi a :: .ref u :: S) q Q ↔ ∃ v, z_at [99, 100] q.1 u (Int32.ofInt a) = some v ∧ z_go zP 115 25 L (v :: S) q Q := ge_iald (len := 1) (x := (0, 0, [])) p_115 rfl
theorem g115_25 : z_go zP 115 25 L (zi b :: zi a :: S) q Q ↔ z_go zP 115 26 L (zi (a + b) :: S) q Q := ge_iadd (len := 1) (x := (0, 0, [])) p_115 rfl
theorem g115_26 : z_go zP 115 26 L (zi a :: .ref u :: S) q Q ↔ ∃ v, z_at [101] q.1 u (Int32.ofInt a) = some v ∧ z_go zP 115 27 L (v :: S) q Q := ge_lald (len := 1) (x := (0, 0, [])) p_115 rfl
theorem g115_27 : z_go zP 115 27 L S q Q ↔ z_go zP 115 28 L (zl 0 :: S) q Q := ge_x (len := 1) (x := (0, 0, [])) p_115 rfl rfl
theorem g115_28 (a1 : -9223372036854775808 ≤ a) (a2 : a < 9223372036854775808) (b1 : -9223372036854775808 ≤ b) (b2 : b < 9223372036854775808) : z_go zP 115 28 L (zl b :: zl a :: S) q Q ↔ if a = b then z_go zP 115 36 L S q Q else z_go zP 115 32 L S q Q := ge_lc_eq (len := 1) (x := (0, 0, [])) (p2 := 29) (l2 := 3) a1 a2 b1 b2 p_115 rfl rfl rfl rfl
theorem g115_32 : z_go zP 115 32 L S q Q ↔ z_go zP 115 33 L (zi 1 :: S) q Q := ge_x (len := 1) (x := (0, 0, [])) p_115 rfl rfl
theorem g115_33 : z_go zP 115 33 L S q Q ↔ z_go zP 115 37 L S q Q := ge_to (len := 3) (x := (0, 0, [])) p_115 rfl rfl rfl
theorem g115_36 : z_go zP 115 36 L S q Q ↔ z_go zP 115 37 L (zi 0 :: S) q Q := ge_x (len := 1) (x := (0, 0, [])) p_115 rfl rfl
theorem g115_37_0 : z_go zP 115 37 L [zi 0] q Q ↔ Q (.inl (some (zi 0))) q := z_go_rt (len := 1) (x := (0, 0, [])) p_115 rfl rfl rfl
theorem g115_37_1 : z_go zP 115 37 L [zi 1] q Q ↔ Q (.inl (some (zi 1))) q := z_go_rt (len := 1) (x := (0, 0, [])) p_115 rfl rfl rfl
theorem g115_37b {c : Prop} [Decidable c] : z_go zP 115 37 L [zi (bI c)] q Q ↔ Q (.inl (some (zi (bI c)))) q := (by rcases bI_01 (c := c) with h | h <;> rw [h] <;> exact z_go_rt (len := 1) (x := (0, 0, [])) p_115 rfl rfl rfl)
set_option maxRecDepth 100000 in
theorem g116_0 : z_go zP 116 0 [some (.ref u), l1, l2, l3, l4, l5, l6, l7, l8, l9, l10] S q Q ↔ z_go zP 116 1 [some (.ref u), l1, l2, l3, l4, l5, l6, l7, l8, l9, l10] (.ref u :: S) q Q := ge_x (len := 1) (x := (0, 0, [])) p_116 rfl rfl
set_option maxRecDepth 100000 in
theorem g116_1 : z_go zP 116 1 L (.ref u :: S) q Q ↔ ∃ v, z_get [9] 5 q.1 u = some v ∧ z_go zP 116 4 L (v :: S) q Q := ge_getf (len := 3) (x := (5, 0, [9])) p_116 rfl
set_option maxRecDepth 100000 in
theorem g116_4 : z_go zP 116 4 [l0, l1, some (zi a), l3, l4, l5, l6, l7, l8, l9, l10] S q Q ↔ z_go zP 116 5 [l0, l1, some (zi a), l3, l4, l5, l6, l7, l8, l9, l10] (zi a :: S) q Q := ge_x (len := 1) (x := (0, 0, [])) p_116 rfl rfl
set_option maxRecDepth 100000 in
theorem g116_5 : z_go zP 116 5 L (zi a :: .ref u :: S) q Q ↔ ∃ v, z_at [99, 100] q.1 u (Int32.ofInt a) = some v ∧ z_go zP 116 6 L (v :: S) q Q := ge_iald (len := 1) (x := (0, 0, [])) p_116 rfl
set_option maxRecDepth 100000 in
theorem g116_6 : z_go zP 116 6 [l0, l1, l2, l3, l4, l5, l6, l7, l8, l9, l10] (zi a :: S) q Q ↔ z_go zP 116 7 [l0, l1, (zkl l2), some (zi a), l4, l5, l6, l7, l8, l9, l10] S q Q := (by cases l2 with | none => exact ge_x (len := 1) (x := (0, 0, [])) p_116 rfl rfl | some v => cases v <;> exact ge_x (len := 1) (x := (0, 0, [])) p_116 rfl rfl)
set_option maxRecDepth 100000 in
theorem g116_7 : z_go zP 116 7 [some (.ref u), l1, l2, l3, l4, l5, l6, l7, l8, l9, l10] S q Q ↔ z_go zP 116 8 [some (.ref u), l1, l2, l3, l4, l5, l6, l7, l8, l9, l10] (.ref u :: S) q Q := ge_x (len := 1) (x := (0, 0, [])) p_116 rfl rfl
set_option maxRecDepth 100000 in
theorem g116_8 : z_go zP 116 8 [l0, some (zi a), l2, l3, l4, l5, l6, l7, l8, l9, l10] S q Q ↔ z_go zP 116 9 [l0, some (zi a), l2, l3, l4, l5, l6, l7, l8, l9, l10] (zi a :: S) q Q := ge_x (len := 1) (x := (0, 0, [])) p_116 rfl rfl
set_option maxRecDepth 100000 in
theorem g116_9 : z_go zP 116 9 [l0, l1, some (zi a), l3, l4, l5, l6, l7, l8, l9, l10] S q Q ↔ z_go zP 116 10 [l0, l1, some (zi a), l3, l4, l5, l6, l7, l8, l9, l10] (zi a :: S) q Q := ge_x (len := 1) (x := (0, 0, [])) p_116 rfl rfl
set_option maxRecDepth 100000 in
theorem g116_10 : z_go zP 116 10 L [zi x1, zi x0, .ref u] q Q ↔ z_tg q.1 u = some 9 ∧ z_go zP 114 0 [some (.ref u), some (zi x0), some (zi x1)] [] q (zc 116 13 L [] Q) := ge_vc (len := 3) (pc := 10) (S := [zi x1, zi x0, .ref u]) (u := u) (k1 := 114) (A := [.ref u, zi x0, zi x1]) (r := []) (tag := 9) (n0 := 2) (zwb_le (by show 0 ≤ 4; omega)) p_116 rfl rfl rfl p_114 (by show 3 ≤ 3; omega) rfl
set_option maxRecDepth 100000 in
theorem g116_13 : z_go zP 116 13 [l0, l1, l2, l3, l4, l5, l6, l7, l8, l9, l10] (zi a :: S) q Q ↔ z_go zP 116 15 [l0, l1, l2, (zkl l3), some (zi a), l5, l6, l7, l8, l9, l10] S q Q := (by cases l3 with | none => exact ge_x (len := 2) (x := (0, 0, [])) p_116 rfl rfl | some v => cases v <;> exact ge_x (len := 2) (x := (0, 0, [])) p_116 rfl rfl)
set_option maxRecDepth 100000 in
theorem g116_15 : z_go zP 116 15 [some (.ref u), l1, l2, l3, l4, l5, l6, l7, l8, l9, l10] S q Q ↔ z_go zP 116 16 [some (.ref u), l1, l2, l3, l4, l5, l6, l7, l8, l9, l10] (.ref u :: S) q Q := ge_x (len := 1) (x := (0, 0, [])) p_116 rfl rfl
set_option maxRecDepth 100000 in
theorem g116_16 : z_go zP 116 16 L (.ref u :: S) q Q ↔ ∃ v, z_get [9] 19 q.1 u = some v ∧ z_go zP 116 19 L (v :: S) q Q := ge_getf (len := 3) (x := (19, 0, [9])) p_116 rfl
set_option maxRecDepth 100000 in
theorem g116_19 : z_go zP 116 19 L S q Q ↔ z_go zP 116 21 L (zi 12 :: S) q Q := ge_x (len := 2) (x := (0, 0, [])) p_116 rfl rfl
set_option maxRecDepth 100000 in
theorem g116_21 : z_go zP 116 21 [l0, some (zi a), l2, l3, l4, l5, l6, l7, l8, l9, l10] S q Q ↔ z_go zP 116 22 [l0, some (zi a), l2, l3, l4, l5, l6, l7, l8, l9, l10] (zi a :: S) q Q := ge_x (len := 1) (x := (0, 0, [])) p_116 rfl rfl
set_option maxRecDepth 100000 in
theorem g116_22 : z_go zP 116 22 L (zi b :: zi a :: S) q Q ↔ z_go zP 116 23 L (zi (a * b) :: S) q Q := ge_imul (len := 1) (x := (0, 0, [])) p_116 rfl
set_option maxRecDepth 100000 in
theorem g116_23 : z_go zP 116 23 [some (.ref u), l1, l2, l3, l4, l5, l6, l7, l8, l9, l10] S q Q ↔ z_go zP 116 24 [some (.ref u), l1, l2, l3, l4, l5, l6, l7, l8, l9, l10] (.ref u :: S) q Q := ge_x (len := 1) (x := (0, 0, [])) p_116 rfl rfl
set_option maxRecDepth 100000 in
theorem g116_24 : z_go zP 116 24 L (.ref u :: S) q Q ↔ ∃ v, z_get [9] 16 q.1 u = some v ∧ z_go zP 116 27 L (v :: S) q Q := ge_getf (len := 3) (x := (16, 0, [9])) p_116 rfl
set_option maxRecDepth 100000 in
theorem g116_27 : z_go zP 116 27 [l0, l1, l2, l3, some (zi a), l5, l6, l7, l8, l9, l10] S q Q ↔ z_go zP 116 29 [l0, l1, l2, l3, some (zi a), l5, l6, l7, l8, l9, l10] (zi a :: S) q Q := ge_x (len := 2) (x := (0, 0, [])) p_116 rfl rfl
set_option maxRecDepth 100000 in
theorem g116_29 : z_go zP 116 29 L (zi a :: .ref u :: S) q Q ↔ ∃ v, z_at [99, 100] q.1 u (Int32.ofInt a) = some v ∧ z_go zP 116 30 L (v :: S) q Q := ge_iald (len := 1) (x := (0, 0, [])) p_116 rfl
set_option maxRecDepth 100000 in
theorem g116_30 : z_go zP 116 30 L (zi b :: zi a :: S) q Q ↔ z_go zP 116 31 L (zi (a + b) :: S) q Q := ge_iadd (len := 1) (x := (0, 0, [])) p_116 rfl
set_option maxRecDepth 100000 in
theorem g116_31 : z_go zP 116 31 L (zi a :: .ref u :: S) q Q ↔ ∃ v, z_at [101] q.1 u (Int32.ofInt a) = some v ∧ z_go zP 116 32 L (v :: S) q Q := ge_lald (len := 1) (x := (0, 0, [])) p_116 rfl
set_option maxRecDepth 100000 in
theorem g116_32 : z_go zP 116 32 [l0, l1, l2, l3, l4, l5, l6, l7, l8, l9, l10] (zl a :: S) q Q ↔ z_go zP 116 34 [l0, l1, l2, l3, (zkl l4), some (zl a), none, l7, l8, l9, l10] S q Q := (by cases l4 with | none => exact ge_x (len := 2) (x := (0, 0, [])) p_116 rfl rfl | some v => cases v <;> exact ge_x (len := 2) (x := (0, 0, [])) p_116 rfl rfl)
set_option maxRecDepth 100000 in
theorem g116_34 : z_go zP 116 34 [some (.ref u), l1, l2, l3, l4, l5, l6, l7, l8, l9, l10] S q Q ↔ z_go zP 116 35 [some (.ref u), l1, l2, l3, l4, l5, l6, l7, l8, l9, l10] (.ref u :: S) q Q := ge_x (len := 1) (x := (0, 0, [])) p_116 rfl rfl
set_option maxRecDepth 100000 in
theorem g116_35 : z_go zP 116 35 L (.ref u :: S) q Q ↔ ∃ v, z_get [9] 19 q.1 u = some v ∧ z_go zP 116 38 L (v :: S) q Q := ge_getf (len := 3) (x := (19, 0, [9])) p_116 rfl
set_option maxRecDepth 100000 in
theorem g116_38 : z_go zP 116 38 L S q Q ↔ z_go zP 116 40 L (zi 12 :: S) q Q := ge_x (len := 2) (x := (0, 0, [])) p_116 rfl rfl
set_option maxRecDepth 100000 in
theorem g116_40 : z_go zP 116 40 [l0, some (zi a), l2, l3, l4, l5, l6, l7, l8, l9, l10] S q Q ↔ z_go zP 116 41 [l0, some (zi a), l2, l3, l4, l5, l6, l7, l8, l9, l10] (zi a :: S) q Q := ge_x (len := 1) (x := (0, 0, [])) p_116 rfl rfl
set_option maxRecDepth 100000 in
theorem g116_41 : z_go zP 116 41 L (zi b :: zi a :: S) q Q ↔ z_go zP 116 42 L (zi (a * b) :: S) q Q := ge_imul (len := 1) (x := (0, 0, [])) p_116 rfl
set_option maxRecDepth 100000 in
theorem g116_42 : z_go zP 116 42 [some (.ref u), l1, l2, l3, l4, l5, l6, l7, l8, l9, l10] S q Q ↔ z_go zP 116 43 [some (.ref u), l1, l2, l3, l4, l5, l6, l7, l8, l9, l10] (.ref u :: S) q Q := ge_x (len := 1) (x := (0, 0, [])) p_116 rfl rfl
set_option maxRecDepth 100000 in
theorem g116_43 : z_go zP 116 43 L (.ref u :: S) q Q ↔ ∃ v, z_get [9] 17 q.1 u = some v ∧ z_go zP 116 46 L (v :: S) q Q := ge_getf (len := 3) (x := (17, 0, [9])) p_116 rfl
set_option maxRecDepth 100000 in
theorem g116_46 : z_go zP 116 46 [l0, l1, l2, l3, some (zi a), l5, l6, l7, l8, l9, l10] S q Q ↔ z_go zP 116 48 [l0, l1, l2, l3, some (zi a), l5, l6, l7, l8, l9, l10] (zi a :: S) q Q := ge_x (len := 2) (x := (0, 0, [])) p_116 rfl rfl
set_option maxRecDepth 100000 in
theorem g116_48 : z_go zP 116 48 L (zi a :: .ref u :: S) q Q ↔ ∃ v, z_at [99, 100] q.1 u (Int32.ofInt a) = some v ∧ z_go zP 116 49 L (v :: S) q Q := ge_iald (len := 1) (x := (0, 0, [])) p_116 rfl
set_option maxRecDepth 100000 in
theorem g116_49 : z_go zP 116 49 L (zi b :: zi a :: S) q Q ↔ z_go zP 116 50 L (zi (a + b) :: S) q Q := ge_iadd (len := 1) (x := (0, 0, [])) p_116 rfl
set_option maxRecDepth 100000 in
theorem g116_50 : z_go zP 116 50 L (zi a :: .ref u :: S) q Q ↔ ∃ v, z_at [101] q.1 u (Int32.ofInt a) = some v ∧ z_go zP 116 51 L (v :: S) q Q := ge_lald (len := 1) (x := (0, 0, [])) p_116 rfl
set_option maxRecDepth 100000 in
theorem g116_51 : z_go zP 116 51 [l0, l1, l2, l3, l4, l5, l6, l7, l8, l9, l10] (zl a :: S) q Q ↔ z_go zP 116 53 [l0, l1, l2, l3, l4, l5, (zkl l6), some (zl a), none, l9, l10] S q Q := (by cases l6 with | none => exact ge_x (len := 2) (x := (0, 0, [])) p_116 rfl rfl | some v => cases v <;> exact ge_x (len := 2) (x := (0, 0, [])) p_116 rfl rfl)
set_option maxRecDepth 100000 in
theorem g116_53 : z_go zP 116 53 [some (.ref u), l1, l2, l3, l4, l5, l6, l7, l8, l9, l10] S q Q ↔ z_go zP 116 54 [some (.ref u), l1, l2, l3, l4, l5, l6, l7, l8, l9, l10] (.ref u :: S) q Q := ge_x (len := 1) (x := (0, 0, [])) p_116 rfl rfl
set_option maxRecDepth 100000 in
theorem g116_54 : z_go zP 116 54 L (.ref u :: S) q Q ↔ ∃ v, z_get [9] 20 q.1 u = some v ∧ z_go zP 116 57 L (v :: S) q Q := ge_getf (len := 3) (x := (20, 0, [9])) p_116 rfl
set_option maxRecDepth 100000 in
theorem g116_57 : z_go zP 116 57 [l0, some (zi a), l2, l3, l4, l5, l6, l7, l8, l9, l10] S q Q ↔ z_go zP 116 58 [l0, some (zi a), l2, l3, l4, l5, l6, l7, l8, l9, l10] (zi a :: S) q Q := ge_x (len := 1) (x := (0, 0, [])) p_116 rfl rfl
set_option maxRecDepth 100000 in
theorem g116_58 : z_go zP 116 58 L (zi a :: .ref u :: S) q Q ↔ ∃ v, z_at [99, 100] q.1 u (Int32.ofInt a) = some v ∧ z_go zP 116 59 L (v :: S) q Q := ge_iald (len := 1) (x := (0, 0, [])) p_116 rfl
set_option maxRecDepth 100000 in
theorem g116_59 : z_go zP 116 59 L S q Q ↔ z_go zP 116 60 L (zi 1 :: S) q Q := ge_x (len := 1) (x := (0, 0, [])) p_116 rfl rfl
set_option maxRecDepth 100000 in
theorem g116_60 : z_go zP 116 60 L (zi b :: zi a :: S) q Q ↔ z_go zP 116 61 L (zi (a + b) :: S) q Q := ge_iadd (len := 1) (x := (0, 0, [])) p_116 rfl
set_option maxRecDepth 100000 in
theorem g116_61 : z_go zP 116 61 [some (.ref u), l1, l2, l3, l4, l5, l6, l7, l8, l9, l10] S q Q ↔ z_go zP 116 62 [some (.ref u), l1, l2, l3, l4, l5, l6, l7, l8, l9, l10] (.ref u :: S) q Q := ge_x (len := 1) (x := (0, 0, [])) p_116 rfl rfl
set_option maxRecDepth 100000 in
theorem g116_62 : z_go zP 116 62 L (.ref u :: S) q Q ↔ ∃ v, z_get [9] 13 q.1 u = some v ∧ z_go zP 116 65 L (v :: S) q Q := ge_getf (len := 3) (x := (13, 0, [9])) p_116 rfl
set_option maxRecDepth 100000 in
theorem g116_65 : z_go zP 116 65 [l0, l1, some (zi a), l3, l4, l5, l6, l7, l8, l9, l10] S q Q ↔ z_go zP 116 66 [l0, l1, some (zi a), l3, l4, l5, l6, l7, l8, l9, l10] (zi a :: S) q Q := ge_x (len := 1) (x := (0, 0, [])) p_116 rfl rfl
set_option maxRecDepth 100000 in
theorem g116_66 : z_go zP 116 66 L (zi a :: .ref u :: S) q Q ↔ ∃ v, z_at [99, 100] q.1 u (Int32.ofInt a) = some v ∧ z_go zP 116 67 L (v :: S) q Q := ge_iald (len := 1) (x := (0, 0, [])) p_116 rfl
set_option maxRecDepth 100000 in
theorem g116_67 (a1 : -2147483648 ≤ a) (a2 : a < 2147483648) (b1 : 0 < b) (b2 : b < 2147483648) : z_go zP 116 67 L (zi b :: zi a :: S) q Q ↔ z_go zP 116 68 L (zi (a.tmod b) :: S) q Q := ge_irem (len := 1) (x := (0, 0, [])) a1 a2 b1 b2 p_116 rfl
set_option maxRecDepth 100000 in
theorem g116_68 : z_go zP 116 68 [l0, l1, l2, l3, l4, l5, l6, l7, l8, l9, l10] (zi a :: S) q Q ↔ z_go zP 116 70 [l0, l1, l2, l3, l4, l5, l6, l7, (zkl l8), some (zi a), l10] S q Q := (by cases l8 with | none => exact ge_x (len := 2) (x := (0, 0, [])) p_116 rfl rfl | some v => cases v <;> exact ge_x (len := 2) (x := (0, 0, [])) p_116 rfl rfl)
set_option maxRecDepth 100000 in
theorem g116_70 : z_go zP 116 70 [some (.ref u), l1, l2, l3, l4, l5, l6, l7, l8, l9, l10] S q Q ↔ z_go zP 116 71 [some (.ref u), l1, l2, l3, l4, l5, l6, l7, l8, l9, l10] (.ref u :: S) q Q := ge_x (len := 1) (x := (0, 0, [])) p_116 rfl rfl
set_option maxRecDepth 100000 in
theorem g116_71 : z_go zP 116 71 [l0, some (zi a), l2, l3, l4, l5, l6, l7, l8, l9, l10] S q Q ↔ z_go zP 116 72 [l0, some (zi a), l2, l3, l4, l5, l6, l7, l8, l9, l10] (zi a :: S) q Q := ge_x (len := 1) (x := (0, 0, [])) p_116 rfl rfl
set_option maxRecDepth 100000 in
theorem g116_72 : z_go zP 116 72 [l0, l1, l2, l3, some (zi a), l5, l6, l7, l8, l9, l10] S q Q ↔ z_go zP 116 74 [l0, l1, l2, l3, some (zi a), l5, l6, l7, l8, l9, l10] (zi a :: S) q Q := ge_x (len := 2) (x := (0, 0, [])) p_116 rfl rfl
set_option maxRecDepth 100000 in
theorem g116_74 : z_go zP 116 74 L [zi x1, zi x0, .ref u] q Q ↔ z_tg q.1 u = some 9 ∧ z_go zP 115 0 [some (.ref u), some (zi x0), some (zi x1)] [] q (zc 116 77 L [] Q) := ge_vc (len := 3) (pc := 74) (S := [zi x1, zi x0, .ref u]) (u := u) (k1 := 115) (A := [.ref u, zi x0, zi x1]) (r := []) (tag := 9) (n0 := 2) (zwb_le (by show 0 ≤ 4; omega)) p_116 rfl rfl rfl p_115 (by show 3 ≤ 3; omega) rfl
set_option maxRecDepth 100000 in
theorem g116_77 (a1 : -2147483648 ≤ a) (a2 : a < 2147483648) : z_go zP 116 77 L (zi a :: S) q Q ↔ if a = 0 then z_go zP 116 99 L S q Q else z_go zP 116 80 L S q Q := ge_if_eq (len := 3) (x := (0, 0, [])) a1 a2 p_116 rfl rfl
set_option maxRecDepth 100000 in
theorem g116_77b {c : Prop} [Decidable c] : z_go zP 116 77 L (zi (bI c) :: S) q Q ↔ if c then z_go zP 116 80 L S q Q else z_go zP 116 99 L S q Q := ge_if_eq_b (len := 3) (x := (0, 0, [])) p_116 rfl rfl
set_option maxRecDepth 100000 in
theorem g116_80 : z_go zP 116 80 [some (.ref u), l1, l2, l3, l4, l5, l6, l7, l8, l9, l10] S q Q ↔ z_go zP 116 81 [some (.ref u), l1, l2, l3, l4, l5, l6, l7, l8, l9, l10] (.ref u :: S) q Q := ge_x (len := 1) (x := (0, 0, [])) p_116 rfl rfl
set_option maxRecDepth 100000 in
theorem g116_81 : z_go zP 116 81 [some (.ref u), l1, l2, l3, l4, l5, l6, l7, l8, l9, l10] S q Q ↔ z_go zP 116 82 [some (.ref u), l1, l2, l3, l4, l5, l6, l7, l8, l9, l10] (.ref u :: S) q Q := ge_x (len := 1) (x := (0, 0, [])) p_116 rfl rfl
set_option maxRecDepth 100000 in
theorem g116_82 : z_go zP 116 82 L (.ref u :: S) q Q ↔ ∃ v, z_get [9] 18 q.1 u = some v ∧ z_go zP 116 85 L (v :: S) q Q := ge_getf (len := 3) (x := (18, 0, [9])) p_116 rfl
set_option maxRecDepth 100000 in
theorem g116_85 : z_go zP 116 85 [l0, l1, l2, l3, some (zi a), l5, l6, l7, l8, l9, l10] S q Q ↔ z_go zP 116 87 [l0, l1, l2, l3, some (zi a), l5, l6, l7, l8, l9, l10] (zi a :: S) q Q := ge_x (len := 2) (x := (0, 0, [])) p_116 rfl rfl
set_option maxRecDepth 100000 in
theorem g116_87 : z_go zP 116 87 L (zi a :: .ref u :: S) q Q ↔ ∃ v, z_at [99, 100] q.1 u (Int32.ofInt a) = some v ∧ z_go zP 116 88 L (v :: S) q Q := ge_iald (len := 1) (x := (0, 0, [])) p_116 rfl
set_option maxRecDepth 100000 in
theorem g116_88 : z_go zP 116 88 [some (.ref u), l1, l2, l3, l4, l5, l6, l7, l8, l9, l10] S q Q ↔ z_go zP 116 89 [some (.ref u), l1, l2, l3, l4, l5, l6, l7, l8, l9, l10] (.ref u :: S) q Q := ge_x (len := 1) (x := (0, 0, [])) p_116 rfl rfl
set_option maxRecDepth 100000 in
theorem g116_89 : z_go zP 116 89 L (.ref u :: S) q Q ↔ ∃ v, z_get [9] 13 q.1 u = some v ∧ z_go zP 116 92 L (v :: S) q Q := ge_getf (len := 3) (x := (13, 0, [9])) p_116 rfl
set_option maxRecDepth 100000 in
theorem g116_92 : z_go zP 116 92 [l0, l1, some (zi a), l3, l4, l5, l6, l7, l8, l9, l10] S q Q ↔ z_go zP 116 93 [l0, l1, some (zi a), l3, l4, l5, l6, l7, l8, l9, l10] (zi a :: S) q Q := ge_x (len := 1) (x := (0, 0, [])) p_116 rfl rfl
set_option maxRecDepth 100000 in
theorem g116_93 : z_go zP 116 93 L (zi a :: .ref u :: S) q Q ↔ ∃ v, z_at [99, 100] q.1 u (Int32.ofInt a) = some v ∧ z_go zP 116 94 L (v :: S) q Q := ge_iald (len := 1) (x := (0, 0, [])) p_116 rfl
set_option maxRecDepth 100000 in
theorem g116_94 : z_go zP 116 94 L [zi x1, zi x0, .ref u] q Q ↔ z_tg q.1 u = some 9 ∧ z_go zP 113 0 [some (.ref u), some (zi x0), some (zi x1)] [] q (zc 116 97 L [] Q) := ge_vc (len := 3) (pc := 94) (S := [zi x1, zi x0, .ref u]) (u := u) (k1 := 113) (A := [.ref u, zi x0, zi x1]) (r := []) (tag := 9) (n0 := 2) (zwb_le (by show 0 ≤ 4; omega)) p_116 rfl rfl rfl p_113 (by show 3 ≤ 3; omega) rfl
set_option maxRecDepth 100000 in
theorem g116_97 : z_go zP 116 97 [l0, l1, l2, l3, l4, l5, l6, l7, l8, l9, l10] (zi a :: S) q Q ↔ z_go zP 116 99 [l0, l1, l2, l3, l4, l5, l6, l7, (zkl l8), some (zi a), l10] S q Q := (by cases l8 with | none => exact ge_x (len := 2) (x := (0, 0, [])) p_116 rfl rfl | some v => cases v <;> exact ge_x (len := 2) (x := (0, 0, [])) p_116 rfl rfl)
set_option maxRecDepth 100000 in
theorem g116_99 : z_go zP 116 99 L S q Q ↔ z_go zP 116 101 L (zi 12 :: S) q Q := ge_x (len := 2) (x := (0, 0, [])) p_116 rfl rfl
set_option maxRecDepth 100000 in
theorem g116_101 : z_go zP 116 101 [l0, some (zi a), l2, l3, l4, l5, l6, l7, l8, l9, l10] S q Q ↔ z_go zP 116 102 [l0, some (zi a), l2, l3, l4, l5, l6, l7, l8, l9, l10] (zi a :: S) q Q := ge_x (len := 1) (x := (0, 0, [])) p_116 rfl rfl
set_option maxRecDepth 100000 in
theorem g116_102 : z_go zP 116 102 L (zi b :: zi a :: S) q Q ↔ z_go zP 116 103 L (zi (a * b) :: S) q Q := ge_imul (len := 1) (x := (0, 0, [])) p_116 rfl
set_option maxRecDepth 100000 in
theorem g116_103 : z_go zP 116 103 L S q Q ↔ z_go zP 116 104 L (zi 4 :: S) q Q := ge_x (len := 1) (x := (0, 0, [])) p_116 rfl rfl
set_option maxRecDepth 100000 in
theorem g116_104 : z_go zP 116 104 L (zi b :: zi a :: S) q Q ↔ z_go zP 116 105 L (zi (a + b) :: S) q Q := ge_iadd (len := 1) (x := (0, 0, [])) p_116 rfl
set_option maxRecDepth 100000 in
theorem g116_105 : z_go zP 116 105 [l0, l1, l2, l3, l4, some (zl a), l6, l7, l8, l9, l10] S q Q ↔ z_go zP 116 107 [l0, l1, l2, l3, l4, some (zl a), l6, l7, l8, l9, l10] (zl a :: S) q Q := ge_x (len := 2) (x := (0, 0, [])) p_116 rfl rfl
set_option maxRecDepth 100000 in
theorem g116_107 : z_go zP 116 107 [some (.ref u), l1, l2, l3, l4, l5, l6, l7, l8, l9, l10] S q Q ↔ z_go zP 116 108 [some (.ref u), l1, l2, l3, l4, l5, l6, l7, l8, l9, l10] (.ref u :: S) q Q := ge_x (len := 1) (x := (0, 0, [])) p_116 rfl rfl
set_option maxRecDepth 100000 in
theorem g116_108 : z_go zP 116 108 L (.ref u :: S) q Q ↔ ∃ v, z_get [9] 8 q.1 u = some v ∧ z_go zP 116 111 L (v :: S) q Q := ge_getf (len := 3) (x := (8, 0, [9])) p_116 rfl
set_option maxRecDepth 100000 in
theorem g116_111 : z_go zP 116 111 [l0, l1, l2, some (zi a), l4, l5, l6, l7, l8, l9, l10] S q Q ↔ z_go zP 116 112 [l0, l1, l2, some (zi a), l4, l5, l6, l7, l8, l9, l10] (zi a :: S) q Q := ge_x (len := 1) (x := (0, 0, [])) p_116 rfl rfl
set_option maxRecDepth 100000 in
theorem g116_112 : z_go zP 116 112 L (zi a :: .ref u :: S) q Q ↔ ∃ v, z_at [99, 100] q.1 u (Int32.ofInt a) = some v ∧ z_go zP 116 113 L (v :: S) q Q := ge_iald (len := 1) (x := (0, 0, [])) p_116 rfl
set_option maxRecDepth 100000 in
theorem g116_113 (a1 : -2147483648 ≤ a) (a2 : a < 2147483648) : z_go zP 116 113 L (zi a :: S) q Q ↔ z_go zP 116 114 L (zl a :: S) q Q := ge_i2l (len := 1) (x := (0, 0, [])) a1 a2 p_116 rfl
set_option maxRecDepth 100000 in
theorem g116_114 (a1 : -9223372036854775808 ≤ a) (a2 : a < 9223372036854775808) (b1 : 0 < b) (b2 : b < 9223372036854775808) : z_go zP 116 114 L (zl b :: zl a :: S) q Q ↔ z_go zP 116 115 L (zl (a.tmod b) :: S) q Q := ge_lrem (len := 1) (x := (0, 0, [])) a1 a2 b1 b2 p_116 rfl
set_option maxRecDepth 100000 in
theorem g116_115 : z_go zP 116 115 L (zl a :: S) q Q ↔ z_go zP 116 116 L (zi a :: S) q Q := ge_l2i (len := 1) (x := (0, 0, [])) p_116 rfl
set_option maxRecDepth 100000 in
theorem g116_116 : z_go zP 116 116 L (zi b :: zi a :: S) q Q ↔ z_go zP 116 117 L (zi (a + b) :: S) q Q := ge_iadd (len := 1) (x := (0, 0, [])) p_116 rfl
set_option maxRecDepth 100000 in
theorem g116_117 : z_go zP 116 117 [l0, l1, l2, l3, l4, l5, l6, l7, l8, l9, l10] (zi a :: S) q Q ↔ z_go zP 116 119 [l0, l1, l2, l3, l4, l5, l6, l7, l8, (zkl l9), some (zi a)] S q Q := (by cases l9 with | none => exact ge_x (len := 2) (x := (0, 0, [])) p_116 rfl rfl | some v => cases v <;> exact ge_x (len := 2) (x := (0, 0, [])) p_116 rfl rfl)
set_option maxRecDepth 100000 in
theorem g116_119 : z_go zP 116 119 [some (.ref u), l1, l2, l3, l4, l5, l6, l7, l8, l9, l10] S q Q ↔ z_go zP 116 120 [some (.ref u), l1, l2, l3, l4, l5, l6, l7, l8, l9, l10] (.ref u :: S) q Q := ge_x (len := 1) (x := (0, 0, [])) p_116 rfl rfl
set_option maxRecDepth 100000 in
theorem g116_120 : z_go zP 116 120 L (.ref u :: S) q Q ↔ ∃ v, z_get [9] 14 q.1 u = some v ∧ z_go zP 116 123 L (v :: S) q Q := ge_getf (len := 3) (x := (14, 0, [9])) p_116 rfl
set_option maxRecDepth 100000 in
theorem g116_123 : z_go zP 116 123 [l0, l1, l2, l3, some (zi a), l5, l6, l7, l8, l9, l10] S q Q ↔ z_go zP 116 125 [l0, l1, l2, l3, some (zi a), l5, l6, l7, l8, l9, l10] (zi a :: S) q Q := ge_x (len := 2) (x := (0, 0, [])) p_116 rfl rfl
set_option maxRecDepth 100000 in
theorem g116_125 : z_go zP 116 125 L (zi a :: .ref u :: S) q Q ↔ ∃ v, z_at [99, 100] q.1 u (Int32.ofInt a) = some v ∧ z_go zP 116 126 L (v :: S) q Q := ge_iald (len := 1) (x := (0, 0, [])) p_116 rfl
set_option maxRecDepth 100000 in
theorem g116_126 (a1 : -2147483648 ≤ a) (a2 : a < 2147483648) : z_go zP 116 126 L (zi a :: S) q Q ↔ if ¬ a = 0 then z_go zP 116 159 L S q Q else z_go zP 116 129 L S q Q := ge_if_ne (len := 3) (x := (0, 0, [])) a1 a2 p_116 rfl rfl
set_option maxRecDepth 100000 in
theorem g116_126b {c : Prop} [Decidable c] : z_go zP 116 126 L (zi (bI c) :: S) q Q ↔ if c then z_go zP 116 159 L S q Q else z_go zP 116 129 L S q Q := ge_if_ne_b (len := 3) (x := (0, 0, [])) p_116 rfl rfl
set_option maxRecDepth 100000 in
theorem g116_129 : z_go zP 116 129 [some (.ref u), l1, l2, l3, l4, l5, l6, l7, l8, l9, l10] S q Q ↔ z_go zP 116 130 [some (.ref u), l1, l2, l3, l4, l5, l6, l7, l8, l9, l10] (.ref u :: S) q Q := ge_x (len := 1) (x := (0, 0, [])) p_116 rfl rfl
set_option maxRecDepth 100000 in
theorem g116_130 : z_go zP 116 130 L (.ref u :: S) q Q ↔ ∃ v, z_get [9] 19 q.1 u = some v ∧ z_go zP 116 133 L (v :: S) q Q := ge_getf (len := 3) (x := (19, 0, [9])) p_116 rfl
set_option maxRecDepth 100000 in
theorem g116_133 : z_go zP 116 133 L S q Q ↔ z_go zP 116 135 L (zi 12 :: S) q Q := ge_x (len := 2) (x := (0, 0, [])) p_116 rfl rfl
set_option maxRecDepth 100000 in
theorem g116_135 : z_go zP 116 135 [l0, some (zi a), l2, l3, l4, l5, l6, l7, l8, l9, l10] S q Q ↔ z_go zP 116 136 [l0, some (zi a), l2, l3, l4, l5, l6, l7, l8, l9, l10] (zi a :: S) q Q := ge_x (len := 1) (x := (0, 0, [])) p_116 rfl rfl
set_option maxRecDepth 100000 in
theorem g116_136 : z_go zP 116 136 L (zi b :: zi a :: S) q Q ↔ z_go zP 116 137 L (zi (a * b) :: S) q Q := ge_imul (len := 1) (x := (0, 0, [])) p_116 rfl
set_option maxRecDepth 100000 in
theorem g116_137 : z_go zP 116 137 [some (.ref u), l1, l2, l3, l4, l5, l6, l7, l8, l9, l10] S q Q ↔ z_go zP 116 138 [some (.ref u), l1, l2, l3, l4, l5, l6, l7, l8, l9, l10] (.ref u :: S) q Q := ge_x (len := 1) (x := (0, 0, [])) p_116 rfl rfl
set_option maxRecDepth 100000 in
theorem g116_138 : z_go zP 116 138 L (.ref u :: S) q Q ↔ ∃ v, z_get [9] 15 q.1 u = some v ∧ z_go zP 116 141 L (v :: S) q Q := ge_getf (len := 3) (x := (15, 0, [9])) p_116 rfl
set_option maxRecDepth 100000 in
theorem g116_141 : z_go zP 116 141 [l0, l1, l2, l3, some (zi a), l5, l6, l7, l8, l9, l10] S q Q ↔ z_go zP 116 143 [l0, l1, l2, l3, some (zi a), l5, l6, l7, l8, l9, l10] (zi a :: S) q Q := ge_x (len := 2) (x := (0, 0, [])) p_116 rfl rfl
set_option maxRecDepth 100000 in
theorem g116_143 : z_go zP 116 143 L (zi a :: .ref u :: S) q Q ↔ ∃ v, z_at [99, 100] q.1 u (Int32.ofInt a) = some v ∧ z_go zP 116 144 L (v :: S) q Q := ge_iald (len := 1) (x := (0, 0, [])) p_116 rfl
set_option maxRecDepth 100000 in
theorem g116_144 : z_go zP 116 144 L (zi b :: zi a :: S) q Q ↔ z_go zP 116 145 L (zi (a + b) :: S) q Q := ge_iadd (len := 1) (x := (0, 0, [])) p_116 rfl
set_option maxRecDepth 100000 in
theorem g116_145 : z_go zP 116 145 [some (.ref u), l1, l2, l3, l4, l5, l6, l7, l8, l9, l10] S q Q ↔ z_go zP 116 146 [some (.ref u), l1, l2, l3, l4, l5, l6, l7, l8, l9, l10] (.ref u :: S) q Q := ge_x (len := 1) (x := (0, 0, [])) p_116 rfl rfl
set_option maxRecDepth 100000 in
theorem g116_146 : z_go zP 116 146 [l0, l1, l2, some (zi a), l4, l5, l6, l7, l8, l9, l10] S q Q ↔ z_go zP 116 147 [l0, l1, l2, some (zi a), l4, l5, l6, l7, l8, l9, l10] (zi a :: S) q Q := ge_x (len := 1) (x := (0, 0, [])) p_116 rfl rfl
set_option maxRecDepth 100000 in
theorem g116_147 : z_go zP 116 147 [some (.ref u), l1, l2, l3, l4, l5, l6, l7, l8, l9, l10] S q Q ↔ z_go zP 116 148 [some (.ref u), l1, l2, l3, l4, l5, l6, l7, l8, l9, l10] (.ref u :: S) q Q := ge_x (len := 1) (x := (0, 0, [])) p_116 rfl rfl
set_option maxRecDepth 100000 in
theorem g116_148 : z_go zP 116 148 L (.ref u :: S) q Q ↔ ∃ v, z_get [9] 18 q.1 u = some v ∧ z_go zP 116 151 L (v :: S) q Q := ge_getf (len := 3) (x := (18, 0, [9])) p_116 rfl
set_option maxRecDepth 100000 in
theorem g116_151 : z_go zP 116 151 [l0, l1, l2, l3, some (zi a), l5, l6, l7, l8, l9, l10] S q Q ↔ z_go zP 116 153 [l0, l1, l2, l3, some (zi a), l5, l6, l7, l8, l9, l10] (zi a :: S) q Q := ge_x (len := 2) (x := (0, 0, [])) p_116 rfl rfl
set_option maxRecDepth 100000 in
theorem g116_153 : z_go zP 116 153 L (zi a :: .ref u :: S) q Q ↔ ∃ v, z_at [99, 100] q.1 u (Int32.ofInt a) = some v ∧ z_go zP 116 154 L (v :: S) q Q := ge_iald (len := 1) (x := (0, 0, [])) p_116 rfl
set_option maxRecDepth 100000 in
theorem g116_154 (a1 : -2147483648 ≤ a) (a2 : a < 2147483648) : z_go zP 116 154 L (zi a :: S) q Q ↔ z_go zP 116 155 L (zl a :: S) q Q := ge_i2l (len := 1) (x := (0, 0, [])) a1 a2 p_116 rfl
set_option maxRecDepth 100000 in
theorem g116_155 : z_go zP 116 155 L [zl x1, zi x0, .ref u, r0, r1] q Q ↔ z_tg q.1 u = some 9 ∧ z_go zP 112 0 [some (.ref u), some (zi x0), some (zl x1), none] [] q (zc 116 158 L [r0, r1] Q) := ge_vc (len := 3) (pc := 155) (S := [zl x1, zi x0, .ref u, r0, r1]) (u := u) (k1 := 112) (A := [.ref u, zi x0, zl x1]) (r := [r0, r1]) (tag := 9) (n0 := 2) (zwb_le (by show 2 ≤ 4; omega)) p_116 rfl rfl rfl p_112 (by show 4 ≤ 4; omega) rfl
set_option maxRecDepth 100000 in
theorem g116_158 : z_go zP 116 158 L (zl b :: zi a :: .ref u :: S) q Q ↔ ∃ q1, z_st 101 q u (Int32.ofInt a) (zl b) = some q1 ∧ z_go zP 116 159 L S q1 Q := ge_last (len := 1) (x := (0, 0, [])) p_116 rfl
set_option maxRecDepth 100000 in
theorem g116_159 : z_go zP 116 159 [some (.ref u), l1, l2, l3, l4, l5, l6, l7, l8, l9, l10] S q Q ↔ z_go zP 116 160 [some (.ref u), l1, l2, l3, l4, l5, l6, l7, l8, l9, l10] (.ref u :: S) q Q := ge_x (len := 1) (x := (0, 0, [])) p_116 rfl rfl
set_option maxRecDepth 100000 in
theorem g116_160 : z_go zP 116 160 L (.ref u :: S) q Q ↔ ∃ v, z_get [9] 14 q.1 u = some v ∧ z_go zP 116 163 L (v :: S) q Q := ge_getf (len := 3) (x := (14, 0, [9])) p_116 rfl
set_option maxRecDepth 100000 in
theorem g116_163 : z_go zP 116 163 [l0, l1, l2, l3, some (zi a), l5, l6, l7, l8, l9, l10] S q Q ↔ z_go zP 116 165 [l0, l1, l2, l3, some (zi a), l5, l6, l7, l8, l9, l10] (zi a :: S) q Q := ge_x (len := 2) (x := (0, 0, [])) p_116 rfl rfl
set_option maxRecDepth 100000 in
theorem g116_165 : z_go zP 116 165 L (zi a :: .ref u :: S) q Q ↔ ∃ v, z_at [99, 100] q.1 u (Int32.ofInt a) = some v ∧ z_go zP 116 166 L (v :: S) q Q := ge_iald (len := 1) (x := (0, 0, [])) p_116 rfl
set_option maxRecDepth 100000 in
theorem g116_166 : z_go zP 116 166 L S q Q ↔ z_go zP 116 167 L (zi 1 :: S) q Q := ge_x (len := 1) (x := (0, 0, [])) p_116 rfl rfl
set_option maxRecDepth 100000 in
theorem g116_167 (a1 : -2147483648 ≤ a) (a2 : a < 2147483648) (b1 : -2147483648 ≤ b) (b2 : b < 2147483648) : z_go zP 116 167 L (zi b :: zi a :: S) q Q ↔ if ¬ a = b then z_go zP 116 197 L S q Q else z_go zP 116 170 L S q Q := ge_ic_ne (len := 3) (x := (0, 0, [])) a1 a2 b1 b2 p_116 rfl rfl
set_option maxRecDepth 100000 in
theorem g116_170 : z_go zP 116 170 [some (.ref u), l1, l2, l3, l4, l5, l6, l7, l8, l9, l10] S q Q ↔ z_go zP 116 171 [some (.ref u), l1, l2, l3, l4, l5, l6, l7, l8, l9, l10] (.ref u :: S) q Q := ge_x (len := 1) (x := (0, 0, [])) p_116 rfl rfl
set_option maxRecDepth 100000 in
theorem g116_171 : z_go zP 116 171 L (.ref u :: S) q Q ↔ ∃ v, z_get [9] 19 q.1 u = some v ∧ z_go zP 116 174 L (v :: S) q Q := ge_getf (len := 3) (x := (19, 0, [9])) p_116 rfl
set_option maxRecDepth 100000 in
theorem g116_174 : z_go zP 116 174 L S q Q ↔ z_go zP 116 176 L (zi 12 :: S) q Q := ge_x (len := 2) (x := (0, 0, [])) p_116 rfl rfl
set_option maxRecDepth 100000 in
theorem g116_176 : z_go zP 116 176 [l0, some (zi a), l2, l3, l4, l5, l6, l7, l8, l9, l10] S q Q ↔ z_go zP 116 177 [l0, some (zi a), l2, l3, l4, l5, l6, l7, l8, l9, l10] (zi a :: S) q Q := ge_x (len := 1) (x := (0, 0, [])) p_116 rfl rfl
set_option maxRecDepth 100000 in
theorem g116_177 : z_go zP 116 177 L (zi b :: zi a :: S) q Q ↔ z_go zP 116 178 L (zi (a * b) :: S) q Q := ge_imul (len := 1) (x := (0, 0, [])) p_116 rfl
set_option maxRecDepth 100000 in
theorem g116_178 : z_go zP 116 178 [some (.ref u), l1, l2, l3, l4, l5, l6, l7, l8, l9, l10] S q Q ↔ z_go zP 116 179 [some (.ref u), l1, l2, l3, l4, l5, l6, l7, l8, l9, l10] (.ref u :: S) q Q := ge_x (len := 1) (x := (0, 0, [])) p_116 rfl rfl
set_option maxRecDepth 100000 in
theorem g116_179 : z_go zP 116 179 L (.ref u :: S) q Q ↔ ∃ v, z_get [9] 15 q.1 u = some v ∧ z_go zP 116 182 L (v :: S) q Q := ge_getf (len := 3) (x := (15, 0, [9])) p_116 rfl
set_option maxRecDepth 100000 in
theorem g116_182 : z_go zP 116 182 [l0, l1, l2, l3, some (zi a), l5, l6, l7, l8, l9, l10] S q Q ↔ z_go zP 116 184 [l0, l1, l2, l3, some (zi a), l5, l6, l7, l8, l9, l10] (zi a :: S) q Q := ge_x (len := 2) (x := (0, 0, [])) p_116 rfl rfl
set_option maxRecDepth 100000 in
theorem g116_184 : z_go zP 116 184 L (zi a :: .ref u :: S) q Q ↔ ∃ v, z_at [99, 100] q.1 u (Int32.ofInt a) = some v ∧ z_go zP 116 185 L (v :: S) q Q := ge_iald (len := 1) (x := (0, 0, [])) p_116 rfl
set_option maxRecDepth 100000 in
theorem g116_185 : z_go zP 116 185 L (zi b :: zi a :: S) q Q ↔ z_go zP 116 186 L (zi (a + b) :: S) q Q := ge_iadd (len := 1) (x := (0, 0, [])) p_116 rfl
set_option maxRecDepth 100000 in
theorem g116_186 : z_go zP 116 186 [some (.ref u), l1, l2, l3, l4, l5, l6, l7, l8, l9, l10] S q Q ↔ z_go zP 116 187 [some (.ref u), l1, l2, l3, l4, l5, l6, l7, l8, l9, l10] (.ref u :: S) q Q := ge_x (len := 1) (x := (0, 0, [])) p_116 rfl rfl
set_option maxRecDepth 100000 in
theorem g116_187 : z_go zP 116 187 [l0, l1, l2, some (zi a), l4, l5, l6, l7, l8, l9, l10] S q Q ↔ z_go zP 116 188 [l0, l1, l2, some (zi a), l4, l5, l6, l7, l8, l9, l10] (zi a :: S) q Q := ge_x (len := 1) (x := (0, 0, [])) p_116 rfl rfl
set_option maxRecDepth 100000 in
theorem g116_188 : z_go zP 116 188 [l0, l1, l2, l3, l4, some (zl a), l6, l7, l8, l9, l10] S q Q ↔ z_go zP 116 190 [l0, l1, l2, l3, l4, some (zl a), l6, l7, l8, l9, l10] (zl a :: S) q Q := ge_x (len := 2) (x := (0, 0, [])) p_116 rfl rfl
set_option maxRecDepth 100000 in
theorem g116_190 : z_go zP 116 190 [l0, l1, l2, l3, l4, l5, l6, some (zl a), l8, l9, l10] S q Q ↔ z_go zP 116 192 [l0, l1, l2, l3, l4, l5, l6, some (zl a), l8, l9, l10] (zl a :: S) q Q := ge_x (len := 2) (x := (0, 0, [])) p_116 rfl rfl
set_option maxRecDepth 100000 in
theorem g116_192 : z_go zP 116 192 L (zl b :: zl a :: S) q Q ↔ z_go zP 116 193 L (zl (a + b) :: S) q Q := ge_ladd (len := 1) (x := (0, 0, [])) p_116 rfl
set_option maxRecDepth 100000 in
theorem g116_193 : z_go zP 116 193 L [zl x1, zi x0, .ref u, r0, r1] q Q ↔ z_tg q.1 u = some 9 ∧ z_go zP 112 0 [some (.ref u), some (zi x0), some (zl x1), none] [] q (zc 116 196 L [r0, r1] Q) := ge_vc (len := 3) (pc := 193) (S := [zl x1, zi x0, .ref u, r0, r1]) (u := u) (k1 := 112) (A := [.ref u, zi x0, zl x1]) (r := [r0, r1]) (tag := 9) (n0 := 2) (zwb_le (by show 2 ≤ 4; omega)) p_116 rfl rfl rfl p_112 (by show 4 ≤ 4; omega) rfl
set_option maxRecDepth 100000 in
theorem g116_196 : z_go zP 116 196 L (zl b :: zi a :: .ref u :: S) q Q ↔ ∃ q1, z_st 101 q u (Int32.ofInt a) (zl b) = some q1 ∧ z_go zP 116 197 L S q1 Q := ge_last (len := 1) (x := (0, 0, [])) p_116 rfl
set_option maxRecDepth 100000 in
theorem g116_197 : z_go zP 116 197 [some (.ref u), l1, l2, l3, l4, l5, l6, l7, l8, l9, l10] S q Q ↔ z_go zP 116 198 [some (.ref u), l1, l2, l3, l4, l5, l6, l7, l8, l9, l10] (.ref u :: S) q Q := ge_x (len := 1) (x := (0, 0, [])) p_116 rfl rfl
set_option maxRecDepth 100000 in
theorem g116_198 : z_go zP 116 198 L (.ref u :: S) q Q ↔ ∃ v, z_get [9] 14 q.1 u = some v ∧ z_go zP 116 201 L (v :: S) q Q := ge_getf (len := 3) (x := (14, 0, [9])) p_116 rfl
set_option maxRecDepth 100000 in
theorem g116_201 : z_go zP 116 201 [l0, l1, l2, l3, some (zi a), l5, l6, l7, l8, l9, l10] S q Q ↔ z_go zP 116 203 [l0, l1, l2, l3, some (zi a), l5, l6, l7, l8, l9, l10] (zi a :: S) q Q := ge_x (len := 2) (x := (0, 0, [])) p_116 rfl rfl
set_option maxRecDepth 100000 in
theorem g116_203 : z_go zP 116 203 L (zi a :: .ref u :: S) q Q ↔ ∃ v, z_at [99, 100] q.1 u (Int32.ofInt a) = some v ∧ z_go zP 116 204 L (v :: S) q Q := ge_iald (len := 1) (x := (0, 0, [])) p_116 rfl
set_option maxRecDepth 100000 in
theorem g116_204 : z_go zP 116 204 L S q Q ↔ z_go zP 116 205 L (zi 2 :: S) q Q := ge_x (len := 1) (x := (0, 0, [])) p_116 rfl rfl
set_option maxRecDepth 100000 in
theorem g116_205 (a1 : -2147483648 ≤ a) (a2 : a < 2147483648) (b1 : -2147483648 ≤ b) (b2 : b < 2147483648) : z_go zP 116 205 L (zi b :: zi a :: S) q Q ↔ if ¬ a = b then z_go zP 116 235 L S q Q else z_go zP 116 208 L S q Q := ge_ic_ne (len := 3) (x := (0, 0, [])) a1 a2 b1 b2 p_116 rfl rfl
set_option maxRecDepth 100000 in
theorem g116_208 : z_go zP 116 208 [some (.ref u), l1, l2, l3, l4, l5, l6, l7, l8, l9, l10] S q Q ↔ z_go zP 116 209 [some (.ref u), l1, l2, l3, l4, l5, l6, l7, l8, l9, l10] (.ref u :: S) q Q := ge_x (len := 1) (x := (0, 0, [])) p_116 rfl rfl
set_option maxRecDepth 100000 in
theorem g116_209 : z_go zP 116 209 L (.ref u :: S) q Q ↔ ∃ v, z_get [9] 19 q.1 u = some v ∧ z_go zP 116 212 L (v :: S) q Q := ge_getf (len := 3) (x := (19, 0, [9])) p_116 rfl
set_option maxRecDepth 100000 in
theorem g116_212 : z_go zP 116 212 L S q Q ↔ z_go zP 116 214 L (zi 12 :: S) q Q := ge_x (len := 2) (x := (0, 0, [])) p_116 rfl rfl
set_option maxRecDepth 100000 in
theorem g116_214 : z_go zP 116 214 [l0, some (zi a), l2, l3, l4, l5, l6, l7, l8, l9, l10] S q Q ↔ z_go zP 116 215 [l0, some (zi a), l2, l3, l4, l5, l6, l7, l8, l9, l10] (zi a :: S) q Q := ge_x (len := 1) (x := (0, 0, [])) p_116 rfl rfl
set_option maxRecDepth 100000 in
theorem g116_215 : z_go zP 116 215 L (zi b :: zi a :: S) q Q ↔ z_go zP 116 216 L (zi (a * b) :: S) q Q := ge_imul (len := 1) (x := (0, 0, [])) p_116 rfl
set_option maxRecDepth 100000 in
theorem g116_216 : z_go zP 116 216 [some (.ref u), l1, l2, l3, l4, l5, l6, l7, l8, l9, l10] S q Q ↔ z_go zP 116 217 [some (.ref u), l1, l2, l3, l4, l5, l6, l7, l8, l9, l10] (.ref u :: S) q Q := ge_x (len := 1) (x := (0, 0, [])) p_116 rfl rfl
set_option maxRecDepth 100000 in
theorem g116_217 : z_go zP 116 217 L (.ref u :: S) q Q ↔ ∃ v, z_get [9] 15 q.1 u = some v ∧ z_go zP 116 220 L (v :: S) q Q := ge_getf (len := 3) (x := (15, 0, [9])) p_116 rfl
set_option maxRecDepth 100000 in
theorem g116_220 : z_go zP 116 220 [l0, l1, l2, l3, some (zi a), l5, l6, l7, l8, l9, l10] S q Q ↔ z_go zP 116 222 [l0, l1, l2, l3, some (zi a), l5, l6, l7, l8, l9, l10] (zi a :: S) q Q := ge_x (len := 2) (x := (0, 0, [])) p_116 rfl rfl
set_option maxRecDepth 100000 in
theorem g116_222 : z_go zP 116 222 L (zi a :: .ref u :: S) q Q ↔ ∃ v, z_at [99, 100] q.1 u (Int32.ofInt a) = some v ∧ z_go zP 116 223 L (v :: S) q Q := ge_iald (len := 1) (x := (0, 0, [])) p_116 rfl
set_option maxRecDepth 100000 in
theorem g116_223 : z_go zP 116 223 L (zi b :: zi a :: S) q Q ↔ z_go zP 116 224 L (zi (a + b) :: S) q Q := ge_iadd (len := 1) (x := (0, 0, [])) p_116 rfl
set_option maxRecDepth 100000 in
theorem g116_224 : z_go zP 116 224 [some (.ref u), l1, l2, l3, l4, l5, l6, l7, l8, l9, l10] S q Q ↔ z_go zP 116 225 [some (.ref u), l1, l2, l3, l4, l5, l6, l7, l8, l9, l10] (.ref u :: S) q Q := ge_x (len := 1) (x := (0, 0, [])) p_116 rfl rfl
set_option maxRecDepth 100000 in
theorem g116_225 : z_go zP 116 225 [l0, l1, l2, some (zi a), l4, l5, l6, l7, l8, l9, l10] S q Q ↔ z_go zP 116 226 [l0, l1, l2, some (zi a), l4, l5, l6, l7, l8, l9, l10] (zi a :: S) q Q := ge_x (len := 1) (x := (0, 0, [])) p_116 rfl rfl
set_option maxRecDepth 100000 in
theorem g116_226 : z_go zP 116 226 [l0, l1, l2, l3, l4, some (zl a), l6, l7, l8, l9, l10] S q Q ↔ z_go zP 116 228 [l0, l1, l2, l3, l4, some (zl a), l6, l7, l8, l9, l10] (zl a :: S) q Q := ge_x (len := 2) (x := (0, 0, [])) p_116 rfl rfl
set_option maxRecDepth 100000 in
theorem g116_228 : z_go zP 116 228 [l0, l1, l2, l3, l4, l5, l6, some (zl a), l8, l9, l10] S q Q ↔ z_go zP 116 230 [l0, l1, l2, l3, l4, l5, l6, some (zl a), l8, l9, l10] (zl a :: S) q Q := ge_x (len := 2) (x := (0, 0, [])) p_116 rfl rfl
set_option maxRecDepth 100000 in
theorem g116_230 : z_go zP 116 230 L (zl b :: zl a :: S) q Q ↔ z_go zP 116 231 L (zl (a - b) :: S) q Q := ge_lsub (len := 1) (x := (0, 0, [])) p_116 rfl
set_option maxRecDepth 100000 in
theorem g116_231 : z_go zP 116 231 L [zl x1, zi x0, .ref u, r0, r1] q Q ↔ z_tg q.1 u = some 9 ∧ z_go zP 112 0 [some (.ref u), some (zi x0), some (zl x1), none] [] q (zc 116 234 L [r0, r1] Q) := ge_vc (len := 3) (pc := 231) (S := [zl x1, zi x0, .ref u, r0, r1]) (u := u) (k1 := 112) (A := [.ref u, zi x0, zl x1]) (r := [r0, r1]) (tag := 9) (n0 := 2) (zwb_le (by show 2 ≤ 4; omega)) p_116 rfl rfl rfl p_112 (by show 4 ≤ 4; omega) rfl
set_option maxRecDepth 100000 in
theorem g116_234 : z_go zP 116 234 L (zl b :: zi a :: .ref u :: S) q Q ↔ ∃ q1, z_st 101 q u (Int32.ofInt a) (zl b) = some q1 ∧ z_go zP 116 235 L S q1 Q := ge_last (len := 1) (x := (0, 0, [])) p_116 rfl
set_option maxRecDepth 100000 in
theorem g116_235 : z_go zP 116 235 [some (.ref u), l1, l2, l3, l4, l5, l6, l7, l8, l9, l10] S q Q ↔ z_go zP 116 236 [some (.ref u), l1, l2, l3, l4, l5, l6, l7, l8, l9, l10] (.ref u :: S) q Q := ge_x (len := 1) (x := (0, 0, [])) p_116 rfl rfl
set_option maxRecDepth 100000 in
theorem g116_236 : z_go zP 116 236 L (.ref u :: S) q Q ↔ ∃ v, z_get [9] 14 q.1 u = some v ∧ z_go zP 116 239 L (v :: S) q Q := ge_getf (len := 3) (x := (14, 0, [9])) p_116 rfl
set_option maxRecDepth 100000 in
theorem g116_239 : z_go zP 116 239 [l0, l1, l2, l3, some (zi a), l5, l6, l7, l8, l9, l10] S q Q ↔ z_go zP 116 241 [l0, l1, l2, l3, some (zi a), l5, l6, l7, l8, l9, l10] (zi a :: S) q Q := ge_x (len := 2) (x := (0, 0, [])) p_116 rfl rfl
set_option maxRecDepth 100000 in
theorem g116_241 : z_go zP 116 241 L (zi a :: .ref u :: S) q Q ↔ ∃ v, z_at [99, 100] q.1 u (Int32.ofInt a) = some v ∧ z_go zP 116 242 L (v :: S) q Q := ge_iald (len := 1) (x := (0, 0, [])) p_116 rfl
set_option maxRecDepth 100000 in
theorem g116_242 : z_go zP 116 242 L S q Q ↔ z_go zP 116 243 L (zi 3 :: S) q Q := ge_x (len := 1) (x := (0, 0, [])) p_116 rfl rfl
set_option maxRecDepth 100000 in
theorem g116_243 (a1 : -2147483648 ≤ a) (a2 : a < 2147483648) (b1 : -2147483648 ≤ b) (b2 : b < 2147483648) : z_go zP 116 243 L (zi b :: zi a :: S) q Q ↔ if ¬ a = b then z_go zP 116 268 L S q Q else z_go zP 116 246 L S q Q := ge_ic_ne (len := 3) (x := (0, 0, [])) a1 a2 b1 b2 p_116 rfl rfl
set_option maxRecDepth 100000 in
theorem g116_246 : z_go zP 116 246 [some (.ref u), l1, l2, l3, l4, l5, l6, l7, l8, l9, l10] S q Q ↔ z_go zP 116 247 [some (.ref u), l1, l2, l3, l4, l5, l6, l7, l8, l9, l10] (.ref u :: S) q Q := ge_x (len := 1) (x := (0, 0, [])) p_116 rfl rfl
set_option maxRecDepth 100000 in
theorem g116_247 : z_go zP 116 247 L (.ref u :: S) q Q ↔ ∃ v, z_get [9] 19 q.1 u = some v ∧ z_go zP 116 250 L (v :: S) q Q := ge_getf (len := 3) (x := (19, 0, [9])) p_116 rfl
set_option maxRecDepth 100000 in
theorem g116_250 : z_go zP 116 250 L S q Q ↔ z_go zP 116 252 L (zi 12 :: S) q Q := ge_x (len := 2) (x := (0, 0, [])) p_116 rfl rfl
set_option maxRecDepth 100000 in
theorem g116_252 : z_go zP 116 252 [l0, some (zi a), l2, l3, l4, l5, l6, l7, l8, l9, l10] S q Q ↔ z_go zP 116 253 [l0, some (zi a), l2, l3, l4, l5, l6, l7, l8, l9, l10] (zi a :: S) q Q := ge_x (len := 1) (x := (0, 0, [])) p_116 rfl rfl
set_option maxRecDepth 100000 in
theorem g116_253 : z_go zP 116 253 L (zi b :: zi a :: S) q Q ↔ z_go zP 116 254 L (zi (a * b) :: S) q Q := ge_imul (len := 1) (x := (0, 0, [])) p_116 rfl
set_option maxRecDepth 100000 in
theorem g116_254 : z_go zP 116 254 [some (.ref u), l1, l2, l3, l4, l5, l6, l7, l8, l9, l10] S q Q ↔ z_go zP 116 255 [some (.ref u), l1, l2, l3, l4, l5, l6, l7, l8, l9, l10] (.ref u :: S) q Q := ge_x (len := 1) (x := (0, 0, [])) p_116 rfl rfl
set_option maxRecDepth 100000 in
theorem g116_255 : z_go zP 116 255 L (.ref u :: S) q Q ↔ ∃ v, z_get [9] 15 q.1 u = some v ∧ z_go zP 116 258 L (v :: S) q Q := ge_getf (len := 3) (x := (15, 0, [9])) p_116 rfl
set_option maxRecDepth 100000 in
theorem g116_258 : z_go zP 116 258 [l0, l1, l2, l3, some (zi a), l5, l6, l7, l8, l9, l10] S q Q ↔ z_go zP 116 260 [l0, l1, l2, l3, some (zi a), l5, l6, l7, l8, l9, l10] (zi a :: S) q Q := ge_x (len := 2) (x := (0, 0, [])) p_116 rfl rfl
set_option maxRecDepth 100000 in
theorem g116_260 : z_go zP 116 260 L (zi a :: .ref u :: S) q Q ↔ ∃ v, z_at [99, 100] q.1 u (Int32.ofInt a) = some v ∧ z_go zP 116 261 L (v :: S) q Q := ge_iald (len := 1) (x := (0, 0, [])) p_116 rfl
set_option maxRecDepth 100000 in
theorem g116_261 : z_go zP 116 261 L (zi b :: zi a :: S) q Q ↔ z_go zP 116 262 L (zi (a + b) :: S) q Q := ge_iadd (len := 1) (x := (0, 0, [])) p_116 rfl
set_option maxRecDepth 100000 in
theorem g116_262 : z_go zP 116 262 [l0, l1, l2, l3, l4, some (zl a), l6, l7, l8, l9, l10] S q Q ↔ z_go zP 116 264 [l0, l1, l2, l3, l4, some (zl a), l6, l7, l8, l9, l10] (zl a :: S) q Q := ge_x (len := 2) (x := (0, 0, [])) p_116 rfl rfl
set_option maxRecDepth 100000 in
theorem g116_264 : z_go zP 116 264 [l0, l1, l2, l3, l4, l5, l6, some (zl a), l8, l9, l10] S q Q ↔ z_go zP 116 266 [l0, l1, l2, l3, l4, l5, l6, some (zl a), l8, l9, l10] (zl a :: S) q Q := ge_x (len := 2) (x := (0, 0, [])) p_116 rfl rfl
set_option maxRecDepth 100000 in
theorem g116_266 : z_go zP 116 266 L (zl b :: zl a :: S) q Q ↔ z_go zP 116 267 L (zl (lland a b) :: S) q Q := ge_land (len := 1) (x := (0, 0, [])) p_116 rfl
set_option maxRecDepth 100000 in
theorem g116_267 : z_go zP 116 267 L (zl b :: zi a :: .ref u :: S) q Q ↔ ∃ q1, z_st 101 q u (Int32.ofInt a) (zl b) = some q1 ∧ z_go zP 116 268 L S q1 Q := ge_last (len := 1) (x := (0, 0, [])) p_116 rfl
set_option maxRecDepth 100000 in
theorem g116_268 : z_go zP 116 268 [some (.ref u), l1, l2, l3, l4, l5, l6, l7, l8, l9, l10] S q Q ↔ z_go zP 116 269 [some (.ref u), l1, l2, l3, l4, l5, l6, l7, l8, l9, l10] (.ref u :: S) q Q := ge_x (len := 1) (x := (0, 0, [])) p_116 rfl rfl
set_option maxRecDepth 100000 in
theorem g116_269 : z_go zP 116 269 L (.ref u :: S) q Q ↔ ∃ v, z_get [9] 14 q.1 u = some v ∧ z_go zP 116 272 L (v :: S) q Q := ge_getf (len := 3) (x := (14, 0, [9])) p_116 rfl
set_option maxRecDepth 100000 in
theorem g116_272 : z_go zP 116 272 [l0, l1, l2, l3, some (zi a), l5, l6, l7, l8, l9, l10] S q Q ↔ z_go zP 116 274 [l0, l1, l2, l3, some (zi a), l5, l6, l7, l8, l9, l10] (zi a :: S) q Q := ge_x (len := 2) (x := (0, 0, [])) p_116 rfl rfl
set_option maxRecDepth 100000 in
theorem g116_274 : z_go zP 116 274 L (zi a :: .ref u :: S) q Q ↔ ∃ v, z_at [99, 100] q.1 u (Int32.ofInt a) = some v ∧ z_go zP 116 275 L (v :: S) q Q := ge_iald (len := 1) (x := (0, 0, [])) p_116 rfl
set_option maxRecDepth 100000 in
theorem g116_275 : z_go zP 116 275 L S q Q ↔ z_go zP 116 276 L (zi 4 :: S) q Q := ge_x (len := 1) (x := (0, 0, [])) p_116 rfl rfl
set_option maxRecDepth 100000 in
theorem g116_276 (a1 : -2147483648 ≤ a) (a2 : a < 2147483648) (b1 : -2147483648 ≤ b) (b2 : b < 2147483648) : z_go zP 116 276 L (zi b :: zi a :: S) q Q ↔ if ¬ a = b then z_go zP 116 303 L S q Q else z_go zP 116 279 L S q Q := ge_ic_ne (len := 3) (x := (0, 0, [])) a1 a2 b1 b2 p_116 rfl rfl
set_option maxRecDepth 100000 in
theorem g116_279 : z_go zP 116 279 [some (.ref u), l1, l2, l3, l4, l5, l6, l7, l8, l9, l10] S q Q ↔ z_go zP 116 280 [some (.ref u), l1, l2, l3, l4, l5, l6, l7, l8, l9, l10] (.ref u :: S) q Q := ge_x (len := 1) (x := (0, 0, [])) p_116 rfl rfl
set_option maxRecDepth 100000 in
theorem g116_280 : z_go zP 116 280 L (.ref u :: S) q Q ↔ ∃ v, z_get [9] 19 q.1 u = some v ∧ z_go zP 116 283 L (v :: S) q Q := ge_getf (len := 3) (x := (19, 0, [9])) p_116 rfl
set_option maxRecDepth 100000 in
theorem g116_283 : z_go zP 116 283 L S q Q ↔ z_go zP 116 285 L (zi 12 :: S) q Q := ge_x (len := 2) (x := (0, 0, [])) p_116 rfl rfl
set_option maxRecDepth 100000 in
theorem g116_285 : z_go zP 116 285 [l0, some (zi a), l2, l3, l4, l5, l6, l7, l8, l9, l10] S q Q ↔ z_go zP 116 286 [l0, some (zi a), l2, l3, l4, l5, l6, l7, l8, l9, l10] (zi a :: S) q Q := ge_x (len := 1) (x := (0, 0, [])) p_116 rfl rfl
set_option maxRecDepth 100000 in
theorem g116_286 : z_go zP 116 286 L (zi b :: zi a :: S) q Q ↔ z_go zP 116 287 L (zi (a * b) :: S) q Q := ge_imul (len := 1) (x := (0, 0, [])) p_116 rfl
set_option maxRecDepth 100000 in
theorem g116_287 : z_go zP 116 287 [some (.ref u), l1, l2, l3, l4, l5, l6, l7, l8, l9, l10] S q Q ↔ z_go zP 116 288 [some (.ref u), l1, l2, l3, l4, l5, l6, l7, l8, l9, l10] (.ref u :: S) q Q := ge_x (len := 1) (x := (0, 0, [])) p_116 rfl rfl
set_option maxRecDepth 100000 in
theorem g116_288 : z_go zP 116 288 L (.ref u :: S) q Q ↔ ∃ v, z_get [9] 15 q.1 u = some v ∧ z_go zP 116 291 L (v :: S) q Q := ge_getf (len := 3) (x := (15, 0, [9])) p_116 rfl
set_option maxRecDepth 100000 in
theorem g116_291 : z_go zP 116 291 [l0, l1, l2, l3, some (zi a), l5, l6, l7, l8, l9, l10] S q Q ↔ z_go zP 116 293 [l0, l1, l2, l3, some (zi a), l5, l6, l7, l8, l9, l10] (zi a :: S) q Q := ge_x (len := 2) (x := (0, 0, [])) p_116 rfl rfl
set_option maxRecDepth 100000 in
theorem g116_293 : z_go zP 116 293 L (zi a :: .ref u :: S) q Q ↔ ∃ v, z_at [99, 100] q.1 u (Int32.ofInt a) = some v ∧ z_go zP 116 294 L (v :: S) q Q := ge_iald (len := 1) (x := (0, 0, [])) p_116 rfl
set_option maxRecDepth 100000 in
theorem g116_294 : z_go zP 116 294 L (zi b :: zi a :: S) q Q ↔ z_go zP 116 295 L (zi (a + b) :: S) q Q := ge_iadd (len := 1) (x := (0, 0, [])) p_116 rfl
set_option maxRecDepth 100000 in
theorem g116_295 : z_go zP 116 295 [some (.ref u), l1, l2, l3, l4, l5, l6, l7, l8, l9, l10] S q Q ↔ z_go zP 116 296 [some (.ref u), l1, l2, l3, l4, l5, l6, l7, l8, l9, l10] (.ref u :: S) q Q := ge_x (len := 1) (x := (0, 0, [])) p_116 rfl rfl
set_option maxRecDepth 100000 in
theorem g116_296 : z_go zP 116 296 L (.ref u :: S) q Q ↔ ∃ v, z_get [9] 19 q.1 u = some v ∧ z_go zP 116 299 L (v :: S) q Q := ge_getf (len := 3) (x := (19, 0, [9])) p_116 rfl
set_option maxRecDepth 100000 in
theorem g116_299 : z_go zP 116 299 [l0, l1, l2, l3, l4, l5, l6, l7, l8, l9, some (zi a)] S q Q ↔ z_go zP 116 301 [l0, l1, l2, l3, l4, l5, l6, l7, l8, l9, some (zi a)] (zi a :: S) q Q := ge_x (len := 2) (x := (0, 0, [])) p_116 rfl rfl
set_option maxRecDepth 100000 in
theorem g116_301 : z_go zP 116 301 L (zi a :: .ref u :: S) q Q ↔ ∃ v, z_at [101] q.1 u (Int32.ofInt a) = some v ∧ z_go zP 116 302 L (v :: S) q Q := ge_lald (len := 1) (x := (0, 0, [])) p_116 rfl
set_option maxRecDepth 100000 in
theorem g116_302 : z_go zP 116 302 L (zl b :: zi a :: .ref u :: S) q Q ↔ ∃ q1, z_st 101 q u (Int32.ofInt a) (zl b) = some q1 ∧ z_go zP 116 303 L S q1 Q := ge_last (len := 1) (x := (0, 0, [])) p_116 rfl
set_option maxRecDepth 100000 in
theorem g116_303 : z_go zP 116 303 [some (.ref u), l1, l2, l3, l4, l5, l6, l7, l8, l9, l10] S q Q ↔ z_go zP 116 304 [some (.ref u), l1, l2, l3, l4, l5, l6, l7, l8, l9, l10] (.ref u :: S) q Q := ge_x (len := 1) (x := (0, 0, [])) p_116 rfl rfl
set_option maxRecDepth 100000 in
theorem g116_304 : z_go zP 116 304 L (.ref u :: S) q Q ↔ ∃ v, z_get [9] 14 q.1 u = some v ∧ z_go zP 116 307 L (v :: S) q Q := ge_getf (len := 3) (x := (14, 0, [9])) p_116 rfl
set_option maxRecDepth 100000 in
theorem g116_307 : z_go zP 116 307 [l0, l1, l2, l3, some (zi a), l5, l6, l7, l8, l9, l10] S q Q ↔ z_go zP 116 309 [l0, l1, l2, l3, some (zi a), l5, l6, l7, l8, l9, l10] (zi a :: S) q Q := ge_x (len := 2) (x := (0, 0, [])) p_116 rfl rfl
set_option maxRecDepth 100000 in
theorem g116_309 : z_go zP 116 309 L (zi a :: .ref u :: S) q Q ↔ ∃ v, z_at [99, 100] q.1 u (Int32.ofInt a) = some v ∧ z_go zP 116 310 L (v :: S) q Q := ge_iald (len := 1) (x := (0, 0, [])) p_116 rfl
set_option maxRecDepth 100000 in
theorem g116_310 : z_go zP 116 310 L S q Q ↔ z_go zP 116 311 L (zi 5 :: S) q Q := ge_x (len := 1) (x := (0, 0, [])) p_116 rfl rfl
set_option maxRecDepth 100000 in
theorem g116_311 (a1 : -2147483648 ≤ a) (a2 : a < 2147483648) (b1 : -2147483648 ≤ b) (b2 : b < 2147483648) : z_go zP 116 311 L (zi b :: zi a :: S) q Q ↔ if ¬ a = b then z_go zP 116 323 L S q Q else z_go zP 116 314 L S q Q := ge_ic_ne (len := 3) (x := (0, 0, [])) a1 a2 b1 b2 p_116 rfl rfl
set_option maxRecDepth 100000 in
theorem g116_314 : z_go zP 116 314 [some (.ref u), l1, l2, l3, l4, l5, l6, l7, l8, l9, l10] S q Q ↔ z_go zP 116 315 [some (.ref u), l1, l2, l3, l4, l5, l6, l7, l8, l9, l10] (.ref u :: S) q Q := ge_x (len := 1) (x := (0, 0, [])) p_116 rfl rfl
set_option maxRecDepth 100000 in
theorem g116_315 : z_go zP 116 315 L (.ref u :: S) q Q ↔ ∃ v, z_get [9] 19 q.1 u = some v ∧ z_go zP 116 318 L (v :: S) q Q := ge_getf (len := 3) (x := (19, 0, [9])) p_116 rfl
set_option maxRecDepth 100000 in
theorem g116_318 : z_go zP 116 318 [l0, l1, l2, l3, l4, l5, l6, l7, l8, l9, some (zi a)] S q Q ↔ z_go zP 116 320 [l0, l1, l2, l3, l4, l5, l6, l7, l8, l9, some (zi a)] (zi a :: S) q Q := ge_x (len := 2) (x := (0, 0, [])) p_116 rfl rfl
set_option maxRecDepth 100000 in
theorem g116_320 : z_go zP 116 320 [l0, l1, l2, l3, l4, l5, l6, some (zl a), l8, l9, l10] S q Q ↔ z_go zP 116 322 [l0, l1, l2, l3, l4, l5, l6, some (zl a), l8, l9, l10] (zl a :: S) q Q := ge_x (len := 2) (x := (0, 0, [])) p_116 rfl rfl
set_option maxRecDepth 100000 in
theorem g116_322 : z_go zP 116 322 L (zl b :: zi a :: .ref u :: S) q Q ↔ ∃ q1, z_st 101 q u (Int32.ofInt a) (zl b) = some q1 ∧ z_go zP 116 323 L S q1 Q := ge_last (len := 1) (x := (0, 0, [])) p_116 rfl
set_option maxRecDepth 100000 in
theorem g116_323 : z_go zP 116 323 [some (.ref u), l1, l2, l3, l4, l5, l6, l7, l8, l9, l10] S q Q ↔ z_go zP 116 324 [some (.ref u), l1, l2, l3, l4, l5, l6, l7, l8, l9, l10] (.ref u :: S) q Q := ge_x (len := 1) (x := (0, 0, [])) p_116 rfl rfl
set_option maxRecDepth 100000 in
theorem g116_324 : z_go zP 116 324 L (.ref u :: S) q Q ↔ ∃ v, z_get [9] 22 q.1 u = some v ∧ z_go zP 116 327 L (v :: S) q Q := ge_getf (len := 3) (x := (22, 0, [9])) p_116 rfl
set_option maxRecDepth 100000 in
theorem g116_327 : z_go zP 116 327 [l0, some (zi a), l2, l3, l4, l5, l6, l7, l8, l9, l10] S q Q ↔ z_go zP 116 328 [l0, some (zi a), l2, l3, l4, l5, l6, l7, l8, l9, l10] (zi a :: S) q Q := ge_x (len := 1) (x := (0, 0, [])) p_116 rfl rfl
set_option maxRecDepth 100000 in
theorem g116_328 : z_go zP 116 328 [some (.ref u), l1, l2, l3, l4, l5, l6, l7, l8, l9, l10] S q Q ↔ z_go zP 116 329 [some (.ref u), l1, l2, l3, l4, l5, l6, l7, l8, l9, l10] (.ref u :: S) q Q := ge_x (len := 1) (x := (0, 0, [])) p_116 rfl rfl
set_option maxRecDepth 100000 in
theorem g116_329 : z_go zP 116 329 L (.ref u :: S) q Q ↔ ∃ v, z_get [9] 14 q.1 u = some v ∧ z_go zP 116 332 L (v :: S) q Q := ge_getf (len := 3) (x := (14, 0, [9])) p_116 rfl
set_option maxRecDepth 100000 in
theorem g116_332 : z_go zP 116 332 [l0, l1, l2, l3, some (zi a), l5, l6, l7, l8, l9, l10] S q Q ↔ z_go zP 116 334 [l0, l1, l2, l3, some (zi a), l5, l6, l7, l8, l9, l10] (zi a :: S) q Q := ge_x (len := 2) (x := (0, 0, [])) p_116 rfl rfl
set_option maxRecDepth 100000 in
theorem g116_334 : z_go zP 116 334 L (zi a :: .ref u :: S) q Q ↔ ∃ v, z_at [99, 100] q.1 u (Int32.ofInt a) = some v ∧ z_go zP 116 335 L (v :: S) q Q := ge_iald (len := 1) (x := (0, 0, [])) p_116 rfl
set_option maxRecDepth 100000 in
theorem g116_335 : z_go zP 116 335 L S q Q ↔ z_go zP 116 337 L (zi 7 :: S) q Q := ge_x (len := 2) (x := (0, 0, [])) p_116 rfl rfl
set_option maxRecDepth 100000 in
theorem g116_337 (a1 : -2147483648 ≤ a) (a2 : a < 2147483648) (b1 : -2147483648 ≤ b) (b2 : b < 2147483648) : z_go zP 116 337 L (zi b :: zi a :: S) q Q ↔ if ¬ a = b then z_go zP 116 344 L S q Q else z_go zP 116 340 L S q Q := ge_ic_ne (len := 3) (x := (0, 0, [])) a1 a2 b1 b2 p_116 rfl rfl
set_option maxRecDepth 100000 in
theorem g116_340 : z_go zP 116 340 L S q Q ↔ z_go zP 116 341 L (zi 1 :: S) q Q := ge_x (len := 1) (x := (0, 0, [])) p_116 rfl rfl
set_option maxRecDepth 100000 in
theorem g116_341 : z_go zP 116 341 L S q Q ↔ z_go zP 116 345 L S q Q := ge_to (len := 3) (x := (0, 0, [])) p_116 rfl rfl rfl
set_option maxRecDepth 100000 in
theorem g116_344 : z_go zP 116 344 L S q Q ↔ z_go zP 116 345 L (zi 0 :: S) q Q := ge_x (len := 1) (x := (0, 0, [])) p_116 rfl rfl
set_option maxRecDepth 100000 in
theorem g116_345 (hb : b = 0 ∨ b = 1) : z_go zP 116 345 L (zi b :: zi a :: .ref u :: S) q Q ↔ ∃ q1, z_st 102 q u (Int32.ofInt a) (zi b) = some q1 ∧ z_go zP 116 346 L S q1 Q := ge_bast (len := 1) (x := (0, 0, [])) hb p_116 rfl
set_option maxRecDepth 100000 in
theorem g116_346 : z_go zP 116 346 [some (.ref u), l1, l2, l3, l4, l5, l6, l7, l8, l9, l10] S q Q ↔ z_go zP 116 347 [some (.ref u), l1, l2, l3, l4, l5, l6, l7, l8, l9, l10] (.ref u :: S) q Q := ge_x (len := 1) (x := (0, 0, [])) p_116 rfl rfl
set_option maxRecDepth 100000 in
theorem g116_347 : z_go zP 116 347 L (.ref u :: S) q Q ↔ ∃ v, z_get [9] 20 q.1 u = some v ∧ z_go zP 116 350 L (v :: S) q Q := ge_getf (len := 3) (x := (20, 0, [9])) p_116 rfl
set_option maxRecDepth 100000 in
theorem g116_350 : z_go zP 116 350 [l0, some (zi a), l2, l3, l4, l5, l6, l7, l8, l9, l10] S q Q ↔ z_go zP 116 351 [l0, some (zi a), l2, l3, l4, l5, l6, l7, l8, l9, l10] (zi a :: S) q Q := ge_x (len := 1) (x := (0, 0, [])) p_116 rfl rfl
set_option maxRecDepth 100000 in
theorem g116_351 : z_go zP 116 351 [l0, l1, l2, l3, l4, l5, l6, l7, l8, some (zi a), l10] S q Q ↔ z_go zP 116 353 [l0, l1, l2, l3, l4, l5, l6, l7, l8, some (zi a), l10] (zi a :: S) q Q := ge_x (len := 2) (x := (0, 0, [])) p_116 rfl rfl
set_option maxRecDepth 100000 in
theorem g116_353 : z_go zP 116 353 L (zi b :: zi a :: .ref u :: S) q Q ↔ ∃ q1, z_st 100 q u (Int32.ofInt a) (zi b) = some q1 ∧ z_go zP 116 354 L S q1 Q := ge_iast (len := 1) (x := (0, 0, [])) p_116 rfl
set_option maxRecDepth 100000 in
theorem g116_354 : z_go zP 116 354 [some (.ref u), l1, l2, l3, l4, l5, l6, l7, l8, l9, l10] S q Q ↔ z_go zP 116 355 [some (.ref u), l1, l2, l3, l4, l5, l6, l7, l8, l9, l10] (.ref u :: S) q Q := ge_x (len := 1) (x := (0, 0, [])) p_116 rfl rfl
set_option maxRecDepth 100000 in
theorem g116_355 : z_go zP 116 355 L (.ref u :: S) q Q ↔ ∃ v, z_get [9] 21 q.1 u = some v ∧ z_go zP 116 358 L (v :: S) q Q := ge_getf (len := 3) (x := (21, 0, [9])) p_116 rfl
set_option maxRecDepth 100000 in
theorem g116_358 : z_go zP 116 358 [l0, some (zi a), l2, l3, l4, l5, l6, l7, l8, l9, l10] S q Q ↔ z_go zP 116 359 [l0, some (zi a), l2, l3, l4, l5, l6, l7, l8, l9, l10] (zi a :: S) q Q := ge_x (len := 1) (x := (0, 0, [])) p_116 rfl rfl
set_option maxRecDepth 100000 in
theorem g116_359 : z_go zP 116 359 L (zi a :: .ref u :: S) q Q ↔ z_go zP 116 360 L (zi a :: .ref u :: zi a :: .ref u :: S) q Q := ge_x (len := 1) (x := (0, 0, [])) p_116 rfl rfl
set_option maxRecDepth 100000 in
theorem g116_360 : z_go zP 116 360 L (zi a :: .ref u :: S) q Q ↔ ∃ v, z_at [99, 100] q.1 u (Int32.ofInt a) = some v ∧ z_go zP 116 361 L (v :: S) q Q := ge_iald (len := 1) (x := (0, 0, [])) p_116 rfl
set_option maxRecDepth 100000 in
theorem g116_361 : z_go zP 116 361 L S q Q ↔ z_go zP 116 362 L (zi 1 :: S) q Q := ge_x (len := 1) (x := (0, 0, [])) p_116 rfl rfl
set_option maxRecDepth 100000 in
theorem g116_362 : z_go zP 116 362 L (zi b :: zi a :: S) q Q ↔ z_go zP 116 363 L (zi (a + b) :: S) q Q := ge_iadd (len := 1) (x := (0, 0, [])) p_116 rfl
set_option maxRecDepth 100000 in
theorem g116_363 : z_go zP 116 363 L (zi b :: zi a :: .ref u :: S) q Q ↔ ∃ q1, z_st 100 q u (Int32.ofInt a) (zi b) = some q1 ∧ z_go zP 116 364 L S q1 Q := ge_iast (len := 1) (x := (0, 0, [])) p_116 rfl
set_option maxRecDepth 100000 in
theorem g116_364 : z_go zP 116 364 L [] q Q ↔ Q (.inl none) q := z_go_rt (len := 1) (x := (0, 0, [])) p_116 rfl rfl rfl
theorem g117_0 : z_go zP 117 0 [some (.ref u), l1] S q Q ↔ z_go zP 117 1 [some (.ref u), l1] (.ref u :: S) q Q := ge_x (len := 1) (x := (0, 0, [])) p_117 rfl rfl
theorem g117_1 : z_go zP 117 1 [l0, some (zi a)] S q Q ↔ z_go zP 117 2 [l0, some (zi a)] (zi a :: S) q Q := ge_x (len := 1) (x := (0, 0, [])) p_117 rfl rfl
theorem g117_2 : z_go zP 117 2 L S q Q ↔ z_go zP 117 3 L (zi 2 :: S) q Q := ge_x (len := 1) (x := (0, 0, [])) p_117 rfl rfl
theorem g117_3 : z_go zP 117 3 L S q Q ↔ z_go zP 117 4 L (zi 1 :: S) q Q := ge_x (len := 1) (x := (0, 0, [])) p_117 rfl rfl
theorem g117_4 : z_go zP 117 4 L [zi x2, zi x1, zi x0, .ref u] q Q ↔ z_tg q.1 u = some 9 ∧ z_go zP 100 0 [some (.ref u), some (zi x0), some (zi x1), some (zi x2), none] [] q (zc 117 7 L [] Q) := ge_vc (len := 3) (pc := 4) (S := [zi x2, zi x1, zi x0, .ref u]) (u := u) (k1 := 100) (A := [.ref u, zi x0, zi x1, zi x2]) (r := []) (tag := 9) (n0 := 3) (zwb_le (by show 0 ≤ 4; omega)) p_117 rfl rfl rfl p_100 (by show 4 ≤ 5; omega) rfl
theorem g117_7 (a1 : -2147483648 ≤ a) (a2 : a < 2147483648) : z_go zP 117 7 L (zi a :: S) q Q ↔ if ¬ a = 0 then z_go zP 117 12 L S q Q else z_go zP 117 10 L S q Q := ge_if_ne (len := 3) (x := (0, 0, [])) a1 a2 p_117 rfl rfl
theorem g117_7b {c : Prop} [Decidable c] : z_go zP 117 7 L (zi (bI c) :: S) q Q ↔ if c then z_go zP 117 12 L S q Q else z_go zP 117 10 L S q Q := ge_if_ne_b (len := 3) (x := (0, 0, [])) p_117 rfl rfl
theorem g117_10 : z_go zP 117 10 L S q Q ↔ z_go zP 117 11 L (zi 0 :: S) q Q := ge_x (len := 1) (x := (0, 0, [])) p_117 rfl rfl
theorem g117_11 : z_go zP 117 11 L [zi a] q Q ↔ Q (.inl (some (zi a))) q := ge_rti (len := 1) (x := (0, 0, [])) p_117 rfl rfl
theorem g117_12 : z_go zP 117 12 [some (.ref u), l1] S q Q ↔ z_go zP 117 13 [some (.ref u), l1] (.ref u :: S) q Q := ge_x (len := 1) (x := (0, 0, [])) p_117 rfl rfl
theorem g117_13 : z_go zP 117 13 L (.ref u :: S) q Q ↔ ∃ v, z_get [9] 13 q.1 u = some v ∧ z_go zP 117 16 L (v :: S) q Q := ge_getf (len := 3) (x := (13, 0, [9])) p_117 rfl
theorem g117_16 : z_go zP 117 16 [l0, some (zi a)] S q Q ↔ z_go zP 117 17 [l0, some (zi a)] (zi a :: S) q Q := ge_x (len := 1) (x := (0, 0, [])) p_117 rfl rfl
theorem g117_17 : z_go zP 117 17 L (zi a :: .ref u :: S) q Q ↔ ∃ v, z_at [99, 100] q.1 u (Int32.ofInt a) = some v ∧ z_go zP 117 18 L (v :: S) q Q := ge_iald (len := 1) (x := (0, 0, [])) p_117 rfl
theorem g117_18 (a1 : -2147483648 ≤ a) (a2 : a < 2147483648) : z_go zP 117 18 L (zi a :: S) q Q ↔ if ¬ a = 0 then z_go zP 117 28 L S q Q else z_go zP 117 21 L S q Q := ge_if_ne (len := 3) (x := (0, 0, [])) a1 a2 p_117 rfl rfl
theorem g117_18b {c : Prop} [Decidable c] : z_go zP 117 18 L (zi (bI c) :: S) q Q ↔ if c then z_go zP 117 28 L S q Q else z_go zP 117 21 L S q Q := ge_if_ne_b (len := 3) (x := (0, 0, [])) p_117 rfl rfl
theorem g117_21 : z_go zP 117 21 [some (.ref u), l1] S q Q ↔ z_go zP 117 22 [some (.ref u), l1] (.ref u :: S) q Q := ge_x (len := 1) (x := (0, 0, [])) p_117 rfl rfl
theorem g117_22 : z_go zP 117 22 L S q Q ↔ z_go zP 117 23 L (zi 5 :: S) q Q := ge_x (len := 1) (x := (0, 0, [])) p_117 rfl rfl
theorem g117_23 : z_go zP 117 23 L S q Q ↔ z_go zP 117 24 L (zi 1 :: S) q Q := ge_x (len := 1) (x := (0, 0, [])) p_117 rfl rfl
theorem g117_24 : z_go zP 117 24 L [zi x1, zi x0, .ref u] q Q ↔ z_tg q.1 u = some 9 ∧ z_go zP 98 0 [some (.ref u), some (zi x0), some (zi x1)] [] q (zc 117 27 L [] Q) := ge_vc (len := 3) (pc := 24) (S := [zi x1, zi x0, .ref u]) (u := u) (k1 := 98) (A := [.ref u, zi x0, zi x1]) (r := []) (tag := 9) (n0 := 2) (zwb_le (by show 0 ≤ 4; omega)) p_117 rfl rfl rfl p_98 (by show 3 ≤ 3; omega) rfl
theorem g117_27 : z_go zP 117 27 L [zi a] q Q ↔ Q (.inl (some (zi a))) q := ge_rti (len := 1) (x := (0, 0, [])) p_117 rfl rfl
theorem g117_28 : z_go zP 117 28 [some (.ref u), l1] S q Q ↔ z_go zP 117 29 [some (.ref u), l1] (.ref u :: S) q Q := ge_x (len := 1) (x := (0, 0, [])) p_117 rfl rfl
theorem g117_29 : z_go zP 117 29 L S q Q ↔ z_go zP 117 30 L (zi 1 :: S) q Q := ge_x (len := 1) (x := (0, 0, [])) p_117 rfl rfl
theorem g117_30 : z_go zP 117 30 L [zi x0, .ref u] q Q ↔ z_tg q.1 u = some 9 ∧ z_go zP 103 0 [some (.ref u), some (zi x0)] [] q (zc 117 33 L [] Q) := ge_vc (len := 3) (pc := 30) (S := [zi x0, .ref u]) (u := u) (k1 := 103) (A := [.ref u, zi x0]) (r := []) (tag := 9) (n0 := 1) (zwb_le (by show 0 ≤ 4; omega)) p_117 rfl rfl rfl p_103 (by show 2 ≤ 2; omega) rfl
theorem g117_33 (a1 : -2147483648 ≤ a) (a2 : a < 2147483648) : z_go zP 117 33 L (zi a :: S) q Q ↔ if a = 0 then z_go zP 117 38 L S q Q else z_go zP 117 36 L S q Q := ge_if_eq (len := 3) (x := (0, 0, [])) a1 a2 p_117 rfl rfl
theorem g117_33b {c : Prop} [Decidable c] : z_go zP 117 33 L (zi (bI c) :: S) q Q ↔ if c then z_go zP 117 36 L S q Q else z_go zP 117 38 L S q Q := ge_if_eq_b (len := 3) (x := (0, 0, [])) p_117 rfl rfl
theorem g117_36 : z_go zP 117 36 L S q Q ↔ z_go zP 117 37 L (zi 0 :: S) q Q := ge_x (len := 1) (x := (0, 0, [])) p_117 rfl rfl
theorem g117_37 : z_go zP 117 37 L [zi a] q Q ↔ Q (.inl (some (zi a))) q := ge_rti (len := 1) (x := (0, 0, [])) p_117 rfl rfl
theorem g117_38 : z_go zP 117 38 [some (.ref u), l1] S q Q ↔ z_go zP 117 39 [some (.ref u), l1] (.ref u :: S) q Q := ge_x (len := 1) (x := (0, 0, [])) p_117 rfl rfl
theorem g117_39 : z_go zP 117 39 [some (.ref u), l1] S q Q ↔ z_go zP 117 40 [some (.ref u), l1] (.ref u :: S) q Q := ge_x (len := 1) (x := (0, 0, [])) p_117 rfl rfl
theorem g117_40 : z_go zP 117 40 L S q Q ↔ z_go zP 117 41 L (zi 3 :: S) q Q := ge_x (len := 1) (x := (0, 0, [])) p_117 rfl rfl
theorem g117_41 : z_go zP 117 41 [l0, some (zi a)] S q Q ↔ z_go zP 117 42 [l0, some (zi a)] (zi a :: S) q Q := ge_x (len := 1) (x := (0, 0, [])) p_117 rfl rfl
theorem g117_42 : z_go zP 117 42 L S q Q ↔ z_go zP 117 43 L (zi 0 :: S) q Q := ge_x (len := 1) (x := (0, 0, [])) p_117 rfl rfl
theorem g117_43 : z_go zP 117 43 L [zi x2, zi x1, zi x0, .ref u, r0] q Q ↔ z_tg q.1 u = some 9 ∧ z_go zP 102 0 [some (.ref u), some (zi x0), some (zi x1), some (zi x2)] [] q (zc 117 46 L [r0] Q) := ge_vc (len := 3) (pc := 43) (S := [zi x2, zi x1, zi x0, .ref u, r0]) (u := u) (k1 := 102) (A := [.ref u, zi x0, zi x1, zi x2]) (r := [r0]) (tag := 9) (n0 := 3) (zwb_le (by show 1 ≤ 4; omega)) p_117 rfl rfl rfl p_102 (by show 4 ≤ 4; omega) rfl
theorem g117_46 : z_go zP 117 46 L [zi x0, .ref u] q Q ↔ z_tg q.1 u = some 9 ∧ z_go zP 111 0 [some (.ref u), some (zi x0), none] [] q (zc 117 49 L [] Q) := ge_vc (len := 3) (pc := 46) (S := [zi x0, .ref u]) (u := u) (k1 := 111) (A := [.ref u, zi x0]) (r := []) (tag := 9) (n0 := 1) (zwb_le (by show 0 ≤ 4; omega)) p_117 rfl rfl rfl p_111 (by show 2 ≤ 3; omega) rfl
theorem g117_49 : z_go zP 117 49 [some (.ref u), l1] S q Q ↔ z_go zP 117 50 [some (.ref u), l1] (.ref u :: S) q Q := ge_x (len := 1) (x := (0, 0, [])) p_117 rfl rfl
theorem g117_50 : z_go zP 117 50 L (.ref u :: S) q Q ↔ ∃ v, z_get [9] 2 q.1 u = some v ∧ z_go zP 117 53 L (v :: S) q Q := ge_getf (len := 3) (x := (2, 0, [9])) p_117 rfl
theorem g117_53 : z_go zP 117 53 L [zi a] q Q ↔ Q (.inl (some (zi a))) q := ge_rti (len := 1) (x := (0, 0, [])) p_117 rfl rfl
theorem g118_0 : z_go zP 118 0 [some (.ref u), l1, l2, l3] S q Q ↔ z_go zP 118 1 [some (.ref u), l1, l2, l3] (.ref u :: S) q Q := ge_x (len := 1) (x := (0, 0, [])) p_118 rfl rfl
theorem g118_1 : z_go zP 118 1 [l0, some (zi a), l2, l3] S q Q ↔ z_go zP 118 2 [l0, some (zi a), l2, l3] (zi a :: S) q Q := ge_x (len := 1) (x := (0, 0, [])) p_118 rfl rfl
theorem g118_2 : z_go zP 118 2 L S q Q ↔ z_go zP 118 3 L (zi 3 :: S) q Q := ge_x (len := 1) (x := (0, 0, [])) p_118 rfl rfl
theorem g118_3 : z_go zP 118 3 L S q Q ↔ z_go zP 118 4 L (zi 1 :: S) q Q := ge_x (len := 1) (x := (0, 0, [])) p_118 rfl rfl
theorem g118_4 : z_go zP 118 4 L [zi x2, zi x1, zi x0, .ref u] q Q ↔ z_tg q.1 u = some 9 ∧ z_go zP 100 0 [some (.ref u), some (zi x0), some (zi x1), some (zi x2), none] [] q (zc 118 7 L [] Q) := ge_vc (len := 3) (pc := 4) (S := [zi x2, zi x1, zi x0, .ref u]) (u := u) (k1 := 100) (A := [.ref u, zi x0, zi x1, zi x2]) (r := []) (tag := 9) (n0 := 3) (zwb_le (by show 0 ≤ 4; omega)) p_118 rfl rfl rfl p_100 (by show 4 ≤ 5; omega) rfl
theorem g118_7 (a1 : -2147483648 ≤ a) (a2 : a < 2147483648) : z_go zP 118 7 L (zi a :: S) q Q ↔ if ¬ a = 0 then z_go zP 118 12 L S q Q else z_go zP 118 10 L S q Q := ge_if_ne (len := 3) (x := (0, 0, [])) a1 a2 p_118 rfl rfl
theorem g118_7b {c : Prop} [Decidable c] : z_go zP 118 7 L (zi (bI c) :: S) q Q ↔ if c then z_go zP 118 12 L S q Q else z_go zP 118 10 L S q Q := ge_if_ne_b (len := 3) (x := (0, 0, [])) p_118 rfl rfl
theorem g118_10 : z_go zP 118 10 L S q Q ↔ z_go zP 118 11 L (zi 0 :: S) q Q := ge_x (len := 1) (x := (0, 0, [])) p_118 rfl rfl
theorem g118_11 : z_go zP 118 11 L [zi a] q Q ↔ Q (.inl (some (zi a))) q := ge_rti (len := 1) (x := (0, 0, [])) p_118 rfl rfl
theorem g118_12 : z_go zP 118 12 [l0, l1, some (zi a), l3] S q Q ↔ z_go zP 118 13 [l0, l1, some (zi a), l3] (zi a :: S) q Q := ge_x (len := 1) (x := (0, 0, [])) p_118 rfl rfl
theorem g118_13 : z_go zP 118 13 L S q Q ↔ z_go zP 118 14 L (zi 1 :: S) q Q := ge_x (len := 1) (x := (0, 0, [])) p_118 rfl rfl
theorem g118_14 : z_go zP 118 14 L S q Q ↔ z_go zP 118 17 L (zi 2000 :: S) q Q := ge_x (len := 3) (x := (0, 0, [])) p_118 rfl rfl
theorem g118_17 : z_go zP 118 17 L [zi x2, zi x1, zi x0] q Q ↔ z_go zP 97 0 [some (zi x0), some (zi x1), some (zi x2)] [] q (zd 118 20 L [] Q) := (z_go_cl (len := 3) (x := (97, 2, [3])) (k1 := 97) (A := [zi x0, zi x1, zi x2]) (r := []) p_118 rfl rfl rfl rfl (by simp only [z_cl, List.drop]; rw [if_pos]; rfl; exact by first | exact ⟨by decide, (zwb_le (by show 0 ≤ 4; omega))⟩ | exact ⟨by decide, by show 3 ≤ 3; omega, (zwb_le (by show 0 ≤ 4; omega))⟩) p_97 (by show 3 ≤ 3; omega)).trans (ge_bk_d rfl)
theorem g118_20 (a1 : -2147483648 ≤ a) (a2 : a < 2147483648) : z_go zP 118 20 L (zi a :: S) q Q ↔ if ¬ a = 0 then z_go zP 118 29 L S q Q else z_go zP 118 23 L S q Q := ge_if_ne (len := 3) (x := (0, 0, [])) a1 a2 p_118 rfl rfl
theorem g118_20b {c : Prop} [Decidable c] : z_go zP 118 20 L (zi (bI c) :: S) q Q ↔ if c then z_go zP 118 29 L S q Q else z_go zP 118 23 L S q Q := ge_if_ne_b (len := 3) (x := (0, 0, [])) p_118 rfl rfl
theorem g118_23 : z_go zP 118 23 [some (.ref u), l1, l2, l3] S q Q ↔ z_go zP 118 24 [some (.ref u), l1, l2, l3] (.ref u :: S) q Q := ge_x (len := 1) (x := (0, 0, [])) p_118 rfl rfl
theorem g118_24 : z_go zP 118 24 L S q Q ↔ z_go zP 118 25 L (zi 2 :: S) q Q := ge_x (len := 1) (x := (0, 0, [])) p_118 rfl rfl
theorem g118_25 : z_go zP 118 25 L [zi x0, .ref u] q Q ↔ z_tg q.1 u = some 9 ∧ z_go zP 96 0 [some (.ref u), some (zi x0)] [] q (zc 118 28 L [] Q) := ge_vc (len := 3) (pc := 25) (S := [zi x0, .ref u]) (u := u) (k1 := 96) (A := [.ref u, zi x0]) (r := []) (tag := 9) (n0 := 1) (zwb_le (by show 0 ≤ 4; omega)) p_118 rfl rfl rfl p_96 (by show 2 ≤ 2; omega) rfl
theorem g118_28 : z_go zP 118 28 L [zi a] q Q ↔ Q (.inl (some (zi a))) q := ge_rti (len := 1) (x := (0, 0, [])) p_118 rfl rfl
theorem g118_29 : z_go zP 118 29 [some (.ref u), l1, l2, l3] S q Q ↔ z_go zP 118 30 [some (.ref u), l1, l2, l3] (.ref u :: S) q Q := ge_x (len := 1) (x := (0, 0, [])) p_118 rfl rfl
theorem g118_30 : z_go zP 118 30 L (.ref u :: S) q Q ↔ ∃ v, z_get [9] 21 q.1 u = some v ∧ z_go zP 118 33 L (v :: S) q Q := ge_getf (len := 3) (x := (21, 0, [9])) p_118 rfl
theorem g118_33 : z_go zP 118 33 [l0, some (zi a), l2, l3] S q Q ↔ z_go zP 118 34 [l0, some (zi a), l2, l3] (zi a :: S) q Q := ge_x (len := 1) (x := (0, 0, [])) p_118 rfl rfl
theorem g118_34 : z_go zP 118 34 L (zi a :: .ref u :: S) q Q ↔ ∃ v, z_at [99, 100] q.1 u (Int32.ofInt a) = some v ∧ z_go zP 118 35 L (v :: S) q Q := ge_iald (len := 1) (x := (0, 0, [])) p_118 rfl
theorem g118_35 : z_go zP 118 35 [l0, l1, l2, l3] (zi a :: S) q Q ↔ z_go zP 118 36 [l0, l1, (zkl l2), some (zi a)] S q Q := (by cases l2 with | none => exact ge_x (len := 1) (x := (0, 0, [])) p_118 rfl rfl | some v => cases v <;> exact ge_x (len := 1) (x := (0, 0, [])) p_118 rfl rfl)
theorem g118_36 : z_go zP 118 36 [some (.ref u), l1, l2, l3] S q Q ↔ z_go zP 118 37 [some (.ref u), l1, l2, l3] (.ref u :: S) q Q := ge_x (len := 1) (x := (0, 0, [])) p_118 rfl rfl
theorem g118_37 : z_go zP 118 37 L (.ref u :: S) q Q ↔ ∃ v, z_get [9] 22 q.1 u = some v ∧ z_go zP 118 40 L (v :: S) q Q := ge_getf (len := 3) (x := (22, 0, [9])) p_118 rfl
theorem g118_40 : z_go zP 118 40 [l0, some (zi a), l2, l3] S q Q ↔ z_go zP 118 41 [l0, some (zi a), l2, l3] (zi a :: S) q Q := ge_x (len := 1) (x := (0, 0, [])) p_118 rfl rfl
theorem g118_41 : z_go zP 118 41 L (zi a :: .ref u :: S) q Q ↔ ∃ v, z_at [102] q.1 u (Int32.ofInt a) = some v ∧ z_go zP 118 42 L (v :: S) q Q := ge_bald (len := 1) (x := (0, 0, [])) p_118 rfl
theorem g118_42 (a1 : -2147483648 ≤ a) (a2 : a < 2147483648) : z_go zP 118 42 L (zi a :: S) q Q ↔ if ¬ a = 0 then z_go zP 118 71 L S q Q else z_go zP 118 45 L S q Q := ge_if_ne (len := 3) (x := (0, 0, [])) a1 a2 p_118 rfl rfl
theorem g118_42b {c : Prop} [Decidable c] : z_go zP 118 42 L (zi (bI c) :: S) q Q ↔ if c then z_go zP 118 71 L S q Q else z_go zP 118 45 L S q Q := ge_if_ne_b (len := 3) (x := (0, 0, [])) p_118 rfl rfl
theorem g118_45 : z_go zP 118 45 [some (.ref u), l1, l2, l3] S q Q ↔ z_go zP 118 46 [some (.ref u), l1, l2, l3] (.ref u :: S) q Q := ge_x (len := 1) (x := (0, 0, [])) p_118 rfl rfl
theorem g118_46 : z_go zP 118 46 L (.ref u :: S) q Q ↔ ∃ v, z_get [9] 21 q.1 u = some v ∧ z_go zP 118 49 L (v :: S) q Q := ge_getf (len := 3) (x := (21, 0, [9])) p_118 rfl
theorem g118_49 : z_go zP 118 49 [l0, some (zi a), l2, l3] S q Q ↔ z_go zP 118 50 [l0, some (zi a), l2, l3] (zi a :: S) q Q := ge_x (len := 1) (x := (0, 0, [])) p_118 rfl rfl
theorem g118_50 : z_go zP 118 50 L (zi a :: .ref u :: S) q Q ↔ ∃ v, z_at [99, 100] q.1 u (Int32.ofInt a) = some v ∧ z_go zP 118 51 L (v :: S) q Q := ge_iald (len := 1) (x := (0, 0, [])) p_118 rfl
theorem g118_51 : z_go zP 118 51 [l0, l1, l2, some (zi a)] S q Q ↔ z_go zP 118 52 [l0, l1, l2, some (zi a)] (zi a :: S) q Q := ge_x (len := 1) (x := (0, 0, [])) p_118 rfl rfl
theorem g118_52 : z_go zP 118 52 [l0, l1, some (zi a), l3] S q Q ↔ z_go zP 118 53 [l0, l1, some (zi a), l3] (zi a :: S) q Q := ge_x (len := 1) (x := (0, 0, [])) p_118 rfl rfl
theorem g118_53 : z_go zP 118 53 L (zi b :: zi a :: S) q Q ↔ z_go zP 118 54 L (zi (a + b) :: S) q Q := ge_iadd (len := 1) (x := (0, 0, [])) p_118 rfl
theorem g118_54 (a1 : -2147483648 ≤ a) (a2 : a < 2147483648) (b1 : -2147483648 ≤ b) (b2 : b < 2147483648) : z_go zP 118 54 L (zi b :: zi a :: S) q Q ↔ if b ≤ a then z_go zP 118 71 L S q Q else z_go zP 118 57 L S q Q := ge_ic_ge (len := 3) (x := (0, 0, [])) a1 a2 b1 b2 p_118 rfl rfl
theorem g118_57 : z_go zP 118 57 [some (.ref u), l1, l2, l3] S q Q ↔ z_go zP 118 58 [some (.ref u), l1, l2, l3] (.ref u :: S) q Q := ge_x (len := 1) (x := (0, 0, [])) p_118 rfl rfl
theorem g118_58 : z_go zP 118 58 [l0, some (zi a), l2, l3] S q Q ↔ z_go zP 118 59 [l0, some (zi a), l2, l3] (zi a :: S) q Q := ge_x (len := 1) (x := (0, 0, [])) p_118 rfl rfl
theorem g118_59 : z_go zP 118 59 [some (.ref u), l1, l2, l3] S q Q ↔ z_go zP 118 60 [some (.ref u), l1, l2, l3] (.ref u :: S) q Q := ge_x (len := 1) (x := (0, 0, [])) p_118 rfl rfl
theorem g118_60 : z_go zP 118 60 L (.ref u :: S) q Q ↔ ∃ v, z_get [9] 5 q.1 u = some v ∧ z_go zP 118 63 L (v :: S) q Q := ge_getf (len := 3) (x := (5, 0, [9])) p_118 rfl
theorem g118_63 : z_go zP 118 63 [l0, some (zi a), l2, l3] S q Q ↔ z_go zP 118 64 [l0, some (zi a), l2, l3] (zi a :: S) q Q := ge_x (len := 1) (x := (0, 0, [])) p_118 rfl rfl
theorem g118_64 : z_go zP 118 64 L (zi a :: .ref u :: S) q Q ↔ ∃ v, z_at [99, 100] q.1 u (Int32.ofInt a) = some v ∧ z_go zP 118 65 L (v :: S) q Q := ge_iald (len := 1) (x := (0, 0, [])) p_118 rfl
theorem g118_65 : z_go zP 118 65 L [zi x1, zi x0, .ref u] q Q ↔ z_tg q.1 u = some 9 ∧ z_go zP 116 0 [some (.ref u), some (zi x0), some (zi x1), none, none, none, none, none, none, none, none] [] q (zc 118 68 L [] Q) := ge_vc (len := 3) (pc := 65) (S := [zi x1, zi x0, .ref u]) (u := u) (k1 := 116) (A := [.ref u, zi x0, zi x1]) (r := []) (tag := 9) (n0 := 2) (zwb_le (by show 0 ≤ 4; omega)) p_118 rfl rfl rfl p_116 (by show 3 ≤ 11; omega) rfl
theorem g118_68 : z_go zP 118 68 L S q Q ↔ z_go zP 118 36 L S q Q := ge_to (len := 3) (x := (0, 0, [])) p_118 rfl rfl rfl
theorem g118_71 : z_go zP 118 71 [some (.ref u), l1, l2, l3] S q Q ↔ z_go zP 118 72 [some (.ref u), l1, l2, l3] (.ref u :: S) q Q := ge_x (len := 1) (x := (0, 0, [])) p_118 rfl rfl
theorem g118_72 : z_go zP 118 72 L (.ref u :: S) q Q ↔ ∃ v, z_get [9] 21 q.1 u = some v ∧ z_go zP 118 75 L (v :: S) q Q := ge_getf (len := 3) (x := (21, 0, [9])) p_118 rfl
theorem g118_75 : z_go zP 118 75 [l0, some (zi a), l2, l3] S q Q ↔ z_go zP 118 76 [l0, some (zi a), l2, l3] (zi a :: S) q Q := ge_x (len := 1) (x := (0, 0, [])) p_118 rfl rfl
theorem g118_76 : z_go zP 118 76 L (zi a :: .ref u :: S) q Q ↔ ∃ v, z_at [99, 100] q.1 u (Int32.ofInt a) = some v ∧ z_go zP 118 77 L (v :: S) q Q := ge_iald (len := 1) (x := (0, 0, [])) p_118 rfl
theorem g118_77 : z_go zP 118 77 [l0, l1, l2, some (zi a)] S q Q ↔ z_go zP 118 78 [l0, l1, l2, some (zi a)] (zi a :: S) q Q := ge_x (len := 1) (x := (0, 0, [])) p_118 rfl rfl
theorem g118_78 : z_go zP 118 78 L (zi b :: zi a :: S) q Q ↔ z_go zP 118 79 L (zi (a - b) :: S) q Q := ge_isub (len := 1) (x := (0, 0, [])) p_118 rfl
theorem g118_79 : z_go zP 118 79 L [zi a] q Q ↔ Q (.inl (some (zi a))) q := ge_rti (len := 1) (x := (0, 0, [])) p_118 rfl rfl
theorem g119_0 : z_go zP 119 0 [some (.ref u), l1, l2, l3, l4] S q Q ↔ z_go zP 119 1 [some (.ref u), l1, l2, l3, l4] (.ref u :: S) q Q := ge_x (len := 1) (x := (0, 0, [])) p_119 rfl rfl
theorem g119_1 : z_go zP 119 1 [l0, some (zi a), l2, l3, l4] S q Q ↔ z_go zP 119 2 [l0, some (zi a), l2, l3, l4] (zi a :: S) q Q := ge_x (len := 1) (x := (0, 0, [])) p_119 rfl rfl
theorem g119_2 : z_go zP 119 2 L S q Q ↔ z_go zP 119 3 L (zi 4 :: S) q Q := ge_x (len := 1) (x := (0, 0, [])) p_119 rfl rfl
theorem g119_3 : z_go zP 119 3 L S q Q ↔ z_go zP 119 4 L (zi 1 :: S) q Q := ge_x (len := 1) (x := (0, 0, [])) p_119 rfl rfl
theorem g119_4 : z_go zP 119 4 L [zi x2, zi x1, zi x0, .ref u] q Q ↔ z_tg q.1 u = some 9 ∧ z_go zP 100 0 [some (.ref u), some (zi x0), some (zi x1), some (zi x2), none] [] q (zc 119 7 L [] Q) := ge_vc (len := 3) (pc := 4) (S := [zi x2, zi x1, zi x0, .ref u]) (u := u) (k1 := 100) (A := [.ref u, zi x0, zi x1, zi x2]) (r := []) (tag := 9) (n0 := 3) (zwb_le (by show 0 ≤ 4; omega)) p_119 rfl rfl rfl p_100 (by show 4 ≤ 5; omega) rfl
theorem g119_7 (a1 : -2147483648 ≤ a) (a2 : a < 2147483648) : z_go zP 119 7 L (zi a :: S) q Q ↔ if a = 0 then z_go zP 119 20 L S q Q else z_go zP 119 10 L S q Q := ge_if_eq (len := 3) (x := (0, 0, [])) a1 a2 p_119 rfl rfl
theorem g119_7b {c : Prop} [Decidable c] : z_go zP 119 7 L (zi (bI c) :: S) q Q ↔ if c then z_go zP 119 10 L S q Q else z_go zP 119 20 L S q Q := ge_if_eq_b (len := 3) (x := (0, 0, [])) p_119 rfl rfl
theorem g119_10 : z_go zP 119 10 [some (.ref u), l1, l2, l3, l4] S q Q ↔ z_go zP 119 11 [some (.ref u), l1, l2, l3, l4] (.ref u :: S) q Q := ge_x (len := 1) (x := (0, 0, [])) p_119 rfl rfl
theorem g119_11 : z_go zP 119 11 [l0, l1, some (zi a), l3, l4] S q Q ↔ z_go zP 119 12 [l0, l1, some (zi a), l3, l4] (zi a :: S) q Q := ge_x (len := 1) (x := (0, 0, [])) p_119 rfl rfl
theorem g119_12 : z_go zP 119 12 L S q Q ↔ z_go zP 119 13 L (zi 2 :: S) q Q := ge_x (len := 1) (x := (0, 0, [])) p_119 rfl rfl
theorem g119_13 : z_go zP 119 13 L S q Q ↔ z_go zP 119 14 L (zi 1 :: S) q Q := ge_x (len := 1) (x := (0, 0, [])) p_119 rfl rfl
theorem g119_14 : z_go zP 119 14 L [zi x2, zi x1, zi x0, .ref u] q Q ↔ z_tg q.1 u = some 9 ∧ z_go zP 100 0 [some (.ref u), some (zi x0), some (zi x1), some (zi x2), none] [] q (zc 119 17 L [] Q) := ge_vc (len := 3) (pc := 14) (S := [zi x2, zi x1, zi x0, .ref u]) (u := u) (k1 := 100) (A := [.ref u, zi x0, zi x1, zi x2]) (r := []) (tag := 9) (n0 := 3) (zwb_le (by show 0 ≤ 4; omega)) p_119 rfl rfl rfl p_100 (by show 4 ≤ 5; omega) rfl
theorem g119_17 (a1 : -2147483648 ≤ a) (a2 : a < 2147483648) : z_go zP 119 17 L (zi a :: S) q Q ↔ if ¬ a = 0 then z_go zP 119 22 L S q Q else z_go zP 119 20 L S q Q := ge_if_ne (len := 3) (x := (0, 0, [])) a1 a2 p_119 rfl rfl
theorem g119_17b {c : Prop} [Decidable c] : z_go zP 119 17 L (zi (bI c) :: S) q Q ↔ if c then z_go zP 119 22 L S q Q else z_go zP 119 20 L S q Q := ge_if_ne_b (len := 3) (x := (0, 0, [])) p_119 rfl rfl
theorem g119_20 : z_go zP 119 20 L S q Q ↔ z_go zP 119 21 L (zi 0 :: S) q Q := ge_x (len := 1) (x := (0, 0, [])) p_119 rfl rfl
theorem g119_21 : z_go zP 119 21 L [zi a] q Q ↔ Q (.inl (some (zi a))) q := ge_rti (len := 1) (x := (0, 0, [])) p_119 rfl rfl
theorem g119_22 : z_go zP 119 22 [some (.ref u), l1, l2, l3, l4] S q Q ↔ z_go zP 119 23 [some (.ref u), l1, l2, l3, l4] (.ref u :: S) q Q := ge_x (len := 1) (x := (0, 0, [])) p_119 rfl rfl
theorem g119_23 : z_go zP 119 23 L (.ref u :: S) q Q ↔ ∃ v, z_get [9] 5 q.1 u = some v ∧ z_go zP 119 26 L (v :: S) q Q := ge_getf (len := 3) (x := (5, 0, [9])) p_119 rfl
theorem g119_26 : z_go zP 119 26 [l0, some (zi a), l2, l3, l4] S q Q ↔ z_go zP 119 27 [l0, some (zi a), l2, l3, l4] (zi a :: S) q Q := ge_x (len := 1) (x := (0, 0, [])) p_119 rfl rfl
theorem g119_27 : z_go zP 119 27 L (zi a :: .ref u :: S) q Q ↔ ∃ v, z_at [99, 100] q.1 u (Int32.ofInt a) = some v ∧ z_go zP 119 28 L (v :: S) q Q := ge_iald (len := 1) (x := (0, 0, [])) p_119 rfl
theorem g119_28 : z_go zP 119 28 [some (.ref u), l1, l2, l3, l4] S q Q ↔ z_go zP 119 29 [some (.ref u), l1, l2, l3, l4] (.ref u :: S) q Q := ge_x (len := 1) (x := (0, 0, [])) p_119 rfl rfl
theorem g119_29 : z_go zP 119 29 L (.ref u :: S) q Q ↔ ∃ v, z_get [9] 5 q.1 u = some v ∧ z_go zP 119 32 L (v :: S) q Q := ge_getf (len := 3) (x := (5, 0, [9])) p_119 rfl
theorem g119_32 : z_go zP 119 32 [l0, l1, some (zi a), l3, l4] S q Q ↔ z_go zP 119 33 [l0, l1, some (zi a), l3, l4] (zi a :: S) q Q := ge_x (len := 1) (x := (0, 0, [])) p_119 rfl rfl
theorem g119_33 : z_go zP 119 33 L (zi a :: .ref u :: S) q Q ↔ ∃ v, z_at [99, 100] q.1 u (Int32.ofInt a) = some v ∧ z_go zP 119 34 L (v :: S) q Q := ge_iald (len := 1) (x := (0, 0, [])) p_119 rfl
theorem g119_34 (a1 : -2147483648 ≤ a) (a2 : a < 2147483648) (b1 : -2147483648 ≤ b) (b2 : b < 2147483648) : z_go zP 119 34 L (zi b :: zi a :: S) q Q ↔ if a = b then z_go zP 119 44 L S q Q else z_go zP 119 37 L S q Q := ge_ic_eq (len := 3) (x := (0, 0, [])) a1 a2 b1 b2 p_119 rfl rfl
theorem g119_37 : z_go zP 119 37 [some (.ref u), l1, l2, l3, l4] S q Q ↔ z_go zP 119 38 [some (.ref u), l1, l2, l3, l4] (.ref u :: S) q Q := ge_x (len := 1) (x := (0, 0, [])) p_119 rfl rfl
theorem g119_38 : z_go zP 119 38 L S q Q ↔ z_go zP 119 39 L (zi 4 :: S) q Q := ge_x (len := 1) (x := (0, 0, [])) p_119 rfl rfl
theorem g119_39 : z_go zP 119 39 L S q Q ↔ z_go zP 119 40 L (zi 1 :: S) q Q := ge_x (len := 1) (x := (0, 0, [])) p_119 rfl rfl
theorem g119_40 : z_go zP 119 40 L [zi x1, zi x0, .ref u] q Q ↔ z_tg q.1 u = some 9 ∧ z_go zP 98 0 [some (.ref u), some (zi x0), some (zi x1)] [] q (zc 119 43 L [] Q) := ge_vc (len := 3) (pc := 40) (S := [zi x1, zi x0, .ref u]) (u := u) (k1 := 98) (A := [.ref u, zi x0, zi x1]) (r := []) (tag := 9) (n0 := 2) (zwb_le (by show 0 ≤ 4; omega)) p_119 rfl rfl rfl p_98 (by show 3 ≤ 3; omega) rfl
theorem g119_43 : z_go zP 119 43 L [zi a] q Q ↔ Q (.inl (some (zi a))) q := ge_rti (len := 1) (x := (0, 0, [])) p_119 rfl rfl
theorem g119_44 : z_go zP 119 44 [some (.ref u), l1, l2, l3, l4] S q Q ↔ z_go zP 119 45 [some (.ref u), l1, l2, l3, l4] (.ref u :: S) q Q := ge_x (len := 1) (x := (0, 0, [])) p_119 rfl rfl
theorem g119_45 : z_go zP 119 45 L (.ref u :: S) q Q ↔ ∃ v, z_get [9] 13 q.1 u = some v ∧ z_go zP 119 48 L (v :: S) q Q := ge_getf (len := 3) (x := (13, 0, [9])) p_119 rfl
theorem g119_48 : z_go zP 119 48 [l0, l1, some (zi a), l3, l4] S q Q ↔ z_go zP 119 49 [l0, l1, some (zi a), l3, l4] (zi a :: S) q Q := ge_x (len := 1) (x := (0, 0, [])) p_119 rfl rfl
theorem g119_49 : z_go zP 119 49 L (zi a :: .ref u :: S) q Q ↔ ∃ v, z_at [99, 100] q.1 u (Int32.ofInt a) = some v ∧ z_go zP 119 50 L (v :: S) q Q := ge_iald (len := 1) (x := (0, 0, [])) p_119 rfl
theorem g119_50 (a1 : -2147483648 ≤ a) (a2 : a < 2147483648) : z_go zP 119 50 L (zi a :: S) q Q ↔ if ¬ a = 0 then z_go zP 119 60 L S q Q else z_go zP 119 53 L S q Q := ge_if_ne (len := 3) (x := (0, 0, [])) a1 a2 p_119 rfl rfl
theorem g119_50b {c : Prop} [Decidable c] : z_go zP 119 50 L (zi (bI c) :: S) q Q ↔ if c then z_go zP 119 60 L S q Q else z_go zP 119 53 L S q Q := ge_if_ne_b (len := 3) (x := (0, 0, [])) p_119 rfl rfl
theorem g119_53 : z_go zP 119 53 [some (.ref u), l1, l2, l3, l4] S q Q ↔ z_go zP 119 54 [some (.ref u), l1, l2, l3, l4] (.ref u :: S) q Q := ge_x (len := 1) (x := (0, 0, [])) p_119 rfl rfl
theorem g119_54 : z_go zP 119 54 L S q Q ↔ z_go zP 119 55 L (zi 5 :: S) q Q := ge_x (len := 1) (x := (0, 0, [])) p_119 rfl rfl
theorem g119_55 : z_go zP 119 55 L S q Q ↔ z_go zP 119 56 L (zi 1 :: S) q Q := ge_x (len := 1) (x := (0, 0, [])) p_119 rfl rfl
theorem g119_56 : z_go zP 119 56 L [zi x1, zi x0, .ref u] q Q ↔ z_tg q.1 u = some 9 ∧ z_go zP 98 0 [some (.ref u), some (zi x0), some (zi x1)] [] q (zc 119 59 L [] Q) := ge_vc (len := 3) (pc := 56) (S := [zi x1, zi x0, .ref u]) (u := u) (k1 := 98) (A := [.ref u, zi x0, zi x1]) (r := []) (tag := 9) (n0 := 2) (zwb_le (by show 0 ≤ 4; omega)) p_119 rfl rfl rfl p_98 (by show 3 ≤ 3; omega) rfl
theorem g119_59 : z_go zP 119 59 L [zi a] q Q ↔ Q (.inl (some (zi a))) q := ge_rti (len := 1) (x := (0, 0, [])) p_119 rfl rfl
theorem g119_60 : z_go zP 119 60 [some (.ref u), l1, l2, l3, l4] S q Q ↔ z_go zP 119 61 [some (.ref u), l1, l2, l3, l4] (.ref u :: S) q Q := ge_x (len := 1) (x := (0, 0, [])) p_119 rfl rfl
theorem g119_61 : z_go zP 119 61 L S q Q ↔ z_go zP 119 62 L (zi 1 :: S) q Q := ge_x (len := 1) (x := (0, 0, [])) p_119 rfl rfl
theorem g119_62 : z_go zP 119 62 L [zi x0, .ref u] q Q ↔ z_tg q.1 u = some 9 ∧ z_go zP 103 0 [some (.ref u), some (zi x0)] [] q (zc 119 65 L [] Q) := ge_vc (len := 3) (pc := 62) (S := [zi x0, .ref u]) (u := u) (k1 := 103) (A := [.ref u, zi x0]) (r := []) (tag := 9) (n0 := 1) (zwb_le (by show 0 ≤ 4; omega)) p_119 rfl rfl rfl p_103 (by show 2 ≤ 2; omega) rfl
theorem g119_65 (a1 : -2147483648 ≤ a) (a2 : a < 2147483648) : z_go zP 119 65 L (zi a :: S) q Q ↔ if a = 0 then z_go zP 119 70 L S q Q else z_go zP 119 68 L S q Q := ge_if_eq (len := 3) (x := (0, 0, [])) a1 a2 p_119 rfl rfl
theorem g119_65b {c : Prop} [Decidable c] : z_go zP 119 65 L (zi (bI c) :: S) q Q ↔ if c then z_go zP 119 68 L S q Q else z_go zP 119 70 L S q Q := ge_if_eq_b (len := 3) (x := (0, 0, [])) p_119 rfl rfl
theorem g119_68 : z_go zP 119 68 L S q Q ↔ z_go zP 119 69 L (zi 0 :: S) q Q := ge_x (len := 1) (x := (0, 0, [])) p_119 rfl rfl
theorem g119_69 : z_go zP 119 69 L [zi a] q Q ↔ Q (.inl (some (zi a))) q := ge_rti (len := 1) (x := (0, 0, [])) p_119 rfl rfl
theorem g119_70 : z_go zP 119 70 [some (.ref u), l1, l2, l3, l4] S q Q ↔ z_go zP 119 71 [some (.ref u), l1, l2, l3, l4] (.ref u :: S) q Q := ge_x (len := 1) (x := (0, 0, [])) p_119 rfl rfl
theorem g119_71 : z_go zP 119 71 L S q Q ↔ z_go zP 119 72 L (zi 5 :: S) q Q := ge_x (len := 1) (x := (0, 0, [])) p_119 rfl rfl
theorem g119_72 : z_go zP 119 72 [l0, some (zi a), l2, l3, l4] S q Q ↔ z_go zP 119 73 [l0, some (zi a), l2, l3, l4] (zi a :: S) q Q := ge_x (len := 1) (x := (0, 0, [])) p_119 rfl rfl
theorem g119_73 : z_go zP 119 73 [l0, l1, some (zi a), l3, l4] S q Q ↔ z_go zP 119 74 [l0, l1, some (zi a), l3, l4] (zi a :: S) q Q := ge_x (len := 1) (x := (0, 0, [])) p_119 rfl rfl
theorem g119_74 : z_go zP 119 74 L [zi x2, zi x1, zi x0, .ref u] q Q ↔ z_tg q.1 u = some 9 ∧ z_go zP 102 0 [some (.ref u), some (zi x0), some (zi x1), some (zi x2)] [] q (zc 119 77 L [] Q) := ge_vc (len := 3) (pc := 74) (S := [zi x2, zi x1, zi x0, .ref u]) (u := u) (k1 := 102) (A := [.ref u, zi x0, zi x1, zi x2]) (r := []) (tag := 9) (n0 := 3) (zwb_le (by show 0 ≤ 4; omega)) p_119 rfl rfl rfl p_102 (by show 4 ≤ 4; omega) rfl
theorem g119_77 : z_go zP 119 77 [l0, l1, l2, l3, l4] (zi a :: S) q Q ↔ z_go zP 119 78 [l0, l1, (zkl l2), some (zi a), l4] S q Q := (by cases l2 with | none => exact ge_x (len := 1) (x := (0, 0, [])) p_119 rfl rfl | some v => cases v <;> exact ge_x (len := 1) (x := (0, 0, [])) p_119 rfl rfl)
theorem g119_78 : z_go zP 119 78 [some (.ref u), l1, l2, l3, l4] S q Q ↔ z_go zP 119 79 [some (.ref u), l1, l2, l3, l4] (.ref u :: S) q Q := ge_x (len := 1) (x := (0, 0, [])) p_119 rfl rfl
theorem g119_79 : z_go zP 119 79 [l0, l1, l2, some (zi a), l4] S q Q ↔ z_go zP 119 80 [l0, l1, l2, some (zi a), l4] (zi a :: S) q Q := ge_x (len := 1) (x := (0, 0, [])) p_119 rfl rfl
theorem g119_80 : z_go zP 119 80 L [zi x0, .ref u] q Q ↔ z_tg q.1 u = some 9 ∧ z_go zP 111 0 [some (.ref u), some (zi x0), none] [] q (zc 119 83 L [] Q) := ge_vc (len := 3) (pc := 80) (S := [zi x0, .ref u]) (u := u) (k1 := 111) (A := [.ref u, zi x0]) (r := []) (tag := 9) (n0 := 1) (zwb_le (by show 0 ≤ 4; omega)) p_119 rfl rfl rfl p_111 (by show 2 ≤ 3; omega) rfl
theorem g119_83 : z_go zP 119 83 [some (.ref u), l1, l2, l3, l4] S q Q ↔ z_go zP 119 84 [some (.ref u), l1, l2, l3, l4] (.ref u :: S) q Q := ge_x (len := 1) (x := (0, 0, [])) p_119 rfl rfl
theorem g119_84 : z_go zP 119 84 L S q Q ↔ z_go zP 119 86 L (zi 61 :: S) q Q := ge_x (len := 2) (x := (0, 0, [])) p_119 rfl rfl
theorem g119_86 : z_go zP 119 86 [l0, l1, l2, some (zi a), l4] S q Q ↔ z_go zP 119 87 [l0, l1, l2, some (zi a), l4] (zi a :: S) q Q := ge_x (len := 1) (x := (0, 0, [])) p_119 rfl rfl
theorem g119_87 : z_go zP 119 87 L (zi b :: zi a :: S) q Q ↔ z_go zP 119 88 L (zi (a + b) :: S) q Q := ge_iadd (len := 1) (x := (0, 0, [])) p_119 rfl
theorem g119_88 : z_go zP 119 88 L [zi x0, .ref u] q Q ↔ z_tg q.1 u = some 9 ∧ z_go zP 111 0 [some (.ref u), some (zi x0), none] [] q (zc 119 91 L [] Q) := ge_vc (len := 3) (pc := 88) (S := [zi x0, .ref u]) (u := u) (k1 := 111) (A := [.ref u, zi x0]) (r := []) (tag := 9) (n0 := 1) (zwb_le (by show 0 ≤ 4; omega)) p_119 rfl rfl rfl p_111 (by show 2 ≤ 3; omega) rfl
theorem g119_91 : z_go zP 119 91 [some (.ref u), l1, l2, l3, l4] S q Q ↔ z_go zP 119 92 [some (.ref u), l1, l2, l3, l4] (.ref u :: S) q Q := ge_x (len := 1) (x := (0, 0, [])) p_119 rfl rfl
theorem g119_92 : z_go zP 119 92 L (.ref u :: S) q Q ↔ ∃ v, z_get [9] 23 q.1 u = some v ∧ z_go zP 119 95 L (v :: S) q Q := ge_getf (len := 3) (x := (23, 0, [9])) p_119 rfl
theorem g119_95 : z_go zP 119 95 [l0, l1, l2, some (zi a), l4] S q Q ↔ z_go zP 119 96 [l0, l1, l2, some (zi a), l4] (zi a :: S) q Q := ge_x (len := 1) (x := (0, 0, [])) p_119 rfl rfl
theorem g119_96 : z_go zP 119 96 L S q Q ↔ z_go zP 119 97 L (zi 0 :: S) q Q := ge_x (len := 1) (x := (0, 0, [])) p_119 rfl rfl
theorem g119_97 : z_go zP 119 97 L (zi b :: zi a :: .ref u :: S) q Q ↔ ∃ q1, z_st 100 q u (Int32.ofInt a) (zi b) = some q1 ∧ z_go zP 119 98 L S q1 Q := ge_iast (len := 1) (x := (0, 0, [])) p_119 rfl
theorem g119_98 : z_go zP 119 98 [some (.ref u), l1, l2, l3, l4] S q Q ↔ z_go zP 119 99 [some (.ref u), l1, l2, l3, l4] (.ref u :: S) q Q := ge_x (len := 1) (x := (0, 0, [])) p_119 rfl rfl
theorem g119_99 : z_go zP 119 99 L (.ref u :: S) q Q ↔ ∃ v, z_get [9] 24 q.1 u = some v ∧ z_go zP 119 102 L (v :: S) q Q := ge_getf (len := 3) (x := (24, 0, [9])) p_119 rfl
theorem g119_102 : z_go zP 119 102 [l0, l1, l2, some (zi a), l4] S q Q ↔ z_go zP 119 103 [l0, l1, l2, some (zi a), l4] (zi a :: S) q Q := ge_x (len := 1) (x := (0, 0, [])) p_119 rfl rfl
theorem g119_103 : z_go zP 119 103 L S q Q ↔ z_go zP 119 104 L (zi 1 :: S) q Q := ge_x (len := 1) (x := (0, 0, [])) p_119 rfl rfl
theorem g119_104 : z_go zP 119 104 L (zi b :: zi a :: .ref u :: S) q Q ↔ ∃ q1, z_st 100 q u (Int32.ofInt a) (zi b) = some q1 ∧ z_go zP 119 105 L S q1 Q := ge_iast (len := 1) (x := (0, 0, [])) p_119 rfl
theorem g119_105 : z_go zP 119 105 [some (.ref u), l1, l2, l3, l4] S q Q ↔ z_go zP 119 106 [some (.ref u), l1, l2, l3, l4] (.ref u :: S) q Q := ge_x (len := 1) (x := (0, 0, [])) p_119 rfl rfl
theorem g119_106 : z_go zP 119 106 L (.ref u :: S) q Q ↔ ∃ v, z_get [9] 28 q.1 u = some v ∧ z_go zP 119 109 L (v :: S) q Q := ge_getf (len := 3) (x := (28, 0, [9])) p_119 rfl
theorem g119_109 : z_go zP 119 109 [l0, l1, l2, some (zi a), l4] S q Q ↔ z_go zP 119 110 [l0, l1, l2, some (zi a), l4] (zi a :: S) q Q := ge_x (len := 1) (x := (0, 0, [])) p_119 rfl rfl
theorem g119_110 : z_go zP 119 110 L S q Q ↔ z_go zP 119 111 L (zi 0 :: S) q Q := ge_x (len := 1) (x := (0, 0, [])) p_119 rfl rfl
theorem g119_111 : z_go zP 119 111 L (zi b :: zi a :: .ref u :: S) q Q ↔ ∃ q1, z_st 100 q u (Int32.ofInt a) (zi b) = some q1 ∧ z_go zP 119 112 L S q1 Q := ge_iast (len := 1) (x := (0, 0, [])) p_119 rfl
theorem g119_112 : z_go zP 119 112 [some (.ref u), l1, l2, l3, l4] S q Q ↔ z_go zP 119 113 [some (.ref u), l1, l2, l3, l4] (.ref u :: S) q Q := ge_x (len := 1) (x := (0, 0, [])) p_119 rfl rfl
theorem g119_113 : z_go zP 119 113 L (.ref u :: S) q Q ↔ ∃ v, z_get [9] 29 q.1 u = some v ∧ z_go zP 119 116 L (v :: S) q Q := ge_getf (len := 3) (x := (29, 0, [9])) p_119 rfl
theorem g119_116 : z_go zP 119 116 [l0, l1, l2, some (zi a), l4] S q Q ↔ z_go zP 119 117 [l0, l1, l2, some (zi a), l4] (zi a :: S) q Q := ge_x (len := 1) (x := (0, 0, [])) p_119 rfl rfl
theorem g119_117 : z_go zP 119 117 L S q Q ↔ z_go zP 119 118 L (zi 0 :: S) q Q := ge_x (len := 1) (x := (0, 0, [])) p_119 rfl rfl
theorem g119_118 : z_go zP 119 118 L (zi b :: zi a :: .ref u :: S) q Q ↔ ∃ q1, z_st 100 q u (Int32.ofInt a) (zi b) = some q1 ∧ z_go zP 119 119 L S q1 Q := ge_iast (len := 1) (x := (0, 0, [])) p_119 rfl
theorem g119_119 : z_go zP 119 119 L S q Q ↔ z_go zP 119 120 L (zi 0 :: S) q Q := ge_x (len := 1) (x := (0, 0, [])) p_119 rfl rfl
theorem g119_120 : z_go zP 119 120 [l0, l1, l2, l3, l4] (zi a :: S) q Q ↔ z_go zP 119 122 [l0, l1, l2, (zkl l3), some (zi a)] S q Q := (by cases l3 with | none => exact ge_x (len := 2) (x := (0, 0, [])) p_119 rfl rfl | some v => cases v <;> exact ge_x (len := 2) (x := (0, 0, [])) p_119 rfl rfl)
theorem g119_122 : z_go zP 119 122 [l0, l1, l2, l3, some (zi a)] S q Q ↔ z_go zP 119 124 [l0, l1, l2, l3, some (zi a)] (zi a :: S) q Q := ge_x (len := 2) (x := (0, 0, [])) p_119 rfl rfl
theorem g119_124 : z_go zP 119 124 L S q Q ↔ z_go zP 119 125 L (zi 4 :: S) q Q := ge_x (len := 1) (x := (0, 0, [])) p_119 rfl rfl
theorem g119_125 (a1 : -2147483648 ≤ a) (a2 : a < 2147483648) (b1 : -2147483648 ≤ b) (b2 : b < 2147483648) : z_go zP 119 125 L (zi b :: zi a :: S) q Q ↔ if b ≤ a then z_go zP 119 158 L S q Q else z_go zP 119 128 L S q Q := ge_ic_ge (len := 3) (x := (0, 0, [])) a1 a2 b1 b2 p_119 rfl rfl
theorem g119_128 : z_go zP 119 128 [some (.ref u), l1, l2, l3, l4] S q Q ↔ z_go zP 119 129 [some (.ref u), l1, l2, l3, l4] (.ref u :: S) q Q := ge_x (len := 1) (x := (0, 0, [])) p_119 rfl rfl
theorem g119_129 : z_go zP 119 129 L (.ref u :: S) q Q ↔ ∃ v, z_get [9] 26 q.1 u = some v ∧ z_go zP 119 132 L (v :: S) q Q := ge_getf (len := 3) (x := (26, 0, [9])) p_119 rfl
theorem g119_132 : z_go zP 119 132 L S q Q ↔ z_go zP 119 133 L (zi 4 :: S) q Q := ge_x (len := 1) (x := (0, 0, [])) p_119 rfl rfl
theorem g119_133 : z_go zP 119 133 [l0, l1, l2, some (zi a), l4] S q Q ↔ z_go zP 119 134 [l0, l1, l2, some (zi a), l4] (zi a :: S) q Q := ge_x (len := 1) (x := (0, 0, [])) p_119 rfl rfl
theorem g119_134 : z_go zP 119 134 L (zi b :: zi a :: S) q Q ↔ z_go zP 119 135 L (zi (a * b) :: S) q Q := ge_imul (len := 1) (x := (0, 0, [])) p_119 rfl
theorem g119_135 : z_go zP 119 135 [l0, l1, l2, l3, some (zi a)] S q Q ↔ z_go zP 119 137 [l0, l1, l2, l3, some (zi a)] (zi a :: S) q Q := ge_x (len := 2) (x := (0, 0, [])) p_119 rfl rfl
theorem g119_137 : z_go zP 119 137 L (zi b :: zi a :: S) q Q ↔ z_go zP 119 138 L (zi (a + b) :: S) q Q := ge_iadd (len := 1) (x := (0, 0, [])) p_119 rfl
theorem g119_138 : z_go zP 119 138 L S q Q ↔ z_go zP 119 139 L (zi (-1) :: S) q Q := ge_x (len := 1) (x := (0, 0, [])) p_119 rfl rfl
theorem g119_139 : z_go zP 119 139 L (zi b :: zi a :: .ref u :: S) q Q ↔ ∃ q1, z_st 100 q u (Int32.ofInt a) (zi b) = some q1 ∧ z_go zP 119 140 L S q1 Q := ge_iast (len := 1) (x := (0, 0, [])) p_119 rfl
theorem g119_140 : z_go zP 119 140 [some (.ref u), l1, l2, l3, l4] S q Q ↔ z_go zP 119 141 [some (.ref u), l1, l2, l3, l4] (.ref u :: S) q Q := ge_x (len := 1) (x := (0, 0, [])) p_119 rfl rfl
theorem g119_141 : z_go zP 119 141 L (.ref u :: S) q Q ↔ ∃ v, z_get [9] 27 q.1 u = some v ∧ z_go zP 119 144 L (v :: S) q Q := ge_getf (len := 3) (x := (27, 0, [9])) p_119 rfl
theorem g119_144 : z_go zP 119 144 L S q Q ↔ z_go zP 119 145 L (zi 4 :: S) q Q := ge_x (len := 1) (x := (0, 0, [])) p_119 rfl rfl
theorem g119_145 : z_go zP 119 145 [l0, l1, l2, some (zi a), l4] S q Q ↔ z_go zP 119 146 [l0, l1, l2, some (zi a), l4] (zi a :: S) q Q := ge_x (len := 1) (x := (0, 0, [])) p_119 rfl rfl
theorem g119_146 : z_go zP 119 146 L (zi b :: zi a :: S) q Q ↔ z_go zP 119 147 L (zi (a * b) :: S) q Q := ge_imul (len := 1) (x := (0, 0, [])) p_119 rfl
theorem g119_147 : z_go zP 119 147 [l0, l1, l2, l3, some (zi a)] S q Q ↔ z_go zP 119 149 [l0, l1, l2, l3, some (zi a)] (zi a :: S) q Q := ge_x (len := 2) (x := (0, 0, [])) p_119 rfl rfl
theorem g119_149 : z_go zP 119 149 L (zi b :: zi a :: S) q Q ↔ z_go zP 119 150 L (zi (a + b) :: S) q Q := ge_iadd (len := 1) (x := (0, 0, [])) p_119 rfl
theorem g119_150 : z_go zP 119 150 L S q Q ↔ z_go zP 119 151 L (zi 0 :: S) q Q := ge_x (len := 1) (x := (0, 0, [])) p_119 rfl rfl
theorem g119_151 : z_go zP 119 151 L (zi b :: zi a :: .ref u :: S) q Q ↔ ∃ q1, z_st 100 q u (Int32.ofInt a) (zi b) = some q1 ∧ z_go zP 119 152 L S q1 Q := ge_iast (len := 1) (x := (0, 0, [])) p_119 rfl
theorem g119_152 : z_go zP 119 152 [l0, l1, l2, l3, some (zi a)] S q Q ↔ z_go zP 119 155 [l0, l1, l2, (zkl l3), some (zi (a + 1))] S q Q := (by unfold zi; rw [Int32.ofInt_add]; cases l3 with | none => exact ge_x (len := 3) (x := (0, 0, [])) p_119 rfl rfl | some v => cases v <;> exact ge_x (len := 3) (x := (0, 0, [])) p_119 rfl rfl)
theorem g119_155 : z_go zP 119 155 L S q Q ↔ z_go zP 119 122 L S q Q := ge_to (len := 3) (x := (0, 0, [])) p_119 rfl rfl rfl
theorem g119_158 : z_go zP 119 158 [l0, l1, l2, some (zi a), l4] S q Q ↔ z_go zP 119 159 [l0, l1, l2, some (zi a), l4] (zi a :: S) q Q := ge_x (len := 1) (x := (0, 0, [])) p_119 rfl rfl
theorem g119_159 : z_go zP 119 159 L [zi a] q Q ↔ Q (.inl (some (zi a))) q := ge_rti (len := 1) (x := (0, 0, [])) p_119 rfl rfl
theorem g120_0 : z_go zP 120 0 [some (.ref u), l1] S q Q ↔ z_go zP 120 1 [some (.ref u), l1] (.ref u :: S) q Q := ge_x (len := 1) (x := (0, 0, [])) p_120 rfl rfl
theorem g120_1 : z_go zP 120 1 L (.ref u :: S) q Q ↔ ∃ v, z_get [9] 14 q.1 u = some v ∧ z_go zP 120 4 L (v :: S) q Q := ge_getf (len := 3) (x := (14, 0, [9])) p_120 rfl
theorem g120_4 : z_go zP 120 4 [l0, some (zi a)] S q Q ↔ z_go zP 120 5 [l0, some (zi a)] (zi a :: S) q Q := ge_x (len := 1) (x := (0, 0, [])) p_120 rfl rfl
theorem g120_5 : z_go zP 120 5 L (zi a :: .ref u :: S) q Q ↔ ∃ v, z_at [99, 100] q.1 u (Int32.ofInt a) = some v ∧ z_go zP 120 6 L (v :: S) q Q := ge_iald (len := 1) (x := (0, 0, [])) p_120 rfl
theorem g120_6 : z_go zP 120 6 L S q Q ↔ z_go zP 120 7 L (zi 1 :: S) q Q := ge_x (len := 1) (x := (0, 0, [])) p_120 rfl rfl
theorem g120_7 (a1 : -2147483648 ≤ a) (a2 : a < 2147483648) (b1 : -2147483648 ≤ b) (b2 : b < 2147483648) : z_go zP 120 7 L (zi b :: zi a :: S) q Q ↔ if a = b then z_go zP 120 40 L S q Q else z_go zP 120 10 L S q Q := ge_ic_eq (len := 3) (x := (0, 0, [])) a1 a2 b1 b2 p_120 rfl rfl
theorem g120_10 : z_go zP 120 10 [some (.ref u), l1] S q Q ↔ z_go zP 120 11 [some (.ref u), l1] (.ref u :: S) q Q := ge_x (len := 1) (x := (0, 0, [])) p_120 rfl rfl
theorem g120_11 : z_go zP 120 11 L (.ref u :: S) q Q ↔ ∃ v, z_get [9] 14 q.1 u = some v ∧ z_go zP 120 14 L (v :: S) q Q := ge_getf (len := 3) (x := (14, 0, [9])) p_120 rfl
theorem g120_14 : z_go zP 120 14 [l0, some (zi a)] S q Q ↔ z_go zP 120 15 [l0, some (zi a)] (zi a :: S) q Q := ge_x (len := 1) (x := (0, 0, [])) p_120 rfl rfl
theorem g120_15 : z_go zP 120 15 L (zi a :: .ref u :: S) q Q ↔ ∃ v, z_at [99, 100] q.1 u (Int32.ofInt a) = some v ∧ z_go zP 120 16 L (v :: S) q Q := ge_iald (len := 1) (x := (0, 0, [])) p_120 rfl
theorem g120_16 : z_go zP 120 16 L S q Q ↔ z_go zP 120 17 L (zi 2 :: S) q Q := ge_x (len := 1) (x := (0, 0, [])) p_120 rfl rfl
theorem g120_17 (a1 : -2147483648 ≤ a) (a2 : a < 2147483648) (b1 : -2147483648 ≤ b) (b2 : b < 2147483648) : z_go zP 120 17 L (zi b :: zi a :: S) q Q ↔ if a = b then z_go zP 120 40 L S q Q else z_go zP 120 20 L S q Q := ge_ic_eq (len := 3) (x := (0, 0, [])) a1 a2 b1 b2 p_120 rfl rfl
theorem g120_20 : z_go zP 120 20 [some (.ref u), l1] S q Q ↔ z_go zP 120 21 [some (.ref u), l1] (.ref u :: S) q Q := ge_x (len := 1) (x := (0, 0, [])) p_120 rfl rfl
theorem g120_21 : z_go zP 120 21 L (.ref u :: S) q Q ↔ ∃ v, z_get [9] 14 q.1 u = some v ∧ z_go zP 120 24 L (v :: S) q Q := ge_getf (len := 3) (x := (14, 0, [9])) p_120 rfl
theorem g120_24 : z_go zP 120 24 [l0, some (zi a)] S q Q ↔ z_go zP 120 25 [l0, some (zi a)] (zi a :: S) q Q := ge_x (len := 1) (x := (0, 0, [])) p_120 rfl rfl
theorem g120_25 : z_go zP 120 25 L (zi a :: .ref u :: S) q Q ↔ ∃ v, z_at [99, 100] q.1 u (Int32.ofInt a) = some v ∧ z_go zP 120 26 L (v :: S) q Q := ge_iald (len := 1) (x := (0, 0, [])) p_120 rfl
theorem g120_26 : z_go zP 120 26 L S q Q ↔ z_go zP 120 27 L (zi 3 :: S) q Q := ge_x (len := 1) (x := (0, 0, [])) p_120 rfl rfl
theorem g120_27 (a1 : -2147483648 ≤ a) (a2 : a < 2147483648) (b1 : -2147483648 ≤ b) (b2 : b < 2147483648) : z_go zP 120 27 L (zi b :: zi a :: S) q Q ↔ if a = b then z_go zP 120 40 L S q Q else z_go zP 120 30 L S q Q := ge_ic_eq (len := 3) (x := (0, 0, [])) a1 a2 b1 b2 p_120 rfl rfl
theorem g120_30 : z_go zP 120 30 [some (.ref u), l1] S q Q ↔ z_go zP 120 31 [some (.ref u), l1] (.ref u :: S) q Q := ge_x (len := 1) (x := (0, 0, [])) p_120 rfl rfl
theorem g120_31 : z_go zP 120 31 L (.ref u :: S) q Q ↔ ∃ v, z_get [9] 14 q.1 u = some v ∧ z_go zP 120 34 L (v :: S) q Q := ge_getf (len := 3) (x := (14, 0, [9])) p_120 rfl
theorem g120_34 : z_go zP 120 34 [l0, some (zi a)] S q Q ↔ z_go zP 120 35 [l0, some (zi a)] (zi a :: S) q Q := ge_x (len := 1) (x := (0, 0, [])) p_120 rfl rfl
theorem g120_35 : z_go zP 120 35 L (zi a :: .ref u :: S) q Q ↔ ∃ v, z_at [99, 100] q.1 u (Int32.ofInt a) = some v ∧ z_go zP 120 36 L (v :: S) q Q := ge_iald (len := 1) (x := (0, 0, [])) p_120 rfl
theorem g120_36 : z_go zP 120 36 L S q Q ↔ z_go zP 120 37 L (zi 5 :: S) q Q := ge_x (len := 1) (x := (0, 0, [])) p_120 rfl rfl
theorem g120_37 (a1 : -2147483648 ≤ a) (a2 : a < 2147483648) (b1 : -2147483648 ≤ b) (b2 : b < 2147483648) : z_go zP 120 37 L (zi b :: zi a :: S) q Q ↔ if ¬ a = b then z_go zP 120 44 L S q Q else z_go zP 120 40 L S q Q := ge_ic_ne (len := 3) (x := (0, 0, [])) a1 a2 b1 b2 p_120 rfl rfl
theorem g120_40 : z_go zP 120 40 L S q Q ↔ z_go zP 120 41 L (zi 2 :: S) q Q := ge_x (len := 1) (x := (0, 0, [])) p_120 rfl rfl
theorem g120_41 : z_go zP 120 41 L S q Q ↔ z_go zP 120 70 L S q Q := ge_to (len := 3) (x := (0, 0, [])) p_120 rfl rfl rfl
theorem g120_44 : z_go zP 120 44 [some (.ref u), l1] S q Q ↔ z_go zP 120 45 [some (.ref u), l1] (.ref u :: S) q Q := ge_x (len := 1) (x := (0, 0, [])) p_120 rfl rfl
theorem g120_45 : z_go zP 120 45 L (.ref u :: S) q Q ↔ ∃ v, z_get [9] 14 q.1 u = some v ∧ z_go zP 120 48 L (v :: S) q Q := ge_getf (len := 3) (x := (14, 0, [9])) p_120 rfl
theorem g120_48 : z_go zP 120 48 [l0, some (zi a)] S q Q ↔ z_go zP 120 49 [l0, some (zi a)] (zi a :: S) q Q := ge_x (len := 1) (x := (0, 0, [])) p_120 rfl rfl
theorem g120_49 : z_go zP 120 49 L (zi a :: .ref u :: S) q Q ↔ ∃ v, z_at [99, 100] q.1 u (Int32.ofInt a) = some v ∧ z_go zP 120 50 L (v :: S) q Q := ge_iald (len := 1) (x := (0, 0, [])) p_120 rfl
theorem g120_50 : z_go zP 120 50 L S q Q ↔ z_go zP 120 51 L (zi 4 :: S) q Q := ge_x (len := 1) (x := (0, 0, [])) p_120 rfl rfl
theorem g120_51 (a1 : -2147483648 ≤ a) (a2 : a < 2147483648) (b1 : -2147483648 ≤ b) (b2 : b < 2147483648) : z_go zP 120 51 L (zi b :: zi a :: S) q Q ↔ if a = b then z_go zP 120 65 L S q Q else z_go zP 120 54 L S q Q := ge_ic_eq (len := 3) (x := (0, 0, [])) a1 a2 b1 b2 p_120 rfl rfl
theorem g120_54 : z_go zP 120 54 [some (.ref u), l1] S q Q ↔ z_go zP 120 55 [some (.ref u), l1] (.ref u :: S) q Q := ge_x (len := 1) (x := (0, 0, [])) p_120 rfl rfl
theorem g120_55 : z_go zP 120 55 L (.ref u :: S) q Q ↔ ∃ v, z_get [9] 14 q.1 u = some v ∧ z_go zP 120 58 L (v :: S) q Q := ge_getf (len := 3) (x := (14, 0, [9])) p_120 rfl
theorem g120_58 : z_go zP 120 58 [l0, some (zi a)] S q Q ↔ z_go zP 120 59 [l0, some (zi a)] (zi a :: S) q Q := ge_x (len := 1) (x := (0, 0, [])) p_120 rfl rfl
theorem g120_59 : z_go zP 120 59 L (zi a :: .ref u :: S) q Q ↔ ∃ v, z_at [99, 100] q.1 u (Int32.ofInt a) = some v ∧ z_go zP 120 60 L (v :: S) q Q := ge_iald (len := 1) (x := (0, 0, [])) p_120 rfl
theorem g120_60 : z_go zP 120 60 L S q Q ↔ z_go zP 120 62 L (zi 6 :: S) q Q := ge_x (len := 2) (x := (0, 0, [])) p_120 rfl rfl
theorem g120_62 (a1 : -2147483648 ≤ a) (a2 : a < 2147483648) (b1 : -2147483648 ≤ b) (b2 : b < 2147483648) : z_go zP 120 62 L (zi b :: zi a :: S) q Q ↔ if ¬ a = b then z_go zP 120 69 L S q Q else z_go zP 120 65 L S q Q := ge_ic_ne (len := 3) (x := (0, 0, [])) a1 a2 b1 b2 p_120 rfl rfl
theorem g120_65 : z_go zP 120 65 L S q Q ↔ z_go zP 120 66 L (zi 1 :: S) q Q := ge_x (len := 1) (x := (0, 0, [])) p_120 rfl rfl
theorem g120_66 : z_go zP 120 66 L S q Q ↔ z_go zP 120 70 L S q Q := ge_to (len := 3) (x := (0, 0, [])) p_120 rfl rfl rfl
theorem g120_69 : z_go zP 120 69 L S q Q ↔ z_go zP 120 70 L (zi 0 :: S) q Q := ge_x (len := 1) (x := (0, 0, [])) p_120 rfl rfl
theorem g120_70 : z_go zP 120 70 L [zi a] q Q ↔ Q (.inl (some (zi a))) q := ge_rti (len := 1) (x := (0, 0, [])) p_120 rfl rfl
theorem g121_0 : z_go zP 121 0 [some (.ref u), l1] S q Q ↔ z_go zP 121 1 [some (.ref u), l1] (.ref u :: S) q Q := ge_x (len := 1) (x := (0, 0, [])) p_121 rfl rfl
theorem g121_1 : z_go zP 121 1 L (.ref u :: S) q Q ↔ ∃ v, z_get [9] 14 q.1 u = some v ∧ z_go zP 121 4 L (v :: S) q Q := ge_getf (len := 3) (x := (14, 0, [9])) p_121 rfl
theorem g121_4 : z_go zP 121 4 [l0, some (zi a)] S q Q ↔ z_go zP 121 5 [l0, some (zi a)] (zi a :: S) q Q := ge_x (len := 1) (x := (0, 0, [])) p_121 rfl rfl
theorem g121_5 : z_go zP 121 5 L (zi a :: .ref u :: S) q Q ↔ ∃ v, z_at [99, 100] q.1 u (Int32.ofInt a) = some v ∧ z_go zP 121 6 L (v :: S) q Q := ge_iald (len := 1) (x := (0, 0, [])) p_121 rfl
theorem g121_6 : z_go zP 121 6 L S q Q ↔ z_go zP 121 7 L (zi 4 :: S) q Q := ge_x (len := 1) (x := (0, 0, [])) p_121 rfl rfl
theorem g121_7 (a1 : -2147483648 ≤ a) (a2 : a < 2147483648) (b1 : -2147483648 ≤ b) (b2 : b < 2147483648) : z_go zP 121 7 L (zi b :: zi a :: S) q Q ↔ if b < a then z_go zP 121 14 L S q Q else z_go zP 121 10 L S q Q := ge_ic_gt (len := 3) (x := (0, 0, [])) a1 a2 b1 b2 p_121 rfl rfl
theorem g121_10 : z_go zP 121 10 L S q Q ↔ z_go zP 121 11 L (zi 1 :: S) q Q := ge_x (len := 1) (x := (0, 0, [])) p_121 rfl rfl
theorem g121_11 : z_go zP 121 11 L S q Q ↔ z_go zP 121 15 L S q Q := ge_to (len := 3) (x := (0, 0, [])) p_121 rfl rfl rfl
theorem g121_14 : z_go zP 121 14 L S q Q ↔ z_go zP 121 15 L (zi 0 :: S) q Q := ge_x (len := 1) (x := (0, 0, [])) p_121 rfl rfl
theorem g121_15_0 : z_go zP 121 15 L [zi 0] q Q ↔ Q (.inl (some (zi 0))) q := z_go_rt (len := 1) (x := (0, 0, [])) p_121 rfl rfl rfl
theorem g121_15_1 : z_go zP 121 15 L [zi 1] q Q ↔ Q (.inl (some (zi 1))) q := z_go_rt (len := 1) (x := (0, 0, [])) p_121 rfl rfl rfl
theorem g121_15b {c : Prop} [Decidable c] : z_go zP 121 15 L [zi (bI c)] q Q ↔ Q (.inl (some (zi (bI c)))) q := (by rcases bI_01 (c := c) with h | h <;> rw [h] <;> exact z_go_rt (len := 1) (x := (0, 0, [])) p_121 rfl rfl rfl)
theorem g122_0 : z_go zP 122 0 L S q Q ↔ z_go zP 122 1 L (zi 4 :: S) q Q := ge_x (len := 1) (x := (0, 0, [])) p_122 rfl rfl
theorem g122_1 : z_go zP 122 1 [l0, some (zi a), l2, l3] S q Q ↔ z_go zP 122 2 [l0, some (zi a), l2, l3] (zi a :: S) q Q := ge_x (len := 1) (x := (0, 0, [])) p_122 rfl rfl
theorem g122_2 : z_go zP 122 2 L (zi b :: zi a :: S) q Q ↔ z_go zP 122 3 L (zi (a * b) :: S) q Q := ge_imul (len := 1) (x := (0, 0, [])) p_122 rfl
theorem g122_3 : z_go zP 122 3 [l0, l1, some (zi a), l3] S q Q ↔ z_go zP 122 4 [l0, l1, some (zi a), l3] (zi a :: S) q Q := ge_x (len := 1) (x := (0, 0, [])) p_122 rfl rfl
theorem g122_4 : z_go zP 122 4 L (zi b :: zi a :: S) q Q ↔ z_go zP 122 5 L (zi (a + b) :: S) q Q := ge_iadd (len := 1) (x := (0, 0, [])) p_122 rfl
theorem g122_5 : z_go zP 122 5 [l0, l1, l2, l3] (zi a :: S) q Q ↔ z_go zP 122 6 [l0, l1, (zkl l2), some (zi a)] S q Q := (by cases l2 with | none => exact ge_x (len := 1) (x := (0, 0, [])) p_122 rfl rfl | some v => cases v <;> exact ge_x (len := 1) (x := (0, 0, [])) p_122 rfl rfl)
theorem g122_6 : z_go zP 122 6 [some (.ref u), l1, l2, l3] S q Q ↔ z_go zP 122 7 [some (.ref u), l1, l2, l3] (.ref u :: S) q Q := ge_x (len := 1) (x := (0, 0, [])) p_122 rfl rfl
theorem g122_7 : z_go zP 122 7 L (.ref u :: S) q Q ↔ ∃ v, z_get [9] 26 q.1 u = some v ∧ z_go zP 122 10 L (v :: S) q Q := ge_getf (len := 3) (x := (26, 0, [9])) p_122 rfl
theorem g122_10 : z_go zP 122 10 [l0, l1, l2, some (zi a)] S q Q ↔ z_go zP 122 11 [l0, l1, l2, some (zi a)] (zi a :: S) q Q := ge_x (len := 1) (x := (0, 0, [])) p_122 rfl rfl
theorem g122_11 : z_go zP 122 11 L (zi a :: .ref u :: S) q Q ↔ ∃ v, z_at [99, 100] q.1 u (Int32.ofInt a) = some v ∧ z_go zP 122 12 L (v :: S) q Q := ge_iald (len := 1) (x := (0, 0, [])) p_122 rfl
theorem g122_12 (a1 : -2147483648 ≤ a) (a2 : a < 2147483648) : z_go zP 122 12 L (zi a :: S) q Q ↔ if 0 ≤ a then z_go zP 122 19 L S q Q else z_go zP 122 15 L S q Q := ge_if_ge (len := 3) (x := (0, 0, [])) a1 a2 p_122 rfl rfl
theorem g122_15 : z_go zP 122 15 L S q Q ↔ z_go zP 122 16 L (zi 0 :: S) q Q := ge_x (len := 1) (x := (0, 0, [])) p_122 rfl rfl
theorem g122_16 : z_go zP 122 16 L S q Q ↔ z_go zP 122 34 L S q Q := ge_to (len := 3) (x := (0, 0, [])) p_122 rfl rfl rfl
theorem g122_19 : z_go zP 122 19 [some (.ref u), l1, l2, l3] S q Q ↔ z_go zP 122 20 [some (.ref u), l1, l2, l3] (.ref u :: S) q Q := ge_x (len := 1) (x := (0, 0, [])) p_122 rfl rfl
theorem g122_20 : z_go zP 122 20 L (.ref u :: S) q Q ↔ ∃ v, z_get [9] 26 q.1 u = some v ∧ z_go zP 122 23 L (v :: S) q Q := ge_getf (len := 3) (x := (26, 0, [9])) p_122 rfl
theorem g122_23 : z_go zP 122 23 [l0, l1, l2, some (zi a)] S q Q ↔ z_go zP 122 24 [l0, l1, l2, some (zi a)] (zi a :: S) q Q := ge_x (len := 1) (x := (0, 0, [])) p_122 rfl rfl
theorem g122_24 : z_go zP 122 24 L (zi a :: .ref u :: S) q Q ↔ ∃ v, z_at [99, 100] q.1 u (Int32.ofInt a) = some v ∧ z_go zP 122 25 L (v :: S) q Q := ge_iald (len := 1) (x := (0, 0, [])) p_122 rfl
theorem g122_25 : z_go zP 122 25 [some (.ref u), l1, l2, l3] S q Q ↔ z_go zP 122 26 [some (.ref u), l1, l2, l3] (.ref u :: S) q Q := ge_x (len := 1) (x := (0, 0, [])) p_122 rfl rfl
theorem g122_26 : z_go zP 122 26 L (.ref u :: S) q Q ↔ ∃ v, z_get [9] 27 q.1 u = some v ∧ z_go zP 122 29 L (v :: S) q Q := ge_getf (len := 3) (x := (27, 0, [9])) p_122 rfl
theorem g122_29 : z_go zP 122 29 [l0, l1, l2, some (zi a)] S q Q ↔ z_go zP 122 30 [l0, l1, l2, some (zi a)] (zi a :: S) q Q := ge_x (len := 1) (x := (0, 0, [])) p_122 rfl rfl
theorem g122_30 : z_go zP 122 30 L (zi a :: .ref u :: S) q Q ↔ ∃ v, z_at [99, 100] q.1 u (Int32.ofInt a) = some v ∧ z_go zP 122 31 L (v :: S) q Q := ge_iald (len := 1) (x := (0, 0, [])) p_122 rfl
theorem g122_31 : z_go zP 122 31 L (zi b :: zi a :: S) q Q ↔ z_go zP 122 32 L (zi (a + b) :: S) q Q := ge_iadd (len := 1) (x := (0, 0, [])) p_122 rfl
theorem g122_32 : z_go zP 122 32 L S q Q ↔ z_go zP 122 33 L (zi 1 :: S) q Q := ge_x (len := 1) (x := (0, 0, [])) p_122 rfl rfl
theorem g122_33 : z_go zP 122 33 L (zi b :: zi a :: S) q Q ↔ z_go zP 122 34 L (zi (a + b) :: S) q Q := ge_iadd (len := 1) (x := (0, 0, [])) p_122 rfl
theorem g122_34 : z_go zP 122 34 L [zi a] q Q ↔ Q (.inl (some (zi a))) q := ge_rti (len := 1) (x := (0, 0, [])) p_122 rfl rfl
set_option maxRecDepth 100000 in
theorem g123_0 : z_go zP 123 0 L S q Q ↔ z_go zP 123 2 L (zi 61 :: S) q Q := ge_x (len := 2) (x := (0, 0, [])) p_123 rfl rfl
set_option maxRecDepth 100000 in
theorem g123_2 : z_go zP 123 2 [l0, some (zi a), l2, l3, l4, l5, l6, l7, l8, l9] S q Q ↔ z_go zP 123 3 [l0, some (zi a), l2, l3, l4, l5, l6, l7, l8, l9] (zi a :: S) q Q := ge_x (len := 1) (x := (0, 0, [])) p_123 rfl rfl
set_option maxRecDepth 100000 in
theorem g123_3 : z_go zP 123 3 L (zi b :: zi a :: S) q Q ↔ z_go zP 123 4 L (zi (a + b) :: S) q Q := ge_iadd (len := 1) (x := (0, 0, [])) p_123 rfl
set_option maxRecDepth 100000 in
theorem g123_4 : z_go zP 123 4 [l0, l1, l2, l3, l4, l5, l6, l7, l8, l9] (zi a :: S) q Q ↔ z_go zP 123 5 [l0, (zkl l1), some (zi a), l3, l4, l5, l6, l7, l8, l9] S q Q := (by cases l1 with | none => exact ge_x (len := 1) (x := (0, 0, [])) p_123 rfl rfl | some v => cases v <;> exact ge_x (len := 1) (x := (0, 0, [])) p_123 rfl rfl)
set_option maxRecDepth 100000 in
theorem g123_5 : z_go zP 123 5 [some (.ref u), l1, l2, l3, l4, l5, l6, l7, l8, l9] S q Q ↔ z_go zP 123 6 [some (.ref u), l1, l2, l3, l4, l5, l6, l7, l8, l9] (.ref u :: S) q Q := ge_x (len := 1) (x := (0, 0, [])) p_123 rfl rfl
set_option maxRecDepth 100000 in
theorem g123_6 : z_go zP 123 6 L (.ref u :: S) q Q ↔ ∃ v, z_get [9] 6 q.1 u = some v ∧ z_go zP 123 9 L (v :: S) q Q := ge_getf (len := 3) (x := (6, 0, [9])) p_123 rfl
set_option maxRecDepth 100000 in
theorem g123_9 : z_go zP 123 9 [l0, some (zi a), l2, l3, l4, l5, l6, l7, l8, l9] S q Q ↔ z_go zP 123 10 [l0, some (zi a), l2, l3, l4, l5, l6, l7, l8, l9] (zi a :: S) q Q := ge_x (len := 1) (x := (0, 0, [])) p_123 rfl rfl
set_option maxRecDepth 100000 in
theorem g123_10 : z_go zP 123 10 L (zi a :: .ref u :: S) q Q ↔ ∃ v, z_at [99, 100] q.1 u (Int32.ofInt a) = some v ∧ z_go zP 123 11 L (v :: S) q Q := ge_iald (len := 1) (x := (0, 0, [])) p_123 rfl
set_option maxRecDepth 100000 in
theorem g123_11 : z_go zP 123 11 [l0, l1, l2, l3, l4, l5, l6, l7, l8, l9] (zi a :: S) q Q ↔ z_go zP 123 12 [l0, l1, (zkl l2), some (zi a), l4, l5, l6, l7, l8, l9] S q Q := (by cases l2 with | none => exact ge_x (len := 1) (x := (0, 0, [])) p_123 rfl rfl | some v => cases v <;> exact ge_x (len := 1) (x := (0, 0, [])) p_123 rfl rfl)
set_option maxRecDepth 100000 in
theorem g123_12 : z_go zP 123 12 [some (.ref u), l1, l2, l3, l4, l5, l6, l7, l8, l9] S q Q ↔ z_go zP 123 13 [some (.ref u), l1, l2, l3, l4, l5, l6, l7, l8, l9] (.ref u :: S) q Q := ge_x (len := 1) (x := (0, 0, [])) p_123 rfl rfl
set_option maxRecDepth 100000 in
theorem g123_13 : z_go zP 123 13 L (.ref u :: S) q Q ↔ ∃ v, z_get [9] 5 q.1 u = some v ∧ z_go zP 123 16 L (v :: S) q Q := ge_getf (len := 3) (x := (5, 0, [9])) p_123 rfl
set_option maxRecDepth 100000 in
theorem g123_16 : z_go zP 123 16 [l0, some (zi a), l2, l3, l4, l5, l6, l7, l8, l9] S q Q ↔ z_go zP 123 17 [l0, some (zi a), l2, l3, l4, l5, l6, l7, l8, l9] (zi a :: S) q Q := ge_x (len := 1) (x := (0, 0, [])) p_123 rfl rfl
set_option maxRecDepth 100000 in
theorem g123_17 : z_go zP 123 17 L (zi a :: .ref u :: S) q Q ↔ ∃ v, z_at [99, 100] q.1 u (Int32.ofInt a) = some v ∧ z_go zP 123 18 L (v :: S) q Q := ge_iald (len := 1) (x := (0, 0, [])) p_123 rfl
set_option maxRecDepth 100000 in
theorem g123_18 : z_go zP 123 18 [l0, l1, l2, l3, l4, l5, l6, l7, l8, l9] (zi a :: S) q Q ↔ z_go zP 123 20 [l0, l1, l2, (zkl l3), some (zi a), l5, l6, l7, l8, l9] S q Q := (by cases l3 with | none => exact ge_x (len := 2) (x := (0, 0, [])) p_123 rfl rfl | some v => cases v <;> exact ge_x (len := 2) (x := (0, 0, [])) p_123 rfl rfl)
set_option maxRecDepth 100000 in
theorem g123_20 : z_go zP 123 20 [some (.ref u), l1, l2, l3, l4, l5, l6, l7, l8, l9] S q Q ↔ z_go zP 123 21 [some (.ref u), l1, l2, l3, l4, l5, l6, l7, l8, l9] (.ref u :: S) q Q := ge_x (len := 1) (x := (0, 0, [])) p_123 rfl rfl
set_option maxRecDepth 100000 in
theorem g123_21 : z_go zP 123 21 [l0, l1, some (zi a), l3, l4, l5, l6, l7, l8, l9] S q Q ↔ z_go zP 123 22 [l0, l1, some (zi a), l3, l4, l5, l6, l7, l8, l9] (zi a :: S) q Q := ge_x (len := 1) (x := (0, 0, [])) p_123 rfl rfl
set_option maxRecDepth 100000 in
theorem g123_22 : z_go zP 123 22 [l0, l1, l2, some (zi a), l4, l5, l6, l7, l8, l9] S q Q ↔ z_go zP 123 23 [l0, l1, l2, some (zi a), l4, l5, l6, l7, l8, l9] (zi a :: S) q Q := ge_x (len := 1) (x := (0, 0, [])) p_123 rfl rfl
set_option maxRecDepth 100000 in
theorem g123_23 : z_go zP 123 23 L [zi x1, zi x0, .ref u] q Q ↔ z_tg q.1 u = some 9 ∧ z_go zP 114 0 [some (.ref u), some (zi x0), some (zi x1)] [] q (zc 123 26 L [] Q) := ge_vc (len := 3) (pc := 23) (S := [zi x1, zi x0, .ref u]) (u := u) (k1 := 114) (A := [.ref u, zi x0, zi x1]) (r := []) (tag := 9) (n0 := 2) (zwb_le (by show 0 ≤ 4; omega)) p_123 rfl rfl rfl p_114 (by show 3 ≤ 3; omega) rfl
set_option maxRecDepth 100000 in
theorem g123_26 : z_go zP 123 26 [l0, l1, l2, l3, l4, l5, l6, l7, l8, l9] (zi a :: S) q Q ↔ z_go zP 123 28 [l0, l1, l2, l3, (zkl l4), some (zi a), l6, l7, l8, l9] S q Q := (by cases l4 with | none => exact ge_x (len := 2) (x := (0, 0, [])) p_123 rfl rfl | some v => cases v <;> exact ge_x (len := 2) (x := (0, 0, [])) p_123 rfl rfl)
set_option maxRecDepth 100000 in
theorem g123_28 : z_go zP 123 28 [some (.ref u), l1, l2, l3, l4, l5, l6, l7, l8, l9] S q Q ↔ z_go zP 123 29 [some (.ref u), l1, l2, l3, l4, l5, l6, l7, l8, l9] (.ref u :: S) q Q := ge_x (len := 1) (x := (0, 0, [])) p_123 rfl rfl
set_option maxRecDepth 100000 in
theorem g123_29 : z_go zP 123 29 [l0, l1, some (zi a), l3, l4, l5, l6, l7, l8, l9] S q Q ↔ z_go zP 123 30 [l0, l1, some (zi a), l3, l4, l5, l6, l7, l8, l9] (zi a :: S) q Q := ge_x (len := 1) (x := (0, 0, [])) p_123 rfl rfl
set_option maxRecDepth 100000 in
theorem g123_30 : z_go zP 123 30 [l0, l1, l2, l3, l4, some (zi a), l6, l7, l8, l9] S q Q ↔ z_go zP 123 32 [l0, l1, l2, l3, l4, some (zi a), l6, l7, l8, l9] (zi a :: S) q Q := ge_x (len := 2) (x := (0, 0, [])) p_123 rfl rfl
set_option maxRecDepth 100000 in
theorem g123_32 : z_go zP 123 32 L [zi x1, zi x0, .ref u] q Q ↔ z_tg q.1 u = some 9 ∧ z_go zP 115 0 [some (.ref u), some (zi x0), some (zi x1)] [] q (zc 123 35 L [] Q) := ge_vc (len := 3) (pc := 32) (S := [zi x1, zi x0, .ref u]) (u := u) (k1 := 115) (A := [.ref u, zi x0, zi x1]) (r := []) (tag := 9) (n0 := 2) (zwb_le (by show 0 ≤ 4; omega)) p_123 rfl rfl rfl p_115 (by show 3 ≤ 3; omega) rfl
set_option maxRecDepth 100000 in
theorem g123_35 : z_go zP 123 35 [l0, l1, l2, l3, l4, l5, l6, l7, l8, l9] (zi a :: S) q Q ↔ z_go zP 123 37 [l0, l1, l2, l3, l4, (zkl l5), some (zi a), l7, l8, l9] S q Q := (by cases l5 with | none => exact ge_x (len := 2) (x := (0, 0, [])) p_123 rfl rfl | some v => cases v <;> exact ge_x (len := 2) (x := (0, 0, [])) p_123 rfl rfl)
set_option maxRecDepth 100000 in
theorem g123_37 : z_go zP 123 37 [some (.ref u), l1, l2, l3, l4, l5, l6, l7, l8, l9] S q Q ↔ z_go zP 123 38 [some (.ref u), l1, l2, l3, l4, l5, l6, l7, l8, l9] (.ref u :: S) q Q := ge_x (len := 1) (x := (0, 0, [])) p_123 rfl rfl
set_option maxRecDepth 100000 in
theorem g123_38 : z_go zP 123 38 L (.ref u :: S) q Q ↔ ∃ v, z_get [9] 24 q.1 u = some v ∧ z_go zP 123 41 L (v :: S) q Q := ge_getf (len := 3) (x := (24, 0, [9])) p_123 rfl
set_option maxRecDepth 100000 in
theorem g123_41 : z_go zP 123 41 [l0, some (zi a), l2, l3, l4, l5, l6, l7, l8, l9] S q Q ↔ z_go zP 123 42 [l0, some (zi a), l2, l3, l4, l5, l6, l7, l8, l9] (zi a :: S) q Q := ge_x (len := 1) (x := (0, 0, [])) p_123 rfl rfl
set_option maxRecDepth 100000 in
theorem g123_42 : z_go zP 123 42 L (zi a :: .ref u :: S) q Q ↔ ∃ v, z_at [99, 100] q.1 u (Int32.ofInt a) = some v ∧ z_go zP 123 43 L (v :: S) q Q := ge_iald (len := 1) (x := (0, 0, [])) p_123 rfl
set_option maxRecDepth 100000 in
theorem g123_43 : z_go zP 123 43 [l0, l1, l2, l3, l4, l5, l6, l7, l8, l9] (zi a :: S) q Q ↔ z_go zP 123 45 [l0, l1, l2, l3, l4, l5, (zkl l6), some (zi a), l8, l9] S q Q := (by cases l6 with | none => exact ge_x (len := 2) (x := (0, 0, [])) p_123 rfl rfl | some v => cases v <;> exact ge_x (len := 2) (x := (0, 0, [])) p_123 rfl rfl)
set_option maxRecDepth 100000 in
theorem g123_45 : z_go zP 123 45 [some (.ref u), l1, l2, l3, l4, l5, l6, l7, l8, l9] S q Q ↔ z_go zP 123 46 [some (.ref u), l1, l2, l3, l4, l5, l6, l7, l8, l9] (.ref u :: S) q Q := ge_x (len := 1) (x := (0, 0, [])) p_123 rfl rfl
set_option maxRecDepth 100000 in
theorem g123_46 : z_go zP 123 46 L (.ref u :: S) q Q ↔ ∃ v, z_get [9] 25 q.1 u = some v ∧ z_go zP 123 49 L (v :: S) q Q := ge_getf (len := 3) (x := (25, 0, [9])) p_123 rfl
set_option maxRecDepth 100000 in
theorem g123_49 : z_go zP 123 49 L S q Q ↔ z_go zP 123 51 L (zi 16 :: S) q Q := ge_x (len := 2) (x := (0, 0, [])) p_123 rfl rfl
set_option maxRecDepth 100000 in
theorem g123_51 : z_go zP 123 51 [l0, some (zi a), l2, l3, l4, l5, l6, l7, l8, l9] S q Q ↔ z_go zP 123 52 [l0, some (zi a), l2, l3, l4, l5, l6, l7, l8, l9] (zi a :: S) q Q := ge_x (len := 1) (x := (0, 0, [])) p_123 rfl rfl
set_option maxRecDepth 100000 in
theorem g123_52 : z_go zP 123 52 L (zi b :: zi a :: S) q Q ↔ z_go zP 123 53 L (zi (a * b) :: S) q Q := ge_imul (len := 1) (x := (0, 0, [])) p_123 rfl
set_option maxRecDepth 100000 in
theorem g123_53 : z_go zP 123 53 [some (.ref u), l1, l2, l3, l4, l5, l6, l7, l8, l9] S q Q ↔ z_go zP 123 54 [some (.ref u), l1, l2, l3, l4, l5, l6, l7, l8, l9] (.ref u :: S) q Q := ge_x (len := 1) (x := (0, 0, [])) p_123 rfl rfl
set_option maxRecDepth 100000 in
theorem g123_54 : z_go zP 123 54 L (.ref u :: S) q Q ↔ ∃ v, z_get [9] 21 q.1 u = some v ∧ z_go zP 123 57 L (v :: S) q Q := ge_getf (len := 3) (x := (21, 0, [9])) p_123 rfl
set_option maxRecDepth 100000 in
theorem g123_57 : z_go zP 123 57 [l0, l1, some (zi a), l3, l4, l5, l6, l7, l8, l9] S q Q ↔ z_go zP 123 58 [l0, l1, some (zi a), l3, l4, l5, l6, l7, l8, l9] (zi a :: S) q Q := ge_x (len := 1) (x := (0, 0, [])) p_123 rfl rfl
set_option maxRecDepth 100000 in
theorem g123_58 : z_go zP 123 58 L (zi a :: .ref u :: S) q Q ↔ ∃ v, z_at [99, 100] q.1 u (Int32.ofInt a) = some v ∧ z_go zP 123 59 L (v :: S) q Q := ge_iald (len := 1) (x := (0, 0, [])) p_123 rfl
set_option maxRecDepth 100000 in
theorem g123_59 : z_go zP 123 59 L S q Q ↔ z_go zP 123 61 L (zi 16 :: S) q Q := ge_x (len := 2) (x := (0, 0, [])) p_123 rfl rfl
set_option maxRecDepth 100000 in
theorem g123_61 (a1 : -2147483648 ≤ a) (a2 : a < 2147483648) (b1 : 0 < b) (b2 : b < 2147483648) : z_go zP 123 61 L (zi b :: zi a :: S) q Q ↔ z_go zP 123 62 L (zi (a.tmod b) :: S) q Q := ge_irem (len := 1) (x := (0, 0, [])) a1 a2 b1 b2 p_123 rfl
set_option maxRecDepth 100000 in
theorem g123_62 : z_go zP 123 62 L (zi b :: zi a :: S) q Q ↔ z_go zP 123 63 L (zi (a + b) :: S) q Q := ge_iadd (len := 1) (x := (0, 0, [])) p_123 rfl
set_option maxRecDepth 100000 in
theorem g123_63 : z_go zP 123 63 [l0, l1, l2, l3, l4, l5, l6, some (zi a), l8, l9] S q Q ↔ z_go zP 123 65 [l0, l1, l2, l3, l4, l5, l6, some (zi a), l8, l9] (zi a :: S) q Q := ge_x (len := 2) (x := (0, 0, [])) p_123 rfl rfl
set_option maxRecDepth 100000 in
theorem g123_65 : z_go zP 123 65 L (zi b :: zi a :: .ref u :: S) q Q ↔ ∃ q1, z_st 100 q u (Int32.ofInt a) (zi b) = some q1 ∧ z_go zP 123 66 L S q1 Q := ge_iast (len := 1) (x := (0, 0, [])) p_123 rfl
set_option maxRecDepth 100000 in
theorem g123_66 : z_go zP 123 66 [some (.ref u), l1, l2, l3, l4, l5, l6, l7, l8, l9] S q Q ↔ z_go zP 123 67 [some (.ref u), l1, l2, l3, l4, l5, l6, l7, l8, l9] (.ref u :: S) q Q := ge_x (len := 1) (x := (0, 0, [])) p_123 rfl rfl
set_option maxRecDepth 100000 in
theorem g123_67 : z_go zP 123 67 [l0, l1, l2, l3, l4, some (zi a), l6, l7, l8, l9] S q Q ↔ z_go zP 123 69 [l0, l1, l2, l3, l4, some (zi a), l6, l7, l8, l9] (zi a :: S) q Q := ge_x (len := 2) (x := (0, 0, [])) p_123 rfl rfl
set_option maxRecDepth 100000 in
theorem g123_69 : z_go zP 123 69 L [zi x0, .ref u] q Q ↔ z_tg q.1 u = some 9 ∧ z_go zP 121 0 [some (.ref u), some (zi x0)] [] q (zc 123 72 L [] Q) := ge_vc (len := 3) (pc := 69) (S := [zi x0, .ref u]) (u := u) (k1 := 121) (A := [.ref u, zi x0]) (r := []) (tag := 9) (n0 := 1) (zwb_le (by show 0 ≤ 4; omega)) p_123 rfl rfl rfl p_121 (by show 2 ≤ 2; omega) rfl
set_option maxRecDepth 100000 in
theorem g123_72 (a1 : -2147483648 ≤ a) (a2 : a < 2147483648) : z_go zP 123 72 L (zi a :: S) q Q ↔ if a = 0 then z_go zP 123 137 L S q Q else z_go zP 123 75 L S q Q := ge_if_eq (len := 3) (x := (0, 0, [])) a1 a2 p_123 rfl rfl
set_option maxRecDepth 100000 in
theorem g123_72b {c : Prop} [Decidable c] : z_go zP 123 72 L (zi (bI c) :: S) q Q ↔ if c then z_go zP 123 75 L S q Q else z_go zP 123 137 L S q Q := ge_if_eq_b (len := 3) (x := (0, 0, [])) p_123 rfl rfl
set_option maxRecDepth 100000 in
theorem g123_75 : z_go zP 123 75 [some (.ref u), l1, l2, l3, l4, l5, l6, l7, l8, l9] S q Q ↔ z_go zP 123 76 [some (.ref u), l1, l2, l3, l4, l5, l6, l7, l8, l9] (.ref u :: S) q Q := ge_x (len := 1) (x := (0, 0, [])) p_123 rfl rfl
set_option maxRecDepth 100000 in
theorem g123_76 : z_go zP 123 76 L (.ref u :: S) q Q ↔ ∃ v, z_get [9] 26 q.1 u = some v ∧ z_go zP 123 79 L (v :: S) q Q := ge_getf (len := 3) (x := (26, 0, [9])) p_123 rfl
set_option maxRecDepth 100000 in
theorem g123_79 : z_go zP 123 79 L S q Q ↔ z_go zP 123 80 L (zi 4 :: S) q Q := ge_x (len := 1) (x := (0, 0, [])) p_123 rfl rfl
set_option maxRecDepth 100000 in
theorem g123_80 : z_go zP 123 80 [l0, some (zi a), l2, l3, l4, l5, l6, l7, l8, l9] S q Q ↔ z_go zP 123 81 [l0, some (zi a), l2, l3, l4, l5, l6, l7, l8, l9] (zi a :: S) q Q := ge_x (len := 1) (x := (0, 0, [])) p_123 rfl rfl
set_option maxRecDepth 100000 in
theorem g123_81 : z_go zP 123 81 L (zi b :: zi a :: S) q Q ↔ z_go zP 123 82 L (zi (a * b) :: S) q Q := ge_imul (len := 1) (x := (0, 0, [])) p_123 rfl
set_option maxRecDepth 100000 in
theorem g123_82 : z_go zP 123 82 [some (.ref u), l1, l2, l3, l4, l5, l6, l7, l8, l9] S q Q ↔ z_go zP 123 83 [some (.ref u), l1, l2, l3, l4, l5, l6, l7, l8, l9] (.ref u :: S) q Q := ge_x (len := 1) (x := (0, 0, [])) p_123 rfl rfl
set_option maxRecDepth 100000 in
theorem g123_83 : z_go zP 123 83 L (.ref u :: S) q Q ↔ ∃ v, z_get [9] 15 q.1 u = some v ∧ z_go zP 123 86 L (v :: S) q Q := ge_getf (len := 3) (x := (15, 0, [9])) p_123 rfl
set_option maxRecDepth 100000 in
theorem g123_86 : z_go zP 123 86 [l0, l1, l2, l3, l4, some (zi a), l6, l7, l8, l9] S q Q ↔ z_go zP 123 88 [l0, l1, l2, l3, l4, some (zi a), l6, l7, l8, l9] (zi a :: S) q Q := ge_x (len := 2) (x := (0, 0, [])) p_123 rfl rfl
set_option maxRecDepth 100000 in
theorem g123_88 : z_go zP 123 88 L (zi a :: .ref u :: S) q Q ↔ ∃ v, z_at [99, 100] q.1 u (Int32.ofInt a) = some v ∧ z_go zP 123 89 L (v :: S) q Q := ge_iald (len := 1) (x := (0, 0, [])) p_123 rfl
set_option maxRecDepth 100000 in
theorem g123_89 : z_go zP 123 89 L (zi b :: zi a :: S) q Q ↔ z_go zP 123 90 L (zi (a + b) :: S) q Q := ge_iadd (len := 1) (x := (0, 0, [])) p_123 rfl
set_option maxRecDepth 100000 in
theorem g123_90 : z_go zP 123 90 [l0, l1, l2, l3, l4, l5, l6, some (zi a), l8, l9] S q Q ↔ z_go zP 123 92 [l0, l1, l2, l3, l4, l5, l6, some (zi a), l8, l9] (zi a :: S) q Q := ge_x (len := 2) (x := (0, 0, [])) p_123 rfl rfl
set_option maxRecDepth 100000 in
theorem g123_92 : z_go zP 123 92 L (zi b :: zi a :: .ref u :: S) q Q ↔ ∃ q1, z_st 100 q u (Int32.ofInt a) (zi b) = some q1 ∧ z_go zP 123 93 L S q1 Q := ge_iast (len := 1) (x := (0, 0, [])) p_123 rfl
set_option maxRecDepth 100000 in
theorem g123_93 : z_go zP 123 93 [some (.ref u), l1, l2, l3, l4, l5, l6, l7, l8, l9] S q Q ↔ z_go zP 123 94 [some (.ref u), l1, l2, l3, l4, l5, l6, l7, l8, l9] (.ref u :: S) q Q := ge_x (len := 1) (x := (0, 0, [])) p_123 rfl rfl
set_option maxRecDepth 100000 in
theorem g123_94 : z_go zP 123 94 L (.ref u :: S) q Q ↔ ∃ v, z_get [9] 27 q.1 u = some v ∧ z_go zP 123 97 L (v :: S) q Q := ge_getf (len := 3) (x := (27, 0, [9])) p_123 rfl
set_option maxRecDepth 100000 in
theorem g123_97 : z_go zP 123 97 L S q Q ↔ z_go zP 123 98 L (zi 4 :: S) q Q := ge_x (len := 1) (x := (0, 0, [])) p_123 rfl rfl
set_option maxRecDepth 100000 in
theorem g123_98 : z_go zP 123 98 [l0, some (zi a), l2, l3, l4, l5, l6, l7, l8, l9] S q Q ↔ z_go zP 123 99 [l0, some (zi a), l2, l3, l4, l5, l6, l7, l8, l9] (zi a :: S) q Q := ge_x (len := 1) (x := (0, 0, [])) p_123 rfl rfl
set_option maxRecDepth 100000 in
theorem g123_99 : z_go zP 123 99 L (zi b :: zi a :: S) q Q ↔ z_go zP 123 100 L (zi (a * b) :: S) q Q := ge_imul (len := 1) (x := (0, 0, [])) p_123 rfl
set_option maxRecDepth 100000 in
theorem g123_100 : z_go zP 123 100 [some (.ref u), l1, l2, l3, l4, l5, l6, l7, l8, l9] S q Q ↔ z_go zP 123 101 [some (.ref u), l1, l2, l3, l4, l5, l6, l7, l8, l9] (.ref u :: S) q Q := ge_x (len := 1) (x := (0, 0, [])) p_123 rfl rfl
set_option maxRecDepth 100000 in
theorem g123_101 : z_go zP 123 101 L (.ref u :: S) q Q ↔ ∃ v, z_get [9] 15 q.1 u = some v ∧ z_go zP 123 104 L (v :: S) q Q := ge_getf (len := 3) (x := (15, 0, [9])) p_123 rfl
set_option maxRecDepth 100000 in
theorem g123_104 : z_go zP 123 104 [l0, l1, l2, l3, l4, some (zi a), l6, l7, l8, l9] S q Q ↔ z_go zP 123 106 [l0, l1, l2, l3, l4, some (zi a), l6, l7, l8, l9] (zi a :: S) q Q := ge_x (len := 2) (x := (0, 0, [])) p_123 rfl rfl
set_option maxRecDepth 100000 in
theorem g123_106 : z_go zP 123 106 L (zi a :: .ref u :: S) q Q ↔ ∃ v, z_at [99, 100] q.1 u (Int32.ofInt a) = some v ∧ z_go zP 123 107 L (v :: S) q Q := ge_iald (len := 1) (x := (0, 0, [])) p_123 rfl
set_option maxRecDepth 100000 in
theorem g123_107 : z_go zP 123 107 L (zi b :: zi a :: S) q Q ↔ z_go zP 123 108 L (zi (a + b) :: S) q Q := ge_iadd (len := 1) (x := (0, 0, [])) p_123 rfl
set_option maxRecDepth 100000 in
theorem g123_108 : z_go zP 123 108 [some (.ref u), l1, l2, l3, l4, l5, l6, l7, l8, l9] S q Q ↔ z_go zP 123 109 [some (.ref u), l1, l2, l3, l4, l5, l6, l7, l8, l9] (.ref u :: S) q Q := ge_x (len := 1) (x := (0, 0, [])) p_123 rfl rfl
set_option maxRecDepth 100000 in
theorem g123_109 : z_go zP 123 109 L (.ref u :: S) q Q ↔ ∃ v, z_get [9] 14 q.1 u = some v ∧ z_go zP 123 112 L (v :: S) q Q := ge_getf (len := 3) (x := (14, 0, [9])) p_123 rfl
set_option maxRecDepth 100000 in
theorem g123_112 : z_go zP 123 112 [l0, l1, l2, l3, l4, some (zi a), l6, l7, l8, l9] S q Q ↔ z_go zP 123 114 [l0, l1, l2, l3, l4, some (zi a), l6, l7, l8, l9] (zi a :: S) q Q := ge_x (len := 2) (x := (0, 0, [])) p_123 rfl rfl
set_option maxRecDepth 100000 in
theorem g123_114 : z_go zP 123 114 L (zi a :: .ref u :: S) q Q ↔ ∃ v, z_at [99, 100] q.1 u (Int32.ofInt a) = some v ∧ z_go zP 123 115 L (v :: S) q Q := ge_iald (len := 1) (x := (0, 0, [])) p_123 rfl
set_option maxRecDepth 100000 in
theorem g123_115 : z_go zP 123 115 L S q Q ↔ z_go zP 123 116 L (zi 4 :: S) q Q := ge_x (len := 1) (x := (0, 0, [])) p_123 rfl rfl
set_option maxRecDepth 100000 in
theorem g123_116 (a1 : -2147483648 ≤ a) (a2 : a < 2147483648) (b1 : -2147483648 ≤ b) (b2 : b < 2147483648) : z_go zP 123 116 L (zi b :: zi a :: S) q Q ↔ if ¬ a = b then z_go zP 123 129 L S q Q else z_go zP 123 119 L S q Q := ge_ic_ne (len := 3) (x := (0, 0, [])) a1 a2 b1 b2 p_123 rfl rfl
set_option maxRecDepth 100000 in
theorem g123_119 : z_go zP 123 119 [some (.ref u), l1, l2, l3, l4, l5, l6, l7, l8, l9] S q Q ↔ z_go zP 123 120 [some (.ref u), l1, l2, l3, l4, l5, l6, l7, l8, l9] (.ref u :: S) q Q := ge_x (len := 1) (x := (0, 0, [])) p_123 rfl rfl
set_option maxRecDepth 100000 in
theorem g123_120 : z_go zP 123 120 L (.ref u :: S) q Q ↔ ∃ v, z_get [9] 11 q.1 u = some v ∧ z_go zP 123 123 L (v :: S) q Q := ge_getf (len := 3) (x := (11, 0, [9])) p_123 rfl
set_option maxRecDepth 100000 in
theorem g123_123 : z_go zP 123 123 [l0, l1, l2, l3, some (zi a), l5, l6, l7, l8, l9] S q Q ↔ z_go zP 123 125 [l0, l1, l2, l3, some (zi a), l5, l6, l7, l8, l9] (zi a :: S) q Q := ge_x (len := 2) (x := (0, 0, [])) p_123 rfl rfl
set_option maxRecDepth 100000 in
theorem g123_125 : z_go zP 123 125 L (zi a :: .ref u :: S) q Q ↔ ∃ v, z_at [99, 100] q.1 u (Int32.ofInt a) = some v ∧ z_go zP 123 126 L (v :: S) q Q := ge_iald (len := 1) (x := (0, 0, [])) p_123 rfl
set_option maxRecDepth 100000 in
theorem g123_126 : z_go zP 123 126 L S q Q ↔ z_go zP 123 136 L S q Q := ge_to (len := 3) (x := (0, 0, [])) p_123 rfl rfl rfl
set_option maxRecDepth 100000 in
theorem g123_129 : z_go zP 123 129 [some (.ref u), l1, l2, l3, l4, l5, l6, l7, l8, l9] S q Q ↔ z_go zP 123 130 [some (.ref u), l1, l2, l3, l4, l5, l6, l7, l8, l9] (.ref u :: S) q Q := ge_x (len := 1) (x := (0, 0, [])) p_123 rfl rfl
set_option maxRecDepth 100000 in
theorem g123_130 : z_go zP 123 130 L (.ref u :: S) q Q ↔ ∃ v, z_get [9] 10 q.1 u = some v ∧ z_go zP 123 133 L (v :: S) q Q := ge_getf (len := 3) (x := (10, 0, [9])) p_123 rfl
set_option maxRecDepth 100000 in
theorem g123_133 : z_go zP 123 133 [l0, l1, l2, l3, some (zi a), l5, l6, l7, l8, l9] S q Q ↔ z_go zP 123 135 [l0, l1, l2, l3, some (zi a), l5, l6, l7, l8, l9] (zi a :: S) q Q := ge_x (len := 2) (x := (0, 0, [])) p_123 rfl rfl
set_option maxRecDepth 100000 in
theorem g123_135 : z_go zP 123 135 L (zi a :: .ref u :: S) q Q ↔ ∃ v, z_at [99, 100] q.1 u (Int32.ofInt a) = some v ∧ z_go zP 123 136 L (v :: S) q Q := ge_iald (len := 1) (x := (0, 0, [])) p_123 rfl
set_option maxRecDepth 100000 in
theorem g123_136 : z_go zP 123 136 L (zi b :: zi a :: .ref u :: S) q Q ↔ ∃ q1, z_st 100 q u (Int32.ofInt a) (zi b) = some q1 ∧ z_go zP 123 137 L S q1 Q := ge_iast (len := 1) (x := (0, 0, [])) p_123 rfl
set_option maxRecDepth 100000 in
theorem g123_137 : z_go zP 123 137 [some (.ref u), l1, l2, l3, l4, l5, l6, l7, l8, l9] S q Q ↔ z_go zP 123 138 [some (.ref u), l1, l2, l3, l4, l5, l6, l7, l8, l9] (.ref u :: S) q Q := ge_x (len := 1) (x := (0, 0, [])) p_123 rfl rfl
set_option maxRecDepth 100000 in
theorem g123_138 : z_go zP 123 138 [l0, l1, some (zi a), l3, l4, l5, l6, l7, l8, l9] S q Q ↔ z_go zP 123 139 [l0, l1, some (zi a), l3, l4, l5, l6, l7, l8, l9] (zi a :: S) q Q := ge_x (len := 1) (x := (0, 0, [])) p_123 rfl rfl
set_option maxRecDepth 100000 in
theorem g123_139 : z_go zP 123 139 [l0, l1, l2, some (zi a), l4, l5, l6, l7, l8, l9] S q Q ↔ z_go zP 123 140 [l0, l1, l2, some (zi a), l4, l5, l6, l7, l8, l9] (zi a :: S) q Q := ge_x (len := 1) (x := (0, 0, [])) p_123 rfl rfl
set_option maxRecDepth 100000 in
theorem g123_140 : z_go zP 123 140 L [zi x1, zi x0, .ref u] q Q ↔ z_tg q.1 u = some 9 ∧ z_go zP 116 0 [some (.ref u), some (zi x0), some (zi x1), none, none, none, none, none, none, none, none] [] q (zc 123 143 L [] Q) := ge_vc (len := 3) (pc := 140) (S := [zi x1, zi x0, .ref u]) (u := u) (k1 := 116) (A := [.ref u, zi x0, zi x1]) (r := []) (tag := 9) (n0 := 2) (zwb_le (by show 0 ≤ 4; omega)) p_123 rfl rfl rfl p_116 (by show 3 ≤ 11; omega) rfl
set_option maxRecDepth 100000 in
theorem g123_143 : z_go zP 123 143 [some (.ref u), l1, l2, l3, l4, l5, l6, l7, l8, l9] S q Q ↔ z_go zP 123 144 [some (.ref u), l1, l2, l3, l4, l5, l6, l7, l8, l9] (.ref u :: S) q Q := ge_x (len := 1) (x := (0, 0, [])) p_123 rfl rfl
set_option maxRecDepth 100000 in
theorem g123_144 : z_go zP 123 144 L (.ref u :: S) q Q ↔ ∃ v, z_get [9] 22 q.1 u = some v ∧ z_go zP 123 147 L (v :: S) q Q := ge_getf (len := 3) (x := (22, 0, [9])) p_123 rfl
set_option maxRecDepth 100000 in
theorem g123_147 : z_go zP 123 147 [l0, l1, some (zi a), l3, l4, l5, l6, l7, l8, l9] S q Q ↔ z_go zP 123 148 [l0, l1, some (zi a), l3, l4, l5, l6, l7, l8, l9] (zi a :: S) q Q := ge_x (len := 1) (x := (0, 0, [])) p_123 rfl rfl
set_option maxRecDepth 100000 in
theorem g123_148 : z_go zP 123 148 L (zi a :: .ref u :: S) q Q ↔ ∃ v, z_at [102] q.1 u (Int32.ofInt a) = some v ∧ z_go zP 123 149 L (v :: S) q Q := ge_bald (len := 1) (x := (0, 0, [])) p_123 rfl
set_option maxRecDepth 100000 in
theorem g123_149 (a1 : -2147483648 ≤ a) (a2 : a < 2147483648) : z_go zP 123 149 L (zi a :: S) q Q ↔ if a = 0 then z_go zP 123 153 L S q Q else z_go zP 123 152 L S q Q := ge_if_eq (len := 3) (x := (0, 0, [])) a1 a2 p_123 rfl rfl
set_option maxRecDepth 100000 in
theorem g123_149b {c : Prop} [Decidable c] : z_go zP 123 149 L (zi (bI c) :: S) q Q ↔ if c then z_go zP 123 152 L S q Q else z_go zP 123 153 L S q Q := ge_if_eq_b (len := 3) (x := (0, 0, [])) p_123 rfl rfl
set_option maxRecDepth 100000 in
theorem g123_152 : z_go zP 123 152 L [] q Q ↔ Q (.inl none) q := z_go_rt (len := 1) (x := (0, 0, [])) p_123 rfl rfl rfl
set_option maxRecDepth 100000 in
theorem g123_153 : z_go zP 123 153 [l0, l1, l2, l3, l4, l5, l6, some (zi a), l8, l9] S q Q ↔ z_go zP 123 155 [l0, l1, l2, l3, l4, l5, l6, some (zi a), l8, l9] (zi a :: S) q Q := ge_x (len := 2) (x := (0, 0, [])) p_123 rfl rfl
set_option maxRecDepth 100000 in
theorem g123_155 : z_go zP 123 155 L S q Q ↔ z_go zP 123 156 L (zi 1 :: S) q Q := ge_x (len := 1) (x := (0, 0, [])) p_123 rfl rfl
set_option maxRecDepth 100000 in
theorem g123_156 : z_go zP 123 156 L (zi b :: zi a :: S) q Q ↔ z_go zP 123 157 L (zi (a + b) :: S) q Q := ge_iadd (len := 1) (x := (0, 0, [])) p_123 rfl
set_option maxRecDepth 100000 in
theorem g123_157 : z_go zP 123 157 [l0, l1, l2, l3, l4, l5, some (zi a), l7, l8, l9] S q Q ↔ z_go zP 123 159 [l0, l1, l2, l3, l4, l5, some (zi a), l7, l8, l9] (zi a :: S) q Q := ge_x (len := 2) (x := (0, 0, [])) p_123 rfl rfl
set_option maxRecDepth 100000 in
theorem g123_159 (a1 : -2147483648 ≤ a) (a2 : a < 2147483648) : z_go zP 123 159 L (zi a :: S) q Q ↔ if a = 0 then z_go zP 123 172 L S q Q else z_go zP 123 162 L S q Q := ge_if_eq (len := 3) (x := (0, 0, [])) a1 a2 p_123 rfl rfl
set_option maxRecDepth 100000 in
theorem g123_159b {c : Prop} [Decidable c] : z_go zP 123 159 L (zi (bI c) :: S) q Q ↔ if c then z_go zP 123 162 L S q Q else z_go zP 123 172 L S q Q := ge_if_eq_b (len := 3) (x := (0, 0, [])) p_123 rfl rfl
set_option maxRecDepth 100000 in
theorem g123_162 : z_go zP 123 162 [some (.ref u), l1, l2, l3, l4, l5, l6, l7, l8, l9] S q Q ↔ z_go zP 123 163 [some (.ref u), l1, l2, l3, l4, l5, l6, l7, l8, l9] (.ref u :: S) q Q := ge_x (len := 1) (x := (0, 0, [])) p_123 rfl rfl
set_option maxRecDepth 100000 in
theorem g123_163 : z_go zP 123 163 L (.ref u :: S) q Q ↔ ∃ v, z_get [9] 12 q.1 u = some v ∧ z_go zP 123 166 L (v :: S) q Q := ge_getf (len := 3) (x := (12, 0, [9])) p_123 rfl
set_option maxRecDepth 100000 in
theorem g123_166 : z_go zP 123 166 [l0, l1, l2, l3, some (zi a), l5, l6, l7, l8, l9] S q Q ↔ z_go zP 123 168 [l0, l1, l2, l3, some (zi a), l5, l6, l7, l8, l9] (zi a :: S) q Q := ge_x (len := 2) (x := (0, 0, [])) p_123 rfl rfl
set_option maxRecDepth 100000 in
theorem g123_168 : z_go zP 123 168 L (zi a :: .ref u :: S) q Q ↔ ∃ v, z_at [99, 100] q.1 u (Int32.ofInt a) = some v ∧ z_go zP 123 169 L (v :: S) q Q := ge_iald (len := 1) (x := (0, 0, [])) p_123 rfl
set_option maxRecDepth 100000 in
theorem g123_169 : z_go zP 123 169 L S q Q ↔ z_go zP 123 173 L S q Q := ge_to (len := 3) (x := (0, 0, [])) p_123 rfl rfl rfl
set_option maxRecDepth 100000 in
theorem g123_172 : z_go zP 123 172 L S q Q ↔ z_go zP 123 173 L (zi 0 :: S) q Q := ge_x (len := 1) (x := (0, 0, [])) p_123 rfl rfl
set_option maxRecDepth 100000 in
theorem g123_173 : z_go zP 123 173 L (zi b :: zi a :: S) q Q ↔ z_go zP 123 174 L (zi (a + b) :: S) q Q := ge_iadd (len := 1) (x := (0, 0, [])) p_123 rfl
set_option maxRecDepth 100000 in
theorem g123_174 : z_go zP 123 174 [l0, l1, l2, l3, l4, l5, l6, l7, l8, l9] (zi a :: S) q Q ↔ z_go zP 123 176 [l0, l1, l2, l3, l4, l5, l6, (zkl l7), some (zi a), l9] S q Q := (by cases l7 with | none => exact ge_x (len := 2) (x := (0, 0, [])) p_123 rfl rfl | some v => cases v <;> exact ge_x (len := 2) (x := (0, 0, [])) p_123 rfl rfl)
set_option maxRecDepth 100000 in
theorem g123_176 : z_go zP 123 176 [l0, l1, l2, l3, l4, l5, l6, l7, some (zi a), l9] S q Q ↔ z_go zP 123 178 [l0, l1, l2, l3, l4, l5, l6, l7, some (zi a), l9] (zi a :: S) q Q := ge_x (len := 2) (x := (0, 0, [])) p_123 rfl rfl
set_option maxRecDepth 100000 in
theorem g123_178 : z_go zP 123 178 [l0, l1, l2, l3, l4, l5, l6, l7, l8, l9] (zi a :: S) q Q ↔ z_go zP 123 180 [l0, l1, l2, l3, l4, l5, l6, l7, (zkl l8), some (zi a)] S q Q := (by cases l8 with | none => exact ge_x (len := 2) (x := (0, 0, [])) p_123 rfl rfl | some v => cases v <;> exact ge_x (len := 2) (x := (0, 0, [])) p_123 rfl rfl)
set_option maxRecDepth 100000 in
theorem g123_180 : z_go zP 123 180 [some (.ref u), l1, l2, l3, l4, l5, l6, l7, l8, l9] S q Q ↔ z_go zP 123 181 [some (.ref u), l1, l2, l3, l4, l5, l6, l7, l8, l9] (.ref u :: S) q Q := ge_x (len := 1) (x := (0, 0, [])) p_123 rfl rfl
set_option maxRecDepth 100000 in
theorem g123_181 : z_go zP 123 181 [l0, l1, some (zi a), l3, l4, l5, l6, l7, l8, l9] S q Q ↔ z_go zP 123 182 [l0, l1, some (zi a), l3, l4, l5, l6, l7, l8, l9] (zi a :: S) q Q := ge_x (len := 1) (x := (0, 0, [])) p_123 rfl rfl
set_option maxRecDepth 100000 in
theorem g123_182 : z_go zP 123 182 [l0, l1, l2, some (zi a), l4, l5, l6, l7, l8, l9] S q Q ↔ z_go zP 123 183 [l0, l1, l2, some (zi a), l4, l5, l6, l7, l8, l9] (zi a :: S) q Q := ge_x (len := 1) (x := (0, 0, [])) p_123 rfl rfl
set_option maxRecDepth 100000 in
theorem g123_183 : z_go zP 123 183 L [zi x1, zi x0, .ref u] q Q ↔ z_tg q.1 u = some 9 ∧ z_go zP 114 0 [some (.ref u), some (zi x0), some (zi x1)] [] q (zc 123 186 L [] Q) := ge_vc (len := 3) (pc := 183) (S := [zi x1, zi x0, .ref u]) (u := u) (k1 := 114) (A := [.ref u, zi x0, zi x1]) (r := []) (tag := 9) (n0 := 2) (zwb_le (by show 0 ≤ 4; omega)) p_123 rfl rfl rfl p_114 (by show 3 ≤ 3; omega) rfl
set_option maxRecDepth 100000 in
theorem g123_186 : z_go zP 123 186 [l0, l1, l2, l3, l4, l5, l6, l7, l8, l9] (zi a :: S) q Q ↔ z_go zP 123 188 [l0, l1, l2, l3, (zkl l4), some (zi a), l6, l7, l8, l9] S q Q := (by cases l4 with | none => exact ge_x (len := 2) (x := (0, 0, [])) p_123 rfl rfl | some v => cases v <;> exact ge_x (len := 2) (x := (0, 0, [])) p_123 rfl rfl)
set_option maxRecDepth 100000 in
theorem g123_188 : z_go zP 123 188 [some (.ref u), l1, l2, l3, l4, l5, l6, l7, l8, l9] S q Q ↔ z_go zP 123 189 [some (.ref u), l1, l2, l3, l4, l5, l6, l7, l8, l9] (.ref u :: S) q Q := ge_x (len := 1) (x := (0, 0, [])) p_123 rfl rfl
set_option maxRecDepth 100000 in
theorem g123_189 : z_go zP 123 189 [l0, l1, l2, l3, l4, some (zi a), l6, l7, l8, l9] S q Q ↔ z_go zP 123 191 [l0, l1, l2, l3, l4, some (zi a), l6, l7, l8, l9] (zi a :: S) q Q := ge_x (len := 2) (x := (0, 0, [])) p_123 rfl rfl
set_option maxRecDepth 100000 in
theorem g123_191 : z_go zP 123 191 L [zi x0, .ref u] q Q ↔ z_tg q.1 u = some 9 ∧ z_go zP 120 0 [some (.ref u), some (zi x0)] [] q (zc 123 194 L [] Q) := ge_vc (len := 3) (pc := 191) (S := [zi x0, .ref u]) (u := u) (k1 := 120) (A := [.ref u, zi x0]) (r := []) (tag := 9) (n0 := 1) (zwb_le (by show 0 ≤ 4; omega)) p_123 rfl rfl rfl p_120 (by show 2 ≤ 2; omega) rfl
set_option maxRecDepth 100000 in
theorem g123_194 (a1 : -2147483648 ≤ a) (a2 : a < 2147483648) : z_go zP 123 194 L (zi a :: S) q Q ↔ if a ≤ 0 then z_go zP 123 228 L S q Q else z_go zP 123 197 L S q Q := ge_if_le (len := 3) (x := (0, 0, [])) a1 a2 p_123 rfl rfl
set_option maxRecDepth 100000 in
theorem g123_197 : z_go zP 123 197 [some (.ref u), l1, l2, l3, l4, l5, l6, l7, l8, l9] S q Q ↔ z_go zP 123 198 [some (.ref u), l1, l2, l3, l4, l5, l6, l7, l8, l9] (.ref u :: S) q Q := ge_x (len := 1) (x := (0, 0, [])) p_123 rfl rfl
set_option maxRecDepth 100000 in
theorem g123_198 : z_go zP 123 198 [l0, some (zi a), l2, l3, l4, l5, l6, l7, l8, l9] S q Q ↔ z_go zP 123 199 [l0, some (zi a), l2, l3, l4, l5, l6, l7, l8, l9] (zi a :: S) q Q := ge_x (len := 1) (x := (0, 0, [])) p_123 rfl rfl
set_option maxRecDepth 100000 in
theorem g123_199 : z_go zP 123 199 [some (.ref u), l1, l2, l3, l4, l5, l6, l7, l8, l9] S q Q ↔ z_go zP 123 200 [some (.ref u), l1, l2, l3, l4, l5, l6, l7, l8, l9] (.ref u :: S) q Q := ge_x (len := 1) (x := (0, 0, [])) p_123 rfl rfl
set_option maxRecDepth 100000 in
theorem g123_200 : z_go zP 123 200 L (.ref u :: S) q Q ↔ ∃ v, z_get [9] 16 q.1 u = some v ∧ z_go zP 123 203 L (v :: S) q Q := ge_getf (len := 3) (x := (16, 0, [9])) p_123 rfl
set_option maxRecDepth 100000 in
theorem g123_203 : z_go zP 123 203 [l0, l1, l2, l3, l4, some (zi a), l6, l7, l8, l9] S q Q ↔ z_go zP 123 205 [l0, l1, l2, l3, l4, some (zi a), l6, l7, l8, l9] (zi a :: S) q Q := ge_x (len := 2) (x := (0, 0, [])) p_123 rfl rfl
set_option maxRecDepth 100000 in
theorem g123_205 : z_go zP 123 205 L (zi a :: .ref u :: S) q Q ↔ ∃ v, z_at [99, 100] q.1 u (Int32.ofInt a) = some v ∧ z_go zP 123 206 L (v :: S) q Q := ge_iald (len := 1) (x := (0, 0, [])) p_123 rfl
set_option maxRecDepth 100000 in
theorem g123_206 : z_go zP 123 206 L [zi x1, zi x0, .ref u] q Q ↔ z_tg q.1 u = some 9 ∧ z_go zP 122 0 [some (.ref u), some (zi x0), some (zi x1), none] [] q (zc 123 209 L [] Q) := ge_vc (len := 3) (pc := 206) (S := [zi x1, zi x0, .ref u]) (u := u) (k1 := 122) (A := [.ref u, zi x0, zi x1]) (r := []) (tag := 9) (n0 := 2) (zwb_le (by show 0 ≤ 4; omega)) p_123 rfl rfl rfl p_122 (by show 3 ≤ 4; omega) rfl
set_option maxRecDepth 100000 in
theorem g123_209 : z_go zP 123 209 [l0, l1, l2, l3, l4, l5, l6, l7, l8, some (zi a)] S q Q ↔ z_go zP 123 211 [l0, l1, l2, l3, l4, l5, l6, l7, l8, some (zi a)] (zi a :: S) q Q := ge_x (len := 2) (x := (0, 0, [])) p_123 rfl rfl
set_option maxRecDepth 100000 in
theorem g123_211 (a1 : -2147483648 ≤ a) (a2 : a < 2147483648) (b1 : -2147483648 ≤ b) (b2 : b < 2147483648) : z_go zP 123 211 L (zi b :: zi a :: S) q Q ↔ if a ≤ b then z_go zP 123 228 L S q Q else z_go zP 123 214 L S q Q := ge_ic_le (len := 3) (x := (0, 0, [])) a1 a2 b1 b2 p_123 rfl rfl
set_option maxRecDepth 100000 in
theorem g123_214 : z_go zP 123 214 [some (.ref u), l1, l2, l3, l4, l5, l6, l7, l8, l9] S q Q ↔ z_go zP 123 215 [some (.ref u), l1, l2, l3, l4, l5, l6, l7, l8, l9] (.ref u :: S) q Q := ge_x (len := 1) (x := (0, 0, [])) p_123 rfl rfl
set_option maxRecDepth 100000 in
theorem g123_215 : z_go zP 123 215 [l0, some (zi a), l2, l3, l4, l5, l6, l7, l8, l9] S q Q ↔ z_go zP 123 216 [l0, some (zi a), l2, l3, l4, l5, l6, l7, l8, l9] (zi a :: S) q Q := ge_x (len := 1) (x := (0, 0, [])) p_123 rfl rfl
set_option maxRecDepth 100000 in
theorem g123_216 : z_go zP 123 216 [some (.ref u), l1, l2, l3, l4, l5, l6, l7, l8, l9] S q Q ↔ z_go zP 123 217 [some (.ref u), l1, l2, l3, l4, l5, l6, l7, l8, l9] (.ref u :: S) q Q := ge_x (len := 1) (x := (0, 0, [])) p_123 rfl rfl
set_option maxRecDepth 100000 in
theorem g123_217 : z_go zP 123 217 L (.ref u :: S) q Q ↔ ∃ v, z_get [9] 16 q.1 u = some v ∧ z_go zP 123 220 L (v :: S) q Q := ge_getf (len := 3) (x := (16, 0, [9])) p_123 rfl
set_option maxRecDepth 100000 in
theorem g123_220 : z_go zP 123 220 [l0, l1, l2, l3, l4, some (zi a), l6, l7, l8, l9] S q Q ↔ z_go zP 123 222 [l0, l1, l2, l3, l4, some (zi a), l6, l7, l8, l9] (zi a :: S) q Q := ge_x (len := 2) (x := (0, 0, [])) p_123 rfl rfl
set_option maxRecDepth 100000 in
theorem g123_222 : z_go zP 123 222 L (zi a :: .ref u :: S) q Q ↔ ∃ v, z_at [99, 100] q.1 u (Int32.ofInt a) = some v ∧ z_go zP 123 223 L (v :: S) q Q := ge_iald (len := 1) (x := (0, 0, [])) p_123 rfl
set_option maxRecDepth 100000 in
theorem g123_223 : z_go zP 123 223 L [zi x1, zi x0, .ref u] q Q ↔ z_tg q.1 u = some 9 ∧ z_go zP 122 0 [some (.ref u), some (zi x0), some (zi x1), none] [] q (zc 123 226 L [] Q) := ge_vc (len := 3) (pc := 223) (S := [zi x1, zi x0, .ref u]) (u := u) (k1 := 122) (A := [.ref u, zi x0, zi x1]) (r := []) (tag := 9) (n0 := 2) (zwb_le (by show 0 ≤ 4; omega)) p_123 rfl rfl rfl p_122 (by show 3 ≤ 4; omega) rfl
set_option maxRecDepth 100000 in
theorem g123_226 : z_go zP 123 226 [l0, l1, l2, l3, l4, l5, l6, l7, l8, l9] (zi a :: S) q Q ↔ z_go zP 123 228 [l0, l1, l2, l3, l4, l5, l6, l7, (zkl l8), some (zi a)] S q Q := (by cases l8 with | none => exact ge_x (len := 2) (x := (0, 0, [])) p_123 rfl rfl | some v => cases v <;> exact ge_x (len := 2) (x := (0, 0, [])) p_123 rfl rfl)
set_option maxRecDepth 100000 in
theorem g123_228 : z_go zP 123 228 [some (.ref u), l1, l2, l3, l4, l5, l6, l7, l8, l9] S q Q ↔ z_go zP 123 229 [some (.ref u), l1, l2, l3, l4, l5, l6, l7, l8, l9] (.ref u :: S) q Q := ge_x (len := 1) (x := (0, 0, [])) p_123 rfl rfl
set_option maxRecDepth 100000 in
theorem g123_229 : z_go zP 123 229 [l0, l1, l2, l3, l4, some (zi a), l6, l7, l8, l9] S q Q ↔ z_go zP 123 231 [l0, l1, l2, l3, l4, some (zi a), l6, l7, l8, l9] (zi a :: S) q Q := ge_x (len := 2) (x := (0, 0, [])) p_123 rfl rfl
set_option maxRecDepth 100000 in
theorem g123_231 : z_go zP 123 231 L [zi x0, .ref u] q Q ↔ z_tg q.1 u = some 9 ∧ z_go zP 120 0 [some (.ref u), some (zi x0)] [] q (zc 123 234 L [] Q) := ge_vc (len := 3) (pc := 231) (S := [zi x0, .ref u]) (u := u) (k1 := 120) (A := [.ref u, zi x0]) (r := []) (tag := 9) (n0 := 1) (zwb_le (by show 0 ≤ 4; omega)) p_123 rfl rfl rfl p_120 (by show 2 ≤ 2; omega) rfl
set_option maxRecDepth 100000 in
theorem g123_234 : z_go zP 123 234 L S q Q ↔ z_go zP 123 235 L (zi 1 :: S) q Q := ge_x (len := 1) (x := (0, 0, [])) p_123 rfl rfl
set_option maxRecDepth 100000 in
theorem g123_235 (a1 : -2147483648 ≤ a) (a2 : a < 2147483648) (b1 : -2147483648 ≤ b) (b2 : b < 2147483648) : z_go zP 123 235 L (zi b :: zi a :: S) q Q ↔ if a ≤ b then z_go zP 123 269 L S q Q else z_go zP 123 238 L S q Q := ge_ic_le (len := 3) (x := (0, 0, [])) a1 a2 b1 b2 p_123 rfl rfl
set_option maxRecDepth 100000 in
theorem g123_238 : z_go zP 123 238 [some (.ref u), l1, l2, l3, l4, l5, l6, l7, l8, l9] S q Q ↔ z_go zP 123 239 [some (.ref u), l1, l2, l3, l4, l5, l6, l7, l8, l9] (.ref u :: S) q Q := ge_x (len := 1) (x := (0, 0, [])) p_123 rfl rfl
set_option maxRecDepth 100000 in
theorem g123_239 : z_go zP 123 239 [l0, some (zi a), l2, l3, l4, l5, l6, l7, l8, l9] S q Q ↔ z_go zP 123 240 [l0, some (zi a), l2, l3, l4, l5, l6, l7, l8, l9] (zi a :: S) q Q := ge_x (len := 1) (x := (0, 0, [])) p_123 rfl rfl
set_option maxRecDepth 100000 in
theorem g123_240 : z_go zP 123 240 [some (.ref u), l1, l2, l3, l4, l5, l6, l7, l8, l9] S q Q ↔ z_go zP 123 241 [some (.ref u), l1, l2, l3, l4, l5, l6, l7, l8, l9] (.ref u :: S) q Q := ge_x (len := 1) (x := (0, 0, [])) p_123 rfl rfl
set_option maxRecDepth 100000 in
theorem g123_241 : z_go zP 123 241 L (.ref u :: S) q Q ↔ ∃ v, z_get [9] 17 q.1 u = some v ∧ z_go zP 123 244 L (v :: S) q Q := ge_getf (len := 3) (x := (17, 0, [9])) p_123 rfl
set_option maxRecDepth 100000 in
theorem g123_244 : z_go zP 123 244 [l0, l1, l2, l3, l4, some (zi a), l6, l7, l8, l9] S q Q ↔ z_go zP 123 246 [l0, l1, l2, l3, l4, some (zi a), l6, l7, l8, l9] (zi a :: S) q Q := ge_x (len := 2) (x := (0, 0, [])) p_123 rfl rfl
set_option maxRecDepth 100000 in
theorem g123_246 : z_go zP 123 246 L (zi a :: .ref u :: S) q Q ↔ ∃ v, z_at [99, 100] q.1 u (Int32.ofInt a) = some v ∧ z_go zP 123 247 L (v :: S) q Q := ge_iald (len := 1) (x := (0, 0, [])) p_123 rfl
set_option maxRecDepth 100000 in
theorem g123_247 : z_go zP 123 247 L [zi x1, zi x0, .ref u] q Q ↔ z_tg q.1 u = some 9 ∧ z_go zP 122 0 [some (.ref u), some (zi x0), some (zi x1), none] [] q (zc 123 250 L [] Q) := ge_vc (len := 3) (pc := 247) (S := [zi x1, zi x0, .ref u]) (u := u) (k1 := 122) (A := [.ref u, zi x0, zi x1]) (r := []) (tag := 9) (n0 := 2) (zwb_le (by show 0 ≤ 4; omega)) p_123 rfl rfl rfl p_122 (by show 3 ≤ 4; omega) rfl
set_option maxRecDepth 100000 in
theorem g123_250 : z_go zP 123 250 [l0, l1, l2, l3, l4, l5, l6, l7, l8, some (zi a)] S q Q ↔ z_go zP 123 252 [l0, l1, l2, l3, l4, l5, l6, l7, l8, some (zi a)] (zi a :: S) q Q := ge_x (len := 2) (x := (0, 0, [])) p_123 rfl rfl
set_option maxRecDepth 100000 in
theorem g123_252 (a1 : -2147483648 ≤ a) (a2 : a < 2147483648) (b1 : -2147483648 ≤ b) (b2 : b < 2147483648) : z_go zP 123 252 L (zi b :: zi a :: S) q Q ↔ if a ≤ b then z_go zP 123 269 L S q Q else z_go zP 123 255 L S q Q := ge_ic_le (len := 3) (x := (0, 0, [])) a1 a2 b1 b2 p_123 rfl rfl
set_option maxRecDepth 100000 in
theorem g123_255 : z_go zP 123 255 [some (.ref u), l1, l2, l3, l4, l5, l6, l7, l8, l9] S q Q ↔ z_go zP 123 256 [some (.ref u), l1, l2, l3, l4, l5, l6, l7, l8, l9] (.ref u :: S) q Q := ge_x (len := 1) (x := (0, 0, [])) p_123 rfl rfl
set_option maxRecDepth 100000 in
theorem g123_256 : z_go zP 123 256 [l0, some (zi a), l2, l3, l4, l5, l6, l7, l8, l9] S q Q ↔ z_go zP 123 257 [l0, some (zi a), l2, l3, l4, l5, l6, l7, l8, l9] (zi a :: S) q Q := ge_x (len := 1) (x := (0, 0, [])) p_123 rfl rfl
set_option maxRecDepth 100000 in
theorem g123_257 : z_go zP 123 257 [some (.ref u), l1, l2, l3, l4, l5, l6, l7, l8, l9] S q Q ↔ z_go zP 123 258 [some (.ref u), l1, l2, l3, l4, l5, l6, l7, l8, l9] (.ref u :: S) q Q := ge_x (len := 1) (x := (0, 0, [])) p_123 rfl rfl
set_option maxRecDepth 100000 in
theorem g123_258 : z_go zP 123 258 L (.ref u :: S) q Q ↔ ∃ v, z_get [9] 17 q.1 u = some v ∧ z_go zP 123 261 L (v :: S) q Q := ge_getf (len := 3) (x := (17, 0, [9])) p_123 rfl
set_option maxRecDepth 100000 in
theorem g123_261 : z_go zP 123 261 [l0, l1, l2, l3, l4, some (zi a), l6, l7, l8, l9] S q Q ↔ z_go zP 123 263 [l0, l1, l2, l3, l4, some (zi a), l6, l7, l8, l9] (zi a :: S) q Q := ge_x (len := 2) (x := (0, 0, [])) p_123 rfl rfl
set_option maxRecDepth 100000 in
theorem g123_263 : z_go zP 123 263 L (zi a :: .ref u :: S) q Q ↔ ∃ v, z_at [99, 100] q.1 u (Int32.ofInt a) = some v ∧ z_go zP 123 264 L (v :: S) q Q := ge_iald (len := 1) (x := (0, 0, [])) p_123 rfl
set_option maxRecDepth 100000 in
theorem g123_264 : z_go zP 123 264 L [zi x1, zi x0, .ref u] q Q ↔ z_tg q.1 u = some 9 ∧ z_go zP 122 0 [some (.ref u), some (zi x0), some (zi x1), none] [] q (zc 123 267 L [] Q) := ge_vc (len := 3) (pc := 264) (S := [zi x1, zi x0, .ref u]) (u := u) (k1 := 122) (A := [.ref u, zi x0, zi x1]) (r := []) (tag := 9) (n0 := 2) (zwb_le (by show 0 ≤ 4; omega)) p_123 rfl rfl rfl p_122 (by show 3 ≤ 4; omega) rfl
set_option maxRecDepth 100000 in
theorem g123_267 : z_go zP 123 267 [l0, l1, l2, l3, l4, l5, l6, l7, l8, l9] (zi a :: S) q Q ↔ z_go zP 123 269 [l0, l1, l2, l3, l4, l5, l6, l7, (zkl l8), some (zi a)] S q Q := (by cases l8 with | none => exact ge_x (len := 2) (x := (0, 0, [])) p_123 rfl rfl | some v => cases v <;> exact ge_x (len := 2) (x := (0, 0, [])) p_123 rfl rfl)
set_option maxRecDepth 100000 in
theorem g123_269 : z_go zP 123 269 [some (.ref u), l1, l2, l3, l4, l5, l6, l7, l8, l9] S q Q ↔ z_go zP 123 270 [some (.ref u), l1, l2, l3, l4, l5, l6, l7, l8, l9] (.ref u :: S) q Q := ge_x (len := 1) (x := (0, 0, [])) p_123 rfl rfl
set_option maxRecDepth 100000 in
theorem g123_270 : z_go zP 123 270 L (.ref u :: S) q Q ↔ ∃ v, z_get [9] 24 q.1 u = some v ∧ z_go zP 123 273 L (v :: S) q Q := ge_getf (len := 3) (x := (24, 0, [9])) p_123 rfl
set_option maxRecDepth 100000 in
theorem g123_273 : z_go zP 123 273 [l0, some (zi a), l2, l3, l4, l5, l6, l7, l8, l9] S q Q ↔ z_go zP 123 274 [l0, some (zi a), l2, l3, l4, l5, l6, l7, l8, l9] (zi a :: S) q Q := ge_x (len := 1) (x := (0, 0, [])) p_123 rfl rfl
set_option maxRecDepth 100000 in
theorem g123_274 : z_go zP 123 274 [l0, l1, l2, l3, l4, l5, l6, l7, l8, some (zi a)] S q Q ↔ z_go zP 123 276 [l0, l1, l2, l3, l4, l5, l6, l7, l8, some (zi a)] (zi a :: S) q Q := ge_x (len := 2) (x := (0, 0, [])) p_123 rfl rfl
set_option maxRecDepth 100000 in
theorem g123_276 : z_go zP 123 276 L (zi b :: zi a :: .ref u :: S) q Q ↔ ∃ q1, z_st 100 q u (Int32.ofInt a) (zi b) = some q1 ∧ z_go zP 123 277 L S q1 Q := ge_iast (len := 1) (x := (0, 0, [])) p_123 rfl
set_option maxRecDepth 100000 in
theorem g123_277 : z_go zP 123 277 L [] q Q ↔ Q (.inl none) q := z_go_rt (len := 1) (x := (0, 0, [])) p_123 rfl rfl rfl
theorem g124_0 : z_go zP 124 0 [some (.ref u), l1, l2, l3, l4, l5, l6] S q Q ↔ z_go zP 124 1 [some (.ref u), l1, l2, l3, l4, l5, l6] (.ref u :: S) q Q := ge_x (len := 1) (x := (0, 0, [])) p_124 rfl rfl
theorem g124_1 : z_go zP 124 1 L (.ref u :: S) q Q ↔ ∃ v, z_get [9] 24 q.1 u = some v ∧ z_go zP 124 4 L (v :: S) q Q := ge_getf (len := 3) (x := (24, 0, [9])) p_124 rfl
theorem g124_4 : z_go zP 124 4 [l0, some (zi a), l2, l3, l4, l5, l6] S q Q ↔ z_go zP 124 5 [l0, some (zi a), l2, l3, l4, l5, l6] (zi a :: S) q Q := ge_x (len := 1) (x := (0, 0, [])) p_124 rfl rfl
theorem g124_5 : z_go zP 124 5 L (zi a :: .ref u :: S) q Q ↔ ∃ v, z_at [99, 100] q.1 u (Int32.ofInt a) = some v ∧ z_go zP 124 6 L (v :: S) q Q := ge_iald (len := 1) (x := (0, 0, [])) p_124 rfl
theorem g124_6 : z_go zP 124 6 [l0, l1, some (zi a), l3, l4, l5, l6] S q Q ↔ z_go zP 124 7 [l0, l1, some (zi a), l3, l4, l5, l6] (zi a :: S) q Q := ge_x (len := 1) (x := (0, 0, [])) p_124 rfl rfl
theorem g124_7 : z_go zP 124 7 L (zi b :: zi a :: S) q Q ↔ z_go zP 124 8 L (zi (a - b) :: S) q Q := ge_isub (len := 1) (x := (0, 0, [])) p_124 rfl
theorem g124_8 : z_go zP 124 8 L S q Q ↔ z_go zP 124 9 L (zi 1 :: S) q Q := ge_x (len := 1) (x := (0, 0, [])) p_124 rfl rfl
theorem g124_9 : z_go zP 124 9 L (zi b :: zi a :: S) q Q ↔ z_go zP 124 10 L (zi (a - b) :: S) q Q := ge_isub (len := 1) (x := (0, 0, [])) p_124 rfl
theorem g124_10 : z_go zP 124 10 [l0, l1, l2, l3, l4, l5, l6] (zi a :: S) q Q ↔ z_go zP 124 12 [l0, l1, l2, (zkl l3), some (zi a), l5, l6] S q Q := (by cases l3 with | none => exact ge_x (len := 2) (x := (0, 0, [])) p_124 rfl rfl | some v => cases v <;> exact ge_x (len := 2) (x := (0, 0, [])) p_124 rfl rfl)
theorem g124_12 : z_go zP 124 12 [l0, l1, l2, some (zi a), l4, l5, l6] S q Q ↔ z_go zP 124 13 [l0, l1, l2, some (zi a), l4, l5, l6] (zi a :: S) q Q := ge_x (len := 1) (x := (0, 0, [])) p_124 rfl rfl
theorem g124_13 (a1 : -2147483648 ≤ a) (a2 : a < 2147483648) : z_go zP 124 13 L (zi a :: S) q Q ↔ if a = 0 then z_go zP 124 30 L S q Q else z_go zP 124 16 L S q Q := ge_if_eq (len := 3) (x := (0, 0, [])) a1 a2 p_124 rfl rfl
theorem g124_13b {c : Prop} [Decidable c] : z_go zP 124 13 L (zi (bI c) :: S) q Q ↔ if c then z_go zP 124 16 L S q Q else z_go zP 124 30 L S q Q := ge_if_eq_b (len := 3) (x := (0, 0, [])) p_124 rfl rfl
theorem g124_16 : z_go zP 124 16 [some (.ref u), l1, l2, l3, l4, l5, l6] S q Q ↔ z_go zP 124 17 [some (.ref u), l1, l2, l3, l4, l5, l6] (.ref u :: S) q Q := ge_x (len := 1) (x := (0, 0, [])) p_124 rfl rfl
theorem g124_17 : z_go zP 124 17 L (.ref u :: S) q Q ↔ ∃ v, z_get [9] 12 q.1 u = some v ∧ z_go zP 124 20 L (v :: S) q Q := ge_getf (len := 3) (x := (12, 0, [9])) p_124 rfl
theorem g124_20 : z_go zP 124 20 [some (.ref u), l1, l2, l3, l4, l5, l6] S q Q ↔ z_go zP 124 21 [some (.ref u), l1, l2, l3, l4, l5, l6] (.ref u :: S) q Q := ge_x (len := 1) (x := (0, 0, [])) p_124 rfl rfl
theorem g124_21 : z_go zP 124 21 L (.ref u :: S) q Q ↔ ∃ v, z_get [9] 5 q.1 u = some v ∧ z_go zP 124 24 L (v :: S) q Q := ge_getf (len := 3) (x := (5, 0, [9])) p_124 rfl
theorem g124_24 : z_go zP 124 24 [l0, some (zi a), l2, l3, l4, l5, l6] S q Q ↔ z_go zP 124 25 [l0, some (zi a), l2, l3, l4, l5, l6] (zi a :: S) q Q := ge_x (len := 1) (x := (0, 0, [])) p_124 rfl rfl
theorem g124_25 : z_go zP 124 25 L (zi a :: .ref u :: S) q Q ↔ ∃ v, z_at [99, 100] q.1 u (Int32.ofInt a) = some v ∧ z_go zP 124 26 L (v :: S) q Q := ge_iald (len := 1) (x := (0, 0, [])) p_124 rfl
theorem g124_26 : z_go zP 124 26 L (zi a :: .ref u :: S) q Q ↔ ∃ v, z_at [99, 100] q.1 u (Int32.ofInt a) = some v ∧ z_go zP 124 27 L (v :: S) q Q := ge_iald (len := 1) (x := (0, 0, [])) p_124 rfl
theorem g124_27 : z_go zP 124 27 L S q Q ↔ z_go zP 124 31 L S q Q := ge_to (len := 3) (x := (0, 0, [])) p_124 rfl rfl rfl
theorem g124_30 : z_go zP 124 30 L S q Q ↔ z_go zP 124 31 L (zi 0 :: S) q Q := ge_x (len := 1) (x := (0, 0, [])) p_124 rfl rfl
theorem g124_31 : z_go zP 124 31 [l0, l1, l2, l3, l4, l5, l6] (zi a :: S) q Q ↔ z_go zP 124 33 [l0, l1, l2, l3, (zkl l4), some (zi a), l6] S q Q := (by cases l4 with | none => exact ge_x (len := 2) (x := (0, 0, [])) p_124 rfl rfl | some v => cases v <;> exact ge_x (len := 2) (x := (0, 0, [])) p_124 rfl rfl)
theorem g124_33 : z_go zP 124 33 [l0, l1, l2, l3, some (zi a), l5, l6] S q Q ↔ z_go zP 124 35 [l0, l1, l2, l3, some (zi a), l5, l6] (zi a :: S) q Q := ge_x (len := 2) (x := (0, 0, [])) p_124 rfl rfl
theorem g124_35 : z_go zP 124 35 [l0, l1, l2, l3, l4, some (zi a), l6] S q Q ↔ z_go zP 124 37 [l0, l1, l2, l3, l4, some (zi a), l6] (zi a :: S) q Q := ge_x (len := 2) (x := (0, 0, [])) p_124 rfl rfl
theorem g124_37 (a1 : -2147483648 ≤ a) (a2 : a < 2147483648) (b1 : -2147483648 ≤ b) (b2 : b < 2147483648) : z_go zP 124 37 L (zi b :: zi a :: S) q Q ↔ if b ≤ a then z_go zP 124 45 L S q Q else z_go zP 124 40 L S q Q := ge_ic_ge (len := 3) (x := (0, 0, [])) a1 a2 b1 b2 p_124 rfl rfl
theorem g124_40 : z_go zP 124 40 [l0, l1, l2, l3, some (zi a), l5, l6] S q Q ↔ z_go zP 124 42 [l0, l1, l2, l3, some (zi a), l5, l6] (zi a :: S) q Q := ge_x (len := 2) (x := (0, 0, [])) p_124 rfl rfl
theorem g124_42 : z_go zP 124 42 L S q Q ↔ z_go zP 124 47 L S q Q := ge_to (len := 3) (x := (0, 0, [])) p_124 rfl rfl rfl
theorem g124_45 : z_go zP 124 45 [l0, l1, l2, l3, l4, some (zi a), l6] S q Q ↔ z_go zP 124 47 [l0, l1, l2, l3, l4, some (zi a), l6] (zi a :: S) q Q := ge_x (len := 2) (x := (0, 0, [])) p_124 rfl rfl
theorem g124_47 : z_go zP 124 47 [l0, l1, l2, l3, l4, l5, l6] (zi a :: S) q Q ↔ z_go zP 124 49 [l0, l1, l2, l3, l4, (zkl l5), some (zi a)] S q Q := (by cases l5 with | none => exact ge_x (len := 2) (x := (0, 0, [])) p_124 rfl rfl | some v => cases v <;> exact ge_x (len := 2) (x := (0, 0, [])) p_124 rfl rfl)
theorem g124_49 : z_go zP 124 49 [some (.ref u), l1, l2, l3, l4, l5, l6] S q Q ↔ z_go zP 124 50 [some (.ref u), l1, l2, l3, l4, l5, l6] (.ref u :: S) q Q := ge_x (len := 1) (x := (0, 0, [])) p_124 rfl rfl
theorem g124_50 : z_go zP 124 50 L (.ref u :: S) q Q ↔ ∃ v, z_get [9] 28 q.1 u = some v ∧ z_go zP 124 53 L (v :: S) q Q := ge_getf (len := 3) (x := (28, 0, [9])) p_124 rfl
theorem g124_53 : z_go zP 124 53 [l0, some (zi a), l2, l3, l4, l5, l6] S q Q ↔ z_go zP 124 54 [l0, some (zi a), l2, l3, l4, l5, l6] (zi a :: S) q Q := ge_x (len := 1) (x := (0, 0, [])) p_124 rfl rfl
theorem g124_54 : z_go zP 124 54 L (zi a :: .ref u :: S) q Q ↔ z_go zP 124 55 L (zi a :: .ref u :: zi a :: .ref u :: S) q Q := ge_x (len := 1) (x := (0, 0, [])) p_124 rfl rfl
theorem g124_55 : z_go zP 124 55 L (zi a :: .ref u :: S) q Q ↔ ∃ v, z_at [99, 100] q.1 u (Int32.ofInt a) = some v ∧ z_go zP 124 56 L (v :: S) q Q := ge_iald (len := 1) (x := (0, 0, [])) p_124 rfl
theorem g124_56 : z_go zP 124 56 [l0, l1, l2, l3, l4, l5, some (zi a)] S q Q ↔ z_go zP 124 58 [l0, l1, l2, l3, l4, l5, some (zi a)] (zi a :: S) q Q := ge_x (len := 2) (x := (0, 0, [])) p_124 rfl rfl
theorem g124_58 : z_go zP 124 58 L (zi b :: zi a :: S) q Q ↔ z_go zP 124 59 L (zi (a + b) :: S) q Q := ge_iadd (len := 1) (x := (0, 0, [])) p_124 rfl
theorem g124_59 : z_go zP 124 59 L (zi b :: zi a :: .ref u :: S) q Q ↔ ∃ q1, z_st 100 q u (Int32.ofInt a) (zi b) = some q1 ∧ z_go zP 124 60 L S q1 Q := ge_iast (len := 1) (x := (0, 0, [])) p_124 rfl
theorem g124_60 : z_go zP 124 60 [some (.ref u), l1, l2, l3, l4, l5, l6] S q Q ↔ z_go zP 124 61 [some (.ref u), l1, l2, l3, l4, l5, l6] (.ref u :: S) q Q := ge_x (len := 1) (x := (0, 0, [])) p_124 rfl rfl
theorem g124_61 : z_go zP 124 61 L (.ref u :: S) q Q ↔ ∃ v, z_get [9] 29 q.1 u = some v ∧ z_go zP 124 64 L (v :: S) q Q := ge_getf (len := 3) (x := (29, 0, [9])) p_124 rfl
theorem g124_64 : z_go zP 124 64 [l0, some (zi a), l2, l3, l4, l5, l6] S q Q ↔ z_go zP 124 65 [l0, some (zi a), l2, l3, l4, l5, l6] (zi a :: S) q Q := ge_x (len := 1) (x := (0, 0, [])) p_124 rfl rfl
theorem g124_65 : z_go zP 124 65 L (zi a :: .ref u :: S) q Q ↔ z_go zP 124 66 L (zi a :: .ref u :: zi a :: .ref u :: S) q Q := ge_x (len := 1) (x := (0, 0, [])) p_124 rfl rfl
theorem g124_66 : z_go zP 124 66 L (zi a :: .ref u :: S) q Q ↔ ∃ v, z_at [99, 100] q.1 u (Int32.ofInt a) = some v ∧ z_go zP 124 67 L (v :: S) q Q := ge_iald (len := 1) (x := (0, 0, [])) p_124 rfl
theorem g124_67 : z_go zP 124 67 [l0, l1, l2, l3, some (zi a), l5, l6] S q Q ↔ z_go zP 124 69 [l0, l1, l2, l3, some (zi a), l5, l6] (zi a :: S) q Q := ge_x (len := 2) (x := (0, 0, [])) p_124 rfl rfl
theorem g124_69 : z_go zP 124 69 [l0, l1, l2, l3, l4, l5, some (zi a)] S q Q ↔ z_go zP 124 71 [l0, l1, l2, l3, l4, l5, some (zi a)] (zi a :: S) q Q := ge_x (len := 2) (x := (0, 0, [])) p_124 rfl rfl
theorem g124_71 : z_go zP 124 71 L (zi b :: zi a :: S) q Q ↔ z_go zP 124 72 L (zi (a - b) :: S) q Q := ge_isub (len := 1) (x := (0, 0, [])) p_124 rfl
theorem g124_72 : z_go zP 124 72 L (zi b :: zi a :: S) q Q ↔ z_go zP 124 73 L (zi (a + b) :: S) q Q := ge_iadd (len := 1) (x := (0, 0, [])) p_124 rfl
theorem g124_73 : z_go zP 124 73 L (zi b :: zi a :: .ref u :: S) q Q ↔ ∃ q1, z_st 100 q u (Int32.ofInt a) (zi b) = some q1 ∧ z_go zP 124 74 L S q1 Q := ge_iast (len := 1) (x := (0, 0, [])) p_124 rfl
theorem g124_74 : z_go zP 124 74 L [] q Q ↔ Q (.inl none) q := z_go_rt (len := 1) (x := (0, 0, [])) p_124 rfl rfl rfl
theorem g125_0 : z_go zP 125 0 L S q Q ↔ z_go zP 125 2 L (zi 61 :: S) q Q := ge_x (len := 2) (x := (0, 0, [])) p_125 rfl rfl
theorem g125_2 : z_go zP 125 2 [l0, some (zi a), l2, l3, l4] S q Q ↔ z_go zP 125 3 [l0, some (zi a), l2, l3, l4] (zi a :: S) q Q := ge_x (len := 1) (x := (0, 0, [])) p_125 rfl rfl
theorem g125_3 : z_go zP 125 3 L (zi b :: zi a :: S) q Q ↔ z_go zP 125 4 L (zi (a + b) :: S) q Q := ge_iadd (len := 1) (x := (0, 0, [])) p_125 rfl
theorem g125_4 : z_go zP 125 4 [l0, l1, l2, l3, l4] (zi a :: S) q Q ↔ z_go zP 125 5 [l0, l1, (zkl l2), some (zi a), l4] S q Q := (by cases l2 with | none => exact ge_x (len := 1) (x := (0, 0, [])) p_125 rfl rfl | some v => cases v <;> exact ge_x (len := 1) (x := (0, 0, [])) p_125 rfl rfl)
theorem g125_5 : z_go zP 125 5 [some (.ref u), l1, l2, l3, l4] S q Q ↔ z_go zP 125 6 [some (.ref u), l1, l2, l3, l4] (.ref u :: S) q Q := ge_x (len := 1) (x := (0, 0, [])) p_125 rfl rfl
theorem g125_6 : z_go zP 125 6 L (.ref u :: S) q Q ↔ ∃ v, z_get [9] 22 q.1 u = some v ∧ z_go zP 125 9 L (v :: S) q Q := ge_getf (len := 3) (x := (22, 0, [9])) p_125 rfl
theorem g125_9 : z_go zP 125 9 [l0, l1, l2, some (zi a), l4] S q Q ↔ z_go zP 125 10 [l0, l1, l2, some (zi a), l4] (zi a :: S) q Q := ge_x (len := 1) (x := (0, 0, [])) p_125 rfl rfl
theorem g125_10 : z_go zP 125 10 L (zi a :: .ref u :: S) q Q ↔ ∃ v, z_at [102] q.1 u (Int32.ofInt a) = some v ∧ z_go zP 125 11 L (v :: S) q Q := ge_bald (len := 1) (x := (0, 0, [])) p_125 rfl
theorem g125_11 (a1 : -2147483648 ≤ a) (a2 : a < 2147483648) : z_go zP 125 11 L (zi a :: S) q Q ↔ if ¬ a = 0 then z_go zP 125 124 L S q Q else z_go zP 125 14 L S q Q := ge_if_ne (len := 3) (x := (0, 0, [])) a1 a2 p_125 rfl rfl
theorem g125_11b {c : Prop} [Decidable c] : z_go zP 125 11 L (zi (bI c) :: S) q Q ↔ if c then z_go zP 125 124 L S q Q else z_go zP 125 14 L S q Q := ge_if_ne_b (len := 3) (x := (0, 0, [])) p_125 rfl rfl
theorem g125_14 : z_go zP 125 14 [some (.ref u), l1, l2, l3, l4] S q Q ↔ z_go zP 125 15 [some (.ref u), l1, l2, l3, l4] (.ref u :: S) q Q := ge_x (len := 1) (x := (0, 0, [])) p_125 rfl rfl
theorem g125_15 : z_go zP 125 15 L (.ref u :: S) q Q ↔ ∃ v, z_get [9] 24 q.1 u = some v ∧ z_go zP 125 18 L (v :: S) q Q := ge_getf (len := 3) (x := (24, 0, [9])) p_125 rfl
theorem g125_18 : z_go zP 125 18 [l0, some (zi a), l2, l3, l4] S q Q ↔ z_go zP 125 19 [l0, some (zi a), l2, l3, l4] (zi a :: S) q Q := ge_x (len := 1) (x := (0, 0, [])) p_125 rfl rfl
theorem g125_19 : z_go zP 125 19 L (zi a :: .ref u :: S) q Q ↔ ∃ v, z_at [99, 100] q.1 u (Int32.ofInt a) = some v ∧ z_go zP 125 20 L (v :: S) q Q := ge_iald (len := 1) (x := (0, 0, [])) p_125 rfl
theorem g125_20 : z_go zP 125 20 [l0, l1, some (zi a), l3, l4] S q Q ↔ z_go zP 125 21 [l0, l1, some (zi a), l3, l4] (zi a :: S) q Q := ge_x (len := 1) (x := (0, 0, [])) p_125 rfl rfl
theorem g125_21 (a1 : -2147483648 ≤ a) (a2 : a < 2147483648) (b1 : -2147483648 ≤ b) (b2 : b < 2147483648) : z_go zP 125 21 L (zi b :: zi a :: S) q Q ↔ if b < a then z_go zP 125 124 L S q Q else z_go zP 125 24 L S q Q := ge_ic_gt (len := 3) (x := (0, 0, [])) a1 a2 b1 b2 p_125 rfl rfl
theorem g125_24 : z_go zP 125 24 [some (.ref u), l1, l2, l3, l4] S q Q ↔ z_go zP 125 25 [some (.ref u), l1, l2, l3, l4] (.ref u :: S) q Q := ge_x (len := 1) (x := (0, 0, [])) p_125 rfl rfl
theorem g125_25 : z_go zP 125 25 L (.ref u :: S) q Q ↔ ∃ v, z_get [9] 21 q.1 u = some v ∧ z_go zP 125 28 L (v :: S) q Q := ge_getf (len := 3) (x := (21, 0, [9])) p_125 rfl
theorem g125_28 : z_go zP 125 28 [l0, l1, l2, some (zi a), l4] S q Q ↔ z_go zP 125 29 [l0, l1, l2, some (zi a), l4] (zi a :: S) q Q := ge_x (len := 1) (x := (0, 0, [])) p_125 rfl rfl
theorem g125_29 : z_go zP 125 29 L (zi a :: .ref u :: S) q Q ↔ ∃ v, z_at [99, 100] q.1 u (Int32.ofInt a) = some v ∧ z_go zP 125 30 L (v :: S) q Q := ge_iald (len := 1) (x := (0, 0, [])) p_125 rfl
theorem g125_30 (a1 : -2147483648 ≤ a) (a2 : a < 2147483648) : z_go zP 125 30 L (zi a :: S) q Q ↔ if a ≤ 0 then z_go zP 125 65 L S q Q else z_go zP 125 33 L S q Q := ge_if_le (len := 3) (x := (0, 0, [])) a1 a2 p_125 rfl rfl
theorem g125_33 : z_go zP 125 33 [some (.ref u), l1, l2, l3, l4] S q Q ↔ z_go zP 125 34 [some (.ref u), l1, l2, l3, l4] (.ref u :: S) q Q := ge_x (len := 1) (x := (0, 0, [])) p_125 rfl rfl
theorem g125_34 : z_go zP 125 34 [l0, some (zi a), l2, l3, l4] S q Q ↔ z_go zP 125 35 [l0, some (zi a), l2, l3, l4] (zi a :: S) q Q := ge_x (len := 1) (x := (0, 0, [])) p_125 rfl rfl
theorem g125_35 : z_go zP 125 35 [some (.ref u), l1, l2, l3, l4] S q Q ↔ z_go zP 125 36 [some (.ref u), l1, l2, l3, l4] (.ref u :: S) q Q := ge_x (len := 1) (x := (0, 0, [])) p_125 rfl rfl
theorem g125_36 : z_go zP 125 36 L (.ref u :: S) q Q ↔ ∃ v, z_get [9] 25 q.1 u = some v ∧ z_go zP 125 39 L (v :: S) q Q := ge_getf (len := 3) (x := (25, 0, [9])) p_125 rfl
theorem g125_39 : z_go zP 125 39 L S q Q ↔ z_go zP 125 41 L (zi 16 :: S) q Q := ge_x (len := 2) (x := (0, 0, [])) p_125 rfl rfl
theorem g125_41 : z_go zP 125 41 [l0, some (zi a), l2, l3, l4] S q Q ↔ z_go zP 125 42 [l0, some (zi a), l2, l3, l4] (zi a :: S) q Q := ge_x (len := 1) (x := (0, 0, [])) p_125 rfl rfl
theorem g125_42 : z_go zP 125 42 L (zi b :: zi a :: S) q Q ↔ z_go zP 125 43 L (zi (a * b) :: S) q Q := ge_imul (len := 1) (x := (0, 0, [])) p_125 rfl
theorem g125_43 : z_go zP 125 43 [some (.ref u), l1, l2, l3, l4] S q Q ↔ z_go zP 125 44 [some (.ref u), l1, l2, l3, l4] (.ref u :: S) q Q := ge_x (len := 1) (x := (0, 0, [])) p_125 rfl rfl
theorem g125_44 : z_go zP 125 44 L (.ref u :: S) q Q ↔ ∃ v, z_get [9] 21 q.1 u = some v ∧ z_go zP 125 47 L (v :: S) q Q := ge_getf (len := 3) (x := (21, 0, [9])) p_125 rfl
theorem g125_47 : z_go zP 125 47 [l0, l1, l2, some (zi a), l4] S q Q ↔ z_go zP 125 48 [l0, l1, l2, some (zi a), l4] (zi a :: S) q Q := ge_x (len := 1) (x := (0, 0, [])) p_125 rfl rfl
theorem g125_48 : z_go zP 125 48 L (zi a :: .ref u :: S) q Q ↔ ∃ v, z_at [99, 100] q.1 u (Int32.ofInt a) = some v ∧ z_go zP 125 49 L (v :: S) q Q := ge_iald (len := 1) (x := (0, 0, [])) p_125 rfl
theorem g125_49 : z_go zP 125 49 L S q Q ↔ z_go zP 125 50 L (zi 1 :: S) q Q := ge_x (len := 1) (x := (0, 0, [])) p_125 rfl rfl
theorem g125_50 : z_go zP 125 50 L (zi b :: zi a :: S) q Q ↔ z_go zP 125 51 L (zi (a - b) :: S) q Q := ge_isub (len := 1) (x := (0, 0, [])) p_125 rfl
theorem g125_51 : z_go zP 125 51 L S q Q ↔ z_go zP 125 53 L (zi 16 :: S) q Q := ge_x (len := 2) (x := (0, 0, [])) p_125 rfl rfl
theorem g125_53 (a1 : -2147483648 ≤ a) (a2 : a < 2147483648) (b1 : 0 < b) (b2 : b < 2147483648) : z_go zP 125 53 L (zi b :: zi a :: S) q Q ↔ z_go zP 125 54 L (zi (a.tmod b) :: S) q Q := ge_irem (len := 1) (x := (0, 0, [])) a1 a2 b1 b2 p_125 rfl
theorem g125_54 : z_go zP 125 54 L (zi b :: zi a :: S) q Q ↔ z_go zP 125 55 L (zi (a + b) :: S) q Q := ge_iadd (len := 1) (x := (0, 0, [])) p_125 rfl
theorem g125_55 : z_go zP 125 55 L (zi a :: .ref u :: S) q Q ↔ ∃ v, z_at [99, 100] q.1 u (Int32.ofInt a) = some v ∧ z_go zP 125 56 L (v :: S) q Q := ge_iald (len := 1) (x := (0, 0, [])) p_125 rfl
theorem g125_56 : z_go zP 125 56 [some (.ref u), l1, l2, l3, l4] S q Q ↔ z_go zP 125 57 [some (.ref u), l1, l2, l3, l4] (.ref u :: S) q Q := ge_x (len := 1) (x := (0, 0, [])) p_125 rfl rfl
theorem g125_57 : z_go zP 125 57 L (.ref u :: S) q Q ↔ ∃ v, z_get [9] 41 q.1 u = some v ∧ z_go zP 125 60 L (v :: S) q Q := ge_getf (len := 3) (x := (41, 0, [9])) p_125 rfl
theorem g125_60 : z_go zP 125 60 [l0, some (zi a), l2, l3, l4] S q Q ↔ z_go zP 125 61 [l0, some (zi a), l2, l3, l4] (zi a :: S) q Q := ge_x (len := 1) (x := (0, 0, [])) p_125 rfl rfl
theorem g125_61 : z_go zP 125 61 L (zi a :: .ref u :: S) q Q ↔ ∃ v, z_at [102] q.1 u (Int32.ofInt a) = some v ∧ z_go zP 125 62 L (v :: S) q Q := ge_bald (len := 1) (x := (0, 0, [])) p_125 rfl
theorem g125_62 : z_go zP 125 62 L [zi x2, zi x1, zi x0, .ref u] q Q ↔ z_tg q.1 u = some 9 ∧ z_go zP 124 0 [some (.ref u), some (zi x0), some (zi x1), some (zi x2), none, none, none] [] q (zc 125 65 L [] Q) := ge_vc (len := 3) (pc := 62) (S := [zi x2, zi x1, zi x0, .ref u]) (u := u) (k1 := 124) (A := [.ref u, zi x0, zi x1, zi x2]) (r := []) (tag := 9) (n0 := 3) (zwb_le (by show 0 ≤ 4; omega)) p_125 rfl rfl rfl p_124 (by show 4 ≤ 7; omega) rfl
theorem g125_65 : z_go zP 125 65 [some (.ref u), l1, l2, l3, l4] S q Q ↔ z_go zP 125 66 [some (.ref u), l1, l2, l3, l4] (.ref u :: S) q Q := ge_x (len := 1) (x := (0, 0, [])) p_125 rfl rfl
theorem g125_66 : z_go zP 125 66 [l0, l1, l2, some (zi a), l4] S q Q ↔ z_go zP 125 67 [l0, l1, l2, some (zi a), l4] (zi a :: S) q Q := ge_x (len := 1) (x := (0, 0, [])) p_125 rfl rfl
theorem g125_67 : z_go zP 125 67 [some (.ref u), l1, l2, l3, l4] S q Q ↔ z_go zP 125 68 [some (.ref u), l1, l2, l3, l4] (.ref u :: S) q Q := ge_x (len := 1) (x := (0, 0, [])) p_125 rfl rfl
theorem g125_68 : z_go zP 125 68 [l0, l1, l2, some (zi a), l4] S q Q ↔ z_go zP 125 69 [l0, l1, l2, some (zi a), l4] (zi a :: S) q Q := ge_x (len := 1) (x := (0, 0, [])) p_125 rfl rfl
theorem g125_69 : z_go zP 125 69 [some (.ref u), l1, l2, l3, l4] S q Q ↔ z_go zP 125 70 [some (.ref u), l1, l2, l3, l4] (.ref u :: S) q Q := ge_x (len := 1) (x := (0, 0, [])) p_125 rfl rfl
theorem g125_70 : z_go zP 125 70 L (.ref u :: S) q Q ↔ ∃ v, z_get [9] 6 q.1 u = some v ∧ z_go zP 125 73 L (v :: S) q Q := ge_getf (len := 3) (x := (6, 0, [9])) p_125 rfl
theorem g125_73 : z_go zP 125 73 [l0, some (zi a), l2, l3, l4] S q Q ↔ z_go zP 125 74 [l0, some (zi a), l2, l3, l4] (zi a :: S) q Q := ge_x (len := 1) (x := (0, 0, [])) p_125 rfl rfl
theorem g125_74 : z_go zP 125 74 L (zi a :: .ref u :: S) q Q ↔ ∃ v, z_at [99, 100] q.1 u (Int32.ofInt a) = some v ∧ z_go zP 125 75 L (v :: S) q Q := ge_iald (len := 1) (x := (0, 0, [])) p_125 rfl
theorem g125_75 : z_go zP 125 75 L [zi x1, zi x0, .ref u, r0, r1] q Q ↔ z_tg q.1 u = some 9 ∧ z_go zP 114 0 [some (.ref u), some (zi x0), some (zi x1)] [] q (zc 125 78 L [r0, r1] Q) := ge_vc (len := 3) (pc := 75) (S := [zi x1, zi x0, .ref u, r0, r1]) (u := u) (k1 := 114) (A := [.ref u, zi x0, zi x1]) (r := [r0, r1]) (tag := 9) (n0 := 2) (zwb_le (by show 2 ≤ 4; omega)) p_125 rfl rfl rfl p_114 (by show 3 ≤ 3; omega) rfl
theorem g125_78 : z_go zP 125 78 L [zi x1, zi x0, .ref u] q Q ↔ z_tg q.1 u = some 9 ∧ z_go zP 115 0 [some (.ref u), some (zi x0), some (zi x1)] [] q (zc 125 81 L [] Q) := ge_vc (len := 3) (pc := 78) (S := [zi x1, zi x0, .ref u]) (u := u) (k1 := 115) (A := [.ref u, zi x0, zi x1]) (r := []) (tag := 9) (n0 := 2) (zwb_le (by show 0 ≤ 4; omega)) p_125 rfl rfl rfl p_115 (by show 3 ≤ 3; omega) rfl
theorem g125_81 : z_go zP 125 81 [l0, l1, l2, l3, l4] (zi a :: S) q Q ↔ z_go zP 125 83 [l0, l1, l2, (zkl l3), some (zi a)] S q Q := (by cases l3 with | none => exact ge_x (len := 2) (x := (0, 0, [])) p_125 rfl rfl | some v => cases v <;> exact ge_x (len := 2) (x := (0, 0, [])) p_125 rfl rfl)
theorem g125_83 : z_go zP 125 83 [some (.ref u), l1, l2, l3, l4] S q Q ↔ z_go zP 125 84 [some (.ref u), l1, l2, l3, l4] (.ref u :: S) q Q := ge_x (len := 1) (x := (0, 0, [])) p_125 rfl rfl
theorem g125_84 : z_go zP 125 84 [l0, some (zi a), l2, l3, l4] S q Q ↔ z_go zP 125 85 [l0, some (zi a), l2, l3, l4] (zi a :: S) q Q := ge_x (len := 1) (x := (0, 0, [])) p_125 rfl rfl
theorem g125_85 : z_go zP 125 85 L [zi x0, .ref u] q Q ↔ z_tg q.1 u = some 9 ∧ z_go zP 123 0 [some (.ref u), some (zi x0), none, none, none, none, none, none, none, none] [] q (zc 125 88 L [] Q) := ge_vc (len := 3) (pc := 85) (S := [zi x0, .ref u]) (u := u) (k1 := 123) (A := [.ref u, zi x0]) (r := []) (tag := 9) (n0 := 1) (zwb_le (by show 0 ≤ 4; omega)) p_125 rfl rfl rfl p_123 (by show 2 ≤ 10; omega) rfl
theorem g125_88 : z_go zP 125 88 [some (.ref u), l1, l2, l3, l4] S q Q ↔ z_go zP 125 89 [some (.ref u), l1, l2, l3, l4] (.ref u :: S) q Q := ge_x (len := 1) (x := (0, 0, [])) p_125 rfl rfl
theorem g125_89 : z_go zP 125 89 L (.ref u :: S) q Q ↔ ∃ v, z_get [9] 41 q.1 u = some v ∧ z_go zP 125 92 L (v :: S) q Q := ge_getf (len := 3) (x := (41, 0, [9])) p_125 rfl
theorem g125_92 : z_go zP 125 92 [l0, some (zi a), l2, l3, l4] S q Q ↔ z_go zP 125 93 [l0, some (zi a), l2, l3, l4] (zi a :: S) q Q := ge_x (len := 1) (x := (0, 0, [])) p_125 rfl rfl
theorem g125_93 : z_go zP 125 93 [l0, l1, l2, l3, some (zi a)] S q Q ↔ z_go zP 125 95 [l0, l1, l2, l3, some (zi a)] (zi a :: S) q Q := ge_x (len := 2) (x := (0, 0, [])) p_125 rfl rfl
theorem g125_95 (hb : b = 0 ∨ b = 1) : z_go zP 125 95 L (zi b :: zi a :: .ref u :: S) q Q ↔ ∃ q1, z_st 102 q u (Int32.ofInt a) (zi b) = some q1 ∧ z_go zP 125 96 L S q1 Q := ge_bast (len := 1) (x := (0, 0, [])) hb p_125 rfl
theorem g125_96 : z_go zP 125 96 [some (.ref u), l1, l2, l3, l4] S q Q ↔ z_go zP 125 97 [some (.ref u), l1, l2, l3, l4] (.ref u :: S) q Q := ge_x (len := 1) (x := (0, 0, [])) p_125 rfl rfl
theorem g125_97 : z_go zP 125 97 [l0, some (zi a), l2, l3, l4] S q Q ↔ z_go zP 125 98 [l0, some (zi a), l2, l3, l4] (zi a :: S) q Q := ge_x (len := 1) (x := (0, 0, [])) p_125 rfl rfl
theorem g125_98 : z_go zP 125 98 [some (.ref u), l1, l2, l3, l4] S q Q ↔ z_go zP 125 99 [some (.ref u), l1, l2, l3, l4] (.ref u :: S) q Q := ge_x (len := 1) (x := (0, 0, [])) p_125 rfl rfl
theorem g125_99 : z_go zP 125 99 L (.ref u :: S) q Q ↔ ∃ v, z_get [9] 24 q.1 u = some v ∧ z_go zP 125 102 L (v :: S) q Q := ge_getf (len := 3) (x := (24, 0, [9])) p_125 rfl
theorem g125_102 : z_go zP 125 102 [l0, some (zi a), l2, l3, l4] S q Q ↔ z_go zP 125 103 [l0, some (zi a), l2, l3, l4] (zi a :: S) q Q := ge_x (len := 1) (x := (0, 0, [])) p_125 rfl rfl
theorem g125_103 : z_go zP 125 103 L (zi a :: .ref u :: S) q Q ↔ ∃ v, z_at [99, 100] q.1 u (Int32.ofInt a) = some v ∧ z_go zP 125 104 L (v :: S) q Q := ge_iald (len := 1) (x := (0, 0, [])) p_125 rfl
theorem g125_104 : z_go zP 125 104 [l0, l1, some (zi a), l3, l4] S q Q ↔ z_go zP 125 105 [l0, l1, some (zi a), l3, l4] (zi a :: S) q Q := ge_x (len := 1) (x := (0, 0, [])) p_125 rfl rfl
theorem g125_105 (a1 : -2147483648 ≤ a) (a2 : a < 2147483648) (b1 : -2147483648 ≤ b) (b2 : b < 2147483648) : z_go zP 125 105 L (zi b :: zi a :: S) q Q ↔ if b ≤ a then z_go zP 125 117 L S q Q else z_go zP 125 108 L S q Q := ge_ic_ge (len := 3) (x := (0, 0, [])) a1 a2 b1 b2 p_125 rfl rfl
theorem g125_108 : z_go zP 125 108 [some (.ref u), l1, l2, l3, l4] S q Q ↔ z_go zP 125 109 [some (.ref u), l1, l2, l3, l4] (.ref u :: S) q Q := ge_x (len := 1) (x := (0, 0, [])) p_125 rfl rfl
theorem g125_109 : z_go zP 125 109 L (.ref u :: S) q Q ↔ ∃ v, z_get [9] 24 q.1 u = some v ∧ z_go zP 125 112 L (v :: S) q Q := ge_getf (len := 3) (x := (24, 0, [9])) p_125 rfl
theorem g125_112 : z_go zP 125 112 [l0, some (zi a), l2, l3, l4] S q Q ↔ z_go zP 125 113 [l0, some (zi a), l2, l3, l4] (zi a :: S) q Q := ge_x (len := 1) (x := (0, 0, [])) p_125 rfl rfl
theorem g125_113 : z_go zP 125 113 L (zi a :: .ref u :: S) q Q ↔ ∃ v, z_at [99, 100] q.1 u (Int32.ofInt a) = some v ∧ z_go zP 125 114 L (v :: S) q Q := ge_iald (len := 1) (x := (0, 0, [])) p_125 rfl
theorem g125_114 : z_go zP 125 114 L S q Q ↔ z_go zP 125 118 L S q Q := ge_to (len := 3) (x := (0, 0, [])) p_125 rfl rfl rfl
theorem g125_117 : z_go zP 125 117 [l0, l1, some (zi a), l3, l4] S q Q ↔ z_go zP 125 118 [l0, l1, some (zi a), l3, l4] (zi a :: S) q Q := ge_x (len := 1) (x := (0, 0, [])) p_125 rfl rfl
theorem g125_118 : z_go zP 125 118 L [zi x1, zi x0, .ref u] q Q ↔ z_tg q.1 u = some 9 ∧ z_go zP 126 0 [some (.ref u), some (zi x0), some (zi x1), none] [] q (zc 125 121 L [] Q) := ge_vc (len := 3) (pc := 118) (S := [zi x1, zi x0, .ref u]) (u := u) (k1 := 126) (A := [.ref u, zi x0, zi x1]) (r := []) (tag := 9) (n0 := 2) (zwb_le (by show 0 ≤ 4; omega)) p_125 rfl rfl rfl p_126 (by show 3 ≤ 4; omega) rfl
theorem g125_121 : z_go zP 125 121 L S q Q ↔ z_go zP 125 5 L S q Q := ge_to (len := 3) (x := (0, 0, [])) p_125 rfl rfl rfl
theorem g125_124 : z_go zP 125 124 [some (.ref u), l1, l2, l3, l4] S q Q ↔ z_go zP 125 125 [some (.ref u), l1, l2, l3, l4] (.ref u :: S) q Q := ge_x (len := 1) (x := (0, 0, [])) p_125 rfl rfl
theorem g125_125 : z_go zP 125 125 [l0, some (zi a), l2, l3, l4] S q Q ↔ z_go zP 125 126 [l0, some (zi a), l2, l3, l4] (zi a :: S) q Q := ge_x (len := 1) (x := (0, 0, [])) p_125 rfl rfl
theorem g125_126 : z_go zP 125 126 [l0, l1, some (zi a), l3, l4] S q Q ↔ z_go zP 125 127 [l0, l1, some (zi a), l3, l4] (zi a :: S) q Q := ge_x (len := 1) (x := (0, 0, [])) p_125 rfl rfl
theorem g125_127 : z_go zP 125 127 L [zi x1, zi x0, .ref u] q Q ↔ z_tg q.1 u = some 9 ∧ z_go zP 126 0 [some (.ref u), some (zi x0), some (zi x1), none] [] q (zc 125 130 L [] Q) := ge_vc (len := 3) (pc := 127) (S := [zi x1, zi x0, .ref u]) (u := u) (k1 := 126) (A := [.ref u, zi x0, zi x1]) (r := []) (tag := 9) (n0 := 2) (zwb_le (by show 0 ≤ 4; omega)) p_125 rfl rfl rfl p_126 (by show 3 ≤ 4; omega) rfl
theorem g125_130 : z_go zP 125 130 L [] q Q ↔ Q (.inl none) q := z_go_rt (len := 1) (x := (0, 0, [])) p_125 rfl rfl rfl
theorem g126_0 : z_go zP 126 0 L S q Q ↔ z_go zP 126 2 L (zi 61 :: S) q Q := ge_x (len := 2) (x := (0, 0, [])) p_126 rfl rfl
theorem g126_2 : z_go zP 126 2 [l0, some (zi a), l2, l3] S q Q ↔ z_go zP 126 3 [l0, some (zi a), l2, l3] (zi a :: S) q Q := ge_x (len := 1) (x := (0, 0, [])) p_126 rfl rfl
theorem g126_3 : z_go zP 126 3 L (zi b :: zi a :: S) q Q ↔ z_go zP 126 4 L (zi (a + b) :: S) q Q := ge_iadd (len := 1) (x := (0, 0, [])) p_126 rfl
theorem g126_4 : z_go zP 126 4 [l0, l1, l2, l3] (zi a :: S) q Q ↔ z_go zP 126 5 [l0, l1, (zkl l2), some (zi a)] S q Q := (by cases l2 with | none => exact ge_x (len := 1) (x := (0, 0, [])) p_126 rfl rfl | some v => cases v <;> exact ge_x (len := 1) (x := (0, 0, [])) p_126 rfl rfl)
theorem g126_5 : z_go zP 126 5 [some (.ref u), l1, l2, l3] S q Q ↔ z_go zP 126 6 [some (.ref u), l1, l2, l3] (.ref u :: S) q Q := ge_x (len := 1) (x := (0, 0, [])) p_126 rfl rfl
theorem g126_6 : z_go zP 126 6 L (.ref u :: S) q Q ↔ ∃ v, z_get [9] 21 q.1 u = some v ∧ z_go zP 126 9 L (v :: S) q Q := ge_getf (len := 3) (x := (21, 0, [9])) p_126 rfl
theorem g126_9 : z_go zP 126 9 [l0, some (zi a), l2, l3] S q Q ↔ z_go zP 126 10 [l0, some (zi a), l2, l3] (zi a :: S) q Q := ge_x (len := 1) (x := (0, 0, [])) p_126 rfl rfl
theorem g126_10 : z_go zP 126 10 L (zi a :: .ref u :: S) q Q ↔ ∃ v, z_at [99, 100] q.1 u (Int32.ofInt a) = some v ∧ z_go zP 126 11 L (v :: S) q Q := ge_iald (len := 1) (x := (0, 0, [])) p_126 rfl
theorem g126_11 : z_go zP 126 11 [some (.ref u), l1, l2, l3] S q Q ↔ z_go zP 126 12 [some (.ref u), l1, l2, l3] (.ref u :: S) q Q := ge_x (len := 1) (x := (0, 0, [])) p_126 rfl rfl
theorem g126_12 : z_go zP 126 12 L (.ref u :: S) q Q ↔ ∃ v, z_get [9] 21 q.1 u = some v ∧ z_go zP 126 15 L (v :: S) q Q := ge_getf (len := 3) (x := (21, 0, [9])) p_126 rfl
theorem g126_15 : z_go zP 126 15 [l0, l1, l2, some (zi a)] S q Q ↔ z_go zP 126 16 [l0, l1, l2, some (zi a)] (zi a :: S) q Q := ge_x (len := 1) (x := (0, 0, [])) p_126 rfl rfl
theorem g126_16 : z_go zP 126 16 L (zi a :: .ref u :: S) q Q ↔ ∃ v, z_at [99, 100] q.1 u (Int32.ofInt a) = some v ∧ z_go zP 126 17 L (v :: S) q Q := ge_iald (len := 1) (x := (0, 0, [])) p_126 rfl
theorem g126_17 (a1 : -2147483648 ≤ a) (a2 : a < 2147483648) (b1 : -2147483648 ≤ b) (b2 : b < 2147483648) : z_go zP 126 17 L (zi b :: zi a :: S) q Q ↔ if b ≤ a then z_go zP 126 69 L S q Q else z_go zP 126 20 L S q Q := ge_ic_ge (len := 3) (x := (0, 0, [])) a1 a2 b1 b2 p_126 rfl rfl
theorem g126_20 : z_go zP 126 20 [some (.ref u), l1, l2, l3] S q Q ↔ z_go zP 126 21 [some (.ref u), l1, l2, l3] (.ref u :: S) q Q := ge_x (len := 1) (x := (0, 0, [])) p_126 rfl rfl
theorem g126_21 : z_go zP 126 21 L (.ref u :: S) q Q ↔ ∃ v, z_get [9] 25 q.1 u = some v ∧ z_go zP 126 24 L (v :: S) q Q := ge_getf (len := 3) (x := (25, 0, [9])) p_126 rfl
theorem g126_24 : z_go zP 126 24 L S q Q ↔ z_go zP 126 26 L (zi 16 :: S) q Q := ge_x (len := 2) (x := (0, 0, [])) p_126 rfl rfl
theorem g126_26 : z_go zP 126 26 [l0, some (zi a), l2, l3] S q Q ↔ z_go zP 126 27 [l0, some (zi a), l2, l3] (zi a :: S) q Q := ge_x (len := 1) (x := (0, 0, [])) p_126 rfl rfl
theorem g126_27 : z_go zP 126 27 L (zi b :: zi a :: S) q Q ↔ z_go zP 126 28 L (zi (a * b) :: S) q Q := ge_imul (len := 1) (x := (0, 0, [])) p_126 rfl
theorem g126_28 : z_go zP 126 28 [some (.ref u), l1, l2, l3] S q Q ↔ z_go zP 126 29 [some (.ref u), l1, l2, l3] (.ref u :: S) q Q := ge_x (len := 1) (x := (0, 0, [])) p_126 rfl rfl
theorem g126_29 : z_go zP 126 29 L (.ref u :: S) q Q ↔ ∃ v, z_get [9] 21 q.1 u = some v ∧ z_go zP 126 32 L (v :: S) q Q := ge_getf (len := 3) (x := (21, 0, [9])) p_126 rfl
theorem g126_32 : z_go zP 126 32 [l0, some (zi a), l2, l3] S q Q ↔ z_go zP 126 33 [l0, some (zi a), l2, l3] (zi a :: S) q Q := ge_x (len := 1) (x := (0, 0, [])) p_126 rfl rfl
theorem g126_33 : z_go zP 126 33 L (zi a :: .ref u :: S) q Q ↔ ∃ v, z_at [99, 100] q.1 u (Int32.ofInt a) = some v ∧ z_go zP 126 34 L (v :: S) q Q := ge_iald (len := 1) (x := (0, 0, [])) p_126 rfl
theorem g126_34 : z_go zP 126 34 L S q Q ↔ z_go zP 126 36 L (zi 16 :: S) q Q := ge_x (len := 2) (x := (0, 0, [])) p_126 rfl rfl
theorem g126_36 (a1 : -2147483648 ≤ a) (a2 : a < 2147483648) (b1 : 0 < b) (b2 : b < 2147483648) : z_go zP 126 36 L (zi b :: zi a :: S) q Q ↔ z_go zP 126 37 L (zi (a.tmod b) :: S) q Q := ge_irem (len := 1) (x := (0, 0, [])) a1 a2 b1 b2 p_126 rfl
theorem g126_37 : z_go zP 126 37 L (zi b :: zi a :: S) q Q ↔ z_go zP 126 38 L (zi (a + b) :: S) q Q := ge_iadd (len := 1) (x := (0, 0, [])) p_126 rfl
theorem g126_38 : z_go zP 126 38 L (zi a :: .ref u :: S) q Q ↔ ∃ v, z_at [99, 100] q.1 u (Int32.ofInt a) = some v ∧ z_go zP 126 39 L (v :: S) q Q := ge_iald (len := 1) (x := (0, 0, [])) p_126 rfl
theorem g126_39 : z_go zP 126 39 [some (.ref u), l1, l2, l3] S q Q ↔ z_go zP 126 40 [some (.ref u), l1, l2, l3] (.ref u :: S) q Q := ge_x (len := 1) (x := (0, 0, [])) p_126 rfl rfl
theorem g126_40 : z_go zP 126 40 L (.ref u :: S) q Q ↔ ∃ v, z_get [9] 9 q.1 u = some v ∧ z_go zP 126 43 L (v :: S) q Q := ge_getf (len := 3) (x := (9, 0, [9])) p_126 rfl
theorem g126_43 : z_go zP 126 43 [some (.ref u), l1, l2, l3] S q Q ↔ z_go zP 126 44 [some (.ref u), l1, l2, l3] (.ref u :: S) q Q := ge_x (len := 1) (x := (0, 0, [])) p_126 rfl rfl
theorem g126_44 : z_go zP 126 44 L (.ref u :: S) q Q ↔ ∃ v, z_get [9] 5 q.1 u = some v ∧ z_go zP 126 47 L (v :: S) q Q := ge_getf (len := 3) (x := (5, 0, [9])) p_126 rfl
theorem g126_47 : z_go zP 126 47 [l0, some (zi a), l2, l3] S q Q ↔ z_go zP 126 48 [l0, some (zi a), l2, l3] (zi a :: S) q Q := ge_x (len := 1) (x := (0, 0, [])) p_126 rfl rfl
theorem g126_48 : z_go zP 126 48 L (zi a :: .ref u :: S) q Q ↔ ∃ v, z_at [99, 100] q.1 u (Int32.ofInt a) = some v ∧ z_go zP 126 49 L (v :: S) q Q := ge_iald (len := 1) (x := (0, 0, [])) p_126 rfl
theorem g126_49 : z_go zP 126 49 L (zi a :: .ref u :: S) q Q ↔ ∃ v, z_at [99, 100] q.1 u (Int32.ofInt a) = some v ∧ z_go zP 126 50 L (v :: S) q Q := ge_iald (len := 1) (x := (0, 0, [])) p_126 rfl
theorem g126_50 : z_go zP 126 50 L (zi b :: zi a :: S) q Q ↔ z_go zP 126 51 L (zi (a + b) :: S) q Q := ge_iadd (len := 1) (x := (0, 0, [])) p_126 rfl
theorem g126_51 : z_go zP 126 51 [l0, l1, some (zi a), l3] S q Q ↔ z_go zP 126 52 [l0, l1, some (zi a), l3] (zi a :: S) q Q := ge_x (len := 1) (x := (0, 0, [])) p_126 rfl rfl
theorem g126_52 (a1 : -2147483648 ≤ a) (a2 : a < 2147483648) (b1 : -2147483648 ≤ b) (b2 : b < 2147483648) : z_go zP 126 52 L (zi b :: zi a :: S) q Q ↔ if b < a then z_go zP 126 69 L S q Q else z_go zP 126 55 L S q Q := ge_ic_gt (len := 3) (x := (0, 0, [])) a1 a2 b1 b2 p_126 rfl rfl
theorem g126_55 : z_go zP 126 55 [some (.ref u), l1, l2, l3] S q Q ↔ z_go zP 126 56 [some (.ref u), l1, l2, l3] (.ref u :: S) q Q := ge_x (len := 1) (x := (0, 0, [])) p_126 rfl rfl
theorem g126_56 : z_go zP 126 56 [l0, some (zi a), l2, l3] S q Q ↔ z_go zP 126 57 [l0, some (zi a), l2, l3] (zi a :: S) q Q := ge_x (len := 1) (x := (0, 0, [])) p_126 rfl rfl
theorem g126_57 : z_go zP 126 57 [some (.ref u), l1, l2, l3] S q Q ↔ z_go zP 126 58 [some (.ref u), l1, l2, l3] (.ref u :: S) q Q := ge_x (len := 1) (x := (0, 0, [])) p_126 rfl rfl
theorem g126_58 : z_go zP 126 58 L (.ref u :: S) q Q ↔ ∃ v, z_get [9] 6 q.1 u = some v ∧ z_go zP 126 61 L (v :: S) q Q := ge_getf (len := 3) (x := (6, 0, [9])) p_126 rfl
theorem g126_61 : z_go zP 126 61 [l0, some (zi a), l2, l3] S q Q ↔ z_go zP 126 62 [l0, some (zi a), l2, l3] (zi a :: S) q Q := ge_x (len := 1) (x := (0, 0, [])) p_126 rfl rfl
theorem g126_62 : z_go zP 126 62 L (zi a :: .ref u :: S) q Q ↔ ∃ v, z_at [99, 100] q.1 u (Int32.ofInt a) = some v ∧ z_go zP 126 63 L (v :: S) q Q := ge_iald (len := 1) (x := (0, 0, [])) p_126 rfl
theorem g126_63 : z_go zP 126 63 L [zi x1, zi x0, .ref u] q Q ↔ z_tg q.1 u = some 9 ∧ z_go zP 116 0 [some (.ref u), some (zi x0), some (zi x1), none, none, none, none, none, none, none, none] [] q (zc 126 66 L [] Q) := ge_vc (len := 3) (pc := 63) (S := [zi x1, zi x0, .ref u]) (u := u) (k1 := 116) (A := [.ref u, zi x0, zi x1]) (r := []) (tag := 9) (n0 := 2) (zwb_le (by show 0 ≤ 4; omega)) p_126 rfl rfl rfl p_116 (by show 3 ≤ 11; omega) rfl
theorem g126_66 : z_go zP 126 66 L S q Q ↔ z_go zP 126 5 L S q Q := ge_to (len := 3) (x := (0, 0, [])) p_126 rfl rfl rfl
theorem g126_69 : z_go zP 126 69 L [] q Q ↔ Q (.inl none) q := z_go_rt (len := 1) (x := (0, 0, [])) p_126 rfl rfl rfl
theorem g127_0 : z_go zP 127 0 [some (.ref u), l1, l2, l3, l4] S q Q ↔ z_go zP 127 1 [some (.ref u), l1, l2, l3, l4] (.ref u :: S) q Q := ge_x (len := 1) (x := (0, 0, [])) p_127 rfl rfl
theorem g127_1 : z_go zP 127 1 [l0, some (zi a), l2, l3, l4] S q Q ↔ z_go zP 127 2 [l0, some (zi a), l2, l3, l4] (zi a :: S) q Q := ge_x (len := 1) (x := (0, 0, [])) p_127 rfl rfl
theorem g127_2 : z_go zP 127 2 L S q Q ↔ z_go zP 127 3 L (zi 5 :: S) q Q := ge_x (len := 1) (x := (0, 0, [])) p_127 rfl rfl
theorem g127_3 : z_go zP 127 3 L S q Q ↔ z_go zP 127 4 L (zi 1 :: S) q Q := ge_x (len := 1) (x := (0, 0, [])) p_127 rfl rfl
theorem g127_4 : z_go zP 127 4 L [zi x2, zi x1, zi x0, .ref u] q Q ↔ z_tg q.1 u = some 9 ∧ z_go zP 100 0 [some (.ref u), some (zi x0), some (zi x1), some (zi x2), none] [] q (zc 127 7 L [] Q) := ge_vc (len := 3) (pc := 4) (S := [zi x2, zi x1, zi x0, .ref u]) (u := u) (k1 := 100) (A := [.ref u, zi x0, zi x1, zi x2]) (r := []) (tag := 9) (n0 := 3) (zwb_le (by show 0 ≤ 4; omega)) p_127 rfl rfl rfl p_100 (by show 4 ≤ 5; omega) rfl
theorem g127_7 (a1 : -2147483648 ≤ a) (a2 : a < 2147483648) : z_go zP 127 7 L (zi a :: S) q Q ↔ if ¬ a = 0 then z_go zP 127 12 L S q Q else z_go zP 127 10 L S q Q := ge_if_ne (len := 3) (x := (0, 0, [])) a1 a2 p_127 rfl rfl
theorem g127_7b {c : Prop} [Decidable c] : z_go zP 127 7 L (zi (bI c) :: S) q Q ↔ if c then z_go zP 127 12 L S q Q else z_go zP 127 10 L S q Q := ge_if_ne_b (len := 3) (x := (0, 0, [])) p_127 rfl rfl
theorem g127_10 : z_go zP 127 10 L S q Q ↔ z_go zP 127 11 L (zi 0 :: S) q Q := ge_x (len := 1) (x := (0, 0, [])) p_127 rfl rfl
theorem g127_11 : z_go zP 127 11 L [zi a] q Q ↔ Q (.inl (some (zi a))) q := ge_rti (len := 1) (x := (0, 0, [])) p_127 rfl rfl
theorem g127_12 : z_go zP 127 12 [l0, l1, some (zi a), l3, l4] S q Q ↔ z_go zP 127 13 [l0, l1, some (zi a), l3, l4] (zi a :: S) q Q := ge_x (len := 1) (x := (0, 0, [])) p_127 rfl rfl
theorem g127_13 : z_go zP 127 13 L S q Q ↔ z_go zP 127 14 L (zi 1 :: S) q Q := ge_x (len := 1) (x := (0, 0, [])) p_127 rfl rfl
theorem g127_14 : z_go zP 127 14 L S q Q ↔ z_go zP 127 17 L (zi 2000 :: S) q Q := ge_x (len := 3) (x := (0, 0, [])) p_127 rfl rfl
theorem g127_17 : z_go zP 127 17 L [zi x2, zi x1, zi x0] q Q ↔ z_go zP 97 0 [some (zi x0), some (zi x1), some (zi x2)] [] q (zd 127 20 L [] Q) := (z_go_cl (len := 3) (x := (97, 2, [3])) (k1 := 97) (A := [zi x0, zi x1, zi x2]) (r := []) p_127 rfl rfl rfl rfl (by simp only [z_cl, List.drop]; rw [if_pos]; rfl; exact by first | exact ⟨by decide, (zwb_le (by show 0 ≤ 4; omega))⟩ | exact ⟨by decide, by show 3 ≤ 3; omega, (zwb_le (by show 0 ≤ 4; omega))⟩) p_97 (by show 3 ≤ 3; omega)).trans (ge_bk_d rfl)
theorem g127_20 (a1 : -2147483648 ≤ a) (a2 : a < 2147483648) : z_go zP 127 20 L (zi a :: S) q Q ↔ if ¬ a = 0 then z_go zP 127 29 L S q Q else z_go zP 127 23 L S q Q := ge_if_ne (len := 3) (x := (0, 0, [])) a1 a2 p_127 rfl rfl
theorem g127_20b {c : Prop} [Decidable c] : z_go zP 127 20 L (zi (bI c) :: S) q Q ↔ if c then z_go zP 127 29 L S q Q else z_go zP 127 23 L S q Q := ge_if_ne_b (len := 3) (x := (0, 0, [])) p_127 rfl rfl
theorem g127_23 : z_go zP 127 23 [some (.ref u), l1, l2, l3, l4] S q Q ↔ z_go zP 127 24 [some (.ref u), l1, l2, l3, l4] (.ref u :: S) q Q := ge_x (len := 1) (x := (0, 0, [])) p_127 rfl rfl
theorem g127_24 : z_go zP 127 24 L S q Q ↔ z_go zP 127 25 L (zi 2 :: S) q Q := ge_x (len := 1) (x := (0, 0, [])) p_127 rfl rfl
theorem g127_25 : z_go zP 127 25 L [zi x0, .ref u] q Q ↔ z_tg q.1 u = some 9 ∧ z_go zP 96 0 [some (.ref u), some (zi x0)] [] q (zc 127 28 L [] Q) := ge_vc (len := 3) (pc := 25) (S := [zi x0, .ref u]) (u := u) (k1 := 96) (A := [.ref u, zi x0]) (r := []) (tag := 9) (n0 := 1) (zwb_le (by show 0 ≤ 4; omega)) p_127 rfl rfl rfl p_96 (by show 2 ≤ 2; omega) rfl
theorem g127_28 : z_go zP 127 28 L [zi a] q Q ↔ Q (.inl (some (zi a))) q := ge_rti (len := 1) (x := (0, 0, [])) p_127 rfl rfl
theorem g127_29 : z_go zP 127 29 [some (.ref u), l1, l2, l3, l4] S q Q ↔ z_go zP 127 30 [some (.ref u), l1, l2, l3, l4] (.ref u :: S) q Q := ge_x (len := 1) (x := (0, 0, [])) p_127 rfl rfl
theorem g127_30 : z_go zP 127 30 L (.ref u :: S) q Q ↔ ∃ v, z_get [9] 23 q.1 u = some v ∧ z_go zP 127 33 L (v :: S) q Q := ge_getf (len := 3) (x := (23, 0, [9])) p_127 rfl
theorem g127_33 : z_go zP 127 33 [l0, some (zi a), l2, l3, l4] S q Q ↔ z_go zP 127 34 [l0, some (zi a), l2, l3, l4] (zi a :: S) q Q := ge_x (len := 1) (x := (0, 0, [])) p_127 rfl rfl
theorem g127_34 : z_go zP 127 34 L (zi a :: .ref u :: S) q Q ↔ ∃ v, z_at [99, 100] q.1 u (Int32.ofInt a) = some v ∧ z_go zP 127 35 L (v :: S) q Q := ge_iald (len := 1) (x := (0, 0, [])) p_127 rfl
theorem g127_35 : z_go zP 127 35 [l0, l1, l2, l3, l4] (zi a :: S) q Q ↔ z_go zP 127 36 [l0, l1, (zkl l2), some (zi a), l4] S q Q := (by cases l2 with | none => exact ge_x (len := 1) (x := (0, 0, [])) p_127 rfl rfl | some v => cases v <;> exact ge_x (len := 1) (x := (0, 0, [])) p_127 rfl rfl)
theorem g127_36 : z_go zP 127 36 [some (.ref u), l1, l2, l3, l4] S q Q ↔ z_go zP 127 37 [some (.ref u), l1, l2, l3, l4] (.ref u :: S) q Q := ge_x (len := 1) (x := (0, 0, [])) p_127 rfl rfl
theorem g127_37 : z_go zP 127 37 L (.ref u :: S) q Q ↔ ∃ v, z_get [9] 22 q.1 u = some v ∧ z_go zP 127 40 L (v :: S) q Q := ge_getf (len := 3) (x := (22, 0, [9])) p_127 rfl
theorem g127_40 : z_go zP 127 40 [l0, some (zi a), l2, l3, l4] S q Q ↔ z_go zP 127 41 [l0, some (zi a), l2, l3, l4] (zi a :: S) q Q := ge_x (len := 1) (x := (0, 0, [])) p_127 rfl rfl
theorem g127_41 : z_go zP 127 41 L (zi a :: .ref u :: S) q Q ↔ ∃ v, z_at [102] q.1 u (Int32.ofInt a) = some v ∧ z_go zP 127 42 L (v :: S) q Q := ge_bald (len := 1) (x := (0, 0, [])) p_127 rfl
theorem g127_42 (a1 : -2147483648 ≤ a) (a2 : a < 2147483648) : z_go zP 127 42 L (zi a :: S) q Q ↔ if a = 0 then z_go zP 127 47 L S q Q else z_go zP 127 45 L S q Q := ge_if_eq (len := 3) (x := (0, 0, [])) a1 a2 p_127 rfl rfl
theorem g127_42b {c : Prop} [Decidable c] : z_go zP 127 42 L (zi (bI c) :: S) q Q ↔ if c then z_go zP 127 45 L S q Q else z_go zP 127 47 L S q Q := ge_if_eq_b (len := 3) (x := (0, 0, [])) p_127 rfl rfl
theorem g127_45 : z_go zP 127 45 L S q Q ↔ z_go zP 127 46 L (zi 0 :: S) q Q := ge_x (len := 1) (x := (0, 0, [])) p_127 rfl rfl
theorem g127_46 : z_go zP 127 46 L [zi a] q Q ↔ Q (.inl (some (zi a))) q := ge_rti (len := 1) (x := (0, 0, [])) p_127 rfl rfl
theorem g127_47 : z_go zP 127 47 [some (.ref u), l1, l2, l3, l4] S q Q ↔ z_go zP 127 48 [some (.ref u), l1, l2, l3, l4] (.ref u :: S) q Q := ge_x (len := 1) (x := (0, 0, [])) p_127 rfl rfl
theorem g127_48 : z_go zP 127 48 [l0, some (zi a), l2, l3, l4] S q Q ↔ z_go zP 127 49 [l0, some (zi a), l2, l3, l4] (zi a :: S) q Q := ge_x (len := 1) (x := (0, 0, [])) p_127 rfl rfl
theorem g127_49 : z_go zP 127 49 [l0, l1, l2, some (zi a), l4] S q Q ↔ z_go zP 127 50 [l0, l1, l2, some (zi a), l4] (zi a :: S) q Q := ge_x (len := 1) (x := (0, 0, [])) p_127 rfl rfl
theorem g127_50 : z_go zP 127 50 [l0, l1, some (zi a), l3, l4] S q Q ↔ z_go zP 127 51 [l0, l1, some (zi a), l3, l4] (zi a :: S) q Q := ge_x (len := 1) (x := (0, 0, [])) p_127 rfl rfl
theorem g127_51 : z_go zP 127 51 L (zi b :: zi a :: S) q Q ↔ z_go zP 127 52 L (zi (a + b) :: S) q Q := ge_iadd (len := 1) (x := (0, 0, [])) p_127 rfl
theorem g127_52 : z_go zP 127 52 L [zi x1, zi x0, .ref u] q Q ↔ z_tg q.1 u = some 9 ∧ z_go zP 125 0 [some (.ref u), some (zi x0), some (zi x1), none, none] [] q (zc 127 55 L [] Q) := ge_vc (len := 3) (pc := 52) (S := [zi x1, zi x0, .ref u]) (u := u) (k1 := 125) (A := [.ref u, zi x0, zi x1]) (r := []) (tag := 9) (n0 := 2) (zwb_le (by show 0 ≤ 4; omega)) p_127 rfl rfl rfl p_125 (by show 3 ≤ 5; omega) rfl
theorem g127_55 : z_go zP 127 55 [some (.ref u), l1, l2, l3, l4] S q Q ↔ z_go zP 127 56 [some (.ref u), l1, l2, l3, l4] (.ref u :: S) q Q := ge_x (len := 1) (x := (0, 0, [])) p_127 rfl rfl
theorem g127_56 : z_go zP 127 56 L (.ref u :: S) q Q ↔ ∃ v, z_get [9] 22 q.1 u = some v ∧ z_go zP 127 59 L (v :: S) q Q := ge_getf (len := 3) (x := (22, 0, [9])) p_127 rfl
theorem g127_59 : z_go zP 127 59 [l0, some (zi a), l2, l3, l4] S q Q ↔ z_go zP 127 60 [l0, some (zi a), l2, l3, l4] (zi a :: S) q Q := ge_x (len := 1) (x := (0, 0, [])) p_127 rfl rfl
theorem g127_60 : z_go zP 127 60 L (zi a :: .ref u :: S) q Q ↔ ∃ v, z_at [102] q.1 u (Int32.ofInt a) = some v ∧ z_go zP 127 61 L (v :: S) q Q := ge_bald (len := 1) (x := (0, 0, [])) p_127 rfl
theorem g127_61 (a1 : -2147483648 ≤ a) (a2 : a < 2147483648) : z_go zP 127 61 L (zi a :: S) q Q ↔ if a = 0 then z_go zP 127 100 L S q Q else z_go zP 127 64 L S q Q := ge_if_eq (len := 3) (x := (0, 0, [])) a1 a2 p_127 rfl rfl
theorem g127_61b {c : Prop} [Decidable c] : z_go zP 127 61 L (zi (bI c) :: S) q Q ↔ if c then z_go zP 127 64 L S q Q else z_go zP 127 100 L S q Q := ge_if_eq_b (len := 3) (x := (0, 0, [])) p_127 rfl rfl
theorem g127_64 : z_go zP 127 64 [some (.ref u), l1, l2, l3, l4] S q Q ↔ z_go zP 127 65 [some (.ref u), l1, l2, l3, l4] (.ref u :: S) q Q := ge_x (len := 1) (x := (0, 0, [])) p_127 rfl rfl
theorem g127_65 : z_go zP 127 65 L (.ref u :: S) q Q ↔ ∃ v, z_get [9] 25 q.1 u = some v ∧ z_go zP 127 68 L (v :: S) q Q := ge_getf (len := 3) (x := (25, 0, [9])) p_127 rfl
theorem g127_68 : z_go zP 127 68 L S q Q ↔ z_go zP 127 70 L (zi 16 :: S) q Q := ge_x (len := 2) (x := (0, 0, [])) p_127 rfl rfl
theorem g127_70 : z_go zP 127 70 [l0, some (zi a), l2, l3, l4] S q Q ↔ z_go zP 127 71 [l0, some (zi a), l2, l3, l4] (zi a :: S) q Q := ge_x (len := 1) (x := (0, 0, [])) p_127 rfl rfl
theorem g127_71 : z_go zP 127 71 L (zi b :: zi a :: S) q Q ↔ z_go zP 127 72 L (zi (a * b) :: S) q Q := ge_imul (len := 1) (x := (0, 0, [])) p_127 rfl
theorem g127_72 : z_go zP 127 72 [some (.ref u), l1, l2, l3, l4] S q Q ↔ z_go zP 127 73 [some (.ref u), l1, l2, l3, l4] (.ref u :: S) q Q := ge_x (len := 1) (x := (0, 0, [])) p_127 rfl rfl
theorem g127_73 : z_go zP 127 73 L (.ref u :: S) q Q ↔ ∃ v, z_get [9] 21 q.1 u = some v ∧ z_go zP 127 76 L (v :: S) q Q := ge_getf (len := 3) (x := (21, 0, [9])) p_127 rfl
theorem g127_76 : z_go zP 127 76 [l0, some (zi a), l2, l3, l4] S q Q ↔ z_go zP 127 77 [l0, some (zi a), l2, l3, l4] (zi a :: S) q Q := ge_x (len := 1) (x := (0, 0, [])) p_127 rfl rfl
theorem g127_77 : z_go zP 127 77 L (zi a :: .ref u :: S) q Q ↔ ∃ v, z_at [99, 100] q.1 u (Int32.ofInt a) = some v ∧ z_go zP 127 78 L (v :: S) q Q := ge_iald (len := 1) (x := (0, 0, [])) p_127 rfl
theorem g127_78 : z_go zP 127 78 L S q Q ↔ z_go zP 127 79 L (zi 1 :: S) q Q := ge_x (len := 1) (x := (0, 0, [])) p_127 rfl rfl
theorem g127_79 : z_go zP 127 79 L (zi b :: zi a :: S) q Q ↔ z_go zP 127 80 L (zi (a - b) :: S) q Q := ge_isub (len := 1) (x := (0, 0, [])) p_127 rfl
theorem g127_80 : z_go zP 127 80 L S q Q ↔ z_go zP 127 82 L (zi 16 :: S) q Q := ge_x (len := 2) (x := (0, 0, [])) p_127 rfl rfl
theorem g127_82 (a1 : -2147483648 ≤ a) (a2 : a < 2147483648) (b1 : 0 < b) (b2 : b < 2147483648) : z_go zP 127 82 L (zi b :: zi a :: S) q Q ↔ z_go zP 127 83 L (zi (a.tmod b) :: S) q Q := ge_irem (len := 1) (x := (0, 0, [])) a1 a2 b1 b2 p_127 rfl
theorem g127_83 : z_go zP 127 83 L (zi b :: zi a :: S) q Q ↔ z_go zP 127 84 L (zi (a + b) :: S) q Q := ge_iadd (len := 1) (x := (0, 0, [])) p_127 rfl
theorem g127_84 : z_go zP 127 84 L (zi a :: .ref u :: S) q Q ↔ ∃ v, z_at [99, 100] q.1 u (Int32.ofInt a) = some v ∧ z_go zP 127 85 L (v :: S) q Q := ge_iald (len := 1) (x := (0, 0, [])) p_127 rfl
theorem g127_85 : z_go zP 127 85 [some (.ref u), l1, l2, l3, l4] S q Q ↔ z_go zP 127 86 [some (.ref u), l1, l2, l3, l4] (.ref u :: S) q Q := ge_x (len := 1) (x := (0, 0, [])) p_127 rfl rfl
theorem g127_86 : z_go zP 127 86 L (.ref u :: S) q Q ↔ ∃ v, z_get [9] 9 q.1 u = some v ∧ z_go zP 127 89 L (v :: S) q Q := ge_getf (len := 3) (x := (9, 0, [9])) p_127 rfl
theorem g127_89 : z_go zP 127 89 [some (.ref u), l1, l2, l3, l4] S q Q ↔ z_go zP 127 90 [some (.ref u), l1, l2, l3, l4] (.ref u :: S) q Q := ge_x (len := 1) (x := (0, 0, [])) p_127 rfl rfl
theorem g127_90 : z_go zP 127 90 L (.ref u :: S) q Q ↔ ∃ v, z_get [9] 5 q.1 u = some v ∧ z_go zP 127 93 L (v :: S) q Q := ge_getf (len := 3) (x := (5, 0, [9])) p_127 rfl
theorem g127_93 : z_go zP 127 93 [l0, some (zi a), l2, l3, l4] S q Q ↔ z_go zP 127 94 [l0, some (zi a), l2, l3, l4] (zi a :: S) q Q := ge_x (len := 1) (x := (0, 0, [])) p_127 rfl rfl
theorem g127_94 : z_go zP 127 94 L (zi a :: .ref u :: S) q Q ↔ ∃ v, z_at [99, 100] q.1 u (Int32.ofInt a) = some v ∧ z_go zP 127 95 L (v :: S) q Q := ge_iald (len := 1) (x := (0, 0, [])) p_127 rfl
theorem g127_95 : z_go zP 127 95 L (zi a :: .ref u :: S) q Q ↔ ∃ v, z_at [99, 100] q.1 u (Int32.ofInt a) = some v ∧ z_go zP 127 96 L (v :: S) q Q := ge_iald (len := 1) (x := (0, 0, [])) p_127 rfl
theorem g127_96 : z_go zP 127 96 L (zi b :: zi a :: S) q Q ↔ z_go zP 127 97 L (zi (a + b) :: S) q Q := ge_iadd (len := 1) (x := (0, 0, [])) p_127 rfl
theorem g127_97 : z_go zP 127 97 L S q Q ↔ z_go zP 127 103 L S q Q := ge_to (len := 3) (x := (0, 0, [])) p_127 rfl rfl rfl
theorem g127_100 : z_go zP 127 100 [l0, l1, l2, some (zi a), l4] S q Q ↔ z_go zP 127 101 [l0, l1, l2, some (zi a), l4] (zi a :: S) q Q := ge_x (len := 1) (x := (0, 0, [])) p_127 rfl rfl
theorem g127_101 : z_go zP 127 101 [l0, l1, some (zi a), l3, l4] S q Q ↔ z_go zP 127 102 [l0, l1, some (zi a), l3, l4] (zi a :: S) q Q := ge_x (len := 1) (x := (0, 0, [])) p_127 rfl rfl
theorem g127_102 : z_go zP 127 102 L (zi b :: zi a :: S) q Q ↔ z_go zP 127 103 L (zi (a + b) :: S) q Q := ge_iadd (len := 1) (x := (0, 0, [])) p_127 rfl
theorem g127_103 : z_go zP 127 103 [l0, l1, l2, l3, l4] (zi a :: S) q Q ↔ z_go zP 127 105 [l0, l1, l2, (zkl l3), some (zi a)] S q Q := (by cases l3 with | none => exact ge_x (len := 2) (x := (0, 0, [])) p_127 rfl rfl | some v => cases v <;> exact ge_x (len := 2) (x := (0, 0, [])) p_127 rfl rfl)
theorem g127_105 : z_go zP 127 105 [some (.ref u), l1, l2, l3, l4] S q Q ↔ z_go zP 127 106 [some (.ref u), l1, l2, l3, l4] (.ref u :: S) q Q := ge_x (len := 1) (x := (0, 0, [])) p_127 rfl rfl
theorem g127_106 : z_go zP 127 106 L (.ref u :: S) q Q ↔ ∃ v, z_get [9] 23 q.1 u = some v ∧ z_go zP 127 109 L (v :: S) q Q := ge_getf (len := 3) (x := (23, 0, [9])) p_127 rfl
theorem g127_109 : z_go zP 127 109 [l0, some (zi a), l2, l3, l4] S q Q ↔ z_go zP 127 110 [l0, some (zi a), l2, l3, l4] (zi a :: S) q Q := ge_x (len := 1) (x := (0, 0, [])) p_127 rfl rfl
theorem g127_110 : z_go zP 127 110 [l0, l1, l2, l3, some (zi a)] S q Q ↔ z_go zP 127 112 [l0, l1, l2, l3, some (zi a)] (zi a :: S) q Q := ge_x (len := 2) (x := (0, 0, [])) p_127 rfl rfl
theorem g127_112 : z_go zP 127 112 L (zi b :: zi a :: .ref u :: S) q Q ↔ ∃ q1, z_st 100 q u (Int32.ofInt a) (zi b) = some q1 ∧ z_go zP 127 113 L S q1 Q := ge_iast (len := 1) (x := (0, 0, [])) p_127 rfl
theorem g127_113 : z_go zP 127 113 [l0, l1, l2, l3, some (zi a)] S q Q ↔ z_go zP 127 115 [l0, l1, l2, l3, some (zi a)] (zi a :: S) q Q := ge_x (len := 2) (x := (0, 0, [])) p_127 rfl rfl
theorem g127_115 : z_go zP 127 115 [l0, l1, l2, some (zi a), l4] S q Q ↔ z_go zP 127 116 [l0, l1, l2, some (zi a), l4] (zi a :: S) q Q := ge_x (len := 1) (x := (0, 0, [])) p_127 rfl rfl
theorem g127_116 : z_go zP 127 116 L (zi b :: zi a :: S) q Q ↔ z_go zP 127 117 L (zi (a - b) :: S) q Q := ge_isub (len := 1) (x := (0, 0, [])) p_127 rfl
theorem g127_117 : z_go zP 127 117 L [zi a] q Q ↔ Q (.inl (some (zi a))) q := ge_rti (len := 1) (x := (0, 0, [])) p_127 rfl rfl
theorem g128_0 : z_go zP 128 0 [some (.ref u), l1, l2] S q Q ↔ z_go zP 128 1 [some (.ref u), l1, l2] (.ref u :: S) q Q := ge_x (len := 1) (x := (0, 0, [])) p_128 rfl rfl
theorem g128_1 : z_go zP 128 1 L S q Q ↔ z_go zP 128 2 L (zi 0 :: S) q Q := ge_x (len := 1) (x := (0, 0, [])) p_128 rfl rfl
theorem g128_2 : z_go zP 128 2 L (v :: .ref u :: S) q Q ↔ ∃ q1, z_put [9] 0 q u v = some q1 ∧ z_go zP 128 5 L S q1 Q := ge_putf (len := 3) (x := (0, 0, [9])) p_128 rfl
theorem g128_5 : z_go zP 128 5 [some (.ref u), l1, l2] S q Q ↔ z_go zP 128 6 [some (.ref u), l1, l2] (.ref u :: S) q Q := ge_x (len := 1) (x := (0, 0, [])) p_128 rfl rfl
theorem g128_6 : z_go zP 128 6 [l0, some (zi a), l2] S q Q ↔ z_go zP 128 7 [l0, some (zi a), l2] (zi a :: S) q Q := ge_x (len := 1) (x := (0, 0, [])) p_128 rfl rfl
theorem g128_7 : z_go zP 128 7 L [zi x0, .ref u] q Q ↔ z_tg q.1 u = some 9 ∧ z_go zP 99 0 [some (.ref u), some (zi x0)] [] q (zc 128 10 L [] Q) := ge_vc (len := 3) (pc := 7) (S := [zi x0, .ref u]) (u := u) (k1 := 99) (A := [.ref u, zi x0]) (r := []) (tag := 9) (n0 := 1) (zwb_le (by show 0 ≤ 4; omega)) p_128 rfl rfl rfl p_99 (by show 2 ≤ 2; omega) rfl
theorem g128_10 (a1 : -2147483648 ≤ a) (a2 : a < 2147483648) : z_go zP 128 10 L (zi a :: S) q Q ↔ if ¬ a = 0 then z_go zP 128 17 L S q Q else z_go zP 128 13 L S q Q := ge_if_ne (len := 3) (x := (0, 0, [])) a1 a2 p_128 rfl rfl
theorem g128_10b {c : Prop} [Decidable c] : z_go zP 128 10 L (zi (bI c) :: S) q Q ↔ if c then z_go zP 128 17 L S q Q else z_go zP 128 13 L S q Q := ge_if_ne_b (len := 3) (x := (0, 0, [])) p_128 rfl rfl
theorem g128_13 : z_go zP 128 13 L S q Q ↔ z_go zP 128 14 L (zi 1 :: S) q Q := ge_x (len := 1) (x := (0, 0, [])) p_128 rfl rfl
theorem g128_14 : z_go zP 128 14 L S q Q ↔ z_go zP 128 42 L S q Q := ge_to (len := 3) (x := (0, 0, [])) p_128 rfl rfl rfl
theorem g128_17 : z_go zP 128 17 [some (.ref u), l1, l2] S q Q ↔ z_go zP 128 18 [some (.ref u), l1, l2] (.ref u :: S) q Q := ge_x (len := 1) (x := (0, 0, [])) p_128 rfl rfl
theorem g128_18 : z_go zP 128 18 L (.ref u :: S) q Q ↔ ∃ v, z_get [9] 3 q.1 u = some v ∧ z_go zP 128 21 L (v :: S) q Q := ge_getf (len := 3) (x := (3, 0, [9])) p_128 rfl
theorem g128_21 : z_go zP 128 21 [l0, some (zi a), l2] S q Q ↔ z_go zP 128 22 [l0, some (zi a), l2] (zi a :: S) q Q := ge_x (len := 1) (x := (0, 0, [])) p_128 rfl rfl
theorem g128_22 : z_go zP 128 22 L (zi a :: .ref u :: S) q Q ↔ ∃ v, z_at [99, 100] q.1 u (Int32.ofInt a) = some v ∧ z_go zP 128 23 L (v :: S) q Q := ge_iald (len := 1) (x := (0, 0, [])) p_128 rfl
theorem g128_23 : z_go zP 128 23 L S q Q ↔ z_go zP 128 24 L (zi 3 :: S) q Q := ge_x (len := 1) (x := (0, 0, [])) p_128 rfl rfl
theorem g128_24 (a1 : -2147483648 ≤ a) (a2 : a < 2147483648) (b1 : -2147483648 ≤ b) (b2 : b < 2147483648) : z_go zP 128 24 L (zi b :: zi a :: S) q Q ↔ if a = b then z_go zP 128 41 L S q Q else z_go zP 128 27 L S q Q := ge_ic_eq (len := 3) (x := (0, 0, [])) a1 a2 b1 b2 p_128 rfl rfl
theorem g128_27 : z_go zP 128 27 [some (.ref u), l1, l2] S q Q ↔ z_go zP 128 28 [some (.ref u), l1, l2] (.ref u :: S) q Q := ge_x (len := 1) (x := (0, 0, [])) p_128 rfl rfl
theorem g128_28 : z_go zP 128 28 L (.ref u :: S) q Q ↔ ∃ v, z_get [9] 3 q.1 u = some v ∧ z_go zP 128 31 L (v :: S) q Q := ge_getf (len := 3) (x := (3, 0, [9])) p_128 rfl
theorem g128_31 : z_go zP 128 31 [l0, some (zi a), l2] S q Q ↔ z_go zP 128 32 [l0, some (zi a), l2] (zi a :: S) q Q := ge_x (len := 1) (x := (0, 0, [])) p_128 rfl rfl
theorem g128_32 : z_go zP 128 32 L (zi a :: .ref u :: S) q Q ↔ ∃ v, z_at [99, 100] q.1 u (Int32.ofInt a) = some v ∧ z_go zP 128 33 L (v :: S) q Q := ge_iald (len := 1) (x := (0, 0, [])) p_128 rfl
theorem g128_33 : z_go zP 128 33 L S q Q ↔ z_go zP 128 34 L (zi 5 :: S) q Q := ge_x (len := 1) (x := (0, 0, [])) p_128 rfl rfl
theorem g128_34 (a1 : -2147483648 ≤ a) (a2 : a < 2147483648) (b1 : -2147483648 ≤ b) (b2 : b < 2147483648) : z_go zP 128 34 L (zi b :: zi a :: S) q Q ↔ if a = b then z_go zP 128 41 L S q Q else z_go zP 128 37 L S q Q := ge_ic_eq (len := 3) (x := (0, 0, [])) a1 a2 b1 b2 p_128 rfl rfl
theorem g128_37 : z_go zP 128 37 L S q Q ↔ z_go zP 128 38 L (zi 2 :: S) q Q := ge_x (len := 1) (x := (0, 0, [])) p_128 rfl rfl
theorem g128_38 : z_go zP 128 38 L S q Q ↔ z_go zP 128 42 L S q Q := ge_to (len := 3) (x := (0, 0, [])) p_128 rfl rfl rfl
theorem g128_41 : z_go zP 128 41 L S q Q ↔ z_go zP 128 42 L (zi 0 :: S) q Q := ge_x (len := 1) (x := (0, 0, [])) p_128 rfl rfl
theorem g128_42 : z_go zP 128 42 [l0, l1, l2] (zi a :: S) q Q ↔ z_go zP 128 43 [l0, (zkl l1), some (zi a)] S q Q := (by cases l1 with | none => exact ge_x (len := 1) (x := (0, 0, [])) p_128 rfl rfl | some v => cases v <;> exact ge_x (len := 1) (x := (0, 0, [])) p_128 rfl rfl)
theorem g128_43 : z_go zP 128 43 [l0, l1, some (zi a)] S q Q ↔ z_go zP 128 44 [l0, l1, some (zi a)] (zi a :: S) q Q := ge_x (len := 1) (x := (0, 0, [])) p_128 rfl rfl
theorem g128_44 (a1 : -2147483648 ≤ a) (a2 : a < 2147483648) : z_go zP 128 44 L (zi a :: S) q Q ↔ if a ≤ 0 then z_go zP 128 54 L S q Q else z_go zP 128 47 L S q Q := ge_if_le (len := 3) (x := (0, 0, [])) a1 a2 p_128 rfl rfl
theorem g128_47 : z_go zP 128 47 [some (.ref u), l1, l2] S q Q ↔ z_go zP 128 48 [some (.ref u), l1, l2] (.ref u :: S) q Q := ge_x (len := 1) (x := (0, 0, [])) p_128 rfl rfl
theorem g128_48 : z_go zP 128 48 [l0, l1, some (zi a)] S q Q ↔ z_go zP 128 49 [l0, l1, some (zi a)] (zi a :: S) q Q := ge_x (len := 1) (x := (0, 0, [])) p_128 rfl rfl
theorem g128_49 : z_go zP 128 49 L S q Q ↔ z_go zP 128 50 L (zi 1 :: S) q Q := ge_x (len := 1) (x := (0, 0, [])) p_128 rfl rfl
theorem g128_50 : z_go zP 128 50 L [zi x1, zi x0, .ref u] q Q ↔ z_tg q.1 u = some 9 ∧ z_go zP 98 0 [some (.ref u), some (zi x0), some (zi x1)] [] q (zc 128 53 L [] Q) := ge_vc (len := 3) (pc := 50) (S := [zi x1, zi x0, .ref u]) (u := u) (k1 := 98) (A := [.ref u, zi x0, zi x1]) (r := []) (tag := 9) (n0 := 2) (zwb_le (by show 0 ≤ 4; omega)) p_128 rfl rfl rfl p_98 (by show 3 ≤ 3; omega) rfl
theorem g128_53 : z_go zP 128 53 L (zi a :: S) q Q ↔ z_go zP 128 54 L S q Q := ge_x (len := 1) (x := (0, 0, [])) p_128 rfl rfl
theorem g128_53r : z_go zP 128 53 L (.ref u :: S) q Q ↔ z_go zP 128 54 L S q Q := ge_x (len := 1) (x := (0, 0, [])) p_128 rfl rfl
theorem g128_54 : z_go zP 128 54 [l0, l1, some (zi a)] S q Q ↔ z_go zP 128 55 [l0, l1, some (zi a)] (zi a :: S) q Q := ge_x (len := 1) (x := (0, 0, [])) p_128 rfl rfl
theorem g128_55 (a1 : -2147483648 ≤ a) (a2 : a < 2147483648) : z_go zP 128 55 L (zi a :: S) q Q ↔ if ¬ a = 0 then z_go zP 128 62 L S q Q else z_go zP 128 58 L S q Q := ge_if_ne (len := 3) (x := (0, 0, [])) a1 a2 p_128 rfl rfl
theorem g128_55b {c : Prop} [Decidable c] : z_go zP 128 55 L (zi (bI c) :: S) q Q ↔ if c then z_go zP 128 62 L S q Q else z_go zP 128 58 L S q Q := ge_if_ne_b (len := 3) (x := (0, 0, [])) p_128 rfl rfl
theorem g128_58 : z_go zP 128 58 L S q Q ↔ z_go zP 128 59 L (zi 1 :: S) q Q := ge_x (len := 1) (x := (0, 0, [])) p_128 rfl rfl
theorem g128_59 : z_go zP 128 59 L S q Q ↔ z_go zP 128 63 L S q Q := ge_to (len := 3) (x := (0, 0, [])) p_128 rfl rfl rfl
theorem g128_62 : z_go zP 128 62 L S q Q ↔ z_go zP 128 63 L (zi 0 :: S) q Q := ge_x (len := 1) (x := (0, 0, [])) p_128 rfl rfl
theorem g128_63_0 : z_go zP 128 63 L [zi 0] q Q ↔ Q (.inl (some (zi 0))) q := z_go_rt (len := 1) (x := (0, 0, [])) p_128 rfl rfl rfl
theorem g128_63_1 : z_go zP 128 63 L [zi 1] q Q ↔ Q (.inl (some (zi 1))) q := z_go_rt (len := 1) (x := (0, 0, [])) p_128 rfl rfl rfl
theorem g128_63b {c : Prop} [Decidable c] : z_go zP 128 63 L [zi (bI c)] q Q ↔ Q (.inl (some (zi (bI c)))) q := (by rcases bI_01 (c := c) with h | h <;> rw [h] <;> exact z_go_rt (len := 1) (x := (0, 0, [])) p_128 rfl rfl rfl)
theorem g129_0 : z_go zP 129 0 [some (.ref u), l1, l2] S q Q ↔ z_go zP 129 1 [some (.ref u), l1, l2] (.ref u :: S) q Q := ge_x (len := 1) (x := (0, 0, [])) p_129 rfl rfl
theorem g129_1 : z_go zP 129 1 [l0, some (zi a), l2] S q Q ↔ z_go zP 129 2 [l0, some (zi a), l2] (zi a :: S) q Q := ge_x (len := 1) (x := (0, 0, [])) p_129 rfl rfl
theorem g129_2 : z_go zP 129 2 L [zi x0, .ref u] q Q ↔ z_tg q.1 u = some 9 ∧ z_go zP 128 0 [some (.ref u), some (zi x0), none] [] q (zc 129 5 L [] Q) := ge_vc (len := 3) (pc := 2) (S := [zi x0, .ref u]) (u := u) (k1 := 128) (A := [.ref u, zi x0]) (r := []) (tag := 9) (n0 := 1) (zwb_le (by show 0 ≤ 4; omega)) p_129 rfl rfl rfl p_128 (by show 2 ≤ 3; omega) rfl
theorem g129_5 (a1 : -2147483648 ≤ a) (a2 : a < 2147483648) : z_go zP 129 5 L (zi a :: S) q Q ↔ if ¬ a = 0 then z_go zP 129 10 L S q Q else z_go zP 129 8 L S q Q := ge_if_ne (len := 3) (x := (0, 0, [])) a1 a2 p_129 rfl rfl
theorem g129_5b {c : Prop} [Decidable c] : z_go zP 129 5 L (zi (bI c) :: S) q Q ↔ if c then z_go zP 129 10 L S q Q else z_go zP 129 8 L S q Q := ge_if_ne_b (len := 3) (x := (0, 0, [])) p_129 rfl rfl
theorem g129_8 : z_go zP 129 8 L S q Q ↔ z_go zP 129 9 L (zi 0 :: S) q Q := ge_x (len := 1) (x := (0, 0, [])) p_129 rfl rfl
theorem g129_9 : z_go zP 129 9 L [zi a] q Q ↔ Q (.inl (some (zi a))) q := ge_rti (len := 1) (x := (0, 0, [])) p_129 rfl rfl
theorem g129_10 : z_go zP 129 10 [l0, l1, some (zi a)] S q Q ↔ z_go zP 129 11 [l0, l1, some (zi a)] (zi a :: S) q Q := ge_x (len := 1) (x := (0, 0, [])) p_129 rfl rfl
theorem g129_11 : z_go zP 129 11 L S q Q ↔ z_go zP 129 12 L (zi 0 :: S) q Q := ge_x (len := 1) (x := (0, 0, [])) p_129 rfl rfl
theorem g129_12 : z_go zP 129 12 [some (.ref u), l1, l2] S q Q ↔ z_go zP 129 13 [some (.ref u), l1, l2] (.ref u :: S) q Q := ge_x (len := 1) (x := (0, 0, [])) p_129 rfl rfl
theorem g129_13 : z_go zP 129 13 L (.ref u :: S) q Q ↔ ∃ v, z_get [9] 3 q.1 u = some v ∧ z_go zP 129 16 L (v :: S) q Q := ge_getf (len := 3) (x := (3, 0, [9])) p_129 rfl
theorem g129_16 : z_go zP 129 16 [l0, some (zi a), l2] S q Q ↔ z_go zP 129 17 [l0, some (zi a), l2] (zi a :: S) q Q := ge_x (len := 1) (x := (0, 0, [])) p_129 rfl rfl
theorem g129_17 : z_go zP 129 17 L (zi a :: .ref u :: S) q Q ↔ ∃ v, z_at [99, 100] q.1 u (Int32.ofInt a) = some v ∧ z_go zP 129 18 L (v :: S) q Q := ge_iald (len := 1) (x := (0, 0, [])) p_129 rfl
theorem g129_18 : z_go zP 129 18 L S q Q ↔ z_go zP 129 19 L (zi 3 :: S) q Q := ge_x (len := 1) (x := (0, 0, [])) p_129 rfl rfl
theorem g129_19 (a1 : -2147483648 ≤ a) (a2 : a < 2147483648) (b1 : -2147483648 ≤ b) (b2 : b < 2147483648) : z_go zP 129 19 L (zi b :: zi a :: S) q Q ↔ if ¬ a = b then z_go zP 129 26 L S q Q else z_go zP 129 22 L S q Q := ge_ic_ne (len := 3) (x := (0, 0, [])) a1 a2 b1 b2 p_129 rfl rfl
theorem g129_22 : z_go zP 129 22 L S q Q ↔ z_go zP 129 23 L (zi 1 :: S) q Q := ge_x (len := 1) (x := (0, 0, [])) p_129 rfl rfl
theorem g129_23 : z_go zP 129 23 L S q Q ↔ z_go zP 129 27 L S q Q := ge_to (len := 3) (x := (0, 0, [])) p_129 rfl rfl rfl
theorem g129_26 : z_go zP 129 26 L S q Q ↔ z_go zP 129 27 L (zi 5 :: S) q Q := ge_x (len := 1) (x := (0, 0, [])) p_129 rfl rfl
theorem g129_27 : z_go zP 129 27 L [zi x2, zi x1, zi x0] q Q ↔ z_go zP 97 0 [some (zi x0), some (zi x1), some (zi x2)] [] q (zd 129 30 L [] Q) := (z_go_cl (len := 3) (x := (97, 2, [3])) (k1 := 97) (A := [zi x0, zi x1, zi x2]) (r := []) p_129 rfl rfl rfl rfl (by simp only [z_cl, List.drop]; rw [if_pos]; rfl; exact by first | exact ⟨by decide, (zwb_le (by show 0 ≤ 4; omega))⟩ | exact ⟨by decide, by show 3 ≤ 3; omega, (zwb_le (by show 0 ≤ 4; omega))⟩) p_97 (by show 3 ≤ 3; omega)).trans (ge_bk_d rfl)
theorem g129_30 (a1 : -2147483648 ≤ a) (a2 : a < 2147483648) : z_go zP 129 30 L (zi a :: S) q Q ↔ if ¬ a = 0 then z_go zP 129 39 L S q Q else z_go zP 129 33 L S q Q := ge_if_ne (len := 3) (x := (0, 0, [])) a1 a2 p_129 rfl rfl
theorem g129_30b {c : Prop} [Decidable c] : z_go zP 129 30 L (zi (bI c) :: S) q Q ↔ if c then z_go zP 129 39 L S q Q else z_go zP 129 33 L S q Q := ge_if_ne_b (len := 3) (x := (0, 0, [])) p_129 rfl rfl
theorem g129_33 : z_go zP 129 33 [some (.ref u), l1, l2] S q Q ↔ z_go zP 129 34 [some (.ref u), l1, l2] (.ref u :: S) q Q := ge_x (len := 1) (x := (0, 0, [])) p_129 rfl rfl
theorem g129_34 : z_go zP 129 34 L S q Q ↔ z_go zP 129 35 L (zi 2 :: S) q Q := ge_x (len := 1) (x := (0, 0, [])) p_129 rfl rfl
theorem g129_35 : z_go zP 129 35 L [zi x0, .ref u] q Q ↔ z_tg q.1 u = some 9 ∧ z_go zP 96 0 [some (.ref u), some (zi x0)] [] q (zc 129 38 L [] Q) := ge_vc (len := 3) (pc := 35) (S := [zi x0, .ref u]) (u := u) (k1 := 96) (A := [.ref u, zi x0]) (r := []) (tag := 9) (n0 := 1) (zwb_le (by show 0 ≤ 4; omega)) p_129 rfl rfl rfl p_96 (by show 2 ≤ 2; omega) rfl
theorem g129_38 : z_go zP 129 38 L [zi a] q Q ↔ Q (.inl (some (zi a))) q := ge_rti (len := 1) (x := (0, 0, [])) p_129 rfl rfl
theorem g129_39 : z_go zP 129 39 [l0, l1, some (zi a)] S q Q ↔ z_go zP 129 40 [l0, l1, some (zi a)] (zi a :: S) q Q := ge_x (len := 1) (x := (0, 0, [])) p_129 rfl rfl
theorem g129_40_0 : z_go zP 129 40 L (zi 0 :: S) q Q ↔ z_go zP 129 76 L S q Q := ge_to (len := 36) (x := (0, 0, [])) (o := 36) p_129 rfl rfl (by unfold zi; simp only [z_nx]; rw [i_to (by decide) (by decide), if_neg (by decide)]; rfl)
theorem g129_40_1 : z_go zP 129 40 L (zi 1 :: S) q Q ↔ z_go zP 129 83 L S q Q := ge_to (len := 36) (x := (0, 0, [])) (o := 43) p_129 rfl rfl (by unfold zi; simp only [z_nx]; rw [i_to (by decide) (by decide), if_neg (by decide)]; rfl)
theorem g129_40_2 : z_go zP 129 40 L (zi 2 :: S) q Q ↔ z_go zP 129 98 L S q Q := ge_to (len := 36) (x := (0, 0, [])) (o := 58) p_129 rfl rfl (by unfold zi; simp only [z_nx]; rw [i_to (by decide) (by decide), if_neg (by decide)]; rfl)
theorem g129_40_3 : z_go zP 129 40 L (zi 3 :: S) q Q ↔ z_go zP 129 105 L S q Q := ge_to (len := 36) (x := (0, 0, [])) (o := 65) p_129 rfl rfl (by unfold zi; simp only [z_nx]; rw [i_to (by decide) (by decide), if_neg (by decide)]; rfl)
theorem g129_40_4 : z_go zP 129 40 L (zi 4 :: S) q Q ↔ z_go zP 129 115 L S q Q := ge_to (len := 36) (x := (0, 0, [])) (o := 75) p_129 rfl rfl (by unfold zi; simp only [z_nx]; rw [i_to (by decide) (by decide), if_neg (by decide)]; rfl)
theorem g129_40_d (a1 : -2147483648 ≤ a) (a2 : a < 2147483648) (h : a < 0 ∨ 4 < a) : z_go zP 129 40 L (zi a :: S) q Q ↔ z_go zP 129 122 L S q Q := ge_to (len := 36) (x := (0, 0, [])) p_129 rfl rfl (by unfold zi; show (if _ ∨ _ then _ else _) = _; rw [i_to a1 a2, if_pos h])
theorem g129_76 : z_go zP 129 76 [some (.ref u), l1, l2] S q Q ↔ z_go zP 129 77 [some (.ref u), l1, l2] (.ref u :: S) q Q := ge_x (len := 1) (x := (0, 0, [])) p_129 rfl rfl
theorem g129_77 : z_go zP 129 77 L (.ref u :: S) q Q ↔ ∃ v, z_get [9] 21 q.1 u = some v ∧ z_go zP 129 80 L (v :: S) q Q := ge_getf (len := 3) (x := (21, 0, [9])) p_129 rfl
theorem g129_80 : z_go zP 129 80 [l0, some (zi a), l2] S q Q ↔ z_go zP 129 81 [l0, some (zi a), l2] (zi a :: S) q Q := ge_x (len := 1) (x := (0, 0, [])) p_129 rfl rfl
theorem g129_81 : z_go zP 129 81 L (zi a :: .ref u :: S) q Q ↔ ∃ v, z_at [99, 100] q.1 u (Int32.ofInt a) = some v ∧ z_go zP 129 82 L (v :: S) q Q := ge_iald (len := 1) (x := (0, 0, [])) p_129 rfl
theorem g129_82 : z_go zP 129 82 L [zi a] q Q ↔ Q (.inl (some (zi a))) q := ge_rti (len := 1) (x := (0, 0, [])) p_129 rfl rfl
theorem g129_83 : z_go zP 129 83 [some (.ref u), l1, l2] S q Q ↔ z_go zP 129 84 [some (.ref u), l1, l2] (.ref u :: S) q Q := ge_x (len := 1) (x := (0, 0, [])) p_129 rfl rfl
theorem g129_84 : z_go zP 129 84 L (.ref u :: S) q Q ↔ ∃ v, z_get [9] 22 q.1 u = some v ∧ z_go zP 129 87 L (v :: S) q Q := ge_getf (len := 3) (x := (22, 0, [9])) p_129 rfl
theorem g129_87 : z_go zP 129 87 [l0, some (zi a), l2] S q Q ↔ z_go zP 129 88 [l0, some (zi a), l2] (zi a :: S) q Q := ge_x (len := 1) (x := (0, 0, [])) p_129 rfl rfl
theorem g129_88 : z_go zP 129 88 L (zi a :: .ref u :: S) q Q ↔ ∃ v, z_at [102] q.1 u (Int32.ofInt a) = some v ∧ z_go zP 129 89 L (v :: S) q Q := ge_bald (len := 1) (x := (0, 0, [])) p_129 rfl
theorem g129_89 (a1 : -2147483648 ≤ a) (a2 : a < 2147483648) : z_go zP 129 89 L (zi a :: S) q Q ↔ if a = 0 then z_go zP 129 96 L S q Q else z_go zP 129 92 L S q Q := ge_if_eq (len := 3) (x := (0, 0, [])) a1 a2 p_129 rfl rfl
theorem g129_89b {c : Prop} [Decidable c] : z_go zP 129 89 L (zi (bI c) :: S) q Q ↔ if c then z_go zP 129 92 L S q Q else z_go zP 129 96 L S q Q := ge_if_eq_b (len := 3) (x := (0, 0, [])) p_129 rfl rfl
theorem g129_92 : z_go zP 129 92 L S q Q ↔ z_go zP 129 93 L (zi 1 :: S) q Q := ge_x (len := 1) (x := (0, 0, [])) p_129 rfl rfl
theorem g129_93 : z_go zP 129 93 L S q Q ↔ z_go zP 129 97 L S q Q := ge_to (len := 3) (x := (0, 0, [])) p_129 rfl rfl rfl
theorem g129_96 : z_go zP 129 96 L S q Q ↔ z_go zP 129 97 L (zi 0 :: S) q Q := ge_x (len := 1) (x := (0, 0, [])) p_129 rfl rfl
theorem g129_97 : z_go zP 129 97 L [zi a] q Q ↔ Q (.inl (some (zi a))) q := ge_rti (len := 1) (x := (0, 0, [])) p_129 rfl rfl
theorem g129_98 : z_go zP 129 98 [some (.ref u), l1, l2] S q Q ↔ z_go zP 129 99 [some (.ref u), l1, l2] (.ref u :: S) q Q := ge_x (len := 1) (x := (0, 0, [])) p_129 rfl rfl
theorem g129_99 : z_go zP 129 99 L (.ref u :: S) q Q ↔ ∃ v, z_get [9] 23 q.1 u = some v ∧ z_go zP 129 102 L (v :: S) q Q := ge_getf (len := 3) (x := (23, 0, [9])) p_129 rfl
theorem g129_102 : z_go zP 129 102 [l0, some (zi a), l2] S q Q ↔ z_go zP 129 103 [l0, some (zi a), l2] (zi a :: S) q Q := ge_x (len := 1) (x := (0, 0, [])) p_129 rfl rfl
theorem g129_103 : z_go zP 129 103 L (zi a :: .ref u :: S) q Q ↔ ∃ v, z_at [99, 100] q.1 u (Int32.ofInt a) = some v ∧ z_go zP 129 104 L (v :: S) q Q := ge_iald (len := 1) (x := (0, 0, [])) p_129 rfl
theorem g129_104 : z_go zP 129 104 L [zi a] q Q ↔ Q (.inl (some (zi a))) q := ge_rti (len := 1) (x := (0, 0, [])) p_129 rfl rfl
theorem g129_105 : z_go zP 129 105 [some (.ref u), l1, l2] S q Q ↔ z_go zP 129 106 [some (.ref u), l1, l2] (.ref u :: S) q Q := ge_x (len := 1) (x := (0, 0, [])) p_129 rfl rfl
theorem g129_106 : z_go zP 129 106 L (.ref u :: S) q Q ↔ ∃ v, z_get [9] 21 q.1 u = some v ∧ z_go zP 129 109 L (v :: S) q Q := ge_getf (len := 3) (x := (21, 0, [9])) p_129 rfl
theorem g129_109 : z_go zP 129 109 L S q Q ↔ z_go zP 129 111 L (zi 61 :: S) q Q := ge_x (len := 2) (x := (0, 0, [])) p_129 rfl rfl
theorem g129_111 : z_go zP 129 111 [l0, some (zi a), l2] S q Q ↔ z_go zP 129 112 [l0, some (zi a), l2] (zi a :: S) q Q := ge_x (len := 1) (x := (0, 0, [])) p_129 rfl rfl
theorem g129_112 : z_go zP 129 112 L (zi b :: zi a :: S) q Q ↔ z_go zP 129 113 L (zi (a + b) :: S) q Q := ge_iadd (len := 1) (x := (0, 0, [])) p_129 rfl
theorem g129_113 : z_go zP 129 113 L (zi a :: .ref u :: S) q Q ↔ ∃ v, z_at [99, 100] q.1 u (Int32.ofInt a) = some v ∧ z_go zP 129 114 L (v :: S) q Q := ge_iald (len := 1) (x := (0, 0, [])) p_129 rfl
theorem g129_114 : z_go zP 129 114 L [zi a] q Q ↔ Q (.inl (some (zi a))) q := ge_rti (len := 1) (x := (0, 0, [])) p_129 rfl rfl
theorem g129_115 : z_go zP 129 115 [some (.ref u), l1, l2] S q Q ↔ z_go zP 129 116 [some (.ref u), l1, l2] (.ref u :: S) q Q := ge_x (len := 1) (x := (0, 0, [])) p_129 rfl rfl
theorem g129_116 : z_go zP 129 116 L (.ref u :: S) q Q ↔ ∃ v, z_get [9] 28 q.1 u = some v ∧ z_go zP 129 119 L (v :: S) q Q := ge_getf (len := 3) (x := (28, 0, [9])) p_129 rfl
theorem g129_119 : z_go zP 129 119 [l0, some (zi a), l2] S q Q ↔ z_go zP 129 120 [l0, some (zi a), l2] (zi a :: S) q Q := ge_x (len := 1) (x := (0, 0, [])) p_129 rfl rfl
theorem g129_120 : z_go zP 129 120 L (zi a :: .ref u :: S) q Q ↔ ∃ v, z_at [99, 100] q.1 u (Int32.ofInt a) = some v ∧ z_go zP 129 121 L (v :: S) q Q := ge_iald (len := 1) (x := (0, 0, [])) p_129 rfl
theorem g129_121 : z_go zP 129 121 L [zi a] q Q ↔ Q (.inl (some (zi a))) q := ge_rti (len := 1) (x := (0, 0, [])) p_129 rfl rfl
theorem g129_122 : z_go zP 129 122 [some (.ref u), l1, l2] S q Q ↔ z_go zP 129 123 [some (.ref u), l1, l2] (.ref u :: S) q Q := ge_x (len := 1) (x := (0, 0, [])) p_129 rfl rfl
theorem g129_123 : z_go zP 129 123 L (.ref u :: S) q Q ↔ ∃ v, z_get [9] 29 q.1 u = some v ∧ z_go zP 129 126 L (v :: S) q Q := ge_getf (len := 3) (x := (29, 0, [9])) p_129 rfl
theorem g129_126 : z_go zP 129 126 [l0, some (zi a), l2] S q Q ↔ z_go zP 129 127 [l0, some (zi a), l2] (zi a :: S) q Q := ge_x (len := 1) (x := (0, 0, [])) p_129 rfl rfl
theorem g129_127 : z_go zP 129 127 L (zi a :: .ref u :: S) q Q ↔ ∃ v, z_at [99, 100] q.1 u (Int32.ofInt a) = some v ∧ z_go zP 129 128 L (v :: S) q Q := ge_iald (len := 1) (x := (0, 0, [])) p_129 rfl
theorem g129_128 : z_go zP 129 128 L [zi a] q Q ↔ Q (.inl (some (zi a))) q := ge_rti (len := 1) (x := (0, 0, [])) p_129 rfl rfl
theorem g130_0 : z_go zP 130 0 [some (.ref u), l1] S q Q ↔ z_go zP 130 1 [some (.ref u), l1] (.ref u :: S) q Q := ge_x (len := 1) (x := (0, 0, [])) p_130 rfl rfl
theorem g130_1 : z_go zP 130 1 L (.ref u :: S) q Q ↔ ∃ v, z_get [9] 3 q.1 u = some v ∧ z_go zP 130 4 L (v :: S) q Q := ge_getf (len := 3) (x := (3, 0, [9])) p_130 rfl
theorem g130_4 : z_go zP 130 4 [l0, some (zi a)] S q Q ↔ z_go zP 130 5 [l0, some (zi a)] (zi a :: S) q Q := ge_x (len := 1) (x := (0, 0, [])) p_130 rfl rfl
theorem g130_5 : z_go zP 130 5 L (zi a :: .ref u :: S) q Q ↔ ∃ v, z_at [99, 100] q.1 u (Int32.ofInt a) = some v ∧ z_go zP 130 6 L (v :: S) q Q := ge_iald (len := 1) (x := (0, 0, [])) p_130 rfl
theorem g130_6 : z_go zP 130 6 L S q Q ↔ z_go zP 130 7 L (zi 3 :: S) q Q := ge_x (len := 1) (x := (0, 0, [])) p_130 rfl rfl
theorem g130_7 (a1 : -2147483648 ≤ a) (a2 : a < 2147483648) (b1 : -2147483648 ≤ b) (b2 : b < 2147483648) : z_go zP 130 7 L (zi b :: zi a :: S) q Q ↔ if ¬ a = b then z_go zP 130 19 L S q Q else z_go zP 130 10 L S q Q := ge_ic_ne (len := 3) (x := (0, 0, [])) a1 a2 b1 b2 p_130 rfl rfl
theorem g130_10 : z_go zP 130 10 [some (.ref u), l1] S q Q ↔ z_go zP 130 11 [some (.ref u), l1] (.ref u :: S) q Q := ge_x (len := 1) (x := (0, 0, [])) p_130 rfl rfl
theorem g130_11 : z_go zP 130 11 L (.ref u :: S) q Q ↔ ∃ v, z_get [9] 5 q.1 u = some v ∧ z_go zP 130 14 L (v :: S) q Q := ge_getf (len := 3) (x := (5, 0, [9])) p_130 rfl
theorem g130_14 : z_go zP 130 14 [l0, some (zi a)] S q Q ↔ z_go zP 130 15 [l0, some (zi a)] (zi a :: S) q Q := ge_x (len := 1) (x := (0, 0, [])) p_130 rfl rfl
theorem g130_15 : z_go zP 130 15 L (zi a :: .ref u :: S) q Q ↔ ∃ v, z_at [99, 100] q.1 u (Int32.ofInt a) = some v ∧ z_go zP 130 16 L (v :: S) q Q := ge_iald (len := 1) (x := (0, 0, [])) p_130 rfl
theorem g130_16 : z_go zP 130 16 L S q Q ↔ z_go zP 130 25 L S q Q := ge_to (len := 3) (x := (0, 0, [])) p_130 rfl rfl rfl
theorem g130_19 : z_go zP 130 19 [some (.ref u), l1] S q Q ↔ z_go zP 130 20 [some (.ref u), l1] (.ref u :: S) q Q := ge_x (len := 1) (x := (0, 0, [])) p_130 rfl rfl
theorem g130_20 : z_go zP 130 20 L (.ref u :: S) q Q ↔ ∃ v, z_get [9] 6 q.1 u = some v ∧ z_go zP 130 23 L (v :: S) q Q := ge_getf (len := 3) (x := (6, 0, [9])) p_130 rfl
theorem g130_23 : z_go zP 130 23 [l0, some (zi a)] S q Q ↔ z_go zP 130 24 [l0, some (zi a)] (zi a :: S) q Q := ge_x (len := 1) (x := (0, 0, [])) p_130 rfl rfl
theorem g130_24 : z_go zP 130 24 L (zi a :: .ref u :: S) q Q ↔ ∃ v, z_at [99, 100] q.1 u (Int32.ofInt a) = some v ∧ z_go zP 130 25 L (v :: S) q Q := ge_iald (len := 1) (x := (0, 0, [])) p_130 rfl
theorem g130_25 : z_go zP 130 25 L [zi a] q Q ↔ Q (.inl (some (zi a))) q := ge_rti (len := 1) (x := (0, 0, [])) p_130 rfl rfl
theorem g131_0 : z_go zP 131 0 [some (.ref u), l1, l2] S q Q ↔ z_go zP 131 1 [some (.ref u), l1, l2] (.ref u :: S) q Q := ge_x (len := 1) (x := (0, 0, [])) p_131 rfl rfl
theorem g131_1 : z_go zP 131 1 [l0, some (zi a), l2] S q Q ↔ z_go zP 131 2 [l0, some (zi a), l2] (zi a :: S) q Q := ge_x (len := 1) (x := (0, 0, [])) p_131 rfl rfl
theorem g131_2 : z_go zP 131 2 L [zi x0, .ref u] q Q ↔ z_tg q.1 u = some 9 ∧ z_go zP 128 0 [some (.ref u), some (zi x0), none] [] q (zc 131 5 L [] Q) := ge_vc (len := 3) (pc := 2) (S := [zi x0, .ref u]) (u := u) (k1 := 128) (A := [.ref u, zi x0]) (r := []) (tag := 9) (n0 := 1) (zwb_le (by show 0 ≤ 4; omega)) p_131 rfl rfl rfl p_128 (by show 2 ≤ 3; omega) rfl
theorem g131_5 (a1 : -2147483648 ≤ a) (a2 : a < 2147483648) : z_go zP 131 5 L (zi a :: S) q Q ↔ if ¬ a = 0 then z_go zP 131 10 L S q Q else z_go zP 131 8 L S q Q := ge_if_ne (len := 3) (x := (0, 0, [])) a1 a2 p_131 rfl rfl
theorem g131_5b {c : Prop} [Decidable c] : z_go zP 131 5 L (zi (bI c) :: S) q Q ↔ if c then z_go zP 131 10 L S q Q else z_go zP 131 8 L S q Q := ge_if_ne_b (len := 3) (x := (0, 0, [])) p_131 rfl rfl
theorem g131_8 : z_go zP 131 8 L S q Q ↔ z_go zP 131 9 L (zl 0 :: S) q Q := ge_x (len := 1) (x := (0, 0, [])) p_131 rfl rfl
theorem g131_9 : z_go zP 131 9 L [zl a] q Q ↔ Q (.inl (some (zl a))) q := z_go_rt (len := 1) (x := (0, 0, [])) p_131 rfl rfl rfl
theorem g131_10 : z_go zP 131 10 [l0, l1, some (zi a)] S q Q ↔ z_go zP 131 11 [l0, l1, some (zi a)] (zi a :: S) q Q := ge_x (len := 1) (x := (0, 0, [])) p_131 rfl rfl
theorem g131_11 : z_go zP 131 11 L S q Q ↔ z_go zP 131 12 L (zi 0 :: S) q Q := ge_x (len := 1) (x := (0, 0, [])) p_131 rfl rfl
theorem g131_12 : z_go zP 131 12 L S q Q ↔ z_go zP 131 13 L (zi 3 :: S) q Q := ge_x (len := 1) (x := (0, 0, [])) p_131 rfl rfl
theorem g131_13 : z_go zP 131 13 [some (.ref u), l1, l2] S q Q ↔ z_go zP 131 14 [some (.ref u), l1, l2] (.ref u :: S) q Q := ge_x (len := 1) (x := (0, 0, [])) p_131 rfl rfl
theorem g131_14 : z_go zP 131 14 L (.ref u :: S) q Q ↔ ∃ v, z_get [9] 8 q.1 u = some v ∧ z_go zP 131 17 L (v :: S) q Q := ge_getf (len := 3) (x := (8, 0, [9])) p_131 rfl
theorem g131_17 : z_go zP 131 17 [some (.ref u), l1, l2] S q Q ↔ z_go zP 131 18 [some (.ref u), l1, l2] (.ref u :: S) q Q := ge_x (len := 1) (x := (0, 0, [])) p_131 rfl rfl
theorem g131_18 : z_go zP 131 18 L (.ref u :: S) q Q ↔ ∃ v, z_get [9] 5 q.1 u = some v ∧ z_go zP 131 21 L (v :: S) q Q := ge_getf (len := 3) (x := (5, 0, [9])) p_131 rfl
theorem g131_21 : z_go zP 131 21 [some (.ref u), l1, l2] S q Q ↔ z_go zP 131 22 [some (.ref u), l1, l2] (.ref u :: S) q Q := ge_x (len := 1) (x := (0, 0, [])) p_131 rfl rfl
theorem g131_22 : z_go zP 131 22 [l0, some (zi a), l2] S q Q ↔ z_go zP 131 23 [l0, some (zi a), l2] (zi a :: S) q Q := ge_x (len := 1) (x := (0, 0, [])) p_131 rfl rfl
theorem g131_23 : z_go zP 131 23 L [zi x0, .ref u, .ref v0, .ref v1, zi y2, zi y3, zi y4] q Q ↔ z_tg q.1 u = some 9 ∧ z_go zP 130 0 [some (.ref u), some (zi x0)] [] q (zc 131 26 L [.ref v0, .ref v1, zi y2, zi y3, zi y4] Q) := ge_vc (len := 3) (pc := 23) (S := [zi x0, .ref u, .ref v0, .ref v1, zi y2, zi y3, zi y4]) (u := u) (k1 := 130) (A := [.ref u, zi x0]) (r := [.ref v0, .ref v1, zi y2, zi y3, zi y4]) (tag := 9) (n0 := 1) rfl p_131 rfl rfl rfl p_130 (by show 2 ≤ 2; omega) rfl
theorem g131_26 : z_go zP 131 26 L (zi a :: .ref u :: S) q Q ↔ ∃ v, z_at [99, 100] q.1 u (Int32.ofInt a) = some v ∧ z_go zP 131 27 L (v :: S) q Q := ge_iald (len := 1) (x := (0, 0, [])) p_131 rfl
theorem g131_27 : z_go zP 131 27 L (zi a :: .ref u :: S) q Q ↔ ∃ v, z_at [99, 100] q.1 u (Int32.ofInt a) = some v ∧ z_go zP 131 28 L (v :: S) q Q := ge_iald (len := 1) (x := (0, 0, [])) p_131 rfl
theorem g131_28 : z_go zP 131 28 L (zi b :: zi a :: S) q Q ↔ z_go zP 131 29 L (zi (a + b) :: S) q Q := ge_iadd (len := 1) (x := (0, 0, [])) p_131 rfl
theorem g131_29 : z_go zP 131 29 L [zi x2, zi x1, zi x0] q Q ↔ z_go zP 97 0 [some (zi x0), some (zi x1), some (zi x2)] [] q (zd 131 32 L [] Q) := (z_go_cl (len := 3) (x := (97, 2, [3])) (k1 := 97) (A := [zi x0, zi x1, zi x2]) (r := []) p_131 rfl rfl rfl rfl (by simp only [z_cl, List.drop]; rw [if_pos]; rfl; exact by first | exact ⟨by decide, (zwb_le (by show 0 ≤ 4; omega))⟩ | exact ⟨by decide, by show 3 ≤ 3; omega, (zwb_le (by show 0 ≤ 4; omega))⟩) p_97 (by show 3 ≤ 3; omega)).trans (ge_bk_d rfl)
theorem g131_32 (a1 : -2147483648 ≤ a) (a2 : a < 2147483648) : z_go zP 131 32 L (zi a :: S) q Q ↔ if ¬ a = 0 then z_go zP 131 42 L S q Q else z_go zP 131 35 L S q Q := ge_if_ne (len := 3) (x := (0, 0, [])) a1 a2 p_131 rfl rfl
theorem g131_32b {c : Prop} [Decidable c] : z_go zP 131 32 L (zi (bI c) :: S) q Q ↔ if c then z_go zP 131 42 L S q Q else z_go zP 131 35 L S q Q := ge_if_ne_b (len := 3) (x := (0, 0, [])) p_131 rfl rfl
theorem g131_35 : z_go zP 131 35 [some (.ref u), l1, l2] S q Q ↔ z_go zP 131 36 [some (.ref u), l1, l2] (.ref u :: S) q Q := ge_x (len := 1) (x := (0, 0, [])) p_131 rfl rfl
theorem g131_36 : z_go zP 131 36 L S q Q ↔ z_go zP 131 37 L (zi 2 :: S) q Q := ge_x (len := 1) (x := (0, 0, [])) p_131 rfl rfl
theorem g131_37 : z_go zP 131 37 L (v :: .ref u :: S) q Q ↔ ∃ q1, z_put [9] 0 q u v = some q1 ∧ z_go zP 131 40 L S q1 Q := ge_putf (len := 3) (x := (0, 0, [9])) p_131 rfl
theorem g131_40 : z_go zP 131 40 L S q Q ↔ z_go zP 131 41 L (zl 0 :: S) q Q := ge_x (len := 1) (x := (0, 0, [])) p_131 rfl rfl
theorem g131_41 : z_go zP 131 41 L [zl a] q Q ↔ Q (.inl (some (zl a))) q := z_go_rt (len := 1) (x := (0, 0, [])) p_131 rfl rfl rfl
theorem g131_42 : z_go zP 131 42 [some (.ref u), l1, l2] S q Q ↔ z_go zP 131 43 [some (.ref u), l1, l2] (.ref u :: S) q Q := ge_x (len := 1) (x := (0, 0, [])) p_131 rfl rfl
theorem g131_43 : z_go zP 131 43 L (.ref u :: S) q Q ↔ ∃ v, z_get [9] 19 q.1 u = some v ∧ z_go zP 131 46 L (v :: S) q Q := ge_getf (len := 3) (x := (19, 0, [9])) p_131 rfl
theorem g131_46 : z_go zP 131 46 L S q Q ↔ z_go zP 131 48 L (zi 12 :: S) q Q := ge_x (len := 2) (x := (0, 0, [])) p_131 rfl rfl
theorem g131_48 : z_go zP 131 48 [l0, some (zi a), l2] S q Q ↔ z_go zP 131 49 [l0, some (zi a), l2] (zi a :: S) q Q := ge_x (len := 1) (x := (0, 0, [])) p_131 rfl rfl
theorem g131_49 : z_go zP 131 49 L (zi b :: zi a :: S) q Q ↔ z_go zP 131 50 L (zi (a * b) :: S) q Q := ge_imul (len := 1) (x := (0, 0, [])) p_131 rfl
theorem g131_50 : z_go zP 131 50 [l0, l1, some (zi a)] S q Q ↔ z_go zP 131 51 [l0, l1, some (zi a)] (zi a :: S) q Q := ge_x (len := 1) (x := (0, 0, [])) p_131 rfl rfl
theorem g131_51 : z_go zP 131 51 L (zi b :: zi a :: S) q Q ↔ z_go zP 131 52 L (zi (a + b) :: S) q Q := ge_iadd (len := 1) (x := (0, 0, [])) p_131 rfl
theorem g131_52 : z_go zP 131 52 L (zi a :: .ref u :: S) q Q ↔ ∃ v, z_at [101] q.1 u (Int32.ofInt a) = some v ∧ z_go zP 131 53 L (v :: S) q Q := ge_lald (len := 1) (x := (0, 0, [])) p_131 rfl
theorem g131_53 : z_go zP 131 53 L [zl a] q Q ↔ Q (.inl (some (zl a))) q := z_go_rt (len := 1) (x := (0, 0, [])) p_131 rfl rfl rfl
end
