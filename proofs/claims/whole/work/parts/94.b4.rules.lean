/-! rules for each instruction, printed by program: methods 132 to 157 -/
section
variable {L : zL} {S : List Value} {q : zS} {Q : zU → zS → Prop} {a b c d e x0 x1 x2 x3 x4 x5 y0 y1 y2 y3 y4 y5 y6 y7 : Int} {u u2 v0 v1 v2 v3 v4 v5 v6 v7 w0 w1 w2 w3 w4 w5 w6 : Nat} {v r0 r1 r2 r3 : Value} {l0 l1 l2 l3 l4 l5 l6 l7 l8 l9 l10 l11 l12 l13 : Option Value}
theorem g132_0 : z_go zP 132 0 [some (.ref u), l1, l2, l3, l4] S q Q ↔ z_go zP 132 1 [some (.ref u), l1, l2, l3, l4] (.ref u :: S) q Q := ge_x (len := 1) (x := (0, 0, [])) p_132 rfl rfl
theorem g132_1 : z_go zP 132 1 [l0, some (zi a), l2, l3, l4] S q Q ↔ z_go zP 132 2 [l0, some (zi a), l2, l3, l4] (zi a :: S) q Q := ge_x (len := 1) (x := (0, 0, [])) p_132 rfl rfl
theorem g132_2 : z_go zP 132 2 L S q Q ↔ z_go zP 132 3 L (zi 5 :: S) q Q := ge_x (len := 1) (x := (0, 0, [])) p_132 rfl rfl
theorem g132_3 : z_go zP 132 3 L S q Q ↔ z_go zP 132 4 L (zi 1 :: S) q Q := ge_x (len := 1) (x := (0, 0, [])) p_132 rfl rfl
theorem g132_4 : z_go zP 132 4 L [zi x2, zi x1, zi x0, .ref u] q Q ↔ z_tg q.1 u = some 9 ∧ z_go zP 100 0 [some (.ref u), some (zi x0), some (zi x1), some (zi x2), none] [] q (zc 132 7 L [] Q) := ge_vc (len := 3) (pc := 4) (S := [zi x2, zi x1, zi x0, .ref u]) (u := u) (k1 := 100) (A := [.ref u, zi x0, zi x1, zi x2]) (r := []) (tag := 9) (n0 := 3) (zwb_le (by show 0 ≤ 4; omega)) p_132 rfl rfl rfl p_100 (by show 4 ≤ 5; omega) rfl
theorem g132_7 (a1 : -2147483648 ≤ a) (a2 : a < 2147483648) : z_go zP 132 7 L (zi a :: S) q Q ↔ if a = 0 then z_go zP 132 20 L S q Q else z_go zP 132 10 L S q Q := ge_if_eq (len := 3) (x := (0, 0, [])) a1 a2 p_132 rfl rfl
theorem g132_7b {c : Prop} [Decidable c] : z_go zP 132 7 L (zi (bI c) :: S) q Q ↔ if c then z_go zP 132 10 L S q Q else z_go zP 132 20 L S q Q := ge_if_eq_b (len := 3) (x := (0, 0, [])) p_132 rfl rfl
theorem g132_10 : z_go zP 132 10 [some (.ref u), l1, l2, l3, l4] S q Q ↔ z_go zP 132 11 [some (.ref u), l1, l2, l3, l4] (.ref u :: S) q Q := ge_x (len := 1) (x := (0, 0, [])) p_132 rfl rfl
theorem g132_11 : z_go zP 132 11 [l0, l1, some (zi a), l3, l4] S q Q ↔ z_go zP 132 12 [l0, l1, some (zi a), l3, l4] (zi a :: S) q Q := ge_x (len := 1) (x := (0, 0, [])) p_132 rfl rfl
theorem g132_12 : z_go zP 132 12 L S q Q ↔ z_go zP 132 13 L (zi 3 :: S) q Q := ge_x (len := 1) (x := (0, 0, [])) p_132 rfl rfl
theorem g132_13 : z_go zP 132 13 L S q Q ↔ z_go zP 132 14 L (zi 1 :: S) q Q := ge_x (len := 1) (x := (0, 0, [])) p_132 rfl rfl
theorem g132_14 : z_go zP 132 14 L [zi x2, zi x1, zi x0, .ref u] q Q ↔ z_tg q.1 u = some 9 ∧ z_go zP 100 0 [some (.ref u), some (zi x0), some (zi x1), some (zi x2), none] [] q (zc 132 17 L [] Q) := ge_vc (len := 3) (pc := 14) (S := [zi x2, zi x1, zi x0, .ref u]) (u := u) (k1 := 100) (A := [.ref u, zi x0, zi x1, zi x2]) (r := []) (tag := 9) (n0 := 3) (zwb_le (by show 0 ≤ 4; omega)) p_132 rfl rfl rfl p_100 (by show 4 ≤ 5; omega) rfl
theorem g132_17 (a1 : -2147483648 ≤ a) (a2 : a < 2147483648) : z_go zP 132 17 L (zi a :: S) q Q ↔ if ¬ a = 0 then z_go zP 132 22 L S q Q else z_go zP 132 20 L S q Q := ge_if_ne (len := 3) (x := (0, 0, [])) a1 a2 p_132 rfl rfl
theorem g132_17b {c : Prop} [Decidable c] : z_go zP 132 17 L (zi (bI c) :: S) q Q ↔ if c then z_go zP 132 22 L S q Q else z_go zP 132 20 L S q Q := ge_if_ne_b (len := 3) (x := (0, 0, [])) p_132 rfl rfl
theorem g132_20 : z_go zP 132 20 L S q Q ↔ z_go zP 132 21 L (zi 0 :: S) q Q := ge_x (len := 1) (x := (0, 0, [])) p_132 rfl rfl
theorem g132_21_0 : z_go zP 132 21 L [zi 0] q Q ↔ Q (.inl (some (zi 0))) q := z_go_rt (len := 1) (x := (0, 0, [])) p_132 rfl rfl rfl
theorem g132_21_1 : z_go zP 132 21 L [zi 1] q Q ↔ Q (.inl (some (zi 1))) q := z_go_rt (len := 1) (x := (0, 0, [])) p_132 rfl rfl rfl
theorem g132_21b {c : Prop} [Decidable c] : z_go zP 132 21 L [zi (bI c)] q Q ↔ Q (.inl (some (zi (bI c)))) q := (by rcases bI_01 (c := c) with h | h <;> rw [h] <;> exact z_go_rt (len := 1) (x := (0, 0, [])) p_132 rfl rfl rfl)
theorem g132_22 : z_go zP 132 22 [some (.ref u), l1, l2, l3, l4] S q Q ↔ z_go zP 132 23 [some (.ref u), l1, l2, l3, l4] (.ref u :: S) q Q := ge_x (len := 1) (x := (0, 0, [])) p_132 rfl rfl
theorem g132_23 : z_go zP 132 23 L (.ref u :: S) q Q ↔ ∃ v, z_get [9] 22 q.1 u = some v ∧ z_go zP 132 26 L (v :: S) q Q := ge_getf (len := 3) (x := (22, 0, [9])) p_132 rfl
theorem g132_26 : z_go zP 132 26 [l0, l1, some (zi a), l3, l4] S q Q ↔ z_go zP 132 27 [l0, l1, some (zi a), l3, l4] (zi a :: S) q Q := ge_x (len := 1) (x := (0, 0, [])) p_132 rfl rfl
theorem g132_27 : z_go zP 132 27 L (zi a :: .ref u :: S) q Q ↔ ∃ v, z_at [102] q.1 u (Int32.ofInt a) = some v ∧ z_go zP 132 28 L (v :: S) q Q := ge_bald (len := 1) (x := (0, 0, [])) p_132 rfl
theorem g132_28 (a1 : -2147483648 ≤ a) (a2 : a < 2147483648) : z_go zP 132 28 L (zi a :: S) q Q ↔ if ¬ a = 0 then z_go zP 132 60 L S q Q else z_go zP 132 31 L S q Q := ge_if_ne (len := 3) (x := (0, 0, [])) a1 a2 p_132 rfl rfl
theorem g132_28b {c : Prop} [Decidable c] : z_go zP 132 28 L (zi (bI c) :: S) q Q ↔ if c then z_go zP 132 60 L S q Q else z_go zP 132 31 L S q Q := ge_if_ne_b (len := 3) (x := (0, 0, [])) p_132 rfl rfl
theorem g132_31 : z_go zP 132 31 [some (.ref u), l1, l2, l3, l4] S q Q ↔ z_go zP 132 32 [some (.ref u), l1, l2, l3, l4] (.ref u :: S) q Q := ge_x (len := 1) (x := (0, 0, [])) p_132 rfl rfl
theorem g132_32 : z_go zP 132 32 L (.ref u :: S) q Q ↔ ∃ v, z_get [9] 21 q.1 u = some v ∧ z_go zP 132 35 L (v :: S) q Q := ge_getf (len := 3) (x := (21, 0, [9])) p_132 rfl
theorem g132_35 : z_go zP 132 35 [l0, l1, some (zi a), l3, l4] S q Q ↔ z_go zP 132 36 [l0, l1, some (zi a), l3, l4] (zi a :: S) q Q := ge_x (len := 1) (x := (0, 0, [])) p_132 rfl rfl
theorem g132_36 : z_go zP 132 36 L (zi a :: .ref u :: S) q Q ↔ ∃ v, z_at [99, 100] q.1 u (Int32.ofInt a) = some v ∧ z_go zP 132 37 L (v :: S) q Q := ge_iald (len := 1) (x := (0, 0, [])) p_132 rfl
theorem g132_37 : z_go zP 132 37 [some (.ref u), l1, l2, l3, l4] S q Q ↔ z_go zP 132 38 [some (.ref u), l1, l2, l3, l4] (.ref u :: S) q Q := ge_x (len := 1) (x := (0, 0, [])) p_132 rfl rfl
theorem g132_38 : z_go zP 132 38 L (.ref u :: S) q Q ↔ ∃ v, z_get [9] 21 q.1 u = some v ∧ z_go zP 132 41 L (v :: S) q Q := ge_getf (len := 3) (x := (21, 0, [9])) p_132 rfl
theorem g132_41 : z_go zP 132 41 [l0, some (zi a), l2, l3, l4] S q Q ↔ z_go zP 132 42 [l0, some (zi a), l2, l3, l4] (zi a :: S) q Q := ge_x (len := 1) (x := (0, 0, [])) p_132 rfl rfl
theorem g132_42 : z_go zP 132 42 L (zi a :: .ref u :: S) q Q ↔ ∃ v, z_at [99, 100] q.1 u (Int32.ofInt a) = some v ∧ z_go zP 132 43 L (v :: S) q Q := ge_iald (len := 1) (x := (0, 0, [])) p_132 rfl
theorem g132_43 (a1 : -2147483648 ≤ a) (a2 : a < 2147483648) (b1 : -2147483648 ≤ b) (b2 : b < 2147483648) : z_go zP 132 43 L (zi b :: zi a :: S) q Q ↔ if b ≤ a then z_go zP 132 60 L S q Q else z_go zP 132 46 L S q Q := ge_ic_ge (len := 3) (x := (0, 0, [])) a1 a2 b1 b2 p_132 rfl rfl
theorem g132_46 : z_go zP 132 46 [some (.ref u), l1, l2, l3, l4] S q Q ↔ z_go zP 132 47 [some (.ref u), l1, l2, l3, l4] (.ref u :: S) q Q := ge_x (len := 1) (x := (0, 0, [])) p_132 rfl rfl
theorem g132_47 : z_go zP 132 47 [l0, l1, some (zi a), l3, l4] S q Q ↔ z_go zP 132 48 [l0, l1, some (zi a), l3, l4] (zi a :: S) q Q := ge_x (len := 1) (x := (0, 0, [])) p_132 rfl rfl
theorem g132_48 : z_go zP 132 48 [some (.ref u), l1, l2, l3, l4] S q Q ↔ z_go zP 132 49 [some (.ref u), l1, l2, l3, l4] (.ref u :: S) q Q := ge_x (len := 1) (x := (0, 0, [])) p_132 rfl rfl
theorem g132_49 : z_go zP 132 49 L (.ref u :: S) q Q ↔ ∃ v, z_get [9] 5 q.1 u = some v ∧ z_go zP 132 52 L (v :: S) q Q := ge_getf (len := 3) (x := (5, 0, [9])) p_132 rfl
theorem g132_52 : z_go zP 132 52 [l0, l1, some (zi a), l3, l4] S q Q ↔ z_go zP 132 53 [l0, l1, some (zi a), l3, l4] (zi a :: S) q Q := ge_x (len := 1) (x := (0, 0, [])) p_132 rfl rfl
theorem g132_53 : z_go zP 132 53 L (zi a :: .ref u :: S) q Q ↔ ∃ v, z_at [99, 100] q.1 u (Int32.ofInt a) = some v ∧ z_go zP 132 54 L (v :: S) q Q := ge_iald (len := 1) (x := (0, 0, [])) p_132 rfl
theorem g132_54 : z_go zP 132 54 L [zi x1, zi x0, .ref u] q Q ↔ z_tg q.1 u = some 9 ∧ z_go zP 116 0 [some (.ref u), some (zi x0), some (zi x1), none, none, none, none, none, none, none, none] [] q (zc 132 57 L [] Q) := ge_vc (len := 3) (pc := 54) (S := [zi x1, zi x0, .ref u]) (u := u) (k1 := 116) (A := [.ref u, zi x0, zi x1]) (r := []) (tag := 9) (n0 := 2) (zwb_le (by show 0 ≤ 4; omega)) p_132 rfl rfl rfl p_116 (by show 3 ≤ 11; omega) rfl
theorem g132_57 : z_go zP 132 57 L S q Q ↔ z_go zP 132 22 L S q Q := ge_to (len := 3) (x := (0, 0, [])) p_132 rfl rfl rfl
theorem g132_60 : z_go zP 132 60 [some (.ref u), l1, l2, l3, l4] S q Q ↔ z_go zP 132 61 [some (.ref u), l1, l2, l3, l4] (.ref u :: S) q Q := ge_x (len := 1) (x := (0, 0, [])) p_132 rfl rfl
theorem g132_61 : z_go zP 132 61 L (.ref u :: S) q Q ↔ ∃ v, z_get [9] 5 q.1 u = some v ∧ z_go zP 132 64 L (v :: S) q Q := ge_getf (len := 3) (x := (5, 0, [9])) p_132 rfl
theorem g132_64 : z_go zP 132 64 [l0, l1, some (zi a), l3, l4] S q Q ↔ z_go zP 132 65 [l0, l1, some (zi a), l3, l4] (zi a :: S) q Q := ge_x (len := 1) (x := (0, 0, [])) p_132 rfl rfl
theorem g132_65 : z_go zP 132 65 L (zi a :: .ref u :: S) q Q ↔ ∃ v, z_at [99, 100] q.1 u (Int32.ofInt a) = some v ∧ z_go zP 132 66 L (v :: S) q Q := ge_iald (len := 1) (x := (0, 0, [])) p_132 rfl
theorem g132_66 : z_go zP 132 66 [some (.ref u), l1, l2, l3, l4] S q Q ↔ z_go zP 132 67 [some (.ref u), l1, l2, l3, l4] (.ref u :: S) q Q := ge_x (len := 1) (x := (0, 0, [])) p_132 rfl rfl
theorem g132_67 : z_go zP 132 67 L (.ref u :: S) q Q ↔ ∃ v, z_get [9] 6 q.1 u = some v ∧ z_go zP 132 70 L (v :: S) q Q := ge_getf (len := 3) (x := (6, 0, [9])) p_132 rfl
theorem g132_70 : z_go zP 132 70 [l0, some (zi a), l2, l3, l4] S q Q ↔ z_go zP 132 71 [l0, some (zi a), l2, l3, l4] (zi a :: S) q Q := ge_x (len := 1) (x := (0, 0, [])) p_132 rfl rfl
theorem g132_71 : z_go zP 132 71 L (zi a :: .ref u :: S) q Q ↔ ∃ v, z_at [99, 100] q.1 u (Int32.ofInt a) = some v ∧ z_go zP 132 72 L (v :: S) q Q := ge_iald (len := 1) (x := (0, 0, [])) p_132 rfl
theorem g132_72 (a1 : -2147483648 ≤ a) (a2 : a < 2147483648) (b1 : -2147483648 ≤ b) (b2 : b < 2147483648) : z_go zP 132 72 L (zi b :: zi a :: S) q Q ↔ if ¬ a = b then z_go zP 132 94 L S q Q else z_go zP 132 75 L S q Q := ge_ic_ne (len := 3) (x := (0, 0, [])) a1 a2 b1 b2 p_132 rfl rfl
theorem g132_75 : z_go zP 132 75 [some (.ref u), l1, l2, l3, l4] S q Q ↔ z_go zP 132 76 [some (.ref u), l1, l2, l3, l4] (.ref u :: S) q Q := ge_x (len := 1) (x := (0, 0, [])) p_132 rfl rfl
theorem g132_76 : z_go zP 132 76 L (.ref u :: S) q Q ↔ ∃ v, z_get [9] 21 q.1 u = some v ∧ z_go zP 132 79 L (v :: S) q Q := ge_getf (len := 3) (x := (21, 0, [9])) p_132 rfl
theorem g132_79 : z_go zP 132 79 [l0, l1, some (zi a), l3, l4] S q Q ↔ z_go zP 132 80 [l0, l1, some (zi a), l3, l4] (zi a :: S) q Q := ge_x (len := 1) (x := (0, 0, [])) p_132 rfl rfl
theorem g132_80 : z_go zP 132 80 L (zi a :: .ref u :: S) q Q ↔ ∃ v, z_at [99, 100] q.1 u (Int32.ofInt a) = some v ∧ z_go zP 132 81 L (v :: S) q Q := ge_iald (len := 1) (x := (0, 0, [])) p_132 rfl
theorem g132_81 : z_go zP 132 81 [some (.ref u), l1, l2, l3, l4] S q Q ↔ z_go zP 132 82 [some (.ref u), l1, l2, l3, l4] (.ref u :: S) q Q := ge_x (len := 1) (x := (0, 0, [])) p_132 rfl rfl
theorem g132_82 : z_go zP 132 82 L (.ref u :: S) q Q ↔ ∃ v, z_get [9] 21 q.1 u = some v ∧ z_go zP 132 85 L (v :: S) q Q := ge_getf (len := 3) (x := (21, 0, [9])) p_132 rfl
theorem g132_85 : z_go zP 132 85 [l0, some (zi a), l2, l3, l4] S q Q ↔ z_go zP 132 86 [l0, some (zi a), l2, l3, l4] (zi a :: S) q Q := ge_x (len := 1) (x := (0, 0, [])) p_132 rfl rfl
theorem g132_86 : z_go zP 132 86 L (zi a :: .ref u :: S) q Q ↔ ∃ v, z_at [99, 100] q.1 u (Int32.ofInt a) = some v ∧ z_go zP 132 87 L (v :: S) q Q := ge_iald (len := 1) (x := (0, 0, [])) p_132 rfl
theorem g132_87 (a1 : -2147483648 ≤ a) (a2 : a < 2147483648) (b1 : -2147483648 ≤ b) (b2 : b < 2147483648) : z_go zP 132 87 L (zi b :: zi a :: S) q Q ↔ if ¬ a = b then z_go zP 132 94 L S q Q else z_go zP 132 90 L S q Q := ge_ic_ne (len := 3) (x := (0, 0, [])) a1 a2 b1 b2 p_132 rfl rfl
theorem g132_90 : z_go zP 132 90 L S q Q ↔ z_go zP 132 91 L (zi 1 :: S) q Q := ge_x (len := 1) (x := (0, 0, [])) p_132 rfl rfl
theorem g132_91 : z_go zP 132 91 L S q Q ↔ z_go zP 132 95 L S q Q := ge_to (len := 3) (x := (0, 0, [])) p_132 rfl rfl rfl
theorem g132_94 : z_go zP 132 94 L S q Q ↔ z_go zP 132 95 L (zi 0 :: S) q Q := ge_x (len := 1) (x := (0, 0, [])) p_132 rfl rfl
theorem g132_95 : z_go zP 132 95 [l0, l1, l2, l3, l4] (zi a :: S) q Q ↔ z_go zP 132 96 [l0, l1, (zkl l2), some (zi a), l4] S q Q := (by cases l2 with | none => exact ge_x (len := 1) (x := (0, 0, [])) p_132 rfl rfl | some v => cases v <;> exact ge_x (len := 1) (x := (0, 0, [])) p_132 rfl rfl)
theorem g132_96 : z_go zP 132 96 L S q Q ↔ z_go zP 132 97 L (zi 0 :: S) q Q := ge_x (len := 1) (x := (0, 0, [])) p_132 rfl rfl
theorem g132_97 : z_go zP 132 97 [l0, l1, l2, l3, l4] (zi a :: S) q Q ↔ z_go zP 132 99 [l0, l1, l2, (zkl l3), some (zi a)] S q Q := (by cases l3 with | none => exact ge_x (len := 2) (x := (0, 0, [])) p_132 rfl rfl | some v => cases v <;> exact ge_x (len := 2) (x := (0, 0, [])) p_132 rfl rfl)
theorem g132_99 : z_go zP 132 99 [l0, l1, l2, l3, some (zi a)] S q Q ↔ z_go zP 132 101 [l0, l1, l2, l3, some (zi a)] (zi a :: S) q Q := ge_x (len := 2) (x := (0, 0, [])) p_132 rfl rfl
theorem g132_101 : z_go zP 132 101 L S q Q ↔ z_go zP 132 103 L (zi 12 :: S) q Q := ge_x (len := 2) (x := (0, 0, [])) p_132 rfl rfl
theorem g132_103 (a1 : -2147483648 ≤ a) (a2 : a < 2147483648) (b1 : -2147483648 ≤ b) (b2 : b < 2147483648) : z_go zP 132 103 L (zi b :: zi a :: S) q Q ↔ if b ≤ a then z_go zP 132 150 L S q Q else z_go zP 132 106 L S q Q := ge_ic_ge (len := 3) (x := (0, 0, [])) a1 a2 b1 b2 p_132 rfl rfl
theorem g132_106 : z_go zP 132 106 [l0, l1, l2, some (zi a), l4] S q Q ↔ z_go zP 132 107 [l0, l1, l2, some (zi a), l4] (zi a :: S) q Q := ge_x (len := 1) (x := (0, 0, [])) p_132 rfl rfl
theorem g132_107 (a1 : -2147483648 ≤ a) (a2 : a < 2147483648) : z_go zP 132 107 L (zi a :: S) q Q ↔ if a = 0 then z_go zP 132 142 L S q Q else z_go zP 132 110 L S q Q := ge_if_eq (len := 3) (x := (0, 0, [])) a1 a2 p_132 rfl rfl
theorem g132_107b {c : Prop} [Decidable c] : z_go zP 132 107 L (zi (bI c) :: S) q Q ↔ if c then z_go zP 132 110 L S q Q else z_go zP 132 142 L S q Q := ge_if_eq_b (len := 3) (x := (0, 0, [])) p_132 rfl rfl
theorem g132_110 : z_go zP 132 110 [some (.ref u), l1, l2, l3, l4] S q Q ↔ z_go zP 132 111 [some (.ref u), l1, l2, l3, l4] (.ref u :: S) q Q := ge_x (len := 1) (x := (0, 0, [])) p_132 rfl rfl
theorem g132_111 : z_go zP 132 111 L (.ref u :: S) q Q ↔ ∃ v, z_get [9] 19 q.1 u = some v ∧ z_go zP 132 114 L (v :: S) q Q := ge_getf (len := 3) (x := (19, 0, [9])) p_132 rfl
theorem g132_114 : z_go zP 132 114 L S q Q ↔ z_go zP 132 116 L (zi 12 :: S) q Q := ge_x (len := 2) (x := (0, 0, [])) p_132 rfl rfl
theorem g132_116 : z_go zP 132 116 [l0, l1, some (zi a), l3, l4] S q Q ↔ z_go zP 132 117 [l0, l1, some (zi a), l3, l4] (zi a :: S) q Q := ge_x (len := 1) (x := (0, 0, [])) p_132 rfl rfl
theorem g132_117 : z_go zP 132 117 L (zi b :: zi a :: S) q Q ↔ z_go zP 132 118 L (zi (a * b) :: S) q Q := ge_imul (len := 1) (x := (0, 0, [])) p_132 rfl
theorem g132_118 : z_go zP 132 118 [l0, l1, l2, l3, some (zi a)] S q Q ↔ z_go zP 132 120 [l0, l1, l2, l3, some (zi a)] (zi a :: S) q Q := ge_x (len := 2) (x := (0, 0, [])) p_132 rfl rfl
theorem g132_120 : z_go zP 132 120 L (zi b :: zi a :: S) q Q ↔ z_go zP 132 121 L (zi (a + b) :: S) q Q := ge_iadd (len := 1) (x := (0, 0, [])) p_132 rfl
theorem g132_121 : z_go zP 132 121 L (zi a :: .ref u :: S) q Q ↔ ∃ v, z_at [101] q.1 u (Int32.ofInt a) = some v ∧ z_go zP 132 122 L (v :: S) q Q := ge_lald (len := 1) (x := (0, 0, [])) p_132 rfl
theorem g132_122 : z_go zP 132 122 [some (.ref u), l1, l2, l3, l4] S q Q ↔ z_go zP 132 123 [some (.ref u), l1, l2, l3, l4] (.ref u :: S) q Q := ge_x (len := 1) (x := (0, 0, [])) p_132 rfl rfl
theorem g132_123 : z_go zP 132 123 L (.ref u :: S) q Q ↔ ∃ v, z_get [9] 19 q.1 u = some v ∧ z_go zP 132 126 L (v :: S) q Q := ge_getf (len := 3) (x := (19, 0, [9])) p_132 rfl
theorem g132_126 : z_go zP 132 126 L S q Q ↔ z_go zP 132 128 L (zi 12 :: S) q Q := ge_x (len := 2) (x := (0, 0, [])) p_132 rfl rfl
theorem g132_128 : z_go zP 132 128 [l0, some (zi a), l2, l3, l4] S q Q ↔ z_go zP 132 129 [l0, some (zi a), l2, l3, l4] (zi a :: S) q Q := ge_x (len := 1) (x := (0, 0, [])) p_132 rfl rfl
theorem g132_129 : z_go zP 132 129 L (zi b :: zi a :: S) q Q ↔ z_go zP 132 130 L (zi (a * b) :: S) q Q := ge_imul (len := 1) (x := (0, 0, [])) p_132 rfl
theorem g132_130 : z_go zP 132 130 [l0, l1, l2, l3, some (zi a)] S q Q ↔ z_go zP 132 132 [l0, l1, l2, l3, some (zi a)] (zi a :: S) q Q := ge_x (len := 2) (x := (0, 0, [])) p_132 rfl rfl
theorem g132_132 : z_go zP 132 132 L (zi b :: zi a :: S) q Q ↔ z_go zP 132 133 L (zi (a + b) :: S) q Q := ge_iadd (len := 1) (x := (0, 0, [])) p_132 rfl
theorem g132_133 : z_go zP 132 133 L (zi a :: .ref u :: S) q Q ↔ ∃ v, z_at [101] q.1 u (Int32.ofInt a) = some v ∧ z_go zP 132 134 L (v :: S) q Q := ge_lald (len := 1) (x := (0, 0, [])) p_132 rfl
theorem g132_134 (a1 : -9223372036854775808 ≤ a) (a2 : a < 9223372036854775808) (b1 : -9223372036854775808 ≤ b) (b2 : b < 9223372036854775808) : z_go zP 132 134 L (zl b :: zl a :: S) q Q ↔ if ¬ a = b then z_go zP 132 142 L S q Q else z_go zP 132 138 L S q Q := ge_lc_ne (len := 1) (x := (0, 0, [])) (p2 := 135) (l2 := 3) a1 a2 b1 b2 p_132 rfl rfl rfl rfl
theorem g132_138 : z_go zP 132 138 L S q Q ↔ z_go zP 132 139 L (zi 1 :: S) q Q := ge_x (len := 1) (x := (0, 0, [])) p_132 rfl rfl
theorem g132_139 : z_go zP 132 139 L S q Q ↔ z_go zP 132 143 L S q Q := ge_to (len := 3) (x := (0, 0, [])) p_132 rfl rfl rfl
theorem g132_142 : z_go zP 132 142 L S q Q ↔ z_go zP 132 143 L (zi 0 :: S) q Q := ge_x (len := 1) (x := (0, 0, [])) p_132 rfl rfl
theorem g132_143 : z_go zP 132 143 [l0, l1, l2, l3, l4] (zi a :: S) q Q ↔ z_go zP 132 144 [l0, l1, (zkl l2), some (zi a), l4] S q Q := (by cases l2 with | none => exact ge_x (len := 1) (x := (0, 0, [])) p_132 rfl rfl | some v => cases v <;> exact ge_x (len := 1) (x := (0, 0, [])) p_132 rfl rfl)
theorem g132_144 : z_go zP 132 144 [l0, l1, l2, l3, some (zi a)] S q Q ↔ z_go zP 132 147 [l0, l1, l2, (zkl l3), some (zi (a + 1))] S q Q := (by unfold zi; rw [Int32.ofInt_add]; cases l3 with | none => exact ge_x (len := 3) (x := (0, 0, [])) p_132 rfl rfl | some v => cases v <;> exact ge_x (len := 3) (x := (0, 0, [])) p_132 rfl rfl)
theorem g132_147 : z_go zP 132 147 L S q Q ↔ z_go zP 132 99 L S q Q := ge_to (len := 3) (x := (0, 0, [])) p_132 rfl rfl rfl
theorem g132_150 : z_go zP 132 150 [l0, l1, l2, some (zi a), l4] S q Q ↔ z_go zP 132 151 [l0, l1, l2, some (zi a), l4] (zi a :: S) q Q := ge_x (len := 1) (x := (0, 0, [])) p_132 rfl rfl
theorem g132_151_0 : z_go zP 132 151 L [zi 0] q Q ↔ Q (.inl (some (zi 0))) q := z_go_rt (len := 1) (x := (0, 0, [])) p_132 rfl rfl rfl
theorem g132_151_1 : z_go zP 132 151 L [zi 1] q Q ↔ Q (.inl (some (zi 1))) q := z_go_rt (len := 1) (x := (0, 0, [])) p_132 rfl rfl rfl
theorem g132_151b {c : Prop} [Decidable c] : z_go zP 132 151 L [zi (bI c)] q Q ↔ Q (.inl (some (zi (bI c)))) q := (by rcases bI_01 (c := c) with h | h <;> rw [h] <;> exact z_go_rt (len := 1) (x := (0, 0, [])) p_132 rfl rfl rfl)
theorem g133_0 : z_go zP 133 0 L S q Q ↔ z_go zP 133 1 L (zi 0 :: S) q Q := ge_x (len := 1) (x := (0, 0, [])) p_133 rfl rfl
theorem g133_1 : z_go zP 133 1 [l0, l1, l2] (zi a :: S) q Q ↔ z_go zP 133 2 [l0, (zkl l1), some (zi a)] S q Q := (by cases l1 with | none => exact ge_x (len := 1) (x := (0, 0, [])) p_133 rfl rfl | some v => cases v <;> exact ge_x (len := 1) (x := (0, 0, [])) p_133 rfl rfl)
theorem g133_2 : z_go zP 133 2 [l0, l1, some (zi a)] S q Q ↔ z_go zP 133 3 [l0, l1, some (zi a)] (zi a :: S) q Q := ge_x (len := 1) (x := (0, 0, [])) p_133 rfl rfl
theorem g133_3 : z_go zP 133 3 L S q Q ↔ z_go zP 133 5 L (zi 28 :: S) q Q := ge_x (len := 2) (x := (0, 0, [])) p_133 rfl rfl
theorem g133_5 (a1 : -2147483648 ≤ a) (a2 : a < 2147483648) (b1 : -2147483648 ≤ b) (b2 : b < 2147483648) : z_go zP 133 5 L (zi b :: zi a :: S) q Q ↔ if b ≤ a then z_go zP 133 31 L S q Q else z_go zP 133 8 L S q Q := ge_ic_ge (len := 3) (x := (0, 0, [])) a1 a2 b1 b2 p_133 rfl rfl
theorem g133_8 : z_go zP 133 8 [some (.ref u), l1, l2] S q Q ↔ z_go zP 133 9 [some (.ref u), l1, l2] (.ref u :: S) q Q := ge_x (len := 1) (x := (0, 0, [])) p_133 rfl rfl
theorem g133_9 : z_go zP 133 9 L (.ref u :: S) q Q ↔ ∃ v, z_get [9] 38 q.1 u = some v ∧ z_go zP 133 12 L (v :: S) q Q := ge_getf (len := 3) (x := (38, 0, [9])) p_133 rfl
theorem g133_12 : z_go zP 133 12 [l0, l1, some (zi a)] S q Q ↔ z_go zP 133 13 [l0, l1, some (zi a)] (zi a :: S) q Q := ge_x (len := 1) (x := (0, 0, [])) p_133 rfl rfl
theorem g133_13 : z_go zP 133 13 [some (.ref u), l1, l2] S q Q ↔ z_go zP 133 14 [some (.ref u), l1, l2] (.ref u :: S) q Q := ge_x (len := 1) (x := (0, 0, [])) p_133 rfl rfl
theorem g133_14 : z_go zP 133 14 L (.ref u :: S) q Q ↔ ∃ v, z_get [9] 36 q.1 u = some v ∧ z_go zP 133 17 L (v :: S) q Q := ge_getf (len := 3) (x := (36, 0, [9])) p_133 rfl
theorem g133_17 : z_go zP 133 17 L S q Q ↔ z_go zP 133 19 L (zi 28 :: S) q Q := ge_x (len := 2) (x := (0, 0, [])) p_133 rfl rfl
theorem g133_19 : z_go zP 133 19 [l0, some (zi a), l2] S q Q ↔ z_go zP 133 20 [l0, some (zi a), l2] (zi a :: S) q Q := ge_x (len := 1) (x := (0, 0, [])) p_133 rfl rfl
theorem g133_20 : z_go zP 133 20 L (zi b :: zi a :: S) q Q ↔ z_go zP 133 21 L (zi (a * b) :: S) q Q := ge_imul (len := 1) (x := (0, 0, [])) p_133 rfl
theorem g133_21 : z_go zP 133 21 [l0, l1, some (zi a)] S q Q ↔ z_go zP 133 22 [l0, l1, some (zi a)] (zi a :: S) q Q := ge_x (len := 1) (x := (0, 0, [])) p_133 rfl rfl
theorem g133_22 : z_go zP 133 22 L (zi b :: zi a :: S) q Q ↔ z_go zP 133 23 L (zi (a + b) :: S) q Q := ge_iadd (len := 1) (x := (0, 0, [])) p_133 rfl
theorem g133_23 : z_go zP 133 23 L (zi a :: .ref u :: S) q Q ↔ ∃ v, z_at [101] q.1 u (Int32.ofInt a) = some v ∧ z_go zP 133 24 L (v :: S) q Q := ge_lald (len := 1) (x := (0, 0, [])) p_133 rfl
theorem g133_24 : z_go zP 133 24 L (zl b :: zi a :: .ref u :: S) q Q ↔ ∃ q1, z_st 101 q u (Int32.ofInt a) (zl b) = some q1 ∧ z_go zP 133 25 L S q1 Q := ge_last (len := 1) (x := (0, 0, [])) p_133 rfl
theorem g133_25 : z_go zP 133 25 [l0, l1, some (zi a)] S q Q ↔ z_go zP 133 28 [l0, (zkl l1), some (zi (a + 1))] S q Q := (by unfold zi; rw [Int32.ofInt_add]; cases l1 with | none => exact ge_x (len := 3) (x := (0, 0, [])) p_133 rfl rfl | some v => cases v <;> exact ge_x (len := 3) (x := (0, 0, [])) p_133 rfl rfl)
theorem g133_28 : z_go zP 133 28 L S q Q ↔ z_go zP 133 2 L S q Q := ge_to (len := 3) (x := (0, 0, [])) p_133 rfl rfl rfl
theorem g133_31 : z_go zP 133 31 L [] q Q ↔ Q (.inl none) q := z_go_rt (len := 1) (x := (0, 0, [])) p_133 rfl rfl rfl
theorem g134_0 : z_go zP 134 0 L S q Q ↔ z_go zP 134 3 L (zl 17 :: S) q Q := ge_x (len := 3) (x := (17, 0, [])) p_134 rfl rfl
theorem g134_3 : z_go zP 134 3 [l0, l1, l2, l3] (zl a :: S) q Q ↔ z_go zP 134 4 [(zkl l0), some (zl a), none, l3] S q Q := (by cases l0 with | none => exact ge_x (len := 1) (x := (0, 0, [])) p_134 rfl rfl | some v => cases v <;> exact ge_x (len := 1) (x := (0, 0, [])) p_134 rfl rfl)
theorem g134_4 : z_go zP 134 4 L S q Q ↔ z_go zP 134 5 L (zi 0 :: S) q Q := ge_x (len := 1) (x := (0, 0, [])) p_134 rfl rfl
theorem g134_5 : z_go zP 134 5 [l0, l1, l2, l3] (zi a :: S) q Q ↔ z_go zP 134 6 [l0, l1, (zkl l2), some (zi a)] S q Q := (by cases l2 with | none => exact ge_x (len := 1) (x := (0, 0, [])) p_134 rfl rfl | some v => cases v <;> exact ge_x (len := 1) (x := (0, 0, [])) p_134 rfl rfl)
theorem g134_6 : z_go zP 134 6 [l0, l1, l2, some (zi a)] S q Q ↔ z_go zP 134 7 [l0, l1, l2, some (zi a)] (zi a :: S) q Q := ge_x (len := 1) (x := (0, 0, [])) p_134 rfl rfl
theorem g134_7 : z_go zP 134 7 L S q Q ↔ z_go zP 134 9 L (zi 28 :: S) q Q := ge_x (len := 2) (x := (0, 0, [])) p_134 rfl rfl
theorem g134_9 (a1 : -2147483648 ≤ a) (a2 : a < 2147483648) (b1 : -2147483648 ≤ b) (b2 : b < 2147483648) : z_go zP 134 9 L (zi b :: zi a :: S) q Q ↔ if b ≤ a then z_go zP 134 35 L S q Q else z_go zP 134 12 L S q Q := ge_ic_ge (len := 3) (x := (0, 0, [])) a1 a2 b1 b2 p_134 rfl rfl
theorem g134_12 : z_go zP 134 12 [l0, some (zl a), l2, l3] S q Q ↔ z_go zP 134 13 [l0, some (zl a), l2, l3] (zl a :: S) q Q := ge_x (len := 1) (x := (0, 0, [])) p_134 rfl rfl
theorem g134_13 : z_go zP 134 13 L S q Q ↔ z_go zP 134 16 L (zl 31 :: S) q Q := ge_x (len := 3) (x := (31, 0, [])) p_134 rfl rfl
theorem g134_16 : z_go zP 134 16 L (zl b :: zl a :: S) q Q ↔ z_go zP 134 17 L (zl (a * b) :: S) q Q := ge_lmul (len := 1) (x := (0, 0, [])) p_134 rfl
theorem g134_17 : z_go zP 134 17 [some (.ref u), l1, l2, l3] S q Q ↔ z_go zP 134 18 [some (.ref u), l1, l2, l3] (.ref u :: S) q Q := ge_x (len := 1) (x := (0, 0, [])) p_134 rfl rfl
theorem g134_18 : z_go zP 134 18 L (.ref u :: S) q Q ↔ ∃ v, z_get [9] 38 q.1 u = some v ∧ z_go zP 134 21 L (v :: S) q Q := ge_getf (len := 3) (x := (38, 0, [9])) p_134 rfl
theorem g134_21 : z_go zP 134 21 [l0, l1, l2, some (zi a)] S q Q ↔ z_go zP 134 22 [l0, l1, l2, some (zi a)] (zi a :: S) q Q := ge_x (len := 1) (x := (0, 0, [])) p_134 rfl rfl
theorem g134_22 : z_go zP 134 22 L (zi a :: .ref u :: S) q Q ↔ ∃ v, z_at [101] q.1 u (Int32.ofInt a) = some v ∧ z_go zP 134 23 L (v :: S) q Q := ge_lald (len := 1) (x := (0, 0, [])) p_134 rfl
theorem g134_23 : z_go zP 134 23 L (zl b :: zl a :: S) q Q ↔ z_go zP 134 24 L (zl (a + b) :: S) q Q := ge_ladd (len := 1) (x := (0, 0, [])) p_134 rfl
theorem g134_24 : z_go zP 134 24 L S q Q ↔ z_go zP 134 27 L (zl 2003 :: S) q Q := ge_x (len := 3) (x := (2003, 0, [])) p_134 rfl rfl
theorem g134_27 (a1 : -9223372036854775808 ≤ a) (a2 : a < 9223372036854775808) (b1 : 0 < b) (b2 : b < 9223372036854775808) : z_go zP 134 27 L (zl b :: zl a :: S) q Q ↔ z_go zP 134 28 L (zl (a.tmod b) :: S) q Q := ge_lrem (len := 1) (x := (0, 0, [])) a1 a2 b1 b2 p_134 rfl
theorem g134_28 : z_go zP 134 28 [l0, l1, l2, l3] (zl a :: S) q Q ↔ z_go zP 134 29 [(zkl l0), some (zl a), none, l3] S q Q := (by cases l0 with | none => exact ge_x (len := 1) (x := (0, 0, [])) p_134 rfl rfl | some v => cases v <;> exact ge_x (len := 1) (x := (0, 0, [])) p_134 rfl rfl)
theorem g134_29 : z_go zP 134 29 [l0, l1, l2, some (zi a)] S q Q ↔ z_go zP 134 32 [l0, l1, (zkl l2), some (zi (a + 1))] S q Q := (by unfold zi; rw [Int32.ofInt_add]; cases l2 with | none => exact ge_x (len := 3) (x := (0, 0, [])) p_134 rfl rfl | some v => cases v <;> exact ge_x (len := 3) (x := (0, 0, [])) p_134 rfl rfl)
theorem g134_32 : z_go zP 134 32 L S q Q ↔ z_go zP 134 6 L S q Q := ge_to (len := 3) (x := (0, 0, [])) p_134 rfl rfl rfl
theorem g134_35 : z_go zP 134 35 [l0, some (zl a), l2, l3] S q Q ↔ z_go zP 134 36 [l0, some (zl a), l2, l3] (zl a :: S) q Q := ge_x (len := 1) (x := (0, 0, [])) p_134 rfl rfl
theorem g134_36 : z_go zP 134 36 L (zl a :: S) q Q ↔ z_go zP 134 37 L (zi a :: S) q Q := ge_l2i (len := 1) (x := (0, 0, [])) p_134 rfl
theorem g134_37 : z_go zP 134 37 L [zi a] q Q ↔ Q (.inl (some (zi a))) q := ge_rti (len := 1) (x := (0, 0, [])) p_134 rfl rfl
theorem g135_0 : z_go zP 135 0 [some (.ref u), l1, l2, l3, l4] S q Q ↔ z_go zP 135 1 [some (.ref u), l1, l2, l3, l4] (.ref u :: S) q Q := ge_x (len := 1) (x := (0, 0, [])) p_135 rfl rfl
theorem g135_1 : z_go zP 135 1 L (.ref u :: S) q Q ↔ ∃ v, z_get [9] 39 q.1 u = some v ∧ z_go zP 135 4 L (v :: S) q Q := ge_getf (len := 3) (x := (39, 0, [9])) p_135 rfl
theorem g135_4 : z_go zP 135 4 [l0, some (zi a), l2, l3, l4] S q Q ↔ z_go zP 135 5 [l0, some (zi a), l2, l3, l4] (zi a :: S) q Q := ge_x (len := 1) (x := (0, 0, [])) p_135 rfl rfl
theorem g135_5 : z_go zP 135 5 L (zi a :: .ref u :: S) q Q ↔ ∃ v, z_at [99, 100] q.1 u (Int32.ofInt a) = some v ∧ z_go zP 135 6 L (v :: S) q Q := ge_iald (len := 1) (x := (0, 0, [])) p_135 rfl
theorem g135_6 : z_go zP 135 6 [l0, l1, l2, l3, l4] (zi a :: S) q Q ↔ z_go zP 135 7 [l0, (zkl l1), some (zi a), l3, l4] S q Q := (by cases l1 with | none => exact ge_x (len := 1) (x := (0, 0, [])) p_135 rfl rfl | some v => cases v <;> exact ge_x (len := 1) (x := (0, 0, [])) p_135 rfl rfl)
theorem g135_7 : z_go zP 135 7 [l0, l1, some (zi a), l3, l4] S q Q ↔ z_go zP 135 8 [l0, l1, some (zi a), l3, l4] (zi a :: S) q Q := ge_x (len := 1) (x := (0, 0, [])) p_135 rfl rfl
theorem g135_8 (a1 : -2147483648 ≤ a) (a2 : a < 2147483648) : z_go zP 135 8 L (zi a :: S) q Q ↔ if a < 0 then z_go zP 135 78 L S q Q else z_go zP 135 11 L S q Q := ge_if_lt (len := 3) (x := (0, 0, [])) a1 a2 p_135 rfl rfl
theorem g135_11 : z_go zP 135 11 L S q Q ↔ z_go zP 135 12 L (zi 1 :: S) q Q := ge_x (len := 1) (x := (0, 0, [])) p_135 rfl rfl
theorem g135_12 : z_go zP 135 12 [l0, l1, l2, l3, l4] (zi a :: S) q Q ↔ z_go zP 135 13 [l0, l1, (zkl l2), some (zi a), l4] S q Q := (by cases l2 with | none => exact ge_x (len := 1) (x := (0, 0, [])) p_135 rfl rfl | some v => cases v <;> exact ge_x (len := 1) (x := (0, 0, [])) p_135 rfl rfl)
theorem g135_13 : z_go zP 135 13 L S q Q ↔ z_go zP 135 14 L (zi 0 :: S) q Q := ge_x (len := 1) (x := (0, 0, [])) p_135 rfl rfl
theorem g135_14 : z_go zP 135 14 [l0, l1, l2, l3, l4] (zi a :: S) q Q ↔ z_go zP 135 16 [l0, l1, l2, (zkl l3), some (zi a)] S q Q := (by cases l3 with | none => exact ge_x (len := 2) (x := (0, 0, [])) p_135 rfl rfl | some v => cases v <;> exact ge_x (len := 2) (x := (0, 0, [])) p_135 rfl rfl)
theorem g135_16 : z_go zP 135 16 [l0, l1, l2, l3, some (zi a)] S q Q ↔ z_go zP 135 18 [l0, l1, l2, l3, some (zi a)] (zi a :: S) q Q := ge_x (len := 2) (x := (0, 0, [])) p_135 rfl rfl
theorem g135_18 : z_go zP 135 18 L S q Q ↔ z_go zP 135 20 L (zi 28 :: S) q Q := ge_x (len := 2) (x := (0, 0, [])) p_135 rfl rfl
theorem g135_20 (a1 : -2147483648 ≤ a) (a2 : a < 2147483648) (b1 : -2147483648 ≤ b) (b2 : b < 2147483648) : z_go zP 135 20 L (zi b :: zi a :: S) q Q ↔ if b ≤ a then z_go zP 135 62 L S q Q else z_go zP 135 23 L S q Q := ge_ic_ge (len := 3) (x := (0, 0, [])) a1 a2 b1 b2 p_135 rfl rfl
theorem g135_23 : z_go zP 135 23 [l0, l1, l2, some (zi a), l4] S q Q ↔ z_go zP 135 24 [l0, l1, l2, some (zi a), l4] (zi a :: S) q Q := ge_x (len := 1) (x := (0, 0, [])) p_135 rfl rfl
theorem g135_24 (a1 : -2147483648 ≤ a) (a2 : a < 2147483648) : z_go zP 135 24 L (zi a :: S) q Q ↔ if a = 0 then z_go zP 135 54 L S q Q else z_go zP 135 27 L S q Q := ge_if_eq (len := 3) (x := (0, 0, [])) a1 a2 p_135 rfl rfl
theorem g135_24b {c : Prop} [Decidable c] : z_go zP 135 24 L (zi (bI c) :: S) q Q ↔ if c then z_go zP 135 27 L S q Q else z_go zP 135 54 L S q Q := ge_if_eq_b (len := 3) (x := (0, 0, [])) p_135 rfl rfl
theorem g135_27 : z_go zP 135 27 [some (.ref u), l1, l2, l3, l4] S q Q ↔ z_go zP 135 28 [some (.ref u), l1, l2, l3, l4] (.ref u :: S) q Q := ge_x (len := 1) (x := (0, 0, [])) p_135 rfl rfl
theorem g135_28 : z_go zP 135 28 L (.ref u :: S) q Q ↔ ∃ v, z_get [9] 36 q.1 u = some v ∧ z_go zP 135 31 L (v :: S) q Q := ge_getf (len := 3) (x := (36, 0, [9])) p_135 rfl
theorem g135_31 : z_go zP 135 31 L S q Q ↔ z_go zP 135 33 L (zi 28 :: S) q Q := ge_x (len := 2) (x := (0, 0, [])) p_135 rfl rfl
theorem g135_33 : z_go zP 135 33 [l0, l1, some (zi a), l3, l4] S q Q ↔ z_go zP 135 34 [l0, l1, some (zi a), l3, l4] (zi a :: S) q Q := ge_x (len := 1) (x := (0, 0, [])) p_135 rfl rfl
theorem g135_34 : z_go zP 135 34 L (zi b :: zi a :: S) q Q ↔ z_go zP 135 35 L (zi (a * b) :: S) q Q := ge_imul (len := 1) (x := (0, 0, [])) p_135 rfl
theorem g135_35 : z_go zP 135 35 [l0, l1, l2, l3, some (zi a)] S q Q ↔ z_go zP 135 37 [l0, l1, l2, l3, some (zi a)] (zi a :: S) q Q := ge_x (len := 2) (x := (0, 0, [])) p_135 rfl rfl
theorem g135_37 : z_go zP 135 37 L (zi b :: zi a :: S) q Q ↔ z_go zP 135 38 L (zi (a + b) :: S) q Q := ge_iadd (len := 1) (x := (0, 0, [])) p_135 rfl
theorem g135_38 : z_go zP 135 38 L (zi a :: .ref u :: S) q Q ↔ ∃ v, z_at [101] q.1 u (Int32.ofInt a) = some v ∧ z_go zP 135 39 L (v :: S) q Q := ge_lald (len := 1) (x := (0, 0, [])) p_135 rfl
theorem g135_39 : z_go zP 135 39 [some (.ref u), l1, l2, l3, l4] S q Q ↔ z_go zP 135 40 [some (.ref u), l1, l2, l3, l4] (.ref u :: S) q Q := ge_x (len := 1) (x := (0, 0, [])) p_135 rfl rfl
theorem g135_40 : z_go zP 135 40 L (.ref u :: S) q Q ↔ ∃ v, z_get [9] 38 q.1 u = some v ∧ z_go zP 135 43 L (v :: S) q Q := ge_getf (len := 3) (x := (38, 0, [9])) p_135 rfl
theorem g135_43 : z_go zP 135 43 [l0, l1, l2, l3, some (zi a)] S q Q ↔ z_go zP 135 45 [l0, l1, l2, l3, some (zi a)] (zi a :: S) q Q := ge_x (len := 2) (x := (0, 0, [])) p_135 rfl rfl
theorem g135_45 : z_go zP 135 45 L (zi a :: .ref u :: S) q Q ↔ ∃ v, z_at [101] q.1 u (Int32.ofInt a) = some v ∧ z_go zP 135 46 L (v :: S) q Q := ge_lald (len := 1) (x := (0, 0, [])) p_135 rfl
theorem g135_46 (a1 : -9223372036854775808 ≤ a) (a2 : a < 9223372036854775808) (b1 : -9223372036854775808 ≤ b) (b2 : b < 9223372036854775808) : z_go zP 135 46 L (zl b :: zl a :: S) q Q ↔ if ¬ a = b then z_go zP 135 54 L S q Q else z_go zP 135 50 L S q Q := ge_lc_ne (len := 1) (x := (0, 0, [])) (p2 := 47) (l2 := 3) a1 a2 b1 b2 p_135 rfl rfl rfl rfl
theorem g135_50 : z_go zP 135 50 L S q Q ↔ z_go zP 135 51 L (zi 1 :: S) q Q := ge_x (len := 1) (x := (0, 0, [])) p_135 rfl rfl
theorem g135_51 : z_go zP 135 51 L S q Q ↔ z_go zP 135 55 L S q Q := ge_to (len := 3) (x := (0, 0, [])) p_135 rfl rfl rfl
theorem g135_54 : z_go zP 135 54 L S q Q ↔ z_go zP 135 55 L (zi 0 :: S) q Q := ge_x (len := 1) (x := (0, 0, [])) p_135 rfl rfl
theorem g135_55 : z_go zP 135 55 [l0, l1, l2, l3, l4] (zi a :: S) q Q ↔ z_go zP 135 56 [l0, l1, (zkl l2), some (zi a), l4] S q Q := (by cases l2 with | none => exact ge_x (len := 1) (x := (0, 0, [])) p_135 rfl rfl | some v => cases v <;> exact ge_x (len := 1) (x := (0, 0, [])) p_135 rfl rfl)
theorem g135_56 : z_go zP 135 56 [l0, l1, l2, l3, some (zi a)] S q Q ↔ z_go zP 135 59 [l0, l1, l2, (zkl l3), some (zi (a + 1))] S q Q := (by unfold zi; rw [Int32.ofInt_add]; cases l3 with | none => exact ge_x (len := 3) (x := (0, 0, [])) p_135 rfl rfl | some v => cases v <;> exact ge_x (len := 3) (x := (0, 0, [])) p_135 rfl rfl)
theorem g135_59 : z_go zP 135 59 L S q Q ↔ z_go zP 135 16 L S q Q := ge_to (len := 3) (x := (0, 0, [])) p_135 rfl rfl rfl
theorem g135_62 : z_go zP 135 62 [l0, l1, l2, some (zi a), l4] S q Q ↔ z_go zP 135 63 [l0, l1, l2, some (zi a), l4] (zi a :: S) q Q := ge_x (len := 1) (x := (0, 0, [])) p_135 rfl rfl
theorem g135_63 (a1 : -2147483648 ≤ a) (a2 : a < 2147483648) : z_go zP 135 63 L (zi a :: S) q Q ↔ if a = 0 then z_go zP 135 68 L S q Q else z_go zP 135 66 L S q Q := ge_if_eq (len := 3) (x := (0, 0, [])) a1 a2 p_135 rfl rfl
theorem g135_63b {c : Prop} [Decidable c] : z_go zP 135 63 L (zi (bI c) :: S) q Q ↔ if c then z_go zP 135 66 L S q Q else z_go zP 135 68 L S q Q := ge_if_eq_b (len := 3) (x := (0, 0, [])) p_135 rfl rfl
theorem g135_66 : z_go zP 135 66 L S q Q ↔ z_go zP 135 67 L (zi 1 :: S) q Q := ge_x (len := 1) (x := (0, 0, [])) p_135 rfl rfl
theorem g135_67_0 : z_go zP 135 67 L [zi 0] q Q ↔ Q (.inl (some (zi 0))) q := z_go_rt (len := 1) (x := (0, 0, [])) p_135 rfl rfl rfl
theorem g135_67_1 : z_go zP 135 67 L [zi 1] q Q ↔ Q (.inl (some (zi 1))) q := z_go_rt (len := 1) (x := (0, 0, [])) p_135 rfl rfl rfl
theorem g135_67b {c : Prop} [Decidable c] : z_go zP 135 67 L [zi (bI c)] q Q ↔ Q (.inl (some (zi (bI c)))) q := (by rcases bI_01 (c := c) with h | h <;> rw [h] <;> exact z_go_rt (len := 1) (x := (0, 0, [])) p_135 rfl rfl rfl)
theorem g135_68 : z_go zP 135 68 [some (.ref u), l1, l2, l3, l4] S q Q ↔ z_go zP 135 69 [some (.ref u), l1, l2, l3, l4] (.ref u :: S) q Q := ge_x (len := 1) (x := (0, 0, [])) p_135 rfl rfl
theorem g135_69 : z_go zP 135 69 L (.ref u :: S) q Q ↔ ∃ v, z_get [9] 40 q.1 u = some v ∧ z_go zP 135 72 L (v :: S) q Q := ge_getf (len := 3) (x := (40, 0, [9])) p_135 rfl
theorem g135_72 : z_go zP 135 72 [l0, l1, some (zi a), l3, l4] S q Q ↔ z_go zP 135 73 [l0, l1, some (zi a), l3, l4] (zi a :: S) q Q := ge_x (len := 1) (x := (0, 0, [])) p_135 rfl rfl
theorem g135_73 : z_go zP 135 73 L (zi a :: .ref u :: S) q Q ↔ ∃ v, z_at [99, 100] q.1 u (Int32.ofInt a) = some v ∧ z_go zP 135 74 L (v :: S) q Q := ge_iald (len := 1) (x := (0, 0, [])) p_135 rfl
theorem g135_74 : z_go zP 135 74 [l0, l1, l2, l3, l4] (zi a :: S) q Q ↔ z_go zP 135 75 [l0, (zkl l1), some (zi a), l3, l4] S q Q := (by cases l1 with | none => exact ge_x (len := 1) (x := (0, 0, [])) p_135 rfl rfl | some v => cases v <;> exact ge_x (len := 1) (x := (0, 0, [])) p_135 rfl rfl)
theorem g135_75 : z_go zP 135 75 L S q Q ↔ z_go zP 135 7 L S q Q := ge_to (len := 3) (x := (0, 0, [])) p_135 rfl rfl rfl
theorem g135_78 : z_go zP 135 78 L S q Q ↔ z_go zP 135 79 L (zi 0 :: S) q Q := ge_x (len := 1) (x := (0, 0, [])) p_135 rfl rfl
theorem g135_79_0 : z_go zP 135 79 L [zi 0] q Q ↔ Q (.inl (some (zi 0))) q := z_go_rt (len := 1) (x := (0, 0, [])) p_135 rfl rfl rfl
theorem g135_79_1 : z_go zP 135 79 L [zi 1] q Q ↔ Q (.inl (some (zi 1))) q := z_go_rt (len := 1) (x := (0, 0, [])) p_135 rfl rfl rfl
theorem g135_79b {c : Prop} [Decidable c] : z_go zP 135 79 L [zi (bI c)] q Q ↔ Q (.inl (some (zi (bI c)))) q := (by rcases bI_01 (c := c) with h | h <;> rw [h] <;> exact z_go_rt (len := 1) (x := (0, 0, [])) p_135 rfl rfl rfl)
theorem g136_0 : z_go zP 136 0 [some (.ref u), l1, l2] S q Q ↔ z_go zP 136 1 [some (.ref u), l1, l2] (.ref u :: S) q Q := ge_x (len := 1) (x := (0, 0, [])) p_136 rfl rfl
theorem g136_1 : z_go zP 136 1 L [.ref u] q Q ↔ z_tg q.1 u = some 9 ∧ z_go zP 134 0 [some (.ref u), none, none, none] [] q (zc 136 4 L [] Q) := ge_vc (len := 3) (pc := 1) (S := [.ref u]) (u := u) (k1 := 134) (A := [.ref u]) (r := []) (tag := 9) (n0 := 0) (zwb_le (by show 0 ≤ 4; omega)) p_136 rfl rfl rfl p_134 (by show 1 ≤ 4; omega) rfl
theorem g136_4 : z_go zP 136 4 [l0, l1, l2] (zi a :: S) q Q ↔ z_go zP 136 5 [(zkl l0), some (zi a), l2] S q Q := (by cases l0 with | none => exact ge_x (len := 1) (x := (0, 0, [])) p_136 rfl rfl | some v => cases v <;> exact ge_x (len := 1) (x := (0, 0, [])) p_136 rfl rfl)
theorem g136_5 : z_go zP 136 5 [some (.ref u), l1, l2] S q Q ↔ z_go zP 136 6 [some (.ref u), l1, l2] (.ref u :: S) q Q := ge_x (len := 1) (x := (0, 0, [])) p_136 rfl rfl
theorem g136_6 : z_go zP 136 6 [l0, some (zi a), l2] S q Q ↔ z_go zP 136 7 [l0, some (zi a), l2] (zi a :: S) q Q := ge_x (len := 1) (x := (0, 0, [])) p_136 rfl rfl
theorem g136_7 : z_go zP 136 7 L [zi x0, .ref u] q Q ↔ z_tg q.1 u = some 9 ∧ z_go zP 135 0 [some (.ref u), some (zi x0), none, none, none] [] q (zc 136 10 L [] Q) := ge_vc (len := 3) (pc := 7) (S := [zi x0, .ref u]) (u := u) (k1 := 135) (A := [.ref u, zi x0]) (r := []) (tag := 9) (n0 := 1) (zwb_le (by show 0 ≤ 4; omega)) p_136 rfl rfl rfl p_135 (by show 2 ≤ 5; omega) rfl
theorem g136_10 (a1 : -2147483648 ≤ a) (a2 : a < 2147483648) : z_go zP 136 10 L (zi a :: S) q Q ↔ if a = 0 then z_go zP 136 14 L S q Q else z_go zP 136 13 L S q Q := ge_if_eq (len := 3) (x := (0, 0, [])) a1 a2 p_136 rfl rfl
theorem g136_10b {c : Prop} [Decidable c] : z_go zP 136 10 L (zi (bI c) :: S) q Q ↔ if c then z_go zP 136 13 L S q Q else z_go zP 136 14 L S q Q := ge_if_eq_b (len := 3) (x := (0, 0, [])) p_136 rfl rfl
theorem g136_13 : z_go zP 136 13 L [] q Q ↔ Q (.inl none) q := z_go_rt (len := 1) (x := (0, 0, [])) p_136 rfl rfl rfl
theorem g136_14 : z_go zP 136 14 [some (.ref u), l1, l2] S q Q ↔ z_go zP 136 15 [some (.ref u), l1, l2] (.ref u :: S) q Q := ge_x (len := 1) (x := (0, 0, [])) p_136 rfl rfl
theorem g136_15 : z_go zP 136 15 L (.ref u :: S) q Q ↔ ∃ v, z_get [9] 33 q.1 u = some v ∧ z_go zP 136 18 L (v :: S) q Q := ge_getf (len := 3) (x := (33, 0, [9])) p_136 rfl
theorem g136_18 : z_go zP 136 18 L S q Q ↔ z_go zP 136 21 L (zi 2000 :: S) q Q := ge_x (len := 3) (x := (0, 0, [])) p_136 rfl rfl
theorem g136_21 (a1 : -2147483648 ≤ a) (a2 : a < 2147483648) (b1 : -2147483648 ≤ b) (b2 : b < 2147483648) : z_go zP 136 21 L (zi b :: zi a :: S) q Q ↔ if b ≤ a then z_go zP 136 83 L S q Q else z_go zP 136 24 L S q Q := ge_ic_ge (len := 3) (x := (0, 0, [])) a1 a2 b1 b2 p_136 rfl rfl
theorem g136_24 : z_go zP 136 24 L S q Q ↔ z_go zP 136 25 L (zi 0 :: S) q Q := ge_x (len := 1) (x := (0, 0, [])) p_136 rfl rfl
theorem g136_25 : z_go zP 136 25 [l0, l1, l2] (zi a :: S) q Q ↔ z_go zP 136 26 [l0, (zkl l1), some (zi a)] S q Q := (by cases l1 with | none => exact ge_x (len := 1) (x := (0, 0, [])) p_136 rfl rfl | some v => cases v <;> exact ge_x (len := 1) (x := (0, 0, [])) p_136 rfl rfl)
theorem g136_26 : z_go zP 136 26 [l0, l1, some (zi a)] S q Q ↔ z_go zP 136 27 [l0, l1, some (zi a)] (zi a :: S) q Q := ge_x (len := 1) (x := (0, 0, [])) p_136 rfl rfl
theorem g136_27 : z_go zP 136 27 L S q Q ↔ z_go zP 136 29 L (zi 28 :: S) q Q := ge_x (len := 2) (x := (0, 0, [])) p_136 rfl rfl
theorem g136_29 (a1 : -2147483648 ≤ a) (a2 : a < 2147483648) (b1 : -2147483648 ≤ b) (b2 : b < 2147483648) : z_go zP 136 29 L (zi b :: zi a :: S) q Q ↔ if b ≤ a then z_go zP 136 58 L S q Q else z_go zP 136 32 L S q Q := ge_ic_ge (len := 3) (x := (0, 0, [])) a1 a2 b1 b2 p_136 rfl rfl
theorem g136_32 : z_go zP 136 32 [some (.ref u), l1, l2] S q Q ↔ z_go zP 136 33 [some (.ref u), l1, l2] (.ref u :: S) q Q := ge_x (len := 1) (x := (0, 0, [])) p_136 rfl rfl
theorem g136_33 : z_go zP 136 33 L (.ref u :: S) q Q ↔ ∃ v, z_get [9] 36 q.1 u = some v ∧ z_go zP 136 36 L (v :: S) q Q := ge_getf (len := 3) (x := (36, 0, [9])) p_136 rfl
theorem g136_36 : z_go zP 136 36 L S q Q ↔ z_go zP 136 38 L (zi 28 :: S) q Q := ge_x (len := 2) (x := (0, 0, [])) p_136 rfl rfl
theorem g136_38 : z_go zP 136 38 [some (.ref u), l1, l2] S q Q ↔ z_go zP 136 39 [some (.ref u), l1, l2] (.ref u :: S) q Q := ge_x (len := 1) (x := (0, 0, [])) p_136 rfl rfl
theorem g136_39 : z_go zP 136 39 L (.ref u :: S) q Q ↔ ∃ v, z_get [9] 33 q.1 u = some v ∧ z_go zP 136 42 L (v :: S) q Q := ge_getf (len := 3) (x := (33, 0, [9])) p_136 rfl
theorem g136_42 : z_go zP 136 42 L (zi b :: zi a :: S) q Q ↔ z_go zP 136 43 L (zi (a * b) :: S) q Q := ge_imul (len := 1) (x := (0, 0, [])) p_136 rfl
theorem g136_43 : z_go zP 136 43 [l0, l1, some (zi a)] S q Q ↔ z_go zP 136 44 [l0, l1, some (zi a)] (zi a :: S) q Q := ge_x (len := 1) (x := (0, 0, [])) p_136 rfl rfl
theorem g136_44 : z_go zP 136 44 L (zi b :: zi a :: S) q Q ↔ z_go zP 136 45 L (zi (a + b) :: S) q Q := ge_iadd (len := 1) (x := (0, 0, [])) p_136 rfl
theorem g136_45 : z_go zP 136 45 [some (.ref u), l1, l2] S q Q ↔ z_go zP 136 46 [some (.ref u), l1, l2] (.ref u :: S) q Q := ge_x (len := 1) (x := (0, 0, [])) p_136 rfl rfl
theorem g136_46 : z_go zP 136 46 L (.ref u :: S) q Q ↔ ∃ v, z_get [9] 38 q.1 u = some v ∧ z_go zP 136 49 L (v :: S) q Q := ge_getf (len := 3) (x := (38, 0, [9])) p_136 rfl
theorem g136_49 : z_go zP 136 49 [l0, l1, some (zi a)] S q Q ↔ z_go zP 136 50 [l0, l1, some (zi a)] (zi a :: S) q Q := ge_x (len := 1) (x := (0, 0, [])) p_136 rfl rfl
theorem g136_50 : z_go zP 136 50 L (zi a :: .ref u :: S) q Q ↔ ∃ v, z_at [101] q.1 u (Int32.ofInt a) = some v ∧ z_go zP 136 51 L (v :: S) q Q := ge_lald (len := 1) (x := (0, 0, [])) p_136 rfl
theorem g136_51 : z_go zP 136 51 L (zl b :: zi a :: .ref u :: S) q Q ↔ ∃ q1, z_st 101 q u (Int32.ofInt a) (zl b) = some q1 ∧ z_go zP 136 52 L S q1 Q := ge_last (len := 1) (x := (0, 0, [])) p_136 rfl
theorem g136_52 : z_go zP 136 52 [l0, l1, some (zi a)] S q Q ↔ z_go zP 136 55 [l0, (zkl l1), some (zi (a + 1))] S q Q := (by unfold zi; rw [Int32.ofInt_add]; cases l1 with | none => exact ge_x (len := 3) (x := (0, 0, [])) p_136 rfl rfl | some v => cases v <;> exact ge_x (len := 3) (x := (0, 0, [])) p_136 rfl rfl)
theorem g136_55 : z_go zP 136 55 L S q Q ↔ z_go zP 136 26 L S q Q := ge_to (len := 3) (x := (0, 0, [])) p_136 rfl rfl rfl
theorem g136_58 : z_go zP 136 58 [some (.ref u), l1, l2] S q Q ↔ z_go zP 136 59 [some (.ref u), l1, l2] (.ref u :: S) q Q := ge_x (len := 1) (x := (0, 0, [])) p_136 rfl rfl
theorem g136_59 : z_go zP 136 59 L (.ref u :: S) q Q ↔ ∃ v, z_get [9] 40 q.1 u = some v ∧ z_go zP 136 62 L (v :: S) q Q := ge_getf (len := 3) (x := (40, 0, [9])) p_136 rfl
theorem g136_62 : z_go zP 136 62 [some (.ref u), l1, l2] S q Q ↔ z_go zP 136 63 [some (.ref u), l1, l2] (.ref u :: S) q Q := ge_x (len := 1) (x := (0, 0, [])) p_136 rfl rfl
theorem g136_63 : z_go zP 136 63 L (.ref u :: S) q Q ↔ ∃ v, z_get [9] 33 q.1 u = some v ∧ z_go zP 136 66 L (v :: S) q Q := ge_getf (len := 3) (x := (33, 0, [9])) p_136 rfl
theorem g136_66 : z_go zP 136 66 [some (.ref u), l1, l2] S q Q ↔ z_go zP 136 67 [some (.ref u), l1, l2] (.ref u :: S) q Q := ge_x (len := 1) (x := (0, 0, [])) p_136 rfl rfl
theorem g136_67 : z_go zP 136 67 L (.ref u :: S) q Q ↔ ∃ v, z_get [9] 39 q.1 u = some v ∧ z_go zP 136 70 L (v :: S) q Q := ge_getf (len := 3) (x := (39, 0, [9])) p_136 rfl
theorem g136_70 : z_go zP 136 70 [l0, some (zi a), l2] S q Q ↔ z_go zP 136 71 [l0, some (zi a), l2] (zi a :: S) q Q := ge_x (len := 1) (x := (0, 0, [])) p_136 rfl rfl
theorem g136_71 : z_go zP 136 71 L (zi a :: .ref u :: S) q Q ↔ ∃ v, z_at [99, 100] q.1 u (Int32.ofInt a) = some v ∧ z_go zP 136 72 L (v :: S) q Q := ge_iald (len := 1) (x := (0, 0, [])) p_136 rfl
theorem g136_72 : z_go zP 136 72 L (zi b :: zi a :: .ref u :: S) q Q ↔ ∃ q1, z_st 100 q u (Int32.ofInt a) (zi b) = some q1 ∧ z_go zP 136 73 L S q1 Q := ge_iast (len := 1) (x := (0, 0, [])) p_136 rfl
theorem g136_73 : z_go zP 136 73 [some (.ref u), l1, l2] S q Q ↔ z_go zP 136 74 [some (.ref u), l1, l2] (.ref u :: S) q Q := ge_x (len := 1) (x := (0, 0, [])) p_136 rfl rfl
theorem g136_74 : z_go zP 136 74 L (.ref u :: S) q Q ↔ ∃ v, z_get [9] 39 q.1 u = some v ∧ z_go zP 136 77 L (v :: S) q Q := ge_getf (len := 3) (x := (39, 0, [9])) p_136 rfl
theorem g136_77 : z_go zP 136 77 [l0, some (zi a), l2] S q Q ↔ z_go zP 136 78 [l0, some (zi a), l2] (zi a :: S) q Q := ge_x (len := 1) (x := (0, 0, [])) p_136 rfl rfl
theorem g136_78 : z_go zP 136 78 [some (.ref u), l1, l2] S q Q ↔ z_go zP 136 79 [some (.ref u), l1, l2] (.ref u :: S) q Q := ge_x (len := 1) (x := (0, 0, [])) p_136 rfl rfl
theorem g136_79 : z_go zP 136 79 L (.ref u :: S) q Q ↔ ∃ v, z_get [9] 33 q.1 u = some v ∧ z_go zP 136 82 L (v :: S) q Q := ge_getf (len := 3) (x := (33, 0, [9])) p_136 rfl
theorem g136_82 : z_go zP 136 82 L (zi b :: zi a :: .ref u :: S) q Q ↔ ∃ q1, z_st 100 q u (Int32.ofInt a) (zi b) = some q1 ∧ z_go zP 136 83 L S q1 Q := ge_iast (len := 1) (x := (0, 0, [])) p_136 rfl
theorem g136_83 : z_go zP 136 83 [some (.ref u), l1, l2] S q Q ↔ z_go zP 136 84 [some (.ref u), l1, l2] (.ref u :: S) q Q := ge_x (len := 1) (x := (0, 0, [])) p_136 rfl rfl
theorem g136_84 : z_go zP 136 84 L (.ref u :: S) q Q ↔ z_go zP 136 85 L (.ref u :: .ref u :: S) q Q := ge_x (len := 1) (x := (0, 0, [])) p_136 rfl rfl
theorem g136_84i : z_go zP 136 84 L (zi a :: S) q Q ↔ z_go zP 136 85 L (zi a :: zi a :: S) q Q := ge_x (len := 1) (x := (0, 0, [])) p_136 rfl rfl
theorem g136_85 : z_go zP 136 85 L (.ref u :: S) q Q ↔ ∃ v, z_get [9] 33 q.1 u = some v ∧ z_go zP 136 88 L (v :: S) q Q := ge_getf (len := 3) (x := (33, 0, [9])) p_136 rfl
theorem g136_88 : z_go zP 136 88 L S q Q ↔ z_go zP 136 89 L (zi 1 :: S) q Q := ge_x (len := 1) (x := (0, 0, [])) p_136 rfl rfl
theorem g136_89 : z_go zP 136 89 L (zi b :: zi a :: S) q Q ↔ z_go zP 136 90 L (zi (a + b) :: S) q Q := ge_iadd (len := 1) (x := (0, 0, [])) p_136 rfl
theorem g136_90 : z_go zP 136 90 L (v :: .ref u :: S) q Q ↔ ∃ q1, z_put [9] 33 q u v = some q1 ∧ z_go zP 136 93 L S q1 Q := ge_putf (len := 3) (x := (33, 0, [9])) p_136 rfl
theorem g136_93 : z_go zP 136 93 L [] q Q ↔ Q (.inl none) q := z_go_rt (len := 1) (x := (0, 0, [])) p_136 rfl rfl rfl
theorem g137_0 : z_go zP 137 0 [l0, l1, some (zi a)] S q Q ↔ z_go zP 137 1 [l0, l1, some (zi a)] (zi a :: S) q Q := ge_x (len := 1) (x := (0, 0, [])) p_137 rfl rfl
theorem g137_1 (a1 : -2147483648 ≤ a) (a2 : a < 2147483648) : z_go zP 137 1 L (zi a :: S) q Q ↔ if ¬ a = 0 then z_go zP 137 13 L S q Q else z_go zP 137 4 L S q Q := ge_if_ne (len := 3) (x := (0, 0, [])) a1 a2 p_137 rfl rfl
theorem g137_1b {c : Prop} [Decidable c] : z_go zP 137 1 L (zi (bI c) :: S) q Q ↔ if c then z_go zP 137 13 L S q Q else z_go zP 137 4 L S q Q := ge_if_ne_b (len := 3) (x := (0, 0, [])) p_137 rfl rfl
theorem g137_4 : z_go zP 137 4 [some (.ref u), l1, l2] S q Q ↔ z_go zP 137 5 [some (.ref u), l1, l2] (.ref u :: S) q Q := ge_x (len := 1) (x := (0, 0, [])) p_137 rfl rfl
theorem g137_5 : z_go zP 137 5 L (.ref u :: S) q Q ↔ ∃ v, z_get [9] 5 q.1 u = some v ∧ z_go zP 137 8 L (v :: S) q Q := ge_getf (len := 3) (x := (5, 0, [9])) p_137 rfl
theorem g137_8 : z_go zP 137 8 [l0, some (zi a), l2] S q Q ↔ z_go zP 137 9 [l0, some (zi a), l2] (zi a :: S) q Q := ge_x (len := 1) (x := (0, 0, [])) p_137 rfl rfl
theorem g137_9 : z_go zP 137 9 L (zi a :: .ref u :: S) q Q ↔ ∃ v, z_at [99, 100] q.1 u (Int32.ofInt a) = some v ∧ z_go zP 137 10 L (v :: S) q Q := ge_iald (len := 1) (x := (0, 0, [])) p_137 rfl
theorem g137_10 : z_go zP 137 10 L S q Q ↔ z_go zP 137 19 L S q Q := ge_to (len := 3) (x := (0, 0, [])) p_137 rfl rfl rfl
theorem g137_13 : z_go zP 137 13 [some (.ref u), l1, l2] S q Q ↔ z_go zP 137 14 [some (.ref u), l1, l2] (.ref u :: S) q Q := ge_x (len := 1) (x := (0, 0, [])) p_137 rfl rfl
theorem g137_14 : z_go zP 137 14 L (.ref u :: S) q Q ↔ ∃ v, z_get [9] 6 q.1 u = some v ∧ z_go zP 137 17 L (v :: S) q Q := ge_getf (len := 3) (x := (6, 0, [9])) p_137 rfl
theorem g137_17 : z_go zP 137 17 [l0, some (zi a), l2] S q Q ↔ z_go zP 137 18 [l0, some (zi a), l2] (zi a :: S) q Q := ge_x (len := 1) (x := (0, 0, [])) p_137 rfl rfl
theorem g137_18 : z_go zP 137 18 L (zi a :: .ref u :: S) q Q ↔ ∃ v, z_at [99, 100] q.1 u (Int32.ofInt a) = some v ∧ z_go zP 137 19 L (v :: S) q Q := ge_iald (len := 1) (x := (0, 0, [])) p_137 rfl
theorem g137_19 : z_go zP 137 19 L [zi a] q Q ↔ Q (.inl (some (zi a))) q := ge_rti (len := 1) (x := (0, 0, [])) p_137 rfl rfl
theorem g138_0 : z_go zP 138 0 L S q Q ↔ z_go zP 138 2 L (zi 18 :: S) q Q := ge_x (len := 2) (x := (0, 0, [])) p_138 rfl rfl
theorem g138_2 : z_go zP 138 2 L S q Q ↔ z_go zP 138 3 L (zi 5 :: S) q Q := ge_x (len := 1) (x := (0, 0, [])) p_138 rfl rfl
theorem g138_3 : z_go zP 138 3 [l0, some (zi a), l2, l3, l4, l5, l6] S q Q ↔ z_go zP 138 4 [l0, some (zi a), l2, l3, l4, l5, l6] (zi a :: S) q Q := ge_x (len := 1) (x := (0, 0, [])) p_138 rfl rfl
theorem g138_4 : z_go zP 138 4 L (zi b :: zi a :: S) q Q ↔ z_go zP 138 5 L (zi (a * b) :: S) q Q := ge_imul (len := 1) (x := (0, 0, [])) p_138 rfl
theorem g138_5 : z_go zP 138 5 L (zi b :: zi a :: S) q Q ↔ z_go zP 138 6 L (zi (a + b) :: S) q Q := ge_iadd (len := 1) (x := (0, 0, [])) p_138 rfl
theorem g138_6 : z_go zP 138 6 [l0, l1, l2, l3, l4, l5, l6] (zi a :: S) q Q ↔ z_go zP 138 7 [l0, l1, (zkl l2), some (zi a), l4, l5, l6] S q Q := (by cases l2 with | none => exact ge_x (len := 1) (x := (0, 0, [])) p_138 rfl rfl | some v => cases v <;> exact ge_x (len := 1) (x := (0, 0, [])) p_138 rfl rfl)
theorem g138_7 : z_go zP 138 7 [some (.ref u), l1, l2, l3, l4, l5, l6] S q Q ↔ z_go zP 138 8 [some (.ref u), l1, l2, l3, l4, l5, l6] (.ref u :: S) q Q := ge_x (len := 1) (x := (0, 0, [])) p_138 rfl rfl
theorem g138_8 : z_go zP 138 8 L (.ref u :: S) q Q ↔ ∃ v, z_get [9] 38 q.1 u = some v ∧ z_go zP 138 11 L (v :: S) q Q := ge_getf (len := 3) (x := (38, 0, [9])) p_138 rfl
theorem g138_11 : z_go zP 138 11 L S q Q ↔ z_go zP 138 13 L (zi 10 :: S) q Q := ge_x (len := 2) (x := (0, 0, [])) p_138 rfl rfl
theorem g138_13 : z_go zP 138 13 [l0, l1, some (zi a), l3, l4, l5, l6] S q Q ↔ z_go zP 138 14 [l0, l1, some (zi a), l3, l4, l5, l6] (zi a :: S) q Q := ge_x (len := 1) (x := (0, 0, [])) p_138 rfl rfl
theorem g138_14 : z_go zP 138 14 L (zi b :: zi a :: S) q Q ↔ z_go zP 138 15 L (zi (a + b) :: S) q Q := ge_iadd (len := 1) (x := (0, 0, [])) p_138 rfl
theorem g138_15 : z_go zP 138 15 L (zi a :: .ref u :: S) q Q ↔ ∃ v, z_at [101] q.1 u (Int32.ofInt a) = some v ∧ z_go zP 138 16 L (v :: S) q Q := ge_lald (len := 1) (x := (0, 0, [])) p_138 rfl
theorem g138_16 : z_go zP 138 16 [l0, l1, l2, l3, l4, l5, l6] (zl a :: S) q Q ↔ z_go zP 138 18 [l0, l1, l2, (zkl l3), some (zl a), none, l6] S q Q := (by cases l3 with | none => exact ge_x (len := 2) (x := (0, 0, [])) p_138 rfl rfl | some v => cases v <;> exact ge_x (len := 2) (x := (0, 0, [])) p_138 rfl rfl)
theorem g138_18 : z_go zP 138 18 L S q Q ↔ z_go zP 138 19 L (zi 0 :: S) q Q := ge_x (len := 1) (x := (0, 0, [])) p_138 rfl rfl
theorem g138_19 : z_go zP 138 19 [l0, l1, l2, l3, l4, l5, l6] (zi a :: S) q Q ↔ z_go zP 138 21 [l0, l1, l2, l3, l4, (zkl l5), some (zi a)] S q Q := (by cases l5 with | none => exact ge_x (len := 2) (x := (0, 0, [])) p_138 rfl rfl | some v => cases v <;> exact ge_x (len := 2) (x := (0, 0, [])) p_138 rfl rfl)
theorem g138_21 : z_go zP 138 21 [l0, l1, l2, l3, l4, l5, some (zi a)] S q Q ↔ z_go zP 138 23 [l0, l1, l2, l3, l4, l5, some (zi a)] (zi a :: S) q Q := ge_x (len := 2) (x := (0, 0, [])) p_138 rfl rfl
theorem g138_23 : z_go zP 138 23 [some (.ref u), l1, l2, l3, l4, l5, l6] S q Q ↔ z_go zP 138 24 [some (.ref u), l1, l2, l3, l4, l5, l6] (.ref u :: S) q Q := ge_x (len := 1) (x := (0, 0, [])) p_138 rfl rfl
theorem g138_24 : z_go zP 138 24 L (.ref u :: S) q Q ↔ ∃ v, z_get [9] 38 q.1 u = some v ∧ z_go zP 138 27 L (v :: S) q Q := ge_getf (len := 3) (x := (38, 0, [9])) p_138 rfl
theorem g138_27 : z_go zP 138 27 [l0, l1, l2, some (zi a), l4, l5, l6] S q Q ↔ z_go zP 138 28 [l0, l1, l2, some (zi a), l4, l5, l6] (zi a :: S) q Q := ge_x (len := 1) (x := (0, 0, [])) p_138 rfl rfl
theorem g138_28 : z_go zP 138 28 L (zi a :: .ref u :: S) q Q ↔ ∃ v, z_at [101] q.1 u (Int32.ofInt a) = some v ∧ z_go zP 138 29 L (v :: S) q Q := ge_lald (len := 1) (x := (0, 0, [])) p_138 rfl
theorem g138_29 : z_go zP 138 29 L (zl a :: S) q Q ↔ z_go zP 138 30 L (zi a :: S) q Q := ge_l2i (len := 1) (x := (0, 0, [])) p_138 rfl
theorem g138_30 (a1 : -2147483648 ≤ a) (a2 : a < 2147483648) (b1 : -2147483648 ≤ b) (b2 : b < 2147483648) : z_go zP 138 30 L (zi b :: zi a :: S) q Q ↔ if b ≤ a then z_go zP 138 78 L S q Q else z_go zP 138 33 L S q Q := ge_ic_ge (len := 3) (x := (0, 0, [])) a1 a2 b1 b2 p_138 rfl rfl
theorem g138_33 : z_go zP 138 33 [some (.ref u), l1, l2, l3, l4, l5, l6] S q Q ↔ z_go zP 138 34 [some (.ref u), l1, l2, l3, l4, l5, l6] (.ref u :: S) q Q := ge_x (len := 1) (x := (0, 0, [])) p_138 rfl rfl
theorem g138_34 : z_go zP 138 34 L (.ref u :: S) q Q ↔ ∃ v, z_get [9] 38 q.1 u = some v ∧ z_go zP 138 37 L (v :: S) q Q := ge_getf (len := 3) (x := (38, 0, [9])) p_138 rfl
theorem g138_37 : z_go zP 138 37 [l0, l1, l2, some (zi a), l4, l5, l6] S q Q ↔ z_go zP 138 38 [l0, l1, l2, some (zi a), l4, l5, l6] (zi a :: S) q Q := ge_x (len := 1) (x := (0, 0, [])) p_138 rfl rfl
theorem g138_38 : z_go zP 138 38 L S q Q ↔ z_go zP 138 39 L (zi 1 :: S) q Q := ge_x (len := 1) (x := (0, 0, [])) p_138 rfl rfl
theorem g138_39 : z_go zP 138 39 L (zi b :: zi a :: S) q Q ↔ z_go zP 138 40 L (zi (a + b) :: S) q Q := ge_iadd (len := 1) (x := (0, 0, [])) p_138 rfl
theorem g138_40 : z_go zP 138 40 L S q Q ↔ z_go zP 138 41 L (zi 2 :: S) q Q := ge_x (len := 1) (x := (0, 0, [])) p_138 rfl rfl
theorem g138_41 : z_go zP 138 41 [l0, l1, l2, l3, l4, l5, some (zi a)] S q Q ↔ z_go zP 138 43 [l0, l1, l2, l3, l4, l5, some (zi a)] (zi a :: S) q Q := ge_x (len := 2) (x := (0, 0, [])) p_138 rfl rfl
theorem g138_43 : z_go zP 138 43 L (zi b :: zi a :: S) q Q ↔ z_go zP 138 44 L (zi (a * b) :: S) q Q := ge_imul (len := 1) (x := (0, 0, [])) p_138 rfl
theorem g138_44 : z_go zP 138 44 L (zi b :: zi a :: S) q Q ↔ z_go zP 138 45 L (zi (a + b) :: S) q Q := ge_iadd (len := 1) (x := (0, 0, [])) p_138 rfl
theorem g138_45 : z_go zP 138 45 L (zi a :: .ref u :: S) q Q ↔ ∃ v, z_at [101] q.1 u (Int32.ofInt a) = some v ∧ z_go zP 138 46 L (v :: S) q Q := ge_lald (len := 1) (x := (0, 0, [])) p_138 rfl
theorem g138_46 : z_go zP 138 46 [l0, l1, some (zi a), l3, l4, l5, l6] S q Q ↔ z_go zP 138 47 [l0, l1, some (zi a), l3, l4, l5, l6] (zi a :: S) q Q := ge_x (len := 1) (x := (0, 0, [])) p_138 rfl rfl
theorem g138_47 (a1 : -2147483648 ≤ a) (a2 : a < 2147483648) : z_go zP 138 47 L (zi a :: S) q Q ↔ z_go zP 138 48 L (zl a :: S) q Q := ge_i2l (len := 1) (x := (0, 0, [])) a1 a2 p_138 rfl
theorem g138_48 (a1 : -9223372036854775808 ≤ a) (a2 : a < 9223372036854775808) (b1 : -9223372036854775808 ≤ b) (b2 : b < 9223372036854775808) : z_go zP 138 48 L (zl b :: zl a :: S) q Q ↔ if ¬ a = b then z_go zP 138 68 L S q Q else z_go zP 138 52 L S q Q := ge_lc_ne (len := 1) (x := (0, 0, [])) (p2 := 49) (l2 := 3) a1 a2 b1 b2 p_138 rfl rfl rfl rfl
theorem g138_52 : z_go zP 138 52 [some (.ref u), l1, l2, l3, l4, l5, l6] S q Q ↔ z_go zP 138 53 [some (.ref u), l1, l2, l3, l4, l5, l6] (.ref u :: S) q Q := ge_x (len := 1) (x := (0, 0, [])) p_138 rfl rfl
theorem g138_53 : z_go zP 138 53 L (.ref u :: S) q Q ↔ ∃ v, z_get [9] 38 q.1 u = some v ∧ z_go zP 138 56 L (v :: S) q Q := ge_getf (len := 3) (x := (38, 0, [9])) p_138 rfl
theorem g138_56 : z_go zP 138 56 [l0, l1, l2, some (zi a), l4, l5, l6] S q Q ↔ z_go zP 138 57 [l0, l1, l2, some (zi a), l4, l5, l6] (zi a :: S) q Q := ge_x (len := 1) (x := (0, 0, [])) p_138 rfl rfl
theorem g138_57 : z_go zP 138 57 L S q Q ↔ z_go zP 138 58 L (zi 2 :: S) q Q := ge_x (len := 1) (x := (0, 0, [])) p_138 rfl rfl
theorem g138_58 : z_go zP 138 58 L (zi b :: zi a :: S) q Q ↔ z_go zP 138 59 L (zi (a + b) :: S) q Q := ge_iadd (len := 1) (x := (0, 0, [])) p_138 rfl
theorem g138_59 : z_go zP 138 59 L S q Q ↔ z_go zP 138 60 L (zi 2 :: S) q Q := ge_x (len := 1) (x := (0, 0, [])) p_138 rfl rfl
theorem g138_60 : z_go zP 138 60 [l0, l1, l2, l3, l4, l5, some (zi a)] S q Q ↔ z_go zP 138 62 [l0, l1, l2, l3, l4, l5, some (zi a)] (zi a :: S) q Q := ge_x (len := 2) (x := (0, 0, [])) p_138 rfl rfl
theorem g138_62 : z_go zP 138 62 L (zi b :: zi a :: S) q Q ↔ z_go zP 138 63 L (zi (a * b) :: S) q Q := ge_imul (len := 1) (x := (0, 0, [])) p_138 rfl
theorem g138_63 : z_go zP 138 63 L (zi b :: zi a :: S) q Q ↔ z_go zP 138 64 L (zi (a + b) :: S) q Q := ge_iadd (len := 1) (x := (0, 0, [])) p_138 rfl
theorem g138_64 : z_go zP 138 64 L (zi a :: .ref u :: S) q Q ↔ ∃ v, z_at [101] q.1 u (Int32.ofInt a) = some v ∧ z_go zP 138 65 L (v :: S) q Q := ge_lald (len := 1) (x := (0, 0, [])) p_138 rfl
theorem g138_65 : z_go zP 138 65 L S q Q ↔ z_go zP 138 70 L S q Q := ge_to (len := 3) (x := (0, 0, [])) p_138 rfl rfl rfl
theorem g138_68 : z_go zP 138 68 [l0, l1, l2, l3, some (zl a), l5, l6] S q Q ↔ z_go zP 138 70 [l0, l1, l2, l3, some (zl a), l5, l6] (zl a :: S) q Q := ge_x (len := 2) (x := (0, 0, [])) p_138 rfl rfl
theorem g138_70 : z_go zP 138 70 [l0, l1, l2, l3, l4, l5, l6] (zl a :: S) q Q ↔ z_go zP 138 72 [l0, l1, l2, (zkl l3), some (zl a), none, l6] S q Q := (by cases l3 with | none => exact ge_x (len := 2) (x := (0, 0, [])) p_138 rfl rfl | some v => cases v <;> exact ge_x (len := 2) (x := (0, 0, [])) p_138 rfl rfl)
theorem g138_72 : z_go zP 138 72 [l0, l1, l2, l3, l4, l5, some (zi a)] S q Q ↔ z_go zP 138 75 [l0, l1, l2, l3, l4, (zkl l5), some (zi (a + 1))] S q Q := (by unfold zi; rw [Int32.ofInt_add]; cases l5 with | none => exact ge_x (len := 3) (x := (0, 0, [])) p_138 rfl rfl | some v => cases v <;> exact ge_x (len := 3) (x := (0, 0, [])) p_138 rfl rfl)
theorem g138_75 : z_go zP 138 75 L S q Q ↔ z_go zP 138 21 L S q Q := ge_to (len := 3) (x := (0, 0, [])) p_138 rfl rfl rfl
theorem g138_78 : z_go zP 138 78 [l0, l1, l2, l3, some (zl a), l5, l6] S q Q ↔ z_go zP 138 80 [l0, l1, l2, l3, some (zl a), l5, l6] (zl a :: S) q Q := ge_x (len := 2) (x := (0, 0, [])) p_138 rfl rfl
theorem g138_80 : z_go zP 138 80 L [zl a] q Q ↔ Q (.inl (some (zl a))) q := z_go_rt (len := 1) (x := (0, 0, [])) p_138 rfl rfl rfl
set_option maxRecDepth 100000 in
theorem g139_0 : z_go zP 139 0 [some (.ref u), l1, l2, l3, l4, l5, l6, l7, l8, l9, l10, l11, l12, l13] S q Q ↔ z_go zP 139 1 [some (.ref u), l1, l2, l3, l4, l5, l6, l7, l8, l9, l10, l11, l12, l13] (.ref u :: S) q Q := ge_x (len := 1) (x := (0, 0, [])) p_139 rfl rfl
set_option maxRecDepth 100000 in
theorem g139_1 : z_go zP 139 1 [l0, some (zi a), l2, l3, l4, l5, l6, l7, l8, l9, l10, l11, l12, l13] S q Q ↔ z_go zP 139 2 [l0, some (zi a), l2, l3, l4, l5, l6, l7, l8, l9, l10, l11, l12, l13] (zi a :: S) q Q := ge_x (len := 1) (x := (0, 0, [])) p_139 rfl rfl
set_option maxRecDepth 100000 in
theorem g139_2 : z_go zP 139 2 [l0, l1, some (zi a), l3, l4, l5, l6, l7, l8, l9, l10, l11, l12, l13] S q Q ↔ z_go zP 139 3 [l0, l1, some (zi a), l3, l4, l5, l6, l7, l8, l9, l10, l11, l12, l13] (zi a :: S) q Q := ge_x (len := 1) (x := (0, 0, [])) p_139 rfl rfl
set_option maxRecDepth 100000 in
theorem g139_3 : z_go zP 139 3 L [zi x1, zi x0, .ref u] q Q ↔ z_tg q.1 u = some 9 ∧ z_go zP 137 0 [some (.ref u), some (zi x0), some (zi x1)] [] q (zc 139 6 L [] Q) := ge_vc (len := 3) (pc := 3) (S := [zi x1, zi x0, .ref u]) (u := u) (k1 := 137) (A := [.ref u, zi x0, zi x1]) (r := []) (tag := 9) (n0 := 2) (zwb_le (by show 0 ≤ 4; omega)) p_139 rfl rfl rfl p_137 (by show 3 ≤ 3; omega) rfl
set_option maxRecDepth 100000 in
theorem g139_6 : z_go zP 139 6 [l0, l1, l2, l3, l4, l5, l6, l7, l8, l9, l10, l11, l12, l13] (zi a :: S) q Q ↔ z_go zP 139 7 [l0, l1, (zkl l2), some (zi a), l4, l5, l6, l7, l8, l9, l10, l11, l12, l13] S q Q := (by cases l2 with | none => exact ge_x (len := 1) (x := (0, 0, [])) p_139 rfl rfl | some v => cases v <;> exact ge_x (len := 1) (x := (0, 0, [])) p_139 rfl rfl)
set_option maxRecDepth 100000 in
theorem g139_7 : z_go zP 139 7 [some (.ref u), l1, l2, l3, l4, l5, l6, l7, l8, l9, l10, l11, l12, l13] S q Q ↔ z_go zP 139 8 [some (.ref u), l1, l2, l3, l4, l5, l6, l7, l8, l9, l10, l11, l12, l13] (.ref u :: S) q Q := ge_x (len := 1) (x := (0, 0, [])) p_139 rfl rfl
set_option maxRecDepth 100000 in
theorem g139_8 : z_go zP 139 8 L (.ref u :: S) q Q ↔ ∃ v, z_get [9] 38 q.1 u = some v ∧ z_go zP 139 11 L (v :: S) q Q := ge_getf (len := 3) (x := (38, 0, [9])) p_139 rfl
set_option maxRecDepth 100000 in
theorem g139_11 : z_go zP 139 11 [l0, l1, some (zi a), l3, l4, l5, l6, l7, l8, l9, l10, l11, l12, l13] S q Q ↔ z_go zP 139 12 [l0, l1, some (zi a), l3, l4, l5, l6, l7, l8, l9, l10, l11, l12, l13] (zi a :: S) q Q := ge_x (len := 1) (x := (0, 0, [])) p_139 rfl rfl
set_option maxRecDepth 100000 in
theorem g139_12 : z_go zP 139 12 L (zi a :: .ref u :: S) q Q ↔ ∃ v, z_at [101] q.1 u (Int32.ofInt a) = some v ∧ z_go zP 139 13 L (v :: S) q Q := ge_lald (len := 1) (x := (0, 0, [])) p_139 rfl
set_option maxRecDepth 100000 in
theorem g139_13 : z_go zP 139 13 [some (.ref u), l1, l2, l3, l4, l5, l6, l7, l8, l9, l10, l11, l12, l13] S q Q ↔ z_go zP 139 14 [some (.ref u), l1, l2, l3, l4, l5, l6, l7, l8, l9, l10, l11, l12, l13] (.ref u :: S) q Q := ge_x (len := 1) (x := (0, 0, [])) p_139 rfl rfl
set_option maxRecDepth 100000 in
theorem g139_14 : z_go zP 139 14 L (.ref u :: S) q Q ↔ ∃ v, z_get [9] 13 q.1 u = some v ∧ z_go zP 139 17 L (v :: S) q Q := ge_getf (len := 3) (x := (13, 0, [9])) p_139 rfl
set_option maxRecDepth 100000 in
theorem g139_17 : z_go zP 139 17 [l0, l1, l2, some (zi a), l4, l5, l6, l7, l8, l9, l10, l11, l12, l13] S q Q ↔ z_go zP 139 18 [l0, l1, l2, some (zi a), l4, l5, l6, l7, l8, l9, l10, l11, l12, l13] (zi a :: S) q Q := ge_x (len := 1) (x := (0, 0, [])) p_139 rfl rfl
set_option maxRecDepth 100000 in
theorem g139_18 : z_go zP 139 18 L (zi a :: .ref u :: S) q Q ↔ ∃ v, z_at [99, 100] q.1 u (Int32.ofInt a) = some v ∧ z_go zP 139 19 L (v :: S) q Q := ge_iald (len := 1) (x := (0, 0, [])) p_139 rfl
set_option maxRecDepth 100000 in
theorem g139_19 (a1 : -2147483648 ≤ a) (a2 : a < 2147483648) : z_go zP 139 19 L (zi a :: S) q Q ↔ z_go zP 139 20 L (zl a :: S) q Q := ge_i2l (len := 1) (x := (0, 0, [])) a1 a2 p_139 rfl
set_option maxRecDepth 100000 in
theorem g139_20 (a1 : -9223372036854775808 ≤ a) (a2 : a < 9223372036854775808) (b1 : -9223372036854775808 ≤ b) (b2 : b < 9223372036854775808) : z_go zP 139 20 L (zl b :: zl a :: S) q Q ↔ if ¬ a = b then z_go zP 139 26 L S q Q else z_go zP 139 24 L S q Q := ge_lc_ne (len := 1) (x := (0, 0, [])) (p2 := 21) (l2 := 3) a1 a2 b1 b2 p_139 rfl rfl rfl rfl
set_option maxRecDepth 100000 in
theorem g139_24 : z_go zP 139 24 L S q Q ↔ z_go zP 139 25 L (zi 0 :: S) q Q := ge_x (len := 1) (x := (0, 0, [])) p_139 rfl rfl
set_option maxRecDepth 100000 in
theorem g139_25_0 : z_go zP 139 25 L [zi 0] q Q ↔ Q (.inl (some (zi 0))) q := z_go_rt (len := 1) (x := (0, 0, [])) p_139 rfl rfl rfl
set_option maxRecDepth 100000 in
theorem g139_25_1 : z_go zP 139 25 L [zi 1] q Q ↔ Q (.inl (some (zi 1))) q := z_go_rt (len := 1) (x := (0, 0, [])) p_139 rfl rfl rfl
set_option maxRecDepth 100000 in
theorem g139_25b {c : Prop} [Decidable c] : z_go zP 139 25 L [zi (bI c)] q Q ↔ Q (.inl (some (zi (bI c)))) q := (by rcases bI_01 (c := c) with h | h <;> rw [h] <;> exact z_go_rt (len := 1) (x := (0, 0, [])) p_139 rfl rfl rfl)
set_option maxRecDepth 100000 in
theorem g139_26 : z_go zP 139 26 L S q Q ↔ z_go zP 139 28 L (zi 24 :: S) q Q := ge_x (len := 2) (x := (0, 0, [])) p_139 rfl rfl
set_option maxRecDepth 100000 in
theorem g139_28 : z_go zP 139 28 [l0, l1, l2, some (zi a), l4, l5, l6, l7, l8, l9, l10, l11, l12, l13] S q Q ↔ z_go zP 139 29 [l0, l1, l2, some (zi a), l4, l5, l6, l7, l8, l9, l10, l11, l12, l13] (zi a :: S) q Q := ge_x (len := 1) (x := (0, 0, [])) p_139 rfl rfl
set_option maxRecDepth 100000 in
theorem g139_29 : z_go zP 139 29 L (zi b :: zi a :: S) q Q ↔ z_go zP 139 30 L (zi (a * b) :: S) q Q := ge_imul (len := 1) (x := (0, 0, [])) p_139 rfl
set_option maxRecDepth 100000 in
theorem g139_30 : z_go zP 139 30 [some (.ref u), l1, l2, l3, l4, l5, l6, l7, l8, l9, l10, l11, l12, l13] S q Q ↔ z_go zP 139 31 [some (.ref u), l1, l2, l3, l4, l5, l6, l7, l8, l9, l10, l11, l12, l13] (.ref u :: S) q Q := ge_x (len := 1) (x := (0, 0, [])) p_139 rfl rfl
set_option maxRecDepth 100000 in
theorem g139_31 : z_go zP 139 31 L (.ref u :: S) q Q ↔ ∃ v, z_get [9] 38 q.1 u = some v ∧ z_go zP 139 34 L (v :: S) q Q := ge_getf (len := 3) (x := (38, 0, [9])) p_139 rfl
set_option maxRecDepth 100000 in
theorem g139_34 : z_go zP 139 34 [l0, l1, some (zi a), l3, l4, l5, l6, l7, l8, l9, l10, l11, l12, l13] S q Q ↔ z_go zP 139 35 [l0, l1, some (zi a), l3, l4, l5, l6, l7, l8, l9, l10, l11, l12, l13] (zi a :: S) q Q := ge_x (len := 1) (x := (0, 0, [])) p_139 rfl rfl
set_option maxRecDepth 100000 in
theorem g139_35 : z_go zP 139 35 L (zi a :: .ref u :: S) q Q ↔ ∃ v, z_at [101] q.1 u (Int32.ofInt a) = some v ∧ z_go zP 139 36 L (v :: S) q Q := ge_lald (len := 1) (x := (0, 0, [])) p_139 rfl
set_option maxRecDepth 100000 in
theorem g139_36 : z_go zP 139 36 L (zl a :: S) q Q ↔ z_go zP 139 37 L (zi a :: S) q Q := ge_l2i (len := 1) (x := (0, 0, [])) p_139 rfl
set_option maxRecDepth 100000 in
theorem g139_37 : z_go zP 139 37 L (zi b :: zi a :: S) q Q ↔ z_go zP 139 38 L (zi (a + b) :: S) q Q := ge_iadd (len := 1) (x := (0, 0, [])) p_139 rfl
set_option maxRecDepth 100000 in
theorem g139_38 : z_go zP 139 38 [l0, l1, l2, l3, l4, l5, l6, l7, l8, l9, l10, l11, l12, l13] (zi a :: S) q Q ↔ z_go zP 139 40 [l0, l1, l2, (zkl l3), some (zi a), l5, l6, l7, l8, l9, l10, l11, l12, l13] S q Q := (by cases l3 with | none => exact ge_x (len := 2) (x := (0, 0, [])) p_139 rfl rfl | some v => cases v <;> exact ge_x (len := 2) (x := (0, 0, [])) p_139 rfl rfl)
set_option maxRecDepth 100000 in
theorem g139_40 : z_go zP 139 40 [some (.ref u), l1, l2, l3, l4, l5, l6, l7, l8, l9, l10, l11, l12, l13] S q Q ↔ z_go zP 139 41 [some (.ref u), l1, l2, l3, l4, l5, l6, l7, l8, l9, l10, l11, l12, l13] (.ref u :: S) q Q := ge_x (len := 1) (x := (0, 0, [])) p_139 rfl rfl
set_option maxRecDepth 100000 in
theorem g139_41 : z_go zP 139 41 L (.ref u :: S) q Q ↔ ∃ v, z_get [9] 5 q.1 u = some v ∧ z_go zP 139 44 L (v :: S) q Q := ge_getf (len := 3) (x := (5, 0, [9])) p_139 rfl
set_option maxRecDepth 100000 in
theorem g139_44 : z_go zP 139 44 [l0, l1, l2, some (zi a), l4, l5, l6, l7, l8, l9, l10, l11, l12, l13] S q Q ↔ z_go zP 139 45 [l0, l1, l2, some (zi a), l4, l5, l6, l7, l8, l9, l10, l11, l12, l13] (zi a :: S) q Q := ge_x (len := 1) (x := (0, 0, [])) p_139 rfl rfl
set_option maxRecDepth 100000 in
theorem g139_45 : z_go zP 139 45 L (zi a :: .ref u :: S) q Q ↔ ∃ v, z_at [99, 100] q.1 u (Int32.ofInt a) = some v ∧ z_go zP 139 46 L (v :: S) q Q := ge_iald (len := 1) (x := (0, 0, [])) p_139 rfl
set_option maxRecDepth 100000 in
theorem g139_46 : z_go zP 139 46 [l0, l1, l2, l3, l4, l5, l6, l7, l8, l9, l10, l11, l12, l13] (zi a :: S) q Q ↔ z_go zP 139 48 [l0, l1, l2, l3, (zkl l4), some (zi a), l6, l7, l8, l9, l10, l11, l12, l13] S q Q := (by cases l4 with | none => exact ge_x (len := 2) (x := (0, 0, [])) p_139 rfl rfl | some v => cases v <;> exact ge_x (len := 2) (x := (0, 0, [])) p_139 rfl rfl)
set_option maxRecDepth 100000 in
theorem g139_48 : z_go zP 139 48 L S q Q ↔ z_go zP 139 49 L (zi 2 :: S) q Q := ge_x (len := 1) (x := (0, 0, [])) p_139 rfl rfl
set_option maxRecDepth 100000 in
theorem g139_49 : z_go zP 139 49 L S q Q ↔ z_go zP 139 50 L (zi 4 :: S) q Q := ge_x (len := 1) (x := (0, 0, [])) p_139 rfl rfl
set_option maxRecDepth 100000 in
theorem g139_50 : z_go zP 139 50 [l0, l1, some (zi a), l3, l4, l5, l6, l7, l8, l9, l10, l11, l12, l13] S q Q ↔ z_go zP 139 51 [l0, l1, some (zi a), l3, l4, l5, l6, l7, l8, l9, l10, l11, l12, l13] (zi a :: S) q Q := ge_x (len := 1) (x := (0, 0, [])) p_139 rfl rfl
set_option maxRecDepth 100000 in
theorem g139_51 : z_go zP 139 51 L (zi b :: zi a :: S) q Q ↔ z_go zP 139 52 L (zi (a * b) :: S) q Q := ge_imul (len := 1) (x := (0, 0, [])) p_139 rfl
set_option maxRecDepth 100000 in
theorem g139_52 : z_go zP 139 52 L (zi b :: zi a :: S) q Q ↔ z_go zP 139 53 L (zi (a + b) :: S) q Q := ge_iadd (len := 1) (x := (0, 0, [])) p_139 rfl
set_option maxRecDepth 100000 in
theorem g139_53 : z_go zP 139 53 [l0, l1, l2, l3, l4, l5, l6, l7, l8, l9, l10, l11, l12, l13] (zi a :: S) q Q ↔ z_go zP 139 55 [l0, l1, l2, l3, l4, (zkl l5), some (zi a), l7, l8, l9, l10, l11, l12, l13] S q Q := (by cases l5 with | none => exact ge_x (len := 2) (x := (0, 0, [])) p_139 rfl rfl | some v => cases v <;> exact ge_x (len := 2) (x := (0, 0, [])) p_139 rfl rfl)
set_option maxRecDepth 100000 in
theorem g139_55 : z_go zP 139 55 L S q Q ↔ z_go zP 139 57 L (zi 18 :: S) q Q := ge_x (len := 2) (x := (0, 0, [])) p_139 rfl rfl
set_option maxRecDepth 100000 in
theorem g139_57 : z_go zP 139 57 L S q Q ↔ z_go zP 139 58 L (zi 5 :: S) q Q := ge_x (len := 1) (x := (0, 0, [])) p_139 rfl rfl
set_option maxRecDepth 100000 in
theorem g139_58 : z_go zP 139 58 [l0, l1, some (zi a), l3, l4, l5, l6, l7, l8, l9, l10, l11, l12, l13] S q Q ↔ z_go zP 139 59 [l0, l1, some (zi a), l3, l4, l5, l6, l7, l8, l9, l10, l11, l12, l13] (zi a :: S) q Q := ge_x (len := 1) (x := (0, 0, [])) p_139 rfl rfl
set_option maxRecDepth 100000 in
theorem g139_59 : z_go zP 139 59 L (zi b :: zi a :: S) q Q ↔ z_go zP 139 60 L (zi (a * b) :: S) q Q := ge_imul (len := 1) (x := (0, 0, [])) p_139 rfl
set_option maxRecDepth 100000 in
theorem g139_60 : z_go zP 139 60 L (zi b :: zi a :: S) q Q ↔ z_go zP 139 61 L (zi (a + b) :: S) q Q := ge_iadd (len := 1) (x := (0, 0, [])) p_139 rfl
set_option maxRecDepth 100000 in
theorem g139_61 : z_go zP 139 61 [l0, l1, l2, l3, l4, l5, l6, l7, l8, l9, l10, l11, l12, l13] (zi a :: S) q Q ↔ z_go zP 139 63 [l0, l1, l2, l3, l4, l5, (zkl l6), some (zi a), l8, l9, l10, l11, l12, l13] S q Q := (by cases l6 with | none => exact ge_x (len := 2) (x := (0, 0, [])) p_139 rfl rfl | some v => cases v <;> exact ge_x (len := 2) (x := (0, 0, [])) p_139 rfl rfl)
set_option maxRecDepth 100000 in
theorem g139_63 : z_go zP 139 63 [some (.ref u), l1, l2, l3, l4, l5, l6, l7, l8, l9, l10, l11, l12, l13] S q Q ↔ z_go zP 139 64 [some (.ref u), l1, l2, l3, l4, l5, l6, l7, l8, l9, l10, l11, l12, l13] (.ref u :: S) q Q := ge_x (len := 1) (x := (0, 0, [])) p_139 rfl rfl
set_option maxRecDepth 100000 in
theorem g139_64 : z_go zP 139 64 L (.ref u :: S) q Q ↔ ∃ v, z_get [9] 38 q.1 u = some v ∧ z_go zP 139 67 L (v :: S) q Q := ge_getf (len := 3) (x := (38, 0, [9])) p_139 rfl
set_option maxRecDepth 100000 in
theorem g139_67 : z_go zP 139 67 [l0, l1, l2, l3, l4, l5, some (zi a), l7, l8, l9, l10, l11, l12, l13] S q Q ↔ z_go zP 139 69 [l0, l1, l2, l3, l4, l5, some (zi a), l7, l8, l9, l10, l11, l12, l13] (zi a :: S) q Q := ge_x (len := 2) (x := (0, 0, [])) p_139 rfl rfl
set_option maxRecDepth 100000 in
theorem g139_69 : z_go zP 139 69 [some (.ref u), l1, l2, l3, l4, l5, l6, l7, l8, l9, l10, l11, l12, l13] S q Q ↔ z_go zP 139 70 [some (.ref u), l1, l2, l3, l4, l5, l6, l7, l8, l9, l10, l11, l12, l13] (.ref u :: S) q Q := ge_x (len := 1) (x := (0, 0, [])) p_139 rfl rfl
set_option maxRecDepth 100000 in
theorem g139_70 : z_go zP 139 70 L (.ref u :: S) q Q ↔ ∃ v, z_get [9] 16 q.1 u = some v ∧ z_go zP 139 73 L (v :: S) q Q := ge_getf (len := 3) (x := (16, 0, [9])) p_139 rfl
set_option maxRecDepth 100000 in
theorem g139_73 : z_go zP 139 73 [l0, l1, l2, l3, some (zi a), l5, l6, l7, l8, l9, l10, l11, l12, l13] S q Q ↔ z_go zP 139 75 [l0, l1, l2, l3, some (zi a), l5, l6, l7, l8, l9, l10, l11, l12, l13] (zi a :: S) q Q := ge_x (len := 2) (x := (0, 0, [])) p_139 rfl rfl
set_option maxRecDepth 100000 in
theorem g139_75 : z_go zP 139 75 L (zi a :: .ref u :: S) q Q ↔ ∃ v, z_at [99, 100] q.1 u (Int32.ofInt a) = some v ∧ z_go zP 139 76 L (v :: S) q Q := ge_iald (len := 1) (x := (0, 0, [])) p_139 rfl
set_option maxRecDepth 100000 in
theorem g139_76 : z_go zP 139 76 L (zi b :: zi a :: S) q Q ↔ z_go zP 139 77 L (zi (a + b) :: S) q Q := ge_iadd (len := 1) (x := (0, 0, [])) p_139 rfl
set_option maxRecDepth 100000 in
theorem g139_77 : z_go zP 139 77 L (zi a :: .ref u :: S) q Q ↔ ∃ v, z_at [101] q.1 u (Int32.ofInt a) = some v ∧ z_go zP 139 78 L (v :: S) q Q := ge_lald (len := 1) (x := (0, 0, [])) p_139 rfl
set_option maxRecDepth 100000 in
theorem g139_78 : z_go zP 139 78 [l0, l1, l2, l3, l4, l5, l6, l7, l8, l9, l10, l11, l12, l13] (zl a :: S) q Q ↔ z_go zP 139 80 [l0, l1, l2, l3, l4, l5, l6, (zkl l7), some (zl a), none, l10, l11, l12, l13] S q Q := (by cases l7 with | none => exact ge_x (len := 2) (x := (0, 0, [])) p_139 rfl rfl | some v => cases v <;> exact ge_x (len := 2) (x := (0, 0, [])) p_139 rfl rfl)
set_option maxRecDepth 100000 in
theorem g139_80 : z_go zP 139 80 [some (.ref u), l1, l2, l3, l4, l5, l6, l7, l8, l9, l10, l11, l12, l13] S q Q ↔ z_go zP 139 81 [some (.ref u), l1, l2, l3, l4, l5, l6, l7, l8, l9, l10, l11, l12, l13] (.ref u :: S) q Q := ge_x (len := 1) (x := (0, 0, [])) p_139 rfl rfl
set_option maxRecDepth 100000 in
theorem g139_81 : z_go zP 139 81 L (.ref u :: S) q Q ↔ ∃ v, z_get [9] 38 q.1 u = some v ∧ z_go zP 139 84 L (v :: S) q Q := ge_getf (len := 3) (x := (38, 0, [9])) p_139 rfl
set_option maxRecDepth 100000 in
theorem g139_84 : z_go zP 139 84 [l0, l1, l2, l3, l4, l5, some (zi a), l7, l8, l9, l10, l11, l12, l13] S q Q ↔ z_go zP 139 86 [l0, l1, l2, l3, l4, l5, some (zi a), l7, l8, l9, l10, l11, l12, l13] (zi a :: S) q Q := ge_x (len := 2) (x := (0, 0, [])) p_139 rfl rfl
set_option maxRecDepth 100000 in
theorem g139_86 : z_go zP 139 86 [some (.ref u), l1, l2, l3, l4, l5, l6, l7, l8, l9, l10, l11, l12, l13] S q Q ↔ z_go zP 139 87 [some (.ref u), l1, l2, l3, l4, l5, l6, l7, l8, l9, l10, l11, l12, l13] (.ref u :: S) q Q := ge_x (len := 1) (x := (0, 0, [])) p_139 rfl rfl
set_option maxRecDepth 100000 in
theorem g139_87 : z_go zP 139 87 L (.ref u :: S) q Q ↔ ∃ v, z_get [9] 17 q.1 u = some v ∧ z_go zP 139 90 L (v :: S) q Q := ge_getf (len := 3) (x := (17, 0, [9])) p_139 rfl
set_option maxRecDepth 100000 in
theorem g139_90 : z_go zP 139 90 [l0, l1, l2, l3, some (zi a), l5, l6, l7, l8, l9, l10, l11, l12, l13] S q Q ↔ z_go zP 139 92 [l0, l1, l2, l3, some (zi a), l5, l6, l7, l8, l9, l10, l11, l12, l13] (zi a :: S) q Q := ge_x (len := 2) (x := (0, 0, [])) p_139 rfl rfl
set_option maxRecDepth 100000 in
theorem g139_92 : z_go zP 139 92 L (zi a :: .ref u :: S) q Q ↔ ∃ v, z_at [99, 100] q.1 u (Int32.ofInt a) = some v ∧ z_go zP 139 93 L (v :: S) q Q := ge_iald (len := 1) (x := (0, 0, [])) p_139 rfl
set_option maxRecDepth 100000 in
theorem g139_93 : z_go zP 139 93 L (zi b :: zi a :: S) q Q ↔ z_go zP 139 94 L (zi (a + b) :: S) q Q := ge_iadd (len := 1) (x := (0, 0, [])) p_139 rfl
set_option maxRecDepth 100000 in
theorem g139_94 : z_go zP 139 94 L (zi a :: .ref u :: S) q Q ↔ ∃ v, z_at [101] q.1 u (Int32.ofInt a) = some v ∧ z_go zP 139 95 L (v :: S) q Q := ge_lald (len := 1) (x := (0, 0, [])) p_139 rfl
set_option maxRecDepth 100000 in
theorem g139_95 : z_go zP 139 95 [l0, l1, l2, l3, l4, l5, l6, l7, l8, l9, l10, l11, l12, l13] (zl a :: S) q Q ↔ z_go zP 139 97 [l0, l1, l2, l3, l4, l5, l6, l7, l8, (zkl l9), some (zl a), none, l12, l13] S q Q := (by cases l9 with | none => exact ge_x (len := 2) (x := (0, 0, [])) p_139 rfl rfl | some v => cases v <;> exact ge_x (len := 2) (x := (0, 0, [])) p_139 rfl rfl)
set_option maxRecDepth 100000 in
theorem g139_97 : z_go zP 139 97 [l0, l1, l2, l3, l4, l5, l6, l7, some (zl a), l9, l10, l11, l12, l13] S q Q ↔ z_go zP 139 99 [l0, l1, l2, l3, l4, l5, l6, l7, some (zl a), l9, l10, l11, l12, l13] (zl a :: S) q Q := ge_x (len := 2) (x := (0, 0, [])) p_139 rfl rfl
set_option maxRecDepth 100000 in
theorem g139_99 : z_go zP 139 99 [some (.ref u), l1, l2, l3, l4, l5, l6, l7, l8, l9, l10, l11, l12, l13] S q Q ↔ z_go zP 139 100 [some (.ref u), l1, l2, l3, l4, l5, l6, l7, l8, l9, l10, l11, l12, l13] (.ref u :: S) q Q := ge_x (len := 1) (x := (0, 0, [])) p_139 rfl rfl
set_option maxRecDepth 100000 in
theorem g139_100 : z_go zP 139 100 L (.ref u :: S) q Q ↔ ∃ v, z_get [9] 8 q.1 u = some v ∧ z_go zP 139 103 L (v :: S) q Q := ge_getf (len := 3) (x := (8, 0, [9])) p_139 rfl
set_option maxRecDepth 100000 in
theorem g139_103 : z_go zP 139 103 [l0, l1, l2, l3, l4, some (zi a), l6, l7, l8, l9, l10, l11, l12, l13] S q Q ↔ z_go zP 139 105 [l0, l1, l2, l3, l4, some (zi a), l6, l7, l8, l9, l10, l11, l12, l13] (zi a :: S) q Q := ge_x (len := 2) (x := (0, 0, [])) p_139 rfl rfl
set_option maxRecDepth 100000 in
theorem g139_105 : z_go zP 139 105 L (zi a :: .ref u :: S) q Q ↔ ∃ v, z_at [99, 100] q.1 u (Int32.ofInt a) = some v ∧ z_go zP 139 106 L (v :: S) q Q := ge_iald (len := 1) (x := (0, 0, [])) p_139 rfl
set_option maxRecDepth 100000 in
theorem g139_106 (a1 : -2147483648 ≤ a) (a2 : a < 2147483648) : z_go zP 139 106 L (zi a :: S) q Q ↔ z_go zP 139 107 L (zl a :: S) q Q := ge_i2l (len := 1) (x := (0, 0, [])) a1 a2 p_139 rfl
set_option maxRecDepth 100000 in
theorem g139_107 (a1 : -9223372036854775808 ≤ a) (a2 : a < 9223372036854775808) (b1 : 0 < b) (b2 : b < 9223372036854775808) : z_go zP 139 107 L (zl b :: zl a :: S) q Q ↔ z_go zP 139 108 L (zl (a.tmod b) :: S) q Q := ge_lrem (len := 1) (x := (0, 0, [])) a1 a2 b1 b2 p_139 rfl
set_option maxRecDepth 100000 in
theorem g139_108 : z_go zP 139 108 L (zl a :: S) q Q ↔ z_go zP 139 109 L (zi a :: S) q Q := ge_l2i (len := 1) (x := (0, 0, [])) p_139 rfl
set_option maxRecDepth 100000 in
theorem g139_109 : z_go zP 139 109 [l0, l1, l2, l3, l4, l5, l6, l7, l8, l9, l10, l11, l12, l13] (zi a :: S) q Q ↔ z_go zP 139 111 [l0, l1, l2, l3, l4, l5, l6, l7, l8, l9, l10, (zkl l11), some (zi a), l13] S q Q := (by cases l11 with | none => exact ge_x (len := 2) (x := (0, 0, [])) p_139 rfl rfl | some v => cases v <;> exact ge_x (len := 2) (x := (0, 0, [])) p_139 rfl rfl)
set_option maxRecDepth 100000 in
theorem g139_111 : z_go zP 139 111 [some (.ref u), l1, l2, l3, l4, l5, l6, l7, l8, l9, l10, l11, l12, l13] S q Q ↔ z_go zP 139 112 [some (.ref u), l1, l2, l3, l4, l5, l6, l7, l8, l9, l10, l11, l12, l13] (.ref u :: S) q Q := ge_x (len := 1) (x := (0, 0, [])) p_139 rfl rfl
set_option maxRecDepth 100000 in
theorem g139_112 : z_go zP 139 112 L (.ref u :: S) q Q ↔ ∃ v, z_get [9] 14 q.1 u = some v ∧ z_go zP 139 115 L (v :: S) q Q := ge_getf (len := 3) (x := (14, 0, [9])) p_139 rfl
set_option maxRecDepth 100000 in
theorem g139_115 : z_go zP 139 115 [l0, l1, l2, l3, some (zi a), l5, l6, l7, l8, l9, l10, l11, l12, l13] S q Q ↔ z_go zP 139 117 [l0, l1, l2, l3, some (zi a), l5, l6, l7, l8, l9, l10, l11, l12, l13] (zi a :: S) q Q := ge_x (len := 2) (x := (0, 0, [])) p_139 rfl rfl
set_option maxRecDepth 100000 in
theorem g139_117 : z_go zP 139 117 L (zi a :: .ref u :: S) q Q ↔ ∃ v, z_at [99, 100] q.1 u (Int32.ofInt a) = some v ∧ z_go zP 139 118 L (v :: S) q Q := ge_iald (len := 1) (x := (0, 0, [])) p_139 rfl
set_option maxRecDepth 100000 in
theorem g139_118 : z_go zP 139 118 L S q Q ↔ z_go zP 139 119 L (zi 5 :: S) q Q := ge_x (len := 1) (x := (0, 0, [])) p_139 rfl rfl
set_option maxRecDepth 100000 in
theorem g139_119 (a1 : -2147483648 ≤ a) (a2 : a < 2147483648) (b1 : -2147483648 ≤ b) (b2 : b < 2147483648) : z_go zP 139 119 L (zi b :: zi a :: S) q Q ↔ if ¬ a = b then z_go zP 139 197 L S q Q else z_go zP 139 122 L S q Q := ge_ic_ne (len := 3) (x := (0, 0, [])) a1 a2 b1 b2 p_139 rfl rfl
set_option maxRecDepth 100000 in
theorem g139_122 : z_go zP 139 122 [some (.ref u), l1, l2, l3, l4, l5, l6, l7, l8, l9, l10, l11, l12, l13] S q Q ↔ z_go zP 139 123 [some (.ref u), l1, l2, l3, l4, l5, l6, l7, l8, l9, l10, l11, l12, l13] (.ref u :: S) q Q := ge_x (len := 1) (x := (0, 0, [])) p_139 rfl rfl
set_option maxRecDepth 100000 in
theorem g139_123 : z_go zP 139 123 L (.ref u :: S) q Q ↔ ∃ v, z_get [9] 12 q.1 u = some v ∧ z_go zP 139 126 L (v :: S) q Q := ge_getf (len := 3) (x := (12, 0, [9])) p_139 rfl
set_option maxRecDepth 100000 in
theorem g139_126 : z_go zP 139 126 [l0, some (zi a), l2, l3, l4, l5, l6, l7, l8, l9, l10, l11, l12, l13] S q Q ↔ z_go zP 139 127 [l0, some (zi a), l2, l3, l4, l5, l6, l7, l8, l9, l10, l11, l12, l13] (zi a :: S) q Q := ge_x (len := 1) (x := (0, 0, [])) p_139 rfl rfl
set_option maxRecDepth 100000 in
theorem g139_127 : z_go zP 139 127 L (zi a :: .ref u :: S) q Q ↔ ∃ v, z_at [99, 100] q.1 u (Int32.ofInt a) = some v ∧ z_go zP 139 128 L (v :: S) q Q := ge_iald (len := 1) (x := (0, 0, [])) p_139 rfl
set_option maxRecDepth 100000 in
theorem g139_128 : z_go zP 139 128 L S q Q ↔ z_go zP 139 129 L (zi 1 :: S) q Q := ge_x (len := 1) (x := (0, 0, [])) p_139 rfl rfl
set_option maxRecDepth 100000 in
theorem g139_129 (a1 : -2147483648 ≤ a) (a2 : a < 2147483648) (b1 : -2147483648 ≤ b) (b2 : b < 2147483648) : z_go zP 139 129 L (zi b :: zi a :: S) q Q ↔ if ¬ a = b then z_go zP 139 197 L S q Q else z_go zP 139 132 L S q Q := ge_ic_ne (len := 3) (x := (0, 0, [])) a1 a2 b1 b2 p_139 rfl rfl
set_option maxRecDepth 100000 in
theorem g139_132 : z_go zP 139 132 [some (.ref u), l1, l2, l3, l4, l5, l6, l7, l8, l9, l10, l11, l12, l13] S q Q ↔ z_go zP 139 133 [some (.ref u), l1, l2, l3, l4, l5, l6, l7, l8, l9, l10, l11, l12, l13] (.ref u :: S) q Q := ge_x (len := 1) (x := (0, 0, [])) p_139 rfl rfl
set_option maxRecDepth 100000 in
theorem g139_133 : z_go zP 139 133 L (.ref u :: S) q Q ↔ ∃ v, z_get [9] 38 q.1 u = some v ∧ z_go zP 139 136 L (v :: S) q Q := ge_getf (len := 3) (x := (38, 0, [9])) p_139 rfl
set_option maxRecDepth 100000 in
theorem g139_136 : z_go zP 139 136 [l0, l1, l2, l3, l4, l5, l6, some (zi a), l8, l9, l10, l11, l12, l13] S q Q ↔ z_go zP 139 138 [l0, l1, l2, l3, l4, l5, l6, some (zi a), l8, l9, l10, l11, l12, l13] (zi a :: S) q Q := ge_x (len := 2) (x := (0, 0, [])) p_139 rfl rfl
set_option maxRecDepth 100000 in
theorem g139_138 : z_go zP 139 138 L (zi a :: .ref u :: S) q Q ↔ ∃ v, z_at [101] q.1 u (Int32.ofInt a) = some v ∧ z_go zP 139 139 L (v :: S) q Q := ge_lald (len := 1) (x := (0, 0, [])) p_139 rfl
set_option maxRecDepth 100000 in
theorem g139_139 : z_go zP 139 139 L (zl a :: S) q Q ↔ z_go zP 139 140 L (zi a :: S) q Q := ge_l2i (len := 1) (x := (0, 0, [])) p_139 rfl
set_option maxRecDepth 100000 in
theorem g139_140 : z_go zP 139 140 [l0, l1, l2, l3, l4, l5, l6, l7, l8, l9, l10, l11, l12, l13] (zi a :: S) q Q ↔ z_go zP 139 142 [l0, l1, l2, l3, l4, l5, l6, l7, l8, l9, l10, l11, (zkl l12), some (zi a)] S q Q := (by cases l12 with | none => exact ge_x (len := 2) (x := (0, 0, [])) p_139 rfl rfl | some v => cases v <;> exact ge_x (len := 2) (x := (0, 0, [])) p_139 rfl rfl)
set_option maxRecDepth 100000 in
theorem g139_142 : z_go zP 139 142 [l0, l1, l2, l3, l4, l5, l6, l7, l8, l9, l10, l11, l12, some (zi a)] S q Q ↔ z_go zP 139 144 [l0, l1, l2, l3, l4, l5, l6, l7, l8, l9, l10, l11, l12, some (zi a)] (zi a :: S) q Q := ge_x (len := 2) (x := (0, 0, [])) p_139 rfl rfl
set_option maxRecDepth 100000 in
theorem g139_144 : z_go zP 139 144 L S q Q ↔ z_go zP 139 145 L (zi 2 :: S) q Q := ge_x (len := 1) (x := (0, 0, [])) p_139 rfl rfl
set_option maxRecDepth 100000 in
theorem g139_145 (a1 : -2147483648 ≤ a) (a2 : a < 2147483648) (b1 : -2147483648 ≤ b) (b2 : b < 2147483648) : z_go zP 139 145 L (zi b :: zi a :: S) q Q ↔ if ¬ a = b then z_go zP 139 150 L S q Q else z_go zP 139 148 L S q Q := ge_ic_ne (len := 3) (x := (0, 0, [])) a1 a2 b1 b2 p_139 rfl rfl
set_option maxRecDepth 100000 in
theorem g139_148 : z_go zP 139 148 L S q Q ↔ z_go zP 139 149 L (zi 0 :: S) q Q := ge_x (len := 1) (x := (0, 0, [])) p_139 rfl rfl
set_option maxRecDepth 100000 in
theorem g139_149_0 : z_go zP 139 149 L [zi 0] q Q ↔ Q (.inl (some (zi 0))) q := z_go_rt (len := 1) (x := (0, 0, [])) p_139 rfl rfl rfl
set_option maxRecDepth 100000 in
theorem g139_149_1 : z_go zP 139 149 L [zi 1] q Q ↔ Q (.inl (some (zi 1))) q := z_go_rt (len := 1) (x := (0, 0, [])) p_139 rfl rfl rfl
set_option maxRecDepth 100000 in
theorem g139_149b {c : Prop} [Decidable c] : z_go zP 139 149 L [zi (bI c)] q Q ↔ Q (.inl (some (zi (bI c)))) q := (by rcases bI_01 (c := c) with h | h <;> rw [h] <;> exact z_go_rt (len := 1) (x := (0, 0, [])) p_139 rfl rfl rfl)
set_option maxRecDepth 100000 in
theorem g139_150 : z_go zP 139 150 [some (.ref u), l1, l2, l3, l4, l5, l6, l7, l8, l9, l10, l11, l12, l13] S q Q ↔ z_go zP 139 151 [some (.ref u), l1, l2, l3, l4, l5, l6, l7, l8, l9, l10, l11, l12, l13] (.ref u :: S) q Q := ge_x (len := 1) (x := (0, 0, [])) p_139 rfl rfl
set_option maxRecDepth 100000 in
theorem g139_151 : z_go zP 139 151 L (.ref u :: S) q Q ↔ ∃ v, z_get [9] 38 q.1 u = some v ∧ z_go zP 139 154 L (v :: S) q Q := ge_getf (len := 3) (x := (38, 0, [9])) p_139 rfl
set_option maxRecDepth 100000 in
theorem g139_154 : z_go zP 139 154 [l0, l1, l2, l3, l4, l5, l6, some (zi a), l8, l9, l10, l11, l12, l13] S q Q ↔ z_go zP 139 156 [l0, l1, l2, l3, l4, l5, l6, some (zi a), l8, l9, l10, l11, l12, l13] (zi a :: S) q Q := ge_x (len := 2) (x := (0, 0, [])) p_139 rfl rfl
set_option maxRecDepth 100000 in
theorem g139_156 : z_go zP 139 156 L S q Q ↔ z_go zP 139 157 L (zi 1 :: S) q Q := ge_x (len := 1) (x := (0, 0, [])) p_139 rfl rfl
set_option maxRecDepth 100000 in
theorem g139_157 : z_go zP 139 157 L (zi b :: zi a :: S) q Q ↔ z_go zP 139 158 L (zi (a + b) :: S) q Q := ge_iadd (len := 1) (x := (0, 0, [])) p_139 rfl
set_option maxRecDepth 100000 in
theorem g139_158 : z_go zP 139 158 L S q Q ↔ z_go zP 139 159 L (zi 2 :: S) q Q := ge_x (len := 1) (x := (0, 0, [])) p_139 rfl rfl
set_option maxRecDepth 100000 in
theorem g139_159 : z_go zP 139 159 [l0, l1, l2, l3, l4, l5, l6, l7, l8, l9, l10, l11, l12, some (zi a)] S q Q ↔ z_go zP 139 161 [l0, l1, l2, l3, l4, l5, l6, l7, l8, l9, l10, l11, l12, some (zi a)] (zi a :: S) q Q := ge_x (len := 2) (x := (0, 0, [])) p_139 rfl rfl
set_option maxRecDepth 100000 in
theorem g139_161 : z_go zP 139 161 L (zi b :: zi a :: S) q Q ↔ z_go zP 139 162 L (zi (a * b) :: S) q Q := ge_imul (len := 1) (x := (0, 0, [])) p_139 rfl
set_option maxRecDepth 100000 in
theorem g139_162 : z_go zP 139 162 L (zi b :: zi a :: S) q Q ↔ z_go zP 139 163 L (zi (a + b) :: S) q Q := ge_iadd (len := 1) (x := (0, 0, [])) p_139 rfl
set_option maxRecDepth 100000 in
theorem g139_163 : z_go zP 139 163 [l0, l1, l2, l3, l4, l5, l6, l7, l8, l9, l10, l11, some (zi a), l13] S q Q ↔ z_go zP 139 165 [l0, l1, l2, l3, l4, l5, l6, l7, l8, l9, l10, l11, some (zi a), l13] (zi a :: S) q Q := ge_x (len := 2) (x := (0, 0, [])) p_139 rfl rfl
set_option maxRecDepth 100000 in
theorem g139_165 (a1 : -2147483648 ≤ a) (a2 : a < 2147483648) : z_go zP 139 165 L (zi a :: S) q Q ↔ z_go zP 139 166 L (zl a :: S) q Q := ge_i2l (len := 1) (x := (0, 0, [])) a1 a2 p_139 rfl
set_option maxRecDepth 100000 in
theorem g139_166 : z_go zP 139 166 L (zl b :: zi a :: .ref u :: S) q Q ↔ ∃ q1, z_st 101 q u (Int32.ofInt a) (zl b) = some q1 ∧ z_go zP 139 167 L S q1 Q := ge_last (len := 1) (x := (0, 0, [])) p_139 rfl
set_option maxRecDepth 100000 in
theorem g139_167 : z_go zP 139 167 [some (.ref u), l1, l2, l3, l4, l5, l6, l7, l8, l9, l10, l11, l12, l13] S q Q ↔ z_go zP 139 168 [some (.ref u), l1, l2, l3, l4, l5, l6, l7, l8, l9, l10, l11, l12, l13] (.ref u :: S) q Q := ge_x (len := 1) (x := (0, 0, [])) p_139 rfl rfl
set_option maxRecDepth 100000 in
theorem g139_168 : z_go zP 139 168 L (.ref u :: S) q Q ↔ ∃ v, z_get [9] 38 q.1 u = some v ∧ z_go zP 139 171 L (v :: S) q Q := ge_getf (len := 3) (x := (38, 0, [9])) p_139 rfl
set_option maxRecDepth 100000 in
theorem g139_171 : z_go zP 139 171 [l0, l1, l2, l3, l4, l5, l6, some (zi a), l8, l9, l10, l11, l12, l13] S q Q ↔ z_go zP 139 173 [l0, l1, l2, l3, l4, l5, l6, some (zi a), l8, l9, l10, l11, l12, l13] (zi a :: S) q Q := ge_x (len := 2) (x := (0, 0, [])) p_139 rfl rfl
set_option maxRecDepth 100000 in
theorem g139_173 : z_go zP 139 173 L S q Q ↔ z_go zP 139 174 L (zi 2 :: S) q Q := ge_x (len := 1) (x := (0, 0, [])) p_139 rfl rfl
set_option maxRecDepth 100000 in
theorem g139_174 : z_go zP 139 174 L (zi b :: zi a :: S) q Q ↔ z_go zP 139 175 L (zi (a + b) :: S) q Q := ge_iadd (len := 1) (x := (0, 0, [])) p_139 rfl
set_option maxRecDepth 100000 in
theorem g139_175 : z_go zP 139 175 L S q Q ↔ z_go zP 139 176 L (zi 2 :: S) q Q := ge_x (len := 1) (x := (0, 0, [])) p_139 rfl rfl
set_option maxRecDepth 100000 in
theorem g139_176 : z_go zP 139 176 [l0, l1, l2, l3, l4, l5, l6, l7, l8, l9, l10, l11, l12, some (zi a)] S q Q ↔ z_go zP 139 178 [l0, l1, l2, l3, l4, l5, l6, l7, l8, l9, l10, l11, l12, some (zi a)] (zi a :: S) q Q := ge_x (len := 2) (x := (0, 0, [])) p_139 rfl rfl
set_option maxRecDepth 100000 in
theorem g139_178 : z_go zP 139 178 L (zi b :: zi a :: S) q Q ↔ z_go zP 139 179 L (zi (a * b) :: S) q Q := ge_imul (len := 1) (x := (0, 0, [])) p_139 rfl
set_option maxRecDepth 100000 in
theorem g139_179 : z_go zP 139 179 L (zi b :: zi a :: S) q Q ↔ z_go zP 139 180 L (zi (a + b) :: S) q Q := ge_iadd (len := 1) (x := (0, 0, [])) p_139 rfl
set_option maxRecDepth 100000 in
theorem g139_180 : z_go zP 139 180 [l0, l1, l2, l3, l4, l5, l6, l7, l8, l9, some (zl a), l11, l12, l13] S q Q ↔ z_go zP 139 182 [l0, l1, l2, l3, l4, l5, l6, l7, l8, l9, some (zl a), l11, l12, l13] (zl a :: S) q Q := ge_x (len := 2) (x := (0, 0, [])) p_139 rfl rfl
set_option maxRecDepth 100000 in
theorem g139_182 : z_go zP 139 182 L (zl b :: zi a :: .ref u :: S) q Q ↔ ∃ q1, z_st 101 q u (Int32.ofInt a) (zl b) = some q1 ∧ z_go zP 139 183 L S q1 Q := ge_last (len := 1) (x := (0, 0, [])) p_139 rfl
set_option maxRecDepth 100000 in
theorem g139_183 : z_go zP 139 183 [some (.ref u), l1, l2, l3, l4, l5, l6, l7, l8, l9, l10, l11, l12, l13] S q Q ↔ z_go zP 139 184 [some (.ref u), l1, l2, l3, l4, l5, l6, l7, l8, l9, l10, l11, l12, l13] (.ref u :: S) q Q := ge_x (len := 1) (x := (0, 0, [])) p_139 rfl rfl
set_option maxRecDepth 100000 in
theorem g139_184 : z_go zP 139 184 L (.ref u :: S) q Q ↔ ∃ v, z_get [9] 38 q.1 u = some v ∧ z_go zP 139 187 L (v :: S) q Q := ge_getf (len := 3) (x := (38, 0, [9])) p_139 rfl
set_option maxRecDepth 100000 in
theorem g139_187 : z_go zP 139 187 [l0, l1, l2, l3, l4, l5, l6, some (zi a), l8, l9, l10, l11, l12, l13] S q Q ↔ z_go zP 139 189 [l0, l1, l2, l3, l4, l5, l6, some (zi a), l8, l9, l10, l11, l12, l13] (zi a :: S) q Q := ge_x (len := 2) (x := (0, 0, [])) p_139 rfl rfl
set_option maxRecDepth 100000 in
theorem g139_189 : z_go zP 139 189 L (zi a :: .ref u :: S) q Q ↔ z_go zP 139 190 L (zi a :: .ref u :: zi a :: .ref u :: S) q Q := ge_x (len := 1) (x := (0, 0, [])) p_139 rfl rfl
set_option maxRecDepth 100000 in
theorem g139_190 : z_go zP 139 190 L (zi a :: .ref u :: S) q Q ↔ ∃ v, z_at [101] q.1 u (Int32.ofInt a) = some v ∧ z_go zP 139 191 L (v :: S) q Q := ge_lald (len := 1) (x := (0, 0, [])) p_139 rfl
set_option maxRecDepth 100000 in
theorem g139_191 : z_go zP 139 191 L S q Q ↔ z_go zP 139 192 L (zl 1 :: S) q Q := ge_x (len := 1) (x := (0, 0, [])) p_139 rfl rfl
set_option maxRecDepth 100000 in
theorem g139_192 : z_go zP 139 192 L (zl b :: zl a :: S) q Q ↔ z_go zP 139 193 L (zl (a + b) :: S) q Q := ge_ladd (len := 1) (x := (0, 0, [])) p_139 rfl
set_option maxRecDepth 100000 in
theorem g139_193 : z_go zP 139 193 L (zl b :: zi a :: .ref u :: S) q Q ↔ ∃ q1, z_st 101 q u (Int32.ofInt a) (zl b) = some q1 ∧ z_go zP 139 194 L S q1 Q := ge_last (len := 1) (x := (0, 0, [])) p_139 rfl
set_option maxRecDepth 100000 in
theorem g139_194 : z_go zP 139 194 L S q Q ↔ z_go zP 139 220 L S q Q := ge_to (len := 3) (x := (0, 0, [])) p_139 rfl rfl rfl
set_option maxRecDepth 100000 in
theorem g139_197 : z_go zP 139 197 [some (.ref u), l1, l2, l3, l4, l5, l6, l7, l8, l9, l10, l11, l12, l13] S q Q ↔ z_go zP 139 198 [some (.ref u), l1, l2, l3, l4, l5, l6, l7, l8, l9, l10, l11, l12, l13] (.ref u :: S) q Q := ge_x (len := 1) (x := (0, 0, [])) p_139 rfl rfl
set_option maxRecDepth 100000 in
theorem g139_198 : z_go zP 139 198 L (.ref u :: S) q Q ↔ ∃ v, z_get [9] 14 q.1 u = some v ∧ z_go zP 139 201 L (v :: S) q Q := ge_getf (len := 3) (x := (14, 0, [9])) p_139 rfl
set_option maxRecDepth 100000 in
theorem g139_201 : z_go zP 139 201 [l0, l1, l2, l3, some (zi a), l5, l6, l7, l8, l9, l10, l11, l12, l13] S q Q ↔ z_go zP 139 203 [l0, l1, l2, l3, some (zi a), l5, l6, l7, l8, l9, l10, l11, l12, l13] (zi a :: S) q Q := ge_x (len := 2) (x := (0, 0, [])) p_139 rfl rfl
set_option maxRecDepth 100000 in
theorem g139_203 : z_go zP 139 203 L (zi a :: .ref u :: S) q Q ↔ ∃ v, z_at [99, 100] q.1 u (Int32.ofInt a) = some v ∧ z_go zP 139 204 L (v :: S) q Q := ge_iald (len := 1) (x := (0, 0, [])) p_139 rfl
set_option maxRecDepth 100000 in
theorem g139_204 : z_go zP 139 204 L S q Q ↔ z_go zP 139 205 L (zi 5 :: S) q Q := ge_x (len := 1) (x := (0, 0, [])) p_139 rfl rfl
set_option maxRecDepth 100000 in
theorem g139_205 (a1 : -2147483648 ≤ a) (a2 : a < 2147483648) (b1 : -2147483648 ≤ b) (b2 : b < 2147483648) : z_go zP 139 205 L (zi b :: zi a :: S) q Q ↔ if ¬ a = b then z_go zP 139 220 L S q Q else z_go zP 139 208 L S q Q := ge_ic_ne (len := 3) (x := (0, 0, [])) a1 a2 b1 b2 p_139 rfl rfl
set_option maxRecDepth 100000 in
theorem g139_208 : z_go zP 139 208 [some (.ref u), l1, l2, l3, l4, l5, l6, l7, l8, l9, l10, l11, l12, l13] S q Q ↔ z_go zP 139 209 [some (.ref u), l1, l2, l3, l4, l5, l6, l7, l8, l9, l10, l11, l12, l13] (.ref u :: S) q Q := ge_x (len := 1) (x := (0, 0, [])) p_139 rfl rfl
set_option maxRecDepth 100000 in
theorem g139_209 : z_go zP 139 209 L (.ref u :: S) q Q ↔ ∃ v, z_get [9] 38 q.1 u = some v ∧ z_go zP 139 212 L (v :: S) q Q := ge_getf (len := 3) (x := (38, 0, [9])) p_139 rfl
set_option maxRecDepth 100000 in
theorem g139_212 : z_go zP 139 212 L S q Q ↔ z_go zP 139 214 L (zi 10 :: S) q Q := ge_x (len := 2) (x := (0, 0, [])) p_139 rfl rfl
set_option maxRecDepth 100000 in
theorem g139_214 : z_go zP 139 214 [l0, l1, l2, l3, l4, l5, l6, l7, l8, l9, l10, l11, some (zi a), l13] S q Q ↔ z_go zP 139 216 [l0, l1, l2, l3, l4, l5, l6, l7, l8, l9, l10, l11, some (zi a), l13] (zi a :: S) q Q := ge_x (len := 2) (x := (0, 0, [])) p_139 rfl rfl
set_option maxRecDepth 100000 in
theorem g139_216 : z_go zP 139 216 L (zi b :: zi a :: S) q Q ↔ z_go zP 139 217 L (zi (a + b) :: S) q Q := ge_iadd (len := 1) (x := (0, 0, [])) p_139 rfl
set_option maxRecDepth 100000 in
theorem g139_217 : z_go zP 139 217 [l0, l1, l2, l3, l4, l5, l6, l7, l8, l9, some (zl a), l11, l12, l13] S q Q ↔ z_go zP 139 219 [l0, l1, l2, l3, l4, l5, l6, l7, l8, l9, some (zl a), l11, l12, l13] (zl a :: S) q Q := ge_x (len := 2) (x := (0, 0, [])) p_139 rfl rfl
set_option maxRecDepth 100000 in
theorem g139_219 : z_go zP 139 219 L (zl b :: zi a :: .ref u :: S) q Q ↔ ∃ q1, z_st 101 q u (Int32.ofInt a) (zl b) = some q1 ∧ z_go zP 139 220 L S q1 Q := ge_last (len := 1) (x := (0, 0, [])) p_139 rfl
set_option maxRecDepth 100000 in
theorem g139_220 : z_go zP 139 220 [some (.ref u), l1, l2, l3, l4, l5, l6, l7, l8, l9, l10, l11, l12, l13] S q Q ↔ z_go zP 139 221 [some (.ref u), l1, l2, l3, l4, l5, l6, l7, l8, l9, l10, l11, l12, l13] (.ref u :: S) q Q := ge_x (len := 1) (x := (0, 0, [])) p_139 rfl rfl
set_option maxRecDepth 100000 in
theorem g139_221 : z_go zP 139 221 L (.ref u :: S) q Q ↔ ∃ v, z_get [9] 14 q.1 u = some v ∧ z_go zP 139 224 L (v :: S) q Q := ge_getf (len := 3) (x := (14, 0, [9])) p_139 rfl
set_option maxRecDepth 100000 in
theorem g139_224 : z_go zP 139 224 [l0, l1, l2, l3, some (zi a), l5, l6, l7, l8, l9, l10, l11, l12, l13] S q Q ↔ z_go zP 139 226 [l0, l1, l2, l3, some (zi a), l5, l6, l7, l8, l9, l10, l11, l12, l13] (zi a :: S) q Q := ge_x (len := 2) (x := (0, 0, [])) p_139 rfl rfl
set_option maxRecDepth 100000 in
theorem g139_226 : z_go zP 139 226 L (zi a :: .ref u :: S) q Q ↔ ∃ v, z_at [99, 100] q.1 u (Int32.ofInt a) = some v ∧ z_go zP 139 227 L (v :: S) q Q := ge_iald (len := 1) (x := (0, 0, [])) p_139 rfl
set_option maxRecDepth 100000 in
theorem g139_227 (a1 : -2147483648 ≤ a) (a2 : a < 2147483648) : z_go zP 139 227 L (zi a :: S) q Q ↔ if ¬ a = 0 then z_go zP 139 259 L S q Q else z_go zP 139 230 L S q Q := ge_if_ne (len := 3) (x := (0, 0, [])) a1 a2 p_139 rfl rfl
set_option maxRecDepth 100000 in
theorem g139_227b {c : Prop} [Decidable c] : z_go zP 139 227 L (zi (bI c) :: S) q Q ↔ if c then z_go zP 139 259 L S q Q else z_go zP 139 230 L S q Q := ge_if_ne_b (len := 3) (x := (0, 0, [])) p_139 rfl rfl
set_option maxRecDepth 100000 in
theorem g139_230 : z_go zP 139 230 [some (.ref u), l1, l2, l3, l4, l5, l6, l7, l8, l9, l10, l11, l12, l13] S q Q ↔ z_go zP 139 231 [some (.ref u), l1, l2, l3, l4, l5, l6, l7, l8, l9, l10, l11, l12, l13] (.ref u :: S) q Q := ge_x (len := 1) (x := (0, 0, [])) p_139 rfl rfl
set_option maxRecDepth 100000 in
theorem g139_231 : z_go zP 139 231 L (.ref u :: S) q Q ↔ ∃ v, z_get [9] 38 q.1 u = some v ∧ z_go zP 139 234 L (v :: S) q Q := ge_getf (len := 3) (x := (38, 0, [9])) p_139 rfl
set_option maxRecDepth 100000 in
theorem g139_234 : z_go zP 139 234 [l0, l1, l2, l3, l4, l5, some (zi a), l7, l8, l9, l10, l11, l12, l13] S q Q ↔ z_go zP 139 236 [l0, l1, l2, l3, l4, l5, some (zi a), l7, l8, l9, l10, l11, l12, l13] (zi a :: S) q Q := ge_x (len := 2) (x := (0, 0, [])) p_139 rfl rfl
set_option maxRecDepth 100000 in
theorem g139_236 : z_go zP 139 236 [some (.ref u), l1, l2, l3, l4, l5, l6, l7, l8, l9, l10, l11, l12, l13] S q Q ↔ z_go zP 139 237 [some (.ref u), l1, l2, l3, l4, l5, l6, l7, l8, l9, l10, l11, l12, l13] (.ref u :: S) q Q := ge_x (len := 1) (x := (0, 0, [])) p_139 rfl rfl
set_option maxRecDepth 100000 in
theorem g139_237 : z_go zP 139 237 L (.ref u :: S) q Q ↔ ∃ v, z_get [9] 15 q.1 u = some v ∧ z_go zP 139 240 L (v :: S) q Q := ge_getf (len := 3) (x := (15, 0, [9])) p_139 rfl
set_option maxRecDepth 100000 in
theorem g139_240 : z_go zP 139 240 [l0, l1, l2, l3, some (zi a), l5, l6, l7, l8, l9, l10, l11, l12, l13] S q Q ↔ z_go zP 139 242 [l0, l1, l2, l3, some (zi a), l5, l6, l7, l8, l9, l10, l11, l12, l13] (zi a :: S) q Q := ge_x (len := 2) (x := (0, 0, [])) p_139 rfl rfl
set_option maxRecDepth 100000 in
theorem g139_242 : z_go zP 139 242 L (zi a :: .ref u :: S) q Q ↔ ∃ v, z_at [99, 100] q.1 u (Int32.ofInt a) = some v ∧ z_go zP 139 243 L (v :: S) q Q := ge_iald (len := 1) (x := (0, 0, [])) p_139 rfl
set_option maxRecDepth 100000 in
theorem g139_243 : z_go zP 139 243 L (zi b :: zi a :: S) q Q ↔ z_go zP 139 244 L (zi (a + b) :: S) q Q := ge_iadd (len := 1) (x := (0, 0, [])) p_139 rfl
set_option maxRecDepth 100000 in
theorem g139_244 : z_go zP 139 244 [some (.ref u), l1, l2, l3, l4, l5, l6, l7, l8, l9, l10, l11, l12, l13] S q Q ↔ z_go zP 139 245 [some (.ref u), l1, l2, l3, l4, l5, l6, l7, l8, l9, l10, l11, l12, l13] (.ref u :: S) q Q := ge_x (len := 1) (x := (0, 0, [])) p_139 rfl rfl
set_option maxRecDepth 100000 in
theorem g139_245 : z_go zP 139 245 [l0, l1, l2, l3, l4, some (zi a), l6, l7, l8, l9, l10, l11, l12, l13] S q Q ↔ z_go zP 139 247 [l0, l1, l2, l3, l4, some (zi a), l6, l7, l8, l9, l10, l11, l12, l13] (zi a :: S) q Q := ge_x (len := 2) (x := (0, 0, [])) p_139 rfl rfl
set_option maxRecDepth 100000 in
theorem g139_247 : z_go zP 139 247 [some (.ref u), l1, l2, l3, l4, l5, l6, l7, l8, l9, l10, l11, l12, l13] S q Q ↔ z_go zP 139 248 [some (.ref u), l1, l2, l3, l4, l5, l6, l7, l8, l9, l10, l11, l12, l13] (.ref u :: S) q Q := ge_x (len := 1) (x := (0, 0, [])) p_139 rfl rfl
set_option maxRecDepth 100000 in
theorem g139_248 : z_go zP 139 248 L (.ref u :: S) q Q ↔ ∃ v, z_get [9] 18 q.1 u = some v ∧ z_go zP 139 251 L (v :: S) q Q := ge_getf (len := 3) (x := (18, 0, [9])) p_139 rfl
set_option maxRecDepth 100000 in
theorem g139_251 : z_go zP 139 251 [l0, l1, l2, l3, some (zi a), l5, l6, l7, l8, l9, l10, l11, l12, l13] S q Q ↔ z_go zP 139 253 [l0, l1, l2, l3, some (zi a), l5, l6, l7, l8, l9, l10, l11, l12, l13] (zi a :: S) q Q := ge_x (len := 2) (x := (0, 0, [])) p_139 rfl rfl
set_option maxRecDepth 100000 in
theorem g139_253 : z_go zP 139 253 L (zi a :: .ref u :: S) q Q ↔ ∃ v, z_at [99, 100] q.1 u (Int32.ofInt a) = some v ∧ z_go zP 139 254 L (v :: S) q Q := ge_iald (len := 1) (x := (0, 0, [])) p_139 rfl
set_option maxRecDepth 100000 in
theorem g139_254 (a1 : -2147483648 ≤ a) (a2 : a < 2147483648) : z_go zP 139 254 L (zi a :: S) q Q ↔ z_go zP 139 255 L (zl a :: S) q Q := ge_i2l (len := 1) (x := (0, 0, [])) a1 a2 p_139 rfl
set_option maxRecDepth 100000 in
theorem g139_255 : z_go zP 139 255 L [zl x1, zi x0, .ref u, r0, r1] q Q ↔ z_tg q.1 u = some 9 ∧ z_go zP 112 0 [some (.ref u), some (zi x0), some (zl x1), none] [] q (zc 139 258 L [r0, r1] Q) := ge_vc (len := 3) (pc := 255) (S := [zl x1, zi x0, .ref u, r0, r1]) (u := u) (k1 := 112) (A := [.ref u, zi x0, zl x1]) (r := [r0, r1]) (tag := 9) (n0 := 2) (zwb_le (by show 2 ≤ 4; omega)) p_139 rfl rfl rfl p_112 (by show 4 ≤ 4; omega) rfl
set_option maxRecDepth 100000 in
theorem g139_258 : z_go zP 139 258 L (zl b :: zi a :: .ref u :: S) q Q ↔ ∃ q1, z_st 101 q u (Int32.ofInt a) (zl b) = some q1 ∧ z_go zP 139 259 L S q1 Q := ge_last (len := 1) (x := (0, 0, [])) p_139 rfl
set_option maxRecDepth 100000 in
theorem g139_259 : z_go zP 139 259 [some (.ref u), l1, l2, l3, l4, l5, l6, l7, l8, l9, l10, l11, l12, l13] S q Q ↔ z_go zP 139 260 [some (.ref u), l1, l2, l3, l4, l5, l6, l7, l8, l9, l10, l11, l12, l13] (.ref u :: S) q Q := ge_x (len := 1) (x := (0, 0, [])) p_139 rfl rfl
set_option maxRecDepth 100000 in
theorem g139_260 : z_go zP 139 260 L (.ref u :: S) q Q ↔ ∃ v, z_get [9] 14 q.1 u = some v ∧ z_go zP 139 263 L (v :: S) q Q := ge_getf (len := 3) (x := (14, 0, [9])) p_139 rfl
set_option maxRecDepth 100000 in
theorem g139_263 : z_go zP 139 263 [l0, l1, l2, l3, some (zi a), l5, l6, l7, l8, l9, l10, l11, l12, l13] S q Q ↔ z_go zP 139 265 [l0, l1, l2, l3, some (zi a), l5, l6, l7, l8, l9, l10, l11, l12, l13] (zi a :: S) q Q := ge_x (len := 2) (x := (0, 0, [])) p_139 rfl rfl
set_option maxRecDepth 100000 in
theorem g139_265 : z_go zP 139 265 L (zi a :: .ref u :: S) q Q ↔ ∃ v, z_at [99, 100] q.1 u (Int32.ofInt a) = some v ∧ z_go zP 139 266 L (v :: S) q Q := ge_iald (len := 1) (x := (0, 0, [])) p_139 rfl
set_option maxRecDepth 100000 in
theorem g139_266 : z_go zP 139 266 L S q Q ↔ z_go zP 139 267 L (zi 1 :: S) q Q := ge_x (len := 1) (x := (0, 0, [])) p_139 rfl rfl
set_option maxRecDepth 100000 in
theorem g139_267 (a1 : -2147483648 ≤ a) (a2 : a < 2147483648) (b1 : -2147483648 ≤ b) (b2 : b < 2147483648) : z_go zP 139 267 L (zi b :: zi a :: S) q Q ↔ if ¬ a = b then z_go zP 139 296 L S q Q else z_go zP 139 270 L S q Q := ge_ic_ne (len := 3) (x := (0, 0, [])) a1 a2 b1 b2 p_139 rfl rfl
set_option maxRecDepth 100000 in
theorem g139_270 : z_go zP 139 270 [some (.ref u), l1, l2, l3, l4, l5, l6, l7, l8, l9, l10, l11, l12, l13] S q Q ↔ z_go zP 139 271 [some (.ref u), l1, l2, l3, l4, l5, l6, l7, l8, l9, l10, l11, l12, l13] (.ref u :: S) q Q := ge_x (len := 1) (x := (0, 0, [])) p_139 rfl rfl
set_option maxRecDepth 100000 in
theorem g139_271 : z_go zP 139 271 L (.ref u :: S) q Q ↔ ∃ v, z_get [9] 38 q.1 u = some v ∧ z_go zP 139 274 L (v :: S) q Q := ge_getf (len := 3) (x := (38, 0, [9])) p_139 rfl
set_option maxRecDepth 100000 in
theorem g139_274 : z_go zP 139 274 [l0, l1, l2, l3, l4, l5, some (zi a), l7, l8, l9, l10, l11, l12, l13] S q Q ↔ z_go zP 139 276 [l0, l1, l2, l3, l4, l5, some (zi a), l7, l8, l9, l10, l11, l12, l13] (zi a :: S) q Q := ge_x (len := 2) (x := (0, 0, [])) p_139 rfl rfl
set_option maxRecDepth 100000 in
theorem g139_276 : z_go zP 139 276 [some (.ref u), l1, l2, l3, l4, l5, l6, l7, l8, l9, l10, l11, l12, l13] S q Q ↔ z_go zP 139 277 [some (.ref u), l1, l2, l3, l4, l5, l6, l7, l8, l9, l10, l11, l12, l13] (.ref u :: S) q Q := ge_x (len := 1) (x := (0, 0, [])) p_139 rfl rfl
set_option maxRecDepth 100000 in
theorem g139_277 : z_go zP 139 277 L (.ref u :: S) q Q ↔ ∃ v, z_get [9] 15 q.1 u = some v ∧ z_go zP 139 280 L (v :: S) q Q := ge_getf (len := 3) (x := (15, 0, [9])) p_139 rfl
set_option maxRecDepth 100000 in
theorem g139_280 : z_go zP 139 280 [l0, l1, l2, l3, some (zi a), l5, l6, l7, l8, l9, l10, l11, l12, l13] S q Q ↔ z_go zP 139 282 [l0, l1, l2, l3, some (zi a), l5, l6, l7, l8, l9, l10, l11, l12, l13] (zi a :: S) q Q := ge_x (len := 2) (x := (0, 0, [])) p_139 rfl rfl
set_option maxRecDepth 100000 in
theorem g139_282 : z_go zP 139 282 L (zi a :: .ref u :: S) q Q ↔ ∃ v, z_at [99, 100] q.1 u (Int32.ofInt a) = some v ∧ z_go zP 139 283 L (v :: S) q Q := ge_iald (len := 1) (x := (0, 0, [])) p_139 rfl
set_option maxRecDepth 100000 in
theorem g139_283 : z_go zP 139 283 L (zi b :: zi a :: S) q Q ↔ z_go zP 139 284 L (zi (a + b) :: S) q Q := ge_iadd (len := 1) (x := (0, 0, [])) p_139 rfl
set_option maxRecDepth 100000 in
theorem g139_284 : z_go zP 139 284 [some (.ref u), l1, l2, l3, l4, l5, l6, l7, l8, l9, l10, l11, l12, l13] S q Q ↔ z_go zP 139 285 [some (.ref u), l1, l2, l3, l4, l5, l6, l7, l8, l9, l10, l11, l12, l13] (.ref u :: S) q Q := ge_x (len := 1) (x := (0, 0, [])) p_139 rfl rfl
set_option maxRecDepth 100000 in
theorem g139_285 : z_go zP 139 285 [l0, l1, l2, l3, l4, some (zi a), l6, l7, l8, l9, l10, l11, l12, l13] S q Q ↔ z_go zP 139 287 [l0, l1, l2, l3, l4, some (zi a), l6, l7, l8, l9, l10, l11, l12, l13] (zi a :: S) q Q := ge_x (len := 2) (x := (0, 0, [])) p_139 rfl rfl
set_option maxRecDepth 100000 in
theorem g139_287 : z_go zP 139 287 [l0, l1, l2, l3, l4, l5, l6, l7, some (zl a), l9, l10, l11, l12, l13] S q Q ↔ z_go zP 139 289 [l0, l1, l2, l3, l4, l5, l6, l7, some (zl a), l9, l10, l11, l12, l13] (zl a :: S) q Q := ge_x (len := 2) (x := (0, 0, [])) p_139 rfl rfl
set_option maxRecDepth 100000 in
theorem g139_289 : z_go zP 139 289 [l0, l1, l2, l3, l4, l5, l6, l7, l8, l9, some (zl a), l11, l12, l13] S q Q ↔ z_go zP 139 291 [l0, l1, l2, l3, l4, l5, l6, l7, l8, l9, some (zl a), l11, l12, l13] (zl a :: S) q Q := ge_x (len := 2) (x := (0, 0, [])) p_139 rfl rfl
set_option maxRecDepth 100000 in
theorem g139_291 : z_go zP 139 291 L (zl b :: zl a :: S) q Q ↔ z_go zP 139 292 L (zl (a + b) :: S) q Q := ge_ladd (len := 1) (x := (0, 0, [])) p_139 rfl
set_option maxRecDepth 100000 in
theorem g139_292 : z_go zP 139 292 L [zl x1, zi x0, .ref u, r0, r1] q Q ↔ z_tg q.1 u = some 9 ∧ z_go zP 112 0 [some (.ref u), some (zi x0), some (zl x1), none] [] q (zc 139 295 L [r0, r1] Q) := ge_vc (len := 3) (pc := 292) (S := [zl x1, zi x0, .ref u, r0, r1]) (u := u) (k1 := 112) (A := [.ref u, zi x0, zl x1]) (r := [r0, r1]) (tag := 9) (n0 := 2) (zwb_le (by show 2 ≤ 4; omega)) p_139 rfl rfl rfl p_112 (by show 4 ≤ 4; omega) rfl
set_option maxRecDepth 100000 in
theorem g139_295 : z_go zP 139 295 L (zl b :: zi a :: .ref u :: S) q Q ↔ ∃ q1, z_st 101 q u (Int32.ofInt a) (zl b) = some q1 ∧ z_go zP 139 296 L S q1 Q := ge_last (len := 1) (x := (0, 0, [])) p_139 rfl
set_option maxRecDepth 100000 in
theorem g139_296 : z_go zP 139 296 [some (.ref u), l1, l2, l3, l4, l5, l6, l7, l8, l9, l10, l11, l12, l13] S q Q ↔ z_go zP 139 297 [some (.ref u), l1, l2, l3, l4, l5, l6, l7, l8, l9, l10, l11, l12, l13] (.ref u :: S) q Q := ge_x (len := 1) (x := (0, 0, [])) p_139 rfl rfl
set_option maxRecDepth 100000 in
theorem g139_297 : z_go zP 139 297 L (.ref u :: S) q Q ↔ ∃ v, z_get [9] 14 q.1 u = some v ∧ z_go zP 139 300 L (v :: S) q Q := ge_getf (len := 3) (x := (14, 0, [9])) p_139 rfl
set_option maxRecDepth 100000 in
theorem g139_300 : z_go zP 139 300 [l0, l1, l2, l3, some (zi a), l5, l6, l7, l8, l9, l10, l11, l12, l13] S q Q ↔ z_go zP 139 302 [l0, l1, l2, l3, some (zi a), l5, l6, l7, l8, l9, l10, l11, l12, l13] (zi a :: S) q Q := ge_x (len := 2) (x := (0, 0, [])) p_139 rfl rfl
set_option maxRecDepth 100000 in
theorem g139_302 : z_go zP 139 302 L (zi a :: .ref u :: S) q Q ↔ ∃ v, z_at [99, 100] q.1 u (Int32.ofInt a) = some v ∧ z_go zP 139 303 L (v :: S) q Q := ge_iald (len := 1) (x := (0, 0, [])) p_139 rfl
set_option maxRecDepth 100000 in
theorem g139_303 : z_go zP 139 303 L S q Q ↔ z_go zP 139 304 L (zi 2 :: S) q Q := ge_x (len := 1) (x := (0, 0, [])) p_139 rfl rfl
set_option maxRecDepth 100000 in
theorem g139_304 (a1 : -2147483648 ≤ a) (a2 : a < 2147483648) (b1 : -2147483648 ≤ b) (b2 : b < 2147483648) : z_go zP 139 304 L (zi b :: zi a :: S) q Q ↔ if ¬ a = b then z_go zP 139 333 L S q Q else z_go zP 139 307 L S q Q := ge_ic_ne (len := 3) (x := (0, 0, [])) a1 a2 b1 b2 p_139 rfl rfl
set_option maxRecDepth 100000 in
theorem g139_307 : z_go zP 139 307 [some (.ref u), l1, l2, l3, l4, l5, l6, l7, l8, l9, l10, l11, l12, l13] S q Q ↔ z_go zP 139 308 [some (.ref u), l1, l2, l3, l4, l5, l6, l7, l8, l9, l10, l11, l12, l13] (.ref u :: S) q Q := ge_x (len := 1) (x := (0, 0, [])) p_139 rfl rfl
set_option maxRecDepth 100000 in
theorem g139_308 : z_go zP 139 308 L (.ref u :: S) q Q ↔ ∃ v, z_get [9] 38 q.1 u = some v ∧ z_go zP 139 311 L (v :: S) q Q := ge_getf (len := 3) (x := (38, 0, [9])) p_139 rfl
set_option maxRecDepth 100000 in
theorem g139_311 : z_go zP 139 311 [l0, l1, l2, l3, l4, l5, some (zi a), l7, l8, l9, l10, l11, l12, l13] S q Q ↔ z_go zP 139 313 [l0, l1, l2, l3, l4, l5, some (zi a), l7, l8, l9, l10, l11, l12, l13] (zi a :: S) q Q := ge_x (len := 2) (x := (0, 0, [])) p_139 rfl rfl
set_option maxRecDepth 100000 in
theorem g139_313 : z_go zP 139 313 [some (.ref u), l1, l2, l3, l4, l5, l6, l7, l8, l9, l10, l11, l12, l13] S q Q ↔ z_go zP 139 314 [some (.ref u), l1, l2, l3, l4, l5, l6, l7, l8, l9, l10, l11, l12, l13] (.ref u :: S) q Q := ge_x (len := 1) (x := (0, 0, [])) p_139 rfl rfl
set_option maxRecDepth 100000 in
theorem g139_314 : z_go zP 139 314 L (.ref u :: S) q Q ↔ ∃ v, z_get [9] 15 q.1 u = some v ∧ z_go zP 139 317 L (v :: S) q Q := ge_getf (len := 3) (x := (15, 0, [9])) p_139 rfl
set_option maxRecDepth 100000 in
theorem g139_317 : z_go zP 139 317 [l0, l1, l2, l3, some (zi a), l5, l6, l7, l8, l9, l10, l11, l12, l13] S q Q ↔ z_go zP 139 319 [l0, l1, l2, l3, some (zi a), l5, l6, l7, l8, l9, l10, l11, l12, l13] (zi a :: S) q Q := ge_x (len := 2) (x := (0, 0, [])) p_139 rfl rfl
set_option maxRecDepth 100000 in
theorem g139_319 : z_go zP 139 319 L (zi a :: .ref u :: S) q Q ↔ ∃ v, z_at [99, 100] q.1 u (Int32.ofInt a) = some v ∧ z_go zP 139 320 L (v :: S) q Q := ge_iald (len := 1) (x := (0, 0, [])) p_139 rfl
set_option maxRecDepth 100000 in
theorem g139_320 : z_go zP 139 320 L (zi b :: zi a :: S) q Q ↔ z_go zP 139 321 L (zi (a + b) :: S) q Q := ge_iadd (len := 1) (x := (0, 0, [])) p_139 rfl
set_option maxRecDepth 100000 in
theorem g139_321 : z_go zP 139 321 [some (.ref u), l1, l2, l3, l4, l5, l6, l7, l8, l9, l10, l11, l12, l13] S q Q ↔ z_go zP 139 322 [some (.ref u), l1, l2, l3, l4, l5, l6, l7, l8, l9, l10, l11, l12, l13] (.ref u :: S) q Q := ge_x (len := 1) (x := (0, 0, [])) p_139 rfl rfl
set_option maxRecDepth 100000 in
theorem g139_322 : z_go zP 139 322 [l0, l1, l2, l3, l4, some (zi a), l6, l7, l8, l9, l10, l11, l12, l13] S q Q ↔ z_go zP 139 324 [l0, l1, l2, l3, l4, some (zi a), l6, l7, l8, l9, l10, l11, l12, l13] (zi a :: S) q Q := ge_x (len := 2) (x := (0, 0, [])) p_139 rfl rfl
set_option maxRecDepth 100000 in
theorem g139_324 : z_go zP 139 324 [l0, l1, l2, l3, l4, l5, l6, l7, some (zl a), l9, l10, l11, l12, l13] S q Q ↔ z_go zP 139 326 [l0, l1, l2, l3, l4, l5, l6, l7, some (zl a), l9, l10, l11, l12, l13] (zl a :: S) q Q := ge_x (len := 2) (x := (0, 0, [])) p_139 rfl rfl
set_option maxRecDepth 100000 in
theorem g139_326 : z_go zP 139 326 [l0, l1, l2, l3, l4, l5, l6, l7, l8, l9, some (zl a), l11, l12, l13] S q Q ↔ z_go zP 139 328 [l0, l1, l2, l3, l4, l5, l6, l7, l8, l9, some (zl a), l11, l12, l13] (zl a :: S) q Q := ge_x (len := 2) (x := (0, 0, [])) p_139 rfl rfl
set_option maxRecDepth 100000 in
theorem g139_328 : z_go zP 139 328 L (zl b :: zl a :: S) q Q ↔ z_go zP 139 329 L (zl (a - b) :: S) q Q := ge_lsub (len := 1) (x := (0, 0, [])) p_139 rfl
set_option maxRecDepth 100000 in
theorem g139_329 : z_go zP 139 329 L [zl x1, zi x0, .ref u, r0, r1] q Q ↔ z_tg q.1 u = some 9 ∧ z_go zP 112 0 [some (.ref u), some (zi x0), some (zl x1), none] [] q (zc 139 332 L [r0, r1] Q) := ge_vc (len := 3) (pc := 329) (S := [zl x1, zi x0, .ref u, r0, r1]) (u := u) (k1 := 112) (A := [.ref u, zi x0, zl x1]) (r := [r0, r1]) (tag := 9) (n0 := 2) (zwb_le (by show 2 ≤ 4; omega)) p_139 rfl rfl rfl p_112 (by show 4 ≤ 4; omega) rfl
set_option maxRecDepth 100000 in
theorem g139_332 : z_go zP 139 332 L (zl b :: zi a :: .ref u :: S) q Q ↔ ∃ q1, z_st 101 q u (Int32.ofInt a) (zl b) = some q1 ∧ z_go zP 139 333 L S q1 Q := ge_last (len := 1) (x := (0, 0, [])) p_139 rfl
set_option maxRecDepth 100000 in
theorem g139_333 : z_go zP 139 333 [some (.ref u), l1, l2, l3, l4, l5, l6, l7, l8, l9, l10, l11, l12, l13] S q Q ↔ z_go zP 139 334 [some (.ref u), l1, l2, l3, l4, l5, l6, l7, l8, l9, l10, l11, l12, l13] (.ref u :: S) q Q := ge_x (len := 1) (x := (0, 0, [])) p_139 rfl rfl
set_option maxRecDepth 100000 in
theorem g139_334 : z_go zP 139 334 L (.ref u :: S) q Q ↔ ∃ v, z_get [9] 14 q.1 u = some v ∧ z_go zP 139 337 L (v :: S) q Q := ge_getf (len := 3) (x := (14, 0, [9])) p_139 rfl
set_option maxRecDepth 100000 in
theorem g139_337 : z_go zP 139 337 [l0, l1, l2, l3, some (zi a), l5, l6, l7, l8, l9, l10, l11, l12, l13] S q Q ↔ z_go zP 139 339 [l0, l1, l2, l3, some (zi a), l5, l6, l7, l8, l9, l10, l11, l12, l13] (zi a :: S) q Q := ge_x (len := 2) (x := (0, 0, [])) p_139 rfl rfl
set_option maxRecDepth 100000 in
theorem g139_339 : z_go zP 139 339 L (zi a :: .ref u :: S) q Q ↔ ∃ v, z_at [99, 100] q.1 u (Int32.ofInt a) = some v ∧ z_go zP 139 340 L (v :: S) q Q := ge_iald (len := 1) (x := (0, 0, [])) p_139 rfl
set_option maxRecDepth 100000 in
theorem g139_340 : z_go zP 139 340 L S q Q ↔ z_go zP 139 341 L (zi 3 :: S) q Q := ge_x (len := 1) (x := (0, 0, [])) p_139 rfl rfl
set_option maxRecDepth 100000 in
theorem g139_341 (a1 : -2147483648 ≤ a) (a2 : a < 2147483648) (b1 : -2147483648 ≤ b) (b2 : b < 2147483648) : z_go zP 139 341 L (zi b :: zi a :: S) q Q ↔ if ¬ a = b then z_go zP 139 364 L S q Q else z_go zP 139 344 L S q Q := ge_ic_ne (len := 3) (x := (0, 0, [])) a1 a2 b1 b2 p_139 rfl rfl
set_option maxRecDepth 100000 in
theorem g139_344 : z_go zP 139 344 [some (.ref u), l1, l2, l3, l4, l5, l6, l7, l8, l9, l10, l11, l12, l13] S q Q ↔ z_go zP 139 345 [some (.ref u), l1, l2, l3, l4, l5, l6, l7, l8, l9, l10, l11, l12, l13] (.ref u :: S) q Q := ge_x (len := 1) (x := (0, 0, [])) p_139 rfl rfl
set_option maxRecDepth 100000 in
theorem g139_345 : z_go zP 139 345 L (.ref u :: S) q Q ↔ ∃ v, z_get [9] 38 q.1 u = some v ∧ z_go zP 139 348 L (v :: S) q Q := ge_getf (len := 3) (x := (38, 0, [9])) p_139 rfl
set_option maxRecDepth 100000 in
theorem g139_348 : z_go zP 139 348 [l0, l1, l2, l3, l4, l5, some (zi a), l7, l8, l9, l10, l11, l12, l13] S q Q ↔ z_go zP 139 350 [l0, l1, l2, l3, l4, l5, some (zi a), l7, l8, l9, l10, l11, l12, l13] (zi a :: S) q Q := ge_x (len := 2) (x := (0, 0, [])) p_139 rfl rfl
set_option maxRecDepth 100000 in
theorem g139_350 : z_go zP 139 350 [some (.ref u), l1, l2, l3, l4, l5, l6, l7, l8, l9, l10, l11, l12, l13] S q Q ↔ z_go zP 139 351 [some (.ref u), l1, l2, l3, l4, l5, l6, l7, l8, l9, l10, l11, l12, l13] (.ref u :: S) q Q := ge_x (len := 1) (x := (0, 0, [])) p_139 rfl rfl
set_option maxRecDepth 100000 in
theorem g139_351 : z_go zP 139 351 L (.ref u :: S) q Q ↔ ∃ v, z_get [9] 15 q.1 u = some v ∧ z_go zP 139 354 L (v :: S) q Q := ge_getf (len := 3) (x := (15, 0, [9])) p_139 rfl
set_option maxRecDepth 100000 in
theorem g139_354 : z_go zP 139 354 [l0, l1, l2, l3, some (zi a), l5, l6, l7, l8, l9, l10, l11, l12, l13] S q Q ↔ z_go zP 139 356 [l0, l1, l2, l3, some (zi a), l5, l6, l7, l8, l9, l10, l11, l12, l13] (zi a :: S) q Q := ge_x (len := 2) (x := (0, 0, [])) p_139 rfl rfl
set_option maxRecDepth 100000 in
theorem g139_356 : z_go zP 139 356 L (zi a :: .ref u :: S) q Q ↔ ∃ v, z_at [99, 100] q.1 u (Int32.ofInt a) = some v ∧ z_go zP 139 357 L (v :: S) q Q := ge_iald (len := 1) (x := (0, 0, [])) p_139 rfl
set_option maxRecDepth 100000 in
theorem g139_357 : z_go zP 139 357 L (zi b :: zi a :: S) q Q ↔ z_go zP 139 358 L (zi (a + b) :: S) q Q := ge_iadd (len := 1) (x := (0, 0, [])) p_139 rfl
set_option maxRecDepth 100000 in
theorem g139_358 : z_go zP 139 358 [l0, l1, l2, l3, l4, l5, l6, l7, some (zl a), l9, l10, l11, l12, l13] S q Q ↔ z_go zP 139 360 [l0, l1, l2, l3, l4, l5, l6, l7, some (zl a), l9, l10, l11, l12, l13] (zl a :: S) q Q := ge_x (len := 2) (x := (0, 0, [])) p_139 rfl rfl
set_option maxRecDepth 100000 in
theorem g139_360 : z_go zP 139 360 [l0, l1, l2, l3, l4, l5, l6, l7, l8, l9, some (zl a), l11, l12, l13] S q Q ↔ z_go zP 139 362 [l0, l1, l2, l3, l4, l5, l6, l7, l8, l9, some (zl a), l11, l12, l13] (zl a :: S) q Q := ge_x (len := 2) (x := (0, 0, [])) p_139 rfl rfl
set_option maxRecDepth 100000 in
theorem g139_362 : z_go zP 139 362 L (zl b :: zl a :: S) q Q ↔ z_go zP 139 363 L (zl (lland a b) :: S) q Q := ge_land (len := 1) (x := (0, 0, [])) p_139 rfl
set_option maxRecDepth 100000 in
theorem g139_363 : z_go zP 139 363 L (zl b :: zi a :: .ref u :: S) q Q ↔ ∃ q1, z_st 101 q u (Int32.ofInt a) (zl b) = some q1 ∧ z_go zP 139 364 L S q1 Q := ge_last (len := 1) (x := (0, 0, [])) p_139 rfl
set_option maxRecDepth 100000 in
theorem g139_364 : z_go zP 139 364 [some (.ref u), l1, l2, l3, l4, l5, l6, l7, l8, l9, l10, l11, l12, l13] S q Q ↔ z_go zP 139 365 [some (.ref u), l1, l2, l3, l4, l5, l6, l7, l8, l9, l10, l11, l12, l13] (.ref u :: S) q Q := ge_x (len := 1) (x := (0, 0, [])) p_139 rfl rfl
set_option maxRecDepth 100000 in
theorem g139_365 : z_go zP 139 365 L (.ref u :: S) q Q ↔ ∃ v, z_get [9] 14 q.1 u = some v ∧ z_go zP 139 368 L (v :: S) q Q := ge_getf (len := 3) (x := (14, 0, [9])) p_139 rfl
set_option maxRecDepth 100000 in
theorem g139_368 : z_go zP 139 368 [l0, l1, l2, l3, some (zi a), l5, l6, l7, l8, l9, l10, l11, l12, l13] S q Q ↔ z_go zP 139 370 [l0, l1, l2, l3, some (zi a), l5, l6, l7, l8, l9, l10, l11, l12, l13] (zi a :: S) q Q := ge_x (len := 2) (x := (0, 0, [])) p_139 rfl rfl
set_option maxRecDepth 100000 in
theorem g139_370 : z_go zP 139 370 L (zi a :: .ref u :: S) q Q ↔ ∃ v, z_at [99, 100] q.1 u (Int32.ofInt a) = some v ∧ z_go zP 139 371 L (v :: S) q Q := ge_iald (len := 1) (x := (0, 0, [])) p_139 rfl
set_option maxRecDepth 100000 in
theorem g139_371 : z_go zP 139 371 L S q Q ↔ z_go zP 139 372 L (zi 4 :: S) q Q := ge_x (len := 1) (x := (0, 0, [])) p_139 rfl rfl
set_option maxRecDepth 100000 in
theorem g139_372 (a1 : -2147483648 ≤ a) (a2 : a < 2147483648) (b1 : -2147483648 ≤ b) (b2 : b < 2147483648) : z_go zP 139 372 L (zi b :: zi a :: S) q Q ↔ if ¬ a = b then z_go zP 139 397 L S q Q else z_go zP 139 375 L S q Q := ge_ic_ne (len := 3) (x := (0, 0, [])) a1 a2 b1 b2 p_139 rfl rfl
set_option maxRecDepth 100000 in
theorem g139_375 : z_go zP 139 375 [some (.ref u), l1, l2, l3, l4, l5, l6, l7, l8, l9, l10, l11, l12, l13] S q Q ↔ z_go zP 139 376 [some (.ref u), l1, l2, l3, l4, l5, l6, l7, l8, l9, l10, l11, l12, l13] (.ref u :: S) q Q := ge_x (len := 1) (x := (0, 0, [])) p_139 rfl rfl
set_option maxRecDepth 100000 in
theorem g139_376 : z_go zP 139 376 L (.ref u :: S) q Q ↔ ∃ v, z_get [9] 38 q.1 u = some v ∧ z_go zP 139 379 L (v :: S) q Q := ge_getf (len := 3) (x := (38, 0, [9])) p_139 rfl
set_option maxRecDepth 100000 in
theorem g139_379 : z_go zP 139 379 [l0, l1, l2, l3, l4, l5, some (zi a), l7, l8, l9, l10, l11, l12, l13] S q Q ↔ z_go zP 139 381 [l0, l1, l2, l3, l4, l5, some (zi a), l7, l8, l9, l10, l11, l12, l13] (zi a :: S) q Q := ge_x (len := 2) (x := (0, 0, [])) p_139 rfl rfl
set_option maxRecDepth 100000 in
theorem g139_381 : z_go zP 139 381 [some (.ref u), l1, l2, l3, l4, l5, l6, l7, l8, l9, l10, l11, l12, l13] S q Q ↔ z_go zP 139 382 [some (.ref u), l1, l2, l3, l4, l5, l6, l7, l8, l9, l10, l11, l12, l13] (.ref u :: S) q Q := ge_x (len := 1) (x := (0, 0, [])) p_139 rfl rfl
set_option maxRecDepth 100000 in
theorem g139_382 : z_go zP 139 382 L (.ref u :: S) q Q ↔ ∃ v, z_get [9] 15 q.1 u = some v ∧ z_go zP 139 385 L (v :: S) q Q := ge_getf (len := 3) (x := (15, 0, [9])) p_139 rfl
set_option maxRecDepth 100000 in
theorem g139_385 : z_go zP 139 385 [l0, l1, l2, l3, some (zi a), l5, l6, l7, l8, l9, l10, l11, l12, l13] S q Q ↔ z_go zP 139 387 [l0, l1, l2, l3, some (zi a), l5, l6, l7, l8, l9, l10, l11, l12, l13] (zi a :: S) q Q := ge_x (len := 2) (x := (0, 0, [])) p_139 rfl rfl
set_option maxRecDepth 100000 in
theorem g139_387 : z_go zP 139 387 L (zi a :: .ref u :: S) q Q ↔ ∃ v, z_at [99, 100] q.1 u (Int32.ofInt a) = some v ∧ z_go zP 139 388 L (v :: S) q Q := ge_iald (len := 1) (x := (0, 0, [])) p_139 rfl
set_option maxRecDepth 100000 in
theorem g139_388 : z_go zP 139 388 L (zi b :: zi a :: S) q Q ↔ z_go zP 139 389 L (zi (a + b) :: S) q Q := ge_iadd (len := 1) (x := (0, 0, [])) p_139 rfl
set_option maxRecDepth 100000 in
theorem g139_389 : z_go zP 139 389 [some (.ref u), l1, l2, l3, l4, l5, l6, l7, l8, l9, l10, l11, l12, l13] S q Q ↔ z_go zP 139 390 [some (.ref u), l1, l2, l3, l4, l5, l6, l7, l8, l9, l10, l11, l12, l13] (.ref u :: S) q Q := ge_x (len := 1) (x := (0, 0, [])) p_139 rfl rfl
set_option maxRecDepth 100000 in
theorem g139_390 : z_go zP 139 390 [l0, l1, some (zi a), l3, l4, l5, l6, l7, l8, l9, l10, l11, l12, l13] S q Q ↔ z_go zP 139 391 [l0, l1, some (zi a), l3, l4, l5, l6, l7, l8, l9, l10, l11, l12, l13] (zi a :: S) q Q := ge_x (len := 1) (x := (0, 0, [])) p_139 rfl rfl
set_option maxRecDepth 100000 in
theorem g139_391 : z_go zP 139 391 [l0, l1, l2, l3, l4, l5, l6, l7, l8, l9, l10, l11, some (zi a), l13] S q Q ↔ z_go zP 139 393 [l0, l1, l2, l3, l4, l5, l6, l7, l8, l9, l10, l11, some (zi a), l13] (zi a :: S) q Q := ge_x (len := 2) (x := (0, 0, [])) p_139 rfl rfl
set_option maxRecDepth 100000 in
theorem g139_393 : z_go zP 139 393 L [zi x1, zi x0, .ref u, r0, r1] q Q ↔ z_tg q.1 u = some 9 ∧ z_go zP 138 0 [some (.ref u), some (zi x0), some (zi x1), none, none, none, none] [] q (zc 139 396 L [r0, r1] Q) := ge_vc (len := 3) (pc := 393) (S := [zi x1, zi x0, .ref u, r0, r1]) (u := u) (k1 := 138) (A := [.ref u, zi x0, zi x1]) (r := [r0, r1]) (tag := 9) (n0 := 2) (zwb_le (by show 2 ≤ 4; omega)) p_139 rfl rfl rfl p_138 (by show 3 ≤ 7; omega) rfl
set_option maxRecDepth 100000 in
theorem g139_396 : z_go zP 139 396 L (zl b :: zi a :: .ref u :: S) q Q ↔ ∃ q1, z_st 101 q u (Int32.ofInt a) (zl b) = some q1 ∧ z_go zP 139 397 L S q1 Q := ge_last (len := 1) (x := (0, 0, [])) p_139 rfl
set_option maxRecDepth 100000 in
theorem g139_397 : z_go zP 139 397 [some (.ref u), l1, l2, l3, l4, l5, l6, l7, l8, l9, l10, l11, l12, l13] S q Q ↔ z_go zP 139 398 [some (.ref u), l1, l2, l3, l4, l5, l6, l7, l8, l9, l10, l11, l12, l13] (.ref u :: S) q Q := ge_x (len := 1) (x := (0, 0, [])) p_139 rfl rfl
set_option maxRecDepth 100000 in
theorem g139_398 : z_go zP 139 398 L (.ref u :: S) q Q ↔ ∃ v, z_get [9] 38 q.1 u = some v ∧ z_go zP 139 401 L (v :: S) q Q := ge_getf (len := 3) (x := (38, 0, [9])) p_139 rfl
set_option maxRecDepth 100000 in
theorem g139_401 : z_go zP 139 401 [l0, l1, some (zi a), l3, l4, l5, l6, l7, l8, l9, l10, l11, l12, l13] S q Q ↔ z_go zP 139 402 [l0, l1, some (zi a), l3, l4, l5, l6, l7, l8, l9, l10, l11, l12, l13] (zi a :: S) q Q := ge_x (len := 1) (x := (0, 0, [])) p_139 rfl rfl
set_option maxRecDepth 100000 in
theorem g139_402 : z_go zP 139 402 [some (.ref u), l1, l2, l3, l4, l5, l6, l7, l8, l9, l10, l11, l12, l13] S q Q ↔ z_go zP 139 403 [some (.ref u), l1, l2, l3, l4, l5, l6, l7, l8, l9, l10, l11, l12, l13] (.ref u :: S) q Q := ge_x (len := 1) (x := (0, 0, [])) p_139 rfl rfl
set_option maxRecDepth 100000 in
theorem g139_403 : z_go zP 139 403 L (.ref u :: S) q Q ↔ ∃ v, z_get [9] 14 q.1 u = some v ∧ z_go zP 139 406 L (v :: S) q Q := ge_getf (len := 3) (x := (14, 0, [9])) p_139 rfl
set_option maxRecDepth 100000 in
theorem g139_406 : z_go zP 139 406 [l0, l1, l2, l3, some (zi a), l5, l6, l7, l8, l9, l10, l11, l12, l13] S q Q ↔ z_go zP 139 408 [l0, l1, l2, l3, some (zi a), l5, l6, l7, l8, l9, l10, l11, l12, l13] (zi a :: S) q Q := ge_x (len := 2) (x := (0, 0, [])) p_139 rfl rfl
set_option maxRecDepth 100000 in
theorem g139_408 : z_go zP 139 408 L (zi a :: .ref u :: S) q Q ↔ ∃ v, z_at [99, 100] q.1 u (Int32.ofInt a) = some v ∧ z_go zP 139 409 L (v :: S) q Q := ge_iald (len := 1) (x := (0, 0, [])) p_139 rfl
set_option maxRecDepth 100000 in
theorem g139_409 : z_go zP 139 409 L S q Q ↔ z_go zP 139 411 L (zi 7 :: S) q Q := ge_x (len := 2) (x := (0, 0, [])) p_139 rfl rfl
set_option maxRecDepth 100000 in
theorem g139_411 (a1 : -2147483648 ≤ a) (a2 : a < 2147483648) (b1 : -2147483648 ≤ b) (b2 : b < 2147483648) : z_go zP 139 411 L (zi b :: zi a :: S) q Q ↔ if ¬ a = b then z_go zP 139 424 L S q Q else z_go zP 139 414 L S q Q := ge_ic_ne (len := 3) (x := (0, 0, [])) a1 a2 b1 b2 p_139 rfl rfl
set_option maxRecDepth 100000 in
theorem g139_414 : z_go zP 139 414 [some (.ref u), l1, l2, l3, l4, l5, l6, l7, l8, l9, l10, l11, l12, l13] S q Q ↔ z_go zP 139 415 [some (.ref u), l1, l2, l3, l4, l5, l6, l7, l8, l9, l10, l11, l12, l13] (.ref u :: S) q Q := ge_x (len := 1) (x := (0, 0, [])) p_139 rfl rfl
set_option maxRecDepth 100000 in
theorem g139_415 : z_go zP 139 415 L (.ref u :: S) q Q ↔ ∃ v, z_get [9] 13 q.1 u = some v ∧ z_go zP 139 418 L (v :: S) q Q := ge_getf (len := 3) (x := (13, 0, [9])) p_139 rfl
set_option maxRecDepth 100000 in
theorem g139_418 : z_go zP 139 418 [l0, l1, l2, some (zi a), l4, l5, l6, l7, l8, l9, l10, l11, l12, l13] S q Q ↔ z_go zP 139 419 [l0, l1, l2, some (zi a), l4, l5, l6, l7, l8, l9, l10, l11, l12, l13] (zi a :: S) q Q := ge_x (len := 1) (x := (0, 0, [])) p_139 rfl rfl
set_option maxRecDepth 100000 in
theorem g139_419 : z_go zP 139 419 L (zi a :: .ref u :: S) q Q ↔ ∃ v, z_at [99, 100] q.1 u (Int32.ofInt a) = some v ∧ z_go zP 139 420 L (v :: S) q Q := ge_iald (len := 1) (x := (0, 0, [])) p_139 rfl
set_option maxRecDepth 100000 in
theorem g139_420 (a1 : -2147483648 ≤ a) (a2 : a < 2147483648) : z_go zP 139 420 L (zi a :: S) q Q ↔ z_go zP 139 421 L (zl a :: S) q Q := ge_i2l (len := 1) (x := (0, 0, [])) a1 a2 p_139 rfl
set_option maxRecDepth 100000 in
theorem g139_421 : z_go zP 139 421 L S q Q ↔ z_go zP 139 472 L S q Q := ge_to (len := 3) (x := (0, 0, [])) p_139 rfl rfl rfl
set_option maxRecDepth 100000 in
theorem g139_424 : z_go zP 139 424 [some (.ref u), l1, l2, l3, l4, l5, l6, l7, l8, l9, l10, l11, l12, l13] S q Q ↔ z_go zP 139 425 [some (.ref u), l1, l2, l3, l4, l5, l6, l7, l8, l9, l10, l11, l12, l13] (.ref u :: S) q Q := ge_x (len := 1) (x := (0, 0, [])) p_139 rfl rfl
set_option maxRecDepth 100000 in
theorem g139_425 : z_go zP 139 425 L (.ref u :: S) q Q ↔ ∃ v, z_get [9] 14 q.1 u = some v ∧ z_go zP 139 428 L (v :: S) q Q := ge_getf (len := 3) (x := (14, 0, [9])) p_139 rfl
set_option maxRecDepth 100000 in
theorem g139_428 : z_go zP 139 428 [l0, l1, l2, l3, some (zi a), l5, l6, l7, l8, l9, l10, l11, l12, l13] S q Q ↔ z_go zP 139 430 [l0, l1, l2, l3, some (zi a), l5, l6, l7, l8, l9, l10, l11, l12, l13] (zi a :: S) q Q := ge_x (len := 2) (x := (0, 0, [])) p_139 rfl rfl
set_option maxRecDepth 100000 in
theorem g139_430 : z_go zP 139 430 L (zi a :: .ref u :: S) q Q ↔ ∃ v, z_at [99, 100] q.1 u (Int32.ofInt a) = some v ∧ z_go zP 139 431 L (v :: S) q Q := ge_iald (len := 1) (x := (0, 0, [])) p_139 rfl
set_option maxRecDepth 100000 in
theorem g139_431 : z_go zP 139 431 L S q Q ↔ z_go zP 139 433 L (zi 6 :: S) q Q := ge_x (len := 2) (x := (0, 0, [])) p_139 rfl rfl
set_option maxRecDepth 100000 in
theorem g139_433 (a1 : -2147483648 ≤ a) (a2 : a < 2147483648) (b1 : -2147483648 ≤ b) (b2 : b < 2147483648) : z_go zP 139 433 L (zi b :: zi a :: S) q Q ↔ if ¬ a = b then z_go zP 139 464 L S q Q else z_go zP 139 436 L S q Q := ge_ic_ne (len := 3) (x := (0, 0, [])) a1 a2 b1 b2 p_139 rfl rfl
set_option maxRecDepth 100000 in
theorem g139_436 : z_go zP 139 436 [l0, l1, l2, l3, l4, l5, l6, l7, some (zl a), l9, l10, l11, l12, l13] S q Q ↔ z_go zP 139 438 [l0, l1, l2, l3, l4, l5, l6, l7, some (zl a), l9, l10, l11, l12, l13] (zl a :: S) q Q := ge_x (len := 2) (x := (0, 0, [])) p_139 rfl rfl
set_option maxRecDepth 100000 in
theorem g139_438 : z_go zP 139 438 L S q Q ↔ z_go zP 139 439 L (zl 0 :: S) q Q := ge_x (len := 1) (x := (0, 0, [])) p_139 rfl rfl
set_option maxRecDepth 100000 in
theorem g139_439 (a1 : -9223372036854775808 ≤ a) (a2 : a < 9223372036854775808) (b1 : -9223372036854775808 ≤ b) (b2 : b < 9223372036854775808) : z_go zP 139 439 L (zl b :: zl a :: S) q Q ↔ if a = b then z_go zP 139 464 L S q Q else z_go zP 139 443 L S q Q := ge_lc_eq (len := 1) (x := (0, 0, [])) (p2 := 440) (l2 := 3) a1 a2 b1 b2 p_139 rfl rfl rfl rfl
set_option maxRecDepth 100000 in
theorem g139_443 : z_go zP 139 443 [some (.ref u), l1, l2, l3, l4, l5, l6, l7, l8, l9, l10, l11, l12, l13] S q Q ↔ z_go zP 139 444 [some (.ref u), l1, l2, l3, l4, l5, l6, l7, l8, l9, l10, l11, l12, l13] (.ref u :: S) q Q := ge_x (len := 1) (x := (0, 0, [])) p_139 rfl rfl
set_option maxRecDepth 100000 in
theorem g139_444 : z_go zP 139 444 [some (.ref u), l1, l2, l3, l4, l5, l6, l7, l8, l9, l10, l11, l12, l13] S q Q ↔ z_go zP 139 445 [some (.ref u), l1, l2, l3, l4, l5, l6, l7, l8, l9, l10, l11, l12, l13] (.ref u :: S) q Q := ge_x (len := 1) (x := (0, 0, [])) p_139 rfl rfl
set_option maxRecDepth 100000 in
theorem g139_445 : z_go zP 139 445 L (.ref u :: S) q Q ↔ ∃ v, z_get [9] 18 q.1 u = some v ∧ z_go zP 139 448 L (v :: S) q Q := ge_getf (len := 3) (x := (18, 0, [9])) p_139 rfl
set_option maxRecDepth 100000 in
theorem g139_448 : z_go zP 139 448 [l0, l1, l2, l3, some (zi a), l5, l6, l7, l8, l9, l10, l11, l12, l13] S q Q ↔ z_go zP 139 450 [l0, l1, l2, l3, some (zi a), l5, l6, l7, l8, l9, l10, l11, l12, l13] (zi a :: S) q Q := ge_x (len := 2) (x := (0, 0, [])) p_139 rfl rfl
set_option maxRecDepth 100000 in
theorem g139_450 : z_go zP 139 450 L (zi a :: .ref u :: S) q Q ↔ ∃ v, z_at [99, 100] q.1 u (Int32.ofInt a) = some v ∧ z_go zP 139 451 L (v :: S) q Q := ge_iald (len := 1) (x := (0, 0, [])) p_139 rfl
set_option maxRecDepth 100000 in
theorem g139_451 : z_go zP 139 451 [some (.ref u), l1, l2, l3, l4, l5, l6, l7, l8, l9, l10, l11, l12, l13] S q Q ↔ z_go zP 139 452 [some (.ref u), l1, l2, l3, l4, l5, l6, l7, l8, l9, l10, l11, l12, l13] (.ref u :: S) q Q := ge_x (len := 1) (x := (0, 0, [])) p_139 rfl rfl
set_option maxRecDepth 100000 in
theorem g139_452 : z_go zP 139 452 L (.ref u :: S) q Q ↔ ∃ v, z_get [9] 13 q.1 u = some v ∧ z_go zP 139 455 L (v :: S) q Q := ge_getf (len := 3) (x := (13, 0, [9])) p_139 rfl
set_option maxRecDepth 100000 in
theorem g139_455 : z_go zP 139 455 [l0, l1, l2, some (zi a), l4, l5, l6, l7, l8, l9, l10, l11, l12, l13] S q Q ↔ z_go zP 139 456 [l0, l1, l2, some (zi a), l4, l5, l6, l7, l8, l9, l10, l11, l12, l13] (zi a :: S) q Q := ge_x (len := 1) (x := (0, 0, [])) p_139 rfl rfl
set_option maxRecDepth 100000 in
theorem g139_456 : z_go zP 139 456 L (zi a :: .ref u :: S) q Q ↔ ∃ v, z_at [99, 100] q.1 u (Int32.ofInt a) = some v ∧ z_go zP 139 457 L (v :: S) q Q := ge_iald (len := 1) (x := (0, 0, [])) p_139 rfl
set_option maxRecDepth 100000 in
theorem g139_457 : z_go zP 139 457 L [zi x1, zi x0, .ref u, r0, r1] q Q ↔ z_tg q.1 u = some 9 ∧ z_go zP 113 0 [some (.ref u), some (zi x0), some (zi x1)] [] q (zc 139 460 L [r0, r1] Q) := ge_vc (len := 3) (pc := 457) (S := [zi x1, zi x0, .ref u, r0, r1]) (u := u) (k1 := 113) (A := [.ref u, zi x0, zi x1]) (r := [r0, r1]) (tag := 9) (n0 := 2) (zwb_le (by show 2 ≤ 4; omega)) p_139 rfl rfl rfl p_113 (by show 3 ≤ 3; omega) rfl
set_option maxRecDepth 100000 in
theorem g139_460 (a1 : -2147483648 ≤ a) (a2 : a < 2147483648) : z_go zP 139 460 L (zi a :: S) q Q ↔ z_go zP 139 461 L (zl a :: S) q Q := ge_i2l (len := 1) (x := (0, 0, [])) a1 a2 p_139 rfl
set_option maxRecDepth 100000 in
theorem g139_461 : z_go zP 139 461 L S q Q ↔ z_go zP 139 472 L S q Q := ge_to (len := 3) (x := (0, 0, [])) p_139 rfl rfl rfl
set_option maxRecDepth 100000 in
theorem g139_464 : z_go zP 139 464 [some (.ref u), l1, l2, l3, l4, l5, l6, l7, l8, l9, l10, l11, l12, l13] S q Q ↔ z_go zP 139 465 [some (.ref u), l1, l2, l3, l4, l5, l6, l7, l8, l9, l10, l11, l12, l13] (.ref u :: S) q Q := ge_x (len := 1) (x := (0, 0, [])) p_139 rfl rfl
set_option maxRecDepth 100000 in
theorem g139_465 : z_go zP 139 465 L (.ref u :: S) q Q ↔ ∃ v, z_get [9] 38 q.1 u = some v ∧ z_go zP 139 468 L (v :: S) q Q := ge_getf (len := 3) (x := (38, 0, [9])) p_139 rfl
set_option maxRecDepth 100000 in
theorem g139_468 : z_go zP 139 468 [l0, l1, some (zi a), l3, l4, l5, l6, l7, l8, l9, l10, l11, l12, l13] S q Q ↔ z_go zP 139 469 [l0, l1, some (zi a), l3, l4, l5, l6, l7, l8, l9, l10, l11, l12, l13] (zi a :: S) q Q := ge_x (len := 1) (x := (0, 0, [])) p_139 rfl rfl
set_option maxRecDepth 100000 in
theorem g139_469 : z_go zP 139 469 L (zi a :: .ref u :: S) q Q ↔ ∃ v, z_at [101] q.1 u (Int32.ofInt a) = some v ∧ z_go zP 139 470 L (v :: S) q Q := ge_lald (len := 1) (x := (0, 0, [])) p_139 rfl
set_option maxRecDepth 100000 in
theorem g139_470 : z_go zP 139 470 L S q Q ↔ z_go zP 139 471 L (zl 1 :: S) q Q := ge_x (len := 1) (x := (0, 0, [])) p_139 rfl rfl
set_option maxRecDepth 100000 in
theorem g139_471 : z_go zP 139 471 L (zl b :: zl a :: S) q Q ↔ z_go zP 139 472 L (zl (a + b) :: S) q Q := ge_ladd (len := 1) (x := (0, 0, [])) p_139 rfl
set_option maxRecDepth 100000 in
theorem g139_472 : z_go zP 139 472 L (zl b :: zi a :: .ref u :: S) q Q ↔ ∃ q1, z_st 101 q u (Int32.ofInt a) (zl b) = some q1 ∧ z_go zP 139 473 L S q1 Q := ge_last (len := 1) (x := (0, 0, [])) p_139 rfl
set_option maxRecDepth 100000 in
theorem g139_473 : z_go zP 139 473 L S q Q ↔ z_go zP 139 474 L (zi 1 :: S) q Q := ge_x (len := 1) (x := (0, 0, [])) p_139 rfl rfl
set_option maxRecDepth 100000 in
theorem g139_474_0 : z_go zP 139 474 L [zi 0] q Q ↔ Q (.inl (some (zi 0))) q := z_go_rt (len := 1) (x := (0, 0, [])) p_139 rfl rfl rfl
set_option maxRecDepth 100000 in
theorem g139_474_1 : z_go zP 139 474 L [zi 1] q Q ↔ Q (.inl (some (zi 1))) q := z_go_rt (len := 1) (x := (0, 0, [])) p_139 rfl rfl rfl
set_option maxRecDepth 100000 in
theorem g139_474b {c : Prop} [Decidable c] : z_go zP 139 474 L [zi (bI c)] q Q ↔ Q (.inl (some (zi (bI c)))) q := (by rcases bI_01 (c := c) with h | h <;> rw [h] <;> exact z_go_rt (len := 1) (x := (0, 0, [])) p_139 rfl rfl rfl)
theorem g140_0 : z_go zP 140 0 L S q Q ↔ z_go zP 140 2 L (zi 18 :: S) q Q := ge_x (len := 2) (x := (0, 0, [])) p_140 rfl rfl
theorem g140_2 : z_go zP 140 2 L S q Q ↔ z_go zP 140 3 L (zi 5 :: S) q Q := ge_x (len := 1) (x := (0, 0, [])) p_140 rfl rfl
theorem g140_3 : z_go zP 140 3 [l0, some (zi a), l2] S q Q ↔ z_go zP 140 4 [l0, some (zi a), l2] (zi a :: S) q Q := ge_x (len := 1) (x := (0, 0, [])) p_140 rfl rfl
theorem g140_4 : z_go zP 140 4 L (zi b :: zi a :: S) q Q ↔ z_go zP 140 5 L (zi (a * b) :: S) q Q := ge_imul (len := 1) (x := (0, 0, [])) p_140 rfl
theorem g140_5 : z_go zP 140 5 L (zi b :: zi a :: S) q Q ↔ z_go zP 140 6 L (zi (a + b) :: S) q Q := ge_iadd (len := 1) (x := (0, 0, [])) p_140 rfl
theorem g140_6 : z_go zP 140 6 [l0, l1, l2] (zi a :: S) q Q ↔ z_go zP 140 7 [l0, (zkl l1), some (zi a)] S q Q := (by cases l1 with | none => exact ge_x (len := 1) (x := (0, 0, [])) p_140 rfl rfl | some v => cases v <;> exact ge_x (len := 1) (x := (0, 0, [])) p_140 rfl rfl)
theorem g140_7 : z_go zP 140 7 [some (.ref u), l1, l2] S q Q ↔ z_go zP 140 8 [some (.ref u), l1, l2] (.ref u :: S) q Q := ge_x (len := 1) (x := (0, 0, [])) p_140 rfl rfl
theorem g140_8 : z_go zP 140 8 L (.ref u :: S) q Q ↔ ∃ v, z_get [9] 38 q.1 u = some v ∧ z_go zP 140 11 L (v :: S) q Q := ge_getf (len := 3) (x := (38, 0, [9])) p_140 rfl
theorem g140_11 : z_go zP 140 11 [l0, l1, some (zi a)] S q Q ↔ z_go zP 140 12 [l0, l1, some (zi a)] (zi a :: S) q Q := ge_x (len := 1) (x := (0, 0, [])) p_140 rfl rfl
theorem g140_12 : z_go zP 140 12 L (zi a :: .ref u :: S) q Q ↔ ∃ v, z_at [101] q.1 u (Int32.ofInt a) = some v ∧ z_go zP 140 13 L (v :: S) q Q := ge_lald (len := 1) (x := (0, 0, [])) p_140 rfl
theorem g140_13 : z_go zP 140 13 L S q Q ↔ z_go zP 140 14 L (zl 0 :: S) q Q := ge_x (len := 1) (x := (0, 0, [])) p_140 rfl rfl
theorem g140_14 (a1 : -9223372036854775808 ≤ a) (a2 : a < 9223372036854775808) (b1 : -9223372036854775808 ≤ b) (b2 : b < 9223372036854775808) : z_go zP 140 14 L (zl b :: zl a :: S) q Q ↔ if ¬ a = b then z_go zP 140 20 L S q Q else z_go zP 140 18 L S q Q := ge_lc_ne (len := 1) (x := (0, 0, [])) (p2 := 15) (l2 := 3) a1 a2 b1 b2 p_140 rfl rfl rfl rfl
theorem g140_18 : z_go zP 140 18 L S q Q ↔ z_go zP 140 19 L (zi 0 :: S) q Q := ge_x (len := 1) (x := (0, 0, [])) p_140 rfl rfl
theorem g140_19_0 : z_go zP 140 19 L [zi 0] q Q ↔ Q (.inl (some (zi 0))) q := z_go_rt (len := 1) (x := (0, 0, [])) p_140 rfl rfl rfl
theorem g140_19_1 : z_go zP 140 19 L [zi 1] q Q ↔ Q (.inl (some (zi 1))) q := z_go_rt (len := 1) (x := (0, 0, [])) p_140 rfl rfl rfl
theorem g140_19b {c : Prop} [Decidable c] : z_go zP 140 19 L [zi (bI c)] q Q ↔ Q (.inl (some (zi (bI c)))) q := (by rcases bI_01 (c := c) with h | h <;> rw [h] <;> exact z_go_rt (len := 1) (x := (0, 0, [])) p_140 rfl rfl rfl)
theorem g140_20 : z_go zP 140 20 [some (.ref u), l1, l2] S q Q ↔ z_go zP 140 21 [some (.ref u), l1, l2] (.ref u :: S) q Q := ge_x (len := 1) (x := (0, 0, [])) p_140 rfl rfl
theorem g140_21 : z_go zP 140 21 L (.ref u :: S) q Q ↔ ∃ v, z_get [9] 38 q.1 u = some v ∧ z_go zP 140 24 L (v :: S) q Q := ge_getf (len := 3) (x := (38, 0, [9])) p_140 rfl
theorem g140_24 : z_go zP 140 24 L S q Q ↔ z_go zP 140 26 L (zi 10 :: S) q Q := ge_x (len := 2) (x := (0, 0, [])) p_140 rfl rfl
theorem g140_26 : z_go zP 140 26 [some (.ref u), l1, l2] S q Q ↔ z_go zP 140 27 [some (.ref u), l1, l2] (.ref u :: S) q Q := ge_x (len := 1) (x := (0, 0, [])) p_140 rfl rfl
theorem g140_27 : z_go zP 140 27 L (.ref u :: S) q Q ↔ ∃ v, z_get [9] 38 q.1 u = some v ∧ z_go zP 140 30 L (v :: S) q Q := ge_getf (len := 3) (x := (38, 0, [9])) p_140 rfl
theorem g140_30 : z_go zP 140 30 [l0, l1, some (zi a)] S q Q ↔ z_go zP 140 31 [l0, l1, some (zi a)] (zi a :: S) q Q := ge_x (len := 1) (x := (0, 0, [])) p_140 rfl rfl
theorem g140_31 : z_go zP 140 31 L S q Q ↔ z_go zP 140 32 L (zi 1 :: S) q Q := ge_x (len := 1) (x := (0, 0, [])) p_140 rfl rfl
theorem g140_32 : z_go zP 140 32 L (zi b :: zi a :: S) q Q ↔ z_go zP 140 33 L (zi (a + b) :: S) q Q := ge_iadd (len := 1) (x := (0, 0, [])) p_140 rfl
theorem g140_33 : z_go zP 140 33 L (zi a :: .ref u :: S) q Q ↔ ∃ v, z_at [101] q.1 u (Int32.ofInt a) = some v ∧ z_go zP 140 34 L (v :: S) q Q := ge_lald (len := 1) (x := (0, 0, [])) p_140 rfl
theorem g140_34 : z_go zP 140 34 L (zl a :: S) q Q ↔ z_go zP 140 35 L (zi a :: S) q Q := ge_l2i (len := 1) (x := (0, 0, [])) p_140 rfl
theorem g140_35 : z_go zP 140 35 L (zi b :: zi a :: S) q Q ↔ z_go zP 140 36 L (zi (a + b) :: S) q Q := ge_iadd (len := 1) (x := (0, 0, [])) p_140 rfl
theorem g140_36 : z_go zP 140 36 [some (.ref u), l1, l2] S q Q ↔ z_go zP 140 37 [some (.ref u), l1, l2] (.ref u :: S) q Q := ge_x (len := 1) (x := (0, 0, [])) p_140 rfl rfl
theorem g140_37 : z_go zP 140 37 L (.ref u :: S) q Q ↔ ∃ v, z_get [9] 38 q.1 u = some v ∧ z_go zP 140 40 L (v :: S) q Q := ge_getf (len := 3) (x := (38, 0, [9])) p_140 rfl
theorem g140_40 : z_go zP 140 40 [l0, l1, some (zi a)] S q Q ↔ z_go zP 140 41 [l0, l1, some (zi a)] (zi a :: S) q Q := ge_x (len := 1) (x := (0, 0, [])) p_140 rfl rfl
theorem g140_41 : z_go zP 140 41 L S q Q ↔ z_go zP 140 42 L (zi 2 :: S) q Q := ge_x (len := 1) (x := (0, 0, [])) p_140 rfl rfl
theorem g140_42 : z_go zP 140 42 L (zi b :: zi a :: S) q Q ↔ z_go zP 140 43 L (zi (a + b) :: S) q Q := ge_iadd (len := 1) (x := (0, 0, [])) p_140 rfl
theorem g140_43 : z_go zP 140 43 L (zi a :: .ref u :: S) q Q ↔ ∃ v, z_at [101] q.1 u (Int32.ofInt a) = some v ∧ z_go zP 140 44 L (v :: S) q Q := ge_lald (len := 1) (x := (0, 0, [])) p_140 rfl
theorem g140_44 : z_go zP 140 44 L (zl b :: zi a :: .ref u :: S) q Q ↔ ∃ q1, z_st 101 q u (Int32.ofInt a) (zl b) = some q1 ∧ z_go zP 140 45 L S q1 Q := ge_last (len := 1) (x := (0, 0, [])) p_140 rfl
theorem g140_45 : z_go zP 140 45 [some (.ref u), l1, l2] S q Q ↔ z_go zP 140 46 [some (.ref u), l1, l2] (.ref u :: S) q Q := ge_x (len := 1) (x := (0, 0, [])) p_140 rfl rfl
theorem g140_46 : z_go zP 140 46 L (.ref u :: S) q Q ↔ ∃ v, z_get [9] 38 q.1 u = some v ∧ z_go zP 140 49 L (v :: S) q Q := ge_getf (len := 3) (x := (38, 0, [9])) p_140 rfl
theorem g140_49 : z_go zP 140 49 [l0, l1, some (zi a)] S q Q ↔ z_go zP 140 50 [l0, l1, some (zi a)] (zi a :: S) q Q := ge_x (len := 1) (x := (0, 0, [])) p_140 rfl rfl
theorem g140_50 : z_go zP 140 50 L S q Q ↔ z_go zP 140 51 L (zi 1 :: S) q Q := ge_x (len := 1) (x := (0, 0, [])) p_140 rfl rfl
theorem g140_51 : z_go zP 140 51 L (zi b :: zi a :: S) q Q ↔ z_go zP 140 52 L (zi (a + b) :: S) q Q := ge_iadd (len := 1) (x := (0, 0, [])) p_140 rfl
theorem g140_52 : z_go zP 140 52 [some (.ref u), l1, l2] S q Q ↔ z_go zP 140 53 [some (.ref u), l1, l2] (.ref u :: S) q Q := ge_x (len := 1) (x := (0, 0, [])) p_140 rfl rfl
theorem g140_53 : z_go zP 140 53 L (.ref u :: S) q Q ↔ ∃ v, z_get [9] 38 q.1 u = some v ∧ z_go zP 140 56 L (v :: S) q Q := ge_getf (len := 3) (x := (38, 0, [9])) p_140 rfl
theorem g140_56 : z_go zP 140 56 [l0, l1, some (zi a)] S q Q ↔ z_go zP 140 57 [l0, l1, some (zi a)] (zi a :: S) q Q := ge_x (len := 1) (x := (0, 0, [])) p_140 rfl rfl
theorem g140_57 : z_go zP 140 57 L S q Q ↔ z_go zP 140 58 L (zi 3 :: S) q Q := ge_x (len := 1) (x := (0, 0, [])) p_140 rfl rfl
theorem g140_58 : z_go zP 140 58 L (zi b :: zi a :: S) q Q ↔ z_go zP 140 59 L (zi (a + b) :: S) q Q := ge_iadd (len := 1) (x := (0, 0, [])) p_140 rfl
theorem g140_59 : z_go zP 140 59 L (zi a :: .ref u :: S) q Q ↔ ∃ v, z_at [101] q.1 u (Int32.ofInt a) = some v ∧ z_go zP 140 60 L (v :: S) q Q := ge_lald (len := 1) (x := (0, 0, [])) p_140 rfl
theorem g140_60 : z_go zP 140 60 L (zl b :: zi a :: .ref u :: S) q Q ↔ ∃ q1, z_st 101 q u (Int32.ofInt a) (zl b) = some q1 ∧ z_go zP 140 61 L S q1 Q := ge_last (len := 1) (x := (0, 0, [])) p_140 rfl
theorem g140_61 : z_go zP 140 61 [some (.ref u), l1, l2] S q Q ↔ z_go zP 140 62 [some (.ref u), l1, l2] (.ref u :: S) q Q := ge_x (len := 1) (x := (0, 0, [])) p_140 rfl rfl
theorem g140_62 : z_go zP 140 62 L (.ref u :: S) q Q ↔ ∃ v, z_get [9] 38 q.1 u = some v ∧ z_go zP 140 65 L (v :: S) q Q := ge_getf (len := 3) (x := (38, 0, [9])) p_140 rfl
theorem g140_65 : z_go zP 140 65 [l0, l1, some (zi a)] S q Q ↔ z_go zP 140 66 [l0, l1, some (zi a)] (zi a :: S) q Q := ge_x (len := 1) (x := (0, 0, [])) p_140 rfl rfl
theorem g140_66 : z_go zP 140 66 L S q Q ↔ z_go zP 140 67 L (zi 2 :: S) q Q := ge_x (len := 1) (x := (0, 0, [])) p_140 rfl rfl
theorem g140_67 : z_go zP 140 67 L (zi b :: zi a :: S) q Q ↔ z_go zP 140 68 L (zi (a + b) :: S) q Q := ge_iadd (len := 1) (x := (0, 0, [])) p_140 rfl
theorem g140_68 : z_go zP 140 68 [some (.ref u), l1, l2] S q Q ↔ z_go zP 140 69 [some (.ref u), l1, l2] (.ref u :: S) q Q := ge_x (len := 1) (x := (0, 0, [])) p_140 rfl rfl
theorem g140_69 : z_go zP 140 69 L (.ref u :: S) q Q ↔ ∃ v, z_get [9] 38 q.1 u = some v ∧ z_go zP 140 72 L (v :: S) q Q := ge_getf (len := 3) (x := (38, 0, [9])) p_140 rfl
theorem g140_72 : z_go zP 140 72 [l0, l1, some (zi a)] S q Q ↔ z_go zP 140 73 [l0, l1, some (zi a)] (zi a :: S) q Q := ge_x (len := 1) (x := (0, 0, [])) p_140 rfl rfl
theorem g140_73 : z_go zP 140 73 L S q Q ↔ z_go zP 140 74 L (zi 4 :: S) q Q := ge_x (len := 1) (x := (0, 0, [])) p_140 rfl rfl
theorem g140_74 : z_go zP 140 74 L (zi b :: zi a :: S) q Q ↔ z_go zP 140 75 L (zi (a + b) :: S) q Q := ge_iadd (len := 1) (x := (0, 0, [])) p_140 rfl
theorem g140_75 : z_go zP 140 75 L (zi a :: .ref u :: S) q Q ↔ ∃ v, z_at [101] q.1 u (Int32.ofInt a) = some v ∧ z_go zP 140 76 L (v :: S) q Q := ge_lald (len := 1) (x := (0, 0, [])) p_140 rfl
theorem g140_76 : z_go zP 140 76 L (zl b :: zi a :: .ref u :: S) q Q ↔ ∃ q1, z_st 101 q u (Int32.ofInt a) (zl b) = some q1 ∧ z_go zP 140 77 L S q1 Q := ge_last (len := 1) (x := (0, 0, [])) p_140 rfl
theorem g140_77 : z_go zP 140 77 [some (.ref u), l1, l2] S q Q ↔ z_go zP 140 78 [some (.ref u), l1, l2] (.ref u :: S) q Q := ge_x (len := 1) (x := (0, 0, [])) p_140 rfl rfl
theorem g140_78 : z_go zP 140 78 L (.ref u :: S) q Q ↔ ∃ v, z_get [9] 38 q.1 u = some v ∧ z_go zP 140 81 L (v :: S) q Q := ge_getf (len := 3) (x := (38, 0, [9])) p_140 rfl
theorem g140_81 : z_go zP 140 81 [l0, l1, some (zi a)] S q Q ↔ z_go zP 140 82 [l0, l1, some (zi a)] (zi a :: S) q Q := ge_x (len := 1) (x := (0, 0, [])) p_140 rfl rfl
theorem g140_82 : z_go zP 140 82 L S q Q ↔ z_go zP 140 83 L (zi 3 :: S) q Q := ge_x (len := 1) (x := (0, 0, [])) p_140 rfl rfl
theorem g140_83 : z_go zP 140 83 L (zi b :: zi a :: S) q Q ↔ z_go zP 140 84 L (zi (a + b) :: S) q Q := ge_iadd (len := 1) (x := (0, 0, [])) p_140 rfl
theorem g140_84 : z_go zP 140 84 L S q Q ↔ z_go zP 140 85 L (zl 0 :: S) q Q := ge_x (len := 1) (x := (0, 0, [])) p_140 rfl rfl
theorem g140_85 : z_go zP 140 85 L (zl b :: zi a :: .ref u :: S) q Q ↔ ∃ q1, z_st 101 q u (Int32.ofInt a) (zl b) = some q1 ∧ z_go zP 140 86 L S q1 Q := ge_last (len := 1) (x := (0, 0, [])) p_140 rfl
theorem g140_86 : z_go zP 140 86 [some (.ref u), l1, l2] S q Q ↔ z_go zP 140 87 [some (.ref u), l1, l2] (.ref u :: S) q Q := ge_x (len := 1) (x := (0, 0, [])) p_140 rfl rfl
theorem g140_87 : z_go zP 140 87 L (.ref u :: S) q Q ↔ ∃ v, z_get [9] 38 q.1 u = some v ∧ z_go zP 140 90 L (v :: S) q Q := ge_getf (len := 3) (x := (38, 0, [9])) p_140 rfl
theorem g140_90 : z_go zP 140 90 [l0, l1, some (zi a)] S q Q ↔ z_go zP 140 91 [l0, l1, some (zi a)] (zi a :: S) q Q := ge_x (len := 1) (x := (0, 0, [])) p_140 rfl rfl
theorem g140_91 : z_go zP 140 91 L S q Q ↔ z_go zP 140 92 L (zi 4 :: S) q Q := ge_x (len := 1) (x := (0, 0, [])) p_140 rfl rfl
theorem g140_92 : z_go zP 140 92 L (zi b :: zi a :: S) q Q ↔ z_go zP 140 93 L (zi (a + b) :: S) q Q := ge_iadd (len := 1) (x := (0, 0, [])) p_140 rfl
theorem g140_93 : z_go zP 140 93 L S q Q ↔ z_go zP 140 94 L (zl 0 :: S) q Q := ge_x (len := 1) (x := (0, 0, [])) p_140 rfl rfl
theorem g140_94 : z_go zP 140 94 L (zl b :: zi a :: .ref u :: S) q Q ↔ ∃ q1, z_st 101 q u (Int32.ofInt a) (zl b) = some q1 ∧ z_go zP 140 95 L S q1 Q := ge_last (len := 1) (x := (0, 0, [])) p_140 rfl
theorem g140_95 : z_go zP 140 95 [some (.ref u), l1, l2] S q Q ↔ z_go zP 140 96 [some (.ref u), l1, l2] (.ref u :: S) q Q := ge_x (len := 1) (x := (0, 0, [])) p_140 rfl rfl
theorem g140_96 : z_go zP 140 96 L (.ref u :: S) q Q ↔ ∃ v, z_get [9] 38 q.1 u = some v ∧ z_go zP 140 99 L (v :: S) q Q := ge_getf (len := 3) (x := (38, 0, [9])) p_140 rfl
theorem g140_99 : z_go zP 140 99 [l0, l1, some (zi a)] S q Q ↔ z_go zP 140 100 [l0, l1, some (zi a)] (zi a :: S) q Q := ge_x (len := 1) (x := (0, 0, [])) p_140 rfl rfl
theorem g140_100 : z_go zP 140 100 L (zi a :: .ref u :: S) q Q ↔ z_go zP 140 101 L (zi a :: .ref u :: zi a :: .ref u :: S) q Q := ge_x (len := 1) (x := (0, 0, [])) p_140 rfl rfl
theorem g140_101 : z_go zP 140 101 L (zi a :: .ref u :: S) q Q ↔ ∃ v, z_at [101] q.1 u (Int32.ofInt a) = some v ∧ z_go zP 140 102 L (v :: S) q Q := ge_lald (len := 1) (x := (0, 0, [])) p_140 rfl
theorem g140_102 : z_go zP 140 102 L S q Q ↔ z_go zP 140 103 L (zl 1 :: S) q Q := ge_x (len := 1) (x := (0, 0, [])) p_140 rfl rfl
theorem g140_103 : z_go zP 140 103 L (zl b :: zl a :: S) q Q ↔ z_go zP 140 104 L (zl (a - b) :: S) q Q := ge_lsub (len := 1) (x := (0, 0, [])) p_140 rfl
theorem g140_104 : z_go zP 140 104 L (zl b :: zi a :: .ref u :: S) q Q ↔ ∃ q1, z_st 101 q u (Int32.ofInt a) (zl b) = some q1 ∧ z_go zP 140 105 L S q1 Q := ge_last (len := 1) (x := (0, 0, [])) p_140 rfl
theorem g140_105 : z_go zP 140 105 [some (.ref u), l1, l2] S q Q ↔ z_go zP 140 106 [some (.ref u), l1, l2] (.ref u :: S) q Q := ge_x (len := 1) (x := (0, 0, [])) p_140 rfl rfl
theorem g140_106 : z_go zP 140 106 L (.ref u :: S) q Q ↔ ∃ v, z_get [9] 38 q.1 u = some v ∧ z_go zP 140 109 L (v :: S) q Q := ge_getf (len := 3) (x := (38, 0, [9])) p_140 rfl
theorem g140_109 : z_go zP 140 109 [l0, l1, some (zi a)] S q Q ↔ z_go zP 140 110 [l0, l1, some (zi a)] (zi a :: S) q Q := ge_x (len := 1) (x := (0, 0, [])) p_140 rfl rfl
theorem g140_110 : z_go zP 140 110 L (zi a :: .ref u :: S) q Q ↔ ∃ v, z_at [101] q.1 u (Int32.ofInt a) = some v ∧ z_go zP 140 111 L (v :: S) q Q := ge_lald (len := 1) (x := (0, 0, [])) p_140 rfl
theorem g140_111 : z_go zP 140 111 L S q Q ↔ z_go zP 140 112 L (zl 0 :: S) q Q := ge_x (len := 1) (x := (0, 0, [])) p_140 rfl rfl
theorem g140_112 (a1 : -9223372036854775808 ≤ a) (a2 : a < 9223372036854775808) (b1 : -9223372036854775808 ≤ b) (b2 : b < 9223372036854775808) : z_go zP 140 112 L (zl b :: zl a :: S) q Q ↔ if ¬ a = b then z_go zP 140 134 L S q Q else z_go zP 140 116 L S q Q := ge_lc_ne (len := 1) (x := (0, 0, [])) (p2 := 113) (l2 := 3) a1 a2 b1 b2 p_140 rfl rfl rfl rfl
theorem g140_116 : z_go zP 140 116 [some (.ref u), l1, l2] S q Q ↔ z_go zP 140 117 [some (.ref u), l1, l2] (.ref u :: S) q Q := ge_x (len := 1) (x := (0, 0, [])) p_140 rfl rfl
theorem g140_117 : z_go zP 140 117 L (.ref u :: S) q Q ↔ ∃ v, z_get [9] 38 q.1 u = some v ∧ z_go zP 140 120 L (v :: S) q Q := ge_getf (len := 3) (x := (38, 0, [9])) p_140 rfl
theorem g140_120 : z_go zP 140 120 [l0, l1, some (zi a)] S q Q ↔ z_go zP 140 121 [l0, l1, some (zi a)] (zi a :: S) q Q := ge_x (len := 1) (x := (0, 0, [])) p_140 rfl rfl
theorem g140_121 : z_go zP 140 121 L S q Q ↔ z_go zP 140 122 L (zi 1 :: S) q Q := ge_x (len := 1) (x := (0, 0, [])) p_140 rfl rfl
theorem g140_122 : z_go zP 140 122 L (zi b :: zi a :: S) q Q ↔ z_go zP 140 123 L (zi (a + b) :: S) q Q := ge_iadd (len := 1) (x := (0, 0, [])) p_140 rfl
theorem g140_123 : z_go zP 140 123 L S q Q ↔ z_go zP 140 124 L (zl 0 :: S) q Q := ge_x (len := 1) (x := (0, 0, [])) p_140 rfl rfl
theorem g140_124 : z_go zP 140 124 L (zl b :: zi a :: .ref u :: S) q Q ↔ ∃ q1, z_st 101 q u (Int32.ofInt a) (zl b) = some q1 ∧ z_go zP 140 125 L S q1 Q := ge_last (len := 1) (x := (0, 0, [])) p_140 rfl
theorem g140_125 : z_go zP 140 125 [some (.ref u), l1, l2] S q Q ↔ z_go zP 140 126 [some (.ref u), l1, l2] (.ref u :: S) q Q := ge_x (len := 1) (x := (0, 0, [])) p_140 rfl rfl
theorem g140_126 : z_go zP 140 126 L (.ref u :: S) q Q ↔ ∃ v, z_get [9] 38 q.1 u = some v ∧ z_go zP 140 129 L (v :: S) q Q := ge_getf (len := 3) (x := (38, 0, [9])) p_140 rfl
theorem g140_129 : z_go zP 140 129 [l0, l1, some (zi a)] S q Q ↔ z_go zP 140 130 [l0, l1, some (zi a)] (zi a :: S) q Q := ge_x (len := 1) (x := (0, 0, [])) p_140 rfl rfl
theorem g140_130 : z_go zP 140 130 L S q Q ↔ z_go zP 140 131 L (zi 2 :: S) q Q := ge_x (len := 1) (x := (0, 0, [])) p_140 rfl rfl
theorem g140_131 : z_go zP 140 131 L (zi b :: zi a :: S) q Q ↔ z_go zP 140 132 L (zi (a + b) :: S) q Q := ge_iadd (len := 1) (x := (0, 0, [])) p_140 rfl
theorem g140_132 : z_go zP 140 132 L S q Q ↔ z_go zP 140 133 L (zl 0 :: S) q Q := ge_x (len := 1) (x := (0, 0, [])) p_140 rfl rfl
theorem g140_133 : z_go zP 140 133 L (zl b :: zi a :: .ref u :: S) q Q ↔ ∃ q1, z_st 101 q u (Int32.ofInt a) (zl b) = some q1 ∧ z_go zP 140 134 L S q1 Q := ge_last (len := 1) (x := (0, 0, [])) p_140 rfl
theorem g140_134 : z_go zP 140 134 L S q Q ↔ z_go zP 140 135 L (zi 1 :: S) q Q := ge_x (len := 1) (x := (0, 0, [])) p_140 rfl rfl
theorem g140_135_0 : z_go zP 140 135 L [zi 0] q Q ↔ Q (.inl (some (zi 0))) q := z_go_rt (len := 1) (x := (0, 0, [])) p_140 rfl rfl rfl
theorem g140_135_1 : z_go zP 140 135 L [zi 1] q Q ↔ Q (.inl (some (zi 1))) q := z_go_rt (len := 1) (x := (0, 0, [])) p_140 rfl rfl rfl
theorem g140_135b {c : Prop} [Decidable c] : z_go zP 140 135 L [zi (bI c)] q Q ↔ Q (.inl (some (zi (bI c)))) q := (by rcases bI_01 (c := c) with h | h <;> rw [h] <;> exact z_go_rt (len := 1) (x := (0, 0, [])) p_140 rfl rfl rfl)
theorem g141_0 : z_go zP 141 0 [some (.ref u), l1] S q Q ↔ z_go zP 141 1 [some (.ref u), l1] (.ref u :: S) q Q := ge_x (len := 1) (x := (0, 0, [])) p_141 rfl rfl
theorem g141_1 : z_go zP 141 1 L (.ref u :: S) q Q ↔ ∃ v, z_get [9] 38 q.1 u = some v ∧ z_go zP 141 4 L (v :: S) q Q := ge_getf (len := 3) (x := (38, 0, [9])) p_141 rfl
theorem g141_4 : z_go zP 141 4 L S q Q ↔ z_go zP 141 5 L (zi 0 :: S) q Q := ge_x (len := 1) (x := (0, 0, [])) p_141 rfl rfl
theorem g141_5 : z_go zP 141 5 L (zi a :: .ref u :: S) q Q ↔ ∃ v, z_at [101] q.1 u (Int32.ofInt a) = some v ∧ z_go zP 141 6 L (v :: S) q Q := ge_lald (len := 1) (x := (0, 0, [])) p_141 rfl
theorem g141_6 : z_go zP 141 6 [some (.ref u), l1] S q Q ↔ z_go zP 141 7 [some (.ref u), l1] (.ref u :: S) q Q := ge_x (len := 1) (x := (0, 0, [])) p_141 rfl rfl
theorem g141_7 : z_go zP 141 7 L (.ref u :: S) q Q ↔ ∃ v, z_get [9] 13 q.1 u = some v ∧ z_go zP 141 10 L (v :: S) q Q := ge_getf (len := 3) (x := (13, 0, [9])) p_141 rfl
theorem g141_10 : z_go zP 141 10 [some (.ref u), l1] S q Q ↔ z_go zP 141 11 [some (.ref u), l1] (.ref u :: S) q Q := ge_x (len := 1) (x := (0, 0, [])) p_141 rfl rfl
theorem g141_11 : z_go zP 141 11 L (.ref u :: S) q Q ↔ ∃ v, z_get [9] 5 q.1 u = some v ∧ z_go zP 141 14 L (v :: S) q Q := ge_getf (len := 3) (x := (5, 0, [9])) p_141 rfl
theorem g141_14 : z_go zP 141 14 [l0, some (zi a)] S q Q ↔ z_go zP 141 15 [l0, some (zi a)] (zi a :: S) q Q := ge_x (len := 1) (x := (0, 0, [])) p_141 rfl rfl
theorem g141_15 : z_go zP 141 15 L (zi a :: .ref u :: S) q Q ↔ ∃ v, z_at [99, 100] q.1 u (Int32.ofInt a) = some v ∧ z_go zP 141 16 L (v :: S) q Q := ge_iald (len := 1) (x := (0, 0, [])) p_141 rfl
theorem g141_16 : z_go zP 141 16 L (zi a :: .ref u :: S) q Q ↔ ∃ v, z_at [99, 100] q.1 u (Int32.ofInt a) = some v ∧ z_go zP 141 17 L (v :: S) q Q := ge_iald (len := 1) (x := (0, 0, [])) p_141 rfl
theorem g141_17 (a1 : -2147483648 ≤ a) (a2 : a < 2147483648) : z_go zP 141 17 L (zi a :: S) q Q ↔ z_go zP 141 18 L (zl a :: S) q Q := ge_i2l (len := 1) (x := (0, 0, [])) a1 a2 p_141 rfl
theorem g141_18 (a1 : -9223372036854775808 ≤ a) (a2 : a < 9223372036854775808) (b1 : -9223372036854775808 ≤ b) (b2 : b < 9223372036854775808) : z_go zP 141 18 L (zl b :: zl a :: S) q Q ↔ if ¬ a = b then z_go zP 141 72 L S q Q else z_go zP 141 22 L S q Q := ge_lc_ne (len := 1) (x := (0, 0, [])) (p2 := 19) (l2 := 3) a1 a2 b1 b2 p_141 rfl rfl rfl rfl
theorem g141_22 : z_go zP 141 22 [some (.ref u), l1] S q Q ↔ z_go zP 141 23 [some (.ref u), l1] (.ref u :: S) q Q := ge_x (len := 1) (x := (0, 0, [])) p_141 rfl rfl
theorem g141_23 : z_go zP 141 23 L (.ref u :: S) q Q ↔ ∃ v, z_get [9] 38 q.1 u = some v ∧ z_go zP 141 26 L (v :: S) q Q := ge_getf (len := 3) (x := (38, 0, [9])) p_141 rfl
theorem g141_26 : z_go zP 141 26 L S q Q ↔ z_go zP 141 27 L (zi 1 :: S) q Q := ge_x (len := 1) (x := (0, 0, [])) p_141 rfl rfl
theorem g141_27 : z_go zP 141 27 L (zi a :: .ref u :: S) q Q ↔ ∃ v, z_at [101] q.1 u (Int32.ofInt a) = some v ∧ z_go zP 141 28 L (v :: S) q Q := ge_lald (len := 1) (x := (0, 0, [])) p_141 rfl
theorem g141_28 : z_go zP 141 28 [some (.ref u), l1] S q Q ↔ z_go zP 141 29 [some (.ref u), l1] (.ref u :: S) q Q := ge_x (len := 1) (x := (0, 0, [])) p_141 rfl rfl
theorem g141_29 : z_go zP 141 29 L (.ref u :: S) q Q ↔ ∃ v, z_get [9] 13 q.1 u = some v ∧ z_go zP 141 32 L (v :: S) q Q := ge_getf (len := 3) (x := (13, 0, [9])) p_141 rfl
theorem g141_32 : z_go zP 141 32 [some (.ref u), l1] S q Q ↔ z_go zP 141 33 [some (.ref u), l1] (.ref u :: S) q Q := ge_x (len := 1) (x := (0, 0, [])) p_141 rfl rfl
theorem g141_33 : z_go zP 141 33 L (.ref u :: S) q Q ↔ ∃ v, z_get [9] 6 q.1 u = some v ∧ z_go zP 141 36 L (v :: S) q Q := ge_getf (len := 3) (x := (6, 0, [9])) p_141 rfl
theorem g141_36 : z_go zP 141 36 [l0, some (zi a)] S q Q ↔ z_go zP 141 37 [l0, some (zi a)] (zi a :: S) q Q := ge_x (len := 1) (x := (0, 0, [])) p_141 rfl rfl
theorem g141_37 : z_go zP 141 37 L (zi a :: .ref u :: S) q Q ↔ ∃ v, z_at [99, 100] q.1 u (Int32.ofInt a) = some v ∧ z_go zP 141 38 L (v :: S) q Q := ge_iald (len := 1) (x := (0, 0, [])) p_141 rfl
theorem g141_38 : z_go zP 141 38 L (zi a :: .ref u :: S) q Q ↔ ∃ v, z_at [99, 100] q.1 u (Int32.ofInt a) = some v ∧ z_go zP 141 39 L (v :: S) q Q := ge_iald (len := 1) (x := (0, 0, [])) p_141 rfl
theorem g141_39 (a1 : -2147483648 ≤ a) (a2 : a < 2147483648) : z_go zP 141 39 L (zi a :: S) q Q ↔ z_go zP 141 40 L (zl a :: S) q Q := ge_i2l (len := 1) (x := (0, 0, [])) a1 a2 p_141 rfl
theorem g141_40 (a1 : -9223372036854775808 ≤ a) (a2 : a < 9223372036854775808) (b1 : -9223372036854775808 ≤ b) (b2 : b < 9223372036854775808) : z_go zP 141 40 L (zl b :: zl a :: S) q Q ↔ if ¬ a = b then z_go zP 141 72 L S q Q else z_go zP 141 44 L S q Q := ge_lc_ne (len := 1) (x := (0, 0, [])) (p2 := 41) (l2 := 3) a1 a2 b1 b2 p_141 rfl rfl rfl rfl
theorem g141_44 : z_go zP 141 44 [some (.ref u), l1] S q Q ↔ z_go zP 141 45 [some (.ref u), l1] (.ref u :: S) q Q := ge_x (len := 1) (x := (0, 0, [])) p_141 rfl rfl
theorem g141_45 : z_go zP 141 45 L (.ref u :: S) q Q ↔ ∃ v, z_get [9] 38 q.1 u = some v ∧ z_go zP 141 48 L (v :: S) q Q := ge_getf (len := 3) (x := (38, 0, [9])) p_141 rfl
theorem g141_48 : z_go zP 141 48 L S q Q ↔ z_go zP 141 50 L (zi 18 :: S) q Q := ge_x (len := 2) (x := (0, 0, [])) p_141 rfl rfl
theorem g141_50 : z_go zP 141 50 L (zi a :: .ref u :: S) q Q ↔ ∃ v, z_at [101] q.1 u (Int32.ofInt a) = some v ∧ z_go zP 141 51 L (v :: S) q Q := ge_lald (len := 1) (x := (0, 0, [])) p_141 rfl
theorem g141_51 : z_go zP 141 51 L S q Q ↔ z_go zP 141 52 L (zl 0 :: S) q Q := ge_x (len := 1) (x := (0, 0, [])) p_141 rfl rfl
theorem g141_52 (a1 : -9223372036854775808 ≤ a) (a2 : a < 9223372036854775808) (b1 : -9223372036854775808 ≤ b) (b2 : b < 9223372036854775808) : z_go zP 141 52 L (zl b :: zl a :: S) q Q ↔ if ¬ a = b then z_go zP 141 72 L S q Q else z_go zP 141 56 L S q Q := ge_lc_ne (len := 1) (x := (0, 0, [])) (p2 := 53) (l2 := 3) a1 a2 b1 b2 p_141 rfl rfl rfl rfl
theorem g141_56 : z_go zP 141 56 [some (.ref u), l1] S q Q ↔ z_go zP 141 57 [some (.ref u), l1] (.ref u :: S) q Q := ge_x (len := 1) (x := (0, 0, [])) p_141 rfl rfl
theorem g141_57 : z_go zP 141 57 L (.ref u :: S) q Q ↔ ∃ v, z_get [9] 38 q.1 u = some v ∧ z_go zP 141 60 L (v :: S) q Q := ge_getf (len := 3) (x := (38, 0, [9])) p_141 rfl
theorem g141_60 : z_go zP 141 60 L S q Q ↔ z_go zP 141 62 L (zi 23 :: S) q Q := ge_x (len := 2) (x := (0, 0, [])) p_141 rfl rfl
theorem g141_62 : z_go zP 141 62 L (zi a :: .ref u :: S) q Q ↔ ∃ v, z_at [101] q.1 u (Int32.ofInt a) = some v ∧ z_go zP 141 63 L (v :: S) q Q := ge_lald (len := 1) (x := (0, 0, [])) p_141 rfl
theorem g141_63 : z_go zP 141 63 L S q Q ↔ z_go zP 141 64 L (zl 0 :: S) q Q := ge_x (len := 1) (x := (0, 0, [])) p_141 rfl rfl
theorem g141_64 (a1 : -9223372036854775808 ≤ a) (a2 : a < 9223372036854775808) (b1 : -9223372036854775808 ≤ b) (b2 : b < 9223372036854775808) : z_go zP 141 64 L (zl b :: zl a :: S) q Q ↔ if ¬ a = b then z_go zP 141 72 L S q Q else z_go zP 141 68 L S q Q := ge_lc_ne (len := 1) (x := (0, 0, [])) (p2 := 65) (l2 := 3) a1 a2 b1 b2 p_141 rfl rfl rfl rfl
theorem g141_68 : z_go zP 141 68 L S q Q ↔ z_go zP 141 69 L (zi 1 :: S) q Q := ge_x (len := 1) (x := (0, 0, [])) p_141 rfl rfl
theorem g141_69 : z_go zP 141 69 L S q Q ↔ z_go zP 141 73 L S q Q := ge_to (len := 3) (x := (0, 0, [])) p_141 rfl rfl rfl
theorem g141_72 : z_go zP 141 72 L S q Q ↔ z_go zP 141 73 L (zi 0 :: S) q Q := ge_x (len := 1) (x := (0, 0, [])) p_141 rfl rfl
theorem g141_73_0 : z_go zP 141 73 L [zi 0] q Q ↔ Q (.inl (some (zi 0))) q := z_go_rt (len := 1) (x := (0, 0, [])) p_141 rfl rfl rfl
theorem g141_73_1 : z_go zP 141 73 L [zi 1] q Q ↔ Q (.inl (some (zi 1))) q := z_go_rt (len := 1) (x := (0, 0, [])) p_141 rfl rfl rfl
theorem g141_73b {c : Prop} [Decidable c] : z_go zP 141 73 L [zi (bI c)] q Q ↔ Q (.inl (some (zi (bI c)))) q := (by rcases bI_01 (c := c) with h | h <;> rw [h] <;> exact z_go_rt (len := 1) (x := (0, 0, [])) p_141 rfl rfl rfl)
theorem g142_0 : z_go zP 142 0 L S q Q ↔ z_go zP 142 1 L (zi 2 :: S) q Q := ge_x (len := 1) (x := (0, 0, [])) p_142 rfl rfl
theorem g142_1 : z_go zP 142 1 [l0, l1, l2, l3] (zi a :: S) q Q ↔ z_go zP 142 2 [l0, l1, (zkl l2), some (zi a)] S q Q := (by cases l2 with | none => exact ge_x (len := 1) (x := (0, 0, [])) p_142 rfl rfl | some v => cases v <;> exact ge_x (len := 1) (x := (0, 0, [])) p_142 rfl rfl)
theorem g142_2 : z_go zP 142 2 [l0, l1, l2, some (zi a)] S q Q ↔ z_go zP 142 3 [l0, l1, l2, some (zi a)] (zi a :: S) q Q := ge_x (len := 1) (x := (0, 0, [])) p_142 rfl rfl
theorem g142_3 : z_go zP 142 3 L S q Q ↔ z_go zP 142 5 L (zi 18 :: S) q Q := ge_x (len := 2) (x := (0, 0, [])) p_142 rfl rfl
theorem g142_5 (a1 : -2147483648 ≤ a) (a2 : a < 2147483648) (b1 : -2147483648 ≤ b) (b2 : b < 2147483648) : z_go zP 142 5 L (zi b :: zi a :: S) q Q ↔ if b ≤ a then z_go zP 142 72 L S q Q else z_go zP 142 8 L S q Q := ge_ic_ge (len := 3) (x := (0, 0, [])) a1 a2 b1 b2 p_142 rfl rfl
theorem g142_8 : z_go zP 142 8 [some (.ref u), l1, l2, l3] S q Q ↔ z_go zP 142 9 [some (.ref u), l1, l2, l3] (.ref u :: S) q Q := ge_x (len := 1) (x := (0, 0, [])) p_142 rfl rfl
theorem g142_9 : z_go zP 142 9 L (.ref u :: S) q Q ↔ ∃ v, z_get [9] 36 q.1 u = some v ∧ z_go zP 142 12 L (v :: S) q Q := ge_getf (len := 3) (x := (36, 0, [9])) p_142 rfl
theorem g142_12 : z_go zP 142 12 L S q Q ↔ z_go zP 142 14 L (zi 28 :: S) q Q := ge_x (len := 2) (x := (0, 0, [])) p_142 rfl rfl
theorem g142_14 : z_go zP 142 14 [l0, some (zi a), l2, l3] S q Q ↔ z_go zP 142 15 [l0, some (zi a), l2, l3] (zi a :: S) q Q := ge_x (len := 1) (x := (0, 0, [])) p_142 rfl rfl
theorem g142_15 : z_go zP 142 15 L (zi b :: zi a :: S) q Q ↔ z_go zP 142 16 L (zi (a * b) :: S) q Q := ge_imul (len := 1) (x := (0, 0, [])) p_142 rfl
theorem g142_16 : z_go zP 142 16 [l0, l1, l2, some (zi a)] S q Q ↔ z_go zP 142 17 [l0, l1, l2, some (zi a)] (zi a :: S) q Q := ge_x (len := 1) (x := (0, 0, [])) p_142 rfl rfl
theorem g142_17 : z_go zP 142 17 L (zi b :: zi a :: S) q Q ↔ z_go zP 142 18 L (zi (a + b) :: S) q Q := ge_iadd (len := 1) (x := (0, 0, [])) p_142 rfl
theorem g142_18 : z_go zP 142 18 L (zi a :: .ref u :: S) q Q ↔ ∃ v, z_at [101] q.1 u (Int32.ofInt a) = some v ∧ z_go zP 142 19 L (v :: S) q Q := ge_lald (len := 1) (x := (0, 0, [])) p_142 rfl
theorem g142_19 : z_go zP 142 19 [some (.ref u), l1, l2, l3] S q Q ↔ z_go zP 142 20 [some (.ref u), l1, l2, l3] (.ref u :: S) q Q := ge_x (len := 1) (x := (0, 0, [])) p_142 rfl rfl
theorem g142_20 : z_go zP 142 20 L (.ref u :: S) q Q ↔ ∃ v, z_get [9] 36 q.1 u = some v ∧ z_go zP 142 23 L (v :: S) q Q := ge_getf (len := 3) (x := (36, 0, [9])) p_142 rfl
theorem g142_23 : z_go zP 142 23 L S q Q ↔ z_go zP 142 25 L (zi 28 :: S) q Q := ge_x (len := 2) (x := (0, 0, [])) p_142 rfl rfl
theorem g142_25 : z_go zP 142 25 [l0, l1, some (zi a), l3] S q Q ↔ z_go zP 142 26 [l0, l1, some (zi a), l3] (zi a :: S) q Q := ge_x (len := 1) (x := (0, 0, [])) p_142 rfl rfl
theorem g142_26 : z_go zP 142 26 L (zi b :: zi a :: S) q Q ↔ z_go zP 142 27 L (zi (a * b) :: S) q Q := ge_imul (len := 1) (x := (0, 0, [])) p_142 rfl
theorem g142_27 : z_go zP 142 27 [l0, l1, l2, some (zi a)] S q Q ↔ z_go zP 142 28 [l0, l1, l2, some (zi a)] (zi a :: S) q Q := ge_x (len := 1) (x := (0, 0, [])) p_142 rfl rfl
theorem g142_28 : z_go zP 142 28 L (zi b :: zi a :: S) q Q ↔ z_go zP 142 29 L (zi (a + b) :: S) q Q := ge_iadd (len := 1) (x := (0, 0, [])) p_142 rfl
theorem g142_29 : z_go zP 142 29 L (zi a :: .ref u :: S) q Q ↔ ∃ v, z_at [101] q.1 u (Int32.ofInt a) = some v ∧ z_go zP 142 30 L (v :: S) q Q := ge_lald (len := 1) (x := (0, 0, [])) p_142 rfl
theorem g142_30 (a1 : -9223372036854775808 ≤ a) (a2 : a < 9223372036854775808) (b1 : -9223372036854775808 ≤ b) (b2 : b < 9223372036854775808) : z_go zP 142 30 L (zl b :: zl a :: S) q Q ↔ if a = b then z_go zP 142 66 L S q Q else z_go zP 142 34 L S q Q := ge_lc_eq (len := 1) (x := (0, 0, [])) (p2 := 31) (l2 := 3) a1 a2 b1 b2 p_142 rfl rfl rfl rfl
theorem g142_34 : z_go zP 142 34 [some (.ref u), l1, l2, l3] S q Q ↔ z_go zP 142 35 [some (.ref u), l1, l2, l3] (.ref u :: S) q Q := ge_x (len := 1) (x := (0, 0, [])) p_142 rfl rfl
theorem g142_35 : z_go zP 142 35 L (.ref u :: S) q Q ↔ ∃ v, z_get [9] 36 q.1 u = some v ∧ z_go zP 142 38 L (v :: S) q Q := ge_getf (len := 3) (x := (36, 0, [9])) p_142 rfl
theorem g142_38 : z_go zP 142 38 L S q Q ↔ z_go zP 142 40 L (zi 28 :: S) q Q := ge_x (len := 2) (x := (0, 0, [])) p_142 rfl rfl
theorem g142_40 : z_go zP 142 40 [l0, some (zi a), l2, l3] S q Q ↔ z_go zP 142 41 [l0, some (zi a), l2, l3] (zi a :: S) q Q := ge_x (len := 1) (x := (0, 0, [])) p_142 rfl rfl
theorem g142_41 : z_go zP 142 41 L (zi b :: zi a :: S) q Q ↔ z_go zP 142 42 L (zi (a * b) :: S) q Q := ge_imul (len := 1) (x := (0, 0, [])) p_142 rfl
theorem g142_42 : z_go zP 142 42 [l0, l1, l2, some (zi a)] S q Q ↔ z_go zP 142 43 [l0, l1, l2, some (zi a)] (zi a :: S) q Q := ge_x (len := 1) (x := (0, 0, [])) p_142 rfl rfl
theorem g142_43 : z_go zP 142 43 L (zi b :: zi a :: S) q Q ↔ z_go zP 142 44 L (zi (a + b) :: S) q Q := ge_iadd (len := 1) (x := (0, 0, [])) p_142 rfl
theorem g142_44 : z_go zP 142 44 L (zi a :: .ref u :: S) q Q ↔ ∃ v, z_at [101] q.1 u (Int32.ofInt a) = some v ∧ z_go zP 142 45 L (v :: S) q Q := ge_lald (len := 1) (x := (0, 0, [])) p_142 rfl
theorem g142_45 : z_go zP 142 45 [some (.ref u), l1, l2, l3] S q Q ↔ z_go zP 142 46 [some (.ref u), l1, l2, l3] (.ref u :: S) q Q := ge_x (len := 1) (x := (0, 0, [])) p_142 rfl rfl
theorem g142_46 : z_go zP 142 46 L (.ref u :: S) q Q ↔ ∃ v, z_get [9] 36 q.1 u = some v ∧ z_go zP 142 49 L (v :: S) q Q := ge_getf (len := 3) (x := (36, 0, [9])) p_142 rfl
theorem g142_49 : z_go zP 142 49 L S q Q ↔ z_go zP 142 51 L (zi 28 :: S) q Q := ge_x (len := 2) (x := (0, 0, [])) p_142 rfl rfl
theorem g142_51 : z_go zP 142 51 [l0, l1, some (zi a), l3] S q Q ↔ z_go zP 142 52 [l0, l1, some (zi a), l3] (zi a :: S) q Q := ge_x (len := 1) (x := (0, 0, [])) p_142 rfl rfl
theorem g142_52 : z_go zP 142 52 L (zi b :: zi a :: S) q Q ↔ z_go zP 142 53 L (zi (a * b) :: S) q Q := ge_imul (len := 1) (x := (0, 0, [])) p_142 rfl
theorem g142_53 : z_go zP 142 53 [l0, l1, l2, some (zi a)] S q Q ↔ z_go zP 142 54 [l0, l1, l2, some (zi a)] (zi a :: S) q Q := ge_x (len := 1) (x := (0, 0, [])) p_142 rfl rfl
theorem g142_54 : z_go zP 142 54 L (zi b :: zi a :: S) q Q ↔ z_go zP 142 55 L (zi (a + b) :: S) q Q := ge_iadd (len := 1) (x := (0, 0, [])) p_142 rfl
theorem g142_55 : z_go zP 142 55 L (zi a :: .ref u :: S) q Q ↔ ∃ v, z_at [101] q.1 u (Int32.ofInt a) = some v ∧ z_go zP 142 56 L (v :: S) q Q := ge_lald (len := 1) (x := (0, 0, [])) p_142 rfl
theorem g142_56 (a1 : -9223372036854775808 ≤ a) (a2 : a < 9223372036854775808) (b1 : -9223372036854775808 ≤ b) (b2 : b < 9223372036854775808) : z_go zP 142 56 L (zl b :: zl a :: S) q Q ↔ if b ≤ a then z_go zP 142 64 L S q Q else z_go zP 142 60 L S q Q := ge_lc_ge (len := 1) (x := (0, 0, [])) (p2 := 57) (l2 := 3) a1 a2 b1 b2 p_142 rfl rfl rfl rfl
theorem g142_60 : z_go zP 142 60 L S q Q ↔ z_go zP 142 61 L (zi 1 :: S) q Q := ge_x (len := 1) (x := (0, 0, [])) p_142 rfl rfl
theorem g142_61 : z_go zP 142 61 L S q Q ↔ z_go zP 142 65 L S q Q := ge_to (len := 3) (x := (0, 0, [])) p_142 rfl rfl rfl
theorem g142_64 : z_go zP 142 64 L S q Q ↔ z_go zP 142 65 L (zi 0 :: S) q Q := ge_x (len := 1) (x := (0, 0, [])) p_142 rfl rfl
theorem g142_65_0 : z_go zP 142 65 L [zi 0] q Q ↔ Q (.inl (some (zi 0))) q := z_go_rt (len := 1) (x := (0, 0, [])) p_142 rfl rfl rfl
theorem g142_65_1 : z_go zP 142 65 L [zi 1] q Q ↔ Q (.inl (some (zi 1))) q := z_go_rt (len := 1) (x := (0, 0, [])) p_142 rfl rfl rfl
theorem g142_65b {c : Prop} [Decidable c] : z_go zP 142 65 L [zi (bI c)] q Q ↔ Q (.inl (some (zi (bI c)))) q := (by rcases bI_01 (c := c) with h | h <;> rw [h] <;> exact z_go_rt (len := 1) (x := (0, 0, [])) p_142 rfl rfl rfl)
theorem g142_66 : z_go zP 142 66 [l0, l1, l2, some (zi a)] S q Q ↔ z_go zP 142 69 [l0, l1, (zkl l2), some (zi (a + 1))] S q Q := (by unfold zi; rw [Int32.ofInt_add]; cases l2 with | none => exact ge_x (len := 3) (x := (0, 0, [])) p_142 rfl rfl | some v => cases v <;> exact ge_x (len := 3) (x := (0, 0, [])) p_142 rfl rfl)
theorem g142_69 : z_go zP 142 69 L S q Q ↔ z_go zP 142 2 L S q Q := ge_to (len := 3) (x := (0, 0, [])) p_142 rfl rfl rfl
theorem g142_72 : z_go zP 142 72 L S q Q ↔ z_go zP 142 73 L (zi 0 :: S) q Q := ge_x (len := 1) (x := (0, 0, [])) p_142 rfl rfl
theorem g142_73_0 : z_go zP 142 73 L [zi 0] q Q ↔ Q (.inl (some (zi 0))) q := z_go_rt (len := 1) (x := (0, 0, [])) p_142 rfl rfl rfl
theorem g142_73_1 : z_go zP 142 73 L [zi 1] q Q ↔ Q (.inl (some (zi 1))) q := z_go_rt (len := 1) (x := (0, 0, [])) p_142 rfl rfl rfl
theorem g142_73b {c : Prop} [Decidable c] : z_go zP 142 73 L [zi (bI c)] q Q ↔ Q (.inl (some (zi (bI c)))) q := (by rcases bI_01 (c := c) with h | h <;> rw [h] <;> exact z_go_rt (len := 1) (x := (0, 0, [])) p_142 rfl rfl rfl)
theorem g143_0 : z_go zP 143 0 [some (.ref u), l1, l2] S q Q ↔ z_go zP 143 1 [some (.ref u), l1, l2] (.ref u :: S) q Q := ge_x (len := 1) (x := (0, 0, [])) p_143 rfl rfl
theorem g143_1 : z_go zP 143 1 L (.ref u :: S) q Q ↔ ∃ v, z_get [9] 34 q.1 u = some v ∧ z_go zP 143 4 L (v :: S) q Q := ge_getf (len := 3) (x := (34, 0, [9])) p_143 rfl
theorem g143_4 : z_go zP 143 4 [l0, l1, l2] (zi a :: S) q Q ↔ z_go zP 143 5 [l0, (zkl l1), some (zi a)] S q Q := (by cases l1 with | none => exact ge_x (len := 1) (x := (0, 0, [])) p_143 rfl rfl | some v => cases v <;> exact ge_x (len := 1) (x := (0, 0, [])) p_143 rfl rfl)
theorem g143_5 : z_go zP 143 5 [l0, l1, some (zi a)] S q Q ↔ z_go zP 143 6 [l0, l1, some (zi a)] (zi a :: S) q Q := ge_x (len := 1) (x := (0, 0, [])) p_143 rfl rfl
theorem g143_6 (a1 : -2147483648 ≤ a) (a2 : a < 2147483648) : z_go zP 143 6 L (zi a :: S) q Q ↔ if a ≤ 0 then z_go zP 143 45 L S q Q else z_go zP 143 9 L S q Q := ge_if_le (len := 3) (x := (0, 0, [])) a1 a2 p_143 rfl rfl
theorem g143_9 : z_go zP 143 9 [some (.ref u), l1, l2] S q Q ↔ z_go zP 143 10 [some (.ref u), l1, l2] (.ref u :: S) q Q := ge_x (len := 1) (x := (0, 0, [])) p_143 rfl rfl
theorem g143_10 : z_go zP 143 10 [l0, some (zi a), l2] S q Q ↔ z_go zP 143 11 [l0, some (zi a), l2] (zi a :: S) q Q := ge_x (len := 1) (x := (0, 0, [])) p_143 rfl rfl
theorem g143_11 : z_go zP 143 11 [some (.ref u), l1, l2] S q Q ↔ z_go zP 143 12 [some (.ref u), l1, l2] (.ref u :: S) q Q := ge_x (len := 1) (x := (0, 0, [])) p_143 rfl rfl
theorem g143_12 : z_go zP 143 12 L (.ref u :: S) q Q ↔ ∃ v, z_get [9] 37 q.1 u = some v ∧ z_go zP 143 15 L (v :: S) q Q := ge_getf (len := 3) (x := (37, 0, [9])) p_143 rfl
theorem g143_15 : z_go zP 143 15 [l0, l1, some (zi a)] S q Q ↔ z_go zP 143 16 [l0, l1, some (zi a)] (zi a :: S) q Q := ge_x (len := 1) (x := (0, 0, [])) p_143 rfl rfl
theorem g143_16 : z_go zP 143 16 L S q Q ↔ z_go zP 143 17 L (zi 1 :: S) q Q := ge_x (len := 1) (x := (0, 0, [])) p_143 rfl rfl
theorem g143_17 : z_go zP 143 17 L (zi b :: zi a :: S) q Q ↔ z_go zP 143 18 L (zi (a - b) :: S) q Q := ge_isub (len := 1) (x := (0, 0, [])) p_143 rfl
theorem g143_18 : z_go zP 143 18 L (zi a :: .ref u :: S) q Q ↔ ∃ v, z_at [99, 100] q.1 u (Int32.ofInt a) = some v ∧ z_go zP 143 19 L (v :: S) q Q := ge_iald (len := 1) (x := (0, 0, [])) p_143 rfl
theorem g143_19 : z_go zP 143 19 L [zi x1, zi x0, .ref u] q Q ↔ z_tg q.1 u = some 9 ∧ z_go zP 142 0 [some (.ref u), some (zi x0), some (zi x1), none] [] q (zc 143 22 L [] Q) := ge_vc (len := 3) (pc := 19) (S := [zi x1, zi x0, .ref u]) (u := u) (k1 := 142) (A := [.ref u, zi x0, zi x1]) (r := []) (tag := 9) (n0 := 2) (zwb_le (by show 0 ≤ 4; omega)) p_143 rfl rfl rfl p_142 (by show 3 ≤ 4; omega) rfl
theorem g143_22 (a1 : -2147483648 ≤ a) (a2 : a < 2147483648) : z_go zP 143 22 L (zi a :: S) q Q ↔ if a = 0 then z_go zP 143 45 L S q Q else z_go zP 143 25 L S q Q := ge_if_eq (len := 3) (x := (0, 0, [])) a1 a2 p_143 rfl rfl
theorem g143_22b {c : Prop} [Decidable c] : z_go zP 143 22 L (zi (bI c) :: S) q Q ↔ if c then z_go zP 143 25 L S q Q else z_go zP 143 45 L S q Q := ge_if_eq_b (len := 3) (x := (0, 0, [])) p_143 rfl rfl
theorem g143_25 : z_go zP 143 25 [some (.ref u), l1, l2] S q Q ↔ z_go zP 143 26 [some (.ref u), l1, l2] (.ref u :: S) q Q := ge_x (len := 1) (x := (0, 0, [])) p_143 rfl rfl
theorem g143_26 : z_go zP 143 26 L (.ref u :: S) q Q ↔ ∃ v, z_get [9] 37 q.1 u = some v ∧ z_go zP 143 29 L (v :: S) q Q := ge_getf (len := 3) (x := (37, 0, [9])) p_143 rfl
theorem g143_29 : z_go zP 143 29 [l0, l1, some (zi a)] S q Q ↔ z_go zP 143 30 [l0, l1, some (zi a)] (zi a :: S) q Q := ge_x (len := 1) (x := (0, 0, [])) p_143 rfl rfl
theorem g143_30 : z_go zP 143 30 [some (.ref u), l1, l2] S q Q ↔ z_go zP 143 31 [some (.ref u), l1, l2] (.ref u :: S) q Q := ge_x (len := 1) (x := (0, 0, [])) p_143 rfl rfl
theorem g143_31 : z_go zP 143 31 L (.ref u :: S) q Q ↔ ∃ v, z_get [9] 37 q.1 u = some v ∧ z_go zP 143 34 L (v :: S) q Q := ge_getf (len := 3) (x := (37, 0, [9])) p_143 rfl
theorem g143_34 : z_go zP 143 34 [l0, l1, some (zi a)] S q Q ↔ z_go zP 143 35 [l0, l1, some (zi a)] (zi a :: S) q Q := ge_x (len := 1) (x := (0, 0, [])) p_143 rfl rfl
theorem g143_35 : z_go zP 143 35 L S q Q ↔ z_go zP 143 36 L (zi 1 :: S) q Q := ge_x (len := 1) (x := (0, 0, [])) p_143 rfl rfl
theorem g143_36 : z_go zP 143 36 L (zi b :: zi a :: S) q Q ↔ z_go zP 143 37 L (zi (a - b) :: S) q Q := ge_isub (len := 1) (x := (0, 0, [])) p_143 rfl
theorem g143_37 : z_go zP 143 37 L (zi a :: .ref u :: S) q Q ↔ ∃ v, z_at [99, 100] q.1 u (Int32.ofInt a) = some v ∧ z_go zP 143 38 L (v :: S) q Q := ge_iald (len := 1) (x := (0, 0, [])) p_143 rfl
theorem g143_38 : z_go zP 143 38 L (zi b :: zi a :: .ref u :: S) q Q ↔ ∃ q1, z_st 100 q u (Int32.ofInt a) (zi b) = some q1 ∧ z_go zP 143 39 L S q1 Q := ge_iast (len := 1) (x := (0, 0, [])) p_143 rfl
theorem g143_39 : z_go zP 143 39 [l0, l1, some (zi a)] S q Q ↔ z_go zP 143 42 [l0, (zkl l1), some (zi (a + (-1)))] S q Q := (by unfold zi; rw [Int32.ofInt_add]; cases l1 with | none => exact ge_x (len := 3) (x := (0, 0, [])) p_143 rfl rfl | some v => cases v <;> exact ge_x (len := 3) (x := (0, 0, [])) p_143 rfl rfl)
theorem g143_42 : z_go zP 143 42 L S q Q ↔ z_go zP 143 5 L S q Q := ge_to (len := 3) (x := (0, 0, [])) p_143 rfl rfl rfl
theorem g143_45 : z_go zP 143 45 [some (.ref u), l1, l2] S q Q ↔ z_go zP 143 46 [some (.ref u), l1, l2] (.ref u :: S) q Q := ge_x (len := 1) (x := (0, 0, [])) p_143 rfl rfl
theorem g143_46 : z_go zP 143 46 L (.ref u :: S) q Q ↔ ∃ v, z_get [9] 37 q.1 u = some v ∧ z_go zP 143 49 L (v :: S) q Q := ge_getf (len := 3) (x := (37, 0, [9])) p_143 rfl
theorem g143_49 : z_go zP 143 49 [l0, l1, some (zi a)] S q Q ↔ z_go zP 143 50 [l0, l1, some (zi a)] (zi a :: S) q Q := ge_x (len := 1) (x := (0, 0, [])) p_143 rfl rfl
theorem g143_50 : z_go zP 143 50 [l0, some (zi a), l2] S q Q ↔ z_go zP 143 51 [l0, some (zi a), l2] (zi a :: S) q Q := ge_x (len := 1) (x := (0, 0, [])) p_143 rfl rfl
theorem g143_51 : z_go zP 143 51 L (zi b :: zi a :: .ref u :: S) q Q ↔ ∃ q1, z_st 100 q u (Int32.ofInt a) (zi b) = some q1 ∧ z_go zP 143 52 L S q1 Q := ge_iast (len := 1) (x := (0, 0, [])) p_143 rfl
theorem g143_52 : z_go zP 143 52 [some (.ref u), l1, l2] S q Q ↔ z_go zP 143 53 [some (.ref u), l1, l2] (.ref u :: S) q Q := ge_x (len := 1) (x := (0, 0, [])) p_143 rfl rfl
theorem g143_53 : z_go zP 143 53 L (.ref u :: S) q Q ↔ z_go zP 143 54 L (.ref u :: .ref u :: S) q Q := ge_x (len := 1) (x := (0, 0, [])) p_143 rfl rfl
theorem g143_53i : z_go zP 143 53 L (zi a :: S) q Q ↔ z_go zP 143 54 L (zi a :: zi a :: S) q Q := ge_x (len := 1) (x := (0, 0, [])) p_143 rfl rfl
theorem g143_54 : z_go zP 143 54 L (.ref u :: S) q Q ↔ ∃ v, z_get [9] 34 q.1 u = some v ∧ z_go zP 143 57 L (v :: S) q Q := ge_getf (len := 3) (x := (34, 0, [9])) p_143 rfl
theorem g143_57 : z_go zP 143 57 L S q Q ↔ z_go zP 143 58 L (zi 1 :: S) q Q := ge_x (len := 1) (x := (0, 0, [])) p_143 rfl rfl
theorem g143_58 : z_go zP 143 58 L (zi b :: zi a :: S) q Q ↔ z_go zP 143 59 L (zi (a + b) :: S) q Q := ge_iadd (len := 1) (x := (0, 0, [])) p_143 rfl
theorem g143_59 : z_go zP 143 59 L (v :: .ref u :: S) q Q ↔ ∃ q1, z_put [9] 34 q u v = some q1 ∧ z_go zP 143 62 L S q1 Q := ge_putf (len := 3) (x := (34, 0, [9])) p_143 rfl
theorem g143_62 : z_go zP 143 62 L [] q Q ↔ Q (.inl none) q := z_go_rt (len := 1) (x := (0, 0, [])) p_143 rfl rfl rfl
theorem g144_0 : z_go zP 144 0 L S q Q ↔ z_go zP 144 1 L (zi 0 :: S) q Q := ge_x (len := 1) (x := (0, 0, [])) p_144 rfl rfl
theorem g144_1 : z_go zP 144 1 [l0, l1, l2, l3, l4, l5] (zi a :: S) q Q ↔ z_go zP 144 2 [l0, l1, (zkl l2), some (zi a), l4, l5] S q Q := (by cases l2 with | none => exact ge_x (len := 1) (x := (0, 0, [])) p_144 rfl rfl | some v => cases v <;> exact ge_x (len := 1) (x := (0, 0, [])) p_144 rfl rfl)
theorem g144_2 : z_go zP 144 2 L S q Q ↔ z_go zP 144 3 L (zi 0 :: S) q Q := ge_x (len := 1) (x := (0, 0, [])) p_144 rfl rfl
theorem g144_3 : z_go zP 144 3 [l0, l1, l2, l3, l4, l5] (zi a :: S) q Q ↔ z_go zP 144 5 [l0, l1, l2, (zkl l3), some (zi a), l5] S q Q := (by cases l3 with | none => exact ge_x (len := 2) (x := (0, 0, [])) p_144 rfl rfl | some v => cases v <;> exact ge_x (len := 2) (x := (0, 0, [])) p_144 rfl rfl)
theorem g144_5 : z_go zP 144 5 [l0, l1, l2, l3, some (zi a), l5] S q Q ↔ z_go zP 144 7 [l0, l1, l2, l3, some (zi a), l5] (zi a :: S) q Q := ge_x (len := 2) (x := (0, 0, [])) p_144 rfl rfl
theorem g144_7 : z_go zP 144 7 L S q Q ↔ z_go zP 144 8 L (zi 4 :: S) q Q := ge_x (len := 1) (x := (0, 0, [])) p_144 rfl rfl
theorem g144_8 (a1 : -2147483648 ≤ a) (a2 : a < 2147483648) (b1 : -2147483648 ≤ b) (b2 : b < 2147483648) : z_go zP 144 8 L (zi b :: zi a :: S) q Q ↔ if b ≤ a then z_go zP 144 60 L S q Q else z_go zP 144 11 L S q Q := ge_ic_ge (len := 3) (x := (0, 0, [])) a1 a2 b1 b2 p_144 rfl rfl
theorem g144_11 : z_go zP 144 11 [some (.ref u), l1, l2, l3, l4, l5] S q Q ↔ z_go zP 144 12 [some (.ref u), l1, l2, l3, l4, l5] (.ref u :: S) q Q := ge_x (len := 1) (x := (0, 0, [])) p_144 rfl rfl
theorem g144_12 : z_go zP 144 12 [l0, l1, some (zi a), l3, l4, l5] S q Q ↔ z_go zP 144 13 [l0, l1, some (zi a), l3, l4, l5] (zi a :: S) q Q := ge_x (len := 1) (x := (0, 0, [])) p_144 rfl rfl
theorem g144_13 : z_go zP 144 13 L [zi x0, .ref u] q Q ↔ z_tg q.1 u = some 9 ∧ z_go zP 133 0 [some (.ref u), some (zi x0), none] [] q (zc 144 16 L [] Q) := ge_vc (len := 3) (pc := 13) (S := [zi x0, .ref u]) (u := u) (k1 := 133) (A := [.ref u, zi x0]) (r := []) (tag := 9) (n0 := 1) (zwb_le (by show 0 ≤ 4; omega)) p_144 rfl rfl rfl p_133 (by show 2 ≤ 3; omega) rfl
theorem g144_16 : z_go zP 144 16 [l0, l1, l2, l3, some (zi a), l5] S q Q ↔ z_go zP 144 18 [l0, l1, l2, l3, some (zi a), l5] (zi a :: S) q Q := ge_x (len := 2) (x := (0, 0, [])) p_144 rfl rfl
theorem g144_18 : z_go zP 144 18 L S q Q ↔ z_go zP 144 19 L (zi 2 :: S) q Q := ge_x (len := 1) (x := (0, 0, [])) p_144 rfl rfl
theorem g144_19 (a1 : -2147483648 ≤ a) (a2 : a < 2147483648) (b1 : -2147483648 ≤ b) (b2 : b < 2147483648) : z_go zP 144 19 L (zi b :: zi a :: S) q Q ↔ if b ≤ a then z_go zP 144 32 L S q Q else z_go zP 144 22 L S q Q := ge_ic_ge (len := 3) (x := (0, 0, [])) a1 a2 b1 b2 p_144 rfl rfl
theorem g144_22 : z_go zP 144 22 [some (.ref u), l1, l2, l3, l4, l5] S q Q ↔ z_go zP 144 23 [some (.ref u), l1, l2, l3, l4, l5] (.ref u :: S) q Q := ge_x (len := 1) (x := (0, 0, [])) p_144 rfl rfl
theorem g144_23 : z_go zP 144 23 [l0, some (zi a), l2, l3, l4, l5] S q Q ↔ z_go zP 144 24 [l0, some (zi a), l2, l3, l4, l5] (zi a :: S) q Q := ge_x (len := 1) (x := (0, 0, [])) p_144 rfl rfl
theorem g144_24 : z_go zP 144 24 [l0, l1, l2, l3, some (zi a), l5] S q Q ↔ z_go zP 144 26 [l0, l1, l2, l3, some (zi a), l5] (zi a :: S) q Q := ge_x (len := 2) (x := (0, 0, [])) p_144 rfl rfl
theorem g144_26 : z_go zP 144 26 L [zi x1, zi x0, .ref u] q Q ↔ z_tg q.1 u = some 9 ∧ z_go zP 139 0 [some (.ref u), some (zi x0), some (zi x1), none, none, none, none, none, none, none, none, none, none, none] [] q (zc 144 29 L [] Q) := ge_vc (len := 3) (pc := 26) (S := [zi x1, zi x0, .ref u]) (u := u) (k1 := 139) (A := [.ref u, zi x0, zi x1]) (r := []) (tag := 9) (n0 := 2) (zwb_le (by show 0 ≤ 4; omega)) p_144 rfl rfl rfl p_139 (by show 3 ≤ 14; omega) rfl
theorem g144_29 : z_go zP 144 29 L S q Q ↔ z_go zP 144 40 L S q Q := ge_to (len := 3) (x := (0, 0, [])) p_144 rfl rfl rfl
theorem g144_32 : z_go zP 144 32 [some (.ref u), l1, l2, l3, l4, l5] S q Q ↔ z_go zP 144 33 [some (.ref u), l1, l2, l3, l4, l5] (.ref u :: S) q Q := ge_x (len := 1) (x := (0, 0, [])) p_144 rfl rfl
theorem g144_33 : z_go zP 144 33 [l0, l1, l2, l3, some (zi a), l5] S q Q ↔ z_go zP 144 35 [l0, l1, l2, l3, some (zi a), l5] (zi a :: S) q Q := ge_x (len := 2) (x := (0, 0, [])) p_144 rfl rfl
theorem g144_35 : z_go zP 144 35 L S q Q ↔ z_go zP 144 36 L (zi 2 :: S) q Q := ge_x (len := 1) (x := (0, 0, [])) p_144 rfl rfl
theorem g144_36 : z_go zP 144 36 L (zi b :: zi a :: S) q Q ↔ z_go zP 144 37 L (zi (a - b) :: S) q Q := ge_isub (len := 1) (x := (0, 0, [])) p_144 rfl
theorem g144_37 : z_go zP 144 37 L [zi x0, .ref u] q Q ↔ z_tg q.1 u = some 9 ∧ z_go zP 140 0 [some (.ref u), some (zi x0), none] [] q (zc 144 40 L [] Q) := ge_vc (len := 3) (pc := 37) (S := [zi x0, .ref u]) (u := u) (k1 := 140) (A := [.ref u, zi x0]) (r := []) (tag := 9) (n0 := 1) (zwb_le (by show 0 ≤ 4; omega)) p_144 rfl rfl rfl p_140 (by show 2 ≤ 3; omega) rfl
theorem g144_40 : z_go zP 144 40 [l0, l1, l2, l3, l4, l5] (zi a :: S) q Q ↔ z_go zP 144 42 [l0, l1, l2, l3, (zkl l4), some (zi a)] S q Q := (by cases l4 with | none => exact ge_x (len := 2) (x := (0, 0, [])) p_144 rfl rfl | some v => cases v <;> exact ge_x (len := 2) (x := (0, 0, [])) p_144 rfl rfl)
theorem g144_42 : z_go zP 144 42 [l0, l1, l2, l3, l4, some (zi a)] S q Q ↔ z_go zP 144 44 [l0, l1, l2, l3, l4, some (zi a)] (zi a :: S) q Q := ge_x (len := 2) (x := (0, 0, [])) p_144 rfl rfl
theorem g144_44 (a1 : -2147483648 ≤ a) (a2 : a < 2147483648) : z_go zP 144 44 L (zi a :: S) q Q ↔ if a = 0 then z_go zP 144 54 L S q Q else z_go zP 144 47 L S q Q := ge_if_eq (len := 3) (x := (0, 0, [])) a1 a2 p_144 rfl rfl
theorem g144_44b {c : Prop} [Decidable c] : z_go zP 144 44 L (zi (bI c) :: S) q Q ↔ if c then z_go zP 144 47 L S q Q else z_go zP 144 54 L S q Q := ge_if_eq_b (len := 3) (x := (0, 0, [])) p_144 rfl rfl
theorem g144_47 : z_go zP 144 47 [l0, l1, l2, some (zi a), l4, l5] S q Q ↔ z_go zP 144 50 [l0, l1, (zkl l2), some (zi (a + 1)), l4, l5] S q Q := (by unfold zi; rw [Int32.ofInt_add]; cases l2 with | none => exact ge_x (len := 3) (x := (0, 0, [])) p_144 rfl rfl | some v => cases v <;> exact ge_x (len := 3) (x := (0, 0, [])) p_144 rfl rfl)
theorem g144_50 : z_go zP 144 50 [some (.ref u), l1, l2, l3, l4, l5] S q Q ↔ z_go zP 144 51 [some (.ref u), l1, l2, l3, l4, l5] (.ref u :: S) q Q := ge_x (len := 1) (x := (0, 0, [])) p_144 rfl rfl
theorem g144_51 : z_go zP 144 51 L [.ref u] q Q ↔ z_tg q.1 u = some 9 ∧ z_go zP 136 0 [some (.ref u), none, none] [] q (zc 144 54 L [] Q) := ge_vc (len := 3) (pc := 51) (S := [.ref u]) (u := u) (k1 := 136) (A := [.ref u]) (r := []) (tag := 9) (n0 := 0) (zwb_le (by show 0 ≤ 4; omega)) p_144 rfl rfl rfl p_136 (by show 1 ≤ 3; omega) rfl
theorem g144_54 : z_go zP 144 54 [l0, l1, l2, l3, some (zi a), l5] S q Q ↔ z_go zP 144 57 [l0, l1, l2, (zkl l3), some (zi (a + 1)), l5] S q Q := (by unfold zi; rw [Int32.ofInt_add]; cases l3 with | none => exact ge_x (len := 3) (x := (0, 0, [])) p_144 rfl rfl | some v => cases v <;> exact ge_x (len := 3) (x := (0, 0, [])) p_144 rfl rfl)
theorem g144_57 : z_go zP 144 57 L S q Q ↔ z_go zP 144 5 L S q Q := ge_to (len := 3) (x := (0, 0, [])) p_144 rfl rfl rfl
theorem g144_60 : z_go zP 144 60 [some (.ref u), l1, l2, l3, l4, l5] S q Q ↔ z_go zP 144 61 [some (.ref u), l1, l2, l3, l4, l5] (.ref u :: S) q Q := ge_x (len := 1) (x := (0, 0, [])) p_144 rfl rfl
theorem g144_61 : z_go zP 144 61 [l0, l1, some (zi a), l3, l4, l5] S q Q ↔ z_go zP 144 62 [l0, l1, some (zi a), l3, l4, l5] (zi a :: S) q Q := ge_x (len := 1) (x := (0, 0, [])) p_144 rfl rfl
theorem g144_62 : z_go zP 144 62 L [zi x0, .ref u] q Q ↔ z_tg q.1 u = some 9 ∧ z_go zP 133 0 [some (.ref u), some (zi x0), none] [] q (zc 144 65 L [] Q) := ge_vc (len := 3) (pc := 62) (S := [zi x0, .ref u]) (u := u) (k1 := 133) (A := [.ref u, zi x0]) (r := []) (tag := 9) (n0 := 1) (zwb_le (by show 0 ≤ 4; omega)) p_144 rfl rfl rfl p_133 (by show 2 ≤ 3; omega) rfl
theorem g144_65 : z_go zP 144 65 [some (.ref u), l1, l2, l3, l4, l5] S q Q ↔ z_go zP 144 66 [some (.ref u), l1, l2, l3, l4, l5] (.ref u :: S) q Q := ge_x (len := 1) (x := (0, 0, [])) p_144 rfl rfl
theorem g144_66 : z_go zP 144 66 [l0, some (zi a), l2, l3, l4, l5] S q Q ↔ z_go zP 144 67 [l0, some (zi a), l2, l3, l4, l5] (zi a :: S) q Q := ge_x (len := 1) (x := (0, 0, [])) p_144 rfl rfl
theorem g144_67 : z_go zP 144 67 L [zi x0, .ref u] q Q ↔ z_tg q.1 u = some 9 ∧ z_go zP 141 0 [some (.ref u), some (zi x0)] [] q (zc 144 70 L [] Q) := ge_vc (len := 3) (pc := 67) (S := [zi x0, .ref u]) (u := u) (k1 := 141) (A := [.ref u, zi x0]) (r := []) (tag := 9) (n0 := 1) (zwb_le (by show 0 ≤ 4; omega)) p_144 rfl rfl rfl p_141 (by show 2 ≤ 2; omega) rfl
theorem g144_70 (a1 : -2147483648 ≤ a) (a2 : a < 2147483648) : z_go zP 144 70 L (zi a :: S) q Q ↔ if a = 0 then z_go zP 144 81 L S q Q else z_go zP 144 73 L S q Q := ge_if_eq (len := 3) (x := (0, 0, [])) a1 a2 p_144 rfl rfl
theorem g144_70b {c : Prop} [Decidable c] : z_go zP 144 70 L (zi (bI c) :: S) q Q ↔ if c then z_go zP 144 73 L S q Q else z_go zP 144 81 L S q Q := ge_if_eq_b (len := 3) (x := (0, 0, [])) p_144 rfl rfl
theorem g144_73 : z_go zP 144 73 [some (.ref u), l1, l2, l3, l4, l5] S q Q ↔ z_go zP 144 74 [some (.ref u), l1, l2, l3, l4, l5] (.ref u :: S) q Q := ge_x (len := 1) (x := (0, 0, [])) p_144 rfl rfl
theorem g144_74 : z_go zP 144 74 [l0, l1, some (zi a), l3, l4, l5] S q Q ↔ z_go zP 144 75 [l0, l1, some (zi a), l3, l4, l5] (zi a :: S) q Q := ge_x (len := 1) (x := (0, 0, [])) p_144 rfl rfl
theorem g144_75 : z_go zP 144 75 L [zi x0, .ref u] q Q ↔ z_tg q.1 u = some 9 ∧ z_go zP 143 0 [some (.ref u), some (zi x0), none] [] q (zc 144 78 L [] Q) := ge_vc (len := 3) (pc := 75) (S := [zi x0, .ref u]) (u := u) (k1 := 143) (A := [.ref u, zi x0]) (r := []) (tag := 9) (n0 := 1) (zwb_le (by show 0 ≤ 4; omega)) p_144 rfl rfl rfl p_143 (by show 2 ≤ 3; omega) rfl
theorem g144_78 : z_go zP 144 78 L S q Q ↔ z_go zP 144 95 L S q Q := ge_to (len := 3) (x := (0, 0, [])) p_144 rfl rfl rfl
theorem g144_81 : z_go zP 144 81 [l0, l1, l2, some (zi a), l4, l5] S q Q ↔ z_go zP 144 82 [l0, l1, l2, some (zi a), l4, l5] (zi a :: S) q Q := ge_x (len := 1) (x := (0, 0, [])) p_144 rfl rfl
theorem g144_82 (a1 : -2147483648 ≤ a) (a2 : a < 2147483648) : z_go zP 144 82 L (zi a :: S) q Q ↔ if ¬ a = 0 then z_go zP 144 95 L S q Q else z_go zP 144 85 L S q Q := ge_if_ne (len := 3) (x := (0, 0, [])) a1 a2 p_144 rfl rfl
theorem g144_82b {c : Prop} [Decidable c] : z_go zP 144 82 L (zi (bI c) :: S) q Q ↔ if c then z_go zP 144 95 L S q Q else z_go zP 144 85 L S q Q := ge_if_ne_b (len := 3) (x := (0, 0, [])) p_144 rfl rfl
theorem g144_85 : z_go zP 144 85 [some (.ref u), l1, l2, l3, l4, l5] S q Q ↔ z_go zP 144 86 [some (.ref u), l1, l2, l3, l4, l5] (.ref u :: S) q Q := ge_x (len := 1) (x := (0, 0, [])) p_144 rfl rfl
theorem g144_86 : z_go zP 144 86 L (.ref u :: S) q Q ↔ z_go zP 144 87 L (.ref u :: .ref u :: S) q Q := ge_x (len := 1) (x := (0, 0, [])) p_144 rfl rfl
theorem g144_86i : z_go zP 144 86 L (zi a :: S) q Q ↔ z_go zP 144 87 L (zi a :: zi a :: S) q Q := ge_x (len := 1) (x := (0, 0, [])) p_144 rfl rfl
theorem g144_87 : z_go zP 144 87 L (.ref u :: S) q Q ↔ ∃ v, z_get [9] 35 q.1 u = some v ∧ z_go zP 144 90 L (v :: S) q Q := ge_getf (len := 3) (x := (35, 0, [9])) p_144 rfl
theorem g144_90 : z_go zP 144 90 L S q Q ↔ z_go zP 144 91 L (zi 1 :: S) q Q := ge_x (len := 1) (x := (0, 0, [])) p_144 rfl rfl
theorem g144_91 : z_go zP 144 91 L (zi b :: zi a :: S) q Q ↔ z_go zP 144 92 L (zi (a + b) :: S) q Q := ge_iadd (len := 1) (x := (0, 0, [])) p_144 rfl
theorem g144_92 : z_go zP 144 92 L (v :: .ref u :: S) q Q ↔ ∃ q1, z_put [9] 35 q u v = some q1 ∧ z_go zP 144 95 L S q1 Q := ge_putf (len := 3) (x := (35, 0, [9])) p_144 rfl
theorem g144_95 : z_go zP 144 95 L [] q Q ↔ Q (.inl none) q := z_go_rt (len := 1) (x := (0, 0, [])) p_144 rfl rfl rfl
theorem g145_0 : z_go zP 145 0 [some (.ref u), l1, l2] S q Q ↔ z_go zP 145 1 [some (.ref u), l1, l2] (.ref u :: S) q Q := ge_x (len := 1) (x := (0, 0, [])) p_145 rfl rfl
theorem g145_1 : z_go zP 145 1 L (.ref u :: S) q Q ↔ ∃ v, z_get [9] 32 q.1 u = some v ∧ z_go zP 145 4 L (v :: S) q Q := ge_getf (len := 3) (x := (32, 0, [9])) p_145 rfl
theorem g145_4 : z_go zP 145 4 [l0, some (zi a), l2] S q Q ↔ z_go zP 145 5 [l0, some (zi a), l2] (zi a :: S) q Q := ge_x (len := 1) (x := (0, 0, [])) p_145 rfl rfl
theorem g145_5 (a1 : -2147483648 ≤ a) (a2 : a < 2147483648) (b1 : -2147483648 ≤ b) (b2 : b < 2147483648) : z_go zP 145 5 L (zi b :: zi a :: S) q Q ↔ if ¬ a = b then z_go zP 145 9 L S q Q else z_go zP 145 8 L S q Q := ge_ic_ne (len := 3) (x := (0, 0, [])) a1 a2 b1 b2 p_145 rfl rfl
theorem g145_8 : z_go zP 145 8 L [] q Q ↔ Q (.inl none) q := z_go_rt (len := 1) (x := (0, 0, [])) p_145 rfl rfl rfl
theorem g145_9 : z_go zP 145 9 [some (.ref u), l1, l2] S q Q ↔ z_go zP 145 10 [some (.ref u), l1, l2] (.ref u :: S) q Q := ge_x (len := 1) (x := (0, 0, [])) p_145 rfl rfl
theorem g145_10 : z_go zP 145 10 [l0, some (zi a), l2] S q Q ↔ z_go zP 145 11 [l0, some (zi a), l2] (zi a :: S) q Q := ge_x (len := 1) (x := (0, 0, [])) p_145 rfl rfl
theorem g145_11 : z_go zP 145 11 L (v :: .ref u :: S) q Q ↔ ∃ q1, z_put [9] 32 q u v = some q1 ∧ z_go zP 145 14 L S q1 Q := ge_putf (len := 3) (x := (32, 0, [9])) p_145 rfl
theorem g145_14 : z_go zP 145 14 [some (.ref u), l1, l2] S q Q ↔ z_go zP 145 15 [some (.ref u), l1, l2] (.ref u :: S) q Q := ge_x (len := 1) (x := (0, 0, [])) p_145 rfl rfl
theorem g145_15 : z_go zP 145 15 L S q Q ↔ z_go zP 145 16 L (zi 0 :: S) q Q := ge_x (len := 1) (x := (0, 0, [])) p_145 rfl rfl
theorem g145_16 : z_go zP 145 16 L (v :: .ref u :: S) q Q ↔ ∃ q1, z_put [9] 33 q u v = some q1 ∧ z_go zP 145 19 L S q1 Q := ge_putf (len := 3) (x := (33, 0, [9])) p_145 rfl
theorem g145_19 : z_go zP 145 19 [some (.ref u), l1, l2] S q Q ↔ z_go zP 145 20 [some (.ref u), l1, l2] (.ref u :: S) q Q := ge_x (len := 1) (x := (0, 0, [])) p_145 rfl rfl
theorem g145_20 : z_go zP 145 20 L S q Q ↔ z_go zP 145 21 L (zi 0 :: S) q Q := ge_x (len := 1) (x := (0, 0, [])) p_145 rfl rfl
theorem g145_21 : z_go zP 145 21 L (v :: .ref u :: S) q Q ↔ ∃ q1, z_put [9] 34 q u v = some q1 ∧ z_go zP 145 24 L S q1 Q := ge_putf (len := 3) (x := (34, 0, [9])) p_145 rfl
theorem g145_24 : z_go zP 145 24 [some (.ref u), l1, l2] S q Q ↔ z_go zP 145 25 [some (.ref u), l1, l2] (.ref u :: S) q Q := ge_x (len := 1) (x := (0, 0, [])) p_145 rfl rfl
theorem g145_25 : z_go zP 145 25 L S q Q ↔ z_go zP 145 26 L (zi 0 :: S) q Q := ge_x (len := 1) (x := (0, 0, [])) p_145 rfl rfl
theorem g145_26 : z_go zP 145 26 L (v :: .ref u :: S) q Q ↔ ∃ q1, z_put [9] 35 q u v = some q1 ∧ z_go zP 145 29 L S q1 Q := ge_putf (len := 3) (x := (35, 0, [9])) p_145 rfl
theorem g145_29 : z_go zP 145 29 L S q Q ↔ z_go zP 145 30 L (zi 0 :: S) q Q := ge_x (len := 1) (x := (0, 0, [])) p_145 rfl rfl
theorem g145_30 : z_go zP 145 30 [l0, l1, l2] (zi a :: S) q Q ↔ z_go zP 145 31 [l0, (zkl l1), some (zi a)] S q Q := (by cases l1 with | none => exact ge_x (len := 1) (x := (0, 0, [])) p_145 rfl rfl | some v => cases v <;> exact ge_x (len := 1) (x := (0, 0, [])) p_145 rfl rfl)
theorem g145_31 : z_go zP 145 31 [l0, l1, some (zi a)] S q Q ↔ z_go zP 145 32 [l0, l1, some (zi a)] (zi a :: S) q Q := ge_x (len := 1) (x := (0, 0, [])) p_145 rfl rfl
theorem g145_32 : z_go zP 145 32 L S q Q ↔ z_go zP 145 35 L (zi 2003 :: S) q Q := ge_x (len := 3) (x := (0, 0, [])) p_145 rfl rfl
theorem g145_35 (a1 : -2147483648 ≤ a) (a2 : a < 2147483648) (b1 : -2147483648 ≤ b) (b2 : b < 2147483648) : z_go zP 145 35 L (zi b :: zi a :: S) q Q ↔ if b ≤ a then z_go zP 145 51 L S q Q else z_go zP 145 38 L S q Q := ge_ic_ge (len := 3) (x := (0, 0, [])) a1 a2 b1 b2 p_145 rfl rfl
theorem g145_38 : z_go zP 145 38 [some (.ref u), l1, l2] S q Q ↔ z_go zP 145 39 [some (.ref u), l1, l2] (.ref u :: S) q Q := ge_x (len := 1) (x := (0, 0, [])) p_145 rfl rfl
theorem g145_39 : z_go zP 145 39 L (.ref u :: S) q Q ↔ ∃ v, z_get [9] 39 q.1 u = some v ∧ z_go zP 145 42 L (v :: S) q Q := ge_getf (len := 3) (x := (39, 0, [9])) p_145 rfl
theorem g145_42 : z_go zP 145 42 [l0, l1, some (zi a)] S q Q ↔ z_go zP 145 43 [l0, l1, some (zi a)] (zi a :: S) q Q := ge_x (len := 1) (x := (0, 0, [])) p_145 rfl rfl
theorem g145_43 : z_go zP 145 43 L S q Q ↔ z_go zP 145 44 L (zi (-1) :: S) q Q := ge_x (len := 1) (x := (0, 0, [])) p_145 rfl rfl
theorem g145_44 : z_go zP 145 44 L (zi b :: zi a :: .ref u :: S) q Q ↔ ∃ q1, z_st 100 q u (Int32.ofInt a) (zi b) = some q1 ∧ z_go zP 145 45 L S q1 Q := ge_iast (len := 1) (x := (0, 0, [])) p_145 rfl
theorem g145_45 : z_go zP 145 45 [l0, l1, some (zi a)] S q Q ↔ z_go zP 145 48 [l0, (zkl l1), some (zi (a + 1))] S q Q := (by unfold zi; rw [Int32.ofInt_add]; cases l1 with | none => exact ge_x (len := 3) (x := (0, 0, [])) p_145 rfl rfl | some v => cases v <;> exact ge_x (len := 3) (x := (0, 0, [])) p_145 rfl rfl)
theorem g145_48 : z_go zP 145 48 L S q Q ↔ z_go zP 145 31 L S q Q := ge_to (len := 3) (x := (0, 0, [])) p_145 rfl rfl rfl
theorem g145_51 : z_go zP 145 51 L S q Q ↔ z_go zP 145 52 L (zi 0 :: S) q Q := ge_x (len := 1) (x := (0, 0, [])) p_145 rfl rfl
theorem g145_52 : z_go zP 145 52 [l0, l1, l2] (zi a :: S) q Q ↔ z_go zP 145 53 [l0, (zkl l1), some (zi a)] S q Q := (by cases l1 with | none => exact ge_x (len := 1) (x := (0, 0, [])) p_145 rfl rfl | some v => cases v <;> exact ge_x (len := 1) (x := (0, 0, [])) p_145 rfl rfl)
theorem g145_53 : z_go zP 145 53 [l0, l1, some (zi a)] S q Q ↔ z_go zP 145 54 [l0, l1, some (zi a)] (zi a :: S) q Q := ge_x (len := 1) (x := (0, 0, [])) p_145 rfl rfl
theorem g145_54 : z_go zP 145 54 L S q Q ↔ z_go zP 145 56 L (zi 28 :: S) q Q := ge_x (len := 2) (x := (0, 0, [])) p_145 rfl rfl
theorem g145_56 (a1 : -2147483648 ≤ a) (a2 : a < 2147483648) (b1 : -2147483648 ≤ b) (b2 : b < 2147483648) : z_go zP 145 56 L (zi b :: zi a :: S) q Q ↔ if b ≤ a then z_go zP 145 72 L S q Q else z_go zP 145 59 L S q Q := ge_ic_ge (len := 3) (x := (0, 0, [])) a1 a2 b1 b2 p_145 rfl rfl
theorem g145_59 : z_go zP 145 59 [some (.ref u), l1, l2] S q Q ↔ z_go zP 145 60 [some (.ref u), l1, l2] (.ref u :: S) q Q := ge_x (len := 1) (x := (0, 0, [])) p_145 rfl rfl
theorem g145_60 : z_go zP 145 60 L (.ref u :: S) q Q ↔ ∃ v, z_get [9] 38 q.1 u = some v ∧ z_go zP 145 63 L (v :: S) q Q := ge_getf (len := 3) (x := (38, 0, [9])) p_145 rfl
theorem g145_63 : z_go zP 145 63 [l0, l1, some (zi a)] S q Q ↔ z_go zP 145 64 [l0, l1, some (zi a)] (zi a :: S) q Q := ge_x (len := 1) (x := (0, 0, [])) p_145 rfl rfl
theorem g145_64 : z_go zP 145 64 L S q Q ↔ z_go zP 145 65 L (zl 0 :: S) q Q := ge_x (len := 1) (x := (0, 0, [])) p_145 rfl rfl
theorem g145_65 : z_go zP 145 65 L (zl b :: zi a :: .ref u :: S) q Q ↔ ∃ q1, z_st 101 q u (Int32.ofInt a) (zl b) = some q1 ∧ z_go zP 145 66 L S q1 Q := ge_last (len := 1) (x := (0, 0, [])) p_145 rfl
theorem g145_66 : z_go zP 145 66 [l0, l1, some (zi a)] S q Q ↔ z_go zP 145 69 [l0, (zkl l1), some (zi (a + 1))] S q Q := (by unfold zi; rw [Int32.ofInt_add]; cases l1 with | none => exact ge_x (len := 3) (x := (0, 0, [])) p_145 rfl rfl | some v => cases v <;> exact ge_x (len := 3) (x := (0, 0, [])) p_145 rfl rfl)
theorem g145_69 : z_go zP 145 69 L S q Q ↔ z_go zP 145 53 L S q Q := ge_to (len := 3) (x := (0, 0, [])) p_145 rfl rfl rfl
theorem g145_72 : z_go zP 145 72 [some (.ref u), l1, l2] S q Q ↔ z_go zP 145 73 [some (.ref u), l1, l2] (.ref u :: S) q Q := ge_x (len := 1) (x := (0, 0, [])) p_145 rfl rfl
theorem g145_73 : z_go zP 145 73 L [.ref u] q Q ↔ z_tg q.1 u = some 9 ∧ z_go zP 136 0 [some (.ref u), none, none] [] q (zc 145 76 L [] Q) := ge_vc (len := 3) (pc := 73) (S := [.ref u]) (u := u) (k1 := 136) (A := [.ref u]) (r := []) (tag := 9) (n0 := 0) (zwb_le (by show 0 ≤ 4; omega)) p_145 rfl rfl rfl p_136 (by show 1 ≤ 3; omega) rfl
theorem g145_76 : z_go zP 145 76 L S q Q ↔ z_go zP 145 77 L (zi 0 :: S) q Q := ge_x (len := 1) (x := (0, 0, [])) p_145 rfl rfl
theorem g145_77 : z_go zP 145 77 [l0, l1, l2] (zi a :: S) q Q ↔ z_go zP 145 78 [l0, (zkl l1), some (zi a)] S q Q := (by cases l1 with | none => exact ge_x (len := 1) (x := (0, 0, [])) p_145 rfl rfl | some v => cases v <;> exact ge_x (len := 1) (x := (0, 0, [])) p_145 rfl rfl)
theorem g145_78 : z_go zP 145 78 [l0, l1, some (zi a)] S q Q ↔ z_go zP 145 79 [l0, l1, some (zi a)] (zi a :: S) q Q := ge_x (len := 1) (x := (0, 0, [])) p_145 rfl rfl
theorem g145_79 : z_go zP 145 79 [some (.ref u), l1, l2] S q Q ↔ z_go zP 145 80 [some (.ref u), l1, l2] (.ref u :: S) q Q := ge_x (len := 1) (x := (0, 0, [])) p_145 rfl rfl
theorem g145_80 : z_go zP 145 80 L (.ref u :: S) q Q ↔ ∃ v, z_get [9] 33 q.1 u = some v ∧ z_go zP 145 83 L (v :: S) q Q := ge_getf (len := 3) (x := (33, 0, [9])) p_145 rfl
theorem g145_83 (a1 : -2147483648 ≤ a) (a2 : a < 2147483648) (b1 : -2147483648 ≤ b) (b2 : b < 2147483648) : z_go zP 145 83 L (zi b :: zi a :: S) q Q ↔ if b ≤ a then z_go zP 145 108 L S q Q else z_go zP 145 86 L S q Q := ge_ic_ge (len := 3) (x := (0, 0, [])) a1 a2 b1 b2 p_145 rfl rfl
theorem g145_86 : z_go zP 145 86 [some (.ref u), l1, l2] S q Q ↔ z_go zP 145 87 [some (.ref u), l1, l2] (.ref u :: S) q Q := ge_x (len := 1) (x := (0, 0, [])) p_145 rfl rfl
theorem g145_87 : z_go zP 145 87 L (.ref u :: S) q Q ↔ ∃ v, z_get [9] 33 q.1 u = some v ∧ z_go zP 145 90 L (v :: S) q Q := ge_getf (len := 3) (x := (33, 0, [9])) p_145 rfl
theorem g145_90 : z_go zP 145 90 L S q Q ↔ z_go zP 145 93 L (zi 2000 :: S) q Q := ge_x (len := 3) (x := (0, 0, [])) p_145 rfl rfl
theorem g145_93 (a1 : -2147483648 ≤ a) (a2 : a < 2147483648) (b1 : -2147483648 ≤ b) (b2 : b < 2147483648) : z_go zP 145 93 L (zi b :: zi a :: S) q Q ↔ if b < a then z_go zP 145 108 L S q Q else z_go zP 145 96 L S q Q := ge_ic_gt (len := 3) (x := (0, 0, [])) a1 a2 b1 b2 p_145 rfl rfl
theorem g145_96 : z_go zP 145 96 [some (.ref u), l1, l2] S q Q ↔ z_go zP 145 97 [some (.ref u), l1, l2] (.ref u :: S) q Q := ge_x (len := 1) (x := (0, 0, [])) p_145 rfl rfl
theorem g145_97 : z_go zP 145 97 [l0, some (zi a), l2] S q Q ↔ z_go zP 145 98 [l0, some (zi a), l2] (zi a :: S) q Q := ge_x (len := 1) (x := (0, 0, [])) p_145 rfl rfl
theorem g145_98 : z_go zP 145 98 [l0, l1, some (zi a)] S q Q ↔ z_go zP 145 99 [l0, l1, some (zi a)] (zi a :: S) q Q := ge_x (len := 1) (x := (0, 0, [])) p_145 rfl rfl
theorem g145_99 : z_go zP 145 99 L [zi x1, zi x0, .ref u] q Q ↔ z_tg q.1 u = some 9 ∧ z_go zP 144 0 [some (.ref u), some (zi x0), some (zi x1), none, none, none] [] q (zc 145 102 L [] Q) := ge_vc (len := 3) (pc := 99) (S := [zi x1, zi x0, .ref u]) (u := u) (k1 := 144) (A := [.ref u, zi x0, zi x1]) (r := []) (tag := 9) (n0 := 2) (zwb_le (by show 0 ≤ 4; omega)) p_145 rfl rfl rfl p_144 (by show 3 ≤ 6; omega) rfl
theorem g145_102 : z_go zP 145 102 [l0, l1, some (zi a)] S q Q ↔ z_go zP 145 105 [l0, (zkl l1), some (zi (a + 1))] S q Q := (by unfold zi; rw [Int32.ofInt_add]; cases l1 with | none => exact ge_x (len := 3) (x := (0, 0, [])) p_145 rfl rfl | some v => cases v <;> exact ge_x (len := 3) (x := (0, 0, [])) p_145 rfl rfl)
theorem g145_105 : z_go zP 145 105 L S q Q ↔ z_go zP 145 78 L S q Q := ge_to (len := 3) (x := (0, 0, [])) p_145 rfl rfl rfl
theorem g145_108 : z_go zP 145 108 L [] q Q ↔ Q (.inl none) q := z_go_rt (len := 1) (x := (0, 0, [])) p_145 rfl rfl rfl
theorem g146_0 : z_go zP 146 0 [some (.ref u), l1, l2, l3] S q Q ↔ z_go zP 146 1 [some (.ref u), l1, l2, l3] (.ref u :: S) q Q := ge_x (len := 1) (x := (0, 0, [])) p_146 rfl rfl
theorem g146_1 : z_go zP 146 1 [l0, some (zi a), l2, l3] S q Q ↔ z_go zP 146 2 [l0, some (zi a), l2, l3] (zi a :: S) q Q := ge_x (len := 1) (x := (0, 0, [])) p_146 rfl rfl
theorem g146_2 : z_go zP 146 2 L S q Q ↔ z_go zP 146 3 L (zi 2 :: S) q Q := ge_x (len := 1) (x := (0, 0, [])) p_146 rfl rfl
theorem g146_3 : z_go zP 146 3 L S q Q ↔ z_go zP 146 4 L (zi 1 :: S) q Q := ge_x (len := 1) (x := (0, 0, [])) p_146 rfl rfl
theorem g146_4 : z_go zP 146 4 L [zi x2, zi x1, zi x0, .ref u] q Q ↔ z_tg q.1 u = some 9 ∧ z_go zP 100 0 [some (.ref u), some (zi x0), some (zi x1), some (zi x2), none] [] q (zc 146 7 L [] Q) := ge_vc (len := 3) (pc := 4) (S := [zi x2, zi x1, zi x0, .ref u]) (u := u) (k1 := 100) (A := [.ref u, zi x0, zi x1, zi x2]) (r := []) (tag := 9) (n0 := 3) (zwb_le (by show 0 ≤ 4; omega)) p_146 rfl rfl rfl p_100 (by show 4 ≤ 5; omega) rfl
theorem g146_7 (a1 : -2147483648 ≤ a) (a2 : a < 2147483648) : z_go zP 146 7 L (zi a :: S) q Q ↔ if a = 0 then z_go zP 146 20 L S q Q else z_go zP 146 10 L S q Q := ge_if_eq (len := 3) (x := (0, 0, [])) a1 a2 p_146 rfl rfl
theorem g146_7b {c : Prop} [Decidable c] : z_go zP 146 7 L (zi (bI c) :: S) q Q ↔ if c then z_go zP 146 10 L S q Q else z_go zP 146 20 L S q Q := ge_if_eq_b (len := 3) (x := (0, 0, [])) p_146 rfl rfl
theorem g146_10 : z_go zP 146 10 [some (.ref u), l1, l2, l3] S q Q ↔ z_go zP 146 11 [some (.ref u), l1, l2, l3] (.ref u :: S) q Q := ge_x (len := 1) (x := (0, 0, [])) p_146 rfl rfl
theorem g146_11 : z_go zP 146 11 [l0, l1, some (zi a), l3] S q Q ↔ z_go zP 146 12 [l0, l1, some (zi a), l3] (zi a :: S) q Q := ge_x (len := 1) (x := (0, 0, [])) p_146 rfl rfl
theorem g146_12 : z_go zP 146 12 L S q Q ↔ z_go zP 146 13 L (zi 2 :: S) q Q := ge_x (len := 1) (x := (0, 0, [])) p_146 rfl rfl
theorem g146_13 : z_go zP 146 13 L S q Q ↔ z_go zP 146 14 L (zi 1 :: S) q Q := ge_x (len := 1) (x := (0, 0, [])) p_146 rfl rfl
theorem g146_14 : z_go zP 146 14 L [zi x2, zi x1, zi x0, .ref u] q Q ↔ z_tg q.1 u = some 9 ∧ z_go zP 100 0 [some (.ref u), some (zi x0), some (zi x1), some (zi x2), none] [] q (zc 146 17 L [] Q) := ge_vc (len := 3) (pc := 14) (S := [zi x2, zi x1, zi x0, .ref u]) (u := u) (k1 := 100) (A := [.ref u, zi x0, zi x1, zi x2]) (r := []) (tag := 9) (n0 := 3) (zwb_le (by show 0 ≤ 4; omega)) p_146 rfl rfl rfl p_100 (by show 4 ≤ 5; omega) rfl
theorem g146_17 (a1 : -2147483648 ≤ a) (a2 : a < 2147483648) : z_go zP 146 17 L (zi a :: S) q Q ↔ if ¬ a = 0 then z_go zP 146 22 L S q Q else z_go zP 146 20 L S q Q := ge_if_ne (len := 3) (x := (0, 0, [])) a1 a2 p_146 rfl rfl
theorem g146_17b {c : Prop} [Decidable c] : z_go zP 146 17 L (zi (bI c) :: S) q Q ↔ if c then z_go zP 146 22 L S q Q else z_go zP 146 20 L S q Q := ge_if_ne_b (len := 3) (x := (0, 0, [])) p_146 rfl rfl
theorem g146_20 : z_go zP 146 20 L S q Q ↔ z_go zP 146 21 L (zi 0 :: S) q Q := ge_x (len := 1) (x := (0, 0, [])) p_146 rfl rfl
theorem g146_21 : z_go zP 146 21 L [zi a] q Q ↔ Q (.inl (some (zi a))) q := ge_rti (len := 1) (x := (0, 0, [])) p_146 rfl rfl
theorem g146_22 : z_go zP 146 22 [some (.ref u), l1, l2, l3] S q Q ↔ z_go zP 146 23 [some (.ref u), l1, l2, l3] (.ref u :: S) q Q := ge_x (len := 1) (x := (0, 0, [])) p_146 rfl rfl
theorem g146_23 : z_go zP 146 23 L (.ref u :: S) q Q ↔ ∃ v, z_get [9] 5 q.1 u = some v ∧ z_go zP 146 26 L (v :: S) q Q := ge_getf (len := 3) (x := (5, 0, [9])) p_146 rfl
theorem g146_26 : z_go zP 146 26 [l0, some (zi a), l2, l3] S q Q ↔ z_go zP 146 27 [l0, some (zi a), l2, l3] (zi a :: S) q Q := ge_x (len := 1) (x := (0, 0, [])) p_146 rfl rfl
theorem g146_27 : z_go zP 146 27 L (zi a :: .ref u :: S) q Q ↔ ∃ v, z_at [99, 100] q.1 u (Int32.ofInt a) = some v ∧ z_go zP 146 28 L (v :: S) q Q := ge_iald (len := 1) (x := (0, 0, [])) p_146 rfl
theorem g146_28 : z_go zP 146 28 [some (.ref u), l1, l2, l3] S q Q ↔ z_go zP 146 29 [some (.ref u), l1, l2, l3] (.ref u :: S) q Q := ge_x (len := 1) (x := (0, 0, [])) p_146 rfl rfl
theorem g146_29 : z_go zP 146 29 L (.ref u :: S) q Q ↔ ∃ v, z_get [9] 5 q.1 u = some v ∧ z_go zP 146 32 L (v :: S) q Q := ge_getf (len := 3) (x := (5, 0, [9])) p_146 rfl
theorem g146_32 : z_go zP 146 32 [l0, l1, some (zi a), l3] S q Q ↔ z_go zP 146 33 [l0, l1, some (zi a), l3] (zi a :: S) q Q := ge_x (len := 1) (x := (0, 0, [])) p_146 rfl rfl
theorem g146_33 : z_go zP 146 33 L (zi a :: .ref u :: S) q Q ↔ ∃ v, z_at [99, 100] q.1 u (Int32.ofInt a) = some v ∧ z_go zP 146 34 L (v :: S) q Q := ge_iald (len := 1) (x := (0, 0, [])) p_146 rfl
theorem g146_34 (a1 : -2147483648 ≤ a) (a2 : a < 2147483648) (b1 : -2147483648 ≤ b) (b2 : b < 2147483648) : z_go zP 146 34 L (zi b :: zi a :: S) q Q ↔ if a = b then z_go zP 146 44 L S q Q else z_go zP 146 37 L S q Q := ge_ic_eq (len := 3) (x := (0, 0, [])) a1 a2 b1 b2 p_146 rfl rfl
theorem g146_37 : z_go zP 146 37 [some (.ref u), l1, l2, l3] S q Q ↔ z_go zP 146 38 [some (.ref u), l1, l2, l3] (.ref u :: S) q Q := ge_x (len := 1) (x := (0, 0, [])) p_146 rfl rfl
theorem g146_38 : z_go zP 146 38 L S q Q ↔ z_go zP 146 39 L (zi 4 :: S) q Q := ge_x (len := 1) (x := (0, 0, [])) p_146 rfl rfl
theorem g146_39 : z_go zP 146 39 L S q Q ↔ z_go zP 146 40 L (zi 1 :: S) q Q := ge_x (len := 1) (x := (0, 0, [])) p_146 rfl rfl
theorem g146_40 : z_go zP 146 40 L [zi x1, zi x0, .ref u] q Q ↔ z_tg q.1 u = some 9 ∧ z_go zP 98 0 [some (.ref u), some (zi x0), some (zi x1)] [] q (zc 146 43 L [] Q) := ge_vc (len := 3) (pc := 40) (S := [zi x1, zi x0, .ref u]) (u := u) (k1 := 98) (A := [.ref u, zi x0, zi x1]) (r := []) (tag := 9) (n0 := 2) (zwb_le (by show 0 ≤ 4; omega)) p_146 rfl rfl rfl p_98 (by show 3 ≤ 3; omega) rfl
theorem g146_43 : z_go zP 146 43 L [zi a] q Q ↔ Q (.inl (some (zi a))) q := ge_rti (len := 1) (x := (0, 0, [])) p_146 rfl rfl
theorem g146_44 : z_go zP 146 44 [some (.ref u), l1, l2, l3] S q Q ↔ z_go zP 146 45 [some (.ref u), l1, l2, l3] (.ref u :: S) q Q := ge_x (len := 1) (x := (0, 0, [])) p_146 rfl rfl
theorem g146_45 : z_go zP 146 45 L (.ref u :: S) q Q ↔ ∃ v, z_get [9] 13 q.1 u = some v ∧ z_go zP 146 48 L (v :: S) q Q := ge_getf (len := 3) (x := (13, 0, [9])) p_146 rfl
theorem g146_48 : z_go zP 146 48 [l0, some (zi a), l2, l3] S q Q ↔ z_go zP 146 49 [l0, some (zi a), l2, l3] (zi a :: S) q Q := ge_x (len := 1) (x := (0, 0, [])) p_146 rfl rfl
theorem g146_49 : z_go zP 146 49 L (zi a :: .ref u :: S) q Q ↔ ∃ v, z_at [99, 100] q.1 u (Int32.ofInt a) = some v ∧ z_go zP 146 50 L (v :: S) q Q := ge_iald (len := 1) (x := (0, 0, [])) p_146 rfl
theorem g146_50 (a1 : -2147483648 ≤ a) (a2 : a < 2147483648) : z_go zP 146 50 L (zi a :: S) q Q ↔ if a = 0 then z_go zP 146 62 L S q Q else z_go zP 146 53 L S q Q := ge_if_eq (len := 3) (x := (0, 0, [])) a1 a2 p_146 rfl rfl
theorem g146_50b {c : Prop} [Decidable c] : z_go zP 146 50 L (zi (bI c) :: S) q Q ↔ if c then z_go zP 146 53 L S q Q else z_go zP 146 62 L S q Q := ge_if_eq_b (len := 3) (x := (0, 0, [])) p_146 rfl rfl
theorem g146_53 : z_go zP 146 53 [some (.ref u), l1, l2, l3] S q Q ↔ z_go zP 146 54 [some (.ref u), l1, l2, l3] (.ref u :: S) q Q := ge_x (len := 1) (x := (0, 0, [])) p_146 rfl rfl
theorem g146_54 : z_go zP 146 54 L (.ref u :: S) q Q ↔ ∃ v, z_get [9] 13 q.1 u = some v ∧ z_go zP 146 57 L (v :: S) q Q := ge_getf (len := 3) (x := (13, 0, [9])) p_146 rfl
theorem g146_57 : z_go zP 146 57 [l0, l1, some (zi a), l3] S q Q ↔ z_go zP 146 58 [l0, l1, some (zi a), l3] (zi a :: S) q Q := ge_x (len := 1) (x := (0, 0, [])) p_146 rfl rfl
theorem g146_58 : z_go zP 146 58 L (zi a :: .ref u :: S) q Q ↔ ∃ v, z_at [99, 100] q.1 u (Int32.ofInt a) = some v ∧ z_go zP 146 59 L (v :: S) q Q := ge_iald (len := 1) (x := (0, 0, [])) p_146 rfl
theorem g146_59 (a1 : -2147483648 ≤ a) (a2 : a < 2147483648) : z_go zP 146 59 L (zi a :: S) q Q ↔ if ¬ a = 0 then z_go zP 146 69 L S q Q else z_go zP 146 62 L S q Q := ge_if_ne (len := 3) (x := (0, 0, [])) a1 a2 p_146 rfl rfl
theorem g146_59b {c : Prop} [Decidable c] : z_go zP 146 59 L (zi (bI c) :: S) q Q ↔ if c then z_go zP 146 69 L S q Q else z_go zP 146 62 L S q Q := ge_if_ne_b (len := 3) (x := (0, 0, [])) p_146 rfl rfl
theorem g146_62 : z_go zP 146 62 [some (.ref u), l1, l2, l3] S q Q ↔ z_go zP 146 63 [some (.ref u), l1, l2, l3] (.ref u :: S) q Q := ge_x (len := 1) (x := (0, 0, [])) p_146 rfl rfl
theorem g146_63 : z_go zP 146 63 L S q Q ↔ z_go zP 146 64 L (zi 5 :: S) q Q := ge_x (len := 1) (x := (0, 0, [])) p_146 rfl rfl
theorem g146_64 : z_go zP 146 64 L S q Q ↔ z_go zP 146 65 L (zi 1 :: S) q Q := ge_x (len := 1) (x := (0, 0, [])) p_146 rfl rfl
theorem g146_65 : z_go zP 146 65 L [zi x1, zi x0, .ref u] q Q ↔ z_tg q.1 u = some 9 ∧ z_go zP 98 0 [some (.ref u), some (zi x0), some (zi x1)] [] q (zc 146 68 L [] Q) := ge_vc (len := 3) (pc := 65) (S := [zi x1, zi x0, .ref u]) (u := u) (k1 := 98) (A := [.ref u, zi x0, zi x1]) (r := []) (tag := 9) (n0 := 2) (zwb_le (by show 0 ≤ 4; omega)) p_146 rfl rfl rfl p_98 (by show 3 ≤ 3; omega) rfl
theorem g146_68 : z_go zP 146 68 L [zi a] q Q ↔ Q (.inl (some (zi a))) q := ge_rti (len := 1) (x := (0, 0, [])) p_146 rfl rfl
theorem g146_69 : z_go zP 146 69 [l0, l1, l2, some (zi a)] S q Q ↔ z_go zP 146 70 [l0, l1, l2, some (zi a)] (zi a :: S) q Q := ge_x (len := 1) (x := (0, 0, [])) p_146 rfl rfl
theorem g146_70 : z_go zP 146 70 L S q Q ↔ z_go zP 146 71 L (zi 0 :: S) q Q := ge_x (len := 1) (x := (0, 0, [])) p_146 rfl rfl
theorem g146_71 : z_go zP 146 71 L S q Q ↔ z_go zP 146 72 L (zi 1 :: S) q Q := ge_x (len := 1) (x := (0, 0, [])) p_146 rfl rfl
theorem g146_72 : z_go zP 146 72 L [zi x2, zi x1, zi x0] q Q ↔ z_go zP 97 0 [some (zi x0), some (zi x1), some (zi x2)] [] q (zd 146 75 L [] Q) := (z_go_cl (len := 3) (x := (97, 2, [3])) (k1 := 97) (A := [zi x0, zi x1, zi x2]) (r := []) p_146 rfl rfl rfl rfl (by simp only [z_cl, List.drop]; rw [if_pos]; rfl; exact by first | exact ⟨by decide, (zwb_le (by show 0 ≤ 4; omega))⟩ | exact ⟨by decide, by show 3 ≤ 3; omega, (zwb_le (by show 0 ≤ 4; omega))⟩) p_97 (by show 3 ≤ 3; omega)).trans (ge_bk_d rfl)
theorem g146_75 (a1 : -2147483648 ≤ a) (a2 : a < 2147483648) : z_go zP 146 75 L (zi a :: S) q Q ↔ if ¬ a = 0 then z_go zP 146 84 L S q Q else z_go zP 146 78 L S q Q := ge_if_ne (len := 3) (x := (0, 0, [])) a1 a2 p_146 rfl rfl
theorem g146_75b {c : Prop} [Decidable c] : z_go zP 146 75 L (zi (bI c) :: S) q Q ↔ if c then z_go zP 146 84 L S q Q else z_go zP 146 78 L S q Q := ge_if_ne_b (len := 3) (x := (0, 0, [])) p_146 rfl rfl
theorem g146_78 : z_go zP 146 78 [some (.ref u), l1, l2, l3] S q Q ↔ z_go zP 146 79 [some (.ref u), l1, l2, l3] (.ref u :: S) q Q := ge_x (len := 1) (x := (0, 0, [])) p_146 rfl rfl
theorem g146_79 : z_go zP 146 79 L S q Q ↔ z_go zP 146 80 L (zi 2 :: S) q Q := ge_x (len := 1) (x := (0, 0, [])) p_146 rfl rfl
theorem g146_80 : z_go zP 146 80 L [zi x0, .ref u] q Q ↔ z_tg q.1 u = some 9 ∧ z_go zP 96 0 [some (.ref u), some (zi x0)] [] q (zc 146 83 L [] Q) := ge_vc (len := 3) (pc := 80) (S := [zi x0, .ref u]) (u := u) (k1 := 96) (A := [.ref u, zi x0]) (r := []) (tag := 9) (n0 := 1) (zwb_le (by show 0 ≤ 4; omega)) p_146 rfl rfl rfl p_96 (by show 2 ≤ 2; omega) rfl
theorem g146_83 : z_go zP 146 83 L [zi a] q Q ↔ Q (.inl (some (zi a))) q := ge_rti (len := 1) (x := (0, 0, [])) p_146 rfl rfl
theorem g146_84 : z_go zP 146 84 [some (.ref u), l1, l2, l3] S q Q ↔ z_go zP 146 85 [some (.ref u), l1, l2, l3] (.ref u :: S) q Q := ge_x (len := 1) (x := (0, 0, [])) p_146 rfl rfl
theorem g146_85 : z_go zP 146 85 L S q Q ↔ z_go zP 146 86 L (zi 1 :: S) q Q := ge_x (len := 1) (x := (0, 0, [])) p_146 rfl rfl
theorem g146_86 : z_go zP 146 86 L [zi x0, .ref u] q Q ↔ z_tg q.1 u = some 9 ∧ z_go zP 103 0 [some (.ref u), some (zi x0)] [] q (zc 146 89 L [] Q) := ge_vc (len := 3) (pc := 86) (S := [zi x0, .ref u]) (u := u) (k1 := 103) (A := [.ref u, zi x0]) (r := []) (tag := 9) (n0 := 1) (zwb_le (by show 0 ≤ 4; omega)) p_146 rfl rfl rfl p_103 (by show 2 ≤ 2; omega) rfl
theorem g146_89 (a1 : -2147483648 ≤ a) (a2 : a < 2147483648) : z_go zP 146 89 L (zi a :: S) q Q ↔ if a = 0 then z_go zP 146 94 L S q Q else z_go zP 146 92 L S q Q := ge_if_eq (len := 3) (x := (0, 0, [])) a1 a2 p_146 rfl rfl
theorem g146_89b {c : Prop} [Decidable c] : z_go zP 146 89 L (zi (bI c) :: S) q Q ↔ if c then z_go zP 146 92 L S q Q else z_go zP 146 94 L S q Q := ge_if_eq_b (len := 3) (x := (0, 0, [])) p_146 rfl rfl
theorem g146_92 : z_go zP 146 92 L S q Q ↔ z_go zP 146 93 L (zi 0 :: S) q Q := ge_x (len := 1) (x := (0, 0, [])) p_146 rfl rfl
theorem g146_93 : z_go zP 146 93 L [zi a] q Q ↔ Q (.inl (some (zi a))) q := ge_rti (len := 1) (x := (0, 0, [])) p_146 rfl rfl
theorem g146_94 : z_go zP 146 94 [some (.ref u), l1, l2, l3] S q Q ↔ z_go zP 146 95 [some (.ref u), l1, l2, l3] (.ref u :: S) q Q := ge_x (len := 1) (x := (0, 0, [])) p_146 rfl rfl
theorem g146_95 : z_go zP 146 95 L (.ref u :: S) q Q ↔ ∃ v, z_get [9] 12 q.1 u = some v ∧ z_go zP 146 98 L (v :: S) q Q := ge_getf (len := 3) (x := (12, 0, [9])) p_146 rfl
theorem g146_98 : z_go zP 146 98 [some (.ref u), l1, l2, l3] S q Q ↔ z_go zP 146 99 [some (.ref u), l1, l2, l3] (.ref u :: S) q Q := ge_x (len := 1) (x := (0, 0, [])) p_146 rfl rfl
theorem g146_99 : z_go zP 146 99 L S q Q ↔ z_go zP 146 101 L (zi 6 :: S) q Q := ge_x (len := 2) (x := (0, 0, [])) p_146 rfl rfl
theorem g146_101 : z_go zP 146 101 [l0, some (zi a), l2, l3] S q Q ↔ z_go zP 146 102 [l0, some (zi a), l2, l3] (zi a :: S) q Q := ge_x (len := 1) (x := (0, 0, [])) p_146 rfl rfl
theorem g146_102 : z_go zP 146 102 [l0, l1, some (zi a), l3] S q Q ↔ z_go zP 146 103 [l0, l1, some (zi a), l3] (zi a :: S) q Q := ge_x (len := 1) (x := (0, 0, [])) p_146 rfl rfl
theorem g146_103 : z_go zP 146 103 L [zi x2, zi x1, zi x0, .ref u, r0] q Q ↔ z_tg q.1 u = some 9 ∧ z_go zP 102 0 [some (.ref u), some (zi x0), some (zi x1), some (zi x2)] [] q (zc 146 106 L [r0] Q) := ge_vc (len := 3) (pc := 103) (S := [zi x2, zi x1, zi x0, .ref u, r0]) (u := u) (k1 := 102) (A := [.ref u, zi x0, zi x1, zi x2]) (r := [r0]) (tag := 9) (n0 := 3) (zwb_le (by show 1 ≤ 4; omega)) p_146 rfl rfl rfl p_102 (by show 4 ≤ 4; omega) rfl
theorem g146_106 : z_go zP 146 106 [l0, l1, l2, some (zi a)] S q Q ↔ z_go zP 146 107 [l0, l1, l2, some (zi a)] (zi a :: S) q Q := ge_x (len := 1) (x := (0, 0, [])) p_146 rfl rfl
theorem g146_107 : z_go zP 146 107 L (zi b :: zi a :: .ref u :: S) q Q ↔ ∃ q1, z_st 100 q u (Int32.ofInt a) (zi b) = some q1 ∧ z_go zP 146 108 L S q1 Q := ge_iast (len := 1) (x := (0, 0, [])) p_146 rfl
theorem g146_108 : z_go zP 146 108 [some (.ref u), l1, l2, l3] S q Q ↔ z_go zP 146 109 [some (.ref u), l1, l2, l3] (.ref u :: S) q Q := ge_x (len := 1) (x := (0, 0, [])) p_146 rfl rfl
theorem g146_109 : z_go zP 146 109 L (.ref u :: S) q Q ↔ ∃ v, z_get [9] 2 q.1 u = some v ∧ z_go zP 146 112 L (v :: S) q Q := ge_getf (len := 3) (x := (2, 0, [9])) p_146 rfl
theorem g146_112 : z_go zP 146 112 L [zi a] q Q ↔ Q (.inl (some (zi a))) q := ge_rti (len := 1) (x := (0, 0, [])) p_146 rfl rfl
theorem g147_0 : z_go zP 147 0 [some (.ref u), l1] S q Q ↔ z_go zP 147 1 [some (.ref u), l1] (.ref u :: S) q Q := ge_x (len := 1) (x := (0, 0, [])) p_147 rfl rfl
theorem g147_1 : z_go zP 147 1 [l0, some (zi a)] S q Q ↔ z_go zP 147 2 [l0, some (zi a)] (zi a :: S) q Q := ge_x (len := 1) (x := (0, 0, [])) p_147 rfl rfl
theorem g147_2 : z_go zP 147 2 L [zi x0, .ref u] q Q ↔ z_tg q.1 u = some 9 ∧ z_go zP 145 0 [some (.ref u), some (zi x0), none] [] q (zc 147 5 L [] Q) := ge_vc (len := 3) (pc := 2) (S := [zi x0, .ref u]) (u := u) (k1 := 145) (A := [.ref u, zi x0]) (r := []) (tag := 9) (n0 := 1) (zwb_le (by show 0 ≤ 4; omega)) p_147 rfl rfl rfl p_145 (by show 2 ≤ 3; omega) rfl
theorem g147_5 : z_go zP 147 5 [some (.ref u), l1] S q Q ↔ z_go zP 147 6 [some (.ref u), l1] (.ref u :: S) q Q := ge_x (len := 1) (x := (0, 0, [])) p_147 rfl rfl
theorem g147_6 : z_go zP 147 6 L (.ref u :: S) q Q ↔ ∃ v, z_get [9] 33 q.1 u = some v ∧ z_go zP 147 9 L (v :: S) q Q := ge_getf (len := 3) (x := (33, 0, [9])) p_147 rfl
theorem g147_9 : z_go zP 147 9 L S q Q ↔ z_go zP 147 12 L (zi 2000 :: S) q Q := ge_x (len := 3) (x := (0, 0, [])) p_147 rfl rfl
theorem g147_12 (a1 : -2147483648 ≤ a) (a2 : a < 2147483648) (b1 : -2147483648 ≤ b) (b2 : b < 2147483648) : z_go zP 147 12 L (zi b :: zi a :: S) q Q ↔ if a ≤ b then z_go zP 147 23 L S q Q else z_go zP 147 15 L S q Q := ge_ic_le (len := 3) (x := (0, 0, [])) a1 a2 b1 b2 p_147 rfl rfl
theorem g147_15 : z_go zP 147 15 [some (.ref u), l1] S q Q ↔ z_go zP 147 16 [some (.ref u), l1] (.ref u :: S) q Q := ge_x (len := 1) (x := (0, 0, [])) p_147 rfl rfl
theorem g147_16 : z_go zP 147 16 L S q Q ↔ z_go zP 147 18 L (zi 7 :: S) q Q := ge_x (len := 2) (x := (0, 0, [])) p_147 rfl rfl
theorem g147_18 : z_go zP 147 18 L S q Q ↔ z_go zP 147 19 L (zi 1 :: S) q Q := ge_x (len := 1) (x := (0, 0, [])) p_147 rfl rfl
theorem g147_19 : z_go zP 147 19 L [zi x1, zi x0, .ref u] q Q ↔ z_tg q.1 u = some 9 ∧ z_go zP 98 0 [some (.ref u), some (zi x0), some (zi x1)] [] q (zc 147 22 L [] Q) := ge_vc (len := 3) (pc := 19) (S := [zi x1, zi x0, .ref u]) (u := u) (k1 := 98) (A := [.ref u, zi x0, zi x1]) (r := []) (tag := 9) (n0 := 2) (zwb_le (by show 0 ≤ 4; omega)) p_147 rfl rfl rfl p_98 (by show 3 ≤ 3; omega) rfl
theorem g147_22 : z_go zP 147 22 L (zi a :: S) q Q ↔ z_go zP 147 23 L S q Q := ge_x (len := 1) (x := (0, 0, [])) p_147 rfl rfl
theorem g147_22r : z_go zP 147 22 L (.ref u :: S) q Q ↔ z_go zP 147 23 L S q Q := ge_x (len := 1) (x := (0, 0, [])) p_147 rfl rfl
theorem g147_23 : z_go zP 147 23 [some (.ref u), l1] S q Q ↔ z_go zP 147 24 [some (.ref u), l1] (.ref u :: S) q Q := ge_x (len := 1) (x := (0, 0, [])) p_147 rfl rfl
theorem g147_24 : z_go zP 147 24 L (.ref u :: S) q Q ↔ ∃ v, z_get [9] 33 q.1 u = some v ∧ z_go zP 147 27 L (v :: S) q Q := ge_getf (len := 3) (x := (33, 0, [9])) p_147 rfl
theorem g147_27 : z_go zP 147 27 L S q Q ↔ z_go zP 147 30 L (zi 2000 :: S) q Q := ge_x (len := 3) (x := (0, 0, [])) p_147 rfl rfl
theorem g147_30 (a1 : -2147483648 ≤ a) (a2 : a < 2147483648) (b1 : -2147483648 ≤ b) (b2 : b < 2147483648) : z_go zP 147 30 L (zi b :: zi a :: S) q Q ↔ if b < a then z_go zP 147 37 L S q Q else z_go zP 147 33 L S q Q := ge_ic_gt (len := 3) (x := (0, 0, [])) a1 a2 b1 b2 p_147 rfl rfl
theorem g147_33 : z_go zP 147 33 L S q Q ↔ z_go zP 147 34 L (zi 1 :: S) q Q := ge_x (len := 1) (x := (0, 0, [])) p_147 rfl rfl
theorem g147_34 : z_go zP 147 34 L S q Q ↔ z_go zP 147 38 L S q Q := ge_to (len := 3) (x := (0, 0, [])) p_147 rfl rfl rfl
theorem g147_37 : z_go zP 147 37 L S q Q ↔ z_go zP 147 38 L (zi 0 :: S) q Q := ge_x (len := 1) (x := (0, 0, [])) p_147 rfl rfl
theorem g147_38_0 : z_go zP 147 38 L [zi 0] q Q ↔ Q (.inl (some (zi 0))) q := z_go_rt (len := 1) (x := (0, 0, [])) p_147 rfl rfl rfl
theorem g147_38_1 : z_go zP 147 38 L [zi 1] q Q ↔ Q (.inl (some (zi 1))) q := z_go_rt (len := 1) (x := (0, 0, [])) p_147 rfl rfl rfl
theorem g147_38b {c : Prop} [Decidable c] : z_go zP 147 38 L [zi (bI c)] q Q ↔ Q (.inl (some (zi (bI c)))) q := (by rcases bI_01 (c := c) with h | h <;> rw [h] <;> exact z_go_rt (len := 1) (x := (0, 0, [])) p_147 rfl rfl rfl)
theorem g148_0 : z_go zP 148 0 [some (.ref u), l1, l2] S q Q ↔ z_go zP 148 1 [some (.ref u), l1, l2] (.ref u :: S) q Q := ge_x (len := 1) (x := (0, 0, [])) p_148 rfl rfl
theorem g148_1 : z_go zP 148 1 [l0, some (zi a), l2] S q Q ↔ z_go zP 148 2 [l0, some (zi a), l2] (zi a :: S) q Q := ge_x (len := 1) (x := (0, 0, [])) p_148 rfl rfl
theorem g148_2 : z_go zP 148 2 L S q Q ↔ z_go zP 148 4 L (zi 6 :: S) q Q := ge_x (len := 2) (x := (0, 0, [])) p_148 rfl rfl
theorem g148_4 : z_go zP 148 4 L S q Q ↔ z_go zP 148 5 L (zi 1 :: S) q Q := ge_x (len := 1) (x := (0, 0, [])) p_148 rfl rfl
theorem g148_5 : z_go zP 148 5 L [zi x2, zi x1, zi x0, .ref u] q Q ↔ z_tg q.1 u = some 9 ∧ z_go zP 100 0 [some (.ref u), some (zi x0), some (zi x1), some (zi x2), none] [] q (zc 148 8 L [] Q) := ge_vc (len := 3) (pc := 5) (S := [zi x2, zi x1, zi x0, .ref u]) (u := u) (k1 := 100) (A := [.ref u, zi x0, zi x1, zi x2]) (r := []) (tag := 9) (n0 := 3) (zwb_le (by show 0 ≤ 4; omega)) p_148 rfl rfl rfl p_100 (by show 4 ≤ 5; omega) rfl
theorem g148_8 (a1 : -2147483648 ≤ a) (a2 : a < 2147483648) : z_go zP 148 8 L (zi a :: S) q Q ↔ if ¬ a = 0 then z_go zP 148 13 L S q Q else z_go zP 148 11 L S q Q := ge_if_ne (len := 3) (x := (0, 0, [])) a1 a2 p_148 rfl rfl
theorem g148_8b {c : Prop} [Decidable c] : z_go zP 148 8 L (zi (bI c) :: S) q Q ↔ if c then z_go zP 148 13 L S q Q else z_go zP 148 11 L S q Q := ge_if_ne_b (len := 3) (x := (0, 0, [])) p_148 rfl rfl
theorem g148_11 : z_go zP 148 11 L S q Q ↔ z_go zP 148 12 L (zi 0 :: S) q Q := ge_x (len := 1) (x := (0, 0, [])) p_148 rfl rfl
theorem g148_12 : z_go zP 148 12 L [zi a] q Q ↔ Q (.inl (some (zi a))) q := ge_rti (len := 1) (x := (0, 0, [])) p_148 rfl rfl
theorem g148_13 : z_go zP 148 13 [l0, l1, some (zi a)] S q Q ↔ z_go zP 148 14 [l0, l1, some (zi a)] (zi a :: S) q Q := ge_x (len := 1) (x := (0, 0, [])) p_148 rfl rfl
theorem g148_14 : z_go zP 148 14 L S q Q ↔ z_go zP 148 15 L (zi 0 :: S) q Q := ge_x (len := 1) (x := (0, 0, [])) p_148 rfl rfl
theorem g148_15 : z_go zP 148 15 L S q Q ↔ z_go zP 148 16 L (zi 2 :: S) q Q := ge_x (len := 1) (x := (0, 0, [])) p_148 rfl rfl
theorem g148_16 : z_go zP 148 16 L [zi x2, zi x1, zi x0] q Q ↔ z_go zP 97 0 [some (zi x0), some (zi x1), some (zi x2)] [] q (zd 148 19 L [] Q) := (z_go_cl (len := 3) (x := (97, 2, [3])) (k1 := 97) (A := [zi x0, zi x1, zi x2]) (r := []) p_148 rfl rfl rfl rfl (by simp only [z_cl, List.drop]; rw [if_pos]; rfl; exact by first | exact ⟨by decide, (zwb_le (by show 0 ≤ 4; omega))⟩ | exact ⟨by decide, by show 3 ≤ 3; omega, (zwb_le (by show 0 ≤ 4; omega))⟩) p_97 (by show 3 ≤ 3; omega)).trans (ge_bk_d rfl)
theorem g148_19 (a1 : -2147483648 ≤ a) (a2 : a < 2147483648) : z_go zP 148 19 L (zi a :: S) q Q ↔ if ¬ a = 0 then z_go zP 148 28 L S q Q else z_go zP 148 22 L S q Q := ge_if_ne (len := 3) (x := (0, 0, [])) a1 a2 p_148 rfl rfl
theorem g148_19b {c : Prop} [Decidable c] : z_go zP 148 19 L (zi (bI c) :: S) q Q ↔ if c then z_go zP 148 28 L S q Q else z_go zP 148 22 L S q Q := ge_if_ne_b (len := 3) (x := (0, 0, [])) p_148 rfl rfl
theorem g148_22 : z_go zP 148 22 [some (.ref u), l1, l2] S q Q ↔ z_go zP 148 23 [some (.ref u), l1, l2] (.ref u :: S) q Q := ge_x (len := 1) (x := (0, 0, [])) p_148 rfl rfl
theorem g148_23 : z_go zP 148 23 L S q Q ↔ z_go zP 148 24 L (zi 2 :: S) q Q := ge_x (len := 1) (x := (0, 0, [])) p_148 rfl rfl
theorem g148_24 : z_go zP 148 24 L [zi x0, .ref u] q Q ↔ z_tg q.1 u = some 9 ∧ z_go zP 96 0 [some (.ref u), some (zi x0)] [] q (zc 148 27 L [] Q) := ge_vc (len := 3) (pc := 24) (S := [zi x0, .ref u]) (u := u) (k1 := 96) (A := [.ref u, zi x0]) (r := []) (tag := 9) (n0 := 1) (zwb_le (by show 0 ≤ 4; omega)) p_148 rfl rfl rfl p_96 (by show 2 ≤ 2; omega) rfl
theorem g148_27 : z_go zP 148 27 L [zi a] q Q ↔ Q (.inl (some (zi a))) q := ge_rti (len := 1) (x := (0, 0, [])) p_148 rfl rfl
theorem g148_28 : z_go zP 148 28 [some (.ref u), l1, l2] S q Q ↔ z_go zP 148 29 [some (.ref u), l1, l2] (.ref u :: S) q Q := ge_x (len := 1) (x := (0, 0, [])) p_148 rfl rfl
theorem g148_29 : z_go zP 148 29 [l0, some (zi a), l2] S q Q ↔ z_go zP 148 30 [l0, some (zi a), l2] (zi a :: S) q Q := ge_x (len := 1) (x := (0, 0, [])) p_148 rfl rfl
theorem g148_30 : z_go zP 148 30 L [zi x0, .ref u] q Q ↔ z_tg q.1 u = some 9 ∧ z_go zP 147 0 [some (.ref u), some (zi x0)] [] q (zc 148 33 L [] Q) := ge_vc (len := 3) (pc := 30) (S := [zi x0, .ref u]) (u := u) (k1 := 147) (A := [.ref u, zi x0]) (r := []) (tag := 9) (n0 := 1) (zwb_le (by show 0 ≤ 4; omega)) p_148 rfl rfl rfl p_147 (by show 2 ≤ 2; omega) rfl
theorem g148_33 (a1 : -2147483648 ≤ a) (a2 : a < 2147483648) : z_go zP 148 33 L (zi a :: S) q Q ↔ if ¬ a = 0 then z_go zP 148 38 L S q Q else z_go zP 148 36 L S q Q := ge_if_ne (len := 3) (x := (0, 0, [])) a1 a2 p_148 rfl rfl
theorem g148_33b {c : Prop} [Decidable c] : z_go zP 148 33 L (zi (bI c) :: S) q Q ↔ if c then z_go zP 148 38 L S q Q else z_go zP 148 36 L S q Q := ge_if_ne_b (len := 3) (x := (0, 0, [])) p_148 rfl rfl
theorem g148_36 : z_go zP 148 36 L S q Q ↔ z_go zP 148 37 L (zi 0 :: S) q Q := ge_x (len := 1) (x := (0, 0, [])) p_148 rfl rfl
theorem g148_37 : z_go zP 148 37 L [zi a] q Q ↔ Q (.inl (some (zi a))) q := ge_rti (len := 1) (x := (0, 0, [])) p_148 rfl rfl
theorem g148_38 : z_go zP 148 38 [l0, l1, some (zi a)] S q Q ↔ z_go zP 148 39 [l0, l1, some (zi a)] (zi a :: S) q Q := ge_x (len := 1) (x := (0, 0, [])) p_148 rfl rfl
theorem g148_39 (a1 : -2147483648 ≤ a) (a2 : a < 2147483648) : z_go zP 148 39 L (zi a :: S) q Q ↔ if ¬ a = 0 then z_go zP 148 49 L S q Q else z_go zP 148 42 L S q Q := ge_if_ne (len := 3) (x := (0, 0, [])) a1 a2 p_148 rfl rfl
theorem g148_39b {c : Prop} [Decidable c] : z_go zP 148 39 L (zi (bI c) :: S) q Q ↔ if c then z_go zP 148 49 L S q Q else z_go zP 148 42 L S q Q := ge_if_ne_b (len := 3) (x := (0, 0, [])) p_148 rfl rfl
theorem g148_42 : z_go zP 148 42 [some (.ref u), l1, l2] S q Q ↔ z_go zP 148 43 [some (.ref u), l1, l2] (.ref u :: S) q Q := ge_x (len := 1) (x := (0, 0, [])) p_148 rfl rfl
theorem g148_43 : z_go zP 148 43 L (.ref u :: S) q Q ↔ ∃ v, z_get [9] 33 q.1 u = some v ∧ z_go zP 148 46 L (v :: S) q Q := ge_getf (len := 3) (x := (33, 0, [9])) p_148 rfl
theorem g148_46 : z_go zP 148 46 L S q Q ↔ z_go zP 148 65 L S q Q := ge_to (len := 3) (x := (0, 0, [])) p_148 rfl rfl rfl
theorem g148_49 : z_go zP 148 49 [l0, l1, some (zi a)] S q Q ↔ z_go zP 148 50 [l0, l1, some (zi a)] (zi a :: S) q Q := ge_x (len := 1) (x := (0, 0, [])) p_148 rfl rfl
theorem g148_50 : z_go zP 148 50 L S q Q ↔ z_go zP 148 51 L (zi 1 :: S) q Q := ge_x (len := 1) (x := (0, 0, [])) p_148 rfl rfl
theorem g148_51 (a1 : -2147483648 ≤ a) (a2 : a < 2147483648) (b1 : -2147483648 ≤ b) (b2 : b < 2147483648) : z_go zP 148 51 L (zi b :: zi a :: S) q Q ↔ if ¬ a = b then z_go zP 148 61 L S q Q else z_go zP 148 54 L S q Q := ge_ic_ne (len := 3) (x := (0, 0, [])) a1 a2 b1 b2 p_148 rfl rfl
theorem g148_54 : z_go zP 148 54 [some (.ref u), l1, l2] S q Q ↔ z_go zP 148 55 [some (.ref u), l1, l2] (.ref u :: S) q Q := ge_x (len := 1) (x := (0, 0, [])) p_148 rfl rfl
theorem g148_55 : z_go zP 148 55 L (.ref u :: S) q Q ↔ ∃ v, z_get [9] 34 q.1 u = some v ∧ z_go zP 148 58 L (v :: S) q Q := ge_getf (len := 3) (x := (34, 0, [9])) p_148 rfl
theorem g148_58 : z_go zP 148 58 L S q Q ↔ z_go zP 148 65 L S q Q := ge_to (len := 3) (x := (0, 0, [])) p_148 rfl rfl rfl
theorem g148_61 : z_go zP 148 61 [some (.ref u), l1, l2] S q Q ↔ z_go zP 148 62 [some (.ref u), l1, l2] (.ref u :: S) q Q := ge_x (len := 1) (x := (0, 0, [])) p_148 rfl rfl
theorem g148_62 : z_go zP 148 62 L (.ref u :: S) q Q ↔ ∃ v, z_get [9] 35 q.1 u = some v ∧ z_go zP 148 65 L (v :: S) q Q := ge_getf (len := 3) (x := (35, 0, [9])) p_148 rfl
theorem g148_65 : z_go zP 148 65 L [zi a] q Q ↔ Q (.inl (some (zi a))) q := ge_rti (len := 1) (x := (0, 0, [])) p_148 rfl rfl
theorem g149_0 : z_go zP 149 0 [some (.ref u), l1, l2, l3] S q Q ↔ z_go zP 149 1 [some (.ref u), l1, l2, l3] (.ref u :: S) q Q := ge_x (len := 1) (x := (0, 0, [])) p_149 rfl rfl
theorem g149_1 : z_go zP 149 1 [l0, some (zi a), l2, l3] S q Q ↔ z_go zP 149 2 [l0, some (zi a), l2, l3] (zi a :: S) q Q := ge_x (len := 1) (x := (0, 0, [])) p_149 rfl rfl
theorem g149_2 : z_go zP 149 2 L S q Q ↔ z_go zP 149 4 L (zi 6 :: S) q Q := ge_x (len := 2) (x := (0, 0, [])) p_149 rfl rfl
theorem g149_4 : z_go zP 149 4 L S q Q ↔ z_go zP 149 5 L (zi 1 :: S) q Q := ge_x (len := 1) (x := (0, 0, [])) p_149 rfl rfl
theorem g149_5 : z_go zP 149 5 L [zi x2, zi x1, zi x0, .ref u] q Q ↔ z_tg q.1 u = some 9 ∧ z_go zP 100 0 [some (.ref u), some (zi x0), some (zi x1), some (zi x2), none] [] q (zc 149 8 L [] Q) := ge_vc (len := 3) (pc := 5) (S := [zi x2, zi x1, zi x0, .ref u]) (u := u) (k1 := 100) (A := [.ref u, zi x0, zi x1, zi x2]) (r := []) (tag := 9) (n0 := 3) (zwb_le (by show 0 ≤ 4; omega)) p_149 rfl rfl rfl p_100 (by show 4 ≤ 5; omega) rfl
theorem g149_8 (a1 : -2147483648 ≤ a) (a2 : a < 2147483648) : z_go zP 149 8 L (zi a :: S) q Q ↔ if ¬ a = 0 then z_go zP 149 13 L S q Q else z_go zP 149 11 L S q Q := ge_if_ne (len := 3) (x := (0, 0, [])) a1 a2 p_149 rfl rfl
theorem g149_8b {c : Prop} [Decidable c] : z_go zP 149 8 L (zi (bI c) :: S) q Q ↔ if c then z_go zP 149 13 L S q Q else z_go zP 149 11 L S q Q := ge_if_ne_b (len := 3) (x := (0, 0, [])) p_149 rfl rfl
theorem g149_11 : z_go zP 149 11 L S q Q ↔ z_go zP 149 12 L (zl 0 :: S) q Q := ge_x (len := 1) (x := (0, 0, [])) p_149 rfl rfl
theorem g149_12 : z_go zP 149 12 L [zl a] q Q ↔ Q (.inl (some (zl a))) q := z_go_rt (len := 1) (x := (0, 0, [])) p_149 rfl rfl rfl
theorem g149_13 : z_go zP 149 13 [some (.ref u), l1, l2, l3] S q Q ↔ z_go zP 149 14 [some (.ref u), l1, l2, l3] (.ref u :: S) q Q := ge_x (len := 1) (x := (0, 0, [])) p_149 rfl rfl
theorem g149_14 : z_go zP 149 14 [l0, l1, l2, some (zi a)] S q Q ↔ z_go zP 149 15 [l0, l1, l2, some (zi a)] (zi a :: S) q Q := ge_x (len := 1) (x := (0, 0, [])) p_149 rfl rfl
theorem g149_15 : z_go zP 149 15 L S q Q ↔ z_go zP 149 16 L (zi 0 :: S) q Q := ge_x (len := 1) (x := (0, 0, [])) p_149 rfl rfl
theorem g149_16 : z_go zP 149 16 L S q Q ↔ z_go zP 149 18 L (zi 7 :: S) q Q := ge_x (len := 2) (x := (0, 0, [])) p_149 rfl rfl
theorem g149_18 : z_go zP 149 18 [some (.ref u), l1, l2, l3] S q Q ↔ z_go zP 149 19 [some (.ref u), l1, l2, l3] (.ref u :: S) q Q := ge_x (len := 1) (x := (0, 0, [])) p_149 rfl rfl
theorem g149_19 : z_go zP 149 19 L (.ref u :: S) q Q ↔ ∃ v, z_get [9] 8 q.1 u = some v ∧ z_go zP 149 22 L (v :: S) q Q := ge_getf (len := 3) (x := (8, 0, [9])) p_149 rfl
theorem g149_22 : z_go zP 149 22 [some (.ref u), l1, l2, l3] S q Q ↔ z_go zP 149 23 [some (.ref u), l1, l2, l3] (.ref u :: S) q Q := ge_x (len := 1) (x := (0, 0, [])) p_149 rfl rfl
theorem g149_23 : z_go zP 149 23 L (.ref u :: S) q Q ↔ ∃ v, z_get [9] 5 q.1 u = some v ∧ z_go zP 149 26 L (v :: S) q Q := ge_getf (len := 3) (x := (5, 0, [9])) p_149 rfl
theorem g149_26 : z_go zP 149 26 [some (.ref u), l1, l2, l3] S q Q ↔ z_go zP 149 27 [some (.ref u), l1, l2, l3] (.ref u :: S) q Q := ge_x (len := 1) (x := (0, 0, [])) p_149 rfl rfl
theorem g149_27 : z_go zP 149 27 L (.ref u :: S) q Q ↔ ∃ v, z_get [9] 5 q.1 u = some v ∧ z_go zP 149 30 L (v :: S) q Q := ge_getf (len := 3) (x := (5, 0, [9])) p_149 rfl
theorem g149_30 : z_go zP 149 30 [l0, some (zi a), l2, l3] S q Q ↔ z_go zP 149 31 [l0, some (zi a), l2, l3] (zi a :: S) q Q := ge_x (len := 1) (x := (0, 0, [])) p_149 rfl rfl
theorem g149_31 : z_go zP 149 31 L (zi a :: .ref u :: S) q Q ↔ ∃ v, z_at [99, 100] q.1 u (Int32.ofInt a) = some v ∧ z_go zP 149 32 L (v :: S) q Q := ge_iald (len := 1) (x := (0, 0, [])) p_149 rfl
theorem g149_32 : z_go zP 149 32 L (zi a :: .ref u :: S) q Q ↔ ∃ v, z_at [99, 100] q.1 u (Int32.ofInt a) = some v ∧ z_go zP 149 33 L (v :: S) q Q := ge_iald (len := 1) (x := (0, 0, [])) p_149 rfl
theorem g149_33 : z_go zP 149 33 L (zi a :: .ref u :: S) q Q ↔ ∃ v, z_at [99, 100] q.1 u (Int32.ofInt a) = some v ∧ z_go zP 149 34 L (v :: S) q Q := ge_iald (len := 1) (x := (0, 0, [])) p_149 rfl
theorem g149_34 : z_go zP 149 34 L (zi b :: zi a :: S) q Q ↔ z_go zP 149 35 L (zi (a + b) :: S) q Q := ge_iadd (len := 1) (x := (0, 0, [])) p_149 rfl
theorem g149_35 : z_go zP 149 35 L [zi x2, zi x1, zi x0, r0] q Q ↔ z_go zP 97 0 [some (zi x0), some (zi x1), some (zi x2)] [] q (zd 149 38 L [r0] Q) := (z_go_cl (len := 3) (x := (97, 2, [3])) (k1 := 97) (A := [zi x0, zi x1, zi x2]) (r := [r0]) p_149 rfl rfl rfl rfl (by simp only [z_cl, List.drop]; rw [if_pos]; rfl; exact by first | exact ⟨by decide, (zwb_le (by show 1 ≤ 4; omega))⟩ | exact ⟨by decide, by show 3 ≤ 4; omega, (zwb_le (by show 1 ≤ 4; omega))⟩) p_97 (by show 3 ≤ 3; omega)).trans (ge_bk_d rfl)
theorem g149_38 (a1 : -2147483648 ≤ a) (a2 : a < 2147483648) : z_go zP 149 38 L (zi a :: S) q Q ↔ if a = 0 then z_go zP 149 45 L S q Q else z_go zP 149 41 L S q Q := ge_if_eq (len := 3) (x := (0, 0, [])) a1 a2 p_149 rfl rfl
theorem g149_38b {c : Prop} [Decidable c] : z_go zP 149 38 L (zi (bI c) :: S) q Q ↔ if c then z_go zP 149 41 L S q Q else z_go zP 149 45 L S q Q := ge_if_eq_b (len := 3) (x := (0, 0, [])) p_149 rfl rfl
theorem g149_41 : z_go zP 149 41 L S q Q ↔ z_go zP 149 42 L (zi 0 :: S) q Q := ge_x (len := 1) (x := (0, 0, [])) p_149 rfl rfl
theorem g149_42 : z_go zP 149 42 L S q Q ↔ z_go zP 149 46 L S q Q := ge_to (len := 3) (x := (0, 0, [])) p_149 rfl rfl rfl
theorem g149_45 : z_go zP 149 45 L S q Q ↔ z_go zP 149 46 L (zi 2 :: S) q Q := ge_x (len := 1) (x := (0, 0, [])) p_149 rfl rfl
theorem g149_46 : z_go zP 149 46 L (v :: .ref u :: S) q Q ↔ ∃ q1, z_put [9] 0 q u v = some q1 ∧ z_go zP 149 49 L S q1 Q := ge_putf (len := 3) (x := (0, 0, [9])) p_149 rfl
theorem g149_49 : z_go zP 149 49 [some (.ref u), l1, l2, l3] S q Q ↔ z_go zP 149 50 [some (.ref u), l1, l2, l3] (.ref u :: S) q Q := ge_x (len := 1) (x := (0, 0, [])) p_149 rfl rfl
theorem g149_50 : z_go zP 149 50 L (.ref u :: S) q Q ↔ ∃ v, z_get [9] 0 q.1 u = some v ∧ z_go zP 149 53 L (v :: S) q Q := ge_getf (len := 3) (x := (0, 0, [9])) p_149 rfl
theorem g149_53 (a1 : -2147483648 ≤ a) (a2 : a < 2147483648) : z_go zP 149 53 L (zi a :: S) q Q ↔ if 0 < a then z_go zP 149 64 L S q Q else z_go zP 149 56 L S q Q := ge_if_gt (len := 3) (x := (0, 0, [])) a1 a2 p_149 rfl rfl
theorem g149_56 : z_go zP 149 56 [some (.ref u), l1, l2, l3] S q Q ↔ z_go zP 149 57 [some (.ref u), l1, l2, l3] (.ref u :: S) q Q := ge_x (len := 1) (x := (0, 0, [])) p_149 rfl rfl
theorem g149_57 : z_go zP 149 57 [l0, some (zi a), l2, l3] S q Q ↔ z_go zP 149 58 [l0, some (zi a), l2, l3] (zi a :: S) q Q := ge_x (len := 1) (x := (0, 0, [])) p_149 rfl rfl
theorem g149_58 : z_go zP 149 58 L [zi x0, .ref u] q Q ↔ z_tg q.1 u = some 9 ∧ z_go zP 147 0 [some (.ref u), some (zi x0)] [] q (zc 149 61 L [] Q) := ge_vc (len := 3) (pc := 58) (S := [zi x0, .ref u]) (u := u) (k1 := 147) (A := [.ref u, zi x0]) (r := []) (tag := 9) (n0 := 1) (zwb_le (by show 0 ≤ 4; omega)) p_149 rfl rfl rfl p_147 (by show 2 ≤ 2; omega) rfl
theorem g149_61 (a1 : -2147483648 ≤ a) (a2 : a < 2147483648) : z_go zP 149 61 L (zi a :: S) q Q ↔ if ¬ a = 0 then z_go zP 149 66 L S q Q else z_go zP 149 64 L S q Q := ge_if_ne (len := 3) (x := (0, 0, [])) a1 a2 p_149 rfl rfl
theorem g149_61b {c : Prop} [Decidable c] : z_go zP 149 61 L (zi (bI c) :: S) q Q ↔ if c then z_go zP 149 66 L S q Q else z_go zP 149 64 L S q Q := ge_if_ne_b (len := 3) (x := (0, 0, [])) p_149 rfl rfl
theorem g149_64 : z_go zP 149 64 L S q Q ↔ z_go zP 149 65 L (zl 0 :: S) q Q := ge_x (len := 1) (x := (0, 0, [])) p_149 rfl rfl
theorem g149_65 : z_go zP 149 65 L [zl a] q Q ↔ Q (.inl (some (zl a))) q := z_go_rt (len := 1) (x := (0, 0, [])) p_149 rfl rfl rfl
theorem g149_66 : z_go zP 149 66 [some (.ref u), l1, l2, l3] S q Q ↔ z_go zP 149 67 [some (.ref u), l1, l2, l3] (.ref u :: S) q Q := ge_x (len := 1) (x := (0, 0, [])) p_149 rfl rfl
theorem g149_67 : z_go zP 149 67 [l0, l1, some (zi a), l3] S q Q ↔ z_go zP 149 68 [l0, l1, some (zi a), l3] (zi a :: S) q Q := ge_x (len := 1) (x := (0, 0, [])) p_149 rfl rfl
theorem g149_68 : z_go zP 149 68 L S q Q ↔ z_go zP 149 69 L (zi 0 :: S) q Q := ge_x (len := 1) (x := (0, 0, [])) p_149 rfl rfl
theorem g149_69 : z_go zP 149 69 [some (.ref u), l1, l2, l3] S q Q ↔ z_go zP 149 70 [some (.ref u), l1, l2, l3] (.ref u :: S) q Q := ge_x (len := 1) (x := (0, 0, [])) p_149 rfl rfl
theorem g149_70 : z_go zP 149 70 L (.ref u :: S) q Q ↔ ∃ v, z_get [9] 34 q.1 u = some v ∧ z_go zP 149 73 L (v :: S) q Q := ge_getf (len := 3) (x := (34, 0, [9])) p_149 rfl
theorem g149_73 : z_go zP 149 73 L S q Q ↔ z_go zP 149 74 L (zi 1 :: S) q Q := ge_x (len := 1) (x := (0, 0, [])) p_149 rfl rfl
theorem g149_74 : z_go zP 149 74 L (zi b :: zi a :: S) q Q ↔ z_go zP 149 75 L (zi (a - b) :: S) q Q := ge_isub (len := 1) (x := (0, 0, [])) p_149 rfl
theorem g149_75 : z_go zP 149 75 L [zi x2, zi x1, zi x0, r0] q Q ↔ z_go zP 97 0 [some (zi x0), some (zi x1), some (zi x2)] [] q (zd 149 78 L [r0] Q) := (z_go_cl (len := 3) (x := (97, 2, [3])) (k1 := 97) (A := [zi x0, zi x1, zi x2]) (r := [r0]) p_149 rfl rfl rfl rfl (by simp only [z_cl, List.drop]; rw [if_pos]; rfl; exact by first | exact ⟨by decide, (zwb_le (by show 1 ≤ 4; omega))⟩ | exact ⟨by decide, by show 3 ≤ 4; omega, (zwb_le (by show 1 ≤ 4; omega))⟩) p_97 (by show 3 ≤ 3; omega)).trans (ge_bk_d rfl)
theorem g149_78 (a1 : -2147483648 ≤ a) (a2 : a < 2147483648) : z_go zP 149 78 L (zi a :: S) q Q ↔ if a = 0 then z_go zP 149 85 L S q Q else z_go zP 149 81 L S q Q := ge_if_eq (len := 3) (x := (0, 0, [])) a1 a2 p_149 rfl rfl
theorem g149_78b {c : Prop} [Decidable c] : z_go zP 149 78 L (zi (bI c) :: S) q Q ↔ if c then z_go zP 149 81 L S q Q else z_go zP 149 85 L S q Q := ge_if_eq_b (len := 3) (x := (0, 0, [])) p_149 rfl rfl
theorem g149_81 : z_go zP 149 81 L S q Q ↔ z_go zP 149 82 L (zi 0 :: S) q Q := ge_x (len := 1) (x := (0, 0, [])) p_149 rfl rfl
theorem g149_82 : z_go zP 149 82 L S q Q ↔ z_go zP 149 86 L S q Q := ge_to (len := 3) (x := (0, 0, [])) p_149 rfl rfl rfl
theorem g149_85 : z_go zP 149 85 L S q Q ↔ z_go zP 149 86 L (zi 3 :: S) q Q := ge_x (len := 1) (x := (0, 0, [])) p_149 rfl rfl
theorem g149_86 : z_go zP 149 86 L (v :: .ref u :: S) q Q ↔ ∃ q1, z_put [9] 0 q u v = some q1 ∧ z_go zP 149 89 L S q1 Q := ge_putf (len := 3) (x := (0, 0, [9])) p_149 rfl
theorem g149_89 : z_go zP 149 89 [some (.ref u), l1, l2, l3] S q Q ↔ z_go zP 149 90 [some (.ref u), l1, l2, l3] (.ref u :: S) q Q := ge_x (len := 1) (x := (0, 0, [])) p_149 rfl rfl
theorem g149_90 : z_go zP 149 90 L (.ref u :: S) q Q ↔ ∃ v, z_get [9] 0 q.1 u = some v ∧ z_go zP 149 93 L (v :: S) q Q := ge_getf (len := 3) (x := (0, 0, [9])) p_149 rfl
theorem g149_93 (a1 : -2147483648 ≤ a) (a2 : a < 2147483648) : z_go zP 149 93 L (zi a :: S) q Q ↔ if ¬ a = 0 then z_go zP 149 117 L S q Q else z_go zP 149 96 L S q Q := ge_if_ne (len := 3) (x := (0, 0, [])) a1 a2 p_149 rfl rfl
theorem g149_93b {c : Prop} [Decidable c] : z_go zP 149 93 L (zi (bI c) :: S) q Q ↔ if c then z_go zP 149 117 L S q Q else z_go zP 149 96 L S q Q := ge_if_ne_b (len := 3) (x := (0, 0, [])) p_149 rfl rfl
theorem g149_96 : z_go zP 149 96 [some (.ref u), l1, l2, l3] S q Q ↔ z_go zP 149 97 [some (.ref u), l1, l2, l3] (.ref u :: S) q Q := ge_x (len := 1) (x := (0, 0, [])) p_149 rfl rfl
theorem g149_97 : z_go zP 149 97 L (.ref u :: S) q Q ↔ ∃ v, z_get [9] 36 q.1 u = some v ∧ z_go zP 149 100 L (v :: S) q Q := ge_getf (len := 3) (x := (36, 0, [9])) p_149 rfl
theorem g149_100 : z_go zP 149 100 L S q Q ↔ z_go zP 149 102 L (zi 28 :: S) q Q := ge_x (len := 2) (x := (0, 0, [])) p_149 rfl rfl
theorem g149_102 : z_go zP 149 102 [some (.ref u), l1, l2, l3] S q Q ↔ z_go zP 149 103 [some (.ref u), l1, l2, l3] (.ref u :: S) q Q := ge_x (len := 1) (x := (0, 0, [])) p_149 rfl rfl
theorem g149_103 : z_go zP 149 103 L (.ref u :: S) q Q ↔ ∃ v, z_get [9] 37 q.1 u = some v ∧ z_go zP 149 106 L (v :: S) q Q := ge_getf (len := 3) (x := (37, 0, [9])) p_149 rfl
theorem g149_106 : z_go zP 149 106 [l0, l1, some (zi a), l3] S q Q ↔ z_go zP 149 107 [l0, l1, some (zi a), l3] (zi a :: S) q Q := ge_x (len := 1) (x := (0, 0, [])) p_149 rfl rfl
theorem g149_107 : z_go zP 149 107 L (zi a :: .ref u :: S) q Q ↔ ∃ v, z_at [99, 100] q.1 u (Int32.ofInt a) = some v ∧ z_go zP 149 108 L (v :: S) q Q := ge_iald (len := 1) (x := (0, 0, [])) p_149 rfl
theorem g149_108 : z_go zP 149 108 L (zi b :: zi a :: S) q Q ↔ z_go zP 149 109 L (zi (a * b) :: S) q Q := ge_imul (len := 1) (x := (0, 0, [])) p_149 rfl
theorem g149_109 : z_go zP 149 109 L S q Q ↔ z_go zP 149 110 L (zi 2 :: S) q Q := ge_x (len := 1) (x := (0, 0, [])) p_149 rfl rfl
theorem g149_110 : z_go zP 149 110 L (zi b :: zi a :: S) q Q ↔ z_go zP 149 111 L (zi (a + b) :: S) q Q := ge_iadd (len := 1) (x := (0, 0, [])) p_149 rfl
theorem g149_111 : z_go zP 149 111 [l0, l1, l2, some (zi a)] S q Q ↔ z_go zP 149 112 [l0, l1, l2, some (zi a)] (zi a :: S) q Q := ge_x (len := 1) (x := (0, 0, [])) p_149 rfl rfl
theorem g149_112 : z_go zP 149 112 L (zi b :: zi a :: S) q Q ↔ z_go zP 149 113 L (zi (a + b) :: S) q Q := ge_iadd (len := 1) (x := (0, 0, [])) p_149 rfl
theorem g149_113 : z_go zP 149 113 L (zi a :: .ref u :: S) q Q ↔ ∃ v, z_at [101] q.1 u (Int32.ofInt a) = some v ∧ z_go zP 149 114 L (v :: S) q Q := ge_lald (len := 1) (x := (0, 0, [])) p_149 rfl
theorem g149_114 : z_go zP 149 114 L S q Q ↔ z_go zP 149 118 L S q Q := ge_to (len := 3) (x := (0, 0, [])) p_149 rfl rfl rfl
theorem g149_117 : z_go zP 149 117 L S q Q ↔ z_go zP 149 118 L (zl 0 :: S) q Q := ge_x (len := 1) (x := (0, 0, [])) p_149 rfl rfl
theorem g149_118 : z_go zP 149 118 L [zl a] q Q ↔ Q (.inl (some (zl a))) q := z_go_rt (len := 1) (x := (0, 0, [])) p_149 rfl rfl rfl
theorem g150_0 : z_go zP 150 0 [some (.ref u), l1] S q Q ↔ z_go zP 150 1 [some (.ref u), l1] (.ref u :: S) q Q := ge_x (len := 1) (x := (0, 0, [])) p_150 rfl rfl
theorem g150_1 : z_go zP 150 1 L S q Q ↔ z_go zP 150 2 L (zi 0 :: S) q Q := ge_x (len := 1) (x := (0, 0, [])) p_150 rfl rfl
theorem g150_2 : z_go zP 150 2 L (v :: .ref u :: S) q Q ↔ ∃ q1, z_put [9] 0 q u v = some q1 ∧ z_go zP 150 5 L S q1 Q := ge_putf (len := 3) (x := (0, 0, [9])) p_150 rfl
theorem g150_5 : z_go zP 150 5 [some (.ref u), l1] S q Q ↔ z_go zP 150 6 [some (.ref u), l1] (.ref u :: S) q Q := ge_x (len := 1) (x := (0, 0, [])) p_150 rfl rfl
theorem g150_6 : z_go zP 150 6 [l0, some (zi a)] S q Q ↔ z_go zP 150 7 [l0, some (zi a)] (zi a :: S) q Q := ge_x (len := 1) (x := (0, 0, [])) p_150 rfl rfl
theorem g150_7 : z_go zP 150 7 L [zi x0, .ref u] q Q ↔ z_tg q.1 u = some 9 ∧ z_go zP 99 0 [some (.ref u), some (zi x0)] [] q (zc 150 10 L [] Q) := ge_vc (len := 3) (pc := 7) (S := [zi x0, .ref u]) (u := u) (k1 := 99) (A := [.ref u, zi x0]) (r := []) (tag := 9) (n0 := 1) (zwb_le (by show 0 ≤ 4; omega)) p_150 rfl rfl rfl p_99 (by show 2 ≤ 2; omega) rfl
theorem g150_10 (a1 : -2147483648 ≤ a) (a2 : a < 2147483648) : z_go zP 150 10 L (zi a :: S) q Q ↔ if ¬ a = 0 then z_go zP 150 20 L S q Q else z_go zP 150 13 L S q Q := ge_if_ne (len := 3) (x := (0, 0, [])) a1 a2 p_150 rfl rfl
theorem g150_10b {c : Prop} [Decidable c] : z_go zP 150 10 L (zi (bI c) :: S) q Q ↔ if c then z_go zP 150 20 L S q Q else z_go zP 150 13 L S q Q := ge_if_ne_b (len := 3) (x := (0, 0, [])) p_150 rfl rfl
theorem g150_13 : z_go zP 150 13 [some (.ref u), l1] S q Q ↔ z_go zP 150 14 [some (.ref u), l1] (.ref u :: S) q Q := ge_x (len := 1) (x := (0, 0, [])) p_150 rfl rfl
theorem g150_14 : z_go zP 150 14 L S q Q ↔ z_go zP 150 15 L (zi 1 :: S) q Q := ge_x (len := 1) (x := (0, 0, [])) p_150 rfl rfl
theorem g150_15 : z_go zP 150 15 L S q Q ↔ z_go zP 150 16 L (zi 1 :: S) q Q := ge_x (len := 1) (x := (0, 0, [])) p_150 rfl rfl
theorem g150_16 : z_go zP 150 16 L [zi x1, zi x0, .ref u] q Q ↔ z_tg q.1 u = some 9 ∧ z_go zP 98 0 [some (.ref u), some (zi x0), some (zi x1)] [] q (zc 150 19 L [] Q) := ge_vc (len := 3) (pc := 16) (S := [zi x1, zi x0, .ref u]) (u := u) (k1 := 98) (A := [.ref u, zi x0, zi x1]) (r := []) (tag := 9) (n0 := 2) (zwb_le (by show 0 ≤ 4; omega)) p_150 rfl rfl rfl p_98 (by show 3 ≤ 3; omega) rfl
theorem g150_19 : z_go zP 150 19 L [zi a] q Q ↔ Q (.inl (some (zi a))) q := ge_rti (len := 1) (x := (0, 0, [])) p_150 rfl rfl
theorem g150_20 : z_go zP 150 20 [some (.ref u), l1] S q Q ↔ z_go zP 150 21 [some (.ref u), l1] (.ref u :: S) q Q := ge_x (len := 1) (x := (0, 0, [])) p_150 rfl rfl
theorem g150_21 : z_go zP 150 21 [l0, some (zi a)] S q Q ↔ z_go zP 150 22 [l0, some (zi a)] (zi a :: S) q Q := ge_x (len := 1) (x := (0, 0, [])) p_150 rfl rfl
theorem g150_22 : z_go zP 150 22 L [zi x0, .ref u] q Q ↔ z_tg q.1 u = some 9 ∧ z_go zP 101 0 [some (.ref u), some (zi x0), none, none, none] [] q (zc 150 25 L [] Q) := ge_vc (len := 3) (pc := 22) (S := [zi x0, .ref u]) (u := u) (k1 := 101) (A := [.ref u, zi x0]) (r := []) (tag := 9) (n0 := 1) (zwb_le (by show 0 ≤ 4; omega)) p_150 rfl rfl rfl p_101 (by show 2 ≤ 5; omega) rfl
theorem g150_25 (a1 : -2147483648 ≤ a) (a2 : a < 2147483648) : z_go zP 150 25 L (zi a :: S) q Q ↔ if a = 0 then z_go zP 150 35 L S q Q else z_go zP 150 28 L S q Q := ge_if_eq (len := 3) (x := (0, 0, [])) a1 a2 p_150 rfl rfl
theorem g150_25b {c : Prop} [Decidable c] : z_go zP 150 25 L (zi (bI c) :: S) q Q ↔ if c then z_go zP 150 28 L S q Q else z_go zP 150 35 L S q Q := ge_if_eq_b (len := 3) (x := (0, 0, [])) p_150 rfl rfl
theorem g150_28 : z_go zP 150 28 [some (.ref u), l1] S q Q ↔ z_go zP 150 29 [some (.ref u), l1] (.ref u :: S) q Q := ge_x (len := 1) (x := (0, 0, [])) p_150 rfl rfl
theorem g150_29 : z_go zP 150 29 L S q Q ↔ z_go zP 150 30 L (zi 3 :: S) q Q := ge_x (len := 1) (x := (0, 0, [])) p_150 rfl rfl
theorem g150_30 : z_go zP 150 30 L S q Q ↔ z_go zP 150 31 L (zi 1 :: S) q Q := ge_x (len := 1) (x := (0, 0, [])) p_150 rfl rfl
theorem g150_31 : z_go zP 150 31 L [zi x1, zi x0, .ref u] q Q ↔ z_tg q.1 u = some 9 ∧ z_go zP 98 0 [some (.ref u), some (zi x0), some (zi x1)] [] q (zc 150 34 L [] Q) := ge_vc (len := 3) (pc := 31) (S := [zi x1, zi x0, .ref u]) (u := u) (k1 := 98) (A := [.ref u, zi x0, zi x1]) (r := []) (tag := 9) (n0 := 2) (zwb_le (by show 0 ≤ 4; omega)) p_150 rfl rfl rfl p_98 (by show 3 ≤ 3; omega) rfl
theorem g150_34 : z_go zP 150 34 L [zi a] q Q ↔ Q (.inl (some (zi a))) q := ge_rti (len := 1) (x := (0, 0, [])) p_150 rfl rfl
theorem g150_35 : z_go zP 150 35 [some (.ref u), l1] S q Q ↔ z_go zP 150 36 [some (.ref u), l1] (.ref u :: S) q Q := ge_x (len := 1) (x := (0, 0, [])) p_150 rfl rfl
theorem g150_36 : z_go zP 150 36 L (.ref u :: S) q Q ↔ ∃ v, z_get [9] 4 q.1 u = some v ∧ z_go zP 150 39 L (v :: S) q Q := ge_getf (len := 3) (x := (4, 0, [9])) p_150 rfl
theorem g150_39 : z_go zP 150 39 [l0, some (zi a)] S q Q ↔ z_go zP 150 40 [l0, some (zi a)] (zi a :: S) q Q := ge_x (len := 1) (x := (0, 0, [])) p_150 rfl rfl
theorem g150_40 : z_go zP 150 40 L S q Q ↔ z_go zP 150 41 L (zi 0 :: S) q Q := ge_x (len := 1) (x := (0, 0, [])) p_150 rfl rfl
theorem g150_41 (hb : b = 0 ∨ b = 1) : z_go zP 150 41 L (zi b :: zi a :: .ref u :: S) q Q ↔ ∃ q1, z_st 102 q u (Int32.ofInt a) (zi b) = some q1 ∧ z_go zP 150 42 L S q1 Q := ge_bast (len := 1) (x := (0, 0, [])) hb p_150 rfl
theorem g150_42 : z_go zP 150 42 [some (.ref u), l1] S q Q ↔ z_go zP 150 43 [some (.ref u), l1] (.ref u :: S) q Q := ge_x (len := 1) (x := (0, 0, [])) p_150 rfl rfl
theorem g150_43 : z_go zP 150 43 L (.ref u :: S) q Q ↔ ∃ v, z_get [9] 3 q.1 u = some v ∧ z_go zP 150 46 L (v :: S) q Q := ge_getf (len := 3) (x := (3, 0, [9])) p_150 rfl
theorem g150_46 : z_go zP 150 46 [l0, some (zi a)] S q Q ↔ z_go zP 150 47 [l0, some (zi a)] (zi a :: S) q Q := ge_x (len := 1) (x := (0, 0, [])) p_150 rfl rfl
theorem g150_47 : z_go zP 150 47 L (zi a :: .ref u :: S) q Q ↔ ∃ v, z_at [99, 100] q.1 u (Int32.ofInt a) = some v ∧ z_go zP 150 48 L (v :: S) q Q := ge_iald (len := 1) (x := (0, 0, [])) p_150 rfl
theorem g150_48 : z_go zP 150 48 L [zi a] q Q ↔ Q (.inl (some (zi a))) q := ge_rti (len := 1) (x := (0, 0, [])) p_150 rfl rfl
theorem g151_0 : z_go zP 151 0 [some (.ref u), l1] S q Q ↔ z_go zP 151 1 [some (.ref u), l1] (.ref u :: S) q Q := ge_x (len := 1) (x := (0, 0, [])) p_151 rfl rfl
theorem g151_1 : z_go zP 151 1 L S q Q ↔ z_go zP 151 2 L (zi 0 :: S) q Q := ge_x (len := 1) (x := (0, 0, [])) p_151 rfl rfl
theorem g151_2 : z_go zP 151 2 L (v :: .ref u :: S) q Q ↔ ∃ q1, z_put [9] 0 q u v = some q1 ∧ z_go zP 151 5 L S q1 Q := ge_putf (len := 3) (x := (0, 0, [9])) p_151 rfl
theorem g151_5 : z_go zP 151 5 [some (.ref u), l1] S q Q ↔ z_go zP 151 6 [some (.ref u), l1] (.ref u :: S) q Q := ge_x (len := 1) (x := (0, 0, [])) p_151 rfl rfl
theorem g151_6 : z_go zP 151 6 [l0, some (zi a)] S q Q ↔ z_go zP 151 7 [l0, some (zi a)] (zi a :: S) q Q := ge_x (len := 1) (x := (0, 0, [])) p_151 rfl rfl
theorem g151_7 : z_go zP 151 7 L [zi x0, .ref u] q Q ↔ z_tg q.1 u = some 9 ∧ z_go zP 99 0 [some (.ref u), some (zi x0)] [] q (zc 151 10 L [] Q) := ge_vc (len := 3) (pc := 7) (S := [zi x0, .ref u]) (u := u) (k1 := 99) (A := [.ref u, zi x0]) (r := []) (tag := 9) (n0 := 1) (zwb_le (by show 0 ≤ 4; omega)) p_151 rfl rfl rfl p_99 (by show 2 ≤ 2; omega) rfl
theorem g151_10 (a1 : -2147483648 ≤ a) (a2 : a < 2147483648) : z_go zP 151 10 L (zi a :: S) q Q ↔ if a = 0 then z_go zP 151 22 L S q Q else z_go zP 151 13 L S q Q := ge_if_eq (len := 3) (x := (0, 0, [])) a1 a2 p_151 rfl rfl
theorem g151_10b {c : Prop} [Decidable c] : z_go zP 151 10 L (zi (bI c) :: S) q Q ↔ if c then z_go zP 151 13 L S q Q else z_go zP 151 22 L S q Q := ge_if_eq_b (len := 3) (x := (0, 0, [])) p_151 rfl rfl
theorem g151_13 : z_go zP 151 13 [some (.ref u), l1] S q Q ↔ z_go zP 151 14 [some (.ref u), l1] (.ref u :: S) q Q := ge_x (len := 1) (x := (0, 0, [])) p_151 rfl rfl
theorem g151_14 : z_go zP 151 14 L (.ref u :: S) q Q ↔ ∃ v, z_get [9] 3 q.1 u = some v ∧ z_go zP 151 17 L (v :: S) q Q := ge_getf (len := 3) (x := (3, 0, [9])) p_151 rfl
theorem g151_17 : z_go zP 151 17 [l0, some (zi a)] S q Q ↔ z_go zP 151 18 [l0, some (zi a)] (zi a :: S) q Q := ge_x (len := 1) (x := (0, 0, [])) p_151 rfl rfl
theorem g151_18 : z_go zP 151 18 L (zi a :: .ref u :: S) q Q ↔ ∃ v, z_at [99, 100] q.1 u (Int32.ofInt a) = some v ∧ z_go zP 151 19 L (v :: S) q Q := ge_iald (len := 1) (x := (0, 0, [])) p_151 rfl
theorem g151_19 : z_go zP 151 19 L S q Q ↔ z_go zP 151 23 L S q Q := ge_to (len := 3) (x := (0, 0, [])) p_151 rfl rfl rfl
theorem g151_22 : z_go zP 151 22 L S q Q ↔ z_go zP 151 23 L (zi 0 :: S) q Q := ge_x (len := 1) (x := (0, 0, [])) p_151 rfl rfl
theorem g151_23 : z_go zP 151 23 L [zi a] q Q ↔ Q (.inl (some (zi a))) q := ge_rti (len := 1) (x := (0, 0, [])) p_151 rfl rfl
theorem g152_0 : z_go zP 152 0 [some (.ref u)] S q Q ↔ z_go zP 152 1 [some (.ref u)] (.ref u :: S) q Q := ge_x (len := 1) (x := (0, 0, [])) p_152 rfl rfl
theorem g152_1 : z_go zP 152 1 L S q Q ↔ z_go zP 152 2 L (zi 0 :: S) q Q := ge_x (len := 1) (x := (0, 0, [])) p_152 rfl rfl
theorem g152_2 : z_go zP 152 2 L (v :: .ref u :: S) q Q ↔ ∃ q1, z_put [9] 0 q u v = some q1 ∧ z_go zP 152 5 L S q1 Q := ge_putf (len := 3) (x := (0, 0, [9])) p_152 rfl
theorem g152_5 : z_go zP 152 5 [some (.ref u)] S q Q ↔ z_go zP 152 6 [some (.ref u)] (.ref u :: S) q Q := ge_x (len := 1) (x := (0, 0, [])) p_152 rfl rfl
theorem g152_6 : z_go zP 152 6 L (.ref u :: S) q Q ↔ ∃ v, z_get [9] 1 q.1 u = some v ∧ z_go zP 152 9 L (v :: S) q Q := ge_getf (len := 3) (x := (1, 0, [9])) p_152 rfl
theorem g152_9 : z_go zP 152 9 L [zi a] q Q ↔ Q (.inl (some (zi a))) q := ge_rti (len := 1) (x := (0, 0, [])) p_152 rfl rfl
theorem g153_0 : z_go zP 153 0 [some (.ref u), l1, l2, l3] S q Q ↔ z_go zP 153 1 [some (.ref u), l1, l2, l3] (.ref u :: S) q Q := ge_x (len := 1) (x := (0, 0, [])) p_153 rfl rfl
theorem g153_1 : z_go zP 153 1 L S q Q ↔ z_go zP 153 2 L (zi 0 :: S) q Q := ge_x (len := 1) (x := (0, 0, [])) p_153 rfl rfl
theorem g153_2 : z_go zP 153 2 L (v :: .ref u :: S) q Q ↔ ∃ q1, z_put [9] 0 q u v = some q1 ∧ z_go zP 153 5 L S q1 Q := ge_putf (len := 3) (x := (0, 0, [9])) p_153 rfl
theorem g153_5 : z_go zP 153 5 [l0, some (zi a), l2, l3] S q Q ↔ z_go zP 153 6 [l0, some (zi a), l2, l3] (zi a :: S) q Q := ge_x (len := 1) (x := (0, 0, [])) p_153 rfl rfl
theorem g153_6 : z_go zP 153 6 L S q Q ↔ z_go zP 153 7 L (zi 0 :: S) q Q := ge_x (len := 1) (x := (0, 0, [])) p_153 rfl rfl
theorem g153_7 : z_go zP 153 7 L S q Q ↔ z_go zP 153 9 L (zi 7 :: S) q Q := ge_x (len := 2) (x := (0, 0, [])) p_153 rfl rfl
theorem g153_9 : z_go zP 153 9 L [zi x2, zi x1, zi x0] q Q ↔ z_go zP 97 0 [some (zi x0), some (zi x1), some (zi x2)] [] q (zd 153 12 L [] Q) := (z_go_cl (len := 3) (x := (97, 2, [3])) (k1 := 97) (A := [zi x0, zi x1, zi x2]) (r := []) p_153 rfl rfl rfl rfl (by simp only [z_cl, List.drop]; rw [if_pos]; rfl; exact by first | exact ⟨by decide, (zwb_le (by show 0 ≤ 4; omega))⟩ | exact ⟨by decide, by show 3 ≤ 3; omega, (zwb_le (by show 0 ≤ 4; omega))⟩) p_97 (by show 3 ≤ 3; omega)).trans (ge_bk_d rfl)
theorem g153_12 (a1 : -2147483648 ≤ a) (a2 : a < 2147483648) : z_go zP 153 12 L (zi a :: S) q Q ↔ if ¬ a = 0 then z_go zP 153 17 L S q Q else z_go zP 153 15 L S q Q := ge_if_ne (len := 3) (x := (0, 0, [])) a1 a2 p_153 rfl rfl
theorem g153_12b {c : Prop} [Decidable c] : z_go zP 153 12 L (zi (bI c) :: S) q Q ↔ if c then z_go zP 153 17 L S q Q else z_go zP 153 15 L S q Q := ge_if_ne_b (len := 3) (x := (0, 0, [])) p_153 rfl rfl
theorem g153_15 : z_go zP 153 15 L S q Q ↔ z_go zP 153 16 L (zi (-1) :: S) q Q := ge_x (len := 1) (x := (0, 0, [])) p_153 rfl rfl
theorem g153_16 : z_go zP 153 16 L [zi a] q Q ↔ Q (.inl (some (zi a))) q := ge_rti (len := 1) (x := (0, 0, [])) p_153 rfl rfl
theorem g153_17 : z_go zP 153 17 L S q Q ↔ z_go zP 153 18 L (zi 0 :: S) q Q := ge_x (len := 1) (x := (0, 0, [])) p_153 rfl rfl
theorem g153_18 : z_go zP 153 18 [l0, l1, l2, l3] (zi a :: S) q Q ↔ z_go zP 153 19 [l0, (zkl l1), some (zi a), l3] S q Q := (by cases l1 with | none => exact ge_x (len := 1) (x := (0, 0, [])) p_153 rfl rfl | some v => cases v <;> exact ge_x (len := 1) (x := (0, 0, [])) p_153 rfl rfl)
theorem g153_19 : z_go zP 153 19 L S q Q ↔ z_go zP 153 20 L (zi 1 :: S) q Q := ge_x (len := 1) (x := (0, 0, [])) p_153 rfl rfl
theorem g153_20 : z_go zP 153 20 [l0, l1, l2, l3] (zi a :: S) q Q ↔ z_go zP 153 21 [l0, l1, (zkl l2), some (zi a)] S q Q := (by cases l2 with | none => exact ge_x (len := 1) (x := (0, 0, [])) p_153 rfl rfl | some v => cases v <;> exact ge_x (len := 1) (x := (0, 0, [])) p_153 rfl rfl)
theorem g153_21 : z_go zP 153 21 [l0, l1, l2, some (zi a)] S q Q ↔ z_go zP 153 22 [l0, l1, l2, some (zi a)] (zi a :: S) q Q := ge_x (len := 1) (x := (0, 0, [])) p_153 rfl rfl
theorem g153_22 : z_go zP 153 22 [some (.ref u), l1, l2, l3] S q Q ↔ z_go zP 153 23 [some (.ref u), l1, l2, l3] (.ref u :: S) q Q := ge_x (len := 1) (x := (0, 0, [])) p_153 rfl rfl
theorem g153_23 : z_go zP 153 23 L (.ref u :: S) q Q ↔ ∃ v, z_get [9] 2 q.1 u = some v ∧ z_go zP 153 26 L (v :: S) q Q := ge_getf (len := 3) (x := (2, 0, [9])) p_153 rfl
theorem g153_26 (a1 : -2147483648 ≤ a) (a2 : a < 2147483648) (b1 : -2147483648 ≤ b) (b2 : b < 2147483648) : z_go zP 153 26 L (zi b :: zi a :: S) q Q ↔ if b < a then z_go zP 153 69 L S q Q else z_go zP 153 29 L S q Q := ge_ic_gt (len := 3) (x := (0, 0, [])) a1 a2 b1 b2 p_153 rfl rfl
theorem g153_29 : z_go zP 153 29 [l0, l1, some (zi a), l3] S q Q ↔ z_go zP 153 30 [l0, l1, some (zi a), l3] (zi a :: S) q Q := ge_x (len := 1) (x := (0, 0, [])) p_153 rfl rfl
theorem g153_30 : z_go zP 153 30 [some (.ref u), l1, l2, l3] S q Q ↔ z_go zP 153 31 [some (.ref u), l1, l2, l3] (.ref u :: S) q Q := ge_x (len := 1) (x := (0, 0, [])) p_153 rfl rfl
theorem g153_31 : z_go zP 153 31 L (.ref u :: S) q Q ↔ ∃ v, z_get [9] 4 q.1 u = some v ∧ z_go zP 153 34 L (v :: S) q Q := ge_getf (len := 3) (x := (4, 0, [9])) p_153 rfl
theorem g153_34 : z_go zP 153 34 [l0, l1, l2, some (zi a)] S q Q ↔ z_go zP 153 35 [l0, l1, l2, some (zi a)] (zi a :: S) q Q := ge_x (len := 1) (x := (0, 0, [])) p_153 rfl rfl
theorem g153_35 : z_go zP 153 35 L (zi a :: .ref u :: S) q Q ↔ ∃ v, z_at [102] q.1 u (Int32.ofInt a) = some v ∧ z_go zP 153 36 L (v :: S) q Q := ge_bald (len := 1) (x := (0, 0, [])) p_153 rfl
theorem g153_36 (a1 : -2147483648 ≤ a) (a2 : a < 2147483648) : z_go zP 153 36 L (zi a :: S) q Q ↔ if a = 0 then z_go zP 153 60 L S q Q else z_go zP 153 39 L S q Q := ge_if_eq (len := 3) (x := (0, 0, [])) a1 a2 p_153 rfl rfl
theorem g153_36b {c : Prop} [Decidable c] : z_go zP 153 36 L (zi (bI c) :: S) q Q ↔ if c then z_go zP 153 39 L S q Q else z_go zP 153 60 L S q Q := ge_if_eq_b (len := 3) (x := (0, 0, [])) p_153 rfl rfl
theorem g153_39 : z_go zP 153 39 [l0, some (zi a), l2, l3] S q Q ↔ z_go zP 153 40 [l0, some (zi a), l2, l3] (zi a :: S) q Q := ge_x (len := 1) (x := (0, 0, [])) p_153 rfl rfl
theorem g153_40 : z_go zP 153 40 L S q Q ↔ z_go zP 153 41 L (zi 1 :: S) q Q := ge_x (len := 1) (x := (0, 0, [])) p_153 rfl rfl
theorem g153_41 (a1 : -2147483648 ≤ a) (a2 : a < 2147483648) (b1 : -2147483648 ≤ b) (b2 : b < 2147483648) : z_go zP 153 41 L (zi b :: zi a :: S) q Q ↔ if a = b then z_go zP 153 56 L S q Q else z_go zP 153 44 L S q Q := ge_ic_eq (len := 3) (x := (0, 0, [])) a1 a2 b1 b2 p_153 rfl rfl
theorem g153_44 : z_go zP 153 44 [some (.ref u), l1, l2, l3] S q Q ↔ z_go zP 153 45 [some (.ref u), l1, l2, l3] (.ref u :: S) q Q := ge_x (len := 1) (x := (0, 0, [])) p_153 rfl rfl
theorem g153_45 : z_go zP 153 45 L (.ref u :: S) q Q ↔ ∃ v, z_get [9] 3 q.1 u = some v ∧ z_go zP 153 48 L (v :: S) q Q := ge_getf (len := 3) (x := (3, 0, [9])) p_153 rfl
theorem g153_48 : z_go zP 153 48 [l0, l1, l2, some (zi a)] S q Q ↔ z_go zP 153 49 [l0, l1, l2, some (zi a)] (zi a :: S) q Q := ge_x (len := 1) (x := (0, 0, [])) p_153 rfl rfl
theorem g153_49 : z_go zP 153 49 L (zi a :: .ref u :: S) q Q ↔ ∃ v, z_at [99, 100] q.1 u (Int32.ofInt a) = some v ∧ z_go zP 153 50 L (v :: S) q Q := ge_iald (len := 1) (x := (0, 0, [])) p_153 rfl
theorem g153_50 : z_go zP 153 50 [l0, some (zi a), l2, l3] S q Q ↔ z_go zP 153 51 [l0, some (zi a), l2, l3] (zi a :: S) q Q := ge_x (len := 1) (x := (0, 0, [])) p_153 rfl rfl
theorem g153_51 : z_go zP 153 51 L S q Q ↔ z_go zP 153 52 L (zi 1 :: S) q Q := ge_x (len := 1) (x := (0, 0, [])) p_153 rfl rfl
theorem g153_52 : z_go zP 153 52 L (zi b :: zi a :: S) q Q ↔ z_go zP 153 53 L (zi (a - b) :: S) q Q := ge_isub (len := 1) (x := (0, 0, [])) p_153 rfl
theorem g153_53 (a1 : -2147483648 ≤ a) (a2 : a < 2147483648) (b1 : -2147483648 ≤ b) (b2 : b < 2147483648) : z_go zP 153 53 L (zi b :: zi a :: S) q Q ↔ if ¬ a = b then z_go zP 153 60 L S q Q else z_go zP 153 56 L S q Q := ge_ic_ne (len := 3) (x := (0, 0, [])) a1 a2 b1 b2 p_153 rfl rfl
theorem g153_56 : z_go zP 153 56 L S q Q ↔ z_go zP 153 57 L (zi 1 :: S) q Q := ge_x (len := 1) (x := (0, 0, [])) p_153 rfl rfl
theorem g153_57 : z_go zP 153 57 L S q Q ↔ z_go zP 153 61 L S q Q := ge_to (len := 3) (x := (0, 0, [])) p_153 rfl rfl rfl
theorem g153_60 : z_go zP 153 60 L S q Q ↔ z_go zP 153 61 L (zi 0 :: S) q Q := ge_x (len := 1) (x := (0, 0, [])) p_153 rfl rfl
theorem g153_61 : z_go zP 153 61 L (zi b :: zi a :: S) q Q ↔ z_go zP 153 62 L (zi (a + b) :: S) q Q := ge_iadd (len := 1) (x := (0, 0, [])) p_153 rfl
theorem g153_62 : z_go zP 153 62 [l0, l1, l2, l3] (zi a :: S) q Q ↔ z_go zP 153 63 [l0, (zkl l1), some (zi a), l3] S q Q := (by cases l1 with | none => exact ge_x (len := 1) (x := (0, 0, [])) p_153 rfl rfl | some v => cases v <;> exact ge_x (len := 1) (x := (0, 0, [])) p_153 rfl rfl)
theorem g153_63 : z_go zP 153 63 [l0, l1, l2, some (zi a)] S q Q ↔ z_go zP 153 66 [l0, l1, (zkl l2), some (zi (a + 1))] S q Q := (by unfold zi; rw [Int32.ofInt_add]; cases l2 with | none => exact ge_x (len := 3) (x := (0, 0, [])) p_153 rfl rfl | some v => cases v <;> exact ge_x (len := 3) (x := (0, 0, [])) p_153 rfl rfl)
theorem g153_66 : z_go zP 153 66 L S q Q ↔ z_go zP 153 21 L S q Q := ge_to (len := 3) (x := (0, 0, [])) p_153 rfl rfl rfl
theorem g153_69 : z_go zP 153 69 [l0, some (zi a), l2, l3] S q Q ↔ z_go zP 153 70 [l0, some (zi a), l2, l3] (zi a :: S) q Q := ge_x (len := 1) (x := (0, 0, [])) p_153 rfl rfl
theorem g153_70 (a1 : -2147483648 ≤ a) (a2 : a < 2147483648) : z_go zP 153 70 L (zi a :: S) q Q ↔ if ¬ a = 0 then z_go zP 153 80 L S q Q else z_go zP 153 73 L S q Q := ge_if_ne (len := 3) (x := (0, 0, [])) a1 a2 p_153 rfl rfl
theorem g153_70b {c : Prop} [Decidable c] : z_go zP 153 70 L (zi (bI c) :: S) q Q ↔ if c then z_go zP 153 80 L S q Q else z_go zP 153 73 L S q Q := ge_if_ne_b (len := 3) (x := (0, 0, [])) p_153 rfl rfl
theorem g153_73 : z_go zP 153 73 [some (.ref u), l1, l2, l3] S q Q ↔ z_go zP 153 74 [some (.ref u), l1, l2, l3] (.ref u :: S) q Q := ge_x (len := 1) (x := (0, 0, [])) p_153 rfl rfl
theorem g153_74 : z_go zP 153 74 L (.ref u :: S) q Q ↔ ∃ v, z_get [9] 2 q.1 u = some v ∧ z_go zP 153 77 L (v :: S) q Q := ge_getf (len := 3) (x := (2, 0, [9])) p_153 rfl
theorem g153_77 : z_go zP 153 77 L S q Q ↔ z_go zP 153 81 L S q Q := ge_to (len := 3) (x := (0, 0, [])) p_153 rfl rfl rfl
theorem g153_80 : z_go zP 153 80 [l0, l1, some (zi a), l3] S q Q ↔ z_go zP 153 81 [l0, l1, some (zi a), l3] (zi a :: S) q Q := ge_x (len := 1) (x := (0, 0, [])) p_153 rfl rfl
theorem g153_81 : z_go zP 153 81 L [zi a] q Q ↔ Q (.inl (some (zi a))) q := ge_rti (len := 1) (x := (0, 0, [])) p_153 rfl rfl
theorem g154_0 : z_go zP 154 0 [some (zi a), l1, l2] S q Q ↔ z_go zP 154 1 [some (zi a), l1, l2] (zi a :: S) q Q := ge_x (len := 1) (x := (0, 0, [])) p_154 rfl rfl
theorem g154_1 : z_go zP 154 1 [l0, some (zi a), l2] S q Q ↔ z_go zP 154 2 [l0, some (zi a), l2] (zi a :: S) q Q := ge_x (len := 1) (x := (0, 0, [])) p_154 rfl rfl
theorem g154_2 (a1 : -2147483648 ≤ a) (a2 : a < 2147483648) (b1 : 0 < b) (b2 : b < 2147483648) : z_go zP 154 2 L (zi b :: zi a :: S) q Q ↔ z_go zP 154 3 L (zi (a.tmod b) :: S) q Q := ge_irem (len := 1) (x := (0, 0, [])) a1 a2 b1 b2 p_154 rfl
theorem g154_3 : z_go zP 154 3 [l0, l1, l2] (zi a :: S) q Q ↔ z_go zP 154 4 [l0, (zkl l1), some (zi a)] S q Q := (by cases l1 with | none => exact ge_x (len := 1) (x := (0, 0, [])) p_154 rfl rfl | some v => cases v <;> exact ge_x (len := 1) (x := (0, 0, [])) p_154 rfl rfl)
theorem g154_4 : z_go zP 154 4 [some (zi a), l1, l2] S q Q ↔ z_go zP 154 5 [some (zi a), l1, l2] (zi a :: S) q Q := ge_x (len := 1) (x := (0, 0, [])) p_154 rfl rfl
theorem g154_5 : z_go zP 154 5 [l0, some (zi a), l2] S q Q ↔ z_go zP 154 6 [l0, some (zi a), l2] (zi a :: S) q Q := ge_x (len := 1) (x := (0, 0, [])) p_154 rfl rfl
theorem g154_6 : z_go zP 154 6 L (zi b :: zi a :: S) q Q ↔ z_go zP 154 7 L (zi (ixor a b) :: S) q Q := ge_ixor (len := 1) (x := (0, 0, [])) p_154 rfl
theorem g154_7 (a1 : -2147483648 ≤ a) (a2 : a < 2147483648) : z_go zP 154 7 L (zi a :: S) q Q ↔ if 0 ≤ a then z_go zP 154 18 L S q Q else z_go zP 154 10 L S q Q := ge_if_ge (len := 3) (x := (0, 0, [])) a1 a2 p_154 rfl rfl
theorem g154_10 : z_go zP 154 10 [l0, l1, some (zi a)] S q Q ↔ z_go zP 154 11 [l0, l1, some (zi a)] (zi a :: S) q Q := ge_x (len := 1) (x := (0, 0, [])) p_154 rfl rfl
theorem g154_11 (a1 : -2147483648 ≤ a) (a2 : a < 2147483648) : z_go zP 154 11 L (zi a :: S) q Q ↔ if a = 0 then z_go zP 154 18 L S q Q else z_go zP 154 14 L S q Q := ge_if_eq (len := 3) (x := (0, 0, [])) a1 a2 p_154 rfl rfl
theorem g154_11b {c : Prop} [Decidable c] : z_go zP 154 11 L (zi (bI c) :: S) q Q ↔ if c then z_go zP 154 14 L S q Q else z_go zP 154 18 L S q Q := ge_if_eq_b (len := 3) (x := (0, 0, [])) p_154 rfl rfl
theorem g154_14 : z_go zP 154 14 [l0, l1, some (zi a)] S q Q ↔ z_go zP 154 15 [l0, l1, some (zi a)] (zi a :: S) q Q := ge_x (len := 1) (x := (0, 0, [])) p_154 rfl rfl
theorem g154_15 : z_go zP 154 15 [l0, some (zi a), l2] S q Q ↔ z_go zP 154 16 [l0, some (zi a), l2] (zi a :: S) q Q := ge_x (len := 1) (x := (0, 0, [])) p_154 rfl rfl
theorem g154_16 : z_go zP 154 16 L (zi b :: zi a :: S) q Q ↔ z_go zP 154 17 L (zi (a + b) :: S) q Q := ge_iadd (len := 1) (x := (0, 0, [])) p_154 rfl
theorem g154_17 : z_go zP 154 17 L [zi a] q Q ↔ Q (.inl (some (zi a))) q := ge_rti (len := 1) (x := (0, 0, [])) p_154 rfl rfl
theorem g154_18 : z_go zP 154 18 [l0, l1, some (zi a)] S q Q ↔ z_go zP 154 19 [l0, l1, some (zi a)] (zi a :: S) q Q := ge_x (len := 1) (x := (0, 0, [])) p_154 rfl rfl
theorem g154_19 : z_go zP 154 19 L [zi a] q Q ↔ Q (.inl (some (zi a))) q := ge_rti (len := 1) (x := (0, 0, [])) p_154 rfl rfl
theorem g155_0 : z_go zP 155 0 [some (zi a), l1] S q Q ↔ z_go zP 155 1 [some (zi a), l1] (zi a :: S) q Q := ge_x (len := 1) (x := (0, 0, [])) p_155 rfl rfl
theorem g155_1 : z_go zP 155 1 [l0, some (zi a)] S q Q ↔ z_go zP 155 2 [l0, some (zi a)] (zi a :: S) q Q := ge_x (len := 1) (x := (0, 0, [])) p_155 rfl rfl
theorem g155_2 (a1 : -2147483648 ≤ a) (a2 : a < 2147483648) (b1 : -2147483648 ≤ b) (b2 : b < 2147483648) : z_go zP 155 2 L (zi b :: zi a :: S) q Q ↔ if a < b then z_go zP 155 9 L S q Q else z_go zP 155 5 L S q Q := ge_ic_lt (len := 3) (x := (0, 0, [])) a1 a2 b1 b2 p_155 rfl rfl
theorem g155_5 : z_go zP 155 5 [some (zi a), l1] S q Q ↔ z_go zP 155 6 [some (zi a), l1] (zi a :: S) q Q := ge_x (len := 1) (x := (0, 0, [])) p_155 rfl rfl
theorem g155_6 : z_go zP 155 6 L S q Q ↔ z_go zP 155 10 L S q Q := ge_to (len := 3) (x := (0, 0, [])) p_155 rfl rfl rfl
theorem g155_9 : z_go zP 155 9 [l0, some (zi a)] S q Q ↔ z_go zP 155 10 [l0, some (zi a)] (zi a :: S) q Q := ge_x (len := 1) (x := (0, 0, [])) p_155 rfl rfl
theorem g155_10 : z_go zP 155 10 L [zi a] q Q ↔ Q (.inl (some (zi a))) q := ge_rti (len := 1) (x := (0, 0, [])) p_155 rfl rfl
theorem g156_0 : z_go zP 156 0 L S q Q ↔ z_go zP 156 1 L (zi 0 :: S) q Q := ge_x (len := 1) (x := (0, 0, [])) p_156 rfl rfl
theorem g156_1 : z_go zP 156 1 [l0, l1, l2, l3, l4] (zi a :: S) q Q ↔ z_go zP 156 2 [l0, l1, (zkl l2), some (zi a), l4] S q Q := (by cases l2 with | none => exact ge_x (len := 1) (x := (0, 0, [])) p_156 rfl rfl | some v => cases v <;> exact ge_x (len := 1) (x := (0, 0, [])) p_156 rfl rfl)
theorem g156_2 : z_go zP 156 2 [some (.ref u), l1, l2, l3, l4] S q Q ↔ z_go zP 156 3 [some (.ref u), l1, l2, l3, l4] (.ref u :: S) q Q := ge_x (len := 1) (x := (0, 0, [])) p_156 rfl rfl
theorem g156_3 : z_go zP 156 3 L (.ref u :: S) q Q ↔ ∃ v, z_len q.1 u = some v ∧ z_go zP 156 4 L (v :: S) q Q := ge_alen (len := 1) (x := (0, 0, [])) p_156 rfl
theorem g156_4 : z_go zP 156 4 [l0, l1, l2, l3, l4] (zi a :: S) q Q ↔ z_go zP 156 6 [l0, l1, l2, (zkl l3), some (zi a)] S q Q := (by cases l3 with | none => exact ge_x (len := 2) (x := (0, 0, [])) p_156 rfl rfl | some v => cases v <;> exact ge_x (len := 2) (x := (0, 0, [])) p_156 rfl rfl)
theorem g156_6 : z_go zP 156 6 [l0, l1, l2, some (zi a), l4] S q Q ↔ z_go zP 156 7 [l0, l1, l2, some (zi a), l4] (zi a :: S) q Q := ge_x (len := 1) (x := (0, 0, [])) p_156 rfl rfl
theorem g156_7 : z_go zP 156 7 [l0, l1, l2, l3, some (zi a)] S q Q ↔ z_go zP 156 9 [l0, l1, l2, l3, some (zi a)] (zi a :: S) q Q := ge_x (len := 2) (x := (0, 0, [])) p_156 rfl rfl
theorem g156_9 (a1 : -2147483648 ≤ a) (a2 : a < 2147483648) (b1 : -2147483648 ≤ b) (b2 : b < 2147483648) : z_go zP 156 9 L (zi b :: zi a :: S) q Q ↔ if b ≤ a then z_go zP 156 22 L S q Q else z_go zP 156 12 L S q Q := ge_ic_ge (len := 3) (x := (0, 0, [])) a1 a2 b1 b2 p_156 rfl rfl
theorem g156_12 : z_go zP 156 12 [some (.ref u), l1, l2, l3, l4] S q Q ↔ z_go zP 156 13 [some (.ref u), l1, l2, l3, l4] (.ref u :: S) q Q := ge_x (len := 1) (x := (0, 0, [])) p_156 rfl rfl
theorem g156_13 : z_go zP 156 13 [l0, l1, l2, some (zi a), l4] S q Q ↔ z_go zP 156 14 [l0, l1, l2, some (zi a), l4] (zi a :: S) q Q := ge_x (len := 1) (x := (0, 0, [])) p_156 rfl rfl
theorem g156_14 : z_go zP 156 14 [l0, some (zl a), l2, l3, l4] S q Q ↔ z_go zP 156 15 [l0, some (zl a), l2, l3, l4] (zl a :: S) q Q := ge_x (len := 1) (x := (0, 0, [])) p_156 rfl rfl
theorem g156_15 : z_go zP 156 15 L (zl b :: zi a :: .ref u :: S) q Q ↔ ∃ q1, z_st 101 q u (Int32.ofInt a) (zl b) = some q1 ∧ z_go zP 156 16 L S q1 Q := ge_last (len := 1) (x := (0, 0, [])) p_156 rfl
theorem g156_16 : z_go zP 156 16 [l0, l1, l2, some (zi a), l4] S q Q ↔ z_go zP 156 19 [l0, l1, (zkl l2), some (zi (a + 1)), l4] S q Q := (by unfold zi; rw [Int32.ofInt_add]; cases l2 with | none => exact ge_x (len := 3) (x := (0, 0, [])) p_156 rfl rfl | some v => cases v <;> exact ge_x (len := 3) (x := (0, 0, [])) p_156 rfl rfl)
theorem g156_19 : z_go zP 156 19 L S q Q ↔ z_go zP 156 6 L S q Q := ge_to (len := 3) (x := (0, 0, [])) p_156 rfl rfl rfl
theorem g156_22 : z_go zP 156 22 L [] q Q ↔ Q (.inl none) q := z_go_rt (len := 1) (x := (0, 0, [])) p_156 rfl rfl rfl
theorem g157_0 : z_go zP 157 0 L S q Q ↔ z_go zP 157 1 L (zi 0 :: S) q Q := ge_x (len := 1) (x := (0, 0, [])) p_157 rfl rfl
theorem g157_1 : z_go zP 157 1 [l0, l1, l2, l3] (zi a :: S) q Q ↔ z_go zP 157 2 [l0, (zkl l1), some (zi a), l3] S q Q := (by cases l1 with | none => exact ge_x (len := 1) (x := (0, 0, [])) p_157 rfl rfl | some v => cases v <;> exact ge_x (len := 1) (x := (0, 0, [])) p_157 rfl rfl)
theorem g157_2 : z_go zP 157 2 [some (.ref u), l1, l2, l3] S q Q ↔ z_go zP 157 3 [some (.ref u), l1, l2, l3] (.ref u :: S) q Q := ge_x (len := 1) (x := (0, 0, [])) p_157 rfl rfl
theorem g157_3 : z_go zP 157 3 L (.ref u :: S) q Q ↔ ∃ v, z_len q.1 u = some v ∧ z_go zP 157 4 L (v :: S) q Q := ge_alen (len := 1) (x := (0, 0, [])) p_157 rfl
theorem g157_4 : z_go zP 157 4 [l0, l1, l2, l3] (zi a :: S) q Q ↔ z_go zP 157 5 [l0, l1, (zkl l2), some (zi a)] S q Q := (by cases l2 with | none => exact ge_x (len := 1) (x := (0, 0, [])) p_157 rfl rfl | some v => cases v <;> exact ge_x (len := 1) (x := (0, 0, [])) p_157 rfl rfl)
theorem g157_5 : z_go zP 157 5 [l0, l1, some (zi a), l3] S q Q ↔ z_go zP 157 6 [l0, l1, some (zi a), l3] (zi a :: S) q Q := ge_x (len := 1) (x := (0, 0, [])) p_157 rfl rfl
theorem g157_6 : z_go zP 157 6 [l0, l1, l2, some (zi a)] S q Q ↔ z_go zP 157 7 [l0, l1, l2, some (zi a)] (zi a :: S) q Q := ge_x (len := 1) (x := (0, 0, [])) p_157 rfl rfl
theorem g157_7 (a1 : -2147483648 ≤ a) (a2 : a < 2147483648) (b1 : -2147483648 ≤ b) (b2 : b < 2147483648) : z_go zP 157 7 L (zi b :: zi a :: S) q Q ↔ if b ≤ a then z_go zP 157 20 L S q Q else z_go zP 157 10 L S q Q := ge_ic_ge (len := 3) (x := (0, 0, [])) a1 a2 b1 b2 p_157 rfl rfl
theorem g157_10 : z_go zP 157 10 [some (.ref u), l1, l2, l3] S q Q ↔ z_go zP 157 11 [some (.ref u), l1, l2, l3] (.ref u :: S) q Q := ge_x (len := 1) (x := (0, 0, [])) p_157 rfl rfl
theorem g157_11 : z_go zP 157 11 [l0, l1, some (zi a), l3] S q Q ↔ z_go zP 157 12 [l0, l1, some (zi a), l3] (zi a :: S) q Q := ge_x (len := 1) (x := (0, 0, [])) p_157 rfl rfl
theorem g157_12 : z_go zP 157 12 [l0, some (zi a), l2, l3] S q Q ↔ z_go zP 157 13 [l0, some (zi a), l2, l3] (zi a :: S) q Q := ge_x (len := 1) (x := (0, 0, [])) p_157 rfl rfl
theorem g157_13 : z_go zP 157 13 L (zi b :: zi a :: .ref u :: S) q Q ↔ ∃ q1, z_st 100 q u (Int32.ofInt a) (zi b) = some q1 ∧ z_go zP 157 14 L S q1 Q := ge_iast (len := 1) (x := (0, 0, [])) p_157 rfl
theorem g157_14 : z_go zP 157 14 [l0, l1, some (zi a), l3] S q Q ↔ z_go zP 157 17 [l0, (zkl l1), some (zi (a + 1)), l3] S q Q := (by unfold zi; rw [Int32.ofInt_add]; cases l1 with | none => exact ge_x (len := 3) (x := (0, 0, [])) p_157 rfl rfl | some v => cases v <;> exact ge_x (len := 3) (x := (0, 0, [])) p_157 rfl rfl)
theorem g157_17 : z_go zP 157 17 L S q Q ↔ z_go zP 157 5 L S q Q := ge_to (len := 3) (x := (0, 0, [])) p_157 rfl rfl rfl
theorem g157_20 : z_go zP 157 20 L [] q Q ↔ Q (.inl none) q := z_go_rt (len := 1) (x := (0, 0, [])) p_157 rfl rfl rfl
end
