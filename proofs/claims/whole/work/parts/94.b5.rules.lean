/-! rules for each instruction, printed by program: methods 158 to 173 -/
section
variable {L : zL} {S : List Value} {q : zS} {Q : zU → zS → Prop} {a b c d e x0 x1 x2 x3 x4 x5 y0 y1 y2 y3 y4 y5 y6 y7 : Int} {u u2 v0 v1 v2 v3 v4 v5 v6 v7 w0 w1 w2 w3 w4 w5 w6 : Nat} {v r0 r1 r2 r3 : Value} {l0 l1 l2 l3 l4 l5 l6 l7 l8 l9 l10 l11 l12 l13 : Option Value}
theorem g158_0 : z_go zP 158 0 [l0, l1, l2, some (.ref u), l4] S q Q ↔ z_go zP 158 1 [l0, l1, l2, some (.ref u), l4] (.ref u :: S) q Q := ge_x (len := 1) (x := (0, 0, [])) p_158 rfl rfl
theorem g158_1 : z_go zP 158 1 L S q Q ↔ z_go zP 158 2 L (zi 0 :: S) q Q := ge_x (len := 1) (x := (0, 0, [])) p_158 rfl rfl
theorem g158_2 : z_go zP 158 2 [some (.ref u), l1, l2, l3, l4] S q Q ↔ z_go zP 158 3 [some (.ref u), l1, l2, l3, l4] (.ref u :: S) q Q := ge_x (len := 1) (x := (0, 0, [])) p_158 rfl rfl
theorem g158_3 : z_go zP 158 3 [l0, some (zi a), l2, l3, l4] S q Q ↔ z_go zP 158 4 [l0, some (zi a), l2, l3, l4] (zi a :: S) q Q := ge_x (len := 1) (x := (0, 0, [])) p_158 rfl rfl
theorem g158_4 : z_go zP 158 4 [l0, l1, some (zi a), l3, l4] S q Q ↔ z_go zP 158 5 [l0, l1, some (zi a), l3, l4] (zi a :: S) q Q := ge_x (len := 1) (x := (0, 0, [])) p_158 rfl rfl
theorem hrow_158 (j : Nat) : (match z_row (zm_h zm_L_machine) (zm_e zm_L_machine) 5 j with
    | none => none
    | some h => match z_ftc (zm_c zm_L_machine) h with
      | none => none
      | some q' => z_put1 q' h [l0, l1, l2, l3, l4]) = (([(1, 15, [l0, l1, l2, (zkl l3), none]), (0, 19, [l0, l1, l2, (zkl l3), none])] : List (Nat × Nat × zL)).find? (fun w => decide (w.1 = j))).map (fun w => w.2) := by
  cases l3 with
  | none => match j with
    | 0 => rfl
    | 1 => rfl
    | n + 2 => rfl
  | some v => cases v <;> (match j with
    | 0 => rfl
    | 1 => rfl
    | n + 2 => rfl)
theorem g158_5 : z_go zP 158 5 [l0, l1, l2, l3, l4] [zi x1, zi x0, .ref u, r0, r1] q Q ↔ z_tg q.1 u = some 8 ∧ z_go zP 57 0 [some (.ref u), some (zi x0), some (zi x1)] [] q (zh 158 8 [l0, l1, l2, l3, l4] [r0, r1] [(1, 15, [l0, l1, l2, (zkl l3), none]), (0, 19, [l0, l1, l2, (zkl l3), none])] Q) := ge_vh (len := 3) (pc := 5) (S := [zi x1, zi x0, .ref u, r0, r1]) (u := u) (k1 := 57) (A := [.ref u, zi x0, zi x1]) (r := [r0, r1]) (tag := 8) (n0 := 2) (zwb_le (by show 2 ≤ 4; omega)) p_158 rfl rfl rfl p_57 (by show 3 ≤ 3; omega) (by decide) hrow_158
theorem g158_8 (a1 : -2147483648 ≤ a) (a2 : a < 2147483648) : z_go zP 158 8 L (zi a :: S) q Q ↔ z_go zP 158 9 L (zl a :: S) q Q := ge_i2l (len := 1) (x := (0, 0, [])) a1 a2 p_158 rfl
theorem g158_9 : z_go zP 158 9 L (zl b :: zi a :: .ref u :: S) q Q ↔ ∃ q1, z_st 101 q u (Int32.ofInt a) (zl b) = some q1 ∧ z_go zP 158 10 L S q1 Q := ge_last (len := 1) (x := (0, 0, [])) p_158 rfl
theorem g158_10 : z_go zP 158 10 L S q Q ↔ z_go zP 158 21 L S q Q := ge_to (len := 3) (x := (0, 0, [])) p_158 rfl rfl rfl
theorem g158_15 : z_go zP 158 15 L S q Q ↔ z_go zP 158 16 L (zi 1 :: S) q Q := ge_x (len := 1) (x := (0, 0, [])) p_158 rfl rfl
theorem g158_16 : z_go zP 158 16 L [zi a] q Q ↔ Q (.inl (some (zi a))) q := ge_rti (len := 1) (x := (0, 0, [])) p_158 rfl rfl
theorem g158_19 : z_go zP 158 19 L S q Q ↔ z_go zP 158 20 L (zi 2 :: S) q Q := ge_x (len := 1) (x := (0, 0, [])) p_158 rfl rfl
theorem g158_20 : z_go zP 158 20 L [zi a] q Q ↔ Q (.inl (some (zi a))) q := ge_rti (len := 1) (x := (0, 0, [])) p_158 rfl rfl
theorem g158_21 : z_go zP 158 21 L S q Q ↔ z_go zP 158 22 L (zi 0 :: S) q Q := ge_x (len := 1) (x := (0, 0, [])) p_158 rfl rfl
theorem g158_22 : z_go zP 158 22 L [zi a] q Q ↔ Q (.inl (some (zi a))) q := ge_rti (len := 1) (x := (0, 0, [])) p_158 rfl rfl
theorem g159_0 : z_go zP 159 0 [l0, l1, some (.ref u), l3] S q Q ↔ z_go zP 159 1 [l0, l1, some (.ref u), l3] (.ref u :: S) q Q := ge_x (len := 1) (x := (0, 0, [])) p_159 rfl rfl
theorem g159_1 : z_go zP 159 1 L S q Q ↔ z_go zP 159 2 L (zi 0 :: S) q Q := ge_x (len := 1) (x := (0, 0, [])) p_159 rfl rfl
theorem g159_2 : z_go zP 159 2 [some (.ref u), l1, l2, l3] S q Q ↔ z_go zP 159 3 [some (.ref u), l1, l2, l3] (.ref u :: S) q Q := ge_x (len := 1) (x := (0, 0, [])) p_159 rfl rfl
theorem g159_3 : z_go zP 159 3 [l0, some (zi a), l2, l3] S q Q ↔ z_go zP 159 4 [l0, some (zi a), l2, l3] (zi a :: S) q Q := ge_x (len := 1) (x := (0, 0, [])) p_159 rfl rfl
theorem hrow_159 (j : Nat) : (match z_row (zm_h zm_L_program) (zm_e zm_L_program) 4 j with
    | none => none
    | some h => match z_ftc (zm_c zm_L_program) h with
      | none => none
      | some q' => z_put1 q' h [l0, l1, l2, l3]) = (([(0, 13, [l0, l1, (zkl l2), none])] : List (Nat × Nat × zL)).find? (fun w => decide (w.1 = j))).map (fun w => w.2) := by
  cases l2 with
  | none => match j with
    | 0 => rfl
    | n + 1 => rfl
  | some v => cases v <;> (match j with
    | 0 => rfl
    | n + 1 => rfl)
theorem g159_4 : z_go zP 159 4 [l0, l1, l2, l3] [zi x0, .ref u, r0, r1] q Q ↔ z_tg q.1 u = some 8 ∧ z_go zP 58 0 [some (.ref u), some (zi x0)] [] q (zh 159 7 [l0, l1, l2, l3] [r0, r1] [(0, 13, [l0, l1, (zkl l2), none])] Q) := ge_vh (len := 3) (pc := 4) (S := [zi x0, .ref u, r0, r1]) (u := u) (k1 := 58) (A := [.ref u, zi x0]) (r := [r0, r1]) (tag := 8) (n0 := 1) (zwb_le (by show 2 ≤ 4; omega)) p_159 rfl rfl rfl p_58 (by show 2 ≤ 2; omega) (by decide) hrow_159
theorem g159_7 (a1 : -2147483648 ≤ a) (a2 : a < 2147483648) : z_go zP 159 7 L (zi a :: S) q Q ↔ z_go zP 159 8 L (zl a :: S) q Q := ge_i2l (len := 1) (x := (0, 0, [])) a1 a2 p_159 rfl
theorem g159_8 : z_go zP 159 8 L (zl b :: zi a :: .ref u :: S) q Q ↔ ∃ q1, z_st 101 q u (Int32.ofInt a) (zl b) = some q1 ∧ z_go zP 159 9 L S q1 Q := ge_last (len := 1) (x := (0, 0, [])) p_159 rfl
theorem g159_9 : z_go zP 159 9 L S q Q ↔ z_go zP 159 15 L S q Q := ge_to (len := 3) (x := (0, 0, [])) p_159 rfl rfl rfl
theorem g159_13 : z_go zP 159 13 L S q Q ↔ z_go zP 159 14 L (zi 1 :: S) q Q := ge_x (len := 1) (x := (0, 0, [])) p_159 rfl rfl
theorem g159_14 : z_go zP 159 14 L [zi a] q Q ↔ Q (.inl (some (zi a))) q := ge_rti (len := 1) (x := (0, 0, [])) p_159 rfl rfl
theorem g159_15 : z_go zP 159 15 L S q Q ↔ z_go zP 159 16 L (zi 0 :: S) q Q := ge_x (len := 1) (x := (0, 0, [])) p_159 rfl rfl
theorem g159_16 : z_go zP 159 16 L [zi a] q Q ↔ Q (.inl (some (zi a))) q := ge_rti (len := 1) (x := (0, 0, [])) p_159 rfl rfl
theorem g160_0 : z_go zP 160 0 [l0, l1, l2, l3, l4, l5, l6, some (.ref u), l8] S q Q ↔ z_go zP 160 2 [l0, l1, l2, l3, l4, l5, l6, some (.ref u), l8] (.ref u :: S) q Q := ge_x (len := 2) (x := (0, 0, [])) p_160 rfl rfl
theorem g160_2 : z_go zP 160 2 L S q Q ↔ z_go zP 160 3 L (zi 0 :: S) q Q := ge_x (len := 1) (x := (0, 0, [])) p_160 rfl rfl
theorem g160_3 : z_go zP 160 3 [some (.ref u), l1, l2, l3, l4, l5, l6, l7, l8] S q Q ↔ z_go zP 160 4 [some (.ref u), l1, l2, l3, l4, l5, l6, l7, l8] (.ref u :: S) q Q := ge_x (len := 1) (x := (0, 0, [])) p_160 rfl rfl
theorem g160_4 : z_go zP 160 4 [l0, some (zi a), l2, l3, l4, l5, l6, l7, l8] S q Q ↔ z_go zP 160 5 [l0, some (zi a), l2, l3, l4, l5, l6, l7, l8] (zi a :: S) q Q := ge_x (len := 1) (x := (0, 0, [])) p_160 rfl rfl
theorem g160_5 : z_go zP 160 5 [l0, l1, some (zi a), l3, l4, l5, l6, l7, l8] S q Q ↔ z_go zP 160 6 [l0, l1, some (zi a), l3, l4, l5, l6, l7, l8] (zi a :: S) q Q := ge_x (len := 1) (x := (0, 0, [])) p_160 rfl rfl
theorem g160_6 : z_go zP 160 6 [l0, l1, l2, some (zi a), l4, l5, l6, l7, l8] S q Q ↔ z_go zP 160 7 [l0, l1, l2, some (zi a), l4, l5, l6, l7, l8] (zi a :: S) q Q := ge_x (len := 1) (x := (0, 0, [])) p_160 rfl rfl
theorem g160_7 : z_go zP 160 7 [l0, l1, l2, l3, some (zi a), l5, l6, l7, l8] S q Q ↔ z_go zP 160 9 [l0, l1, l2, l3, some (zi a), l5, l6, l7, l8] (zi a :: S) q Q := ge_x (len := 2) (x := (0, 0, [])) p_160 rfl rfl
theorem g160_9 : z_go zP 160 9 [l0, l1, l2, l3, l4, some (zi a), l6, l7, l8] S q Q ↔ z_go zP 160 11 [l0, l1, l2, l3, l4, some (zi a), l6, l7, l8] (zi a :: S) q Q := ge_x (len := 2) (x := (0, 0, [])) p_160 rfl rfl
theorem g160_11 : z_go zP 160 11 [l0, l1, l2, l3, l4, l5, some (zi a), l7, l8] S q Q ↔ z_go zP 160 13 [l0, l1, l2, l3, l4, l5, some (zi a), l7, l8] (zi a :: S) q Q := ge_x (len := 2) (x := (0, 0, [])) p_160 rfl rfl
theorem hrow_160 (j : Nat) : (match z_row (zm_h zm_L_word) (zm_e zm_L_word) 13 j with
    | none => none
    | some h => match z_ftc (zm_c zm_L_word) h with
      | none => none
      | some q' => z_put1 q' h [l0, l1, l2, l3, l4, l5, l6, l7, l8]) = (([(0, 23, [l0, l1, l2, l3, l4, l5, l6, (zkl l7), none]), (1, 27, [l0, l1, l2, l3, l4, l5, l6, (zkl l7), none]), (2, 31, [l0, l1, l2, l3, l4, l5, l6, (zkl l7), none])] : List (Nat × Nat × zL)).find? (fun w => decide (w.1 = j))).map (fun w => w.2) := by
  cases l7 with
  | none => match j with
    | 0 => rfl
    | 1 => rfl
    | 2 => rfl
    | n + 3 => rfl
  | some v => cases v <;> (match j with
    | 0 => rfl
    | 1 => rfl
    | 2 => rfl
    | n + 3 => rfl)
theorem g160_13 : z_go zP 160 13 [l0, l1, l2, l3, l4, l5, l6, l7, l8] [zi x5, zi x4, zi x3, zi x2, zi x1, zi x0, .ref u, r0, r1] q Q ↔ z_tg q.1 u = some 8 ∧ z_go zP 59 0 [some (.ref u), some (zi x0), some (zi x1), some (zi x2), some (zi x3), some (zi x4), some (zi x5), none] [] q (zh 160 16 [l0, l1, l2, l3, l4, l5, l6, l7, l8] [r0, r1] [(0, 23, [l0, l1, l2, l3, l4, l5, l6, (zkl l7), none]), (1, 27, [l0, l1, l2, l3, l4, l5, l6, (zkl l7), none]), (2, 31, [l0, l1, l2, l3, l4, l5, l6, (zkl l7), none])] Q) := ge_vh (len := 3) (pc := 13) (S := [zi x5, zi x4, zi x3, zi x2, zi x1, zi x0, .ref u, r0, r1]) (u := u) (k1 := 59) (A := [.ref u, zi x0, zi x1, zi x2, zi x3, zi x4, zi x5]) (r := [r0, r1]) (tag := 8) (n0 := 6) (zwb_le (by show 2 ≤ 4; omega)) p_160 rfl rfl rfl p_59 (by show 7 ≤ 8; omega) (by decide) hrow_160
theorem g160_16 (a1 : -2147483648 ≤ a) (a2 : a < 2147483648) : z_go zP 160 16 L (zi a :: S) q Q ↔ z_go zP 160 17 L (zl a :: S) q Q := ge_i2l (len := 1) (x := (0, 0, [])) a1 a2 p_160 rfl
theorem g160_17 : z_go zP 160 17 L (zl b :: zi a :: .ref u :: S) q Q ↔ ∃ q1, z_st 101 q u (Int32.ofInt a) (zl b) = some q1 ∧ z_go zP 160 18 L S q1 Q := ge_last (len := 1) (x := (0, 0, [])) p_160 rfl
theorem g160_18 : z_go zP 160 18 L S q Q ↔ z_go zP 160 33 L S q Q := ge_to (len := 3) (x := (0, 0, [])) p_160 rfl rfl rfl
theorem g160_23 : z_go zP 160 23 L S q Q ↔ z_go zP 160 24 L (zi 1 :: S) q Q := ge_x (len := 1) (x := (0, 0, [])) p_160 rfl rfl
theorem g160_24 : z_go zP 160 24 L [zi a] q Q ↔ Q (.inl (some (zi a))) q := ge_rti (len := 1) (x := (0, 0, [])) p_160 rfl rfl
theorem g160_27 : z_go zP 160 27 L S q Q ↔ z_go zP 160 28 L (zi 2 :: S) q Q := ge_x (len := 1) (x := (0, 0, [])) p_160 rfl rfl
theorem g160_28 : z_go zP 160 28 L [zi a] q Q ↔ Q (.inl (some (zi a))) q := ge_rti (len := 1) (x := (0, 0, [])) p_160 rfl rfl
theorem g160_31 : z_go zP 160 31 L S q Q ↔ z_go zP 160 32 L (zi 3 :: S) q Q := ge_x (len := 1) (x := (0, 0, [])) p_160 rfl rfl
theorem g160_32 : z_go zP 160 32 L [zi a] q Q ↔ Q (.inl (some (zi a))) q := ge_rti (len := 1) (x := (0, 0, [])) p_160 rfl rfl
theorem g160_33 : z_go zP 160 33 L S q Q ↔ z_go zP 160 34 L (zi 0 :: S) q Q := ge_x (len := 1) (x := (0, 0, [])) p_160 rfl rfl
theorem g160_34 : z_go zP 160 34 L [zi a] q Q ↔ Q (.inl (some (zi a))) q := ge_rti (len := 1) (x := (0, 0, [])) p_160 rfl rfl
theorem g161_0 : z_go zP 161 0 [l0, l1, some (.ref u), l3] S q Q ↔ z_go zP 161 1 [l0, l1, some (.ref u), l3] (.ref u :: S) q Q := ge_x (len := 1) (x := (0, 0, [])) p_161 rfl rfl
theorem g161_1 : z_go zP 161 1 L S q Q ↔ z_go zP 161 2 L (zi 0 :: S) q Q := ge_x (len := 1) (x := (0, 0, [])) p_161 rfl rfl
theorem g161_2 : z_go zP 161 2 [some (.ref u), l1, l2, l3] S q Q ↔ z_go zP 161 3 [some (.ref u), l1, l2, l3] (.ref u :: S) q Q := ge_x (len := 1) (x := (0, 0, [])) p_161 rfl rfl
theorem g161_3 : z_go zP 161 3 [l0, some (zi a), l2, l3] S q Q ↔ z_go zP 161 4 [l0, some (zi a), l2, l3] (zi a :: S) q Q := ge_x (len := 1) (x := (0, 0, [])) p_161 rfl rfl
theorem hrow_161 (j : Nat) : (match z_row (zm_h zm_L_run) (zm_e zm_L_run) 4 j with
    | none => none
    | some h => match z_ftc (zm_c zm_L_run) h with
      | none => none
      | some q' => z_put1 q' h [l0, l1, l2, l3]) = (([(0, 13, [l0, l1, (zkl l2), none])] : List (Nat × Nat × zL)).find? (fun w => decide (w.1 = j))).map (fun w => w.2) := by
  cases l2 with
  | none => match j with
    | 0 => rfl
    | n + 1 => rfl
  | some v => cases v <;> (match j with
    | 0 => rfl
    | n + 1 => rfl)
theorem g161_4 : z_go zP 161 4 [l0, l1, l2, l3] [zi x0, .ref u, r0, r1] q Q ↔ z_tg q.1 u = some 8 ∧ z_go zP 60 0 [some (.ref u), some (zi x0), none] [] q (zh 161 7 [l0, l1, l2, l3] [r0, r1] [(0, 13, [l0, l1, (zkl l2), none])] Q) := ge_vh (len := 3) (pc := 4) (S := [zi x0, .ref u, r0, r1]) (u := u) (k1 := 60) (A := [.ref u, zi x0]) (r := [r0, r1]) (tag := 8) (n0 := 1) (zwb_le (by show 2 ≤ 4; omega)) p_161 rfl rfl rfl p_60 (by show 2 ≤ 3; omega) (by decide) hrow_161
theorem g161_7 (a1 : -2147483648 ≤ a) (a2 : a < 2147483648) : z_go zP 161 7 L (zi a :: S) q Q ↔ z_go zP 161 8 L (zl a :: S) q Q := ge_i2l (len := 1) (x := (0, 0, [])) a1 a2 p_161 rfl
theorem g161_8 : z_go zP 161 8 L (zl b :: zi a :: .ref u :: S) q Q ↔ ∃ q1, z_st 101 q u (Int32.ofInt a) (zl b) = some q1 ∧ z_go zP 161 9 L S q1 Q := ge_last (len := 1) (x := (0, 0, [])) p_161 rfl
theorem g161_9 : z_go zP 161 9 L S q Q ↔ z_go zP 161 15 L S q Q := ge_to (len := 3) (x := (0, 0, [])) p_161 rfl rfl rfl
theorem g161_13 : z_go zP 161 13 L S q Q ↔ z_go zP 161 14 L (zi 1 :: S) q Q := ge_x (len := 1) (x := (0, 0, [])) p_161 rfl rfl
theorem g161_14 : z_go zP 161 14 L [zi a] q Q ↔ Q (.inl (some (zi a))) q := ge_rti (len := 1) (x := (0, 0, [])) p_161 rfl rfl
theorem g161_15 : z_go zP 161 15 L S q Q ↔ z_go zP 161 16 L (zi 0 :: S) q Q := ge_x (len := 1) (x := (0, 0, [])) p_161 rfl rfl
theorem g161_16 : z_go zP 161 16 L [zi a] q Q ↔ Q (.inl (some (zi a))) q := ge_rti (len := 1) (x := (0, 0, [])) p_161 rfl rfl
theorem g162_0 : z_go zP 162 0 [l0, l1, l2, some (.ref u), l4] S q Q ↔ z_go zP 162 1 [l0, l1, l2, some (.ref u), l4] (.ref u :: S) q Q := ge_x (len := 1) (x := (0, 0, [])) p_162 rfl rfl
theorem g162_1 : z_go zP 162 1 L S q Q ↔ z_go zP 162 2 L (zi 0 :: S) q Q := ge_x (len := 1) (x := (0, 0, [])) p_162 rfl rfl
theorem g162_2 : z_go zP 162 2 [some (.ref u), l1, l2, l3, l4] S q Q ↔ z_go zP 162 3 [some (.ref u), l1, l2, l3, l4] (.ref u :: S) q Q := ge_x (len := 1) (x := (0, 0, [])) p_162 rfl rfl
theorem g162_3 : z_go zP 162 3 [l0, some (zi a), l2, l3, l4] S q Q ↔ z_go zP 162 4 [l0, some (zi a), l2, l3, l4] (zi a :: S) q Q := ge_x (len := 1) (x := (0, 0, [])) p_162 rfl rfl
theorem g162_4 : z_go zP 162 4 [l0, l1, some (zi a), l3, l4] S q Q ↔ z_go zP 162 5 [l0, l1, some (zi a), l3, l4] (zi a :: S) q Q := ge_x (len := 1) (x := (0, 0, [])) p_162 rfl rfl
theorem hrow_162 (j : Nat) : (match z_row (zm_h zm_L_step) (zm_e zm_L_step) 5 j with
    | none => none
    | some h => match z_ftc (zm_c zm_L_step) h with
      | none => none
      | some q' => z_put1 q' h [l0, l1, l2, l3, l4]) = (([(0, 15, [l0, l1, l2, (zkl l3), none]), (1, 19, [l0, l1, l2, (zkl l3), none])] : List (Nat × Nat × zL)).find? (fun w => decide (w.1 = j))).map (fun w => w.2) := by
  cases l3 with
  | none => match j with
    | 0 => rfl
    | 1 => rfl
    | n + 2 => rfl
  | some v => cases v <;> (match j with
    | 0 => rfl
    | 1 => rfl
    | n + 2 => rfl)
theorem g162_5 : z_go zP 162 5 [l0, l1, l2, l3, l4] [zi x1, zi x0, .ref u, r0, r1] q Q ↔ z_tg q.1 u = some 8 ∧ z_go zP 61 0 [some (.ref u), some (zi x0), some (zi x1), none, none] [] q (zh 162 8 [l0, l1, l2, l3, l4] [r0, r1] [(0, 15, [l0, l1, l2, (zkl l3), none]), (1, 19, [l0, l1, l2, (zkl l3), none])] Q) := ge_vh (len := 3) (pc := 5) (S := [zi x1, zi x0, .ref u, r0, r1]) (u := u) (k1 := 61) (A := [.ref u, zi x0, zi x1]) (r := [r0, r1]) (tag := 8) (n0 := 2) (zwb_le (by show 2 ≤ 4; omega)) p_162 rfl rfl rfl p_61 (by show 3 ≤ 5; omega) (by decide) hrow_162
theorem g162_8 (a1 : -2147483648 ≤ a) (a2 : a < 2147483648) : z_go zP 162 8 L (zi a :: S) q Q ↔ z_go zP 162 9 L (zl a :: S) q Q := ge_i2l (len := 1) (x := (0, 0, [])) a1 a2 p_162 rfl
theorem g162_9 : z_go zP 162 9 L (zl b :: zi a :: .ref u :: S) q Q ↔ ∃ q1, z_st 101 q u (Int32.ofInt a) (zl b) = some q1 ∧ z_go zP 162 10 L S q1 Q := ge_last (len := 1) (x := (0, 0, [])) p_162 rfl
theorem g162_10 : z_go zP 162 10 L S q Q ↔ z_go zP 162 21 L S q Q := ge_to (len := 3) (x := (0, 0, [])) p_162 rfl rfl rfl
theorem g162_15 : z_go zP 162 15 L S q Q ↔ z_go zP 162 16 L (zi 1 :: S) q Q := ge_x (len := 1) (x := (0, 0, [])) p_162 rfl rfl
theorem g162_16 : z_go zP 162 16 L [zi a] q Q ↔ Q (.inl (some (zi a))) q := ge_rti (len := 1) (x := (0, 0, [])) p_162 rfl rfl
theorem g162_19 : z_go zP 162 19 L S q Q ↔ z_go zP 162 20 L (zi 2 :: S) q Q := ge_x (len := 1) (x := (0, 0, [])) p_162 rfl rfl
theorem g162_20 : z_go zP 162 20 L [zi a] q Q ↔ Q (.inl (some (zi a))) q := ge_rti (len := 1) (x := (0, 0, [])) p_162 rfl rfl
theorem g162_21 : z_go zP 162 21 L S q Q ↔ z_go zP 162 22 L (zi 0 :: S) q Q := ge_x (len := 1) (x := (0, 0, [])) p_162 rfl rfl
theorem g162_22 : z_go zP 162 22 L [zi a] q Q ↔ Q (.inl (some (zi a))) q := ge_rti (len := 1) (x := (0, 0, [])) p_162 rfl rfl
theorem g163_0 : z_go zP 163 0 [l0, l1, l2, l3, l4, l5, some (.ref u), l7] S q Q ↔ z_go zP 163 2 [l0, l1, l2, l3, l4, l5, some (.ref u), l7] (.ref u :: S) q Q := ge_x (len := 2) (x := (0, 0, [])) p_163 rfl rfl
theorem g163_2 : z_go zP 163 2 L S q Q ↔ z_go zP 163 3 L (zi 0 :: S) q Q := ge_x (len := 1) (x := (0, 0, [])) p_163 rfl rfl
theorem g163_3 : z_go zP 163 3 [some (.ref u), l1, l2, l3, l4, l5, l6, l7] S q Q ↔ z_go zP 163 4 [some (.ref u), l1, l2, l3, l4, l5, l6, l7] (.ref u :: S) q Q := ge_x (len := 1) (x := (0, 0, [])) p_163 rfl rfl
theorem g163_4 : z_go zP 163 4 [l0, some (zi a), l2, l3, l4, l5, l6, l7] S q Q ↔ z_go zP 163 5 [l0, some (zi a), l2, l3, l4, l5, l6, l7] (zi a :: S) q Q := ge_x (len := 1) (x := (0, 0, [])) p_163 rfl rfl
theorem g163_5 : z_go zP 163 5 [l0, l1, some (zi a), l3, l4, l5, l6, l7] S q Q ↔ z_go zP 163 6 [l0, l1, some (zi a), l3, l4, l5, l6, l7] (zi a :: S) q Q := ge_x (len := 1) (x := (0, 0, [])) p_163 rfl rfl
theorem g163_6 : z_go zP 163 6 [l0, l1, l2, some (zi a), l4, l5, l6, l7] S q Q ↔ z_go zP 163 7 [l0, l1, l2, some (zi a), l4, l5, l6, l7] (zi a :: S) q Q := ge_x (len := 1) (x := (0, 0, [])) p_163 rfl rfl
theorem g163_7 : z_go zP 163 7 [l0, l1, l2, l3, some (zi a), l5, l6, l7] S q Q ↔ z_go zP 163 9 [l0, l1, l2, l3, some (zi a), l5, l6, l7] (zi a :: S) q Q := ge_x (len := 2) (x := (0, 0, [])) p_163 rfl rfl
theorem g163_9 : z_go zP 163 9 [l0, l1, l2, l3, l4, some (zi a), l6, l7] S q Q ↔ z_go zP 163 11 [l0, l1, l2, l3, l4, some (zi a), l6, l7] (zi a :: S) q Q := ge_x (len := 2) (x := (0, 0, [])) p_163 rfl rfl
theorem hrow_163 (j : Nat) : (match z_row (zm_h zm_L_core) (zm_e zm_L_core) 11 j with
    | none => none
    | some h => match z_ftc (zm_c zm_L_core) h with
      | none => none
      | some q' => z_put1 q' h [l0, l1, l2, l3, l4, l5, l6, l7]) = (([(0, 21, [l0, l1, l2, l3, l4, l5, (zkl l6), none]), (1, 25, [l0, l1, l2, l3, l4, l5, (zkl l6), none])] : List (Nat × Nat × zL)).find? (fun w => decide (w.1 = j))).map (fun w => w.2) := by
  cases l6 with
  | none => match j with
    | 0 => rfl
    | 1 => rfl
    | n + 2 => rfl
  | some v => cases v <;> (match j with
    | 0 => rfl
    | 1 => rfl
    | n + 2 => rfl)
theorem g163_11 : z_go zP 163 11 [l0, l1, l2, l3, l4, l5, l6, l7] [zi x4, zi x3, zi x2, zi x1, zi x0, .ref u, r0, r1] q Q ↔ z_tg q.1 u = some 8 ∧ z_go zP 62 0 [some (.ref u), some (zi x0), some (zi x1), some (zi x2), some (zi x3), some (zi x4), none, none] [] q (zh 163 14 [l0, l1, l2, l3, l4, l5, l6, l7] [r0, r1] [(0, 21, [l0, l1, l2, l3, l4, l5, (zkl l6), none]), (1, 25, [l0, l1, l2, l3, l4, l5, (zkl l6), none])] Q) := ge_vh (len := 3) (pc := 11) (S := [zi x4, zi x3, zi x2, zi x1, zi x0, .ref u, r0, r1]) (u := u) (k1 := 62) (A := [.ref u, zi x0, zi x1, zi x2, zi x3, zi x4]) (r := [r0, r1]) (tag := 8) (n0 := 5) (zwb_le (by show 2 ≤ 4; omega)) p_163 rfl rfl rfl p_62 (by show 6 ≤ 8; omega) (by decide) hrow_163
theorem g163_14 (a1 : -2147483648 ≤ a) (a2 : a < 2147483648) : z_go zP 163 14 L (zi a :: S) q Q ↔ z_go zP 163 15 L (zl a :: S) q Q := ge_i2l (len := 1) (x := (0, 0, [])) a1 a2 p_163 rfl
theorem g163_15 : z_go zP 163 15 L (zl b :: zi a :: .ref u :: S) q Q ↔ ∃ q1, z_st 101 q u (Int32.ofInt a) (zl b) = some q1 ∧ z_go zP 163 16 L S q1 Q := ge_last (len := 1) (x := (0, 0, [])) p_163 rfl
theorem g163_16 : z_go zP 163 16 L S q Q ↔ z_go zP 163 27 L S q Q := ge_to (len := 3) (x := (0, 0, [])) p_163 rfl rfl rfl
theorem g163_21 : z_go zP 163 21 L S q Q ↔ z_go zP 163 22 L (zi 1 :: S) q Q := ge_x (len := 1) (x := (0, 0, [])) p_163 rfl rfl
theorem g163_22 : z_go zP 163 22 L [zi a] q Q ↔ Q (.inl (some (zi a))) q := ge_rti (len := 1) (x := (0, 0, [])) p_163 rfl rfl
theorem g163_25 : z_go zP 163 25 L S q Q ↔ z_go zP 163 26 L (zi 2 :: S) q Q := ge_x (len := 1) (x := (0, 0, [])) p_163 rfl rfl
theorem g163_26 : z_go zP 163 26 L [zi a] q Q ↔ Q (.inl (some (zi a))) q := ge_rti (len := 1) (x := (0, 0, [])) p_163 rfl rfl
theorem g163_27 : z_go zP 163 27 L S q Q ↔ z_go zP 163 28 L (zi 0 :: S) q Q := ge_x (len := 1) (x := (0, 0, [])) p_163 rfl rfl
theorem g163_28 : z_go zP 163 28 L [zi a] q Q ↔ Q (.inl (some (zi a))) q := ge_rti (len := 1) (x := (0, 0, [])) p_163 rfl rfl
theorem g164_0 : z_go zP 164 0 [l0, l1, l2, l3, l4, l5, some (.ref u), l7] S q Q ↔ z_go zP 164 2 [l0, l1, l2, l3, l4, l5, some (.ref u), l7] (.ref u :: S) q Q := ge_x (len := 2) (x := (0, 0, [])) p_164 rfl rfl
theorem g164_2 : z_go zP 164 2 L S q Q ↔ z_go zP 164 3 L (zi 0 :: S) q Q := ge_x (len := 1) (x := (0, 0, [])) p_164 rfl rfl
theorem g164_3 : z_go zP 164 3 [some (.ref u), l1, l2, l3, l4, l5, l6, l7] S q Q ↔ z_go zP 164 4 [some (.ref u), l1, l2, l3, l4, l5, l6, l7] (.ref u :: S) q Q := ge_x (len := 1) (x := (0, 0, [])) p_164 rfl rfl
theorem g164_4 : z_go zP 164 4 [l0, some (zi a), l2, l3, l4, l5, l6, l7] S q Q ↔ z_go zP 164 5 [l0, some (zi a), l2, l3, l4, l5, l6, l7] (zi a :: S) q Q := ge_x (len := 1) (x := (0, 0, [])) p_164 rfl rfl
theorem g164_5 : z_go zP 164 5 [l0, l1, some (zi a), l3, l4, l5, l6, l7] S q Q ↔ z_go zP 164 6 [l0, l1, some (zi a), l3, l4, l5, l6, l7] (zi a :: S) q Q := ge_x (len := 1) (x := (0, 0, [])) p_164 rfl rfl
theorem g164_6 : z_go zP 164 6 [l0, l1, l2, some (zi a), l4, l5, l6, l7] S q Q ↔ z_go zP 164 7 [l0, l1, l2, some (zi a), l4, l5, l6, l7] (zi a :: S) q Q := ge_x (len := 1) (x := (0, 0, [])) p_164 rfl rfl
theorem g164_7 : z_go zP 164 7 [l0, l1, l2, l3, some (zi a), l5, l6, l7] S q Q ↔ z_go zP 164 9 [l0, l1, l2, l3, some (zi a), l5, l6, l7] (zi a :: S) q Q := ge_x (len := 2) (x := (0, 0, [])) p_164 rfl rfl
theorem g164_9 : z_go zP 164 9 [l0, l1, l2, l3, l4, some (zi a), l6, l7] S q Q ↔ z_go zP 164 11 [l0, l1, l2, l3, l4, some (zi a), l6, l7] (zi a :: S) q Q := ge_x (len := 2) (x := (0, 0, [])) p_164 rfl rfl
theorem hrow_164 (j : Nat) : (match z_row (zm_h zm_L_change) (zm_e zm_L_change) 11 j with
    | none => none
    | some h => match z_ftc (zm_c zm_L_change) h with
      | none => none
      | some q' => z_put1 q' h [l0, l1, l2, l3, l4, l5, l6, l7]) = (([(0, 21, [l0, l1, l2, l3, l4, l5, (zkl l6), none]), (1, 25, [l0, l1, l2, l3, l4, l5, (zkl l6), none])] : List (Nat × Nat × zL)).find? (fun w => decide (w.1 = j))).map (fun w => w.2) := by
  cases l6 with
  | none => match j with
    | 0 => rfl
    | 1 => rfl
    | n + 2 => rfl
  | some v => cases v <;> (match j with
    | 0 => rfl
    | 1 => rfl
    | n + 2 => rfl)
theorem g164_11 : z_go zP 164 11 [l0, l1, l2, l3, l4, l5, l6, l7] [zi x4, zi x3, zi x2, zi x1, zi x0, .ref u, r0, r1] q Q ↔ z_tg q.1 u = some 8 ∧ z_go zP 63 0 [some (.ref u), some (zi x0), some (zi x1), some (zi x2), some (zi x3), some (zi x4), none, none] [] q (zh 164 14 [l0, l1, l2, l3, l4, l5, l6, l7] [r0, r1] [(0, 21, [l0, l1, l2, l3, l4, l5, (zkl l6), none]), (1, 25, [l0, l1, l2, l3, l4, l5, (zkl l6), none])] Q) := ge_vh (len := 3) (pc := 11) (S := [zi x4, zi x3, zi x2, zi x1, zi x0, .ref u, r0, r1]) (u := u) (k1 := 63) (A := [.ref u, zi x0, zi x1, zi x2, zi x3, zi x4]) (r := [r0, r1]) (tag := 8) (n0 := 5) (zwb_le (by show 2 ≤ 4; omega)) p_164 rfl rfl rfl p_63 (by show 6 ≤ 8; omega) (by decide) hrow_164
theorem g164_14 (a1 : -2147483648 ≤ a) (a2 : a < 2147483648) : z_go zP 164 14 L (zi a :: S) q Q ↔ z_go zP 164 15 L (zl a :: S) q Q := ge_i2l (len := 1) (x := (0, 0, [])) a1 a2 p_164 rfl
theorem g164_15 : z_go zP 164 15 L (zl b :: zi a :: .ref u :: S) q Q ↔ ∃ q1, z_st 101 q u (Int32.ofInt a) (zl b) = some q1 ∧ z_go zP 164 16 L S q1 Q := ge_last (len := 1) (x := (0, 0, [])) p_164 rfl
theorem g164_16 : z_go zP 164 16 L S q Q ↔ z_go zP 164 27 L S q Q := ge_to (len := 3) (x := (0, 0, [])) p_164 rfl rfl rfl
theorem g164_21 : z_go zP 164 21 L S q Q ↔ z_go zP 164 22 L (zi 1 :: S) q Q := ge_x (len := 1) (x := (0, 0, [])) p_164 rfl rfl
theorem g164_22 : z_go zP 164 22 L [zi a] q Q ↔ Q (.inl (some (zi a))) q := ge_rti (len := 1) (x := (0, 0, [])) p_164 rfl rfl
theorem g164_25 : z_go zP 164 25 L S q Q ↔ z_go zP 164 26 L (zi 2 :: S) q Q := ge_x (len := 1) (x := (0, 0, [])) p_164 rfl rfl
theorem g164_26 : z_go zP 164 26 L [zi a] q Q ↔ Q (.inl (some (zi a))) q := ge_rti (len := 1) (x := (0, 0, [])) p_164 rfl rfl
theorem g164_27 : z_go zP 164 27 L S q Q ↔ z_go zP 164 28 L (zi 0 :: S) q Q := ge_x (len := 1) (x := (0, 0, [])) p_164 rfl rfl
theorem g164_28 : z_go zP 164 28 L [zi a] q Q ↔ Q (.inl (some (zi a))) q := ge_rti (len := 1) (x := (0, 0, [])) p_164 rfl rfl
theorem g165_0 : z_go zP 165 0 [l0, l1, l2, some (.ref u), l4] S q Q ↔ z_go zP 165 1 [l0, l1, l2, some (.ref u), l4] (.ref u :: S) q Q := ge_x (len := 1) (x := (0, 0, [])) p_165 rfl rfl
theorem g165_1 : z_go zP 165 1 L S q Q ↔ z_go zP 165 2 L (zi 0 :: S) q Q := ge_x (len := 1) (x := (0, 0, [])) p_165 rfl rfl
theorem g165_2 : z_go zP 165 2 [some (.ref u), l1, l2, l3, l4] S q Q ↔ z_go zP 165 3 [some (.ref u), l1, l2, l3, l4] (.ref u :: S) q Q := ge_x (len := 1) (x := (0, 0, [])) p_165 rfl rfl
theorem g165_3 : z_go zP 165 3 [l0, some (zi a), l2, l3, l4] S q Q ↔ z_go zP 165 4 [l0, some (zi a), l2, l3, l4] (zi a :: S) q Q := ge_x (len := 1) (x := (0, 0, [])) p_165 rfl rfl
theorem g165_4 : z_go zP 165 4 [l0, l1, some (zi a), l3, l4] S q Q ↔ z_go zP 165 5 [l0, l1, some (zi a), l3, l4] (zi a :: S) q Q := ge_x (len := 1) (x := (0, 0, [])) p_165 rfl rfl
theorem hrow_165 (j : Nat) : (match z_row (zm_h zm_L_sim) (zm_e zm_L_sim) 5 j with
    | none => none
    | some h => match z_ftc (zm_c zm_L_sim) h with
      | none => none
      | some q' => z_put1 q' h [l0, l1, l2, l3, l4]) = (([(0, 15, [l0, l1, l2, (zkl l3), none])] : List (Nat × Nat × zL)).find? (fun w => decide (w.1 = j))).map (fun w => w.2) := by
  cases l3 with
  | none => match j with
    | 0 => rfl
    | n + 1 => rfl
  | some v => cases v <;> (match j with
    | 0 => rfl
    | n + 1 => rfl)
theorem g165_5 : z_go zP 165 5 [l0, l1, l2, l3, l4] [zi x1, zi x0, .ref u, r0, r1] q Q ↔ z_tg q.1 u = some 8 ∧ z_go zP 64 0 [some (.ref u), some (zi x0), some (zi x1), none, none] [] q (zh 165 8 [l0, l1, l2, l3, l4] [r0, r1] [(0, 15, [l0, l1, l2, (zkl l3), none])] Q) := ge_vh (len := 3) (pc := 5) (S := [zi x1, zi x0, .ref u, r0, r1]) (u := u) (k1 := 64) (A := [.ref u, zi x0, zi x1]) (r := [r0, r1]) (tag := 8) (n0 := 2) (zwb_le (by show 2 ≤ 4; omega)) p_165 rfl rfl rfl p_64 (by show 3 ≤ 5; omega) (by decide) hrow_165
theorem g165_8 (a1 : -2147483648 ≤ a) (a2 : a < 2147483648) : z_go zP 165 8 L (zi a :: S) q Q ↔ z_go zP 165 9 L (zl a :: S) q Q := ge_i2l (len := 1) (x := (0, 0, [])) a1 a2 p_165 rfl
theorem g165_9 : z_go zP 165 9 L (zl b :: zi a :: .ref u :: S) q Q ↔ ∃ q1, z_st 101 q u (Int32.ofInt a) (zl b) = some q1 ∧ z_go zP 165 10 L S q1 Q := ge_last (len := 1) (x := (0, 0, [])) p_165 rfl
theorem g165_10 : z_go zP 165 10 L S q Q ↔ z_go zP 165 17 L S q Q := ge_to (len := 3) (x := (0, 0, [])) p_165 rfl rfl rfl
theorem g165_15 : z_go zP 165 15 L S q Q ↔ z_go zP 165 16 L (zi 1 :: S) q Q := ge_x (len := 1) (x := (0, 0, [])) p_165 rfl rfl
theorem g165_16 : z_go zP 165 16 L [zi a] q Q ↔ Q (.inl (some (zi a))) q := ge_rti (len := 1) (x := (0, 0, [])) p_165 rfl rfl
theorem g165_17 : z_go zP 165 17 L S q Q ↔ z_go zP 165 18 L (zi 0 :: S) q Q := ge_x (len := 1) (x := (0, 0, [])) p_165 rfl rfl
theorem g165_18 : z_go zP 165 18 L [zi a] q Q ↔ Q (.inl (some (zi a))) q := ge_rti (len := 1) (x := (0, 0, [])) p_165 rfl rfl
theorem g166_0 : z_go zP 166 0 [l0, l1, l2, some (.ref u), l4] S q Q ↔ z_go zP 166 1 [l0, l1, l2, some (.ref u), l4] (.ref u :: S) q Q := ge_x (len := 1) (x := (0, 0, [])) p_166 rfl rfl
theorem g166_1 : z_go zP 166 1 L S q Q ↔ z_go zP 166 2 L (zi 0 :: S) q Q := ge_x (len := 1) (x := (0, 0, [])) p_166 rfl rfl
theorem g166_2 : z_go zP 166 2 [some (.ref u), l1, l2, l3, l4] S q Q ↔ z_go zP 166 3 [some (.ref u), l1, l2, l3, l4] (.ref u :: S) q Q := ge_x (len := 1) (x := (0, 0, [])) p_166 rfl rfl
theorem g166_3 : z_go zP 166 3 [l0, some (zi a), l2, l3, l4] S q Q ↔ z_go zP 166 4 [l0, some (zi a), l2, l3, l4] (zi a :: S) q Q := ge_x (len := 1) (x := (0, 0, [])) p_166 rfl rfl
theorem g166_4 : z_go zP 166 4 [l0, l1, some (zi a), l3, l4] S q Q ↔ z_go zP 166 5 [l0, l1, some (zi a), l3, l4] (zi a :: S) q Q := ge_x (len := 1) (x := (0, 0, [])) p_166 rfl rfl
theorem hrow_166 (j : Nat) : (match z_row (zm_h zm_L_cycles) (zm_e zm_L_cycles) 5 j with
    | none => none
    | some h => match z_ftc (zm_c zm_L_cycles) h with
      | none => none
      | some q' => z_put1 q' h [l0, l1, l2, l3, l4]) = (([(0, 15, [l0, l1, l2, (zkl l3), none]), (1, 19, [l0, l1, l2, (zkl l3), none])] : List (Nat × Nat × zL)).find? (fun w => decide (w.1 = j))).map (fun w => w.2) := by
  cases l3 with
  | none => match j with
    | 0 => rfl
    | 1 => rfl
    | n + 2 => rfl
  | some v => cases v <;> (match j with
    | 0 => rfl
    | 1 => rfl
    | n + 2 => rfl)
theorem g166_5 : z_go zP 166 5 [l0, l1, l2, l3, l4] [zi x1, zi x0, .ref u, r0, r1] q Q ↔ z_tg q.1 u = some 8 ∧ z_go zP 65 0 [some (.ref u), some (zi x0), some (zi x1), none, none] [] q (zh 166 8 [l0, l1, l2, l3, l4] [r0, r1] [(0, 15, [l0, l1, l2, (zkl l3), none]), (1, 19, [l0, l1, l2, (zkl l3), none])] Q) := ge_vh (len := 3) (pc := 5) (S := [zi x1, zi x0, .ref u, r0, r1]) (u := u) (k1 := 65) (A := [.ref u, zi x0, zi x1]) (r := [r0, r1]) (tag := 8) (n0 := 2) (zwb_le (by show 2 ≤ 4; omega)) p_166 rfl rfl rfl p_65 (by show 3 ≤ 5; omega) (by decide) hrow_166
theorem g166_8 (a1 : -2147483648 ≤ a) (a2 : a < 2147483648) : z_go zP 166 8 L (zi a :: S) q Q ↔ z_go zP 166 9 L (zl a :: S) q Q := ge_i2l (len := 1) (x := (0, 0, [])) a1 a2 p_166 rfl
theorem g166_9 : z_go zP 166 9 L (zl b :: zi a :: .ref u :: S) q Q ↔ ∃ q1, z_st 101 q u (Int32.ofInt a) (zl b) = some q1 ∧ z_go zP 166 10 L S q1 Q := ge_last (len := 1) (x := (0, 0, [])) p_166 rfl
theorem g166_10 : z_go zP 166 10 L S q Q ↔ z_go zP 166 21 L S q Q := ge_to (len := 3) (x := (0, 0, [])) p_166 rfl rfl rfl
theorem g166_15 : z_go zP 166 15 L S q Q ↔ z_go zP 166 16 L (zi 1 :: S) q Q := ge_x (len := 1) (x := (0, 0, [])) p_166 rfl rfl
theorem g166_16 : z_go zP 166 16 L [zi a] q Q ↔ Q (.inl (some (zi a))) q := ge_rti (len := 1) (x := (0, 0, [])) p_166 rfl rfl
theorem g166_19 : z_go zP 166 19 L S q Q ↔ z_go zP 166 20 L (zi 2 :: S) q Q := ge_x (len := 1) (x := (0, 0, [])) p_166 rfl rfl
theorem g166_20 : z_go zP 166 20 L [zi a] q Q ↔ Q (.inl (some (zi a))) q := ge_rti (len := 1) (x := (0, 0, [])) p_166 rfl rfl
theorem g166_21 : z_go zP 166 21 L S q Q ↔ z_go zP 166 22 L (zi 0 :: S) q Q := ge_x (len := 1) (x := (0, 0, [])) p_166 rfl rfl
theorem g166_22 : z_go zP 166 22 L [zi a] q Q ↔ Q (.inl (some (zi a))) q := ge_rti (len := 1) (x := (0, 0, [])) p_166 rfl rfl
theorem g167_0 : z_go zP 167 0 [l0, l1, l2, some (.ref u), l4] S q Q ↔ z_go zP 167 1 [l0, l1, l2, some (.ref u), l4] (.ref u :: S) q Q := ge_x (len := 1) (x := (0, 0, [])) p_167 rfl rfl
theorem g167_1 : z_go zP 167 1 L S q Q ↔ z_go zP 167 2 L (zi 0 :: S) q Q := ge_x (len := 1) (x := (0, 0, [])) p_167 rfl rfl
theorem g167_2 : z_go zP 167 2 [some (.ref u), l1, l2, l3, l4] S q Q ↔ z_go zP 167 3 [some (.ref u), l1, l2, l3, l4] (.ref u :: S) q Q := ge_x (len := 1) (x := (0, 0, [])) p_167 rfl rfl
theorem g167_3 : z_go zP 167 3 [l0, some (zi a), l2, l3, l4] S q Q ↔ z_go zP 167 4 [l0, some (zi a), l2, l3, l4] (zi a :: S) q Q := ge_x (len := 1) (x := (0, 0, [])) p_167 rfl rfl
theorem g167_4 : z_go zP 167 4 [l0, l1, some (zi a), l3, l4] S q Q ↔ z_go zP 167 5 [l0, l1, some (zi a), l3, l4] (zi a :: S) q Q := ge_x (len := 1) (x := (0, 0, [])) p_167 rfl rfl
theorem hrow_167 (j : Nat) : (match z_row (zm_h zm_L_state) (zm_e zm_L_state) 5 j with
    | none => none
    | some h => match z_ftc (zm_c zm_L_state) h with
      | none => none
      | some q' => z_put1 q' h [l0, l1, l2, l3, l4]) = (([(0, 15, [l0, l1, l2, (zkl l3), none]), (1, 19, [l0, l1, l2, (zkl l3), none])] : List (Nat × Nat × zL)).find? (fun w => decide (w.1 = j))).map (fun w => w.2) := by
  cases l3 with
  | none => match j with
    | 0 => rfl
    | 1 => rfl
    | n + 2 => rfl
  | some v => cases v <;> (match j with
    | 0 => rfl
    | 1 => rfl
    | n + 2 => rfl)
theorem g167_5 : z_go zP 167 5 [l0, l1, l2, l3, l4] [zi x1, zi x0, .ref u, r0, r1] q Q ↔ z_tg q.1 u = some 8 ∧ z_go zP 66 0 [some (.ref u), some (zi x0), some (zi x1), none, none, none] [] q (zh 167 8 [l0, l1, l2, l3, l4] [r0, r1] [(0, 15, [l0, l1, l2, (zkl l3), none]), (1, 19, [l0, l1, l2, (zkl l3), none])] Q) := ge_vh (len := 3) (pc := 5) (S := [zi x1, zi x0, .ref u, r0, r1]) (u := u) (k1 := 66) (A := [.ref u, zi x0, zi x1]) (r := [r0, r1]) (tag := 8) (n0 := 2) (zwb_le (by show 2 ≤ 4; omega)) p_167 rfl rfl rfl p_66 (by show 3 ≤ 6; omega) (by decide) hrow_167
theorem g167_8 (a1 : -2147483648 ≤ a) (a2 : a < 2147483648) : z_go zP 167 8 L (zi a :: S) q Q ↔ z_go zP 167 9 L (zl a :: S) q Q := ge_i2l (len := 1) (x := (0, 0, [])) a1 a2 p_167 rfl
theorem g167_9 : z_go zP 167 9 L (zl b :: zi a :: .ref u :: S) q Q ↔ ∃ q1, z_st 101 q u (Int32.ofInt a) (zl b) = some q1 ∧ z_go zP 167 10 L S q1 Q := ge_last (len := 1) (x := (0, 0, [])) p_167 rfl
theorem g167_10 : z_go zP 167 10 L S q Q ↔ z_go zP 167 21 L S q Q := ge_to (len := 3) (x := (0, 0, [])) p_167 rfl rfl rfl
theorem g167_15 : z_go zP 167 15 L S q Q ↔ z_go zP 167 16 L (zi 1 :: S) q Q := ge_x (len := 1) (x := (0, 0, [])) p_167 rfl rfl
theorem g167_16 : z_go zP 167 16 L [zi a] q Q ↔ Q (.inl (some (zi a))) q := ge_rti (len := 1) (x := (0, 0, [])) p_167 rfl rfl
theorem g167_19 : z_go zP 167 19 L S q Q ↔ z_go zP 167 20 L (zi 2 :: S) q Q := ge_x (len := 1) (x := (0, 0, [])) p_167 rfl rfl
theorem g167_20 : z_go zP 167 20 L [zi a] q Q ↔ Q (.inl (some (zi a))) q := ge_rti (len := 1) (x := (0, 0, [])) p_167 rfl rfl
theorem g167_21 : z_go zP 167 21 L S q Q ↔ z_go zP 167 22 L (zi 0 :: S) q Q := ge_x (len := 1) (x := (0, 0, [])) p_167 rfl rfl
theorem g167_22 : z_go zP 167 22 L [zi a] q Q ↔ Q (.inl (some (zi a))) q := ge_rti (len := 1) (x := (0, 0, [])) p_167 rfl rfl
theorem g168_0 : z_go zP 168 0 [l0, l1, l2, some (.ref u), l4] S q Q ↔ z_go zP 168 1 [l0, l1, l2, some (.ref u), l4] (.ref u :: S) q Q := ge_x (len := 1) (x := (0, 0, [])) p_168 rfl rfl
theorem g168_1 : z_go zP 168 1 L S q Q ↔ z_go zP 168 2 L (zi 0 :: S) q Q := ge_x (len := 1) (x := (0, 0, [])) p_168 rfl rfl
theorem g168_2 : z_go zP 168 2 [some (.ref u), l1, l2, l3, l4] S q Q ↔ z_go zP 168 3 [some (.ref u), l1, l2, l3, l4] (.ref u :: S) q Q := ge_x (len := 1) (x := (0, 0, [])) p_168 rfl rfl
theorem g168_3 : z_go zP 168 3 [l0, some (zi a), l2, l3, l4] S q Q ↔ z_go zP 168 4 [l0, some (zi a), l2, l3, l4] (zi a :: S) q Q := ge_x (len := 1) (x := (0, 0, [])) p_168 rfl rfl
theorem g168_4 : z_go zP 168 4 [l0, l1, some (zi a), l3, l4] S q Q ↔ z_go zP 168 5 [l0, l1, some (zi a), l3, l4] (zi a :: S) q Q := ge_x (len := 1) (x := (0, 0, [])) p_168 rfl rfl
theorem hrow_168 (j : Nat) : (match z_row (zm_h zm_L_number) (zm_e zm_L_number) 5 j with
    | none => none
    | some h => match z_ftc (zm_c zm_L_number) h with
      | none => none
      | some q' => z_put1 q' h [l0, l1, l2, l3, l4]) = (([(0, 14, [l0, l1, l2, (zkl l3), none]), (1, 18, [l0, l1, l2, (zkl l3), none])] : List (Nat × Nat × zL)).find? (fun w => decide (w.1 = j))).map (fun w => w.2) := by
  cases l3 with
  | none => match j with
    | 0 => rfl
    | 1 => rfl
    | n + 2 => rfl
  | some v => cases v <;> (match j with
    | 0 => rfl
    | 1 => rfl
    | n + 2 => rfl)
theorem g168_5 : z_go zP 168 5 [l0, l1, l2, l3, l4] [zi x1, zi x0, .ref u, r0, r1] q Q ↔ z_tg q.1 u = some 8 ∧ z_go zP 67 0 [some (.ref u), some (zi x0), some (zi x1), none] [] q (zh 168 8 [l0, l1, l2, l3, l4] [r0, r1] [(0, 14, [l0, l1, l2, (zkl l3), none]), (1, 18, [l0, l1, l2, (zkl l3), none])] Q) := ge_vh (len := 3) (pc := 5) (S := [zi x1, zi x0, .ref u, r0, r1]) (u := u) (k1 := 67) (A := [.ref u, zi x0, zi x1]) (r := [r0, r1]) (tag := 8) (n0 := 2) (zwb_le (by show 2 ≤ 4; omega)) p_168 rfl rfl rfl p_67 (by show 3 ≤ 4; omega) (by decide) hrow_168
theorem g168_8 : z_go zP 168 8 L (zl b :: zi a :: .ref u :: S) q Q ↔ ∃ q1, z_st 101 q u (Int32.ofInt a) (zl b) = some q1 ∧ z_go zP 168 9 L S q1 Q := ge_last (len := 1) (x := (0, 0, [])) p_168 rfl
theorem g168_9 : z_go zP 168 9 L S q Q ↔ z_go zP 168 20 L S q Q := ge_to (len := 3) (x := (0, 0, [])) p_168 rfl rfl rfl
theorem g168_14 : z_go zP 168 14 L S q Q ↔ z_go zP 168 15 L (zi 1 :: S) q Q := ge_x (len := 1) (x := (0, 0, [])) p_168 rfl rfl
theorem g168_15 : z_go zP 168 15 L [zi a] q Q ↔ Q (.inl (some (zi a))) q := ge_rti (len := 1) (x := (0, 0, [])) p_168 rfl rfl
theorem g168_18 : z_go zP 168 18 L S q Q ↔ z_go zP 168 19 L (zi 2 :: S) q Q := ge_x (len := 1) (x := (0, 0, [])) p_168 rfl rfl
theorem g168_19 : z_go zP 168 19 L [zi a] q Q ↔ Q (.inl (some (zi a))) q := ge_rti (len := 1) (x := (0, 0, [])) p_168 rfl rfl
theorem g168_20 : z_go zP 168 20 L S q Q ↔ z_go zP 168 21 L (zi 0 :: S) q Q := ge_x (len := 1) (x := (0, 0, [])) p_168 rfl rfl
theorem g168_21 : z_go zP 168 21 L [zi a] q Q ↔ Q (.inl (some (zi a))) q := ge_rti (len := 1) (x := (0, 0, [])) p_168 rfl rfl
theorem g169_0 : z_go zP 169 0 [l0, l1, l2, some (.ref u), l4] S q Q ↔ z_go zP 169 1 [l0, l1, l2, some (.ref u), l4] (.ref u :: S) q Q := ge_x (len := 1) (x := (0, 0, [])) p_169 rfl rfl
theorem g169_1 : z_go zP 169 1 L S q Q ↔ z_go zP 169 2 L (zi 0 :: S) q Q := ge_x (len := 1) (x := (0, 0, [])) p_169 rfl rfl
theorem g169_2 : z_go zP 169 2 [some (.ref u), l1, l2, l3, l4] S q Q ↔ z_go zP 169 3 [some (.ref u), l1, l2, l3, l4] (.ref u :: S) q Q := ge_x (len := 1) (x := (0, 0, [])) p_169 rfl rfl
theorem g169_3 : z_go zP 169 3 [l0, some (zi a), l2, l3, l4] S q Q ↔ z_go zP 169 4 [l0, some (zi a), l2, l3, l4] (zi a :: S) q Q := ge_x (len := 1) (x := (0, 0, [])) p_169 rfl rfl
theorem g169_4 : z_go zP 169 4 [l0, l1, some (zi a), l3, l4] S q Q ↔ z_go zP 169 5 [l0, l1, some (zi a), l3, l4] (zi a :: S) q Q := ge_x (len := 1) (x := (0, 0, [])) p_169 rfl rfl
theorem hrow_169 (j : Nat) : (match z_row (zm_h zm_L_agrees) (zm_e zm_L_agrees) 5 j with
    | none => none
    | some h => match z_ftc (zm_c zm_L_agrees) h with
      | none => none
      | some q' => z_put1 q' h [l0, l1, l2, l3, l4]) = (([(0, 22, [l0, l1, l2, (zkl l3), none])] : List (Nat × Nat × zL)).find? (fun w => decide (w.1 = j))).map (fun w => w.2) := by
  cases l3 with
  | none => match j with
    | 0 => rfl
    | n + 1 => rfl
  | some v => cases v <;> (match j with
    | 0 => rfl
    | n + 1 => rfl)
theorem g169_5 : z_go zP 169 5 [l0, l1, l2, l3, l4] [zi x1, zi x0, .ref u, r0, r1] q Q ↔ z_tg q.1 u = some 8 ∧ z_go zP 68 0 [some (.ref u), some (zi x0), some (zi x1), none, none, none, none] [] q (zh 169 8 [l0, l1, l2, l3, l4] [r0, r1] [(0, 22, [l0, l1, l2, (zkl l3), none])] Q) := ge_vh (len := 3) (pc := 5) (S := [zi x1, zi x0, .ref u, r0, r1]) (u := u) (k1 := 68) (A := [.ref u, zi x0, zi x1]) (r := [r0, r1]) (tag := 8) (n0 := 2) (zwb_le (by show 2 ≤ 4; omega)) p_169 rfl rfl rfl p_68 (by show 3 ≤ 7; omega) (by decide) hrow_169
theorem g169_8 (a1 : -2147483648 ≤ a) (a2 : a < 2147483648) : z_go zP 169 8 L (zi a :: S) q Q ↔ if a = 0 then z_go zP 169 15 L S q Q else z_go zP 169 11 L S q Q := ge_if_eq (len := 3) (x := (0, 0, [])) a1 a2 p_169 rfl rfl
theorem g169_8b {c : Prop} [Decidable c] : z_go zP 169 8 L (zi (bI c) :: S) q Q ↔ if c then z_go zP 169 11 L S q Q else z_go zP 169 15 L S q Q := ge_if_eq_b (len := 3) (x := (0, 0, [])) p_169 rfl rfl
theorem g169_11 : z_go zP 169 11 L S q Q ↔ z_go zP 169 12 L (zl 1 :: S) q Q := ge_x (len := 1) (x := (0, 0, [])) p_169 rfl rfl
theorem g169_12 : z_go zP 169 12 L S q Q ↔ z_go zP 169 16 L S q Q := ge_to (len := 3) (x := (0, 0, [])) p_169 rfl rfl rfl
theorem g169_15 : z_go zP 169 15 L S q Q ↔ z_go zP 169 16 L (zl 0 :: S) q Q := ge_x (len := 1) (x := (0, 0, [])) p_169 rfl rfl
theorem g169_16 : z_go zP 169 16 L (zl b :: zi a :: .ref u :: S) q Q ↔ ∃ q1, z_st 101 q u (Int32.ofInt a) (zl b) = some q1 ∧ z_go zP 169 17 L S q1 Q := ge_last (len := 1) (x := (0, 0, [])) p_169 rfl
theorem g169_17 : z_go zP 169 17 L S q Q ↔ z_go zP 169 24 L S q Q := ge_to (len := 3) (x := (0, 0, [])) p_169 rfl rfl rfl
theorem g169_22 : z_go zP 169 22 L S q Q ↔ z_go zP 169 23 L (zi 1 :: S) q Q := ge_x (len := 1) (x := (0, 0, [])) p_169 rfl rfl
theorem g169_23 : z_go zP 169 23 L [zi a] q Q ↔ Q (.inl (some (zi a))) q := ge_rti (len := 1) (x := (0, 0, [])) p_169 rfl rfl
theorem g169_24 : z_go zP 169 24 L S q Q ↔ z_go zP 169 25 L (zi 0 :: S) q Q := ge_x (len := 1) (x := (0, 0, [])) p_169 rfl rfl
theorem g169_25 : z_go zP 169 25 L [zi a] q Q ↔ Q (.inl (some (zi a))) q := ge_rti (len := 1) (x := (0, 0, [])) p_169 rfl rfl
theorem g170_0 : z_go zP 170 0 [l0, l1, l2, l3, some (.ref u), l5] S q Q ↔ z_go zP 170 2 [l0, l1, l2, l3, some (.ref u), l5] (.ref u :: S) q Q := ge_x (len := 2) (x := (0, 0, [])) p_170 rfl rfl
theorem g170_2 : z_go zP 170 2 L S q Q ↔ z_go zP 170 3 L (zi 0 :: S) q Q := ge_x (len := 1) (x := (0, 0, [])) p_170 rfl rfl
theorem g170_3 : z_go zP 170 3 [some (.ref u), l1, l2, l3, l4, l5] S q Q ↔ z_go zP 170 4 [some (.ref u), l1, l2, l3, l4, l5] (.ref u :: S) q Q := ge_x (len := 1) (x := (0, 0, [])) p_170 rfl rfl
theorem g170_4 : z_go zP 170 4 [l0, some (zi a), l2, l3, l4, l5] S q Q ↔ z_go zP 170 5 [l0, some (zi a), l2, l3, l4, l5] (zi a :: S) q Q := ge_x (len := 1) (x := (0, 0, [])) p_170 rfl rfl
theorem g170_5 : z_go zP 170 5 [l0, l1, some (zi a), l3, l4, l5] S q Q ↔ z_go zP 170 6 [l0, l1, some (zi a), l3, l4, l5] (zi a :: S) q Q := ge_x (len := 1) (x := (0, 0, [])) p_170 rfl rfl
theorem g170_6 : z_go zP 170 6 [l0, l1, l2, some (zi a), l4, l5] S q Q ↔ z_go zP 170 7 [l0, l1, l2, some (zi a), l4, l5] (zi a :: S) q Q := ge_x (len := 1) (x := (0, 0, [])) p_170 rfl rfl
theorem hrow_170 (j : Nat) : (match z_row (zm_h zm_L_pair) (zm_e zm_L_pair) 7 j with
    | none => none
    | some h => match z_ftc (zm_c zm_L_pair) h with
      | none => none
      | some q' => z_put1 q' h [l0, l1, l2, l3, l4, l5]) = (([(0, 17, [l0, l1, l2, l3, (zkl l4), none]), (1, 21, [l0, l1, l2, l3, (zkl l4), none])] : List (Nat × Nat × zL)).find? (fun w => decide (w.1 = j))).map (fun w => w.2) := by
  cases l4 with
  | none => match j with
    | 0 => rfl
    | 1 => rfl
    | n + 2 => rfl
  | some v => cases v <;> (match j with
    | 0 => rfl
    | 1 => rfl
    | n + 2 => rfl)
theorem g170_7 : z_go zP 170 7 [l0, l1, l2, l3, l4, l5] [zi x2, zi x1, zi x0, .ref u, r0, r1] q Q ↔ z_tg q.1 u = some 8 ∧ z_go zP 69 0 [some (.ref u), some (zi x0), some (zi x1), some (zi x2), none, none] [] q (zh 170 10 [l0, l1, l2, l3, l4, l5] [r0, r1] [(0, 17, [l0, l1, l2, l3, (zkl l4), none]), (1, 21, [l0, l1, l2, l3, (zkl l4), none])] Q) := ge_vh (len := 3) (pc := 7) (S := [zi x2, zi x1, zi x0, .ref u, r0, r1]) (u := u) (k1 := 69) (A := [.ref u, zi x0, zi x1, zi x2]) (r := [r0, r1]) (tag := 8) (n0 := 3) (zwb_le (by show 2 ≤ 4; omega)) p_170 rfl rfl rfl p_69 (by show 4 ≤ 6; omega) (by decide) hrow_170
theorem g170_10 (a1 : -2147483648 ≤ a) (a2 : a < 2147483648) : z_go zP 170 10 L (zi a :: S) q Q ↔ z_go zP 170 11 L (zl a :: S) q Q := ge_i2l (len := 1) (x := (0, 0, [])) a1 a2 p_170 rfl
theorem g170_11 : z_go zP 170 11 L (zl b :: zi a :: .ref u :: S) q Q ↔ ∃ q1, z_st 101 q u (Int32.ofInt a) (zl b) = some q1 ∧ z_go zP 170 12 L S q1 Q := ge_last (len := 1) (x := (0, 0, [])) p_170 rfl
theorem g170_12 : z_go zP 170 12 L S q Q ↔ z_go zP 170 23 L S q Q := ge_to (len := 3) (x := (0, 0, [])) p_170 rfl rfl rfl
theorem g170_17 : z_go zP 170 17 L S q Q ↔ z_go zP 170 18 L (zi 1 :: S) q Q := ge_x (len := 1) (x := (0, 0, [])) p_170 rfl rfl
theorem g170_18 : z_go zP 170 18 L [zi a] q Q ↔ Q (.inl (some (zi a))) q := ge_rti (len := 1) (x := (0, 0, [])) p_170 rfl rfl
theorem g170_21 : z_go zP 170 21 L S q Q ↔ z_go zP 170 22 L (zi 2 :: S) q Q := ge_x (len := 1) (x := (0, 0, [])) p_170 rfl rfl
theorem g170_22 : z_go zP 170 22 L [zi a] q Q ↔ Q (.inl (some (zi a))) q := ge_rti (len := 1) (x := (0, 0, [])) p_170 rfl rfl
theorem g170_23 : z_go zP 170 23 L S q Q ↔ z_go zP 170 24 L (zi 0 :: S) q Q := ge_x (len := 1) (x := (0, 0, [])) p_170 rfl rfl
theorem g170_24 : z_go zP 170 24 L [zi a] q Q ↔ Q (.inl (some (zi a))) q := ge_rti (len := 1) (x := (0, 0, [])) p_170 rfl rfl
theorem g171_0 : z_go zP 171 0 [l0, l1, l2, some (.ref u), l4] S q Q ↔ z_go zP 171 1 [l0, l1, l2, some (.ref u), l4] (.ref u :: S) q Q := ge_x (len := 1) (x := (0, 0, [])) p_171 rfl rfl
theorem g171_1 : z_go zP 171 1 L S q Q ↔ z_go zP 171 2 L (zi 0 :: S) q Q := ge_x (len := 1) (x := (0, 0, [])) p_171 rfl rfl
theorem g171_2 : z_go zP 171 2 [some (.ref u), l1, l2, l3, l4] S q Q ↔ z_go zP 171 3 [some (.ref u), l1, l2, l3, l4] (.ref u :: S) q Q := ge_x (len := 1) (x := (0, 0, [])) p_171 rfl rfl
theorem g171_3 : z_go zP 171 3 [l0, some (zi a), l2, l3, l4] S q Q ↔ z_go zP 171 4 [l0, some (zi a), l2, l3, l4] (zi a :: S) q Q := ge_x (len := 1) (x := (0, 0, [])) p_171 rfl rfl
theorem g171_4 : z_go zP 171 4 [l0, l1, some (zi a), l3, l4] S q Q ↔ z_go zP 171 5 [l0, l1, some (zi a), l3, l4] (zi a :: S) q Q := ge_x (len := 1) (x := (0, 0, [])) p_171 rfl rfl
theorem hrow_171 (j : Nat) : (match z_row (zm_h zm_L_explore) (zm_e zm_L_explore) 5 j with
    | none => none
    | some h => match z_ftc (zm_c zm_L_explore) h with
      | none => none
      | some q' => z_put1 q' h [l0, l1, l2, l3, l4]) = (([(0, 15, [l0, l1, l2, (zkl l3), none]), (1, 19, [l0, l1, l2, (zkl l3), none])] : List (Nat × Nat × zL)).find? (fun w => decide (w.1 = j))).map (fun w => w.2) := by
  cases l3 with
  | none => match j with
    | 0 => rfl
    | 1 => rfl
    | n + 2 => rfl
  | some v => cases v <;> (match j with
    | 0 => rfl
    | 1 => rfl
    | n + 2 => rfl)
theorem g171_5 : z_go zP 171 5 [l0, l1, l2, l3, l4] [zi x1, zi x0, .ref u, r0, r1] q Q ↔ z_tg q.1 u = some 8 ∧ z_go zP 70 0 [some (.ref u), some (zi x0), some (zi x1), none] [] q (zh 171 8 [l0, l1, l2, l3, l4] [r0, r1] [(0, 15, [l0, l1, l2, (zkl l3), none]), (1, 19, [l0, l1, l2, (zkl l3), none])] Q) := ge_vh (len := 3) (pc := 5) (S := [zi x1, zi x0, .ref u, r0, r1]) (u := u) (k1 := 70) (A := [.ref u, zi x0, zi x1]) (r := [r0, r1]) (tag := 8) (n0 := 2) (zwb_le (by show 2 ≤ 4; omega)) p_171 rfl rfl rfl p_70 (by show 3 ≤ 4; omega) (by decide) hrow_171
theorem g171_8 (a1 : -2147483648 ≤ a) (a2 : a < 2147483648) : z_go zP 171 8 L (zi a :: S) q Q ↔ z_go zP 171 9 L (zl a :: S) q Q := ge_i2l (len := 1) (x := (0, 0, [])) a1 a2 p_171 rfl
theorem g171_9 : z_go zP 171 9 L (zl b :: zi a :: .ref u :: S) q Q ↔ ∃ q1, z_st 101 q u (Int32.ofInt a) (zl b) = some q1 ∧ z_go zP 171 10 L S q1 Q := ge_last (len := 1) (x := (0, 0, [])) p_171 rfl
theorem g171_10 : z_go zP 171 10 L S q Q ↔ z_go zP 171 21 L S q Q := ge_to (len := 3) (x := (0, 0, [])) p_171 rfl rfl rfl
theorem g171_15 : z_go zP 171 15 L S q Q ↔ z_go zP 171 16 L (zi 1 :: S) q Q := ge_x (len := 1) (x := (0, 0, [])) p_171 rfl rfl
theorem g171_16 : z_go zP 171 16 L [zi a] q Q ↔ Q (.inl (some (zi a))) q := ge_rti (len := 1) (x := (0, 0, [])) p_171 rfl rfl
theorem g171_19 : z_go zP 171 19 L S q Q ↔ z_go zP 171 20 L (zi 2 :: S) q Q := ge_x (len := 1) (x := (0, 0, [])) p_171 rfl rfl
theorem g171_20 : z_go zP 171 20 L [zi a] q Q ↔ Q (.inl (some (zi a))) q := ge_rti (len := 1) (x := (0, 0, [])) p_171 rfl rfl
theorem g171_21 : z_go zP 171 21 L S q Q ↔ z_go zP 171 22 L (zi 0 :: S) q Q := ge_x (len := 1) (x := (0, 0, [])) p_171 rfl rfl
theorem g171_22 : z_go zP 171 22 L [zi a] q Q ↔ Q (.inl (some (zi a))) q := ge_rti (len := 1) (x := (0, 0, [])) p_171 rfl rfl
theorem g172_0 : z_go zP 172 0 [l0, l1, l2, l3, some (.ref u), l5] S q Q ↔ z_go zP 172 2 [l0, l1, l2, l3, some (.ref u), l5] (.ref u :: S) q Q := ge_x (len := 2) (x := (0, 0, [])) p_172 rfl rfl
theorem g172_2 : z_go zP 172 2 L S q Q ↔ z_go zP 172 3 L (zi 0 :: S) q Q := ge_x (len := 1) (x := (0, 0, [])) p_172 rfl rfl
theorem g172_3 : z_go zP 172 3 [some (.ref u), l1, l2, l3, l4, l5] S q Q ↔ z_go zP 172 4 [some (.ref u), l1, l2, l3, l4, l5] (.ref u :: S) q Q := ge_x (len := 1) (x := (0, 0, [])) p_172 rfl rfl
theorem g172_4 : z_go zP 172 4 [l0, some (zi a), l2, l3, l4, l5] S q Q ↔ z_go zP 172 5 [l0, some (zi a), l2, l3, l4, l5] (zi a :: S) q Q := ge_x (len := 1) (x := (0, 0, [])) p_172 rfl rfl
theorem g172_5 : z_go zP 172 5 [l0, l1, some (zi a), l3, l4, l5] S q Q ↔ z_go zP 172 6 [l0, l1, some (zi a), l3, l4, l5] (zi a :: S) q Q := ge_x (len := 1) (x := (0, 0, [])) p_172 rfl rfl
theorem g172_6 : z_go zP 172 6 [l0, l1, l2, some (zi a), l4, l5] S q Q ↔ z_go zP 172 7 [l0, l1, l2, some (zi a), l4, l5] (zi a :: S) q Q := ge_x (len := 1) (x := (0, 0, [])) p_172 rfl rfl
theorem hrow_172 (j : Nat) : (match z_row (zm_h zm_L_end) (zm_e zm_L_end) 7 j with
    | none => none
    | some h => match z_ftc (zm_c zm_L_end) h with
      | none => none
      | some q' => z_put1 q' h [l0, l1, l2, l3, l4, l5]) = (([(0, 16, [l0, l1, l2, l3, (zkl l4), none]), (1, 20, [l0, l1, l2, l3, (zkl l4), none]), (3, 24, [l0, l1, l2, l3, (zkl l4), none])] : List (Nat × Nat × zL)).find? (fun w => decide (w.1 = j))).map (fun w => w.2) := by
  cases l4 with
  | none => match j with
    | 0 => rfl
    | 1 => rfl
    | 2 => rfl
    | 3 => rfl
    | n + 4 => rfl
  | some v => cases v <;> (match j with
    | 0 => rfl
    | 1 => rfl
    | 2 => rfl
    | 3 => rfl
    | n + 4 => rfl)
theorem g172_7 : z_go zP 172 7 [l0, l1, l2, l3, l4, l5] [zi x2, zi x1, zi x0, .ref u, r0, r1] q Q ↔ z_tg q.1 u = some 8 ∧ z_go zP 71 0 [some (.ref u), some (zi x0), some (zi x1), some (zi x2), none] [] q (zh 172 10 [l0, l1, l2, l3, l4, l5] [r0, r1] [(0, 16, [l0, l1, l2, l3, (zkl l4), none]), (1, 20, [l0, l1, l2, l3, (zkl l4), none]), (3, 24, [l0, l1, l2, l3, (zkl l4), none])] Q) := ge_vh (len := 3) (pc := 7) (S := [zi x2, zi x1, zi x0, .ref u, r0, r1]) (u := u) (k1 := 71) (A := [.ref u, zi x0, zi x1, zi x2]) (r := [r0, r1]) (tag := 8) (n0 := 3) (zwb_le (by show 2 ≤ 4; omega)) p_172 rfl rfl rfl p_71 (by show 4 ≤ 5; omega) (by decide) hrow_172
theorem g172_10 : z_go zP 172 10 L (zl b :: zi a :: .ref u :: S) q Q ↔ ∃ q1, z_st 101 q u (Int32.ofInt a) (zl b) = some q1 ∧ z_go zP 172 11 L S q1 Q := ge_last (len := 1) (x := (0, 0, [])) p_172 rfl
theorem g172_11 : z_go zP 172 11 L S q Q ↔ z_go zP 172 26 L S q Q := ge_to (len := 3) (x := (0, 0, [])) p_172 rfl rfl rfl
theorem g172_16 : z_go zP 172 16 L S q Q ↔ z_go zP 172 17 L (zi 1 :: S) q Q := ge_x (len := 1) (x := (0, 0, [])) p_172 rfl rfl
theorem g172_17 : z_go zP 172 17 L [zi a] q Q ↔ Q (.inl (some (zi a))) q := ge_rti (len := 1) (x := (0, 0, [])) p_172 rfl rfl
theorem g172_20 : z_go zP 172 20 L S q Q ↔ z_go zP 172 21 L (zi 2 :: S) q Q := ge_x (len := 1) (x := (0, 0, [])) p_172 rfl rfl
theorem g172_21 : z_go zP 172 21 L [zi a] q Q ↔ Q (.inl (some (zi a))) q := ge_rti (len := 1) (x := (0, 0, [])) p_172 rfl rfl
theorem g172_24 : z_go zP 172 24 L S q Q ↔ z_go zP 172 25 L (zi 3 :: S) q Q := ge_x (len := 1) (x := (0, 0, [])) p_172 rfl rfl
theorem g172_25 : z_go zP 172 25 L [zi a] q Q ↔ Q (.inl (some (zi a))) q := ge_rti (len := 1) (x := (0, 0, [])) p_172 rfl rfl
theorem g172_26 : z_go zP 172 26 L S q Q ↔ z_go zP 172 27 L (zi 0 :: S) q Q := ge_x (len := 1) (x := (0, 0, [])) p_172 rfl rfl
theorem g172_27 : z_go zP 172 27 L [zi a] q Q ↔ Q (.inl (some (zi a))) q := ge_rti (len := 1) (x := (0, 0, [])) p_172 rfl rfl
theorem g173_0 : z_go zP 173 0 [l0, l1, some (.ref u), l3] S q Q ↔ z_go zP 173 1 [l0, l1, some (.ref u), l3] (.ref u :: S) q Q := ge_x (len := 1) (x := (0, 0, [])) p_173 rfl rfl
theorem g173_1 : z_go zP 173 1 L S q Q ↔ z_go zP 173 2 L (zi 0 :: S) q Q := ge_x (len := 1) (x := (0, 0, [])) p_173 rfl rfl
theorem g173_2 : z_go zP 173 2 [some (.ref u), l1, l2, l3] S q Q ↔ z_go zP 173 3 [some (.ref u), l1, l2, l3] (.ref u :: S) q Q := ge_x (len := 1) (x := (0, 0, [])) p_173 rfl rfl
theorem g173_3 : z_go zP 173 3 [l0, some (zi a), l2, l3] S q Q ↔ z_go zP 173 4 [l0, some (zi a), l2, l3] (zi a :: S) q Q := ge_x (len := 1) (x := (0, 0, [])) p_173 rfl rfl
theorem hrow_173 (j : Nat) : (match z_row (zm_h zm_L_drop) (zm_e zm_L_drop) 4 j with
    | none => none
    | some h => match z_ftc (zm_c zm_L_drop) h with
      | none => none
      | some q' => z_put1 q' h [l0, l1, l2, l3]) = (([(0, 13, [l0, l1, (zkl l2), none])] : List (Nat × Nat × zL)).find? (fun w => decide (w.1 = j))).map (fun w => w.2) := by
  cases l2 with
  | none => match j with
    | 0 => rfl
    | n + 1 => rfl
  | some v => cases v <;> (match j with
    | 0 => rfl
    | n + 1 => rfl)
theorem g173_4 : z_go zP 173 4 [l0, l1, l2, l3] [zi x0, .ref u, r0, r1] q Q ↔ z_tg q.1 u = some 8 ∧ z_go zP 72 0 [some (.ref u), some (zi x0), none] [] q (zh 173 7 [l0, l1, l2, l3] [r0, r1] [(0, 13, [l0, l1, (zkl l2), none])] Q) := ge_vh (len := 3) (pc := 4) (S := [zi x0, .ref u, r0, r1]) (u := u) (k1 := 72) (A := [.ref u, zi x0]) (r := [r0, r1]) (tag := 8) (n0 := 1) (zwb_le (by show 2 ≤ 4; omega)) p_173 rfl rfl rfl p_72 (by show 2 ≤ 3; omega) (by decide) hrow_173
theorem g173_7 (a1 : -2147483648 ≤ a) (a2 : a < 2147483648) : z_go zP 173 7 L (zi a :: S) q Q ↔ z_go zP 173 8 L (zl a :: S) q Q := ge_i2l (len := 1) (x := (0, 0, [])) a1 a2 p_173 rfl
theorem g173_8 : z_go zP 173 8 L (zl b :: zi a :: .ref u :: S) q Q ↔ ∃ q1, z_st 101 q u (Int32.ofInt a) (zl b) = some q1 ∧ z_go zP 173 9 L S q1 Q := ge_last (len := 1) (x := (0, 0, [])) p_173 rfl
theorem g173_9 : z_go zP 173 9 L S q Q ↔ z_go zP 173 15 L S q Q := ge_to (len := 3) (x := (0, 0, [])) p_173 rfl rfl rfl
theorem g173_13 : z_go zP 173 13 L S q Q ↔ z_go zP 173 14 L (zi 1 :: S) q Q := ge_x (len := 1) (x := (0, 0, [])) p_173 rfl rfl
theorem g173_14 : z_go zP 173 14 L [zi a] q Q ↔ Q (.inl (some (zi a))) q := ge_rti (len := 1) (x := (0, 0, [])) p_173 rfl rfl
theorem g173_15 : z_go zP 173 15 L S q Q ↔ z_go zP 173 16 L (zi 0 :: S) q Q := ge_x (len := 1) (x := (0, 0, [])) p_173 rfl rfl
theorem g173_16 : z_go zP 173 16 L [zi a] q Q ↔ Q (.inl (some (zi a))) q := ge_rti (len := 1) (x := (0, 0, [])) p_173 rfl rfl
end
