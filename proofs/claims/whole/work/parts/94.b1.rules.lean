/-! rules for each instruction, printed by program: methods 0 to 55 -/
section
variable {L : zL} {S : List Value} {q : zS} {Q : zU → zS → Prop} {a b c d e x0 x1 x2 x3 x4 x5 y0 y1 y2 y3 y4 y5 y6 y7 : Int} {u u2 v0 v1 v2 v3 v4 v5 v6 v7 w0 w1 w2 w3 w4 w5 w6 : Nat} {v r0 r1 r2 r3 : Value} {l0 l1 l2 l3 l4 l5 l6 l7 l8 l9 l10 l11 l12 l13 : Option Value}
theorem g0_0 : z_go zP 0 0 [some (.ref u), l1] S q Q ↔ z_go zP 0 1 [some (.ref u), l1] (.ref u :: S) q Q := ge_x (len := 1) (x := (0, 0, [])) p_0 rfl rfl
theorem g0_1 : z_go zP 0 1 L S q Q ↔ z_go zP 0 2 L (zi 4 :: S) q Q := ge_x (len := 1) (x := (0, 0, [])) p_0 rfl rfl
theorem g0_2 : z_go zP 0 2 L [zi x0, .ref u] q Q ↔ z_go zP 48 0 [some (.ref u), some (zi x0)] [] q (zd 0 5 L [] Q) := (z_go_cl (len := 3) (x := (48, 3, [1])) (k1 := 48) (A := [.ref u, zi x0]) (r := []) p_0 rfl rfl rfl rfl (by simp only [z_cl, List.drop]; rw [if_pos]; rfl; exact by first | exact ⟨by decide, (zwb_le (by show 0 ≤ 4; omega))⟩ | exact ⟨by decide, by show 2 ≤ 2; omega, (zwb_le (by show 0 ≤ 4; omega))⟩) p_48 (by show 2 ≤ 2; omega)).trans (ge_bk_d rfl)
theorem g0_5 : z_go zP 0 5 [some (.ref u), l1] S q Q ↔ z_go zP 0 6 [some (.ref u), l1] (.ref u :: S) q Q := ge_x (len := 1) (x := (0, 0, [])) p_0 rfl rfl
theorem g0_6 : z_go zP 0 6 [l0, some (.ref u)] S q Q ↔ z_go zP 0 7 [l0, some (.ref u)] (.ref u :: S) q Q := ge_x (len := 1) (x := (0, 0, [])) p_0 rfl rfl
theorem g0_6n : z_go zP 0 6 [l0, some .null] S q Q ↔ z_go zP 0 7 [l0, some .null] (.null :: S) q Q := ge_x (len := 1) (x := (0, 0, [])) p_0 rfl rfl
theorem g0_7 : z_go zP 0 7 L (v :: .ref u :: S) q Q ↔ ∃ q1, z_put [0] 1 q u v = some q1 ∧ z_go zP 0 10 L S q1 Q := ge_putf (len := 3) (x := (1, 0, [0])) p_0 rfl
theorem g0_10 : z_go zP 0 10 L [] q Q ↔ Q (.inl none) q := z_go_rt (len := 1) (x := (0, 0, [])) p_0 rfl rfl rfl
theorem g1_0 : z_go zP 1 0 [l0, some (.ref u)] S q Q ↔ z_go zP 1 1 [l0, some (.ref u)] (.ref u :: S) q Q := ge_x (len := 1) (x := (0, 0, [])) p_1 rfl rfl
theorem g1_0n : z_go zP 1 0 [l0, some .null] S q Q ↔ z_go zP 1 1 [l0, some .null] (.null :: S) q Q := ge_x (len := 1) (x := (0, 0, [])) p_1 rfl rfl
theorem g1_1 : z_go zP 1 1 [some (.ref u), l1] S q Q ↔ z_go zP 1 2 [some (.ref u), l1] (.ref u :: S) q Q := ge_x (len := 1) (x := (0, 0, [])) p_1 rfl rfl
theorem g1_2 : z_go zP 1 2 L (.ref u :: S) q Q ↔ ∃ v, z_get [0] 1 q.1 u = some v ∧ z_go zP 1 5 L (v :: S) q Q := ge_getf (len := 3) (x := (1, 0, [0])) p_1 rfl
theorem g1_5 : z_go zP 1 5 L (.ref u2 :: .ref u :: S) q Q ↔ if u = u2 then z_go zP 1 8 L S q Q else z_go zP 1 12 L S q Q := ge_acmp_ne (len := 3) (x := (0, 0, [])) p_1 rfl rfl
theorem g1_8 : z_go zP 1 8 L S q Q ↔ z_go zP 1 9 L (zi 1 :: S) q Q := ge_x (len := 1) (x := (0, 0, [])) p_1 rfl rfl
theorem g1_9 : z_go zP 1 9 L S q Q ↔ z_go zP 1 13 L S q Q := ge_to (len := 3) (x := (0, 0, [])) p_1 rfl rfl rfl
theorem g1_12 : z_go zP 1 12 L S q Q ↔ z_go zP 1 13 L (zi 0 :: S) q Q := ge_x (len := 1) (x := (0, 0, [])) p_1 rfl rfl
theorem g1_13_0 : z_go zP 1 13 L [zi 0] q Q ↔ Q (.inl (some (zi 0))) q := z_go_rt (len := 1) (x := (0, 0, [])) p_1 rfl rfl rfl
theorem g1_13_1 : z_go zP 1 13 L [zi 1] q Q ↔ Q (.inl (some (zi 1))) q := z_go_rt (len := 1) (x := (0, 0, [])) p_1 rfl rfl rfl
theorem g1_13b {c : Prop} [Decidable c] : z_go zP 1 13 L [zi (bI c)] q Q ↔ Q (.inl (some (zi (bI c)))) q := (by rcases bI_01 (c := c) with h | h <;> rw [h] <;> exact z_go_rt (len := 1) (x := (0, 0, [])) p_1 rfl rfl rfl)
theorem g2_0 : z_go zP 2 0 [some (.ref u), l1, l2, l3, l4] S q Q ↔ z_go zP 2 1 [some (.ref u), l1, l2, l3, l4] (.ref u :: S) q Q := ge_x (len := 1) (x := (0, 0, [])) p_2 rfl rfl
theorem g2_1 : z_go zP 2 1 [l0, some (zi a), l2, l3, l4] S q Q ↔ z_go zP 2 2 [l0, some (zi a), l2, l3, l4] (zi a :: S) q Q := ge_x (len := 1) (x := (0, 0, [])) p_2 rfl rfl
theorem g2_2 : z_go zP 2 2 L (v :: .ref u :: S) q Q ↔ ∃ q1, z_put [0] 2 q u v = some q1 ∧ z_go zP 2 5 L S q1 Q := ge_putf (len := 3) (x := (2, 0, [0])) p_2 rfl
theorem g2_5 : z_go zP 2 5 [some (.ref u), l1, l2, l3, l4] S q Q ↔ z_go zP 2 6 [some (.ref u), l1, l2, l3, l4] (.ref u :: S) q Q := ge_x (len := 1) (x := (0, 0, [])) p_2 rfl rfl
theorem g2_6 : z_go zP 2 6 [l0, l1, some (zi a), l3, l4] S q Q ↔ z_go zP 2 7 [l0, l1, some (zi a), l3, l4] (zi a :: S) q Q := ge_x (len := 1) (x := (0, 0, [])) p_2 rfl rfl
theorem g2_7 : z_go zP 2 7 L (v :: .ref u :: S) q Q ↔ ∃ q1, z_put [0] 3 q u v = some q1 ∧ z_go zP 2 10 L S q1 Q := ge_putf (len := 3) (x := (3, 0, [0])) p_2 rfl
theorem g2_10 : z_go zP 2 10 [some (.ref u), l1, l2, l3, l4] S q Q ↔ z_go zP 2 11 [some (.ref u), l1, l2, l3, l4] (.ref u :: S) q Q := ge_x (len := 1) (x := (0, 0, [])) p_2 rfl rfl
theorem g2_11 : z_go zP 2 11 [l0, l1, l2, some (zi a), l4] S q Q ↔ z_go zP 2 12 [l0, l1, l2, some (zi a), l4] (zi a :: S) q Q := ge_x (len := 1) (x := (0, 0, [])) p_2 rfl rfl
theorem g2_12 : z_go zP 2 12 L (v :: .ref u :: S) q Q ↔ ∃ q1, z_put [0] 4 q u v = some q1 ∧ z_go zP 2 15 L S q1 Q := ge_putf (len := 3) (x := (4, 0, [0])) p_2 rfl
theorem g2_15 : z_go zP 2 15 [some (.ref u), l1, l2, l3, l4] S q Q ↔ z_go zP 2 16 [some (.ref u), l1, l2, l3, l4] (.ref u :: S) q Q := ge_x (len := 1) (x := (0, 0, [])) p_2 rfl rfl
theorem g2_16 : z_go zP 2 16 [l0, l1, l2, l3, some (zi a)] S q Q ↔ z_go zP 2 18 [l0, l1, l2, l3, some (zi a)] (zi a :: S) q Q := ge_x (len := 2) (x := (0, 0, [])) p_2 rfl rfl
theorem g2_18 : z_go zP 2 18 L (v :: .ref u :: S) q Q ↔ ∃ q1, z_put [0] 5 q u v = some q1 ∧ z_go zP 2 21 L S q1 Q := ge_putf (len := 3) (x := (5, 0, [0])) p_2 rfl
theorem g2_21 : z_go zP 2 21 L [] q Q ↔ Q (.inl none) q := z_go_rt (len := 1) (x := (0, 0, [])) p_2 rfl rfl rfl
theorem g3_0 : z_go zP 3 0 [some (.ref u)] S q Q ↔ z_go zP 3 1 [some (.ref u)] (.ref u :: S) q Q := ge_x (len := 1) (x := (0, 0, [])) p_3 rfl rfl
theorem g3_1 : z_go zP 3 1 L [.ref u] q Q ↔ z_go zP 3 4 L [] q Q := ge_oin (len := 3) (x := (0, 7, [])) (by show 0 ≤ 4; omega) rfl p_3 rfl
theorem g3_4 : z_go zP 3 4 [some (.ref u)] S q Q ↔ z_go zP 3 5 [some (.ref u)] (.ref u :: S) q Q := ge_x (len := 1) (x := (0, 0, [])) p_3 rfl rfl
theorem g3_5 : z_go zP 3 5 L S q Q ↔ z_go zP 3 7 L (zi 56000 :: S) q Q := ge_x (len := 2) (x := (56000, 0, [])) p_3 rfl rfl
theorem g3_7 (a1 : 0 ≤ a) (a2 : a ≤ 60000) : z_go zP 3 7 L (zi a :: S) q Q ↔ z_go zP 3 9 L (.ref q.2.1 :: S) (z_new 101 a.toNat (fun _ => zl 0) q) Q := ge_nwa (len := 2) (x := (0, 0, [])) (n8 := componentBytes .long) a1 a2 (by decide) p_3 rfl rfl
theorem g3_9 : z_go zP 3 9 L (v :: .ref u :: S) q Q ↔ ∃ q1, z_put [1] 0 q u v = some q1 ∧ z_go zP 3 12 L S q1 Q := ge_putf (len := 3) (x := (0, 0, [1])) p_3 rfl
theorem g3_12 : z_go zP 3 12 [some (.ref u)] S q Q ↔ z_go zP 3 13 [some (.ref u)] (.ref u :: S) q Q := ge_x (len := 1) (x := (0, 0, [])) p_3 rfl rfl
theorem g3_13 : z_go zP 3 13 L S q Q ↔ z_go zP 3 16 L (zi 4096 :: S) q Q := ge_x (len := 3) (x := (0, 0, [])) p_3 rfl rfl
theorem g3_16 (a1 : 0 ≤ a) (a2 : a ≤ 60000) : z_go zP 3 16 L (zi a :: S) q Q ↔ z_go zP 3 18 L (.ref q.2.1 :: S) (z_new 100 a.toNat (fun _ => zi 0) q) Q := ge_nwa (len := 2) (x := (0, 0, [])) (n8 := componentBytes .int) a1 a2 (by decide) p_3 rfl rfl
theorem g3_18 : z_go zP 3 18 L (v :: .ref u :: S) q Q ↔ ∃ q1, z_put [1] 1 q u v = some q1 ∧ z_go zP 3 21 L S q1 Q := ge_putf (len := 3) (x := (1, 0, [1])) p_3 rfl
theorem g3_21 : z_go zP 3 21 [some (.ref u)] S q Q ↔ z_go zP 3 22 [some (.ref u)] (.ref u :: S) q Q := ge_x (len := 1) (x := (0, 0, [])) p_3 rfl rfl
theorem g3_22 : z_go zP 3 22 L S q Q ↔ z_go zP 3 25 L (zi 2000 :: S) q Q := ge_x (len := 3) (x := (0, 0, [])) p_3 rfl rfl
theorem g3_25 (a1 : 0 ≤ a) (a2 : a ≤ 60000) : z_go zP 3 25 L (zi a :: S) q Q ↔ z_go zP 3 27 L (.ref q.2.1 :: S) (z_new 100 a.toNat (fun _ => zi 0) q) Q := ge_nwa (len := 2) (x := (0, 0, [])) (n8 := componentBytes .int) a1 a2 (by decide) p_3 rfl rfl
theorem g3_27 : z_go zP 3 27 L (v :: .ref u :: S) q Q ↔ ∃ q1, z_put [1] 2 q u v = some q1 ∧ z_go zP 3 30 L S q1 Q := ge_putf (len := 3) (x := (2, 0, [1])) p_3 rfl
theorem g3_30 : z_go zP 3 30 [some (.ref u)] S q Q ↔ z_go zP 3 31 [some (.ref u)] (.ref u :: S) q Q := ge_x (len := 1) (x := (0, 0, [])) p_3 rfl rfl
theorem g3_31 : z_go zP 3 31 L S q Q ↔ z_go zP 3 33 L (zi 28 :: S) q Q := ge_x (len := 2) (x := (0, 0, [])) p_3 rfl rfl
theorem g3_33 (a1 : 0 ≤ a) (a2 : a ≤ 60000) : z_go zP 3 33 L (zi a :: S) q Q ↔ z_go zP 3 35 L (.ref q.2.1 :: S) (z_new 101 a.toNat (fun _ => zl 0) q) Q := ge_nwa (len := 2) (x := (0, 0, [])) (n8 := componentBytes .long) a1 a2 (by decide) p_3 rfl rfl
theorem g3_35 : z_go zP 3 35 L (v :: .ref u :: S) q Q ↔ ∃ q1, z_put [1] 3 q u v = some q1 ∧ z_go zP 3 38 L S q1 Q := ge_putf (len := 3) (x := (3, 0, [1])) p_3 rfl
theorem g3_38 : z_go zP 3 38 L [] q Q ↔ Q (.inl none) q := z_go_rt (len := 1) (x := (0, 0, [])) p_3 rfl rfl rfl
theorem g4_0 : z_go zP 4 0 [some (.ref u), l1, l2] S q Q ↔ z_go zP 4 1 [some (.ref u), l1, l2] (.ref u :: S) q Q := ge_x (len := 1) (x := (0, 0, [])) p_4 rfl rfl
theorem g4_1 : z_go zP 4 1 [l0, some (.ref u), l2] S q Q ↔ z_go zP 4 2 [l0, some (.ref u), l2] (.ref u :: S) q Q := ge_x (len := 1) (x := (0, 0, [])) p_4 rfl rfl
theorem g4_1n : z_go zP 4 1 [l0, some .null, l2] S q Q ↔ z_go zP 4 2 [l0, some .null, l2] (.null :: S) q Q := ge_x (len := 1) (x := (0, 0, [])) p_4 rfl rfl
theorem g4_2 : z_go zP 4 2 L (v :: .ref u :: S) q Q ↔ ∃ q1, z_put [1] 4 q u v = some q1 ∧ z_go zP 4 5 L S q1 Q := ge_putf (len := 3) (x := (4, 0, [1])) p_4 rfl
theorem g4_5 : z_go zP 4 5 [some (.ref u), l1, l2] S q Q ↔ z_go zP 4 6 [some (.ref u), l1, l2] (.ref u :: S) q Q := ge_x (len := 1) (x := (0, 0, [])) p_4 rfl rfl
theorem g4_6 : z_go zP 4 6 [l0, some (.ref u), l2] S q Q ↔ z_go zP 4 7 [l0, some (.ref u), l2] (.ref u :: S) q Q := ge_x (len := 1) (x := (0, 0, [])) p_4 rfl rfl
theorem g4_6n : z_go zP 4 6 [l0, some .null, l2] S q Q ↔ z_go zP 4 7 [l0, some .null, l2] (.null :: S) q Q := ge_x (len := 1) (x := (0, 0, [])) p_4 rfl rfl
theorem g4_7 : z_go zP 4 7 L (.ref u :: S) q Q ↔ ∃ v, z_get [3] 1 q.1 u = some v ∧ z_go zP 4 10 L (v :: S) q Q := ge_getf (len := 3) (x := (1, 0, [3])) p_4 rfl
theorem g4_10 : z_go zP 4 10 L (.ref u :: S) q Q ↔ ∃ v, z_get [4] 1 q.1 u = some v ∧ z_go zP 4 13 L (v :: S) q Q := ge_getf (len := 3) (x := (1, 0, [4])) p_4 rfl
theorem g4_13 : z_go zP 4 13 L (v :: .ref u :: S) q Q ↔ ∃ q1, z_put [1] 5 q u v = some q1 ∧ z_go zP 4 16 L S q1 Q := ge_putf (len := 3) (x := (5, 0, [1])) p_4 rfl
theorem g4_16 : z_go zP 4 16 [some (.ref u), l1, l2] S q Q ↔ z_go zP 4 17 [some (.ref u), l1, l2] (.ref u :: S) q Q := ge_x (len := 1) (x := (0, 0, [])) p_4 rfl rfl
theorem g4_17 : z_go zP 4 17 L S q Q ↔ z_go zP 4 18 L (zi 0 :: S) q Q := ge_x (len := 1) (x := (0, 0, [])) p_4 rfl rfl
theorem g4_18 : z_go zP 4 18 L (v :: .ref u :: S) q Q ↔ ∃ q1, z_put [1] 6 q u v = some q1 ∧ z_go zP 4 21 L S q1 Q := ge_putf (len := 3) (x := (6, 0, [1])) p_4 rfl
theorem g4_21 : z_go zP 4 21 [some (.ref u), l1, l2] S q Q ↔ z_go zP 4 22 [some (.ref u), l1, l2] (.ref u :: S) q Q := ge_x (len := 1) (x := (0, 0, [])) p_4 rfl rfl
theorem g4_22 : z_go zP 4 22 L S q Q ↔ z_go zP 4 23 L (zi 0 :: S) q Q := ge_x (len := 1) (x := (0, 0, [])) p_4 rfl rfl
theorem g4_23 : z_go zP 4 23 L (v :: .ref u :: S) q Q ↔ ∃ q1, z_put [1] 7 q u v = some q1 ∧ z_go zP 4 26 L S q1 Q := ge_putf (len := 3) (x := (7, 0, [1])) p_4 rfl
theorem g4_26 : z_go zP 4 26 [some (.ref u), l1, l2] S q Q ↔ z_go zP 4 27 [some (.ref u), l1, l2] (.ref u :: S) q Q := ge_x (len := 1) (x := (0, 0, [])) p_4 rfl rfl
theorem g4_27 : z_go zP 4 27 L S q Q ↔ z_go zP 4 28 L (zi 0 :: S) q Q := ge_x (len := 1) (x := (0, 0, [])) p_4 rfl rfl
theorem g4_28 : z_go zP 4 28 L (v :: .ref u :: S) q Q ↔ ∃ q1, z_put [1] 8 q u v = some q1 ∧ z_go zP 4 31 L S q1 Q := ge_putf (len := 3) (x := (8, 0, [1])) p_4 rfl
theorem g4_31 : z_go zP 4 31 [some (.ref u), l1, l2] S q Q ↔ z_go zP 4 32 [some (.ref u), l1, l2] (.ref u :: S) q Q := ge_x (len := 1) (x := (0, 0, [])) p_4 rfl rfl
theorem g4_32 : z_go zP 4 32 L S q Q ↔ z_go zP 4 33 L (zi 0 :: S) q Q := ge_x (len := 1) (x := (0, 0, [])) p_4 rfl rfl
theorem g4_33 : z_go zP 4 33 L (v :: .ref u :: S) q Q ↔ ∃ q1, z_put [1] 9 q u v = some q1 ∧ z_go zP 4 36 L S q1 Q := ge_putf (len := 3) (x := (9, 0, [1])) p_4 rfl
theorem g4_36 : z_go zP 4 36 [some (.ref u), l1, l2] S q Q ↔ z_go zP 4 37 [some (.ref u), l1, l2] (.ref u :: S) q Q := ge_x (len := 1) (x := (0, 0, [])) p_4 rfl rfl
theorem g4_37 : z_go zP 4 37 L (.ref u :: S) q Q ↔ ∃ v, z_get [1] 1 q.1 u = some v ∧ z_go zP 4 40 L (v :: S) q Q := ge_getf (len := 3) (x := (1, 0, [1])) p_4 rfl
theorem g4_40 : z_go zP 4 40 L S q Q ↔ z_go zP 4 41 L (zi 0 :: S) q Q := ge_x (len := 1) (x := (0, 0, [])) p_4 rfl rfl
theorem g4_41 : z_go zP 4 41 L [zi x1, .ref w0] q Q ↔ z_go zP 157 0 [some (.ref w0), some (zi x1), none, none] [] q (zd 4 44 L [] Q) := (z_go_cl (len := 3) (x := (157, 2, [2])) (k1 := 157) (A := [.ref w0, zi x1]) (r := []) p_4 rfl rfl rfl rfl (by simp only [z_cl, List.drop]; rw [if_pos]; rfl; exact by first | exact ⟨by decide, (zwb_le (by show 0 ≤ 4; omega))⟩ | exact ⟨by decide, by show 2 ≤ 2; omega, (zwb_le (by show 0 ≤ 4; omega))⟩) p_157 (by show 2 ≤ 4; omega)).trans (ge_bk_d rfl)
theorem g4_44 : z_go zP 4 44 [some (.ref u), l1, l2] S q Q ↔ z_go zP 4 45 [some (.ref u), l1, l2] (.ref u :: S) q Q := ge_x (len := 1) (x := (0, 0, [])) p_4 rfl rfl
theorem g4_45 : z_go zP 4 45 L (.ref u :: S) q Q ↔ ∃ v, z_get [1] 3 q.1 u = some v ∧ z_go zP 4 48 L (v :: S) q Q := ge_getf (len := 3) (x := (3, 0, [1])) p_4 rfl
theorem g4_48 : z_go zP 4 48 L S q Q ↔ z_go zP 4 49 L (zl 0 :: S) q Q := ge_x (len := 1) (x := (0, 0, [])) p_4 rfl rfl
theorem g4_49 : z_go zP 4 49 L [zl x1, .ref w0] q Q ↔ z_go zP 156 0 [some (.ref w0), some (zl x1), none, none, none] [] q (zd 4 52 L [] Q) := (z_go_cl (len := 3) (x := (156, 2, [2])) (k1 := 156) (A := [.ref w0, zl x1]) (r := []) p_4 rfl rfl rfl rfl (by simp only [z_cl, List.drop]; rw [if_pos]; rfl; exact by first | exact ⟨by decide, (zwb_le (by show 0 ≤ 4; omega))⟩ | exact ⟨by decide, by show 2 ≤ 2; omega, (zwb_le (by show 0 ≤ 4; omega))⟩) p_156 (by show 3 ≤ 5; omega)).trans (ge_bk_d rfl)
theorem g4_52 : z_go zP 4 52 [some (.ref u), l1, l2] S q Q ↔ z_go zP 4 53 [some (.ref u), l1, l2] (.ref u :: S) q Q := ge_x (len := 1) (x := (0, 0, [])) p_4 rfl rfl
theorem g4_53 : z_go zP 4 53 L [.ref u] q Q ↔ z_tg q.1 u = some 1 ∧ z_go zP 14 0 [some (.ref u), none, none, none] [] q (zc 4 56 L [] Q) := ge_vc (len := 3) (pc := 53) (S := [.ref u]) (u := u) (k1 := 14) (A := [.ref u]) (r := []) (tag := 1) (n0 := 0) (zwb_le (by show 0 ≤ 4; omega)) p_4 rfl rfl rfl p_14 (by show 1 ≤ 4; omega) rfl
theorem g4_56 : z_go zP 4 56 L S q Q ↔ z_go zP 4 57 L (zi 0 :: S) q Q := ge_x (len := 1) (x := (0, 0, [])) p_4 rfl rfl
theorem g4_57 : z_go zP 4 57 [l0, l1, l2] (zi a :: S) q Q ↔ z_go zP 4 58 [l0, (zkl l1), some (zi a)] S q Q := (by cases l1 with | none => exact ge_x (len := 1) (x := (0, 0, [])) p_4 rfl rfl | some v => cases v <;> exact ge_x (len := 1) (x := (0, 0, [])) p_4 rfl rfl)
theorem g4_58 : z_go zP 4 58 [l0, l1, some (zi a)] S q Q ↔ z_go zP 4 59 [l0, l1, some (zi a)] (zi a :: S) q Q := ge_x (len := 1) (x := (0, 0, [])) p_4 rfl rfl
theorem g4_59 : z_go zP 4 59 [some (.ref u), l1, l2] S q Q ↔ z_go zP 4 60 [some (.ref u), l1, l2] (.ref u :: S) q Q := ge_x (len := 1) (x := (0, 0, [])) p_4 rfl rfl
theorem g4_60 : z_go zP 4 60 L (.ref u :: S) q Q ↔ ∃ v, z_get [1] 6 q.1 u = some v ∧ z_go zP 4 63 L (v :: S) q Q := ge_getf (len := 3) (x := (6, 0, [1])) p_4 rfl
theorem g4_63 (a1 : -2147483648 ≤ a) (a2 : a < 2147483648) (b1 : -2147483648 ≤ b) (b2 : b < 2147483648) : z_go zP 4 63 L (zi b :: zi a :: S) q Q ↔ if b ≤ a then z_go zP 4 91 L S q Q else z_go zP 4 66 L S q Q := ge_ic_ge (len := 3) (x := (0, 0, [])) a1 a2 b1 b2 p_4 rfl rfl
theorem g4_66 : z_go zP 4 66 [l0, l1, some (zi a)] S q Q ↔ z_go zP 4 67 [l0, l1, some (zi a)] (zi a :: S) q Q := ge_x (len := 1) (x := (0, 0, [])) p_4 rfl rfl
theorem g4_67 : z_go zP 4 67 L S q Q ↔ z_go zP 4 70 L (zi 2000 :: S) q Q := ge_x (len := 3) (x := (0, 0, [])) p_4 rfl rfl
theorem g4_70 (a1 : -2147483648 ≤ a) (a2 : a < 2147483648) (b1 : -2147483648 ≤ b) (b2 : b < 2147483648) : z_go zP 4 70 L (zi b :: zi a :: S) q Q ↔ if b ≤ a then z_go zP 4 91 L S q Q else z_go zP 4 73 L S q Q := ge_ic_ge (len := 3) (x := (0, 0, [])) a1 a2 b1 b2 p_4 rfl rfl
theorem g4_73 : z_go zP 4 73 [some (.ref u), l1, l2] S q Q ↔ z_go zP 4 74 [some (.ref u), l1, l2] (.ref u :: S) q Q := ge_x (len := 1) (x := (0, 0, [])) p_4 rfl rfl
theorem g4_74 : z_go zP 4 74 L (.ref u :: S) q Q ↔ ∃ v, z_get [1] 9 q.1 u = some v ∧ z_go zP 4 77 L (v :: S) q Q := ge_getf (len := 3) (x := (9, 0, [1])) p_4 rfl
theorem g4_77 (a1 : -2147483648 ≤ a) (a2 : a < 2147483648) : z_go zP 4 77 L (zi a :: S) q Q ↔ if ¬ a = 0 then z_go zP 4 91 L S q Q else z_go zP 4 80 L S q Q := ge_if_ne (len := 3) (x := (0, 0, [])) a1 a2 p_4 rfl rfl
theorem g4_77b {c : Prop} [Decidable c] : z_go zP 4 77 L (zi (bI c) :: S) q Q ↔ if c then z_go zP 4 91 L S q Q else z_go zP 4 80 L S q Q := ge_if_ne_b (len := 3) (x := (0, 0, [])) p_4 rfl rfl
theorem g4_80 : z_go zP 4 80 [some (.ref u), l1, l2] S q Q ↔ z_go zP 4 81 [some (.ref u), l1, l2] (.ref u :: S) q Q := ge_x (len := 1) (x := (0, 0, [])) p_4 rfl rfl
theorem g4_81 : z_go zP 4 81 [l0, l1, some (zi a)] S q Q ↔ z_go zP 4 82 [l0, l1, some (zi a)] (zi a :: S) q Q := ge_x (len := 1) (x := (0, 0, [])) p_4 rfl rfl
theorem g4_82 : z_go zP 4 82 L [zi x0, .ref u] q Q ↔ z_tg q.1 u = some 1 ∧ z_go zP 5 0 [some (.ref u), some (zi x0), none, none] [] q (zc 4 85 L [] Q) := ge_vc (len := 3) (pc := 82) (S := [zi x0, .ref u]) (u := u) (k1 := 5) (A := [.ref u, zi x0]) (r := []) (tag := 1) (n0 := 1) (zwb_le (by show 0 ≤ 4; omega)) p_4 rfl rfl rfl p_5 (by show 2 ≤ 4; omega) rfl
theorem g4_85 : z_go zP 4 85 [l0, l1, some (zi a)] S q Q ↔ z_go zP 4 88 [l0, (zkl l1), some (zi (a + 1))] S q Q := (by unfold zi; rw [Int32.ofInt_add]; cases l1 with | none => exact ge_x (len := 3) (x := (0, 0, [])) p_4 rfl rfl | some v => cases v <;> exact ge_x (len := 3) (x := (0, 0, [])) p_4 rfl rfl)
theorem g4_88 : z_go zP 4 88 L S q Q ↔ z_go zP 4 58 L S q Q := ge_to (len := 3) (x := (0, 0, [])) p_4 rfl rfl rfl
theorem g4_91 : z_go zP 4 91 [some (.ref u), l1, l2] S q Q ↔ z_go zP 4 92 [some (.ref u), l1, l2] (.ref u :: S) q Q := ge_x (len := 1) (x := (0, 0, [])) p_4 rfl rfl
theorem g4_92 : z_go zP 4 92 L [.ref u] q Q ↔ z_tg q.1 u = some 1 ∧ z_go zP 21 0 [some (.ref u), none, none] [] q (zc 4 95 L [] Q) := ge_vc (len := 3) (pc := 92) (S := [.ref u]) (u := u) (k1 := 21) (A := [.ref u]) (r := []) (tag := 1) (n0 := 0) (zwb_le (by show 0 ≤ 4; omega)) p_4 rfl rfl rfl p_21 (by show 1 ≤ 3; omega) rfl
theorem g4_95 : z_go zP 4 95 L [] q Q ↔ Q (.inl none) q := z_go_rt (len := 1) (x := (0, 0, [])) p_4 rfl rfl rfl
theorem g5_0 : z_go zP 5 0 L S q Q ↔ z_go zP 5 1 L (zi 0 :: S) q Q := ge_x (len := 1) (x := (0, 0, [])) p_5 rfl rfl
theorem g5_1 : z_go zP 5 1 [l0, l1, l2, l3] (zi a :: S) q Q ↔ z_go zP 5 2 [l0, (zkl l1), some (zi a), l3] S q Q := (by cases l1 with | none => exact ge_x (len := 1) (x := (0, 0, [])) p_5 rfl rfl | some v => cases v <;> exact ge_x (len := 1) (x := (0, 0, [])) p_5 rfl rfl)
theorem g5_2 : z_go zP 5 2 L S q Q ↔ z_go zP 5 3 L (zi 0 :: S) q Q := ge_x (len := 1) (x := (0, 0, [])) p_5 rfl rfl
theorem g5_3 : z_go zP 5 3 [l0, l1, l2, l3] (zi a :: S) q Q ↔ z_go zP 5 4 [l0, l1, (zkl l2), some (zi a)] S q Q := (by cases l2 with | none => exact ge_x (len := 1) (x := (0, 0, [])) p_5 rfl rfl | some v => cases v <;> exact ge_x (len := 1) (x := (0, 0, [])) p_5 rfl rfl)
theorem g5_4 : z_go zP 5 4 [l0, l1, l2, some (zi a)] S q Q ↔ z_go zP 5 5 [l0, l1, l2, some (zi a)] (zi a :: S) q Q := ge_x (len := 1) (x := (0, 0, [])) p_5 rfl rfl
theorem g5_5 : z_go zP 5 5 L S q Q ↔ z_go zP 5 6 L (zi 2 :: S) q Q := ge_x (len := 1) (x := (0, 0, [])) p_5 rfl rfl
theorem g5_6 (a1 : -2147483648 ≤ a) (a2 : a < 2147483648) (b1 : -2147483648 ≤ b) (b2 : b < 2147483648) : z_go zP 5 6 L (zi b :: zi a :: S) q Q ↔ if b ≤ a then z_go zP 5 39 L S q Q else z_go zP 5 9 L S q Q := ge_ic_ge (len := 3) (x := (0, 0, [])) a1 a2 b1 b2 p_5 rfl rfl
theorem g5_9 : z_go zP 5 9 [some (.ref u), l1, l2, l3] S q Q ↔ z_go zP 5 10 [some (.ref u), l1, l2, l3] (.ref u :: S) q Q := ge_x (len := 1) (x := (0, 0, [])) p_5 rfl rfl
theorem g5_10 : z_go zP 5 10 [l0, some (zi a), l2, l3] S q Q ↔ z_go zP 5 11 [l0, some (zi a), l2, l3] (zi a :: S) q Q := ge_x (len := 1) (x := (0, 0, [])) p_5 rfl rfl
theorem g5_11 : z_go zP 5 11 [l0, l1, l2, some (zi a)] S q Q ↔ z_go zP 5 12 [l0, l1, l2, some (zi a)] (zi a :: S) q Q := ge_x (len := 1) (x := (0, 0, [])) p_5 rfl rfl
theorem g5_12 : z_go zP 5 12 L [zi x1, zi x0, .ref u] q Q ↔ z_tg q.1 u = some 1 ∧ z_go zP 6 0 [some (.ref u), some (zi x0), some (zi x1), none, none, none, none, none, none] [] q (zc 5 15 L [] Q) := ge_vc (len := 3) (pc := 12) (S := [zi x1, zi x0, .ref u]) (u := u) (k1 := 6) (A := [.ref u, zi x0, zi x1]) (r := []) (tag := 1) (n0 := 2) (zwb_le (by show 0 ≤ 4; omega)) p_5 rfl rfl rfl p_6 (by show 3 ≤ 9; omega) rfl
theorem g5_15 (a1 : -2147483648 ≤ a) (a2 : a < 2147483648) : z_go zP 5 15 L (zi a :: S) q Q ↔ if a = 0 then z_go zP 5 21 L S q Q else z_go zP 5 18 L S q Q := ge_if_eq (len := 3) (x := (0, 0, [])) a1 a2 p_5 rfl rfl
theorem g5_15b {c : Prop} [Decidable c] : z_go zP 5 15 L (zi (bI c) :: S) q Q ↔ if c then z_go zP 5 18 L S q Q else z_go zP 5 21 L S q Q := ge_if_eq_b (len := 3) (x := (0, 0, [])) p_5 rfl rfl
theorem g5_18 : z_go zP 5 18 [l0, l1, some (zi a), l3] S q Q ↔ z_go zP 5 21 [l0, (zkl l1), some (zi (a + 1)), l3] S q Q := (by unfold zi; rw [Int32.ofInt_add]; cases l1 with | none => exact ge_x (len := 3) (x := (0, 0, [])) p_5 rfl rfl | some v => cases v <;> exact ge_x (len := 3) (x := (0, 0, [])) p_5 rfl rfl)
theorem g5_21 : z_go zP 5 21 [some (.ref u), l1, l2, l3] S q Q ↔ z_go zP 5 22 [some (.ref u), l1, l2, l3] (.ref u :: S) q Q := ge_x (len := 1) (x := (0, 0, [])) p_5 rfl rfl
theorem g5_22 : z_go zP 5 22 [l0, some (zi a), l2, l3] S q Q ↔ z_go zP 5 23 [l0, some (zi a), l2, l3] (zi a :: S) q Q := ge_x (len := 1) (x := (0, 0, [])) p_5 rfl rfl
theorem g5_23 : z_go zP 5 23 [l0, l1, l2, some (zi a)] S q Q ↔ z_go zP 5 24 [l0, l1, l2, some (zi a)] (zi a :: S) q Q := ge_x (len := 1) (x := (0, 0, [])) p_5 rfl rfl
theorem g5_24 : z_go zP 5 24 L [zi x1, zi x0, .ref u] q Q ↔ z_tg q.1 u = some 1 ∧ z_go zP 12 0 [some (.ref u), some (zi x0), some (zi x1), none, none] [] q (zc 5 27 L [] Q) := ge_vc (len := 3) (pc := 24) (S := [zi x1, zi x0, .ref u]) (u := u) (k1 := 12) (A := [.ref u, zi x0, zi x1]) (r := []) (tag := 1) (n0 := 2) (zwb_le (by show 0 ≤ 4; omega)) p_5 rfl rfl rfl p_12 (by show 3 ≤ 5; omega) rfl
theorem g5_27 (a1 : -2147483648 ≤ a) (a2 : a < 2147483648) : z_go zP 5 27 L (zi a :: S) q Q ↔ if a = 0 then z_go zP 5 33 L S q Q else z_go zP 5 30 L S q Q := ge_if_eq (len := 3) (x := (0, 0, [])) a1 a2 p_5 rfl rfl
theorem g5_27b {c : Prop} [Decidable c] : z_go zP 5 27 L (zi (bI c) :: S) q Q ↔ if c then z_go zP 5 30 L S q Q else z_go zP 5 33 L S q Q := ge_if_eq_b (len := 3) (x := (0, 0, [])) p_5 rfl rfl
theorem g5_30 : z_go zP 5 30 [l0, l1, some (zi a), l3] S q Q ↔ z_go zP 5 33 [l0, (zkl l1), some (zi (a + 1)), l3] S q Q := (by unfold zi; rw [Int32.ofInt_add]; cases l1 with | none => exact ge_x (len := 3) (x := (0, 0, [])) p_5 rfl rfl | some v => cases v <;> exact ge_x (len := 3) (x := (0, 0, [])) p_5 rfl rfl)
theorem g5_33 : z_go zP 5 33 [l0, l1, l2, some (zi a)] S q Q ↔ z_go zP 5 36 [l0, l1, (zkl l2), some (zi (a + 1))] S q Q := (by unfold zi; rw [Int32.ofInt_add]; cases l2 with | none => exact ge_x (len := 3) (x := (0, 0, [])) p_5 rfl rfl | some v => cases v <;> exact ge_x (len := 3) (x := (0, 0, [])) p_5 rfl rfl)
theorem g5_36 : z_go zP 5 36 L S q Q ↔ z_go zP 5 4 L S q Q := ge_to (len := 3) (x := (0, 0, [])) p_5 rfl rfl rfl
theorem g5_39 : z_go zP 5 39 [l0, l1, some (zi a), l3] S q Q ↔ z_go zP 5 40 [l0, l1, some (zi a), l3] (zi a :: S) q Q := ge_x (len := 1) (x := (0, 0, [])) p_5 rfl rfl
theorem g5_40 (a1 : -2147483648 ≤ a) (a2 : a < 2147483648) : z_go zP 5 40 L (zi a :: S) q Q ↔ if ¬ a = 0 then z_go zP 5 69 L S q Q else z_go zP 5 43 L S q Q := ge_if_ne (len := 3) (x := (0, 0, [])) a1 a2 p_5 rfl rfl
theorem g5_40b {c : Prop} [Decidable c] : z_go zP 5 40 L (zi (bI c) :: S) q Q ↔ if c then z_go zP 5 69 L S q Q else z_go zP 5 43 L S q Q := ge_if_ne_b (len := 3) (x := (0, 0, [])) p_5 rfl rfl
theorem g5_43 : z_go zP 5 43 [some (.ref u), l1, l2, l3] S q Q ↔ z_go zP 5 44 [some (.ref u), l1, l2, l3] (.ref u :: S) q Q := ge_x (len := 1) (x := (0, 0, [])) p_5 rfl rfl
theorem g5_44 : z_go zP 5 44 [l0, some (zi a), l2, l3] S q Q ↔ z_go zP 5 45 [l0, some (zi a), l2, l3] (zi a :: S) q Q := ge_x (len := 1) (x := (0, 0, [])) p_5 rfl rfl
theorem g5_45 : z_go zP 5 45 L [zi x0, .ref u] q Q ↔ z_tg q.1 u = some 1 ∧ z_go zP 18 0 [some (.ref u), some (zi x0), none] [] q (zc 5 48 L [] Q) := ge_vc (len := 3) (pc := 45) (S := [zi x0, .ref u]) (u := u) (k1 := 18) (A := [.ref u, zi x0]) (r := []) (tag := 1) (n0 := 1) (zwb_le (by show 0 ≤ 4; omega)) p_5 rfl rfl rfl p_18 (by show 2 ≤ 3; omega) rfl
theorem g5_48 (a1 : -2147483648 ≤ a) (a2 : a < 2147483648) : z_go zP 5 48 L (zi a :: S) q Q ↔ if a = 0 then z_go zP 5 59 L S q Q else z_go zP 5 51 L S q Q := ge_if_eq (len := 3) (x := (0, 0, [])) a1 a2 p_5 rfl rfl
theorem g5_48b {c : Prop} [Decidable c] : z_go zP 5 48 L (zi (bI c) :: S) q Q ↔ if c then z_go zP 5 51 L S q Q else z_go zP 5 59 L S q Q := ge_if_eq_b (len := 3) (x := (0, 0, [])) p_5 rfl rfl
theorem g5_51 : z_go zP 5 51 [some (.ref u), l1, l2, l3] S q Q ↔ z_go zP 5 52 [some (.ref u), l1, l2, l3] (.ref u :: S) q Q := ge_x (len := 1) (x := (0, 0, [])) p_5 rfl rfl
theorem g5_52 : z_go zP 5 52 [l0, some (zi a), l2, l3] S q Q ↔ z_go zP 5 53 [l0, some (zi a), l2, l3] (zi a :: S) q Q := ge_x (len := 1) (x := (0, 0, [])) p_5 rfl rfl
theorem g5_53 : z_go zP 5 53 L [zi x0, .ref u] q Q ↔ z_tg q.1 u = some 1 ∧ z_go zP 19 0 [some (.ref u), some (zi x0), none] [] q (zc 5 56 L [] Q) := ge_vc (len := 3) (pc := 53) (S := [zi x0, .ref u]) (u := u) (k1 := 19) (A := [.ref u, zi x0]) (r := []) (tag := 1) (n0 := 1) (zwb_le (by show 0 ≤ 4; omega)) p_5 rfl rfl rfl p_19 (by show 2 ≤ 3; omega) rfl
theorem g5_56 : z_go zP 5 56 L S q Q ↔ z_go zP 5 69 L S q Q := ge_to (len := 3) (x := (0, 0, [])) p_5 rfl rfl rfl
theorem g5_59 : z_go zP 5 59 [some (.ref u), l1, l2, l3] S q Q ↔ z_go zP 5 60 [some (.ref u), l1, l2, l3] (.ref u :: S) q Q := ge_x (len := 1) (x := (0, 0, [])) p_5 rfl rfl
theorem g5_60 : z_go zP 5 60 L (.ref u :: S) q Q ↔ z_go zP 5 61 L (.ref u :: .ref u :: S) q Q := ge_x (len := 1) (x := (0, 0, [])) p_5 rfl rfl
theorem g5_60i : z_go zP 5 60 L (zi a :: S) q Q ↔ z_go zP 5 61 L (zi a :: zi a :: S) q Q := ge_x (len := 1) (x := (0, 0, [])) p_5 rfl rfl
theorem g5_61 : z_go zP 5 61 L (.ref u :: S) q Q ↔ ∃ v, z_get [1] 8 q.1 u = some v ∧ z_go zP 5 64 L (v :: S) q Q := ge_getf (len := 3) (x := (8, 0, [1])) p_5 rfl
theorem g5_64 : z_go zP 5 64 L S q Q ↔ z_go zP 5 65 L (zi 1 :: S) q Q := ge_x (len := 1) (x := (0, 0, [])) p_5 rfl rfl
theorem g5_65 : z_go zP 5 65 L (zi b :: zi a :: S) q Q ↔ z_go zP 5 66 L (zi (a + b) :: S) q Q := ge_iadd (len := 1) (x := (0, 0, [])) p_5 rfl
theorem g5_66 : z_go zP 5 66 L (v :: .ref u :: S) q Q ↔ ∃ q1, z_put [1] 8 q u v = some q1 ∧ z_go zP 5 69 L S q1 Q := ge_putf (len := 3) (x := (8, 0, [1])) p_5 rfl
theorem g5_69 : z_go zP 5 69 L [] q Q ↔ Q (.inl none) q := z_go_rt (len := 1) (x := (0, 0, [])) p_5 rfl rfl rfl
theorem g6_0 : z_go zP 6 0 [some (.ref u), l1, l2, l3, l4, l5, l6, l7, l8] S q Q ↔ z_go zP 6 1 [some (.ref u), l1, l2, l3, l4, l5, l6, l7, l8] (.ref u :: S) q Q := ge_x (len := 1) (x := (0, 0, [])) p_6 rfl rfl
theorem g6_1 : z_go zP 6 1 [l0, some (zi a), l2, l3, l4, l5, l6, l7, l8] S q Q ↔ z_go zP 6 2 [l0, some (zi a), l2, l3, l4, l5, l6, l7, l8] (zi a :: S) q Q := ge_x (len := 1) (x := (0, 0, [])) p_6 rfl rfl
theorem g6_2 : z_go zP 6 2 L [zi x0, .ref u] q Q ↔ z_tg q.1 u = some 1 ∧ z_go zP 13 0 [some (.ref u), some (zi x0)] [] q (zc 6 5 L [] Q) := ge_vc (len := 3) (pc := 2) (S := [zi x0, .ref u]) (u := u) (k1 := 13) (A := [.ref u, zi x0]) (r := []) (tag := 1) (n0 := 1) (zwb_le (by show 0 ≤ 4; omega)) p_6 rfl rfl rfl p_13 (by show 2 ≤ 2; omega) rfl
theorem g6_5 : z_go zP 6 5 [some (.ref u), l1, l2, l3, l4, l5, l6, l7, l8] S q Q ↔ z_go zP 6 6 [some (.ref u), l1, l2, l3, l4, l5, l6, l7, l8] (.ref u :: S) q Q := ge_x (len := 1) (x := (0, 0, [])) p_6 rfl rfl
theorem g6_6 : z_go zP 6 6 L (.ref u :: S) q Q ↔ ∃ v, z_get [1] 4 q.1 u = some v ∧ z_go zP 6 9 L (v :: S) q Q := ge_getf (len := 3) (x := (4, 0, [1])) p_6 rfl
theorem g6_9 : z_go zP 6 9 [l0, l1, some (zi a), l3, l4, l5, l6, l7, l8] S q Q ↔ z_go zP 6 10 [l0, l1, some (zi a), l3, l4, l5, l6, l7, l8] (zi a :: S) q Q := ge_x (len := 1) (x := (0, 0, [])) p_6 rfl rfl
theorem g6_10 : z_go zP 6 10 L [zi x0, .ref u] q Q ↔ z_tg q.1 u = some 3 ∧ z_go zP 28 0 [some (.ref u), some (zi x0)] [] q (zc 6 13 L [] Q) := ge_vc (len := 3) (pc := 10) (S := [zi x0, .ref u]) (u := u) (k1 := 28) (A := [.ref u, zi x0]) (r := []) (tag := 3) (n0 := 1) (zwb_le (by show 0 ≤ 4; omega)) p_6 rfl rfl rfl p_28 (by show 2 ≤ 2; omega) rfl
theorem g6_13 : z_go zP 6 13 [l0, l1, l2, l3, l4, l5, l6, l7, l8] (.ref u :: S) q Q ↔ z_go zP 6 14 [l0, l1, (zkl l2), some (.ref u), l4, l5, l6, l7, l8] S q Q := (by cases l2 with | none => exact ge_x (len := 1) (x := (0, 0, [])) p_6 rfl rfl | some v => cases v <;> exact ge_x (len := 1) (x := (0, 0, [])) p_6 rfl rfl)
theorem g6_13n : z_go zP 6 13 [l0, l1, l2, l3, l4, l5, l6, l7, l8] (.null :: S) q Q ↔ z_go zP 6 14 [l0, l1, (zkl l2), some (.null), l4, l5, l6, l7, l8] S q Q := (by cases l2 with | none => exact ge_x (len := 1) (x := (0, 0, [])) p_6 rfl rfl | some v => cases v <;> exact ge_x (len := 1) (x := (0, 0, [])) p_6 rfl rfl)
theorem g6_14 : z_go zP 6 14 [some (.ref u), l1, l2, l3, l4, l5, l6, l7, l8] S q Q ↔ z_go zP 6 15 [some (.ref u), l1, l2, l3, l4, l5, l6, l7, l8] (.ref u :: S) q Q := ge_x (len := 1) (x := (0, 0, [])) p_6 rfl rfl
theorem g6_15 : z_go zP 6 15 L (.ref u :: S) q Q ↔ ∃ v, z_get [1] 3 q.1 u = some v ∧ z_go zP 6 18 L (v :: S) q Q := ge_getf (len := 3) (x := (3, 0, [1])) p_6 rfl
theorem g6_18 : z_go zP 6 18 L S q Q ↔ z_go zP 6 19 L (zi 0 :: S) q Q := ge_x (len := 1) (x := (0, 0, [])) p_6 rfl rfl
theorem g6_19 : z_go zP 6 19 [l0, l1, some (zi a), l3, l4, l5, l6, l7, l8] S q Q ↔ z_go zP 6 20 [l0, l1, some (zi a), l3, l4, l5, l6, l7, l8] (zi a :: S) q Q := ge_x (len := 1) (x := (0, 0, [])) p_6 rfl rfl
theorem g6_20 : z_go zP 6 20 L (zi b :: zi a :: S) q Q ↔ z_go zP 6 21 L (zi (a + b) :: S) q Q := ge_iadd (len := 1) (x := (0, 0, [])) p_6 rfl
theorem g6_21 : z_go zP 6 21 L (zi a :: .ref u :: S) q Q ↔ ∃ v, z_at [101] q.1 u (Int32.ofInt a) = some v ∧ z_go zP 6 22 L (v :: S) q Q := ge_lald (len := 1) (x := (0, 0, [])) p_6 rfl
theorem g6_22 : z_go zP 6 22 L (zl a :: S) q Q ↔ z_go zP 6 23 L (zi a :: S) q Q := ge_l2i (len := 1) (x := (0, 0, [])) p_6 rfl
theorem g6_23 : z_go zP 6 23 [l0, l1, l2, l3, l4, l5, l6, l7, l8] (zi a :: S) q Q ↔ z_go zP 6 25 [l0, l1, l2, (zkl l3), some (zi a), l5, l6, l7, l8] S q Q := (by cases l3 with | none => exact ge_x (len := 2) (x := (0, 0, [])) p_6 rfl rfl | some v => cases v <;> exact ge_x (len := 2) (x := (0, 0, [])) p_6 rfl rfl)
theorem g6_25 : z_go zP 6 25 [l0, l1, l2, some (.ref u), l4, l5, l6, l7, l8] S q Q ↔ z_go zP 6 26 [l0, l1, l2, some (.ref u), l4, l5, l6, l7, l8] (.ref u :: S) q Q := ge_x (len := 1) (x := (0, 0, [])) p_6 rfl rfl
theorem g6_25n : z_go zP 6 25 [l0, l1, l2, some .null, l4, l5, l6, l7, l8] S q Q ↔ z_go zP 6 26 [l0, l1, l2, some .null, l4, l5, l6, l7, l8] (.null :: S) q Q := ge_x (len := 1) (x := (0, 0, [])) p_6 rfl rfl
theorem g6_26 : z_go zP 6 26 [l0, l1, l2, l3, some (zi a), l5, l6, l7, l8] S q Q ↔ z_go zP 6 28 [l0, l1, l2, l3, some (zi a), l5, l6, l7, l8] (zi a :: S) q Q := ge_x (len := 2) (x := (0, 0, [])) p_6 rfl rfl
theorem g6_28 : z_go zP 6 28 L [zi x0, .ref u] q Q ↔ z_tg q.1 u = some 4 ∧ z_go zP 33 0 [some (.ref u), some (zi x0)] [] q (zc 6 31 L [] Q) := ge_vc (len := 3) (pc := 28) (S := [zi x0, .ref u]) (u := u) (k1 := 33) (A := [.ref u, zi x0]) (r := []) (tag := 4) (n0 := 1) (zwb_le (by show 0 ≤ 4; omega)) p_6 rfl rfl rfl p_33 (by show 2 ≤ 2; omega) rfl
theorem g6_31 : z_go zP 6 31 [l0, l1, l2, l3, l4, l5, l6, l7, l8] (.ref u :: S) q Q ↔ z_go zP 6 33 [l0, l1, l2, l3, (zkl l4), some (.ref u), l6, l7, l8] S q Q := (by cases l4 with | none => exact ge_x (len := 2) (x := (0, 0, [])) p_6 rfl rfl | some v => cases v <;> exact ge_x (len := 2) (x := (0, 0, [])) p_6 rfl rfl)
theorem g6_31n : z_go zP 6 31 [l0, l1, l2, l3, l4, l5, l6, l7, l8] (.null :: S) q Q ↔ z_go zP 6 33 [l0, l1, l2, l3, (zkl l4), some (.null), l6, l7, l8] S q Q := (by cases l4 with | none => exact ge_x (len := 2) (x := (0, 0, [])) p_6 rfl rfl | some v => cases v <;> exact ge_x (len := 2) (x := (0, 0, [])) p_6 rfl rfl)
theorem g6_33 : z_go zP 6 33 [l0, l1, l2, l3, l4, some (.ref u), l6, l7, l8] S q Q ↔ z_go zP 6 35 [l0, l1, l2, l3, l4, some (.ref u), l6, l7, l8] (.ref u :: S) q Q := ge_x (len := 2) (x := (0, 0, [])) p_6 rfl rfl
theorem g6_33n : z_go zP 6 33 [l0, l1, l2, l3, l4, some .null, l6, l7, l8] S q Q ↔ z_go zP 6 35 [l0, l1, l2, l3, l4, some .null, l6, l7, l8] (.null :: S) q Q := ge_x (len := 2) (x := (0, 0, [])) p_6 rfl rfl
theorem g6_35 : z_go zP 6 35 L (.ref u :: S) q Q ↔ z_go zP 6 38 L S q Q := ge_x (len := 3) (x := (0, 0, [])) p_6 rfl rfl
theorem g6_35n : z_go zP 6 35 L (.null :: S) q Q ↔ z_go zP 6 55 L S q Q := ge_to (len := 3) (x := (0, 0, [])) p_6 rfl rfl rfl
theorem g6_38 : z_go zP 6 38 [l0, l1, l2, l3, l4, some (.ref u), l6, l7, l8] S q Q ↔ z_go zP 6 40 [l0, l1, l2, l3, l4, some (.ref u), l6, l7, l8] (.ref u :: S) q Q := ge_x (len := 2) (x := (0, 0, [])) p_6 rfl rfl
theorem g6_38n : z_go zP 6 38 [l0, l1, l2, l3, l4, some .null, l6, l7, l8] S q Q ↔ z_go zP 6 40 [l0, l1, l2, l3, l4, some .null, l6, l7, l8] (.null :: S) q Q := ge_x (len := 2) (x := (0, 0, [])) p_6 rfl rfl
theorem g6_40 : z_go zP 6 40 L (.ref u :: S) q Q ↔ ∃ v, z_get [7] 0 q.1 u = some v ∧ z_go zP 6 43 L (v :: S) q Q := ge_getf (len := 3) (x := (0, 0, [7])) p_6 rfl
theorem g6_43 : z_go zP 6 43 L S q Q ↔ z_go zP 6 44 L (zi 5 :: S) q Q := ge_x (len := 1) (x := (0, 0, [])) p_6 rfl rfl
theorem g6_44 (a1 : -2147483648 ≤ a) (a2 : a < 2147483648) (b1 : -2147483648 ≤ b) (b2 : b < 2147483648) : z_go zP 6 44 L (zi b :: zi a :: S) q Q ↔ if ¬ a = b then z_go zP 6 57 L S q Q else z_go zP 6 47 L S q Q := ge_ic_ne (len := 3) (x := (0, 0, [])) a1 a2 b1 b2 p_6 rfl rfl
theorem g6_47 : z_go zP 6 47 [some (.ref u), l1, l2, l3, l4, l5, l6, l7, l8] S q Q ↔ z_go zP 6 48 [some (.ref u), l1, l2, l3, l4, l5, l6, l7, l8] (.ref u :: S) q Q := ge_x (len := 1) (x := (0, 0, [])) p_6 rfl rfl
theorem g6_48 : z_go zP 6 48 [l0, l1, some (zi a), l3, l4, l5, l6, l7, l8] S q Q ↔ z_go zP 6 49 [l0, l1, some (zi a), l3, l4, l5, l6, l7, l8] (zi a :: S) q Q := ge_x (len := 1) (x := (0, 0, [])) p_6 rfl rfl
theorem g6_49 : z_go zP 6 49 L [zi x0, .ref u] q Q ↔ z_tg q.1 u = some 1 ∧ z_go zP 7 0 [some (.ref u), some (zi x0)] [] q (zc 6 52 L [] Q) := ge_vc (len := 3) (pc := 49) (S := [zi x0, .ref u]) (u := u) (k1 := 7) (A := [.ref u, zi x0]) (r := []) (tag := 1) (n0 := 1) (zwb_le (by show 0 ≤ 4; omega)) p_6 rfl rfl rfl p_7 (by show 2 ≤ 2; omega) rfl
theorem g6_52 (a1 : -2147483648 ≤ a) (a2 : a < 2147483648) : z_go zP 6 52 L (zi a :: S) q Q ↔ if a = 0 then z_go zP 6 57 L S q Q else z_go zP 6 55 L S q Q := ge_if_eq (len := 3) (x := (0, 0, [])) a1 a2 p_6 rfl rfl
theorem g6_52b {c : Prop} [Decidable c] : z_go zP 6 52 L (zi (bI c) :: S) q Q ↔ if c then z_go zP 6 55 L S q Q else z_go zP 6 57 L S q Q := ge_if_eq_b (len := 3) (x := (0, 0, [])) p_6 rfl rfl
theorem g6_55 : z_go zP 6 55 L S q Q ↔ z_go zP 6 56 L (zi 0 :: S) q Q := ge_x (len := 1) (x := (0, 0, [])) p_6 rfl rfl
theorem g6_56_0 : z_go zP 6 56 L [zi 0] q Q ↔ Q (.inl (some (zi 0))) q := z_go_rt (len := 1) (x := (0, 0, [])) p_6 rfl rfl rfl
theorem g6_56_1 : z_go zP 6 56 L [zi 1] q Q ↔ Q (.inl (some (zi 1))) q := z_go_rt (len := 1) (x := (0, 0, [])) p_6 rfl rfl rfl
theorem g6_56b {c : Prop} [Decidable c] : z_go zP 6 56 L [zi (bI c)] q Q ↔ Q (.inl (some (zi (bI c)))) q := (by rcases bI_01 (c := c) with h | h <;> rw [h] <;> exact z_go_rt (len := 1) (x := (0, 0, [])) p_6 rfl rfl rfl)
theorem g6_57 : z_go zP 6 57 L S q Q ↔ z_go zP 6 58 L (zi 2 :: S) q Q := ge_x (len := 1) (x := (0, 0, [])) p_6 rfl rfl
theorem g6_58 : z_go zP 6 58 [l0, l1, some (zi a), l3, l4, l5, l6, l7, l8] S q Q ↔ z_go zP 6 59 [l0, l1, some (zi a), l3, l4, l5, l6, l7, l8] (zi a :: S) q Q := ge_x (len := 1) (x := (0, 0, [])) p_6 rfl rfl
theorem g6_59 : z_go zP 6 59 L S q Q ↔ z_go zP 6 60 L (zi 4 :: S) q Q := ge_x (len := 1) (x := (0, 0, [])) p_6 rfl rfl
theorem g6_60 : z_go zP 6 60 L (zi b :: zi a :: S) q Q ↔ z_go zP 6 61 L (zi (a * b) :: S) q Q := ge_imul (len := 1) (x := (0, 0, [])) p_6 rfl
theorem g6_61 : z_go zP 6 61 L (zi b :: zi a :: S) q Q ↔ z_go zP 6 62 L (zi (a + b) :: S) q Q := ge_iadd (len := 1) (x := (0, 0, [])) p_6 rfl
theorem g6_62 : z_go zP 6 62 [l0, l1, l2, l3, l4, l5, l6, l7, l8] (zi a :: S) q Q ↔ z_go zP 6 64 [l0, l1, l2, l3, l4, (zkl l5), some (zi a), l7, l8] S q Q := (by cases l5 with | none => exact ge_x (len := 2) (x := (0, 0, [])) p_6 rfl rfl | some v => cases v <;> exact ge_x (len := 2) (x := (0, 0, [])) p_6 rfl rfl)
theorem g6_64 : z_go zP 6 64 [some (.ref u), l1, l2, l3, l4, l5, l6, l7, l8] S q Q ↔ z_go zP 6 65 [some (.ref u), l1, l2, l3, l4, l5, l6, l7, l8] (.ref u :: S) q Q := ge_x (len := 1) (x := (0, 0, [])) p_6 rfl rfl
theorem g6_65 : z_go zP 6 65 L (.ref u :: S) q Q ↔ ∃ v, z_get [1] 3 q.1 u = some v ∧ z_go zP 6 68 L (v :: S) q Q := ge_getf (len := 3) (x := (3, 0, [1])) p_6 rfl
theorem g6_68 : z_go zP 6 68 [l0, l1, l2, l3, l4, l5, some (zi a), l7, l8] S q Q ↔ z_go zP 6 70 [l0, l1, l2, l3, l4, l5, some (zi a), l7, l8] (zi a :: S) q Q := ge_x (len := 2) (x := (0, 0, [])) p_6 rfl rfl
theorem g6_70 : z_go zP 6 70 [l0, l1, l2, l3, l4, some (.ref u), l6, l7, l8] S q Q ↔ z_go zP 6 72 [l0, l1, l2, l3, l4, some (.ref u), l6, l7, l8] (.ref u :: S) q Q := ge_x (len := 2) (x := (0, 0, [])) p_6 rfl rfl
theorem g6_70n : z_go zP 6 70 [l0, l1, l2, l3, l4, some .null, l6, l7, l8] S q Q ↔ z_go zP 6 72 [l0, l1, l2, l3, l4, some .null, l6, l7, l8] (.null :: S) q Q := ge_x (len := 2) (x := (0, 0, [])) p_6 rfl rfl
theorem g6_72 : z_go zP 6 72 L (.ref u :: S) q Q ↔ ∃ v, z_get [7] 2 q.1 u = some v ∧ z_go zP 6 75 L (v :: S) q Q := ge_getf (len := 3) (x := (2, 0, [7])) p_6 rfl
theorem g6_75 : z_go zP 6 75 L (zi b :: zi a :: S) q Q ↔ z_go zP 6 76 L (zi (a + b) :: S) q Q := ge_iadd (len := 1) (x := (0, 0, [])) p_6 rfl
theorem g6_76 : z_go zP 6 76 L (zi a :: .ref u :: S) q Q ↔ ∃ v, z_at [101] q.1 u (Int32.ofInt a) = some v ∧ z_go zP 6 77 L (v :: S) q Q := ge_lald (len := 1) (x := (0, 0, [])) p_6 rfl
theorem g6_77 : z_go zP 6 77 [l0, l1, l2, l3, l4, l5, l6, l7, l8] (zl a :: S) q Q ↔ z_go zP 6 79 [l0, l1, l2, l3, l4, l5, (zkl l6), some (zl a), none] S q Q := (by cases l6 with | none => exact ge_x (len := 2) (x := (0, 0, [])) p_6 rfl rfl | some v => cases v <;> exact ge_x (len := 2) (x := (0, 0, [])) p_6 rfl rfl)
theorem g6_79 : z_go zP 6 79 [some (.ref u), l1, l2, l3, l4, l5, l6, l7, l8] S q Q ↔ z_go zP 6 80 [some (.ref u), l1, l2, l3, l4, l5, l6, l7, l8] (.ref u :: S) q Q := ge_x (len := 1) (x := (0, 0, [])) p_6 rfl rfl
theorem g6_80 : z_go zP 6 80 [l0, l1, l2, l3, l4, some (.ref u), l6, l7, l8] S q Q ↔ z_go zP 6 82 [l0, l1, l2, l3, l4, some (.ref u), l6, l7, l8] (.ref u :: S) q Q := ge_x (len := 2) (x := (0, 0, [])) p_6 rfl rfl
theorem g6_80n : z_go zP 6 80 [l0, l1, l2, l3, l4, some .null, l6, l7, l8] S q Q ↔ z_go zP 6 82 [l0, l1, l2, l3, l4, some .null, l6, l7, l8] (.null :: S) q Q := ge_x (len := 2) (x := (0, 0, [])) p_6 rfl rfl
theorem g6_82 : z_go zP 6 82 [l0, l1, some (zi a), l3, l4, l5, l6, l7, l8] S q Q ↔ z_go zP 6 83 [l0, l1, some (zi a), l3, l4, l5, l6, l7, l8] (zi a :: S) q Q := ge_x (len := 1) (x := (0, 0, [])) p_6 rfl rfl
theorem g6_83 : z_go zP 6 83 [l0, l1, l2, l3, l4, l5, l6, some (zl a), l8] S q Q ↔ z_go zP 6 85 [l0, l1, l2, l3, l4, l5, l6, some (zl a), l8] (zl a :: S) q Q := ge_x (len := 2) (x := (0, 0, [])) p_6 rfl rfl
theorem g6_85 : z_go zP 6 85 [some (.ref u), l1, l2, l3, l4, l5, l6, l7, l8] S q Q ↔ z_go zP 6 86 [some (.ref u), l1, l2, l3, l4, l5, l6, l7, l8] (.ref u :: S) q Q := ge_x (len := 1) (x := (0, 0, [])) p_6 rfl rfl
theorem g6_86 : z_go zP 6 86 L (.ref u :: S) q Q ↔ ∃ v, z_get [1] 3 q.1 u = some v ∧ z_go zP 6 89 L (v :: S) q Q := ge_getf (len := 3) (x := (3, 0, [1])) p_6 rfl
theorem g6_89 : z_go zP 6 89 [l0, l1, l2, l3, l4, l5, some (zi a), l7, l8] S q Q ↔ z_go zP 6 91 [l0, l1, l2, l3, l4, l5, some (zi a), l7, l8] (zi a :: S) q Q := ge_x (len := 2) (x := (0, 0, [])) p_6 rfl rfl
theorem g6_91 : z_go zP 6 91 [l0, l1, l2, l3, l4, some (.ref u), l6, l7, l8] S q Q ↔ z_go zP 6 93 [l0, l1, l2, l3, l4, some (.ref u), l6, l7, l8] (.ref u :: S) q Q := ge_x (len := 2) (x := (0, 0, [])) p_6 rfl rfl
theorem g6_91n : z_go zP 6 91 [l0, l1, l2, l3, l4, some .null, l6, l7, l8] S q Q ↔ z_go zP 6 93 [l0, l1, l2, l3, l4, some .null, l6, l7, l8] (.null :: S) q Q := ge_x (len := 2) (x := (0, 0, [])) p_6 rfl rfl
theorem g6_93 : z_go zP 6 93 L (.ref u :: S) q Q ↔ ∃ v, z_get [7] 3 q.1 u = some v ∧ z_go zP 6 96 L (v :: S) q Q := ge_getf (len := 3) (x := (3, 0, [7])) p_6 rfl
theorem g6_96 : z_go zP 6 96 L (zi b :: zi a :: S) q Q ↔ z_go zP 6 97 L (zi (a + b) :: S) q Q := ge_iadd (len := 1) (x := (0, 0, [])) p_6 rfl
theorem g6_97 : z_go zP 6 97 L (zi a :: .ref u :: S) q Q ↔ ∃ v, z_at [101] q.1 u (Int32.ofInt a) = some v ∧ z_go zP 6 98 L (v :: S) q Q := ge_lald (len := 1) (x := (0, 0, [])) p_6 rfl
theorem g6_98 : z_go zP 6 98 L [zl x3, zl x2, zi x1, .ref w0, .ref u] q Q ↔ z_tg q.1 u = some 1 ∧ z_go zP 8 0 [some (.ref u), some (.ref w0), some (zi x1), some (zl x2), none, some (zl x3), none, none] [] q (zc 6 101 L [] Q) := ge_vc (len := 3) (pc := 98) (S := [zl x3, zl x2, zi x1, .ref w0, .ref u]) (u := u) (k1 := 8) (A := [.ref u, .ref w0, zi x1, zl x2, zl x3]) (r := []) (tag := 1) (n0 := 4) (zwb_le (by show 0 ≤ 4; omega)) p_6 rfl rfl rfl p_8 (by show 7 ≤ 8; omega) rfl
theorem g6_101 : z_go zP 6 101 [some (.ref u), l1, l2, l3, l4, l5, l6, l7, l8] S q Q ↔ z_go zP 6 102 [some (.ref u), l1, l2, l3, l4, l5, l6, l7, l8] (.ref u :: S) q Q := ge_x (len := 1) (x := (0, 0, [])) p_6 rfl rfl
theorem g6_102 : z_go zP 6 102 L (.ref u :: S) q Q ↔ ∃ v, z_get [1] 3 q.1 u = some v ∧ z_go zP 6 105 L (v :: S) q Q := ge_getf (len := 3) (x := (3, 0, [1])) p_6 rfl
theorem g6_105 : z_go zP 6 105 L S q Q ↔ z_go zP 6 106 L (zi 0 :: S) q Q := ge_x (len := 1) (x := (0, 0, [])) p_6 rfl rfl
theorem g6_106 : z_go zP 6 106 [l0, l1, some (zi a), l3, l4, l5, l6, l7, l8] S q Q ↔ z_go zP 6 107 [l0, l1, some (zi a), l3, l4, l5, l6, l7, l8] (zi a :: S) q Q := ge_x (len := 1) (x := (0, 0, [])) p_6 rfl rfl
theorem g6_107 : z_go zP 6 107 L (zi b :: zi a :: S) q Q ↔ z_go zP 6 108 L (zi (a + b) :: S) q Q := ge_iadd (len := 1) (x := (0, 0, [])) p_6 rfl
theorem g6_108 : z_go zP 6 108 [l0, l1, l2, some (.ref u), l4, l5, l6, l7, l8] S q Q ↔ z_go zP 6 109 [l0, l1, l2, some (.ref u), l4, l5, l6, l7, l8] (.ref u :: S) q Q := ge_x (len := 1) (x := (0, 0, [])) p_6 rfl rfl
theorem g6_108n : z_go zP 6 108 [l0, l1, l2, some .null, l4, l5, l6, l7, l8] S q Q ↔ z_go zP 6 109 [l0, l1, l2, some .null, l4, l5, l6, l7, l8] (.null :: S) q Q := ge_x (len := 1) (x := (0, 0, [])) p_6 rfl rfl
theorem g6_109 : z_go zP 6 109 [l0, l1, l2, l3, l4, some (.ref u), l6, l7, l8] S q Q ↔ z_go zP 6 111 [l0, l1, l2, l3, l4, some (.ref u), l6, l7, l8] (.ref u :: S) q Q := ge_x (len := 2) (x := (0, 0, [])) p_6 rfl rfl
theorem g6_109n : z_go zP 6 109 [l0, l1, l2, l3, l4, some .null, l6, l7, l8] S q Q ↔ z_go zP 6 111 [l0, l1, l2, l3, l4, some .null, l6, l7, l8] (.null :: S) q Q := ge_x (len := 2) (x := (0, 0, [])) p_6 rfl rfl
theorem g6_111 : z_go zP 6 111 [l0, l1, l2, l3, some (zi a), l5, l6, l7, l8] S q Q ↔ z_go zP 6 113 [l0, l1, l2, l3, some (zi a), l5, l6, l7, l8] (zi a :: S) q Q := ge_x (len := 2) (x := (0, 0, [])) p_6 rfl rfl
theorem g6_113 : z_go zP 6 113 [l0, l1, l2, l3, l4, l5, l6, some (zl a), l8] S q Q ↔ z_go zP 6 115 [l0, l1, l2, l3, l4, l5, l6, some (zl a), l8] (zl a :: S) q Q := ge_x (len := 2) (x := (0, 0, [])) p_6 rfl rfl
theorem g6_115 : z_go zP 6 115 L [zl x3, zi x2, .ref w1, .ref w0, r0, r1] q Q ↔ z_go zP 9 0 [some (.ref w0), some (.ref w1), some (zi x2), some (zl x3), none] [] q (zd 6 118 L [r0, r1] Q) := (z_go_cl (len := 3) (x := (9, 2, [4])) (k1 := 9) (A := [.ref w0, .ref w1, zi x2, zl x3]) (r := [r0, r1]) p_6 rfl rfl rfl rfl (by simp only [z_cl, List.drop]; rw [if_pos]; rfl; exact by first | exact ⟨by decide, (zwb_le (by show 2 ≤ 4; omega))⟩ | exact ⟨by decide, by show 4 ≤ 6; omega, (zwb_le (by show 2 ≤ 4; omega))⟩) p_9 (by show 5 ≤ 5; omega)).trans (ge_bk_d rfl)
theorem g6_118 (a1 : -2147483648 ≤ a) (a2 : a < 2147483648) : z_go zP 6 118 L (zi a :: S) q Q ↔ z_go zP 6 119 L (zl a :: S) q Q := ge_i2l (len := 1) (x := (0, 0, [])) a1 a2 p_6 rfl
theorem g6_119 : z_go zP 6 119 L (zl b :: zi a :: .ref u :: S) q Q ↔ ∃ q1, z_st 101 q u (Int32.ofInt a) (zl b) = some q1 ∧ z_go zP 6 120 L S q1 Q := ge_last (len := 1) (x := (0, 0, [])) p_6 rfl
theorem g6_120 : z_go zP 6 120 [some (.ref u), l1, l2, l3, l4, l5, l6, l7, l8] S q Q ↔ z_go zP 6 121 [some (.ref u), l1, l2, l3, l4, l5, l6, l7, l8] (.ref u :: S) q Q := ge_x (len := 1) (x := (0, 0, [])) p_6 rfl rfl
theorem g6_121 : z_go zP 6 121 L [.ref u] q Q ↔ z_tg q.1 u = some 1 ∧ z_go zP 14 0 [some (.ref u), none, none, none] [] q (zc 6 124 L [] Q) := ge_vc (len := 3) (pc := 121) (S := [.ref u]) (u := u) (k1 := 14) (A := [.ref u]) (r := []) (tag := 1) (n0 := 0) (zwb_le (by show 0 ≤ 4; omega)) p_6 rfl rfl rfl p_14 (by show 1 ≤ 4; omega) rfl
theorem g6_124 : z_go zP 6 124 L S q Q ↔ z_go zP 6 125 L (zi 1 :: S) q Q := ge_x (len := 1) (x := (0, 0, [])) p_6 rfl rfl
theorem g6_125_0 : z_go zP 6 125 L [zi 0] q Q ↔ Q (.inl (some (zi 0))) q := z_go_rt (len := 1) (x := (0, 0, [])) p_6 rfl rfl rfl
theorem g6_125_1 : z_go zP 6 125 L [zi 1] q Q ↔ Q (.inl (some (zi 1))) q := z_go_rt (len := 1) (x := (0, 0, [])) p_6 rfl rfl rfl
theorem g6_125b {c : Prop} [Decidable c] : z_go zP 6 125 L [zi (bI c)] q Q ↔ Q (.inl (some (zi (bI c)))) q := (by rcases bI_01 (c := c) with h | h <;> rw [h] <;> exact z_go_rt (len := 1) (x := (0, 0, [])) p_6 rfl rfl rfl)
theorem g7_0 : z_go zP 7 0 [some (.ref u), l1] S q Q ↔ z_go zP 7 1 [some (.ref u), l1] (.ref u :: S) q Q := ge_x (len := 1) (x := (0, 0, [])) p_7 rfl rfl
theorem g7_1 : z_go zP 7 1 L (.ref u :: S) q Q ↔ ∃ v, z_get [1] 4 q.1 u = some v ∧ z_go zP 7 4 L (v :: S) q Q := ge_getf (len := 3) (x := (4, 0, [1])) p_7 rfl
theorem g7_4 : z_go zP 7 4 L (.ref u :: S) q Q ↔ ∃ v, z_get [3] 3 q.1 u = some v ∧ z_go zP 7 7 L (v :: S) q Q := ge_getf (len := 3) (x := (3, 0, [3])) p_7 rfl
theorem g7_7 (a1 : -2147483648 ≤ a) (a2 : a < 2147483648) : z_go zP 7 7 L (zi a :: S) q Q ↔ if a = 0 then z_go zP 7 30 L S q Q else z_go zP 7 10 L S q Q := ge_if_eq (len := 3) (x := (0, 0, [])) a1 a2 p_7 rfl rfl
theorem g7_7b {c : Prop} [Decidable c] : z_go zP 7 7 L (zi (bI c) :: S) q Q ↔ if c then z_go zP 7 10 L S q Q else z_go zP 7 30 L S q Q := ge_if_eq_b (len := 3) (x := (0, 0, [])) p_7 rfl rfl
theorem g7_10 : z_go zP 7 10 [some (.ref u), l1] S q Q ↔ z_go zP 7 11 [some (.ref u), l1] (.ref u :: S) q Q := ge_x (len := 1) (x := (0, 0, [])) p_7 rfl rfl
theorem g7_11 : z_go zP 7 11 L (.ref u :: S) q Q ↔ ∃ v, z_get [1] 3 q.1 u = some v ∧ z_go zP 7 14 L (v :: S) q Q := ge_getf (len := 3) (x := (3, 0, [1])) p_7 rfl
theorem g7_14 : z_go zP 7 14 L S q Q ↔ z_go zP 7 16 L (zi 18 :: S) q Q := ge_x (len := 2) (x := (0, 0, [])) p_7 rfl rfl
theorem g7_16 : z_go zP 7 16 [l0, some (zi a)] S q Q ↔ z_go zP 7 17 [l0, some (zi a)] (zi a :: S) q Q := ge_x (len := 1) (x := (0, 0, [])) p_7 rfl rfl
theorem g7_17 : z_go zP 7 17 L (zi b :: zi a :: S) q Q ↔ z_go zP 7 18 L (zi (a + b) :: S) q Q := ge_iadd (len := 1) (x := (0, 0, [])) p_7 rfl
theorem g7_18 : z_go zP 7 18 L (zi a :: .ref u :: S) q Q ↔ ∃ v, z_at [101] q.1 u (Int32.ofInt a) = some v ∧ z_go zP 7 19 L (v :: S) q Q := ge_lald (len := 1) (x := (0, 0, [])) p_7 rfl
theorem g7_19 : z_go zP 7 19 L S q Q ↔ z_go zP 7 22 L (zl 2 :: S) q Q := ge_x (len := 3) (x := (2, 0, [])) p_7 rfl rfl
theorem g7_22 (a1 : -9223372036854775808 ≤ a) (a2 : a < 9223372036854775808) (b1 : -9223372036854775808 ≤ b) (b2 : b < 9223372036854775808) : z_go zP 7 22 L (zl b :: zl a :: S) q Q ↔ if a < b then z_go zP 7 30 L S q Q else z_go zP 7 26 L S q Q := ge_lc_lt (len := 1) (x := (0, 0, [])) (p2 := 23) (l2 := 3) a1 a2 b1 b2 p_7 rfl rfl rfl rfl
theorem g7_26 : z_go zP 7 26 L S q Q ↔ z_go zP 7 27 L (zi 1 :: S) q Q := ge_x (len := 1) (x := (0, 0, [])) p_7 rfl rfl
theorem g7_27 : z_go zP 7 27 L S q Q ↔ z_go zP 7 31 L S q Q := ge_to (len := 3) (x := (0, 0, [])) p_7 rfl rfl rfl
theorem g7_30 : z_go zP 7 30 L S q Q ↔ z_go zP 7 31 L (zi 0 :: S) q Q := ge_x (len := 1) (x := (0, 0, [])) p_7 rfl rfl
theorem g7_31_0 : z_go zP 7 31 L [zi 0] q Q ↔ Q (.inl (some (zi 0))) q := z_go_rt (len := 1) (x := (0, 0, [])) p_7 rfl rfl rfl
theorem g7_31_1 : z_go zP 7 31 L [zi 1] q Q ↔ Q (.inl (some (zi 1))) q := z_go_rt (len := 1) (x := (0, 0, [])) p_7 rfl rfl rfl
theorem g7_31b {c : Prop} [Decidable c] : z_go zP 7 31 L [zi (bI c)] q Q ↔ Q (.inl (some (zi (bI c)))) q := (by rcases bI_01 (c := c) with h | h <;> rw [h] <;> exact z_go_rt (len := 1) (x := (0, 0, [])) p_7 rfl rfl rfl)
theorem g8_0 : z_go zP 8 0 L S q Q ↔ z_go zP 8 1 L (zi 2 :: S) q Q := ge_x (len := 1) (x := (0, 0, [])) p_8 rfl rfl
theorem g8_1 : z_go zP 8 1 [l0, l1, some (zi a), l3, l4, l5, l6, l7] S q Q ↔ z_go zP 8 2 [l0, l1, some (zi a), l3, l4, l5, l6, l7] (zi a :: S) q Q := ge_x (len := 1) (x := (0, 0, [])) p_8 rfl rfl
theorem g8_2 : z_go zP 8 2 L S q Q ↔ z_go zP 8 3 L (zi 4 :: S) q Q := ge_x (len := 1) (x := (0, 0, [])) p_8 rfl rfl
theorem g8_3 : z_go zP 8 3 L (zi b :: zi a :: S) q Q ↔ z_go zP 8 4 L (zi (a * b) :: S) q Q := ge_imul (len := 1) (x := (0, 0, [])) p_8 rfl
theorem g8_4 : z_go zP 8 4 L (zi b :: zi a :: S) q Q ↔ z_go zP 8 5 L (zi (a + b) :: S) q Q := ge_iadd (len := 1) (x := (0, 0, [])) p_8 rfl
theorem g8_5 : z_go zP 8 5 [l0, some (.ref u), l2, l3, l4, l5, l6, l7] S q Q ↔ z_go zP 8 6 [l0, some (.ref u), l2, l3, l4, l5, l6, l7] (.ref u :: S) q Q := ge_x (len := 1) (x := (0, 0, [])) p_8 rfl rfl
theorem g8_5n : z_go zP 8 5 [l0, some .null, l2, l3, l4, l5, l6, l7] S q Q ↔ z_go zP 8 6 [l0, some .null, l2, l3, l4, l5, l6, l7] (.null :: S) q Q := ge_x (len := 1) (x := (0, 0, [])) p_8 rfl rfl
theorem g8_6 : z_go zP 8 6 L (.ref u :: S) q Q ↔ ∃ v, z_get [7] 1 q.1 u = some v ∧ z_go zP 8 9 L (v :: S) q Q := ge_getf (len := 3) (x := (1, 0, [7])) p_8 rfl
theorem g8_9 : z_go zP 8 9 L (zi b :: zi a :: S) q Q ↔ z_go zP 8 10 L (zi (a + b) :: S) q Q := ge_iadd (len := 1) (x := (0, 0, [])) p_8 rfl
theorem g8_10 : z_go zP 8 10 [l0, l1, l2, l3, l4, l5, l6, l7] (zi a :: S) q Q ↔ z_go zP 8 12 [l0, l1, l2, l3, l4, l5, (zkl l6), some (zi a)] S q Q := (by cases l6 with | none => exact ge_x (len := 2) (x := (0, 0, [])) p_8 rfl rfl | some v => cases v <;> exact ge_x (len := 2) (x := (0, 0, [])) p_8 rfl rfl)
theorem g8_12 : z_go zP 8 12 [l0, some (.ref u), l2, l3, l4, l5, l6, l7] S q Q ↔ z_go zP 8 13 [l0, some (.ref u), l2, l3, l4, l5, l6, l7] (.ref u :: S) q Q := ge_x (len := 1) (x := (0, 0, [])) p_8 rfl rfl
theorem g8_12n : z_go zP 8 12 [l0, some .null, l2, l3, l4, l5, l6, l7] S q Q ↔ z_go zP 8 13 [l0, some .null, l2, l3, l4, l5, l6, l7] (.null :: S) q Q := ge_x (len := 1) (x := (0, 0, [])) p_8 rfl rfl
theorem g8_13 : z_go zP 8 13 L [.ref u] q Q ↔ z_tg q.1 u = some 7 ∧ z_go zP 50 0 [some (.ref u)] [] q (zc 8 16 L [] Q) := ge_vc (len := 3) (pc := 13) (S := [.ref u]) (u := u) (k1 := 50) (A := [.ref u]) (r := []) (tag := 7) (n0 := 0) (zwb_le (by show 0 ≤ 4; omega)) p_8 rfl rfl rfl p_50 (by show 1 ≤ 1; omega) rfl
theorem g8_16 (a1 : -2147483648 ≤ a) (a2 : a < 2147483648) : z_go zP 8 16 L (zi a :: S) q Q ↔ if a = 0 then z_go zP 8 43 L S q Q else z_go zP 8 19 L S q Q := ge_if_eq (len := 3) (x := (0, 0, [])) a1 a2 p_8 rfl rfl
theorem g8_16b {c : Prop} [Decidable c] : z_go zP 8 16 L (zi (bI c) :: S) q Q ↔ if c then z_go zP 8 19 L S q Q else z_go zP 8 43 L S q Q := ge_if_eq_b (len := 3) (x := (0, 0, [])) p_8 rfl rfl
theorem g8_19 : z_go zP 8 19 [some (.ref u), l1, l2, l3, l4, l5, l6, l7] S q Q ↔ z_go zP 8 20 [some (.ref u), l1, l2, l3, l4, l5, l6, l7] (.ref u :: S) q Q := ge_x (len := 1) (x := (0, 0, [])) p_8 rfl rfl
theorem g8_20 : z_go zP 8 20 L (.ref u :: S) q Q ↔ ∃ v, z_get [1] 3 q.1 u = some v ∧ z_go zP 8 23 L (v :: S) q Q := ge_getf (len := 3) (x := (3, 0, [1])) p_8 rfl
theorem g8_23 : z_go zP 8 23 [l0, l1, l2, l3, l4, l5, l6, some (zi a)] S q Q ↔ z_go zP 8 25 [l0, l1, l2, l3, l4, l5, l6, some (zi a)] (zi a :: S) q Q := ge_x (len := 2) (x := (0, 0, [])) p_8 rfl rfl
theorem g8_25 : z_go zP 8 25 [some (.ref u), l1, l2, l3, l4, l5, l6, l7] S q Q ↔ z_go zP 8 26 [some (.ref u), l1, l2, l3, l4, l5, l6, l7] (.ref u :: S) q Q := ge_x (len := 1) (x := (0, 0, [])) p_8 rfl rfl
theorem g8_26 : z_go zP 8 26 L (.ref u :: S) q Q ↔ ∃ v, z_get [1] 5 q.1 u = some v ∧ z_go zP 8 29 L (v :: S) q Q := ge_getf (len := 3) (x := (5, 0, [1])) p_8 rfl
theorem g8_29 : z_go zP 8 29 [l0, some (.ref u), l2, l3, l4, l5, l6, l7] S q Q ↔ z_go zP 8 30 [l0, some (.ref u), l2, l3, l4, l5, l6, l7] (.ref u :: S) q Q := ge_x (len := 1) (x := (0, 0, [])) p_8 rfl rfl
theorem g8_29n : z_go zP 8 29 [l0, some .null, l2, l3, l4, l5, l6, l7] S q Q ↔ z_go zP 8 30 [l0, some .null, l2, l3, l4, l5, l6, l7] (.null :: S) q Q := ge_x (len := 1) (x := (0, 0, [])) p_8 rfl rfl
theorem g8_30 : z_go zP 8 30 [l0, l1, l2, some (zl a), l4, l5, l6, l7] S q Q ↔ z_go zP 8 31 [l0, l1, l2, some (zl a), l4, l5, l6, l7] (zl a :: S) q Q := ge_x (len := 1) (x := (0, 0, [])) p_8 rfl rfl
theorem g8_31 : z_go zP 8 31 [l0, l1, l2, l3, l4, some (zl a), l6, l7] S q Q ↔ z_go zP 8 33 [l0, l1, l2, l3, l4, some (zl a), l6, l7] (zl a :: S) q Q := ge_x (len := 2) (x := (0, 0, [])) p_8 rfl rfl
theorem g8_33 : z_go zP 8 33 L [zl x1, zl x0, .ref u, r0, r1, r2] q Q ↔ z_tg q.1 u = some 7 ∧ z_go zP 55 0 [some (.ref u), some (zl x0), none, some (zl x1), none] [] q (zc 8 36 L [r0, r1, r2] Q) := ge_vc (len := 3) (pc := 33) (S := [zl x1, zl x0, .ref u, r0, r1, r2]) (u := u) (k1 := 55) (A := [.ref u, zl x0, zl x1]) (r := [r0, r1, r2]) (tag := 7) (n0 := 2) (zwb_le (by show 3 ≤ 4; omega)) p_8 rfl rfl rfl p_55 (by show 5 ≤ 5; omega) rfl
theorem g8_36 : z_go zP 8 36 L [zl x0, .ref u, r0, r1] q Q ↔ z_tg q.1 u = some 2 ∧ z_go zP 24 0 [some (.ref u), some (zl x0), none] [] q (zc 8 39 L [r0, r1] Q) := ge_vc (len := 3) (pc := 36) (S := [zl x0, .ref u, r0, r1]) (u := u) (k1 := 24) (A := [.ref u, zl x0]) (r := [r0, r1]) (tag := 2) (n0 := 1) (zwb_le (by show 2 ≤ 4; omega)) p_8 rfl rfl rfl p_24 (by show 3 ≤ 3; omega) rfl
theorem g8_39 : z_go zP 8 39 L (zl b :: zi a :: .ref u :: S) q Q ↔ ∃ q1, z_st 101 q u (Int32.ofInt a) (zl b) = some q1 ∧ z_go zP 8 40 L S q1 Q := ge_last (len := 1) (x := (0, 0, [])) p_8 rfl
theorem g8_40 : z_go zP 8 40 L S q Q ↔ z_go zP 8 136 L S q Q := ge_to (len := 3) (x := (0, 0, [])) p_8 rfl rfl rfl
theorem g8_43 : z_go zP 8 43 [l0, some (.ref u), l2, l3, l4, l5, l6, l7] S q Q ↔ z_go zP 8 44 [l0, some (.ref u), l2, l3, l4, l5, l6, l7] (.ref u :: S) q Q := ge_x (len := 1) (x := (0, 0, [])) p_8 rfl rfl
theorem g8_43n : z_go zP 8 43 [l0, some .null, l2, l3, l4, l5, l6, l7] S q Q ↔ z_go zP 8 44 [l0, some .null, l2, l3, l4, l5, l6, l7] (.null :: S) q Q := ge_x (len := 1) (x := (0, 0, [])) p_8 rfl rfl
theorem g8_44 : z_go zP 8 44 L (.ref u :: S) q Q ↔ ∃ v, z_get [7] 0 q.1 u = some v ∧ z_go zP 8 47 L (v :: S) q Q := ge_getf (len := 3) (x := (0, 0, [7])) p_8 rfl
theorem g8_47 : z_go zP 8 47 L S q Q ↔ z_go zP 8 48 L (zi 4 :: S) q Q := ge_x (len := 1) (x := (0, 0, [])) p_8 rfl rfl
theorem g8_48 (a1 : -2147483648 ≤ a) (a2 : a < 2147483648) (b1 : -2147483648 ≤ b) (b2 : b < 2147483648) : z_go zP 8 48 L (zi b :: zi a :: S) q Q ↔ if ¬ a = b then z_go zP 8 74 L S q Q else z_go zP 8 51 L S q Q := ge_ic_ne (len := 3) (x := (0, 0, [])) a1 a2 b1 b2 p_8 rfl rfl
theorem g8_51 : z_go zP 8 51 [some (.ref u), l1, l2, l3, l4, l5, l6, l7] S q Q ↔ z_go zP 8 52 [some (.ref u), l1, l2, l3, l4, l5, l6, l7] (.ref u :: S) q Q := ge_x (len := 1) (x := (0, 0, [])) p_8 rfl rfl
theorem g8_52 : z_go zP 8 52 L (.ref u :: S) q Q ↔ ∃ v, z_get [1] 3 q.1 u = some v ∧ z_go zP 8 55 L (v :: S) q Q := ge_getf (len := 3) (x := (3, 0, [1])) p_8 rfl
theorem g8_55 : z_go zP 8 55 [l0, l1, l2, l3, l4, l5, l6, some (zi a)] S q Q ↔ z_go zP 8 57 [l0, l1, l2, l3, l4, l5, l6, some (zi a)] (zi a :: S) q Q := ge_x (len := 2) (x := (0, 0, [])) p_8 rfl rfl
theorem g8_57 : z_go zP 8 57 [some (.ref u), l1, l2, l3, l4, l5, l6, l7] S q Q ↔ z_go zP 8 58 [some (.ref u), l1, l2, l3, l4, l5, l6, l7] (.ref u :: S) q Q := ge_x (len := 1) (x := (0, 0, [])) p_8 rfl rfl
theorem g8_58 : z_go zP 8 58 [l0, l1, some (zi a), l3, l4, l5, l6, l7] S q Q ↔ z_go zP 8 59 [l0, l1, some (zi a), l3, l4, l5, l6, l7] (zi a :: S) q Q := ge_x (len := 1) (x := (0, 0, [])) p_8 rfl rfl
theorem g8_59 : z_go zP 8 59 [some (.ref u), l1, l2, l3, l4, l5, l6, l7] S q Q ↔ z_go zP 8 60 [some (.ref u), l1, l2, l3, l4, l5, l6, l7] (.ref u :: S) q Q := ge_x (len := 1) (x := (0, 0, [])) p_8 rfl rfl
theorem g8_60 : z_go zP 8 60 L (.ref u :: S) q Q ↔ ∃ v, z_get [1] 5 q.1 u = some v ∧ z_go zP 8 63 L (v :: S) q Q := ge_getf (len := 3) (x := (5, 0, [1])) p_8 rfl
theorem g8_63 : z_go zP 8 63 [l0, l1, l2, some (zl a), l4, l5, l6, l7] S q Q ↔ z_go zP 8 64 [l0, l1, l2, some (zl a), l4, l5, l6, l7] (zl a :: S) q Q := ge_x (len := 1) (x := (0, 0, [])) p_8 rfl rfl
theorem g8_64 : z_go zP 8 64 L [zl x0, .ref u, r0, r1, r2, r3] q Q ↔ z_tg q.1 u = some 2 ∧ z_go zP 25 0 [some (.ref u), some (zl x0), none] [] q (zc 8 67 L [r0, r1, r2, r3] Q) := ge_vc (len := 3) (pc := 64) (S := [zl x0, .ref u, r0, r1, r2, r3]) (u := u) (k1 := 25) (A := [.ref u, zl x0]) (r := [r0, r1, r2, r3]) (tag := 2) (n0 := 1) (zwb_le (by show 4 ≤ 4; omega)) p_8 rfl rfl rfl p_25 (by show 3 ≤ 3; omega) rfl
theorem g8_67 : z_go zP 8 67 L [zi x1, zi x0, .ref u, r0, r1] q Q ↔ z_tg q.1 u = some 1 ∧ z_go zP 10 0 [some (.ref u), some (zi x0), some (zi x1), none, none, none, none] [] q (zc 8 70 L [r0, r1] Q) := ge_vc (len := 3) (pc := 67) (S := [zi x1, zi x0, .ref u, r0, r1]) (u := u) (k1 := 10) (A := [.ref u, zi x0, zi x1]) (r := [r0, r1]) (tag := 1) (n0 := 2) (zwb_le (by show 2 ≤ 4; omega)) p_8 rfl rfl rfl p_10 (by show 3 ≤ 7; omega) rfl
theorem g8_70 : z_go zP 8 70 L (zl b :: zi a :: .ref u :: S) q Q ↔ ∃ q1, z_st 101 q u (Int32.ofInt a) (zl b) = some q1 ∧ z_go zP 8 71 L S q1 Q := ge_last (len := 1) (x := (0, 0, [])) p_8 rfl
theorem g8_71 : z_go zP 8 71 L S q Q ↔ z_go zP 8 136 L S q Q := ge_to (len := 3) (x := (0, 0, [])) p_8 rfl rfl rfl
theorem g8_74 : z_go zP 8 74 [l0, some (.ref u), l2, l3, l4, l5, l6, l7] S q Q ↔ z_go zP 8 75 [l0, some (.ref u), l2, l3, l4, l5, l6, l7] (.ref u :: S) q Q := ge_x (len := 1) (x := (0, 0, [])) p_8 rfl rfl
theorem g8_74n : z_go zP 8 74 [l0, some .null, l2, l3, l4, l5, l6, l7] S q Q ↔ z_go zP 8 75 [l0, some .null, l2, l3, l4, l5, l6, l7] (.null :: S) q Q := ge_x (len := 1) (x := (0, 0, [])) p_8 rfl rfl
theorem g8_75 : z_go zP 8 75 L (.ref u :: S) q Q ↔ ∃ v, z_get [7] 0 q.1 u = some v ∧ z_go zP 8 78 L (v :: S) q Q := ge_getf (len := 3) (x := (0, 0, [7])) p_8 rfl
theorem g8_78 : z_go zP 8 78 L S q Q ↔ z_go zP 8 79 L (zi 5 :: S) q Q := ge_x (len := 1) (x := (0, 0, [])) p_8 rfl rfl
theorem g8_79 (a1 : -2147483648 ≤ a) (a2 : a < 2147483648) (b1 : -2147483648 ≤ b) (b2 : b < 2147483648) : z_go zP 8 79 L (zi b :: zi a :: S) q Q ↔ if ¬ a = b then z_go zP 8 110 L S q Q else z_go zP 8 82 L S q Q := ge_ic_ne (len := 3) (x := (0, 0, [])) a1 a2 b1 b2 p_8 rfl rfl
theorem g8_82 : z_go zP 8 82 [some (.ref u), l1, l2, l3, l4, l5, l6, l7] S q Q ↔ z_go zP 8 83 [some (.ref u), l1, l2, l3, l4, l5, l6, l7] (.ref u :: S) q Q := ge_x (len := 1) (x := (0, 0, [])) p_8 rfl rfl
theorem g8_83 : z_go zP 8 83 L (.ref u :: S) q Q ↔ ∃ v, z_get [1] 4 q.1 u = some v ∧ z_go zP 8 86 L (v :: S) q Q := ge_getf (len := 3) (x := (4, 0, [1])) p_8 rfl
theorem g8_86 : z_go zP 8 86 L (.ref u :: S) q Q ↔ ∃ v, z_get [3] 3 q.1 u = some v ∧ z_go zP 8 89 L (v :: S) q Q := ge_getf (len := 3) (x := (3, 0, [3])) p_8 rfl
theorem g8_89 (a1 : -2147483648 ≤ a) (a2 : a < 2147483648) : z_go zP 8 89 L (zi a :: S) q Q ↔ if a = 0 then z_go zP 8 110 L S q Q else z_go zP 8 92 L S q Q := ge_if_eq (len := 3) (x := (0, 0, [])) a1 a2 p_8 rfl rfl
theorem g8_89b {c : Prop} [Decidable c] : z_go zP 8 89 L (zi (bI c) :: S) q Q ↔ if c then z_go zP 8 92 L S q Q else z_go zP 8 110 L S q Q := ge_if_eq_b (len := 3) (x := (0, 0, [])) p_8 rfl rfl
theorem g8_92 : z_go zP 8 92 [some (.ref u), l1, l2, l3, l4, l5, l6, l7] S q Q ↔ z_go zP 8 93 [some (.ref u), l1, l2, l3, l4, l5, l6, l7] (.ref u :: S) q Q := ge_x (len := 1) (x := (0, 0, [])) p_8 rfl rfl
theorem g8_93 : z_go zP 8 93 [l0, l1, some (zi a), l3, l4, l5, l6, l7] S q Q ↔ z_go zP 8 94 [l0, l1, some (zi a), l3, l4, l5, l6, l7] (zi a :: S) q Q := ge_x (len := 1) (x := (0, 0, [])) p_8 rfl rfl
theorem g8_94 : z_go zP 8 94 [some (.ref u), l1, l2, l3, l4, l5, l6, l7] S q Q ↔ z_go zP 8 95 [some (.ref u), l1, l2, l3, l4, l5, l6, l7] (.ref u :: S) q Q := ge_x (len := 1) (x := (0, 0, [])) p_8 rfl rfl
theorem g8_95 : z_go zP 8 95 L (.ref u :: S) q Q ↔ ∃ v, z_get [1] 5 q.1 u = some v ∧ z_go zP 8 98 L (v :: S) q Q := ge_getf (len := 3) (x := (5, 0, [1])) p_8 rfl
theorem g8_98 : z_go zP 8 98 [l0, l1, l2, some (zl a), l4, l5, l6, l7] S q Q ↔ z_go zP 8 99 [l0, l1, l2, some (zl a), l4, l5, l6, l7] (zl a :: S) q Q := ge_x (len := 1) (x := (0, 0, [])) p_8 rfl rfl
theorem g8_99 : z_go zP 8 99 L [zl x0, .ref u, r0, r1] q Q ↔ z_tg q.1 u = some 2 ∧ z_go zP 25 0 [some (.ref u), some (zl x0), none] [] q (zc 8 102 L [r0, r1] Q) := ge_vc (len := 3) (pc := 99) (S := [zl x0, .ref u, r0, r1]) (u := u) (k1 := 25) (A := [.ref u, zl x0]) (r := [r0, r1]) (tag := 2) (n0 := 1) (zwb_le (by show 2 ≤ 4; omega)) p_8 rfl rfl rfl p_25 (by show 3 ≤ 3; omega) rfl
theorem g8_102 : z_go zP 8 102 [l0, l1, l2, l3, l4, some (zl a), l6, l7] S q Q ↔ z_go zP 8 104 [l0, l1, l2, l3, l4, some (zl a), l6, l7] (zl a :: S) q Q := ge_x (len := 2) (x := (0, 0, [])) p_8 rfl rfl
theorem g8_104 : z_go zP 8 104 L [zl x2, zi x1, zi x0, .ref u] q Q ↔ z_tg q.1 u = some 1 ∧ z_go zP 11 0 [some (.ref u), some (zi x0), some (zi x1), some (zl x2), none, none, none] [] q (zc 8 107 L [] Q) := ge_vc (len := 3) (pc := 104) (S := [zl x2, zi x1, zi x0, .ref u]) (u := u) (k1 := 11) (A := [.ref u, zi x0, zi x1, zl x2]) (r := []) (tag := 1) (n0 := 3) (zwb_le (by show 0 ≤ 4; omega)) p_8 rfl rfl rfl p_11 (by show 5 ≤ 7; omega) rfl
theorem g8_107 : z_go zP 8 107 L S q Q ↔ z_go zP 8 136 L S q Q := ge_to (len := 3) (x := (0, 0, [])) p_8 rfl rfl rfl
theorem g8_110 : z_go zP 8 110 [l0, some (.ref u), l2, l3, l4, l5, l6, l7] S q Q ↔ z_go zP 8 111 [l0, some (.ref u), l2, l3, l4, l5, l6, l7] (.ref u :: S) q Q := ge_x (len := 1) (x := (0, 0, [])) p_8 rfl rfl
theorem g8_110n : z_go zP 8 110 [l0, some .null, l2, l3, l4, l5, l6, l7] S q Q ↔ z_go zP 8 111 [l0, some .null, l2, l3, l4, l5, l6, l7] (.null :: S) q Q := ge_x (len := 1) (x := (0, 0, [])) p_8 rfl rfl
theorem g8_111 : z_go zP 8 111 L (.ref u :: S) q Q ↔ ∃ v, z_get [7] 0 q.1 u = some v ∧ z_go zP 8 114 L (v :: S) q Q := ge_getf (len := 3) (x := (0, 0, [7])) p_8 rfl
theorem g8_114 : z_go zP 8 114 L S q Q ↔ z_go zP 8 115 L (zi 5 :: S) q Q := ge_x (len := 1) (x := (0, 0, [])) p_8 rfl rfl
theorem g8_115 (a1 : -2147483648 ≤ a) (a2 : a < 2147483648) (b1 : -2147483648 ≤ b) (b2 : b < 2147483648) : z_go zP 8 115 L (zi b :: zi a :: S) q Q ↔ if ¬ a = b then z_go zP 8 136 L S q Q else z_go zP 8 118 L S q Q := ge_ic_ne (len := 3) (x := (0, 0, [])) a1 a2 b1 b2 p_8 rfl rfl
theorem g8_118 : z_go zP 8 118 [some (.ref u), l1, l2, l3, l4, l5, l6, l7] S q Q ↔ z_go zP 8 119 [some (.ref u), l1, l2, l3, l4, l5, l6, l7] (.ref u :: S) q Q := ge_x (len := 1) (x := (0, 0, [])) p_8 rfl rfl
theorem g8_119 : z_go zP 8 119 L (.ref u :: S) q Q ↔ ∃ v, z_get [1] 3 q.1 u = some v ∧ z_go zP 8 122 L (v :: S) q Q := ge_getf (len := 3) (x := (3, 0, [1])) p_8 rfl
theorem g8_122 : z_go zP 8 122 L S q Q ↔ z_go zP 8 124 L (zi 10 :: S) q Q := ge_x (len := 2) (x := (0, 0, [])) p_8 rfl rfl
theorem g8_124 : z_go zP 8 124 [some (.ref u), l1, l2, l3, l4, l5, l6, l7] S q Q ↔ z_go zP 8 125 [some (.ref u), l1, l2, l3, l4, l5, l6, l7] (.ref u :: S) q Q := ge_x (len := 1) (x := (0, 0, [])) p_8 rfl rfl
theorem g8_125 : z_go zP 8 125 L (.ref u :: S) q Q ↔ ∃ v, z_get [1] 5 q.1 u = some v ∧ z_go zP 8 128 L (v :: S) q Q := ge_getf (len := 3) (x := (5, 0, [1])) p_8 rfl
theorem g8_128 : z_go zP 8 128 [l0, l1, l2, some (zl a), l4, l5, l6, l7] S q Q ↔ z_go zP 8 129 [l0, l1, l2, some (zl a), l4, l5, l6, l7] (zl a :: S) q Q := ge_x (len := 1) (x := (0, 0, [])) p_8 rfl rfl
theorem g8_129 : z_go zP 8 129 L [zl x0, .ref u, r0, r1] q Q ↔ z_tg q.1 u = some 2 ∧ z_go zP 25 0 [some (.ref u), some (zl x0), none] [] q (zc 8 132 L [r0, r1] Q) := ge_vc (len := 3) (pc := 129) (S := [zl x0, .ref u, r0, r1]) (u := u) (k1 := 25) (A := [.ref u, zl x0]) (r := [r0, r1]) (tag := 2) (n0 := 1) (zwb_le (by show 2 ≤ 4; omega)) p_8 rfl rfl rfl p_25 (by show 3 ≤ 3; omega) rfl
theorem g8_132 : z_go zP 8 132 L (zi b :: zi a :: S) q Q ↔ z_go zP 8 133 L (zi (a + b) :: S) q Q := ge_iadd (len := 1) (x := (0, 0, [])) p_8 rfl
theorem g8_133 : z_go zP 8 133 [l0, l1, l2, l3, l4, some (zl a), l6, l7] S q Q ↔ z_go zP 8 135 [l0, l1, l2, l3, l4, some (zl a), l6, l7] (zl a :: S) q Q := ge_x (len := 2) (x := (0, 0, [])) p_8 rfl rfl
theorem g8_135 : z_go zP 8 135 L (zl b :: zi a :: .ref u :: S) q Q ↔ ∃ q1, z_st 101 q u (Int32.ofInt a) (zl b) = some q1 ∧ z_go zP 8 136 L S q1 Q := ge_last (len := 1) (x := (0, 0, [])) p_8 rfl
theorem g8_136 : z_go zP 8 136 L [] q Q ↔ Q (.inl none) q := z_go_rt (len := 1) (x := (0, 0, [])) p_8 rfl rfl rfl
theorem g9_0 : z_go zP 9 0 [l0, some (.ref u), l2, l3, l4] S q Q ↔ z_go zP 9 1 [l0, some (.ref u), l2, l3, l4] (.ref u :: S) q Q := ge_x (len := 1) (x := (0, 0, [])) p_9 rfl rfl
theorem g9_0n : z_go zP 9 0 [l0, some .null, l2, l3, l4] S q Q ↔ z_go zP 9 1 [l0, some .null, l2, l3, l4] (.null :: S) q Q := ge_x (len := 1) (x := (0, 0, [])) p_9 rfl rfl
theorem g9_1 : z_go zP 9 1 [l0, l1, l2, some (zl a), l4] S q Q ↔ z_go zP 9 2 [l0, l1, l2, some (zl a), l4] (zl a :: S) q Q := ge_x (len := 1) (x := (0, 0, [])) p_9 rfl rfl
theorem g9_2 : z_go zP 9 2 L [zl x0, .ref u] q Q ↔ z_tg q.1 u = some 7 ∧ z_go zP 54 0 [some (.ref u), some (zl x0), none] [] q (zc 9 5 L [] Q) := ge_vc (len := 3) (pc := 2) (S := [zl x0, .ref u]) (u := u) (k1 := 54) (A := [.ref u, zl x0]) (r := []) (tag := 7) (n0 := 1) (zwb_le (by show 0 ≤ 4; omega)) p_9 rfl rfl rfl p_54 (by show 3 ≤ 3; omega) rfl
theorem g9_5 (a1 : -2147483648 ≤ a) (a2 : a < 2147483648) : z_go zP 9 5 L (zi a :: S) q Q ↔ if a = 0 then z_go zP 9 14 L S q Q else z_go zP 9 8 L S q Q := ge_if_eq (len := 3) (x := (0, 0, [])) a1 a2 p_9 rfl rfl
theorem g9_5b {c : Prop} [Decidable c] : z_go zP 9 5 L (zi (bI c) :: S) q Q ↔ if c then z_go zP 9 8 L S q Q else z_go zP 9 14 L S q Q := ge_if_eq_b (len := 3) (x := (0, 0, [])) p_9 rfl rfl
theorem g9_8 : z_go zP 9 8 [some (.ref u), l1, l2, l3, l4] S q Q ↔ z_go zP 9 9 [some (.ref u), l1, l2, l3, l4] (.ref u :: S) q Q := ge_x (len := 1) (x := (0, 0, [])) p_9 rfl rfl
theorem g9_8n : z_go zP 9 8 [some .null, l1, l2, l3, l4] S q Q ↔ z_go zP 9 9 [some .null, l1, l2, l3, l4] (.null :: S) q Q := ge_x (len := 1) (x := (0, 0, [])) p_9 rfl rfl
theorem g9_9 : z_go zP 9 9 [l0, some (.ref u), l2, l3, l4] S q Q ↔ z_go zP 9 10 [l0, some (.ref u), l2, l3, l4] (.ref u :: S) q Q := ge_x (len := 1) (x := (0, 0, [])) p_9 rfl rfl
theorem g9_9n : z_go zP 9 9 [l0, some .null, l2, l3, l4] S q Q ↔ z_go zP 9 10 [l0, some .null, l2, l3, l4] (.null :: S) q Q := ge_x (len := 1) (x := (0, 0, [])) p_9 rfl rfl
theorem g9_10 : z_go zP 9 10 L [.ref w0, .ref u] q Q ↔ z_tg q.1 u = some 4 ∧ z_go zP 34 0 [some (.ref u), some (.ref w0)] [] q (zc 9 13 L [] Q) := ge_vc (len := 3) (pc := 10) (S := [.ref w0, .ref u]) (u := u) (k1 := 34) (A := [.ref u, .ref w0]) (r := []) (tag := 4) (n0 := 1) (zwb_le (by show 0 ≤ 4; omega)) p_9 rfl rfl rfl p_34 (by show 2 ≤ 2; omega) rfl
theorem g9_13 : z_go zP 9 13 L [zi a] q Q ↔ Q (.inl (some (zi a))) q := ge_rti (len := 1) (x := (0, 0, [])) p_9 rfl rfl
theorem g9_14 : z_go zP 9 14 [l0, some (.ref u), l2, l3, l4] S q Q ↔ z_go zP 9 15 [l0, some (.ref u), l2, l3, l4] (.ref u :: S) q Q := ge_x (len := 1) (x := (0, 0, [])) p_9 rfl rfl
theorem g9_14n : z_go zP 9 14 [l0, some .null, l2, l3, l4] S q Q ↔ z_go zP 9 15 [l0, some .null, l2, l3, l4] (.null :: S) q Q := ge_x (len := 1) (x := (0, 0, [])) p_9 rfl rfl
theorem g9_15 : z_go zP 9 15 L (.ref u :: S) q Q ↔ ∃ v, z_get [7] 0 q.1 u = some v ∧ z_go zP 9 18 L (v :: S) q Q := ge_getf (len := 3) (x := (0, 0, [7])) p_9 rfl
theorem g9_18 : z_go zP 9 18 L S q Q ↔ z_go zP 9 20 L (zi 7 :: S) q Q := ge_x (len := 2) (x := (0, 0, [])) p_9 rfl rfl
theorem g9_20 (a1 : -2147483648 ≤ a) (a2 : a < 2147483648) (b1 : -2147483648 ≤ b) (b2 : b < 2147483648) : z_go zP 9 20 L (zi b :: zi a :: S) q Q ↔ if a = b then z_go zP 9 33 L S q Q else z_go zP 9 23 L S q Q := ge_ic_eq (len := 3) (x := (0, 0, [])) a1 a2 b1 b2 p_9 rfl rfl
theorem g9_23 : z_go zP 9 23 [l0, l1, some (zi a), l3, l4] S q Q ↔ z_go zP 9 24 [l0, l1, some (zi a), l3, l4] (zi a :: S) q Q := ge_x (len := 1) (x := (0, 0, [])) p_9 rfl rfl
theorem g9_24 : z_go zP 9 24 L S q Q ↔ z_go zP 9 25 L (zi 1 :: S) q Q := ge_x (len := 1) (x := (0, 0, [])) p_9 rfl rfl
theorem g9_25 : z_go zP 9 25 L (zi b :: zi a :: S) q Q ↔ z_go zP 9 26 L (zi (a + b) :: S) q Q := ge_iadd (len := 1) (x := (0, 0, [])) p_9 rfl
theorem g9_26 : z_go zP 9 26 [some (.ref u), l1, l2, l3, l4] S q Q ↔ z_go zP 9 27 [some (.ref u), l1, l2, l3, l4] (.ref u :: S) q Q := ge_x (len := 1) (x := (0, 0, [])) p_9 rfl rfl
theorem g9_26n : z_go zP 9 26 [some .null, l1, l2, l3, l4] S q Q ↔ z_go zP 9 27 [some .null, l1, l2, l3, l4] (.null :: S) q Q := ge_x (len := 1) (x := (0, 0, [])) p_9 rfl rfl
theorem g9_27 : z_go zP 9 27 L (.ref u :: S) q Q ↔ ∃ v, z_get [4] 3 q.1 u = some v ∧ z_go zP 9 30 L (v :: S) q Q := ge_getf (len := 3) (x := (3, 0, [4])) p_9 rfl
theorem g9_30 (a1 : -2147483648 ≤ a) (a2 : a < 2147483648) (b1 : -2147483648 ≤ b) (b2 : b < 2147483648) : z_go zP 9 30 L (zi b :: zi a :: S) q Q ↔ if a < b then z_go zP 9 37 L S q Q else z_go zP 9 33 L S q Q := ge_ic_lt (len := 3) (x := (0, 0, [])) a1 a2 b1 b2 p_9 rfl rfl
theorem g9_33 : z_go zP 9 33 L S q Q ↔ z_go zP 9 34 L (zi (-1) :: S) q Q := ge_x (len := 1) (x := (0, 0, [])) p_9 rfl rfl
theorem g9_34 : z_go zP 9 34 L S q Q ↔ z_go zP 9 40 L S q Q := ge_to (len := 3) (x := (0, 0, [])) p_9 rfl rfl rfl
theorem g9_37 : z_go zP 9 37 [l0, l1, some (zi a), l3, l4] S q Q ↔ z_go zP 9 38 [l0, l1, some (zi a), l3, l4] (zi a :: S) q Q := ge_x (len := 1) (x := (0, 0, [])) p_9 rfl rfl
theorem g9_38 : z_go zP 9 38 L S q Q ↔ z_go zP 9 39 L (zi 1 :: S) q Q := ge_x (len := 1) (x := (0, 0, [])) p_9 rfl rfl
theorem g9_39 : z_go zP 9 39 L (zi b :: zi a :: S) q Q ↔ z_go zP 9 40 L (zi (a + b) :: S) q Q := ge_iadd (len := 1) (x := (0, 0, [])) p_9 rfl
theorem g9_40 : z_go zP 9 40 L [zi a] q Q ↔ Q (.inl (some (zi a))) q := ge_rti (len := 1) (x := (0, 0, [])) p_9 rfl rfl
theorem g10_0 : z_go zP 10 0 L S q Q ↔ z_go zP 10 2 L (zi 20 :: S) q Q := ge_x (len := 2) (x := (0, 0, [])) p_10 rfl rfl
theorem g10_2 : z_go zP 10 2 [l0, some (zi a), l2, l3, l4, l5, l6] S q Q ↔ z_go zP 10 3 [l0, some (zi a), l2, l3, l4, l5, l6] (zi a :: S) q Q := ge_x (len := 1) (x := (0, 0, [])) p_10 rfl rfl
theorem g10_3 : z_go zP 10 3 L S q Q ↔ z_go zP 10 4 L (zi 4 :: S) q Q := ge_x (len := 1) (x := (0, 0, [])) p_10 rfl rfl
theorem g10_4 : z_go zP 10 4 L (zi b :: zi a :: S) q Q ↔ z_go zP 10 5 L (zi (a * b) :: S) q Q := ge_imul (len := 1) (x := (0, 0, [])) p_10 rfl
theorem g10_5 : z_go zP 10 5 L (zi b :: zi a :: S) q Q ↔ z_go zP 10 6 L (zi (a + b) :: S) q Q := ge_iadd (len := 1) (x := (0, 0, [])) p_10 rfl
theorem g10_6 : z_go zP 10 6 [l0, l1, l2, l3, l4, l5, l6] (zi a :: S) q Q ↔ z_go zP 10 7 [l0, l1, (zkl l2), some (zi a), l4, l5, l6] S q Q := (by cases l2 with | none => exact ge_x (len := 1) (x := (0, 0, [])) p_10 rfl rfl | some v => cases v <;> exact ge_x (len := 1) (x := (0, 0, [])) p_10 rfl rfl)
theorem g10_7 : z_go zP 10 7 [some (.ref u), l1, l2, l3, l4, l5, l6] S q Q ↔ z_go zP 10 8 [some (.ref u), l1, l2, l3, l4, l5, l6] (.ref u :: S) q Q := ge_x (len := 1) (x := (0, 0, [])) p_10 rfl rfl
theorem g10_8 : z_go zP 10 8 L (.ref u :: S) q Q ↔ ∃ v, z_get [1] 3 q.1 u = some v ∧ z_go zP 10 11 L (v :: S) q Q := ge_getf (len := 3) (x := (3, 0, [1])) p_10 rfl
theorem g10_11 : z_go zP 10 11 L S q Q ↔ z_go zP 10 13 L (zi 10 :: S) q Q := ge_x (len := 2) (x := (0, 0, [])) p_10 rfl rfl
theorem g10_13 : z_go zP 10 13 [l0, l1, some (zi a), l3, l4, l5, l6] S q Q ↔ z_go zP 10 14 [l0, l1, some (zi a), l3, l4, l5, l6] (zi a :: S) q Q := ge_x (len := 1) (x := (0, 0, [])) p_10 rfl rfl
theorem g10_14 : z_go zP 10 14 L (zi b :: zi a :: S) q Q ↔ z_go zP 10 15 L (zi (a + b) :: S) q Q := ge_iadd (len := 1) (x := (0, 0, [])) p_10 rfl
theorem g10_15 : z_go zP 10 15 L (zi a :: .ref u :: S) q Q ↔ ∃ v, z_at [101] q.1 u (Int32.ofInt a) = some v ∧ z_go zP 10 16 L (v :: S) q Q := ge_lald (len := 1) (x := (0, 0, [])) p_10 rfl
theorem g10_16 : z_go zP 10 16 [l0, l1, l2, l3, l4, l5, l6] (zl a :: S) q Q ↔ z_go zP 10 18 [l0, l1, l2, (zkl l3), some (zl a), none, l6] S q Q := (by cases l3 with | none => exact ge_x (len := 2) (x := (0, 0, [])) p_10 rfl rfl | some v => cases v <;> exact ge_x (len := 2) (x := (0, 0, [])) p_10 rfl rfl)
theorem g10_18 : z_go zP 10 18 L S q Q ↔ z_go zP 10 19 L (zi 0 :: S) q Q := ge_x (len := 1) (x := (0, 0, [])) p_10 rfl rfl
theorem g10_19 : z_go zP 10 19 [l0, l1, l2, l3, l4, l5, l6] (zi a :: S) q Q ↔ z_go zP 10 21 [l0, l1, l2, l3, l4, (zkl l5), some (zi a)] S q Q := (by cases l5 with | none => exact ge_x (len := 2) (x := (0, 0, [])) p_10 rfl rfl | some v => cases v <;> exact ge_x (len := 2) (x := (0, 0, [])) p_10 rfl rfl)
theorem g10_21 : z_go zP 10 21 [l0, l1, l2, l3, l4, l5, some (zi a)] S q Q ↔ z_go zP 10 23 [l0, l1, l2, l3, l4, l5, some (zi a)] (zi a :: S) q Q := ge_x (len := 2) (x := (0, 0, [])) p_10 rfl rfl
theorem g10_23 : z_go zP 10 23 L S q Q ↔ z_go zP 10 24 L (zi 2 :: S) q Q := ge_x (len := 1) (x := (0, 0, [])) p_10 rfl rfl
theorem g10_24 (a1 : -2147483648 ≤ a) (a2 : a < 2147483648) (b1 : -2147483648 ≤ b) (b2 : b < 2147483648) : z_go zP 10 24 L (zi b :: zi a :: S) q Q ↔ if b ≤ a then z_go zP 10 81 L S q Q else z_go zP 10 27 L S q Q := ge_ic_ge (len := 3) (x := (0, 0, [])) a1 a2 b1 b2 p_10 rfl rfl
theorem g10_27 : z_go zP 10 27 [l0, l1, l2, l3, l4, l5, some (zi a)] S q Q ↔ z_go zP 10 29 [l0, l1, l2, l3, l4, l5, some (zi a)] (zi a :: S) q Q := ge_x (len := 2) (x := (0, 0, [])) p_10 rfl rfl
theorem g10_29 (a1 : -2147483648 ≤ a) (a2 : a < 2147483648) : z_go zP 10 29 L (zi a :: S) q Q ↔ z_go zP 10 30 L (zl a :: S) q Q := ge_i2l (len := 1) (x := (0, 0, [])) a1 a2 p_10 rfl
theorem g10_30 : z_go zP 10 30 [some (.ref u), l1, l2, l3, l4, l5, l6] S q Q ↔ z_go zP 10 31 [some (.ref u), l1, l2, l3, l4, l5, l6] (.ref u :: S) q Q := ge_x (len := 1) (x := (0, 0, [])) p_10 rfl rfl
theorem g10_31 : z_go zP 10 31 L (.ref u :: S) q Q ↔ ∃ v, z_get [1] 3 q.1 u = some v ∧ z_go zP 10 34 L (v :: S) q Q := ge_getf (len := 3) (x := (3, 0, [1])) p_10 rfl
theorem g10_34 : z_go zP 10 34 L S q Q ↔ z_go zP 10 36 L (zi 18 :: S) q Q := ge_x (len := 2) (x := (0, 0, [])) p_10 rfl rfl
theorem g10_36 : z_go zP 10 36 [l0, some (zi a), l2, l3, l4, l5, l6] S q Q ↔ z_go zP 10 37 [l0, some (zi a), l2, l3, l4, l5, l6] (zi a :: S) q Q := ge_x (len := 1) (x := (0, 0, [])) p_10 rfl rfl
theorem g10_37 : z_go zP 10 37 L (zi b :: zi a :: S) q Q ↔ z_go zP 10 38 L (zi (a + b) :: S) q Q := ge_iadd (len := 1) (x := (0, 0, [])) p_10 rfl
theorem g10_38 : z_go zP 10 38 L (zi a :: .ref u :: S) q Q ↔ ∃ v, z_at [101] q.1 u (Int32.ofInt a) = some v ∧ z_go zP 10 39 L (v :: S) q Q := ge_lald (len := 1) (x := (0, 0, [])) p_10 rfl
theorem g10_39 (a1 : -9223372036854775808 ≤ a) (a2 : a < 9223372036854775808) (b1 : -9223372036854775808 ≤ b) (b2 : b < 9223372036854775808) : z_go zP 10 39 L (zl b :: zl a :: S) q Q ↔ if b ≤ a then z_go zP 10 81 L S q Q else z_go zP 10 43 L S q Q := ge_lc_ge (len := 1) (x := (0, 0, [])) (p2 := 40) (l2 := 3) a1 a2 b1 b2 p_10 rfl rfl rfl rfl
theorem g10_43 : z_go zP 10 43 [some (.ref u), l1, l2, l3, l4, l5, l6] S q Q ↔ z_go zP 10 44 [some (.ref u), l1, l2, l3, l4, l5, l6] (.ref u :: S) q Q := ge_x (len := 1) (x := (0, 0, [])) p_10 rfl rfl
theorem g10_44 : z_go zP 10 44 L (.ref u :: S) q Q ↔ ∃ v, z_get [1] 3 q.1 u = some v ∧ z_go zP 10 47 L (v :: S) q Q := ge_getf (len := 3) (x := (3, 0, [1])) p_10 rfl
theorem g10_47 : z_go zP 10 47 [l0, l1, l2, some (zi a), l4, l5, l6] S q Q ↔ z_go zP 10 48 [l0, l1, l2, some (zi a), l4, l5, l6] (zi a :: S) q Q := ge_x (len := 1) (x := (0, 0, [])) p_10 rfl rfl
theorem g10_48 : z_go zP 10 48 L S q Q ↔ z_go zP 10 49 L (zi 2 :: S) q Q := ge_x (len := 1) (x := (0, 0, [])) p_10 rfl rfl
theorem g10_49 : z_go zP 10 49 [l0, l1, l2, l3, l4, l5, some (zi a)] S q Q ↔ z_go zP 10 51 [l0, l1, l2, l3, l4, l5, some (zi a)] (zi a :: S) q Q := ge_x (len := 2) (x := (0, 0, [])) p_10 rfl rfl
theorem g10_51 : z_go zP 10 51 L (zi b :: zi a :: S) q Q ↔ z_go zP 10 52 L (zi (a * b) :: S) q Q := ge_imul (len := 1) (x := (0, 0, [])) p_10 rfl
theorem g10_52 : z_go zP 10 52 L (zi b :: zi a :: S) q Q ↔ z_go zP 10 53 L (zi (a + b) :: S) q Q := ge_iadd (len := 1) (x := (0, 0, [])) p_10 rfl
theorem g10_53 : z_go zP 10 53 L (zi a :: .ref u :: S) q Q ↔ ∃ v, z_at [101] q.1 u (Int32.ofInt a) = some v ∧ z_go zP 10 54 L (v :: S) q Q := ge_lald (len := 1) (x := (0, 0, [])) p_10 rfl
theorem g10_54 : z_go zP 10 54 [l0, l1, some (zi a), l3, l4, l5, l6] S q Q ↔ z_go zP 10 55 [l0, l1, some (zi a), l3, l4, l5, l6] (zi a :: S) q Q := ge_x (len := 1) (x := (0, 0, [])) p_10 rfl rfl
theorem g10_55 (a1 : -2147483648 ≤ a) (a2 : a < 2147483648) : z_go zP 10 55 L (zi a :: S) q Q ↔ z_go zP 10 56 L (zl a :: S) q Q := ge_i2l (len := 1) (x := (0, 0, [])) a1 a2 p_10 rfl
theorem g10_56 (a1 : -9223372036854775808 ≤ a) (a2 : a < 9223372036854775808) (b1 : -9223372036854775808 ≤ b) (b2 : b < 9223372036854775808) : z_go zP 10 56 L (zl b :: zl a :: S) q Q ↔ if ¬ a = b then z_go zP 10 75 L S q Q else z_go zP 10 60 L S q Q := ge_lc_ne (len := 1) (x := (0, 0, [])) (p2 := 57) (l2 := 3) a1 a2 b1 b2 p_10 rfl rfl rfl rfl
theorem g10_60 : z_go zP 10 60 [some (.ref u), l1, l2, l3, l4, l5, l6] S q Q ↔ z_go zP 10 61 [some (.ref u), l1, l2, l3, l4, l5, l6] (.ref u :: S) q Q := ge_x (len := 1) (x := (0, 0, [])) p_10 rfl rfl
theorem g10_61 : z_go zP 10 61 L (.ref u :: S) q Q ↔ ∃ v, z_get [1] 3 q.1 u = some v ∧ z_go zP 10 64 L (v :: S) q Q := ge_getf (len := 3) (x := (3, 0, [1])) p_10 rfl
theorem g10_64 : z_go zP 10 64 [l0, l1, l2, some (zi a), l4, l5, l6] S q Q ↔ z_go zP 10 65 [l0, l1, l2, some (zi a), l4, l5, l6] (zi a :: S) q Q := ge_x (len := 1) (x := (0, 0, [])) p_10 rfl rfl
theorem g10_65 : z_go zP 10 65 L S q Q ↔ z_go zP 10 66 L (zi 2 :: S) q Q := ge_x (len := 1) (x := (0, 0, [])) p_10 rfl rfl
theorem g10_66 : z_go zP 10 66 [l0, l1, l2, l3, l4, l5, some (zi a)] S q Q ↔ z_go zP 10 68 [l0, l1, l2, l3, l4, l5, some (zi a)] (zi a :: S) q Q := ge_x (len := 2) (x := (0, 0, [])) p_10 rfl rfl
theorem g10_68 : z_go zP 10 68 L (zi b :: zi a :: S) q Q ↔ z_go zP 10 69 L (zi (a * b) :: S) q Q := ge_imul (len := 1) (x := (0, 0, [])) p_10 rfl
theorem g10_69 : z_go zP 10 69 L (zi b :: zi a :: S) q Q ↔ z_go zP 10 70 L (zi (a + b) :: S) q Q := ge_iadd (len := 1) (x := (0, 0, [])) p_10 rfl
theorem g10_70 : z_go zP 10 70 L S q Q ↔ z_go zP 10 71 L (zi 1 :: S) q Q := ge_x (len := 1) (x := (0, 0, [])) p_10 rfl rfl
theorem g10_71 : z_go zP 10 71 L (zi b :: zi a :: S) q Q ↔ z_go zP 10 72 L (zi (a + b) :: S) q Q := ge_iadd (len := 1) (x := (0, 0, [])) p_10 rfl
theorem g10_72 : z_go zP 10 72 L (zi a :: .ref u :: S) q Q ↔ ∃ v, z_at [101] q.1 u (Int32.ofInt a) = some v ∧ z_go zP 10 73 L (v :: S) q Q := ge_lald (len := 1) (x := (0, 0, [])) p_10 rfl
theorem g10_73 : z_go zP 10 73 [l0, l1, l2, l3, l4, l5, l6] (zl a :: S) q Q ↔ z_go zP 10 75 [l0, l1, l2, (zkl l3), some (zl a), none, l6] S q Q := (by cases l3 with | none => exact ge_x (len := 2) (x := (0, 0, [])) p_10 rfl rfl | some v => cases v <;> exact ge_x (len := 2) (x := (0, 0, [])) p_10 rfl rfl)
theorem g10_75 : z_go zP 10 75 [l0, l1, l2, l3, l4, l5, some (zi a)] S q Q ↔ z_go zP 10 78 [l0, l1, l2, l3, l4, (zkl l5), some (zi (a + 1))] S q Q := (by unfold zi; rw [Int32.ofInt_add]; cases l5 with | none => exact ge_x (len := 3) (x := (0, 0, [])) p_10 rfl rfl | some v => cases v <;> exact ge_x (len := 3) (x := (0, 0, [])) p_10 rfl rfl)
theorem g10_78 : z_go zP 10 78 L S q Q ↔ z_go zP 10 21 L S q Q := ge_to (len := 3) (x := (0, 0, [])) p_10 rfl rfl rfl
theorem g10_81 : z_go zP 10 81 [l0, l1, l2, l3, some (zl a), l5, l6] S q Q ↔ z_go zP 10 83 [l0, l1, l2, l3, some (zl a), l5, l6] (zl a :: S) q Q := ge_x (len := 2) (x := (0, 0, [])) p_10 rfl rfl
theorem g10_83 : z_go zP 10 83 L [zl a] q Q ↔ Q (.inl (some (zl a))) q := z_go_rt (len := 1) (x := (0, 0, [])) p_10 rfl rfl rfl
theorem g11_0 : z_go zP 11 0 [some (.ref u), l1, l2, l3, l4, l5, l6] S q Q ↔ z_go zP 11 1 [some (.ref u), l1, l2, l3, l4, l5, l6] (.ref u :: S) q Q := ge_x (len := 1) (x := (0, 0, [])) p_11 rfl rfl
theorem g11_1 : z_go zP 11 1 L (.ref u :: S) q Q ↔ ∃ v, z_get [1] 3 q.1 u = some v ∧ z_go zP 11 4 L (v :: S) q Q := ge_getf (len := 3) (x := (3, 0, [1])) p_11 rfl
theorem g11_4 : z_go zP 11 4 L S q Q ↔ z_go zP 11 6 L (zi 18 :: S) q Q := ge_x (len := 2) (x := (0, 0, [])) p_11 rfl rfl
theorem g11_6 : z_go zP 11 6 [l0, some (zi a), l2, l3, l4, l5, l6] S q Q ↔ z_go zP 11 7 [l0, some (zi a), l2, l3, l4, l5, l6] (zi a :: S) q Q := ge_x (len := 1) (x := (0, 0, [])) p_11 rfl rfl
theorem g11_7 : z_go zP 11 7 L (zi b :: zi a :: S) q Q ↔ z_go zP 11 8 L (zi (a + b) :: S) q Q := ge_iadd (len := 1) (x := (0, 0, [])) p_11 rfl
theorem g11_8 : z_go zP 11 8 L (zi a :: .ref u :: S) q Q ↔ ∃ v, z_at [101] q.1 u (Int32.ofInt a) = some v ∧ z_go zP 11 9 L (v :: S) q Q := ge_lald (len := 1) (x := (0, 0, [])) p_11 rfl
theorem g11_9 : z_go zP 11 9 L (zl a :: S) q Q ↔ z_go zP 11 10 L (zi a :: S) q Q := ge_l2i (len := 1) (x := (0, 0, [])) p_11 rfl
theorem g11_10 : z_go zP 11 10 [l0, l1, l2, l3, l4, l5, l6] (zi a :: S) q Q ↔ z_go zP 11 12 [l0, l1, l2, l3, (zkl l4), some (zi a), l6] S q Q := (by cases l4 with | none => exact ge_x (len := 2) (x := (0, 0, [])) p_11 rfl rfl | some v => cases v <;> exact ge_x (len := 2) (x := (0, 0, [])) p_11 rfl rfl)
theorem g11_12 : z_go zP 11 12 [l0, l1, l2, l3, l4, some (zi a), l6] S q Q ↔ z_go zP 11 14 [l0, l1, l2, l3, l4, some (zi a), l6] (zi a :: S) q Q := ge_x (len := 2) (x := (0, 0, [])) p_11 rfl rfl
theorem g11_14 (a1 : -2147483648 ≤ a) (a2 : a < 2147483648) : z_go zP 11 14 L (zi a :: S) q Q ↔ if a < 0 then z_go zP 11 23 L S q Q else z_go zP 11 17 L S q Q := ge_if_lt (len := 3) (x := (0, 0, [])) a1 a2 p_11 rfl rfl
theorem g11_17 : z_go zP 11 17 [l0, l1, l2, l3, l4, some (zi a), l6] S q Q ↔ z_go zP 11 19 [l0, l1, l2, l3, l4, some (zi a), l6] (zi a :: S) q Q := ge_x (len := 2) (x := (0, 0, [])) p_11 rfl rfl
theorem g11_19 : z_go zP 11 19 L S q Q ↔ z_go zP 11 20 L (zi 2 :: S) q Q := ge_x (len := 1) (x := (0, 0, [])) p_11 rfl rfl
theorem g11_20 (a1 : -2147483648 ≤ a) (a2 : a < 2147483648) (b1 : -2147483648 ≤ b) (b2 : b < 2147483648) : z_go zP 11 20 L (zi b :: zi a :: S) q Q ↔ if a < b then z_go zP 11 24 L S q Q else z_go zP 11 23 L S q Q := ge_ic_lt (len := 3) (x := (0, 0, [])) a1 a2 b1 b2 p_11 rfl rfl
theorem g11_23 : z_go zP 11 23 L [] q Q ↔ Q (.inl none) q := z_go_rt (len := 1) (x := (0, 0, [])) p_11 rfl rfl rfl
theorem g11_24 : z_go zP 11 24 L S q Q ↔ z_go zP 11 26 L (zi 20 :: S) q Q := ge_x (len := 2) (x := (0, 0, [])) p_11 rfl rfl
theorem g11_26 : z_go zP 11 26 [l0, some (zi a), l2, l3, l4, l5, l6] S q Q ↔ z_go zP 11 27 [l0, some (zi a), l2, l3, l4, l5, l6] (zi a :: S) q Q := ge_x (len := 1) (x := (0, 0, [])) p_11 rfl rfl
theorem g11_27 : z_go zP 11 27 L S q Q ↔ z_go zP 11 28 L (zi 4 :: S) q Q := ge_x (len := 1) (x := (0, 0, [])) p_11 rfl rfl
theorem g11_28 : z_go zP 11 28 L (zi b :: zi a :: S) q Q ↔ z_go zP 11 29 L (zi (a * b) :: S) q Q := ge_imul (len := 1) (x := (0, 0, [])) p_11 rfl
theorem g11_29 : z_go zP 11 29 L (zi b :: zi a :: S) q Q ↔ z_go zP 11 30 L (zi (a + b) :: S) q Q := ge_iadd (len := 1) (x := (0, 0, [])) p_11 rfl
theorem g11_30 : z_go zP 11 30 L S q Q ↔ z_go zP 11 31 L (zi 2 :: S) q Q := ge_x (len := 1) (x := (0, 0, [])) p_11 rfl rfl
theorem g11_31 : z_go zP 11 31 [l0, l1, l2, l3, l4, some (zi a), l6] S q Q ↔ z_go zP 11 33 [l0, l1, l2, l3, l4, some (zi a), l6] (zi a :: S) q Q := ge_x (len := 2) (x := (0, 0, [])) p_11 rfl rfl
theorem g11_33 : z_go zP 11 33 L (zi b :: zi a :: S) q Q ↔ z_go zP 11 34 L (zi (a * b) :: S) q Q := ge_imul (len := 1) (x := (0, 0, [])) p_11 rfl
theorem g11_34 : z_go zP 11 34 L (zi b :: zi a :: S) q Q ↔ z_go zP 11 35 L (zi (a + b) :: S) q Q := ge_iadd (len := 1) (x := (0, 0, [])) p_11 rfl
theorem g11_35 : z_go zP 11 35 [l0, l1, l2, l3, l4, l5, l6] (zi a :: S) q Q ↔ z_go zP 11 37 [l0, l1, l2, l3, l4, (zkl l5), some (zi a)] S q Q := (by cases l5 with | none => exact ge_x (len := 2) (x := (0, 0, [])) p_11 rfl rfl | some v => cases v <;> exact ge_x (len := 2) (x := (0, 0, [])) p_11 rfl rfl)
theorem g11_37 : z_go zP 11 37 [some (.ref u), l1, l2, l3, l4, l5, l6] S q Q ↔ z_go zP 11 38 [some (.ref u), l1, l2, l3, l4, l5, l6] (.ref u :: S) q Q := ge_x (len := 1) (x := (0, 0, [])) p_11 rfl rfl
theorem g11_38 : z_go zP 11 38 L (.ref u :: S) q Q ↔ ∃ v, z_get [1] 3 q.1 u = some v ∧ z_go zP 11 41 L (v :: S) q Q := ge_getf (len := 3) (x := (3, 0, [1])) p_11 rfl
theorem g11_41 : z_go zP 11 41 [l0, l1, l2, l3, l4, l5, some (zi a)] S q Q ↔ z_go zP 11 43 [l0, l1, l2, l3, l4, l5, some (zi a)] (zi a :: S) q Q := ge_x (len := 2) (x := (0, 0, [])) p_11 rfl rfl
theorem g11_43 : z_go zP 11 43 [l0, l1, some (zi a), l3, l4, l5, l6] S q Q ↔ z_go zP 11 44 [l0, l1, some (zi a), l3, l4, l5, l6] (zi a :: S) q Q := ge_x (len := 1) (x := (0, 0, [])) p_11 rfl rfl
theorem g11_44 (a1 : -2147483648 ≤ a) (a2 : a < 2147483648) : z_go zP 11 44 L (zi a :: S) q Q ↔ z_go zP 11 45 L (zl a :: S) q Q := ge_i2l (len := 1) (x := (0, 0, [])) a1 a2 p_11 rfl
theorem g11_45 : z_go zP 11 45 L (zl b :: zi a :: .ref u :: S) q Q ↔ ∃ q1, z_st 101 q u (Int32.ofInt a) (zl b) = some q1 ∧ z_go zP 11 46 L S q1 Q := ge_last (len := 1) (x := (0, 0, [])) p_11 rfl
theorem g11_46 : z_go zP 11 46 [some (.ref u), l1, l2, l3, l4, l5, l6] S q Q ↔ z_go zP 11 47 [some (.ref u), l1, l2, l3, l4, l5, l6] (.ref u :: S) q Q := ge_x (len := 1) (x := (0, 0, [])) p_11 rfl rfl
theorem g11_47 : z_go zP 11 47 L (.ref u :: S) q Q ↔ ∃ v, z_get [1] 3 q.1 u = some v ∧ z_go zP 11 50 L (v :: S) q Q := ge_getf (len := 3) (x := (3, 0, [1])) p_11 rfl
theorem g11_50 : z_go zP 11 50 [l0, l1, l2, l3, l4, l5, some (zi a)] S q Q ↔ z_go zP 11 52 [l0, l1, l2, l3, l4, l5, some (zi a)] (zi a :: S) q Q := ge_x (len := 2) (x := (0, 0, [])) p_11 rfl rfl
theorem g11_52 : z_go zP 11 52 L S q Q ↔ z_go zP 11 53 L (zi 1 :: S) q Q := ge_x (len := 1) (x := (0, 0, [])) p_11 rfl rfl
theorem g11_53 : z_go zP 11 53 L (zi b :: zi a :: S) q Q ↔ z_go zP 11 54 L (zi (a + b) :: S) q Q := ge_iadd (len := 1) (x := (0, 0, [])) p_11 rfl
theorem g11_54 : z_go zP 11 54 [l0, l1, l2, some (zl a), l4, l5, l6] S q Q ↔ z_go zP 11 55 [l0, l1, l2, some (zl a), l4, l5, l6] (zl a :: S) q Q := ge_x (len := 1) (x := (0, 0, [])) p_11 rfl rfl
theorem g11_55 : z_go zP 11 55 L (zl b :: zi a :: .ref u :: S) q Q ↔ ∃ q1, z_st 101 q u (Int32.ofInt a) (zl b) = some q1 ∧ z_go zP 11 56 L S q1 Q := ge_last (len := 1) (x := (0, 0, [])) p_11 rfl
theorem g11_56 : z_go zP 11 56 [some (.ref u), l1, l2, l3, l4, l5, l6] S q Q ↔ z_go zP 11 57 [some (.ref u), l1, l2, l3, l4, l5, l6] (.ref u :: S) q Q := ge_x (len := 1) (x := (0, 0, [])) p_11 rfl rfl
theorem g11_57 : z_go zP 11 57 L (.ref u :: S) q Q ↔ ∃ v, z_get [1] 3 q.1 u = some v ∧ z_go zP 11 60 L (v :: S) q Q := ge_getf (len := 3) (x := (3, 0, [1])) p_11 rfl
theorem g11_60 : z_go zP 11 60 L S q Q ↔ z_go zP 11 62 L (zi 18 :: S) q Q := ge_x (len := 2) (x := (0, 0, [])) p_11 rfl rfl
theorem g11_62 : z_go zP 11 62 [l0, some (zi a), l2, l3, l4, l5, l6] S q Q ↔ z_go zP 11 63 [l0, some (zi a), l2, l3, l4, l5, l6] (zi a :: S) q Q := ge_x (len := 1) (x := (0, 0, [])) p_11 rfl rfl
theorem g11_63 : z_go zP 11 63 L (zi b :: zi a :: S) q Q ↔ z_go zP 11 64 L (zi (a + b) :: S) q Q := ge_iadd (len := 1) (x := (0, 0, [])) p_11 rfl
theorem g11_64 : z_go zP 11 64 [l0, l1, l2, l3, l4, some (zi a), l6] S q Q ↔ z_go zP 11 66 [l0, l1, l2, l3, l4, some (zi a), l6] (zi a :: S) q Q := ge_x (len := 2) (x := (0, 0, [])) p_11 rfl rfl
theorem g11_66 : z_go zP 11 66 L S q Q ↔ z_go zP 11 67 L (zi 1 :: S) q Q := ge_x (len := 1) (x := (0, 0, [])) p_11 rfl rfl
theorem g11_67 : z_go zP 11 67 L (zi b :: zi a :: S) q Q ↔ z_go zP 11 68 L (zi (a + b) :: S) q Q := ge_iadd (len := 1) (x := (0, 0, [])) p_11 rfl
theorem g11_68 (a1 : -2147483648 ≤ a) (a2 : a < 2147483648) : z_go zP 11 68 L (zi a :: S) q Q ↔ z_go zP 11 69 L (zl a :: S) q Q := ge_i2l (len := 1) (x := (0, 0, [])) a1 a2 p_11 rfl
theorem g11_69 : z_go zP 11 69 L (zl b :: zi a :: .ref u :: S) q Q ↔ ∃ q1, z_st 101 q u (Int32.ofInt a) (zl b) = some q1 ∧ z_go zP 11 70 L S q1 Q := ge_last (len := 1) (x := (0, 0, [])) p_11 rfl
theorem g11_70 : z_go zP 11 70 L [] q Q ↔ Q (.inl none) q := z_go_rt (len := 1) (x := (0, 0, [])) p_11 rfl rfl rfl
theorem g12_0 : z_go zP 12 0 [some (.ref u), l1, l2, l3, l4] S q Q ↔ z_go zP 12 1 [some (.ref u), l1, l2, l3, l4] (.ref u :: S) q Q := ge_x (len := 1) (x := (0, 0, [])) p_12 rfl rfl
theorem g12_1 : z_go zP 12 1 [l0, some (zi a), l2, l3, l4] S q Q ↔ z_go zP 12 2 [l0, some (zi a), l2, l3, l4] (zi a :: S) q Q := ge_x (len := 1) (x := (0, 0, [])) p_12 rfl rfl
theorem g12_2 : z_go zP 12 2 L [zi x0, .ref u] q Q ↔ z_tg q.1 u = some 1 ∧ z_go zP 13 0 [some (.ref u), some (zi x0)] [] q (zc 12 5 L [] Q) := ge_vc (len := 3) (pc := 2) (S := [zi x0, .ref u]) (u := u) (k1 := 13) (A := [.ref u, zi x0]) (r := []) (tag := 1) (n0 := 1) (zwb_le (by show 0 ≤ 4; omega)) p_12 rfl rfl rfl p_13 (by show 2 ≤ 2; omega) rfl
theorem g12_5 : z_go zP 12 5 L S q Q ↔ z_go zP 12 7 L (zi 20 :: S) q Q := ge_x (len := 2) (x := (0, 0, [])) p_12 rfl rfl
theorem g12_7 : z_go zP 12 7 [l0, l1, some (zi a), l3, l4] S q Q ↔ z_go zP 12 8 [l0, l1, some (zi a), l3, l4] (zi a :: S) q Q := ge_x (len := 1) (x := (0, 0, [])) p_12 rfl rfl
theorem g12_8 : z_go zP 12 8 L S q Q ↔ z_go zP 12 9 L (zi 4 :: S) q Q := ge_x (len := 1) (x := (0, 0, [])) p_12 rfl rfl
theorem g12_9 : z_go zP 12 9 L (zi b :: zi a :: S) q Q ↔ z_go zP 12 10 L (zi (a * b) :: S) q Q := ge_imul (len := 1) (x := (0, 0, [])) p_12 rfl
theorem g12_10 : z_go zP 12 10 L (zi b :: zi a :: S) q Q ↔ z_go zP 12 11 L (zi (a + b) :: S) q Q := ge_iadd (len := 1) (x := (0, 0, [])) p_12 rfl
theorem g12_11 : z_go zP 12 11 [l0, l1, l2, l3, l4] (zi a :: S) q Q ↔ z_go zP 12 12 [l0, l1, (zkl l2), some (zi a), l4] S q Q := (by cases l2 with | none => exact ge_x (len := 1) (x := (0, 0, [])) p_12 rfl rfl | some v => cases v <;> exact ge_x (len := 1) (x := (0, 0, [])) p_12 rfl rfl)
theorem g12_12 : z_go zP 12 12 [some (.ref u), l1, l2, l3, l4] S q Q ↔ z_go zP 12 13 [some (.ref u), l1, l2, l3, l4] (.ref u :: S) q Q := ge_x (len := 1) (x := (0, 0, [])) p_12 rfl rfl
theorem g12_13 : z_go zP 12 13 L (.ref u :: S) q Q ↔ ∃ v, z_get [1] 3 q.1 u = some v ∧ z_go zP 12 16 L (v :: S) q Q := ge_getf (len := 3) (x := (3, 0, [1])) p_12 rfl
theorem g12_16 : z_go zP 12 16 [l0, l1, l2, some (zi a), l4] S q Q ↔ z_go zP 12 17 [l0, l1, l2, some (zi a), l4] (zi a :: S) q Q := ge_x (len := 1) (x := (0, 0, [])) p_12 rfl rfl
theorem g12_17 : z_go zP 12 17 L (zi a :: .ref u :: S) q Q ↔ ∃ v, z_at [101] q.1 u (Int32.ofInt a) = some v ∧ z_go zP 12 18 L (v :: S) q Q := ge_lald (len := 1) (x := (0, 0, [])) p_12 rfl
theorem g12_18 : z_go zP 12 18 L (zl a :: S) q Q ↔ z_go zP 12 19 L (zi a :: S) q Q := ge_l2i (len := 1) (x := (0, 0, [])) p_12 rfl
theorem g12_19 : z_go zP 12 19 [l0, l1, l2, l3, l4] (zi a :: S) q Q ↔ z_go zP 12 21 [l0, l1, l2, (zkl l3), some (zi a)] S q Q := (by cases l3 with | none => exact ge_x (len := 2) (x := (0, 0, [])) p_12 rfl rfl | some v => cases v <;> exact ge_x (len := 2) (x := (0, 0, [])) p_12 rfl rfl)
theorem g12_21 : z_go zP 12 21 [some (.ref u), l1, l2, l3, l4] S q Q ↔ z_go zP 12 22 [some (.ref u), l1, l2, l3, l4] (.ref u :: S) q Q := ge_x (len := 1) (x := (0, 0, [])) p_12 rfl rfl
theorem g12_22 : z_go zP 12 22 L (.ref u :: S) q Q ↔ ∃ v, z_get [1] 3 q.1 u = some v ∧ z_go zP 12 25 L (v :: S) q Q := ge_getf (len := 3) (x := (3, 0, [1])) p_12 rfl
theorem g12_25 : z_go zP 12 25 L S q Q ↔ z_go zP 12 27 L (zi 18 :: S) q Q := ge_x (len := 2) (x := (0, 0, [])) p_12 rfl rfl
theorem g12_27 : z_go zP 12 27 [l0, l1, some (zi a), l3, l4] S q Q ↔ z_go zP 12 28 [l0, l1, some (zi a), l3, l4] (zi a :: S) q Q := ge_x (len := 1) (x := (0, 0, [])) p_12 rfl rfl
theorem g12_28 : z_go zP 12 28 L (zi b :: zi a :: S) q Q ↔ z_go zP 12 29 L (zi (a + b) :: S) q Q := ge_iadd (len := 1) (x := (0, 0, [])) p_12 rfl
theorem g12_29 : z_go zP 12 29 L (zi a :: .ref u :: S) q Q ↔ ∃ v, z_at [101] q.1 u (Int32.ofInt a) = some v ∧ z_go zP 12 30 L (v :: S) q Q := ge_lald (len := 1) (x := (0, 0, [])) p_12 rfl
theorem g12_30 : z_go zP 12 30 L S q Q ↔ z_go zP 12 31 L (zl 1 :: S) q Q := ge_x (len := 1) (x := (0, 0, [])) p_12 rfl rfl
theorem g12_31 (a1 : -9223372036854775808 ≤ a) (a2 : a < 9223372036854775808) (b1 : -9223372036854775808 ≤ b) (b2 : b < 9223372036854775808) : z_go zP 12 31 L (zl b :: zl a :: S) q Q ↔ if a < b then z_go zP 12 46 L S q Q else z_go zP 12 35 L S q Q := ge_lc_lt (len := 1) (x := (0, 0, [])) (p2 := 32) (l2 := 3) a1 a2 b1 b2 p_12 rfl rfl rfl rfl
theorem g12_35 : z_go zP 12 35 [l0, l1, l2, l3, some (zi a)] S q Q ↔ z_go zP 12 37 [l0, l1, l2, l3, some (zi a)] (zi a :: S) q Q := ge_x (len := 2) (x := (0, 0, [])) p_12 rfl rfl
theorem g12_37 : z_go zP 12 37 L S q Q ↔ z_go zP 12 38 L (zi 0 :: S) q Q := ge_x (len := 1) (x := (0, 0, [])) p_12 rfl rfl
theorem g12_38 : z_go zP 12 38 L S q Q ↔ z_go zP 12 40 L (zi 7 :: S) q Q := ge_x (len := 2) (x := (0, 0, [])) p_12 rfl rfl
theorem g12_40 : z_go zP 12 40 L [zi x2, zi x1, zi x0] q Q ↔ z_go zP 76 0 [some (zi x0), some (zi x1), some (zi x2)] [] q (zd 12 43 L [] Q) := (z_go_cl (len := 3) (x := (76, 4, [3])) (k1 := 76) (A := [zi x0, zi x1, zi x2]) (r := []) p_12 rfl rfl rfl rfl (by simp only [z_cl, List.drop]; rw [if_pos]; rfl; exact by first | exact ⟨by decide, (zwb_le (by show 0 ≤ 4; omega))⟩ | exact ⟨by decide, by show 3 ≤ 3; omega, (zwb_le (by show 0 ≤ 4; omega))⟩) p_76 (by show 3 ≤ 3; omega)).trans (ge_bk_d rfl)
theorem g12_43 (a1 : -2147483648 ≤ a) (a2 : a < 2147483648) : z_go zP 12 43 L (zi a :: S) q Q ↔ if a = 0 then z_go zP 12 48 L S q Q else z_go zP 12 46 L S q Q := ge_if_eq (len := 3) (x := (0, 0, [])) a1 a2 p_12 rfl rfl
theorem g12_43b {c : Prop} [Decidable c] : z_go zP 12 43 L (zi (bI c) :: S) q Q ↔ if c then z_go zP 12 46 L S q Q else z_go zP 12 48 L S q Q := ge_if_eq_b (len := 3) (x := (0, 0, [])) p_12 rfl rfl
theorem g12_46 : z_go zP 12 46 L S q Q ↔ z_go zP 12 47 L (zi 0 :: S) q Q := ge_x (len := 1) (x := (0, 0, [])) p_12 rfl rfl
theorem g12_47_0 : z_go zP 12 47 L [zi 0] q Q ↔ Q (.inl (some (zi 0))) q := z_go_rt (len := 1) (x := (0, 0, [])) p_12 rfl rfl rfl
theorem g12_47_1 : z_go zP 12 47 L [zi 1] q Q ↔ Q (.inl (some (zi 1))) q := z_go_rt (len := 1) (x := (0, 0, [])) p_12 rfl rfl rfl
theorem g12_47b {c : Prop} [Decidable c] : z_go zP 12 47 L [zi (bI c)] q Q ↔ Q (.inl (some (zi (bI c)))) q := (by rcases bI_01 (c := c) with h | h <;> rw [h] <;> exact z_go_rt (len := 1) (x := (0, 0, [])) p_12 rfl rfl rfl)
theorem g12_48 : z_go zP 12 48 [some (.ref u), l1, l2, l3, l4] S q Q ↔ z_go zP 12 49 [some (.ref u), l1, l2, l3, l4] (.ref u :: S) q Q := ge_x (len := 1) (x := (0, 0, [])) p_12 rfl rfl
theorem g12_49 : z_go zP 12 49 L (.ref u :: S) q Q ↔ ∃ v, z_get [1] 3 q.1 u = some v ∧ z_go zP 12 52 L (v :: S) q Q := ge_getf (len := 3) (x := (3, 0, [1])) p_12 rfl
theorem g12_52 : z_go zP 12 52 L S q Q ↔ z_go zP 12 54 L (zi 10 :: S) q Q := ge_x (len := 2) (x := (0, 0, [])) p_12 rfl rfl
theorem g12_54 : z_go zP 12 54 [l0, l1, l2, l3, some (zi a)] S q Q ↔ z_go zP 12 56 [l0, l1, l2, l3, some (zi a)] (zi a :: S) q Q := ge_x (len := 2) (x := (0, 0, [])) p_12 rfl rfl
theorem g12_56 : z_go zP 12 56 L (zi b :: zi a :: S) q Q ↔ z_go zP 12 57 L (zi (a + b) :: S) q Q := ge_iadd (len := 1) (x := (0, 0, [])) p_12 rfl
theorem g12_57 : z_go zP 12 57 [some (.ref u), l1, l2, l3, l4] S q Q ↔ z_go zP 12 58 [some (.ref u), l1, l2, l3, l4] (.ref u :: S) q Q := ge_x (len := 1) (x := (0, 0, [])) p_12 rfl rfl
theorem g12_58 : z_go zP 12 58 L (.ref u :: S) q Q ↔ ∃ v, z_get [1] 3 q.1 u = some v ∧ z_go zP 12 61 L (v :: S) q Q := ge_getf (len := 3) (x := (3, 0, [1])) p_12 rfl
theorem g12_61 : z_go zP 12 61 [l0, l1, l2, some (zi a), l4] S q Q ↔ z_go zP 12 62 [l0, l1, l2, some (zi a), l4] (zi a :: S) q Q := ge_x (len := 1) (x := (0, 0, [])) p_12 rfl rfl
theorem g12_62 : z_go zP 12 62 L S q Q ↔ z_go zP 12 63 L (zi 1 :: S) q Q := ge_x (len := 1) (x := (0, 0, [])) p_12 rfl rfl
theorem g12_63 : z_go zP 12 63 L (zi b :: zi a :: S) q Q ↔ z_go zP 12 64 L (zi (a + b) :: S) q Q := ge_iadd (len := 1) (x := (0, 0, [])) p_12 rfl
theorem g12_64 : z_go zP 12 64 L (zi a :: .ref u :: S) q Q ↔ ∃ v, z_at [101] q.1 u (Int32.ofInt a) = some v ∧ z_go zP 12 65 L (v :: S) q Q := ge_lald (len := 1) (x := (0, 0, [])) p_12 rfl
theorem g12_65 : z_go zP 12 65 L (zl b :: zi a :: .ref u :: S) q Q ↔ ∃ q1, z_st 101 q u (Int32.ofInt a) (zl b) = some q1 ∧ z_go zP 12 66 L S q1 Q := ge_last (len := 1) (x := (0, 0, [])) p_12 rfl
theorem g12_66 : z_go zP 12 66 [some (.ref u), l1, l2, l3, l4] S q Q ↔ z_go zP 12 67 [some (.ref u), l1, l2, l3, l4] (.ref u :: S) q Q := ge_x (len := 1) (x := (0, 0, [])) p_12 rfl rfl
theorem g12_67 : z_go zP 12 67 L (.ref u :: S) q Q ↔ ∃ v, z_get [1] 3 q.1 u = some v ∧ z_go zP 12 70 L (v :: S) q Q := ge_getf (len := 3) (x := (3, 0, [1])) p_12 rfl
theorem g12_70 : z_go zP 12 70 [l0, l1, l2, some (zi a), l4] S q Q ↔ z_go zP 12 71 [l0, l1, l2, some (zi a), l4] (zi a :: S) q Q := ge_x (len := 1) (x := (0, 0, [])) p_12 rfl rfl
theorem g12_71 : z_go zP 12 71 L S q Q ↔ z_go zP 12 72 L (zi 2 :: S) q Q := ge_x (len := 1) (x := (0, 0, [])) p_12 rfl rfl
theorem g12_72 : z_go zP 12 72 L (zi b :: zi a :: S) q Q ↔ z_go zP 12 73 L (zi (a + b) :: S) q Q := ge_iadd (len := 1) (x := (0, 0, [])) p_12 rfl
theorem g12_73 : z_go zP 12 73 [some (.ref u), l1, l2, l3, l4] S q Q ↔ z_go zP 12 74 [some (.ref u), l1, l2, l3, l4] (.ref u :: S) q Q := ge_x (len := 1) (x := (0, 0, [])) p_12 rfl rfl
theorem g12_74 : z_go zP 12 74 L (.ref u :: S) q Q ↔ ∃ v, z_get [1] 3 q.1 u = some v ∧ z_go zP 12 77 L (v :: S) q Q := ge_getf (len := 3) (x := (3, 0, [1])) p_12 rfl
theorem g12_77 : z_go zP 12 77 [l0, l1, l2, some (zi a), l4] S q Q ↔ z_go zP 12 78 [l0, l1, l2, some (zi a), l4] (zi a :: S) q Q := ge_x (len := 1) (x := (0, 0, [])) p_12 rfl rfl
theorem g12_78 : z_go zP 12 78 L S q Q ↔ z_go zP 12 79 L (zi 2 :: S) q Q := ge_x (len := 1) (x := (0, 0, [])) p_12 rfl rfl
theorem g12_79 : z_go zP 12 79 L [zi e, zi d, .ref u2, zi c, .ref u] q Q ↔ ∃ q1, z_cpy q u (Int32.ofInt c) u2 (Int32.ofInt d) (Int32.ofInt e) = some q1 ∧ z_go zP 12 82 L [] q1 Q := ge_acp (len := 3) (x := (0, 8, [])) (by show 0 ≤ 4; omega) rfl p_12 rfl
theorem g12_82 : z_go zP 12 82 [some (.ref u), l1, l2, l3, l4] S q Q ↔ z_go zP 12 83 [some (.ref u), l1, l2, l3, l4] (.ref u :: S) q Q := ge_x (len := 1) (x := (0, 0, [])) p_12 rfl rfl
theorem g12_83 : z_go zP 12 83 L (.ref u :: S) q Q ↔ ∃ v, z_get [1] 3 q.1 u = some v ∧ z_go zP 12 86 L (v :: S) q Q := ge_getf (len := 3) (x := (3, 0, [1])) p_12 rfl
theorem g12_86 : z_go zP 12 86 [l0, l1, l2, some (zi a), l4] S q Q ↔ z_go zP 12 87 [l0, l1, l2, some (zi a), l4] (zi a :: S) q Q := ge_x (len := 1) (x := (0, 0, [])) p_12 rfl rfl
theorem g12_87 : z_go zP 12 87 L S q Q ↔ z_go zP 12 88 L (zi 4 :: S) q Q := ge_x (len := 1) (x := (0, 0, [])) p_12 rfl rfl
theorem g12_88 : z_go zP 12 88 L (zi b :: zi a :: S) q Q ↔ z_go zP 12 89 L (zi (a + b) :: S) q Q := ge_iadd (len := 1) (x := (0, 0, [])) p_12 rfl
theorem g12_89 : z_go zP 12 89 L S q Q ↔ z_go zP 12 90 L (zi 2 :: S) q Q := ge_x (len := 1) (x := (0, 0, [])) p_12 rfl rfl
theorem g12_90 : z_go zP 12 90 L (zi b :: zi a :: S) q Q ↔ z_go zP 12 91 L (zi (a - b) :: S) q Q := ge_isub (len := 1) (x := (0, 0, [])) p_12 rfl
theorem g12_91 : z_go zP 12 91 L S q Q ↔ z_go zP 12 92 L (zl 0 :: S) q Q := ge_x (len := 1) (x := (0, 0, [])) p_12 rfl rfl
theorem g12_92 : z_go zP 12 92 L (zl b :: zi a :: .ref u :: S) q Q ↔ ∃ q1, z_st 101 q u (Int32.ofInt a) (zl b) = some q1 ∧ z_go zP 12 93 L S q1 Q := ge_last (len := 1) (x := (0, 0, [])) p_12 rfl
theorem g12_93 : z_go zP 12 93 [some (.ref u), l1, l2, l3, l4] S q Q ↔ z_go zP 12 94 [some (.ref u), l1, l2, l3, l4] (.ref u :: S) q Q := ge_x (len := 1) (x := (0, 0, [])) p_12 rfl rfl
theorem g12_94 : z_go zP 12 94 L (.ref u :: S) q Q ↔ ∃ v, z_get [1] 3 q.1 u = some v ∧ z_go zP 12 97 L (v :: S) q Q := ge_getf (len := 3) (x := (3, 0, [1])) p_12 rfl
theorem g12_97 : z_go zP 12 97 [l0, l1, l2, some (zi a), l4] S q Q ↔ z_go zP 12 98 [l0, l1, l2, some (zi a), l4] (zi a :: S) q Q := ge_x (len := 1) (x := (0, 0, [])) p_12 rfl rfl
theorem g12_98 : z_go zP 12 98 L S q Q ↔ z_go zP 12 99 L (zi 4 :: S) q Q := ge_x (len := 1) (x := (0, 0, [])) p_12 rfl rfl
theorem g12_99 : z_go zP 12 99 L (zi b :: zi a :: S) q Q ↔ z_go zP 12 100 L (zi (a + b) :: S) q Q := ge_iadd (len := 1) (x := (0, 0, [])) p_12 rfl
theorem g12_100 : z_go zP 12 100 L S q Q ↔ z_go zP 12 101 L (zi 1 :: S) q Q := ge_x (len := 1) (x := (0, 0, [])) p_12 rfl rfl
theorem g12_101 : z_go zP 12 101 L (zi b :: zi a :: S) q Q ↔ z_go zP 12 102 L (zi (a - b) :: S) q Q := ge_isub (len := 1) (x := (0, 0, [])) p_12 rfl
theorem g12_102 : z_go zP 12 102 L S q Q ↔ z_go zP 12 103 L (zl 0 :: S) q Q := ge_x (len := 1) (x := (0, 0, [])) p_12 rfl rfl
theorem g12_103 : z_go zP 12 103 L (zl b :: zi a :: .ref u :: S) q Q ↔ ∃ q1, z_st 101 q u (Int32.ofInt a) (zl b) = some q1 ∧ z_go zP 12 104 L S q1 Q := ge_last (len := 1) (x := (0, 0, [])) p_12 rfl
theorem g12_104 : z_go zP 12 104 [some (.ref u), l1, l2, l3, l4] S q Q ↔ z_go zP 12 105 [some (.ref u), l1, l2, l3, l4] (.ref u :: S) q Q := ge_x (len := 1) (x := (0, 0, [])) p_12 rfl rfl
theorem g12_105 : z_go zP 12 105 L (.ref u :: S) q Q ↔ ∃ v, z_get [1] 3 q.1 u = some v ∧ z_go zP 12 108 L (v :: S) q Q := ge_getf (len := 3) (x := (3, 0, [1])) p_12 rfl
theorem g12_108 : z_go zP 12 108 L S q Q ↔ z_go zP 12 110 L (zi 18 :: S) q Q := ge_x (len := 2) (x := (0, 0, [])) p_12 rfl rfl
theorem g12_110 : z_go zP 12 110 [l0, l1, some (zi a), l3, l4] S q Q ↔ z_go zP 12 111 [l0, l1, some (zi a), l3, l4] (zi a :: S) q Q := ge_x (len := 1) (x := (0, 0, [])) p_12 rfl rfl
theorem g12_111 : z_go zP 12 111 L (zi b :: zi a :: S) q Q ↔ z_go zP 12 112 L (zi (a + b) :: S) q Q := ge_iadd (len := 1) (x := (0, 0, [])) p_12 rfl
theorem g12_112 : z_go zP 12 112 L (zi a :: .ref u :: S) q Q ↔ z_go zP 12 113 L (zi a :: .ref u :: zi a :: .ref u :: S) q Q := ge_x (len := 1) (x := (0, 0, [])) p_12 rfl rfl
theorem g12_113 : z_go zP 12 113 L (zi a :: .ref u :: S) q Q ↔ ∃ v, z_at [101] q.1 u (Int32.ofInt a) = some v ∧ z_go zP 12 114 L (v :: S) q Q := ge_lald (len := 1) (x := (0, 0, [])) p_12 rfl
theorem g12_114 : z_go zP 12 114 L S q Q ↔ z_go zP 12 115 L (zl 1 :: S) q Q := ge_x (len := 1) (x := (0, 0, [])) p_12 rfl rfl
theorem g12_115 : z_go zP 12 115 L (zl b :: zl a :: S) q Q ↔ z_go zP 12 116 L (zl (a - b) :: S) q Q := ge_lsub (len := 1) (x := (0, 0, [])) p_12 rfl
theorem g12_116 : z_go zP 12 116 L (zl b :: zi a :: .ref u :: S) q Q ↔ ∃ q1, z_st 101 q u (Int32.ofInt a) (zl b) = some q1 ∧ z_go zP 12 117 L S q1 Q := ge_last (len := 1) (x := (0, 0, [])) p_12 rfl
theorem g12_117 : z_go zP 12 117 [some (.ref u), l1, l2, l3, l4] S q Q ↔ z_go zP 12 118 [some (.ref u), l1, l2, l3, l4] (.ref u :: S) q Q := ge_x (len := 1) (x := (0, 0, [])) p_12 rfl rfl
theorem g12_118 : z_go zP 12 118 L [.ref u] q Q ↔ z_tg q.1 u = some 1 ∧ z_go zP 14 0 [some (.ref u), none, none, none] [] q (zc 12 121 L [] Q) := ge_vc (len := 3) (pc := 118) (S := [.ref u]) (u := u) (k1 := 14) (A := [.ref u]) (r := []) (tag := 1) (n0 := 0) (zwb_le (by show 0 ≤ 4; omega)) p_12 rfl rfl rfl p_14 (by show 1 ≤ 4; omega) rfl
theorem g12_121 : z_go zP 12 121 L S q Q ↔ z_go zP 12 122 L (zi 1 :: S) q Q := ge_x (len := 1) (x := (0, 0, [])) p_12 rfl rfl
theorem g12_122_0 : z_go zP 12 122 L [zi 0] q Q ↔ Q (.inl (some (zi 0))) q := z_go_rt (len := 1) (x := (0, 0, [])) p_12 rfl rfl rfl
theorem g12_122_1 : z_go zP 12 122 L [zi 1] q Q ↔ Q (.inl (some (zi 1))) q := z_go_rt (len := 1) (x := (0, 0, [])) p_12 rfl rfl rfl
theorem g12_122b {c : Prop} [Decidable c] : z_go zP 12 122 L [zi (bI c)] q Q ↔ Q (.inl (some (zi (bI c)))) q := (by rcases bI_01 (c := c) with h | h <;> rw [h] <;> exact z_go_rt (len := 1) (x := (0, 0, [])) p_12 rfl rfl rfl)
theorem g13_0 : z_go zP 13 0 [some (.ref u), l1] S q Q ↔ z_go zP 13 1 [some (.ref u), l1] (.ref u :: S) q Q := ge_x (len := 1) (x := (0, 0, [])) p_13 rfl rfl
theorem g13_1 : z_go zP 13 1 L (.ref u :: S) q Q ↔ ∃ v, z_get [1] 0 q.1 u = some v ∧ z_go zP 13 4 L (v :: S) q Q := ge_getf (len := 3) (x := (0, 0, [1])) p_13 rfl
theorem g13_4 : z_go zP 13 4 [l0, some (zi a)] S q Q ↔ z_go zP 13 5 [l0, some (zi a)] (zi a :: S) q Q := ge_x (len := 1) (x := (0, 0, [])) p_13 rfl rfl
theorem g13_5 : z_go zP 13 5 L S q Q ↔ z_go zP 13 7 L (zi 28 :: S) q Q := ge_x (len := 2) (x := (0, 0, [])) p_13 rfl rfl
theorem g13_7 : z_go zP 13 7 L (zi b :: zi a :: S) q Q ↔ z_go zP 13 8 L (zi (a * b) :: S) q Q := ge_imul (len := 1) (x := (0, 0, [])) p_13 rfl
theorem g13_8 : z_go zP 13 8 [some (.ref u), l1] S q Q ↔ z_go zP 13 9 [some (.ref u), l1] (.ref u :: S) q Q := ge_x (len := 1) (x := (0, 0, [])) p_13 rfl rfl
theorem g13_9 : z_go zP 13 9 L (.ref u :: S) q Q ↔ ∃ v, z_get [1] 3 q.1 u = some v ∧ z_go zP 13 12 L (v :: S) q Q := ge_getf (len := 3) (x := (3, 0, [1])) p_13 rfl
theorem g13_12 : z_go zP 13 12 L S q Q ↔ z_go zP 13 13 L (zi 0 :: S) q Q := ge_x (len := 1) (x := (0, 0, [])) p_13 rfl rfl
theorem g13_13 : z_go zP 13 13 L S q Q ↔ z_go zP 13 15 L (zi 28 :: S) q Q := ge_x (len := 2) (x := (0, 0, [])) p_13 rfl rfl
theorem g13_15 : z_go zP 13 15 L [zi e, zi d, .ref u2, zi c, .ref u] q Q ↔ ∃ q1, z_cpy q u (Int32.ofInt c) u2 (Int32.ofInt d) (Int32.ofInt e) = some q1 ∧ z_go zP 13 18 L [] q1 Q := ge_acp (len := 3) (x := (0, 8, [])) (by show 0 ≤ 4; omega) rfl p_13 rfl
theorem g13_18 : z_go zP 13 18 L [] q Q ↔ Q (.inl none) q := z_go_rt (len := 1) (x := (0, 0, [])) p_13 rfl rfl rfl
theorem g14_0 : z_go zP 14 0 [some (.ref u), l1, l2, l3] S q Q ↔ z_go zP 14 1 [some (.ref u), l1, l2, l3] (.ref u :: S) q Q := ge_x (len := 1) (x := (0, 0, [])) p_14 rfl rfl
theorem g14_1 : z_go zP 14 1 L [.ref u] q Q ↔ z_tg q.1 u = some 1 ∧ z_go zP 16 0 [some (.ref u), none, none, none] [] q (zc 14 4 L [] Q) := ge_vc (len := 3) (pc := 1) (S := [.ref u]) (u := u) (k1 := 16) (A := [.ref u]) (r := []) (tag := 1) (n0 := 0) (zwb_le (by show 0 ≤ 4; omega)) p_14 rfl rfl rfl p_16 (by show 1 ≤ 4; omega) rfl
theorem g14_4 : z_go zP 14 4 [l0, l1, l2, l3] (zi a :: S) q Q ↔ z_go zP 14 5 [(zkl l0), some (zi a), l2, l3] S q Q := (by cases l0 with | none => exact ge_x (len := 1) (x := (0, 0, [])) p_14 rfl rfl | some v => cases v <;> exact ge_x (len := 1) (x := (0, 0, [])) p_14 rfl rfl)
theorem g14_5 : z_go zP 14 5 L S q Q ↔ z_go zP 14 6 L (zi 0 :: S) q Q := ge_x (len := 1) (x := (0, 0, [])) p_14 rfl rfl
theorem g14_6 : z_go zP 14 6 [l0, l1, l2, l3] (zi a :: S) q Q ↔ z_go zP 14 7 [l0, (zkl l1), some (zi a), l3] S q Q := (by cases l1 with | none => exact ge_x (len := 1) (x := (0, 0, [])) p_14 rfl rfl | some v => cases v <;> exact ge_x (len := 1) (x := (0, 0, [])) p_14 rfl rfl)
theorem g14_7 : z_go zP 14 7 [l0, l1, some (zi a), l3] S q Q ↔ z_go zP 14 8 [l0, l1, some (zi a), l3] (zi a :: S) q Q := ge_x (len := 1) (x := (0, 0, [])) p_14 rfl rfl
theorem g14_8 : z_go zP 14 8 L S q Q ↔ z_go zP 14 11 L (zi 4096 :: S) q Q := ge_x (len := 3) (x := (0, 0, [])) p_14 rfl rfl
theorem g14_11 (a1 : -2147483648 ≤ a) (a2 : a < 2147483648) (b1 : -2147483648 ≤ b) (b2 : b < 2147483648) : z_go zP 14 11 L (zi b :: zi a :: S) q Q ↔ if b ≤ a then z_go zP 14 59 L S q Q else z_go zP 14 14 L S q Q := ge_ic_ge (len := 3) (x := (0, 0, [])) a1 a2 b1 b2 p_14 rfl rfl
theorem g14_14 : z_go zP 14 14 [l0, some (zi a), l2, l3] S q Q ↔ z_go zP 14 15 [l0, some (zi a), l2, l3] (zi a :: S) q Q := ge_x (len := 1) (x := (0, 0, [])) p_14 rfl rfl
theorem g14_15 : z_go zP 14 15 [l0, l1, some (zi a), l3] S q Q ↔ z_go zP 14 16 [l0, l1, some (zi a), l3] (zi a :: S) q Q := ge_x (len := 1) (x := (0, 0, [])) p_14 rfl rfl
theorem g14_16 : z_go zP 14 16 L (zi b :: zi a :: S) q Q ↔ z_go zP 14 17 L (zi (a + b) :: S) q Q := ge_iadd (len := 1) (x := (0, 0, [])) p_14 rfl
theorem g14_17 : z_go zP 14 17 L S q Q ↔ z_go zP 14 20 L (zi 4095 :: S) q Q := ge_x (len := 3) (x := (0, 0, [])) p_14 rfl rfl
theorem g14_20 : z_go zP 14 20 L (zi b :: zi a :: S) q Q ↔ z_go zP 14 21 L (zi (iand a b) :: S) q Q := ge_iand (len := 1) (x := (0, 0, [])) p_14 rfl
theorem g14_21 : z_go zP 14 21 [l0, l1, l2, l3] (zi a :: S) q Q ↔ z_go zP 14 22 [l0, l1, (zkl l2), some (zi a)] S q Q := (by cases l2 with | none => exact ge_x (len := 1) (x := (0, 0, [])) p_14 rfl rfl | some v => cases v <;> exact ge_x (len := 1) (x := (0, 0, [])) p_14 rfl rfl)
theorem g14_22 : z_go zP 14 22 [some (.ref u), l1, l2, l3] S q Q ↔ z_go zP 14 23 [some (.ref u), l1, l2, l3] (.ref u :: S) q Q := ge_x (len := 1) (x := (0, 0, [])) p_14 rfl rfl
theorem g14_23 : z_go zP 14 23 L (.ref u :: S) q Q ↔ ∃ v, z_get [1] 1 q.1 u = some v ∧ z_go zP 14 26 L (v :: S) q Q := ge_getf (len := 3) (x := (1, 0, [1])) p_14 rfl
theorem g14_26 : z_go zP 14 26 [l0, l1, l2, some (zi a)] S q Q ↔ z_go zP 14 27 [l0, l1, l2, some (zi a)] (zi a :: S) q Q := ge_x (len := 1) (x := (0, 0, [])) p_14 rfl rfl
theorem g14_27 : z_go zP 14 27 L (zi a :: .ref u :: S) q Q ↔ ∃ v, z_at [99, 100] q.1 u (Int32.ofInt a) = some v ∧ z_go zP 14 28 L (v :: S) q Q := ge_iald (len := 1) (x := (0, 0, [])) p_14 rfl
theorem g14_28 (a1 : -2147483648 ≤ a) (a2 : a < 2147483648) : z_go zP 14 28 L (zi a :: S) q Q ↔ if ¬ a = 0 then z_go zP 14 37 L S q Q else z_go zP 14 31 L S q Q := ge_if_ne (len := 3) (x := (0, 0, [])) a1 a2 p_14 rfl rfl
theorem g14_28b {c : Prop} [Decidable c] : z_go zP 14 28 L (zi (bI c) :: S) q Q ↔ if c then z_go zP 14 37 L S q Q else z_go zP 14 31 L S q Q := ge_if_ne_b (len := 3) (x := (0, 0, [])) p_14 rfl rfl
theorem g14_31 : z_go zP 14 31 [some (.ref u), l1, l2, l3] S q Q ↔ z_go zP 14 32 [some (.ref u), l1, l2, l3] (.ref u :: S) q Q := ge_x (len := 1) (x := (0, 0, [])) p_14 rfl rfl
theorem g14_32 : z_go zP 14 32 [l0, l1, l2, some (zi a)] S q Q ↔ z_go zP 14 33 [l0, l1, l2, some (zi a)] (zi a :: S) q Q := ge_x (len := 1) (x := (0, 0, [])) p_14 rfl rfl
theorem g14_33 : z_go zP 14 33 L [zi x0, .ref u] q Q ↔ z_tg q.1 u = some 1 ∧ z_go zP 15 0 [some (.ref u), some (zi x0)] [] q (zc 14 36 L [] Q) := ge_vc (len := 3) (pc := 33) (S := [zi x0, .ref u]) (u := u) (k1 := 15) (A := [.ref u, zi x0]) (r := []) (tag := 1) (n0 := 1) (zwb_le (by show 0 ≤ 4; omega)) p_14 rfl rfl rfl p_15 (by show 2 ≤ 2; omega) rfl
theorem g14_36 : z_go zP 14 36 L [] q Q ↔ Q (.inl none) q := z_go_rt (len := 1) (x := (0, 0, [])) p_14 rfl rfl rfl
theorem g14_37 : z_go zP 14 37 [some (.ref u), l1, l2, l3] S q Q ↔ z_go zP 14 38 [some (.ref u), l1, l2, l3] (.ref u :: S) q Q := ge_x (len := 1) (x := (0, 0, [])) p_14 rfl rfl
theorem g14_38 : z_go zP 14 38 [some (.ref u), l1, l2, l3] S q Q ↔ z_go zP 14 39 [some (.ref u), l1, l2, l3] (.ref u :: S) q Q := ge_x (len := 1) (x := (0, 0, [])) p_14 rfl rfl
theorem g14_39 : z_go zP 14 39 L (.ref u :: S) q Q ↔ ∃ v, z_get [1] 1 q.1 u = some v ∧ z_go zP 14 42 L (v :: S) q Q := ge_getf (len := 3) (x := (1, 0, [1])) p_14 rfl
theorem g14_42 : z_go zP 14 42 [l0, l1, l2, some (zi a)] S q Q ↔ z_go zP 14 43 [l0, l1, l2, some (zi a)] (zi a :: S) q Q := ge_x (len := 1) (x := (0, 0, [])) p_14 rfl rfl
theorem g14_43 : z_go zP 14 43 L (zi a :: .ref u :: S) q Q ↔ ∃ v, z_at [99, 100] q.1 u (Int32.ofInt a) = some v ∧ z_go zP 14 44 L (v :: S) q Q := ge_iald (len := 1) (x := (0, 0, [])) p_14 rfl
theorem g14_44 : z_go zP 14 44 L S q Q ↔ z_go zP 14 45 L (zi 1 :: S) q Q := ge_x (len := 1) (x := (0, 0, [])) p_14 rfl rfl
theorem g14_45 : z_go zP 14 45 L (zi b :: zi a :: S) q Q ↔ z_go zP 14 46 L (zi (a - b) :: S) q Q := ge_isub (len := 1) (x := (0, 0, [])) p_14 rfl
theorem g14_46 : z_go zP 14 46 L [zi x0, .ref u] q Q ↔ z_tg q.1 u = some 1 ∧ z_go zP 17 0 [some (.ref u), some (zi x0), none, none] [] q (zc 14 49 L [] Q) := ge_vc (len := 3) (pc := 46) (S := [zi x0, .ref u]) (u := u) (k1 := 17) (A := [.ref u, zi x0]) (r := []) (tag := 1) (n0 := 1) (zwb_le (by show 0 ≤ 4; omega)) p_14 rfl rfl rfl p_17 (by show 2 ≤ 4; omega) rfl
theorem g14_49 (a1 : -2147483648 ≤ a) (a2 : a < 2147483648) : z_go zP 14 49 L (zi a :: S) q Q ↔ if a = 0 then z_go zP 14 53 L S q Q else z_go zP 14 52 L S q Q := ge_if_eq (len := 3) (x := (0, 0, [])) a1 a2 p_14 rfl rfl
theorem g14_49b {c : Prop} [Decidable c] : z_go zP 14 49 L (zi (bI c) :: S) q Q ↔ if c then z_go zP 14 52 L S q Q else z_go zP 14 53 L S q Q := ge_if_eq_b (len := 3) (x := (0, 0, [])) p_14 rfl rfl
theorem g14_52 : z_go zP 14 52 L [] q Q ↔ Q (.inl none) q := z_go_rt (len := 1) (x := (0, 0, [])) p_14 rfl rfl rfl
theorem g14_53 : z_go zP 14 53 [l0, l1, some (zi a), l3] S q Q ↔ z_go zP 14 56 [l0, (zkl l1), some (zi (a + 1)), l3] S q Q := (by unfold zi; rw [Int32.ofInt_add]; cases l1 with | none => exact ge_x (len := 3) (x := (0, 0, [])) p_14 rfl rfl | some v => cases v <;> exact ge_x (len := 3) (x := (0, 0, [])) p_14 rfl rfl)
theorem g14_56 : z_go zP 14 56 L S q Q ↔ z_go zP 14 7 L S q Q := ge_to (len := 3) (x := (0, 0, [])) p_14 rfl rfl rfl
theorem g14_59 : z_go zP 14 59 L [] q Q ↔ Q (.inl none) q := z_go_rt (len := 1) (x := (0, 0, [])) p_14 rfl rfl rfl
theorem g15_0 : z_go zP 15 0 [some (.ref u), l1] S q Q ↔ z_go zP 15 1 [some (.ref u), l1] (.ref u :: S) q Q := ge_x (len := 1) (x := (0, 0, [])) p_15 rfl rfl
theorem g15_1 : z_go zP 15 1 L (.ref u :: S) q Q ↔ ∃ v, z_get [1] 6 q.1 u = some v ∧ z_go zP 15 4 L (v :: S) q Q := ge_getf (len := 3) (x := (6, 0, [1])) p_15 rfl
theorem g15_4 : z_go zP 15 4 L S q Q ↔ z_go zP 15 7 L (zi 2000 :: S) q Q := ge_x (len := 3) (x := (0, 0, [])) p_15 rfl rfl
theorem g15_7 (a1 : -2147483648 ≤ a) (a2 : a < 2147483648) (b1 : -2147483648 ≤ b) (b2 : b < 2147483648) : z_go zP 15 7 L (zi b :: zi a :: S) q Q ↔ if a < b then z_go zP 15 16 L S q Q else z_go zP 15 10 L S q Q := ge_ic_lt (len := 3) (x := (0, 0, [])) a1 a2 b1 b2 p_15 rfl rfl
theorem g15_10 : z_go zP 15 10 [some (.ref u), l1] S q Q ↔ z_go zP 15 11 [some (.ref u), l1] (.ref u :: S) q Q := ge_x (len := 1) (x := (0, 0, [])) p_15 rfl rfl
theorem g15_11 : z_go zP 15 11 L S q Q ↔ z_go zP 15 12 L (zi 1 :: S) q Q := ge_x (len := 1) (x := (0, 0, [])) p_15 rfl rfl
theorem g15_12 : z_go zP 15 12 L (v :: .ref u :: S) q Q ↔ ∃ q1, z_put [1] 9 q u v = some q1 ∧ z_go zP 15 15 L S q1 Q := ge_putf (len := 3) (x := (9, 0, [1])) p_15 rfl
theorem g15_15 : z_go zP 15 15 L [] q Q ↔ Q (.inl none) q := z_go_rt (len := 1) (x := (0, 0, [])) p_15 rfl rfl rfl
theorem g15_16 : z_go zP 15 16 [some (.ref u), l1] S q Q ↔ z_go zP 15 17 [some (.ref u), l1] (.ref u :: S) q Q := ge_x (len := 1) (x := (0, 0, [])) p_15 rfl rfl
theorem g15_17 : z_go zP 15 17 L (.ref u :: S) q Q ↔ ∃ v, z_get [1] 3 q.1 u = some v ∧ z_go zP 15 20 L (v :: S) q Q := ge_getf (len := 3) (x := (3, 0, [1])) p_15 rfl
theorem g15_20 : z_go zP 15 20 L S q Q ↔ z_go zP 15 21 L (zi 0 :: S) q Q := ge_x (len := 1) (x := (0, 0, [])) p_15 rfl rfl
theorem g15_21 : z_go zP 15 21 [some (.ref u), l1] S q Q ↔ z_go zP 15 22 [some (.ref u), l1] (.ref u :: S) q Q := ge_x (len := 1) (x := (0, 0, [])) p_15 rfl rfl
theorem g15_22 : z_go zP 15 22 L (.ref u :: S) q Q ↔ ∃ v, z_get [1] 0 q.1 u = some v ∧ z_go zP 15 25 L (v :: S) q Q := ge_getf (len := 3) (x := (0, 0, [1])) p_15 rfl
theorem g15_25 : z_go zP 15 25 [some (.ref u), l1] S q Q ↔ z_go zP 15 26 [some (.ref u), l1] (.ref u :: S) q Q := ge_x (len := 1) (x := (0, 0, [])) p_15 rfl rfl
theorem g15_26 : z_go zP 15 26 L (.ref u :: S) q Q ↔ ∃ v, z_get [1] 6 q.1 u = some v ∧ z_go zP 15 29 L (v :: S) q Q := ge_getf (len := 3) (x := (6, 0, [1])) p_15 rfl
theorem g15_29 : z_go zP 15 29 L S q Q ↔ z_go zP 15 31 L (zi 28 :: S) q Q := ge_x (len := 2) (x := (0, 0, [])) p_15 rfl rfl
theorem g15_31 : z_go zP 15 31 L (zi b :: zi a :: S) q Q ↔ z_go zP 15 32 L (zi (a * b) :: S) q Q := ge_imul (len := 1) (x := (0, 0, [])) p_15 rfl
theorem g15_32 : z_go zP 15 32 L S q Q ↔ z_go zP 15 34 L (zi 28 :: S) q Q := ge_x (len := 2) (x := (0, 0, [])) p_15 rfl rfl
theorem g15_34 : z_go zP 15 34 L [zi e, zi d, .ref u2, zi c, .ref u] q Q ↔ ∃ q1, z_cpy q u (Int32.ofInt c) u2 (Int32.ofInt d) (Int32.ofInt e) = some q1 ∧ z_go zP 15 37 L [] q1 Q := ge_acp (len := 3) (x := (0, 8, [])) (by show 0 ≤ 4; omega) rfl p_15 rfl
theorem g15_37 : z_go zP 15 37 [some (.ref u), l1] S q Q ↔ z_go zP 15 38 [some (.ref u), l1] (.ref u :: S) q Q := ge_x (len := 1) (x := (0, 0, [])) p_15 rfl rfl
theorem g15_38 : z_go zP 15 38 L (.ref u :: S) q Q ↔ z_go zP 15 39 L (.ref u :: .ref u :: S) q Q := ge_x (len := 1) (x := (0, 0, [])) p_15 rfl rfl
theorem g15_38i : z_go zP 15 38 L (zi a :: S) q Q ↔ z_go zP 15 39 L (zi a :: zi a :: S) q Q := ge_x (len := 1) (x := (0, 0, [])) p_15 rfl rfl
theorem g15_39 : z_go zP 15 39 L (.ref u :: S) q Q ↔ ∃ v, z_get [1] 6 q.1 u = some v ∧ z_go zP 15 42 L (v :: S) q Q := ge_getf (len := 3) (x := (6, 0, [1])) p_15 rfl
theorem g15_42 : z_go zP 15 42 L S q Q ↔ z_go zP 15 43 L (zi 1 :: S) q Q := ge_x (len := 1) (x := (0, 0, [])) p_15 rfl rfl
theorem g15_43 : z_go zP 15 43 L (zi b :: zi a :: S) q Q ↔ z_go zP 15 44 L (zi (a + b) :: S) q Q := ge_iadd (len := 1) (x := (0, 0, [])) p_15 rfl
theorem g15_44 : z_go zP 15 44 L (v :: .ref u :: S) q Q ↔ ∃ q1, z_put [1] 6 q u v = some q1 ∧ z_go zP 15 47 L S q1 Q := ge_putf (len := 3) (x := (6, 0, [1])) p_15 rfl
theorem g15_47 : z_go zP 15 47 [some (.ref u), l1] S q Q ↔ z_go zP 15 48 [some (.ref u), l1] (.ref u :: S) q Q := ge_x (len := 1) (x := (0, 0, [])) p_15 rfl rfl
theorem g15_48 : z_go zP 15 48 L (.ref u :: S) q Q ↔ ∃ v, z_get [1] 1 q.1 u = some v ∧ z_go zP 15 51 L (v :: S) q Q := ge_getf (len := 3) (x := (1, 0, [1])) p_15 rfl
theorem g15_51 : z_go zP 15 51 [l0, some (zi a)] S q Q ↔ z_go zP 15 52 [l0, some (zi a)] (zi a :: S) q Q := ge_x (len := 1) (x := (0, 0, [])) p_15 rfl rfl
theorem g15_52 : z_go zP 15 52 [some (.ref u), l1] S q Q ↔ z_go zP 15 53 [some (.ref u), l1] (.ref u :: S) q Q := ge_x (len := 1) (x := (0, 0, [])) p_15 rfl rfl
theorem g15_53 : z_go zP 15 53 L (.ref u :: S) q Q ↔ ∃ v, z_get [1] 6 q.1 u = some v ∧ z_go zP 15 56 L (v :: S) q Q := ge_getf (len := 3) (x := (6, 0, [1])) p_15 rfl
theorem g15_56 : z_go zP 15 56 L (zi b :: zi a :: .ref u :: S) q Q ↔ ∃ q1, z_st 100 q u (Int32.ofInt a) (zi b) = some q1 ∧ z_go zP 15 57 L S q1 Q := ge_iast (len := 1) (x := (0, 0, [])) p_15 rfl
theorem g15_57 : z_go zP 15 57 L [] q Q ↔ Q (.inl none) q := z_go_rt (len := 1) (x := (0, 0, [])) p_15 rfl rfl rfl
theorem g16_0 : z_go zP 16 0 L S q Q ↔ z_go zP 16 1 L (zl 0 :: S) q Q := ge_x (len := 1) (x := (0, 0, [])) p_16 rfl rfl
theorem g16_1 : z_go zP 16 1 [l0, l1, l2, l3] (zl a :: S) q Q ↔ z_go zP 16 2 [(zkl l0), some (zl a), none, l3] S q Q := (by cases l0 with | none => exact ge_x (len := 1) (x := (0, 0, [])) p_16 rfl rfl | some v => cases v <;> exact ge_x (len := 1) (x := (0, 0, [])) p_16 rfl rfl)
theorem g16_2 : z_go zP 16 2 L S q Q ↔ z_go zP 16 3 L (zi 0 :: S) q Q := ge_x (len := 1) (x := (0, 0, [])) p_16 rfl rfl
theorem g16_3 : z_go zP 16 3 [l0, l1, l2, l3] (zi a :: S) q Q ↔ z_go zP 16 4 [l0, l1, (zkl l2), some (zi a)] S q Q := (by cases l2 with | none => exact ge_x (len := 1) (x := (0, 0, [])) p_16 rfl rfl | some v => cases v <;> exact ge_x (len := 1) (x := (0, 0, [])) p_16 rfl rfl)
theorem g16_4 : z_go zP 16 4 [l0, l1, l2, some (zi a)] S q Q ↔ z_go zP 16 5 [l0, l1, l2, some (zi a)] (zi a :: S) q Q := ge_x (len := 1) (x := (0, 0, [])) p_16 rfl rfl
theorem g16_5 : z_go zP 16 5 L S q Q ↔ z_go zP 16 7 L (zi 28 :: S) q Q := ge_x (len := 2) (x := (0, 0, [])) p_16 rfl rfl
theorem g16_7 (a1 : -2147483648 ≤ a) (a2 : a < 2147483648) (b1 : -2147483648 ≤ b) (b2 : b < 2147483648) : z_go zP 16 7 L (zi b :: zi a :: S) q Q ↔ if b ≤ a then z_go zP 16 36 L S q Q else z_go zP 16 10 L S q Q := ge_ic_ge (len := 3) (x := (0, 0, [])) a1 a2 b1 b2 p_16 rfl rfl
theorem g16_10 : z_go zP 16 10 [l0, some (zl a), l2, l3] S q Q ↔ z_go zP 16 11 [l0, some (zl a), l2, l3] (zl a :: S) q Q := ge_x (len := 1) (x := (0, 0, [])) p_16 rfl rfl
theorem g16_11 : z_go zP 16 11 [some (.ref u), l1, l2, l3] S q Q ↔ z_go zP 16 12 [some (.ref u), l1, l2, l3] (.ref u :: S) q Q := ge_x (len := 1) (x := (0, 0, [])) p_16 rfl rfl
theorem g16_12 : z_go zP 16 12 L (.ref u :: S) q Q ↔ ∃ v, z_get [1] 3 q.1 u = some v ∧ z_go zP 16 15 L (v :: S) q Q := ge_getf (len := 3) (x := (3, 0, [1])) p_16 rfl
theorem g16_15 : z_go zP 16 15 [l0, l1, l2, some (zi a)] S q Q ↔ z_go zP 16 16 [l0, l1, l2, some (zi a)] (zi a :: S) q Q := ge_x (len := 1) (x := (0, 0, [])) p_16 rfl rfl
theorem g16_16 : z_go zP 16 16 L (zi a :: .ref u :: S) q Q ↔ ∃ v, z_at [101] q.1 u (Int32.ofInt a) = some v ∧ z_go zP 16 17 L (v :: S) q Q := ge_lald (len := 1) (x := (0, 0, [])) p_16 rfl
theorem g16_17 : z_go zP 16 17 L (zl b :: zl a :: S) q Q ↔ z_go zP 16 18 L (zl (llxor a b) :: S) q Q := ge_lxor (len := 1) (x := (0, 0, [])) p_16 rfl
theorem g16_18 : z_go zP 16 18 L S q Q ↔ z_go zP 16 21 L (zl 11400714819323198485 :: S) q Q := ge_x (len := 3) (x := (11400714819323198485, 0, [])) p_16 rfl rfl
theorem g16_21 : z_go zP 16 21 L (zl b :: zl a :: S) q Q ↔ z_go zP 16 22 L (zl (a * b) :: S) q Q := ge_lmul (len := 1) (x := (0, 0, [])) p_16 rfl
theorem g16_22 : z_go zP 16 22 [l0, l1, l2, l3] (zl a :: S) q Q ↔ z_go zP 16 23 [(zkl l0), some (zl a), none, l3] S q Q := (by cases l0 with | none => exact ge_x (len := 1) (x := (0, 0, [])) p_16 rfl rfl | some v => cases v <;> exact ge_x (len := 1) (x := (0, 0, [])) p_16 rfl rfl)
theorem g16_23 : z_go zP 16 23 [l0, some (zl a), l2, l3] S q Q ↔ z_go zP 16 24 [l0, some (zl a), l2, l3] (zl a :: S) q Q := ge_x (len := 1) (x := (0, 0, [])) p_16 rfl rfl
theorem g16_24 : z_go zP 16 24 [l0, some (zl a), l2, l3] S q Q ↔ z_go zP 16 25 [l0, some (zl a), l2, l3] (zl a :: S) q Q := ge_x (len := 1) (x := (0, 0, [])) p_16 rfl rfl
theorem g16_25 : z_go zP 16 25 L S q Q ↔ z_go zP 16 27 L (zi 29 :: S) q Q := ge_x (len := 2) (x := (0, 0, [])) p_16 rfl rfl
theorem g16_27 : z_go zP 16 27 L (zi b :: zl a :: S) q Q ↔ z_go zP 16 28 L (zl (llshr a b) :: S) q Q := ge_lushr (len := 1) (x := (0, 0, [])) p_16 rfl
theorem g16_28 : z_go zP 16 28 L (zl b :: zl a :: S) q Q ↔ z_go zP 16 29 L (zl (llxor a b) :: S) q Q := ge_lxor (len := 1) (x := (0, 0, [])) p_16 rfl
theorem g16_29 : z_go zP 16 29 [l0, l1, l2, l3] (zl a :: S) q Q ↔ z_go zP 16 30 [(zkl l0), some (zl a), none, l3] S q Q := (by cases l0 with | none => exact ge_x (len := 1) (x := (0, 0, [])) p_16 rfl rfl | some v => cases v <;> exact ge_x (len := 1) (x := (0, 0, [])) p_16 rfl rfl)
theorem g16_30 : z_go zP 16 30 [l0, l1, l2, some (zi a)] S q Q ↔ z_go zP 16 33 [l0, l1, (zkl l2), some (zi (a + 1))] S q Q := (by unfold zi; rw [Int32.ofInt_add]; cases l2 with | none => exact ge_x (len := 3) (x := (0, 0, [])) p_16 rfl rfl | some v => cases v <;> exact ge_x (len := 3) (x := (0, 0, [])) p_16 rfl rfl)
theorem g16_33 : z_go zP 16 33 L S q Q ↔ z_go zP 16 4 L S q Q := ge_to (len := 3) (x := (0, 0, [])) p_16 rfl rfl rfl
theorem g16_36 : z_go zP 16 36 [l0, some (zl a), l2, l3] S q Q ↔ z_go zP 16 37 [l0, some (zl a), l2, l3] (zl a :: S) q Q := ge_x (len := 1) (x := (0, 0, [])) p_16 rfl rfl
theorem g16_37 : z_go zP 16 37 L (zl a :: S) q Q ↔ z_go zP 16 38 L (zi a :: S) q Q := ge_l2i (len := 1) (x := (0, 0, [])) p_16 rfl
theorem g16_38 : z_go zP 16 38 L S q Q ↔ z_go zP 16 41 L (zi 4095 :: S) q Q := ge_x (len := 3) (x := (0, 0, [])) p_16 rfl rfl
theorem g16_41 : z_go zP 16 41 L (zi b :: zi a :: S) q Q ↔ z_go zP 16 42 L (zi (iand a b) :: S) q Q := ge_iand (len := 1) (x := (0, 0, [])) p_16 rfl
theorem g16_42 : z_go zP 16 42 L [zi a] q Q ↔ Q (.inl (some (zi a))) q := ge_rti (len := 1) (x := (0, 0, [])) p_16 rfl rfl
theorem g17_0 : z_go zP 17 0 [l0, some (zi a), l2, l3] S q Q ↔ z_go zP 17 1 [l0, some (zi a), l2, l3] (zi a :: S) q Q := ge_x (len := 1) (x := (0, 0, [])) p_17 rfl rfl
theorem g17_1 : z_go zP 17 1 L S q Q ↔ z_go zP 17 3 L (zi 28 :: S) q Q := ge_x (len := 2) (x := (0, 0, [])) p_17 rfl rfl
theorem g17_3 : z_go zP 17 3 L (zi b :: zi a :: S) q Q ↔ z_go zP 17 4 L (zi (a * b) :: S) q Q := ge_imul (len := 1) (x := (0, 0, [])) p_17 rfl
theorem g17_4 : z_go zP 17 4 [l0, l1, l2, l3] (zi a :: S) q Q ↔ z_go zP 17 5 [l0, (zkl l1), some (zi a), l3] S q Q := (by cases l1 with | none => exact ge_x (len := 1) (x := (0, 0, [])) p_17 rfl rfl | some v => cases v <;> exact ge_x (len := 1) (x := (0, 0, [])) p_17 rfl rfl)
theorem g17_5 : z_go zP 17 5 L S q Q ↔ z_go zP 17 6 L (zi 0 :: S) q Q := ge_x (len := 1) (x := (0, 0, [])) p_17 rfl rfl
theorem g17_6 : z_go zP 17 6 [l0, l1, l2, l3] (zi a :: S) q Q ↔ z_go zP 17 7 [l0, l1, (zkl l2), some (zi a)] S q Q := (by cases l2 with | none => exact ge_x (len := 1) (x := (0, 0, [])) p_17 rfl rfl | some v => cases v <;> exact ge_x (len := 1) (x := (0, 0, [])) p_17 rfl rfl)
theorem g17_7 : z_go zP 17 7 [l0, l1, l2, some (zi a)] S q Q ↔ z_go zP 17 8 [l0, l1, l2, some (zi a)] (zi a :: S) q Q := ge_x (len := 1) (x := (0, 0, [])) p_17 rfl rfl
theorem g17_8 : z_go zP 17 8 L S q Q ↔ z_go zP 17 10 L (zi 28 :: S) q Q := ge_x (len := 2) (x := (0, 0, [])) p_17 rfl rfl
theorem g17_10 (a1 : -2147483648 ≤ a) (a2 : a < 2147483648) (b1 : -2147483648 ≤ b) (b2 : b < 2147483648) : z_go zP 17 10 L (zi b :: zi a :: S) q Q ↔ if b ≤ a then z_go zP 17 39 L S q Q else z_go zP 17 13 L S q Q := ge_ic_ge (len := 3) (x := (0, 0, [])) a1 a2 b1 b2 p_17 rfl rfl
theorem g17_13 : z_go zP 17 13 [some (.ref u), l1, l2, l3] S q Q ↔ z_go zP 17 14 [some (.ref u), l1, l2, l3] (.ref u :: S) q Q := ge_x (len := 1) (x := (0, 0, [])) p_17 rfl rfl
theorem g17_14 : z_go zP 17 14 L (.ref u :: S) q Q ↔ ∃ v, z_get [1] 0 q.1 u = some v ∧ z_go zP 17 17 L (v :: S) q Q := ge_getf (len := 3) (x := (0, 0, [1])) p_17 rfl
theorem g17_17 : z_go zP 17 17 [l0, l1, some (zi a), l3] S q Q ↔ z_go zP 17 18 [l0, l1, some (zi a), l3] (zi a :: S) q Q := ge_x (len := 1) (x := (0, 0, [])) p_17 rfl rfl
theorem g17_18 : z_go zP 17 18 [l0, l1, l2, some (zi a)] S q Q ↔ z_go zP 17 19 [l0, l1, l2, some (zi a)] (zi a :: S) q Q := ge_x (len := 1) (x := (0, 0, [])) p_17 rfl rfl
theorem g17_19 : z_go zP 17 19 L (zi b :: zi a :: S) q Q ↔ z_go zP 17 20 L (zi (a + b) :: S) q Q := ge_iadd (len := 1) (x := (0, 0, [])) p_17 rfl
theorem g17_20 : z_go zP 17 20 L (zi a :: .ref u :: S) q Q ↔ ∃ v, z_at [101] q.1 u (Int32.ofInt a) = some v ∧ z_go zP 17 21 L (v :: S) q Q := ge_lald (len := 1) (x := (0, 0, [])) p_17 rfl
theorem g17_21 : z_go zP 17 21 [some (.ref u), l1, l2, l3] S q Q ↔ z_go zP 17 22 [some (.ref u), l1, l2, l3] (.ref u :: S) q Q := ge_x (len := 1) (x := (0, 0, [])) p_17 rfl rfl
theorem g17_22 : z_go zP 17 22 L (.ref u :: S) q Q ↔ ∃ v, z_get [1] 3 q.1 u = some v ∧ z_go zP 17 25 L (v :: S) q Q := ge_getf (len := 3) (x := (3, 0, [1])) p_17 rfl
theorem g17_25 : z_go zP 17 25 [l0, l1, l2, some (zi a)] S q Q ↔ z_go zP 17 26 [l0, l1, l2, some (zi a)] (zi a :: S) q Q := ge_x (len := 1) (x := (0, 0, [])) p_17 rfl rfl
theorem g17_26 : z_go zP 17 26 L (zi a :: .ref u :: S) q Q ↔ ∃ v, z_at [101] q.1 u (Int32.ofInt a) = some v ∧ z_go zP 17 27 L (v :: S) q Q := ge_lald (len := 1) (x := (0, 0, [])) p_17 rfl
theorem g17_27 (a1 : -9223372036854775808 ≤ a) (a2 : a < 9223372036854775808) (b1 : -9223372036854775808 ≤ b) (b2 : b < 9223372036854775808) : z_go zP 17 27 L (zl b :: zl a :: S) q Q ↔ if a = b then z_go zP 17 33 L S q Q else z_go zP 17 31 L S q Q := ge_lc_eq (len := 1) (x := (0, 0, [])) (p2 := 28) (l2 := 3) a1 a2 b1 b2 p_17 rfl rfl rfl rfl
theorem g17_31 : z_go zP 17 31 L S q Q ↔ z_go zP 17 32 L (zi 0 :: S) q Q := ge_x (len := 1) (x := (0, 0, [])) p_17 rfl rfl
theorem g17_32_0 : z_go zP 17 32 L [zi 0] q Q ↔ Q (.inl (some (zi 0))) q := z_go_rt (len := 1) (x := (0, 0, [])) p_17 rfl rfl rfl
theorem g17_32_1 : z_go zP 17 32 L [zi 1] q Q ↔ Q (.inl (some (zi 1))) q := z_go_rt (len := 1) (x := (0, 0, [])) p_17 rfl rfl rfl
theorem g17_32b {c : Prop} [Decidable c] : z_go zP 17 32 L [zi (bI c)] q Q ↔ Q (.inl (some (zi (bI c)))) q := (by rcases bI_01 (c := c) with h | h <;> rw [h] <;> exact z_go_rt (len := 1) (x := (0, 0, [])) p_17 rfl rfl rfl)
theorem g17_33 : z_go zP 17 33 [l0, l1, l2, some (zi a)] S q Q ↔ z_go zP 17 36 [l0, l1, (zkl l2), some (zi (a + 1))] S q Q := (by unfold zi; rw [Int32.ofInt_add]; cases l2 with | none => exact ge_x (len := 3) (x := (0, 0, [])) p_17 rfl rfl | some v => cases v <;> exact ge_x (len := 3) (x := (0, 0, [])) p_17 rfl rfl)
theorem g17_36 : z_go zP 17 36 L S q Q ↔ z_go zP 17 7 L S q Q := ge_to (len := 3) (x := (0, 0, [])) p_17 rfl rfl rfl
theorem g17_39 : z_go zP 17 39 L S q Q ↔ z_go zP 17 40 L (zi 1 :: S) q Q := ge_x (len := 1) (x := (0, 0, [])) p_17 rfl rfl
theorem g17_40_0 : z_go zP 17 40 L [zi 0] q Q ↔ Q (.inl (some (zi 0))) q := z_go_rt (len := 1) (x := (0, 0, [])) p_17 rfl rfl rfl
theorem g17_40_1 : z_go zP 17 40 L [zi 1] q Q ↔ Q (.inl (some (zi 1))) q := z_go_rt (len := 1) (x := (0, 0, [])) p_17 rfl rfl rfl
theorem g17_40b {c : Prop} [Decidable c] : z_go zP 17 40 L [zi (bI c)] q Q ↔ Q (.inl (some (zi (bI c)))) q := (by rcases bI_01 (c := c) with h | h <;> rw [h] <;> exact z_go_rt (len := 1) (x := (0, 0, [])) p_17 rfl rfl rfl)
theorem g18_0 : z_go zP 18 0 [l0, some (zi a), l2] S q Q ↔ z_go zP 18 1 [l0, some (zi a), l2] (zi a :: S) q Q := ge_x (len := 1) (x := (0, 0, [])) p_18 rfl rfl
theorem g18_1 : z_go zP 18 1 L S q Q ↔ z_go zP 18 3 L (zi 28 :: S) q Q := ge_x (len := 2) (x := (0, 0, [])) p_18 rfl rfl
theorem g18_3 : z_go zP 18 3 L (zi b :: zi a :: S) q Q ↔ z_go zP 18 4 L (zi (a * b) :: S) q Q := ge_imul (len := 1) (x := (0, 0, [])) p_18 rfl
theorem g18_4 : z_go zP 18 4 [l0, l1, l2] (zi a :: S) q Q ↔ z_go zP 18 5 [l0, (zkl l1), some (zi a)] S q Q := (by cases l1 with | none => exact ge_x (len := 1) (x := (0, 0, [])) p_18 rfl rfl | some v => cases v <;> exact ge_x (len := 1) (x := (0, 0, [])) p_18 rfl rfl)
theorem g18_5 : z_go zP 18 5 [some (.ref u), l1, l2] S q Q ↔ z_go zP 18 6 [some (.ref u), l1, l2] (.ref u :: S) q Q := ge_x (len := 1) (x := (0, 0, [])) p_18 rfl rfl
theorem g18_6 : z_go zP 18 6 L (.ref u :: S) q Q ↔ ∃ v, z_get [1] 0 q.1 u = some v ∧ z_go zP 18 9 L (v :: S) q Q := ge_getf (len := 3) (x := (0, 0, [1])) p_18 rfl
theorem g18_9 : z_go zP 18 9 [l0, l1, some (zi a)] S q Q ↔ z_go zP 18 10 [l0, l1, some (zi a)] (zi a :: S) q Q := ge_x (len := 1) (x := (0, 0, [])) p_18 rfl rfl
theorem g18_10 : z_go zP 18 10 L S q Q ↔ z_go zP 18 11 L (zi 0 :: S) q Q := ge_x (len := 1) (x := (0, 0, [])) p_18 rfl rfl
theorem g18_11 : z_go zP 18 11 L (zi b :: zi a :: S) q Q ↔ z_go zP 18 12 L (zi (a + b) :: S) q Q := ge_iadd (len := 1) (x := (0, 0, [])) p_18 rfl
theorem g18_12 : z_go zP 18 12 L (zi a :: .ref u :: S) q Q ↔ ∃ v, z_at [101] q.1 u (Int32.ofInt a) = some v ∧ z_go zP 18 13 L (v :: S) q Q := ge_lald (len := 1) (x := (0, 0, [])) p_18 rfl
theorem g18_13 : z_go zP 18 13 L S q Q ↔ z_go zP 18 16 L (zl 18446744073709551615 :: S) q Q := ge_x (len := 3) (x := (18446744073709551615, 0, [])) p_18 rfl rfl
theorem g18_16 (a1 : -9223372036854775808 ≤ a) (a2 : a < 9223372036854775808) (b1 : -9223372036854775808 ≤ b) (b2 : b < 9223372036854775808) : z_go zP 18 16 L (zl b :: zl a :: S) q Q ↔ if ¬ a = b then z_go zP 18 71 L S q Q else z_go zP 18 20 L S q Q := ge_lc_ne (len := 1) (x := (0, 0, [])) (p2 := 17) (l2 := 3) a1 a2 b1 b2 p_18 rfl rfl rfl rfl
theorem g18_20 : z_go zP 18 20 [some (.ref u), l1, l2] S q Q ↔ z_go zP 18 21 [some (.ref u), l1, l2] (.ref u :: S) q Q := ge_x (len := 1) (x := (0, 0, [])) p_18 rfl rfl
theorem g18_21 : z_go zP 18 21 L (.ref u :: S) q Q ↔ ∃ v, z_get [1] 0 q.1 u = some v ∧ z_go zP 18 24 L (v :: S) q Q := ge_getf (len := 3) (x := (0, 0, [1])) p_18 rfl
theorem g18_24 : z_go zP 18 24 [l0, l1, some (zi a)] S q Q ↔ z_go zP 18 25 [l0, l1, some (zi a)] (zi a :: S) q Q := ge_x (len := 1) (x := (0, 0, [])) p_18 rfl rfl
theorem g18_25 : z_go zP 18 25 L S q Q ↔ z_go zP 18 26 L (zi 0 :: S) q Q := ge_x (len := 1) (x := (0, 0, [])) p_18 rfl rfl
theorem g18_26 : z_go zP 18 26 L (zi b :: zi a :: S) q Q ↔ z_go zP 18 27 L (zi (a + b) :: S) q Q := ge_iadd (len := 1) (x := (0, 0, [])) p_18 rfl
theorem g18_27 : z_go zP 18 27 L S q Q ↔ z_go zP 18 28 L (zi 1 :: S) q Q := ge_x (len := 1) (x := (0, 0, [])) p_18 rfl rfl
theorem g18_28 : z_go zP 18 28 L (zi b :: zi a :: S) q Q ↔ z_go zP 18 29 L (zi (a + b) :: S) q Q := ge_iadd (len := 1) (x := (0, 0, [])) p_18 rfl
theorem g18_29 : z_go zP 18 29 L (zi a :: .ref u :: S) q Q ↔ ∃ v, z_at [101] q.1 u (Int32.ofInt a) = some v ∧ z_go zP 18 30 L (v :: S) q Q := ge_lald (len := 1) (x := (0, 0, [])) p_18 rfl
theorem g18_30 : z_go zP 18 30 L S q Q ↔ z_go zP 18 33 L (zl 18446744073709551615 :: S) q Q := ge_x (len := 3) (x := (18446744073709551615, 0, [])) p_18 rfl rfl
theorem g18_33 (a1 : -9223372036854775808 ≤ a) (a2 : a < 9223372036854775808) (b1 : -9223372036854775808 ≤ b) (b2 : b < 9223372036854775808) : z_go zP 18 33 L (zl b :: zl a :: S) q Q ↔ if ¬ a = b then z_go zP 18 71 L S q Q else z_go zP 18 37 L S q Q := ge_lc_ne (len := 1) (x := (0, 0, [])) (p2 := 34) (l2 := 3) a1 a2 b1 b2 p_18 rfl rfl rfl rfl
theorem g18_37 : z_go zP 18 37 [some (.ref u), l1, l2] S q Q ↔ z_go zP 18 38 [some (.ref u), l1, l2] (.ref u :: S) q Q := ge_x (len := 1) (x := (0, 0, [])) p_18 rfl rfl
theorem g18_38 : z_go zP 18 38 L (.ref u :: S) q Q ↔ ∃ v, z_get [1] 0 q.1 u = some v ∧ z_go zP 18 41 L (v :: S) q Q := ge_getf (len := 3) (x := (0, 0, [1])) p_18 rfl
theorem g18_41 : z_go zP 18 41 [l0, l1, some (zi a)] S q Q ↔ z_go zP 18 42 [l0, l1, some (zi a)] (zi a :: S) q Q := ge_x (len := 1) (x := (0, 0, [])) p_18 rfl rfl
theorem g18_42 : z_go zP 18 42 L S q Q ↔ z_go zP 18 44 L (zi 18 :: S) q Q := ge_x (len := 2) (x := (0, 0, [])) p_18 rfl rfl
theorem g18_44 : z_go zP 18 44 L (zi b :: zi a :: S) q Q ↔ z_go zP 18 45 L (zi (a + b) :: S) q Q := ge_iadd (len := 1) (x := (0, 0, [])) p_18 rfl
theorem g18_45 : z_go zP 18 45 L (zi a :: .ref u :: S) q Q ↔ ∃ v, z_at [101] q.1 u (Int32.ofInt a) = some v ∧ z_go zP 18 46 L (v :: S) q Q := ge_lald (len := 1) (x := (0, 0, [])) p_18 rfl
theorem g18_46 : z_go zP 18 46 L S q Q ↔ z_go zP 18 47 L (zl 0 :: S) q Q := ge_x (len := 1) (x := (0, 0, [])) p_18 rfl rfl
theorem g18_47 (a1 : -9223372036854775808 ≤ a) (a2 : a < 9223372036854775808) (b1 : -9223372036854775808 ≤ b) (b2 : b < 9223372036854775808) : z_go zP 18 47 L (zl b :: zl a :: S) q Q ↔ if ¬ a = b then z_go zP 18 71 L S q Q else z_go zP 18 51 L S q Q := ge_lc_ne (len := 1) (x := (0, 0, [])) (p2 := 48) (l2 := 3) a1 a2 b1 b2 p_18 rfl rfl rfl rfl
theorem g18_51 : z_go zP 18 51 [some (.ref u), l1, l2] S q Q ↔ z_go zP 18 52 [some (.ref u), l1, l2] (.ref u :: S) q Q := ge_x (len := 1) (x := (0, 0, [])) p_18 rfl rfl
theorem g18_52 : z_go zP 18 52 L (.ref u :: S) q Q ↔ ∃ v, z_get [1] 0 q.1 u = some v ∧ z_go zP 18 55 L (v :: S) q Q := ge_getf (len := 3) (x := (0, 0, [1])) p_18 rfl
theorem g18_55 : z_go zP 18 55 [l0, l1, some (zi a)] S q Q ↔ z_go zP 18 56 [l0, l1, some (zi a)] (zi a :: S) q Q := ge_x (len := 1) (x := (0, 0, [])) p_18 rfl rfl
theorem g18_56 : z_go zP 18 56 L S q Q ↔ z_go zP 18 58 L (zi 18 :: S) q Q := ge_x (len := 2) (x := (0, 0, [])) p_18 rfl rfl
theorem g18_58 : z_go zP 18 58 L (zi b :: zi a :: S) q Q ↔ z_go zP 18 59 L (zi (a + b) :: S) q Q := ge_iadd (len := 1) (x := (0, 0, [])) p_18 rfl
theorem g18_59 : z_go zP 18 59 L S q Q ↔ z_go zP 18 60 L (zi 1 :: S) q Q := ge_x (len := 1) (x := (0, 0, [])) p_18 rfl rfl
theorem g18_60 : z_go zP 18 60 L (zi b :: zi a :: S) q Q ↔ z_go zP 18 61 L (zi (a + b) :: S) q Q := ge_iadd (len := 1) (x := (0, 0, [])) p_18 rfl
theorem g18_61 : z_go zP 18 61 L (zi a :: .ref u :: S) q Q ↔ ∃ v, z_at [101] q.1 u (Int32.ofInt a) = some v ∧ z_go zP 18 62 L (v :: S) q Q := ge_lald (len := 1) (x := (0, 0, [])) p_18 rfl
theorem g18_62 : z_go zP 18 62 L S q Q ↔ z_go zP 18 63 L (zl 0 :: S) q Q := ge_x (len := 1) (x := (0, 0, [])) p_18 rfl rfl
theorem g18_63 (a1 : -9223372036854775808 ≤ a) (a2 : a < 9223372036854775808) (b1 : -9223372036854775808 ≤ b) (b2 : b < 9223372036854775808) : z_go zP 18 63 L (zl b :: zl a :: S) q Q ↔ if ¬ a = b then z_go zP 18 71 L S q Q else z_go zP 18 67 L S q Q := ge_lc_ne (len := 1) (x := (0, 0, [])) (p2 := 64) (l2 := 3) a1 a2 b1 b2 p_18 rfl rfl rfl rfl
theorem g18_67 : z_go zP 18 67 L S q Q ↔ z_go zP 18 68 L (zi 1 :: S) q Q := ge_x (len := 1) (x := (0, 0, [])) p_18 rfl rfl
theorem g18_68 : z_go zP 18 68 L S q Q ↔ z_go zP 18 72 L S q Q := ge_to (len := 3) (x := (0, 0, [])) p_18 rfl rfl rfl
theorem g18_71 : z_go zP 18 71 L S q Q ↔ z_go zP 18 72 L (zi 0 :: S) q Q := ge_x (len := 1) (x := (0, 0, [])) p_18 rfl rfl
theorem g18_72_0 : z_go zP 18 72 L [zi 0] q Q ↔ Q (.inl (some (zi 0))) q := z_go_rt (len := 1) (x := (0, 0, [])) p_18 rfl rfl rfl
theorem g18_72_1 : z_go zP 18 72 L [zi 1] q Q ↔ Q (.inl (some (zi 1))) q := z_go_rt (len := 1) (x := (0, 0, [])) p_18 rfl rfl rfl
theorem g18_72b {c : Prop} [Decidable c] : z_go zP 18 72 L [zi (bI c)] q Q ↔ Q (.inl (some (zi (bI c)))) q := (by rcases bI_01 (c := c) with h | h <;> rw [h] <;> exact z_go_rt (len := 1) (x := (0, 0, [])) p_18 rfl rfl rfl)
theorem g19_0 : z_go zP 19 0 [some (.ref u), l1, l2] S q Q ↔ z_go zP 19 1 [some (.ref u), l1, l2] (.ref u :: S) q Q := ge_x (len := 1) (x := (0, 0, [])) p_19 rfl rfl
theorem g19_1 : z_go zP 19 1 L (.ref u :: S) q Q ↔ ∃ v, z_get [1] 7 q.1 u = some v ∧ z_go zP 19 4 L (v :: S) q Q := ge_getf (len := 3) (x := (7, 0, [1])) p_19 rfl
theorem g19_4 : z_go zP 19 4 L S q Q ↔ z_go zP 19 7 L (zi 2000 :: S) q Q := ge_x (len := 3) (x := (0, 0, [])) p_19 rfl rfl
theorem g19_7 (a1 : -2147483648 ≤ a) (a2 : a < 2147483648) (b1 : -2147483648 ≤ b) (b2 : b < 2147483648) : z_go zP 19 7 L (zi b :: zi a :: S) q Q ↔ if a < b then z_go zP 19 11 L S q Q else z_go zP 19 10 L S q Q := ge_ic_lt (len := 3) (x := (0, 0, [])) a1 a2 b1 b2 p_19 rfl rfl
theorem g19_10 : z_go zP 19 10 L [] q Q ↔ Q (.inl none) q := z_go_rt (len := 1) (x := (0, 0, [])) p_19 rfl rfl rfl
theorem g19_11 : z_go zP 19 11 [some (.ref u), l1, l2] S q Q ↔ z_go zP 19 12 [some (.ref u), l1, l2] (.ref u :: S) q Q := ge_x (len := 1) (x := (0, 0, [])) p_19 rfl rfl
theorem g19_12 : z_go zP 19 12 L (.ref u :: S) q Q ↔ ∃ v, z_get [1] 7 q.1 u = some v ∧ z_go zP 19 15 L (v :: S) q Q := ge_getf (len := 3) (x := (7, 0, [1])) p_19 rfl
theorem g19_15 : z_go zP 19 15 [l0, l1, l2] (zi a :: S) q Q ↔ z_go zP 19 16 [l0, (zkl l1), some (zi a)] S q Q := (by cases l1 with | none => exact ge_x (len := 1) (x := (0, 0, [])) p_19 rfl rfl | some v => cases v <;> exact ge_x (len := 1) (x := (0, 0, [])) p_19 rfl rfl)
theorem g19_16 : z_go zP 19 16 [l0, l1, some (zi a)] S q Q ↔ z_go zP 19 17 [l0, l1, some (zi a)] (zi a :: S) q Q := ge_x (len := 1) (x := (0, 0, [])) p_19 rfl rfl
theorem g19_17 (a1 : -2147483648 ≤ a) (a2 : a < 2147483648) : z_go zP 19 17 L (zi a :: S) q Q ↔ if a ≤ 0 then z_go zP 19 56 L S q Q else z_go zP 19 20 L S q Q := ge_if_le (len := 3) (x := (0, 0, [])) a1 a2 p_19 rfl rfl
theorem g19_20 : z_go zP 19 20 [some (.ref u), l1, l2] S q Q ↔ z_go zP 19 21 [some (.ref u), l1, l2] (.ref u :: S) q Q := ge_x (len := 1) (x := (0, 0, [])) p_19 rfl rfl
theorem g19_21 : z_go zP 19 21 [l0, some (zi a), l2] S q Q ↔ z_go zP 19 22 [l0, some (zi a), l2] (zi a :: S) q Q := ge_x (len := 1) (x := (0, 0, [])) p_19 rfl rfl
theorem g19_22 : z_go zP 19 22 [some (.ref u), l1, l2] S q Q ↔ z_go zP 19 23 [some (.ref u), l1, l2] (.ref u :: S) q Q := ge_x (len := 1) (x := (0, 0, [])) p_19 rfl rfl
theorem g19_23 : z_go zP 19 23 L (.ref u :: S) q Q ↔ ∃ v, z_get [1] 2 q.1 u = some v ∧ z_go zP 19 26 L (v :: S) q Q := ge_getf (len := 3) (x := (2, 0, [1])) p_19 rfl
theorem g19_26 : z_go zP 19 26 [l0, l1, some (zi a)] S q Q ↔ z_go zP 19 27 [l0, l1, some (zi a)] (zi a :: S) q Q := ge_x (len := 1) (x := (0, 0, [])) p_19 rfl rfl
theorem g19_27 : z_go zP 19 27 L S q Q ↔ z_go zP 19 28 L (zi 1 :: S) q Q := ge_x (len := 1) (x := (0, 0, [])) p_19 rfl rfl
theorem g19_28 : z_go zP 19 28 L (zi b :: zi a :: S) q Q ↔ z_go zP 19 29 L (zi (a - b) :: S) q Q := ge_isub (len := 1) (x := (0, 0, [])) p_19 rfl
theorem g19_29 : z_go zP 19 29 L (zi a :: .ref u :: S) q Q ↔ ∃ v, z_at [99, 100] q.1 u (Int32.ofInt a) = some v ∧ z_go zP 19 30 L (v :: S) q Q := ge_iald (len := 1) (x := (0, 0, [])) p_19 rfl
theorem g19_30 : z_go zP 19 30 L [zi x1, zi x0, .ref u] q Q ↔ z_tg q.1 u = some 1 ∧ z_go zP 20 0 [some (.ref u), some (zi x0), some (zi x1), none, none, none, none, none, none] [] q (zc 19 33 L [] Q) := ge_vc (len := 3) (pc := 30) (S := [zi x1, zi x0, .ref u]) (u := u) (k1 := 20) (A := [.ref u, zi x0, zi x1]) (r := []) (tag := 1) (n0 := 2) (zwb_le (by show 0 ≤ 4; omega)) p_19 rfl rfl rfl p_20 (by show 3 ≤ 9; omega) rfl
theorem g19_33 (a1 : -2147483648 ≤ a) (a2 : a < 2147483648) : z_go zP 19 33 L (zi a :: S) q Q ↔ if a = 0 then z_go zP 19 56 L S q Q else z_go zP 19 36 L S q Q := ge_if_eq (len := 3) (x := (0, 0, [])) a1 a2 p_19 rfl rfl
theorem g19_33b {c : Prop} [Decidable c] : z_go zP 19 33 L (zi (bI c) :: S) q Q ↔ if c then z_go zP 19 36 L S q Q else z_go zP 19 56 L S q Q := ge_if_eq_b (len := 3) (x := (0, 0, [])) p_19 rfl rfl
theorem g19_36 : z_go zP 19 36 [some (.ref u), l1, l2] S q Q ↔ z_go zP 19 37 [some (.ref u), l1, l2] (.ref u :: S) q Q := ge_x (len := 1) (x := (0, 0, [])) p_19 rfl rfl
theorem g19_37 : z_go zP 19 37 L (.ref u :: S) q Q ↔ ∃ v, z_get [1] 2 q.1 u = some v ∧ z_go zP 19 40 L (v :: S) q Q := ge_getf (len := 3) (x := (2, 0, [1])) p_19 rfl
theorem g19_40 : z_go zP 19 40 [l0, l1, some (zi a)] S q Q ↔ z_go zP 19 41 [l0, l1, some (zi a)] (zi a :: S) q Q := ge_x (len := 1) (x := (0, 0, [])) p_19 rfl rfl
theorem g19_41 : z_go zP 19 41 [some (.ref u), l1, l2] S q Q ↔ z_go zP 19 42 [some (.ref u), l1, l2] (.ref u :: S) q Q := ge_x (len := 1) (x := (0, 0, [])) p_19 rfl rfl
theorem g19_42 : z_go zP 19 42 L (.ref u :: S) q Q ↔ ∃ v, z_get [1] 2 q.1 u = some v ∧ z_go zP 19 45 L (v :: S) q Q := ge_getf (len := 3) (x := (2, 0, [1])) p_19 rfl
theorem g19_45 : z_go zP 19 45 [l0, l1, some (zi a)] S q Q ↔ z_go zP 19 46 [l0, l1, some (zi a)] (zi a :: S) q Q := ge_x (len := 1) (x := (0, 0, [])) p_19 rfl rfl
theorem g19_46 : z_go zP 19 46 L S q Q ↔ z_go zP 19 47 L (zi 1 :: S) q Q := ge_x (len := 1) (x := (0, 0, [])) p_19 rfl rfl
theorem g19_47 : z_go zP 19 47 L (zi b :: zi a :: S) q Q ↔ z_go zP 19 48 L (zi (a - b) :: S) q Q := ge_isub (len := 1) (x := (0, 0, [])) p_19 rfl
theorem g19_48 : z_go zP 19 48 L (zi a :: .ref u :: S) q Q ↔ ∃ v, z_at [99, 100] q.1 u (Int32.ofInt a) = some v ∧ z_go zP 19 49 L (v :: S) q Q := ge_iald (len := 1) (x := (0, 0, [])) p_19 rfl
theorem g19_49 : z_go zP 19 49 L (zi b :: zi a :: .ref u :: S) q Q ↔ ∃ q1, z_st 100 q u (Int32.ofInt a) (zi b) = some q1 ∧ z_go zP 19 50 L S q1 Q := ge_iast (len := 1) (x := (0, 0, [])) p_19 rfl
theorem g19_50 : z_go zP 19 50 [l0, l1, some (zi a)] S q Q ↔ z_go zP 19 53 [l0, (zkl l1), some (zi (a + (-1)))] S q Q := (by unfold zi; rw [Int32.ofInt_add]; cases l1 with | none => exact ge_x (len := 3) (x := (0, 0, [])) p_19 rfl rfl | some v => cases v <;> exact ge_x (len := 3) (x := (0, 0, [])) p_19 rfl rfl)
theorem g19_53 : z_go zP 19 53 L S q Q ↔ z_go zP 19 16 L S q Q := ge_to (len := 3) (x := (0, 0, [])) p_19 rfl rfl rfl
theorem g19_56 : z_go zP 19 56 [some (.ref u), l1, l2] S q Q ↔ z_go zP 19 57 [some (.ref u), l1, l2] (.ref u :: S) q Q := ge_x (len := 1) (x := (0, 0, [])) p_19 rfl rfl
theorem g19_57 : z_go zP 19 57 L (.ref u :: S) q Q ↔ ∃ v, z_get [1] 2 q.1 u = some v ∧ z_go zP 19 60 L (v :: S) q Q := ge_getf (len := 3) (x := (2, 0, [1])) p_19 rfl
theorem g19_60 : z_go zP 19 60 [l0, l1, some (zi a)] S q Q ↔ z_go zP 19 61 [l0, l1, some (zi a)] (zi a :: S) q Q := ge_x (len := 1) (x := (0, 0, [])) p_19 rfl rfl
theorem g19_61 : z_go zP 19 61 [l0, some (zi a), l2] S q Q ↔ z_go zP 19 62 [l0, some (zi a), l2] (zi a :: S) q Q := ge_x (len := 1) (x := (0, 0, [])) p_19 rfl rfl
theorem g19_62 : z_go zP 19 62 L (zi b :: zi a :: .ref u :: S) q Q ↔ ∃ q1, z_st 100 q u (Int32.ofInt a) (zi b) = some q1 ∧ z_go zP 19 63 L S q1 Q := ge_iast (len := 1) (x := (0, 0, [])) p_19 rfl
theorem g19_63 : z_go zP 19 63 [some (.ref u), l1, l2] S q Q ↔ z_go zP 19 64 [some (.ref u), l1, l2] (.ref u :: S) q Q := ge_x (len := 1) (x := (0, 0, [])) p_19 rfl rfl
theorem g19_64 : z_go zP 19 64 L (.ref u :: S) q Q ↔ z_go zP 19 65 L (.ref u :: .ref u :: S) q Q := ge_x (len := 1) (x := (0, 0, [])) p_19 rfl rfl
theorem g19_64i : z_go zP 19 64 L (zi a :: S) q Q ↔ z_go zP 19 65 L (zi a :: zi a :: S) q Q := ge_x (len := 1) (x := (0, 0, [])) p_19 rfl rfl
theorem g19_65 : z_go zP 19 65 L (.ref u :: S) q Q ↔ ∃ v, z_get [1] 7 q.1 u = some v ∧ z_go zP 19 68 L (v :: S) q Q := ge_getf (len := 3) (x := (7, 0, [1])) p_19 rfl
theorem g19_68 : z_go zP 19 68 L S q Q ↔ z_go zP 19 69 L (zi 1 :: S) q Q := ge_x (len := 1) (x := (0, 0, [])) p_19 rfl rfl
theorem g19_69 : z_go zP 19 69 L (zi b :: zi a :: S) q Q ↔ z_go zP 19 70 L (zi (a + b) :: S) q Q := ge_iadd (len := 1) (x := (0, 0, [])) p_19 rfl
theorem g19_70 : z_go zP 19 70 L (v :: .ref u :: S) q Q ↔ ∃ q1, z_put [1] 7 q u v = some q1 ∧ z_go zP 19 73 L S q1 Q := ge_putf (len := 3) (x := (7, 0, [1])) p_19 rfl
theorem g19_73 : z_go zP 19 73 L [] q Q ↔ Q (.inl none) q := z_go_rt (len := 1) (x := (0, 0, [])) p_19 rfl rfl rfl
theorem g20_0 : z_go zP 20 0 [some (.ref u), l1, l2, l3, l4, l5, l6, l7, l8] S q Q ↔ z_go zP 20 1 [some (.ref u), l1, l2, l3, l4, l5, l6, l7, l8] (.ref u :: S) q Q := ge_x (len := 1) (x := (0, 0, [])) p_20 rfl rfl
theorem g20_1 : z_go zP 20 1 L (.ref u :: S) q Q ↔ ∃ v, z_get [1] 4 q.1 u = some v ∧ z_go zP 20 4 L (v :: S) q Q := ge_getf (len := 3) (x := (4, 0, [1])) p_20 rfl
theorem g20_4 : z_go zP 20 4 L [.ref u] q Q ↔ z_tg q.1 u = some 3 ∧ z_go zP 29 0 [some (.ref u)] [] q (zc 20 7 L [] Q) := ge_vc (len := 3) (pc := 4) (S := [.ref u]) (u := u) (k1 := 29) (A := [.ref u]) (r := []) (tag := 3) (n0 := 0) (zwb_le (by show 0 ≤ 4; omega)) p_20 rfl rfl rfl p_29 (by show 1 ≤ 1; omega) rfl
theorem g20_7 : z_go zP 20 7 [l0, l1, l2, l3, l4, l5, l6, l7, l8] (zi a :: S) q Q ↔ z_go zP 20 8 [l0, l1, (zkl l2), some (zi a), l4, l5, l6, l7, l8] S q Q := (by cases l2 with | none => exact ge_x (len := 1) (x := (0, 0, [])) p_20 rfl rfl | some v => cases v <;> exact ge_x (len := 1) (x := (0, 0, [])) p_20 rfl rfl)
theorem g20_8 : z_go zP 20 8 L S q Q ↔ z_go zP 20 9 L (zi 2 :: S) q Q := ge_x (len := 1) (x := (0, 0, [])) p_20 rfl rfl
theorem g20_9 : z_go zP 20 9 [l0, l1, l2, l3, l4, l5, l6, l7, l8] (zi a :: S) q Q ↔ z_go zP 20 11 [l0, l1, l2, (zkl l3), some (zi a), l5, l6, l7, l8] S q Q := (by cases l3 with | none => exact ge_x (len := 2) (x := (0, 0, [])) p_20 rfl rfl | some v => cases v <;> exact ge_x (len := 2) (x := (0, 0, [])) p_20 rfl rfl)
theorem g20_11 : z_go zP 20 11 [l0, l1, l2, l3, some (zi a), l5, l6, l7, l8] S q Q ↔ z_go zP 20 13 [l0, l1, l2, l3, some (zi a), l5, l6, l7, l8] (zi a :: S) q Q := ge_x (len := 2) (x := (0, 0, [])) p_20 rfl rfl
theorem g20_13 : z_go zP 20 13 L S q Q ↔ z_go zP 20 14 L (zi 2 :: S) q Q := ge_x (len := 1) (x := (0, 0, [])) p_20 rfl rfl
theorem g20_14 : z_go zP 20 14 [l0, l1, l2, some (zi a), l4, l5, l6, l7, l8] S q Q ↔ z_go zP 20 15 [l0, l1, l2, some (zi a), l4, l5, l6, l7, l8] (zi a :: S) q Q := ge_x (len := 1) (x := (0, 0, [])) p_20 rfl rfl
theorem g20_15 : z_go zP 20 15 L (zi b :: zi a :: S) q Q ↔ z_go zP 20 16 L (zi (a + b) :: S) q Q := ge_iadd (len := 1) (x := (0, 0, [])) p_20 rfl
theorem g20_16 (a1 : -2147483648 ≤ a) (a2 : a < 2147483648) (b1 : -2147483648 ≤ b) (b2 : b < 2147483648) : z_go zP 20 16 L (zi b :: zi a :: S) q Q ↔ if b ≤ a then z_go zP 20 75 L S q Q else z_go zP 20 19 L S q Q := ge_ic_ge (len := 3) (x := (0, 0, [])) a1 a2 b1 b2 p_20 rfl rfl
theorem g20_19 : z_go zP 20 19 [some (.ref u), l1, l2, l3, l4, l5, l6, l7, l8] S q Q ↔ z_go zP 20 20 [some (.ref u), l1, l2, l3, l4, l5, l6, l7, l8] (.ref u :: S) q Q := ge_x (len := 1) (x := (0, 0, [])) p_20 rfl rfl
theorem g20_20 : z_go zP 20 20 L (.ref u :: S) q Q ↔ ∃ v, z_get [1] 0 q.1 u = some v ∧ z_go zP 20 23 L (v :: S) q Q := ge_getf (len := 3) (x := (0, 0, [1])) p_20 rfl
theorem g20_23 : z_go zP 20 23 [l0, some (zi a), l2, l3, l4, l5, l6, l7, l8] S q Q ↔ z_go zP 20 24 [l0, some (zi a), l2, l3, l4, l5, l6, l7, l8] (zi a :: S) q Q := ge_x (len := 1) (x := (0, 0, [])) p_20 rfl rfl
theorem g20_24 : z_go zP 20 24 L S q Q ↔ z_go zP 20 26 L (zi 28 :: S) q Q := ge_x (len := 2) (x := (0, 0, [])) p_20 rfl rfl
theorem g20_26 : z_go zP 20 26 L (zi b :: zi a :: S) q Q ↔ z_go zP 20 27 L (zi (a * b) :: S) q Q := ge_imul (len := 1) (x := (0, 0, [])) p_20 rfl
theorem g20_27 : z_go zP 20 27 [l0, l1, l2, l3, some (zi a), l5, l6, l7, l8] S q Q ↔ z_go zP 20 29 [l0, l1, l2, l3, some (zi a), l5, l6, l7, l8] (zi a :: S) q Q := ge_x (len := 2) (x := (0, 0, [])) p_20 rfl rfl
theorem g20_29 : z_go zP 20 29 L (zi b :: zi a :: S) q Q ↔ z_go zP 20 30 L (zi (a + b) :: S) q Q := ge_iadd (len := 1) (x := (0, 0, [])) p_20 rfl
theorem g20_30 : z_go zP 20 30 L (zi a :: .ref u :: S) q Q ↔ ∃ v, z_at [101] q.1 u (Int32.ofInt a) = some v ∧ z_go zP 20 31 L (v :: S) q Q := ge_lald (len := 1) (x := (0, 0, [])) p_20 rfl
theorem g20_31 : z_go zP 20 31 [l0, l1, l2, l3, l4, l5, l6, l7, l8] (zl a :: S) q Q ↔ z_go zP 20 33 [l0, l1, l2, l3, (zkl l4), some (zl a), none, l7, l8] S q Q := (by cases l4 with | none => exact ge_x (len := 2) (x := (0, 0, [])) p_20 rfl rfl | some v => cases v <;> exact ge_x (len := 2) (x := (0, 0, [])) p_20 rfl rfl)
theorem g20_33 : z_go zP 20 33 [some (.ref u), l1, l2, l3, l4, l5, l6, l7, l8] S q Q ↔ z_go zP 20 34 [some (.ref u), l1, l2, l3, l4, l5, l6, l7, l8] (.ref u :: S) q Q := ge_x (len := 1) (x := (0, 0, [])) p_20 rfl rfl
theorem g20_34 : z_go zP 20 34 L (.ref u :: S) q Q ↔ ∃ v, z_get [1] 0 q.1 u = some v ∧ z_go zP 20 37 L (v :: S) q Q := ge_getf (len := 3) (x := (0, 0, [1])) p_20 rfl
theorem g20_37 : z_go zP 20 37 [l0, l1, some (zi a), l3, l4, l5, l6, l7, l8] S q Q ↔ z_go zP 20 38 [l0, l1, some (zi a), l3, l4, l5, l6, l7, l8] (zi a :: S) q Q := ge_x (len := 1) (x := (0, 0, [])) p_20 rfl rfl
theorem g20_38 : z_go zP 20 38 L S q Q ↔ z_go zP 20 40 L (zi 28 :: S) q Q := ge_x (len := 2) (x := (0, 0, [])) p_20 rfl rfl
theorem g20_40 : z_go zP 20 40 L (zi b :: zi a :: S) q Q ↔ z_go zP 20 41 L (zi (a * b) :: S) q Q := ge_imul (len := 1) (x := (0, 0, [])) p_20 rfl
theorem g20_41 : z_go zP 20 41 [l0, l1, l2, l3, some (zi a), l5, l6, l7, l8] S q Q ↔ z_go zP 20 43 [l0, l1, l2, l3, some (zi a), l5, l6, l7, l8] (zi a :: S) q Q := ge_x (len := 2) (x := (0, 0, [])) p_20 rfl rfl
theorem g20_43 : z_go zP 20 43 L (zi b :: zi a :: S) q Q ↔ z_go zP 20 44 L (zi (a + b) :: S) q Q := ge_iadd (len := 1) (x := (0, 0, [])) p_20 rfl
theorem g20_44 : z_go zP 20 44 L (zi a :: .ref u :: S) q Q ↔ ∃ v, z_at [101] q.1 u (Int32.ofInt a) = some v ∧ z_go zP 20 45 L (v :: S) q Q := ge_lald (len := 1) (x := (0, 0, [])) p_20 rfl
theorem g20_45 : z_go zP 20 45 [l0, l1, l2, l3, l4, l5, l6, l7, l8] (zl a :: S) q Q ↔ z_go zP 20 47 [l0, l1, l2, l3, l4, l5, (zkl l6), some (zl a), none] S q Q := (by cases l6 with | none => exact ge_x (len := 2) (x := (0, 0, [])) p_20 rfl rfl | some v => cases v <;> exact ge_x (len := 2) (x := (0, 0, [])) p_20 rfl rfl)
theorem g20_47 : z_go zP 20 47 [l0, l1, l2, l3, l4, some (zl a), l6, l7, l8] S q Q ↔ z_go zP 20 49 [l0, l1, l2, l3, l4, some (zl a), l6, l7, l8] (zl a :: S) q Q := ge_x (len := 2) (x := (0, 0, [])) p_20 rfl rfl
theorem g20_49 : z_go zP 20 49 [l0, l1, l2, l3, l4, l5, l6, some (zl a), l8] S q Q ↔ z_go zP 20 51 [l0, l1, l2, l3, l4, l5, l6, some (zl a), l8] (zl a :: S) q Q := ge_x (len := 2) (x := (0, 0, [])) p_20 rfl rfl
theorem g20_51 (a1 : -9223372036854775808 ≤ a) (a2 : a < 9223372036854775808) (b1 : -9223372036854775808 ≤ b) (b2 : b < 9223372036854775808) : z_go zP 20 51 L (zl b :: zl a :: S) q Q ↔ if a = b then z_go zP 20 69 L S q Q else z_go zP 20 55 L S q Q := ge_lc_eq (len := 1) (x := (0, 0, [])) (p2 := 52) (l2 := 3) a1 a2 b1 b2 p_20 rfl rfl rfl rfl
theorem g20_55 : z_go zP 20 55 [l0, l1, l2, l3, l4, some (zl a), l6, l7, l8] S q Q ↔ z_go zP 20 57 [l0, l1, l2, l3, l4, some (zl a), l6, l7, l8] (zl a :: S) q Q := ge_x (len := 2) (x := (0, 0, [])) p_20 rfl rfl
theorem g20_57 : z_go zP 20 57 [l0, l1, l2, l3, l4, l5, l6, some (zl a), l8] S q Q ↔ z_go zP 20 59 [l0, l1, l2, l3, l4, l5, l6, some (zl a), l8] (zl a :: S) q Q := ge_x (len := 2) (x := (0, 0, [])) p_20 rfl rfl
theorem g20_59 (a1 : -9223372036854775808 ≤ a) (a2 : a < 9223372036854775808) (b1 : -9223372036854775808 ≤ b) (b2 : b < 9223372036854775808) : z_go zP 20 59 L (zl b :: zl a :: S) q Q ↔ if b ≤ a then z_go zP 20 67 L S q Q else z_go zP 20 63 L S q Q := ge_lc_ge (len := 1) (x := (0, 0, [])) (p2 := 60) (l2 := 3) a1 a2 b1 b2 p_20 rfl rfl rfl rfl
theorem g20_63 : z_go zP 20 63 L S q Q ↔ z_go zP 20 64 L (zi 1 :: S) q Q := ge_x (len := 1) (x := (0, 0, [])) p_20 rfl rfl
theorem g20_64 : z_go zP 20 64 L S q Q ↔ z_go zP 20 68 L S q Q := ge_to (len := 3) (x := (0, 0, [])) p_20 rfl rfl rfl
theorem g20_67 : z_go zP 20 67 L S q Q ↔ z_go zP 20 68 L (zi 0 :: S) q Q := ge_x (len := 1) (x := (0, 0, [])) p_20 rfl rfl
theorem g20_68_0 : z_go zP 20 68 L [zi 0] q Q ↔ Q (.inl (some (zi 0))) q := z_go_rt (len := 1) (x := (0, 0, [])) p_20 rfl rfl rfl
theorem g20_68_1 : z_go zP 20 68 L [zi 1] q Q ↔ Q (.inl (some (zi 1))) q := z_go_rt (len := 1) (x := (0, 0, [])) p_20 rfl rfl rfl
theorem g20_68b {c : Prop} [Decidable c] : z_go zP 20 68 L [zi (bI c)] q Q ↔ Q (.inl (some (zi (bI c)))) q := (by rcases bI_01 (c := c) with h | h <;> rw [h] <;> exact z_go_rt (len := 1) (x := (0, 0, [])) p_20 rfl rfl rfl)
theorem g20_69 : z_go zP 20 69 [l0, l1, l2, l3, some (zi a), l5, l6, l7, l8] S q Q ↔ z_go zP 20 72 [l0, l1, l2, (zkl l3), some (zi (a + 1)), l5, l6, l7, l8] S q Q := (by unfold zi; rw [Int32.ofInt_add]; cases l3 with | none => exact ge_x (len := 3) (x := (0, 0, [])) p_20 rfl rfl | some v => cases v <;> exact ge_x (len := 3) (x := (0, 0, [])) p_20 rfl rfl)
theorem g20_72 : z_go zP 20 72 L S q Q ↔ z_go zP 20 11 L S q Q := ge_to (len := 3) (x := (0, 0, [])) p_20 rfl rfl rfl
theorem g20_75 : z_go zP 20 75 L S q Q ↔ z_go zP 20 76 L (zi 0 :: S) q Q := ge_x (len := 1) (x := (0, 0, [])) p_20 rfl rfl
theorem g20_76_0 : z_go zP 20 76 L [zi 0] q Q ↔ Q (.inl (some (zi 0))) q := z_go_rt (len := 1) (x := (0, 0, [])) p_20 rfl rfl rfl
theorem g20_76_1 : z_go zP 20 76 L [zi 1] q Q ↔ Q (.inl (some (zi 1))) q := z_go_rt (len := 1) (x := (0, 0, [])) p_20 rfl rfl rfl
theorem g20_76b {c : Prop} [Decidable c] : z_go zP 20 76 L [zi (bI c)] q Q ↔ Q (.inl (some (zi (bI c)))) q := (by rcases bI_01 (c := c) with h | h <;> rw [h] <;> exact z_go_rt (len := 1) (x := (0, 0, [])) p_20 rfl rfl rfl)
theorem g21_0 : z_go zP 21 0 [some (.ref u), l1, l2] S q Q ↔ z_go zP 21 1 [some (.ref u), l1, l2] (.ref u :: S) q Q := ge_x (len := 1) (x := (0, 0, [])) p_21 rfl rfl
theorem g21_1 : z_go zP 21 1 L (.ref u :: S) q Q ↔ ∃ v, z_get [1] 4 q.1 u = some v ∧ z_go zP 21 4 L (v :: S) q Q := ge_getf (len := 3) (x := (4, 0, [1])) p_21 rfl
theorem g21_4 : z_go zP 21 4 L S q Q ↔ z_go zP 21 5 L (zi 1 :: S) q Q := ge_x (len := 1) (x := (0, 0, [])) p_21 rfl rfl
theorem g21_5 : z_go zP 21 5 L (v :: .ref u :: S) q Q ↔ ∃ q1, z_put [3] 4 q u v = some q1 ∧ z_go zP 21 8 L S q1 Q := ge_putf (len := 3) (x := (4, 0, [3])) p_21 rfl
theorem g21_8 : z_go zP 21 8 [some (.ref u), l1, l2] S q Q ↔ z_go zP 21 9 [some (.ref u), l1, l2] (.ref u :: S) q Q := ge_x (len := 1) (x := (0, 0, [])) p_21 rfl rfl
theorem g21_9 : z_go zP 21 9 L (.ref u :: S) q Q ↔ ∃ v, z_get [1] 4 q.1 u = some v ∧ z_go zP 21 12 L (v :: S) q Q := ge_getf (len := 3) (x := (4, 0, [1])) p_21 rfl
theorem g21_12 : z_go zP 21 12 [some (.ref u), l1, l2] S q Q ↔ z_go zP 21 13 [some (.ref u), l1, l2] (.ref u :: S) q Q := ge_x (len := 1) (x := (0, 0, [])) p_21 rfl rfl
theorem g21_13 : z_go zP 21 13 L (.ref u :: S) q Q ↔ ∃ v, z_get [1] 9 q.1 u = some v ∧ z_go zP 21 16 L (v :: S) q Q := ge_getf (len := 3) (x := (9, 0, [1])) p_21 rfl
theorem g21_16 : z_go zP 21 16 L (v :: .ref u :: S) q Q ↔ ∃ q1, z_put [3] 5 q u v = some q1 ∧ z_go zP 21 19 L S q1 Q := ge_putf (len := 3) (x := (5, 0, [3])) p_21 rfl
theorem g21_19 : z_go zP 21 19 [some (.ref u), l1, l2] S q Q ↔ z_go zP 21 20 [some (.ref u), l1, l2] (.ref u :: S) q Q := ge_x (len := 1) (x := (0, 0, [])) p_21 rfl rfl
theorem g21_20 : z_go zP 21 20 L (.ref u :: S) q Q ↔ ∃ v, z_get [1] 9 q.1 u = some v ∧ z_go zP 21 23 L (v :: S) q Q := ge_getf (len := 3) (x := (9, 0, [1])) p_21 rfl
theorem g21_23 (a1 : -2147483648 ≤ a) (a2 : a < 2147483648) : z_go zP 21 23 L (zi a :: S) q Q ↔ if a = 0 then z_go zP 21 27 L S q Q else z_go zP 21 26 L S q Q := ge_if_eq (len := 3) (x := (0, 0, [])) a1 a2 p_21 rfl rfl
theorem g21_23b {c : Prop} [Decidable c] : z_go zP 21 23 L (zi (bI c) :: S) q Q ↔ if c then z_go zP 21 26 L S q Q else z_go zP 21 27 L S q Q := ge_if_eq_b (len := 3) (x := (0, 0, [])) p_21 rfl rfl
theorem g21_26 : z_go zP 21 26 L [] q Q ↔ Q (.inl none) q := z_go_rt (len := 1) (x := (0, 0, [])) p_21 rfl rfl rfl
theorem g21_27 : z_go zP 21 27 [some (.ref u), l1, l2] S q Q ↔ z_go zP 21 28 [some (.ref u), l1, l2] (.ref u :: S) q Q := ge_x (len := 1) (x := (0, 0, [])) p_21 rfl rfl
theorem g21_28 : z_go zP 21 28 L (.ref u :: S) q Q ↔ ∃ v, z_get [1] 4 q.1 u = some v ∧ z_go zP 21 31 L (v :: S) q Q := ge_getf (len := 3) (x := (4, 0, [1])) p_21 rfl
theorem g21_31 : z_go zP 21 31 L [.ref u] q Q ↔ z_tg q.1 u = some 3 ∧ z_go zP 29 0 [some (.ref u)] [] q (zc 21 34 L [] Q) := ge_vc (len := 3) (pc := 31) (S := [.ref u]) (u := u) (k1 := 29) (A := [.ref u]) (r := []) (tag := 3) (n0 := 0) (zwb_le (by show 0 ≤ 4; omega)) p_21 rfl rfl rfl p_29 (by show 1 ≤ 1; omega) rfl
theorem g21_34 : z_go zP 21 34 [l0, l1, l2] (zi a :: S) q Q ↔ z_go zP 21 35 [(zkl l0), some (zi a), l2] S q Q := (by cases l0 with | none => exact ge_x (len := 1) (x := (0, 0, [])) p_21 rfl rfl | some v => cases v <;> exact ge_x (len := 1) (x := (0, 0, [])) p_21 rfl rfl)
theorem g21_35 : z_go zP 21 35 [some (.ref u), l1, l2] S q Q ↔ z_go zP 21 36 [some (.ref u), l1, l2] (.ref u :: S) q Q := ge_x (len := 1) (x := (0, 0, [])) p_21 rfl rfl
theorem g21_36 : z_go zP 21 36 L (.ref u :: S) q Q ↔ ∃ v, z_get [1] 4 q.1 u = some v ∧ z_go zP 21 39 L (v :: S) q Q := ge_getf (len := 3) (x := (4, 0, [1])) p_21 rfl
theorem g21_39 : z_go zP 21 39 [some (.ref u), l1, l2] S q Q ↔ z_go zP 21 40 [some (.ref u), l1, l2] (.ref u :: S) q Q := ge_x (len := 1) (x := (0, 0, [])) p_21 rfl rfl
theorem g21_40 : z_go zP 21 40 L (.ref u :: S) q Q ↔ ∃ v, z_get [1] 6 q.1 u = some v ∧ z_go zP 21 43 L (v :: S) q Q := ge_getf (len := 3) (x := (6, 0, [1])) p_21 rfl
theorem g21_43 : z_go zP 21 43 L (v :: .ref u :: S) q Q ↔ ∃ q1, z_put [3] 6 q u v = some q1 ∧ z_go zP 21 46 L S q1 Q := ge_putf (len := 3) (x := (6, 0, [3])) p_21 rfl
theorem g21_46 : z_go zP 21 46 [some (.ref u), l1, l2] S q Q ↔ z_go zP 21 47 [some (.ref u), l1, l2] (.ref u :: S) q Q := ge_x (len := 1) (x := (0, 0, [])) p_21 rfl rfl
theorem g21_47 : z_go zP 21 47 L (.ref u :: S) q Q ↔ ∃ v, z_get [1] 4 q.1 u = some v ∧ z_go zP 21 50 L (v :: S) q Q := ge_getf (len := 3) (x := (4, 0, [1])) p_21 rfl
theorem g21_50 : z_go zP 21 50 [some (.ref u), l1, l2] S q Q ↔ z_go zP 21 51 [some (.ref u), l1, l2] (.ref u :: S) q Q := ge_x (len := 1) (x := (0, 0, [])) p_21 rfl rfl
theorem g21_51 : z_go zP 21 51 L (.ref u :: S) q Q ↔ ∃ v, z_get [1] 8 q.1 u = some v ∧ z_go zP 21 54 L (v :: S) q Q := ge_getf (len := 3) (x := (8, 0, [1])) p_21 rfl
theorem g21_54 : z_go zP 21 54 L (v :: .ref u :: S) q Q ↔ ∃ q1, z_put [3] 8 q u v = some q1 ∧ z_go zP 21 57 L S q1 Q := ge_putf (len := 3) (x := (8, 0, [3])) p_21 rfl
theorem g21_57 : z_go zP 21 57 [some (.ref u), l1, l2] S q Q ↔ z_go zP 21 58 [some (.ref u), l1, l2] (.ref u :: S) q Q := ge_x (len := 1) (x := (0, 0, [])) p_21 rfl rfl
theorem g21_58 : z_go zP 21 58 L (.ref u :: S) q Q ↔ ∃ v, z_get [1] 4 q.1 u = some v ∧ z_go zP 21 61 L (v :: S) q Q := ge_getf (len := 3) (x := (4, 0, [1])) p_21 rfl
theorem g21_61 : z_go zP 21 61 [some (.ref u), l1, l2] S q Q ↔ z_go zP 21 62 [some (.ref u), l1, l2] (.ref u :: S) q Q := ge_x (len := 1) (x := (0, 0, [])) p_21 rfl rfl
theorem g21_62 : z_go zP 21 62 L (.ref u :: S) q Q ↔ ∃ v, z_get [1] 7 q.1 u = some v ∧ z_go zP 21 65 L (v :: S) q Q := ge_getf (len := 3) (x := (7, 0, [1])) p_21 rfl
theorem g21_65 : z_go zP 21 65 L (v :: .ref u :: S) q Q ↔ ∃ q1, z_put [3] 7 q u v = some q1 ∧ z_go zP 21 68 L S q1 Q := ge_putf (len := 3) (x := (7, 0, [3])) p_21 rfl
theorem g21_68 : z_go zP 21 68 [some (.ref u), l1, l2] S q Q ↔ z_go zP 21 69 [some (.ref u), l1, l2] (.ref u :: S) q Q := ge_x (len := 1) (x := (0, 0, [])) p_21 rfl rfl
theorem g21_69 : z_go zP 21 69 L (.ref u :: S) q Q ↔ ∃ v, z_get [1] 4 q.1 u = some v ∧ z_go zP 21 72 L (v :: S) q Q := ge_getf (len := 3) (x := (4, 0, [1])) p_21 rfl
theorem g21_72 : z_go zP 21 72 [some (.ref u), l1, l2] S q Q ↔ z_go zP 21 73 [some (.ref u), l1, l2] (.ref u :: S) q Q := ge_x (len := 1) (x := (0, 0, [])) p_21 rfl rfl
theorem g21_73 : z_go zP 21 73 L (.ref u :: S) q Q ↔ ∃ v, z_get [1] 7 q.1 u = some v ∧ z_go zP 21 76 L (v :: S) q Q := ge_getf (len := 3) (x := (7, 0, [1])) p_21 rfl
theorem g21_76 : z_go zP 21 76 [l0, some (zi a), l2] S q Q ↔ z_go zP 21 77 [l0, some (zi a), l2] (zi a :: S) q Q := ge_x (len := 1) (x := (0, 0, [])) p_21 rfl rfl
theorem g21_77 : z_go zP 21 77 L (zi b :: zi a :: S) q Q ↔ z_go zP 21 78 L (zi (a * b) :: S) q Q := ge_imul (len := 1) (x := (0, 0, [])) p_21 rfl
theorem g21_78 (a1 : 0 ≤ a) (a2 : a ≤ 60000) : z_go zP 21 78 L (zi a :: S) q Q ↔ z_go zP 21 80 L (.ref q.2.1 :: S) (z_new 101 a.toNat (fun _ => zl 0) q) Q := ge_nwa (len := 2) (x := (0, 0, [])) (n8 := componentBytes .long) a1 a2 (by decide) p_21 rfl rfl
theorem g21_80 : z_go zP 21 80 L (v :: .ref u :: S) q Q ↔ ∃ q1, z_put [3] 9 q u v = some q1 ∧ z_go zP 21 83 L S q1 Q := ge_putf (len := 3) (x := (9, 0, [3])) p_21 rfl
theorem g21_83 : z_go zP 21 83 L S q Q ↔ z_go zP 21 84 L (zi 0 :: S) q Q := ge_x (len := 1) (x := (0, 0, [])) p_21 rfl rfl
theorem g21_84 : z_go zP 21 84 [l0, l1, l2] (zi a :: S) q Q ↔ z_go zP 21 85 [l0, (zkl l1), some (zi a)] S q Q := (by cases l1 with | none => exact ge_x (len := 1) (x := (0, 0, [])) p_21 rfl rfl | some v => cases v <;> exact ge_x (len := 1) (x := (0, 0, [])) p_21 rfl rfl)
theorem g21_85 : z_go zP 21 85 [l0, l1, some (zi a)] S q Q ↔ z_go zP 21 86 [l0, l1, some (zi a)] (zi a :: S) q Q := ge_x (len := 1) (x := (0, 0, [])) p_21 rfl rfl
theorem g21_86 : z_go zP 21 86 [some (.ref u), l1, l2] S q Q ↔ z_go zP 21 87 [some (.ref u), l1, l2] (.ref u :: S) q Q := ge_x (len := 1) (x := (0, 0, [])) p_21 rfl rfl
theorem g21_87 : z_go zP 21 87 L (.ref u :: S) q Q ↔ ∃ v, z_get [1] 7 q.1 u = some v ∧ z_go zP 21 90 L (v :: S) q Q := ge_getf (len := 3) (x := (7, 0, [1])) p_21 rfl
theorem g21_90 (a1 : -2147483648 ≤ a) (a2 : a < 2147483648) (b1 : -2147483648 ≤ b) (b2 : b < 2147483648) : z_go zP 21 90 L (zi b :: zi a :: S) q Q ↔ if b ≤ a then z_go zP 21 128 L S q Q else z_go zP 21 93 L S q Q := ge_ic_ge (len := 3) (x := (0, 0, [])) a1 a2 b1 b2 p_21 rfl rfl
theorem g21_93 : z_go zP 21 93 [some (.ref u), l1, l2] S q Q ↔ z_go zP 21 94 [some (.ref u), l1, l2] (.ref u :: S) q Q := ge_x (len := 1) (x := (0, 0, [])) p_21 rfl rfl
theorem g21_94 : z_go zP 21 94 L (.ref u :: S) q Q ↔ ∃ v, z_get [1] 0 q.1 u = some v ∧ z_go zP 21 97 L (v :: S) q Q := ge_getf (len := 3) (x := (0, 0, [1])) p_21 rfl
theorem g21_97 : z_go zP 21 97 [some (.ref u), l1, l2] S q Q ↔ z_go zP 21 98 [some (.ref u), l1, l2] (.ref u :: S) q Q := ge_x (len := 1) (x := (0, 0, [])) p_21 rfl rfl
theorem g21_98 : z_go zP 21 98 L (.ref u :: S) q Q ↔ ∃ v, z_get [1] 2 q.1 u = some v ∧ z_go zP 21 101 L (v :: S) q Q := ge_getf (len := 3) (x := (2, 0, [1])) p_21 rfl
theorem g21_101 : z_go zP 21 101 [l0, l1, some (zi a)] S q Q ↔ z_go zP 21 102 [l0, l1, some (zi a)] (zi a :: S) q Q := ge_x (len := 1) (x := (0, 0, [])) p_21 rfl rfl
theorem g21_102 : z_go zP 21 102 L (zi a :: .ref u :: S) q Q ↔ ∃ v, z_at [99, 100] q.1 u (Int32.ofInt a) = some v ∧ z_go zP 21 103 L (v :: S) q Q := ge_iald (len := 1) (x := (0, 0, [])) p_21 rfl
theorem g21_103 : z_go zP 21 103 L S q Q ↔ z_go zP 21 105 L (zi 28 :: S) q Q := ge_x (len := 2) (x := (0, 0, [])) p_21 rfl rfl
theorem g21_105 : z_go zP 21 105 L (zi b :: zi a :: S) q Q ↔ z_go zP 21 106 L (zi (a * b) :: S) q Q := ge_imul (len := 1) (x := (0, 0, [])) p_21 rfl
theorem g21_106 : z_go zP 21 106 L S q Q ↔ z_go zP 21 107 L (zi 2 :: S) q Q := ge_x (len := 1) (x := (0, 0, [])) p_21 rfl rfl
theorem g21_107 : z_go zP 21 107 L (zi b :: zi a :: S) q Q ↔ z_go zP 21 108 L (zi (a + b) :: S) q Q := ge_iadd (len := 1) (x := (0, 0, [])) p_21 rfl
theorem g21_108 : z_go zP 21 108 [some (.ref u), l1, l2] S q Q ↔ z_go zP 21 109 [some (.ref u), l1, l2] (.ref u :: S) q Q := ge_x (len := 1) (x := (0, 0, [])) p_21 rfl rfl
theorem g21_109 : z_go zP 21 109 L (.ref u :: S) q Q ↔ ∃ v, z_get [1] 4 q.1 u = some v ∧ z_go zP 21 112 L (v :: S) q Q := ge_getf (len := 3) (x := (4, 0, [1])) p_21 rfl
theorem g21_112 : z_go zP 21 112 L (.ref u :: S) q Q ↔ ∃ v, z_get [3] 9 q.1 u = some v ∧ z_go zP 21 115 L (v :: S) q Q := ge_getf (len := 3) (x := (9, 0, [3])) p_21 rfl
theorem g21_115 : z_go zP 21 115 [l0, l1, some (zi a)] S q Q ↔ z_go zP 21 116 [l0, l1, some (zi a)] (zi a :: S) q Q := ge_x (len := 1) (x := (0, 0, [])) p_21 rfl rfl
theorem g21_116 : z_go zP 21 116 [l0, some (zi a), l2] S q Q ↔ z_go zP 21 117 [l0, some (zi a), l2] (zi a :: S) q Q := ge_x (len := 1) (x := (0, 0, [])) p_21 rfl rfl
theorem g21_117 : z_go zP 21 117 L (zi b :: zi a :: S) q Q ↔ z_go zP 21 118 L (zi (a * b) :: S) q Q := ge_imul (len := 1) (x := (0, 0, [])) p_21 rfl
theorem g21_118 : z_go zP 21 118 [l0, some (zi a), l2] S q Q ↔ z_go zP 21 119 [l0, some (zi a), l2] (zi a :: S) q Q := ge_x (len := 1) (x := (0, 0, [])) p_21 rfl rfl
theorem g21_119 : z_go zP 21 119 L [zi e, zi d, .ref u2, zi c, .ref u] q Q ↔ ∃ q1, z_cpy q u (Int32.ofInt c) u2 (Int32.ofInt d) (Int32.ofInt e) = some q1 ∧ z_go zP 21 122 L [] q1 Q := ge_acp (len := 3) (x := (0, 8, [])) (by show 0 ≤ 4; omega) rfl p_21 rfl
theorem g21_122 : z_go zP 21 122 [l0, l1, some (zi a)] S q Q ↔ z_go zP 21 125 [l0, (zkl l1), some (zi (a + 1))] S q Q := (by unfold zi; rw [Int32.ofInt_add]; cases l1 with | none => exact ge_x (len := 3) (x := (0, 0, [])) p_21 rfl rfl | some v => cases v <;> exact ge_x (len := 3) (x := (0, 0, [])) p_21 rfl rfl)
theorem g21_125 : z_go zP 21 125 L S q Q ↔ z_go zP 21 85 L S q Q := ge_to (len := 3) (x := (0, 0, [])) p_21 rfl rfl rfl
theorem g21_128 : z_go zP 21 128 L [] q Q ↔ Q (.inl none) q := z_go_rt (len := 1) (x := (0, 0, [])) p_21 rfl rfl rfl
theorem g22_0 : z_go zP 22 0 [some (.ref u), l1, l2] S q Q ↔ z_go zP 22 1 [some (.ref u), l1, l2] (.ref u :: S) q Q := ge_x (len := 1) (x := (0, 0, [])) p_22 rfl rfl
theorem g22_1 : z_go zP 22 1 L S q Q ↔ z_go zP 22 2 L (zi 1 :: S) q Q := ge_x (len := 1) (x := (0, 0, [])) p_22 rfl rfl
theorem g22_2 : z_go zP 22 2 L [zi x0, .ref u] q Q ↔ z_go zP 48 0 [some (.ref u), some (zi x0)] [] q (zd 22 5 L [] Q) := (z_go_cl (len := 3) (x := (48, 3, [1])) (k1 := 48) (A := [.ref u, zi x0]) (r := []) p_22 rfl rfl rfl rfl (by simp only [z_cl, List.drop]; rw [if_pos]; rfl; exact by first | exact ⟨by decide, (zwb_le (by show 0 ≤ 4; omega))⟩ | exact ⟨by decide, by show 2 ≤ 2; omega, (zwb_le (by show 0 ≤ 4; omega))⟩) p_48 (by show 2 ≤ 2; omega)).trans (ge_bk_d rfl)
theorem g22_5 : z_go zP 22 5 [some (.ref u), l1, l2] S q Q ↔ z_go zP 22 6 [some (.ref u), l1, l2] (.ref u :: S) q Q := ge_x (len := 1) (x := (0, 0, [])) p_22 rfl rfl
theorem g22_6 : z_go zP 22 6 [l0, l1, some (zi a)] S q Q ↔ z_go zP 22 7 [l0, l1, some (zi a)] (zi a :: S) q Q := ge_x (len := 1) (x := (0, 0, [])) p_22 rfl rfl
theorem g22_7 : z_go zP 22 7 L (v :: .ref u :: S) q Q ↔ ∃ q1, z_put [2] 1 q u v = some q1 ∧ z_go zP 22 10 L S q1 Q := ge_putf (len := 3) (x := (1, 0, [2])) p_22 rfl
theorem g22_10 : z_go zP 22 10 [some (.ref u), l1, l2] S q Q ↔ z_go zP 22 11 [some (.ref u), l1, l2] (.ref u :: S) q Q := ge_x (len := 1) (x := (0, 0, [])) p_22 rfl rfl
theorem g22_11 : z_go zP 22 11 L S q Q ↔ z_go zP 22 12 L (zl 1 :: S) q Q := ge_x (len := 1) (x := (0, 0, [])) p_22 rfl rfl
theorem g22_12 : z_go zP 22 12 [l0, some (zi a), l2] S q Q ↔ z_go zP 22 13 [l0, some (zi a), l2] (zi a :: S) q Q := ge_x (len := 1) (x := (0, 0, [])) p_22 rfl rfl
theorem g22_13 : z_go zP 22 13 L (zi b :: zl a :: S) q Q ↔ z_go zP 22 14 L (zl (llshl a b) :: S) q Q := ge_lshl (len := 1) (x := (0, 0, [])) p_22 rfl
theorem g22_14 : z_go zP 22 14 L S q Q ↔ z_go zP 22 15 L (zl 1 :: S) q Q := ge_x (len := 1) (x := (0, 0, [])) p_22 rfl rfl
theorem g22_15 : z_go zP 22 15 L (zl b :: zl a :: S) q Q ↔ z_go zP 22 16 L (zl (a - b) :: S) q Q := ge_lsub (len := 1) (x := (0, 0, [])) p_22 rfl
theorem g22_16 : z_go zP 22 16 L (v :: .ref u :: S) q Q ↔ ∃ q1, z_put [2] 2 q u v = some q1 ∧ z_go zP 22 19 L S q1 Q := ge_putf (len := 3) (x := (2, 0, [2])) p_22 rfl
theorem g22_19 : z_go zP 22 19 L [] q Q ↔ Q (.inl none) q := z_go_rt (len := 1) (x := (0, 0, [])) p_22 rfl rfl rfl
theorem g23_0 : z_go zP 23 0 L S q Q ↔ z_go zP 23 1 L (zi 0 :: S) q Q := ge_x (len := 1) (x := (0, 0, [])) p_23 rfl rfl
theorem g23_1_0 : z_go zP 23 1 L [zi 0] q Q ↔ Q (.inl (some (zi 0))) q := z_go_rt (len := 1) (x := (0, 0, [])) p_23 rfl rfl rfl
theorem g23_1_1 : z_go zP 23 1 L [zi 1] q Q ↔ Q (.inl (some (zi 1))) q := z_go_rt (len := 1) (x := (0, 0, [])) p_23 rfl rfl rfl
theorem g23_1b {c : Prop} [Decidable c] : z_go zP 23 1 L [zi (bI c)] q Q ↔ Q (.inl (some (zi (bI c)))) q := (by rcases bI_01 (c := c) with h | h <;> rw [h] <;> exact z_go_rt (len := 1) (x := (0, 0, [])) p_23 rfl rfl rfl)
theorem g24_0 : z_go zP 24 0 [l0, some (zl a), l2] S q Q ↔ z_go zP 24 1 [l0, some (zl a), l2] (zl a :: S) q Q := ge_x (len := 1) (x := (0, 0, [])) p_24 rfl rfl
theorem g24_1 : z_go zP 24 1 [some (.ref u), l1, l2] S q Q ↔ z_go zP 24 2 [some (.ref u), l1, l2] (.ref u :: S) q Q := ge_x (len := 1) (x := (0, 0, [])) p_24 rfl rfl
theorem g24_2 : z_go zP 24 2 L (.ref u :: S) q Q ↔ ∃ v, z_get [2] 2 q.1 u = some v ∧ z_go zP 24 5 L (v :: S) q Q := ge_getf (len := 3) (x := (2, 0, [2])) p_24 rfl
theorem g24_5 : z_go zP 24 5 L (zl b :: zl a :: S) q Q ↔ z_go zP 24 6 L (zl (lland a b) :: S) q Q := ge_land (len := 1) (x := (0, 0, [])) p_24 rfl
theorem g24_6 : z_go zP 24 6 L [zl a] q Q ↔ Q (.inl (some (zl a))) q := z_go_rt (len := 1) (x := (0, 0, [])) p_24 rfl rfl rfl
theorem g25_0 : z_go zP 25 0 [some (.ref u), l1, l2] S q Q ↔ z_go zP 25 1 [some (.ref u), l1, l2] (.ref u :: S) q Q := ge_x (len := 1) (x := (0, 0, [])) p_25 rfl rfl
theorem g25_1 : z_go zP 25 1 L (.ref u :: S) q Q ↔ ∃ v, z_get [2] 1 q.1 u = some v ∧ z_go zP 25 4 L (v :: S) q Q := ge_getf (len := 3) (x := (1, 0, [2])) p_25 rfl
theorem g25_4 : z_go zP 25 4 L S q Q ↔ z_go zP 25 5 L (zi 1 :: S) q Q := ge_x (len := 1) (x := (0, 0, [])) p_25 rfl rfl
theorem g25_5 (a1 : -2147483648 ≤ a) (a2 : a < 2147483648) (b1 : -2147483648 ≤ b) (b2 : b < 2147483648) : z_go zP 25 5 L (zi b :: zi a :: S) q Q ↔ if b ≤ a then z_go zP 25 12 L S q Q else z_go zP 25 8 L S q Q := ge_ic_ge (len := 3) (x := (0, 0, [])) a1 a2 b1 b2 p_25 rfl rfl
theorem g25_8 : z_go zP 25 8 L S q Q ↔ z_go zP 25 9 L (zi 0 :: S) q Q := ge_x (len := 1) (x := (0, 0, [])) p_25 rfl rfl
theorem g25_9 : z_go zP 25 9 L S q Q ↔ z_go zP 25 24 L S q Q := ge_to (len := 3) (x := (0, 0, [])) p_25 rfl rfl rfl
theorem g25_12 : z_go zP 25 12 [some (.ref u), l1, l2] S q Q ↔ z_go zP 25 13 [some (.ref u), l1, l2] (.ref u :: S) q Q := ge_x (len := 1) (x := (0, 0, [])) p_25 rfl rfl
theorem g25_13 : z_go zP 25 13 [l0, some (zl a), l2] S q Q ↔ z_go zP 25 14 [l0, some (zl a), l2] (zl a :: S) q Q := ge_x (len := 1) (x := (0, 0, [])) p_25 rfl rfl
theorem g25_14 : z_go zP 25 14 L [zl x0, .ref u] q Q ↔ z_tg q.1 u = some 2 ∧ z_go zP 24 0 [some (.ref u), some (zl x0), none] [] q (zc 25 17 L [] Q) := ge_vc (len := 3) (pc := 14) (S := [zl x0, .ref u]) (u := u) (k1 := 24) (A := [.ref u, zl x0]) (r := []) (tag := 2) (n0 := 1) (zwb_le (by show 0 ≤ 4; omega)) p_25 rfl rfl rfl p_24 (by show 3 ≤ 3; omega) rfl
theorem g25_17 : z_go zP 25 17 [some (.ref u), l1, l2] S q Q ↔ z_go zP 25 18 [some (.ref u), l1, l2] (.ref u :: S) q Q := ge_x (len := 1) (x := (0, 0, [])) p_25 rfl rfl
theorem g25_18 : z_go zP 25 18 L (.ref u :: S) q Q ↔ ∃ v, z_get [2] 1 q.1 u = some v ∧ z_go zP 25 21 L (v :: S) q Q := ge_getf (len := 3) (x := (1, 0, [2])) p_25 rfl
theorem g25_21 (a1 : -2147483648 ≤ a) (a2 : a < 2147483648) : z_go zP 25 21 L (zi a :: S) q Q ↔ z_go zP 25 22 L (zl a :: S) q Q := ge_i2l (len := 1) (x := (0, 0, [])) a1 a2 p_25 rfl
theorem g25_22 (a1 : -9223372036854775808 ≤ a) (a2 : a < 9223372036854775808) (b1 : 0 < b) (b2 : b < 9223372036854775808) : z_go zP 25 22 L (zl b :: zl a :: S) q Q ↔ z_go zP 25 23 L (zl (a.tmod b) :: S) q Q := ge_lrem (len := 1) (x := (0, 0, [])) a1 a2 b1 b2 p_25 rfl
theorem g25_23 : z_go zP 25 23 L (zl a :: S) q Q ↔ z_go zP 25 24 L (zi a :: S) q Q := ge_l2i (len := 1) (x := (0, 0, [])) p_25 rfl
theorem g25_24 : z_go zP 25 24 L [zi a] q Q ↔ Q (.inl (some (zi a))) q := ge_rti (len := 1) (x := (0, 0, [])) p_25 rfl rfl
theorem g26_0 : z_go zP 26 0 [some (.ref u), l1, l2, l3] S q Q ↔ z_go zP 26 1 [some (.ref u), l1, l2, l3] (.ref u :: S) q Q := ge_x (len := 1) (x := (0, 0, [])) p_26 rfl rfl
theorem g26_1 : z_go zP 26 1 L S q Q ↔ z_go zP 26 3 L (zi 6 :: S) q Q := ge_x (len := 2) (x := (0, 0, [])) p_26 rfl rfl
theorem g26_3 : z_go zP 26 3 L [zi x0, .ref u] q Q ↔ z_go zP 48 0 [some (.ref u), some (zi x0)] [] q (zd 26 6 L [] Q) := (z_go_cl (len := 3) (x := (48, 3, [1])) (k1 := 48) (A := [.ref u, zi x0]) (r := []) p_26 rfl rfl rfl rfl (by simp only [z_cl, List.drop]; rw [if_pos]; rfl; exact by first | exact ⟨by decide, (zwb_le (by show 0 ≤ 4; omega))⟩ | exact ⟨by decide, by show 2 ≤ 2; omega, (zwb_le (by show 0 ≤ 4; omega))⟩) p_48 (by show 2 ≤ 2; omega)).trans (ge_bk_d rfl)
theorem g26_6 : z_go zP 26 6 [some (.ref u), l1, l2, l3] S q Q ↔ z_go zP 26 7 [some (.ref u), l1, l2, l3] (.ref u :: S) q Q := ge_x (len := 1) (x := (0, 0, [])) p_26 rfl rfl
theorem g26_7 : z_go zP 26 7 L S q Q ↔ z_go zP 26 8 L (zi 0 :: S) q Q := ge_x (len := 1) (x := (0, 0, [])) p_26 rfl rfl
theorem g26_8 (a1 : 0 ≤ a) (a2 : a ≤ 60000) : z_go zP 26 8 L (zi a :: S) q Q ↔ z_go zP 26 10 L (.ref q.2.1 :: S) (z_new 101 a.toNat (fun _ => zl 0) q) Q := ge_nwa (len := 2) (x := (0, 0, [])) (n8 := componentBytes .long) a1 a2 (by decide) p_26 rfl rfl
theorem g26_10 : z_go zP 26 10 L (v :: .ref u :: S) q Q ↔ ∃ q1, z_put [3] 9 q u v = some q1 ∧ z_go zP 26 13 L S q1 Q := ge_putf (len := 3) (x := (9, 0, [3])) p_26 rfl
theorem g26_13 : z_go zP 26 13 [some (.ref u), l1, l2, l3] S q Q ↔ z_go zP 26 14 [some (.ref u), l1, l2, l3] (.ref u :: S) q Q := ge_x (len := 1) (x := (0, 0, [])) p_26 rfl rfl
theorem g26_14 : z_go zP 26 14 [l0, some (.ref u), l2, l3] S q Q ↔ z_go zP 26 15 [l0, some (.ref u), l2, l3] (.ref u :: S) q Q := ge_x (len := 1) (x := (0, 0, [])) p_26 rfl rfl
theorem g26_14n : z_go zP 26 14 [l0, some .null, l2, l3] S q Q ↔ z_go zP 26 15 [l0, some .null, l2, l3] (.null :: S) q Q := ge_x (len := 1) (x := (0, 0, [])) p_26 rfl rfl
theorem g26_15 : z_go zP 26 15 L (v :: .ref u :: S) q Q ↔ ∃ q1, z_put [3] 1 q u v = some q1 ∧ z_go zP 26 18 L S q1 Q := ge_putf (len := 3) (x := (1, 0, [3])) p_26 rfl
theorem g26_18 : z_go zP 26 18 [some (.ref u), l1, l2, l3] S q Q ↔ z_go zP 26 19 [some (.ref u), l1, l2, l3] (.ref u :: S) q Q := ge_x (len := 1) (x := (0, 0, [])) p_26 rfl rfl
theorem g26_19 : z_go zP 26 19 [l0, l1, some (.ref u), l3] S q Q ↔ z_go zP 26 20 [l0, l1, some (.ref u), l3] (.ref u :: S) q Q := ge_x (len := 1) (x := (0, 0, [])) p_26 rfl rfl
theorem g26_19n : z_go zP 26 19 [l0, l1, some .null, l3] S q Q ↔ z_go zP 26 20 [l0, l1, some .null, l3] (.null :: S) q Q := ge_x (len := 1) (x := (0, 0, [])) p_26 rfl rfl
theorem g26_20 : z_go zP 26 20 L (v :: .ref u :: S) q Q ↔ ∃ q1, z_put [3] 2 q u v = some q1 ∧ z_go zP 26 23 L S q1 Q := ge_putf (len := 3) (x := (2, 0, [3])) p_26 rfl
theorem g26_23 : z_go zP 26 23 [some (.ref u), l1, l2, l3] S q Q ↔ z_go zP 26 24 [some (.ref u), l1, l2, l3] (.ref u :: S) q Q := ge_x (len := 1) (x := (0, 0, [])) p_26 rfl rfl
theorem g26_24 : z_go zP 26 24 [l0, l1, l2, some (zi a)] S q Q ↔ z_go zP 26 25 [l0, l1, l2, some (zi a)] (zi a :: S) q Q := ge_x (len := 1) (x := (0, 0, [])) p_26 rfl rfl
theorem g26_25 : z_go zP 26 25 L (v :: .ref u :: S) q Q ↔ ∃ q1, z_put [3] 3 q u v = some q1 ∧ z_go zP 26 28 L S q1 Q := ge_putf (len := 3) (x := (3, 0, [3])) p_26 rfl
theorem g26_28 : z_go zP 26 28 L [] q Q ↔ Q (.inl none) q := z_go_rt (len := 1) (x := (0, 0, [])) p_26 rfl rfl rfl
theorem g27_0 : z_go zP 27 0 [l0, some (.ref u)] S q Q ↔ z_go zP 27 1 [l0, some (.ref u)] (.ref u :: S) q Q := ge_x (len := 1) (x := (0, 0, [])) p_27 rfl rfl
theorem g27_0n : z_go zP 27 0 [l0, some .null] S q Q ↔ z_go zP 27 1 [l0, some .null] (.null :: S) q Q := ge_x (len := 1) (x := (0, 0, [])) p_27 rfl rfl
theorem g27_1 : z_go zP 27 1 [some (.ref u), l1] S q Q ↔ z_go zP 27 2 [some (.ref u), l1] (.ref u :: S) q Q := ge_x (len := 1) (x := (0, 0, [])) p_27 rfl rfl
theorem g27_2 : z_go zP 27 2 L (.ref u :: S) q Q ↔ ∃ v, z_get [3] 1 q.1 u = some v ∧ z_go zP 27 5 L (v :: S) q Q := ge_getf (len := 3) (x := (1, 0, [3])) p_27 rfl
theorem g27_5 : z_go zP 27 5 L (.ref u2 :: .ref u :: S) q Q ↔ if u = u2 then z_go zP 27 16 L S q Q else z_go zP 27 8 L S q Q := ge_acmp_eq (len := 3) (x := (0, 0, [])) p_27 rfl rfl
theorem g27_8 : z_go zP 27 8 [l0, some (.ref u)] S q Q ↔ z_go zP 27 9 [l0, some (.ref u)] (.ref u :: S) q Q := ge_x (len := 1) (x := (0, 0, [])) p_27 rfl rfl
theorem g27_8n : z_go zP 27 8 [l0, some .null] S q Q ↔ z_go zP 27 9 [l0, some .null] (.null :: S) q Q := ge_x (len := 1) (x := (0, 0, [])) p_27 rfl rfl
theorem g27_9 : z_go zP 27 9 [some (.ref u), l1] S q Q ↔ z_go zP 27 10 [some (.ref u), l1] (.ref u :: S) q Q := ge_x (len := 1) (x := (0, 0, [])) p_27 rfl rfl
theorem g27_10 : z_go zP 27 10 L (.ref u :: S) q Q ↔ ∃ v, z_get [3] 2 q.1 u = some v ∧ z_go zP 27 13 L (v :: S) q Q := ge_getf (len := 3) (x := (2, 0, [3])) p_27 rfl
theorem g27_13 : z_go zP 27 13 L (.ref u2 :: .ref u :: S) q Q ↔ if u = u2 then z_go zP 27 16 L S q Q else z_go zP 27 20 L S q Q := ge_acmp_ne (len := 3) (x := (0, 0, [])) p_27 rfl rfl
theorem g27_16 : z_go zP 27 16 L S q Q ↔ z_go zP 27 17 L (zi 1 :: S) q Q := ge_x (len := 1) (x := (0, 0, [])) p_27 rfl rfl
theorem g27_17 : z_go zP 27 17 L S q Q ↔ z_go zP 27 21 L S q Q := ge_to (len := 3) (x := (0, 0, [])) p_27 rfl rfl rfl
theorem g27_20 : z_go zP 27 20 L S q Q ↔ z_go zP 27 21 L (zi 0 :: S) q Q := ge_x (len := 1) (x := (0, 0, [])) p_27 rfl rfl
theorem g27_21_0 : z_go zP 27 21 L [zi 0] q Q ↔ Q (.inl (some (zi 0))) q := z_go_rt (len := 1) (x := (0, 0, [])) p_27 rfl rfl rfl
theorem g27_21_1 : z_go zP 27 21 L [zi 1] q Q ↔ Q (.inl (some (zi 1))) q := z_go_rt (len := 1) (x := (0, 0, [])) p_27 rfl rfl rfl
theorem g27_21b {c : Prop} [Decidable c] : z_go zP 27 21 L [zi (bI c)] q Q ↔ Q (.inl (some (zi (bI c)))) q := (by rcases bI_01 (c := c) with h | h <;> rw [h] <;> exact z_go_rt (len := 1) (x := (0, 0, [])) p_27 rfl rfl rfl)
theorem g28_0 : z_go zP 28 0 [l0, some (zi a)] S q Q ↔ z_go zP 28 1 [l0, some (zi a)] (zi a :: S) q Q := ge_x (len := 1) (x := (0, 0, [])) p_28 rfl rfl
theorem g28_1 (a1 : -2147483648 ≤ a) (a2 : a < 2147483648) : z_go zP 28 1 L (zi a :: S) q Q ↔ if ¬ a = 0 then z_go zP 28 11 L S q Q else z_go zP 28 4 L S q Q := ge_if_ne (len := 3) (x := (0, 0, [])) a1 a2 p_28 rfl rfl
theorem g28_1b {c : Prop} [Decidable c] : z_go zP 28 1 L (zi (bI c) :: S) q Q ↔ if c then z_go zP 28 11 L S q Q else z_go zP 28 4 L S q Q := ge_if_ne_b (len := 3) (x := (0, 0, [])) p_28 rfl rfl
theorem g28_4 : z_go zP 28 4 [some (.ref u), l1] S q Q ↔ z_go zP 28 5 [some (.ref u), l1] (.ref u :: S) q Q := ge_x (len := 1) (x := (0, 0, [])) p_28 rfl rfl
theorem g28_5 : z_go zP 28 5 L (.ref u :: S) q Q ↔ ∃ v, z_get [3] 1 q.1 u = some v ∧ z_go zP 28 8 L (v :: S) q Q := ge_getf (len := 3) (x := (1, 0, [3])) p_28 rfl
theorem g28_8 : z_go zP 28 8 L S q Q ↔ z_go zP 28 15 L S q Q := ge_to (len := 3) (x := (0, 0, [])) p_28 rfl rfl rfl
theorem g28_11 : z_go zP 28 11 [some (.ref u), l1] S q Q ↔ z_go zP 28 12 [some (.ref u), l1] (.ref u :: S) q Q := ge_x (len := 1) (x := (0, 0, [])) p_28 rfl rfl
theorem g28_12 : z_go zP 28 12 L (.ref u :: S) q Q ↔ ∃ v, z_get [3] 2 q.1 u = some v ∧ z_go zP 28 15 L (v :: S) q Q := ge_getf (len := 3) (x := (2, 0, [3])) p_28 rfl
theorem g28_15 : z_go zP 28 15 L [.ref u] q Q ↔ Q (.inl (some (.ref u))) q := z_go_rt (len := 1) (x := (0, 0, [])) p_28 rfl rfl rfl
theorem g28_15n : z_go zP 28 15 L [.null] q Q ↔ Q (.inl (some .null)) q := z_go_rt (len := 1) (x := (0, 0, [])) p_28 rfl rfl rfl
theorem g29_0 : z_go zP 29 0 L S q Q ↔ z_go zP 29 2 L (zi 8 :: S) q Q := ge_x (len := 2) (x := (0, 0, [])) p_29 rfl rfl
theorem g29_2 : z_go zP 29 2 [some (.ref u)] S q Q ↔ z_go zP 29 3 [some (.ref u)] (.ref u :: S) q Q := ge_x (len := 1) (x := (0, 0, [])) p_29 rfl rfl
theorem g29_3 : z_go zP 29 3 L (.ref u :: S) q Q ↔ ∃ v, z_get [3] 1 q.1 u = some v ∧ z_go zP 29 6 L (v :: S) q Q := ge_getf (len := 3) (x := (1, 0, [3])) p_29 rfl
theorem g29_6 : z_go zP 29 6 L (.ref u :: S) q Q ↔ ∃ v, z_get [4] 1 q.1 u = some v ∧ z_go zP 29 9 L (v :: S) q Q := ge_getf (len := 3) (x := (1, 0, [4])) p_29 rfl
theorem g29_9 : z_go zP 29 9 L (.ref u :: S) q Q ↔ ∃ v, z_get [2] 1 q.1 u = some v ∧ z_go zP 29 12 L (v :: S) q Q := ge_getf (len := 3) (x := (1, 0, [2])) p_29 rfl
theorem g29_12 : z_go zP 29 12 L (zi b :: zi a :: S) q Q ↔ z_go zP 29 13 L (zi (a + b) :: S) q Q := ge_iadd (len := 1) (x := (0, 0, [])) p_29 rfl
theorem g29_13 : z_go zP 29 13 L [zi a] q Q ↔ Q (.inl (some (zi a))) q := ge_rti (len := 1) (x := (0, 0, [])) p_29 rfl rfl
theorem g30_0 : z_go zP 30 0 [some (.ref u), l1] S q Q ↔ z_go zP 30 1 [some (.ref u), l1] (.ref u :: S) q Q := ge_x (len := 1) (x := (0, 0, [])) p_30 rfl rfl
theorem g30_1 : z_go zP 30 1 L S q Q ↔ z_go zP 30 2 L (zi 2 :: S) q Q := ge_x (len := 1) (x := (0, 0, [])) p_30 rfl rfl
theorem g30_2 : z_go zP 30 2 L [zi x0, .ref u] q Q ↔ z_go zP 48 0 [some (.ref u), some (zi x0)] [] q (zd 30 5 L [] Q) := (z_go_cl (len := 3) (x := (48, 3, [1])) (k1 := 48) (A := [.ref u, zi x0]) (r := []) p_30 rfl rfl rfl rfl (by simp only [z_cl, List.drop]; rw [if_pos]; rfl; exact by first | exact ⟨by decide, (zwb_le (by show 0 ≤ 4; omega))⟩ | exact ⟨by decide, by show 2 ≤ 2; omega, (zwb_le (by show 0 ≤ 4; omega))⟩) p_48 (by show 2 ≤ 2; omega)).trans (ge_bk_d rfl)
theorem g30_5 : z_go zP 30 5 [some (.ref u), l1] S q Q ↔ z_go zP 30 6 [some (.ref u), l1] (.ref u :: S) q Q := ge_x (len := 1) (x := (0, 0, [])) p_30 rfl rfl
theorem g30_6 : z_go zP 30 6 L S q Q ↔ z_go zP 30 8 L (zi 24 :: S) q Q := ge_x (len := 2) (x := (0, 0, [])) p_30 rfl rfl
theorem g30_8 (a1 : 0 ≤ a) (a2 : a ≤ 60000) : z_go zP 30 8 L (zi a :: S) q Q ↔ z_go zP 30 11 L (.ref q.2.1 :: S) (z_new 104 a.toNat (fun _ => .null) q) Q := ge_nwa (len := 3) (x := (104, 0, [])) (n8 := 4) a1 a2 (by decide) p_30 rfl rfl
theorem g30_11 : z_go zP 30 11 L (v :: .ref u :: S) q Q ↔ ∃ q1, z_put [4] 2 q u v = some q1 ∧ z_go zP 30 14 L S q1 Q := ge_putf (len := 3) (x := (2, 0, [4])) p_30 rfl
theorem g30_14 : z_go zP 30 14 [some (.ref u), l1] S q Q ↔ z_go zP 30 15 [some (.ref u), l1] (.ref u :: S) q Q := ge_x (len := 1) (x := (0, 0, [])) p_30 rfl rfl
theorem g30_15 : z_go zP 30 15 [l0, some (.ref u)] S q Q ↔ z_go zP 30 16 [l0, some (.ref u)] (.ref u :: S) q Q := ge_x (len := 1) (x := (0, 0, [])) p_30 rfl rfl
theorem g30_15n : z_go zP 30 15 [l0, some .null] S q Q ↔ z_go zP 30 16 [l0, some .null] (.null :: S) q Q := ge_x (len := 1) (x := (0, 0, [])) p_30 rfl rfl
theorem g30_16 : z_go zP 30 16 L (v :: .ref u :: S) q Q ↔ ∃ q1, z_put [4] 1 q u v = some q1 ∧ z_go zP 30 19 L S q1 Q := ge_putf (len := 3) (x := (1, 0, [4])) p_30 rfl
theorem g30_19 : z_go zP 30 19 L [] q Q ↔ Q (.inl none) q := z_go_rt (len := 1) (x := (0, 0, [])) p_30 rfl rfl rfl
theorem g31_0 : z_go zP 31 0 [l0, some (.ref u)] S q Q ↔ z_go zP 31 1 [l0, some (.ref u)] (.ref u :: S) q Q := ge_x (len := 1) (x := (0, 0, [])) p_31 rfl rfl
theorem g31_0n : z_go zP 31 0 [l0, some .null] S q Q ↔ z_go zP 31 1 [l0, some .null] (.null :: S) q Q := ge_x (len := 1) (x := (0, 0, [])) p_31 rfl rfl
theorem g31_1 : z_go zP 31 1 [some (.ref u), l1] S q Q ↔ z_go zP 31 2 [some (.ref u), l1] (.ref u :: S) q Q := ge_x (len := 1) (x := (0, 0, [])) p_31 rfl rfl
theorem g31_2 : z_go zP 31 2 L (.ref u :: S) q Q ↔ ∃ v, z_get [4] 1 q.1 u = some v ∧ z_go zP 31 5 L (v :: S) q Q := ge_getf (len := 3) (x := (1, 0, [4])) p_31 rfl
theorem g31_5 : z_go zP 31 5 L (.ref u2 :: .ref u :: S) q Q ↔ if u = u2 then z_go zP 31 8 L S q Q else z_go zP 31 12 L S q Q := ge_acmp_ne (len := 3) (x := (0, 0, [])) p_31 rfl rfl
theorem g31_8 : z_go zP 31 8 L S q Q ↔ z_go zP 31 9 L (zi 1 :: S) q Q := ge_x (len := 1) (x := (0, 0, [])) p_31 rfl rfl
theorem g31_9 : z_go zP 31 9 L S q Q ↔ z_go zP 31 13 L S q Q := ge_to (len := 3) (x := (0, 0, [])) p_31 rfl rfl rfl
theorem g31_12 : z_go zP 31 12 L S q Q ↔ z_go zP 31 13 L (zi 0 :: S) q Q := ge_x (len := 1) (x := (0, 0, [])) p_31 rfl rfl
theorem g31_13_0 : z_go zP 31 13 L [zi 0] q Q ↔ Q (.inl (some (zi 0))) q := z_go_rt (len := 1) (x := (0, 0, [])) p_31 rfl rfl rfl
theorem g31_13_1 : z_go zP 31 13 L [zi 1] q Q ↔ Q (.inl (some (zi 1))) q := z_go_rt (len := 1) (x := (0, 0, [])) p_31 rfl rfl rfl
theorem g31_13b {c : Prop} [Decidable c] : z_go zP 31 13 L [zi (bI c)] q Q ↔ Q (.inl (some (zi (bI c)))) q := (by rcases bI_01 (c := c) with h | h <;> rw [h] <;> exact z_go_rt (len := 1) (x := (0, 0, [])) p_31 rfl rfl rfl)
theorem g32_0 : z_go zP 32 0 [some (.ref u), l1] S q Q ↔ z_go zP 32 1 [some (.ref u), l1] (.ref u :: S) q Q := ge_x (len := 1) (x := (0, 0, [])) p_32 rfl rfl
theorem g32_1 : z_go zP 32 1 L (.ref u :: S) q Q ↔ ∃ v, z_get [4] 3 q.1 u = some v ∧ z_go zP 32 4 L (v :: S) q Q := ge_getf (len := 3) (x := (3, 0, [4])) p_32 rfl
theorem g32_4 : z_go zP 32 4 L S q Q ↔ z_go zP 32 6 L (zi 24 :: S) q Q := ge_x (len := 2) (x := (0, 0, [])) p_32 rfl rfl
theorem g32_6 (a1 : -2147483648 ≤ a) (a2 : a < 2147483648) (b1 : -2147483648 ≤ b) (b2 : b < 2147483648) : z_go zP 32 6 L (zi b :: zi a :: S) q Q ↔ if b ≤ a then z_go zP 32 29 L S q Q else z_go zP 32 9 L S q Q := ge_ic_ge (len := 3) (x := (0, 0, [])) a1 a2 b1 b2 p_32 rfl rfl
theorem g32_9 : z_go zP 32 9 [some (.ref u), l1] S q Q ↔ z_go zP 32 10 [some (.ref u), l1] (.ref u :: S) q Q := ge_x (len := 1) (x := (0, 0, [])) p_32 rfl rfl
theorem g32_10 : z_go zP 32 10 L (.ref u :: S) q Q ↔ ∃ v, z_get [4] 2 q.1 u = some v ∧ z_go zP 32 13 L (v :: S) q Q := ge_getf (len := 3) (x := (2, 0, [4])) p_32 rfl
theorem g32_13 : z_go zP 32 13 [some (.ref u), l1] S q Q ↔ z_go zP 32 14 [some (.ref u), l1] (.ref u :: S) q Q := ge_x (len := 1) (x := (0, 0, [])) p_32 rfl rfl
theorem g32_14 : z_go zP 32 14 L (.ref u :: S) q Q ↔ ∃ v, z_get [4] 3 q.1 u = some v ∧ z_go zP 32 17 L (v :: S) q Q := ge_getf (len := 3) (x := (3, 0, [4])) p_32 rfl
theorem g32_17 : z_go zP 32 17 [l0, some (.ref u)] S q Q ↔ z_go zP 32 18 [l0, some (.ref u)] (.ref u :: S) q Q := ge_x (len := 1) (x := (0, 0, [])) p_32 rfl rfl
theorem g32_17n : z_go zP 32 17 [l0, some .null] S q Q ↔ z_go zP 32 18 [l0, some .null] (.null :: S) q Q := ge_x (len := 1) (x := (0, 0, [])) p_32 rfl rfl
theorem g32_18 : z_go zP 32 18 L (v :: zi a :: .ref u :: S) q Q ↔ ∃ q1, z_ast q u (Int32.ofInt a) v = some q1 ∧ z_go zP 32 19 L S q1 Q := ge_aast (len := 1) (x := (0, 0, [])) p_32 rfl
theorem g32_19 : z_go zP 32 19 [some (.ref u), l1] S q Q ↔ z_go zP 32 20 [some (.ref u), l1] (.ref u :: S) q Q := ge_x (len := 1) (x := (0, 0, [])) p_32 rfl rfl
theorem g32_20 : z_go zP 32 20 L (.ref u :: S) q Q ↔ z_go zP 32 21 L (.ref u :: .ref u :: S) q Q := ge_x (len := 1) (x := (0, 0, [])) p_32 rfl rfl
theorem g32_20i : z_go zP 32 20 L (zi a :: S) q Q ↔ z_go zP 32 21 L (zi a :: zi a :: S) q Q := ge_x (len := 1) (x := (0, 0, [])) p_32 rfl rfl
theorem g32_21 : z_go zP 32 21 L (.ref u :: S) q Q ↔ ∃ v, z_get [4] 3 q.1 u = some v ∧ z_go zP 32 24 L (v :: S) q Q := ge_getf (len := 3) (x := (3, 0, [4])) p_32 rfl
theorem g32_24 : z_go zP 32 24 L S q Q ↔ z_go zP 32 25 L (zi 1 :: S) q Q := ge_x (len := 1) (x := (0, 0, [])) p_32 rfl rfl
theorem g32_25 : z_go zP 32 25 L (zi b :: zi a :: S) q Q ↔ z_go zP 32 26 L (zi (a + b) :: S) q Q := ge_iadd (len := 1) (x := (0, 0, [])) p_32 rfl
theorem g32_26 : z_go zP 32 26 L (v :: .ref u :: S) q Q ↔ ∃ q1, z_put [4] 3 q u v = some q1 ∧ z_go zP 32 29 L S q1 Q := ge_putf (len := 3) (x := (3, 0, [4])) p_32 rfl
theorem g32_29 : z_go zP 32 29 L [] q Q ↔ Q (.inl none) q := z_go_rt (len := 1) (x := (0, 0, [])) p_32 rfl rfl rfl
theorem g33_0 : z_go zP 33 0 [l0, some (zi a)] S q Q ↔ z_go zP 33 1 [l0, some (zi a)] (zi a :: S) q Q := ge_x (len := 1) (x := (0, 0, [])) p_33 rfl rfl
theorem g33_1 : z_go zP 33 1 L S q Q ↔ z_go zP 33 2 L (zi 0 :: S) q Q := ge_x (len := 1) (x := (0, 0, [])) p_33 rfl rfl
theorem g33_2 : z_go zP 33 2 [some (.ref u), l1] S q Q ↔ z_go zP 33 3 [some (.ref u), l1] (.ref u :: S) q Q := ge_x (len := 1) (x := (0, 0, [])) p_33 rfl rfl
theorem g33_3 : z_go zP 33 3 L (.ref u :: S) q Q ↔ ∃ v, z_get [4] 3 q.1 u = some v ∧ z_go zP 33 6 L (v :: S) q Q := ge_getf (len := 3) (x := (3, 0, [4])) p_33 rfl
theorem g33_6 : z_go zP 33 6 L S q Q ↔ z_go zP 33 7 L (zi 1 :: S) q Q := ge_x (len := 1) (x := (0, 0, [])) p_33 rfl rfl
theorem g33_7 : z_go zP 33 7 L (zi b :: zi a :: S) q Q ↔ z_go zP 33 8 L (zi (a - b) :: S) q Q := ge_isub (len := 1) (x := (0, 0, [])) p_33 rfl
theorem g33_8 : z_go zP 33 8 L [zi x2, zi x1, zi x0] q Q ↔ z_go zP 76 0 [some (zi x0), some (zi x1), some (zi x2)] [] q (zd 33 11 L [] Q) := (z_go_cl (len := 3) (x := (76, 4, [3])) (k1 := 76) (A := [zi x0, zi x1, zi x2]) (r := []) p_33 rfl rfl rfl rfl (by simp only [z_cl, List.drop]; rw [if_pos]; rfl; exact by first | exact ⟨by decide, (zwb_le (by show 0 ≤ 4; omega))⟩ | exact ⟨by decide, by show 3 ≤ 3; omega, (zwb_le (by show 0 ≤ 4; omega))⟩) p_76 (by show 3 ≤ 3; omega)).trans (ge_bk_d rfl)
theorem g33_11 (a1 : -2147483648 ≤ a) (a2 : a < 2147483648) : z_go zP 33 11 L (zi a :: S) q Q ↔ if a = 0 then z_go zP 33 18 L S q Q else z_go zP 33 14 L S q Q := ge_if_eq (len := 3) (x := (0, 0, [])) a1 a2 p_33 rfl rfl
theorem g33_11b {c : Prop} [Decidable c] : z_go zP 33 11 L (zi (bI c) :: S) q Q ↔ if c then z_go zP 33 14 L S q Q else z_go zP 33 18 L S q Q := ge_if_eq_b (len := 3) (x := (0, 0, [])) p_33 rfl rfl
theorem g33_14 : z_go zP 33 14 L S q Q ↔ z_go zP 33 15 L (.null :: S) q Q := ge_x (len := 1) (x := (0, 0, [])) p_33 rfl rfl
theorem g33_15 : z_go zP 33 15 L S q Q ↔ z_go zP 33 24 L S q Q := ge_to (len := 3) (x := (0, 0, [])) p_33 rfl rfl rfl
theorem g33_18 : z_go zP 33 18 [some (.ref u), l1] S q Q ↔ z_go zP 33 19 [some (.ref u), l1] (.ref u :: S) q Q := ge_x (len := 1) (x := (0, 0, [])) p_33 rfl rfl
theorem g33_19 : z_go zP 33 19 L (.ref u :: S) q Q ↔ ∃ v, z_get [4] 2 q.1 u = some v ∧ z_go zP 33 22 L (v :: S) q Q := ge_getf (len := 3) (x := (2, 0, [4])) p_33 rfl
theorem g33_22 : z_go zP 33 22 [l0, some (zi a)] S q Q ↔ z_go zP 33 23 [l0, some (zi a)] (zi a :: S) q Q := ge_x (len := 1) (x := (0, 0, [])) p_33 rfl rfl
theorem g33_23 : z_go zP 33 23 L (zi a :: .ref u :: S) q Q ↔ ∃ v, z_at [103, 104] q.1 u (Int32.ofInt a) = some v ∧ z_go zP 33 24 L (v :: S) q Q := ge_aald (len := 1) (x := (0, 0, [])) p_33 rfl
theorem g33_24 : z_go zP 33 24 L [.ref u] q Q ↔ Q (.inl (some (.ref u))) q := z_go_rt (len := 1) (x := (0, 0, [])) p_33 rfl rfl rfl
theorem g33_24n : z_go zP 33 24 L [.null] q Q ↔ Q (.inl (some .null)) q := z_go_rt (len := 1) (x := (0, 0, [])) p_33 rfl rfl rfl
theorem g34_0 : z_go zP 34 0 [some (.ref u), l1] S q Q ↔ z_go zP 34 1 [some (.ref u), l1] (.ref u :: S) q Q := ge_x (len := 1) (x := (0, 0, [])) p_34 rfl rfl
theorem g34_1 : z_go zP 34 1 L (.ref u :: S) q Q ↔ ∃ v, z_get [4] 3 q.1 u = some v ∧ z_go zP 34 4 L (v :: S) q Q := ge_getf (len := 3) (x := (3, 0, [4])) p_34 rfl
theorem g34_4 : z_go zP 34 4 L S q Q ↔ z_go zP 34 5 L (zi 1 :: S) q Q := ge_x (len := 1) (x := (0, 0, [])) p_34 rfl rfl
theorem g34_5 (a1 : -2147483648 ≤ a) (a2 : a < 2147483648) (b1 : -2147483648 ≤ b) (b2 : b < 2147483648) : z_go zP 34 5 L (zi b :: zi a :: S) q Q ↔ if b ≤ a then z_go zP 34 12 L S q Q else z_go zP 34 8 L S q Q := ge_ic_ge (len := 3) (x := (0, 0, [])) a1 a2 b1 b2 p_34 rfl rfl
theorem g34_8 : z_go zP 34 8 L S q Q ↔ z_go zP 34 9 L (zi 0 :: S) q Q := ge_x (len := 1) (x := (0, 0, [])) p_34 rfl rfl
theorem g34_9 : z_go zP 34 9 L S q Q ↔ z_go zP 34 23 L S q Q := ge_to (len := 3) (x := (0, 0, [])) p_34 rfl rfl rfl
theorem g34_12 : z_go zP 34 12 [l0, some (.ref u)] S q Q ↔ z_go zP 34 13 [l0, some (.ref u)] (.ref u :: S) q Q := ge_x (len := 1) (x := (0, 0, [])) p_34 rfl rfl
theorem g34_12n : z_go zP 34 12 [l0, some .null] S q Q ↔ z_go zP 34 13 [l0, some .null] (.null :: S) q Q := ge_x (len := 1) (x := (0, 0, [])) p_34 rfl rfl
theorem g34_13 : z_go zP 34 13 L (.ref u :: S) q Q ↔ ∃ v, z_get [7] 4 q.1 u = some v ∧ z_go zP 34 16 L (v :: S) q Q := ge_getf (len := 3) (x := (4, 0, [7])) p_34 rfl
theorem g34_16 : z_go zP 34 16 [some (.ref u), l1] S q Q ↔ z_go zP 34 17 [some (.ref u), l1] (.ref u :: S) q Q := ge_x (len := 1) (x := (0, 0, [])) p_34 rfl rfl
theorem g34_17 : z_go zP 34 17 L (.ref u :: S) q Q ↔ ∃ v, z_get [4] 3 q.1 u = some v ∧ z_go zP 34 20 L (v :: S) q Q := ge_getf (len := 3) (x := (3, 0, [4])) p_34 rfl
theorem g34_20 : z_go zP 34 20 L [zi x1, zi x0] q Q ↔ z_go zP 154 0 [some (zi x0), some (zi x1), none] [] q (zd 34 23 L [] Q) := (z_go_cl (len := 3) (x := (154, 2, [2])) (k1 := 154) (A := [zi x0, zi x1]) (r := []) p_34 rfl rfl rfl rfl (by simp only [z_cl, List.drop]; rw [if_pos]; rfl; exact by first | exact ⟨by decide, (zwb_le (by show 0 ≤ 4; omega))⟩ | exact ⟨by decide, by show 2 ≤ 2; omega, (zwb_le (by show 0 ≤ 4; omega))⟩) p_154 (by show 2 ≤ 3; omega)).trans (ge_bk_d rfl)
theorem g34_23 : z_go zP 34 23 L [zi a] q Q ↔ Q (.inl (some (zi a))) q := ge_rti (len := 1) (x := (0, 0, [])) p_34 rfl rfl
theorem g35_0 : z_go zP 35 0 [some (.ref u), l1] S q Q ↔ z_go zP 35 1 [some (.ref u), l1] (.ref u :: S) q Q := ge_x (len := 1) (x := (0, 0, [])) p_35 rfl rfl
theorem g35_1 : z_go zP 35 1 L S q Q ↔ z_go zP 35 2 L (zi 3 :: S) q Q := ge_x (len := 1) (x := (0, 0, [])) p_35 rfl rfl
theorem g35_2 : z_go zP 35 2 L [zi x0, .ref u] q Q ↔ z_go zP 48 0 [some (.ref u), some (zi x0)] [] q (zd 35 5 L [] Q) := (z_go_cl (len := 3) (x := (48, 3, [1])) (k1 := 48) (A := [.ref u, zi x0]) (r := []) p_35 rfl rfl rfl rfl (by simp only [z_cl, List.drop]; rw [if_pos]; rfl; exact by first | exact ⟨by decide, (zwb_le (by show 0 ≤ 4; omega))⟩ | exact ⟨by decide, by show 2 ≤ 2; omega, (zwb_le (by show 0 ≤ 4; omega))⟩) p_48 (by show 2 ≤ 2; omega)).trans (ge_bk_d rfl)
theorem g35_5 : z_go zP 35 5 [some (.ref u), l1] S q Q ↔ z_go zP 35 6 [some (.ref u), l1] (.ref u :: S) q Q := ge_x (len := 1) (x := (0, 0, [])) p_35 rfl rfl
theorem g35_6 : z_go zP 35 6 L S q Q ↔ z_go zP 35 7 L (zi 4 :: S) q Q := ge_x (len := 1) (x := (0, 0, [])) p_35 rfl rfl
theorem g35_7 (a1 : 0 ≤ a) (a2 : a ≤ 60000) : z_go zP 35 7 L (zi a :: S) q Q ↔ z_go zP 35 9 L (.ref q.2.1 :: S) (z_new 101 a.toNat (fun _ => zl 0) q) Q := ge_nwa (len := 2) (x := (0, 0, [])) (n8 := componentBytes .long) a1 a2 (by decide) p_35 rfl rfl
theorem g35_9 : z_go zP 35 9 L (v :: .ref u :: S) q Q ↔ ∃ q1, z_put [5] 2 q u v = some q1 ∧ z_go zP 35 12 L S q1 Q := ge_putf (len := 3) (x := (2, 0, [5])) p_35 rfl
theorem g35_12 : z_go zP 35 12 [some (.ref u), l1] S q Q ↔ z_go zP 35 13 [some (.ref u), l1] (.ref u :: S) q Q := ge_x (len := 1) (x := (0, 0, [])) p_35 rfl rfl
theorem g35_13 : z_go zP 35 13 [l0, some (.ref u)] S q Q ↔ z_go zP 35 14 [l0, some (.ref u)] (.ref u :: S) q Q := ge_x (len := 1) (x := (0, 0, [])) p_35 rfl rfl
theorem g35_13n : z_go zP 35 13 [l0, some .null] S q Q ↔ z_go zP 35 14 [l0, some .null] (.null :: S) q Q := ge_x (len := 1) (x := (0, 0, [])) p_35 rfl rfl
theorem g35_14 : z_go zP 35 14 L (v :: .ref u :: S) q Q ↔ ∃ q1, z_put [5] 1 q u v = some q1 ∧ z_go zP 35 17 L S q1 Q := ge_putf (len := 3) (x := (1, 0, [5])) p_35 rfl
theorem g35_17 : z_go zP 35 17 [some (.ref u), l1] S q Q ↔ z_go zP 35 18 [some (.ref u), l1] (.ref u :: S) q Q := ge_x (len := 1) (x := (0, 0, [])) p_35 rfl rfl
theorem g35_18 : z_go zP 35 18 [l0, some (.ref u)] S q Q ↔ z_go zP 35 19 [l0, some (.ref u)] (.ref u :: S) q Q := ge_x (len := 1) (x := (0, 0, [])) p_35 rfl rfl
theorem g35_18n : z_go zP 35 18 [l0, some .null] S q Q ↔ z_go zP 35 19 [l0, some .null] (.null :: S) q Q := ge_x (len := 1) (x := (0, 0, [])) p_35 rfl rfl
theorem g35_19 : z_go zP 35 19 L (.ref u :: S) q Q ↔ ∃ v, z_get [4] 1 q.1 u = some v ∧ z_go zP 35 22 L (v :: S) q Q := ge_getf (len := 3) (x := (1, 0, [4])) p_35 rfl
theorem g35_22 : z_go zP 35 22 L (.ref u :: S) q Q ↔ ∃ v, z_get [2] 1 q.1 u = some v ∧ z_go zP 35 25 L (v :: S) q Q := ge_getf (len := 3) (x := (1, 0, [2])) p_35 rfl
theorem g35_25 (a1 : 0 ≤ a) (a2 : a ≤ 60000) : z_go zP 35 25 L (zi a :: S) q Q ↔ z_go zP 35 27 L (.ref q.2.1 :: S) (z_new 101 a.toNat (fun _ => zl 0) q) Q := ge_nwa (len := 2) (x := (0, 0, [])) (n8 := componentBytes .long) a1 a2 (by decide) p_35 rfl rfl
theorem g35_27 : z_go zP 35 27 L (v :: .ref u :: S) q Q ↔ ∃ q1, z_put [5] 3 q u v = some q1 ∧ z_go zP 35 30 L S q1 Q := ge_putf (len := 3) (x := (3, 0, [5])) p_35 rfl
theorem g35_30 : z_go zP 35 30 L [] q Q ↔ Q (.inl none) q := z_go_rt (len := 1) (x := (0, 0, [])) p_35 rfl rfl rfl
theorem g36_0 : z_go zP 36 0 [l0, some (.ref u)] S q Q ↔ z_go zP 36 1 [l0, some (.ref u)] (.ref u :: S) q Q := ge_x (len := 1) (x := (0, 0, [])) p_36 rfl rfl
theorem g36_0n : z_go zP 36 0 [l0, some .null] S q Q ↔ z_go zP 36 1 [l0, some .null] (.null :: S) q Q := ge_x (len := 1) (x := (0, 0, [])) p_36 rfl rfl
theorem g36_1 : z_go zP 36 1 [some (.ref u), l1] S q Q ↔ z_go zP 36 2 [some (.ref u), l1] (.ref u :: S) q Q := ge_x (len := 1) (x := (0, 0, [])) p_36 rfl rfl
theorem g36_2 : z_go zP 36 2 L (.ref u :: S) q Q ↔ ∃ v, z_get [5] 1 q.1 u = some v ∧ z_go zP 36 5 L (v :: S) q Q := ge_getf (len := 3) (x := (1, 0, [5])) p_36 rfl
theorem g36_5 : z_go zP 36 5 L (.ref u2 :: .ref u :: S) q Q ↔ if u = u2 then z_go zP 36 8 L S q Q else z_go zP 36 12 L S q Q := ge_acmp_ne (len := 3) (x := (0, 0, [])) p_36 rfl rfl
theorem g36_8 : z_go zP 36 8 L S q Q ↔ z_go zP 36 9 L (zi 1 :: S) q Q := ge_x (len := 1) (x := (0, 0, [])) p_36 rfl rfl
theorem g36_9 : z_go zP 36 9 L S q Q ↔ z_go zP 36 13 L S q Q := ge_to (len := 3) (x := (0, 0, [])) p_36 rfl rfl rfl
theorem g36_12 : z_go zP 36 12 L S q Q ↔ z_go zP 36 13 L (zi 0 :: S) q Q := ge_x (len := 1) (x := (0, 0, [])) p_36 rfl rfl
theorem g36_13_0 : z_go zP 36 13 L [zi 0] q Q ↔ Q (.inl (some (zi 0))) q := z_go_rt (len := 1) (x := (0, 0, [])) p_36 rfl rfl rfl
theorem g36_13_1 : z_go zP 36 13 L [zi 1] q Q ↔ Q (.inl (some (zi 1))) q := z_go_rt (len := 1) (x := (0, 0, [])) p_36 rfl rfl rfl
theorem g36_13b {c : Prop} [Decidable c] : z_go zP 36 13 L [zi (bI c)] q Q ↔ Q (.inl (some (zi (bI c)))) q := (by rcases bI_01 (c := c) with h | h <;> rw [h] <;> exact z_go_rt (len := 1) (x := (0, 0, [])) p_36 rfl rfl rfl)
theorem g37_0 : z_go zP 37 0 [some (.ref u)] S q Q ↔ z_go zP 37 1 [some (.ref u)] (.ref u :: S) q Q := ge_x (len := 1) (x := (0, 0, [])) p_37 rfl rfl
theorem g37_1 : z_go zP 37 1 L (.ref u :: S) q Q ↔ ∃ v, z_get [5] 6 q.1 u = some v ∧ z_go zP 37 4 L (v :: S) q Q := ge_getf (len := 3) (x := (6, 0, [5])) p_37 rfl
theorem g37_4 (a1 : -2147483648 ≤ a) (a2 : a < 2147483648) : z_go zP 37 4 L (zi a :: S) q Q ↔ if a = 0 then z_go zP 37 11 L S q Q else z_go zP 37 7 L S q Q := ge_if_eq (len := 3) (x := (0, 0, [])) a1 a2 p_37 rfl rfl
theorem g37_4b {c : Prop} [Decidable c] : z_go zP 37 4 L (zi (bI c) :: S) q Q ↔ if c then z_go zP 37 7 L S q Q else z_go zP 37 11 L S q Q := ge_if_eq_b (len := 3) (x := (0, 0, [])) p_37 rfl rfl
theorem g37_7 : z_go zP 37 7 L S q Q ↔ z_go zP 37 8 L (.null :: S) q Q := ge_x (len := 1) (x := (0, 0, [])) p_37 rfl rfl
theorem g37_8 : z_go zP 37 8 L S q Q ↔ z_go zP 37 22 L S q Q := ge_to (len := 3) (x := (0, 0, [])) p_37 rfl rfl rfl
theorem g37_11 : z_go zP 37 11 [some (.ref u)] S q Q ↔ z_go zP 37 12 [some (.ref u)] (.ref u :: S) q Q := ge_x (len := 1) (x := (0, 0, [])) p_37 rfl rfl
theorem g37_12 : z_go zP 37 12 L (.ref u :: S) q Q ↔ ∃ v, z_get [5] 1 q.1 u = some v ∧ z_go zP 37 15 L (v :: S) q Q := ge_getf (len := 3) (x := (1, 0, [5])) p_37 rfl
theorem g37_15 : z_go zP 37 15 [some (.ref u)] S q Q ↔ z_go zP 37 16 [some (.ref u)] (.ref u :: S) q Q := ge_x (len := 1) (x := (0, 0, [])) p_37 rfl rfl
theorem g37_16 : z_go zP 37 16 L (.ref u :: S) q Q ↔ ∃ v, z_get [5] 4 q.1 u = some v ∧ z_go zP 37 19 L (v :: S) q Q := ge_getf (len := 3) (x := (4, 0, [5])) p_37 rfl
theorem g37_19 : z_go zP 37 19 L [zi x0, .ref u] q Q ↔ z_tg q.1 u = some 4 ∧ z_go zP 33 0 [some (.ref u), some (zi x0)] [] q (zc 37 22 L [] Q) := ge_vc (len := 3) (pc := 19) (S := [zi x0, .ref u]) (u := u) (k1 := 33) (A := [.ref u, zi x0]) (r := []) (tag := 4) (n0 := 1) (zwb_le (by show 0 ≤ 4; omega)) p_37 rfl rfl rfl p_33 (by show 2 ≤ 2; omega) rfl
theorem g37_22 : z_go zP 37 22 L [.ref u] q Q ↔ Q (.inl (some (.ref u))) q := z_go_rt (len := 1) (x := (0, 0, [])) p_37 rfl rfl rfl
theorem g37_22n : z_go zP 37 22 L [.null] q Q ↔ Q (.inl (some .null)) q := z_go_rt (len := 1) (x := (0, 0, [])) p_37 rfl rfl rfl
theorem g38_0 : z_go zP 38 0 [some (.ref u), l1, l2, l3] S q Q ↔ z_go zP 38 1 [some (.ref u), l1, l2, l3] (.ref u :: S) q Q := ge_x (len := 1) (x := (0, 0, [])) p_38 rfl rfl
theorem g38_1 : z_go zP 38 1 L [.ref u] q Q ↔ z_tg q.1 u = some 5 ∧ z_go zP 37 0 [some (.ref u)] [] q (zc 38 4 L [] Q) := ge_vc (len := 3) (pc := 1) (S := [.ref u]) (u := u) (k1 := 37) (A := [.ref u]) (r := []) (tag := 5) (n0 := 0) (zwb_le (by show 0 ≤ 4; omega)) p_38 rfl rfl rfl p_37 (by show 1 ≤ 1; omega) rfl
theorem g38_4 : z_go zP 38 4 [l0, l1, l2, l3] (.ref u :: S) q Q ↔ z_go zP 38 5 [(zkl l0), some (.ref u), l2, l3] S q Q := (by cases l0 with | none => exact ge_x (len := 1) (x := (0, 0, [])) p_38 rfl rfl | some v => cases v <;> exact ge_x (len := 1) (x := (0, 0, [])) p_38 rfl rfl)
theorem g38_4n : z_go zP 38 4 [l0, l1, l2, l3] (.null :: S) q Q ↔ z_go zP 38 5 [(zkl l0), some (.null), l2, l3] S q Q := (by cases l0 with | none => exact ge_x (len := 1) (x := (0, 0, [])) p_38 rfl rfl | some v => cases v <;> exact ge_x (len := 1) (x := (0, 0, [])) p_38 rfl rfl)
theorem g38_5 : z_go zP 38 5 [l0, some (.ref u), l2, l3] S q Q ↔ z_go zP 38 6 [l0, some (.ref u), l2, l3] (.ref u :: S) q Q := ge_x (len := 1) (x := (0, 0, [])) p_38 rfl rfl
theorem g38_5n : z_go zP 38 5 [l0, some .null, l2, l3] S q Q ↔ z_go zP 38 6 [l0, some .null, l2, l3] (.null :: S) q Q := ge_x (len := 1) (x := (0, 0, [])) p_38 rfl rfl
theorem g38_6 : z_go zP 38 6 L (.ref u :: S) q Q ↔ z_go zP 38 10 L S q Q := ge_to (len := 3) (x := (0, 0, [])) p_38 rfl rfl rfl
theorem g38_6n : z_go zP 38 6 L (.null :: S) q Q ↔ z_go zP 38 9 L S q Q := ge_x (len := 3) (x := (0, 0, [])) p_38 rfl rfl
theorem g38_9 : z_go zP 38 9 L [] q Q ↔ Q (.inl none) q := z_go_rt (len := 1) (x := (0, 0, [])) p_38 rfl rfl rfl
theorem g38_10 : z_go zP 38 10 [some (.ref u), l1, l2, l3] S q Q ↔ z_go zP 38 11 [some (.ref u), l1, l2, l3] (.ref u :: S) q Q := ge_x (len := 1) (x := (0, 0, [])) p_38 rfl rfl
theorem g38_11 : z_go zP 38 11 L (.ref u :: S) q Q ↔ ∃ v, z_get [5] 2 q.1 u = some v ∧ z_go zP 38 14 L (v :: S) q Q := ge_getf (len := 3) (x := (2, 0, [5])) p_38 rfl
theorem g38_14 : z_go zP 38 14 [l0, some (.ref u), l2, l3] S q Q ↔ z_go zP 38 15 [l0, some (.ref u), l2, l3] (.ref u :: S) q Q := ge_x (len := 1) (x := (0, 0, [])) p_38 rfl rfl
theorem g38_14n : z_go zP 38 14 [l0, some .null, l2, l3] S q Q ↔ z_go zP 38 15 [l0, some .null, l2, l3] (.null :: S) q Q := ge_x (len := 1) (x := (0, 0, [])) p_38 rfl rfl
theorem g38_15 : z_go zP 38 15 L (.ref u :: S) q Q ↔ ∃ v, z_get [7] 2 q.1 u = some v ∧ z_go zP 38 18 L (v :: S) q Q := ge_getf (len := 3) (x := (2, 0, [7])) p_38 rfl
theorem g38_18 : z_go zP 38 18 L (zi a :: .ref u :: S) q Q ↔ ∃ v, z_at [101] q.1 u (Int32.ofInt a) = some v ∧ z_go zP 38 19 L (v :: S) q Q := ge_lald (len := 1) (x := (0, 0, [])) p_38 rfl
theorem g38_19 : z_go zP 38 19 [l0, l1, l2, l3] (zl a :: S) q Q ↔ z_go zP 38 20 [l0, (zkl l1), some (zl a), none] S q Q := (by cases l1 with | none => exact ge_x (len := 1) (x := (0, 0, [])) p_38 rfl rfl | some v => cases v <;> exact ge_x (len := 1) (x := (0, 0, [])) p_38 rfl rfl)
theorem g38_20 : z_go zP 38 20 [some (.ref u), l1, l2, l3] S q Q ↔ z_go zP 38 21 [some (.ref u), l1, l2, l3] (.ref u :: S) q Q := ge_x (len := 1) (x := (0, 0, [])) p_38 rfl rfl
theorem g38_21 : z_go zP 38 21 [l0, some (.ref u), l2, l3] S q Q ↔ z_go zP 38 22 [l0, some (.ref u), l2, l3] (.ref u :: S) q Q := ge_x (len := 1) (x := (0, 0, [])) p_38 rfl rfl
theorem g38_21n : z_go zP 38 21 [l0, some .null, l2, l3] S q Q ↔ z_go zP 38 22 [l0, some .null, l2, l3] (.null :: S) q Q := ge_x (len := 1) (x := (0, 0, [])) p_38 rfl rfl
theorem g38_22 : z_go zP 38 22 [l0, l1, some (zl a), l3] S q Q ↔ z_go zP 38 23 [l0, l1, some (zl a), l3] (zl a :: S) q Q := ge_x (len := 1) (x := (0, 0, [])) p_38 rfl rfl
theorem g38_23 : z_go zP 38 23 [some (.ref u), l1, l2, l3] S q Q ↔ z_go zP 38 24 [some (.ref u), l1, l2, l3] (.ref u :: S) q Q := ge_x (len := 1) (x := (0, 0, [])) p_38 rfl rfl
theorem g38_24 : z_go zP 38 24 L (.ref u :: S) q Q ↔ ∃ v, z_get [5] 2 q.1 u = some v ∧ z_go zP 38 27 L (v :: S) q Q := ge_getf (len := 3) (x := (2, 0, [5])) p_38 rfl
theorem g38_27 : z_go zP 38 27 [l0, some (.ref u), l2, l3] S q Q ↔ z_go zP 38 28 [l0, some (.ref u), l2, l3] (.ref u :: S) q Q := ge_x (len := 1) (x := (0, 0, [])) p_38 rfl rfl
theorem g38_27n : z_go zP 38 27 [l0, some .null, l2, l3] S q Q ↔ z_go zP 38 28 [l0, some .null, l2, l3] (.null :: S) q Q := ge_x (len := 1) (x := (0, 0, [])) p_38 rfl rfl
theorem g38_28 : z_go zP 38 28 L (.ref u :: S) q Q ↔ ∃ v, z_get [7] 3 q.1 u = some v ∧ z_go zP 38 31 L (v :: S) q Q := ge_getf (len := 3) (x := (3, 0, [7])) p_38 rfl
theorem g38_31 : z_go zP 38 31 L (zi a :: .ref u :: S) q Q ↔ ∃ v, z_at [101] q.1 u (Int32.ofInt a) = some v ∧ z_go zP 38 32 L (v :: S) q Q := ge_lald (len := 1) (x := (0, 0, [])) p_38 rfl
theorem g38_32 : z_go zP 38 32 L [zl x2, zl x1, .ref w0, .ref u] q Q ↔ z_tg q.1 u = some 5 ∧ z_go zP 39 0 [some (.ref u), some (.ref w0), some (zl x1), none, some (zl x2), none, none] [] q (zc 38 35 L [] Q) := ge_vc (len := 3) (pc := 32) (S := [zl x2, zl x1, .ref w0, .ref u]) (u := u) (k1 := 39) (A := [.ref u, .ref w0, zl x1, zl x2]) (r := []) (tag := 5) (n0 := 3) (zwb_le (by show 0 ≤ 4; omega)) p_38 rfl rfl rfl p_39 (by show 6 ≤ 7; omega) rfl
theorem g38_35 : z_go zP 38 35 [some (.ref u), l1, l2, l3] S q Q ↔ z_go zP 38 36 [some (.ref u), l1, l2, l3] (.ref u :: S) q Q := ge_x (len := 1) (x := (0, 0, [])) p_38 rfl rfl
theorem g38_36 : z_go zP 38 36 L (.ref u :: S) q Q ↔ z_go zP 38 37 L (.ref u :: .ref u :: S) q Q := ge_x (len := 1) (x := (0, 0, [])) p_38 rfl rfl
theorem g38_36i : z_go zP 38 36 L (zi a :: S) q Q ↔ z_go zP 38 37 L (zi a :: zi a :: S) q Q := ge_x (len := 1) (x := (0, 0, [])) p_38 rfl rfl
theorem g38_37 : z_go zP 38 37 L (.ref u :: S) q Q ↔ ∃ v, z_get [5] 5 q.1 u = some v ∧ z_go zP 38 40 L (v :: S) q Q := ge_getf (len := 3) (x := (5, 0, [5])) p_38 rfl
theorem g38_40 : z_go zP 38 40 L S q Q ↔ z_go zP 38 41 L (zi 1 :: S) q Q := ge_x (len := 1) (x := (0, 0, [])) p_38 rfl rfl
theorem g38_41 : z_go zP 38 41 L (zi b :: zi a :: S) q Q ↔ z_go zP 38 42 L (zi (a + b) :: S) q Q := ge_iadd (len := 1) (x := (0, 0, [])) p_38 rfl
theorem g38_42 : z_go zP 38 42 L (v :: .ref u :: S) q Q ↔ ∃ q1, z_put [5] 5 q u v = some q1 ∧ z_go zP 38 45 L S q1 Q := ge_putf (len := 3) (x := (5, 0, [5])) p_38 rfl
theorem g38_45 : z_go zP 38 45 [l0, some (.ref u), l2, l3] S q Q ↔ z_go zP 38 46 [l0, some (.ref u), l2, l3] (.ref u :: S) q Q := ge_x (len := 1) (x := (0, 0, [])) p_38 rfl rfl
theorem g38_45n : z_go zP 38 45 [l0, some .null, l2, l3] S q Q ↔ z_go zP 38 46 [l0, some .null, l2, l3] (.null :: S) q Q := ge_x (len := 1) (x := (0, 0, [])) p_38 rfl rfl
theorem g38_46 : z_go zP 38 46 [l0, l1, some (zl a), l3] S q Q ↔ z_go zP 38 47 [l0, l1, some (zl a), l3] (zl a :: S) q Q := ge_x (len := 1) (x := (0, 0, [])) p_38 rfl rfl
theorem g38_47 : z_go zP 38 47 L [zl x0, .ref u] q Q ↔ z_tg q.1 u = some 7 ∧ z_go zP 54 0 [some (.ref u), some (zl x0), none] [] q (zc 38 50 L [] Q) := ge_vc (len := 3) (pc := 47) (S := [zl x0, .ref u]) (u := u) (k1 := 54) (A := [.ref u, zl x0]) (r := []) (tag := 7) (n0 := 1) (zwb_le (by show 0 ≤ 4; omega)) p_38 rfl rfl rfl p_54 (by show 3 ≤ 3; omega) rfl
theorem g38_50 (a1 : -2147483648 ≤ a) (a2 : a < 2147483648) : z_go zP 38 50 L (zi a :: S) q Q ↔ if a = 0 then z_go zP 38 68 L S q Q else z_go zP 38 53 L S q Q := ge_if_eq (len := 3) (x := (0, 0, [])) a1 a2 p_38 rfl rfl
theorem g38_50b {c : Prop} [Decidable c] : z_go zP 38 50 L (zi (bI c) :: S) q Q ↔ if c then z_go zP 38 53 L S q Q else z_go zP 38 68 L S q Q := ge_if_eq_b (len := 3) (x := (0, 0, [])) p_38 rfl rfl
theorem g38_53 : z_go zP 38 53 [some (.ref u), l1, l2, l3] S q Q ↔ z_go zP 38 54 [some (.ref u), l1, l2, l3] (.ref u :: S) q Q := ge_x (len := 1) (x := (0, 0, [])) p_38 rfl rfl
theorem g38_54 : z_go zP 38 54 [some (.ref u), l1, l2, l3] S q Q ↔ z_go zP 38 55 [some (.ref u), l1, l2, l3] (.ref u :: S) q Q := ge_x (len := 1) (x := (0, 0, [])) p_38 rfl rfl
theorem g38_55 : z_go zP 38 55 L (.ref u :: S) q Q ↔ ∃ v, z_get [5] 1 q.1 u = some v ∧ z_go zP 38 58 L (v :: S) q Q := ge_getf (len := 3) (x := (1, 0, [5])) p_38 rfl
theorem g38_58 : z_go zP 38 58 [l0, some (.ref u), l2, l3] S q Q ↔ z_go zP 38 59 [l0, some (.ref u), l2, l3] (.ref u :: S) q Q := ge_x (len := 1) (x := (0, 0, [])) p_38 rfl rfl
theorem g38_58n : z_go zP 38 58 [l0, some .null, l2, l3] S q Q ↔ z_go zP 38 59 [l0, some .null, l2, l3] (.null :: S) q Q := ge_x (len := 1) (x := (0, 0, [])) p_38 rfl rfl
theorem g38_59 : z_go zP 38 59 L [.ref w0, .ref u, r0] q Q ↔ z_tg q.1 u = some 4 ∧ z_go zP 34 0 [some (.ref u), some (.ref w0)] [] q (zc 38 62 L [r0] Q) := ge_vc (len := 3) (pc := 59) (S := [.ref w0, .ref u, r0]) (u := u) (k1 := 34) (A := [.ref u, .ref w0]) (r := [r0]) (tag := 4) (n0 := 1) (zwb_le (by show 1 ≤ 4; omega)) p_38 rfl rfl rfl p_34 (by show 2 ≤ 2; omega) rfl
theorem g38_62 : z_go zP 38 62 L (v :: .ref u :: S) q Q ↔ ∃ q1, z_put [5] 4 q u v = some q1 ∧ z_go zP 38 65 L S q1 Q := ge_putf (len := 3) (x := (4, 0, [5])) p_38 rfl
theorem g38_65 : z_go zP 38 65 L S q Q ↔ z_go zP 38 98 L S q Q := ge_to (len := 3) (x := (0, 0, [])) p_38 rfl rfl rfl
theorem g38_68 : z_go zP 38 68 [some (.ref u), l1, l2, l3] S q Q ↔ z_go zP 38 69 [some (.ref u), l1, l2, l3] (.ref u :: S) q Q := ge_x (len := 1) (x := (0, 0, [])) p_38 rfl rfl
theorem g38_69 : z_go zP 38 69 [some (.ref u), l1, l2, l3] S q Q ↔ z_go zP 38 70 [some (.ref u), l1, l2, l3] (.ref u :: S) q Q := ge_x (len := 1) (x := (0, 0, [])) p_38 rfl rfl
theorem g38_70 : z_go zP 38 70 L (.ref u :: S) q Q ↔ ∃ v, z_get [5] 4 q.1 u = some v ∧ z_go zP 38 73 L (v :: S) q Q := ge_getf (len := 3) (x := (4, 0, [5])) p_38 rfl
theorem g38_73 : z_go zP 38 73 L S q Q ↔ z_go zP 38 74 L (zi 1 :: S) q Q := ge_x (len := 1) (x := (0, 0, [])) p_38 rfl rfl
theorem g38_74 : z_go zP 38 74 L (zi b :: zi a :: S) q Q ↔ z_go zP 38 75 L (zi (a + b) :: S) q Q := ge_iadd (len := 1) (x := (0, 0, [])) p_38 rfl
theorem g38_75 : z_go zP 38 75 [some (.ref u), l1, l2, l3] S q Q ↔ z_go zP 38 76 [some (.ref u), l1, l2, l3] (.ref u :: S) q Q := ge_x (len := 1) (x := (0, 0, [])) p_38 rfl rfl
theorem g38_76 : z_go zP 38 76 L (.ref u :: S) q Q ↔ ∃ v, z_get [5] 1 q.1 u = some v ∧ z_go zP 38 79 L (v :: S) q Q := ge_getf (len := 3) (x := (1, 0, [5])) p_38 rfl
theorem g38_79 : z_go zP 38 79 L (.ref u :: S) q Q ↔ ∃ v, z_get [4] 3 q.1 u = some v ∧ z_go zP 38 82 L (v :: S) q Q := ge_getf (len := 3) (x := (3, 0, [4])) p_38 rfl
theorem g38_82 (a1 : -2147483648 ≤ a) (a2 : a < 2147483648) (b1 : -2147483648 ≤ b) (b2 : b < 2147483648) : z_go zP 38 82 L (zi b :: zi a :: S) q Q ↔ if b ≤ a then z_go zP 38 94 L S q Q else z_go zP 38 85 L S q Q := ge_ic_ge (len := 3) (x := (0, 0, [])) a1 a2 b1 b2 p_38 rfl rfl
theorem g38_85 : z_go zP 38 85 [some (.ref u), l1, l2, l3] S q Q ↔ z_go zP 38 86 [some (.ref u), l1, l2, l3] (.ref u :: S) q Q := ge_x (len := 1) (x := (0, 0, [])) p_38 rfl rfl
theorem g38_86 : z_go zP 38 86 L (.ref u :: S) q Q ↔ ∃ v, z_get [5] 4 q.1 u = some v ∧ z_go zP 38 89 L (v :: S) q Q := ge_getf (len := 3) (x := (4, 0, [5])) p_38 rfl
theorem g38_89 : z_go zP 38 89 L S q Q ↔ z_go zP 38 90 L (zi 1 :: S) q Q := ge_x (len := 1) (x := (0, 0, [])) p_38 rfl rfl
theorem g38_90 : z_go zP 38 90 L (zi b :: zi a :: S) q Q ↔ z_go zP 38 91 L (zi (a + b) :: S) q Q := ge_iadd (len := 1) (x := (0, 0, [])) p_38 rfl
theorem g38_91 : z_go zP 38 91 L S q Q ↔ z_go zP 38 95 L S q Q := ge_to (len := 3) (x := (0, 0, [])) p_38 rfl rfl rfl
theorem g38_94 : z_go zP 38 94 L S q Q ↔ z_go zP 38 95 L (zi 0 :: S) q Q := ge_x (len := 1) (x := (0, 0, [])) p_38 rfl rfl
theorem g38_95 : z_go zP 38 95 L (v :: .ref u :: S) q Q ↔ ∃ q1, z_put [5] 4 q u v = some q1 ∧ z_go zP 38 98 L S q1 Q := ge_putf (len := 3) (x := (4, 0, [5])) p_38 rfl
theorem g38_98 : z_go zP 38 98 L [] q Q ↔ Q (.inl none) q := z_go_rt (len := 1) (x := (0, 0, [])) p_38 rfl rfl rfl
theorem g39_0 : z_go zP 39 0 [some (.ref u), l1, l2, l3, l4, l5, l6] S q Q ↔ z_go zP 39 1 [some (.ref u), l1, l2, l3, l4, l5, l6] (.ref u :: S) q Q := ge_x (len := 1) (x := (0, 0, [])) p_39 rfl rfl
theorem g39_1 : z_go zP 39 1 L (.ref u :: S) q Q ↔ ∃ v, z_get [5] 1 q.1 u = some v ∧ z_go zP 39 4 L (v :: S) q Q := ge_getf (len := 3) (x := (1, 0, [5])) p_39 rfl
theorem g39_4 : z_go zP 39 4 L (.ref u :: S) q Q ↔ ∃ v, z_get [4] 1 q.1 u = some v ∧ z_go zP 39 7 L (v :: S) q Q := ge_getf (len := 3) (x := (1, 0, [4])) p_39 rfl
theorem g39_7 : z_go zP 39 7 [l0, l1, l2, l3, l4, l5, l6] (.ref u :: S) q Q ↔ z_go zP 39 9 [l0, l1, l2, l3, l4, (zkl l5), some (.ref u)] S q Q := (by cases l5 with | none => exact ge_x (len := 2) (x := (0, 0, [])) p_39 rfl rfl | some v => cases v <;> exact ge_x (len := 2) (x := (0, 0, [])) p_39 rfl rfl)
theorem g39_7n : z_go zP 39 7 [l0, l1, l2, l3, l4, l5, l6] (.null :: S) q Q ↔ z_go zP 39 9 [l0, l1, l2, l3, l4, (zkl l5), some (.null)] S q Q := (by cases l5 with | none => exact ge_x (len := 2) (x := (0, 0, [])) p_39 rfl rfl | some v => cases v <;> exact ge_x (len := 2) (x := (0, 0, [])) p_39 rfl rfl)
theorem g39_9 : z_go zP 39 9 [l0, some (.ref u), l2, l3, l4, l5, l6] S q Q ↔ z_go zP 39 10 [l0, some (.ref u), l2, l3, l4, l5, l6] (.ref u :: S) q Q := ge_x (len := 1) (x := (0, 0, [])) p_39 rfl rfl
theorem g39_9n : z_go zP 39 9 [l0, some .null, l2, l3, l4, l5, l6] S q Q ↔ z_go zP 39 10 [l0, some .null, l2, l3, l4, l5, l6] (.null :: S) q Q := ge_x (len := 1) (x := (0, 0, [])) p_39 rfl rfl
theorem g39_10 : z_go zP 39 10 L [.ref u] q Q ↔ z_tg q.1 u = some 7 ∧ z_go zP 50 0 [some (.ref u)] [] q (zc 39 13 L [] Q) := ge_vc (len := 3) (pc := 10) (S := [.ref u]) (u := u) (k1 := 50) (A := [.ref u]) (r := []) (tag := 7) (n0 := 0) (zwb_le (by show 0 ≤ 4; omega)) p_39 rfl rfl rfl p_50 (by show 1 ≤ 1; omega) rfl
theorem g39_13 (a1 : -2147483648 ≤ a) (a2 : a < 2147483648) : z_go zP 39 13 L (zi a :: S) q Q ↔ if a = 0 then z_go zP 39 40 L S q Q else z_go zP 39 16 L S q Q := ge_if_eq (len := 3) (x := (0, 0, [])) a1 a2 p_39 rfl rfl
theorem g39_13b {c : Prop} [Decidable c] : z_go zP 39 13 L (zi (bI c) :: S) q Q ↔ if c then z_go zP 39 16 L S q Q else z_go zP 39 40 L S q Q := ge_if_eq_b (len := 3) (x := (0, 0, [])) p_39 rfl rfl
theorem g39_16 : z_go zP 39 16 [some (.ref u), l1, l2, l3, l4, l5, l6] S q Q ↔ z_go zP 39 17 [some (.ref u), l1, l2, l3, l4, l5, l6] (.ref u :: S) q Q := ge_x (len := 1) (x := (0, 0, [])) p_39 rfl rfl
theorem g39_17 : z_go zP 39 17 L (.ref u :: S) q Q ↔ ∃ v, z_get [5] 2 q.1 u = some v ∧ z_go zP 39 20 L (v :: S) q Q := ge_getf (len := 3) (x := (2, 0, [5])) p_39 rfl
theorem g39_20 : z_go zP 39 20 [l0, some (.ref u), l2, l3, l4, l5, l6] S q Q ↔ z_go zP 39 21 [l0, some (.ref u), l2, l3, l4, l5, l6] (.ref u :: S) q Q := ge_x (len := 1) (x := (0, 0, [])) p_39 rfl rfl
theorem g39_20n : z_go zP 39 20 [l0, some .null, l2, l3, l4, l5, l6] S q Q ↔ z_go zP 39 21 [l0, some .null, l2, l3, l4, l5, l6] (.null :: S) q Q := ge_x (len := 1) (x := (0, 0, [])) p_39 rfl rfl
theorem g39_21 : z_go zP 39 21 L (.ref u :: S) q Q ↔ ∃ v, z_get [7] 1 q.1 u = some v ∧ z_go zP 39 24 L (v :: S) q Q := ge_getf (len := 3) (x := (1, 0, [7])) p_39 rfl
theorem g39_24 : z_go zP 39 24 [l0, l1, l2, l3, l4, l5, some (.ref u)] S q Q ↔ z_go zP 39 26 [l0, l1, l2, l3, l4, l5, some (.ref u)] (.ref u :: S) q Q := ge_x (len := 2) (x := (0, 0, [])) p_39 rfl rfl
theorem g39_24n : z_go zP 39 24 [l0, l1, l2, l3, l4, l5, some .null] S q Q ↔ z_go zP 39 26 [l0, l1, l2, l3, l4, l5, some .null] (.null :: S) q Q := ge_x (len := 2) (x := (0, 0, [])) p_39 rfl rfl
theorem g39_26 : z_go zP 39 26 [l0, some (.ref u), l2, l3, l4, l5, l6] S q Q ↔ z_go zP 39 27 [l0, some (.ref u), l2, l3, l4, l5, l6] (.ref u :: S) q Q := ge_x (len := 1) (x := (0, 0, [])) p_39 rfl rfl
theorem g39_26n : z_go zP 39 26 [l0, some .null, l2, l3, l4, l5, l6] S q Q ↔ z_go zP 39 27 [l0, some .null, l2, l3, l4, l5, l6] (.null :: S) q Q := ge_x (len := 1) (x := (0, 0, [])) p_39 rfl rfl
theorem g39_27 : z_go zP 39 27 [l0, l1, some (zl a), l3, l4, l5, l6] S q Q ↔ z_go zP 39 28 [l0, l1, some (zl a), l3, l4, l5, l6] (zl a :: S) q Q := ge_x (len := 1) (x := (0, 0, [])) p_39 rfl rfl
theorem g39_28 : z_go zP 39 28 [l0, l1, l2, l3, some (zl a), l5, l6] S q Q ↔ z_go zP 39 30 [l0, l1, l2, l3, some (zl a), l5, l6] (zl a :: S) q Q := ge_x (len := 2) (x := (0, 0, [])) p_39 rfl rfl
theorem g39_30 : z_go zP 39 30 L [zl x1, zl x0, .ref u, r0, r1, r2] q Q ↔ z_tg q.1 u = some 7 ∧ z_go zP 55 0 [some (.ref u), some (zl x0), none, some (zl x1), none] [] q (zc 39 33 L [r0, r1, r2] Q) := ge_vc (len := 3) (pc := 30) (S := [zl x1, zl x0, .ref u, r0, r1, r2]) (u := u) (k1 := 55) (A := [.ref u, zl x0, zl x1]) (r := [r0, r1, r2]) (tag := 7) (n0 := 2) (zwb_le (by show 3 ≤ 4; omega)) p_39 rfl rfl rfl p_55 (by show 5 ≤ 5; omega) rfl
theorem g39_33 : z_go zP 39 33 L [zl x0, .ref u, r0, r1] q Q ↔ z_tg q.1 u = some 2 ∧ z_go zP 24 0 [some (.ref u), some (zl x0), none] [] q (zc 39 36 L [r0, r1] Q) := ge_vc (len := 3) (pc := 33) (S := [zl x0, .ref u, r0, r1]) (u := u) (k1 := 24) (A := [.ref u, zl x0]) (r := [r0, r1]) (tag := 2) (n0 := 1) (zwb_le (by show 2 ≤ 4; omega)) p_39 rfl rfl rfl p_24 (by show 3 ≤ 3; omega) rfl
theorem g39_36 : z_go zP 39 36 L (zl b :: zi a :: .ref u :: S) q Q ↔ ∃ q1, z_st 101 q u (Int32.ofInt a) (zl b) = some q1 ∧ z_go zP 39 37 L S q1 Q := ge_last (len := 1) (x := (0, 0, [])) p_39 rfl
theorem g39_37 : z_go zP 39 37 L S q Q ↔ z_go zP 39 109 L S q Q := ge_to (len := 3) (x := (0, 0, [])) p_39 rfl rfl rfl
theorem g39_40 : z_go zP 39 40 [l0, some (.ref u), l2, l3, l4, l5, l6] S q Q ↔ z_go zP 39 41 [l0, some (.ref u), l2, l3, l4, l5, l6] (.ref u :: S) q Q := ge_x (len := 1) (x := (0, 0, [])) p_39 rfl rfl
theorem g39_40n : z_go zP 39 40 [l0, some .null, l2, l3, l4, l5, l6] S q Q ↔ z_go zP 39 41 [l0, some .null, l2, l3, l4, l5, l6] (.null :: S) q Q := ge_x (len := 1) (x := (0, 0, [])) p_39 rfl rfl
theorem g39_41 : z_go zP 39 41 L (.ref u :: S) q Q ↔ ∃ v, z_get [7] 0 q.1 u = some v ∧ z_go zP 39 44 L (v :: S) q Q := ge_getf (len := 3) (x := (0, 0, [7])) p_39 rfl
theorem g39_44 : z_go zP 39 44 L S q Q ↔ z_go zP 39 45 L (zi 4 :: S) q Q := ge_x (len := 1) (x := (0, 0, [])) p_39 rfl rfl
theorem g39_45 (a1 : -2147483648 ≤ a) (a2 : a < 2147483648) (b1 : -2147483648 ≤ b) (b2 : b < 2147483648) : z_go zP 39 45 L (zi b :: zi a :: S) q Q ↔ if ¬ a = b then z_go zP 39 71 L S q Q else z_go zP 39 48 L S q Q := ge_ic_ne (len := 3) (x := (0, 0, [])) a1 a2 b1 b2 p_39 rfl rfl
theorem g39_48 : z_go zP 39 48 [some (.ref u), l1, l2, l3, l4, l5, l6] S q Q ↔ z_go zP 39 49 [some (.ref u), l1, l2, l3, l4, l5, l6] (.ref u :: S) q Q := ge_x (len := 1) (x := (0, 0, [])) p_39 rfl rfl
theorem g39_49 : z_go zP 39 49 L (.ref u :: S) q Q ↔ ∃ v, z_get [5] 2 q.1 u = some v ∧ z_go zP 39 52 L (v :: S) q Q := ge_getf (len := 3) (x := (2, 0, [5])) p_39 rfl
theorem g39_52 : z_go zP 39 52 [l0, some (.ref u), l2, l3, l4, l5, l6] S q Q ↔ z_go zP 39 53 [l0, some (.ref u), l2, l3, l4, l5, l6] (.ref u :: S) q Q := ge_x (len := 1) (x := (0, 0, [])) p_39 rfl rfl
theorem g39_52n : z_go zP 39 52 [l0, some .null, l2, l3, l4, l5, l6] S q Q ↔ z_go zP 39 53 [l0, some .null, l2, l3, l4, l5, l6] (.null :: S) q Q := ge_x (len := 1) (x := (0, 0, [])) p_39 rfl rfl
theorem g39_53 : z_go zP 39 53 L (.ref u :: S) q Q ↔ ∃ v, z_get [7] 1 q.1 u = some v ∧ z_go zP 39 56 L (v :: S) q Q := ge_getf (len := 3) (x := (1, 0, [7])) p_39 rfl
theorem g39_56 : z_go zP 39 56 [some (.ref u), l1, l2, l3, l4, l5, l6] S q Q ↔ z_go zP 39 57 [some (.ref u), l1, l2, l3, l4, l5, l6] (.ref u :: S) q Q := ge_x (len := 1) (x := (0, 0, [])) p_39 rfl rfl
theorem g39_57 : z_go zP 39 57 L (.ref u :: S) q Q ↔ ∃ v, z_get [5] 3 q.1 u = some v ∧ z_go zP 39 60 L (v :: S) q Q := ge_getf (len := 3) (x := (3, 0, [5])) p_39 rfl
theorem g39_60 : z_go zP 39 60 [l0, l1, l2, l3, l4, l5, some (.ref u)] S q Q ↔ z_go zP 39 62 [l0, l1, l2, l3, l4, l5, some (.ref u)] (.ref u :: S) q Q := ge_x (len := 2) (x := (0, 0, [])) p_39 rfl rfl
theorem g39_60n : z_go zP 39 60 [l0, l1, l2, l3, l4, l5, some .null] S q Q ↔ z_go zP 39 62 [l0, l1, l2, l3, l4, l5, some .null] (.null :: S) q Q := ge_x (len := 2) (x := (0, 0, [])) p_39 rfl rfl
theorem g39_62 : z_go zP 39 62 [l0, l1, some (zl a), l3, l4, l5, l6] S q Q ↔ z_go zP 39 63 [l0, l1, some (zl a), l3, l4, l5, l6] (zl a :: S) q Q := ge_x (len := 1) (x := (0, 0, [])) p_39 rfl rfl
theorem g39_63 : z_go zP 39 63 L [zl x0, .ref u, r0, r1, r2] q Q ↔ z_tg q.1 u = some 2 ∧ z_go zP 25 0 [some (.ref u), some (zl x0), none] [] q (zc 39 66 L [r0, r1, r2] Q) := ge_vc (len := 3) (pc := 63) (S := [zl x0, .ref u, r0, r1, r2]) (u := u) (k1 := 25) (A := [.ref u, zl x0]) (r := [r0, r1, r2]) (tag := 2) (n0 := 1) (zwb_le (by show 3 ≤ 4; omega)) p_39 rfl rfl rfl p_25 (by show 3 ≤ 3; omega) rfl
theorem g39_66 : z_go zP 39 66 L (zi a :: .ref u :: S) q Q ↔ ∃ v, z_at [101] q.1 u (Int32.ofInt a) = some v ∧ z_go zP 39 67 L (v :: S) q Q := ge_lald (len := 1) (x := (0, 0, [])) p_39 rfl
theorem g39_67 : z_go zP 39 67 L (zl b :: zi a :: .ref u :: S) q Q ↔ ∃ q1, z_st 101 q u (Int32.ofInt a) (zl b) = some q1 ∧ z_go zP 39 68 L S q1 Q := ge_last (len := 1) (x := (0, 0, [])) p_39 rfl
theorem g39_68 : z_go zP 39 68 L S q Q ↔ z_go zP 39 109 L S q Q := ge_to (len := 3) (x := (0, 0, [])) p_39 rfl rfl rfl
theorem g39_71 : z_go zP 39 71 [l0, some (.ref u), l2, l3, l4, l5, l6] S q Q ↔ z_go zP 39 72 [l0, some (.ref u), l2, l3, l4, l5, l6] (.ref u :: S) q Q := ge_x (len := 1) (x := (0, 0, [])) p_39 rfl rfl
theorem g39_71n : z_go zP 39 71 [l0, some .null, l2, l3, l4, l5, l6] S q Q ↔ z_go zP 39 72 [l0, some .null, l2, l3, l4, l5, l6] (.null :: S) q Q := ge_x (len := 1) (x := (0, 0, [])) p_39 rfl rfl
theorem g39_72 : z_go zP 39 72 L (.ref u :: S) q Q ↔ ∃ v, z_get [7] 0 q.1 u = some v ∧ z_go zP 39 75 L (v :: S) q Q := ge_getf (len := 3) (x := (0, 0, [7])) p_39 rfl
theorem g39_75 : z_go zP 39 75 L S q Q ↔ z_go zP 39 76 L (zi 5 :: S) q Q := ge_x (len := 1) (x := (0, 0, [])) p_39 rfl rfl
theorem g39_76 (a1 : -2147483648 ≤ a) (a2 : a < 2147483648) (b1 : -2147483648 ≤ b) (b2 : b < 2147483648) : z_go zP 39 76 L (zi b :: zi a :: S) q Q ↔ if ¬ a = b then z_go zP 39 95 L S q Q else z_go zP 39 79 L S q Q := ge_ic_ne (len := 3) (x := (0, 0, [])) a1 a2 b1 b2 p_39 rfl rfl
theorem g39_79 : z_go zP 39 79 [some (.ref u), l1, l2, l3, l4, l5, l6] S q Q ↔ z_go zP 39 80 [some (.ref u), l1, l2, l3, l4, l5, l6] (.ref u :: S) q Q := ge_x (len := 1) (x := (0, 0, [])) p_39 rfl rfl
theorem g39_80 : z_go zP 39 80 L (.ref u :: S) q Q ↔ ∃ v, z_get [5] 3 q.1 u = some v ∧ z_go zP 39 83 L (v :: S) q Q := ge_getf (len := 3) (x := (3, 0, [5])) p_39 rfl
theorem g39_83 : z_go zP 39 83 [l0, l1, l2, l3, l4, l5, some (.ref u)] S q Q ↔ z_go zP 39 85 [l0, l1, l2, l3, l4, l5, some (.ref u)] (.ref u :: S) q Q := ge_x (len := 2) (x := (0, 0, [])) p_39 rfl rfl
theorem g39_83n : z_go zP 39 83 [l0, l1, l2, l3, l4, l5, some .null] S q Q ↔ z_go zP 39 85 [l0, l1, l2, l3, l4, l5, some .null] (.null :: S) q Q := ge_x (len := 2) (x := (0, 0, [])) p_39 rfl rfl
theorem g39_85 : z_go zP 39 85 [l0, l1, some (zl a), l3, l4, l5, l6] S q Q ↔ z_go zP 39 86 [l0, l1, some (zl a), l3, l4, l5, l6] (zl a :: S) q Q := ge_x (len := 1) (x := (0, 0, [])) p_39 rfl rfl
theorem g39_86 : z_go zP 39 86 L [zl x0, .ref u, r0] q Q ↔ z_tg q.1 u = some 2 ∧ z_go zP 25 0 [some (.ref u), some (zl x0), none] [] q (zc 39 89 L [r0] Q) := ge_vc (len := 3) (pc := 86) (S := [zl x0, .ref u, r0]) (u := u) (k1 := 25) (A := [.ref u, zl x0]) (r := [r0]) (tag := 2) (n0 := 1) (zwb_le (by show 1 ≤ 4; omega)) p_39 rfl rfl rfl p_25 (by show 3 ≤ 3; omega) rfl
theorem g39_89 : z_go zP 39 89 [l0, l1, l2, l3, some (zl a), l5, l6] S q Q ↔ z_go zP 39 91 [l0, l1, l2, l3, some (zl a), l5, l6] (zl a :: S) q Q := ge_x (len := 2) (x := (0, 0, [])) p_39 rfl rfl
theorem g39_91 : z_go zP 39 91 L (zl b :: zi a :: .ref u :: S) q Q ↔ ∃ q1, z_st 101 q u (Int32.ofInt a) (zl b) = some q1 ∧ z_go zP 39 92 L S q1 Q := ge_last (len := 1) (x := (0, 0, [])) p_39 rfl
theorem g39_92 : z_go zP 39 92 L S q Q ↔ z_go zP 39 109 L S q Q := ge_to (len := 3) (x := (0, 0, [])) p_39 rfl rfl rfl
theorem g39_95 : z_go zP 39 95 [l0, some (.ref u), l2, l3, l4, l5, l6] S q Q ↔ z_go zP 39 96 [l0, some (.ref u), l2, l3, l4, l5, l6] (.ref u :: S) q Q := ge_x (len := 1) (x := (0, 0, [])) p_39 rfl rfl
theorem g39_95n : z_go zP 39 95 [l0, some .null, l2, l3, l4, l5, l6] S q Q ↔ z_go zP 39 96 [l0, some .null, l2, l3, l4, l5, l6] (.null :: S) q Q := ge_x (len := 1) (x := (0, 0, [])) p_39 rfl rfl
theorem g39_96 : z_go zP 39 96 L (.ref u :: S) q Q ↔ ∃ v, z_get [7] 0 q.1 u = some v ∧ z_go zP 39 99 L (v :: S) q Q := ge_getf (len := 3) (x := (0, 0, [7])) p_39 rfl
theorem g39_99 : z_go zP 39 99 L S q Q ↔ z_go zP 39 101 L (zi 7 :: S) q Q := ge_x (len := 2) (x := (0, 0, [])) p_39 rfl rfl
theorem g39_101 (a1 : -2147483648 ≤ a) (a2 : a < 2147483648) (b1 : -2147483648 ≤ b) (b2 : b < 2147483648) : z_go zP 39 101 L (zi b :: zi a :: S) q Q ↔ if ¬ a = b then z_go zP 39 109 L S q Q else z_go zP 39 104 L S q Q := ge_ic_ne (len := 3) (x := (0, 0, [])) a1 a2 b1 b2 p_39 rfl rfl
theorem g39_104 : z_go zP 39 104 [some (.ref u), l1, l2, l3, l4, l5, l6] S q Q ↔ z_go zP 39 105 [some (.ref u), l1, l2, l3, l4, l5, l6] (.ref u :: S) q Q := ge_x (len := 1) (x := (0, 0, [])) p_39 rfl rfl
theorem g39_105 : z_go zP 39 105 L S q Q ↔ z_go zP 39 106 L (zi 1 :: S) q Q := ge_x (len := 1) (x := (0, 0, [])) p_39 rfl rfl
theorem g39_106 : z_go zP 39 106 L (v :: .ref u :: S) q Q ↔ ∃ q1, z_put [5] 6 q u v = some q1 ∧ z_go zP 39 109 L S q1 Q := ge_putf (len := 3) (x := (6, 0, [5])) p_39 rfl
theorem g39_109 : z_go zP 39 109 L [] q Q ↔ Q (.inl none) q := z_go_rt (len := 1) (x := (0, 0, [])) p_39 rfl rfl rfl
theorem g40_0 : z_go zP 40 0 [some (.ref u), l1] S q Q ↔ z_go zP 40 1 [some (.ref u), l1] (.ref u :: S) q Q := ge_x (len := 1) (x := (0, 0, [])) p_40 rfl rfl
theorem g40_1 : z_go zP 40 1 L (.ref u :: S) q Q ↔ ∃ v, z_get [5] 1 q.1 u = some v ∧ z_go zP 40 4 L (v :: S) q Q := ge_getf (len := 3) (x := (1, 0, [5])) p_40 rfl
theorem g40_4 : z_go zP 40 4 [l0, some (.ref u)] S q Q ↔ z_go zP 40 5 [l0, some (.ref u)] (.ref u :: S) q Q := ge_x (len := 1) (x := (0, 0, [])) p_40 rfl rfl
theorem g40_4n : z_go zP 40 4 [l0, some .null] S q Q ↔ z_go zP 40 5 [l0, some .null] (.null :: S) q Q := ge_x (len := 1) (x := (0, 0, [])) p_40 rfl rfl
theorem g40_5 : z_go zP 40 5 L (.ref u :: S) q Q ↔ ∃ v, z_get [5] 1 q.1 u = some v ∧ z_go zP 40 8 L (v :: S) q Q := ge_getf (len := 3) (x := (1, 0, [5])) p_40 rfl
theorem g40_8 : z_go zP 40 8 L (.ref u2 :: .ref u :: S) q Q ↔ if u = u2 then z_go zP 40 11 L S q Q else z_go zP 40 54 L S q Q := ge_acmp_ne (len := 3) (x := (0, 0, [])) p_40 rfl rfl
theorem g40_11 : z_go zP 40 11 [some (.ref u), l1] S q Q ↔ z_go zP 40 12 [some (.ref u), l1] (.ref u :: S) q Q := ge_x (len := 1) (x := (0, 0, [])) p_40 rfl rfl
theorem g40_12 : z_go zP 40 12 L (.ref u :: S) q Q ↔ ∃ v, z_get [5] 5 q.1 u = some v ∧ z_go zP 40 15 L (v :: S) q Q := ge_getf (len := 3) (x := (5, 0, [5])) p_40 rfl
theorem g40_15 : z_go zP 40 15 [l0, some (.ref u)] S q Q ↔ z_go zP 40 16 [l0, some (.ref u)] (.ref u :: S) q Q := ge_x (len := 1) (x := (0, 0, [])) p_40 rfl rfl
theorem g40_15n : z_go zP 40 15 [l0, some .null] S q Q ↔ z_go zP 40 16 [l0, some .null] (.null :: S) q Q := ge_x (len := 1) (x := (0, 0, [])) p_40 rfl rfl
theorem g40_16 : z_go zP 40 16 L (.ref u :: S) q Q ↔ ∃ v, z_get [5] 5 q.1 u = some v ∧ z_go zP 40 19 L (v :: S) q Q := ge_getf (len := 3) (x := (5, 0, [5])) p_40 rfl
theorem g40_19 (a1 : -2147483648 ≤ a) (a2 : a < 2147483648) (b1 : -2147483648 ≤ b) (b2 : b < 2147483648) : z_go zP 40 19 L (zi b :: zi a :: S) q Q ↔ if ¬ a = b then z_go zP 40 54 L S q Q else z_go zP 40 22 L S q Q := ge_ic_ne (len := 3) (x := (0, 0, [])) a1 a2 b1 b2 p_40 rfl rfl
theorem g40_22 : z_go zP 40 22 [some (.ref u), l1] S q Q ↔ z_go zP 40 23 [some (.ref u), l1] (.ref u :: S) q Q := ge_x (len := 1) (x := (0, 0, [])) p_40 rfl rfl
theorem g40_23 : z_go zP 40 23 L (.ref u :: S) q Q ↔ ∃ v, z_get [5] 2 q.1 u = some v ∧ z_go zP 40 26 L (v :: S) q Q := ge_getf (len := 3) (x := (2, 0, [5])) p_40 rfl
theorem g40_26 : z_go zP 40 26 [l0, some (.ref u)] S q Q ↔ z_go zP 40 27 [l0, some (.ref u)] (.ref u :: S) q Q := ge_x (len := 1) (x := (0, 0, [])) p_40 rfl rfl
theorem g40_26n : z_go zP 40 26 [l0, some .null] S q Q ↔ z_go zP 40 27 [l0, some .null] (.null :: S) q Q := ge_x (len := 1) (x := (0, 0, [])) p_40 rfl rfl
theorem g40_27 : z_go zP 40 27 L (.ref u :: S) q Q ↔ ∃ v, z_get [5] 2 q.1 u = some v ∧ z_go zP 40 30 L (v :: S) q Q := ge_getf (len := 3) (x := (2, 0, [5])) p_40 rfl
theorem g40_30 : z_go zP 40 30 L [.ref w1, .ref w0] q Q ↔ z_go zP 41 0 [some (.ref w0), some (.ref w1), none] [] q (zd 40 33 L [] Q) := (z_go_cl (len := 3) (x := (41, 2, [2])) (k1 := 41) (A := [.ref w0, .ref w1]) (r := []) p_40 rfl rfl rfl rfl (by simp only [z_cl, List.drop]; rw [if_pos]; rfl; exact by first | exact ⟨by decide, (zwb_le (by show 0 ≤ 4; omega))⟩ | exact ⟨by decide, by show 2 ≤ 2; omega, (zwb_le (by show 0 ≤ 4; omega))⟩) p_41 (by show 2 ≤ 3; omega)).trans (ge_bk_d rfl)
theorem g40_33 (a1 : -2147483648 ≤ a) (a2 : a < 2147483648) : z_go zP 40 33 L (zi a :: S) q Q ↔ if a = 0 then z_go zP 40 54 L S q Q else z_go zP 40 36 L S q Q := ge_if_eq (len := 3) (x := (0, 0, [])) a1 a2 p_40 rfl rfl
theorem g40_33b {c : Prop} [Decidable c] : z_go zP 40 33 L (zi (bI c) :: S) q Q ↔ if c then z_go zP 40 36 L S q Q else z_go zP 40 54 L S q Q := ge_if_eq_b (len := 3) (x := (0, 0, [])) p_40 rfl rfl
theorem g40_36 : z_go zP 40 36 [some (.ref u), l1] S q Q ↔ z_go zP 40 37 [some (.ref u), l1] (.ref u :: S) q Q := ge_x (len := 1) (x := (0, 0, [])) p_40 rfl rfl
theorem g40_37 : z_go zP 40 37 L (.ref u :: S) q Q ↔ ∃ v, z_get [5] 3 q.1 u = some v ∧ z_go zP 40 40 L (v :: S) q Q := ge_getf (len := 3) (x := (3, 0, [5])) p_40 rfl
theorem g40_40 : z_go zP 40 40 [l0, some (.ref u)] S q Q ↔ z_go zP 40 41 [l0, some (.ref u)] (.ref u :: S) q Q := ge_x (len := 1) (x := (0, 0, [])) p_40 rfl rfl
theorem g40_40n : z_go zP 40 40 [l0, some .null] S q Q ↔ z_go zP 40 41 [l0, some .null] (.null :: S) q Q := ge_x (len := 1) (x := (0, 0, [])) p_40 rfl rfl
theorem g40_41 : z_go zP 40 41 L (.ref u :: S) q Q ↔ ∃ v, z_get [5] 3 q.1 u = some v ∧ z_go zP 40 44 L (v :: S) q Q := ge_getf (len := 3) (x := (3, 0, [5])) p_40 rfl
theorem g40_44 : z_go zP 40 44 L [.ref w1, .ref w0] q Q ↔ z_go zP 41 0 [some (.ref w0), some (.ref w1), none] [] q (zd 40 47 L [] Q) := (z_go_cl (len := 3) (x := (41, 2, [2])) (k1 := 41) (A := [.ref w0, .ref w1]) (r := []) p_40 rfl rfl rfl rfl (by simp only [z_cl, List.drop]; rw [if_pos]; rfl; exact by first | exact ⟨by decide, (zwb_le (by show 0 ≤ 4; omega))⟩ | exact ⟨by decide, by show 2 ≤ 2; omega, (zwb_le (by show 0 ≤ 4; omega))⟩) p_41 (by show 2 ≤ 3; omega)).trans (ge_bk_d rfl)
theorem g40_47 (a1 : -2147483648 ≤ a) (a2 : a < 2147483648) : z_go zP 40 47 L (zi a :: S) q Q ↔ if a = 0 then z_go zP 40 54 L S q Q else z_go zP 40 50 L S q Q := ge_if_eq (len := 3) (x := (0, 0, [])) a1 a2 p_40 rfl rfl
theorem g40_47b {c : Prop} [Decidable c] : z_go zP 40 47 L (zi (bI c) :: S) q Q ↔ if c then z_go zP 40 50 L S q Q else z_go zP 40 54 L S q Q := ge_if_eq_b (len := 3) (x := (0, 0, [])) p_40 rfl rfl
theorem g40_50 : z_go zP 40 50 L S q Q ↔ z_go zP 40 51 L (zi 1 :: S) q Q := ge_x (len := 1) (x := (0, 0, [])) p_40 rfl rfl
theorem g40_51 : z_go zP 40 51 L S q Q ↔ z_go zP 40 55 L S q Q := ge_to (len := 3) (x := (0, 0, [])) p_40 rfl rfl rfl
theorem g40_54 : z_go zP 40 54 L S q Q ↔ z_go zP 40 55 L (zi 0 :: S) q Q := ge_x (len := 1) (x := (0, 0, [])) p_40 rfl rfl
theorem g40_55_0 : z_go zP 40 55 L [zi 0] q Q ↔ Q (.inl (some (zi 0))) q := z_go_rt (len := 1) (x := (0, 0, [])) p_40 rfl rfl rfl
theorem g40_55_1 : z_go zP 40 55 L [zi 1] q Q ↔ Q (.inl (some (zi 1))) q := z_go_rt (len := 1) (x := (0, 0, [])) p_40 rfl rfl rfl
theorem g40_55b {c : Prop} [Decidable c] : z_go zP 40 55 L [zi (bI c)] q Q ↔ Q (.inl (some (zi (bI c)))) q := (by rcases bI_01 (c := c) with h | h <;> rw [h] <;> exact z_go_rt (len := 1) (x := (0, 0, [])) p_40 rfl rfl rfl)
theorem g41_0 : z_go zP 41 0 [some (.ref u), l1, l2] S q Q ↔ z_go zP 41 1 [some (.ref u), l1, l2] (.ref u :: S) q Q := ge_x (len := 1) (x := (0, 0, [])) p_41 rfl rfl
theorem g41_0n : z_go zP 41 0 [some .null, l1, l2] S q Q ↔ z_go zP 41 1 [some .null, l1, l2] (.null :: S) q Q := ge_x (len := 1) (x := (0, 0, [])) p_41 rfl rfl
theorem g41_1 : z_go zP 41 1 L (.ref u :: S) q Q ↔ ∃ v, z_len q.1 u = some v ∧ z_go zP 41 2 L (v :: S) q Q := ge_alen (len := 1) (x := (0, 0, [])) p_41 rfl
theorem g41_2 : z_go zP 41 2 [l0, some (.ref u), l2] S q Q ↔ z_go zP 41 3 [l0, some (.ref u), l2] (.ref u :: S) q Q := ge_x (len := 1) (x := (0, 0, [])) p_41 rfl rfl
theorem g41_2n : z_go zP 41 2 [l0, some .null, l2] S q Q ↔ z_go zP 41 3 [l0, some .null, l2] (.null :: S) q Q := ge_x (len := 1) (x := (0, 0, [])) p_41 rfl rfl
theorem g41_3 : z_go zP 41 3 L (.ref u :: S) q Q ↔ ∃ v, z_len q.1 u = some v ∧ z_go zP 41 4 L (v :: S) q Q := ge_alen (len := 1) (x := (0, 0, [])) p_41 rfl
theorem g41_4 (a1 : -2147483648 ≤ a) (a2 : a < 2147483648) (b1 : -2147483648 ≤ b) (b2 : b < 2147483648) : z_go zP 41 4 L (zi b :: zi a :: S) q Q ↔ if a = b then z_go zP 41 9 L S q Q else z_go zP 41 7 L S q Q := ge_ic_eq (len := 3) (x := (0, 0, [])) a1 a2 b1 b2 p_41 rfl rfl
theorem g41_7 : z_go zP 41 7 L S q Q ↔ z_go zP 41 8 L (zi 0 :: S) q Q := ge_x (len := 1) (x := (0, 0, [])) p_41 rfl rfl
theorem g41_8_0 : z_go zP 41 8 L [zi 0] q Q ↔ Q (.inl (some (zi 0))) q := z_go_rt (len := 1) (x := (0, 0, [])) p_41 rfl rfl rfl
theorem g41_8_1 : z_go zP 41 8 L [zi 1] q Q ↔ Q (.inl (some (zi 1))) q := z_go_rt (len := 1) (x := (0, 0, [])) p_41 rfl rfl rfl
theorem g41_8b {c : Prop} [Decidable c] : z_go zP 41 8 L [zi (bI c)] q Q ↔ Q (.inl (some (zi (bI c)))) q := (by rcases bI_01 (c := c) with h | h <;> rw [h] <;> exact z_go_rt (len := 1) (x := (0, 0, [])) p_41 rfl rfl rfl)
theorem g41_9 : z_go zP 41 9 L S q Q ↔ z_go zP 41 10 L (zi 0 :: S) q Q := ge_x (len := 1) (x := (0, 0, [])) p_41 rfl rfl
theorem g41_10 : z_go zP 41 10 [l0, l1, l2] (zi a :: S) q Q ↔ z_go zP 41 11 [l0, (zkl l1), some (zi a)] S q Q := (by cases l1 with | none => exact ge_x (len := 1) (x := (0, 0, [])) p_41 rfl rfl | some v => cases v <;> exact ge_x (len := 1) (x := (0, 0, [])) p_41 rfl rfl)
theorem g41_11 : z_go zP 41 11 [l0, l1, some (zi a)] S q Q ↔ z_go zP 41 12 [l0, l1, some (zi a)] (zi a :: S) q Q := ge_x (len := 1) (x := (0, 0, [])) p_41 rfl rfl
theorem g41_12 : z_go zP 41 12 [some (.ref u), l1, l2] S q Q ↔ z_go zP 41 13 [some (.ref u), l1, l2] (.ref u :: S) q Q := ge_x (len := 1) (x := (0, 0, [])) p_41 rfl rfl
theorem g41_12n : z_go zP 41 12 [some .null, l1, l2] S q Q ↔ z_go zP 41 13 [some .null, l1, l2] (.null :: S) q Q := ge_x (len := 1) (x := (0, 0, [])) p_41 rfl rfl
theorem g41_13 : z_go zP 41 13 L (.ref u :: S) q Q ↔ ∃ v, z_len q.1 u = some v ∧ z_go zP 41 14 L (v :: S) q Q := ge_alen (len := 1) (x := (0, 0, [])) p_41 rfl
theorem g41_14 (a1 : -2147483648 ≤ a) (a2 : a < 2147483648) (b1 : -2147483648 ≤ b) (b2 : b < 2147483648) : z_go zP 41 14 L (zi b :: zi a :: S) q Q ↔ if b ≤ a then z_go zP 41 35 L S q Q else z_go zP 41 17 L S q Q := ge_ic_ge (len := 3) (x := (0, 0, [])) a1 a2 b1 b2 p_41 rfl rfl
theorem g41_17 : z_go zP 41 17 [some (.ref u), l1, l2] S q Q ↔ z_go zP 41 18 [some (.ref u), l1, l2] (.ref u :: S) q Q := ge_x (len := 1) (x := (0, 0, [])) p_41 rfl rfl
theorem g41_17n : z_go zP 41 17 [some .null, l1, l2] S q Q ↔ z_go zP 41 18 [some .null, l1, l2] (.null :: S) q Q := ge_x (len := 1) (x := (0, 0, [])) p_41 rfl rfl
theorem g41_18 : z_go zP 41 18 [l0, l1, some (zi a)] S q Q ↔ z_go zP 41 19 [l0, l1, some (zi a)] (zi a :: S) q Q := ge_x (len := 1) (x := (0, 0, [])) p_41 rfl rfl
theorem g41_19 : z_go zP 41 19 L (zi a :: .ref u :: S) q Q ↔ ∃ v, z_at [101] q.1 u (Int32.ofInt a) = some v ∧ z_go zP 41 20 L (v :: S) q Q := ge_lald (len := 1) (x := (0, 0, [])) p_41 rfl
theorem g41_20 : z_go zP 41 20 [l0, some (.ref u), l2] S q Q ↔ z_go zP 41 21 [l0, some (.ref u), l2] (.ref u :: S) q Q := ge_x (len := 1) (x := (0, 0, [])) p_41 rfl rfl
theorem g41_20n : z_go zP 41 20 [l0, some .null, l2] S q Q ↔ z_go zP 41 21 [l0, some .null, l2] (.null :: S) q Q := ge_x (len := 1) (x := (0, 0, [])) p_41 rfl rfl
theorem g41_21 : z_go zP 41 21 [l0, l1, some (zi a)] S q Q ↔ z_go zP 41 22 [l0, l1, some (zi a)] (zi a :: S) q Q := ge_x (len := 1) (x := (0, 0, [])) p_41 rfl rfl
theorem g41_22 : z_go zP 41 22 L (zi a :: .ref u :: S) q Q ↔ ∃ v, z_at [101] q.1 u (Int32.ofInt a) = some v ∧ z_go zP 41 23 L (v :: S) q Q := ge_lald (len := 1) (x := (0, 0, [])) p_41 rfl
theorem g41_23 (a1 : -9223372036854775808 ≤ a) (a2 : a < 9223372036854775808) (b1 : -9223372036854775808 ≤ b) (b2 : b < 9223372036854775808) : z_go zP 41 23 L (zl b :: zl a :: S) q Q ↔ if a = b then z_go zP 41 29 L S q Q else z_go zP 41 27 L S q Q := ge_lc_eq (len := 1) (x := (0, 0, [])) (p2 := 24) (l2 := 3) a1 a2 b1 b2 p_41 rfl rfl rfl rfl
theorem g41_27 : z_go zP 41 27 L S q Q ↔ z_go zP 41 28 L (zi 0 :: S) q Q := ge_x (len := 1) (x := (0, 0, [])) p_41 rfl rfl
theorem g41_28_0 : z_go zP 41 28 L [zi 0] q Q ↔ Q (.inl (some (zi 0))) q := z_go_rt (len := 1) (x := (0, 0, [])) p_41 rfl rfl rfl
theorem g41_28_1 : z_go zP 41 28 L [zi 1] q Q ↔ Q (.inl (some (zi 1))) q := z_go_rt (len := 1) (x := (0, 0, [])) p_41 rfl rfl rfl
theorem g41_28b {c : Prop} [Decidable c] : z_go zP 41 28 L [zi (bI c)] q Q ↔ Q (.inl (some (zi (bI c)))) q := (by rcases bI_01 (c := c) with h | h <;> rw [h] <;> exact z_go_rt (len := 1) (x := (0, 0, [])) p_41 rfl rfl rfl)
theorem g41_29 : z_go zP 41 29 [l0, l1, some (zi a)] S q Q ↔ z_go zP 41 32 [l0, (zkl l1), some (zi (a + 1))] S q Q := (by unfold zi; rw [Int32.ofInt_add]; cases l1 with | none => exact ge_x (len := 3) (x := (0, 0, [])) p_41 rfl rfl | some v => cases v <;> exact ge_x (len := 3) (x := (0, 0, [])) p_41 rfl rfl)
theorem g41_32 : z_go zP 41 32 L S q Q ↔ z_go zP 41 11 L S q Q := ge_to (len := 3) (x := (0, 0, [])) p_41 rfl rfl rfl
theorem g41_35 : z_go zP 41 35 L S q Q ↔ z_go zP 41 36 L (zi 1 :: S) q Q := ge_x (len := 1) (x := (0, 0, [])) p_41 rfl rfl
theorem g41_36_0 : z_go zP 41 36 L [zi 0] q Q ↔ Q (.inl (some (zi 0))) q := z_go_rt (len := 1) (x := (0, 0, [])) p_41 rfl rfl rfl
theorem g41_36_1 : z_go zP 41 36 L [zi 1] q Q ↔ Q (.inl (some (zi 1))) q := z_go_rt (len := 1) (x := (0, 0, [])) p_41 rfl rfl rfl
theorem g41_36b {c : Prop} [Decidable c] : z_go zP 41 36 L [zi (bI c)] q Q ↔ Q (.inl (some (zi (bI c)))) q := (by rcases bI_01 (c := c) with h | h <;> rw [h] <;> exact z_go_rt (len := 1) (x := (0, 0, [])) p_41 rfl rfl rfl)
theorem g42_0 : z_go zP 42 0 [some (.ref u), l1, l2] S q Q ↔ z_go zP 42 1 [some (.ref u), l1, l2] (.ref u :: S) q Q := ge_x (len := 1) (x := (0, 0, [])) p_42 rfl rfl
theorem g42_1 : z_go zP 42 1 L S q Q ↔ z_go zP 42 2 L (zi 5 :: S) q Q := ge_x (len := 1) (x := (0, 0, [])) p_42 rfl rfl
theorem g42_2 : z_go zP 42 2 L [zi x0, .ref u] q Q ↔ z_go zP 48 0 [some (.ref u), some (zi x0)] [] q (zd 42 5 L [] Q) := (z_go_cl (len := 3) (x := (48, 3, [1])) (k1 := 48) (A := [.ref u, zi x0]) (r := []) p_42 rfl rfl rfl rfl (by simp only [z_cl, List.drop]; rw [if_pos]; rfl; exact by first | exact ⟨by decide, (zwb_le (by show 0 ≤ 4; omega))⟩ | exact ⟨by decide, by show 2 ≤ 2; omega, (zwb_le (by show 0 ≤ 4; omega))⟩) p_48 (by show 2 ≤ 2; omega)).trans (ge_bk_d rfl)
theorem g42_5 : z_go zP 42 5 [some (.ref u), l1, l2] S q Q ↔ z_go zP 42 6 [some (.ref u), l1, l2] (.ref u :: S) q Q := ge_x (len := 1) (x := (0, 0, [])) p_42 rfl rfl
theorem g42_6 : z_go zP 42 6 L S q Q ↔ z_go zP 42 7 L (zi 4 :: S) q Q := ge_x (len := 1) (x := (0, 0, [])) p_42 rfl rfl
theorem g42_7 (a1 : 0 ≤ a) (a2 : a ≤ 60000) : z_go zP 42 7 L (zi a :: S) q Q ↔ z_go zP 42 9 L (.ref q.2.1 :: S) (z_new 100 a.toNat (fun _ => zi 0) q) Q := ge_nwa (len := 2) (x := (0, 0, [])) (n8 := componentBytes .int) a1 a2 (by decide) p_42 rfl rfl
theorem g42_9 : z_go zP 42 9 L (v :: .ref u :: S) q Q ↔ ∃ q1, z_put [6] 9 q u v = some q1 ∧ z_go zP 42 12 L S q1 Q := ge_putf (len := 3) (x := (9, 0, [6])) p_42 rfl
theorem g42_12 : z_go zP 42 12 [some (.ref u), l1, l2] S q Q ↔ z_go zP 42 13 [some (.ref u), l1, l2] (.ref u :: S) q Q := ge_x (len := 1) (x := (0, 0, [])) p_42 rfl rfl
theorem g42_13 : z_go zP 42 13 L S q Q ↔ z_go zP 42 15 L (zi 16 :: S) q Q := ge_x (len := 2) (x := (0, 0, [])) p_42 rfl rfl
theorem g42_15 (a1 : 0 ≤ a) (a2 : a ≤ 60000) : z_go zP 42 15 L (zi a :: S) q Q ↔ z_go zP 42 17 L (.ref q.2.1 :: S) (z_new 100 a.toNat (fun _ => zi 0) q) Q := ge_nwa (len := 2) (x := (0, 0, [])) (n8 := componentBytes .int) a1 a2 (by decide) p_42 rfl rfl
theorem g42_17 : z_go zP 42 17 L (v :: .ref u :: S) q Q ↔ ∃ q1, z_put [6] 10 q u v = some q1 ∧ z_go zP 42 20 L S q1 Q := ge_putf (len := 3) (x := (10, 0, [6])) p_42 rfl
theorem g42_20 : z_go zP 42 20 [some (.ref u), l1, l2] S q Q ↔ z_go zP 42 21 [some (.ref u), l1, l2] (.ref u :: S) q Q := ge_x (len := 1) (x := (0, 0, [])) p_42 rfl rfl
theorem g42_21 : z_go zP 42 21 [l0, some (.ref u), l2] S q Q ↔ z_go zP 42 22 [l0, some (.ref u), l2] (.ref u :: S) q Q := ge_x (len := 1) (x := (0, 0, [])) p_42 rfl rfl
theorem g42_21n : z_go zP 42 21 [l0, some .null, l2] S q Q ↔ z_go zP 42 22 [l0, some .null, l2] (.null :: S) q Q := ge_x (len := 1) (x := (0, 0, [])) p_42 rfl rfl
theorem g42_22 : z_go zP 42 22 L (v :: .ref u :: S) q Q ↔ ∃ q1, z_put [6] 1 q u v = some q1 ∧ z_go zP 42 25 L S q1 Q := ge_putf (len := 3) (x := (1, 0, [6])) p_42 rfl
theorem g42_25 : z_go zP 42 25 [some (.ref u), l1, l2] S q Q ↔ z_go zP 42 26 [some (.ref u), l1, l2] (.ref u :: S) q Q := ge_x (len := 1) (x := (0, 0, [])) p_42 rfl rfl
theorem g42_26 : z_go zP 42 26 L S q Q ↔ z_go zP 42 29 L (.ref q.2.1 :: S) (z_new 5 7 (fun k => defaultValue (zty 5 k)) q) Q := ge_x (len := 3) (x := (5, 0, [])) p_42 rfl rfl
theorem g42_29 : z_go zP 42 29 L (.ref u :: S) q Q ↔ z_go zP 42 30 L (.ref u :: .ref u :: S) q Q := ge_x (len := 1) (x := (0, 0, [])) p_42 rfl rfl
theorem g42_29i : z_go zP 42 29 L (zi a :: S) q Q ↔ z_go zP 42 30 L (zi a :: zi a :: S) q Q := ge_x (len := 1) (x := (0, 0, [])) p_42 rfl rfl
theorem g42_30 : z_go zP 42 30 [l0, l1, some (.ref u)] S q Q ↔ z_go zP 42 31 [l0, l1, some (.ref u)] (.ref u :: S) q Q := ge_x (len := 1) (x := (0, 0, [])) p_42 rfl rfl
theorem g42_30n : z_go zP 42 30 [l0, l1, some .null] S q Q ↔ z_go zP 42 31 [l0, l1, some .null] (.null :: S) q Q := ge_x (len := 1) (x := (0, 0, [])) p_42 rfl rfl
theorem g42_31 : z_go zP 42 31 L [.ref w0, .ref u, r0, r1] q Q ↔ z_go zP 35 0 [some (.ref u), some (.ref w0)] [] q (zd 42 34 L [r0, r1] Q) := (z_go_cl (len := 3) (x := (35, 3, [1])) (k1 := 35) (A := [.ref u, .ref w0]) (r := [r0, r1]) p_42 rfl rfl rfl rfl (by simp only [z_cl, List.drop]; rw [if_pos]; rfl; exact by first | exact ⟨by decide, (zwb_le (by show 2 ≤ 4; omega))⟩ | exact ⟨by decide, by show 2 ≤ 4; omega, (zwb_le (by show 2 ≤ 4; omega))⟩) p_35 (by show 2 ≤ 2; omega)).trans (ge_bk_d rfl)
theorem g42_34 : z_go zP 42 34 L (v :: .ref u :: S) q Q ↔ ∃ q1, z_put [6] 2 q u v = some q1 ∧ z_go zP 42 37 L S q1 Q := ge_putf (len := 3) (x := (2, 0, [6])) p_42 rfl
theorem g42_37 : z_go zP 42 37 [some (.ref u), l1, l2] S q Q ↔ z_go zP 42 38 [some (.ref u), l1, l2] (.ref u :: S) q Q := ge_x (len := 1) (x := (0, 0, [])) p_42 rfl rfl
theorem g42_38 : z_go zP 42 38 L S q Q ↔ z_go zP 42 41 L (.ref q.2.1 :: S) (z_new 5 7 (fun k => defaultValue (zty 5 k)) q) Q := ge_x (len := 3) (x := (5, 0, [])) p_42 rfl rfl
theorem g42_41 : z_go zP 42 41 L (.ref u :: S) q Q ↔ z_go zP 42 42 L (.ref u :: .ref u :: S) q Q := ge_x (len := 1) (x := (0, 0, [])) p_42 rfl rfl
theorem g42_41i : z_go zP 42 41 L (zi a :: S) q Q ↔ z_go zP 42 42 L (zi a :: zi a :: S) q Q := ge_x (len := 1) (x := (0, 0, [])) p_42 rfl rfl
theorem g42_42 : z_go zP 42 42 [l0, l1, some (.ref u)] S q Q ↔ z_go zP 42 43 [l0, l1, some (.ref u)] (.ref u :: S) q Q := ge_x (len := 1) (x := (0, 0, [])) p_42 rfl rfl
theorem g42_42n : z_go zP 42 42 [l0, l1, some .null] S q Q ↔ z_go zP 42 43 [l0, l1, some .null] (.null :: S) q Q := ge_x (len := 1) (x := (0, 0, [])) p_42 rfl rfl
theorem g42_43 : z_go zP 42 43 L [.ref w0, .ref u, r0, r1] q Q ↔ z_go zP 35 0 [some (.ref u), some (.ref w0)] [] q (zd 42 46 L [r0, r1] Q) := (z_go_cl (len := 3) (x := (35, 3, [1])) (k1 := 35) (A := [.ref u, .ref w0]) (r := [r0, r1]) p_42 rfl rfl rfl rfl (by simp only [z_cl, List.drop]; rw [if_pos]; rfl; exact by first | exact ⟨by decide, (zwb_le (by show 2 ≤ 4; omega))⟩ | exact ⟨by decide, by show 2 ≤ 4; omega, (zwb_le (by show 2 ≤ 4; omega))⟩) p_35 (by show 2 ≤ 2; omega)).trans (ge_bk_d rfl)
theorem g42_46 : z_go zP 42 46 L (v :: .ref u :: S) q Q ↔ ∃ q1, z_put [6] 3 q u v = some q1 ∧ z_go zP 42 49 L S q1 Q := ge_putf (len := 3) (x := (3, 0, [6])) p_42 rfl
theorem g42_49 : z_go zP 42 49 L [] q Q ↔ Q (.inl none) q := z_go_rt (len := 1) (x := (0, 0, [])) p_42 rfl rfl rfl
theorem g43_0 : z_go zP 43 0 [l0, some (.ref u)] S q Q ↔ z_go zP 43 1 [l0, some (.ref u)] (.ref u :: S) q Q := ge_x (len := 1) (x := (0, 0, [])) p_43 rfl rfl
theorem g43_0n : z_go zP 43 0 [l0, some .null] S q Q ↔ z_go zP 43 1 [l0, some .null] (.null :: S) q Q := ge_x (len := 1) (x := (0, 0, [])) p_43 rfl rfl
theorem g43_1 : z_go zP 43 1 [some (.ref u), l1] S q Q ↔ z_go zP 43 2 [some (.ref u), l1] (.ref u :: S) q Q := ge_x (len := 1) (x := (0, 0, [])) p_43 rfl rfl
theorem g43_2 : z_go zP 43 2 L (.ref u :: S) q Q ↔ ∃ v, z_get [6] 1 q.1 u = some v ∧ z_go zP 43 5 L (v :: S) q Q := ge_getf (len := 3) (x := (1, 0, [6])) p_43 rfl
theorem g43_5 : z_go zP 43 5 L (.ref u2 :: .ref u :: S) q Q ↔ if u = u2 then z_go zP 43 19 L S q Q else z_go zP 43 8 L S q Q := ge_acmp_eq (len := 3) (x := (0, 0, [])) p_43 rfl rfl
theorem g43_8 : z_go zP 43 8 [l0, some (.ref u)] S q Q ↔ z_go zP 43 9 [l0, some (.ref u)] (.ref u :: S) q Q := ge_x (len := 1) (x := (0, 0, [])) p_43 rfl rfl
theorem g43_8n : z_go zP 43 8 [l0, some .null] S q Q ↔ z_go zP 43 9 [l0, some .null] (.null :: S) q Q := ge_x (len := 1) (x := (0, 0, [])) p_43 rfl rfl
theorem g43_9 : z_go zP 43 9 [some (.ref u), l1] S q Q ↔ z_go zP 43 10 [some (.ref u), l1] (.ref u :: S) q Q := ge_x (len := 1) (x := (0, 0, [])) p_43 rfl rfl
theorem g43_10 : z_go zP 43 10 L (.ref u :: S) q Q ↔ ∃ v, z_get [6] 3 q.1 u = some v ∧ z_go zP 43 13 L (v :: S) q Q := ge_getf (len := 3) (x := (3, 0, [6])) p_43 rfl
theorem g43_13 : z_go zP 43 13 L (.ref u :: S) q Q ↔ ∃ v, z_get [5] 1 q.1 u = some v ∧ z_go zP 43 16 L (v :: S) q Q := ge_getf (len := 3) (x := (1, 0, [5])) p_43 rfl
theorem g43_16 : z_go zP 43 16 L (.ref u2 :: .ref u :: S) q Q ↔ if u = u2 then z_go zP 43 19 L S q Q else z_go zP 43 23 L S q Q := ge_acmp_ne (len := 3) (x := (0, 0, [])) p_43 rfl rfl
theorem g43_19 : z_go zP 43 19 L S q Q ↔ z_go zP 43 20 L (zi 1 :: S) q Q := ge_x (len := 1) (x := (0, 0, [])) p_43 rfl rfl
theorem g43_20 : z_go zP 43 20 L S q Q ↔ z_go zP 43 24 L S q Q := ge_to (len := 3) (x := (0, 0, [])) p_43 rfl rfl rfl
theorem g43_23 : z_go zP 43 23 L S q Q ↔ z_go zP 43 24 L (zi 0 :: S) q Q := ge_x (len := 1) (x := (0, 0, [])) p_43 rfl rfl
theorem g43_24_0 : z_go zP 43 24 L [zi 0] q Q ↔ Q (.inl (some (zi 0))) q := z_go_rt (len := 1) (x := (0, 0, [])) p_43 rfl rfl rfl
theorem g43_24_1 : z_go zP 43 24 L [zi 1] q Q ↔ Q (.inl (some (zi 1))) q := z_go_rt (len := 1) (x := (0, 0, [])) p_43 rfl rfl rfl
theorem g43_24b {c : Prop} [Decidable c] : z_go zP 43 24 L [zi (bI c)] q Q ↔ Q (.inl (some (zi (bI c)))) q := (by rcases bI_01 (c := c) with h | h <;> rw [h] <;> exact z_go_rt (len := 1) (x := (0, 0, [])) p_43 rfl rfl rfl)
theorem g44_0 : z_go zP 44 0 [some (.ref u), l1] S q Q ↔ z_go zP 44 1 [some (.ref u), l1] (.ref u :: S) q Q := ge_x (len := 1) (x := (0, 0, [])) p_44 rfl rfl
theorem g44_1 : z_go zP 44 1 L (.ref u :: S) q Q ↔ z_go zP 44 2 L (.ref u :: .ref u :: S) q Q := ge_x (len := 1) (x := (0, 0, [])) p_44 rfl rfl
theorem g44_1i : z_go zP 44 1 L (zi a :: S) q Q ↔ z_go zP 44 2 L (zi a :: zi a :: S) q Q := ge_x (len := 1) (x := (0, 0, [])) p_44 rfl rfl
theorem g44_2 : z_go zP 44 2 L (.ref u :: S) q Q ↔ ∃ v, z_get [6] 4 q.1 u = some v ∧ z_go zP 44 5 L (v :: S) q Q := ge_getf (len := 3) (x := (4, 0, [6])) p_44 rfl
theorem g44_5 : z_go zP 44 5 L S q Q ↔ z_go zP 44 6 L (zi 1 :: S) q Q := ge_x (len := 1) (x := (0, 0, [])) p_44 rfl rfl
theorem g44_6 : z_go zP 44 6 L (zi b :: zi a :: S) q Q ↔ z_go zP 44 7 L (zi (a + b) :: S) q Q := ge_iadd (len := 1) (x := (0, 0, [])) p_44 rfl
theorem g44_7 : z_go zP 44 7 L (v :: .ref u :: S) q Q ↔ ∃ q1, z_put [6] 4 q u v = some q1 ∧ z_go zP 44 10 L S q1 Q := ge_putf (len := 3) (x := (4, 0, [6])) p_44 rfl
theorem g44_10 : z_go zP 44 10 [some (.ref u), l1] S q Q ↔ z_go zP 44 11 [some (.ref u), l1] (.ref u :: S) q Q := ge_x (len := 1) (x := (0, 0, [])) p_44 rfl rfl
theorem g44_11 : z_go zP 44 11 L (.ref u :: S) q Q ↔ ∃ v, z_get [6] 2 q.1 u = some v ∧ z_go zP 44 14 L (v :: S) q Q := ge_getf (len := 3) (x := (2, 0, [6])) p_44 rfl
theorem g44_14 : z_go zP 44 14 L [.ref u] q Q ↔ z_tg q.1 u = some 5 ∧ z_go zP 37 0 [some (.ref u)] [] q (zc 44 17 L [] Q) := ge_vc (len := 3) (pc := 14) (S := [.ref u]) (u := u) (k1 := 37) (A := [.ref u]) (r := []) (tag := 5) (n0 := 0) (zwb_le (by show 0 ≤ 4; omega)) p_44 rfl rfl rfl p_37 (by show 1 ≤ 1; omega) rfl
theorem g44_17 : z_go zP 44 17 [l0, l1] (.ref u :: S) q Q ↔ z_go zP 44 18 [(zkl l0), some (.ref u)] S q Q := (by cases l0 with | none => exact ge_x (len := 1) (x := (0, 0, [])) p_44 rfl rfl | some v => cases v <;> exact ge_x (len := 1) (x := (0, 0, [])) p_44 rfl rfl)
theorem g44_17n : z_go zP 44 17 [l0, l1] (.null :: S) q Q ↔ z_go zP 44 18 [(zkl l0), some (.null)] S q Q := (by cases l0 with | none => exact ge_x (len := 1) (x := (0, 0, [])) p_44 rfl rfl | some v => cases v <;> exact ge_x (len := 1) (x := (0, 0, [])) p_44 rfl rfl)
theorem g44_18 : z_go zP 44 18 [l0, some (.ref u)] S q Q ↔ z_go zP 44 19 [l0, some (.ref u)] (.ref u :: S) q Q := ge_x (len := 1) (x := (0, 0, [])) p_44 rfl rfl
theorem g44_18n : z_go zP 44 18 [l0, some .null] S q Q ↔ z_go zP 44 19 [l0, some .null] (.null :: S) q Q := ge_x (len := 1) (x := (0, 0, [])) p_44 rfl rfl
theorem g44_19 : z_go zP 44 19 L (.ref u :: S) q Q ↔ z_go zP 44 22 L S q Q := ge_x (len := 3) (x := (0, 0, [])) p_44 rfl rfl
theorem g44_19n : z_go zP 44 19 L (.null :: S) q Q ↔ z_go zP 44 39 L S q Q := ge_to (len := 3) (x := (0, 0, [])) p_44 rfl rfl rfl
theorem g44_22 : z_go zP 44 22 [some (.ref u), l1] S q Q ↔ z_go zP 44 23 [some (.ref u), l1] (.ref u :: S) q Q := ge_x (len := 1) (x := (0, 0, [])) p_44 rfl rfl
theorem g44_23 : z_go zP 44 23 L (.ref u :: S) q Q ↔ ∃ v, z_get [6] 4 q.1 u = some v ∧ z_go zP 44 26 L (v :: S) q Q := ge_getf (len := 3) (x := (4, 0, [6])) p_44 rfl
theorem g44_26 : z_go zP 44 26 [some (.ref u), l1] S q Q ↔ z_go zP 44 27 [some (.ref u), l1] (.ref u :: S) q Q := ge_x (len := 1) (x := (0, 0, [])) p_44 rfl rfl
theorem g44_27 : z_go zP 44 27 [l0, some (.ref u)] S q Q ↔ z_go zP 44 28 [l0, some (.ref u)] (.ref u :: S) q Q := ge_x (len := 1) (x := (0, 0, [])) p_44 rfl rfl
theorem g44_27n : z_go zP 44 27 [l0, some .null] S q Q ↔ z_go zP 44 28 [l0, some .null] (.null :: S) q Q := ge_x (len := 1) (x := (0, 0, [])) p_44 rfl rfl
theorem g44_28 : z_go zP 44 28 L [.ref w0, .ref u, r0] q Q ↔ z_tg q.1 u = some 6 ∧ z_go zP 45 0 [some (.ref u), some (.ref w0), none] [] q (zc 44 31 L [r0] Q) := ge_vc (len := 3) (pc := 28) (S := [.ref w0, .ref u, r0]) (u := u) (k1 := 45) (A := [.ref u, .ref w0]) (r := [r0]) (tag := 6) (n0 := 1) (zwb_le (by show 1 ≤ 4; omega)) p_44 rfl rfl rfl p_45 (by show 2 ≤ 3; omega) rfl
theorem g44_31 (a1 : -2147483648 ≤ a) (a2 : a < 2147483648) (b1 : -2147483648 ≤ b) (b2 : b < 2147483648) : z_go zP 44 31 L (zi b :: zi a :: S) q Q ↔ if a < b then z_go zP 44 39 L S q Q else z_go zP 44 34 L S q Q := ge_ic_lt (len := 3) (x := (0, 0, [])) a1 a2 b1 b2 p_44 rfl rfl
theorem g44_34 : z_go zP 44 34 [some (.ref u), l1] S q Q ↔ z_go zP 44 35 [some (.ref u), l1] (.ref u :: S) q Q := ge_x (len := 1) (x := (0, 0, [])) p_44 rfl rfl
theorem g44_35 : z_go zP 44 35 [l0, some (.ref u)] S q Q ↔ z_go zP 44 36 [l0, some (.ref u)] (.ref u :: S) q Q := ge_x (len := 1) (x := (0, 0, [])) p_44 rfl rfl
theorem g44_35n : z_go zP 44 35 [l0, some .null] S q Q ↔ z_go zP 44 36 [l0, some .null] (.null :: S) q Q := ge_x (len := 1) (x := (0, 0, [])) p_44 rfl rfl
theorem g44_36 : z_go zP 44 36 L [.ref w0, .ref u] q Q ↔ z_tg q.1 u = some 6 ∧ z_go zP 46 0 [some (.ref u), some (.ref w0)] [] q (zc 44 39 L [] Q) := ge_vc (len := 3) (pc := 36) (S := [.ref w0, .ref u]) (u := u) (k1 := 46) (A := [.ref u, .ref w0]) (r := []) (tag := 6) (n0 := 1) (zwb_le (by show 0 ≤ 4; omega)) p_44 rfl rfl rfl p_46 (by show 2 ≤ 2; omega) rfl
theorem g44_39 : z_go zP 44 39 [some (.ref u), l1] S q Q ↔ z_go zP 44 40 [some (.ref u), l1] (.ref u :: S) q Q := ge_x (len := 1) (x := (0, 0, [])) p_44 rfl rfl
theorem g44_40 : z_go zP 44 40 L (.ref u :: S) q Q ↔ ∃ v, z_get [6] 3 q.1 u = some v ∧ z_go zP 44 43 L (v :: S) q Q := ge_getf (len := 3) (x := (3, 0, [6])) p_44 rfl
theorem g44_43 : z_go zP 44 43 L (.ref u :: S) q Q ↔ ∃ v, z_get [5] 5 q.1 u = some v ∧ z_go zP 44 46 L (v :: S) q Q := ge_getf (len := 3) (x := (5, 0, [5])) p_44 rfl
theorem g44_46 : z_go zP 44 46 [some (.ref u), l1] S q Q ↔ z_go zP 44 47 [some (.ref u), l1] (.ref u :: S) q Q := ge_x (len := 1) (x := (0, 0, [])) p_44 rfl rfl
theorem g44_47 : z_go zP 44 47 L (.ref u :: S) q Q ↔ ∃ v, z_get [6] 2 q.1 u = some v ∧ z_go zP 44 50 L (v :: S) q Q := ge_getf (len := 3) (x := (2, 0, [6])) p_44 rfl
theorem g44_50 : z_go zP 44 50 L (.ref u :: S) q Q ↔ ∃ v, z_get [5] 5 q.1 u = some v ∧ z_go zP 44 53 L (v :: S) q Q := ge_getf (len := 3) (x := (5, 0, [5])) p_44 rfl
theorem g44_53 (a1 : -2147483648 ≤ a) (a2 : a < 2147483648) (b1 : -2147483648 ≤ b) (b2 : b < 2147483648) : z_go zP 44 53 L (zi b :: zi a :: S) q Q ↔ if b ≤ a then z_go zP 44 85 L S q Q else z_go zP 44 56 L S q Q := ge_ic_ge (len := 3) (x := (0, 0, [])) a1 a2 b1 b2 p_44 rfl rfl
theorem g44_56 : z_go zP 44 56 [some (.ref u), l1] S q Q ↔ z_go zP 44 57 [some (.ref u), l1] (.ref u :: S) q Q := ge_x (len := 1) (x := (0, 0, [])) p_44 rfl rfl
theorem g44_57 : z_go zP 44 57 L (.ref u :: S) q Q ↔ ∃ v, z_get [6] 10 q.1 u = some v ∧ z_go zP 44 60 L (v :: S) q Q := ge_getf (len := 3) (x := (10, 0, [6])) p_44 rfl
theorem g44_60 : z_go zP 44 60 [some (.ref u), l1] S q Q ↔ z_go zP 44 61 [some (.ref u), l1] (.ref u :: S) q Q := ge_x (len := 1) (x := (0, 0, [])) p_44 rfl rfl
theorem g44_61 : z_go zP 44 61 L (.ref u :: S) q Q ↔ ∃ v, z_get [6] 3 q.1 u = some v ∧ z_go zP 44 64 L (v :: S) q Q := ge_getf (len := 3) (x := (3, 0, [6])) p_44 rfl
theorem g44_64 : z_go zP 44 64 L (.ref u :: S) q Q ↔ ∃ v, z_get [5] 5 q.1 u = some v ∧ z_go zP 44 67 L (v :: S) q Q := ge_getf (len := 3) (x := (5, 0, [5])) p_44 rfl
theorem g44_67 : z_go zP 44 67 L S q Q ↔ z_go zP 44 69 L (zi 15 :: S) q Q := ge_x (len := 2) (x := (0, 0, [])) p_44 rfl rfl
theorem g44_69 : z_go zP 44 69 L (zi b :: zi a :: S) q Q ↔ z_go zP 44 70 L (zi (iand a b) :: S) q Q := ge_iand (len := 1) (x := (0, 0, [])) p_44 rfl
theorem g44_70 : z_go zP 44 70 L (zi a :: .ref u :: S) q Q ↔ ∃ v, z_at [99, 100] q.1 u (Int32.ofInt a) = some v ∧ z_go zP 44 71 L (v :: S) q Q := ge_iald (len := 1) (x := (0, 0, [])) p_44 rfl
theorem g44_71 : z_go zP 44 71 [some (.ref u), l1] S q Q ↔ z_go zP 44 72 [some (.ref u), l1] (.ref u :: S) q Q := ge_x (len := 1) (x := (0, 0, [])) p_44 rfl rfl
theorem g44_72 : z_go zP 44 72 L (.ref u :: S) q Q ↔ ∃ v, z_get [6] 4 q.1 u = some v ∧ z_go zP 44 75 L (v :: S) q Q := ge_getf (len := 3) (x := (4, 0, [6])) p_44 rfl
theorem g44_75 (a1 : -2147483648 ≤ a) (a2 : a < 2147483648) (b1 : -2147483648 ≤ b) (b2 : b < 2147483648) : z_go zP 44 75 L (zi b :: zi a :: S) q Q ↔ if ¬ a = b then z_go zP 44 85 L S q Q else z_go zP 44 78 L S q Q := ge_ic_ne (len := 3) (x := (0, 0, [])) a1 a2 b1 b2 p_44 rfl rfl
theorem g44_78 : z_go zP 44 78 [some (.ref u), l1] S q Q ↔ z_go zP 44 79 [some (.ref u), l1] (.ref u :: S) q Q := ge_x (len := 1) (x := (0, 0, [])) p_44 rfl rfl
theorem g44_79 : z_go zP 44 79 L (.ref u :: S) q Q ↔ ∃ v, z_get [6] 3 q.1 u = some v ∧ z_go zP 44 82 L (v :: S) q Q := ge_getf (len := 3) (x := (3, 0, [6])) p_44 rfl
theorem g44_82 : z_go zP 44 82 L [.ref u] q Q ↔ z_tg q.1 u = some 5 ∧ z_go zP 38 0 [some (.ref u), none, none, none] [] q (zc 44 85 L [] Q) := ge_vc (len := 3) (pc := 82) (S := [.ref u]) (u := u) (k1 := 38) (A := [.ref u]) (r := []) (tag := 5) (n0 := 0) (zwb_le (by show 0 ≤ 4; omega)) p_44 rfl rfl rfl p_38 (by show 1 ≤ 4; omega) rfl
theorem g44_85 : z_go zP 44 85 L [] q Q ↔ Q (.inl none) q := z_go_rt (len := 1) (x := (0, 0, [])) p_44 rfl rfl rfl
theorem g45_0 : z_go zP 45 0 [some (.ref u), l1, l2] S q Q ↔ z_go zP 45 1 [some (.ref u), l1, l2] (.ref u :: S) q Q := ge_x (len := 1) (x := (0, 0, [])) p_45 rfl rfl
theorem g45_1 : z_go zP 45 1 L (.ref u :: S) q Q ↔ ∃ v, z_get [6] 5 q.1 u = some v ∧ z_go zP 45 4 L (v :: S) q Q := ge_getf (len := 3) (x := (5, 0, [6])) p_45 rfl
theorem g45_4 : z_go zP 45 4 L S q Q ↔ z_go zP 45 5 L (zi 1 :: S) q Q := ge_x (len := 1) (x := (0, 0, [])) p_45 rfl rfl
theorem g45_5 : z_go zP 45 5 L (zi b :: zi a :: S) q Q ↔ z_go zP 45 6 L (zi (a + b) :: S) q Q := ge_iadd (len := 1) (x := (0, 0, [])) p_45 rfl
theorem g45_6 : z_go zP 45 6 [some (.ref u), l1, l2] S q Q ↔ z_go zP 45 7 [some (.ref u), l1, l2] (.ref u :: S) q Q := ge_x (len := 1) (x := (0, 0, [])) p_45 rfl rfl
theorem g45_7 : z_go zP 45 7 L (.ref u :: S) q Q ↔ ∃ v, z_get [6] 6 q.1 u = some v ∧ z_go zP 45 10 L (v :: S) q Q := ge_getf (len := 3) (x := (6, 0, [6])) p_45 rfl
theorem g45_10 : z_go zP 45 10 L (zi b :: zi a :: S) q Q ↔ z_go zP 45 11 L (zi (a + b) :: S) q Q := ge_iadd (len := 1) (x := (0, 0, [])) p_45 rfl
theorem g45_11 : z_go zP 45 11 [l0, l1, l2] (zi a :: S) q Q ↔ z_go zP 45 12 [l0, (zkl l1), some (zi a)] S q Q := (by cases l1 with | none => exact ge_x (len := 1) (x := (0, 0, [])) p_45 rfl rfl | some v => cases v <;> exact ge_x (len := 1) (x := (0, 0, [])) p_45 rfl rfl)
theorem g45_12 : z_go zP 45 12 [l0, some (.ref u), l2] S q Q ↔ z_go zP 45 13 [l0, some (.ref u), l2] (.ref u :: S) q Q := ge_x (len := 1) (x := (0, 0, [])) p_45 rfl rfl
theorem g45_12n : z_go zP 45 12 [l0, some .null, l2] S q Q ↔ z_go zP 45 13 [l0, some .null, l2] (.null :: S) q Q := ge_x (len := 1) (x := (0, 0, [])) p_45 rfl rfl
theorem g45_13 : z_go zP 45 13 L [.ref u] q Q ↔ z_tg q.1 u = some 7 ∧ z_go zP 52 0 [some (.ref u)] [] q (zc 45 16 L [] Q) := ge_vc (len := 3) (pc := 13) (S := [.ref u]) (u := u) (k1 := 52) (A := [.ref u]) (r := []) (tag := 7) (n0 := 0) (zwb_le (by show 0 ≤ 4; omega)) p_45 rfl rfl rfl p_52 (by show 1 ≤ 1; omega) rfl
theorem g45_16 (a1 : -2147483648 ≤ a) (a2 : a < 2147483648) : z_go zP 45 16 L (zi a :: S) q Q ↔ if a = 0 then z_go zP 45 33 L S q Q else z_go zP 45 19 L S q Q := ge_if_eq (len := 3) (x := (0, 0, [])) a1 a2 p_45 rfl rfl
theorem g45_16b {c : Prop} [Decidable c] : z_go zP 45 16 L (zi (bI c) :: S) q Q ↔ if c then z_go zP 45 19 L S q Q else z_go zP 45 33 L S q Q := ge_if_eq_b (len := 3) (x := (0, 0, [])) p_45 rfl rfl
theorem g45_19 : z_go zP 45 19 [l0, l1, some (zi a)] S q Q ↔ z_go zP 45 20 [l0, l1, some (zi a)] (zi a :: S) q Q := ge_x (len := 1) (x := (0, 0, [])) p_45 rfl rfl
theorem g45_20 : z_go zP 45 20 [some (.ref u), l1, l2] S q Q ↔ z_go zP 45 21 [some (.ref u), l1, l2] (.ref u :: S) q Q := ge_x (len := 1) (x := (0, 0, [])) p_45 rfl rfl
theorem g45_21 : z_go zP 45 21 L (.ref u :: S) q Q ↔ ∃ v, z_get [6] 9 q.1 u = some v ∧ z_go zP 45 24 L (v :: S) q Q := ge_getf (len := 3) (x := (9, 0, [6])) p_45 rfl
theorem g45_24 : z_go zP 45 24 [l0, some (.ref u), l2] S q Q ↔ z_go zP 45 25 [l0, some (.ref u), l2] (.ref u :: S) q Q := ge_x (len := 1) (x := (0, 0, [])) p_45 rfl rfl
theorem g45_24n : z_go zP 45 24 [l0, some .null, l2] S q Q ↔ z_go zP 45 25 [l0, some .null, l2] (.null :: S) q Q := ge_x (len := 1) (x := (0, 0, [])) p_45 rfl rfl
theorem g45_25 : z_go zP 45 25 L (.ref u :: S) q Q ↔ ∃ v, z_get [7] 2 q.1 u = some v ∧ z_go zP 45 28 L (v :: S) q Q := ge_getf (len := 3) (x := (2, 0, [7])) p_45 rfl
theorem g45_28 : z_go zP 45 28 L (zi a :: .ref u :: S) q Q ↔ ∃ v, z_at [99, 100] q.1 u (Int32.ofInt a) = some v ∧ z_go zP 45 29 L (v :: S) q Q := ge_iald (len := 1) (x := (0, 0, [])) p_45 rfl
theorem g45_29 : z_go zP 45 29 L [zi x1, zi x0] q Q ↔ z_go zP 155 0 [some (zi x0), some (zi x1)] [] q (zd 45 32 L [] Q) := (z_go_cl (len := 3) (x := (155, 2, [2])) (k1 := 155) (A := [zi x0, zi x1]) (r := []) p_45 rfl rfl rfl rfl (by simp only [z_cl, List.drop]; rw [if_pos]; rfl; exact by first | exact ⟨by decide, (zwb_le (by show 0 ≤ 4; omega))⟩ | exact ⟨by decide, by show 2 ≤ 2; omega, (zwb_le (by show 0 ≤ 4; omega))⟩) p_155 (by show 2 ≤ 2; omega)).trans (ge_bk_d rfl)
theorem g45_32 : z_go zP 45 32 [l0, l1, l2] (zi a :: S) q Q ↔ z_go zP 45 33 [l0, (zkl l1), some (zi a)] S q Q := (by cases l1 with | none => exact ge_x (len := 1) (x := (0, 0, [])) p_45 rfl rfl | some v => cases v <;> exact ge_x (len := 1) (x := (0, 0, [])) p_45 rfl rfl)
theorem g45_33 : z_go zP 45 33 [l0, some (.ref u), l2] S q Q ↔ z_go zP 45 34 [l0, some (.ref u), l2] (.ref u :: S) q Q := ge_x (len := 1) (x := (0, 0, [])) p_45 rfl rfl
theorem g45_33n : z_go zP 45 33 [l0, some .null, l2] S q Q ↔ z_go zP 45 34 [l0, some .null, l2] (.null :: S) q Q := ge_x (len := 1) (x := (0, 0, [])) p_45 rfl rfl
theorem g45_34 : z_go zP 45 34 L [.ref u] q Q ↔ z_tg q.1 u = some 7 ∧ z_go zP 53 0 [some (.ref u)] [] q (zc 45 37 L [] Q) := ge_vc (len := 3) (pc := 34) (S := [.ref u]) (u := u) (k1 := 53) (A := [.ref u]) (r := []) (tag := 7) (n0 := 0) (zwb_le (by show 0 ≤ 4; omega)) p_45 rfl rfl rfl p_53 (by show 1 ≤ 1; omega) rfl
theorem g45_37 (a1 : -2147483648 ≤ a) (a2 : a < 2147483648) : z_go zP 45 37 L (zi a :: S) q Q ↔ if a = 0 then z_go zP 45 54 L S q Q else z_go zP 45 40 L S q Q := ge_if_eq (len := 3) (x := (0, 0, [])) a1 a2 p_45 rfl rfl
theorem g45_37b {c : Prop} [Decidable c] : z_go zP 45 37 L (zi (bI c) :: S) q Q ↔ if c then z_go zP 45 40 L S q Q else z_go zP 45 54 L S q Q := ge_if_eq_b (len := 3) (x := (0, 0, [])) p_45 rfl rfl
theorem g45_40 : z_go zP 45 40 [l0, l1, some (zi a)] S q Q ↔ z_go zP 45 41 [l0, l1, some (zi a)] (zi a :: S) q Q := ge_x (len := 1) (x := (0, 0, [])) p_45 rfl rfl
theorem g45_41 : z_go zP 45 41 [some (.ref u), l1, l2] S q Q ↔ z_go zP 45 42 [some (.ref u), l1, l2] (.ref u :: S) q Q := ge_x (len := 1) (x := (0, 0, [])) p_45 rfl rfl
theorem g45_42 : z_go zP 45 42 L (.ref u :: S) q Q ↔ ∃ v, z_get [6] 9 q.1 u = some v ∧ z_go zP 45 45 L (v :: S) q Q := ge_getf (len := 3) (x := (9, 0, [6])) p_45 rfl
theorem g45_45 : z_go zP 45 45 [l0, some (.ref u), l2] S q Q ↔ z_go zP 45 46 [l0, some (.ref u), l2] (.ref u :: S) q Q := ge_x (len := 1) (x := (0, 0, [])) p_45 rfl rfl
theorem g45_45n : z_go zP 45 45 [l0, some .null, l2] S q Q ↔ z_go zP 45 46 [l0, some .null, l2] (.null :: S) q Q := ge_x (len := 1) (x := (0, 0, [])) p_45 rfl rfl
theorem g45_46 : z_go zP 45 46 L (.ref u :: S) q Q ↔ ∃ v, z_get [7] 3 q.1 u = some v ∧ z_go zP 45 49 L (v :: S) q Q := ge_getf (len := 3) (x := (3, 0, [7])) p_45 rfl
theorem g45_49 : z_go zP 45 49 L (zi a :: .ref u :: S) q Q ↔ ∃ v, z_at [99, 100] q.1 u (Int32.ofInt a) = some v ∧ z_go zP 45 50 L (v :: S) q Q := ge_iald (len := 1) (x := (0, 0, [])) p_45 rfl
theorem g45_50 : z_go zP 45 50 L [zi x1, zi x0] q Q ↔ z_go zP 155 0 [some (zi x0), some (zi x1)] [] q (zd 45 53 L [] Q) := (z_go_cl (len := 3) (x := (155, 2, [2])) (k1 := 155) (A := [zi x0, zi x1]) (r := []) p_45 rfl rfl rfl rfl (by simp only [z_cl, List.drop]; rw [if_pos]; rfl; exact by first | exact ⟨by decide, (zwb_le (by show 0 ≤ 4; omega))⟩ | exact ⟨by decide, by show 2 ≤ 2; omega, (zwb_le (by show 0 ≤ 4; omega))⟩) p_155 (by show 2 ≤ 2; omega)).trans (ge_bk_d rfl)
theorem g45_53 : z_go zP 45 53 [l0, l1, l2] (zi a :: S) q Q ↔ z_go zP 45 54 [l0, (zkl l1), some (zi a)] S q Q := (by cases l1 with | none => exact ge_x (len := 1) (x := (0, 0, [])) p_45 rfl rfl | some v => cases v <;> exact ge_x (len := 1) (x := (0, 0, [])) p_45 rfl rfl)
theorem g45_54 : z_go zP 45 54 [l0, l1, some (zi a)] S q Q ↔ z_go zP 45 55 [l0, l1, some (zi a)] (zi a :: S) q Q := ge_x (len := 1) (x := (0, 0, [])) p_45 rfl rfl
theorem g45_55 : z_go zP 45 55 L [zi a] q Q ↔ Q (.inl (some (zi a))) q := ge_rti (len := 1) (x := (0, 0, [])) p_45 rfl rfl
theorem g46_0 : z_go zP 46 0 [some (.ref u), l1] S q Q ↔ z_go zP 46 1 [some (.ref u), l1] (.ref u :: S) q Q := ge_x (len := 1) (x := (0, 0, [])) p_46 rfl rfl
theorem g46_1 : z_go zP 46 1 L (.ref u :: S) q Q ↔ z_go zP 46 2 L (.ref u :: .ref u :: S) q Q := ge_x (len := 1) (x := (0, 0, [])) p_46 rfl rfl
theorem g46_1i : z_go zP 46 1 L (zi a :: S) q Q ↔ z_go zP 46 2 L (zi a :: zi a :: S) q Q := ge_x (len := 1) (x := (0, 0, [])) p_46 rfl rfl
theorem g46_2 : z_go zP 46 2 L (.ref u :: S) q Q ↔ ∃ v, z_get [6] 7 q.1 u = some v ∧ z_go zP 46 5 L (v :: S) q Q := ge_getf (len := 3) (x := (7, 0, [6])) p_46 rfl
theorem g46_5 : z_go zP 46 5 [some (.ref u), l1] S q Q ↔ z_go zP 46 6 [some (.ref u), l1] (.ref u :: S) q Q := ge_x (len := 1) (x := (0, 0, [])) p_46 rfl rfl
theorem g46_6 : z_go zP 46 6 L (.ref u :: S) q Q ↔ ∃ v, z_get [6] 6 q.1 u = some v ∧ z_go zP 46 9 L (v :: S) q Q := ge_getf (len := 3) (x := (6, 0, [6])) p_46 rfl
theorem g46_9 : z_go zP 46 9 L (zi b :: zi a :: S) q Q ↔ z_go zP 46 10 L (zi (a + b) :: S) q Q := ge_iadd (len := 1) (x := (0, 0, [])) p_46 rfl
theorem g46_10 : z_go zP 46 10 L (v :: .ref u :: S) q Q ↔ ∃ q1, z_put [6] 7 q u v = some q1 ∧ z_go zP 46 13 L S q1 Q := ge_putf (len := 3) (x := (7, 0, [6])) p_46 rfl
theorem g46_13 : z_go zP 46 13 [some (.ref u), l1] S q Q ↔ z_go zP 46 14 [some (.ref u), l1] (.ref u :: S) q Q := ge_x (len := 1) (x := (0, 0, [])) p_46 rfl rfl
theorem g46_14 : z_go zP 46 14 L (.ref u :: S) q Q ↔ z_go zP 46 15 L (.ref u :: .ref u :: S) q Q := ge_x (len := 1) (x := (0, 0, [])) p_46 rfl rfl
theorem g46_14i : z_go zP 46 14 L (zi a :: S) q Q ↔ z_go zP 46 15 L (zi a :: zi a :: S) q Q := ge_x (len := 1) (x := (0, 0, [])) p_46 rfl rfl
theorem g46_15 : z_go zP 46 15 L (.ref u :: S) q Q ↔ ∃ v, z_get [6] 8 q.1 u = some v ∧ z_go zP 46 18 L (v :: S) q Q := ge_getf (len := 3) (x := (8, 0, [6])) p_46 rfl
theorem g46_18 : z_go zP 46 18 [some (.ref u), l1] S q Q ↔ z_go zP 46 19 [some (.ref u), l1] (.ref u :: S) q Q := ge_x (len := 1) (x := (0, 0, [])) p_46 rfl rfl
theorem g46_19 : z_go zP 46 19 L (.ref u :: S) q Q ↔ ∃ v, z_get [6] 4 q.1 u = some v ∧ z_go zP 46 22 L (v :: S) q Q := ge_getf (len := 3) (x := (4, 0, [6])) p_46 rfl
theorem g46_22 : z_go zP 46 22 [some (.ref u), l1] S q Q ↔ z_go zP 46 23 [some (.ref u), l1] (.ref u :: S) q Q := ge_x (len := 1) (x := (0, 0, [])) p_46 rfl rfl
theorem g46_23 : z_go zP 46 23 L (.ref u :: S) q Q ↔ ∃ v, z_get [6] 5 q.1 u = some v ∧ z_go zP 46 26 L (v :: S) q Q := ge_getf (len := 3) (x := (5, 0, [6])) p_46 rfl
theorem g46_26 : z_go zP 46 26 L (zi b :: zi a :: S) q Q ↔ z_go zP 46 27 L (zi (a - b) :: S) q Q := ge_isub (len := 1) (x := (0, 0, [])) p_46 rfl
theorem g46_27 : z_go zP 46 27 L S q Q ↔ z_go zP 46 28 L (zi 1 :: S) q Q := ge_x (len := 1) (x := (0, 0, [])) p_46 rfl rfl
theorem g46_28 : z_go zP 46 28 L (zi b :: zi a :: S) q Q ↔ z_go zP 46 29 L (zi (a - b) :: S) q Q := ge_isub (len := 1) (x := (0, 0, [])) p_46 rfl
theorem g46_29 : z_go zP 46 29 [some (.ref u), l1] S q Q ↔ z_go zP 46 30 [some (.ref u), l1] (.ref u :: S) q Q := ge_x (len := 1) (x := (0, 0, [])) p_46 rfl rfl
theorem g46_30 : z_go zP 46 30 L (.ref u :: S) q Q ↔ ∃ v, z_get [6] 6 q.1 u = some v ∧ z_go zP 46 33 L (v :: S) q Q := ge_getf (len := 3) (x := (6, 0, [6])) p_46 rfl
theorem g46_33 : z_go zP 46 33 L (zi b :: zi a :: S) q Q ↔ z_go zP 46 34 L (zi (a - b) :: S) q Q := ge_isub (len := 1) (x := (0, 0, [])) p_46 rfl
theorem g46_34 : z_go zP 46 34 L (zi b :: zi a :: S) q Q ↔ z_go zP 46 35 L (zi (a + b) :: S) q Q := ge_iadd (len := 1) (x := (0, 0, [])) p_46 rfl
theorem g46_35 : z_go zP 46 35 L (v :: .ref u :: S) q Q ↔ ∃ q1, z_put [6] 8 q u v = some q1 ∧ z_go zP 46 38 L S q1 Q := ge_putf (len := 3) (x := (8, 0, [6])) p_46 rfl
theorem g46_38 : z_go zP 46 38 [some (.ref u), l1] S q Q ↔ z_go zP 46 39 [some (.ref u), l1] (.ref u :: S) q Q := ge_x (len := 1) (x := (0, 0, [])) p_46 rfl rfl
theorem g46_39 : z_go zP 46 39 [some (.ref u), l1] S q Q ↔ z_go zP 46 40 [some (.ref u), l1] (.ref u :: S) q Q := ge_x (len := 1) (x := (0, 0, [])) p_46 rfl rfl
theorem g46_40 : z_go zP 46 40 L (.ref u :: S) q Q ↔ ∃ v, z_get [6] 4 q.1 u = some v ∧ z_go zP 46 43 L (v :: S) q Q := ge_getf (len := 3) (x := (4, 0, [6])) p_46 rfl
theorem g46_43 : z_go zP 46 43 L (v :: .ref u :: S) q Q ↔ ∃ q1, z_put [6] 5 q u v = some q1 ∧ z_go zP 46 46 L S q1 Q := ge_putf (len := 3) (x := (5, 0, [6])) p_46 rfl
theorem g46_46 : z_go zP 46 46 [some (.ref u), l1] S q Q ↔ z_go zP 46 47 [some (.ref u), l1] (.ref u :: S) q Q := ge_x (len := 1) (x := (0, 0, [])) p_46 rfl rfl
theorem g46_47 : z_go zP 46 47 [l0, some (.ref u)] S q Q ↔ z_go zP 46 48 [l0, some (.ref u)] (.ref u :: S) q Q := ge_x (len := 1) (x := (0, 0, [])) p_46 rfl rfl
theorem g46_47n : z_go zP 46 47 [l0, some .null] S q Q ↔ z_go zP 46 48 [l0, some .null] (.null :: S) q Q := ge_x (len := 1) (x := (0, 0, [])) p_46 rfl rfl
theorem g46_48 : z_go zP 46 48 [some (.ref u), l1] S q Q ↔ z_go zP 46 49 [some (.ref u), l1] (.ref u :: S) q Q := ge_x (len := 1) (x := (0, 0, [])) p_46 rfl rfl
theorem g46_49 : z_go zP 46 49 L (.ref u :: S) q Q ↔ ∃ v, z_get [6] 2 q.1 u = some v ∧ z_go zP 46 52 L (v :: S) q Q := ge_getf (len := 3) (x := (2, 0, [6])) p_46 rfl
theorem g46_52 : z_go zP 46 52 L (.ref u :: S) q Q ↔ ∃ v, z_get [5] 2 q.1 u = some v ∧ z_go zP 46 55 L (v :: S) q Q := ge_getf (len := 3) (x := (2, 0, [5])) p_46 rfl
theorem g46_55 : z_go zP 46 55 [l0, some (.ref u)] S q Q ↔ z_go zP 46 56 [l0, some (.ref u)] (.ref u :: S) q Q := ge_x (len := 1) (x := (0, 0, [])) p_46 rfl rfl
theorem g46_55n : z_go zP 46 55 [l0, some .null] S q Q ↔ z_go zP 46 56 [l0, some .null] (.null :: S) q Q := ge_x (len := 1) (x := (0, 0, [])) p_46 rfl rfl
theorem g46_56 : z_go zP 46 56 L (.ref u :: S) q Q ↔ ∃ v, z_get [7] 2 q.1 u = some v ∧ z_go zP 46 59 L (v :: S) q Q := ge_getf (len := 3) (x := (2, 0, [7])) p_46 rfl
theorem g46_59 : z_go zP 46 59 L (zi a :: .ref u :: S) q Q ↔ ∃ v, z_at [101] q.1 u (Int32.ofInt a) = some v ∧ z_go zP 46 60 L (v :: S) q Q := ge_lald (len := 1) (x := (0, 0, [])) p_46 rfl
theorem g46_60 : z_go zP 46 60 L [zl x0, .ref u, r0] q Q ↔ z_tg q.1 u = some 7 ∧ z_go zP 54 0 [some (.ref u), some (zl x0), none] [] q (zc 46 63 L [r0] Q) := ge_vc (len := 3) (pc := 60) (S := [zl x0, .ref u, r0]) (u := u) (k1 := 54) (A := [.ref u, zl x0]) (r := [r0]) (tag := 7) (n0 := 1) (zwb_le (by show 1 ≤ 4; omega)) p_46 rfl rfl rfl p_54 (by show 3 ≤ 3; omega) rfl
theorem g46_63 (a1 : -2147483648 ≤ a) (a2 : a < 2147483648) : z_go zP 46 63 L (zi a :: S) q Q ↔ if a = 0 then z_go zP 46 76 L S q Q else z_go zP 46 66 L S q Q := ge_if_eq (len := 3) (x := (0, 0, [])) a1 a2 p_46 rfl rfl
theorem g46_63b {c : Prop} [Decidable c] : z_go zP 46 63 L (zi (bI c) :: S) q Q ↔ if c then z_go zP 46 66 L S q Q else z_go zP 46 76 L S q Q := ge_if_eq_b (len := 3) (x := (0, 0, [])) p_46 rfl rfl
theorem g46_66 : z_go zP 46 66 [some (.ref u), l1] S q Q ↔ z_go zP 46 67 [some (.ref u), l1] (.ref u :: S) q Q := ge_x (len := 1) (x := (0, 0, [])) p_46 rfl rfl
theorem g46_67 : z_go zP 46 67 L (.ref u :: S) q Q ↔ ∃ v, z_get [6] 1 q.1 u = some v ∧ z_go zP 46 70 L (v :: S) q Q := ge_getf (len := 3) (x := (1, 0, [6])) p_46 rfl
theorem g46_70 : z_go zP 46 70 L (.ref u :: S) q Q ↔ ∃ v, z_get [0] 5 q.1 u = some v ∧ z_go zP 46 73 L (v :: S) q Q := ge_getf (len := 3) (x := (5, 0, [0])) p_46 rfl
theorem g46_73 : z_go zP 46 73 L S q Q ↔ z_go zP 46 77 L S q Q := ge_to (len := 3) (x := (0, 0, [])) p_46 rfl rfl rfl
theorem g46_76 : z_go zP 46 76 L S q Q ↔ z_go zP 46 77 L (zi 0 :: S) q Q := ge_x (len := 1) (x := (0, 0, [])) p_46 rfl rfl
theorem g46_77 : z_go zP 46 77 L (v :: .ref u :: S) q Q ↔ ∃ q1, z_put [6] 6 q u v = some q1 ∧ z_go zP 46 80 L S q1 Q := ge_putf (len := 3) (x := (6, 0, [6])) p_46 rfl
theorem g46_80 : z_go zP 46 80 [l0, some (.ref u)] S q Q ↔ z_go zP 46 81 [l0, some (.ref u)] (.ref u :: S) q Q := ge_x (len := 1) (x := (0, 0, [])) p_46 rfl rfl
theorem g46_80n : z_go zP 46 80 [l0, some .null] S q Q ↔ z_go zP 46 81 [l0, some .null] (.null :: S) q Q := ge_x (len := 1) (x := (0, 0, [])) p_46 rfl rfl
theorem g46_81 : z_go zP 46 81 L [.ref u] q Q ↔ z_tg q.1 u = some 7 ∧ z_go zP 51 0 [some (.ref u)] [] q (zc 46 84 L [] Q) := ge_vc (len := 3) (pc := 81) (S := [.ref u]) (u := u) (k1 := 51) (A := [.ref u]) (r := []) (tag := 7) (n0 := 0) (zwb_le (by show 0 ≤ 4; omega)) p_46 rfl rfl rfl p_51 (by show 1 ≤ 1; omega) rfl
theorem g46_84 (a1 : -2147483648 ≤ a) (a2 : a < 2147483648) : z_go zP 46 84 L (zi a :: S) q Q ↔ if a = 0 then z_go zP 46 128 L S q Q else z_go zP 46 87 L S q Q := ge_if_eq (len := 3) (x := (0, 0, [])) a1 a2 p_46 rfl rfl
theorem g46_84b {c : Prop} [Decidable c] : z_go zP 46 84 L (zi (bI c) :: S) q Q ↔ if c then z_go zP 46 87 L S q Q else z_go zP 46 128 L S q Q := ge_if_eq_b (len := 3) (x := (0, 0, [])) p_46 rfl rfl
theorem g46_87 : z_go zP 46 87 [some (.ref u), l1] S q Q ↔ z_go zP 46 88 [some (.ref u), l1] (.ref u :: S) q Q := ge_x (len := 1) (x := (0, 0, [])) p_46 rfl rfl
theorem g46_88 : z_go zP 46 88 L (.ref u :: S) q Q ↔ ∃ v, z_get [6] 9 q.1 u = some v ∧ z_go zP 46 91 L (v :: S) q Q := ge_getf (len := 3) (x := (9, 0, [6])) p_46 rfl
theorem g46_91 : z_go zP 46 91 [l0, some (.ref u)] S q Q ↔ z_go zP 46 92 [l0, some (.ref u)] (.ref u :: S) q Q := ge_x (len := 1) (x := (0, 0, [])) p_46 rfl rfl
theorem g46_91n : z_go zP 46 91 [l0, some .null] S q Q ↔ z_go zP 46 92 [l0, some .null] (.null :: S) q Q := ge_x (len := 1) (x := (0, 0, [])) p_46 rfl rfl
theorem g46_92 : z_go zP 46 92 L (.ref u :: S) q Q ↔ ∃ v, z_get [7] 1 q.1 u = some v ∧ z_go zP 46 95 L (v :: S) q Q := ge_getf (len := 3) (x := (1, 0, [7])) p_46 rfl
theorem g46_95 : z_go zP 46 95 [some (.ref u), l1] S q Q ↔ z_go zP 46 96 [some (.ref u), l1] (.ref u :: S) q Q := ge_x (len := 1) (x := (0, 0, [])) p_46 rfl rfl
theorem g46_96 : z_go zP 46 96 L (.ref u :: S) q Q ↔ ∃ v, z_get [6] 4 q.1 u = some v ∧ z_go zP 46 99 L (v :: S) q Q := ge_getf (len := 3) (x := (4, 0, [6])) p_46 rfl
theorem g46_99 : z_go zP 46 99 L S q Q ↔ z_go zP 46 100 L (zi 1 :: S) q Q := ge_x (len := 1) (x := (0, 0, [])) p_46 rfl rfl
theorem g46_100 : z_go zP 46 100 L (zi b :: zi a :: S) q Q ↔ z_go zP 46 101 L (zi (a + b) :: S) q Q := ge_iadd (len := 1) (x := (0, 0, [])) p_46 rfl
theorem g46_101 : z_go zP 46 101 [l0, some (.ref u)] S q Q ↔ z_go zP 46 102 [l0, some (.ref u)] (.ref u :: S) q Q := ge_x (len := 1) (x := (0, 0, [])) p_46 rfl rfl
theorem g46_101n : z_go zP 46 101 [l0, some .null] S q Q ↔ z_go zP 46 102 [l0, some .null] (.null :: S) q Q := ge_x (len := 1) (x := (0, 0, [])) p_46 rfl rfl
theorem g46_102 : z_go zP 46 102 L (.ref u :: S) q Q ↔ ∃ v, z_get [7] 0 q.1 u = some v ∧ z_go zP 46 105 L (v :: S) q Q := ge_getf (len := 3) (x := (0, 0, [7])) p_46 rfl
theorem g46_105 : z_go zP 46 105 L S q Q ↔ z_go zP 46 106 L (zi 4 :: S) q Q := ge_x (len := 1) (x := (0, 0, [])) p_46 rfl rfl
theorem g46_106 (a1 : -2147483648 ≤ a) (a2 : a < 2147483648) (b1 : -2147483648 ≤ b) (b2 : b < 2147483648) : z_go zP 46 106 L (zi b :: zi a :: S) q Q ↔ if ¬ a = b then z_go zP 46 119 L S q Q else z_go zP 46 109 L S q Q := ge_ic_ne (len := 3) (x := (0, 0, [])) a1 a2 b1 b2 p_46 rfl rfl
theorem g46_109 : z_go zP 46 109 [some (.ref u), l1] S q Q ↔ z_go zP 46 110 [some (.ref u), l1] (.ref u :: S) q Q := ge_x (len := 1) (x := (0, 0, [])) p_46 rfl rfl
theorem g46_110 : z_go zP 46 110 L (.ref u :: S) q Q ↔ ∃ v, z_get [6] 1 q.1 u = some v ∧ z_go zP 46 113 L (v :: S) q Q := ge_getf (len := 3) (x := (1, 0, [6])) p_46 rfl
theorem g46_113 : z_go zP 46 113 L (.ref u :: S) q Q ↔ ∃ v, z_get [0] 4 q.1 u = some v ∧ z_go zP 46 116 L (v :: S) q Q := ge_getf (len := 3) (x := (4, 0, [0])) p_46 rfl
theorem g46_116 : z_go zP 46 116 L S q Q ↔ z_go zP 46 126 L S q Q := ge_to (len := 3) (x := (0, 0, [])) p_46 rfl rfl rfl
theorem g46_119 : z_go zP 46 119 [some (.ref u), l1] S q Q ↔ z_go zP 46 120 [some (.ref u), l1] (.ref u :: S) q Q := ge_x (len := 1) (x := (0, 0, [])) p_46 rfl rfl
theorem g46_120 : z_go zP 46 120 L (.ref u :: S) q Q ↔ ∃ v, z_get [6] 1 q.1 u = some v ∧ z_go zP 46 123 L (v :: S) q Q := ge_getf (len := 3) (x := (1, 0, [6])) p_46 rfl
theorem g46_123 : z_go zP 46 123 L (.ref u :: S) q Q ↔ ∃ v, z_get [0] 3 q.1 u = some v ∧ z_go zP 46 126 L (v :: S) q Q := ge_getf (len := 3) (x := (3, 0, [0])) p_46 rfl
theorem g46_126 : z_go zP 46 126 L (zi b :: zi a :: S) q Q ↔ z_go zP 46 127 L (zi (a + b) :: S) q Q := ge_iadd (len := 1) (x := (0, 0, [])) p_46 rfl
theorem g46_127 : z_go zP 46 127 L (zi b :: zi a :: .ref u :: S) q Q ↔ ∃ q1, z_st 100 q u (Int32.ofInt a) (zi b) = some q1 ∧ z_go zP 46 128 L S q1 Q := ge_iast (len := 1) (x := (0, 0, [])) p_46 rfl
theorem g46_128 : z_go zP 46 128 [some (.ref u), l1] S q Q ↔ z_go zP 46 129 [some (.ref u), l1] (.ref u :: S) q Q := ge_x (len := 1) (x := (0, 0, [])) p_46 rfl rfl
theorem g46_129 : z_go zP 46 129 L (.ref u :: S) q Q ↔ ∃ v, z_get [6] 10 q.1 u = some v ∧ z_go zP 46 132 L (v :: S) q Q := ge_getf (len := 3) (x := (10, 0, [6])) p_46 rfl
theorem g46_132 : z_go zP 46 132 [some (.ref u), l1] S q Q ↔ z_go zP 46 133 [some (.ref u), l1] (.ref u :: S) q Q := ge_x (len := 1) (x := (0, 0, [])) p_46 rfl rfl
theorem g46_133 : z_go zP 46 133 L (.ref u :: S) q Q ↔ ∃ v, z_get [6] 2 q.1 u = some v ∧ z_go zP 46 136 L (v :: S) q Q := ge_getf (len := 3) (x := (2, 0, [6])) p_46 rfl
theorem g46_136 : z_go zP 46 136 L (.ref u :: S) q Q ↔ ∃ v, z_get [5] 5 q.1 u = some v ∧ z_go zP 46 139 L (v :: S) q Q := ge_getf (len := 3) (x := (5, 0, [5])) p_46 rfl
theorem g46_139 : z_go zP 46 139 L S q Q ↔ z_go zP 46 141 L (zi 15 :: S) q Q := ge_x (len := 2) (x := (0, 0, [])) p_46 rfl rfl
theorem g46_141 : z_go zP 46 141 L (zi b :: zi a :: S) q Q ↔ z_go zP 46 142 L (zi (iand a b) :: S) q Q := ge_iand (len := 1) (x := (0, 0, [])) p_46 rfl
theorem g46_142 : z_go zP 46 142 [some (.ref u), l1] S q Q ↔ z_go zP 46 143 [some (.ref u), l1] (.ref u :: S) q Q := ge_x (len := 1) (x := (0, 0, [])) p_46 rfl rfl
theorem g46_143 : z_go zP 46 143 L (.ref u :: S) q Q ↔ ∃ v, z_get [6] 4 q.1 u = some v ∧ z_go zP 46 146 L (v :: S) q Q := ge_getf (len := 3) (x := (4, 0, [6])) p_46 rfl
theorem g46_146 : z_go zP 46 146 [some (.ref u), l1] S q Q ↔ z_go zP 46 147 [some (.ref u), l1] (.ref u :: S) q Q := ge_x (len := 1) (x := (0, 0, [])) p_46 rfl rfl
theorem g46_147 : z_go zP 46 147 L (.ref u :: S) q Q ↔ ∃ v, z_get [6] 1 q.1 u = some v ∧ z_go zP 46 150 L (v :: S) q Q := ge_getf (len := 3) (x := (1, 0, [6])) p_46 rfl
theorem g46_150 : z_go zP 46 150 L (.ref u :: S) q Q ↔ ∃ v, z_get [0] 2 q.1 u = some v ∧ z_go zP 46 153 L (v :: S) q Q := ge_getf (len := 3) (x := (2, 0, [0])) p_46 rfl
theorem g46_153 : z_go zP 46 153 L (zi b :: zi a :: S) q Q ↔ z_go zP 46 154 L (zi (a + b) :: S) q Q := ge_iadd (len := 1) (x := (0, 0, [])) p_46 rfl
theorem g46_154 : z_go zP 46 154 L (zi b :: zi a :: .ref u :: S) q Q ↔ ∃ q1, z_st 100 q u (Int32.ofInt a) (zi b) = some q1 ∧ z_go zP 46 155 L S q1 Q := ge_iast (len := 1) (x := (0, 0, [])) p_46 rfl
theorem g46_155 : z_go zP 46 155 [some (.ref u), l1] S q Q ↔ z_go zP 46 156 [some (.ref u), l1] (.ref u :: S) q Q := ge_x (len := 1) (x := (0, 0, [])) p_46 rfl rfl
theorem g46_156 : z_go zP 46 156 L (.ref u :: S) q Q ↔ ∃ v, z_get [6] 2 q.1 u = some v ∧ z_go zP 46 159 L (v :: S) q Q := ge_getf (len := 3) (x := (2, 0, [6])) p_46 rfl
theorem g46_159 : z_go zP 46 159 L [.ref u] q Q ↔ z_tg q.1 u = some 5 ∧ z_go zP 38 0 [some (.ref u), none, none, none] [] q (zc 46 162 L [] Q) := ge_vc (len := 3) (pc := 159) (S := [.ref u]) (u := u) (k1 := 38) (A := [.ref u]) (r := []) (tag := 5) (n0 := 0) (zwb_le (by show 0 ≤ 4; omega)) p_46 rfl rfl rfl p_38 (by show 1 ≤ 4; omega) rfl
theorem g46_162 : z_go zP 46 162 L [] q Q ↔ Q (.inl none) q := z_go_rt (len := 1) (x := (0, 0, [])) p_46 rfl rfl rfl
theorem g47_0 : z_go zP 47 0 [l0, some (zi a)] S q Q ↔ z_go zP 47 1 [l0, some (zi a)] (zi a :: S) q Q := ge_x (len := 1) (x := (0, 0, [])) p_47 rfl rfl
theorem g47_1_2 : z_go zP 47 1 L (zi 2 :: S) q Q ↔ z_go zP 47 28 L S q Q := ge_to (len := 27) (x := (0, 0, [])) (o := 27) p_47 rfl rfl (by unfold zi; simp only [z_nx]; rw [i_to (by decide) (by decide), if_neg (by decide)]; rfl)
theorem g47_1_3 : z_go zP 47 1 L (zi 3 :: S) q Q ↔ z_go zP 47 33 L S q Q := ge_to (len := 27) (x := (0, 0, [])) (o := 32) p_47 rfl rfl (by unfold zi; simp only [z_nx]; rw [i_to (by decide) (by decide), if_neg (by decide)]; rfl)
theorem g47_1_4 : z_go zP 47 1 L (zi 4 :: S) q Q ↔ z_go zP 47 41 L S q Q := ge_to (len := 27) (x := (0, 0, [])) (o := 40) p_47 rfl rfl (by unfold zi; simp only [z_nx]; rw [i_to (by decide) (by decide), if_neg (by decide)]; rfl)
theorem g47_1_d (a1 : -2147483648 ≤ a) (a2 : a < 2147483648) (h : a < 2 ∨ 4 < a) : z_go zP 47 1 L (zi a :: S) q Q ↔ z_go zP 47 46 L S q Q := ge_to (len := 27) (x := (0, 0, [])) p_47 rfl rfl (by unfold zi; show (if _ ∨ _ then _ else _) = _; rw [i_to a1 a2, if_pos h])
theorem g47_28 : z_go zP 47 28 [some (.ref u), l1] S q Q ↔ z_go zP 47 29 [some (.ref u), l1] (.ref u :: S) q Q := ge_x (len := 1) (x := (0, 0, [])) p_47 rfl rfl
theorem g47_29 : z_go zP 47 29 L (.ref u :: S) q Q ↔ ∃ v, z_get [6] 4 q.1 u = some v ∧ z_go zP 47 32 L (v :: S) q Q := ge_getf (len := 3) (x := (4, 0, [6])) p_47 rfl
theorem g47_32 : z_go zP 47 32 L [zi a] q Q ↔ Q (.inl (some (zi a))) q := ge_rti (len := 1) (x := (0, 0, [])) p_47 rfl rfl
theorem g47_33 : z_go zP 47 33 [some (.ref u), l1] S q Q ↔ z_go zP 47 34 [some (.ref u), l1] (.ref u :: S) q Q := ge_x (len := 1) (x := (0, 0, [])) p_47 rfl rfl
theorem g47_34 : z_go zP 47 34 L (.ref u :: S) q Q ↔ ∃ v, z_get [6] 2 q.1 u = some v ∧ z_go zP 47 37 L (v :: S) q Q := ge_getf (len := 3) (x := (2, 0, [6])) p_47 rfl
theorem g47_37 : z_go zP 47 37 L (.ref u :: S) q Q ↔ ∃ v, z_get [5] 5 q.1 u = some v ∧ z_go zP 47 40 L (v :: S) q Q := ge_getf (len := 3) (x := (5, 0, [5])) p_47 rfl
theorem g47_40 : z_go zP 47 40 L [zi a] q Q ↔ Q (.inl (some (zi a))) q := ge_rti (len := 1) (x := (0, 0, [])) p_47 rfl rfl
theorem g47_41 : z_go zP 47 41 [some (.ref u), l1] S q Q ↔ z_go zP 47 42 [some (.ref u), l1] (.ref u :: S) q Q := ge_x (len := 1) (x := (0, 0, [])) p_47 rfl rfl
theorem g47_42 : z_go zP 47 42 L (.ref u :: S) q Q ↔ ∃ v, z_get [6] 7 q.1 u = some v ∧ z_go zP 47 45 L (v :: S) q Q := ge_getf (len := 3) (x := (7, 0, [6])) p_47 rfl
theorem g47_45 : z_go zP 47 45 L [zi a] q Q ↔ Q (.inl (some (zi a))) q := ge_rti (len := 1) (x := (0, 0, [])) p_47 rfl rfl
theorem g47_46 : z_go zP 47 46 [some (.ref u), l1] S q Q ↔ z_go zP 47 47 [some (.ref u), l1] (.ref u :: S) q Q := ge_x (len := 1) (x := (0, 0, [])) p_47 rfl rfl
theorem g47_47 : z_go zP 47 47 L (.ref u :: S) q Q ↔ ∃ v, z_get [6] 8 q.1 u = some v ∧ z_go zP 47 50 L (v :: S) q Q := ge_getf (len := 3) (x := (8, 0, [6])) p_47 rfl
theorem g47_50 : z_go zP 47 50 L [zi a] q Q ↔ Q (.inl (some (zi a))) q := ge_rti (len := 1) (x := (0, 0, [])) p_47 rfl rfl
theorem g48_0 : z_go zP 48 0 [some (.ref u), l1] S q Q ↔ z_go zP 48 1 [some (.ref u), l1] (.ref u :: S) q Q := ge_x (len := 1) (x := (0, 0, [])) p_48 rfl rfl
theorem g48_1 : z_go zP 48 1 L [.ref u] q Q ↔ z_go zP 48 4 L [] q Q := ge_oin (len := 3) (x := (0, 7, [])) (by show 0 ≤ 4; omega) rfl p_48 rfl
theorem g48_4 : z_go zP 48 4 [some (.ref u), l1] S q Q ↔ z_go zP 48 5 [some (.ref u), l1] (.ref u :: S) q Q := ge_x (len := 1) (x := (0, 0, [])) p_48 rfl rfl
theorem g48_5 : z_go zP 48 5 [l0, some (zi a)] S q Q ↔ z_go zP 48 6 [l0, some (zi a)] (zi a :: S) q Q := ge_x (len := 1) (x := (0, 0, [])) p_48 rfl rfl
theorem g48_6 : z_go zP 48 6 L (v :: .ref u :: S) q Q ↔ ∃ q1, z_put [0, 2, 3, 4, 5, 6] 0 q u v = some q1 ∧ z_go zP 48 9 L S q1 Q := ge_putf (len := 3) (x := (0, 0, [0, 2, 3, 4, 5, 6])) p_48 rfl
theorem g48_9 : z_go zP 48 9 L [] q Q ↔ Q (.inl none) q := z_go_rt (len := 1) (x := (0, 0, [])) p_48 rfl rfl rfl
theorem g49_0 : z_go zP 49 0 [some (.ref u), l1, l2, l3, l4, l5] S q Q ↔ z_go zP 49 1 [some (.ref u), l1, l2, l3, l4, l5] (.ref u :: S) q Q := ge_x (len := 1) (x := (0, 0, [])) p_49 rfl rfl
theorem g49_1 : z_go zP 49 1 L [.ref u] q Q ↔ z_go zP 49 4 L [] q Q := ge_oin (len := 3) (x := (0, 7, [])) (by show 0 ≤ 4; omega) rfl p_49 rfl
theorem g49_4 : z_go zP 49 4 [some (.ref u), l1, l2, l3, l4, l5] S q Q ↔ z_go zP 49 5 [some (.ref u), l1, l2, l3, l4, l5] (.ref u :: S) q Q := ge_x (len := 1) (x := (0, 0, [])) p_49 rfl rfl
theorem g49_5 : z_go zP 49 5 [l0, some (zi a), l2, l3, l4, l5] S q Q ↔ z_go zP 49 6 [l0, some (zi a), l2, l3, l4, l5] (zi a :: S) q Q := ge_x (len := 1) (x := (0, 0, [])) p_49 rfl rfl
theorem g49_6 : z_go zP 49 6 L (v :: .ref u :: S) q Q ↔ ∃ q1, z_put [7] 0 q u v = some q1 ∧ z_go zP 49 9 L S q1 Q := ge_putf (len := 3) (x := (0, 0, [7])) p_49 rfl
theorem g49_9 : z_go zP 49 9 [some (.ref u), l1, l2, l3, l4, l5] S q Q ↔ z_go zP 49 10 [some (.ref u), l1, l2, l3, l4, l5] (.ref u :: S) q Q := ge_x (len := 1) (x := (0, 0, [])) p_49 rfl rfl
theorem g49_10 : z_go zP 49 10 [l0, l1, some (zi a), l3, l4, l5] S q Q ↔ z_go zP 49 11 [l0, l1, some (zi a), l3, l4, l5] (zi a :: S) q Q := ge_x (len := 1) (x := (0, 0, [])) p_49 rfl rfl
theorem g49_11 : z_go zP 49 11 L (v :: .ref u :: S) q Q ↔ ∃ q1, z_put [7] 1 q u v = some q1 ∧ z_go zP 49 14 L S q1 Q := ge_putf (len := 3) (x := (1, 0, [7])) p_49 rfl
theorem g49_14 : z_go zP 49 14 [some (.ref u), l1, l2, l3, l4, l5] S q Q ↔ z_go zP 49 15 [some (.ref u), l1, l2, l3, l4, l5] (.ref u :: S) q Q := ge_x (len := 1) (x := (0, 0, [])) p_49 rfl rfl
theorem g49_15 : z_go zP 49 15 [l0, l1, l2, some (zi a), l4, l5] S q Q ↔ z_go zP 49 16 [l0, l1, l2, some (zi a), l4, l5] (zi a :: S) q Q := ge_x (len := 1) (x := (0, 0, [])) p_49 rfl rfl
theorem g49_16 : z_go zP 49 16 L (v :: .ref u :: S) q Q ↔ ∃ q1, z_put [7] 2 q u v = some q1 ∧ z_go zP 49 19 L S q1 Q := ge_putf (len := 3) (x := (2, 0, [7])) p_49 rfl
theorem g49_19 : z_go zP 49 19 [some (.ref u), l1, l2, l3, l4, l5] S q Q ↔ z_go zP 49 20 [some (.ref u), l1, l2, l3, l4, l5] (.ref u :: S) q Q := ge_x (len := 1) (x := (0, 0, [])) p_49 rfl rfl
theorem g49_20 : z_go zP 49 20 [l0, l1, l2, l3, some (zi a), l5] S q Q ↔ z_go zP 49 22 [l0, l1, l2, l3, some (zi a), l5] (zi a :: S) q Q := ge_x (len := 2) (x := (0, 0, [])) p_49 rfl rfl
theorem g49_22 : z_go zP 49 22 L (v :: .ref u :: S) q Q ↔ ∃ q1, z_put [7] 3 q u v = some q1 ∧ z_go zP 49 25 L S q1 Q := ge_putf (len := 3) (x := (3, 0, [7])) p_49 rfl
theorem g49_25 : z_go zP 49 25 [some (.ref u), l1, l2, l3, l4, l5] S q Q ↔ z_go zP 49 26 [some (.ref u), l1, l2, l3, l4, l5] (.ref u :: S) q Q := ge_x (len := 1) (x := (0, 0, [])) p_49 rfl rfl
theorem g49_26 : z_go zP 49 26 [l0, l1, l2, l3, l4, some (zi a)] S q Q ↔ z_go zP 49 28 [l0, l1, l2, l3, l4, some (zi a)] (zi a :: S) q Q := ge_x (len := 2) (x := (0, 0, [])) p_49 rfl rfl
theorem g49_28 : z_go zP 49 28 L (v :: .ref u :: S) q Q ↔ ∃ q1, z_put [7] 4 q u v = some q1 ∧ z_go zP 49 31 L S q1 Q := ge_putf (len := 3) (x := (4, 0, [7])) p_49 rfl
theorem g49_31 : z_go zP 49 31 L [] q Q ↔ Q (.inl none) q := z_go_rt (len := 1) (x := (0, 0, [])) p_49 rfl rfl rfl
theorem g50_0 : z_go zP 50 0 [some (.ref u)] S q Q ↔ z_go zP 50 1 [some (.ref u)] (.ref u :: S) q Q := ge_x (len := 1) (x := (0, 0, [])) p_50 rfl rfl
theorem g50_1 : z_go zP 50 1 L (.ref u :: S) q Q ↔ ∃ v, z_get [7] 0 q.1 u = some v ∧ z_go zP 50 4 L (v :: S) q Q := ge_getf (len := 3) (x := (0, 0, [7])) p_50 rfl
theorem g50_4 : z_go zP 50 4 L S q Q ↔ z_go zP 50 5 L (zi 3 :: S) q Q := ge_x (len := 1) (x := (0, 0, [])) p_50 rfl rfl
theorem g50_5 (a1 : -2147483648 ≤ a) (a2 : a < 2147483648) (b1 : -2147483648 ≤ b) (b2 : b < 2147483648) : z_go zP 50 5 L (zi b :: zi a :: S) q Q ↔ if b < a then z_go zP 50 12 L S q Q else z_go zP 50 8 L S q Q := ge_ic_gt (len := 3) (x := (0, 0, [])) a1 a2 b1 b2 p_50 rfl rfl
theorem g50_8 : z_go zP 50 8 L S q Q ↔ z_go zP 50 9 L (zi 1 :: S) q Q := ge_x (len := 1) (x := (0, 0, [])) p_50 rfl rfl
theorem g50_9 : z_go zP 50 9 L S q Q ↔ z_go zP 50 13 L S q Q := ge_to (len := 3) (x := (0, 0, [])) p_50 rfl rfl rfl
theorem g50_12 : z_go zP 50 12 L S q Q ↔ z_go zP 50 13 L (zi 0 :: S) q Q := ge_x (len := 1) (x := (0, 0, [])) p_50 rfl rfl
theorem g50_13_0 : z_go zP 50 13 L [zi 0] q Q ↔ Q (.inl (some (zi 0))) q := z_go_rt (len := 1) (x := (0, 0, [])) p_50 rfl rfl rfl
theorem g50_13_1 : z_go zP 50 13 L [zi 1] q Q ↔ Q (.inl (some (zi 1))) q := z_go_rt (len := 1) (x := (0, 0, [])) p_50 rfl rfl rfl
theorem g50_13b {c : Prop} [Decidable c] : z_go zP 50 13 L [zi (bI c)] q Q ↔ Q (.inl (some (zi (bI c)))) q := (by rcases bI_01 (c := c) with h | h <;> rw [h] <;> exact z_go_rt (len := 1) (x := (0, 0, [])) p_50 rfl rfl rfl)
theorem g51_0 : z_go zP 51 0 [some (.ref u)] S q Q ↔ z_go zP 51 1 [some (.ref u)] (.ref u :: S) q Q := ge_x (len := 1) (x := (0, 0, [])) p_51 rfl rfl
theorem g51_1 : z_go zP 51 1 L (.ref u :: S) q Q ↔ ∃ v, z_get [7] 0 q.1 u = some v ∧ z_go zP 51 4 L (v :: S) q Q := ge_getf (len := 3) (x := (0, 0, [7])) p_51 rfl
theorem g51_4 : z_go zP 51 4 L S q Q ↔ z_go zP 51 5 L (zi 4 :: S) q Q := ge_x (len := 1) (x := (0, 0, [])) p_51 rfl rfl
theorem g51_5 (a1 : -2147483648 ≤ a) (a2 : a < 2147483648) (b1 : -2147483648 ≤ b) (b2 : b < 2147483648) : z_go zP 51 5 L (zi b :: zi a :: S) q Q ↔ if b < a then z_go zP 51 12 L S q Q else z_go zP 51 8 L S q Q := ge_ic_gt (len := 3) (x := (0, 0, [])) a1 a2 b1 b2 p_51 rfl rfl
theorem g51_8 : z_go zP 51 8 L S q Q ↔ z_go zP 51 9 L (zi 1 :: S) q Q := ge_x (len := 1) (x := (0, 0, [])) p_51 rfl rfl
theorem g51_9 : z_go zP 51 9 L S q Q ↔ z_go zP 51 13 L S q Q := ge_to (len := 3) (x := (0, 0, [])) p_51 rfl rfl rfl
theorem g51_12 : z_go zP 51 12 L S q Q ↔ z_go zP 51 13 L (zi 0 :: S) q Q := ge_x (len := 1) (x := (0, 0, [])) p_51 rfl rfl
theorem g51_13_0 : z_go zP 51 13 L [zi 0] q Q ↔ Q (.inl (some (zi 0))) q := z_go_rt (len := 1) (x := (0, 0, [])) p_51 rfl rfl rfl
theorem g51_13_1 : z_go zP 51 13 L [zi 1] q Q ↔ Q (.inl (some (zi 1))) q := z_go_rt (len := 1) (x := (0, 0, [])) p_51 rfl rfl rfl
theorem g51_13b {c : Prop} [Decidable c] : z_go zP 51 13 L [zi (bI c)] q Q ↔ Q (.inl (some (zi (bI c)))) q := (by rcases bI_01 (c := c) with h | h <;> rw [h] <;> exact z_go_rt (len := 1) (x := (0, 0, [])) p_51 rfl rfl rfl)
theorem g52_0 : z_go zP 52 0 [some (.ref u)] S q Q ↔ z_go zP 52 1 [some (.ref u)] (.ref u :: S) q Q := ge_x (len := 1) (x := (0, 0, [])) p_52 rfl rfl
theorem g52_1 : z_go zP 52 1 L (.ref u :: S) q Q ↔ ∃ v, z_get [7] 0 q.1 u = some v ∧ z_go zP 52 4 L (v :: S) q Q := ge_getf (len := 3) (x := (0, 0, [7])) p_52 rfl
theorem g52_4 (a1 : -2147483648 ≤ a) (a2 : a < 2147483648) : z_go zP 52 4 L (zi a :: S) q Q ↔ if a = 0 then z_go zP 52 20 L S q Q else z_go zP 52 7 L S q Q := ge_if_eq (len := 3) (x := (0, 0, [])) a1 a2 p_52 rfl rfl
theorem g52_4b {c : Prop} [Decidable c] : z_go zP 52 4 L (zi (bI c) :: S) q Q ↔ if c then z_go zP 52 7 L S q Q else z_go zP 52 20 L S q Q := ge_if_eq_b (len := 3) (x := (0, 0, [])) p_52 rfl rfl
theorem g52_7 : z_go zP 52 7 [some (.ref u)] S q Q ↔ z_go zP 52 8 [some (.ref u)] (.ref u :: S) q Q := ge_x (len := 1) (x := (0, 0, [])) p_52 rfl rfl
theorem g52_8 : z_go zP 52 8 L (.ref u :: S) q Q ↔ ∃ v, z_get [7] 0 q.1 u = some v ∧ z_go zP 52 11 L (v :: S) q Q := ge_getf (len := 3) (x := (0, 0, [7])) p_52 rfl
theorem g52_11 : z_go zP 52 11 L S q Q ↔ z_go zP 52 13 L (zi 7 :: S) q Q := ge_x (len := 2) (x := (0, 0, [])) p_52 rfl rfl
theorem g52_13 (a1 : -2147483648 ≤ a) (a2 : a < 2147483648) (b1 : -2147483648 ≤ b) (b2 : b < 2147483648) : z_go zP 52 13 L (zi b :: zi a :: S) q Q ↔ if a = b then z_go zP 52 20 L S q Q else z_go zP 52 16 L S q Q := ge_ic_eq (len := 3) (x := (0, 0, [])) a1 a2 b1 b2 p_52 rfl rfl
theorem g52_16 : z_go zP 52 16 L S q Q ↔ z_go zP 52 17 L (zi 1 :: S) q Q := ge_x (len := 1) (x := (0, 0, [])) p_52 rfl rfl
theorem g52_17 : z_go zP 52 17 L S q Q ↔ z_go zP 52 21 L S q Q := ge_to (len := 3) (x := (0, 0, [])) p_52 rfl rfl rfl
theorem g52_20 : z_go zP 52 20 L S q Q ↔ z_go zP 52 21 L (zi 0 :: S) q Q := ge_x (len := 1) (x := (0, 0, [])) p_52 rfl rfl
theorem g52_21_0 : z_go zP 52 21 L [zi 0] q Q ↔ Q (.inl (some (zi 0))) q := z_go_rt (len := 1) (x := (0, 0, [])) p_52 rfl rfl rfl
theorem g52_21_1 : z_go zP 52 21 L [zi 1] q Q ↔ Q (.inl (some (zi 1))) q := z_go_rt (len := 1) (x := (0, 0, [])) p_52 rfl rfl rfl
theorem g52_21b {c : Prop} [Decidable c] : z_go zP 52 21 L [zi (bI c)] q Q ↔ Q (.inl (some (zi (bI c)))) q := (by rcases bI_01 (c := c) with h | h <;> rw [h] <;> exact z_go_rt (len := 1) (x := (0, 0, [])) p_52 rfl rfl rfl)
theorem g53_0 : z_go zP 53 0 [some (.ref u)] S q Q ↔ z_go zP 53 1 [some (.ref u)] (.ref u :: S) q Q := ge_x (len := 1) (x := (0, 0, [])) p_53 rfl rfl
theorem g53_1 : z_go zP 53 1 L (.ref u :: S) q Q ↔ ∃ v, z_get [7] 0 q.1 u = some v ∧ z_go zP 53 4 L (v :: S) q Q := ge_getf (len := 3) (x := (0, 0, [7])) p_53 rfl
theorem g53_4 : z_go zP 53 4 L S q Q ↔ z_go zP 53 5 L (zi 5 :: S) q Q := ge_x (len := 1) (x := (0, 0, [])) p_53 rfl rfl
theorem g53_5 (a1 : -2147483648 ≤ a) (a2 : a < 2147483648) (b1 : -2147483648 ≤ b) (b2 : b < 2147483648) : z_go zP 53 5 L (zi b :: zi a :: S) q Q ↔ if a = b then z_go zP 53 22 L S q Q else z_go zP 53 8 L S q Q := ge_ic_eq (len := 3) (x := (0, 0, [])) a1 a2 b1 b2 p_53 rfl rfl
theorem g53_8 : z_go zP 53 8 [some (.ref u)] S q Q ↔ z_go zP 53 9 [some (.ref u)] (.ref u :: S) q Q := ge_x (len := 1) (x := (0, 0, [])) p_53 rfl rfl
theorem g53_9 : z_go zP 53 9 L (.ref u :: S) q Q ↔ ∃ v, z_get [7] 0 q.1 u = some v ∧ z_go zP 53 12 L (v :: S) q Q := ge_getf (len := 3) (x := (0, 0, [7])) p_53 rfl
theorem g53_12 (a1 : -2147483648 ≤ a) (a2 : a < 2147483648) : z_go zP 53 12 L (zi a :: S) q Q ↔ if a = 0 then z_go zP 53 26 L S q Q else z_go zP 53 15 L S q Q := ge_if_eq (len := 3) (x := (0, 0, [])) a1 a2 p_53 rfl rfl
theorem g53_12b {c : Prop} [Decidable c] : z_go zP 53 12 L (zi (bI c) :: S) q Q ↔ if c then z_go zP 53 15 L S q Q else z_go zP 53 26 L S q Q := ge_if_eq_b (len := 3) (x := (0, 0, [])) p_53 rfl rfl
theorem g53_15 : z_go zP 53 15 [some (.ref u)] S q Q ↔ z_go zP 53 16 [some (.ref u)] (.ref u :: S) q Q := ge_x (len := 1) (x := (0, 0, [])) p_53 rfl rfl
theorem g53_16 : z_go zP 53 16 L [.ref u] q Q ↔ z_tg q.1 u = some 7 ∧ z_go zP 50 0 [some (.ref u)] [] q (zc 53 19 L [] Q) := ge_vc (len := 3) (pc := 16) (S := [.ref u]) (u := u) (k1 := 50) (A := [.ref u]) (r := []) (tag := 7) (n0 := 0) (zwb_le (by show 0 ≤ 4; omega)) p_53 rfl rfl rfl p_50 (by show 1 ≤ 1; omega) rfl
theorem g53_19 (a1 : -2147483648 ≤ a) (a2 : a < 2147483648) : z_go zP 53 19 L (zi a :: S) q Q ↔ if a = 0 then z_go zP 53 26 L S q Q else z_go zP 53 22 L S q Q := ge_if_eq (len := 3) (x := (0, 0, [])) a1 a2 p_53 rfl rfl
theorem g53_19b {c : Prop} [Decidable c] : z_go zP 53 19 L (zi (bI c) :: S) q Q ↔ if c then z_go zP 53 22 L S q Q else z_go zP 53 26 L S q Q := ge_if_eq_b (len := 3) (x := (0, 0, [])) p_53 rfl rfl
theorem g53_22 : z_go zP 53 22 L S q Q ↔ z_go zP 53 23 L (zi 1 :: S) q Q := ge_x (len := 1) (x := (0, 0, [])) p_53 rfl rfl
theorem g53_23 : z_go zP 53 23 L S q Q ↔ z_go zP 53 27 L S q Q := ge_to (len := 3) (x := (0, 0, [])) p_53 rfl rfl rfl
theorem g53_26 : z_go zP 53 26 L S q Q ↔ z_go zP 53 27 L (zi 0 :: S) q Q := ge_x (len := 1) (x := (0, 0, [])) p_53 rfl rfl
theorem g53_27_0 : z_go zP 53 27 L [zi 0] q Q ↔ Q (.inl (some (zi 0))) q := z_go_rt (len := 1) (x := (0, 0, [])) p_53 rfl rfl rfl
theorem g53_27_1 : z_go zP 53 27 L [zi 1] q Q ↔ Q (.inl (some (zi 1))) q := z_go_rt (len := 1) (x := (0, 0, [])) p_53 rfl rfl rfl
theorem g53_27b {c : Prop} [Decidable c] : z_go zP 53 27 L [zi (bI c)] q Q ↔ Q (.inl (some (zi (bI c)))) q := (by rcases bI_01 (c := c) with h | h <;> rw [h] <;> exact z_go_rt (len := 1) (x := (0, 0, [])) p_53 rfl rfl rfl)
theorem g54_0 : z_go zP 54 0 [some (.ref u), l1, l2] S q Q ↔ z_go zP 54 1 [some (.ref u), l1, l2] (.ref u :: S) q Q := ge_x (len := 1) (x := (0, 0, [])) p_54 rfl rfl
theorem g54_1 : z_go zP 54 1 L (.ref u :: S) q Q ↔ ∃ v, z_get [7] 0 q.1 u = some v ∧ z_go zP 54 4 L (v :: S) q Q := ge_getf (len := 3) (x := (0, 0, [7])) p_54 rfl
theorem g54_4 : z_go zP 54 4 L S q Q ↔ z_go zP 54 6 L (zi 6 :: S) q Q := ge_x (len := 2) (x := (0, 0, [])) p_54 rfl rfl
theorem g54_6 (a1 : -2147483648 ≤ a) (a2 : a < 2147483648) (b1 : -2147483648 ≤ b) (b2 : b < 2147483648) : z_go zP 54 6 L (zi b :: zi a :: S) q Q ↔ if ¬ a = b then z_go zP 54 19 L S q Q else z_go zP 54 9 L S q Q := ge_ic_ne (len := 3) (x := (0, 0, [])) a1 a2 b1 b2 p_54 rfl rfl
theorem g54_9 : z_go zP 54 9 [l0, some (zl a), l2] S q Q ↔ z_go zP 54 10 [l0, some (zl a), l2] (zl a :: S) q Q := ge_x (len := 1) (x := (0, 0, [])) p_54 rfl rfl
theorem g54_10 : z_go zP 54 10 L S q Q ↔ z_go zP 54 11 L (zl 0 :: S) q Q := ge_x (len := 1) (x := (0, 0, [])) p_54 rfl rfl
theorem g54_11 (a1 : -9223372036854775808 ≤ a) (a2 : a < 9223372036854775808) (b1 : -9223372036854775808 ≤ b) (b2 : b < 9223372036854775808) : z_go zP 54 11 L (zl b :: zl a :: S) q Q ↔ if a = b then z_go zP 54 19 L S q Q else z_go zP 54 15 L S q Q := ge_lc_eq (len := 1) (x := (0, 0, [])) (p2 := 12) (l2 := 3) a1 a2 b1 b2 p_54 rfl rfl rfl rfl
theorem g54_15 : z_go zP 54 15 L S q Q ↔ z_go zP 54 16 L (zi 1 :: S) q Q := ge_x (len := 1) (x := (0, 0, [])) p_54 rfl rfl
theorem g54_16 : z_go zP 54 16 L S q Q ↔ z_go zP 54 20 L S q Q := ge_to (len := 3) (x := (0, 0, [])) p_54 rfl rfl rfl
theorem g54_19 : z_go zP 54 19 L S q Q ↔ z_go zP 54 20 L (zi 0 :: S) q Q := ge_x (len := 1) (x := (0, 0, [])) p_54 rfl rfl
theorem g54_20_0 : z_go zP 54 20 L [zi 0] q Q ↔ Q (.inl (some (zi 0))) q := z_go_rt (len := 1) (x := (0, 0, [])) p_54 rfl rfl rfl
theorem g54_20_1 : z_go zP 54 20 L [zi 1] q Q ↔ Q (.inl (some (zi 1))) q := z_go_rt (len := 1) (x := (0, 0, [])) p_54 rfl rfl rfl
theorem g54_20b {c : Prop} [Decidable c] : z_go zP 54 20 L [zi (bI c)] q Q ↔ Q (.inl (some (zi (bI c)))) q := (by rcases bI_01 (c := c) with h | h <;> rw [h] <;> exact z_go_rt (len := 1) (x := (0, 0, [])) p_54 rfl rfl rfl)
theorem g55_0 : z_go zP 55 0 [some (.ref u), l1, l2, l3, l4] S q Q ↔ z_go zP 55 1 [some (.ref u), l1, l2, l3, l4] (.ref u :: S) q Q := ge_x (len := 1) (x := (0, 0, [])) p_55 rfl rfl
theorem g55_1 : z_go zP 55 1 L (.ref u :: S) q Q ↔ ∃ v, z_get [7] 0 q.1 u = some v ∧ z_go zP 55 4 L (v :: S) q Q := ge_getf (len := 3) (x := (0, 0, [7])) p_55 rfl
theorem g55_4_1 : z_go zP 55 4 L (zi 1 :: S) q Q ↔ z_go zP 55 32 L S q Q := ge_to (len := 28) (x := (0, 0, [])) (o := 28) p_55 rfl rfl (by unfold zi; simp only [z_nx]; rw [i_to (by decide) (by decide), if_neg (by decide)]; rfl)
theorem g55_4_2 : z_go zP 55 4 L (zi 2 :: S) q Q ↔ z_go zP 55 36 L S q Q := ge_to (len := 28) (x := (0, 0, [])) (o := 32) p_55 rfl rfl (by unfold zi; simp only [z_nx]; rw [i_to (by decide) (by decide), if_neg (by decide)]; rfl)
theorem g55_4_3 : z_go zP 55 4 L (zi 3 :: S) q Q ↔ z_go zP 55 40 L S q Q := ge_to (len := 28) (x := (0, 0, [])) (o := 36) p_55 rfl rfl (by unfold zi; simp only [z_nx]; rw [i_to (by decide) (by decide), if_neg (by decide)]; rfl)
theorem g55_4_d (a1 : -2147483648 ≤ a) (a2 : a < 2147483648) (h : a < 1 ∨ 3 < a) : z_go zP 55 4 L (zi a :: S) q Q ↔ z_go zP 55 44 L S q Q := ge_to (len := 28) (x := (0, 0, [])) p_55 rfl rfl (by unfold zi; show (if _ ∨ _ then _ else _) = _; rw [i_to a1 a2, if_pos h])
theorem g55_32 : z_go zP 55 32 [l0, some (zl a), l2, l3, l4] S q Q ↔ z_go zP 55 33 [l0, some (zl a), l2, l3, l4] (zl a :: S) q Q := ge_x (len := 1) (x := (0, 0, [])) p_55 rfl rfl
theorem g55_33 : z_go zP 55 33 [l0, l1, l2, some (zl a), l4] S q Q ↔ z_go zP 55 34 [l0, l1, l2, some (zl a), l4] (zl a :: S) q Q := ge_x (len := 1) (x := (0, 0, [])) p_55 rfl rfl
theorem g55_34 : z_go zP 55 34 L (zl b :: zl a :: S) q Q ↔ z_go zP 55 35 L (zl (a + b) :: S) q Q := ge_ladd (len := 1) (x := (0, 0, [])) p_55 rfl
theorem g55_35 : z_go zP 55 35 L [zl a] q Q ↔ Q (.inl (some (zl a))) q := z_go_rt (len := 1) (x := (0, 0, [])) p_55 rfl rfl rfl
theorem g55_36 : z_go zP 55 36 [l0, some (zl a), l2, l3, l4] S q Q ↔ z_go zP 55 37 [l0, some (zl a), l2, l3, l4] (zl a :: S) q Q := ge_x (len := 1) (x := (0, 0, [])) p_55 rfl rfl
theorem g55_37 : z_go zP 55 37 [l0, l1, l2, some (zl a), l4] S q Q ↔ z_go zP 55 38 [l0, l1, l2, some (zl a), l4] (zl a :: S) q Q := ge_x (len := 1) (x := (0, 0, [])) p_55 rfl rfl
theorem g55_38 : z_go zP 55 38 L (zl b :: zl a :: S) q Q ↔ z_go zP 55 39 L (zl (a - b) :: S) q Q := ge_lsub (len := 1) (x := (0, 0, [])) p_55 rfl
theorem g55_39 : z_go zP 55 39 L [zl a] q Q ↔ Q (.inl (some (zl a))) q := z_go_rt (len := 1) (x := (0, 0, [])) p_55 rfl rfl rfl
theorem g55_40 : z_go zP 55 40 [l0, some (zl a), l2, l3, l4] S q Q ↔ z_go zP 55 41 [l0, some (zl a), l2, l3, l4] (zl a :: S) q Q := ge_x (len := 1) (x := (0, 0, [])) p_55 rfl rfl
theorem g55_41 : z_go zP 55 41 [l0, l1, l2, some (zl a), l4] S q Q ↔ z_go zP 55 42 [l0, l1, l2, some (zl a), l4] (zl a :: S) q Q := ge_x (len := 1) (x := (0, 0, [])) p_55 rfl rfl
theorem g55_42 : z_go zP 55 42 L (zl b :: zl a :: S) q Q ↔ z_go zP 55 43 L (zl (lland a b) :: S) q Q := ge_land (len := 1) (x := (0, 0, [])) p_55 rfl
theorem g55_43 : z_go zP 55 43 L [zl a] q Q ↔ Q (.inl (some (zl a))) q := z_go_rt (len := 1) (x := (0, 0, [])) p_55 rfl rfl rfl
theorem g55_44 : z_go zP 55 44 [some (.ref u), l1, l2, l3, l4] S q Q ↔ z_go zP 55 45 [some (.ref u), l1, l2, l3, l4] (.ref u :: S) q Q := ge_x (len := 1) (x := (0, 0, [])) p_55 rfl rfl
theorem g55_45 : z_go zP 55 45 L (.ref u :: S) q Q ↔ ∃ v, z_get [7] 4 q.1 u = some v ∧ z_go zP 55 48 L (v :: S) q Q := ge_getf (len := 3) (x := (4, 0, [7])) p_55 rfl
theorem g55_48 (a1 : -2147483648 ≤ a) (a2 : a < 2147483648) : z_go zP 55 48 L (zi a :: S) q Q ↔ z_go zP 55 49 L (zl a :: S) q Q := ge_i2l (len := 1) (x := (0, 0, [])) a1 a2 p_55 rfl
theorem g55_49 : z_go zP 55 49 L [zl a] q Q ↔ Q (.inl (some (zl a))) q := z_go_rt (len := 1) (x := (0, 0, [])) p_55 rfl rfl rfl
end
