/-! rules for each instruction, printed by program: methods 174 to 174 -/
section
variable {L : zL} {S : List Value} {q : zS} {Q : zU → zS → Prop} {a b c d e x0 x1 x2 x3 x4 x5 x6 x7 y0 y1 y2 y3 y4 y5 y6 y7 : Int} {u u2 v0 v1 v2 v3 v4 v5 v6 v7 w0 w1 w2 w3 w4 w5 w6 w7 : Nat} {v r0 r1 r2 r3 : Value} {l0 l1 l2 l3 l4 l5 l6 l7 l8 l9 l10 l11 l12 l13 : Option Value}
set_option maxRecDepth 100000 in
theorem g174_0 : z_go zP 174 0 L S q Q ↔ z_go zP 174 3 L (.ref q.2.1 :: S) (z_new 8 4 (fun k => defaultValue (zty 8 k)) q) Q := ge_x (len := 3) (x := (8, 0, [])) p_174 rfl rfl
set_option maxRecDepth 100000 in
theorem g174_3 : z_go zP 174 3 L (.ref u :: S) q Q ↔ z_go zP 174 4 L (.ref u :: .ref u :: S) q Q := ge_x (len := 1) (x := (0, 0, [])) p_174 rfl rfl
set_option maxRecDepth 100000 in
theorem g174_3i : z_go zP 174 3 L (zi a :: S) q Q ↔ z_go zP 174 4 L (zi a :: zi a :: S) q Q := ge_x (len := 1) (x := (0, 0, [])) p_174 rfl rfl
set_option maxRecDepth 100000 in
theorem g174_4 : z_go zP 174 4 L [.ref u, r0] q Q ↔ z_go zP 56 0 [some (.ref u)] [] q (zd 174 7 L [r0] Q) := (z_go_cl (len := 3) (x := (56, 3, [0])) (k1 := 56) (A := [.ref u]) (r := [r0]) p_174 rfl rfl rfl rfl (by simp only [z_cl, List.drop]; rw [if_pos]; rfl; exact by first | exact ⟨by decide, (zwb_le (by show 1 ≤ 4; omega))⟩ | exact ⟨by decide, by show 1 ≤ 2; omega, (zwb_le (by show 1 ≤ 4; omega))⟩) p_56 (by show 1 ≤ 1; omega)).trans (ge_bk_d rfl)
set_option maxRecDepth 100000 in
theorem g174_7 : z_go zP 174 7 [l0, l1, l2, l3, l4, l5, l6, l7] (.ref u :: S) q Q ↔ z_go zP 174 8 [(zkl l0), some (.ref u), l2, l3, l4, l5, l6, l7] S q Q := (by cases l0 with | none => exact ge_x (len := 1) (x := (0, 0, [])) p_174 rfl rfl | some v => cases v <;> exact ge_x (len := 1) (x := (0, 0, [])) p_174 rfl rfl)
set_option maxRecDepth 100000 in
theorem g174_8 : z_go zP 174 8 L S q Q ↔ z_go zP 174 11 L (.ref q.2.1 :: S) (z_new 9 42 (fun k => defaultValue (zty 9 k)) q) Q := ge_x (len := 3) (x := (9, 0, [])) p_174 rfl rfl
set_option maxRecDepth 100000 in
theorem g174_11 : z_go zP 174 11 L (.ref u :: S) q Q ↔ z_go zP 174 12 L (.ref u :: .ref u :: S) q Q := ge_x (len := 1) (x := (0, 0, [])) p_174 rfl rfl
set_option maxRecDepth 100000 in
theorem g174_11i : z_go zP 174 11 L (zi a :: S) q Q ↔ z_go zP 174 12 L (zi a :: zi a :: S) q Q := ge_x (len := 1) (x := (0, 0, [])) p_174 rfl rfl
set_option maxRecDepth 100000 in
theorem g174_12 : z_go zP 174 12 L [.ref u, r0] q Q ↔ z_go zP 94 0 [some (.ref u)] [] q (zd 174 15 L [r0] Q) := (z_go_cl (len := 3) (x := (94, 3, [0])) (k1 := 94) (A := [.ref u]) (r := [r0]) p_174 rfl rfl rfl rfl (by simp only [z_cl, List.drop]; rw [if_pos]; rfl; exact by first | exact ⟨by decide, (zwb_le (by show 1 ≤ 4; omega))⟩ | exact ⟨by decide, by show 1 ≤ 2; omega, (zwb_le (by show 1 ≤ 4; omega))⟩) p_94 (by show 1 ≤ 1; omega)).trans (ge_bk_d rfl)
set_option maxRecDepth 100000 in
theorem g174_15 : z_go zP 174 15 [l0, l1, l2, l3, l4, l5, l6, l7] (.ref u :: S) q Q ↔ z_go zP 174 16 [l0, (zkl l1), some (.ref u), l3, l4, l5, l6, l7] S q Q := (by cases l1 with | none => exact ge_x (len := 1) (x := (0, 0, [])) p_174 rfl rfl | some v => cases v <;> exact ge_x (len := 1) (x := (0, 0, [])) p_174 rfl rfl)
set_option maxRecDepth 100000 in
theorem g174_16 : z_go zP 174 16 L S q Q ↔ z_go zP 174 17 L (zi 1 :: S) q Q := ge_x (len := 1) (x := (0, 0, [])) p_174 rfl rfl
set_option maxRecDepth 100000 in
theorem g174_17 (a1 : 0 ≤ a) (a2 : a ≤ 60000) : z_go zP 174 17 L (zi a :: S) q Q ↔ z_go zP 174 19 L (.ref q.2.1 :: S) (z_new 101 a.toNat (fun _ => zl 0) q) Q := ge_nwa (len := 2) (x := (0, 0, [])) (n8 := componentBytes .long) a1 a2 (by decide) p_174 rfl rfl
set_option maxRecDepth 100000 in
theorem g174_19 : z_go zP 174 19 [l0, l1, l2, l3, l4, l5, l6, l7] (.ref u :: S) q Q ↔ z_go zP 174 20 [l0, l1, (zkl l2), some (.ref u), l4, l5, l6, l7] S q Q := (by cases l2 with | none => exact ge_x (len := 1) (x := (0, 0, [])) p_174 rfl rfl | some v => cases v <;> exact ge_x (len := 1) (x := (0, 0, [])) p_174 rfl rfl)
set_option maxRecDepth 100000 in
theorem g174_20 : z_go zP 174 20 L S q Q ↔ z_go zP 174 21 L (zi 0 :: S) q Q := ge_x (len := 1) (x := (0, 0, [])) p_174 rfl rfl
set_option maxRecDepth 100000 in
theorem g174_21 : z_go zP 174 21 [l0, l1, l2, l3, l4, l5, l6, l7] (zi a :: S) q Q ↔ z_go zP 174 23 [l0, l1, l2, (zkl l3), some (zi a), l5, l6, l7] S q Q := (by cases l3 with | none => exact ge_x (len := 2) (x := (0, 0, [])) p_174 rfl rfl | some v => cases v <;> exact ge_x (len := 2) (x := (0, 0, [])) p_174 rfl rfl)
set_option maxRecDepth 100000 in
theorem g174_23 : z_go zP 174 23 [l0, l1, l2, l3, some (zi a), l5, l6, l7] S q Q ↔ z_go zP 174 25 [l0, l1, l2, l3, some (zi a), l5, l6, l7] (zi a :: S) q Q := ge_x (len := 2) (x := (0, 0, [])) p_174 rfl rfl
set_option maxRecDepth 100000 in
theorem g174_25 : z_go zP 174 25 [some (.ref u), l1, l2, l3, l4, l5, l6, l7] S q Q ↔ z_go zP 174 26 [some (.ref u), l1, l2, l3, l4, l5, l6, l7] (.ref u :: S) q Q := ge_x (len := 1) (x := (0, 0, [])) p_174 rfl rfl
set_option maxRecDepth 100000 in
theorem g174_26 : z_go zP 174 26 L (.ref u :: S) q Q ↔ ∃ v, z_len q.1 u = some v ∧ z_go zP 174 27 L (v :: S) q Q := ge_alen (len := 1) (x := (0, 0, [])) p_174 rfl
set_option maxRecDepth 100000 in
theorem g174_27 : z_go zP 174 27 L S q Q ↔ z_go zP 174 29 L (zi 7 :: S) q Q := ge_x (len := 2) (x := (0, 0, [])) p_174 rfl rfl
set_option maxRecDepth 100000 in
theorem g174_29 : z_go zP 174 29 L (zi b :: zi a :: S) q Q ↔ z_go zP 174 30 L (zi (a - b) :: S) q Q := ge_isub (len := 1) (x := (0, 0, [])) p_174 rfl
set_option maxRecDepth 100000 in
theorem g174_30 (a1 : -2147483648 ≤ a) (a2 : a < 2147483648) (b1 : -2147483648 ≤ b) (b2 : b < 2147483648) : z_go zP 174 30 L (zi b :: zi a :: S) q Q ↔ if b < a then z_go zP 174 1404 L S q Q else z_go zP 174 33 L S q Q := ge_ic_gt (len := 3) (x := (0, 0, [])) a1 a2 b1 b2 p_174 rfl rfl
set_option maxRecDepth 100000 in
theorem g174_33 : z_go zP 174 33 [some (.ref u), l1, l2, l3, l4, l5, l6, l7] S q Q ↔ z_go zP 174 34 [some (.ref u), l1, l2, l3, l4, l5, l6, l7] (.ref u :: S) q Q := ge_x (len := 1) (x := (0, 0, [])) p_174 rfl rfl
set_option maxRecDepth 100000 in
theorem g174_34 : z_go zP 174 34 [l0, l1, l2, l3, some (zi a), l5, l6, l7] S q Q ↔ z_go zP 174 36 [l0, l1, l2, l3, some (zi a), l5, l6, l7] (zi a :: S) q Q := ge_x (len := 2) (x := (0, 0, [])) p_174 rfl rfl
set_option maxRecDepth 100000 in
theorem g174_36 : z_go zP 174 36 L (zi a :: .ref u :: S) q Q ↔ ∃ v, z_at [99, 100] q.1 u (Int32.ofInt a) = some v ∧ z_go zP 174 37 L (v :: S) q Q := ge_iald (len := 1) (x := (0, 0, [])) p_174 rfl
set_option maxRecDepth 100000 in
theorem g174_37 : z_go zP 174 37 L S q Q ↔ z_go zP 174 39 L (zi 31 :: S) q Q := ge_x (len := 2) (x := (0, 0, [])) p_174 rfl rfl
set_option maxRecDepth 100000 in
theorem g174_39 : z_go zP 174 39 L (zi b :: zi a :: S) q Q ↔ z_go zP 174 40 L (zi (iand a b) :: S) q Q := ge_iand (len := 1) (x := (0, 0, [])) p_174 rfl
set_option maxRecDepth 100000 in
theorem g174_40_0 : z_go zP 174 40 L (zi 0 :: S) q Q ↔ z_go zP 174 132 L S q Q := ge_to (len := 92) (x := (0, 0, [])) (o := 92) p_174 rfl rfl (by unfold zi; simp only [z_nx]; rw [i_to (by decide) (by decide), if_neg (by decide)]; rfl)
set_option maxRecDepth 100000 in
theorem g174_40_1 : z_go zP 174 40 L (zi 1 :: S) q Q ↔ z_go zP 174 200 L S q Q := ge_to (len := 92) (x := (0, 0, [])) (o := 160) p_174 rfl rfl (by unfold zi; simp only [z_nx]; rw [i_to (by decide) (by decide), if_neg (by decide)]; rfl)
set_option maxRecDepth 100000 in
theorem g174_40_2 : z_go zP 174 40 L (zi 2 :: S) q Q ↔ z_go zP 174 256 L S q Q := ge_to (len := 92) (x := (0, 0, [])) (o := 216) p_174 rfl rfl (by unfold zi; simp only [z_nx]; rw [i_to (by decide) (by decide), if_neg (by decide)]; rfl)
set_option maxRecDepth 100000 in
theorem g174_40_3 : z_go zP 174 40 L (zi 3 :: S) q Q ↔ z_go zP 174 374 L S q Q := ge_to (len := 92) (x := (0, 0, [])) (o := 334) p_174 rfl rfl (by unfold zi; simp only [z_nx]; rw [i_to (by decide) (by decide), if_neg (by decide)]; rfl)
set_option maxRecDepth 100000 in
theorem g174_40_4 : z_go zP 174 40 L (zi 4 :: S) q Q ↔ z_go zP 174 430 L S q Q := ge_to (len := 92) (x := (0, 0, [])) (o := 390) p_174 rfl rfl (by unfold zi; simp only [z_nx]; rw [i_to (by decide) (by decide), if_neg (by decide)]; rfl)
set_option maxRecDepth 100000 in
theorem g174_40_5 : z_go zP 174 40 L (zi 5 :: S) q Q ↔ z_go zP 174 498 L S q Q := ge_to (len := 92) (x := (0, 0, [])) (o := 458) p_174 rfl rfl (by unfold zi; simp only [z_nx]; rw [i_to (by decide) (by decide), if_neg (by decide)]; rfl)
set_option maxRecDepth 100000 in
theorem g174_40_6 : z_go zP 174 40 L (zi 6 :: S) q Q ↔ z_go zP 174 602 L S q Q := ge_to (len := 92) (x := (0, 0, [])) (o := 562) p_174 rfl rfl (by unfold zi; simp only [z_nx]; rw [i_to (by decide) (by decide), if_neg (by decide)]; rfl)
set_option maxRecDepth 100000 in
theorem g174_40_7 : z_go zP 174 40 L (zi 7 :: S) q Q ↔ z_go zP 174 706 L S q Q := ge_to (len := 92) (x := (0, 0, [])) (o := 666) p_174 rfl rfl (by unfold zi; simp only [z_nx]; rw [i_to (by decide) (by decide), if_neg (by decide)]; rfl)
set_option maxRecDepth 100000 in
theorem g174_40_8 : z_go zP 174 40 L (zi 8 :: S) q Q ↔ z_go zP 174 774 L S q Q := ge_to (len := 92) (x := (0, 0, [])) (o := 734) p_174 rfl rfl (by unfold zi; simp only [z_nx]; rw [i_to (by decide) (by decide), if_neg (by decide)]; rfl)
set_option maxRecDepth 100000 in
theorem g174_40_9 : z_go zP 174 40 L (zi 9 :: S) q Q ↔ z_go zP 174 842 L S q Q := ge_to (len := 92) (x := (0, 0, [])) (o := 802) p_174 rfl rfl (by unfold zi; simp only [z_nx]; rw [i_to (by decide) (by decide), if_neg (by decide)]; rfl)
set_option maxRecDepth 100000 in
theorem g174_40_10 : z_go zP 174 40 L (zi 10 :: S) q Q ↔ z_go zP 174 910 L S q Q := ge_to (len := 92) (x := (0, 0, [])) (o := 870) p_174 rfl rfl (by unfold zi; simp only [z_nx]; rw [i_to (by decide) (by decide), if_neg (by decide)]; rfl)
set_option maxRecDepth 100000 in
theorem g174_40_11 : z_go zP 174 40 L (zi 11 :: S) q Q ↔ z_go zP 174 977 L S q Q := ge_to (len := 92) (x := (0, 0, [])) (o := 937) p_174 rfl rfl (by unfold zi; simp only [z_nx]; rw [i_to (by decide) (by decide), if_neg (by decide)]; rfl)
set_option maxRecDepth 100000 in
theorem g174_40_12 : z_go zP 174 40 L (zi 12 :: S) q Q ↔ z_go zP 174 1052 L S q Q := ge_to (len := 92) (x := (0, 0, [])) (o := 1012) p_174 rfl rfl (by unfold zi; simp only [z_nx]; rw [i_to (by decide) (by decide), if_neg (by decide)]; rfl)
set_option maxRecDepth 100000 in
theorem g174_40_13 : z_go zP 174 40 L (zi 13 :: S) q Q ↔ z_go zP 174 1132 L S q Q := ge_to (len := 92) (x := (0, 0, [])) (o := 1092) p_174 rfl rfl (by unfold zi; simp only [z_nx]; rw [i_to (by decide) (by decide), if_neg (by decide)]; rfl)
set_option maxRecDepth 100000 in
theorem g174_40_14 : z_go zP 174 40 L (zi 14 :: S) q Q ↔ z_go zP 174 1200 L S q Q := ge_to (len := 92) (x := (0, 0, [])) (o := 1160) p_174 rfl rfl (by unfold zi; simp only [z_nx]; rw [i_to (by decide) (by decide), if_neg (by decide)]; rfl)
set_option maxRecDepth 100000 in
theorem g174_40_15 : z_go zP 174 40 L (zi 15 :: S) q Q ↔ z_go zP 174 1279 L S q Q := ge_to (len := 92) (x := (0, 0, [])) (o := 1239) p_174 rfl rfl (by unfold zi; simp only [z_nx]; rw [i_to (by decide) (by decide), if_neg (by decide)]; rfl)
set_option maxRecDepth 100000 in
theorem g174_40_16 : z_go zP 174 40 L (zi 16 :: S) q Q ↔ z_go zP 174 1335 L S q Q := ge_to (len := 92) (x := (0, 0, [])) (o := 1295) p_174 rfl rfl (by unfold zi; simp only [z_nx]; rw [i_to (by decide) (by decide), if_neg (by decide)]; rfl)
set_option maxRecDepth 100000 in
theorem g174_40_17 : z_go zP 174 40 L (zi 17 :: S) q Q ↔ z_go zP 174 1360 L S q Q := ge_to (len := 92) (x := (0, 0, [])) (o := 1320) p_174 rfl rfl (by unfold zi; simp only [z_nx]; rw [i_to (by decide) (by decide), if_neg (by decide)]; rfl)
set_option maxRecDepth 100000 in
theorem g174_40_18 : z_go zP 174 40 L (zi 18 :: S) q Q ↔ z_go zP 174 1373 L S q Q := ge_to (len := 92) (x := (0, 0, [])) (o := 1333) p_174 rfl rfl (by unfold zi; simp only [z_nx]; rw [i_to (by decide) (by decide), if_neg (by decide)]; rfl)
set_option maxRecDepth 100000 in
theorem g174_40_d (a1 : -2147483648 ≤ a) (a2 : a < 2147483648) (h : a < 0 ∨ 18 < a) : z_go zP 174 40 L (zi a :: S) q Q ↔ z_go zP 174 1398 L S q Q := ge_to (len := 92) (x := (0, 0, [])) p_174 rfl rfl (by unfold zi; show (if _ ∨ _ then _ else _) = _; rw [i_to a1 a2, if_pos h])
set_option maxRecDepth 100000 in
theorem g174_132 : z_go zP 174 132 [l0, some (.ref u), l2, l3, l4, l5, l6, l7] S q Q ↔ z_go zP 174 133 [l0, some (.ref u), l2, l3, l4, l5, l6, l7] (.ref u :: S) q Q := ge_x (len := 1) (x := (0, 0, [])) p_174 rfl rfl
set_option maxRecDepth 100000 in
theorem g174_133 : z_go zP 174 133 [some (.ref u), l1, l2, l3, l4, l5, l6, l7] S q Q ↔ z_go zP 174 134 [some (.ref u), l1, l2, l3, l4, l5, l6, l7] (.ref u :: S) q Q := ge_x (len := 1) (x := (0, 0, [])) p_174 rfl rfl
set_option maxRecDepth 100000 in
theorem g174_134 : z_go zP 174 134 [l0, l1, l2, l3, some (zi a), l5, l6, l7] S q Q ↔ z_go zP 174 136 [l0, l1, l2, l3, some (zi a), l5, l6, l7] (zi a :: S) q Q := ge_x (len := 2) (x := (0, 0, [])) p_174 rfl rfl
set_option maxRecDepth 100000 in
theorem g174_136 : z_go zP 174 136 L S q Q ↔ z_go zP 174 137 L (zi 1 :: S) q Q := ge_x (len := 1) (x := (0, 0, [])) p_174 rfl rfl
set_option maxRecDepth 100000 in
theorem g174_137 : z_go zP 174 137 L (zi b :: zi a :: S) q Q ↔ z_go zP 174 138 L (zi (a + b) :: S) q Q := ge_iadd (len := 1) (x := (0, 0, [])) p_174 rfl
set_option maxRecDepth 100000 in
theorem g174_138 : z_go zP 174 138 L (zi a :: .ref u :: S) q Q ↔ ∃ v, z_at [99, 100] q.1 u (Int32.ofInt a) = some v ∧ z_go zP 174 139 L (v :: S) q Q := ge_iald (len := 1) (x := (0, 0, [])) p_174 rfl
set_option maxRecDepth 100000 in
theorem g174_139 : z_go zP 174 139 [some (.ref u), l1, l2, l3, l4, l5, l6, l7] S q Q ↔ z_go zP 174 140 [some (.ref u), l1, l2, l3, l4, l5, l6, l7] (.ref u :: S) q Q := ge_x (len := 1) (x := (0, 0, [])) p_174 rfl rfl
set_option maxRecDepth 100000 in
theorem g174_140 : z_go zP 174 140 [l0, l1, l2, l3, some (zi a), l5, l6, l7] S q Q ↔ z_go zP 174 142 [l0, l1, l2, l3, some (zi a), l5, l6, l7] (zi a :: S) q Q := ge_x (len := 2) (x := (0, 0, [])) p_174 rfl rfl
set_option maxRecDepth 100000 in
theorem g174_142 : z_go zP 174 142 L S q Q ↔ z_go zP 174 143 L (zi 2 :: S) q Q := ge_x (len := 1) (x := (0, 0, [])) p_174 rfl rfl
set_option maxRecDepth 100000 in
theorem g174_143 : z_go zP 174 143 L (zi b :: zi a :: S) q Q ↔ z_go zP 174 144 L (zi (a + b) :: S) q Q := ge_iadd (len := 1) (x := (0, 0, [])) p_174 rfl
set_option maxRecDepth 100000 in
theorem g174_144 : z_go zP 174 144 L (zi a :: .ref u :: S) q Q ↔ ∃ v, z_at [99, 100] q.1 u (Int32.ofInt a) = some v ∧ z_go zP 174 145 L (v :: S) q Q := ge_iald (len := 1) (x := (0, 0, [])) p_174 rfl
set_option maxRecDepth 100000 in
theorem g174_145 : z_go zP 174 145 [l0, l1, l2, some (.ref u), l4, l5, l6, l7] S q Q ↔ z_go zP 174 146 [l0, l1, l2, some (.ref u), l4, l5, l6, l7] (.ref u :: S) q Q := ge_x (len := 1) (x := (0, 0, [])) p_174 rfl rfl
set_option maxRecDepth 100000 in
theorem g174_146 : z_go zP 174 146 L [.ref w3, zi x2, zi x1, .ref w0] q Q ↔ z_go zP 158 0 [some (.ref w0), some (zi x1), some (zi x2), some (.ref w3), none] [] q (zd 174 149 L [] Q) := (z_go_cl (len := 3) (x := (158, 6, [4])) (k1 := 158) (A := [.ref w0, zi x1, zi x2, .ref w3]) (r := []) p_174 rfl rfl rfl rfl (by simp only [z_cl, List.drop]; rw [if_pos]; rfl; exact by first | exact ⟨by decide, (zwb_le (by show 0 ≤ 4; omega))⟩ | exact ⟨by decide, by show 4 ≤ 4; omega, (zwb_le (by show 0 ≤ 4; omega))⟩) p_158 (by show 4 ≤ 5; omega)).trans (ge_bk_d rfl)
set_option maxRecDepth 100000 in
theorem g174_149 : z_go zP 174 149 [l0, l1, l2, l3, l4, l5, l6, l7] (zi a :: S) q Q ↔ z_go zP 174 151 [l0, l1, l2, l3, (zkl l4), some (zi a), l6, l7] S q Q := (by cases l4 with | none => exact ge_x (len := 2) (x := (0, 0, [])) p_174 rfl rfl | some v => cases v <;> exact ge_x (len := 2) (x := (0, 0, [])) p_174 rfl rfl)
set_option maxRecDepth 100000 in
theorem g174_151 : z_go zP 174 151 [l0, l1, some (.ref u), l3, l4, l5, l6, l7] S q Q ↔ z_go zP 174 152 [l0, l1, some (.ref u), l3, l4, l5, l6, l7] (.ref u :: S) q Q := ge_x (len := 1) (x := (0, 0, [])) p_174 rfl rfl
set_option maxRecDepth 100000 in
theorem g174_152 : z_go zP 174 152 [some (.ref u), l1, l2, l3, l4, l5, l6, l7] S q Q ↔ z_go zP 174 153 [some (.ref u), l1, l2, l3, l4, l5, l6, l7] (.ref u :: S) q Q := ge_x (len := 1) (x := (0, 0, [])) p_174 rfl rfl
set_option maxRecDepth 100000 in
theorem g174_153 : z_go zP 174 153 [l0, l1, l2, l3, some (zi a), l5, l6, l7] S q Q ↔ z_go zP 174 155 [l0, l1, l2, l3, some (zi a), l5, l6, l7] (zi a :: S) q Q := ge_x (len := 2) (x := (0, 0, [])) p_174 rfl rfl
set_option maxRecDepth 100000 in
theorem g174_155 : z_go zP 174 155 L S q Q ↔ z_go zP 174 156 L (zi 1 :: S) q Q := ge_x (len := 1) (x := (0, 0, [])) p_174 rfl rfl
set_option maxRecDepth 100000 in
theorem g174_156 : z_go zP 174 156 L (zi b :: zi a :: S) q Q ↔ z_go zP 174 157 L (zi (a + b) :: S) q Q := ge_iadd (len := 1) (x := (0, 0, [])) p_174 rfl
set_option maxRecDepth 100000 in
theorem g174_157 : z_go zP 174 157 L (zi a :: .ref u :: S) q Q ↔ ∃ v, z_at [99, 100] q.1 u (Int32.ofInt a) = some v ∧ z_go zP 174 158 L (v :: S) q Q := ge_iald (len := 1) (x := (0, 0, [])) p_174 rfl
set_option maxRecDepth 100000 in
theorem g174_158 : z_go zP 174 158 [some (.ref u), l1, l2, l3, l4, l5, l6, l7] S q Q ↔ z_go zP 174 159 [some (.ref u), l1, l2, l3, l4, l5, l6, l7] (.ref u :: S) q Q := ge_x (len := 1) (x := (0, 0, [])) p_174 rfl rfl
set_option maxRecDepth 100000 in
theorem g174_159 : z_go zP 174 159 [l0, l1, l2, l3, some (zi a), l5, l6, l7] S q Q ↔ z_go zP 174 161 [l0, l1, l2, l3, some (zi a), l5, l6, l7] (zi a :: S) q Q := ge_x (len := 2) (x := (0, 0, [])) p_174 rfl rfl
set_option maxRecDepth 100000 in
theorem g174_161 : z_go zP 174 161 L S q Q ↔ z_go zP 174 162 L (zi 2 :: S) q Q := ge_x (len := 1) (x := (0, 0, [])) p_174 rfl rfl
set_option maxRecDepth 100000 in
theorem g174_162 : z_go zP 174 162 L (zi b :: zi a :: S) q Q ↔ z_go zP 174 163 L (zi (a + b) :: S) q Q := ge_iadd (len := 1) (x := (0, 0, [])) p_174 rfl
set_option maxRecDepth 100000 in
theorem g174_163 : z_go zP 174 163 L (zi a :: .ref u :: S) q Q ↔ ∃ v, z_at [99, 100] q.1 u (Int32.ofInt a) = some v ∧ z_go zP 174 164 L (v :: S) q Q := ge_iald (len := 1) (x := (0, 0, [])) p_174 rfl
set_option maxRecDepth 100000 in
theorem g174_164 : z_go zP 174 164 L [zi x1, zi x0, .ref u] q Q ↔ z_tg q.1 u = some 9 ∧ z_go zP 104 0 [some (.ref u), some (zi x0), some (zi x1), none] [] q (zc 174 167 L [] Q) := ge_vc (len := 3) (pc := 164) (S := [zi x1, zi x0, .ref u]) (u := u) (k1 := 104) (A := [.ref u, zi x0, zi x1]) (r := []) (tag := 9) (n0 := 2) (zwb_le (by show 0 ≤ 4; omega)) p_174 rfl rfl rfl p_104 (by show 3 ≤ 4; omega) rfl
set_option maxRecDepth 100000 in
theorem g174_167 : z_go zP 174 167 [l0, l1, l2, l3, l4, l5, l6, l7] (zi a :: S) q Q ↔ z_go zP 174 169 [l0, l1, l2, l3, l4, (zkl l5), some (zi a), l7] S q Q := (by cases l5 with | none => exact ge_x (len := 2) (x := (0, 0, [])) p_174 rfl rfl | some v => cases v <;> exact ge_x (len := 2) (x := (0, 0, [])) p_174 rfl rfl)
set_option maxRecDepth 100000 in
theorem g174_169 : z_go zP 174 169 [l0, l1, some (.ref u), l3, l4, l5, l6, l7] S q Q ↔ z_go zP 174 170 [l0, l1, some (.ref u), l3, l4, l5, l6, l7] (.ref u :: S) q Q := ge_x (len := 1) (x := (0, 0, [])) p_174 rfl rfl
set_option maxRecDepth 100000 in
theorem g174_170 : z_go zP 174 170 L [.ref u] q Q ↔ z_tg q.1 u = some 9 ∧ z_go zP 95 0 [some (.ref u)] [] q (zc 174 173 L [] Q) := ge_vc (len := 3) (pc := 170) (S := [.ref u]) (u := u) (k1 := 95) (A := [.ref u]) (r := []) (tag := 9) (n0 := 0) (zwb_le (by show 0 ≤ 4; omega)) p_174 rfl rfl rfl p_95 (by show 1 ≤ 1; omega) rfl
set_option maxRecDepth 100000 in
theorem g174_173 : z_go zP 174 173 [l0, l1, l2, l3, l4, some (zi a), l6, l7] S q Q ↔ z_go zP 174 175 [l0, l1, l2, l3, l4, some (zi a), l6, l7] (zi a :: S) q Q := ge_x (len := 2) (x := (0, 0, [])) p_174 rfl rfl
set_option maxRecDepth 100000 in
theorem g174_175 (a1 : -2147483648 ≤ a) (a2 : a < 2147483648) (b1 : -2147483648 ≤ b) (b2 : b < 2147483648) : z_go zP 174 175 L (zi b :: zi a :: S) q Q ↔ if a = b then z_go zP 174 180 L S q Q else z_go zP 174 178 L S q Q := ge_ic_eq (len := 3) (x := (0, 0, [])) a1 a2 b1 b2 p_174 rfl rfl
set_option maxRecDepth 100000 in
theorem g174_178 : z_go zP 174 178 L S q Q ↔ z_go zP 174 179 L (zi 0 :: S) q Q := ge_x (len := 1) (x := (0, 0, [])) p_174 rfl rfl
set_option maxRecDepth 100000 in
theorem g174_179_0 : z_go zP 174 179 L [zi 0] q Q ↔ Q (.inl (some (zi 0))) q := z_go_rt (len := 1) (x := (0, 0, [])) p_174 rfl rfl rfl
set_option maxRecDepth 100000 in
theorem g174_179_1 : z_go zP 174 179 L [zi 1] q Q ↔ Q (.inl (some (zi 1))) q := z_go_rt (len := 1) (x := (0, 0, [])) p_174 rfl rfl rfl
set_option maxRecDepth 100000 in
theorem g174_179b {c : Prop} [Decidable c] : z_go zP 174 179 L [zi (bI c)] q Q ↔ Q (.inl (some (zi (bI c)))) q := (by rcases bI_01 (c := c) with h | h <;> rw [h] <;> exact z_go_rt (len := 1) (x := (0, 0, [])) p_174 rfl rfl rfl)
set_option maxRecDepth 100000 in
theorem g174_180 : z_go zP 174 180 [l0, l1, l2, l3, l4, some (zi a), l6, l7] S q Q ↔ z_go zP 174 182 [l0, l1, l2, l3, l4, some (zi a), l6, l7] (zi a :: S) q Q := ge_x (len := 2) (x := (0, 0, [])) p_174 rfl rfl
set_option maxRecDepth 100000 in
theorem g174_182 (a1 : -2147483648 ≤ a) (a2 : a < 2147483648) : z_go zP 174 182 L (zi a :: S) q Q ↔ if ¬ a = 0 then z_go zP 174 197 L S q Q else z_go zP 174 185 L S q Q := ge_if_ne (len := 3) (x := (0, 0, [])) a1 a2 p_174 rfl rfl
set_option maxRecDepth 100000 in
theorem g174_182b {c : Prop} [Decidable c] : z_go zP 174 182 L (zi (bI c) :: S) q Q ↔ if c then z_go zP 174 197 L S q Q else z_go zP 174 185 L S q Q := ge_if_ne_b (len := 3) (x := (0, 0, [])) p_174 rfl rfl
set_option maxRecDepth 100000 in
theorem g174_185 : z_go zP 174 185 [l0, l1, l2, some (.ref u), l4, l5, l6, l7] S q Q ↔ z_go zP 174 186 [l0, l1, l2, some (.ref u), l4, l5, l6, l7] (.ref u :: S) q Q := ge_x (len := 1) (x := (0, 0, [])) p_174 rfl rfl
set_option maxRecDepth 100000 in
theorem g174_186 : z_go zP 174 186 L S q Q ↔ z_go zP 174 187 L (zi 0 :: S) q Q := ge_x (len := 1) (x := (0, 0, [])) p_174 rfl rfl
set_option maxRecDepth 100000 in
theorem g174_187 : z_go zP 174 187 L (zi a :: .ref u :: S) q Q ↔ ∃ v, z_at [101] q.1 u (Int32.ofInt a) = some v ∧ z_go zP 174 188 L (v :: S) q Q := ge_lald (len := 1) (x := (0, 0, [])) p_174 rfl
set_option maxRecDepth 100000 in
theorem g174_188 : z_go zP 174 188 [l0, l1, l2, l3, l4, l5, some (zi a), l7] S q Q ↔ z_go zP 174 190 [l0, l1, l2, l3, l4, l5, some (zi a), l7] (zi a :: S) q Q := ge_x (len := 2) (x := (0, 0, [])) p_174 rfl rfl
set_option maxRecDepth 100000 in
theorem g174_190 (a1 : -2147483648 ≤ a) (a2 : a < 2147483648) : z_go zP 174 190 L (zi a :: S) q Q ↔ z_go zP 174 191 L (zl a :: S) q Q := ge_i2l (len := 1) (x := (0, 0, [])) a1 a2 p_174 rfl
set_option maxRecDepth 100000 in
theorem g174_191 (a1 : -9223372036854775808 ≤ a) (a2 : a < 9223372036854775808) (b1 : -9223372036854775808 ≤ b) (b2 : b < 9223372036854775808) : z_go zP 174 191 L (zl b :: zl a :: S) q Q ↔ if a = b then z_go zP 174 197 L S q Q else z_go zP 174 195 L S q Q := ge_lc_eq (len := 1) (x := (0, 0, [])) (p2 := 192) (l2 := 3) a1 a2 b1 b2 p_174 rfl rfl rfl rfl
set_option maxRecDepth 100000 in
theorem g174_195 : z_go zP 174 195 L S q Q ↔ z_go zP 174 196 L (zi 0 :: S) q Q := ge_x (len := 1) (x := (0, 0, [])) p_174 rfl rfl
set_option maxRecDepth 100000 in
theorem g174_196_0 : z_go zP 174 196 L [zi 0] q Q ↔ Q (.inl (some (zi 0))) q := z_go_rt (len := 1) (x := (0, 0, [])) p_174 rfl rfl rfl
set_option maxRecDepth 100000 in
theorem g174_196_1 : z_go zP 174 196 L [zi 1] q Q ↔ Q (.inl (some (zi 1))) q := z_go_rt (len := 1) (x := (0, 0, [])) p_174 rfl rfl rfl
set_option maxRecDepth 100000 in
theorem g174_196b {c : Prop} [Decidable c] : z_go zP 174 196 L [zi (bI c)] q Q ↔ Q (.inl (some (zi (bI c)))) q := (by rcases bI_01 (c := c) with h | h <;> rw [h] <;> exact z_go_rt (len := 1) (x := (0, 0, [])) p_174 rfl rfl rfl)
set_option maxRecDepth 100000 in
theorem g174_197 : z_go zP 174 197 L S q Q ↔ z_go zP 174 1398 L S q Q := ge_to (len := 3) (x := (0, 0, [])) p_174 rfl rfl rfl
set_option maxRecDepth 100000 in
theorem g174_200 : z_go zP 174 200 [l0, some (.ref u), l2, l3, l4, l5, l6, l7] S q Q ↔ z_go zP 174 201 [l0, some (.ref u), l2, l3, l4, l5, l6, l7] (.ref u :: S) q Q := ge_x (len := 1) (x := (0, 0, [])) p_174 rfl rfl
set_option maxRecDepth 100000 in
theorem g174_201 : z_go zP 174 201 [some (.ref u), l1, l2, l3, l4, l5, l6, l7] S q Q ↔ z_go zP 174 202 [some (.ref u), l1, l2, l3, l4, l5, l6, l7] (.ref u :: S) q Q := ge_x (len := 1) (x := (0, 0, [])) p_174 rfl rfl
set_option maxRecDepth 100000 in
theorem g174_202 : z_go zP 174 202 [l0, l1, l2, l3, some (zi a), l5, l6, l7] S q Q ↔ z_go zP 174 204 [l0, l1, l2, l3, some (zi a), l5, l6, l7] (zi a :: S) q Q := ge_x (len := 2) (x := (0, 0, [])) p_174 rfl rfl
set_option maxRecDepth 100000 in
theorem g174_204 : z_go zP 174 204 L S q Q ↔ z_go zP 174 205 L (zi 1 :: S) q Q := ge_x (len := 1) (x := (0, 0, [])) p_174 rfl rfl
set_option maxRecDepth 100000 in
theorem g174_205 : z_go zP 174 205 L (zi b :: zi a :: S) q Q ↔ z_go zP 174 206 L (zi (a + b) :: S) q Q := ge_iadd (len := 1) (x := (0, 0, [])) p_174 rfl
set_option maxRecDepth 100000 in
theorem g174_206 : z_go zP 174 206 L (zi a :: .ref u :: S) q Q ↔ ∃ v, z_at [99, 100] q.1 u (Int32.ofInt a) = some v ∧ z_go zP 174 207 L (v :: S) q Q := ge_iald (len := 1) (x := (0, 0, [])) p_174 rfl
set_option maxRecDepth 100000 in
theorem g174_207 : z_go zP 174 207 [l0, l1, l2, some (.ref u), l4, l5, l6, l7] S q Q ↔ z_go zP 174 208 [l0, l1, l2, some (.ref u), l4, l5, l6, l7] (.ref u :: S) q Q := ge_x (len := 1) (x := (0, 0, [])) p_174 rfl rfl
set_option maxRecDepth 100000 in
theorem g174_208 : z_go zP 174 208 L [.ref w2, zi x1, .ref w0] q Q ↔ z_go zP 159 0 [some (.ref w0), some (zi x1), some (.ref w2), none] [] q (zd 174 211 L [] Q) := (z_go_cl (len := 3) (x := (159, 6, [3])) (k1 := 159) (A := [.ref w0, zi x1, .ref w2]) (r := []) p_174 rfl rfl rfl rfl (by simp only [z_cl, List.drop]; rw [if_pos]; rfl; exact by first | exact ⟨by decide, (zwb_le (by show 0 ≤ 4; omega))⟩ | exact ⟨by decide, by show 3 ≤ 3; omega, (zwb_le (by show 0 ≤ 4; omega))⟩) p_159 (by show 3 ≤ 4; omega)).trans (ge_bk_d rfl)
set_option maxRecDepth 100000 in
theorem g174_211 : z_go zP 174 211 [l0, l1, l2, l3, l4, l5, l6, l7] (zi a :: S) q Q ↔ z_go zP 174 213 [l0, l1, l2, l3, (zkl l4), some (zi a), l6, l7] S q Q := (by cases l4 with | none => exact ge_x (len := 2) (x := (0, 0, [])) p_174 rfl rfl | some v => cases v <;> exact ge_x (len := 2) (x := (0, 0, [])) p_174 rfl rfl)
set_option maxRecDepth 100000 in
theorem g174_213 : z_go zP 174 213 [l0, l1, some (.ref u), l3, l4, l5, l6, l7] S q Q ↔ z_go zP 174 214 [l0, l1, some (.ref u), l3, l4, l5, l6, l7] (.ref u :: S) q Q := ge_x (len := 1) (x := (0, 0, [])) p_174 rfl rfl
set_option maxRecDepth 100000 in
theorem g174_214 : z_go zP 174 214 [some (.ref u), l1, l2, l3, l4, l5, l6, l7] S q Q ↔ z_go zP 174 215 [some (.ref u), l1, l2, l3, l4, l5, l6, l7] (.ref u :: S) q Q := ge_x (len := 1) (x := (0, 0, [])) p_174 rfl rfl
set_option maxRecDepth 100000 in
theorem g174_215 : z_go zP 174 215 [l0, l1, l2, l3, some (zi a), l5, l6, l7] S q Q ↔ z_go zP 174 217 [l0, l1, l2, l3, some (zi a), l5, l6, l7] (zi a :: S) q Q := ge_x (len := 2) (x := (0, 0, [])) p_174 rfl rfl
set_option maxRecDepth 100000 in
theorem g174_217 : z_go zP 174 217 L S q Q ↔ z_go zP 174 218 L (zi 1 :: S) q Q := ge_x (len := 1) (x := (0, 0, [])) p_174 rfl rfl
set_option maxRecDepth 100000 in
theorem g174_218 : z_go zP 174 218 L (zi b :: zi a :: S) q Q ↔ z_go zP 174 219 L (zi (a + b) :: S) q Q := ge_iadd (len := 1) (x := (0, 0, [])) p_174 rfl
set_option maxRecDepth 100000 in
theorem g174_219 : z_go zP 174 219 L (zi a :: .ref u :: S) q Q ↔ ∃ v, z_at [99, 100] q.1 u (Int32.ofInt a) = some v ∧ z_go zP 174 220 L (v :: S) q Q := ge_iald (len := 1) (x := (0, 0, [])) p_174 rfl
set_option maxRecDepth 100000 in
theorem g174_220 : z_go zP 174 220 L [zi x0, .ref u] q Q ↔ z_tg q.1 u = some 9 ∧ z_go zP 105 0 [some (.ref u), some (zi x0), none] [] q (zc 174 223 L [] Q) := ge_vc (len := 3) (pc := 220) (S := [zi x0, .ref u]) (u := u) (k1 := 105) (A := [.ref u, zi x0]) (r := []) (tag := 9) (n0 := 1) (zwb_le (by show 0 ≤ 4; omega)) p_174 rfl rfl rfl p_105 (by show 2 ≤ 3; omega) rfl
set_option maxRecDepth 100000 in
theorem g174_223 : z_go zP 174 223 [l0, l1, l2, l3, l4, l5, l6, l7] (zi a :: S) q Q ↔ z_go zP 174 225 [l0, l1, l2, l3, l4, (zkl l5), some (zi a), l7] S q Q := (by cases l5 with | none => exact ge_x (len := 2) (x := (0, 0, [])) p_174 rfl rfl | some v => cases v <;> exact ge_x (len := 2) (x := (0, 0, [])) p_174 rfl rfl)
set_option maxRecDepth 100000 in
theorem g174_225 : z_go zP 174 225 [l0, l1, some (.ref u), l3, l4, l5, l6, l7] S q Q ↔ z_go zP 174 226 [l0, l1, some (.ref u), l3, l4, l5, l6, l7] (.ref u :: S) q Q := ge_x (len := 1) (x := (0, 0, [])) p_174 rfl rfl
set_option maxRecDepth 100000 in
theorem g174_226 : z_go zP 174 226 L [.ref u] q Q ↔ z_tg q.1 u = some 9 ∧ z_go zP 95 0 [some (.ref u)] [] q (zc 174 229 L [] Q) := ge_vc (len := 3) (pc := 226) (S := [.ref u]) (u := u) (k1 := 95) (A := [.ref u]) (r := []) (tag := 9) (n0 := 0) (zwb_le (by show 0 ≤ 4; omega)) p_174 rfl rfl rfl p_95 (by show 1 ≤ 1; omega) rfl
set_option maxRecDepth 100000 in
theorem g174_229 : z_go zP 174 229 [l0, l1, l2, l3, l4, some (zi a), l6, l7] S q Q ↔ z_go zP 174 231 [l0, l1, l2, l3, l4, some (zi a), l6, l7] (zi a :: S) q Q := ge_x (len := 2) (x := (0, 0, [])) p_174 rfl rfl
set_option maxRecDepth 100000 in
theorem g174_231 (a1 : -2147483648 ≤ a) (a2 : a < 2147483648) (b1 : -2147483648 ≤ b) (b2 : b < 2147483648) : z_go zP 174 231 L (zi b :: zi a :: S) q Q ↔ if a = b then z_go zP 174 236 L S q Q else z_go zP 174 234 L S q Q := ge_ic_eq (len := 3) (x := (0, 0, [])) a1 a2 b1 b2 p_174 rfl rfl
set_option maxRecDepth 100000 in
theorem g174_234 : z_go zP 174 234 L S q Q ↔ z_go zP 174 235 L (zi 0 :: S) q Q := ge_x (len := 1) (x := (0, 0, [])) p_174 rfl rfl
set_option maxRecDepth 100000 in
theorem g174_235_0 : z_go zP 174 235 L [zi 0] q Q ↔ Q (.inl (some (zi 0))) q := z_go_rt (len := 1) (x := (0, 0, [])) p_174 rfl rfl rfl
set_option maxRecDepth 100000 in
theorem g174_235_1 : z_go zP 174 235 L [zi 1] q Q ↔ Q (.inl (some (zi 1))) q := z_go_rt (len := 1) (x := (0, 0, [])) p_174 rfl rfl rfl
set_option maxRecDepth 100000 in
theorem g174_235b {c : Prop} [Decidable c] : z_go zP 174 235 L [zi (bI c)] q Q ↔ Q (.inl (some (zi (bI c)))) q := (by rcases bI_01 (c := c) with h | h <;> rw [h] <;> exact z_go_rt (len := 1) (x := (0, 0, [])) p_174 rfl rfl rfl)
set_option maxRecDepth 100000 in
theorem g174_236 : z_go zP 174 236 [l0, l1, l2, l3, l4, some (zi a), l6, l7] S q Q ↔ z_go zP 174 238 [l0, l1, l2, l3, l4, some (zi a), l6, l7] (zi a :: S) q Q := ge_x (len := 2) (x := (0, 0, [])) p_174 rfl rfl
set_option maxRecDepth 100000 in
theorem g174_238 (a1 : -2147483648 ≤ a) (a2 : a < 2147483648) : z_go zP 174 238 L (zi a :: S) q Q ↔ if ¬ a = 0 then z_go zP 174 253 L S q Q else z_go zP 174 241 L S q Q := ge_if_ne (len := 3) (x := (0, 0, [])) a1 a2 p_174 rfl rfl
set_option maxRecDepth 100000 in
theorem g174_238b {c : Prop} [Decidable c] : z_go zP 174 238 L (zi (bI c) :: S) q Q ↔ if c then z_go zP 174 253 L S q Q else z_go zP 174 241 L S q Q := ge_if_ne_b (len := 3) (x := (0, 0, [])) p_174 rfl rfl
set_option maxRecDepth 100000 in
theorem g174_241 : z_go zP 174 241 [l0, l1, l2, some (.ref u), l4, l5, l6, l7] S q Q ↔ z_go zP 174 242 [l0, l1, l2, some (.ref u), l4, l5, l6, l7] (.ref u :: S) q Q := ge_x (len := 1) (x := (0, 0, [])) p_174 rfl rfl
set_option maxRecDepth 100000 in
theorem g174_242 : z_go zP 174 242 L S q Q ↔ z_go zP 174 243 L (zi 0 :: S) q Q := ge_x (len := 1) (x := (0, 0, [])) p_174 rfl rfl
set_option maxRecDepth 100000 in
theorem g174_243 : z_go zP 174 243 L (zi a :: .ref u :: S) q Q ↔ ∃ v, z_at [101] q.1 u (Int32.ofInt a) = some v ∧ z_go zP 174 244 L (v :: S) q Q := ge_lald (len := 1) (x := (0, 0, [])) p_174 rfl
set_option maxRecDepth 100000 in
theorem g174_244 : z_go zP 174 244 [l0, l1, l2, l3, l4, l5, some (zi a), l7] S q Q ↔ z_go zP 174 246 [l0, l1, l2, l3, l4, l5, some (zi a), l7] (zi a :: S) q Q := ge_x (len := 2) (x := (0, 0, [])) p_174 rfl rfl
set_option maxRecDepth 100000 in
theorem g174_246 (a1 : -2147483648 ≤ a) (a2 : a < 2147483648) : z_go zP 174 246 L (zi a :: S) q Q ↔ z_go zP 174 247 L (zl a :: S) q Q := ge_i2l (len := 1) (x := (0, 0, [])) a1 a2 p_174 rfl
set_option maxRecDepth 100000 in
theorem g174_247 (a1 : -9223372036854775808 ≤ a) (a2 : a < 9223372036854775808) (b1 : -9223372036854775808 ≤ b) (b2 : b < 9223372036854775808) : z_go zP 174 247 L (zl b :: zl a :: S) q Q ↔ if a = b then z_go zP 174 253 L S q Q else z_go zP 174 251 L S q Q := ge_lc_eq (len := 1) (x := (0, 0, [])) (p2 := 248) (l2 := 3) a1 a2 b1 b2 p_174 rfl rfl rfl rfl
set_option maxRecDepth 100000 in
theorem g174_251 : z_go zP 174 251 L S q Q ↔ z_go zP 174 252 L (zi 0 :: S) q Q := ge_x (len := 1) (x := (0, 0, [])) p_174 rfl rfl
set_option maxRecDepth 100000 in
theorem g174_252_0 : z_go zP 174 252 L [zi 0] q Q ↔ Q (.inl (some (zi 0))) q := z_go_rt (len := 1) (x := (0, 0, [])) p_174 rfl rfl rfl
set_option maxRecDepth 100000 in
theorem g174_252_1 : z_go zP 174 252 L [zi 1] q Q ↔ Q (.inl (some (zi 1))) q := z_go_rt (len := 1) (x := (0, 0, [])) p_174 rfl rfl rfl
set_option maxRecDepth 100000 in
theorem g174_252b {c : Prop} [Decidable c] : z_go zP 174 252 L [zi (bI c)] q Q ↔ Q (.inl (some (zi (bI c)))) q := (by rcases bI_01 (c := c) with h | h <;> rw [h] <;> exact z_go_rt (len := 1) (x := (0, 0, [])) p_174 rfl rfl rfl)
set_option maxRecDepth 100000 in
theorem g174_253 : z_go zP 174 253 L S q Q ↔ z_go zP 174 1398 L S q Q := ge_to (len := 3) (x := (0, 0, [])) p_174 rfl rfl rfl
set_option maxRecDepth 100000 in
theorem g174_256 : z_go zP 174 256 [l0, some (.ref u), l2, l3, l4, l5, l6, l7] S q Q ↔ z_go zP 174 257 [l0, some (.ref u), l2, l3, l4, l5, l6, l7] (.ref u :: S) q Q := ge_x (len := 1) (x := (0, 0, [])) p_174 rfl rfl
set_option maxRecDepth 100000 in
theorem g174_257 : z_go zP 174 257 [some (.ref u), l1, l2, l3, l4, l5, l6, l7] S q Q ↔ z_go zP 174 258 [some (.ref u), l1, l2, l3, l4, l5, l6, l7] (.ref u :: S) q Q := ge_x (len := 1) (x := (0, 0, [])) p_174 rfl rfl
set_option maxRecDepth 100000 in
theorem g174_258 : z_go zP 174 258 [l0, l1, l2, l3, some (zi a), l5, l6, l7] S q Q ↔ z_go zP 174 260 [l0, l1, l2, l3, some (zi a), l5, l6, l7] (zi a :: S) q Q := ge_x (len := 2) (x := (0, 0, [])) p_174 rfl rfl
set_option maxRecDepth 100000 in
theorem g174_260 : z_go zP 174 260 L S q Q ↔ z_go zP 174 261 L (zi 1 :: S) q Q := ge_x (len := 1) (x := (0, 0, [])) p_174 rfl rfl
set_option maxRecDepth 100000 in
theorem g174_261 : z_go zP 174 261 L (zi b :: zi a :: S) q Q ↔ z_go zP 174 262 L (zi (a + b) :: S) q Q := ge_iadd (len := 1) (x := (0, 0, [])) p_174 rfl
set_option maxRecDepth 100000 in
theorem g174_262 : z_go zP 174 262 L (zi a :: .ref u :: S) q Q ↔ ∃ v, z_at [99, 100] q.1 u (Int32.ofInt a) = some v ∧ z_go zP 174 263 L (v :: S) q Q := ge_iald (len := 1) (x := (0, 0, [])) p_174 rfl
set_option maxRecDepth 100000 in
theorem g174_263 : z_go zP 174 263 [some (.ref u), l1, l2, l3, l4, l5, l6, l7] S q Q ↔ z_go zP 174 264 [some (.ref u), l1, l2, l3, l4, l5, l6, l7] (.ref u :: S) q Q := ge_x (len := 1) (x := (0, 0, [])) p_174 rfl rfl
set_option maxRecDepth 100000 in
theorem g174_264 : z_go zP 174 264 [l0, l1, l2, l3, some (zi a), l5, l6, l7] S q Q ↔ z_go zP 174 266 [l0, l1, l2, l3, some (zi a), l5, l6, l7] (zi a :: S) q Q := ge_x (len := 2) (x := (0, 0, [])) p_174 rfl rfl
set_option maxRecDepth 100000 in
theorem g174_266 : z_go zP 174 266 L S q Q ↔ z_go zP 174 267 L (zi 2 :: S) q Q := ge_x (len := 1) (x := (0, 0, [])) p_174 rfl rfl
set_option maxRecDepth 100000 in
theorem g174_267 : z_go zP 174 267 L (zi b :: zi a :: S) q Q ↔ z_go zP 174 268 L (zi (a + b) :: S) q Q := ge_iadd (len := 1) (x := (0, 0, [])) p_174 rfl
set_option maxRecDepth 100000 in
theorem g174_268 : z_go zP 174 268 L (zi a :: .ref u :: S) q Q ↔ ∃ v, z_at [99, 100] q.1 u (Int32.ofInt a) = some v ∧ z_go zP 174 269 L (v :: S) q Q := ge_iald (len := 1) (x := (0, 0, [])) p_174 rfl
set_option maxRecDepth 100000 in
theorem g174_269 : z_go zP 174 269 [some (.ref u), l1, l2, l3, l4, l5, l6, l7] S q Q ↔ z_go zP 174 270 [some (.ref u), l1, l2, l3, l4, l5, l6, l7] (.ref u :: S) q Q := ge_x (len := 1) (x := (0, 0, [])) p_174 rfl rfl
set_option maxRecDepth 100000 in
theorem g174_270 : z_go zP 174 270 [l0, l1, l2, l3, some (zi a), l5, l6, l7] S q Q ↔ z_go zP 174 272 [l0, l1, l2, l3, some (zi a), l5, l6, l7] (zi a :: S) q Q := ge_x (len := 2) (x := (0, 0, [])) p_174 rfl rfl
set_option maxRecDepth 100000 in
theorem g174_272 : z_go zP 174 272 L S q Q ↔ z_go zP 174 273 L (zi 3 :: S) q Q := ge_x (len := 1) (x := (0, 0, [])) p_174 rfl rfl
set_option maxRecDepth 100000 in
theorem g174_273 : z_go zP 174 273 L (zi b :: zi a :: S) q Q ↔ z_go zP 174 274 L (zi (a + b) :: S) q Q := ge_iadd (len := 1) (x := (0, 0, [])) p_174 rfl
set_option maxRecDepth 100000 in
theorem g174_274 : z_go zP 174 274 L (zi a :: .ref u :: S) q Q ↔ ∃ v, z_at [99, 100] q.1 u (Int32.ofInt a) = some v ∧ z_go zP 174 275 L (v :: S) q Q := ge_iald (len := 1) (x := (0, 0, [])) p_174 rfl
set_option maxRecDepth 100000 in
theorem g174_275 : z_go zP 174 275 [some (.ref u), l1, l2, l3, l4, l5, l6, l7] S q Q ↔ z_go zP 174 276 [some (.ref u), l1, l2, l3, l4, l5, l6, l7] (.ref u :: S) q Q := ge_x (len := 1) (x := (0, 0, [])) p_174 rfl rfl
set_option maxRecDepth 100000 in
theorem g174_276 : z_go zP 174 276 [l0, l1, l2, l3, some (zi a), l5, l6, l7] S q Q ↔ z_go zP 174 278 [l0, l1, l2, l3, some (zi a), l5, l6, l7] (zi a :: S) q Q := ge_x (len := 2) (x := (0, 0, [])) p_174 rfl rfl
set_option maxRecDepth 100000 in
theorem g174_278 : z_go zP 174 278 L S q Q ↔ z_go zP 174 279 L (zi 4 :: S) q Q := ge_x (len := 1) (x := (0, 0, [])) p_174 rfl rfl
set_option maxRecDepth 100000 in
theorem g174_279 : z_go zP 174 279 L (zi b :: zi a :: S) q Q ↔ z_go zP 174 280 L (zi (a + b) :: S) q Q := ge_iadd (len := 1) (x := (0, 0, [])) p_174 rfl
set_option maxRecDepth 100000 in
theorem g174_280 : z_go zP 174 280 L (zi a :: .ref u :: S) q Q ↔ ∃ v, z_at [99, 100] q.1 u (Int32.ofInt a) = some v ∧ z_go zP 174 281 L (v :: S) q Q := ge_iald (len := 1) (x := (0, 0, [])) p_174 rfl
set_option maxRecDepth 100000 in
theorem g174_281 : z_go zP 174 281 [some (.ref u), l1, l2, l3, l4, l5, l6, l7] S q Q ↔ z_go zP 174 282 [some (.ref u), l1, l2, l3, l4, l5, l6, l7] (.ref u :: S) q Q := ge_x (len := 1) (x := (0, 0, [])) p_174 rfl rfl
set_option maxRecDepth 100000 in
theorem g174_282 : z_go zP 174 282 [l0, l1, l2, l3, some (zi a), l5, l6, l7] S q Q ↔ z_go zP 174 284 [l0, l1, l2, l3, some (zi a), l5, l6, l7] (zi a :: S) q Q := ge_x (len := 2) (x := (0, 0, [])) p_174 rfl rfl
set_option maxRecDepth 100000 in
theorem g174_284 : z_go zP 174 284 L S q Q ↔ z_go zP 174 285 L (zi 5 :: S) q Q := ge_x (len := 1) (x := (0, 0, [])) p_174 rfl rfl
set_option maxRecDepth 100000 in
theorem g174_285 : z_go zP 174 285 L (zi b :: zi a :: S) q Q ↔ z_go zP 174 286 L (zi (a + b) :: S) q Q := ge_iadd (len := 1) (x := (0, 0, [])) p_174 rfl
set_option maxRecDepth 100000 in
theorem g174_286 : z_go zP 174 286 L (zi a :: .ref u :: S) q Q ↔ ∃ v, z_at [99, 100] q.1 u (Int32.ofInt a) = some v ∧ z_go zP 174 287 L (v :: S) q Q := ge_iald (len := 1) (x := (0, 0, [])) p_174 rfl
set_option maxRecDepth 100000 in
theorem g174_287 : z_go zP 174 287 [some (.ref u), l1, l2, l3, l4, l5, l6, l7] S q Q ↔ z_go zP 174 288 [some (.ref u), l1, l2, l3, l4, l5, l6, l7] (.ref u :: S) q Q := ge_x (len := 1) (x := (0, 0, [])) p_174 rfl rfl
set_option maxRecDepth 100000 in
theorem g174_288 : z_go zP 174 288 [l0, l1, l2, l3, some (zi a), l5, l6, l7] S q Q ↔ z_go zP 174 290 [l0, l1, l2, l3, some (zi a), l5, l6, l7] (zi a :: S) q Q := ge_x (len := 2) (x := (0, 0, [])) p_174 rfl rfl
set_option maxRecDepth 100000 in
theorem g174_290 : z_go zP 174 290 L S q Q ↔ z_go zP 174 292 L (zi 6 :: S) q Q := ge_x (len := 2) (x := (0, 0, [])) p_174 rfl rfl
set_option maxRecDepth 100000 in
theorem g174_292 : z_go zP 174 292 L (zi b :: zi a :: S) q Q ↔ z_go zP 174 293 L (zi (a + b) :: S) q Q := ge_iadd (len := 1) (x := (0, 0, [])) p_174 rfl
set_option maxRecDepth 100000 in
theorem g174_293 : z_go zP 174 293 L (zi a :: .ref u :: S) q Q ↔ ∃ v, z_at [99, 100] q.1 u (Int32.ofInt a) = some v ∧ z_go zP 174 294 L (v :: S) q Q := ge_iald (len := 1) (x := (0, 0, [])) p_174 rfl
set_option maxRecDepth 100000 in
theorem g174_294 : z_go zP 174 294 [l0, l1, l2, some (.ref u), l4, l5, l6, l7] S q Q ↔ z_go zP 174 295 [l0, l1, l2, some (.ref u), l4, l5, l6, l7] (.ref u :: S) q Q := ge_x (len := 1) (x := (0, 0, [])) p_174 rfl rfl
set_option maxRecDepth 100000 in
theorem g174_295 : z_go zP 174 295 L [.ref w7, zi x6, zi x5, zi x4, zi x3, zi x2, zi x1, .ref w0] q Q ↔ z_go zP 160 0 [some (.ref w0), some (zi x1), some (zi x2), some (zi x3), some (zi x4), some (zi x5), some (zi x6), some (.ref w7), none] [] q (zd 174 298 L [] Q) := (z_go_cl (len := 3) (x := (160, 6, [8])) (k1 := 160) (A := [.ref w0, zi x1, zi x2, zi x3, zi x4, zi x5, zi x6, .ref w7]) (r := []) p_174 rfl rfl rfl rfl (by simp only [z_cl, List.drop]; rw [if_pos]; rfl; exact by first | exact ⟨by decide, (zwb_le (by show 0 ≤ 4; omega))⟩ | exact ⟨by decide, by show 8 ≤ 8; omega, (zwb_le (by show 0 ≤ 4; omega))⟩) p_160 (by show 8 ≤ 9; omega)).trans (ge_bk_d rfl)
set_option maxRecDepth 100000 in
theorem g174_298 : z_go zP 174 298 [l0, l1, l2, l3, l4, l5, l6, l7] (zi a :: S) q Q ↔ z_go zP 174 300 [l0, l1, l2, l3, (zkl l4), some (zi a), l6, l7] S q Q := (by cases l4 with | none => exact ge_x (len := 2) (x := (0, 0, [])) p_174 rfl rfl | some v => cases v <;> exact ge_x (len := 2) (x := (0, 0, [])) p_174 rfl rfl)
set_option maxRecDepth 100000 in
theorem g174_300 : z_go zP 174 300 [l0, l1, some (.ref u), l3, l4, l5, l6, l7] S q Q ↔ z_go zP 174 301 [l0, l1, some (.ref u), l3, l4, l5, l6, l7] (.ref u :: S) q Q := ge_x (len := 1) (x := (0, 0, [])) p_174 rfl rfl
set_option maxRecDepth 100000 in
theorem g174_301 : z_go zP 174 301 [some (.ref u), l1, l2, l3, l4, l5, l6, l7] S q Q ↔ z_go zP 174 302 [some (.ref u), l1, l2, l3, l4, l5, l6, l7] (.ref u :: S) q Q := ge_x (len := 1) (x := (0, 0, [])) p_174 rfl rfl
set_option maxRecDepth 100000 in
theorem g174_302 : z_go zP 174 302 [l0, l1, l2, l3, some (zi a), l5, l6, l7] S q Q ↔ z_go zP 174 304 [l0, l1, l2, l3, some (zi a), l5, l6, l7] (zi a :: S) q Q := ge_x (len := 2) (x := (0, 0, [])) p_174 rfl rfl
set_option maxRecDepth 100000 in
theorem g174_304 : z_go zP 174 304 L S q Q ↔ z_go zP 174 305 L (zi 1 :: S) q Q := ge_x (len := 1) (x := (0, 0, [])) p_174 rfl rfl
set_option maxRecDepth 100000 in
theorem g174_305 : z_go zP 174 305 L (zi b :: zi a :: S) q Q ↔ z_go zP 174 306 L (zi (a + b) :: S) q Q := ge_iadd (len := 1) (x := (0, 0, [])) p_174 rfl
set_option maxRecDepth 100000 in
theorem g174_306 : z_go zP 174 306 L (zi a :: .ref u :: S) q Q ↔ ∃ v, z_at [99, 100] q.1 u (Int32.ofInt a) = some v ∧ z_go zP 174 307 L (v :: S) q Q := ge_iald (len := 1) (x := (0, 0, [])) p_174 rfl
set_option maxRecDepth 100000 in
theorem g174_307 : z_go zP 174 307 [some (.ref u), l1, l2, l3, l4, l5, l6, l7] S q Q ↔ z_go zP 174 308 [some (.ref u), l1, l2, l3, l4, l5, l6, l7] (.ref u :: S) q Q := ge_x (len := 1) (x := (0, 0, [])) p_174 rfl rfl
set_option maxRecDepth 100000 in
theorem g174_308 : z_go zP 174 308 [l0, l1, l2, l3, some (zi a), l5, l6, l7] S q Q ↔ z_go zP 174 310 [l0, l1, l2, l3, some (zi a), l5, l6, l7] (zi a :: S) q Q := ge_x (len := 2) (x := (0, 0, [])) p_174 rfl rfl
set_option maxRecDepth 100000 in
theorem g174_310 : z_go zP 174 310 L S q Q ↔ z_go zP 174 311 L (zi 2 :: S) q Q := ge_x (len := 1) (x := (0, 0, [])) p_174 rfl rfl
set_option maxRecDepth 100000 in
theorem g174_311 : z_go zP 174 311 L (zi b :: zi a :: S) q Q ↔ z_go zP 174 312 L (zi (a + b) :: S) q Q := ge_iadd (len := 1) (x := (0, 0, [])) p_174 rfl
set_option maxRecDepth 100000 in
theorem g174_312 : z_go zP 174 312 L (zi a :: .ref u :: S) q Q ↔ ∃ v, z_at [99, 100] q.1 u (Int32.ofInt a) = some v ∧ z_go zP 174 313 L (v :: S) q Q := ge_iald (len := 1) (x := (0, 0, [])) p_174 rfl
set_option maxRecDepth 100000 in
theorem g174_313 : z_go zP 174 313 [some (.ref u), l1, l2, l3, l4, l5, l6, l7] S q Q ↔ z_go zP 174 314 [some (.ref u), l1, l2, l3, l4, l5, l6, l7] (.ref u :: S) q Q := ge_x (len := 1) (x := (0, 0, [])) p_174 rfl rfl
set_option maxRecDepth 100000 in
theorem g174_314 : z_go zP 174 314 [l0, l1, l2, l3, some (zi a), l5, l6, l7] S q Q ↔ z_go zP 174 316 [l0, l1, l2, l3, some (zi a), l5, l6, l7] (zi a :: S) q Q := ge_x (len := 2) (x := (0, 0, [])) p_174 rfl rfl
set_option maxRecDepth 100000 in
theorem g174_316 : z_go zP 174 316 L S q Q ↔ z_go zP 174 317 L (zi 3 :: S) q Q := ge_x (len := 1) (x := (0, 0, [])) p_174 rfl rfl
set_option maxRecDepth 100000 in
theorem g174_317 : z_go zP 174 317 L (zi b :: zi a :: S) q Q ↔ z_go zP 174 318 L (zi (a + b) :: S) q Q := ge_iadd (len := 1) (x := (0, 0, [])) p_174 rfl
set_option maxRecDepth 100000 in
theorem g174_318 : z_go zP 174 318 L (zi a :: .ref u :: S) q Q ↔ ∃ v, z_at [99, 100] q.1 u (Int32.ofInt a) = some v ∧ z_go zP 174 319 L (v :: S) q Q := ge_iald (len := 1) (x := (0, 0, [])) p_174 rfl
set_option maxRecDepth 100000 in
theorem g174_319 : z_go zP 174 319 [some (.ref u), l1, l2, l3, l4, l5, l6, l7] S q Q ↔ z_go zP 174 320 [some (.ref u), l1, l2, l3, l4, l5, l6, l7] (.ref u :: S) q Q := ge_x (len := 1) (x := (0, 0, [])) p_174 rfl rfl
set_option maxRecDepth 100000 in
theorem g174_320 : z_go zP 174 320 [l0, l1, l2, l3, some (zi a), l5, l6, l7] S q Q ↔ z_go zP 174 322 [l0, l1, l2, l3, some (zi a), l5, l6, l7] (zi a :: S) q Q := ge_x (len := 2) (x := (0, 0, [])) p_174 rfl rfl
set_option maxRecDepth 100000 in
theorem g174_322 : z_go zP 174 322 L S q Q ↔ z_go zP 174 323 L (zi 4 :: S) q Q := ge_x (len := 1) (x := (0, 0, [])) p_174 rfl rfl
set_option maxRecDepth 100000 in
theorem g174_323 : z_go zP 174 323 L (zi b :: zi a :: S) q Q ↔ z_go zP 174 324 L (zi (a + b) :: S) q Q := ge_iadd (len := 1) (x := (0, 0, [])) p_174 rfl
set_option maxRecDepth 100000 in
theorem g174_324 : z_go zP 174 324 L (zi a :: .ref u :: S) q Q ↔ ∃ v, z_at [99, 100] q.1 u (Int32.ofInt a) = some v ∧ z_go zP 174 325 L (v :: S) q Q := ge_iald (len := 1) (x := (0, 0, [])) p_174 rfl
set_option maxRecDepth 100000 in
theorem g174_325 : z_go zP 174 325 [some (.ref u), l1, l2, l3, l4, l5, l6, l7] S q Q ↔ z_go zP 174 326 [some (.ref u), l1, l2, l3, l4, l5, l6, l7] (.ref u :: S) q Q := ge_x (len := 1) (x := (0, 0, [])) p_174 rfl rfl
set_option maxRecDepth 100000 in
theorem g174_326 : z_go zP 174 326 [l0, l1, l2, l3, some (zi a), l5, l6, l7] S q Q ↔ z_go zP 174 328 [l0, l1, l2, l3, some (zi a), l5, l6, l7] (zi a :: S) q Q := ge_x (len := 2) (x := (0, 0, [])) p_174 rfl rfl
set_option maxRecDepth 100000 in
theorem g174_328 : z_go zP 174 328 L S q Q ↔ z_go zP 174 329 L (zi 5 :: S) q Q := ge_x (len := 1) (x := (0, 0, [])) p_174 rfl rfl
set_option maxRecDepth 100000 in
theorem g174_329 : z_go zP 174 329 L (zi b :: zi a :: S) q Q ↔ z_go zP 174 330 L (zi (a + b) :: S) q Q := ge_iadd (len := 1) (x := (0, 0, [])) p_174 rfl
set_option maxRecDepth 100000 in
theorem g174_330 : z_go zP 174 330 L (zi a :: .ref u :: S) q Q ↔ ∃ v, z_at [99, 100] q.1 u (Int32.ofInt a) = some v ∧ z_go zP 174 331 L (v :: S) q Q := ge_iald (len := 1) (x := (0, 0, [])) p_174 rfl
set_option maxRecDepth 100000 in
theorem g174_331 : z_go zP 174 331 [some (.ref u), l1, l2, l3, l4, l5, l6, l7] S q Q ↔ z_go zP 174 332 [some (.ref u), l1, l2, l3, l4, l5, l6, l7] (.ref u :: S) q Q := ge_x (len := 1) (x := (0, 0, [])) p_174 rfl rfl
set_option maxRecDepth 100000 in
theorem g174_332 : z_go zP 174 332 [l0, l1, l2, l3, some (zi a), l5, l6, l7] S q Q ↔ z_go zP 174 334 [l0, l1, l2, l3, some (zi a), l5, l6, l7] (zi a :: S) q Q := ge_x (len := 2) (x := (0, 0, [])) p_174 rfl rfl
set_option maxRecDepth 100000 in
theorem g174_334 : z_go zP 174 334 L S q Q ↔ z_go zP 174 336 L (zi 6 :: S) q Q := ge_x (len := 2) (x := (0, 0, [])) p_174 rfl rfl
set_option maxRecDepth 100000 in
theorem g174_336 : z_go zP 174 336 L (zi b :: zi a :: S) q Q ↔ z_go zP 174 337 L (zi (a + b) :: S) q Q := ge_iadd (len := 1) (x := (0, 0, [])) p_174 rfl
set_option maxRecDepth 100000 in
theorem g174_337 : z_go zP 174 337 L (zi a :: .ref u :: S) q Q ↔ ∃ v, z_at [99, 100] q.1 u (Int32.ofInt a) = some v ∧ z_go zP 174 338 L (v :: S) q Q := ge_iald (len := 1) (x := (0, 0, [])) p_174 rfl
set_option maxRecDepth 100000 in
theorem g174_338 : z_go zP 174 338 L [zi x5, zi x4, zi x3, zi x2, zi x1, zi x0, .ref u] q Q ↔ z_tg q.1 u = some 9 ∧ z_go zP 106 0 [some (.ref u), some (zi x0), some (zi x1), some (zi x2), some (zi x3), some (zi x4), some (zi x5), none] [] q (zc 174 341 L [] Q) := ge_vc (len := 3) (pc := 338) (S := [zi x5, zi x4, zi x3, zi x2, zi x1, zi x0, .ref u]) (u := u) (k1 := 106) (A := [.ref u, zi x0, zi x1, zi x2, zi x3, zi x4, zi x5]) (r := []) (tag := 9) (n0 := 6) (zwb_le (by show 0 ≤ 4; omega)) p_174 rfl rfl rfl p_106 (by show 7 ≤ 8; omega) rfl
set_option maxRecDepth 100000 in
theorem g174_341 : z_go zP 174 341 [l0, l1, l2, l3, l4, l5, l6, l7] (zi a :: S) q Q ↔ z_go zP 174 343 [l0, l1, l2, l3, l4, (zkl l5), some (zi a), l7] S q Q := (by cases l5 with | none => exact ge_x (len := 2) (x := (0, 0, [])) p_174 rfl rfl | some v => cases v <;> exact ge_x (len := 2) (x := (0, 0, [])) p_174 rfl rfl)
set_option maxRecDepth 100000 in
theorem g174_343 : z_go zP 174 343 [l0, l1, some (.ref u), l3, l4, l5, l6, l7] S q Q ↔ z_go zP 174 344 [l0, l1, some (.ref u), l3, l4, l5, l6, l7] (.ref u :: S) q Q := ge_x (len := 1) (x := (0, 0, [])) p_174 rfl rfl
set_option maxRecDepth 100000 in
theorem g174_344 : z_go zP 174 344 L [.ref u] q Q ↔ z_tg q.1 u = some 9 ∧ z_go zP 95 0 [some (.ref u)] [] q (zc 174 347 L [] Q) := ge_vc (len := 3) (pc := 344) (S := [.ref u]) (u := u) (k1 := 95) (A := [.ref u]) (r := []) (tag := 9) (n0 := 0) (zwb_le (by show 0 ≤ 4; omega)) p_174 rfl rfl rfl p_95 (by show 1 ≤ 1; omega) rfl
set_option maxRecDepth 100000 in
theorem g174_347 : z_go zP 174 347 [l0, l1, l2, l3, l4, some (zi a), l6, l7] S q Q ↔ z_go zP 174 349 [l0, l1, l2, l3, l4, some (zi a), l6, l7] (zi a :: S) q Q := ge_x (len := 2) (x := (0, 0, [])) p_174 rfl rfl
set_option maxRecDepth 100000 in
theorem g174_349 (a1 : -2147483648 ≤ a) (a2 : a < 2147483648) (b1 : -2147483648 ≤ b) (b2 : b < 2147483648) : z_go zP 174 349 L (zi b :: zi a :: S) q Q ↔ if a = b then z_go zP 174 354 L S q Q else z_go zP 174 352 L S q Q := ge_ic_eq (len := 3) (x := (0, 0, [])) a1 a2 b1 b2 p_174 rfl rfl
set_option maxRecDepth 100000 in
theorem g174_352 : z_go zP 174 352 L S q Q ↔ z_go zP 174 353 L (zi 0 :: S) q Q := ge_x (len := 1) (x := (0, 0, [])) p_174 rfl rfl
set_option maxRecDepth 100000 in
theorem g174_353_0 : z_go zP 174 353 L [zi 0] q Q ↔ Q (.inl (some (zi 0))) q := z_go_rt (len := 1) (x := (0, 0, [])) p_174 rfl rfl rfl
set_option maxRecDepth 100000 in
theorem g174_353_1 : z_go zP 174 353 L [zi 1] q Q ↔ Q (.inl (some (zi 1))) q := z_go_rt (len := 1) (x := (0, 0, [])) p_174 rfl rfl rfl
set_option maxRecDepth 100000 in
theorem g174_353b {c : Prop} [Decidable c] : z_go zP 174 353 L [zi (bI c)] q Q ↔ Q (.inl (some (zi (bI c)))) q := (by rcases bI_01 (c := c) with h | h <;> rw [h] <;> exact z_go_rt (len := 1) (x := (0, 0, [])) p_174 rfl rfl rfl)
set_option maxRecDepth 100000 in
theorem g174_354 : z_go zP 174 354 [l0, l1, l2, l3, l4, some (zi a), l6, l7] S q Q ↔ z_go zP 174 356 [l0, l1, l2, l3, l4, some (zi a), l6, l7] (zi a :: S) q Q := ge_x (len := 2) (x := (0, 0, [])) p_174 rfl rfl
set_option maxRecDepth 100000 in
theorem g174_356 (a1 : -2147483648 ≤ a) (a2 : a < 2147483648) : z_go zP 174 356 L (zi a :: S) q Q ↔ if ¬ a = 0 then z_go zP 174 371 L S q Q else z_go zP 174 359 L S q Q := ge_if_ne (len := 3) (x := (0, 0, [])) a1 a2 p_174 rfl rfl
set_option maxRecDepth 100000 in
theorem g174_356b {c : Prop} [Decidable c] : z_go zP 174 356 L (zi (bI c) :: S) q Q ↔ if c then z_go zP 174 371 L S q Q else z_go zP 174 359 L S q Q := ge_if_ne_b (len := 3) (x := (0, 0, [])) p_174 rfl rfl
set_option maxRecDepth 100000 in
theorem g174_359 : z_go zP 174 359 [l0, l1, l2, some (.ref u), l4, l5, l6, l7] S q Q ↔ z_go zP 174 360 [l0, l1, l2, some (.ref u), l4, l5, l6, l7] (.ref u :: S) q Q := ge_x (len := 1) (x := (0, 0, [])) p_174 rfl rfl
set_option maxRecDepth 100000 in
theorem g174_360 : z_go zP 174 360 L S q Q ↔ z_go zP 174 361 L (zi 0 :: S) q Q := ge_x (len := 1) (x := (0, 0, [])) p_174 rfl rfl
set_option maxRecDepth 100000 in
theorem g174_361 : z_go zP 174 361 L (zi a :: .ref u :: S) q Q ↔ ∃ v, z_at [101] q.1 u (Int32.ofInt a) = some v ∧ z_go zP 174 362 L (v :: S) q Q := ge_lald (len := 1) (x := (0, 0, [])) p_174 rfl
set_option maxRecDepth 100000 in
theorem g174_362 : z_go zP 174 362 [l0, l1, l2, l3, l4, l5, some (zi a), l7] S q Q ↔ z_go zP 174 364 [l0, l1, l2, l3, l4, l5, some (zi a), l7] (zi a :: S) q Q := ge_x (len := 2) (x := (0, 0, [])) p_174 rfl rfl
set_option maxRecDepth 100000 in
theorem g174_364 (a1 : -2147483648 ≤ a) (a2 : a < 2147483648) : z_go zP 174 364 L (zi a :: S) q Q ↔ z_go zP 174 365 L (zl a :: S) q Q := ge_i2l (len := 1) (x := (0, 0, [])) a1 a2 p_174 rfl
set_option maxRecDepth 100000 in
theorem g174_365 (a1 : -9223372036854775808 ≤ a) (a2 : a < 9223372036854775808) (b1 : -9223372036854775808 ≤ b) (b2 : b < 9223372036854775808) : z_go zP 174 365 L (zl b :: zl a :: S) q Q ↔ if a = b then z_go zP 174 371 L S q Q else z_go zP 174 369 L S q Q := ge_lc_eq (len := 1) (x := (0, 0, [])) (p2 := 366) (l2 := 3) a1 a2 b1 b2 p_174 rfl rfl rfl rfl
set_option maxRecDepth 100000 in
theorem g174_369 : z_go zP 174 369 L S q Q ↔ z_go zP 174 370 L (zi 0 :: S) q Q := ge_x (len := 1) (x := (0, 0, [])) p_174 rfl rfl
set_option maxRecDepth 100000 in
theorem g174_370_0 : z_go zP 174 370 L [zi 0] q Q ↔ Q (.inl (some (zi 0))) q := z_go_rt (len := 1) (x := (0, 0, [])) p_174 rfl rfl rfl
set_option maxRecDepth 100000 in
theorem g174_370_1 : z_go zP 174 370 L [zi 1] q Q ↔ Q (.inl (some (zi 1))) q := z_go_rt (len := 1) (x := (0, 0, [])) p_174 rfl rfl rfl
set_option maxRecDepth 100000 in
theorem g174_370b {c : Prop} [Decidable c] : z_go zP 174 370 L [zi (bI c)] q Q ↔ Q (.inl (some (zi (bI c)))) q := (by rcases bI_01 (c := c) with h | h <;> rw [h] <;> exact z_go_rt (len := 1) (x := (0, 0, [])) p_174 rfl rfl rfl)
set_option maxRecDepth 100000 in
theorem g174_371 : z_go zP 174 371 L S q Q ↔ z_go zP 174 1398 L S q Q := ge_to (len := 3) (x := (0, 0, [])) p_174 rfl rfl rfl
set_option maxRecDepth 100000 in
theorem g174_374 : z_go zP 174 374 [l0, some (.ref u), l2, l3, l4, l5, l6, l7] S q Q ↔ z_go zP 174 375 [l0, some (.ref u), l2, l3, l4, l5, l6, l7] (.ref u :: S) q Q := ge_x (len := 1) (x := (0, 0, [])) p_174 rfl rfl
set_option maxRecDepth 100000 in
theorem g174_375 : z_go zP 174 375 [some (.ref u), l1, l2, l3, l4, l5, l6, l7] S q Q ↔ z_go zP 174 376 [some (.ref u), l1, l2, l3, l4, l5, l6, l7] (.ref u :: S) q Q := ge_x (len := 1) (x := (0, 0, [])) p_174 rfl rfl
set_option maxRecDepth 100000 in
theorem g174_376 : z_go zP 174 376 [l0, l1, l2, l3, some (zi a), l5, l6, l7] S q Q ↔ z_go zP 174 378 [l0, l1, l2, l3, some (zi a), l5, l6, l7] (zi a :: S) q Q := ge_x (len := 2) (x := (0, 0, [])) p_174 rfl rfl
set_option maxRecDepth 100000 in
theorem g174_378 : z_go zP 174 378 L S q Q ↔ z_go zP 174 379 L (zi 1 :: S) q Q := ge_x (len := 1) (x := (0, 0, [])) p_174 rfl rfl
set_option maxRecDepth 100000 in
theorem g174_379 : z_go zP 174 379 L (zi b :: zi a :: S) q Q ↔ z_go zP 174 380 L (zi (a + b) :: S) q Q := ge_iadd (len := 1) (x := (0, 0, [])) p_174 rfl
set_option maxRecDepth 100000 in
theorem g174_380 : z_go zP 174 380 L (zi a :: .ref u :: S) q Q ↔ ∃ v, z_at [99, 100] q.1 u (Int32.ofInt a) = some v ∧ z_go zP 174 381 L (v :: S) q Q := ge_iald (len := 1) (x := (0, 0, [])) p_174 rfl
set_option maxRecDepth 100000 in
theorem g174_381 : z_go zP 174 381 [l0, l1, l2, some (.ref u), l4, l5, l6, l7] S q Q ↔ z_go zP 174 382 [l0, l1, l2, some (.ref u), l4, l5, l6, l7] (.ref u :: S) q Q := ge_x (len := 1) (x := (0, 0, [])) p_174 rfl rfl
set_option maxRecDepth 100000 in
theorem g174_382 : z_go zP 174 382 L [.ref w2, zi x1, .ref w0] q Q ↔ z_go zP 161 0 [some (.ref w0), some (zi x1), some (.ref w2), none] [] q (zd 174 385 L [] Q) := (z_go_cl (len := 3) (x := (161, 6, [3])) (k1 := 161) (A := [.ref w0, zi x1, .ref w2]) (r := []) p_174 rfl rfl rfl rfl (by simp only [z_cl, List.drop]; rw [if_pos]; rfl; exact by first | exact ⟨by decide, (zwb_le (by show 0 ≤ 4; omega))⟩ | exact ⟨by decide, by show 3 ≤ 3; omega, (zwb_le (by show 0 ≤ 4; omega))⟩) p_161 (by show 3 ≤ 4; omega)).trans (ge_bk_d rfl)
set_option maxRecDepth 100000 in
theorem g174_385 : z_go zP 174 385 [l0, l1, l2, l3, l4, l5, l6, l7] (zi a :: S) q Q ↔ z_go zP 174 387 [l0, l1, l2, l3, (zkl l4), some (zi a), l6, l7] S q Q := (by cases l4 with | none => exact ge_x (len := 2) (x := (0, 0, [])) p_174 rfl rfl | some v => cases v <;> exact ge_x (len := 2) (x := (0, 0, [])) p_174 rfl rfl)
set_option maxRecDepth 100000 in
theorem g174_387 : z_go zP 174 387 [l0, l1, some (.ref u), l3, l4, l5, l6, l7] S q Q ↔ z_go zP 174 388 [l0, l1, some (.ref u), l3, l4, l5, l6, l7] (.ref u :: S) q Q := ge_x (len := 1) (x := (0, 0, [])) p_174 rfl rfl
set_option maxRecDepth 100000 in
theorem g174_388 : z_go zP 174 388 [some (.ref u), l1, l2, l3, l4, l5, l6, l7] S q Q ↔ z_go zP 174 389 [some (.ref u), l1, l2, l3, l4, l5, l6, l7] (.ref u :: S) q Q := ge_x (len := 1) (x := (0, 0, [])) p_174 rfl rfl
set_option maxRecDepth 100000 in
theorem g174_389 : z_go zP 174 389 [l0, l1, l2, l3, some (zi a), l5, l6, l7] S q Q ↔ z_go zP 174 391 [l0, l1, l2, l3, some (zi a), l5, l6, l7] (zi a :: S) q Q := ge_x (len := 2) (x := (0, 0, [])) p_174 rfl rfl
set_option maxRecDepth 100000 in
theorem g174_391 : z_go zP 174 391 L S q Q ↔ z_go zP 174 392 L (zi 1 :: S) q Q := ge_x (len := 1) (x := (0, 0, [])) p_174 rfl rfl
set_option maxRecDepth 100000 in
theorem g174_392 : z_go zP 174 392 L (zi b :: zi a :: S) q Q ↔ z_go zP 174 393 L (zi (a + b) :: S) q Q := ge_iadd (len := 1) (x := (0, 0, [])) p_174 rfl
set_option maxRecDepth 100000 in
theorem g174_393 : z_go zP 174 393 L (zi a :: .ref u :: S) q Q ↔ ∃ v, z_at [99, 100] q.1 u (Int32.ofInt a) = some v ∧ z_go zP 174 394 L (v :: S) q Q := ge_iald (len := 1) (x := (0, 0, [])) p_174 rfl
set_option maxRecDepth 100000 in
theorem g174_394 : z_go zP 174 394 L [zi x0, .ref u] q Q ↔ z_tg q.1 u = some 9 ∧ z_go zP 117 0 [some (.ref u), some (zi x0)] [] q (zc 174 397 L [] Q) := ge_vc (len := 3) (pc := 394) (S := [zi x0, .ref u]) (u := u) (k1 := 117) (A := [.ref u, zi x0]) (r := []) (tag := 9) (n0 := 1) (zwb_le (by show 0 ≤ 4; omega)) p_174 rfl rfl rfl p_117 (by show 2 ≤ 2; omega) rfl
set_option maxRecDepth 100000 in
theorem g174_397 : z_go zP 174 397 [l0, l1, l2, l3, l4, l5, l6, l7] (zi a :: S) q Q ↔ z_go zP 174 399 [l0, l1, l2, l3, l4, (zkl l5), some (zi a), l7] S q Q := (by cases l5 with | none => exact ge_x (len := 2) (x := (0, 0, [])) p_174 rfl rfl | some v => cases v <;> exact ge_x (len := 2) (x := (0, 0, [])) p_174 rfl rfl)
set_option maxRecDepth 100000 in
theorem g174_399 : z_go zP 174 399 [l0, l1, some (.ref u), l3, l4, l5, l6, l7] S q Q ↔ z_go zP 174 400 [l0, l1, some (.ref u), l3, l4, l5, l6, l7] (.ref u :: S) q Q := ge_x (len := 1) (x := (0, 0, [])) p_174 rfl rfl
set_option maxRecDepth 100000 in
theorem g174_400 : z_go zP 174 400 L [.ref u] q Q ↔ z_tg q.1 u = some 9 ∧ z_go zP 95 0 [some (.ref u)] [] q (zc 174 403 L [] Q) := ge_vc (len := 3) (pc := 400) (S := [.ref u]) (u := u) (k1 := 95) (A := [.ref u]) (r := []) (tag := 9) (n0 := 0) (zwb_le (by show 0 ≤ 4; omega)) p_174 rfl rfl rfl p_95 (by show 1 ≤ 1; omega) rfl
set_option maxRecDepth 100000 in
theorem g174_403 : z_go zP 174 403 [l0, l1, l2, l3, l4, some (zi a), l6, l7] S q Q ↔ z_go zP 174 405 [l0, l1, l2, l3, l4, some (zi a), l6, l7] (zi a :: S) q Q := ge_x (len := 2) (x := (0, 0, [])) p_174 rfl rfl
set_option maxRecDepth 100000 in
theorem g174_405 (a1 : -2147483648 ≤ a) (a2 : a < 2147483648) (b1 : -2147483648 ≤ b) (b2 : b < 2147483648) : z_go zP 174 405 L (zi b :: zi a :: S) q Q ↔ if a = b then z_go zP 174 410 L S q Q else z_go zP 174 408 L S q Q := ge_ic_eq (len := 3) (x := (0, 0, [])) a1 a2 b1 b2 p_174 rfl rfl
set_option maxRecDepth 100000 in
theorem g174_408 : z_go zP 174 408 L S q Q ↔ z_go zP 174 409 L (zi 0 :: S) q Q := ge_x (len := 1) (x := (0, 0, [])) p_174 rfl rfl
set_option maxRecDepth 100000 in
theorem g174_409_0 : z_go zP 174 409 L [zi 0] q Q ↔ Q (.inl (some (zi 0))) q := z_go_rt (len := 1) (x := (0, 0, [])) p_174 rfl rfl rfl
set_option maxRecDepth 100000 in
theorem g174_409_1 : z_go zP 174 409 L [zi 1] q Q ↔ Q (.inl (some (zi 1))) q := z_go_rt (len := 1) (x := (0, 0, [])) p_174 rfl rfl rfl
set_option maxRecDepth 100000 in
theorem g174_409b {c : Prop} [Decidable c] : z_go zP 174 409 L [zi (bI c)] q Q ↔ Q (.inl (some (zi (bI c)))) q := (by rcases bI_01 (c := c) with h | h <;> rw [h] <;> exact z_go_rt (len := 1) (x := (0, 0, [])) p_174 rfl rfl rfl)
set_option maxRecDepth 100000 in
theorem g174_410 : z_go zP 174 410 [l0, l1, l2, l3, l4, some (zi a), l6, l7] S q Q ↔ z_go zP 174 412 [l0, l1, l2, l3, l4, some (zi a), l6, l7] (zi a :: S) q Q := ge_x (len := 2) (x := (0, 0, [])) p_174 rfl rfl
set_option maxRecDepth 100000 in
theorem g174_412 (a1 : -2147483648 ≤ a) (a2 : a < 2147483648) : z_go zP 174 412 L (zi a :: S) q Q ↔ if ¬ a = 0 then z_go zP 174 427 L S q Q else z_go zP 174 415 L S q Q := ge_if_ne (len := 3) (x := (0, 0, [])) a1 a2 p_174 rfl rfl
set_option maxRecDepth 100000 in
theorem g174_412b {c : Prop} [Decidable c] : z_go zP 174 412 L (zi (bI c) :: S) q Q ↔ if c then z_go zP 174 427 L S q Q else z_go zP 174 415 L S q Q := ge_if_ne_b (len := 3) (x := (0, 0, [])) p_174 rfl rfl
set_option maxRecDepth 100000 in
theorem g174_415 : z_go zP 174 415 [l0, l1, l2, some (.ref u), l4, l5, l6, l7] S q Q ↔ z_go zP 174 416 [l0, l1, l2, some (.ref u), l4, l5, l6, l7] (.ref u :: S) q Q := ge_x (len := 1) (x := (0, 0, [])) p_174 rfl rfl
set_option maxRecDepth 100000 in
theorem g174_416 : z_go zP 174 416 L S q Q ↔ z_go zP 174 417 L (zi 0 :: S) q Q := ge_x (len := 1) (x := (0, 0, [])) p_174 rfl rfl
set_option maxRecDepth 100000 in
theorem g174_417 : z_go zP 174 417 L (zi a :: .ref u :: S) q Q ↔ ∃ v, z_at [101] q.1 u (Int32.ofInt a) = some v ∧ z_go zP 174 418 L (v :: S) q Q := ge_lald (len := 1) (x := (0, 0, [])) p_174 rfl
set_option maxRecDepth 100000 in
theorem g174_418 : z_go zP 174 418 [l0, l1, l2, l3, l4, l5, some (zi a), l7] S q Q ↔ z_go zP 174 420 [l0, l1, l2, l3, l4, l5, some (zi a), l7] (zi a :: S) q Q := ge_x (len := 2) (x := (0, 0, [])) p_174 rfl rfl
set_option maxRecDepth 100000 in
theorem g174_420 (a1 : -2147483648 ≤ a) (a2 : a < 2147483648) : z_go zP 174 420 L (zi a :: S) q Q ↔ z_go zP 174 421 L (zl a :: S) q Q := ge_i2l (len := 1) (x := (0, 0, [])) a1 a2 p_174 rfl
set_option maxRecDepth 100000 in
theorem g174_421 (a1 : -9223372036854775808 ≤ a) (a2 : a < 9223372036854775808) (b1 : -9223372036854775808 ≤ b) (b2 : b < 9223372036854775808) : z_go zP 174 421 L (zl b :: zl a :: S) q Q ↔ if a = b then z_go zP 174 427 L S q Q else z_go zP 174 425 L S q Q := ge_lc_eq (len := 1) (x := (0, 0, [])) (p2 := 422) (l2 := 3) a1 a2 b1 b2 p_174 rfl rfl rfl rfl
set_option maxRecDepth 100000 in
theorem g174_425 : z_go zP 174 425 L S q Q ↔ z_go zP 174 426 L (zi 0 :: S) q Q := ge_x (len := 1) (x := (0, 0, [])) p_174 rfl rfl
set_option maxRecDepth 100000 in
theorem g174_426_0 : z_go zP 174 426 L [zi 0] q Q ↔ Q (.inl (some (zi 0))) q := z_go_rt (len := 1) (x := (0, 0, [])) p_174 rfl rfl rfl
set_option maxRecDepth 100000 in
theorem g174_426_1 : z_go zP 174 426 L [zi 1] q Q ↔ Q (.inl (some (zi 1))) q := z_go_rt (len := 1) (x := (0, 0, [])) p_174 rfl rfl rfl
set_option maxRecDepth 100000 in
theorem g174_426b {c : Prop} [Decidable c] : z_go zP 174 426 L [zi (bI c)] q Q ↔ Q (.inl (some (zi (bI c)))) q := (by rcases bI_01 (c := c) with h | h <;> rw [h] <;> exact z_go_rt (len := 1) (x := (0, 0, [])) p_174 rfl rfl rfl)
set_option maxRecDepth 100000 in
theorem g174_427 : z_go zP 174 427 L S q Q ↔ z_go zP 174 1398 L S q Q := ge_to (len := 3) (x := (0, 0, [])) p_174 rfl rfl rfl
set_option maxRecDepth 100000 in
theorem g174_430 : z_go zP 174 430 [l0, some (.ref u), l2, l3, l4, l5, l6, l7] S q Q ↔ z_go zP 174 431 [l0, some (.ref u), l2, l3, l4, l5, l6, l7] (.ref u :: S) q Q := ge_x (len := 1) (x := (0, 0, [])) p_174 rfl rfl
set_option maxRecDepth 100000 in
theorem g174_431 : z_go zP 174 431 [some (.ref u), l1, l2, l3, l4, l5, l6, l7] S q Q ↔ z_go zP 174 432 [some (.ref u), l1, l2, l3, l4, l5, l6, l7] (.ref u :: S) q Q := ge_x (len := 1) (x := (0, 0, [])) p_174 rfl rfl
set_option maxRecDepth 100000 in
theorem g174_432 : z_go zP 174 432 [l0, l1, l2, l3, some (zi a), l5, l6, l7] S q Q ↔ z_go zP 174 434 [l0, l1, l2, l3, some (zi a), l5, l6, l7] (zi a :: S) q Q := ge_x (len := 2) (x := (0, 0, [])) p_174 rfl rfl
set_option maxRecDepth 100000 in
theorem g174_434 : z_go zP 174 434 L S q Q ↔ z_go zP 174 435 L (zi 1 :: S) q Q := ge_x (len := 1) (x := (0, 0, [])) p_174 rfl rfl
set_option maxRecDepth 100000 in
theorem g174_435 : z_go zP 174 435 L (zi b :: zi a :: S) q Q ↔ z_go zP 174 436 L (zi (a + b) :: S) q Q := ge_iadd (len := 1) (x := (0, 0, [])) p_174 rfl
set_option maxRecDepth 100000 in
theorem g174_436 : z_go zP 174 436 L (zi a :: .ref u :: S) q Q ↔ ∃ v, z_at [99, 100] q.1 u (Int32.ofInt a) = some v ∧ z_go zP 174 437 L (v :: S) q Q := ge_iald (len := 1) (x := (0, 0, [])) p_174 rfl
set_option maxRecDepth 100000 in
theorem g174_437 : z_go zP 174 437 [some (.ref u), l1, l2, l3, l4, l5, l6, l7] S q Q ↔ z_go zP 174 438 [some (.ref u), l1, l2, l3, l4, l5, l6, l7] (.ref u :: S) q Q := ge_x (len := 1) (x := (0, 0, [])) p_174 rfl rfl
set_option maxRecDepth 100000 in
theorem g174_438 : z_go zP 174 438 [l0, l1, l2, l3, some (zi a), l5, l6, l7] S q Q ↔ z_go zP 174 440 [l0, l1, l2, l3, some (zi a), l5, l6, l7] (zi a :: S) q Q := ge_x (len := 2) (x := (0, 0, [])) p_174 rfl rfl
set_option maxRecDepth 100000 in
theorem g174_440 : z_go zP 174 440 L S q Q ↔ z_go zP 174 441 L (zi 2 :: S) q Q := ge_x (len := 1) (x := (0, 0, [])) p_174 rfl rfl
set_option maxRecDepth 100000 in
theorem g174_441 : z_go zP 174 441 L (zi b :: zi a :: S) q Q ↔ z_go zP 174 442 L (zi (a + b) :: S) q Q := ge_iadd (len := 1) (x := (0, 0, [])) p_174 rfl
set_option maxRecDepth 100000 in
theorem g174_442 : z_go zP 174 442 L (zi a :: .ref u :: S) q Q ↔ ∃ v, z_at [99, 100] q.1 u (Int32.ofInt a) = some v ∧ z_go zP 174 443 L (v :: S) q Q := ge_iald (len := 1) (x := (0, 0, [])) p_174 rfl
set_option maxRecDepth 100000 in
theorem g174_443 : z_go zP 174 443 [l0, l1, l2, some (.ref u), l4, l5, l6, l7] S q Q ↔ z_go zP 174 444 [l0, l1, l2, some (.ref u), l4, l5, l6, l7] (.ref u :: S) q Q := ge_x (len := 1) (x := (0, 0, [])) p_174 rfl rfl
set_option maxRecDepth 100000 in
theorem g174_444 : z_go zP 174 444 L [.ref w3, zi x2, zi x1, .ref w0] q Q ↔ z_go zP 162 0 [some (.ref w0), some (zi x1), some (zi x2), some (.ref w3), none] [] q (zd 174 447 L [] Q) := (z_go_cl (len := 3) (x := (162, 6, [4])) (k1 := 162) (A := [.ref w0, zi x1, zi x2, .ref w3]) (r := []) p_174 rfl rfl rfl rfl (by simp only [z_cl, List.drop]; rw [if_pos]; rfl; exact by first | exact ⟨by decide, (zwb_le (by show 0 ≤ 4; omega))⟩ | exact ⟨by decide, by show 4 ≤ 4; omega, (zwb_le (by show 0 ≤ 4; omega))⟩) p_162 (by show 4 ≤ 5; omega)).trans (ge_bk_d rfl)
set_option maxRecDepth 100000 in
theorem g174_447 : z_go zP 174 447 [l0, l1, l2, l3, l4, l5, l6, l7] (zi a :: S) q Q ↔ z_go zP 174 449 [l0, l1, l2, l3, (zkl l4), some (zi a), l6, l7] S q Q := (by cases l4 with | none => exact ge_x (len := 2) (x := (0, 0, [])) p_174 rfl rfl | some v => cases v <;> exact ge_x (len := 2) (x := (0, 0, [])) p_174 rfl rfl)
set_option maxRecDepth 100000 in
theorem g174_449 : z_go zP 174 449 [l0, l1, some (.ref u), l3, l4, l5, l6, l7] S q Q ↔ z_go zP 174 450 [l0, l1, some (.ref u), l3, l4, l5, l6, l7] (.ref u :: S) q Q := ge_x (len := 1) (x := (0, 0, [])) p_174 rfl rfl
set_option maxRecDepth 100000 in
theorem g174_450 : z_go zP 174 450 [some (.ref u), l1, l2, l3, l4, l5, l6, l7] S q Q ↔ z_go zP 174 451 [some (.ref u), l1, l2, l3, l4, l5, l6, l7] (.ref u :: S) q Q := ge_x (len := 1) (x := (0, 0, [])) p_174 rfl rfl
set_option maxRecDepth 100000 in
theorem g174_451 : z_go zP 174 451 [l0, l1, l2, l3, some (zi a), l5, l6, l7] S q Q ↔ z_go zP 174 453 [l0, l1, l2, l3, some (zi a), l5, l6, l7] (zi a :: S) q Q := ge_x (len := 2) (x := (0, 0, [])) p_174 rfl rfl
set_option maxRecDepth 100000 in
theorem g174_453 : z_go zP 174 453 L S q Q ↔ z_go zP 174 454 L (zi 1 :: S) q Q := ge_x (len := 1) (x := (0, 0, [])) p_174 rfl rfl
set_option maxRecDepth 100000 in
theorem g174_454 : z_go zP 174 454 L (zi b :: zi a :: S) q Q ↔ z_go zP 174 455 L (zi (a + b) :: S) q Q := ge_iadd (len := 1) (x := (0, 0, [])) p_174 rfl
set_option maxRecDepth 100000 in
theorem g174_455 : z_go zP 174 455 L (zi a :: .ref u :: S) q Q ↔ ∃ v, z_at [99, 100] q.1 u (Int32.ofInt a) = some v ∧ z_go zP 174 456 L (v :: S) q Q := ge_iald (len := 1) (x := (0, 0, [])) p_174 rfl
set_option maxRecDepth 100000 in
theorem g174_456 : z_go zP 174 456 [some (.ref u), l1, l2, l3, l4, l5, l6, l7] S q Q ↔ z_go zP 174 457 [some (.ref u), l1, l2, l3, l4, l5, l6, l7] (.ref u :: S) q Q := ge_x (len := 1) (x := (0, 0, [])) p_174 rfl rfl
set_option maxRecDepth 100000 in
theorem g174_457 : z_go zP 174 457 [l0, l1, l2, l3, some (zi a), l5, l6, l7] S q Q ↔ z_go zP 174 459 [l0, l1, l2, l3, some (zi a), l5, l6, l7] (zi a :: S) q Q := ge_x (len := 2) (x := (0, 0, [])) p_174 rfl rfl
set_option maxRecDepth 100000 in
theorem g174_459 : z_go zP 174 459 L S q Q ↔ z_go zP 174 460 L (zi 2 :: S) q Q := ge_x (len := 1) (x := (0, 0, [])) p_174 rfl rfl
set_option maxRecDepth 100000 in
theorem g174_460 : z_go zP 174 460 L (zi b :: zi a :: S) q Q ↔ z_go zP 174 461 L (zi (a + b) :: S) q Q := ge_iadd (len := 1) (x := (0, 0, [])) p_174 rfl
set_option maxRecDepth 100000 in
theorem g174_461 : z_go zP 174 461 L (zi a :: .ref u :: S) q Q ↔ ∃ v, z_at [99, 100] q.1 u (Int32.ofInt a) = some v ∧ z_go zP 174 462 L (v :: S) q Q := ge_iald (len := 1) (x := (0, 0, [])) p_174 rfl
set_option maxRecDepth 100000 in
theorem g174_462 : z_go zP 174 462 L [zi x1, zi x0, .ref u] q Q ↔ z_tg q.1 u = some 9 ∧ z_go zP 118 0 [some (.ref u), some (zi x0), some (zi x1), none] [] q (zc 174 465 L [] Q) := ge_vc (len := 3) (pc := 462) (S := [zi x1, zi x0, .ref u]) (u := u) (k1 := 118) (A := [.ref u, zi x0, zi x1]) (r := []) (tag := 9) (n0 := 2) (zwb_le (by show 0 ≤ 4; omega)) p_174 rfl rfl rfl p_118 (by show 3 ≤ 4; omega) rfl
set_option maxRecDepth 100000 in
theorem g174_465 : z_go zP 174 465 [l0, l1, l2, l3, l4, l5, l6, l7] (zi a :: S) q Q ↔ z_go zP 174 467 [l0, l1, l2, l3, l4, (zkl l5), some (zi a), l7] S q Q := (by cases l5 with | none => exact ge_x (len := 2) (x := (0, 0, [])) p_174 rfl rfl | some v => cases v <;> exact ge_x (len := 2) (x := (0, 0, [])) p_174 rfl rfl)
set_option maxRecDepth 100000 in
theorem g174_467 : z_go zP 174 467 [l0, l1, some (.ref u), l3, l4, l5, l6, l7] S q Q ↔ z_go zP 174 468 [l0, l1, some (.ref u), l3, l4, l5, l6, l7] (.ref u :: S) q Q := ge_x (len := 1) (x := (0, 0, [])) p_174 rfl rfl
set_option maxRecDepth 100000 in
theorem g174_468 : z_go zP 174 468 L [.ref u] q Q ↔ z_tg q.1 u = some 9 ∧ z_go zP 95 0 [some (.ref u)] [] q (zc 174 471 L [] Q) := ge_vc (len := 3) (pc := 468) (S := [.ref u]) (u := u) (k1 := 95) (A := [.ref u]) (r := []) (tag := 9) (n0 := 0) (zwb_le (by show 0 ≤ 4; omega)) p_174 rfl rfl rfl p_95 (by show 1 ≤ 1; omega) rfl
set_option maxRecDepth 100000 in
theorem g174_471 : z_go zP 174 471 [l0, l1, l2, l3, l4, some (zi a), l6, l7] S q Q ↔ z_go zP 174 473 [l0, l1, l2, l3, l4, some (zi a), l6, l7] (zi a :: S) q Q := ge_x (len := 2) (x := (0, 0, [])) p_174 rfl rfl
set_option maxRecDepth 100000 in
theorem g174_473 (a1 : -2147483648 ≤ a) (a2 : a < 2147483648) (b1 : -2147483648 ≤ b) (b2 : b < 2147483648) : z_go zP 174 473 L (zi b :: zi a :: S) q Q ↔ if a = b then z_go zP 174 478 L S q Q else z_go zP 174 476 L S q Q := ge_ic_eq (len := 3) (x := (0, 0, [])) a1 a2 b1 b2 p_174 rfl rfl
set_option maxRecDepth 100000 in
theorem g174_476 : z_go zP 174 476 L S q Q ↔ z_go zP 174 477 L (zi 0 :: S) q Q := ge_x (len := 1) (x := (0, 0, [])) p_174 rfl rfl
set_option maxRecDepth 100000 in
theorem g174_477_0 : z_go zP 174 477 L [zi 0] q Q ↔ Q (.inl (some (zi 0))) q := z_go_rt (len := 1) (x := (0, 0, [])) p_174 rfl rfl rfl
set_option maxRecDepth 100000 in
theorem g174_477_1 : z_go zP 174 477 L [zi 1] q Q ↔ Q (.inl (some (zi 1))) q := z_go_rt (len := 1) (x := (0, 0, [])) p_174 rfl rfl rfl
set_option maxRecDepth 100000 in
theorem g174_477b {c : Prop} [Decidable c] : z_go zP 174 477 L [zi (bI c)] q Q ↔ Q (.inl (some (zi (bI c)))) q := (by rcases bI_01 (c := c) with h | h <;> rw [h] <;> exact z_go_rt (len := 1) (x := (0, 0, [])) p_174 rfl rfl rfl)
set_option maxRecDepth 100000 in
theorem g174_478 : z_go zP 174 478 [l0, l1, l2, l3, l4, some (zi a), l6, l7] S q Q ↔ z_go zP 174 480 [l0, l1, l2, l3, l4, some (zi a), l6, l7] (zi a :: S) q Q := ge_x (len := 2) (x := (0, 0, [])) p_174 rfl rfl
set_option maxRecDepth 100000 in
theorem g174_480 (a1 : -2147483648 ≤ a) (a2 : a < 2147483648) : z_go zP 174 480 L (zi a :: S) q Q ↔ if ¬ a = 0 then z_go zP 174 495 L S q Q else z_go zP 174 483 L S q Q := ge_if_ne (len := 3) (x := (0, 0, [])) a1 a2 p_174 rfl rfl
set_option maxRecDepth 100000 in
theorem g174_480b {c : Prop} [Decidable c] : z_go zP 174 480 L (zi (bI c) :: S) q Q ↔ if c then z_go zP 174 495 L S q Q else z_go zP 174 483 L S q Q := ge_if_ne_b (len := 3) (x := (0, 0, [])) p_174 rfl rfl
set_option maxRecDepth 100000 in
theorem g174_483 : z_go zP 174 483 [l0, l1, l2, some (.ref u), l4, l5, l6, l7] S q Q ↔ z_go zP 174 484 [l0, l1, l2, some (.ref u), l4, l5, l6, l7] (.ref u :: S) q Q := ge_x (len := 1) (x := (0, 0, [])) p_174 rfl rfl
set_option maxRecDepth 100000 in
theorem g174_484 : z_go zP 174 484 L S q Q ↔ z_go zP 174 485 L (zi 0 :: S) q Q := ge_x (len := 1) (x := (0, 0, [])) p_174 rfl rfl
set_option maxRecDepth 100000 in
theorem g174_485 : z_go zP 174 485 L (zi a :: .ref u :: S) q Q ↔ ∃ v, z_at [101] q.1 u (Int32.ofInt a) = some v ∧ z_go zP 174 486 L (v :: S) q Q := ge_lald (len := 1) (x := (0, 0, [])) p_174 rfl
set_option maxRecDepth 100000 in
theorem g174_486 : z_go zP 174 486 [l0, l1, l2, l3, l4, l5, some (zi a), l7] S q Q ↔ z_go zP 174 488 [l0, l1, l2, l3, l4, l5, some (zi a), l7] (zi a :: S) q Q := ge_x (len := 2) (x := (0, 0, [])) p_174 rfl rfl
set_option maxRecDepth 100000 in
theorem g174_488 (a1 : -2147483648 ≤ a) (a2 : a < 2147483648) : z_go zP 174 488 L (zi a :: S) q Q ↔ z_go zP 174 489 L (zl a :: S) q Q := ge_i2l (len := 1) (x := (0, 0, [])) a1 a2 p_174 rfl
set_option maxRecDepth 100000 in
theorem g174_489 (a1 : -9223372036854775808 ≤ a) (a2 : a < 9223372036854775808) (b1 : -9223372036854775808 ≤ b) (b2 : b < 9223372036854775808) : z_go zP 174 489 L (zl b :: zl a :: S) q Q ↔ if a = b then z_go zP 174 495 L S q Q else z_go zP 174 493 L S q Q := ge_lc_eq (len := 1) (x := (0, 0, [])) (p2 := 490) (l2 := 3) a1 a2 b1 b2 p_174 rfl rfl rfl rfl
set_option maxRecDepth 100000 in
theorem g174_493 : z_go zP 174 493 L S q Q ↔ z_go zP 174 494 L (zi 0 :: S) q Q := ge_x (len := 1) (x := (0, 0, [])) p_174 rfl rfl
set_option maxRecDepth 100000 in
theorem g174_494_0 : z_go zP 174 494 L [zi 0] q Q ↔ Q (.inl (some (zi 0))) q := z_go_rt (len := 1) (x := (0, 0, [])) p_174 rfl rfl rfl
set_option maxRecDepth 100000 in
theorem g174_494_1 : z_go zP 174 494 L [zi 1] q Q ↔ Q (.inl (some (zi 1))) q := z_go_rt (len := 1) (x := (0, 0, [])) p_174 rfl rfl rfl
set_option maxRecDepth 100000 in
theorem g174_494b {c : Prop} [Decidable c] : z_go zP 174 494 L [zi (bI c)] q Q ↔ Q (.inl (some (zi (bI c)))) q := (by rcases bI_01 (c := c) with h | h <;> rw [h] <;> exact z_go_rt (len := 1) (x := (0, 0, [])) p_174 rfl rfl rfl)
set_option maxRecDepth 100000 in
theorem g174_495 : z_go zP 174 495 L S q Q ↔ z_go zP 174 1398 L S q Q := ge_to (len := 3) (x := (0, 0, [])) p_174 rfl rfl rfl
set_option maxRecDepth 100000 in
theorem g174_498 : z_go zP 174 498 [l0, some (.ref u), l2, l3, l4, l5, l6, l7] S q Q ↔ z_go zP 174 499 [l0, some (.ref u), l2, l3, l4, l5, l6, l7] (.ref u :: S) q Q := ge_x (len := 1) (x := (0, 0, [])) p_174 rfl rfl
set_option maxRecDepth 100000 in
theorem g174_499 : z_go zP 174 499 [some (.ref u), l1, l2, l3, l4, l5, l6, l7] S q Q ↔ z_go zP 174 500 [some (.ref u), l1, l2, l3, l4, l5, l6, l7] (.ref u :: S) q Q := ge_x (len := 1) (x := (0, 0, [])) p_174 rfl rfl
set_option maxRecDepth 100000 in
theorem g174_500 : z_go zP 174 500 [l0, l1, l2, l3, some (zi a), l5, l6, l7] S q Q ↔ z_go zP 174 502 [l0, l1, l2, l3, some (zi a), l5, l6, l7] (zi a :: S) q Q := ge_x (len := 2) (x := (0, 0, [])) p_174 rfl rfl
set_option maxRecDepth 100000 in
theorem g174_502 : z_go zP 174 502 L S q Q ↔ z_go zP 174 503 L (zi 1 :: S) q Q := ge_x (len := 1) (x := (0, 0, [])) p_174 rfl rfl
set_option maxRecDepth 100000 in
theorem g174_503 : z_go zP 174 503 L (zi b :: zi a :: S) q Q ↔ z_go zP 174 504 L (zi (a + b) :: S) q Q := ge_iadd (len := 1) (x := (0, 0, [])) p_174 rfl
set_option maxRecDepth 100000 in
theorem g174_504 : z_go zP 174 504 L (zi a :: .ref u :: S) q Q ↔ ∃ v, z_at [99, 100] q.1 u (Int32.ofInt a) = some v ∧ z_go zP 174 505 L (v :: S) q Q := ge_iald (len := 1) (x := (0, 0, [])) p_174 rfl
set_option maxRecDepth 100000 in
theorem g174_505 : z_go zP 174 505 [some (.ref u), l1, l2, l3, l4, l5, l6, l7] S q Q ↔ z_go zP 174 506 [some (.ref u), l1, l2, l3, l4, l5, l6, l7] (.ref u :: S) q Q := ge_x (len := 1) (x := (0, 0, [])) p_174 rfl rfl
set_option maxRecDepth 100000 in
theorem g174_506 : z_go zP 174 506 [l0, l1, l2, l3, some (zi a), l5, l6, l7] S q Q ↔ z_go zP 174 508 [l0, l1, l2, l3, some (zi a), l5, l6, l7] (zi a :: S) q Q := ge_x (len := 2) (x := (0, 0, [])) p_174 rfl rfl
set_option maxRecDepth 100000 in
theorem g174_508 : z_go zP 174 508 L S q Q ↔ z_go zP 174 509 L (zi 2 :: S) q Q := ge_x (len := 1) (x := (0, 0, [])) p_174 rfl rfl
set_option maxRecDepth 100000 in
theorem g174_509 : z_go zP 174 509 L (zi b :: zi a :: S) q Q ↔ z_go zP 174 510 L (zi (a + b) :: S) q Q := ge_iadd (len := 1) (x := (0, 0, [])) p_174 rfl
set_option maxRecDepth 100000 in
theorem g174_510 : z_go zP 174 510 L (zi a :: .ref u :: S) q Q ↔ ∃ v, z_at [99, 100] q.1 u (Int32.ofInt a) = some v ∧ z_go zP 174 511 L (v :: S) q Q := ge_iald (len := 1) (x := (0, 0, [])) p_174 rfl
set_option maxRecDepth 100000 in
theorem g174_511 : z_go zP 174 511 [some (.ref u), l1, l2, l3, l4, l5, l6, l7] S q Q ↔ z_go zP 174 512 [some (.ref u), l1, l2, l3, l4, l5, l6, l7] (.ref u :: S) q Q := ge_x (len := 1) (x := (0, 0, [])) p_174 rfl rfl
set_option maxRecDepth 100000 in
theorem g174_512 : z_go zP 174 512 [l0, l1, l2, l3, some (zi a), l5, l6, l7] S q Q ↔ z_go zP 174 514 [l0, l1, l2, l3, some (zi a), l5, l6, l7] (zi a :: S) q Q := ge_x (len := 2) (x := (0, 0, [])) p_174 rfl rfl
set_option maxRecDepth 100000 in
theorem g174_514 : z_go zP 174 514 L S q Q ↔ z_go zP 174 515 L (zi 3 :: S) q Q := ge_x (len := 1) (x := (0, 0, [])) p_174 rfl rfl
set_option maxRecDepth 100000 in
theorem g174_515 : z_go zP 174 515 L (zi b :: zi a :: S) q Q ↔ z_go zP 174 516 L (zi (a + b) :: S) q Q := ge_iadd (len := 1) (x := (0, 0, [])) p_174 rfl
set_option maxRecDepth 100000 in
theorem g174_516 : z_go zP 174 516 L (zi a :: .ref u :: S) q Q ↔ ∃ v, z_at [99, 100] q.1 u (Int32.ofInt a) = some v ∧ z_go zP 174 517 L (v :: S) q Q := ge_iald (len := 1) (x := (0, 0, [])) p_174 rfl
set_option maxRecDepth 100000 in
theorem g174_517 : z_go zP 174 517 [some (.ref u), l1, l2, l3, l4, l5, l6, l7] S q Q ↔ z_go zP 174 518 [some (.ref u), l1, l2, l3, l4, l5, l6, l7] (.ref u :: S) q Q := ge_x (len := 1) (x := (0, 0, [])) p_174 rfl rfl
set_option maxRecDepth 100000 in
theorem g174_518 : z_go zP 174 518 [l0, l1, l2, l3, some (zi a), l5, l6, l7] S q Q ↔ z_go zP 174 520 [l0, l1, l2, l3, some (zi a), l5, l6, l7] (zi a :: S) q Q := ge_x (len := 2) (x := (0, 0, [])) p_174 rfl rfl
set_option maxRecDepth 100000 in
theorem g174_520 : z_go zP 174 520 L S q Q ↔ z_go zP 174 521 L (zi 4 :: S) q Q := ge_x (len := 1) (x := (0, 0, [])) p_174 rfl rfl
set_option maxRecDepth 100000 in
theorem g174_521 : z_go zP 174 521 L (zi b :: zi a :: S) q Q ↔ z_go zP 174 522 L (zi (a + b) :: S) q Q := ge_iadd (len := 1) (x := (0, 0, [])) p_174 rfl
set_option maxRecDepth 100000 in
theorem g174_522 : z_go zP 174 522 L (zi a :: .ref u :: S) q Q ↔ ∃ v, z_at [99, 100] q.1 u (Int32.ofInt a) = some v ∧ z_go zP 174 523 L (v :: S) q Q := ge_iald (len := 1) (x := (0, 0, [])) p_174 rfl
set_option maxRecDepth 100000 in
theorem g174_523 : z_go zP 174 523 [some (.ref u), l1, l2, l3, l4, l5, l6, l7] S q Q ↔ z_go zP 174 524 [some (.ref u), l1, l2, l3, l4, l5, l6, l7] (.ref u :: S) q Q := ge_x (len := 1) (x := (0, 0, [])) p_174 rfl rfl
set_option maxRecDepth 100000 in
theorem g174_524 : z_go zP 174 524 [l0, l1, l2, l3, some (zi a), l5, l6, l7] S q Q ↔ z_go zP 174 526 [l0, l1, l2, l3, some (zi a), l5, l6, l7] (zi a :: S) q Q := ge_x (len := 2) (x := (0, 0, [])) p_174 rfl rfl
set_option maxRecDepth 100000 in
theorem g174_526 : z_go zP 174 526 L S q Q ↔ z_go zP 174 527 L (zi 5 :: S) q Q := ge_x (len := 1) (x := (0, 0, [])) p_174 rfl rfl
set_option maxRecDepth 100000 in
theorem g174_527 : z_go zP 174 527 L (zi b :: zi a :: S) q Q ↔ z_go zP 174 528 L (zi (a + b) :: S) q Q := ge_iadd (len := 1) (x := (0, 0, [])) p_174 rfl
set_option maxRecDepth 100000 in
theorem g174_528 : z_go zP 174 528 L (zi a :: .ref u :: S) q Q ↔ ∃ v, z_at [99, 100] q.1 u (Int32.ofInt a) = some v ∧ z_go zP 174 529 L (v :: S) q Q := ge_iald (len := 1) (x := (0, 0, [])) p_174 rfl
set_option maxRecDepth 100000 in
theorem g174_529 : z_go zP 174 529 [l0, l1, l2, some (.ref u), l4, l5, l6, l7] S q Q ↔ z_go zP 174 530 [l0, l1, l2, some (.ref u), l4, l5, l6, l7] (.ref u :: S) q Q := ge_x (len := 1) (x := (0, 0, [])) p_174 rfl rfl
set_option maxRecDepth 100000 in
theorem g174_530 : z_go zP 174 530 L [.ref w6, zi x5, zi x4, zi x3, zi x2, zi x1, .ref w0] q Q ↔ z_go zP 163 0 [some (.ref w0), some (zi x1), some (zi x2), some (zi x3), some (zi x4), some (zi x5), some (.ref w6), none] [] q (zd 174 533 L [] Q) := (z_go_cl (len := 3) (x := (163, 6, [7])) (k1 := 163) (A := [.ref w0, zi x1, zi x2, zi x3, zi x4, zi x5, .ref w6]) (r := []) p_174 rfl rfl rfl rfl (by simp only [z_cl, List.drop]; rw [if_pos]; rfl; exact by first | exact ⟨by decide, (zwb_le (by show 0 ≤ 4; omega))⟩ | exact ⟨by decide, by show 7 ≤ 7; omega, (zwb_le (by show 0 ≤ 4; omega))⟩) p_163 (by show 7 ≤ 8; omega)).trans (ge_bk_d rfl)
set_option maxRecDepth 100000 in
theorem g174_533 : z_go zP 174 533 [l0, l1, l2, l3, l4, l5, l6, l7] (zi a :: S) q Q ↔ z_go zP 174 535 [l0, l1, l2, l3, (zkl l4), some (zi a), l6, l7] S q Q := (by cases l4 with | none => exact ge_x (len := 2) (x := (0, 0, [])) p_174 rfl rfl | some v => cases v <;> exact ge_x (len := 2) (x := (0, 0, [])) p_174 rfl rfl)
set_option maxRecDepth 100000 in
theorem g174_535 : z_go zP 174 535 [l0, l1, some (.ref u), l3, l4, l5, l6, l7] S q Q ↔ z_go zP 174 536 [l0, l1, some (.ref u), l3, l4, l5, l6, l7] (.ref u :: S) q Q := ge_x (len := 1) (x := (0, 0, [])) p_174 rfl rfl
set_option maxRecDepth 100000 in
theorem g174_536 : z_go zP 174 536 [some (.ref u), l1, l2, l3, l4, l5, l6, l7] S q Q ↔ z_go zP 174 537 [some (.ref u), l1, l2, l3, l4, l5, l6, l7] (.ref u :: S) q Q := ge_x (len := 1) (x := (0, 0, [])) p_174 rfl rfl
set_option maxRecDepth 100000 in
theorem g174_537 : z_go zP 174 537 [l0, l1, l2, l3, some (zi a), l5, l6, l7] S q Q ↔ z_go zP 174 539 [l0, l1, l2, l3, some (zi a), l5, l6, l7] (zi a :: S) q Q := ge_x (len := 2) (x := (0, 0, [])) p_174 rfl rfl
set_option maxRecDepth 100000 in
theorem g174_539 : z_go zP 174 539 L S q Q ↔ z_go zP 174 540 L (zi 1 :: S) q Q := ge_x (len := 1) (x := (0, 0, [])) p_174 rfl rfl
set_option maxRecDepth 100000 in
theorem g174_540 : z_go zP 174 540 L (zi b :: zi a :: S) q Q ↔ z_go zP 174 541 L (zi (a + b) :: S) q Q := ge_iadd (len := 1) (x := (0, 0, [])) p_174 rfl
set_option maxRecDepth 100000 in
theorem g174_541 : z_go zP 174 541 L (zi a :: .ref u :: S) q Q ↔ ∃ v, z_at [99, 100] q.1 u (Int32.ofInt a) = some v ∧ z_go zP 174 542 L (v :: S) q Q := ge_iald (len := 1) (x := (0, 0, [])) p_174 rfl
set_option maxRecDepth 100000 in
theorem g174_542 : z_go zP 174 542 [some (.ref u), l1, l2, l3, l4, l5, l6, l7] S q Q ↔ z_go zP 174 543 [some (.ref u), l1, l2, l3, l4, l5, l6, l7] (.ref u :: S) q Q := ge_x (len := 1) (x := (0, 0, [])) p_174 rfl rfl
set_option maxRecDepth 100000 in
theorem g174_543 : z_go zP 174 543 [l0, l1, l2, l3, some (zi a), l5, l6, l7] S q Q ↔ z_go zP 174 545 [l0, l1, l2, l3, some (zi a), l5, l6, l7] (zi a :: S) q Q := ge_x (len := 2) (x := (0, 0, [])) p_174 rfl rfl
set_option maxRecDepth 100000 in
theorem g174_545 : z_go zP 174 545 L S q Q ↔ z_go zP 174 546 L (zi 2 :: S) q Q := ge_x (len := 1) (x := (0, 0, [])) p_174 rfl rfl
set_option maxRecDepth 100000 in
theorem g174_546 : z_go zP 174 546 L (zi b :: zi a :: S) q Q ↔ z_go zP 174 547 L (zi (a + b) :: S) q Q := ge_iadd (len := 1) (x := (0, 0, [])) p_174 rfl
set_option maxRecDepth 100000 in
theorem g174_547 : z_go zP 174 547 L (zi a :: .ref u :: S) q Q ↔ ∃ v, z_at [99, 100] q.1 u (Int32.ofInt a) = some v ∧ z_go zP 174 548 L (v :: S) q Q := ge_iald (len := 1) (x := (0, 0, [])) p_174 rfl
set_option maxRecDepth 100000 in
theorem g174_548 : z_go zP 174 548 [some (.ref u), l1, l2, l3, l4, l5, l6, l7] S q Q ↔ z_go zP 174 549 [some (.ref u), l1, l2, l3, l4, l5, l6, l7] (.ref u :: S) q Q := ge_x (len := 1) (x := (0, 0, [])) p_174 rfl rfl
set_option maxRecDepth 100000 in
theorem g174_549 : z_go zP 174 549 [l0, l1, l2, l3, some (zi a), l5, l6, l7] S q Q ↔ z_go zP 174 551 [l0, l1, l2, l3, some (zi a), l5, l6, l7] (zi a :: S) q Q := ge_x (len := 2) (x := (0, 0, [])) p_174 rfl rfl
set_option maxRecDepth 100000 in
theorem g174_551 : z_go zP 174 551 L S q Q ↔ z_go zP 174 552 L (zi 3 :: S) q Q := ge_x (len := 1) (x := (0, 0, [])) p_174 rfl rfl
set_option maxRecDepth 100000 in
theorem g174_552 : z_go zP 174 552 L (zi b :: zi a :: S) q Q ↔ z_go zP 174 553 L (zi (a + b) :: S) q Q := ge_iadd (len := 1) (x := (0, 0, [])) p_174 rfl
set_option maxRecDepth 100000 in
theorem g174_553 : z_go zP 174 553 L (zi a :: .ref u :: S) q Q ↔ ∃ v, z_at [99, 100] q.1 u (Int32.ofInt a) = some v ∧ z_go zP 174 554 L (v :: S) q Q := ge_iald (len := 1) (x := (0, 0, [])) p_174 rfl
set_option maxRecDepth 100000 in
theorem g174_554 : z_go zP 174 554 [some (.ref u), l1, l2, l3, l4, l5, l6, l7] S q Q ↔ z_go zP 174 555 [some (.ref u), l1, l2, l3, l4, l5, l6, l7] (.ref u :: S) q Q := ge_x (len := 1) (x := (0, 0, [])) p_174 rfl rfl
set_option maxRecDepth 100000 in
theorem g174_555 : z_go zP 174 555 [l0, l1, l2, l3, some (zi a), l5, l6, l7] S q Q ↔ z_go zP 174 557 [l0, l1, l2, l3, some (zi a), l5, l6, l7] (zi a :: S) q Q := ge_x (len := 2) (x := (0, 0, [])) p_174 rfl rfl
set_option maxRecDepth 100000 in
theorem g174_557 : z_go zP 174 557 L S q Q ↔ z_go zP 174 558 L (zi 4 :: S) q Q := ge_x (len := 1) (x := (0, 0, [])) p_174 rfl rfl
set_option maxRecDepth 100000 in
theorem g174_558 : z_go zP 174 558 L (zi b :: zi a :: S) q Q ↔ z_go zP 174 559 L (zi (a + b) :: S) q Q := ge_iadd (len := 1) (x := (0, 0, [])) p_174 rfl
set_option maxRecDepth 100000 in
theorem g174_559 : z_go zP 174 559 L (zi a :: .ref u :: S) q Q ↔ ∃ v, z_at [99, 100] q.1 u (Int32.ofInt a) = some v ∧ z_go zP 174 560 L (v :: S) q Q := ge_iald (len := 1) (x := (0, 0, [])) p_174 rfl
set_option maxRecDepth 100000 in
theorem g174_560 : z_go zP 174 560 [some (.ref u), l1, l2, l3, l4, l5, l6, l7] S q Q ↔ z_go zP 174 561 [some (.ref u), l1, l2, l3, l4, l5, l6, l7] (.ref u :: S) q Q := ge_x (len := 1) (x := (0, 0, [])) p_174 rfl rfl
set_option maxRecDepth 100000 in
theorem g174_561 : z_go zP 174 561 [l0, l1, l2, l3, some (zi a), l5, l6, l7] S q Q ↔ z_go zP 174 563 [l0, l1, l2, l3, some (zi a), l5, l6, l7] (zi a :: S) q Q := ge_x (len := 2) (x := (0, 0, [])) p_174 rfl rfl
set_option maxRecDepth 100000 in
theorem g174_563 : z_go zP 174 563 L S q Q ↔ z_go zP 174 564 L (zi 5 :: S) q Q := ge_x (len := 1) (x := (0, 0, [])) p_174 rfl rfl
set_option maxRecDepth 100000 in
theorem g174_564 : z_go zP 174 564 L (zi b :: zi a :: S) q Q ↔ z_go zP 174 565 L (zi (a + b) :: S) q Q := ge_iadd (len := 1) (x := (0, 0, [])) p_174 rfl
set_option maxRecDepth 100000 in
theorem g174_565 : z_go zP 174 565 L (zi a :: .ref u :: S) q Q ↔ ∃ v, z_at [99, 100] q.1 u (Int32.ofInt a) = some v ∧ z_go zP 174 566 L (v :: S) q Q := ge_iald (len := 1) (x := (0, 0, [])) p_174 rfl
set_option maxRecDepth 100000 in
theorem g174_566 : z_go zP 174 566 L [zi x4, zi x3, zi x2, zi x1, zi x0, .ref u] q Q ↔ z_tg q.1 u = some 9 ∧ z_go zP 109 0 [some (.ref u), some (zi x0), some (zi x1), some (zi x2), some (zi x3), some (zi x4)] [] q (zc 174 569 L [] Q) := ge_vc (len := 3) (pc := 566) (S := [zi x4, zi x3, zi x2, zi x1, zi x0, .ref u]) (u := u) (k1 := 109) (A := [.ref u, zi x0, zi x1, zi x2, zi x3, zi x4]) (r := []) (tag := 9) (n0 := 5) (zwb_le (by show 0 ≤ 4; omega)) p_174 rfl rfl rfl p_109 (by show 6 ≤ 6; omega) rfl
set_option maxRecDepth 100000 in
theorem g174_569 : z_go zP 174 569 [l0, l1, l2, l3, l4, l5, l6, l7] (zi a :: S) q Q ↔ z_go zP 174 571 [l0, l1, l2, l3, l4, (zkl l5), some (zi a), l7] S q Q := (by cases l5 with | none => exact ge_x (len := 2) (x := (0, 0, [])) p_174 rfl rfl | some v => cases v <;> exact ge_x (len := 2) (x := (0, 0, [])) p_174 rfl rfl)
set_option maxRecDepth 100000 in
theorem g174_571 : z_go zP 174 571 [l0, l1, some (.ref u), l3, l4, l5, l6, l7] S q Q ↔ z_go zP 174 572 [l0, l1, some (.ref u), l3, l4, l5, l6, l7] (.ref u :: S) q Q := ge_x (len := 1) (x := (0, 0, [])) p_174 rfl rfl
set_option maxRecDepth 100000 in
theorem g174_572 : z_go zP 174 572 L [.ref u] q Q ↔ z_tg q.1 u = some 9 ∧ z_go zP 95 0 [some (.ref u)] [] q (zc 174 575 L [] Q) := ge_vc (len := 3) (pc := 572) (S := [.ref u]) (u := u) (k1 := 95) (A := [.ref u]) (r := []) (tag := 9) (n0 := 0) (zwb_le (by show 0 ≤ 4; omega)) p_174 rfl rfl rfl p_95 (by show 1 ≤ 1; omega) rfl
set_option maxRecDepth 100000 in
theorem g174_575 : z_go zP 174 575 [l0, l1, l2, l3, l4, some (zi a), l6, l7] S q Q ↔ z_go zP 174 577 [l0, l1, l2, l3, l4, some (zi a), l6, l7] (zi a :: S) q Q := ge_x (len := 2) (x := (0, 0, [])) p_174 rfl rfl
set_option maxRecDepth 100000 in
theorem g174_577 (a1 : -2147483648 ≤ a) (a2 : a < 2147483648) (b1 : -2147483648 ≤ b) (b2 : b < 2147483648) : z_go zP 174 577 L (zi b :: zi a :: S) q Q ↔ if a = b then z_go zP 174 582 L S q Q else z_go zP 174 580 L S q Q := ge_ic_eq (len := 3) (x := (0, 0, [])) a1 a2 b1 b2 p_174 rfl rfl
set_option maxRecDepth 100000 in
theorem g174_580 : z_go zP 174 580 L S q Q ↔ z_go zP 174 581 L (zi 0 :: S) q Q := ge_x (len := 1) (x := (0, 0, [])) p_174 rfl rfl
set_option maxRecDepth 100000 in
theorem g174_581_0 : z_go zP 174 581 L [zi 0] q Q ↔ Q (.inl (some (zi 0))) q := z_go_rt (len := 1) (x := (0, 0, [])) p_174 rfl rfl rfl
set_option maxRecDepth 100000 in
theorem g174_581_1 : z_go zP 174 581 L [zi 1] q Q ↔ Q (.inl (some (zi 1))) q := z_go_rt (len := 1) (x := (0, 0, [])) p_174 rfl rfl rfl
set_option maxRecDepth 100000 in
theorem g174_581b {c : Prop} [Decidable c] : z_go zP 174 581 L [zi (bI c)] q Q ↔ Q (.inl (some (zi (bI c)))) q := (by rcases bI_01 (c := c) with h | h <;> rw [h] <;> exact z_go_rt (len := 1) (x := (0, 0, [])) p_174 rfl rfl rfl)
set_option maxRecDepth 100000 in
theorem g174_582 : z_go zP 174 582 [l0, l1, l2, l3, l4, some (zi a), l6, l7] S q Q ↔ z_go zP 174 584 [l0, l1, l2, l3, l4, some (zi a), l6, l7] (zi a :: S) q Q := ge_x (len := 2) (x := (0, 0, [])) p_174 rfl rfl
set_option maxRecDepth 100000 in
theorem g174_584 (a1 : -2147483648 ≤ a) (a2 : a < 2147483648) : z_go zP 174 584 L (zi a :: S) q Q ↔ if ¬ a = 0 then z_go zP 174 599 L S q Q else z_go zP 174 587 L S q Q := ge_if_ne (len := 3) (x := (0, 0, [])) a1 a2 p_174 rfl rfl
set_option maxRecDepth 100000 in
theorem g174_584b {c : Prop} [Decidable c] : z_go zP 174 584 L (zi (bI c) :: S) q Q ↔ if c then z_go zP 174 599 L S q Q else z_go zP 174 587 L S q Q := ge_if_ne_b (len := 3) (x := (0, 0, [])) p_174 rfl rfl
set_option maxRecDepth 100000 in
theorem g174_587 : z_go zP 174 587 [l0, l1, l2, some (.ref u), l4, l5, l6, l7] S q Q ↔ z_go zP 174 588 [l0, l1, l2, some (.ref u), l4, l5, l6, l7] (.ref u :: S) q Q := ge_x (len := 1) (x := (0, 0, [])) p_174 rfl rfl
set_option maxRecDepth 100000 in
theorem g174_588 : z_go zP 174 588 L S q Q ↔ z_go zP 174 589 L (zi 0 :: S) q Q := ge_x (len := 1) (x := (0, 0, [])) p_174 rfl rfl
set_option maxRecDepth 100000 in
theorem g174_589 : z_go zP 174 589 L (zi a :: .ref u :: S) q Q ↔ ∃ v, z_at [101] q.1 u (Int32.ofInt a) = some v ∧ z_go zP 174 590 L (v :: S) q Q := ge_lald (len := 1) (x := (0, 0, [])) p_174 rfl
set_option maxRecDepth 100000 in
theorem g174_590 : z_go zP 174 590 [l0, l1, l2, l3, l4, l5, some (zi a), l7] S q Q ↔ z_go zP 174 592 [l0, l1, l2, l3, l4, l5, some (zi a), l7] (zi a :: S) q Q := ge_x (len := 2) (x := (0, 0, [])) p_174 rfl rfl
set_option maxRecDepth 100000 in
theorem g174_592 (a1 : -2147483648 ≤ a) (a2 : a < 2147483648) : z_go zP 174 592 L (zi a :: S) q Q ↔ z_go zP 174 593 L (zl a :: S) q Q := ge_i2l (len := 1) (x := (0, 0, [])) a1 a2 p_174 rfl
set_option maxRecDepth 100000 in
theorem g174_593 (a1 : -9223372036854775808 ≤ a) (a2 : a < 9223372036854775808) (b1 : -9223372036854775808 ≤ b) (b2 : b < 9223372036854775808) : z_go zP 174 593 L (zl b :: zl a :: S) q Q ↔ if a = b then z_go zP 174 599 L S q Q else z_go zP 174 597 L S q Q := ge_lc_eq (len := 1) (x := (0, 0, [])) (p2 := 594) (l2 := 3) a1 a2 b1 b2 p_174 rfl rfl rfl rfl
set_option maxRecDepth 100000 in
theorem g174_597 : z_go zP 174 597 L S q Q ↔ z_go zP 174 598 L (zi 0 :: S) q Q := ge_x (len := 1) (x := (0, 0, [])) p_174 rfl rfl
set_option maxRecDepth 100000 in
theorem g174_598_0 : z_go zP 174 598 L [zi 0] q Q ↔ Q (.inl (some (zi 0))) q := z_go_rt (len := 1) (x := (0, 0, [])) p_174 rfl rfl rfl
set_option maxRecDepth 100000 in
theorem g174_598_1 : z_go zP 174 598 L [zi 1] q Q ↔ Q (.inl (some (zi 1))) q := z_go_rt (len := 1) (x := (0, 0, [])) p_174 rfl rfl rfl
set_option maxRecDepth 100000 in
theorem g174_598b {c : Prop} [Decidable c] : z_go zP 174 598 L [zi (bI c)] q Q ↔ Q (.inl (some (zi (bI c)))) q := (by rcases bI_01 (c := c) with h | h <;> rw [h] <;> exact z_go_rt (len := 1) (x := (0, 0, [])) p_174 rfl rfl rfl)
set_option maxRecDepth 100000 in
theorem g174_599 : z_go zP 174 599 L S q Q ↔ z_go zP 174 1398 L S q Q := ge_to (len := 3) (x := (0, 0, [])) p_174 rfl rfl rfl
set_option maxRecDepth 100000 in
theorem g174_602 : z_go zP 174 602 [l0, some (.ref u), l2, l3, l4, l5, l6, l7] S q Q ↔ z_go zP 174 603 [l0, some (.ref u), l2, l3, l4, l5, l6, l7] (.ref u :: S) q Q := ge_x (len := 1) (x := (0, 0, [])) p_174 rfl rfl
set_option maxRecDepth 100000 in
theorem g174_603 : z_go zP 174 603 [some (.ref u), l1, l2, l3, l4, l5, l6, l7] S q Q ↔ z_go zP 174 604 [some (.ref u), l1, l2, l3, l4, l5, l6, l7] (.ref u :: S) q Q := ge_x (len := 1) (x := (0, 0, [])) p_174 rfl rfl
set_option maxRecDepth 100000 in
theorem g174_604 : z_go zP 174 604 [l0, l1, l2, l3, some (zi a), l5, l6, l7] S q Q ↔ z_go zP 174 606 [l0, l1, l2, l3, some (zi a), l5, l6, l7] (zi a :: S) q Q := ge_x (len := 2) (x := (0, 0, [])) p_174 rfl rfl
set_option maxRecDepth 100000 in
theorem g174_606 : z_go zP 174 606 L S q Q ↔ z_go zP 174 607 L (zi 1 :: S) q Q := ge_x (len := 1) (x := (0, 0, [])) p_174 rfl rfl
set_option maxRecDepth 100000 in
theorem g174_607 : z_go zP 174 607 L (zi b :: zi a :: S) q Q ↔ z_go zP 174 608 L (zi (a + b) :: S) q Q := ge_iadd (len := 1) (x := (0, 0, [])) p_174 rfl
set_option maxRecDepth 100000 in
theorem g174_608 : z_go zP 174 608 L (zi a :: .ref u :: S) q Q ↔ ∃ v, z_at [99, 100] q.1 u (Int32.ofInt a) = some v ∧ z_go zP 174 609 L (v :: S) q Q := ge_iald (len := 1) (x := (0, 0, [])) p_174 rfl
set_option maxRecDepth 100000 in
theorem g174_609 : z_go zP 174 609 [some (.ref u), l1, l2, l3, l4, l5, l6, l7] S q Q ↔ z_go zP 174 610 [some (.ref u), l1, l2, l3, l4, l5, l6, l7] (.ref u :: S) q Q := ge_x (len := 1) (x := (0, 0, [])) p_174 rfl rfl
set_option maxRecDepth 100000 in
theorem g174_610 : z_go zP 174 610 [l0, l1, l2, l3, some (zi a), l5, l6, l7] S q Q ↔ z_go zP 174 612 [l0, l1, l2, l3, some (zi a), l5, l6, l7] (zi a :: S) q Q := ge_x (len := 2) (x := (0, 0, [])) p_174 rfl rfl
set_option maxRecDepth 100000 in
theorem g174_612 : z_go zP 174 612 L S q Q ↔ z_go zP 174 613 L (zi 2 :: S) q Q := ge_x (len := 1) (x := (0, 0, [])) p_174 rfl rfl
set_option maxRecDepth 100000 in
theorem g174_613 : z_go zP 174 613 L (zi b :: zi a :: S) q Q ↔ z_go zP 174 614 L (zi (a + b) :: S) q Q := ge_iadd (len := 1) (x := (0, 0, [])) p_174 rfl
set_option maxRecDepth 100000 in
theorem g174_614 : z_go zP 174 614 L (zi a :: .ref u :: S) q Q ↔ ∃ v, z_at [99, 100] q.1 u (Int32.ofInt a) = some v ∧ z_go zP 174 615 L (v :: S) q Q := ge_iald (len := 1) (x := (0, 0, [])) p_174 rfl
set_option maxRecDepth 100000 in
theorem g174_615 : z_go zP 174 615 [some (.ref u), l1, l2, l3, l4, l5, l6, l7] S q Q ↔ z_go zP 174 616 [some (.ref u), l1, l2, l3, l4, l5, l6, l7] (.ref u :: S) q Q := ge_x (len := 1) (x := (0, 0, [])) p_174 rfl rfl
set_option maxRecDepth 100000 in
theorem g174_616 : z_go zP 174 616 [l0, l1, l2, l3, some (zi a), l5, l6, l7] S q Q ↔ z_go zP 174 618 [l0, l1, l2, l3, some (zi a), l5, l6, l7] (zi a :: S) q Q := ge_x (len := 2) (x := (0, 0, [])) p_174 rfl rfl
set_option maxRecDepth 100000 in
theorem g174_618 : z_go zP 174 618 L S q Q ↔ z_go zP 174 619 L (zi 3 :: S) q Q := ge_x (len := 1) (x := (0, 0, [])) p_174 rfl rfl
set_option maxRecDepth 100000 in
theorem g174_619 : z_go zP 174 619 L (zi b :: zi a :: S) q Q ↔ z_go zP 174 620 L (zi (a + b) :: S) q Q := ge_iadd (len := 1) (x := (0, 0, [])) p_174 rfl
set_option maxRecDepth 100000 in
theorem g174_620 : z_go zP 174 620 L (zi a :: .ref u :: S) q Q ↔ ∃ v, z_at [99, 100] q.1 u (Int32.ofInt a) = some v ∧ z_go zP 174 621 L (v :: S) q Q := ge_iald (len := 1) (x := (0, 0, [])) p_174 rfl
set_option maxRecDepth 100000 in
theorem g174_621 : z_go zP 174 621 [some (.ref u), l1, l2, l3, l4, l5, l6, l7] S q Q ↔ z_go zP 174 622 [some (.ref u), l1, l2, l3, l4, l5, l6, l7] (.ref u :: S) q Q := ge_x (len := 1) (x := (0, 0, [])) p_174 rfl rfl
set_option maxRecDepth 100000 in
theorem g174_622 : z_go zP 174 622 [l0, l1, l2, l3, some (zi a), l5, l6, l7] S q Q ↔ z_go zP 174 624 [l0, l1, l2, l3, some (zi a), l5, l6, l7] (zi a :: S) q Q := ge_x (len := 2) (x := (0, 0, [])) p_174 rfl rfl
set_option maxRecDepth 100000 in
theorem g174_624 : z_go zP 174 624 L S q Q ↔ z_go zP 174 625 L (zi 4 :: S) q Q := ge_x (len := 1) (x := (0, 0, [])) p_174 rfl rfl
set_option maxRecDepth 100000 in
theorem g174_625 : z_go zP 174 625 L (zi b :: zi a :: S) q Q ↔ z_go zP 174 626 L (zi (a + b) :: S) q Q := ge_iadd (len := 1) (x := (0, 0, [])) p_174 rfl
set_option maxRecDepth 100000 in
theorem g174_626 : z_go zP 174 626 L (zi a :: .ref u :: S) q Q ↔ ∃ v, z_at [99, 100] q.1 u (Int32.ofInt a) = some v ∧ z_go zP 174 627 L (v :: S) q Q := ge_iald (len := 1) (x := (0, 0, [])) p_174 rfl
set_option maxRecDepth 100000 in
theorem g174_627 : z_go zP 174 627 [some (.ref u), l1, l2, l3, l4, l5, l6, l7] S q Q ↔ z_go zP 174 628 [some (.ref u), l1, l2, l3, l4, l5, l6, l7] (.ref u :: S) q Q := ge_x (len := 1) (x := (0, 0, [])) p_174 rfl rfl
set_option maxRecDepth 100000 in
theorem g174_628 : z_go zP 174 628 [l0, l1, l2, l3, some (zi a), l5, l6, l7] S q Q ↔ z_go zP 174 630 [l0, l1, l2, l3, some (zi a), l5, l6, l7] (zi a :: S) q Q := ge_x (len := 2) (x := (0, 0, [])) p_174 rfl rfl
set_option maxRecDepth 100000 in
theorem g174_630 : z_go zP 174 630 L S q Q ↔ z_go zP 174 631 L (zi 5 :: S) q Q := ge_x (len := 1) (x := (0, 0, [])) p_174 rfl rfl
set_option maxRecDepth 100000 in
theorem g174_631 : z_go zP 174 631 L (zi b :: zi a :: S) q Q ↔ z_go zP 174 632 L (zi (a + b) :: S) q Q := ge_iadd (len := 1) (x := (0, 0, [])) p_174 rfl
set_option maxRecDepth 100000 in
theorem g174_632 : z_go zP 174 632 L (zi a :: .ref u :: S) q Q ↔ ∃ v, z_at [99, 100] q.1 u (Int32.ofInt a) = some v ∧ z_go zP 174 633 L (v :: S) q Q := ge_iald (len := 1) (x := (0, 0, [])) p_174 rfl
set_option maxRecDepth 100000 in
theorem g174_633 : z_go zP 174 633 [l0, l1, l2, some (.ref u), l4, l5, l6, l7] S q Q ↔ z_go zP 174 634 [l0, l1, l2, some (.ref u), l4, l5, l6, l7] (.ref u :: S) q Q := ge_x (len := 1) (x := (0, 0, [])) p_174 rfl rfl
set_option maxRecDepth 100000 in
theorem g174_634 : z_go zP 174 634 L [.ref w6, zi x5, zi x4, zi x3, zi x2, zi x1, .ref w0] q Q ↔ z_go zP 164 0 [some (.ref w0), some (zi x1), some (zi x2), some (zi x3), some (zi x4), some (zi x5), some (.ref w6), none] [] q (zd 174 637 L [] Q) := (z_go_cl (len := 3) (x := (164, 6, [7])) (k1 := 164) (A := [.ref w0, zi x1, zi x2, zi x3, zi x4, zi x5, .ref w6]) (r := []) p_174 rfl rfl rfl rfl (by simp only [z_cl, List.drop]; rw [if_pos]; rfl; exact by first | exact ⟨by decide, (zwb_le (by show 0 ≤ 4; omega))⟩ | exact ⟨by decide, by show 7 ≤ 7; omega, (zwb_le (by show 0 ≤ 4; omega))⟩) p_164 (by show 7 ≤ 8; omega)).trans (ge_bk_d rfl)
set_option maxRecDepth 100000 in
theorem g174_637 : z_go zP 174 637 [l0, l1, l2, l3, l4, l5, l6, l7] (zi a :: S) q Q ↔ z_go zP 174 639 [l0, l1, l2, l3, (zkl l4), some (zi a), l6, l7] S q Q := (by cases l4 with | none => exact ge_x (len := 2) (x := (0, 0, [])) p_174 rfl rfl | some v => cases v <;> exact ge_x (len := 2) (x := (0, 0, [])) p_174 rfl rfl)
set_option maxRecDepth 100000 in
theorem g174_639 : z_go zP 174 639 [l0, l1, some (.ref u), l3, l4, l5, l6, l7] S q Q ↔ z_go zP 174 640 [l0, l1, some (.ref u), l3, l4, l5, l6, l7] (.ref u :: S) q Q := ge_x (len := 1) (x := (0, 0, [])) p_174 rfl rfl
set_option maxRecDepth 100000 in
theorem g174_640 : z_go zP 174 640 [some (.ref u), l1, l2, l3, l4, l5, l6, l7] S q Q ↔ z_go zP 174 641 [some (.ref u), l1, l2, l3, l4, l5, l6, l7] (.ref u :: S) q Q := ge_x (len := 1) (x := (0, 0, [])) p_174 rfl rfl
set_option maxRecDepth 100000 in
theorem g174_641 : z_go zP 174 641 [l0, l1, l2, l3, some (zi a), l5, l6, l7] S q Q ↔ z_go zP 174 643 [l0, l1, l2, l3, some (zi a), l5, l6, l7] (zi a :: S) q Q := ge_x (len := 2) (x := (0, 0, [])) p_174 rfl rfl
set_option maxRecDepth 100000 in
theorem g174_643 : z_go zP 174 643 L S q Q ↔ z_go zP 174 644 L (zi 1 :: S) q Q := ge_x (len := 1) (x := (0, 0, [])) p_174 rfl rfl
set_option maxRecDepth 100000 in
theorem g174_644 : z_go zP 174 644 L (zi b :: zi a :: S) q Q ↔ z_go zP 174 645 L (zi (a + b) :: S) q Q := ge_iadd (len := 1) (x := (0, 0, [])) p_174 rfl
set_option maxRecDepth 100000 in
theorem g174_645 : z_go zP 174 645 L (zi a :: .ref u :: S) q Q ↔ ∃ v, z_at [99, 100] q.1 u (Int32.ofInt a) = some v ∧ z_go zP 174 646 L (v :: S) q Q := ge_iald (len := 1) (x := (0, 0, [])) p_174 rfl
set_option maxRecDepth 100000 in
theorem g174_646 : z_go zP 174 646 [some (.ref u), l1, l2, l3, l4, l5, l6, l7] S q Q ↔ z_go zP 174 647 [some (.ref u), l1, l2, l3, l4, l5, l6, l7] (.ref u :: S) q Q := ge_x (len := 1) (x := (0, 0, [])) p_174 rfl rfl
set_option maxRecDepth 100000 in
theorem g174_647 : z_go zP 174 647 [l0, l1, l2, l3, some (zi a), l5, l6, l7] S q Q ↔ z_go zP 174 649 [l0, l1, l2, l3, some (zi a), l5, l6, l7] (zi a :: S) q Q := ge_x (len := 2) (x := (0, 0, [])) p_174 rfl rfl
set_option maxRecDepth 100000 in
theorem g174_649 : z_go zP 174 649 L S q Q ↔ z_go zP 174 650 L (zi 2 :: S) q Q := ge_x (len := 1) (x := (0, 0, [])) p_174 rfl rfl
set_option maxRecDepth 100000 in
theorem g174_650 : z_go zP 174 650 L (zi b :: zi a :: S) q Q ↔ z_go zP 174 651 L (zi (a + b) :: S) q Q := ge_iadd (len := 1) (x := (0, 0, [])) p_174 rfl
set_option maxRecDepth 100000 in
theorem g174_651 : z_go zP 174 651 L (zi a :: .ref u :: S) q Q ↔ ∃ v, z_at [99, 100] q.1 u (Int32.ofInt a) = some v ∧ z_go zP 174 652 L (v :: S) q Q := ge_iald (len := 1) (x := (0, 0, [])) p_174 rfl
set_option maxRecDepth 100000 in
theorem g174_652 : z_go zP 174 652 [some (.ref u), l1, l2, l3, l4, l5, l6, l7] S q Q ↔ z_go zP 174 653 [some (.ref u), l1, l2, l3, l4, l5, l6, l7] (.ref u :: S) q Q := ge_x (len := 1) (x := (0, 0, [])) p_174 rfl rfl
set_option maxRecDepth 100000 in
theorem g174_653 : z_go zP 174 653 [l0, l1, l2, l3, some (zi a), l5, l6, l7] S q Q ↔ z_go zP 174 655 [l0, l1, l2, l3, some (zi a), l5, l6, l7] (zi a :: S) q Q := ge_x (len := 2) (x := (0, 0, [])) p_174 rfl rfl
set_option maxRecDepth 100000 in
theorem g174_655 : z_go zP 174 655 L S q Q ↔ z_go zP 174 656 L (zi 3 :: S) q Q := ge_x (len := 1) (x := (0, 0, [])) p_174 rfl rfl
set_option maxRecDepth 100000 in
theorem g174_656 : z_go zP 174 656 L (zi b :: zi a :: S) q Q ↔ z_go zP 174 657 L (zi (a + b) :: S) q Q := ge_iadd (len := 1) (x := (0, 0, [])) p_174 rfl
set_option maxRecDepth 100000 in
theorem g174_657 : z_go zP 174 657 L (zi a :: .ref u :: S) q Q ↔ ∃ v, z_at [99, 100] q.1 u (Int32.ofInt a) = some v ∧ z_go zP 174 658 L (v :: S) q Q := ge_iald (len := 1) (x := (0, 0, [])) p_174 rfl
set_option maxRecDepth 100000 in
theorem g174_658 : z_go zP 174 658 [some (.ref u), l1, l2, l3, l4, l5, l6, l7] S q Q ↔ z_go zP 174 659 [some (.ref u), l1, l2, l3, l4, l5, l6, l7] (.ref u :: S) q Q := ge_x (len := 1) (x := (0, 0, [])) p_174 rfl rfl
set_option maxRecDepth 100000 in
theorem g174_659 : z_go zP 174 659 [l0, l1, l2, l3, some (zi a), l5, l6, l7] S q Q ↔ z_go zP 174 661 [l0, l1, l2, l3, some (zi a), l5, l6, l7] (zi a :: S) q Q := ge_x (len := 2) (x := (0, 0, [])) p_174 rfl rfl
set_option maxRecDepth 100000 in
theorem g174_661 : z_go zP 174 661 L S q Q ↔ z_go zP 174 662 L (zi 4 :: S) q Q := ge_x (len := 1) (x := (0, 0, [])) p_174 rfl rfl
set_option maxRecDepth 100000 in
theorem g174_662 : z_go zP 174 662 L (zi b :: zi a :: S) q Q ↔ z_go zP 174 663 L (zi (a + b) :: S) q Q := ge_iadd (len := 1) (x := (0, 0, [])) p_174 rfl
set_option maxRecDepth 100000 in
theorem g174_663 : z_go zP 174 663 L (zi a :: .ref u :: S) q Q ↔ ∃ v, z_at [99, 100] q.1 u (Int32.ofInt a) = some v ∧ z_go zP 174 664 L (v :: S) q Q := ge_iald (len := 1) (x := (0, 0, [])) p_174 rfl
set_option maxRecDepth 100000 in
theorem g174_664 : z_go zP 174 664 [some (.ref u), l1, l2, l3, l4, l5, l6, l7] S q Q ↔ z_go zP 174 665 [some (.ref u), l1, l2, l3, l4, l5, l6, l7] (.ref u :: S) q Q := ge_x (len := 1) (x := (0, 0, [])) p_174 rfl rfl
set_option maxRecDepth 100000 in
theorem g174_665 : z_go zP 174 665 [l0, l1, l2, l3, some (zi a), l5, l6, l7] S q Q ↔ z_go zP 174 667 [l0, l1, l2, l3, some (zi a), l5, l6, l7] (zi a :: S) q Q := ge_x (len := 2) (x := (0, 0, [])) p_174 rfl rfl
set_option maxRecDepth 100000 in
theorem g174_667 : z_go zP 174 667 L S q Q ↔ z_go zP 174 668 L (zi 5 :: S) q Q := ge_x (len := 1) (x := (0, 0, [])) p_174 rfl rfl
set_option maxRecDepth 100000 in
theorem g174_668 : z_go zP 174 668 L (zi b :: zi a :: S) q Q ↔ z_go zP 174 669 L (zi (a + b) :: S) q Q := ge_iadd (len := 1) (x := (0, 0, [])) p_174 rfl
set_option maxRecDepth 100000 in
theorem g174_669 : z_go zP 174 669 L (zi a :: .ref u :: S) q Q ↔ ∃ v, z_at [99, 100] q.1 u (Int32.ofInt a) = some v ∧ z_go zP 174 670 L (v :: S) q Q := ge_iald (len := 1) (x := (0, 0, [])) p_174 rfl
set_option maxRecDepth 100000 in
theorem g174_670 : z_go zP 174 670 L [zi x4, zi x3, zi x2, zi x1, zi x0, .ref u] q Q ↔ z_tg q.1 u = some 9 ∧ z_go zP 110 0 [some (.ref u), some (zi x0), some (zi x1), some (zi x2), some (zi x3), some (zi x4), none] [] q (zc 174 673 L [] Q) := ge_vc (len := 3) (pc := 670) (S := [zi x4, zi x3, zi x2, zi x1, zi x0, .ref u]) (u := u) (k1 := 110) (A := [.ref u, zi x0, zi x1, zi x2, zi x3, zi x4]) (r := []) (tag := 9) (n0 := 5) (zwb_le (by show 0 ≤ 4; omega)) p_174 rfl rfl rfl p_110 (by show 6 ≤ 7; omega) rfl
set_option maxRecDepth 100000 in
theorem g174_673 : z_go zP 174 673 [l0, l1, l2, l3, l4, l5, l6, l7] (zi a :: S) q Q ↔ z_go zP 174 675 [l0, l1, l2, l3, l4, (zkl l5), some (zi a), l7] S q Q := (by cases l5 with | none => exact ge_x (len := 2) (x := (0, 0, [])) p_174 rfl rfl | some v => cases v <;> exact ge_x (len := 2) (x := (0, 0, [])) p_174 rfl rfl)
set_option maxRecDepth 100000 in
theorem g174_675 : z_go zP 174 675 [l0, l1, some (.ref u), l3, l4, l5, l6, l7] S q Q ↔ z_go zP 174 676 [l0, l1, some (.ref u), l3, l4, l5, l6, l7] (.ref u :: S) q Q := ge_x (len := 1) (x := (0, 0, [])) p_174 rfl rfl
set_option maxRecDepth 100000 in
theorem g174_676 : z_go zP 174 676 L [.ref u] q Q ↔ z_tg q.1 u = some 9 ∧ z_go zP 95 0 [some (.ref u)] [] q (zc 174 679 L [] Q) := ge_vc (len := 3) (pc := 676) (S := [.ref u]) (u := u) (k1 := 95) (A := [.ref u]) (r := []) (tag := 9) (n0 := 0) (zwb_le (by show 0 ≤ 4; omega)) p_174 rfl rfl rfl p_95 (by show 1 ≤ 1; omega) rfl
set_option maxRecDepth 100000 in
theorem g174_679 : z_go zP 174 679 [l0, l1, l2, l3, l4, some (zi a), l6, l7] S q Q ↔ z_go zP 174 681 [l0, l1, l2, l3, l4, some (zi a), l6, l7] (zi a :: S) q Q := ge_x (len := 2) (x := (0, 0, [])) p_174 rfl rfl
set_option maxRecDepth 100000 in
theorem g174_681 (a1 : -2147483648 ≤ a) (a2 : a < 2147483648) (b1 : -2147483648 ≤ b) (b2 : b < 2147483648) : z_go zP 174 681 L (zi b :: zi a :: S) q Q ↔ if a = b then z_go zP 174 686 L S q Q else z_go zP 174 684 L S q Q := ge_ic_eq (len := 3) (x := (0, 0, [])) a1 a2 b1 b2 p_174 rfl rfl
set_option maxRecDepth 100000 in
theorem g174_684 : z_go zP 174 684 L S q Q ↔ z_go zP 174 685 L (zi 0 :: S) q Q := ge_x (len := 1) (x := (0, 0, [])) p_174 rfl rfl
set_option maxRecDepth 100000 in
theorem g174_685_0 : z_go zP 174 685 L [zi 0] q Q ↔ Q (.inl (some (zi 0))) q := z_go_rt (len := 1) (x := (0, 0, [])) p_174 rfl rfl rfl
set_option maxRecDepth 100000 in
theorem g174_685_1 : z_go zP 174 685 L [zi 1] q Q ↔ Q (.inl (some (zi 1))) q := z_go_rt (len := 1) (x := (0, 0, [])) p_174 rfl rfl rfl
set_option maxRecDepth 100000 in
theorem g174_685b {c : Prop} [Decidable c] : z_go zP 174 685 L [zi (bI c)] q Q ↔ Q (.inl (some (zi (bI c)))) q := (by rcases bI_01 (c := c) with h | h <;> rw [h] <;> exact z_go_rt (len := 1) (x := (0, 0, [])) p_174 rfl rfl rfl)
set_option maxRecDepth 100000 in
theorem g174_686 : z_go zP 174 686 [l0, l1, l2, l3, l4, some (zi a), l6, l7] S q Q ↔ z_go zP 174 688 [l0, l1, l2, l3, l4, some (zi a), l6, l7] (zi a :: S) q Q := ge_x (len := 2) (x := (0, 0, [])) p_174 rfl rfl
set_option maxRecDepth 100000 in
theorem g174_688 (a1 : -2147483648 ≤ a) (a2 : a < 2147483648) : z_go zP 174 688 L (zi a :: S) q Q ↔ if ¬ a = 0 then z_go zP 174 703 L S q Q else z_go zP 174 691 L S q Q := ge_if_ne (len := 3) (x := (0, 0, [])) a1 a2 p_174 rfl rfl
set_option maxRecDepth 100000 in
theorem g174_688b {c : Prop} [Decidable c] : z_go zP 174 688 L (zi (bI c) :: S) q Q ↔ if c then z_go zP 174 703 L S q Q else z_go zP 174 691 L S q Q := ge_if_ne_b (len := 3) (x := (0, 0, [])) p_174 rfl rfl
set_option maxRecDepth 100000 in
theorem g174_691 : z_go zP 174 691 [l0, l1, l2, some (.ref u), l4, l5, l6, l7] S q Q ↔ z_go zP 174 692 [l0, l1, l2, some (.ref u), l4, l5, l6, l7] (.ref u :: S) q Q := ge_x (len := 1) (x := (0, 0, [])) p_174 rfl rfl
set_option maxRecDepth 100000 in
theorem g174_692 : z_go zP 174 692 L S q Q ↔ z_go zP 174 693 L (zi 0 :: S) q Q := ge_x (len := 1) (x := (0, 0, [])) p_174 rfl rfl
set_option maxRecDepth 100000 in
theorem g174_693 : z_go zP 174 693 L (zi a :: .ref u :: S) q Q ↔ ∃ v, z_at [101] q.1 u (Int32.ofInt a) = some v ∧ z_go zP 174 694 L (v :: S) q Q := ge_lald (len := 1) (x := (0, 0, [])) p_174 rfl
set_option maxRecDepth 100000 in
theorem g174_694 : z_go zP 174 694 [l0, l1, l2, l3, l4, l5, some (zi a), l7] S q Q ↔ z_go zP 174 696 [l0, l1, l2, l3, l4, l5, some (zi a), l7] (zi a :: S) q Q := ge_x (len := 2) (x := (0, 0, [])) p_174 rfl rfl
set_option maxRecDepth 100000 in
theorem g174_696 (a1 : -2147483648 ≤ a) (a2 : a < 2147483648) : z_go zP 174 696 L (zi a :: S) q Q ↔ z_go zP 174 697 L (zl a :: S) q Q := ge_i2l (len := 1) (x := (0, 0, [])) a1 a2 p_174 rfl
set_option maxRecDepth 100000 in
theorem g174_697 (a1 : -9223372036854775808 ≤ a) (a2 : a < 9223372036854775808) (b1 : -9223372036854775808 ≤ b) (b2 : b < 9223372036854775808) : z_go zP 174 697 L (zl b :: zl a :: S) q Q ↔ if a = b then z_go zP 174 703 L S q Q else z_go zP 174 701 L S q Q := ge_lc_eq (len := 1) (x := (0, 0, [])) (p2 := 698) (l2 := 3) a1 a2 b1 b2 p_174 rfl rfl rfl rfl
set_option maxRecDepth 100000 in
theorem g174_701 : z_go zP 174 701 L S q Q ↔ z_go zP 174 702 L (zi 0 :: S) q Q := ge_x (len := 1) (x := (0, 0, [])) p_174 rfl rfl
set_option maxRecDepth 100000 in
theorem g174_702_0 : z_go zP 174 702 L [zi 0] q Q ↔ Q (.inl (some (zi 0))) q := z_go_rt (len := 1) (x := (0, 0, [])) p_174 rfl rfl rfl
set_option maxRecDepth 100000 in
theorem g174_702_1 : z_go zP 174 702 L [zi 1] q Q ↔ Q (.inl (some (zi 1))) q := z_go_rt (len := 1) (x := (0, 0, [])) p_174 rfl rfl rfl
set_option maxRecDepth 100000 in
theorem g174_702b {c : Prop} [Decidable c] : z_go zP 174 702 L [zi (bI c)] q Q ↔ Q (.inl (some (zi (bI c)))) q := (by rcases bI_01 (c := c) with h | h <;> rw [h] <;> exact z_go_rt (len := 1) (x := (0, 0, [])) p_174 rfl rfl rfl)
set_option maxRecDepth 100000 in
theorem g174_703 : z_go zP 174 703 L S q Q ↔ z_go zP 174 1398 L S q Q := ge_to (len := 3) (x := (0, 0, [])) p_174 rfl rfl rfl
set_option maxRecDepth 100000 in
theorem g174_706 : z_go zP 174 706 [l0, some (.ref u), l2, l3, l4, l5, l6, l7] S q Q ↔ z_go zP 174 707 [l0, some (.ref u), l2, l3, l4, l5, l6, l7] (.ref u :: S) q Q := ge_x (len := 1) (x := (0, 0, [])) p_174 rfl rfl
set_option maxRecDepth 100000 in
theorem g174_707 : z_go zP 174 707 [some (.ref u), l1, l2, l3, l4, l5, l6, l7] S q Q ↔ z_go zP 174 708 [some (.ref u), l1, l2, l3, l4, l5, l6, l7] (.ref u :: S) q Q := ge_x (len := 1) (x := (0, 0, [])) p_174 rfl rfl
set_option maxRecDepth 100000 in
theorem g174_708 : z_go zP 174 708 [l0, l1, l2, l3, some (zi a), l5, l6, l7] S q Q ↔ z_go zP 174 710 [l0, l1, l2, l3, some (zi a), l5, l6, l7] (zi a :: S) q Q := ge_x (len := 2) (x := (0, 0, [])) p_174 rfl rfl
set_option maxRecDepth 100000 in
theorem g174_710 : z_go zP 174 710 L S q Q ↔ z_go zP 174 711 L (zi 1 :: S) q Q := ge_x (len := 1) (x := (0, 0, [])) p_174 rfl rfl
set_option maxRecDepth 100000 in
theorem g174_711 : z_go zP 174 711 L (zi b :: zi a :: S) q Q ↔ z_go zP 174 712 L (zi (a + b) :: S) q Q := ge_iadd (len := 1) (x := (0, 0, [])) p_174 rfl
set_option maxRecDepth 100000 in
theorem g174_712 : z_go zP 174 712 L (zi a :: .ref u :: S) q Q ↔ ∃ v, z_at [99, 100] q.1 u (Int32.ofInt a) = some v ∧ z_go zP 174 713 L (v :: S) q Q := ge_iald (len := 1) (x := (0, 0, [])) p_174 rfl
set_option maxRecDepth 100000 in
theorem g174_713 : z_go zP 174 713 [some (.ref u), l1, l2, l3, l4, l5, l6, l7] S q Q ↔ z_go zP 174 714 [some (.ref u), l1, l2, l3, l4, l5, l6, l7] (.ref u :: S) q Q := ge_x (len := 1) (x := (0, 0, [])) p_174 rfl rfl
set_option maxRecDepth 100000 in
theorem g174_714 : z_go zP 174 714 [l0, l1, l2, l3, some (zi a), l5, l6, l7] S q Q ↔ z_go zP 174 716 [l0, l1, l2, l3, some (zi a), l5, l6, l7] (zi a :: S) q Q := ge_x (len := 2) (x := (0, 0, [])) p_174 rfl rfl
set_option maxRecDepth 100000 in
theorem g174_716 : z_go zP 174 716 L S q Q ↔ z_go zP 174 717 L (zi 2 :: S) q Q := ge_x (len := 1) (x := (0, 0, [])) p_174 rfl rfl
set_option maxRecDepth 100000 in
theorem g174_717 : z_go zP 174 717 L (zi b :: zi a :: S) q Q ↔ z_go zP 174 718 L (zi (a + b) :: S) q Q := ge_iadd (len := 1) (x := (0, 0, [])) p_174 rfl
set_option maxRecDepth 100000 in
theorem g174_718 : z_go zP 174 718 L (zi a :: .ref u :: S) q Q ↔ ∃ v, z_at [99, 100] q.1 u (Int32.ofInt a) = some v ∧ z_go zP 174 719 L (v :: S) q Q := ge_iald (len := 1) (x := (0, 0, [])) p_174 rfl
set_option maxRecDepth 100000 in
theorem g174_719 : z_go zP 174 719 [l0, l1, l2, some (.ref u), l4, l5, l6, l7] S q Q ↔ z_go zP 174 720 [l0, l1, l2, some (.ref u), l4, l5, l6, l7] (.ref u :: S) q Q := ge_x (len := 1) (x := (0, 0, [])) p_174 rfl rfl
set_option maxRecDepth 100000 in
theorem g174_720 : z_go zP 174 720 L [.ref w3, zi x2, zi x1, .ref w0] q Q ↔ z_go zP 165 0 [some (.ref w0), some (zi x1), some (zi x2), some (.ref w3), none] [] q (zd 174 723 L [] Q) := (z_go_cl (len := 3) (x := (165, 6, [4])) (k1 := 165) (A := [.ref w0, zi x1, zi x2, .ref w3]) (r := []) p_174 rfl rfl rfl rfl (by simp only [z_cl, List.drop]; rw [if_pos]; rfl; exact by first | exact ⟨by decide, (zwb_le (by show 0 ≤ 4; omega))⟩ | exact ⟨by decide, by show 4 ≤ 4; omega, (zwb_le (by show 0 ≤ 4; omega))⟩) p_165 (by show 4 ≤ 5; omega)).trans (ge_bk_d rfl)
set_option maxRecDepth 100000 in
theorem g174_723 : z_go zP 174 723 [l0, l1, l2, l3, l4, l5, l6, l7] (zi a :: S) q Q ↔ z_go zP 174 725 [l0, l1, l2, l3, (zkl l4), some (zi a), l6, l7] S q Q := (by cases l4 with | none => exact ge_x (len := 2) (x := (0, 0, [])) p_174 rfl rfl | some v => cases v <;> exact ge_x (len := 2) (x := (0, 0, [])) p_174 rfl rfl)
set_option maxRecDepth 100000 in
theorem g174_725 : z_go zP 174 725 [l0, l1, some (.ref u), l3, l4, l5, l6, l7] S q Q ↔ z_go zP 174 726 [l0, l1, some (.ref u), l3, l4, l5, l6, l7] (.ref u :: S) q Q := ge_x (len := 1) (x := (0, 0, [])) p_174 rfl rfl
set_option maxRecDepth 100000 in
theorem g174_726 : z_go zP 174 726 [some (.ref u), l1, l2, l3, l4, l5, l6, l7] S q Q ↔ z_go zP 174 727 [some (.ref u), l1, l2, l3, l4, l5, l6, l7] (.ref u :: S) q Q := ge_x (len := 1) (x := (0, 0, [])) p_174 rfl rfl
set_option maxRecDepth 100000 in
theorem g174_727 : z_go zP 174 727 [l0, l1, l2, l3, some (zi a), l5, l6, l7] S q Q ↔ z_go zP 174 729 [l0, l1, l2, l3, some (zi a), l5, l6, l7] (zi a :: S) q Q := ge_x (len := 2) (x := (0, 0, [])) p_174 rfl rfl
set_option maxRecDepth 100000 in
theorem g174_729 : z_go zP 174 729 L S q Q ↔ z_go zP 174 730 L (zi 1 :: S) q Q := ge_x (len := 1) (x := (0, 0, [])) p_174 rfl rfl
set_option maxRecDepth 100000 in
theorem g174_730 : z_go zP 174 730 L (zi b :: zi a :: S) q Q ↔ z_go zP 174 731 L (zi (a + b) :: S) q Q := ge_iadd (len := 1) (x := (0, 0, [])) p_174 rfl
set_option maxRecDepth 100000 in
theorem g174_731 : z_go zP 174 731 L (zi a :: .ref u :: S) q Q ↔ ∃ v, z_at [99, 100] q.1 u (Int32.ofInt a) = some v ∧ z_go zP 174 732 L (v :: S) q Q := ge_iald (len := 1) (x := (0, 0, [])) p_174 rfl
set_option maxRecDepth 100000 in
theorem g174_732 : z_go zP 174 732 [some (.ref u), l1, l2, l3, l4, l5, l6, l7] S q Q ↔ z_go zP 174 733 [some (.ref u), l1, l2, l3, l4, l5, l6, l7] (.ref u :: S) q Q := ge_x (len := 1) (x := (0, 0, [])) p_174 rfl rfl
set_option maxRecDepth 100000 in
theorem g174_733 : z_go zP 174 733 [l0, l1, l2, l3, some (zi a), l5, l6, l7] S q Q ↔ z_go zP 174 735 [l0, l1, l2, l3, some (zi a), l5, l6, l7] (zi a :: S) q Q := ge_x (len := 2) (x := (0, 0, [])) p_174 rfl rfl
set_option maxRecDepth 100000 in
theorem g174_735 : z_go zP 174 735 L S q Q ↔ z_go zP 174 736 L (zi 2 :: S) q Q := ge_x (len := 1) (x := (0, 0, [])) p_174 rfl rfl
set_option maxRecDepth 100000 in
theorem g174_736 : z_go zP 174 736 L (zi b :: zi a :: S) q Q ↔ z_go zP 174 737 L (zi (a + b) :: S) q Q := ge_iadd (len := 1) (x := (0, 0, [])) p_174 rfl
set_option maxRecDepth 100000 in
theorem g174_737 : z_go zP 174 737 L (zi a :: .ref u :: S) q Q ↔ ∃ v, z_at [99, 100] q.1 u (Int32.ofInt a) = some v ∧ z_go zP 174 738 L (v :: S) q Q := ge_iald (len := 1) (x := (0, 0, [])) p_174 rfl
set_option maxRecDepth 100000 in
theorem g174_738 : z_go zP 174 738 L [zi x1, zi x0, .ref u] q Q ↔ z_tg q.1 u = some 9 ∧ z_go zP 119 0 [some (.ref u), some (zi x0), some (zi x1), none, none] [] q (zc 174 741 L [] Q) := ge_vc (len := 3) (pc := 738) (S := [zi x1, zi x0, .ref u]) (u := u) (k1 := 119) (A := [.ref u, zi x0, zi x1]) (r := []) (tag := 9) (n0 := 2) (zwb_le (by show 0 ≤ 4; omega)) p_174 rfl rfl rfl p_119 (by show 3 ≤ 5; omega) rfl
set_option maxRecDepth 100000 in
theorem g174_741 : z_go zP 174 741 [l0, l1, l2, l3, l4, l5, l6, l7] (zi a :: S) q Q ↔ z_go zP 174 743 [l0, l1, l2, l3, l4, (zkl l5), some (zi a), l7] S q Q := (by cases l5 with | none => exact ge_x (len := 2) (x := (0, 0, [])) p_174 rfl rfl | some v => cases v <;> exact ge_x (len := 2) (x := (0, 0, [])) p_174 rfl rfl)
set_option maxRecDepth 100000 in
theorem g174_743 : z_go zP 174 743 [l0, l1, some (.ref u), l3, l4, l5, l6, l7] S q Q ↔ z_go zP 174 744 [l0, l1, some (.ref u), l3, l4, l5, l6, l7] (.ref u :: S) q Q := ge_x (len := 1) (x := (0, 0, [])) p_174 rfl rfl
set_option maxRecDepth 100000 in
theorem g174_744 : z_go zP 174 744 L [.ref u] q Q ↔ z_tg q.1 u = some 9 ∧ z_go zP 95 0 [some (.ref u)] [] q (zc 174 747 L [] Q) := ge_vc (len := 3) (pc := 744) (S := [.ref u]) (u := u) (k1 := 95) (A := [.ref u]) (r := []) (tag := 9) (n0 := 0) (zwb_le (by show 0 ≤ 4; omega)) p_174 rfl rfl rfl p_95 (by show 1 ≤ 1; omega) rfl
set_option maxRecDepth 100000 in
theorem g174_747 : z_go zP 174 747 [l0, l1, l2, l3, l4, some (zi a), l6, l7] S q Q ↔ z_go zP 174 749 [l0, l1, l2, l3, l4, some (zi a), l6, l7] (zi a :: S) q Q := ge_x (len := 2) (x := (0, 0, [])) p_174 rfl rfl
set_option maxRecDepth 100000 in
theorem g174_749 (a1 : -2147483648 ≤ a) (a2 : a < 2147483648) (b1 : -2147483648 ≤ b) (b2 : b < 2147483648) : z_go zP 174 749 L (zi b :: zi a :: S) q Q ↔ if a = b then z_go zP 174 754 L S q Q else z_go zP 174 752 L S q Q := ge_ic_eq (len := 3) (x := (0, 0, [])) a1 a2 b1 b2 p_174 rfl rfl
set_option maxRecDepth 100000 in
theorem g174_752 : z_go zP 174 752 L S q Q ↔ z_go zP 174 753 L (zi 0 :: S) q Q := ge_x (len := 1) (x := (0, 0, [])) p_174 rfl rfl
set_option maxRecDepth 100000 in
theorem g174_753_0 : z_go zP 174 753 L [zi 0] q Q ↔ Q (.inl (some (zi 0))) q := z_go_rt (len := 1) (x := (0, 0, [])) p_174 rfl rfl rfl
set_option maxRecDepth 100000 in
theorem g174_753_1 : z_go zP 174 753 L [zi 1] q Q ↔ Q (.inl (some (zi 1))) q := z_go_rt (len := 1) (x := (0, 0, [])) p_174 rfl rfl rfl
set_option maxRecDepth 100000 in
theorem g174_753b {c : Prop} [Decidable c] : z_go zP 174 753 L [zi (bI c)] q Q ↔ Q (.inl (some (zi (bI c)))) q := (by rcases bI_01 (c := c) with h | h <;> rw [h] <;> exact z_go_rt (len := 1) (x := (0, 0, [])) p_174 rfl rfl rfl)
set_option maxRecDepth 100000 in
theorem g174_754 : z_go zP 174 754 [l0, l1, l2, l3, l4, some (zi a), l6, l7] S q Q ↔ z_go zP 174 756 [l0, l1, l2, l3, l4, some (zi a), l6, l7] (zi a :: S) q Q := ge_x (len := 2) (x := (0, 0, [])) p_174 rfl rfl
set_option maxRecDepth 100000 in
theorem g174_756 (a1 : -2147483648 ≤ a) (a2 : a < 2147483648) : z_go zP 174 756 L (zi a :: S) q Q ↔ if ¬ a = 0 then z_go zP 174 771 L S q Q else z_go zP 174 759 L S q Q := ge_if_ne (len := 3) (x := (0, 0, [])) a1 a2 p_174 rfl rfl
set_option maxRecDepth 100000 in
theorem g174_756b {c : Prop} [Decidable c] : z_go zP 174 756 L (zi (bI c) :: S) q Q ↔ if c then z_go zP 174 771 L S q Q else z_go zP 174 759 L S q Q := ge_if_ne_b (len := 3) (x := (0, 0, [])) p_174 rfl rfl
set_option maxRecDepth 100000 in
theorem g174_759 : z_go zP 174 759 [l0, l1, l2, some (.ref u), l4, l5, l6, l7] S q Q ↔ z_go zP 174 760 [l0, l1, l2, some (.ref u), l4, l5, l6, l7] (.ref u :: S) q Q := ge_x (len := 1) (x := (0, 0, [])) p_174 rfl rfl
set_option maxRecDepth 100000 in
theorem g174_760 : z_go zP 174 760 L S q Q ↔ z_go zP 174 761 L (zi 0 :: S) q Q := ge_x (len := 1) (x := (0, 0, [])) p_174 rfl rfl
set_option maxRecDepth 100000 in
theorem g174_761 : z_go zP 174 761 L (zi a :: .ref u :: S) q Q ↔ ∃ v, z_at [101] q.1 u (Int32.ofInt a) = some v ∧ z_go zP 174 762 L (v :: S) q Q := ge_lald (len := 1) (x := (0, 0, [])) p_174 rfl
set_option maxRecDepth 100000 in
theorem g174_762 : z_go zP 174 762 [l0, l1, l2, l3, l4, l5, some (zi a), l7] S q Q ↔ z_go zP 174 764 [l0, l1, l2, l3, l4, l5, some (zi a), l7] (zi a :: S) q Q := ge_x (len := 2) (x := (0, 0, [])) p_174 rfl rfl
set_option maxRecDepth 100000 in
theorem g174_764 (a1 : -2147483648 ≤ a) (a2 : a < 2147483648) : z_go zP 174 764 L (zi a :: S) q Q ↔ z_go zP 174 765 L (zl a :: S) q Q := ge_i2l (len := 1) (x := (0, 0, [])) a1 a2 p_174 rfl
set_option maxRecDepth 100000 in
theorem g174_765 (a1 : -9223372036854775808 ≤ a) (a2 : a < 9223372036854775808) (b1 : -9223372036854775808 ≤ b) (b2 : b < 9223372036854775808) : z_go zP 174 765 L (zl b :: zl a :: S) q Q ↔ if a = b then z_go zP 174 771 L S q Q else z_go zP 174 769 L S q Q := ge_lc_eq (len := 1) (x := (0, 0, [])) (p2 := 766) (l2 := 3) a1 a2 b1 b2 p_174 rfl rfl rfl rfl
set_option maxRecDepth 100000 in
theorem g174_769 : z_go zP 174 769 L S q Q ↔ z_go zP 174 770 L (zi 0 :: S) q Q := ge_x (len := 1) (x := (0, 0, [])) p_174 rfl rfl
set_option maxRecDepth 100000 in
theorem g174_770_0 : z_go zP 174 770 L [zi 0] q Q ↔ Q (.inl (some (zi 0))) q := z_go_rt (len := 1) (x := (0, 0, [])) p_174 rfl rfl rfl
set_option maxRecDepth 100000 in
theorem g174_770_1 : z_go zP 174 770 L [zi 1] q Q ↔ Q (.inl (some (zi 1))) q := z_go_rt (len := 1) (x := (0, 0, [])) p_174 rfl rfl rfl
set_option maxRecDepth 100000 in
theorem g174_770b {c : Prop} [Decidable c] : z_go zP 174 770 L [zi (bI c)] q Q ↔ Q (.inl (some (zi (bI c)))) q := (by rcases bI_01 (c := c) with h | h <;> rw [h] <;> exact z_go_rt (len := 1) (x := (0, 0, [])) p_174 rfl rfl rfl)
set_option maxRecDepth 100000 in
theorem g174_771 : z_go zP 174 771 L S q Q ↔ z_go zP 174 1398 L S q Q := ge_to (len := 3) (x := (0, 0, [])) p_174 rfl rfl rfl
set_option maxRecDepth 100000 in
theorem g174_774 : z_go zP 174 774 [l0, some (.ref u), l2, l3, l4, l5, l6, l7] S q Q ↔ z_go zP 174 775 [l0, some (.ref u), l2, l3, l4, l5, l6, l7] (.ref u :: S) q Q := ge_x (len := 1) (x := (0, 0, [])) p_174 rfl rfl
set_option maxRecDepth 100000 in
theorem g174_775 : z_go zP 174 775 [some (.ref u), l1, l2, l3, l4, l5, l6, l7] S q Q ↔ z_go zP 174 776 [some (.ref u), l1, l2, l3, l4, l5, l6, l7] (.ref u :: S) q Q := ge_x (len := 1) (x := (0, 0, [])) p_174 rfl rfl
set_option maxRecDepth 100000 in
theorem g174_776 : z_go zP 174 776 [l0, l1, l2, l3, some (zi a), l5, l6, l7] S q Q ↔ z_go zP 174 778 [l0, l1, l2, l3, some (zi a), l5, l6, l7] (zi a :: S) q Q := ge_x (len := 2) (x := (0, 0, [])) p_174 rfl rfl
set_option maxRecDepth 100000 in
theorem g174_778 : z_go zP 174 778 L S q Q ↔ z_go zP 174 779 L (zi 1 :: S) q Q := ge_x (len := 1) (x := (0, 0, [])) p_174 rfl rfl
set_option maxRecDepth 100000 in
theorem g174_779 : z_go zP 174 779 L (zi b :: zi a :: S) q Q ↔ z_go zP 174 780 L (zi (a + b) :: S) q Q := ge_iadd (len := 1) (x := (0, 0, [])) p_174 rfl
set_option maxRecDepth 100000 in
theorem g174_780 : z_go zP 174 780 L (zi a :: .ref u :: S) q Q ↔ ∃ v, z_at [99, 100] q.1 u (Int32.ofInt a) = some v ∧ z_go zP 174 781 L (v :: S) q Q := ge_iald (len := 1) (x := (0, 0, [])) p_174 rfl
set_option maxRecDepth 100000 in
theorem g174_781 : z_go zP 174 781 [some (.ref u), l1, l2, l3, l4, l5, l6, l7] S q Q ↔ z_go zP 174 782 [some (.ref u), l1, l2, l3, l4, l5, l6, l7] (.ref u :: S) q Q := ge_x (len := 1) (x := (0, 0, [])) p_174 rfl rfl
set_option maxRecDepth 100000 in
theorem g174_782 : z_go zP 174 782 [l0, l1, l2, l3, some (zi a), l5, l6, l7] S q Q ↔ z_go zP 174 784 [l0, l1, l2, l3, some (zi a), l5, l6, l7] (zi a :: S) q Q := ge_x (len := 2) (x := (0, 0, [])) p_174 rfl rfl
set_option maxRecDepth 100000 in
theorem g174_784 : z_go zP 174 784 L S q Q ↔ z_go zP 174 785 L (zi 2 :: S) q Q := ge_x (len := 1) (x := (0, 0, [])) p_174 rfl rfl
set_option maxRecDepth 100000 in
theorem g174_785 : z_go zP 174 785 L (zi b :: zi a :: S) q Q ↔ z_go zP 174 786 L (zi (a + b) :: S) q Q := ge_iadd (len := 1) (x := (0, 0, [])) p_174 rfl
set_option maxRecDepth 100000 in
theorem g174_786 : z_go zP 174 786 L (zi a :: .ref u :: S) q Q ↔ ∃ v, z_at [99, 100] q.1 u (Int32.ofInt a) = some v ∧ z_go zP 174 787 L (v :: S) q Q := ge_iald (len := 1) (x := (0, 0, [])) p_174 rfl
set_option maxRecDepth 100000 in
theorem g174_787 : z_go zP 174 787 [l0, l1, l2, some (.ref u), l4, l5, l6, l7] S q Q ↔ z_go zP 174 788 [l0, l1, l2, some (.ref u), l4, l5, l6, l7] (.ref u :: S) q Q := ge_x (len := 1) (x := (0, 0, [])) p_174 rfl rfl
set_option maxRecDepth 100000 in
theorem g174_788 : z_go zP 174 788 L [.ref w3, zi x2, zi x1, .ref w0] q Q ↔ z_go zP 166 0 [some (.ref w0), some (zi x1), some (zi x2), some (.ref w3), none] [] q (zd 174 791 L [] Q) := (z_go_cl (len := 3) (x := (166, 6, [4])) (k1 := 166) (A := [.ref w0, zi x1, zi x2, .ref w3]) (r := []) p_174 rfl rfl rfl rfl (by simp only [z_cl, List.drop]; rw [if_pos]; rfl; exact by first | exact ⟨by decide, (zwb_le (by show 0 ≤ 4; omega))⟩ | exact ⟨by decide, by show 4 ≤ 4; omega, (zwb_le (by show 0 ≤ 4; omega))⟩) p_166 (by show 4 ≤ 5; omega)).trans (ge_bk_d rfl)
set_option maxRecDepth 100000 in
theorem g174_791 : z_go zP 174 791 [l0, l1, l2, l3, l4, l5, l6, l7] (zi a :: S) q Q ↔ z_go zP 174 793 [l0, l1, l2, l3, (zkl l4), some (zi a), l6, l7] S q Q := (by cases l4 with | none => exact ge_x (len := 2) (x := (0, 0, [])) p_174 rfl rfl | some v => cases v <;> exact ge_x (len := 2) (x := (0, 0, [])) p_174 rfl rfl)
set_option maxRecDepth 100000 in
theorem g174_793 : z_go zP 174 793 [l0, l1, some (.ref u), l3, l4, l5, l6, l7] S q Q ↔ z_go zP 174 794 [l0, l1, some (.ref u), l3, l4, l5, l6, l7] (.ref u :: S) q Q := ge_x (len := 1) (x := (0, 0, [])) p_174 rfl rfl
set_option maxRecDepth 100000 in
theorem g174_794 : z_go zP 174 794 [some (.ref u), l1, l2, l3, l4, l5, l6, l7] S q Q ↔ z_go zP 174 795 [some (.ref u), l1, l2, l3, l4, l5, l6, l7] (.ref u :: S) q Q := ge_x (len := 1) (x := (0, 0, [])) p_174 rfl rfl
set_option maxRecDepth 100000 in
theorem g174_795 : z_go zP 174 795 [l0, l1, l2, l3, some (zi a), l5, l6, l7] S q Q ↔ z_go zP 174 797 [l0, l1, l2, l3, some (zi a), l5, l6, l7] (zi a :: S) q Q := ge_x (len := 2) (x := (0, 0, [])) p_174 rfl rfl
set_option maxRecDepth 100000 in
theorem g174_797 : z_go zP 174 797 L S q Q ↔ z_go zP 174 798 L (zi 1 :: S) q Q := ge_x (len := 1) (x := (0, 0, [])) p_174 rfl rfl
set_option maxRecDepth 100000 in
theorem g174_798 : z_go zP 174 798 L (zi b :: zi a :: S) q Q ↔ z_go zP 174 799 L (zi (a + b) :: S) q Q := ge_iadd (len := 1) (x := (0, 0, [])) p_174 rfl
set_option maxRecDepth 100000 in
theorem g174_799 : z_go zP 174 799 L (zi a :: .ref u :: S) q Q ↔ ∃ v, z_at [99, 100] q.1 u (Int32.ofInt a) = some v ∧ z_go zP 174 800 L (v :: S) q Q := ge_iald (len := 1) (x := (0, 0, [])) p_174 rfl
set_option maxRecDepth 100000 in
theorem g174_800 : z_go zP 174 800 [some (.ref u), l1, l2, l3, l4, l5, l6, l7] S q Q ↔ z_go zP 174 801 [some (.ref u), l1, l2, l3, l4, l5, l6, l7] (.ref u :: S) q Q := ge_x (len := 1) (x := (0, 0, [])) p_174 rfl rfl
set_option maxRecDepth 100000 in
theorem g174_801 : z_go zP 174 801 [l0, l1, l2, l3, some (zi a), l5, l6, l7] S q Q ↔ z_go zP 174 803 [l0, l1, l2, l3, some (zi a), l5, l6, l7] (zi a :: S) q Q := ge_x (len := 2) (x := (0, 0, [])) p_174 rfl rfl
set_option maxRecDepth 100000 in
theorem g174_803 : z_go zP 174 803 L S q Q ↔ z_go zP 174 804 L (zi 2 :: S) q Q := ge_x (len := 1) (x := (0, 0, [])) p_174 rfl rfl
set_option maxRecDepth 100000 in
theorem g174_804 : z_go zP 174 804 L (zi b :: zi a :: S) q Q ↔ z_go zP 174 805 L (zi (a + b) :: S) q Q := ge_iadd (len := 1) (x := (0, 0, [])) p_174 rfl
set_option maxRecDepth 100000 in
theorem g174_805 : z_go zP 174 805 L (zi a :: .ref u :: S) q Q ↔ ∃ v, z_at [99, 100] q.1 u (Int32.ofInt a) = some v ∧ z_go zP 174 806 L (v :: S) q Q := ge_iald (len := 1) (x := (0, 0, [])) p_174 rfl
set_option maxRecDepth 100000 in
theorem g174_806 : z_go zP 174 806 L [zi x1, zi x0, .ref u] q Q ↔ z_tg q.1 u = some 9 ∧ z_go zP 127 0 [some (.ref u), some (zi x0), some (zi x1), none, none] [] q (zc 174 809 L [] Q) := ge_vc (len := 3) (pc := 806) (S := [zi x1, zi x0, .ref u]) (u := u) (k1 := 127) (A := [.ref u, zi x0, zi x1]) (r := []) (tag := 9) (n0 := 2) (zwb_le (by show 0 ≤ 4; omega)) p_174 rfl rfl rfl p_127 (by show 3 ≤ 5; omega) rfl
set_option maxRecDepth 100000 in
theorem g174_809 : z_go zP 174 809 [l0, l1, l2, l3, l4, l5, l6, l7] (zi a :: S) q Q ↔ z_go zP 174 811 [l0, l1, l2, l3, l4, (zkl l5), some (zi a), l7] S q Q := (by cases l5 with | none => exact ge_x (len := 2) (x := (0, 0, [])) p_174 rfl rfl | some v => cases v <;> exact ge_x (len := 2) (x := (0, 0, [])) p_174 rfl rfl)
set_option maxRecDepth 100000 in
theorem g174_811 : z_go zP 174 811 [l0, l1, some (.ref u), l3, l4, l5, l6, l7] S q Q ↔ z_go zP 174 812 [l0, l1, some (.ref u), l3, l4, l5, l6, l7] (.ref u :: S) q Q := ge_x (len := 1) (x := (0, 0, [])) p_174 rfl rfl
set_option maxRecDepth 100000 in
theorem g174_812 : z_go zP 174 812 L [.ref u] q Q ↔ z_tg q.1 u = some 9 ∧ z_go zP 95 0 [some (.ref u)] [] q (zc 174 815 L [] Q) := ge_vc (len := 3) (pc := 812) (S := [.ref u]) (u := u) (k1 := 95) (A := [.ref u]) (r := []) (tag := 9) (n0 := 0) (zwb_le (by show 0 ≤ 4; omega)) p_174 rfl rfl rfl p_95 (by show 1 ≤ 1; omega) rfl
set_option maxRecDepth 100000 in
theorem g174_815 : z_go zP 174 815 [l0, l1, l2, l3, l4, some (zi a), l6, l7] S q Q ↔ z_go zP 174 817 [l0, l1, l2, l3, l4, some (zi a), l6, l7] (zi a :: S) q Q := ge_x (len := 2) (x := (0, 0, [])) p_174 rfl rfl
set_option maxRecDepth 100000 in
theorem g174_817 (a1 : -2147483648 ≤ a) (a2 : a < 2147483648) (b1 : -2147483648 ≤ b) (b2 : b < 2147483648) : z_go zP 174 817 L (zi b :: zi a :: S) q Q ↔ if a = b then z_go zP 174 822 L S q Q else z_go zP 174 820 L S q Q := ge_ic_eq (len := 3) (x := (0, 0, [])) a1 a2 b1 b2 p_174 rfl rfl
set_option maxRecDepth 100000 in
theorem g174_820 : z_go zP 174 820 L S q Q ↔ z_go zP 174 821 L (zi 0 :: S) q Q := ge_x (len := 1) (x := (0, 0, [])) p_174 rfl rfl
set_option maxRecDepth 100000 in
theorem g174_821_0 : z_go zP 174 821 L [zi 0] q Q ↔ Q (.inl (some (zi 0))) q := z_go_rt (len := 1) (x := (0, 0, [])) p_174 rfl rfl rfl
set_option maxRecDepth 100000 in
theorem g174_821_1 : z_go zP 174 821 L [zi 1] q Q ↔ Q (.inl (some (zi 1))) q := z_go_rt (len := 1) (x := (0, 0, [])) p_174 rfl rfl rfl
set_option maxRecDepth 100000 in
theorem g174_821b {c : Prop} [Decidable c] : z_go zP 174 821 L [zi (bI c)] q Q ↔ Q (.inl (some (zi (bI c)))) q := (by rcases bI_01 (c := c) with h | h <;> rw [h] <;> exact z_go_rt (len := 1) (x := (0, 0, [])) p_174 rfl rfl rfl)
set_option maxRecDepth 100000 in
theorem g174_822 : z_go zP 174 822 [l0, l1, l2, l3, l4, some (zi a), l6, l7] S q Q ↔ z_go zP 174 824 [l0, l1, l2, l3, l4, some (zi a), l6, l7] (zi a :: S) q Q := ge_x (len := 2) (x := (0, 0, [])) p_174 rfl rfl
set_option maxRecDepth 100000 in
theorem g174_824 (a1 : -2147483648 ≤ a) (a2 : a < 2147483648) : z_go zP 174 824 L (zi a :: S) q Q ↔ if ¬ a = 0 then z_go zP 174 839 L S q Q else z_go zP 174 827 L S q Q := ge_if_ne (len := 3) (x := (0, 0, [])) a1 a2 p_174 rfl rfl
set_option maxRecDepth 100000 in
theorem g174_824b {c : Prop} [Decidable c] : z_go zP 174 824 L (zi (bI c) :: S) q Q ↔ if c then z_go zP 174 839 L S q Q else z_go zP 174 827 L S q Q := ge_if_ne_b (len := 3) (x := (0, 0, [])) p_174 rfl rfl
set_option maxRecDepth 100000 in
theorem g174_827 : z_go zP 174 827 [l0, l1, l2, some (.ref u), l4, l5, l6, l7] S q Q ↔ z_go zP 174 828 [l0, l1, l2, some (.ref u), l4, l5, l6, l7] (.ref u :: S) q Q := ge_x (len := 1) (x := (0, 0, [])) p_174 rfl rfl
set_option maxRecDepth 100000 in
theorem g174_828 : z_go zP 174 828 L S q Q ↔ z_go zP 174 829 L (zi 0 :: S) q Q := ge_x (len := 1) (x := (0, 0, [])) p_174 rfl rfl
set_option maxRecDepth 100000 in
theorem g174_829 : z_go zP 174 829 L (zi a :: .ref u :: S) q Q ↔ ∃ v, z_at [101] q.1 u (Int32.ofInt a) = some v ∧ z_go zP 174 830 L (v :: S) q Q := ge_lald (len := 1) (x := (0, 0, [])) p_174 rfl
set_option maxRecDepth 100000 in
theorem g174_830 : z_go zP 174 830 [l0, l1, l2, l3, l4, l5, some (zi a), l7] S q Q ↔ z_go zP 174 832 [l0, l1, l2, l3, l4, l5, some (zi a), l7] (zi a :: S) q Q := ge_x (len := 2) (x := (0, 0, [])) p_174 rfl rfl
set_option maxRecDepth 100000 in
theorem g174_832 (a1 : -2147483648 ≤ a) (a2 : a < 2147483648) : z_go zP 174 832 L (zi a :: S) q Q ↔ z_go zP 174 833 L (zl a :: S) q Q := ge_i2l (len := 1) (x := (0, 0, [])) a1 a2 p_174 rfl
set_option maxRecDepth 100000 in
theorem g174_833 (a1 : -9223372036854775808 ≤ a) (a2 : a < 9223372036854775808) (b1 : -9223372036854775808 ≤ b) (b2 : b < 9223372036854775808) : z_go zP 174 833 L (zl b :: zl a :: S) q Q ↔ if a = b then z_go zP 174 839 L S q Q else z_go zP 174 837 L S q Q := ge_lc_eq (len := 1) (x := (0, 0, [])) (p2 := 834) (l2 := 3) a1 a2 b1 b2 p_174 rfl rfl rfl rfl
set_option maxRecDepth 100000 in
theorem g174_837 : z_go zP 174 837 L S q Q ↔ z_go zP 174 838 L (zi 0 :: S) q Q := ge_x (len := 1) (x := (0, 0, [])) p_174 rfl rfl
set_option maxRecDepth 100000 in
theorem g174_838_0 : z_go zP 174 838 L [zi 0] q Q ↔ Q (.inl (some (zi 0))) q := z_go_rt (len := 1) (x := (0, 0, [])) p_174 rfl rfl rfl
set_option maxRecDepth 100000 in
theorem g174_838_1 : z_go zP 174 838 L [zi 1] q Q ↔ Q (.inl (some (zi 1))) q := z_go_rt (len := 1) (x := (0, 0, [])) p_174 rfl rfl rfl
set_option maxRecDepth 100000 in
theorem g174_838b {c : Prop} [Decidable c] : z_go zP 174 838 L [zi (bI c)] q Q ↔ Q (.inl (some (zi (bI c)))) q := (by rcases bI_01 (c := c) with h | h <;> rw [h] <;> exact z_go_rt (len := 1) (x := (0, 0, [])) p_174 rfl rfl rfl)
set_option maxRecDepth 100000 in
theorem g174_839 : z_go zP 174 839 L S q Q ↔ z_go zP 174 1398 L S q Q := ge_to (len := 3) (x := (0, 0, [])) p_174 rfl rfl rfl
set_option maxRecDepth 100000 in
theorem g174_842 : z_go zP 174 842 [l0, some (.ref u), l2, l3, l4, l5, l6, l7] S q Q ↔ z_go zP 174 843 [l0, some (.ref u), l2, l3, l4, l5, l6, l7] (.ref u :: S) q Q := ge_x (len := 1) (x := (0, 0, [])) p_174 rfl rfl
set_option maxRecDepth 100000 in
theorem g174_843 : z_go zP 174 843 [some (.ref u), l1, l2, l3, l4, l5, l6, l7] S q Q ↔ z_go zP 174 844 [some (.ref u), l1, l2, l3, l4, l5, l6, l7] (.ref u :: S) q Q := ge_x (len := 1) (x := (0, 0, [])) p_174 rfl rfl
set_option maxRecDepth 100000 in
theorem g174_844 : z_go zP 174 844 [l0, l1, l2, l3, some (zi a), l5, l6, l7] S q Q ↔ z_go zP 174 846 [l0, l1, l2, l3, some (zi a), l5, l6, l7] (zi a :: S) q Q := ge_x (len := 2) (x := (0, 0, [])) p_174 rfl rfl
set_option maxRecDepth 100000 in
theorem g174_846 : z_go zP 174 846 L S q Q ↔ z_go zP 174 847 L (zi 1 :: S) q Q := ge_x (len := 1) (x := (0, 0, [])) p_174 rfl rfl
set_option maxRecDepth 100000 in
theorem g174_847 : z_go zP 174 847 L (zi b :: zi a :: S) q Q ↔ z_go zP 174 848 L (zi (a + b) :: S) q Q := ge_iadd (len := 1) (x := (0, 0, [])) p_174 rfl
set_option maxRecDepth 100000 in
theorem g174_848 : z_go zP 174 848 L (zi a :: .ref u :: S) q Q ↔ ∃ v, z_at [99, 100] q.1 u (Int32.ofInt a) = some v ∧ z_go zP 174 849 L (v :: S) q Q := ge_iald (len := 1) (x := (0, 0, [])) p_174 rfl
set_option maxRecDepth 100000 in
theorem g174_849 : z_go zP 174 849 [some (.ref u), l1, l2, l3, l4, l5, l6, l7] S q Q ↔ z_go zP 174 850 [some (.ref u), l1, l2, l3, l4, l5, l6, l7] (.ref u :: S) q Q := ge_x (len := 1) (x := (0, 0, [])) p_174 rfl rfl
set_option maxRecDepth 100000 in
theorem g174_850 : z_go zP 174 850 [l0, l1, l2, l3, some (zi a), l5, l6, l7] S q Q ↔ z_go zP 174 852 [l0, l1, l2, l3, some (zi a), l5, l6, l7] (zi a :: S) q Q := ge_x (len := 2) (x := (0, 0, [])) p_174 rfl rfl
set_option maxRecDepth 100000 in
theorem g174_852 : z_go zP 174 852 L S q Q ↔ z_go zP 174 853 L (zi 2 :: S) q Q := ge_x (len := 1) (x := (0, 0, [])) p_174 rfl rfl
set_option maxRecDepth 100000 in
theorem g174_853 : z_go zP 174 853 L (zi b :: zi a :: S) q Q ↔ z_go zP 174 854 L (zi (a + b) :: S) q Q := ge_iadd (len := 1) (x := (0, 0, [])) p_174 rfl
set_option maxRecDepth 100000 in
theorem g174_854 : z_go zP 174 854 L (zi a :: .ref u :: S) q Q ↔ ∃ v, z_at [99, 100] q.1 u (Int32.ofInt a) = some v ∧ z_go zP 174 855 L (v :: S) q Q := ge_iald (len := 1) (x := (0, 0, [])) p_174 rfl
set_option maxRecDepth 100000 in
theorem g174_855 : z_go zP 174 855 [l0, l1, l2, some (.ref u), l4, l5, l6, l7] S q Q ↔ z_go zP 174 856 [l0, l1, l2, some (.ref u), l4, l5, l6, l7] (.ref u :: S) q Q := ge_x (len := 1) (x := (0, 0, [])) p_174 rfl rfl
set_option maxRecDepth 100000 in
theorem g174_856 : z_go zP 174 856 L [.ref w3, zi x2, zi x1, .ref w0] q Q ↔ z_go zP 167 0 [some (.ref w0), some (zi x1), some (zi x2), some (.ref w3), none] [] q (zd 174 859 L [] Q) := (z_go_cl (len := 3) (x := (167, 6, [4])) (k1 := 167) (A := [.ref w0, zi x1, zi x2, .ref w3]) (r := []) p_174 rfl rfl rfl rfl (by simp only [z_cl, List.drop]; rw [if_pos]; rfl; exact by first | exact ⟨by decide, (zwb_le (by show 0 ≤ 4; omega))⟩ | exact ⟨by decide, by show 4 ≤ 4; omega, (zwb_le (by show 0 ≤ 4; omega))⟩) p_167 (by show 4 ≤ 5; omega)).trans (ge_bk_d rfl)
set_option maxRecDepth 100000 in
theorem g174_859 : z_go zP 174 859 [l0, l1, l2, l3, l4, l5, l6, l7] (zi a :: S) q Q ↔ z_go zP 174 861 [l0, l1, l2, l3, (zkl l4), some (zi a), l6, l7] S q Q := (by cases l4 with | none => exact ge_x (len := 2) (x := (0, 0, [])) p_174 rfl rfl | some v => cases v <;> exact ge_x (len := 2) (x := (0, 0, [])) p_174 rfl rfl)
set_option maxRecDepth 100000 in
theorem g174_861 : z_go zP 174 861 [l0, l1, some (.ref u), l3, l4, l5, l6, l7] S q Q ↔ z_go zP 174 862 [l0, l1, some (.ref u), l3, l4, l5, l6, l7] (.ref u :: S) q Q := ge_x (len := 1) (x := (0, 0, [])) p_174 rfl rfl
set_option maxRecDepth 100000 in
theorem g174_862 : z_go zP 174 862 [some (.ref u), l1, l2, l3, l4, l5, l6, l7] S q Q ↔ z_go zP 174 863 [some (.ref u), l1, l2, l3, l4, l5, l6, l7] (.ref u :: S) q Q := ge_x (len := 1) (x := (0, 0, [])) p_174 rfl rfl
set_option maxRecDepth 100000 in
theorem g174_863 : z_go zP 174 863 [l0, l1, l2, l3, some (zi a), l5, l6, l7] S q Q ↔ z_go zP 174 865 [l0, l1, l2, l3, some (zi a), l5, l6, l7] (zi a :: S) q Q := ge_x (len := 2) (x := (0, 0, [])) p_174 rfl rfl
set_option maxRecDepth 100000 in
theorem g174_865 : z_go zP 174 865 L S q Q ↔ z_go zP 174 866 L (zi 1 :: S) q Q := ge_x (len := 1) (x := (0, 0, [])) p_174 rfl rfl
set_option maxRecDepth 100000 in
theorem g174_866 : z_go zP 174 866 L (zi b :: zi a :: S) q Q ↔ z_go zP 174 867 L (zi (a + b) :: S) q Q := ge_iadd (len := 1) (x := (0, 0, [])) p_174 rfl
set_option maxRecDepth 100000 in
theorem g174_867 : z_go zP 174 867 L (zi a :: .ref u :: S) q Q ↔ ∃ v, z_at [99, 100] q.1 u (Int32.ofInt a) = some v ∧ z_go zP 174 868 L (v :: S) q Q := ge_iald (len := 1) (x := (0, 0, [])) p_174 rfl
set_option maxRecDepth 100000 in
theorem g174_868 : z_go zP 174 868 [some (.ref u), l1, l2, l3, l4, l5, l6, l7] S q Q ↔ z_go zP 174 869 [some (.ref u), l1, l2, l3, l4, l5, l6, l7] (.ref u :: S) q Q := ge_x (len := 1) (x := (0, 0, [])) p_174 rfl rfl
set_option maxRecDepth 100000 in
theorem g174_869 : z_go zP 174 869 [l0, l1, l2, l3, some (zi a), l5, l6, l7] S q Q ↔ z_go zP 174 871 [l0, l1, l2, l3, some (zi a), l5, l6, l7] (zi a :: S) q Q := ge_x (len := 2) (x := (0, 0, [])) p_174 rfl rfl
set_option maxRecDepth 100000 in
theorem g174_871 : z_go zP 174 871 L S q Q ↔ z_go zP 174 872 L (zi 2 :: S) q Q := ge_x (len := 1) (x := (0, 0, [])) p_174 rfl rfl
set_option maxRecDepth 100000 in
theorem g174_872 : z_go zP 174 872 L (zi b :: zi a :: S) q Q ↔ z_go zP 174 873 L (zi (a + b) :: S) q Q := ge_iadd (len := 1) (x := (0, 0, [])) p_174 rfl
set_option maxRecDepth 100000 in
theorem g174_873 : z_go zP 174 873 L (zi a :: .ref u :: S) q Q ↔ ∃ v, z_at [99, 100] q.1 u (Int32.ofInt a) = some v ∧ z_go zP 174 874 L (v :: S) q Q := ge_iald (len := 1) (x := (0, 0, [])) p_174 rfl
set_option maxRecDepth 100000 in
theorem g174_874 : z_go zP 174 874 L [zi x1, zi x0, .ref u] q Q ↔ z_tg q.1 u = some 9 ∧ z_go zP 129 0 [some (.ref u), some (zi x0), some (zi x1)] [] q (zc 174 877 L [] Q) := ge_vc (len := 3) (pc := 874) (S := [zi x1, zi x0, .ref u]) (u := u) (k1 := 129) (A := [.ref u, zi x0, zi x1]) (r := []) (tag := 9) (n0 := 2) (zwb_le (by show 0 ≤ 4; omega)) p_174 rfl rfl rfl p_129 (by show 3 ≤ 3; omega) rfl
set_option maxRecDepth 100000 in
theorem g174_877 : z_go zP 174 877 [l0, l1, l2, l3, l4, l5, l6, l7] (zi a :: S) q Q ↔ z_go zP 174 879 [l0, l1, l2, l3, l4, (zkl l5), some (zi a), l7] S q Q := (by cases l5 with | none => exact ge_x (len := 2) (x := (0, 0, [])) p_174 rfl rfl | some v => cases v <;> exact ge_x (len := 2) (x := (0, 0, [])) p_174 rfl rfl)
set_option maxRecDepth 100000 in
theorem g174_879 : z_go zP 174 879 [l0, l1, some (.ref u), l3, l4, l5, l6, l7] S q Q ↔ z_go zP 174 880 [l0, l1, some (.ref u), l3, l4, l5, l6, l7] (.ref u :: S) q Q := ge_x (len := 1) (x := (0, 0, [])) p_174 rfl rfl
set_option maxRecDepth 100000 in
theorem g174_880 : z_go zP 174 880 L [.ref u] q Q ↔ z_tg q.1 u = some 9 ∧ z_go zP 95 0 [some (.ref u)] [] q (zc 174 883 L [] Q) := ge_vc (len := 3) (pc := 880) (S := [.ref u]) (u := u) (k1 := 95) (A := [.ref u]) (r := []) (tag := 9) (n0 := 0) (zwb_le (by show 0 ≤ 4; omega)) p_174 rfl rfl rfl p_95 (by show 1 ≤ 1; omega) rfl
set_option maxRecDepth 100000 in
theorem g174_883 : z_go zP 174 883 [l0, l1, l2, l3, l4, some (zi a), l6, l7] S q Q ↔ z_go zP 174 885 [l0, l1, l2, l3, l4, some (zi a), l6, l7] (zi a :: S) q Q := ge_x (len := 2) (x := (0, 0, [])) p_174 rfl rfl
set_option maxRecDepth 100000 in
theorem g174_885 (a1 : -2147483648 ≤ a) (a2 : a < 2147483648) (b1 : -2147483648 ≤ b) (b2 : b < 2147483648) : z_go zP 174 885 L (zi b :: zi a :: S) q Q ↔ if a = b then z_go zP 174 890 L S q Q else z_go zP 174 888 L S q Q := ge_ic_eq (len := 3) (x := (0, 0, [])) a1 a2 b1 b2 p_174 rfl rfl
set_option maxRecDepth 100000 in
theorem g174_888 : z_go zP 174 888 L S q Q ↔ z_go zP 174 889 L (zi 0 :: S) q Q := ge_x (len := 1) (x := (0, 0, [])) p_174 rfl rfl
set_option maxRecDepth 100000 in
theorem g174_889_0 : z_go zP 174 889 L [zi 0] q Q ↔ Q (.inl (some (zi 0))) q := z_go_rt (len := 1) (x := (0, 0, [])) p_174 rfl rfl rfl
set_option maxRecDepth 100000 in
theorem g174_889_1 : z_go zP 174 889 L [zi 1] q Q ↔ Q (.inl (some (zi 1))) q := z_go_rt (len := 1) (x := (0, 0, [])) p_174 rfl rfl rfl
set_option maxRecDepth 100000 in
theorem g174_889b {c : Prop} [Decidable c] : z_go zP 174 889 L [zi (bI c)] q Q ↔ Q (.inl (some (zi (bI c)))) q := (by rcases bI_01 (c := c) with h | h <;> rw [h] <;> exact z_go_rt (len := 1) (x := (0, 0, [])) p_174 rfl rfl rfl)
set_option maxRecDepth 100000 in
theorem g174_890 : z_go zP 174 890 [l0, l1, l2, l3, l4, some (zi a), l6, l7] S q Q ↔ z_go zP 174 892 [l0, l1, l2, l3, l4, some (zi a), l6, l7] (zi a :: S) q Q := ge_x (len := 2) (x := (0, 0, [])) p_174 rfl rfl
set_option maxRecDepth 100000 in
theorem g174_892 (a1 : -2147483648 ≤ a) (a2 : a < 2147483648) : z_go zP 174 892 L (zi a :: S) q Q ↔ if ¬ a = 0 then z_go zP 174 907 L S q Q else z_go zP 174 895 L S q Q := ge_if_ne (len := 3) (x := (0, 0, [])) a1 a2 p_174 rfl rfl
set_option maxRecDepth 100000 in
theorem g174_892b {c : Prop} [Decidable c] : z_go zP 174 892 L (zi (bI c) :: S) q Q ↔ if c then z_go zP 174 907 L S q Q else z_go zP 174 895 L S q Q := ge_if_ne_b (len := 3) (x := (0, 0, [])) p_174 rfl rfl
set_option maxRecDepth 100000 in
theorem g174_895 : z_go zP 174 895 [l0, l1, l2, some (.ref u), l4, l5, l6, l7] S q Q ↔ z_go zP 174 896 [l0, l1, l2, some (.ref u), l4, l5, l6, l7] (.ref u :: S) q Q := ge_x (len := 1) (x := (0, 0, [])) p_174 rfl rfl
set_option maxRecDepth 100000 in
theorem g174_896 : z_go zP 174 896 L S q Q ↔ z_go zP 174 897 L (zi 0 :: S) q Q := ge_x (len := 1) (x := (0, 0, [])) p_174 rfl rfl
set_option maxRecDepth 100000 in
theorem g174_897 : z_go zP 174 897 L (zi a :: .ref u :: S) q Q ↔ ∃ v, z_at [101] q.1 u (Int32.ofInt a) = some v ∧ z_go zP 174 898 L (v :: S) q Q := ge_lald (len := 1) (x := (0, 0, [])) p_174 rfl
set_option maxRecDepth 100000 in
theorem g174_898 : z_go zP 174 898 [l0, l1, l2, l3, l4, l5, some (zi a), l7] S q Q ↔ z_go zP 174 900 [l0, l1, l2, l3, l4, l5, some (zi a), l7] (zi a :: S) q Q := ge_x (len := 2) (x := (0, 0, [])) p_174 rfl rfl
set_option maxRecDepth 100000 in
theorem g174_900 (a1 : -2147483648 ≤ a) (a2 : a < 2147483648) : z_go zP 174 900 L (zi a :: S) q Q ↔ z_go zP 174 901 L (zl a :: S) q Q := ge_i2l (len := 1) (x := (0, 0, [])) a1 a2 p_174 rfl
set_option maxRecDepth 100000 in
theorem g174_901 (a1 : -9223372036854775808 ≤ a) (a2 : a < 9223372036854775808) (b1 : -9223372036854775808 ≤ b) (b2 : b < 9223372036854775808) : z_go zP 174 901 L (zl b :: zl a :: S) q Q ↔ if a = b then z_go zP 174 907 L S q Q else z_go zP 174 905 L S q Q := ge_lc_eq (len := 1) (x := (0, 0, [])) (p2 := 902) (l2 := 3) a1 a2 b1 b2 p_174 rfl rfl rfl rfl
set_option maxRecDepth 100000 in
theorem g174_905 : z_go zP 174 905 L S q Q ↔ z_go zP 174 906 L (zi 0 :: S) q Q := ge_x (len := 1) (x := (0, 0, [])) p_174 rfl rfl
set_option maxRecDepth 100000 in
theorem g174_906_0 : z_go zP 174 906 L [zi 0] q Q ↔ Q (.inl (some (zi 0))) q := z_go_rt (len := 1) (x := (0, 0, [])) p_174 rfl rfl rfl
set_option maxRecDepth 100000 in
theorem g174_906_1 : z_go zP 174 906 L [zi 1] q Q ↔ Q (.inl (some (zi 1))) q := z_go_rt (len := 1) (x := (0, 0, [])) p_174 rfl rfl rfl
set_option maxRecDepth 100000 in
theorem g174_906b {c : Prop} [Decidable c] : z_go zP 174 906 L [zi (bI c)] q Q ↔ Q (.inl (some (zi (bI c)))) q := (by rcases bI_01 (c := c) with h | h <;> rw [h] <;> exact z_go_rt (len := 1) (x := (0, 0, [])) p_174 rfl rfl rfl)
set_option maxRecDepth 100000 in
theorem g174_907 : z_go zP 174 907 L S q Q ↔ z_go zP 174 1398 L S q Q := ge_to (len := 3) (x := (0, 0, [])) p_174 rfl rfl rfl
set_option maxRecDepth 100000 in
theorem g174_910 : z_go zP 174 910 [l0, some (.ref u), l2, l3, l4, l5, l6, l7] S q Q ↔ z_go zP 174 911 [l0, some (.ref u), l2, l3, l4, l5, l6, l7] (.ref u :: S) q Q := ge_x (len := 1) (x := (0, 0, [])) p_174 rfl rfl
set_option maxRecDepth 100000 in
theorem g174_911 : z_go zP 174 911 [some (.ref u), l1, l2, l3, l4, l5, l6, l7] S q Q ↔ z_go zP 174 912 [some (.ref u), l1, l2, l3, l4, l5, l6, l7] (.ref u :: S) q Q := ge_x (len := 1) (x := (0, 0, [])) p_174 rfl rfl
set_option maxRecDepth 100000 in
theorem g174_912 : z_go zP 174 912 [l0, l1, l2, l3, some (zi a), l5, l6, l7] S q Q ↔ z_go zP 174 914 [l0, l1, l2, l3, some (zi a), l5, l6, l7] (zi a :: S) q Q := ge_x (len := 2) (x := (0, 0, [])) p_174 rfl rfl
set_option maxRecDepth 100000 in
theorem g174_914 : z_go zP 174 914 L S q Q ↔ z_go zP 174 915 L (zi 1 :: S) q Q := ge_x (len := 1) (x := (0, 0, [])) p_174 rfl rfl
set_option maxRecDepth 100000 in
theorem g174_915 : z_go zP 174 915 L (zi b :: zi a :: S) q Q ↔ z_go zP 174 916 L (zi (a + b) :: S) q Q := ge_iadd (len := 1) (x := (0, 0, [])) p_174 rfl
set_option maxRecDepth 100000 in
theorem g174_916 : z_go zP 174 916 L (zi a :: .ref u :: S) q Q ↔ ∃ v, z_at [99, 100] q.1 u (Int32.ofInt a) = some v ∧ z_go zP 174 917 L (v :: S) q Q := ge_iald (len := 1) (x := (0, 0, [])) p_174 rfl
set_option maxRecDepth 100000 in
theorem g174_917 : z_go zP 174 917 [some (.ref u), l1, l2, l3, l4, l5, l6, l7] S q Q ↔ z_go zP 174 918 [some (.ref u), l1, l2, l3, l4, l5, l6, l7] (.ref u :: S) q Q := ge_x (len := 1) (x := (0, 0, [])) p_174 rfl rfl
set_option maxRecDepth 100000 in
theorem g174_918 : z_go zP 174 918 [l0, l1, l2, l3, some (zi a), l5, l6, l7] S q Q ↔ z_go zP 174 920 [l0, l1, l2, l3, some (zi a), l5, l6, l7] (zi a :: S) q Q := ge_x (len := 2) (x := (0, 0, [])) p_174 rfl rfl
set_option maxRecDepth 100000 in
theorem g174_920 : z_go zP 174 920 L S q Q ↔ z_go zP 174 921 L (zi 2 :: S) q Q := ge_x (len := 1) (x := (0, 0, [])) p_174 rfl rfl
set_option maxRecDepth 100000 in
theorem g174_921 : z_go zP 174 921 L (zi b :: zi a :: S) q Q ↔ z_go zP 174 922 L (zi (a + b) :: S) q Q := ge_iadd (len := 1) (x := (0, 0, [])) p_174 rfl
set_option maxRecDepth 100000 in
theorem g174_922 : z_go zP 174 922 L (zi a :: .ref u :: S) q Q ↔ ∃ v, z_at [99, 100] q.1 u (Int32.ofInt a) = some v ∧ z_go zP 174 923 L (v :: S) q Q := ge_iald (len := 1) (x := (0, 0, [])) p_174 rfl
set_option maxRecDepth 100000 in
theorem g174_923 : z_go zP 174 923 [l0, l1, l2, some (.ref u), l4, l5, l6, l7] S q Q ↔ z_go zP 174 924 [l0, l1, l2, some (.ref u), l4, l5, l6, l7] (.ref u :: S) q Q := ge_x (len := 1) (x := (0, 0, [])) p_174 rfl rfl
set_option maxRecDepth 100000 in
theorem g174_924 : z_go zP 174 924 L [.ref w3, zi x2, zi x1, .ref w0] q Q ↔ z_go zP 168 0 [some (.ref w0), some (zi x1), some (zi x2), some (.ref w3), none] [] q (zd 174 927 L [] Q) := (z_go_cl (len := 3) (x := (168, 6, [4])) (k1 := 168) (A := [.ref w0, zi x1, zi x2, .ref w3]) (r := []) p_174 rfl rfl rfl rfl (by simp only [z_cl, List.drop]; rw [if_pos]; rfl; exact by first | exact ⟨by decide, (zwb_le (by show 0 ≤ 4; omega))⟩ | exact ⟨by decide, by show 4 ≤ 4; omega, (zwb_le (by show 0 ≤ 4; omega))⟩) p_168 (by show 4 ≤ 5; omega)).trans (ge_bk_d rfl)
set_option maxRecDepth 100000 in
theorem g174_927 : z_go zP 174 927 [l0, l1, l2, l3, l4, l5, l6, l7] (zi a :: S) q Q ↔ z_go zP 174 929 [l0, l1, l2, l3, (zkl l4), some (zi a), l6, l7] S q Q := (by cases l4 with | none => exact ge_x (len := 2) (x := (0, 0, [])) p_174 rfl rfl | some v => cases v <;> exact ge_x (len := 2) (x := (0, 0, [])) p_174 rfl rfl)
set_option maxRecDepth 100000 in
theorem g174_929 : z_go zP 174 929 [l0, l1, some (.ref u), l3, l4, l5, l6, l7] S q Q ↔ z_go zP 174 930 [l0, l1, some (.ref u), l3, l4, l5, l6, l7] (.ref u :: S) q Q := ge_x (len := 1) (x := (0, 0, [])) p_174 rfl rfl
set_option maxRecDepth 100000 in
theorem g174_930 : z_go zP 174 930 [some (.ref u), l1, l2, l3, l4, l5, l6, l7] S q Q ↔ z_go zP 174 931 [some (.ref u), l1, l2, l3, l4, l5, l6, l7] (.ref u :: S) q Q := ge_x (len := 1) (x := (0, 0, [])) p_174 rfl rfl
set_option maxRecDepth 100000 in
theorem g174_931 : z_go zP 174 931 [l0, l1, l2, l3, some (zi a), l5, l6, l7] S q Q ↔ z_go zP 174 933 [l0, l1, l2, l3, some (zi a), l5, l6, l7] (zi a :: S) q Q := ge_x (len := 2) (x := (0, 0, [])) p_174 rfl rfl
set_option maxRecDepth 100000 in
theorem g174_933 : z_go zP 174 933 L S q Q ↔ z_go zP 174 934 L (zi 1 :: S) q Q := ge_x (len := 1) (x := (0, 0, [])) p_174 rfl rfl
set_option maxRecDepth 100000 in
theorem g174_934 : z_go zP 174 934 L (zi b :: zi a :: S) q Q ↔ z_go zP 174 935 L (zi (a + b) :: S) q Q := ge_iadd (len := 1) (x := (0, 0, [])) p_174 rfl
set_option maxRecDepth 100000 in
theorem g174_935 : z_go zP 174 935 L (zi a :: .ref u :: S) q Q ↔ ∃ v, z_at [99, 100] q.1 u (Int32.ofInt a) = some v ∧ z_go zP 174 936 L (v :: S) q Q := ge_iald (len := 1) (x := (0, 0, [])) p_174 rfl
set_option maxRecDepth 100000 in
theorem g174_936 : z_go zP 174 936 [some (.ref u), l1, l2, l3, l4, l5, l6, l7] S q Q ↔ z_go zP 174 937 [some (.ref u), l1, l2, l3, l4, l5, l6, l7] (.ref u :: S) q Q := ge_x (len := 1) (x := (0, 0, [])) p_174 rfl rfl
set_option maxRecDepth 100000 in
theorem g174_937 : z_go zP 174 937 [l0, l1, l2, l3, some (zi a), l5, l6, l7] S q Q ↔ z_go zP 174 939 [l0, l1, l2, l3, some (zi a), l5, l6, l7] (zi a :: S) q Q := ge_x (len := 2) (x := (0, 0, [])) p_174 rfl rfl
set_option maxRecDepth 100000 in
theorem g174_939 : z_go zP 174 939 L S q Q ↔ z_go zP 174 940 L (zi 2 :: S) q Q := ge_x (len := 1) (x := (0, 0, [])) p_174 rfl rfl
set_option maxRecDepth 100000 in
theorem g174_940 : z_go zP 174 940 L (zi b :: zi a :: S) q Q ↔ z_go zP 174 941 L (zi (a + b) :: S) q Q := ge_iadd (len := 1) (x := (0, 0, [])) p_174 rfl
set_option maxRecDepth 100000 in
theorem g174_941 : z_go zP 174 941 L (zi a :: .ref u :: S) q Q ↔ ∃ v, z_at [99, 100] q.1 u (Int32.ofInt a) = some v ∧ z_go zP 174 942 L (v :: S) q Q := ge_iald (len := 1) (x := (0, 0, [])) p_174 rfl
set_option maxRecDepth 100000 in
theorem g174_942 : z_go zP 174 942 L [zi x1, zi x0, .ref u] q Q ↔ z_tg q.1 u = some 9 ∧ z_go zP 131 0 [some (.ref u), some (zi x0), some (zi x1)] [] q (zc 174 945 L [] Q) := ge_vc (len := 3) (pc := 942) (S := [zi x1, zi x0, .ref u]) (u := u) (k1 := 131) (A := [.ref u, zi x0, zi x1]) (r := []) (tag := 9) (n0 := 2) (zwb_le (by show 0 ≤ 4; omega)) p_174 rfl rfl rfl p_131 (by show 3 ≤ 3; omega) rfl
set_option maxRecDepth 100000 in
theorem g174_945 : z_go zP 174 945 [l0, l1, l2, l3, l4, l5, l6, l7] (zl a :: S) q Q ↔ z_go zP 174 947 [l0, l1, l2, l3, l4, (zkl l5), some (zl a), none] S q Q := (by cases l5 with | none => exact ge_x (len := 2) (x := (0, 0, [])) p_174 rfl rfl | some v => cases v <;> exact ge_x (len := 2) (x := (0, 0, [])) p_174 rfl rfl)
set_option maxRecDepth 100000 in
theorem g174_947 : z_go zP 174 947 [l0, l1, some (.ref u), l3, l4, l5, l6, l7] S q Q ↔ z_go zP 174 948 [l0, l1, some (.ref u), l3, l4, l5, l6, l7] (.ref u :: S) q Q := ge_x (len := 1) (x := (0, 0, [])) p_174 rfl rfl
set_option maxRecDepth 100000 in
theorem g174_948 : z_go zP 174 948 L [.ref u] q Q ↔ z_tg q.1 u = some 9 ∧ z_go zP 95 0 [some (.ref u)] [] q (zc 174 951 L [] Q) := ge_vc (len := 3) (pc := 948) (S := [.ref u]) (u := u) (k1 := 95) (A := [.ref u]) (r := []) (tag := 9) (n0 := 0) (zwb_le (by show 0 ≤ 4; omega)) p_174 rfl rfl rfl p_95 (by show 1 ≤ 1; omega) rfl
set_option maxRecDepth 100000 in
theorem g174_951 : z_go zP 174 951 [l0, l1, l2, l3, l4, some (zi a), l6, l7] S q Q ↔ z_go zP 174 953 [l0, l1, l2, l3, l4, some (zi a), l6, l7] (zi a :: S) q Q := ge_x (len := 2) (x := (0, 0, [])) p_174 rfl rfl
set_option maxRecDepth 100000 in
theorem g174_953 (a1 : -2147483648 ≤ a) (a2 : a < 2147483648) (b1 : -2147483648 ≤ b) (b2 : b < 2147483648) : z_go zP 174 953 L (zi b :: zi a :: S) q Q ↔ if a = b then z_go zP 174 958 L S q Q else z_go zP 174 956 L S q Q := ge_ic_eq (len := 3) (x := (0, 0, [])) a1 a2 b1 b2 p_174 rfl rfl
set_option maxRecDepth 100000 in
theorem g174_956 : z_go zP 174 956 L S q Q ↔ z_go zP 174 957 L (zi 0 :: S) q Q := ge_x (len := 1) (x := (0, 0, [])) p_174 rfl rfl
set_option maxRecDepth 100000 in
theorem g174_957_0 : z_go zP 174 957 L [zi 0] q Q ↔ Q (.inl (some (zi 0))) q := z_go_rt (len := 1) (x := (0, 0, [])) p_174 rfl rfl rfl
set_option maxRecDepth 100000 in
theorem g174_957_1 : z_go zP 174 957 L [zi 1] q Q ↔ Q (.inl (some (zi 1))) q := z_go_rt (len := 1) (x := (0, 0, [])) p_174 rfl rfl rfl
set_option maxRecDepth 100000 in
theorem g174_957b {c : Prop} [Decidable c] : z_go zP 174 957 L [zi (bI c)] q Q ↔ Q (.inl (some (zi (bI c)))) q := (by rcases bI_01 (c := c) with h | h <;> rw [h] <;> exact z_go_rt (len := 1) (x := (0, 0, [])) p_174 rfl rfl rfl)
set_option maxRecDepth 100000 in
theorem g174_958 : z_go zP 174 958 [l0, l1, l2, l3, l4, some (zi a), l6, l7] S q Q ↔ z_go zP 174 960 [l0, l1, l2, l3, l4, some (zi a), l6, l7] (zi a :: S) q Q := ge_x (len := 2) (x := (0, 0, [])) p_174 rfl rfl
set_option maxRecDepth 100000 in
theorem g174_960 (a1 : -2147483648 ≤ a) (a2 : a < 2147483648) : z_go zP 174 960 L (zi a :: S) q Q ↔ if ¬ a = 0 then z_go zP 174 974 L S q Q else z_go zP 174 963 L S q Q := ge_if_ne (len := 3) (x := (0, 0, [])) a1 a2 p_174 rfl rfl
set_option maxRecDepth 100000 in
theorem g174_960b {c : Prop} [Decidable c] : z_go zP 174 960 L (zi (bI c) :: S) q Q ↔ if c then z_go zP 174 974 L S q Q else z_go zP 174 963 L S q Q := ge_if_ne_b (len := 3) (x := (0, 0, [])) p_174 rfl rfl
set_option maxRecDepth 100000 in
theorem g174_963 : z_go zP 174 963 [l0, l1, l2, some (.ref u), l4, l5, l6, l7] S q Q ↔ z_go zP 174 964 [l0, l1, l2, some (.ref u), l4, l5, l6, l7] (.ref u :: S) q Q := ge_x (len := 1) (x := (0, 0, [])) p_174 rfl rfl
set_option maxRecDepth 100000 in
theorem g174_964 : z_go zP 174 964 L S q Q ↔ z_go zP 174 965 L (zi 0 :: S) q Q := ge_x (len := 1) (x := (0, 0, [])) p_174 rfl rfl
set_option maxRecDepth 100000 in
theorem g174_965 : z_go zP 174 965 L (zi a :: .ref u :: S) q Q ↔ ∃ v, z_at [101] q.1 u (Int32.ofInt a) = some v ∧ z_go zP 174 966 L (v :: S) q Q := ge_lald (len := 1) (x := (0, 0, [])) p_174 rfl
set_option maxRecDepth 100000 in
theorem g174_966 : z_go zP 174 966 [l0, l1, l2, l3, l4, l5, some (zl a), l7] S q Q ↔ z_go zP 174 968 [l0, l1, l2, l3, l4, l5, some (zl a), l7] (zl a :: S) q Q := ge_x (len := 2) (x := (0, 0, [])) p_174 rfl rfl
set_option maxRecDepth 100000 in
theorem g174_968 (a1 : -9223372036854775808 ≤ a) (a2 : a < 9223372036854775808) (b1 : -9223372036854775808 ≤ b) (b2 : b < 9223372036854775808) : z_go zP 174 968 L (zl b :: zl a :: S) q Q ↔ if a = b then z_go zP 174 974 L S q Q else z_go zP 174 972 L S q Q := ge_lc_eq (len := 1) (x := (0, 0, [])) (p2 := 969) (l2 := 3) a1 a2 b1 b2 p_174 rfl rfl rfl rfl
set_option maxRecDepth 100000 in
theorem g174_972 : z_go zP 174 972 L S q Q ↔ z_go zP 174 973 L (zi 0 :: S) q Q := ge_x (len := 1) (x := (0, 0, [])) p_174 rfl rfl
set_option maxRecDepth 100000 in
theorem g174_973_0 : z_go zP 174 973 L [zi 0] q Q ↔ Q (.inl (some (zi 0))) q := z_go_rt (len := 1) (x := (0, 0, [])) p_174 rfl rfl rfl
set_option maxRecDepth 100000 in
theorem g174_973_1 : z_go zP 174 973 L [zi 1] q Q ↔ Q (.inl (some (zi 1))) q := z_go_rt (len := 1) (x := (0, 0, [])) p_174 rfl rfl rfl
set_option maxRecDepth 100000 in
theorem g174_973b {c : Prop} [Decidable c] : z_go zP 174 973 L [zi (bI c)] q Q ↔ Q (.inl (some (zi (bI c)))) q := (by rcases bI_01 (c := c) with h | h <;> rw [h] <;> exact z_go_rt (len := 1) (x := (0, 0, [])) p_174 rfl rfl rfl)
set_option maxRecDepth 100000 in
theorem g174_974 : z_go zP 174 974 L S q Q ↔ z_go zP 174 1398 L S q Q := ge_to (len := 3) (x := (0, 0, [])) p_174 rfl rfl rfl
set_option maxRecDepth 100000 in
theorem g174_977 : z_go zP 174 977 [l0, some (.ref u), l2, l3, l4, l5, l6, l7] S q Q ↔ z_go zP 174 978 [l0, some (.ref u), l2, l3, l4, l5, l6, l7] (.ref u :: S) q Q := ge_x (len := 1) (x := (0, 0, [])) p_174 rfl rfl
set_option maxRecDepth 100000 in
theorem g174_978 : z_go zP 174 978 [some (.ref u), l1, l2, l3, l4, l5, l6, l7] S q Q ↔ z_go zP 174 979 [some (.ref u), l1, l2, l3, l4, l5, l6, l7] (.ref u :: S) q Q := ge_x (len := 1) (x := (0, 0, [])) p_174 rfl rfl
set_option maxRecDepth 100000 in
theorem g174_979 : z_go zP 174 979 [l0, l1, l2, l3, some (zi a), l5, l6, l7] S q Q ↔ z_go zP 174 981 [l0, l1, l2, l3, some (zi a), l5, l6, l7] (zi a :: S) q Q := ge_x (len := 2) (x := (0, 0, [])) p_174 rfl rfl
set_option maxRecDepth 100000 in
theorem g174_981 : z_go zP 174 981 L S q Q ↔ z_go zP 174 982 L (zi 1 :: S) q Q := ge_x (len := 1) (x := (0, 0, [])) p_174 rfl rfl
set_option maxRecDepth 100000 in
theorem g174_982 : z_go zP 174 982 L (zi b :: zi a :: S) q Q ↔ z_go zP 174 983 L (zi (a + b) :: S) q Q := ge_iadd (len := 1) (x := (0, 0, [])) p_174 rfl
set_option maxRecDepth 100000 in
theorem g174_983 : z_go zP 174 983 L (zi a :: .ref u :: S) q Q ↔ ∃ v, z_at [99, 100] q.1 u (Int32.ofInt a) = some v ∧ z_go zP 174 984 L (v :: S) q Q := ge_iald (len := 1) (x := (0, 0, [])) p_174 rfl
set_option maxRecDepth 100000 in
theorem g174_984 : z_go zP 174 984 [some (.ref u), l1, l2, l3, l4, l5, l6, l7] S q Q ↔ z_go zP 174 985 [some (.ref u), l1, l2, l3, l4, l5, l6, l7] (.ref u :: S) q Q := ge_x (len := 1) (x := (0, 0, [])) p_174 rfl rfl
set_option maxRecDepth 100000 in
theorem g174_985 : z_go zP 174 985 [l0, l1, l2, l3, some (zi a), l5, l6, l7] S q Q ↔ z_go zP 174 987 [l0, l1, l2, l3, some (zi a), l5, l6, l7] (zi a :: S) q Q := ge_x (len := 2) (x := (0, 0, [])) p_174 rfl rfl
set_option maxRecDepth 100000 in
theorem g174_987 : z_go zP 174 987 L S q Q ↔ z_go zP 174 988 L (zi 2 :: S) q Q := ge_x (len := 1) (x := (0, 0, [])) p_174 rfl rfl
set_option maxRecDepth 100000 in
theorem g174_988 : z_go zP 174 988 L (zi b :: zi a :: S) q Q ↔ z_go zP 174 989 L (zi (a + b) :: S) q Q := ge_iadd (len := 1) (x := (0, 0, [])) p_174 rfl
set_option maxRecDepth 100000 in
theorem g174_989 : z_go zP 174 989 L (zi a :: .ref u :: S) q Q ↔ ∃ v, z_at [99, 100] q.1 u (Int32.ofInt a) = some v ∧ z_go zP 174 990 L (v :: S) q Q := ge_iald (len := 1) (x := (0, 0, [])) p_174 rfl
set_option maxRecDepth 100000 in
theorem g174_990 : z_go zP 174 990 [l0, l1, l2, some (.ref u), l4, l5, l6, l7] S q Q ↔ z_go zP 174 991 [l0, l1, l2, some (.ref u), l4, l5, l6, l7] (.ref u :: S) q Q := ge_x (len := 1) (x := (0, 0, [])) p_174 rfl rfl
set_option maxRecDepth 100000 in
theorem g174_991 : z_go zP 174 991 L [.ref w3, zi x2, zi x1, .ref w0] q Q ↔ z_go zP 169 0 [some (.ref w0), some (zi x1), some (zi x2), some (.ref w3), none] [] q (zd 174 994 L [] Q) := (z_go_cl (len := 3) (x := (169, 6, [4])) (k1 := 169) (A := [.ref w0, zi x1, zi x2, .ref w3]) (r := []) p_174 rfl rfl rfl rfl (by simp only [z_cl, List.drop]; rw [if_pos]; rfl; exact by first | exact ⟨by decide, (zwb_le (by show 0 ≤ 4; omega))⟩ | exact ⟨by decide, by show 4 ≤ 4; omega, (zwb_le (by show 0 ≤ 4; omega))⟩) p_169 (by show 4 ≤ 5; omega)).trans (ge_bk_d rfl)
set_option maxRecDepth 100000 in
theorem g174_994 : z_go zP 174 994 [l0, l1, l2, l3, l4, l5, l6, l7] (zi a :: S) q Q ↔ z_go zP 174 996 [l0, l1, l2, l3, (zkl l4), some (zi a), l6, l7] S q Q := (by cases l4 with | none => exact ge_x (len := 2) (x := (0, 0, [])) p_174 rfl rfl | some v => cases v <;> exact ge_x (len := 2) (x := (0, 0, [])) p_174 rfl rfl)
set_option maxRecDepth 100000 in
theorem g174_996 : z_go zP 174 996 [l0, l1, some (.ref u), l3, l4, l5, l6, l7] S q Q ↔ z_go zP 174 997 [l0, l1, some (.ref u), l3, l4, l5, l6, l7] (.ref u :: S) q Q := ge_x (len := 1) (x := (0, 0, [])) p_174 rfl rfl
set_option maxRecDepth 100000 in
theorem g174_997 : z_go zP 174 997 [some (.ref u), l1, l2, l3, l4, l5, l6, l7] S q Q ↔ z_go zP 174 998 [some (.ref u), l1, l2, l3, l4, l5, l6, l7] (.ref u :: S) q Q := ge_x (len := 1) (x := (0, 0, [])) p_174 rfl rfl
set_option maxRecDepth 100000 in
theorem g174_998 : z_go zP 174 998 [l0, l1, l2, l3, some (zi a), l5, l6, l7] S q Q ↔ z_go zP 174 1000 [l0, l1, l2, l3, some (zi a), l5, l6, l7] (zi a :: S) q Q := ge_x (len := 2) (x := (0, 0, [])) p_174 rfl rfl
set_option maxRecDepth 100000 in
theorem g174_1000 : z_go zP 174 1000 L S q Q ↔ z_go zP 174 1001 L (zi 1 :: S) q Q := ge_x (len := 1) (x := (0, 0, [])) p_174 rfl rfl
set_option maxRecDepth 100000 in
theorem g174_1001 : z_go zP 174 1001 L (zi b :: zi a :: S) q Q ↔ z_go zP 174 1002 L (zi (a + b) :: S) q Q := ge_iadd (len := 1) (x := (0, 0, [])) p_174 rfl
set_option maxRecDepth 100000 in
theorem g174_1002 : z_go zP 174 1002 L (zi a :: .ref u :: S) q Q ↔ ∃ v, z_at [99, 100] q.1 u (Int32.ofInt a) = some v ∧ z_go zP 174 1003 L (v :: S) q Q := ge_iald (len := 1) (x := (0, 0, [])) p_174 rfl
set_option maxRecDepth 100000 in
theorem g174_1003 : z_go zP 174 1003 [some (.ref u), l1, l2, l3, l4, l5, l6, l7] S q Q ↔ z_go zP 174 1004 [some (.ref u), l1, l2, l3, l4, l5, l6, l7] (.ref u :: S) q Q := ge_x (len := 1) (x := (0, 0, [])) p_174 rfl rfl
set_option maxRecDepth 100000 in
theorem g174_1004 : z_go zP 174 1004 [l0, l1, l2, l3, some (zi a), l5, l6, l7] S q Q ↔ z_go zP 174 1006 [l0, l1, l2, l3, some (zi a), l5, l6, l7] (zi a :: S) q Q := ge_x (len := 2) (x := (0, 0, [])) p_174 rfl rfl
set_option maxRecDepth 100000 in
theorem g174_1006 : z_go zP 174 1006 L S q Q ↔ z_go zP 174 1007 L (zi 2 :: S) q Q := ge_x (len := 1) (x := (0, 0, [])) p_174 rfl rfl
set_option maxRecDepth 100000 in
theorem g174_1007 : z_go zP 174 1007 L (zi b :: zi a :: S) q Q ↔ z_go zP 174 1008 L (zi (a + b) :: S) q Q := ge_iadd (len := 1) (x := (0, 0, [])) p_174 rfl
set_option maxRecDepth 100000 in
theorem g174_1008 : z_go zP 174 1008 L (zi a :: .ref u :: S) q Q ↔ ∃ v, z_at [99, 100] q.1 u (Int32.ofInt a) = some v ∧ z_go zP 174 1009 L (v :: S) q Q := ge_iald (len := 1) (x := (0, 0, [])) p_174 rfl
set_option maxRecDepth 100000 in
theorem g174_1009 : z_go zP 174 1009 L [zi x1, zi x0, .ref u] q Q ↔ z_tg q.1 u = some 9 ∧ z_go zP 132 0 [some (.ref u), some (zi x0), some (zi x1), none, none] [] q (zc 174 1012 L [] Q) := ge_vc (len := 3) (pc := 1009) (S := [zi x1, zi x0, .ref u]) (u := u) (k1 := 132) (A := [.ref u, zi x0, zi x1]) (r := []) (tag := 9) (n0 := 2) (zwb_le (by show 0 ≤ 4; omega)) p_174 rfl rfl rfl p_132 (by show 3 ≤ 5; omega) rfl
set_option maxRecDepth 100000 in
theorem g174_1012 : z_go zP 174 1012 [l0, l1, l2, l3, l4, l5, l6, l7] (zi a :: S) q Q ↔ z_go zP 174 1014 [l0, l1, l2, l3, l4, (zkl l5), some (zi a), l7] S q Q := (by cases l5 with | none => exact ge_x (len := 2) (x := (0, 0, [])) p_174 rfl rfl | some v => cases v <;> exact ge_x (len := 2) (x := (0, 0, [])) p_174 rfl rfl)
set_option maxRecDepth 100000 in
theorem g174_1014 : z_go zP 174 1014 [l0, l1, some (.ref u), l3, l4, l5, l6, l7] S q Q ↔ z_go zP 174 1015 [l0, l1, some (.ref u), l3, l4, l5, l6, l7] (.ref u :: S) q Q := ge_x (len := 1) (x := (0, 0, [])) p_174 rfl rfl
set_option maxRecDepth 100000 in
theorem g174_1015 : z_go zP 174 1015 L [.ref u] q Q ↔ z_tg q.1 u = some 9 ∧ z_go zP 95 0 [some (.ref u)] [] q (zc 174 1018 L [] Q) := ge_vc (len := 3) (pc := 1015) (S := [.ref u]) (u := u) (k1 := 95) (A := [.ref u]) (r := []) (tag := 9) (n0 := 0) (zwb_le (by show 0 ≤ 4; omega)) p_174 rfl rfl rfl p_95 (by show 1 ≤ 1; omega) rfl
set_option maxRecDepth 100000 in
theorem g174_1018 : z_go zP 174 1018 [l0, l1, l2, l3, l4, some (zi a), l6, l7] S q Q ↔ z_go zP 174 1020 [l0, l1, l2, l3, l4, some (zi a), l6, l7] (zi a :: S) q Q := ge_x (len := 2) (x := (0, 0, [])) p_174 rfl rfl
set_option maxRecDepth 100000 in
theorem g174_1020 (a1 : -2147483648 ≤ a) (a2 : a < 2147483648) (b1 : -2147483648 ≤ b) (b2 : b < 2147483648) : z_go zP 174 1020 L (zi b :: zi a :: S) q Q ↔ if a = b then z_go zP 174 1025 L S q Q else z_go zP 174 1023 L S q Q := ge_ic_eq (len := 3) (x := (0, 0, [])) a1 a2 b1 b2 p_174 rfl rfl
set_option maxRecDepth 100000 in
theorem g174_1023 : z_go zP 174 1023 L S q Q ↔ z_go zP 174 1024 L (zi 0 :: S) q Q := ge_x (len := 1) (x := (0, 0, [])) p_174 rfl rfl
set_option maxRecDepth 100000 in
theorem g174_1024_0 : z_go zP 174 1024 L [zi 0] q Q ↔ Q (.inl (some (zi 0))) q := z_go_rt (len := 1) (x := (0, 0, [])) p_174 rfl rfl rfl
set_option maxRecDepth 100000 in
theorem g174_1024_1 : z_go zP 174 1024 L [zi 1] q Q ↔ Q (.inl (some (zi 1))) q := z_go_rt (len := 1) (x := (0, 0, [])) p_174 rfl rfl rfl
set_option maxRecDepth 100000 in
theorem g174_1024b {c : Prop} [Decidable c] : z_go zP 174 1024 L [zi (bI c)] q Q ↔ Q (.inl (some (zi (bI c)))) q := (by rcases bI_01 (c := c) with h | h <;> rw [h] <;> exact z_go_rt (len := 1) (x := (0, 0, [])) p_174 rfl rfl rfl)
set_option maxRecDepth 100000 in
theorem g174_1025 : z_go zP 174 1025 [l0, l1, l2, l3, l4, some (zi a), l6, l7] S q Q ↔ z_go zP 174 1027 [l0, l1, l2, l3, l4, some (zi a), l6, l7] (zi a :: S) q Q := ge_x (len := 2) (x := (0, 0, [])) p_174 rfl rfl
set_option maxRecDepth 100000 in
theorem g174_1027 (a1 : -2147483648 ≤ a) (a2 : a < 2147483648) : z_go zP 174 1027 L (zi a :: S) q Q ↔ if ¬ a = 0 then z_go zP 174 1049 L S q Q else z_go zP 174 1030 L S q Q := ge_if_ne (len := 3) (x := (0, 0, [])) a1 a2 p_174 rfl rfl
set_option maxRecDepth 100000 in
theorem g174_1027b {c : Prop} [Decidable c] : z_go zP 174 1027 L (zi (bI c) :: S) q Q ↔ if c then z_go zP 174 1049 L S q Q else z_go zP 174 1030 L S q Q := ge_if_ne_b (len := 3) (x := (0, 0, [])) p_174 rfl rfl
set_option maxRecDepth 100000 in
theorem g174_1030 : z_go zP 174 1030 [l0, l1, l2, some (.ref u), l4, l5, l6, l7] S q Q ↔ z_go zP 174 1031 [l0, l1, l2, some (.ref u), l4, l5, l6, l7] (.ref u :: S) q Q := ge_x (len := 1) (x := (0, 0, [])) p_174 rfl rfl
set_option maxRecDepth 100000 in
theorem g174_1031 : z_go zP 174 1031 L S q Q ↔ z_go zP 174 1032 L (zi 0 :: S) q Q := ge_x (len := 1) (x := (0, 0, [])) p_174 rfl rfl
set_option maxRecDepth 100000 in
theorem g174_1032 : z_go zP 174 1032 L (zi a :: .ref u :: S) q Q ↔ ∃ v, z_at [101] q.1 u (Int32.ofInt a) = some v ∧ z_go zP 174 1033 L (v :: S) q Q := ge_lald (len := 1) (x := (0, 0, [])) p_174 rfl
set_option maxRecDepth 100000 in
theorem g174_1033 : z_go zP 174 1033 [l0, l1, l2, l3, l4, l5, some (zi a), l7] S q Q ↔ z_go zP 174 1035 [l0, l1, l2, l3, l4, l5, some (zi a), l7] (zi a :: S) q Q := ge_x (len := 2) (x := (0, 0, [])) p_174 rfl rfl
set_option maxRecDepth 100000 in
theorem g174_1035 (a1 : -2147483648 ≤ a) (a2 : a < 2147483648) : z_go zP 174 1035 L (zi a :: S) q Q ↔ if a = 0 then z_go zP 174 1042 L S q Q else z_go zP 174 1038 L S q Q := ge_if_eq (len := 3) (x := (0, 0, [])) a1 a2 p_174 rfl rfl
set_option maxRecDepth 100000 in
theorem g174_1035b {c : Prop} [Decidable c] : z_go zP 174 1035 L (zi (bI c) :: S) q Q ↔ if c then z_go zP 174 1038 L S q Q else z_go zP 174 1042 L S q Q := ge_if_eq_b (len := 3) (x := (0, 0, [])) p_174 rfl rfl
set_option maxRecDepth 100000 in
theorem g174_1038 : z_go zP 174 1038 L S q Q ↔ z_go zP 174 1039 L (zl 1 :: S) q Q := ge_x (len := 1) (x := (0, 0, [])) p_174 rfl rfl
set_option maxRecDepth 100000 in
theorem g174_1039 : z_go zP 174 1039 L S q Q ↔ z_go zP 174 1043 L S q Q := ge_to (len := 3) (x := (0, 0, [])) p_174 rfl rfl rfl
set_option maxRecDepth 100000 in
theorem g174_1042 : z_go zP 174 1042 L S q Q ↔ z_go zP 174 1043 L (zl 0 :: S) q Q := ge_x (len := 1) (x := (0, 0, [])) p_174 rfl rfl
set_option maxRecDepth 100000 in
theorem g174_1043 (a1 : -9223372036854775808 ≤ a) (a2 : a < 9223372036854775808) (b1 : -9223372036854775808 ≤ b) (b2 : b < 9223372036854775808) : z_go zP 174 1043 L (zl b :: zl a :: S) q Q ↔ if a = b then z_go zP 174 1049 L S q Q else z_go zP 174 1047 L S q Q := ge_lc_eq (len := 1) (x := (0, 0, [])) (p2 := 1044) (l2 := 3) a1 a2 b1 b2 p_174 rfl rfl rfl rfl
set_option maxRecDepth 100000 in
theorem g174_1047 : z_go zP 174 1047 L S q Q ↔ z_go zP 174 1048 L (zi 0 :: S) q Q := ge_x (len := 1) (x := (0, 0, [])) p_174 rfl rfl
set_option maxRecDepth 100000 in
theorem g174_1048_0 : z_go zP 174 1048 L [zi 0] q Q ↔ Q (.inl (some (zi 0))) q := z_go_rt (len := 1) (x := (0, 0, [])) p_174 rfl rfl rfl
set_option maxRecDepth 100000 in
theorem g174_1048_1 : z_go zP 174 1048 L [zi 1] q Q ↔ Q (.inl (some (zi 1))) q := z_go_rt (len := 1) (x := (0, 0, [])) p_174 rfl rfl rfl
set_option maxRecDepth 100000 in
theorem g174_1048b {c : Prop} [Decidable c] : z_go zP 174 1048 L [zi (bI c)] q Q ↔ Q (.inl (some (zi (bI c)))) q := (by rcases bI_01 (c := c) with h | h <;> rw [h] <;> exact z_go_rt (len := 1) (x := (0, 0, [])) p_174 rfl rfl rfl)
set_option maxRecDepth 100000 in
theorem g174_1049 : z_go zP 174 1049 L S q Q ↔ z_go zP 174 1398 L S q Q := ge_to (len := 3) (x := (0, 0, [])) p_174 rfl rfl rfl
set_option maxRecDepth 100000 in
theorem g174_1052 : z_go zP 174 1052 [l0, some (.ref u), l2, l3, l4, l5, l6, l7] S q Q ↔ z_go zP 174 1053 [l0, some (.ref u), l2, l3, l4, l5, l6, l7] (.ref u :: S) q Q := ge_x (len := 1) (x := (0, 0, [])) p_174 rfl rfl
set_option maxRecDepth 100000 in
theorem g174_1053 : z_go zP 174 1053 [some (.ref u), l1, l2, l3, l4, l5, l6, l7] S q Q ↔ z_go zP 174 1054 [some (.ref u), l1, l2, l3, l4, l5, l6, l7] (.ref u :: S) q Q := ge_x (len := 1) (x := (0, 0, [])) p_174 rfl rfl
set_option maxRecDepth 100000 in
theorem g174_1054 : z_go zP 174 1054 [l0, l1, l2, l3, some (zi a), l5, l6, l7] S q Q ↔ z_go zP 174 1056 [l0, l1, l2, l3, some (zi a), l5, l6, l7] (zi a :: S) q Q := ge_x (len := 2) (x := (0, 0, [])) p_174 rfl rfl
set_option maxRecDepth 100000 in
theorem g174_1056 : z_go zP 174 1056 L S q Q ↔ z_go zP 174 1057 L (zi 1 :: S) q Q := ge_x (len := 1) (x := (0, 0, [])) p_174 rfl rfl
set_option maxRecDepth 100000 in
theorem g174_1057 : z_go zP 174 1057 L (zi b :: zi a :: S) q Q ↔ z_go zP 174 1058 L (zi (a + b) :: S) q Q := ge_iadd (len := 1) (x := (0, 0, [])) p_174 rfl
set_option maxRecDepth 100000 in
theorem g174_1058 : z_go zP 174 1058 L (zi a :: .ref u :: S) q Q ↔ ∃ v, z_at [99, 100] q.1 u (Int32.ofInt a) = some v ∧ z_go zP 174 1059 L (v :: S) q Q := ge_iald (len := 1) (x := (0, 0, [])) p_174 rfl
set_option maxRecDepth 100000 in
theorem g174_1059 : z_go zP 174 1059 [some (.ref u), l1, l2, l3, l4, l5, l6, l7] S q Q ↔ z_go zP 174 1060 [some (.ref u), l1, l2, l3, l4, l5, l6, l7] (.ref u :: S) q Q := ge_x (len := 1) (x := (0, 0, [])) p_174 rfl rfl
set_option maxRecDepth 100000 in
theorem g174_1060 : z_go zP 174 1060 [l0, l1, l2, l3, some (zi a), l5, l6, l7] S q Q ↔ z_go zP 174 1062 [l0, l1, l2, l3, some (zi a), l5, l6, l7] (zi a :: S) q Q := ge_x (len := 2) (x := (0, 0, [])) p_174 rfl rfl
set_option maxRecDepth 100000 in
theorem g174_1062 : z_go zP 174 1062 L S q Q ↔ z_go zP 174 1063 L (zi 2 :: S) q Q := ge_x (len := 1) (x := (0, 0, [])) p_174 rfl rfl
set_option maxRecDepth 100000 in
theorem g174_1063 : z_go zP 174 1063 L (zi b :: zi a :: S) q Q ↔ z_go zP 174 1064 L (zi (a + b) :: S) q Q := ge_iadd (len := 1) (x := (0, 0, [])) p_174 rfl
set_option maxRecDepth 100000 in
theorem g174_1064 : z_go zP 174 1064 L (zi a :: .ref u :: S) q Q ↔ ∃ v, z_at [99, 100] q.1 u (Int32.ofInt a) = some v ∧ z_go zP 174 1065 L (v :: S) q Q := ge_iald (len := 1) (x := (0, 0, [])) p_174 rfl
set_option maxRecDepth 100000 in
theorem g174_1065 : z_go zP 174 1065 [some (.ref u), l1, l2, l3, l4, l5, l6, l7] S q Q ↔ z_go zP 174 1066 [some (.ref u), l1, l2, l3, l4, l5, l6, l7] (.ref u :: S) q Q := ge_x (len := 1) (x := (0, 0, [])) p_174 rfl rfl
set_option maxRecDepth 100000 in
theorem g174_1066 : z_go zP 174 1066 [l0, l1, l2, l3, some (zi a), l5, l6, l7] S q Q ↔ z_go zP 174 1068 [l0, l1, l2, l3, some (zi a), l5, l6, l7] (zi a :: S) q Q := ge_x (len := 2) (x := (0, 0, [])) p_174 rfl rfl
set_option maxRecDepth 100000 in
theorem g174_1068 : z_go zP 174 1068 L S q Q ↔ z_go zP 174 1069 L (zi 3 :: S) q Q := ge_x (len := 1) (x := (0, 0, [])) p_174 rfl rfl
set_option maxRecDepth 100000 in
theorem g174_1069 : z_go zP 174 1069 L (zi b :: zi a :: S) q Q ↔ z_go zP 174 1070 L (zi (a + b) :: S) q Q := ge_iadd (len := 1) (x := (0, 0, [])) p_174 rfl
set_option maxRecDepth 100000 in
theorem g174_1070 : z_go zP 174 1070 L (zi a :: .ref u :: S) q Q ↔ ∃ v, z_at [99, 100] q.1 u (Int32.ofInt a) = some v ∧ z_go zP 174 1071 L (v :: S) q Q := ge_iald (len := 1) (x := (0, 0, [])) p_174 rfl
set_option maxRecDepth 100000 in
theorem g174_1071 : z_go zP 174 1071 [l0, l1, l2, some (.ref u), l4, l5, l6, l7] S q Q ↔ z_go zP 174 1072 [l0, l1, l2, some (.ref u), l4, l5, l6, l7] (.ref u :: S) q Q := ge_x (len := 1) (x := (0, 0, [])) p_174 rfl rfl
set_option maxRecDepth 100000 in
theorem g174_1072 : z_go zP 174 1072 L [.ref w4, zi x3, zi x2, zi x1, .ref w0] q Q ↔ z_go zP 170 0 [some (.ref w0), some (zi x1), some (zi x2), some (zi x3), some (.ref w4), none] [] q (zd 174 1075 L [] Q) := (z_go_cl (len := 3) (x := (170, 6, [5])) (k1 := 170) (A := [.ref w0, zi x1, zi x2, zi x3, .ref w4]) (r := []) p_174 rfl rfl rfl rfl (by simp only [z_cl, List.drop]; rw [if_pos]; rfl; exact by first | exact ⟨by decide, (zwb_le (by show 0 ≤ 4; omega))⟩ | exact ⟨by decide, by show 5 ≤ 5; omega, (zwb_le (by show 0 ≤ 4; omega))⟩) p_170 (by show 5 ≤ 6; omega)).trans (ge_bk_d rfl)
set_option maxRecDepth 100000 in
theorem g174_1075 : z_go zP 174 1075 [l0, l1, l2, l3, l4, l5, l6, l7] (zi a :: S) q Q ↔ z_go zP 174 1077 [l0, l1, l2, l3, (zkl l4), some (zi a), l6, l7] S q Q := (by cases l4 with | none => exact ge_x (len := 2) (x := (0, 0, [])) p_174 rfl rfl | some v => cases v <;> exact ge_x (len := 2) (x := (0, 0, [])) p_174 rfl rfl)
set_option maxRecDepth 100000 in
theorem g174_1077 : z_go zP 174 1077 [l0, l1, some (.ref u), l3, l4, l5, l6, l7] S q Q ↔ z_go zP 174 1078 [l0, l1, some (.ref u), l3, l4, l5, l6, l7] (.ref u :: S) q Q := ge_x (len := 1) (x := (0, 0, [])) p_174 rfl rfl
set_option maxRecDepth 100000 in
theorem g174_1078 : z_go zP 174 1078 [some (.ref u), l1, l2, l3, l4, l5, l6, l7] S q Q ↔ z_go zP 174 1079 [some (.ref u), l1, l2, l3, l4, l5, l6, l7] (.ref u :: S) q Q := ge_x (len := 1) (x := (0, 0, [])) p_174 rfl rfl
set_option maxRecDepth 100000 in
theorem g174_1079 : z_go zP 174 1079 [l0, l1, l2, l3, some (zi a), l5, l6, l7] S q Q ↔ z_go zP 174 1081 [l0, l1, l2, l3, some (zi a), l5, l6, l7] (zi a :: S) q Q := ge_x (len := 2) (x := (0, 0, [])) p_174 rfl rfl
set_option maxRecDepth 100000 in
theorem g174_1081 : z_go zP 174 1081 L S q Q ↔ z_go zP 174 1082 L (zi 1 :: S) q Q := ge_x (len := 1) (x := (0, 0, [])) p_174 rfl rfl
set_option maxRecDepth 100000 in
theorem g174_1082 : z_go zP 174 1082 L (zi b :: zi a :: S) q Q ↔ z_go zP 174 1083 L (zi (a + b) :: S) q Q := ge_iadd (len := 1) (x := (0, 0, [])) p_174 rfl
set_option maxRecDepth 100000 in
theorem g174_1083 : z_go zP 174 1083 L (zi a :: .ref u :: S) q Q ↔ ∃ v, z_at [99, 100] q.1 u (Int32.ofInt a) = some v ∧ z_go zP 174 1084 L (v :: S) q Q := ge_iald (len := 1) (x := (0, 0, [])) p_174 rfl
set_option maxRecDepth 100000 in
theorem g174_1084 : z_go zP 174 1084 [some (.ref u), l1, l2, l3, l4, l5, l6, l7] S q Q ↔ z_go zP 174 1085 [some (.ref u), l1, l2, l3, l4, l5, l6, l7] (.ref u :: S) q Q := ge_x (len := 1) (x := (0, 0, [])) p_174 rfl rfl
set_option maxRecDepth 100000 in
theorem g174_1085 : z_go zP 174 1085 [l0, l1, l2, l3, some (zi a), l5, l6, l7] S q Q ↔ z_go zP 174 1087 [l0, l1, l2, l3, some (zi a), l5, l6, l7] (zi a :: S) q Q := ge_x (len := 2) (x := (0, 0, [])) p_174 rfl rfl
set_option maxRecDepth 100000 in
theorem g174_1087 : z_go zP 174 1087 L S q Q ↔ z_go zP 174 1088 L (zi 2 :: S) q Q := ge_x (len := 1) (x := (0, 0, [])) p_174 rfl rfl
set_option maxRecDepth 100000 in
theorem g174_1088 : z_go zP 174 1088 L (zi b :: zi a :: S) q Q ↔ z_go zP 174 1089 L (zi (a + b) :: S) q Q := ge_iadd (len := 1) (x := (0, 0, [])) p_174 rfl
set_option maxRecDepth 100000 in
theorem g174_1089 : z_go zP 174 1089 L (zi a :: .ref u :: S) q Q ↔ ∃ v, z_at [99, 100] q.1 u (Int32.ofInt a) = some v ∧ z_go zP 174 1090 L (v :: S) q Q := ge_iald (len := 1) (x := (0, 0, [])) p_174 rfl
set_option maxRecDepth 100000 in
theorem g174_1090 : z_go zP 174 1090 [some (.ref u), l1, l2, l3, l4, l5, l6, l7] S q Q ↔ z_go zP 174 1091 [some (.ref u), l1, l2, l3, l4, l5, l6, l7] (.ref u :: S) q Q := ge_x (len := 1) (x := (0, 0, [])) p_174 rfl rfl
set_option maxRecDepth 100000 in
theorem g174_1091 : z_go zP 174 1091 [l0, l1, l2, l3, some (zi a), l5, l6, l7] S q Q ↔ z_go zP 174 1093 [l0, l1, l2, l3, some (zi a), l5, l6, l7] (zi a :: S) q Q := ge_x (len := 2) (x := (0, 0, [])) p_174 rfl rfl
set_option maxRecDepth 100000 in
theorem g174_1093 : z_go zP 174 1093 L S q Q ↔ z_go zP 174 1094 L (zi 3 :: S) q Q := ge_x (len := 1) (x := (0, 0, [])) p_174 rfl rfl
set_option maxRecDepth 100000 in
theorem g174_1094 : z_go zP 174 1094 L (zi b :: zi a :: S) q Q ↔ z_go zP 174 1095 L (zi (a + b) :: S) q Q := ge_iadd (len := 1) (x := (0, 0, [])) p_174 rfl
set_option maxRecDepth 100000 in
theorem g174_1095 : z_go zP 174 1095 L (zi a :: .ref u :: S) q Q ↔ ∃ v, z_at [99, 100] q.1 u (Int32.ofInt a) = some v ∧ z_go zP 174 1096 L (v :: S) q Q := ge_iald (len := 1) (x := (0, 0, [])) p_174 rfl
set_option maxRecDepth 100000 in
theorem g174_1096 : z_go zP 174 1096 L [zi x2, zi x1, zi x0, .ref u] q Q ↔ z_tg q.1 u = some 9 ∧ z_go zP 146 0 [some (.ref u), some (zi x0), some (zi x1), some (zi x2)] [] q (zc 174 1099 L [] Q) := ge_vc (len := 3) (pc := 1096) (S := [zi x2, zi x1, zi x0, .ref u]) (u := u) (k1 := 146) (A := [.ref u, zi x0, zi x1, zi x2]) (r := []) (tag := 9) (n0 := 3) (zwb_le (by show 0 ≤ 4; omega)) p_174 rfl rfl rfl p_146 (by show 4 ≤ 4; omega) rfl
set_option maxRecDepth 100000 in
theorem g174_1099 : z_go zP 174 1099 [l0, l1, l2, l3, l4, l5, l6, l7] (zi a :: S) q Q ↔ z_go zP 174 1101 [l0, l1, l2, l3, l4, (zkl l5), some (zi a), l7] S q Q := (by cases l5 with | none => exact ge_x (len := 2) (x := (0, 0, [])) p_174 rfl rfl | some v => cases v <;> exact ge_x (len := 2) (x := (0, 0, [])) p_174 rfl rfl)
set_option maxRecDepth 100000 in
theorem g174_1101 : z_go zP 174 1101 [l0, l1, some (.ref u), l3, l4, l5, l6, l7] S q Q ↔ z_go zP 174 1102 [l0, l1, some (.ref u), l3, l4, l5, l6, l7] (.ref u :: S) q Q := ge_x (len := 1) (x := (0, 0, [])) p_174 rfl rfl
set_option maxRecDepth 100000 in
theorem g174_1102 : z_go zP 174 1102 L [.ref u] q Q ↔ z_tg q.1 u = some 9 ∧ z_go zP 95 0 [some (.ref u)] [] q (zc 174 1105 L [] Q) := ge_vc (len := 3) (pc := 1102) (S := [.ref u]) (u := u) (k1 := 95) (A := [.ref u]) (r := []) (tag := 9) (n0 := 0) (zwb_le (by show 0 ≤ 4; omega)) p_174 rfl rfl rfl p_95 (by show 1 ≤ 1; omega) rfl
set_option maxRecDepth 100000 in
theorem g174_1105 : z_go zP 174 1105 [l0, l1, l2, l3, l4, some (zi a), l6, l7] S q Q ↔ z_go zP 174 1107 [l0, l1, l2, l3, l4, some (zi a), l6, l7] (zi a :: S) q Q := ge_x (len := 2) (x := (0, 0, [])) p_174 rfl rfl
set_option maxRecDepth 100000 in
theorem g174_1107 (a1 : -2147483648 ≤ a) (a2 : a < 2147483648) (b1 : -2147483648 ≤ b) (b2 : b < 2147483648) : z_go zP 174 1107 L (zi b :: zi a :: S) q Q ↔ if a = b then z_go zP 174 1112 L S q Q else z_go zP 174 1110 L S q Q := ge_ic_eq (len := 3) (x := (0, 0, [])) a1 a2 b1 b2 p_174 rfl rfl
set_option maxRecDepth 100000 in
theorem g174_1110 : z_go zP 174 1110 L S q Q ↔ z_go zP 174 1111 L (zi 0 :: S) q Q := ge_x (len := 1) (x := (0, 0, [])) p_174 rfl rfl
set_option maxRecDepth 100000 in
theorem g174_1111_0 : z_go zP 174 1111 L [zi 0] q Q ↔ Q (.inl (some (zi 0))) q := z_go_rt (len := 1) (x := (0, 0, [])) p_174 rfl rfl rfl
set_option maxRecDepth 100000 in
theorem g174_1111_1 : z_go zP 174 1111 L [zi 1] q Q ↔ Q (.inl (some (zi 1))) q := z_go_rt (len := 1) (x := (0, 0, [])) p_174 rfl rfl rfl
set_option maxRecDepth 100000 in
theorem g174_1111b {c : Prop} [Decidable c] : z_go zP 174 1111 L [zi (bI c)] q Q ↔ Q (.inl (some (zi (bI c)))) q := (by rcases bI_01 (c := c) with h | h <;> rw [h] <;> exact z_go_rt (len := 1) (x := (0, 0, [])) p_174 rfl rfl rfl)
set_option maxRecDepth 100000 in
theorem g174_1112 : z_go zP 174 1112 [l0, l1, l2, l3, l4, some (zi a), l6, l7] S q Q ↔ z_go zP 174 1114 [l0, l1, l2, l3, l4, some (zi a), l6, l7] (zi a :: S) q Q := ge_x (len := 2) (x := (0, 0, [])) p_174 rfl rfl
set_option maxRecDepth 100000 in
theorem g174_1114 (a1 : -2147483648 ≤ a) (a2 : a < 2147483648) : z_go zP 174 1114 L (zi a :: S) q Q ↔ if ¬ a = 0 then z_go zP 174 1129 L S q Q else z_go zP 174 1117 L S q Q := ge_if_ne (len := 3) (x := (0, 0, [])) a1 a2 p_174 rfl rfl
set_option maxRecDepth 100000 in
theorem g174_1114b {c : Prop} [Decidable c] : z_go zP 174 1114 L (zi (bI c) :: S) q Q ↔ if c then z_go zP 174 1129 L S q Q else z_go zP 174 1117 L S q Q := ge_if_ne_b (len := 3) (x := (0, 0, [])) p_174 rfl rfl
set_option maxRecDepth 100000 in
theorem g174_1117 : z_go zP 174 1117 [l0, l1, l2, some (.ref u), l4, l5, l6, l7] S q Q ↔ z_go zP 174 1118 [l0, l1, l2, some (.ref u), l4, l5, l6, l7] (.ref u :: S) q Q := ge_x (len := 1) (x := (0, 0, [])) p_174 rfl rfl
set_option maxRecDepth 100000 in
theorem g174_1118 : z_go zP 174 1118 L S q Q ↔ z_go zP 174 1119 L (zi 0 :: S) q Q := ge_x (len := 1) (x := (0, 0, [])) p_174 rfl rfl
set_option maxRecDepth 100000 in
theorem g174_1119 : z_go zP 174 1119 L (zi a :: .ref u :: S) q Q ↔ ∃ v, z_at [101] q.1 u (Int32.ofInt a) = some v ∧ z_go zP 174 1120 L (v :: S) q Q := ge_lald (len := 1) (x := (0, 0, [])) p_174 rfl
set_option maxRecDepth 100000 in
theorem g174_1120 : z_go zP 174 1120 [l0, l1, l2, l3, l4, l5, some (zi a), l7] S q Q ↔ z_go zP 174 1122 [l0, l1, l2, l3, l4, l5, some (zi a), l7] (zi a :: S) q Q := ge_x (len := 2) (x := (0, 0, [])) p_174 rfl rfl
set_option maxRecDepth 100000 in
theorem g174_1122 (a1 : -2147483648 ≤ a) (a2 : a < 2147483648) : z_go zP 174 1122 L (zi a :: S) q Q ↔ z_go zP 174 1123 L (zl a :: S) q Q := ge_i2l (len := 1) (x := (0, 0, [])) a1 a2 p_174 rfl
set_option maxRecDepth 100000 in
theorem g174_1123 (a1 : -9223372036854775808 ≤ a) (a2 : a < 9223372036854775808) (b1 : -9223372036854775808 ≤ b) (b2 : b < 9223372036854775808) : z_go zP 174 1123 L (zl b :: zl a :: S) q Q ↔ if a = b then z_go zP 174 1129 L S q Q else z_go zP 174 1127 L S q Q := ge_lc_eq (len := 1) (x := (0, 0, [])) (p2 := 1124) (l2 := 3) a1 a2 b1 b2 p_174 rfl rfl rfl rfl
set_option maxRecDepth 100000 in
theorem g174_1127 : z_go zP 174 1127 L S q Q ↔ z_go zP 174 1128 L (zi 0 :: S) q Q := ge_x (len := 1) (x := (0, 0, [])) p_174 rfl rfl
set_option maxRecDepth 100000 in
theorem g174_1128_0 : z_go zP 174 1128 L [zi 0] q Q ↔ Q (.inl (some (zi 0))) q := z_go_rt (len := 1) (x := (0, 0, [])) p_174 rfl rfl rfl
set_option maxRecDepth 100000 in
theorem g174_1128_1 : z_go zP 174 1128 L [zi 1] q Q ↔ Q (.inl (some (zi 1))) q := z_go_rt (len := 1) (x := (0, 0, [])) p_174 rfl rfl rfl
set_option maxRecDepth 100000 in
theorem g174_1128b {c : Prop} [Decidable c] : z_go zP 174 1128 L [zi (bI c)] q Q ↔ Q (.inl (some (zi (bI c)))) q := (by rcases bI_01 (c := c) with h | h <;> rw [h] <;> exact z_go_rt (len := 1) (x := (0, 0, [])) p_174 rfl rfl rfl)
set_option maxRecDepth 100000 in
theorem g174_1129 : z_go zP 174 1129 L S q Q ↔ z_go zP 174 1398 L S q Q := ge_to (len := 3) (x := (0, 0, [])) p_174 rfl rfl rfl
set_option maxRecDepth 100000 in
theorem g174_1132 : z_go zP 174 1132 [l0, some (.ref u), l2, l3, l4, l5, l6, l7] S q Q ↔ z_go zP 174 1133 [l0, some (.ref u), l2, l3, l4, l5, l6, l7] (.ref u :: S) q Q := ge_x (len := 1) (x := (0, 0, [])) p_174 rfl rfl
set_option maxRecDepth 100000 in
theorem g174_1133 : z_go zP 174 1133 [some (.ref u), l1, l2, l3, l4, l5, l6, l7] S q Q ↔ z_go zP 174 1134 [some (.ref u), l1, l2, l3, l4, l5, l6, l7] (.ref u :: S) q Q := ge_x (len := 1) (x := (0, 0, [])) p_174 rfl rfl
set_option maxRecDepth 100000 in
theorem g174_1134 : z_go zP 174 1134 [l0, l1, l2, l3, some (zi a), l5, l6, l7] S q Q ↔ z_go zP 174 1136 [l0, l1, l2, l3, some (zi a), l5, l6, l7] (zi a :: S) q Q := ge_x (len := 2) (x := (0, 0, [])) p_174 rfl rfl
set_option maxRecDepth 100000 in
theorem g174_1136 : z_go zP 174 1136 L S q Q ↔ z_go zP 174 1137 L (zi 1 :: S) q Q := ge_x (len := 1) (x := (0, 0, [])) p_174 rfl rfl
set_option maxRecDepth 100000 in
theorem g174_1137 : z_go zP 174 1137 L (zi b :: zi a :: S) q Q ↔ z_go zP 174 1138 L (zi (a + b) :: S) q Q := ge_iadd (len := 1) (x := (0, 0, [])) p_174 rfl
set_option maxRecDepth 100000 in
theorem g174_1138 : z_go zP 174 1138 L (zi a :: .ref u :: S) q Q ↔ ∃ v, z_at [99, 100] q.1 u (Int32.ofInt a) = some v ∧ z_go zP 174 1139 L (v :: S) q Q := ge_iald (len := 1) (x := (0, 0, [])) p_174 rfl
set_option maxRecDepth 100000 in
theorem g174_1139 : z_go zP 174 1139 [some (.ref u), l1, l2, l3, l4, l5, l6, l7] S q Q ↔ z_go zP 174 1140 [some (.ref u), l1, l2, l3, l4, l5, l6, l7] (.ref u :: S) q Q := ge_x (len := 1) (x := (0, 0, [])) p_174 rfl rfl
set_option maxRecDepth 100000 in
theorem g174_1140 : z_go zP 174 1140 [l0, l1, l2, l3, some (zi a), l5, l6, l7] S q Q ↔ z_go zP 174 1142 [l0, l1, l2, l3, some (zi a), l5, l6, l7] (zi a :: S) q Q := ge_x (len := 2) (x := (0, 0, [])) p_174 rfl rfl
set_option maxRecDepth 100000 in
theorem g174_1142 : z_go zP 174 1142 L S q Q ↔ z_go zP 174 1143 L (zi 2 :: S) q Q := ge_x (len := 1) (x := (0, 0, [])) p_174 rfl rfl
set_option maxRecDepth 100000 in
theorem g174_1143 : z_go zP 174 1143 L (zi b :: zi a :: S) q Q ↔ z_go zP 174 1144 L (zi (a + b) :: S) q Q := ge_iadd (len := 1) (x := (0, 0, [])) p_174 rfl
set_option maxRecDepth 100000 in
theorem g174_1144 : z_go zP 174 1144 L (zi a :: .ref u :: S) q Q ↔ ∃ v, z_at [99, 100] q.1 u (Int32.ofInt a) = some v ∧ z_go zP 174 1145 L (v :: S) q Q := ge_iald (len := 1) (x := (0, 0, [])) p_174 rfl
set_option maxRecDepth 100000 in
theorem g174_1145 : z_go zP 174 1145 [l0, l1, l2, some (.ref u), l4, l5, l6, l7] S q Q ↔ z_go zP 174 1146 [l0, l1, l2, some (.ref u), l4, l5, l6, l7] (.ref u :: S) q Q := ge_x (len := 1) (x := (0, 0, [])) p_174 rfl rfl
set_option maxRecDepth 100000 in
theorem g174_1146 : z_go zP 174 1146 L [.ref w3, zi x2, zi x1, .ref w0] q Q ↔ z_go zP 171 0 [some (.ref w0), some (zi x1), some (zi x2), some (.ref w3), none] [] q (zd 174 1149 L [] Q) := (z_go_cl (len := 3) (x := (171, 6, [4])) (k1 := 171) (A := [.ref w0, zi x1, zi x2, .ref w3]) (r := []) p_174 rfl rfl rfl rfl (by simp only [z_cl, List.drop]; rw [if_pos]; rfl; exact by first | exact ⟨by decide, (zwb_le (by show 0 ≤ 4; omega))⟩ | exact ⟨by decide, by show 4 ≤ 4; omega, (zwb_le (by show 0 ≤ 4; omega))⟩) p_171 (by show 4 ≤ 5; omega)).trans (ge_bk_d rfl)
set_option maxRecDepth 100000 in
theorem g174_1149 : z_go zP 174 1149 [l0, l1, l2, l3, l4, l5, l6, l7] (zi a :: S) q Q ↔ z_go zP 174 1151 [l0, l1, l2, l3, (zkl l4), some (zi a), l6, l7] S q Q := (by cases l4 with | none => exact ge_x (len := 2) (x := (0, 0, [])) p_174 rfl rfl | some v => cases v <;> exact ge_x (len := 2) (x := (0, 0, [])) p_174 rfl rfl)
set_option maxRecDepth 100000 in
theorem g174_1151 : z_go zP 174 1151 [l0, l1, some (.ref u), l3, l4, l5, l6, l7] S q Q ↔ z_go zP 174 1152 [l0, l1, some (.ref u), l3, l4, l5, l6, l7] (.ref u :: S) q Q := ge_x (len := 1) (x := (0, 0, [])) p_174 rfl rfl
set_option maxRecDepth 100000 in
theorem g174_1152 : z_go zP 174 1152 [some (.ref u), l1, l2, l3, l4, l5, l6, l7] S q Q ↔ z_go zP 174 1153 [some (.ref u), l1, l2, l3, l4, l5, l6, l7] (.ref u :: S) q Q := ge_x (len := 1) (x := (0, 0, [])) p_174 rfl rfl
set_option maxRecDepth 100000 in
theorem g174_1153 : z_go zP 174 1153 [l0, l1, l2, l3, some (zi a), l5, l6, l7] S q Q ↔ z_go zP 174 1155 [l0, l1, l2, l3, some (zi a), l5, l6, l7] (zi a :: S) q Q := ge_x (len := 2) (x := (0, 0, [])) p_174 rfl rfl
set_option maxRecDepth 100000 in
theorem g174_1155 : z_go zP 174 1155 L S q Q ↔ z_go zP 174 1156 L (zi 1 :: S) q Q := ge_x (len := 1) (x := (0, 0, [])) p_174 rfl rfl
set_option maxRecDepth 100000 in
theorem g174_1156 : z_go zP 174 1156 L (zi b :: zi a :: S) q Q ↔ z_go zP 174 1157 L (zi (a + b) :: S) q Q := ge_iadd (len := 1) (x := (0, 0, [])) p_174 rfl
set_option maxRecDepth 100000 in
theorem g174_1157 : z_go zP 174 1157 L (zi a :: .ref u :: S) q Q ↔ ∃ v, z_at [99, 100] q.1 u (Int32.ofInt a) = some v ∧ z_go zP 174 1158 L (v :: S) q Q := ge_iald (len := 1) (x := (0, 0, [])) p_174 rfl
set_option maxRecDepth 100000 in
theorem g174_1158 : z_go zP 174 1158 [some (.ref u), l1, l2, l3, l4, l5, l6, l7] S q Q ↔ z_go zP 174 1159 [some (.ref u), l1, l2, l3, l4, l5, l6, l7] (.ref u :: S) q Q := ge_x (len := 1) (x := (0, 0, [])) p_174 rfl rfl
set_option maxRecDepth 100000 in
theorem g174_1159 : z_go zP 174 1159 [l0, l1, l2, l3, some (zi a), l5, l6, l7] S q Q ↔ z_go zP 174 1161 [l0, l1, l2, l3, some (zi a), l5, l6, l7] (zi a :: S) q Q := ge_x (len := 2) (x := (0, 0, [])) p_174 rfl rfl
set_option maxRecDepth 100000 in
theorem g174_1161 : z_go zP 174 1161 L S q Q ↔ z_go zP 174 1162 L (zi 2 :: S) q Q := ge_x (len := 1) (x := (0, 0, [])) p_174 rfl rfl
set_option maxRecDepth 100000 in
theorem g174_1162 : z_go zP 174 1162 L (zi b :: zi a :: S) q Q ↔ z_go zP 174 1163 L (zi (a + b) :: S) q Q := ge_iadd (len := 1) (x := (0, 0, [])) p_174 rfl
set_option maxRecDepth 100000 in
theorem g174_1163 : z_go zP 174 1163 L (zi a :: .ref u :: S) q Q ↔ ∃ v, z_at [99, 100] q.1 u (Int32.ofInt a) = some v ∧ z_go zP 174 1164 L (v :: S) q Q := ge_iald (len := 1) (x := (0, 0, [])) p_174 rfl
set_option maxRecDepth 100000 in
theorem g174_1164 : z_go zP 174 1164 L [zi x1, zi x0, .ref u] q Q ↔ z_tg q.1 u = some 9 ∧ z_go zP 148 0 [some (.ref u), some (zi x0), some (zi x1)] [] q (zc 174 1167 L [] Q) := ge_vc (len := 3) (pc := 1164) (S := [zi x1, zi x0, .ref u]) (u := u) (k1 := 148) (A := [.ref u, zi x0, zi x1]) (r := []) (tag := 9) (n0 := 2) (zwb_le (by show 0 ≤ 4; omega)) p_174 rfl rfl rfl p_148 (by show 3 ≤ 3; omega) rfl
set_option maxRecDepth 100000 in
theorem g174_1167 : z_go zP 174 1167 [l0, l1, l2, l3, l4, l5, l6, l7] (zi a :: S) q Q ↔ z_go zP 174 1169 [l0, l1, l2, l3, l4, (zkl l5), some (zi a), l7] S q Q := (by cases l5 with | none => exact ge_x (len := 2) (x := (0, 0, [])) p_174 rfl rfl | some v => cases v <;> exact ge_x (len := 2) (x := (0, 0, [])) p_174 rfl rfl)
set_option maxRecDepth 100000 in
theorem g174_1169 : z_go zP 174 1169 [l0, l1, some (.ref u), l3, l4, l5, l6, l7] S q Q ↔ z_go zP 174 1170 [l0, l1, some (.ref u), l3, l4, l5, l6, l7] (.ref u :: S) q Q := ge_x (len := 1) (x := (0, 0, [])) p_174 rfl rfl
set_option maxRecDepth 100000 in
theorem g174_1170 : z_go zP 174 1170 L [.ref u] q Q ↔ z_tg q.1 u = some 9 ∧ z_go zP 95 0 [some (.ref u)] [] q (zc 174 1173 L [] Q) := ge_vc (len := 3) (pc := 1170) (S := [.ref u]) (u := u) (k1 := 95) (A := [.ref u]) (r := []) (tag := 9) (n0 := 0) (zwb_le (by show 0 ≤ 4; omega)) p_174 rfl rfl rfl p_95 (by show 1 ≤ 1; omega) rfl
set_option maxRecDepth 100000 in
theorem g174_1173 : z_go zP 174 1173 [l0, l1, l2, l3, l4, some (zi a), l6, l7] S q Q ↔ z_go zP 174 1175 [l0, l1, l2, l3, l4, some (zi a), l6, l7] (zi a :: S) q Q := ge_x (len := 2) (x := (0, 0, [])) p_174 rfl rfl
set_option maxRecDepth 100000 in
theorem g174_1175 (a1 : -2147483648 ≤ a) (a2 : a < 2147483648) (b1 : -2147483648 ≤ b) (b2 : b < 2147483648) : z_go zP 174 1175 L (zi b :: zi a :: S) q Q ↔ if a = b then z_go zP 174 1180 L S q Q else z_go zP 174 1178 L S q Q := ge_ic_eq (len := 3) (x := (0, 0, [])) a1 a2 b1 b2 p_174 rfl rfl
set_option maxRecDepth 100000 in
theorem g174_1178 : z_go zP 174 1178 L S q Q ↔ z_go zP 174 1179 L (zi 0 :: S) q Q := ge_x (len := 1) (x := (0, 0, [])) p_174 rfl rfl
set_option maxRecDepth 100000 in
theorem g174_1179_0 : z_go zP 174 1179 L [zi 0] q Q ↔ Q (.inl (some (zi 0))) q := z_go_rt (len := 1) (x := (0, 0, [])) p_174 rfl rfl rfl
set_option maxRecDepth 100000 in
theorem g174_1179_1 : z_go zP 174 1179 L [zi 1] q Q ↔ Q (.inl (some (zi 1))) q := z_go_rt (len := 1) (x := (0, 0, [])) p_174 rfl rfl rfl
set_option maxRecDepth 100000 in
theorem g174_1179b {c : Prop} [Decidable c] : z_go zP 174 1179 L [zi (bI c)] q Q ↔ Q (.inl (some (zi (bI c)))) q := (by rcases bI_01 (c := c) with h | h <;> rw [h] <;> exact z_go_rt (len := 1) (x := (0, 0, [])) p_174 rfl rfl rfl)
set_option maxRecDepth 100000 in
theorem g174_1180 : z_go zP 174 1180 [l0, l1, l2, l3, l4, some (zi a), l6, l7] S q Q ↔ z_go zP 174 1182 [l0, l1, l2, l3, l4, some (zi a), l6, l7] (zi a :: S) q Q := ge_x (len := 2) (x := (0, 0, [])) p_174 rfl rfl
set_option maxRecDepth 100000 in
theorem g174_1182 (a1 : -2147483648 ≤ a) (a2 : a < 2147483648) : z_go zP 174 1182 L (zi a :: S) q Q ↔ if ¬ a = 0 then z_go zP 174 1197 L S q Q else z_go zP 174 1185 L S q Q := ge_if_ne (len := 3) (x := (0, 0, [])) a1 a2 p_174 rfl rfl
set_option maxRecDepth 100000 in
theorem g174_1182b {c : Prop} [Decidable c] : z_go zP 174 1182 L (zi (bI c) :: S) q Q ↔ if c then z_go zP 174 1197 L S q Q else z_go zP 174 1185 L S q Q := ge_if_ne_b (len := 3) (x := (0, 0, [])) p_174 rfl rfl
set_option maxRecDepth 100000 in
theorem g174_1185 : z_go zP 174 1185 [l0, l1, l2, some (.ref u), l4, l5, l6, l7] S q Q ↔ z_go zP 174 1186 [l0, l1, l2, some (.ref u), l4, l5, l6, l7] (.ref u :: S) q Q := ge_x (len := 1) (x := (0, 0, [])) p_174 rfl rfl
set_option maxRecDepth 100000 in
theorem g174_1186 : z_go zP 174 1186 L S q Q ↔ z_go zP 174 1187 L (zi 0 :: S) q Q := ge_x (len := 1) (x := (0, 0, [])) p_174 rfl rfl
set_option maxRecDepth 100000 in
theorem g174_1187 : z_go zP 174 1187 L (zi a :: .ref u :: S) q Q ↔ ∃ v, z_at [101] q.1 u (Int32.ofInt a) = some v ∧ z_go zP 174 1188 L (v :: S) q Q := ge_lald (len := 1) (x := (0, 0, [])) p_174 rfl
set_option maxRecDepth 100000 in
theorem g174_1188 : z_go zP 174 1188 [l0, l1, l2, l3, l4, l5, some (zi a), l7] S q Q ↔ z_go zP 174 1190 [l0, l1, l2, l3, l4, l5, some (zi a), l7] (zi a :: S) q Q := ge_x (len := 2) (x := (0, 0, [])) p_174 rfl rfl
set_option maxRecDepth 100000 in
theorem g174_1190 (a1 : -2147483648 ≤ a) (a2 : a < 2147483648) : z_go zP 174 1190 L (zi a :: S) q Q ↔ z_go zP 174 1191 L (zl a :: S) q Q := ge_i2l (len := 1) (x := (0, 0, [])) a1 a2 p_174 rfl
set_option maxRecDepth 100000 in
theorem g174_1191 (a1 : -9223372036854775808 ≤ a) (a2 : a < 9223372036854775808) (b1 : -9223372036854775808 ≤ b) (b2 : b < 9223372036854775808) : z_go zP 174 1191 L (zl b :: zl a :: S) q Q ↔ if a = b then z_go zP 174 1197 L S q Q else z_go zP 174 1195 L S q Q := ge_lc_eq (len := 1) (x := (0, 0, [])) (p2 := 1192) (l2 := 3) a1 a2 b1 b2 p_174 rfl rfl rfl rfl
set_option maxRecDepth 100000 in
theorem g174_1195 : z_go zP 174 1195 L S q Q ↔ z_go zP 174 1196 L (zi 0 :: S) q Q := ge_x (len := 1) (x := (0, 0, [])) p_174 rfl rfl
set_option maxRecDepth 100000 in
theorem g174_1196_0 : z_go zP 174 1196 L [zi 0] q Q ↔ Q (.inl (some (zi 0))) q := z_go_rt (len := 1) (x := (0, 0, [])) p_174 rfl rfl rfl
set_option maxRecDepth 100000 in
theorem g174_1196_1 : z_go zP 174 1196 L [zi 1] q Q ↔ Q (.inl (some (zi 1))) q := z_go_rt (len := 1) (x := (0, 0, [])) p_174 rfl rfl rfl
set_option maxRecDepth 100000 in
theorem g174_1196b {c : Prop} [Decidable c] : z_go zP 174 1196 L [zi (bI c)] q Q ↔ Q (.inl (some (zi (bI c)))) q := (by rcases bI_01 (c := c) with h | h <;> rw [h] <;> exact z_go_rt (len := 1) (x := (0, 0, [])) p_174 rfl rfl rfl)
set_option maxRecDepth 100000 in
theorem g174_1197 : z_go zP 174 1197 L S q Q ↔ z_go zP 174 1398 L S q Q := ge_to (len := 3) (x := (0, 0, [])) p_174 rfl rfl rfl
set_option maxRecDepth 100000 in
theorem g174_1200 : z_go zP 174 1200 [l0, some (.ref u), l2, l3, l4, l5, l6, l7] S q Q ↔ z_go zP 174 1201 [l0, some (.ref u), l2, l3, l4, l5, l6, l7] (.ref u :: S) q Q := ge_x (len := 1) (x := (0, 0, [])) p_174 rfl rfl
set_option maxRecDepth 100000 in
theorem g174_1201 : z_go zP 174 1201 [some (.ref u), l1, l2, l3, l4, l5, l6, l7] S q Q ↔ z_go zP 174 1202 [some (.ref u), l1, l2, l3, l4, l5, l6, l7] (.ref u :: S) q Q := ge_x (len := 1) (x := (0, 0, [])) p_174 rfl rfl
set_option maxRecDepth 100000 in
theorem g174_1202 : z_go zP 174 1202 [l0, l1, l2, l3, some (zi a), l5, l6, l7] S q Q ↔ z_go zP 174 1204 [l0, l1, l2, l3, some (zi a), l5, l6, l7] (zi a :: S) q Q := ge_x (len := 2) (x := (0, 0, [])) p_174 rfl rfl
set_option maxRecDepth 100000 in
theorem g174_1204 : z_go zP 174 1204 L S q Q ↔ z_go zP 174 1205 L (zi 1 :: S) q Q := ge_x (len := 1) (x := (0, 0, [])) p_174 rfl rfl
set_option maxRecDepth 100000 in
theorem g174_1205 : z_go zP 174 1205 L (zi b :: zi a :: S) q Q ↔ z_go zP 174 1206 L (zi (a + b) :: S) q Q := ge_iadd (len := 1) (x := (0, 0, [])) p_174 rfl
set_option maxRecDepth 100000 in
theorem g174_1206 : z_go zP 174 1206 L (zi a :: .ref u :: S) q Q ↔ ∃ v, z_at [99, 100] q.1 u (Int32.ofInt a) = some v ∧ z_go zP 174 1207 L (v :: S) q Q := ge_iald (len := 1) (x := (0, 0, [])) p_174 rfl
set_option maxRecDepth 100000 in
theorem g174_1207 : z_go zP 174 1207 [some (.ref u), l1, l2, l3, l4, l5, l6, l7] S q Q ↔ z_go zP 174 1208 [some (.ref u), l1, l2, l3, l4, l5, l6, l7] (.ref u :: S) q Q := ge_x (len := 1) (x := (0, 0, [])) p_174 rfl rfl
set_option maxRecDepth 100000 in
theorem g174_1208 : z_go zP 174 1208 [l0, l1, l2, l3, some (zi a), l5, l6, l7] S q Q ↔ z_go zP 174 1210 [l0, l1, l2, l3, some (zi a), l5, l6, l7] (zi a :: S) q Q := ge_x (len := 2) (x := (0, 0, [])) p_174 rfl rfl
set_option maxRecDepth 100000 in
theorem g174_1210 : z_go zP 174 1210 L S q Q ↔ z_go zP 174 1211 L (zi 2 :: S) q Q := ge_x (len := 1) (x := (0, 0, [])) p_174 rfl rfl
set_option maxRecDepth 100000 in
theorem g174_1211 : z_go zP 174 1211 L (zi b :: zi a :: S) q Q ↔ z_go zP 174 1212 L (zi (a + b) :: S) q Q := ge_iadd (len := 1) (x := (0, 0, [])) p_174 rfl
set_option maxRecDepth 100000 in
theorem g174_1212 : z_go zP 174 1212 L (zi a :: .ref u :: S) q Q ↔ ∃ v, z_at [99, 100] q.1 u (Int32.ofInt a) = some v ∧ z_go zP 174 1213 L (v :: S) q Q := ge_iald (len := 1) (x := (0, 0, [])) p_174 rfl
set_option maxRecDepth 100000 in
theorem g174_1213 : z_go zP 174 1213 [some (.ref u), l1, l2, l3, l4, l5, l6, l7] S q Q ↔ z_go zP 174 1214 [some (.ref u), l1, l2, l3, l4, l5, l6, l7] (.ref u :: S) q Q := ge_x (len := 1) (x := (0, 0, [])) p_174 rfl rfl
set_option maxRecDepth 100000 in
theorem g174_1214 : z_go zP 174 1214 [l0, l1, l2, l3, some (zi a), l5, l6, l7] S q Q ↔ z_go zP 174 1216 [l0, l1, l2, l3, some (zi a), l5, l6, l7] (zi a :: S) q Q := ge_x (len := 2) (x := (0, 0, [])) p_174 rfl rfl
set_option maxRecDepth 100000 in
theorem g174_1216 : z_go zP 174 1216 L S q Q ↔ z_go zP 174 1217 L (zi 3 :: S) q Q := ge_x (len := 1) (x := (0, 0, [])) p_174 rfl rfl
set_option maxRecDepth 100000 in
theorem g174_1217 : z_go zP 174 1217 L (zi b :: zi a :: S) q Q ↔ z_go zP 174 1218 L (zi (a + b) :: S) q Q := ge_iadd (len := 1) (x := (0, 0, [])) p_174 rfl
set_option maxRecDepth 100000 in
theorem g174_1218 : z_go zP 174 1218 L (zi a :: .ref u :: S) q Q ↔ ∃ v, z_at [99, 100] q.1 u (Int32.ofInt a) = some v ∧ z_go zP 174 1219 L (v :: S) q Q := ge_iald (len := 1) (x := (0, 0, [])) p_174 rfl
set_option maxRecDepth 100000 in
theorem g174_1219 : z_go zP 174 1219 [l0, l1, l2, some (.ref u), l4, l5, l6, l7] S q Q ↔ z_go zP 174 1220 [l0, l1, l2, some (.ref u), l4, l5, l6, l7] (.ref u :: S) q Q := ge_x (len := 1) (x := (0, 0, [])) p_174 rfl rfl
set_option maxRecDepth 100000 in
theorem g174_1220 : z_go zP 174 1220 L [.ref w4, zi x3, zi x2, zi x1, .ref w0] q Q ↔ z_go zP 172 0 [some (.ref w0), some (zi x1), some (zi x2), some (zi x3), some (.ref w4), none] [] q (zd 174 1223 L [] Q) := (z_go_cl (len := 3) (x := (172, 6, [5])) (k1 := 172) (A := [.ref w0, zi x1, zi x2, zi x3, .ref w4]) (r := []) p_174 rfl rfl rfl rfl (by simp only [z_cl, List.drop]; rw [if_pos]; rfl; exact by first | exact ⟨by decide, (zwb_le (by show 0 ≤ 4; omega))⟩ | exact ⟨by decide, by show 5 ≤ 5; omega, (zwb_le (by show 0 ≤ 4; omega))⟩) p_172 (by show 5 ≤ 6; omega)).trans (ge_bk_d rfl)
set_option maxRecDepth 100000 in
theorem g174_1223 : z_go zP 174 1223 [l0, l1, l2, l3, l4, l5, l6, l7] (zi a :: S) q Q ↔ z_go zP 174 1225 [l0, l1, l2, l3, (zkl l4), some (zi a), l6, l7] S q Q := (by cases l4 with | none => exact ge_x (len := 2) (x := (0, 0, [])) p_174 rfl rfl | some v => cases v <;> exact ge_x (len := 2) (x := (0, 0, [])) p_174 rfl rfl)
set_option maxRecDepth 100000 in
theorem g174_1225 : z_go zP 174 1225 [l0, l1, some (.ref u), l3, l4, l5, l6, l7] S q Q ↔ z_go zP 174 1226 [l0, l1, some (.ref u), l3, l4, l5, l6, l7] (.ref u :: S) q Q := ge_x (len := 1) (x := (0, 0, [])) p_174 rfl rfl
set_option maxRecDepth 100000 in
theorem g174_1226 : z_go zP 174 1226 [some (.ref u), l1, l2, l3, l4, l5, l6, l7] S q Q ↔ z_go zP 174 1227 [some (.ref u), l1, l2, l3, l4, l5, l6, l7] (.ref u :: S) q Q := ge_x (len := 1) (x := (0, 0, [])) p_174 rfl rfl
set_option maxRecDepth 100000 in
theorem g174_1227 : z_go zP 174 1227 [l0, l1, l2, l3, some (zi a), l5, l6, l7] S q Q ↔ z_go zP 174 1229 [l0, l1, l2, l3, some (zi a), l5, l6, l7] (zi a :: S) q Q := ge_x (len := 2) (x := (0, 0, [])) p_174 rfl rfl
set_option maxRecDepth 100000 in
theorem g174_1229 : z_go zP 174 1229 L S q Q ↔ z_go zP 174 1230 L (zi 1 :: S) q Q := ge_x (len := 1) (x := (0, 0, [])) p_174 rfl rfl
set_option maxRecDepth 100000 in
theorem g174_1230 : z_go zP 174 1230 L (zi b :: zi a :: S) q Q ↔ z_go zP 174 1231 L (zi (a + b) :: S) q Q := ge_iadd (len := 1) (x := (0, 0, [])) p_174 rfl
set_option maxRecDepth 100000 in
theorem g174_1231 : z_go zP 174 1231 L (zi a :: .ref u :: S) q Q ↔ ∃ v, z_at [99, 100] q.1 u (Int32.ofInt a) = some v ∧ z_go zP 174 1232 L (v :: S) q Q := ge_iald (len := 1) (x := (0, 0, [])) p_174 rfl
set_option maxRecDepth 100000 in
theorem g174_1232 : z_go zP 174 1232 [some (.ref u), l1, l2, l3, l4, l5, l6, l7] S q Q ↔ z_go zP 174 1233 [some (.ref u), l1, l2, l3, l4, l5, l6, l7] (.ref u :: S) q Q := ge_x (len := 1) (x := (0, 0, [])) p_174 rfl rfl
set_option maxRecDepth 100000 in
theorem g174_1233 : z_go zP 174 1233 [l0, l1, l2, l3, some (zi a), l5, l6, l7] S q Q ↔ z_go zP 174 1235 [l0, l1, l2, l3, some (zi a), l5, l6, l7] (zi a :: S) q Q := ge_x (len := 2) (x := (0, 0, [])) p_174 rfl rfl
set_option maxRecDepth 100000 in
theorem g174_1235 : z_go zP 174 1235 L S q Q ↔ z_go zP 174 1236 L (zi 2 :: S) q Q := ge_x (len := 1) (x := (0, 0, [])) p_174 rfl rfl
set_option maxRecDepth 100000 in
theorem g174_1236 : z_go zP 174 1236 L (zi b :: zi a :: S) q Q ↔ z_go zP 174 1237 L (zi (a + b) :: S) q Q := ge_iadd (len := 1) (x := (0, 0, [])) p_174 rfl
set_option maxRecDepth 100000 in
theorem g174_1237 : z_go zP 174 1237 L (zi a :: .ref u :: S) q Q ↔ ∃ v, z_at [99, 100] q.1 u (Int32.ofInt a) = some v ∧ z_go zP 174 1238 L (v :: S) q Q := ge_iald (len := 1) (x := (0, 0, [])) p_174 rfl
set_option maxRecDepth 100000 in
theorem g174_1238 : z_go zP 174 1238 [some (.ref u), l1, l2, l3, l4, l5, l6, l7] S q Q ↔ z_go zP 174 1239 [some (.ref u), l1, l2, l3, l4, l5, l6, l7] (.ref u :: S) q Q := ge_x (len := 1) (x := (0, 0, [])) p_174 rfl rfl
set_option maxRecDepth 100000 in
theorem g174_1239 : z_go zP 174 1239 [l0, l1, l2, l3, some (zi a), l5, l6, l7] S q Q ↔ z_go zP 174 1241 [l0, l1, l2, l3, some (zi a), l5, l6, l7] (zi a :: S) q Q := ge_x (len := 2) (x := (0, 0, [])) p_174 rfl rfl
set_option maxRecDepth 100000 in
theorem g174_1241 : z_go zP 174 1241 L S q Q ↔ z_go zP 174 1242 L (zi 3 :: S) q Q := ge_x (len := 1) (x := (0, 0, [])) p_174 rfl rfl
set_option maxRecDepth 100000 in
theorem g174_1242 : z_go zP 174 1242 L (zi b :: zi a :: S) q Q ↔ z_go zP 174 1243 L (zi (a + b) :: S) q Q := ge_iadd (len := 1) (x := (0, 0, [])) p_174 rfl
set_option maxRecDepth 100000 in
theorem g174_1243 : z_go zP 174 1243 L (zi a :: .ref u :: S) q Q ↔ ∃ v, z_at [99, 100] q.1 u (Int32.ofInt a) = some v ∧ z_go zP 174 1244 L (v :: S) q Q := ge_iald (len := 1) (x := (0, 0, [])) p_174 rfl
set_option maxRecDepth 100000 in
theorem g174_1244 : z_go zP 174 1244 L [zi x2, zi x1, zi x0, .ref u] q Q ↔ z_tg q.1 u = some 9 ∧ z_go zP 149 0 [some (.ref u), some (zi x0), some (zi x1), some (zi x2)] [] q (zc 174 1247 L [] Q) := ge_vc (len := 3) (pc := 1244) (S := [zi x2, zi x1, zi x0, .ref u]) (u := u) (k1 := 149) (A := [.ref u, zi x0, zi x1, zi x2]) (r := []) (tag := 9) (n0 := 3) (zwb_le (by show 0 ≤ 4; omega)) p_174 rfl rfl rfl p_149 (by show 4 ≤ 4; omega) rfl
set_option maxRecDepth 100000 in
theorem g174_1247 : z_go zP 174 1247 [l0, l1, l2, l3, l4, l5, l6, l7] (zl a :: S) q Q ↔ z_go zP 174 1249 [l0, l1, l2, l3, l4, (zkl l5), some (zl a), none] S q Q := (by cases l5 with | none => exact ge_x (len := 2) (x := (0, 0, [])) p_174 rfl rfl | some v => cases v <;> exact ge_x (len := 2) (x := (0, 0, [])) p_174 rfl rfl)
set_option maxRecDepth 100000 in
theorem g174_1249 : z_go zP 174 1249 [l0, l1, some (.ref u), l3, l4, l5, l6, l7] S q Q ↔ z_go zP 174 1250 [l0, l1, some (.ref u), l3, l4, l5, l6, l7] (.ref u :: S) q Q := ge_x (len := 1) (x := (0, 0, [])) p_174 rfl rfl
set_option maxRecDepth 100000 in
theorem g174_1250 : z_go zP 174 1250 L [.ref u] q Q ↔ z_tg q.1 u = some 9 ∧ z_go zP 95 0 [some (.ref u)] [] q (zc 174 1253 L [] Q) := ge_vc (len := 3) (pc := 1250) (S := [.ref u]) (u := u) (k1 := 95) (A := [.ref u]) (r := []) (tag := 9) (n0 := 0) (zwb_le (by show 0 ≤ 4; omega)) p_174 rfl rfl rfl p_95 (by show 1 ≤ 1; omega) rfl
set_option maxRecDepth 100000 in
theorem g174_1253 : z_go zP 174 1253 [l0, l1, l2, l3, l4, some (zi a), l6, l7] S q Q ↔ z_go zP 174 1255 [l0, l1, l2, l3, l4, some (zi a), l6, l7] (zi a :: S) q Q := ge_x (len := 2) (x := (0, 0, [])) p_174 rfl rfl
set_option maxRecDepth 100000 in
theorem g174_1255 (a1 : -2147483648 ≤ a) (a2 : a < 2147483648) (b1 : -2147483648 ≤ b) (b2 : b < 2147483648) : z_go zP 174 1255 L (zi b :: zi a :: S) q Q ↔ if a = b then z_go zP 174 1260 L S q Q else z_go zP 174 1258 L S q Q := ge_ic_eq (len := 3) (x := (0, 0, [])) a1 a2 b1 b2 p_174 rfl rfl
set_option maxRecDepth 100000 in
theorem g174_1258 : z_go zP 174 1258 L S q Q ↔ z_go zP 174 1259 L (zi 0 :: S) q Q := ge_x (len := 1) (x := (0, 0, [])) p_174 rfl rfl
set_option maxRecDepth 100000 in
theorem g174_1259_0 : z_go zP 174 1259 L [zi 0] q Q ↔ Q (.inl (some (zi 0))) q := z_go_rt (len := 1) (x := (0, 0, [])) p_174 rfl rfl rfl
set_option maxRecDepth 100000 in
theorem g174_1259_1 : z_go zP 174 1259 L [zi 1] q Q ↔ Q (.inl (some (zi 1))) q := z_go_rt (len := 1) (x := (0, 0, [])) p_174 rfl rfl rfl
set_option maxRecDepth 100000 in
theorem g174_1259b {c : Prop} [Decidable c] : z_go zP 174 1259 L [zi (bI c)] q Q ↔ Q (.inl (some (zi (bI c)))) q := (by rcases bI_01 (c := c) with h | h <;> rw [h] <;> exact z_go_rt (len := 1) (x := (0, 0, [])) p_174 rfl rfl rfl)
set_option maxRecDepth 100000 in
theorem g174_1260 : z_go zP 174 1260 [l0, l1, l2, l3, l4, some (zi a), l6, l7] S q Q ↔ z_go zP 174 1262 [l0, l1, l2, l3, l4, some (zi a), l6, l7] (zi a :: S) q Q := ge_x (len := 2) (x := (0, 0, [])) p_174 rfl rfl
set_option maxRecDepth 100000 in
theorem g174_1262 (a1 : -2147483648 ≤ a) (a2 : a < 2147483648) : z_go zP 174 1262 L (zi a :: S) q Q ↔ if ¬ a = 0 then z_go zP 174 1276 L S q Q else z_go zP 174 1265 L S q Q := ge_if_ne (len := 3) (x := (0, 0, [])) a1 a2 p_174 rfl rfl
set_option maxRecDepth 100000 in
theorem g174_1262b {c : Prop} [Decidable c] : z_go zP 174 1262 L (zi (bI c) :: S) q Q ↔ if c then z_go zP 174 1276 L S q Q else z_go zP 174 1265 L S q Q := ge_if_ne_b (len := 3) (x := (0, 0, [])) p_174 rfl rfl
set_option maxRecDepth 100000 in
theorem g174_1265 : z_go zP 174 1265 [l0, l1, l2, some (.ref u), l4, l5, l6, l7] S q Q ↔ z_go zP 174 1266 [l0, l1, l2, some (.ref u), l4, l5, l6, l7] (.ref u :: S) q Q := ge_x (len := 1) (x := (0, 0, [])) p_174 rfl rfl
set_option maxRecDepth 100000 in
theorem g174_1266 : z_go zP 174 1266 L S q Q ↔ z_go zP 174 1267 L (zi 0 :: S) q Q := ge_x (len := 1) (x := (0, 0, [])) p_174 rfl rfl
set_option maxRecDepth 100000 in
theorem g174_1267 : z_go zP 174 1267 L (zi a :: .ref u :: S) q Q ↔ ∃ v, z_at [101] q.1 u (Int32.ofInt a) = some v ∧ z_go zP 174 1268 L (v :: S) q Q := ge_lald (len := 1) (x := (0, 0, [])) p_174 rfl
set_option maxRecDepth 100000 in
theorem g174_1268 : z_go zP 174 1268 [l0, l1, l2, l3, l4, l5, some (zl a), l7] S q Q ↔ z_go zP 174 1270 [l0, l1, l2, l3, l4, l5, some (zl a), l7] (zl a :: S) q Q := ge_x (len := 2) (x := (0, 0, [])) p_174 rfl rfl
set_option maxRecDepth 100000 in
theorem g174_1270 (a1 : -9223372036854775808 ≤ a) (a2 : a < 9223372036854775808) (b1 : -9223372036854775808 ≤ b) (b2 : b < 9223372036854775808) : z_go zP 174 1270 L (zl b :: zl a :: S) q Q ↔ if a = b then z_go zP 174 1276 L S q Q else z_go zP 174 1274 L S q Q := ge_lc_eq (len := 1) (x := (0, 0, [])) (p2 := 1271) (l2 := 3) a1 a2 b1 b2 p_174 rfl rfl rfl rfl
set_option maxRecDepth 100000 in
theorem g174_1274 : z_go zP 174 1274 L S q Q ↔ z_go zP 174 1275 L (zi 0 :: S) q Q := ge_x (len := 1) (x := (0, 0, [])) p_174 rfl rfl
set_option maxRecDepth 100000 in
theorem g174_1275_0 : z_go zP 174 1275 L [zi 0] q Q ↔ Q (.inl (some (zi 0))) q := z_go_rt (len := 1) (x := (0, 0, [])) p_174 rfl rfl rfl
set_option maxRecDepth 100000 in
theorem g174_1275_1 : z_go zP 174 1275 L [zi 1] q Q ↔ Q (.inl (some (zi 1))) q := z_go_rt (len := 1) (x := (0, 0, [])) p_174 rfl rfl rfl
set_option maxRecDepth 100000 in
theorem g174_1275b {c : Prop} [Decidable c] : z_go zP 174 1275 L [zi (bI c)] q Q ↔ Q (.inl (some (zi (bI c)))) q := (by rcases bI_01 (c := c) with h | h <;> rw [h] <;> exact z_go_rt (len := 1) (x := (0, 0, [])) p_174 rfl rfl rfl)
set_option maxRecDepth 100000 in
theorem g174_1276 : z_go zP 174 1276 L S q Q ↔ z_go zP 174 1398 L S q Q := ge_to (len := 3) (x := (0, 0, [])) p_174 rfl rfl rfl
set_option maxRecDepth 100000 in
theorem g174_1279 : z_go zP 174 1279 [l0, some (.ref u), l2, l3, l4, l5, l6, l7] S q Q ↔ z_go zP 174 1280 [l0, some (.ref u), l2, l3, l4, l5, l6, l7] (.ref u :: S) q Q := ge_x (len := 1) (x := (0, 0, [])) p_174 rfl rfl
set_option maxRecDepth 100000 in
theorem g174_1280 : z_go zP 174 1280 [some (.ref u), l1, l2, l3, l4, l5, l6, l7] S q Q ↔ z_go zP 174 1281 [some (.ref u), l1, l2, l3, l4, l5, l6, l7] (.ref u :: S) q Q := ge_x (len := 1) (x := (0, 0, [])) p_174 rfl rfl
set_option maxRecDepth 100000 in
theorem g174_1281 : z_go zP 174 1281 [l0, l1, l2, l3, some (zi a), l5, l6, l7] S q Q ↔ z_go zP 174 1283 [l0, l1, l2, l3, some (zi a), l5, l6, l7] (zi a :: S) q Q := ge_x (len := 2) (x := (0, 0, [])) p_174 rfl rfl
set_option maxRecDepth 100000 in
theorem g174_1283 : z_go zP 174 1283 L S q Q ↔ z_go zP 174 1284 L (zi 1 :: S) q Q := ge_x (len := 1) (x := (0, 0, [])) p_174 rfl rfl
set_option maxRecDepth 100000 in
theorem g174_1284 : z_go zP 174 1284 L (zi b :: zi a :: S) q Q ↔ z_go zP 174 1285 L (zi (a + b) :: S) q Q := ge_iadd (len := 1) (x := (0, 0, [])) p_174 rfl
set_option maxRecDepth 100000 in
theorem g174_1285 : z_go zP 174 1285 L (zi a :: .ref u :: S) q Q ↔ ∃ v, z_at [99, 100] q.1 u (Int32.ofInt a) = some v ∧ z_go zP 174 1286 L (v :: S) q Q := ge_iald (len := 1) (x := (0, 0, [])) p_174 rfl
set_option maxRecDepth 100000 in
theorem g174_1286 : z_go zP 174 1286 [l0, l1, l2, some (.ref u), l4, l5, l6, l7] S q Q ↔ z_go zP 174 1287 [l0, l1, l2, some (.ref u), l4, l5, l6, l7] (.ref u :: S) q Q := ge_x (len := 1) (x := (0, 0, [])) p_174 rfl rfl
set_option maxRecDepth 100000 in
theorem g174_1287 : z_go zP 174 1287 L [.ref w2, zi x1, .ref w0] q Q ↔ z_go zP 173 0 [some (.ref w0), some (zi x1), some (.ref w2), none] [] q (zd 174 1290 L [] Q) := (z_go_cl (len := 3) (x := (173, 6, [3])) (k1 := 173) (A := [.ref w0, zi x1, .ref w2]) (r := []) p_174 rfl rfl rfl rfl (by simp only [z_cl, List.drop]; rw [if_pos]; rfl; exact by first | exact ⟨by decide, (zwb_le (by show 0 ≤ 4; omega))⟩ | exact ⟨by decide, by show 3 ≤ 3; omega, (zwb_le (by show 0 ≤ 4; omega))⟩) p_173 (by show 3 ≤ 4; omega)).trans (ge_bk_d rfl)
set_option maxRecDepth 100000 in
theorem g174_1290 : z_go zP 174 1290 [l0, l1, l2, l3, l4, l5, l6, l7] (zi a :: S) q Q ↔ z_go zP 174 1292 [l0, l1, l2, l3, (zkl l4), some (zi a), l6, l7] S q Q := (by cases l4 with | none => exact ge_x (len := 2) (x := (0, 0, [])) p_174 rfl rfl | some v => cases v <;> exact ge_x (len := 2) (x := (0, 0, [])) p_174 rfl rfl)
set_option maxRecDepth 100000 in
theorem g174_1292 : z_go zP 174 1292 [l0, l1, some (.ref u), l3, l4, l5, l6, l7] S q Q ↔ z_go zP 174 1293 [l0, l1, some (.ref u), l3, l4, l5, l6, l7] (.ref u :: S) q Q := ge_x (len := 1) (x := (0, 0, [])) p_174 rfl rfl
set_option maxRecDepth 100000 in
theorem g174_1293 : z_go zP 174 1293 [some (.ref u), l1, l2, l3, l4, l5, l6, l7] S q Q ↔ z_go zP 174 1294 [some (.ref u), l1, l2, l3, l4, l5, l6, l7] (.ref u :: S) q Q := ge_x (len := 1) (x := (0, 0, [])) p_174 rfl rfl
set_option maxRecDepth 100000 in
theorem g174_1294 : z_go zP 174 1294 [l0, l1, l2, l3, some (zi a), l5, l6, l7] S q Q ↔ z_go zP 174 1296 [l0, l1, l2, l3, some (zi a), l5, l6, l7] (zi a :: S) q Q := ge_x (len := 2) (x := (0, 0, [])) p_174 rfl rfl
set_option maxRecDepth 100000 in
theorem g174_1296 : z_go zP 174 1296 L S q Q ↔ z_go zP 174 1297 L (zi 1 :: S) q Q := ge_x (len := 1) (x := (0, 0, [])) p_174 rfl rfl
set_option maxRecDepth 100000 in
theorem g174_1297 : z_go zP 174 1297 L (zi b :: zi a :: S) q Q ↔ z_go zP 174 1298 L (zi (a + b) :: S) q Q := ge_iadd (len := 1) (x := (0, 0, [])) p_174 rfl
set_option maxRecDepth 100000 in
theorem g174_1298 : z_go zP 174 1298 L (zi a :: .ref u :: S) q Q ↔ ∃ v, z_at [99, 100] q.1 u (Int32.ofInt a) = some v ∧ z_go zP 174 1299 L (v :: S) q Q := ge_iald (len := 1) (x := (0, 0, [])) p_174 rfl
set_option maxRecDepth 100000 in
theorem g174_1299 : z_go zP 174 1299 L [zi x0, .ref u] q Q ↔ z_tg q.1 u = some 9 ∧ z_go zP 150 0 [some (.ref u), some (zi x0)] [] q (zc 174 1302 L [] Q) := ge_vc (len := 3) (pc := 1299) (S := [zi x0, .ref u]) (u := u) (k1 := 150) (A := [.ref u, zi x0]) (r := []) (tag := 9) (n0 := 1) (zwb_le (by show 0 ≤ 4; omega)) p_174 rfl rfl rfl p_150 (by show 2 ≤ 2; omega) rfl
set_option maxRecDepth 100000 in
theorem g174_1302 : z_go zP 174 1302 [l0, l1, l2, l3, l4, l5, l6, l7] (zi a :: S) q Q ↔ z_go zP 174 1304 [l0, l1, l2, l3, l4, (zkl l5), some (zi a), l7] S q Q := (by cases l5 with | none => exact ge_x (len := 2) (x := (0, 0, [])) p_174 rfl rfl | some v => cases v <;> exact ge_x (len := 2) (x := (0, 0, [])) p_174 rfl rfl)
set_option maxRecDepth 100000 in
theorem g174_1304 : z_go zP 174 1304 [l0, l1, some (.ref u), l3, l4, l5, l6, l7] S q Q ↔ z_go zP 174 1305 [l0, l1, some (.ref u), l3, l4, l5, l6, l7] (.ref u :: S) q Q := ge_x (len := 1) (x := (0, 0, [])) p_174 rfl rfl
set_option maxRecDepth 100000 in
theorem g174_1305 : z_go zP 174 1305 L [.ref u] q Q ↔ z_tg q.1 u = some 9 ∧ z_go zP 95 0 [some (.ref u)] [] q (zc 174 1308 L [] Q) := ge_vc (len := 3) (pc := 1305) (S := [.ref u]) (u := u) (k1 := 95) (A := [.ref u]) (r := []) (tag := 9) (n0 := 0) (zwb_le (by show 0 ≤ 4; omega)) p_174 rfl rfl rfl p_95 (by show 1 ≤ 1; omega) rfl
set_option maxRecDepth 100000 in
theorem g174_1308 : z_go zP 174 1308 [l0, l1, l2, l3, l4, some (zi a), l6, l7] S q Q ↔ z_go zP 174 1310 [l0, l1, l2, l3, l4, some (zi a), l6, l7] (zi a :: S) q Q := ge_x (len := 2) (x := (0, 0, [])) p_174 rfl rfl
set_option maxRecDepth 100000 in
theorem g174_1310 (a1 : -2147483648 ≤ a) (a2 : a < 2147483648) (b1 : -2147483648 ≤ b) (b2 : b < 2147483648) : z_go zP 174 1310 L (zi b :: zi a :: S) q Q ↔ if a = b then z_go zP 174 1315 L S q Q else z_go zP 174 1313 L S q Q := ge_ic_eq (len := 3) (x := (0, 0, [])) a1 a2 b1 b2 p_174 rfl rfl
set_option maxRecDepth 100000 in
theorem g174_1313 : z_go zP 174 1313 L S q Q ↔ z_go zP 174 1314 L (zi 0 :: S) q Q := ge_x (len := 1) (x := (0, 0, [])) p_174 rfl rfl
set_option maxRecDepth 100000 in
theorem g174_1314_0 : z_go zP 174 1314 L [zi 0] q Q ↔ Q (.inl (some (zi 0))) q := z_go_rt (len := 1) (x := (0, 0, [])) p_174 rfl rfl rfl
set_option maxRecDepth 100000 in
theorem g174_1314_1 : z_go zP 174 1314 L [zi 1] q Q ↔ Q (.inl (some (zi 1))) q := z_go_rt (len := 1) (x := (0, 0, [])) p_174 rfl rfl rfl
set_option maxRecDepth 100000 in
theorem g174_1314b {c : Prop} [Decidable c] : z_go zP 174 1314 L [zi (bI c)] q Q ↔ Q (.inl (some (zi (bI c)))) q := (by rcases bI_01 (c := c) with h | h <;> rw [h] <;> exact z_go_rt (len := 1) (x := (0, 0, [])) p_174 rfl rfl rfl)
set_option maxRecDepth 100000 in
theorem g174_1315 : z_go zP 174 1315 [l0, l1, l2, l3, l4, some (zi a), l6, l7] S q Q ↔ z_go zP 174 1317 [l0, l1, l2, l3, l4, some (zi a), l6, l7] (zi a :: S) q Q := ge_x (len := 2) (x := (0, 0, [])) p_174 rfl rfl
set_option maxRecDepth 100000 in
theorem g174_1317 (a1 : -2147483648 ≤ a) (a2 : a < 2147483648) : z_go zP 174 1317 L (zi a :: S) q Q ↔ if ¬ a = 0 then z_go zP 174 1332 L S q Q else z_go zP 174 1320 L S q Q := ge_if_ne (len := 3) (x := (0, 0, [])) a1 a2 p_174 rfl rfl
set_option maxRecDepth 100000 in
theorem g174_1317b {c : Prop} [Decidable c] : z_go zP 174 1317 L (zi (bI c) :: S) q Q ↔ if c then z_go zP 174 1332 L S q Q else z_go zP 174 1320 L S q Q := ge_if_ne_b (len := 3) (x := (0, 0, [])) p_174 rfl rfl
set_option maxRecDepth 100000 in
theorem g174_1320 : z_go zP 174 1320 [l0, l1, l2, some (.ref u), l4, l5, l6, l7] S q Q ↔ z_go zP 174 1321 [l0, l1, l2, some (.ref u), l4, l5, l6, l7] (.ref u :: S) q Q := ge_x (len := 1) (x := (0, 0, [])) p_174 rfl rfl
set_option maxRecDepth 100000 in
theorem g174_1321 : z_go zP 174 1321 L S q Q ↔ z_go zP 174 1322 L (zi 0 :: S) q Q := ge_x (len := 1) (x := (0, 0, [])) p_174 rfl rfl
set_option maxRecDepth 100000 in
theorem g174_1322 : z_go zP 174 1322 L (zi a :: .ref u :: S) q Q ↔ ∃ v, z_at [101] q.1 u (Int32.ofInt a) = some v ∧ z_go zP 174 1323 L (v :: S) q Q := ge_lald (len := 1) (x := (0, 0, [])) p_174 rfl
set_option maxRecDepth 100000 in
theorem g174_1323 : z_go zP 174 1323 [l0, l1, l2, l3, l4, l5, some (zi a), l7] S q Q ↔ z_go zP 174 1325 [l0, l1, l2, l3, l4, l5, some (zi a), l7] (zi a :: S) q Q := ge_x (len := 2) (x := (0, 0, [])) p_174 rfl rfl
set_option maxRecDepth 100000 in
theorem g174_1325 (a1 : -2147483648 ≤ a) (a2 : a < 2147483648) : z_go zP 174 1325 L (zi a :: S) q Q ↔ z_go zP 174 1326 L (zl a :: S) q Q := ge_i2l (len := 1) (x := (0, 0, [])) a1 a2 p_174 rfl
set_option maxRecDepth 100000 in
theorem g174_1326 (a1 : -9223372036854775808 ≤ a) (a2 : a < 9223372036854775808) (b1 : -9223372036854775808 ≤ b) (b2 : b < 9223372036854775808) : z_go zP 174 1326 L (zl b :: zl a :: S) q Q ↔ if a = b then z_go zP 174 1332 L S q Q else z_go zP 174 1330 L S q Q := ge_lc_eq (len := 1) (x := (0, 0, [])) (p2 := 1327) (l2 := 3) a1 a2 b1 b2 p_174 rfl rfl rfl rfl
set_option maxRecDepth 100000 in
theorem g174_1330 : z_go zP 174 1330 L S q Q ↔ z_go zP 174 1331 L (zi 0 :: S) q Q := ge_x (len := 1) (x := (0, 0, [])) p_174 rfl rfl
set_option maxRecDepth 100000 in
theorem g174_1331_0 : z_go zP 174 1331 L [zi 0] q Q ↔ Q (.inl (some (zi 0))) q := z_go_rt (len := 1) (x := (0, 0, [])) p_174 rfl rfl rfl
set_option maxRecDepth 100000 in
theorem g174_1331_1 : z_go zP 174 1331 L [zi 1] q Q ↔ Q (.inl (some (zi 1))) q := z_go_rt (len := 1) (x := (0, 0, [])) p_174 rfl rfl rfl
set_option maxRecDepth 100000 in
theorem g174_1331b {c : Prop} [Decidable c] : z_go zP 174 1331 L [zi (bI c)] q Q ↔ Q (.inl (some (zi (bI c)))) q := (by rcases bI_01 (c := c) with h | h <;> rw [h] <;> exact z_go_rt (len := 1) (x := (0, 0, [])) p_174 rfl rfl rfl)
set_option maxRecDepth 100000 in
theorem g174_1332 : z_go zP 174 1332 L S q Q ↔ z_go zP 174 1398 L S q Q := ge_to (len := 3) (x := (0, 0, [])) p_174 rfl rfl rfl
set_option maxRecDepth 100000 in
theorem g174_1335 : z_go zP 174 1335 [l0, some (.ref u), l2, l3, l4, l5, l6, l7] S q Q ↔ z_go zP 174 1336 [l0, some (.ref u), l2, l3, l4, l5, l6, l7] (.ref u :: S) q Q := ge_x (len := 1) (x := (0, 0, [])) p_174 rfl rfl
set_option maxRecDepth 100000 in
theorem g174_1336 : z_go zP 174 1336 [some (.ref u), l1, l2, l3, l4, l5, l6, l7] S q Q ↔ z_go zP 174 1337 [some (.ref u), l1, l2, l3, l4, l5, l6, l7] (.ref u :: S) q Q := ge_x (len := 1) (x := (0, 0, [])) p_174 rfl rfl
set_option maxRecDepth 100000 in
theorem g174_1337 : z_go zP 174 1337 [l0, l1, l2, l3, some (zi a), l5, l6, l7] S q Q ↔ z_go zP 174 1339 [l0, l1, l2, l3, some (zi a), l5, l6, l7] (zi a :: S) q Q := ge_x (len := 2) (x := (0, 0, [])) p_174 rfl rfl
set_option maxRecDepth 100000 in
theorem g174_1339 : z_go zP 174 1339 L S q Q ↔ z_go zP 174 1340 L (zi 1 :: S) q Q := ge_x (len := 1) (x := (0, 0, [])) p_174 rfl rfl
set_option maxRecDepth 100000 in
theorem g174_1340 : z_go zP 174 1340 L (zi b :: zi a :: S) q Q ↔ z_go zP 174 1341 L (zi (a + b) :: S) q Q := ge_iadd (len := 1) (x := (0, 0, [])) p_174 rfl
set_option maxRecDepth 100000 in
theorem g174_1341 : z_go zP 174 1341 L (zi a :: .ref u :: S) q Q ↔ ∃ v, z_at [99, 100] q.1 u (Int32.ofInt a) = some v ∧ z_go zP 174 1342 L (v :: S) q Q := ge_iald (len := 1) (x := (0, 0, [])) p_174 rfl
set_option maxRecDepth 100000 in
theorem g174_1342 : z_go zP 174 1342 L [zi x0, .ref u] q Q ↔ z_tg q.1 u = some 8 ∧ z_go zP 73 0 [some (.ref u), some (zi x0), none] [] q (zc 174 1345 L [] Q) := ge_vc (len := 3) (pc := 1342) (S := [zi x0, .ref u]) (u := u) (k1 := 73) (A := [.ref u, zi x0]) (r := []) (tag := 8) (n0 := 1) (zwb_le (by show 0 ≤ 4; omega)) p_174 rfl rfl rfl p_73 (by show 2 ≤ 3; omega) rfl
set_option maxRecDepth 100000 in
theorem g174_1345 : z_go zP 174 1345 [l0, l1, some (.ref u), l3, l4, l5, l6, l7] S q Q ↔ z_go zP 174 1346 [l0, l1, some (.ref u), l3, l4, l5, l6, l7] (.ref u :: S) q Q := ge_x (len := 1) (x := (0, 0, [])) p_174 rfl rfl
set_option maxRecDepth 100000 in
theorem g174_1346 : z_go zP 174 1346 [some (.ref u), l1, l2, l3, l4, l5, l6, l7] S q Q ↔ z_go zP 174 1347 [some (.ref u), l1, l2, l3, l4, l5, l6, l7] (.ref u :: S) q Q := ge_x (len := 1) (x := (0, 0, [])) p_174 rfl rfl
set_option maxRecDepth 100000 in
theorem g174_1347 : z_go zP 174 1347 [l0, l1, l2, l3, some (zi a), l5, l6, l7] S q Q ↔ z_go zP 174 1349 [l0, l1, l2, l3, some (zi a), l5, l6, l7] (zi a :: S) q Q := ge_x (len := 2) (x := (0, 0, [])) p_174 rfl rfl
set_option maxRecDepth 100000 in
theorem g174_1349 : z_go zP 174 1349 L S q Q ↔ z_go zP 174 1350 L (zi 1 :: S) q Q := ge_x (len := 1) (x := (0, 0, [])) p_174 rfl rfl
set_option maxRecDepth 100000 in
theorem g174_1350 : z_go zP 174 1350 L (zi b :: zi a :: S) q Q ↔ z_go zP 174 1351 L (zi (a + b) :: S) q Q := ge_iadd (len := 1) (x := (0, 0, [])) p_174 rfl
set_option maxRecDepth 100000 in
theorem g174_1351 : z_go zP 174 1351 L (zi a :: .ref u :: S) q Q ↔ ∃ v, z_at [99, 100] q.1 u (Int32.ofInt a) = some v ∧ z_go zP 174 1352 L (v :: S) q Q := ge_iald (len := 1) (x := (0, 0, [])) p_174 rfl
set_option maxRecDepth 100000 in
theorem g174_1352 : z_go zP 174 1352 L [zi x0, .ref u, r0] q Q ↔ z_tg q.1 u = some 9 ∧ z_go zP 151 0 [some (.ref u), some (zi x0)] [] q (zc 174 1355 L [r0] Q) := ge_vc (len := 3) (pc := 1352) (S := [zi x0, .ref u, r0]) (u := u) (k1 := 151) (A := [.ref u, zi x0]) (r := [r0]) (tag := 9) (n0 := 1) (zwb_le (by show 1 ≤ 4; omega)) p_174 rfl rfl rfl p_151 (by show 2 ≤ 2; omega) rfl
set_option maxRecDepth 100000 in
theorem g174_1355 (a1 : -2147483648 ≤ a) (a2 : a < 2147483648) (b1 : -2147483648 ≤ b) (b2 : b < 2147483648) : z_go zP 174 1355 L (zi b :: zi a :: S) q Q ↔ if a = b then z_go zP 174 1398 L S q Q else z_go zP 174 1358 L S q Q := ge_ic_eq (len := 3) (x := (0, 0, [])) a1 a2 b1 b2 p_174 rfl rfl
set_option maxRecDepth 100000 in
theorem g174_1358 : z_go zP 174 1358 L S q Q ↔ z_go zP 174 1359 L (zi 0 :: S) q Q := ge_x (len := 1) (x := (0, 0, [])) p_174 rfl rfl
set_option maxRecDepth 100000 in
theorem g174_1359_0 : z_go zP 174 1359 L [zi 0] q Q ↔ Q (.inl (some (zi 0))) q := z_go_rt (len := 1) (x := (0, 0, [])) p_174 rfl rfl rfl
set_option maxRecDepth 100000 in
theorem g174_1359_1 : z_go zP 174 1359 L [zi 1] q Q ↔ Q (.inl (some (zi 1))) q := z_go_rt (len := 1) (x := (0, 0, [])) p_174 rfl rfl rfl
set_option maxRecDepth 100000 in
theorem g174_1359b {c : Prop} [Decidable c] : z_go zP 174 1359 L [zi (bI c)] q Q ↔ Q (.inl (some (zi (bI c)))) q := (by rcases bI_01 (c := c) with h | h <;> rw [h] <;> exact z_go_rt (len := 1) (x := (0, 0, [])) p_174 rfl rfl rfl)
set_option maxRecDepth 100000 in
theorem g174_1360 : z_go zP 174 1360 [l0, some (.ref u), l2, l3, l4, l5, l6, l7] S q Q ↔ z_go zP 174 1361 [l0, some (.ref u), l2, l3, l4, l5, l6, l7] (.ref u :: S) q Q := ge_x (len := 1) (x := (0, 0, [])) p_174 rfl rfl
set_option maxRecDepth 100000 in
theorem g174_1361 : z_go zP 174 1361 L [.ref u] q Q ↔ z_tg q.1 u = some 8 ∧ z_go zP 74 0 [some (.ref u)] [] q (zc 174 1364 L [] Q) := ge_vc (len := 3) (pc := 1361) (S := [.ref u]) (u := u) (k1 := 74) (A := [.ref u]) (r := []) (tag := 8) (n0 := 0) (zwb_le (by show 0 ≤ 4; omega)) p_174 rfl rfl rfl p_74 (by show 1 ≤ 1; omega) rfl
set_option maxRecDepth 100000 in
theorem g174_1364 : z_go zP 174 1364 [l0, l1, some (.ref u), l3, l4, l5, l6, l7] S q Q ↔ z_go zP 174 1365 [l0, l1, some (.ref u), l3, l4, l5, l6, l7] (.ref u :: S) q Q := ge_x (len := 1) (x := (0, 0, [])) p_174 rfl rfl
set_option maxRecDepth 100000 in
theorem g174_1365 : z_go zP 174 1365 L [.ref u, r0] q Q ↔ z_tg q.1 u = some 9 ∧ z_go zP 152 0 [some (.ref u)] [] q (zc 174 1368 L [r0] Q) := ge_vc (len := 3) (pc := 1365) (S := [.ref u, r0]) (u := u) (k1 := 152) (A := [.ref u]) (r := [r0]) (tag := 9) (n0 := 0) (zwb_le (by show 1 ≤ 4; omega)) p_174 rfl rfl rfl p_152 (by show 1 ≤ 1; omega) rfl
set_option maxRecDepth 100000 in
theorem g174_1368 (a1 : -2147483648 ≤ a) (a2 : a < 2147483648) (b1 : -2147483648 ≤ b) (b2 : b < 2147483648) : z_go zP 174 1368 L (zi b :: zi a :: S) q Q ↔ if a = b then z_go zP 174 1398 L S q Q else z_go zP 174 1371 L S q Q := ge_ic_eq (len := 3) (x := (0, 0, [])) a1 a2 b1 b2 p_174 rfl rfl
set_option maxRecDepth 100000 in
theorem g174_1371 : z_go zP 174 1371 L S q Q ↔ z_go zP 174 1372 L (zi 0 :: S) q Q := ge_x (len := 1) (x := (0, 0, [])) p_174 rfl rfl
set_option maxRecDepth 100000 in
theorem g174_1372_0 : z_go zP 174 1372 L [zi 0] q Q ↔ Q (.inl (some (zi 0))) q := z_go_rt (len := 1) (x := (0, 0, [])) p_174 rfl rfl rfl
set_option maxRecDepth 100000 in
theorem g174_1372_1 : z_go zP 174 1372 L [zi 1] q Q ↔ Q (.inl (some (zi 1))) q := z_go_rt (len := 1) (x := (0, 0, [])) p_174 rfl rfl rfl
set_option maxRecDepth 100000 in
theorem g174_1372b {c : Prop} [Decidable c] : z_go zP 174 1372 L [zi (bI c)] q Q ↔ Q (.inl (some (zi (bI c)))) q := (by rcases bI_01 (c := c) with h | h <;> rw [h] <;> exact z_go_rt (len := 1) (x := (0, 0, [])) p_174 rfl rfl rfl)
set_option maxRecDepth 100000 in
theorem g174_1373 : z_go zP 174 1373 [l0, some (.ref u), l2, l3, l4, l5, l6, l7] S q Q ↔ z_go zP 174 1374 [l0, some (.ref u), l2, l3, l4, l5, l6, l7] (.ref u :: S) q Q := ge_x (len := 1) (x := (0, 0, [])) p_174 rfl rfl
set_option maxRecDepth 100000 in
theorem g174_1374 : z_go zP 174 1374 [some (.ref u), l1, l2, l3, l4, l5, l6, l7] S q Q ↔ z_go zP 174 1375 [some (.ref u), l1, l2, l3, l4, l5, l6, l7] (.ref u :: S) q Q := ge_x (len := 1) (x := (0, 0, [])) p_174 rfl rfl
set_option maxRecDepth 100000 in
theorem g174_1375 : z_go zP 174 1375 [l0, l1, l2, l3, some (zi a), l5, l6, l7] S q Q ↔ z_go zP 174 1377 [l0, l1, l2, l3, some (zi a), l5, l6, l7] (zi a :: S) q Q := ge_x (len := 2) (x := (0, 0, [])) p_174 rfl rfl
set_option maxRecDepth 100000 in
theorem g174_1377 : z_go zP 174 1377 L S q Q ↔ z_go zP 174 1378 L (zi 1 :: S) q Q := ge_x (len := 1) (x := (0, 0, [])) p_174 rfl rfl
set_option maxRecDepth 100000 in
theorem g174_1378 : z_go zP 174 1378 L (zi b :: zi a :: S) q Q ↔ z_go zP 174 1379 L (zi (a + b) :: S) q Q := ge_iadd (len := 1) (x := (0, 0, [])) p_174 rfl
set_option maxRecDepth 100000 in
theorem g174_1379 : z_go zP 174 1379 L (zi a :: .ref u :: S) q Q ↔ ∃ v, z_at [99, 100] q.1 u (Int32.ofInt a) = some v ∧ z_go zP 174 1380 L (v :: S) q Q := ge_iald (len := 1) (x := (0, 0, [])) p_174 rfl
set_option maxRecDepth 100000 in
theorem g174_1380 : z_go zP 174 1380 L [zi x0, .ref u] q Q ↔ z_tg q.1 u = some 8 ∧ z_go zP 75 0 [some (.ref u), some (zi x0), none, none, none, none, none] [] q (zc 174 1383 L [] Q) := ge_vc (len := 3) (pc := 1380) (S := [zi x0, .ref u]) (u := u) (k1 := 75) (A := [.ref u, zi x0]) (r := []) (tag := 8) (n0 := 1) (zwb_le (by show 0 ≤ 4; omega)) p_174 rfl rfl rfl p_75 (by show 2 ≤ 7; omega) rfl
set_option maxRecDepth 100000 in
theorem g174_1383 : z_go zP 174 1383 [l0, l1, some (.ref u), l3, l4, l5, l6, l7] S q Q ↔ z_go zP 174 1384 [l0, l1, some (.ref u), l3, l4, l5, l6, l7] (.ref u :: S) q Q := ge_x (len := 1) (x := (0, 0, [])) p_174 rfl rfl
set_option maxRecDepth 100000 in
theorem g174_1384 : z_go zP 174 1384 [some (.ref u), l1, l2, l3, l4, l5, l6, l7] S q Q ↔ z_go zP 174 1385 [some (.ref u), l1, l2, l3, l4, l5, l6, l7] (.ref u :: S) q Q := ge_x (len := 1) (x := (0, 0, [])) p_174 rfl rfl
set_option maxRecDepth 100000 in
theorem g174_1385 : z_go zP 174 1385 [l0, l1, l2, l3, some (zi a), l5, l6, l7] S q Q ↔ z_go zP 174 1387 [l0, l1, l2, l3, some (zi a), l5, l6, l7] (zi a :: S) q Q := ge_x (len := 2) (x := (0, 0, [])) p_174 rfl rfl
set_option maxRecDepth 100000 in
theorem g174_1387 : z_go zP 174 1387 L S q Q ↔ z_go zP 174 1388 L (zi 1 :: S) q Q := ge_x (len := 1) (x := (0, 0, [])) p_174 rfl rfl
set_option maxRecDepth 100000 in
theorem g174_1388 : z_go zP 174 1388 L (zi b :: zi a :: S) q Q ↔ z_go zP 174 1389 L (zi (a + b) :: S) q Q := ge_iadd (len := 1) (x := (0, 0, [])) p_174 rfl
set_option maxRecDepth 100000 in
theorem g174_1389 : z_go zP 174 1389 L (zi a :: .ref u :: S) q Q ↔ ∃ v, z_at [99, 100] q.1 u (Int32.ofInt a) = some v ∧ z_go zP 174 1390 L (v :: S) q Q := ge_iald (len := 1) (x := (0, 0, [])) p_174 rfl
set_option maxRecDepth 100000 in
theorem g174_1390 : z_go zP 174 1390 L [zi x0, .ref u, r0] q Q ↔ z_tg q.1 u = some 9 ∧ z_go zP 153 0 [some (.ref u), some (zi x0), none, none] [] q (zc 174 1393 L [r0] Q) := ge_vc (len := 3) (pc := 1390) (S := [zi x0, .ref u, r0]) (u := u) (k1 := 153) (A := [.ref u, zi x0]) (r := [r0]) (tag := 9) (n0 := 1) (zwb_le (by show 1 ≤ 4; omega)) p_174 rfl rfl rfl p_153 (by show 2 ≤ 4; omega) rfl
set_option maxRecDepth 100000 in
theorem g174_1393 (a1 : -2147483648 ≤ a) (a2 : a < 2147483648) (b1 : -2147483648 ≤ b) (b2 : b < 2147483648) : z_go zP 174 1393 L (zi b :: zi a :: S) q Q ↔ if a = b then z_go zP 174 1398 L S q Q else z_go zP 174 1396 L S q Q := ge_ic_eq (len := 3) (x := (0, 0, [])) a1 a2 b1 b2 p_174 rfl rfl
set_option maxRecDepth 100000 in
theorem g174_1396 : z_go zP 174 1396 L S q Q ↔ z_go zP 174 1397 L (zi 0 :: S) q Q := ge_x (len := 1) (x := (0, 0, [])) p_174 rfl rfl
set_option maxRecDepth 100000 in
theorem g174_1397_0 : z_go zP 174 1397 L [zi 0] q Q ↔ Q (.inl (some (zi 0))) q := z_go_rt (len := 1) (x := (0, 0, [])) p_174 rfl rfl rfl
set_option maxRecDepth 100000 in
theorem g174_1397_1 : z_go zP 174 1397 L [zi 1] q Q ↔ Q (.inl (some (zi 1))) q := z_go_rt (len := 1) (x := (0, 0, [])) p_174 rfl rfl rfl
set_option maxRecDepth 100000 in
theorem g174_1397b {c : Prop} [Decidable c] : z_go zP 174 1397 L [zi (bI c)] q Q ↔ Q (.inl (some (zi (bI c)))) q := (by rcases bI_01 (c := c) with h | h <;> rw [h] <;> exact z_go_rt (len := 1) (x := (0, 0, [])) p_174 rfl rfl rfl)
set_option maxRecDepth 100000 in
theorem g174_1398 : z_go zP 174 1398 [l0, l1, l2, l3, some (zi a), l5, l6, l7] S q Q ↔ z_go zP 174 1401 [l0, l1, l2, (zkl l3), some (zi (a + 7)), l5, l6, l7] S q Q := (by unfold zi; rw [Int32.ofInt_add]; cases l3 with | none => exact ge_x (len := 3) (x := (0, 0, [])) p_174 rfl rfl | some v => cases v <;> exact ge_x (len := 3) (x := (0, 0, [])) p_174 rfl rfl)
set_option maxRecDepth 100000 in
theorem g174_1401 : z_go zP 174 1401 L S q Q ↔ z_go zP 174 23 L S q Q := ge_to (len := 3) (x := (0, 0, [])) p_174 rfl rfl rfl
set_option maxRecDepth 100000 in
theorem g174_1404 : z_go zP 174 1404 L S q Q ↔ z_go zP 174 1405 L (zi 1 :: S) q Q := ge_x (len := 1) (x := (0, 0, [])) p_174 rfl rfl
set_option maxRecDepth 100000 in
theorem g174_1405_0 : z_go zP 174 1405 L [zi 0] q Q ↔ Q (.inl (some (zi 0))) q := z_go_rt (len := 1) (x := (0, 0, [])) p_174 rfl rfl rfl
set_option maxRecDepth 100000 in
theorem g174_1405_1 : z_go zP 174 1405 L [zi 1] q Q ↔ Q (.inl (some (zi 1))) q := z_go_rt (len := 1) (x := (0, 0, [])) p_174 rfl rfl rfl
set_option maxRecDepth 100000 in
theorem g174_1405b {c : Prop} [Decidable c] : z_go zP 174 1405 L [zi (bI c)] q Q ↔ Q (.inl (some (zi (bI c)))) q := (by rcases bI_01 (c := c) with h | h <;> rw [h] <;> exact z_go_rt (len := 1) (x := (0, 0, [])) p_174 rfl rfl rfl)
end
