/-! CALLS: pair, word -/
def W2 (W : Int → Int → Nat) (k w : Int) (n : Nat) : Int → Int → Nat := fun i j => if i = k ∧ j = w then n else W i j
def O2 (Ow : Nat → Int) (n : Nat) : Nat → Int := fun a => if a = n then 102 else Ow a
theorem W2_y {W : Int → Int → Nat} {k w : Int} {n : Nat} : W2 W k w n k w = n := if_pos ⟨rfl, rfl⟩
theorem W2_n {W : Int → Int → Nat} {k w i j : Int} {n : Nat} (h : ¬ (i = k ∧ j = w)) : W2 W k w n i j = W i j := if_neg h
theorem O2_y {Ow : Nat → Int} {n : Nat} : O2 Ow n n = 102 := if_pos rfl
theorem O2_n {Ow : Nat → Int} {n a : Nat} (h : ¬ a = n) : O2 Ow n a = Ow a := if_neg h
section
variable {T T' : Nat → Nat} {Ln Ln' : Nat → Int} {M M' : Nat → Int → Value} {n u x n' u' a b p : Nat} {A A' : Int → Nat} {W W' : Int → Int → Nat} {Ow Ow' : Nat → Int} {X X' : Int → Int} {Y Z : zY} {c n0 u0 k r pl j : Int} {cd : Nat → Int} {Q : zU → zS → Prop}
theorem c69 {q i : Int} (h : RZ T Ln M n u x A W Ow X Y c n0 u0) (hc : 0 ≤ c) (k1 : -2147483648 ≤ k) (k2 : k < 2147483648) (q1' : -2147483648 ≤ q) (q2' : q < 2147483648) (i1 : -2147483648 ≤ i) (i2 : i < 2147483648) (hd0 : cd 0 = 1) (hd1 : cd 1 = 2) : CR 69 [some (.ref x), some (zi k), some (zi q), some (zi i), none, none] T Ln M n u x Ow c n0 u0 cd (zi (a_pair Y k q i).1) (a_pair Y k q i).2 := by
  have hR := h.1.1
  have hH := h.1.2.2.2.1
  have hT : T x = 8 := hH.1.1
  obtain ⟨b1, b2, b3, b4⟩ := RZ_lt h
  unfold a_pair
  by_cases d1 : m_th Y k
  · rw [if_pos d1]
    obtain ⟨t, a1, a2, a3, a4, a5⟩ := RLX_k h.1 d1
    obtain ⟨-, e1, -⟩ := kt_n a5
    by_cases d2 : Y 3 k = 2
    · rw [if_pos d2]
      have hA : T (A k) = 4 := by rw [a1]; exact e1.mpr d2
      obtain ⟨⟨⟨-, p3, p4, p5, p6, p7⟩, -⟩, hm, -, -, m7, m8, w1, an, mn'⟩ := prog_k h d1 d2
      by_cases d3 : m_th Y q
      · rw [if_pos d3]
        obtain ⟨t', a1', a2', a3', a4', a5'⟩ := RLX_k h.1 d3
        obtain ⟨-, e1', -⟩ := kt_n a5'
        by_cases d4 : Y 3 q = 2
        · rw [if_pos d4]
          have hA' : T (A q) = 4 := by rw [a1']; exact e1'.mpr d4
          obtain ⟨⟨⟨-, p3', p4', p5', p6', p7'⟩, -⟩, hm', -, -, m7', m8', w1', an', mn''⟩ := prog_k h d3 d4
          have hus := us_a h hm hm'
          by_cases d5 : Y 5 k = Y 5 q
          · rw [if_pos d5]
            have hs82 := fun (Q : zU → zS → Prop) => s82_y (Ln := Ln) (M := M) (n := n) (u := u) (Q := Q) hT (hus.mpr d5)
            by_cases d6 : Y 13 k = 0 ∨ Y 13 q = 0
            · rw [if_pos d6]
              refine CR_re h (by omega) (by omega) (by omega) (by omega) hd0 (fun Q => ?_)
              by_cases d7 : Y 13 k = 0
              · simp (disch := first | omega | (simp (disch := omega) only [tu_s, tu_n, lu_s, lu_n]; done) | (simp (disch := omega) only [tu_s, tu_n, lu_s, lu_n]; omega)) only [g69_0, g69_1, g69_2, g69_5, g69_5n, g69_7, g69_8, g69_9, g69_12, g69_12n, g69_14, g69_15, g69_15n, g69_17, g69_20, g69_20n, g69_22, g69_25, g69_28, g69_29, g69_29n, g69_31, g69_34, g69_35, g69_35n, g69_37, g69_40, g69_41, g69_42, g69_43, g69_46, g69_46b, g69_49, g69_59, g69_60, g69_63, g69_63i, g69_64, g69_64n, g69_66, g69_66n, g69_68, g69_69, g69_70, g69_73, g69_74, g69_77, g69_78, g69_81, g69_84, Int.reduceToNat, jtg, mu_s, mu_n, mu_j, mn_s, mn_n, jg_4_1, jn_3, Option.some.injEq, exists_eq_left', zkl_i, zkl_l, zkl_n, zkl_r, zkl_0, zc_v, zc_n, zc_t, zd_v, zd_n, mj_tg, true_and, ↓reduceIte, not_true_eq_false, not_false_eq_true, ↓if_pos, ↓if_neg, Int.reduceLE, Int.reduceLT, Int.reduceEq, Int.reduceAdd, s88_y hH (tgo_y d1) hA, s88_y hH (tgo_y d3) hA', p4, p4', hs82, s83_n hT hA p6 d7]
              · have d8 : Y 13 q = 0 := by omega
                have hs83 := fun (Q : zU → zS → Prop) => s83_y (Ln := Ln) (n := n) (u := u) (Q := Q) hT hA p6 (by omega) (by omega)
                simp (disch := first | omega | (simp (disch := omega) only [tu_s, tu_n, lu_s, lu_n]; done) | (simp (disch := omega) only [tu_s, tu_n, lu_s, lu_n]; omega)) only [g69_0, g69_1, g69_2, g69_5, g69_5n, g69_7, g69_8, g69_9, g69_12, g69_12n, g69_14, g69_15, g69_15n, g69_17, g69_20, g69_20n, g69_22, g69_25, g69_28, g69_29, g69_29n, g69_31, g69_34, g69_35, g69_35n, g69_37, g69_40, g69_41, g69_42, g69_43, g69_46, g69_46b, g69_49, g69_59, g69_60, g69_63, g69_63i, g69_64, g69_64n, g69_66, g69_66n, g69_68, g69_69, g69_70, g69_73, g69_74, g69_77, g69_78, g69_81, g69_84, Int.reduceToNat, jtg, mu_s, mu_n, mu_j, mn_s, mn_n, jg_4_1, jn_3, Option.some.injEq, exists_eq_left', zkl_i, zkl_l, zkl_n, zkl_r, zkl_0, zc_v, zc_n, zc_t, zd_v, zd_n, mj_tg, true_and, ↓reduceIte, not_true_eq_false, not_false_eq_true, ↓if_pos, ↓if_neg, Int.reduceLE, Int.reduceLT, Int.reduceEq, Int.reduceAdd, s88_y hH (tgo_y d1) hA, s88_y hH (tgo_y d3) hA', p4, p4', hs82, hs83, s83_n hT hA' p6' d8]
            · rw [if_neg d6]
              have hs83 := fun (Q : zU → zS → Prop) => s83_y (Ln := Ln) (n := n) (u := u) (Q := Q) hT hA p6 (by omega) (by omega)
              have hs84 := fun (Q : zU → zS → Prop) => s83_y (Ln := Ln) (n := n) (u := u) (Q := Q) hT hA' p6' (by omega) (by omega)
              by_cases d7 : 0 ≤ i ∧ i ≤ 1
              · rw [if_pos d7]
                have c1 : ¬ ¬ (0 ≤ i ∧ i ≤ 1) := fun hh => hh d7
                have hi : i = 0 ∨ i = 1 := by omega
                have hs := fun (Q : zU → zS → Prop) => s26 (T := tu T n 3) (Ln := lu Ln n 10) (M := mn M n (dv 3)) (n := n + 1) (u := u + 10) (a := n) (one := A k) (two := A q) (i := i) (Q := Q) tu_s (by omega) hi
                have hT1 : ∀ a, a < n → tu (tu T n 3) (n + 1) 101 a = T a ∧ lu (lu Ln n 10) (n + 1) 0 a = Ln a := fun a ha => ⟨by rw [tu_n (by omega), tu_n (by omega)], by rw [lu_n (by omega), lu_n (by omega)]⟩
                have hM1 : ∀ a j, a < n → mu (mu (mu (mu (mn (mu (mn M n (dv 3)) n 0 (zi 6)) (n + 1) (fun _ => zl 0)) n 9 (.ref (n + 1))) n 1 (.ref (A k))) n 2 (.ref (A q))) n 3 (zi i) a j = M a j := fun a j ha => by
                  rw [mu_n (by omega), mu_n (by omega), mu_n (by omega), mu_n (by omega), mn_n (by omega), mu_n (by omega), mn_n (by omega)]
                have hH1 := HS_new h hT1 hM1
                by_cases d8 : Y 2 0 < 60
                · rw [if_pos d8]
                  obtain ⟨q0, q1, q2, q3, q4, q5, q6⟩ := add_0 (Y := Y) (i := 6) (p := k) (q := q)
                  have hs3 := fun (Q : zU → zS → Prop) => s79_y (b := n) (n := n + 1 + 1) (u := u + 10 + 0) (Q := Q) hH1 d8 (by rw [tu_n (by omega), tu_s]; decide)
                  have hk1 := d1.1
                  have hq1 := d3.1
                  have hm1 := hm.1
                  have zz : ∀ (f : Nat) (e : Int), ¬ f = 12 → yu (m_add (yu Y 0 0 0) 6 k q) 12 (Y 2 0 + 1) i f e = m_add (yu Y 0 0 0) 6 k q f e := fun f e hf => yu_f hf
                  have zc : ∀ (f : Nat) (e : Int), 3 ≤ f → ¬ cow f e = Y 2 0 + 1 → yu (m_add (yu Y 0 0 0) 6 k q) 12 (Y 2 0 + 1) i f e = Y f e := fun f e f1 hce => by rw [yu_c (by omega) hce, add_c f1 hce]
                  have z12 : yu (m_add (yu Y 0 0 0) 6 k q) 12 (Y 2 0 + 1) i 12 (Y 2 0 + 1) = i := yu_s
                  have z3 := zz 3 (Y 2 0 + 1) (by omega)
                  have z5 := zz 5 (Y 2 0 + 1) (by omega)
                  have z6 := zz 6 (Y 2 0 + 1) (by omega)
                  have z21 : ∀ e, yu (m_add (yu Y 0 0 0) 6 k q) 12 (Y 2 0 + 1) i 21 e = Y 21 e := fun e => by rw [zz 21 e (by omega), add_E (by omega)]
                  have z23 : ∀ e, yu (m_add (yu Y 0 0 0) 6 k q) 12 (Y 2 0 + 1) i 23 e = Y 23 e := fun e => by rw [zz 23 e (by omega), add_E (by omega)]
                  have y0 := zz 0 0 (by omega)
                  have y1 := zz 1 0 (by omega)
                  have y2 := zz 2 0 (by omega)
                  have y4 := zz 4 (Y 2 0 + 1) (by omega)
                  have yE : ∀ (f : Nat) (e : Int), 30 ≤ f → f ≤ 40 → yu (m_add (yu Y 0 0 0) 6 k q) 12 (Y 2 0 + 1) i f e = Y f e := fun f e f1 f2 => by rw [zz f e (by omega), add_E (by omega)]
                  rw [q3] at z3
                  rw [q5] at z5
                  rw [q6] at z6
                  rw [q0] at y0
                  rw [q1] at y1
                  rw [q2] at y2
                  rw [q4] at y4
                  have hRZ : RG (yu (m_add (yu Y 0 0 0) 6 k q) 12 (Y 2 0 + 1) i) := RG_u (RG_add hR d8 (by omega) (by omega) (by omega) (by omega) (by omega) (by omega)) (by show 0 ≤ i; omega) (by show i ≤ 8; omega)
                  show CR 69 _ _ _ _ _ _ _ _ _ _ _ _ (zi (Y 2 0 + 1)) (yu (m_add (yu Y 0 0 0) 6 k q) 12 (Y 2 0 + 1) i)
                  generalize yu (m_add (yu Y 0 0 0) 6 k q) 12 (Y 2 0 + 1) i = Z at *
                  have hrf := rf_new (Z := Z) d1 d2 (zc 3 k (by omega) (cow_n (by omega) (by omega))) (zc 4 k (by omega) (cow_n (by omega) (by omega)))
                  have hrf' := rf_new (Z := Z) d3 d4 (zc 3 q (by omega) (cow_n (by omega) (by omega))) (zc 4 q (by omega) (cow_n (by omega) (by omega)))
                  have zk5 := zc 5 k (by omega) (cow_n (by omega) (by omega))
                  have zk13 := zc 13 k (by omega) (cow_n (by omega) (by omega))
                  have zq5 := zc 5 q (by omega) (cow_n (by omega) (by omega))
                  have zq13 := zc 13 q (by omega) (cow_n (by omega) (by omega))
                  have hX : X (Y 2 0 + 1) = 0 := h.1.2.2.2.2.2.2.2.2.1.2.2.1 _ (by omega)
                  refine CR_new h d8 hRZ y0 y1 y2 y4 yE (fun f e f1 f2 e0 hce => zc f e f1 hce) ?_ (fun e => ?_) hc hT1 hM1 2 (n' := n + 1 + 1) (u' := u + 10 + 0) rfl (by omega) (by omega) ?_ (fun Q => ?_)
                  · refine ⟨by omega, fun hh => by omega, fun hh => by omega, fun hh => by omega, fun hh => by omega, fun hh => by omega, fun _ => ?_⟩
                    rw [z5, z6, zk5, zk13, zq5, zq13]
                    exact ⟨hrf, hrf', by omega, d5, by omega⟩
                  · rw [z21, z23]; omega
                  · refine ⟨fun hh => by omega, fun hh => by omega, fun hh => by omega, fun hh => by omega, fun hh => by omega, fun _ => ⟨⟨?_, ?_⟩, ⟨?_, ?_, ?_, ?_⟩, ?_, .inl ⟨hX, n + 1, ?_⟩⟩⟩
                    · rw [A1_s, tu_n (by omega), tu_s]
                    · rw [A1_s, O1_y (by omega)]
                    · rw [A1_s, mu_n (by omega), mu_n (by omega), mu_j (by omega), mu_j (by omega), mu_j (by omega), mu_j (by omega), mn_n (by omega), mu_s]
                    · rw [A1_s, mu_n (by omega), mu_n (by omega), mu_j (by omega), mu_j (by omega), mu_s, z5, A1_n (by omega)]
                    · rw [A1_s, mu_n (by omega), mu_n (by omega), mu_j (by omega), mu_s, z6, A1_n (by omega)]
                    · rw [A1_s, mu_n (by omega), mu_n (by omega), mu_s, z12]
                    · rw [A1_s, mu_n (by omega), mu_n (by omega), mu_j (by omega), mu_j (by omega), mu_j (by omega), mu_j (by omega), mn_n (by omega), mu_j (by omega), mn_s, hX]; rfl
                    · rw [A1_s, mu_n (by omega), mu_n (by omega), mu_j (by omega), mu_j (by omega), mu_j (by omega), mu_s]
                  · rcases hi with rfl | rfl
                    · simp (disch := first | omega | (simp (disch := omega) only [tu_s, tu_n, lu_s, lu_n]; done) | (simp (disch := omega) only [tu_s, tu_n, lu_s, lu_n]; omega)) only [g69_0, g69_1, g69_2, g69_5, g69_5n, g69_7, g69_8, g69_9, g69_12, g69_12n, g69_14, g69_15, g69_15n, g69_17, g69_20, g69_20n, g69_22, g69_25, g69_28, g69_29, g69_29n, g69_31, g69_34, g69_35, g69_35n, g69_37, g69_40, g69_41, g69_42, g69_43, g69_46, g69_46b, g69_49, g69_59, g69_60, g69_63, g69_63i, g69_64, g69_64n, g69_66, g69_66n, g69_68, g69_69, g69_70, g69_73, g69_74, g69_77, g69_78, g69_81, g69_84, Int.reduceToNat, jtg, mu_s, mu_n, mu_j, mn_s, mn_n, jg_4_1, jn_3, Option.some.injEq, exists_eq_left', zkl_i, zkl_l, zkl_n, zkl_r, zkl_0, zc_v, zc_n, zc_t, zd_v, zd_n, mj_tg, true_and, ↓reduceIte, not_true_eq_false, not_false_eq_true, ↓if_pos, ↓if_neg, Int.reduceLE, Int.reduceLT, Int.reduceEq, Int.reduceAdd, s88_y hH (tgo_y d1) hA, s88_y hH (tgo_y d3) hA', p4, p4', hs82, hs83, hs84, s76, bI_f c1, hs, hs3]
                    · simp (disch := first | omega | (simp (disch := omega) only [tu_s, tu_n, lu_s, lu_n]; done) | (simp (disch := omega) only [tu_s, tu_n, lu_s, lu_n]; omega)) only [g69_0, g69_1, g69_2, g69_5, g69_5n, g69_7, g69_8, g69_9, g69_12, g69_12n, g69_14, g69_15, g69_15n, g69_17, g69_20, g69_20n, g69_22, g69_25, g69_28, g69_29, g69_29n, g69_31, g69_34, g69_35, g69_35n, g69_37, g69_40, g69_41, g69_42, g69_43, g69_46, g69_46b, g69_49, g69_59, g69_60, g69_63, g69_63i, g69_64, g69_64n, g69_66, g69_66n, g69_68, g69_69, g69_70, g69_73, g69_74, g69_77, g69_78, g69_81, g69_84, Int.reduceToNat, jtg, mu_s, mu_n, mu_j, mn_s, mn_n, jg_4_1, jn_3, Option.some.injEq, exists_eq_left', zkl_i, zkl_l, zkl_n, zkl_r, zkl_0, zc_v, zc_n, zc_t, zd_v, zd_n, mj_tg, true_and, ↓reduceIte, not_true_eq_false, not_false_eq_true, ↓if_pos, ↓if_neg, Int.reduceLE, Int.reduceLT, Int.reduceEq, Int.reduceAdd, s88_y hH (tgo_y d1) hA, s88_y hH (tgo_y d3) hA', p4, p4', hs82, hs83, hs84, s76, bI_f c1, hs, hs3]
                · rw [if_neg d8]
                  have h60 : Y 2 0 = 60 := by have : Y 2 0 ≤ 60 := (hR 2 0).2; omega
                  have hs3 := fun (Q : zU → zS → Prop) => s79_n (b := n) (n := n + 1 + 1) (u := u + 10 + 0) (Q := Q) hH1 h60
                  refine CR_rv h (by omega) (by omega) (by omega) (by omega) hd0 hT1 hM1 (n' := n + 1 + 1 + 1) (u' := u + 10 + 0 + 6) (by omega) (by omega) (by omega) (fun Q => ?_)
                  rcases hi with rfl | rfl
                  · simp (disch := first | omega | (simp (disch := omega) only [tu_s, tu_n, lu_s, lu_n]; done) | (simp (disch := omega) only [tu_s, tu_n, lu_s, lu_n]; omega)) only [g69_0, g69_1, g69_2, g69_5, g69_5n, g69_7, g69_8, g69_9, g69_12, g69_12n, g69_14, g69_15, g69_15n, g69_17, g69_20, g69_20n, g69_22, g69_25, g69_28, g69_29, g69_29n, g69_31, g69_34, g69_35, g69_35n, g69_37, g69_40, g69_41, g69_42, g69_43, g69_46, g69_46b, g69_49, g69_59, g69_60, g69_63, g69_63i, g69_64, g69_64n, g69_66, g69_66n, g69_68, g69_69, g69_70, g69_73, g69_74, g69_77, g69_78, g69_81, g69_84, Int.reduceToNat, jtg, mu_s, mu_n, mu_j, mn_s, mn_n, jg_4_1, jn_3, Option.some.injEq, exists_eq_left', zkl_i, zkl_l, zkl_n, zkl_r, zkl_0, zc_v, zc_n, zc_t, zd_v, zd_n, mj_tg, true_and, ↓reduceIte, not_true_eq_false, not_false_eq_true, ↓if_pos, ↓if_neg, Int.reduceLE, Int.reduceLT, Int.reduceEq, Int.reduceAdd, s88_y hH (tgo_y d1) hA, s88_y hH (tgo_y d3) hA', p4, p4', hs82, hs83, hs84, s76, bI_f c1, hs, hs3]
                  · simp (disch := first | omega | (simp (disch := omega) only [tu_s, tu_n, lu_s, lu_n]; done) | (simp (disch := omega) only [tu_s, tu_n, lu_s, lu_n]; omega)) only [g69_0, g69_1, g69_2, g69_5, g69_5n, g69_7, g69_8, g69_9, g69_12, g69_12n, g69_14, g69_15, g69_15n, g69_17, g69_20, g69_20n, g69_22, g69_25, g69_28, g69_29, g69_29n, g69_31, g69_34, g69_35, g69_35n, g69_37, g69_40, g69_41, g69_42, g69_43, g69_46, g69_46b, g69_49, g69_59, g69_60, g69_63, g69_63i, g69_64, g69_64n, g69_66, g69_66n, g69_68, g69_69, g69_70, g69_73, g69_74, g69_77, g69_78, g69_81, g69_84, Int.reduceToNat, jtg, mu_s, mu_n, mu_j, mn_s, mn_n, jg_4_1, jn_3, Option.some.injEq, exists_eq_left', zkl_i, zkl_l, zkl_n, zkl_r, zkl_0, zc_v, zc_n, zc_t, zd_v, zd_n, mj_tg, true_and, ↓reduceIte, not_true_eq_false, not_false_eq_true, ↓if_pos, ↓if_neg, Int.reduceLE, Int.reduceLT, Int.reduceEq, Int.reduceAdd, s88_y hH (tgo_y d1) hA, s88_y hH (tgo_y d3) hA', p4, p4', hs82, hs83, hs84, s76, bI_f c1, hs, hs3]
              · rw [if_neg d7]
                refine CR_th h (by omega) (by omega) hd1 (fun Q => ?_)
                simp (disch := first | omega | (simp (disch := omega) only [tu_s, tu_n, lu_s, lu_n]; done) | (simp (disch := omega) only [tu_s, tu_n, lu_s, lu_n]; omega)) only [g69_0, g69_1, g69_2, g69_5, g69_5n, g69_7, g69_8, g69_9, g69_12, g69_12n, g69_14, g69_15, g69_15n, g69_17, g69_20, g69_20n, g69_22, g69_25, g69_28, g69_29, g69_29n, g69_31, g69_34, g69_35, g69_35n, g69_37, g69_40, g69_41, g69_42, g69_43, g69_46, g69_46b, g69_49, g69_59, g69_60, g69_63, g69_63i, g69_64, g69_64n, g69_66, g69_66n, g69_68, g69_69, g69_70, g69_73, g69_74, g69_77, g69_78, g69_81, g69_84, Int.reduceToNat, jtg, mu_s, mu_n, mu_j, mn_s, mn_n, jg_4_1, jn_3, Option.some.injEq, exists_eq_left', zkl_i, zkl_l, zkl_n, zkl_r, zkl_0, zc_v, zc_n, zc_t, zd_v, zd_n, mj_tg, true_and, ↓reduceIte, not_true_eq_false, not_false_eq_true, ↓if_pos, ↓if_neg, Int.reduceLE, Int.reduceLT, Int.reduceEq, Int.reduceAdd, s88_y hH (tgo_y d1) hA, s88_y hH (tgo_y d3) hA', p4, p4', hs82, hs83, hs84, s76, bI_t d7]
          · rw [if_neg d5]
            have hs82 := fun (Q : zU → zS → Prop) => s82_n (Ln := Ln) (M := M) (n := n) (u := u) (Q := Q) hT (fun hh => d5 (hus.mp hh))
            refine CR_re h (by omega) (by omega) (by omega) (by omega) hd0 (fun Q => ?_)
            simp (disch := first | omega | (simp (disch := omega) only [tu_s, tu_n, lu_s, lu_n]; done) | (simp (disch := omega) only [tu_s, tu_n, lu_s, lu_n]; omega)) only [g69_0, g69_1, g69_2, g69_5, g69_5n, g69_7, g69_8, g69_9, g69_12, g69_12n, g69_14, g69_15, g69_15n, g69_17, g69_20, g69_20n, g69_22, g69_25, g69_28, g69_29, g69_29n, g69_31, g69_34, g69_35, g69_35n, g69_37, g69_40, g69_41, g69_42, g69_43, g69_46, g69_46b, g69_49, g69_59, g69_60, g69_63, g69_63i, g69_64, g69_64n, g69_66, g69_66n, g69_68, g69_69, g69_70, g69_73, g69_74, g69_77, g69_78, g69_81, g69_84, Int.reduceToNat, jtg, mu_s, mu_n, mu_j, mn_s, mn_n, jg_4_1, jn_3, Option.some.injEq, exists_eq_left', zkl_i, zkl_l, zkl_n, zkl_r, zkl_0, zc_v, zc_n, zc_t, zd_v, zd_n, mj_tg, true_and, ↓reduceIte, not_true_eq_false, not_false_eq_true, ↓if_pos, ↓if_neg, Int.reduceLE, Int.reduceLT, Int.reduceEq, Int.reduceAdd, s88_y hH (tgo_y d1) hA, s88_y hH (tgo_y d3) hA', p4, p4', hs82]
        · rw [if_neg d4]
          have hA' : ¬ T (A q) = 4 := by rw [a1', e1']; exact d4
          refine CR_re h (by omega) (by omega) (by omega) (by omega) hd0 (fun Q => ?_)
          simp (disch := first | omega | (simp (disch := omega) only [tu_s, tu_n, lu_s, lu_n]; done) | (simp (disch := omega) only [tu_s, tu_n, lu_s, lu_n]; omega)) only [g69_0, g69_1, g69_2, g69_5, g69_5n, g69_7, g69_8, g69_9, g69_12, g69_12n, g69_14, g69_15, g69_15n, g69_17, g69_20, g69_20n, g69_22, g69_25, g69_28, g69_29, g69_29n, g69_31, g69_34, g69_35, g69_35n, g69_37, g69_40, g69_41, g69_42, g69_43, g69_46, g69_46b, g69_49, g69_59, g69_60, g69_63, g69_63i, g69_64, g69_64n, g69_66, g69_66n, g69_68, g69_69, g69_70, g69_73, g69_74, g69_77, g69_78, g69_81, g69_84, Int.reduceToNat, jtg, mu_s, mu_n, mu_j, mn_s, mn_n, jg_4_1, jn_3, Option.some.injEq, exists_eq_left', zkl_i, zkl_l, zkl_n, zkl_r, zkl_0, zc_v, zc_n, zc_t, zd_v, zd_n, mj_tg, true_and, ↓reduceIte, not_true_eq_false, not_false_eq_true, ↓if_pos, ↓if_neg, Int.reduceLE, Int.reduceLT, Int.reduceEq, Int.reduceAdd, s88_y hH (tgo_y d1) hA, s88_k hH (tgo_y d3) hA']
      · rw [if_neg d3]
        refine CR_re h (by omega) (by omega) (by omega) (by omega) hd0 (fun Q => ?_)
        simp (disch := first | omega | (simp (disch := omega) only [tu_s, tu_n, lu_s, lu_n]; done) | (simp (disch := omega) only [tu_s, tu_n, lu_s, lu_n]; omega)) only [g69_0, g69_1, g69_2, g69_5, g69_5n, g69_7, g69_8, g69_9, g69_12, g69_12n, g69_14, g69_15, g69_15n, g69_17, g69_20, g69_20n, g69_22, g69_25, g69_28, g69_29, g69_29n, g69_31, g69_34, g69_35, g69_35n, g69_37, g69_40, g69_41, g69_42, g69_43, g69_46, g69_46b, g69_49, g69_59, g69_60, g69_63, g69_63i, g69_64, g69_64n, g69_66, g69_66n, g69_68, g69_69, g69_70, g69_73, g69_74, g69_77, g69_78, g69_81, g69_84, Int.reduceToNat, jtg, mu_s, mu_n, mu_j, mn_s, mn_n, jg_4_1, jn_3, Option.some.injEq, exists_eq_left', zkl_i, zkl_l, zkl_n, zkl_r, zkl_0, zc_v, zc_n, zc_t, zd_v, zd_n, mj_tg, true_and, ↓reduceIte, not_true_eq_false, not_false_eq_true, ↓if_pos, ↓if_neg, Int.reduceLE, Int.reduceLT, Int.reduceEq, Int.reduceAdd, s88_y hH (tgo_y d1) hA, s88_n hH q1' q2' (tgo_n d3)]
    · rw [if_neg d2]
      have hA : ¬ T (A k) = 4 := by rw [a1, e1]; exact d2
      refine CR_re h (by omega) (by omega) (by omega) (by omega) hd0 (fun Q => ?_)
      simp (disch := first | omega | (simp (disch := omega) only [tu_s, tu_n, lu_s, lu_n]; done) | (simp (disch := omega) only [tu_s, tu_n, lu_s, lu_n]; omega)) only [g69_0, g69_1, g69_2, g69_5, g69_5n, g69_7, g69_8, g69_9, g69_12, g69_12n, g69_14, g69_15, g69_15n, g69_17, g69_20, g69_20n, g69_22, g69_25, g69_28, g69_29, g69_29n, g69_31, g69_34, g69_35, g69_35n, g69_37, g69_40, g69_41, g69_42, g69_43, g69_46, g69_46b, g69_49, g69_59, g69_60, g69_63, g69_63i, g69_64, g69_64n, g69_66, g69_66n, g69_68, g69_69, g69_70, g69_73, g69_74, g69_77, g69_78, g69_81, g69_84, Int.reduceToNat, jtg, mu_s, mu_n, mu_j, mn_s, mn_n, jg_4_1, jn_3, Option.some.injEq, exists_eq_left', zkl_i, zkl_l, zkl_n, zkl_r, zkl_0, zc_v, zc_n, zc_t, zd_v, zd_n, mj_tg, true_and, ↓reduceIte, not_true_eq_false, not_false_eq_true, ↓if_pos, ↓if_neg, Int.reduceLE, Int.reduceLT, Int.reduceEq, Int.reduceAdd, s88_k hH (tgo_y d1) hA]
  · rw [if_neg d1]
    refine CR_re h (by omega) (by omega) (by omega) (by omega) hd0 (fun Q => ?_)
    simp (disch := first | omega | (simp (disch := omega) only [tu_s, tu_n, lu_s, lu_n]; done) | (simp (disch := omega) only [tu_s, tu_n, lu_s, lu_n]; omega)) only [g69_0, g69_1, g69_2, g69_5, g69_5n, g69_7, g69_8, g69_9, g69_12, g69_12n, g69_14, g69_15, g69_15n, g69_17, g69_20, g69_20n, g69_22, g69_25, g69_28, g69_29, g69_29n, g69_31, g69_34, g69_35, g69_35n, g69_37, g69_40, g69_41, g69_42, g69_43, g69_46, g69_46b, g69_49, g69_59, g69_60, g69_63, g69_63i, g69_64, g69_64n, g69_66, g69_66n, g69_68, g69_69, g69_70, g69_73, g69_74, g69_77, g69_78, g69_81, g69_84, Int.reduceToNat, jtg, mu_s, mu_n, mu_j, mn_s, mn_n, jg_4_1, jn_3, Option.some.injEq, exists_eq_left', zkl_i, zkl_l, zkl_n, zkl_r, zkl_0, zc_v, zc_n, zc_t, zd_v, zd_n, mj_tg, true_and, ↓reduceIte, not_true_eq_false, not_false_eq_true, ↓if_pos, ↓if_neg, Int.reduceLE, Int.reduceLT, Int.reduceEq, Int.reduceAdd, s88_n hH k1 k2 (tgo_n d1)]
/-! word -/
theorem s32 {b : Nat} {w : Int} (h : T a = 4) (h1 : T (a + 1) = 104) (h2 : Ln (a + 1) = 24) (h3 : M a 2 = .ref (a + 1)) (h4 : M a 3 = zi w) (w1 : 0 ≤ w) (w2 : w < 24) (hb : T b = 7) : z_go zP 32 0 [some (.ref a), some (.ref b)] [] (hj T Ln M, n, u) Q ↔ Q (.inl none) (hj T Ln (mu (mu M (a + 1) w (.ref b)) a 3 (zi (w + 1))), n, u) := by
  simp (disch := first | omega | (simp (disch := omega) only [tu_s, tu_n, lu_s, lu_n]; done) | (simp (disch := omega) only [tu_s, tu_n, lu_s, lu_n]; omega)) only [g32_0, g32_1, g32_4, g32_6, g32_9, g32_10, g32_13, g32_14, g32_17, g32_17n, g32_18, g32_19, g32_20, g32_20i, g32_21, g32_24, g32_25, g32_26, g32_29, Int.reduceToNat, jtg, mu_s, mu_n, mu_j, mn_s, mn_n, jg_4_3, jg_4_2, jsan, jst, jsw, jp_4_3, Option.some.injEq, exists_eq_left', zkl_i, zkl_l, zkl_n, zkl_r, zkl_0, zc_v, zc_n, zc_t, zd_v, zd_n, mj_tg, true_and, ↓reduceIte, not_true_eq_false, not_false_eq_true, ↓if_pos, ↓if_neg, Int.reduceLE, Int.reduceLT, Int.reduceEq, Int.reduceAdd, h3, h4]
theorem wd_f {f : Nat} {e o d v w nn : Int} (h : ¬ (13 ≤ f ∧ f ≤ 18)) (h0 : ¬ f = 0) : m_wd Y k o d v w nn f e = Y f e := by
  unfold m_wd
  rw [yu_f (by omega), yu_f (by omega), yu_f (by omega), yu_f (by omega), yu_f (by omega), yu_f (by omega), yu_f (by omega)]
theorem wd_c {f : Nat} {e o d v w nn : Int} (hw : 0 ≤ Y 13 k ∧ Y 13 k < 24) (h0 : ¬ f = 0) (hc : ¬ cow f e = k) : m_wd Y k o d v w nn f e = Y f e := by
  have hx : ∀ g : Nat, 14 ≤ g → g ≤ 18 → ¬ (f = g ∧ e = 24 * k + Y 13 k) := by
    rintro g g1 g2 ⟨rfl, rfl⟩
    apply hc
    unfold cow
    rw [if_neg (by omega), if_neg (by omega), if_pos (by omega)]
    omega
  unfold m_wd
  rw [yu_c (by omega) hc, yu_w (hx 18 (by omega) (by omega)), yu_w (hx 17 (by omega) (by omega)), yu_w (hx 16 (by omega) (by omega)), yu_w (hx 15 (by omega) (by omega)), yu_w (hx 14 (by omega) (by omega)), yu_f h0]
theorem wd_n {f : Nat} {e o d v w nn : Int} (h1 : 14 ≤ f) (h2 : f ≤ 18) (he : ¬ e = 24 * k + Y 13 k) : m_wd Y k o d v w nn f e = Y f e := by
  unfold m_wd
  rw [yu_f (by omega), yu_w (fun hh => he hh.2), yu_w (fun hh => he hh.2), yu_w (fun hh => he hh.2), yu_w (fun hh => he hh.2), yu_w (fun hh => he hh.2), yu_f (by omega)]
theorem wd_s {o d v w nn : Int} : m_wd Y k o d v w nn 13 k = Y 13 k + 1 ∧ m_wd Y k o d v w nn 14 (24 * k + Y 13 k) = o ∧ m_wd Y k o d v w nn 15 (24 * k + Y 13 k) = d ∧ m_wd Y k o d v w nn 16 (24 * k + Y 13 k) = v ∧ m_wd Y k o d v w nn 17 (24 * k + Y 13 k) = w ∧ m_wd Y k o d v w nn 18 (24 * k + Y 13 k) = nn ∧ m_wd Y k o d v w nn 0 0 = 0 := by
  simp [m_wd, yu]
theorem RG_wd {o d v w nn : Int} (hR : RG Y) (hw : Y 13 k < 24) (o1 : 0 ≤ o ∧ o ≤ 7) (d1 : 0 ≤ d ∧ d ≤ 3) (v1 : 0 ≤ v ∧ v ≤ 3) (w1 : 0 ≤ w ∧ w ≤ 3) (n1 : -2147483648 ≤ nn) (n2 : nn < 2147483648) : RG (m_wd Y k o d v w nn) := by
  have h0 : 0 ≤ Y 13 k := (hR 13 k).1
  exact RG_u (RG_u (RG_u (RG_u (RG_u (RG_u (RG_0 hR) o1.1 o1.2) d1.1 d1.2) v1.1 v1.2) w1.1 w1.2) n1 (by show nn ≤ 2147483647; omega)) (by show (0 : Int) ≤ _; omega) (by show _ ≤ (24 : Int); omega)
theorem c59 {o d v w nn : Int} (h : RZ T Ln M n u x A W Ow X Y c n0 u0) (k1 : -2147483648 ≤ k) (k2 : k < 2147483648) (o1 : -2147483648 ≤ o) (o2 : o < 2147483648) (d1' : -2147483648 ≤ d) (d2' : d < 2147483648) (v1 : -2147483648 ≤ v) (v2 : v < 2147483648) (w1 : -2147483648 ≤ w) (w2 : w < 2147483648) (n1 : -2147483648 ≤ nn) (n2 : nn < 2147483648) (hd0 : cd 0 = 1) (hd1 : cd 1 = 2) (hd2 : cd 2 = 3) : CR 59 [some (.ref x), some (zi k), some (zi o), some (zi d), some (zi v), some (zi w), some (zi nn), none] T Ln M n u x Ow c n0 u0 cd (zi (a_word Y k o d v w nn).1) (a_word Y k o d v w nn).2 := by
  have hR := h.1.1
  have hH := h.1.2.2.2.1
  have hT : T x = 8 := hH.1.1
  obtain ⟨b1, b2, b3, b4⟩ := RZ_lt h
  unfold a_word
  by_cases d1 : m_th Y k
  · rw [if_pos d1]
    obtain ⟨t, a1, a2, a3, a4, a5⟩ := RLX_k h.1 d1
    obtain ⟨-, e1, -⟩ := kt_n a5
    by_cases d2 : Y 3 k = 2
    · rw [if_pos d2]
      have hA : T (A k) = 4 := by rw [a1]; exact e1.mpr d2
      by_cases d3 : m_used Y k
      · rw [if_pos d3]
        have hs := fun (Q : zU → zS → Prop) => s81_y (Q := Q) h d1 d3
        refine CR_re h (by omega) (by omega) (by omega) (by omega) hd0 (fun Q => ?_)
        simp (disch := first | omega | (simp (disch := omega) only [tu_s, tu_n, lu_s, lu_n]; done) | (simp (disch := omega) only [tu_s, tu_n, lu_s, lu_n]; omega)) only [g59_0, g59_1, g59_2, g59_5, g59_5n, g59_7, g59_8, g59_8n, g59_10, g59_13, g59_14, g59_15, g59_17, g59_20, g59_20b, g59_23, g59_24, g59_27, g59_27b, g59_30, g59_32, g59_35, g59_35b, g59_38, g59_40, g59_43, g59_43b, g59_46, g59_56, g59_56n, g59_58, g59_61, g59_63, g59_66, g59_76, g59_76n, g59_78, g59_81, g59_81i, g59_82, g59_83, g59_84, g59_86, g59_88, g59_90, g59_93, g59_96, g59_96n, g59_98, g59_101, Int.reduceToNat, jtg, mu_s, mu_n, mu_j, mn_s, mn_n, jg_4_3, jn_7, Option.some.injEq, exists_eq_left', zkl_i, zkl_l, zkl_n, zkl_r, zkl_0, zc_v, zc_n, zc_t, zd_v, zd_n, mj_tg, true_and, ↓reduceIte, not_true_eq_false, not_false_eq_true, ↓if_pos, ↓if_neg, Int.reduceLE, Int.reduceLT, Int.reduceEq, Int.reduceAdd, s88_y hH (tgo_y d1) hA, hs]
      · rw [if_neg d3]
        have hs := fun (Q : zU → zS → Prop) => s81_n (Q := Q) h d1 d3
        obtain ⟨⟨⟨⟨p1, p2', p2''⟩, p3, p4, p5, p6, p7⟩, ⟨p8, p9⟩, p10⟩, hm, -, -, m7, m8, wr, an, mn'⟩ := prog_k h d1 d2
        by_cases d4 : (0 ≤ o ∧ o ≤ 7) ∧ (0 ≤ d ∧ d ≤ 3) ∧ (0 ≤ v ∧ v ≤ 3) ∧ 0 ≤ w ∧ w ≤ 3
        · rw [if_pos d4]
          obtain ⟨f1, f2, f3, f4⟩ := d4
          have g1 : ¬ ¬ (0 ≤ o ∧ o ≤ 7) := fun hh => hh f1
          have g2 : ¬ ¬ (0 ≤ d ∧ d ≤ 3) := fun hh => hh f2
          have g3 : ¬ ¬ (0 ≤ v ∧ v ≤ 3) := fun hh => hh f3
          have g4 : ¬ ¬ (0 ≤ w ∧ w ≤ 3) := fun hh => hh f4
          by_cases d5 : Y 13 k = 24
          · rw [if_pos d5]
            refine CR_th h (by omega) (by omega) hd2 (fun Q => ?_)
            simp (disch := first | omega | (simp (disch := omega) only [tu_s, tu_n, lu_s, lu_n]; done) | (simp (disch := omega) only [tu_s, tu_n, lu_s, lu_n]; omega)) only [g59_0, g59_1, g59_2, g59_5, g59_5n, g59_7, g59_8, g59_8n, g59_10, g59_13, g59_14, g59_15, g59_17, g59_20, g59_20b, g59_23, g59_24, g59_27, g59_27b, g59_30, g59_32, g59_35, g59_35b, g59_38, g59_40, g59_43, g59_43b, g59_46, g59_56, g59_56n, g59_58, g59_61, g59_63, g59_66, g59_76, g59_76n, g59_78, g59_81, g59_81i, g59_82, g59_83, g59_84, g59_86, g59_88, g59_90, g59_93, g59_96, g59_96n, g59_98, g59_101, Int.reduceToNat, jtg, mu_s, mu_n, mu_j, mn_s, mn_n, jg_4_3, jn_7, Option.some.injEq, exists_eq_left', zkl_i, zkl_l, zkl_n, zkl_r, zkl_0, zc_v, zc_n, zc_t, zd_v, zd_n, mj_tg, true_and, ↓reduceIte, not_true_eq_false, not_false_eq_true, ↓if_pos, ↓if_neg, Int.reduceLE, Int.reduceLT, Int.reduceEq, Int.reduceAdd, s88_y hH (tgo_y d1) hA, hs, s76, s77, bI_f g1, bI_f g2, bI_f g3, bI_f g4, p6]
          · rw [if_neg d5]
            have hA1 : A k + 1 < n := b1 _ (by omega)
            have hs49 := fun (Q : zU → zS → Prop) => s49 (T := tu T n 7) (Ln := lu Ln n 5) (M := mn M n (dv 7)) (n := n + 1) (u := u + 5) (a := n) (op := o) (d := d) (v := v) (w := w) (k := nn) (Q := Q) tu_s
            have hs32 := fun (Q : zU → zS → Prop) => s32 (T := tu T n 7) (Ln := lu Ln n 5) (M := mu (mu (mu (mu (mu (mn M n (dv 7)) n 0 (zi o)) n 1 (zi d)) n 2 (zi v)) n 3 (zi w)) n 4 (zi nn)) (n := n + 1) (u := u + 5) (a := A k) (b := n) (w := Y 13 k) (Q := Q) (by rw [tu_n (by omega)]; exact hA) (by rw [tu_n (by omega)]; exact p2') (by rw [lu_n (by omega)]; exact p2'') (by rw [mu_n (by omega), mu_n (by omega), mu_n (by omega), mu_n (by omega), mu_n (by omega), mn_n (by omega)]; exact p5) (by rw [mu_n (by omega), mu_n (by omega), mu_n (by omega), mu_n (by omega), mu_n (by omega), mn_n (by omega)]; exact p6) (by omega) (by omega) tu_s
            have hM0 : ∀ a j, a < n → mu (mu (mu (mu (mu (mn M n (dv 7)) n 0 (zi o)) n 1 (zi d)) n 2 (zi v)) n 3 (zi w)) n 4 (zi nn) a j = M a j := fun a j ha => by
              rw [mu_n (by omega), mu_n (by omega), mu_n (by omega), mu_n (by omega), mu_n (by omega), mn_n (by omega)]
            have hgo : ∀ Q : zU → zS → Prop, z_go zP 59 0 [some (.ref x), some (zi k), some (zi o), some (zi d), some (zi v), some (zi w), some (zi nn), none] [] (hj T Ln M, n, u) Q ↔ Q (.inl (some (zi (Y 13 k + 1)))) (hj (tu T n 7) (lu Ln n 5) (mu (mu (mu (mu (mu (mu (mu (mn M n (dv 7)) n 0 (zi o)) n 1 (zi d)) n 2 (zi v)) n 3 (zi w)) n 4 (zi nn)) (A k + 1) (Y 13 k) (.ref n)) (A k) 3 (zi (Y 13 k + 1))), n + 1, u + 5) := by
              intro Q
              simp (disch := first | omega | (simp (disch := omega) only [tu_s, tu_n, lu_s, lu_n]; done) | (simp (disch := omega) only [tu_s, tu_n, lu_s, lu_n]; omega)) only [g59_0, g59_1, g59_2, g59_5, g59_5n, g59_7, g59_8, g59_8n, g59_10, g59_13, g59_14, g59_15, g59_17, g59_20, g59_20b, g59_23, g59_24, g59_27, g59_27b, g59_30, g59_32, g59_35, g59_35b, g59_38, g59_40, g59_43, g59_43b, g59_46, g59_56, g59_56n, g59_58, g59_61, g59_63, g59_66, g59_76, g59_76n, g59_78, g59_81, g59_81i, g59_82, g59_83, g59_84, g59_86, g59_88, g59_90, g59_93, g59_96, g59_96n, g59_98, g59_101, Int.reduceToNat, jtg, mu_s, mu_n, mu_j, mn_s, mn_n, jg_4_3, jn_7, Option.some.injEq, exists_eq_left', zkl_i, zkl_l, zkl_n, zkl_r, zkl_0, zc_v, zc_n, zc_t, zd_v, zd_n, mj_tg, true_and, ↓reduceIte, not_true_eq_false, not_false_eq_true, ↓if_pos, ↓if_neg, Int.reduceLE, Int.reduceLT, Int.reduceEq, Int.reduceAdd, s88_y hH (tgo_y d1) hA, hs, s76, s77, bI_f g1, bI_f g2, bI_f g3, bI_f g4, p6, hs49, hs32]
            have hnu : ∀ j, m_th Y j → ¬ m_us Y j k := fun j hj hh => d3 ((used_i hR).mpr ⟨j, hj, hh⟩)
            have hk1 := d1.1
            obtain ⟨z13, z14, z15, z16, z17, z18, z0⟩ := wd_s (Y := Y) (k := k) (o := o) (d := d) (v := v) (w := w) (nn := nn)
            have zf : ∀ (f : Nat) (e : Int), ¬ (13 ≤ f ∧ f ≤ 18) → ¬ f = 0 → m_wd Y k o d v w nn f e = Y f e := fun f e hf h0 => wd_f hf h0
            have zc : ∀ (f : Nat) (e : Int), ¬ cow f e = k → ¬ f = 0 → m_wd Y k o d v w nn f e = Y f e := fun f e hf h0 => wd_c (by omega) h0 hf
            have zn : ∀ (f : Nat) (e : Int), 14 ≤ f → f ≤ 18 → ¬ e = 24 * k + Y 13 k → m_wd Y k o d v w nn f e = Y f e := fun f e hf h0 he => wd_n hf h0 he
            have hRZ : RG (m_wd Y k o d v w nn) := RG_wd hR (by omega) f1 f2 f3 f4 n1 n2
            have hB := h.1.2.2.1
            have hn5 := h.1.2.2.2.2.2.2.2.2.2
            show CR 59 _ _ _ _ _ _ _ _ _ _ _ _ (zi (Y 13 k + 1)) (m_wd Y k o d v w nn)
            generalize m_wd Y k o d v w nn = Z at *
            have z3 := zf 3 k (by omega) (by omega)
            have z5 := zf 5 k (by omega) (by omega)
            have h9 := RZ_one (T' := tu T n 7) (Ln' := lu Ln n 5) (M' := mu (mu (mu (mu (mu (mu (mu (mn M n (dv 7)) n 0 (zi o)) n 1 (zi d)) n 2 (zi v)) n 3 (zi w)) n 4 (zi nn)) (A k + 1) (Y 13 k) (.ref n)) (A k) 3 (zi (Y 13 k + 1))) (W' := W2 W k (Y 13 k) n) (Ow' := O2 Ow n) (r := k) (n' := n + 1) (u' := u + 5) h d1 hRZ ⟨fun f e f1 f2 => zf f e (by omega) (by omega), fun f e f1 f2 => zf f e (by omega) (by omega), fun f e hf e0 he => zc f e he (by omega)⟩ (fun e => by
                by_cases hek : e = k
                · rw [hek, z13]; omega
                · rw [zc 13 e (cow_n (by omega) hek) (by omega)]; omega) (fun e he h9 => by rw [zf 9 e (by omega) (by omega)]; exact h9) (fun e he => zf 12 e (by omega) (by omega)) (.inr hnu) (fun e => by
                rw [zf 21 e (by omega) (by omega), zf 23 e (by omega) (by omega)]
                have := hB e
                omega) (fun a ha => by
                have := b1 a ha
                exact ⟨tu_n (by omega), lu_n (by omega), O2_n (by omega)⟩) (fun a j e1 e2 => by
                have := b1 a e1
                rw [mu_n (fun hh => e2 (by rw [hh]; exact a2)), mu_n (fun hh => e2 (by rw [hh]; exact p9)), hM0 a j (by omega)]) (fun i hi => by
                funext j
                exact W2_n (fun hh => hi hh.1)) (fun a ha => by
                rw [O2_n (by omega)]
                exact hn5 a (by omega)) (by omega) (by omega) ⟨fun hh => by omega, fun _ => ⟨⟨⟨?_, ?_, ?_⟩, ?_, ?_, ?_, ?_, fun j j1 j2 => ?_⟩, ⟨?_, ?_⟩, fun j j1 j2 => ?_⟩, fun hh => by omega, fun hh => by omega, fun hh => by omega, fun hh => by omega⟩
            · exact ⟨tu T n 7, lu Ln n 5, _, n + 1, u + 5, _, A, _, _, X, hgo, .inl ⟨z0, rfl⟩, h9.1, h9.2⟩
            · rw [tu_n (by omega)]; exact p1
            · rw [tu_n (by omega)]; exact p2'
            · rw [lu_n (by omega)]; exact p2''
            · rw [mu_j (by omega), mu_n (by omega), hM0 _ _ an]; exact p3
            · rw [mu_j (by omega), mu_n (by omega), hM0 _ _ an, z5]; exact p4
            · rw [mu_j (by omega), mu_n (by omega), hM0 _ _ an]; exact p5
            · rw [mu_s, z13]
            · rw [mu_n (by omega), z13]
              by_cases hj : j = Y 13 k
              · rw [hj, mu_s, if_pos (by omega), W2_y]
              · rw [mu_j hj, hM0 _ _ hA1, p7 j j1 j2]
                by_cases hj2 : j < Y 13 k
                · rw [if_pos hj2, if_pos (by omega), W2_n (fun hh => hj hh.2)]
                · rw [if_neg hj2, if_neg (by omega)]
            · rw [O2_n (by omega)]; exact p8
            · rw [O2_n (by omega)]; exact p9
            · rw [z13] at j2
              by_cases hj : j = Y 13 k
              · rw [hj, W2_y, z14, z15, z16, z17, z18, O2_y]
                refine ⟨⟨tu_s, ?_, ?_, ?_, ?_, ?_⟩, rfl⟩
                · rw [mu_n (by omega), mu_n (by omega), mu_j (by omega), mu_j (by omega), mu_j (by omega), mu_j (by omega), mu_s]
                · rw [mu_n (by omega), mu_n (by omega), mu_j (by omega), mu_j (by omega), mu_j (by omega), mu_s]
                · rw [mu_n (by omega), mu_n (by omega), mu_j (by omega), mu_j (by omega), mu_s]
                · rw [mu_n (by omega), mu_n (by omega), mu_j (by omega), mu_s]
                · rw [mu_n (by omega), mu_n (by omega), mu_s]
              · have e9 : W2 W k (Y 13 k) n k j = W k j := W2_n (fun hh => hj hh.2)
                obtain ⟨⟨t1, t2, t3, t4, t5, t6⟩, t7⟩ := p10 j j1 (by omega)
                have t8 := b1 (W k j) (by omega)
                have t9 := tne t1 p1 (by decide)
                have t10 := tne t1 p2' (by decide)
                have hM2 : ∀ i, mu (mu (mu (mu (mu (mu (mu (mn M n (dv 7)) n 0 (zi o)) n 1 (zi d)) n 2 (zi v)) n 3 (zi w)) n 4 (zi nn)) (A k + 1) (Y 13 k) (.ref n)) (A k) 3 (zi (Y 13 k + 1)) (W k j) i = M (W k j) i := fun i => by rw [mu_n t9, mu_n t10, hM0 _ _ t8]
                rw [e9, zn 14 _ (by omega) (by omega) (by omega), zn 15 _ (by omega) (by omega) (by omega), zn 16 _ (by omega) (by omega) (by omega), zn 17 _ (by omega) (by omega) (by omega), zn 18 _ (by omega) (by omega) (by omega), O2_n (by omega)]
                exact ⟨⟨by rw [tu_n (by omega)]; exact t1, by rw [hM2]; exact t2, by rw [hM2]; exact t3, by rw [hM2]; exact t4, by rw [hM2]; exact t5, by rw [hM2]; exact t6⟩, t7⟩
        · rw [if_neg d4]
          refine CR_th h (by omega) (by omega) hd1 (fun Q => ?_)
          by_cases f1 : 0 ≤ o ∧ o ≤ 7
          · have g1 : ¬ ¬ (0 ≤ o ∧ o ≤ 7) := fun hh => hh f1
            by_cases f2 : 0 ≤ d ∧ d ≤ 3
            · have g2 : ¬ ¬ (0 ≤ d ∧ d ≤ 3) := fun hh => hh f2
              by_cases f3 : 0 ≤ v ∧ v ≤ 3
              · have g3 : ¬ ¬ (0 ≤ v ∧ v ≤ 3) := fun hh => hh f3
                have f4 : ¬ (0 ≤ w ∧ w ≤ 3) := fun hh => d4 ⟨f1, f2, f3, hh⟩
                simp (disch := first | omega | (simp (disch := omega) only [tu_s, tu_n, lu_s, lu_n]; done) | (simp (disch := omega) only [tu_s, tu_n, lu_s, lu_n]; omega)) only [g59_0, g59_1, g59_2, g59_5, g59_5n, g59_7, g59_8, g59_8n, g59_10, g59_13, g59_14, g59_15, g59_17, g59_20, g59_20b, g59_23, g59_24, g59_27, g59_27b, g59_30, g59_32, g59_35, g59_35b, g59_38, g59_40, g59_43, g59_43b, g59_46, g59_56, g59_56n, g59_58, g59_61, g59_63, g59_66, g59_76, g59_76n, g59_78, g59_81, g59_81i, g59_82, g59_83, g59_84, g59_86, g59_88, g59_90, g59_93, g59_96, g59_96n, g59_98, g59_101, Int.reduceToNat, jtg, mu_s, mu_n, mu_j, mn_s, mn_n, jg_4_3, jn_7, Option.some.injEq, exists_eq_left', zkl_i, zkl_l, zkl_n, zkl_r, zkl_0, zc_v, zc_n, zc_t, zd_v, zd_n, mj_tg, true_and, ↓reduceIte, not_true_eq_false, not_false_eq_true, ↓if_pos, ↓if_neg, Int.reduceLE, Int.reduceLT, Int.reduceEq, Int.reduceAdd, s88_y hH (tgo_y d1) hA, hs, s76, s77, bI_f g1, bI_f g2, bI_f g3, bI_t f4]
              · simp (disch := first | omega | (simp (disch := omega) only [tu_s, tu_n, lu_s, lu_n]; done) | (simp (disch := omega) only [tu_s, tu_n, lu_s, lu_n]; omega)) only [g59_0, g59_1, g59_2, g59_5, g59_5n, g59_7, g59_8, g59_8n, g59_10, g59_13, g59_14, g59_15, g59_17, g59_20, g59_20b, g59_23, g59_24, g59_27, g59_27b, g59_30, g59_32, g59_35, g59_35b, g59_38, g59_40, g59_43, g59_43b, g59_46, g59_56, g59_56n, g59_58, g59_61, g59_63, g59_66, g59_76, g59_76n, g59_78, g59_81, g59_81i, g59_82, g59_83, g59_84, g59_86, g59_88, g59_90, g59_93, g59_96, g59_96n, g59_98, g59_101, Int.reduceToNat, jtg, mu_s, mu_n, mu_j, mn_s, mn_n, jg_4_3, jn_7, Option.some.injEq, exists_eq_left', zkl_i, zkl_l, zkl_n, zkl_r, zkl_0, zc_v, zc_n, zc_t, zd_v, zd_n, mj_tg, true_and, ↓reduceIte, not_true_eq_false, not_false_eq_true, ↓if_pos, ↓if_neg, Int.reduceLE, Int.reduceLT, Int.reduceEq, Int.reduceAdd, s88_y hH (tgo_y d1) hA, hs, s76, s77, bI_f g1, bI_f g2, bI_t f3]
            · simp (disch := first | omega | (simp (disch := omega) only [tu_s, tu_n, lu_s, lu_n]; done) | (simp (disch := omega) only [tu_s, tu_n, lu_s, lu_n]; omega)) only [g59_0, g59_1, g59_2, g59_5, g59_5n, g59_7, g59_8, g59_8n, g59_10, g59_13, g59_14, g59_15, g59_17, g59_20, g59_20b, g59_23, g59_24, g59_27, g59_27b, g59_30, g59_32, g59_35, g59_35b, g59_38, g59_40, g59_43, g59_43b, g59_46, g59_56, g59_56n, g59_58, g59_61, g59_63, g59_66, g59_76, g59_76n, g59_78, g59_81, g59_81i, g59_82, g59_83, g59_84, g59_86, g59_88, g59_90, g59_93, g59_96, g59_96n, g59_98, g59_101, Int.reduceToNat, jtg, mu_s, mu_n, mu_j, mn_s, mn_n, jg_4_3, jn_7, Option.some.injEq, exists_eq_left', zkl_i, zkl_l, zkl_n, zkl_r, zkl_0, zc_v, zc_n, zc_t, zd_v, zd_n, mj_tg, true_and, ↓reduceIte, not_true_eq_false, not_false_eq_true, ↓if_pos, ↓if_neg, Int.reduceLE, Int.reduceLT, Int.reduceEq, Int.reduceAdd, s88_y hH (tgo_y d1) hA, hs, s76, s77, bI_f g1, bI_t f2]
          · simp (disch := first | omega | (simp (disch := omega) only [tu_s, tu_n, lu_s, lu_n]; done) | (simp (disch := omega) only [tu_s, tu_n, lu_s, lu_n]; omega)) only [g59_0, g59_1, g59_2, g59_5, g59_5n, g59_7, g59_8, g59_8n, g59_10, g59_13, g59_14, g59_15, g59_17, g59_20, g59_20b, g59_23, g59_24, g59_27, g59_27b, g59_30, g59_32, g59_35, g59_35b, g59_38, g59_40, g59_43, g59_43b, g59_46, g59_56, g59_56n, g59_58, g59_61, g59_63, g59_66, g59_76, g59_76n, g59_78, g59_81, g59_81i, g59_82, g59_83, g59_84, g59_86, g59_88, g59_90, g59_93, g59_96, g59_96n, g59_98, g59_101, Int.reduceToNat, jtg, mu_s, mu_n, mu_j, mn_s, mn_n, jg_4_3, jn_7, Option.some.injEq, exists_eq_left', zkl_i, zkl_l, zkl_n, zkl_r, zkl_0, zc_v, zc_n, zc_t, zd_v, zd_n, mj_tg, true_and, ↓reduceIte, not_true_eq_false, not_false_eq_true, ↓if_pos, ↓if_neg, Int.reduceLE, Int.reduceLT, Int.reduceEq, Int.reduceAdd, s88_y hH (tgo_y d1) hA, hs, s76, s77, bI_t f1]
    · rw [if_neg d2]
      have hA : ¬ T (A k) = 4 := by rw [a1, e1]; exact d2
      refine CR_re h (by omega) (by omega) (by omega) (by omega) hd0 (fun Q => ?_)
      simp (disch := first | omega | (simp (disch := omega) only [tu_s, tu_n, lu_s, lu_n]; done) | (simp (disch := omega) only [tu_s, tu_n, lu_s, lu_n]; omega)) only [g59_0, g59_1, g59_2, g59_5, g59_5n, g59_7, g59_8, g59_8n, g59_10, g59_13, g59_14, g59_15, g59_17, g59_20, g59_20b, g59_23, g59_24, g59_27, g59_27b, g59_30, g59_32, g59_35, g59_35b, g59_38, g59_40, g59_43, g59_43b, g59_46, g59_56, g59_56n, g59_58, g59_61, g59_63, g59_66, g59_76, g59_76n, g59_78, g59_81, g59_81i, g59_82, g59_83, g59_84, g59_86, g59_88, g59_90, g59_93, g59_96, g59_96n, g59_98, g59_101, Int.reduceToNat, jtg, mu_s, mu_n, mu_j, mn_s, mn_n, jg_4_3, jn_7, Option.some.injEq, exists_eq_left', zkl_i, zkl_l, zkl_n, zkl_r, zkl_0, zc_v, zc_n, zc_t, zd_v, zd_n, mj_tg, true_and, ↓reduceIte, not_true_eq_false, not_false_eq_true, ↓if_pos, ↓if_neg, Int.reduceLE, Int.reduceLT, Int.reduceEq, Int.reduceAdd, s88_k hH (tgo_y d1) hA]
  · rw [if_neg d1]
    refine CR_re h (by omega) (by omega) (by omega) (by omega) hd0 (fun Q => ?_)
    simp (disch := first | omega | (simp (disch := omega) only [tu_s, tu_n, lu_s, lu_n]; done) | (simp (disch := omega) only [tu_s, tu_n, lu_s, lu_n]; omega)) only [g59_0, g59_1, g59_2, g59_5, g59_5n, g59_7, g59_8, g59_8n, g59_10, g59_13, g59_14, g59_15, g59_17, g59_20, g59_20b, g59_23, g59_24, g59_27, g59_27b, g59_30, g59_32, g59_35, g59_35b, g59_38, g59_40, g59_43, g59_43b, g59_46, g59_56, g59_56n, g59_58, g59_61, g59_63, g59_66, g59_76, g59_76n, g59_78, g59_81, g59_81i, g59_82, g59_83, g59_84, g59_86, g59_88, g59_90, g59_93, g59_96, g59_96n, g59_98, g59_101, Int.reduceToNat, jtg, mu_s, mu_n, mu_j, mn_s, mn_n, jg_4_3, jn_7, Option.some.injEq, exists_eq_left', zkl_i, zkl_l, zkl_n, zkl_r, zkl_0, zc_v, zc_n, zc_t, zd_v, zd_n, mj_tg, true_and, ↓reduceIte, not_true_eq_false, not_false_eq_true, ↓if_pos, ↓if_neg, Int.reduceLE, Int.reduceLT, Int.reduceEq, Int.reduceAdd, s88_n hH k1 k2 (tgo_n d1)]
end
