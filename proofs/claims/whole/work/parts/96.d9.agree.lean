/-! CALLS: agrees -/
section
variable {T T' : Nat → Nat} {Ln Ln' : Nat → Int} {M M' : Nat → Int → Value} {n u x n' u' a b : Nat} {A A' : Int → Nat} {W W' : Int → Int → Nat} {Ow Ow' : Nat → Int} {X X' : Int → Int} {Y Z : zY} {c n0 u0 k r pl j p cc : Int} {cd : Nat → Int} {Q : zU → zS → Prop} {t : Nat × Nat}
theorem s41_y {F G : Int → Int} {l : Int} (ha : T a = 101) (hb : T b = 101) (la : Ln a = l) (lb : Ln b = l) (l2 : l ≤ 8) (hF : ∀ j, 0 ≤ j → j < l → M a j = zl (F j)) (hG : ∀ j, 0 ≤ j → j < l → M b j = zl (G j)) (hr : ∀ j, (0 ≤ F j ∧ F j ≤ 4294967295) ∧ 0 ≤ G j ∧ G j ≤ 4294967295) (he : ∀ j, 0 ≤ j → j < l → F j = G j) : ∀ (m : Nat) (j : Int), 0 ≤ j → j + m = l → (z_go zP 41 11 [some (.ref a), some (.ref b), some (zi j)] [] (hj T Ln M, t) Q ↔ Q (.inl (some (zi 1))) (hj T Ln M, t)) := by
  intro m
  induction m with
  | zero =>
    intro j j1 j2
    simp (disch := omega) only [g41_0, g41_0n, g41_1, g41_2, g41_2n, g41_3, g41_4, g41_7, g41_8_0, g41_8_1, g41_8b, g41_9, g41_10, g41_11, g41_12, g41_12n, g41_13, g41_14, g41_17, g41_17n, g41_18, g41_19, g41_20, g41_20n, g41_21, g41_22, g41_23, g41_27, g41_28_0, g41_28_1, g41_28b, g41_29, g41_32, g41_35, g41_36_0, g41_36_1, g41_36b, Int.reduceToNat, jtg, mu_s, mu_n, mu_j, mn_s, mn_n, jln, jal, Option.some.injEq, exists_eq_left', zkl_i, zkl_l, zkl_n, zkl_r, zkl_0, zc_v, zc_n, zc_t, zd_v, zd_n, mj_tg, true_and, ↓reduceIte, not_true_eq_false, not_false_eq_true, ↓if_pos, ↓if_neg, Int.reduceLE, Int.reduceLT, Int.reduceEq, Int.reduceAdd]
  | succ m ih =>
    intro j j1 j2
    have e1 := hF j j1 (by omega)
    have e2 := hG j j1 (by omega)
    have e3 := he j j1 (by omega)
    have e4 := hr j
    rw [← ih (j + 1) (by omega) (by omega)]
    refine g41_11.trans ?_
    simp (disch := omega) only [g41_0, g41_0n, g41_1, g41_2, g41_2n, g41_3, g41_4, g41_7, g41_8_0, g41_8_1, g41_8b, g41_9, g41_10, g41_12, g41_12n, g41_13, g41_14, g41_17, g41_17n, g41_18, g41_19, g41_20, g41_20n, g41_21, g41_22, g41_23, g41_27, g41_28_0, g41_28_1, g41_28b, g41_29, g41_32, g41_35, g41_36_0, g41_36_1, g41_36b, Int.reduceToNat, jtg, mu_s, mu_n, mu_j, mn_s, mn_n, jln, jal, Option.some.injEq, exists_eq_left', zkl_i, zkl_l, zkl_n, zkl_r, zkl_0, zc_v, zc_n, zc_t, zd_v, zd_n, mj_tg, true_and, ↓reduceIte, not_true_eq_false, not_false_eq_true, ↓if_pos, ↓if_neg, Int.reduceLE, Int.reduceLT, Int.reduceEq, Int.reduceAdd, e1, e2, e3]
theorem s41_n {F G : Int → Int} {l : Int} (ha : T a = 101) (hb : T b = 101) (la : Ln a = l) (lb : Ln b = l) (l2 : l ≤ 8) (hF : ∀ j, 0 ≤ j → j < l → M a j = zl (F j)) (hG : ∀ j, 0 ≤ j → j < l → M b j = zl (G j)) (hr : ∀ j, (0 ≤ F j ∧ F j ≤ 4294967295) ∧ 0 ≤ G j ∧ G j ≤ 4294967295) : ∀ (m : Nat) (j : Int), 0 ≤ j → j + m = l → (∃ i, j ≤ i ∧ i < l ∧ ¬ F i = G i) → (z_go zP 41 11 [some (.ref a), some (.ref b), some (zi j)] [] (hj T Ln M, t) Q ↔ Q (.inl (some (zi 0))) (hj T Ln M, t)) := by
  intro m
  induction m with
  | zero =>
    rintro j j1 j2 ⟨i, i1, i2, -⟩
    omega
  | succ m ih =>
    rintro j j1 j2 ⟨i, i1, i2, i3⟩
    have e1 := hF j j1 (by omega)
    have e2 := hG j j1 (by omega)
    have e4 := hr j
    refine g41_11.trans ?_
    by_cases e3 : F j = G j
    · rw [← ih (j + 1) (by omega) (by omega) ⟨i, by
        by_cases hij : i = j
        · subst hij; exact absurd e3 i3
        · omega, i2, i3⟩]
      simp (disch := omega) only [g41_0, g41_0n, g41_1, g41_2, g41_2n, g41_3, g41_4, g41_7, g41_8_0, g41_8_1, g41_8b, g41_9, g41_10, g41_12, g41_12n, g41_13, g41_14, g41_17, g41_17n, g41_18, g41_19, g41_20, g41_20n, g41_21, g41_22, g41_23, g41_27, g41_28_0, g41_28_1, g41_28b, g41_29, g41_32, g41_35, g41_36_0, g41_36_1, g41_36b, Int.reduceToNat, jtg, mu_s, mu_n, mu_j, mn_s, mn_n, jln, jal, Option.some.injEq, exists_eq_left', zkl_i, zkl_l, zkl_n, zkl_r, zkl_0, zc_v, zc_n, zc_t, zd_v, zd_n, mj_tg, true_and, ↓reduceIte, not_true_eq_false, not_false_eq_true, ↓if_pos, ↓if_neg, Int.reduceLE, Int.reduceLT, Int.reduceEq, Int.reduceAdd, e1, e2, e3]
    · simp (disch := omega) only [g41_0, g41_0n, g41_1, g41_2, g41_2n, g41_3, g41_4, g41_7, g41_8_0, g41_8_1, g41_8b, g41_9, g41_10, g41_12, g41_12n, g41_13, g41_14, g41_17, g41_17n, g41_18, g41_19, g41_20, g41_20n, g41_21, g41_22, g41_23, g41_27, g41_28_0, g41_28_1, g41_28b, g41_29, g41_32, g41_35, g41_36_0, g41_36_1, g41_36b, Int.reduceToNat, jtg, mu_s, mu_n, mu_j, mn_s, mn_n, jln, jal, Option.some.injEq, exists_eq_left', zkl_i, zkl_l, zkl_n, zkl_r, zkl_0, zc_v, zc_n, zc_t, zd_v, zd_n, mj_tg, true_and, ↓reduceIte, not_true_eq_false, not_false_eq_true, ↓if_pos, ↓if_neg, Int.reduceLE, Int.reduceLT, Int.reduceEq, Int.reduceAdd, e1, e2, e3]
theorem s41y {F G : Int → Int} {l : Int} (ha : T a = 101) (hb : T b = 101) (la : Ln a = l) (lb : Ln b = l) (l1 : 0 ≤ l) (l2 : l ≤ 8) (hF : ∀ j, 0 ≤ j → j < l → M a j = zl (F j)) (hG : ∀ j, 0 ≤ j → j < l → M b j = zl (G j)) (hr : ∀ j, (0 ≤ F j ∧ F j ≤ 4294967295) ∧ 0 ≤ G j ∧ G j ≤ 4294967295) (he : ∀ j, 0 ≤ j → j < l → F j = G j) : z_go zP 41 0 [some (.ref a), some (.ref b), none] [] (hj T Ln M, t) Q ↔ Q (.inl (some (zi 1))) (hj T Ln M, t) := by
  rw [← s41_y (Q := Q) (t := t) ha hb la lb l2 hF hG hr he l.toNat 0 (by omega) (by omega)]
  simp (disch := omega) only [g41_0, g41_0n, g41_1, g41_2, g41_2n, g41_3, g41_4, g41_7, g41_8_0, g41_8_1, g41_8b, g41_9, g41_10, g41_12, g41_12n, g41_13, g41_14, g41_17, g41_17n, g41_18, g41_19, g41_20, g41_20n, g41_21, g41_22, g41_23, g41_27, g41_28_0, g41_28_1, g41_28b, g41_29, g41_32, g41_35, g41_36_0, g41_36_1, g41_36b, Int.reduceToNat, jtg, mu_s, mu_n, mu_j, mn_s, mn_n, jln, jal, Option.some.injEq, exists_eq_left', zkl_i, zkl_l, zkl_n, zkl_r, zkl_0, zc_v, zc_n, zc_t, zd_v, zd_n, mj_tg, true_and, ↓reduceIte, not_true_eq_false, not_false_eq_true, ↓if_pos, ↓if_neg, Int.reduceLE, Int.reduceLT, Int.reduceEq, Int.reduceAdd]
theorem s41n {F G : Int → Int} {l : Int} (ha : T a = 101) (hb : T b = 101) (la : Ln a = l) (lb : Ln b = l) (l1 : 0 ≤ l) (l2 : l ≤ 8) (hF : ∀ j, 0 ≤ j → j < l → M a j = zl (F j)) (hG : ∀ j, 0 ≤ j → j < l → M b j = zl (G j)) (hr : ∀ j, (0 ≤ F j ∧ F j ≤ 4294967295) ∧ 0 ≤ G j ∧ G j ≤ 4294967295) (he : ∃ i, 0 ≤ i ∧ i < l ∧ ¬ F i = G i) : z_go zP 41 0 [some (.ref a), some (.ref b), none] [] (hj T Ln M, t) Q ↔ Q (.inl (some (zi 0))) (hj T Ln M, t) := by
  rw [← s41_n (Q := Q) (t := t) ha hb la lb l2 hF hG hr l.toNat 0 (by omega) (by omega) he]
  simp (disch := omega) only [g41_0, g41_0n, g41_1, g41_2, g41_2n, g41_3, g41_4, g41_7, g41_8_0, g41_8_1, g41_8b, g41_9, g41_10, g41_12, g41_12n, g41_13, g41_14, g41_17, g41_17n, g41_18, g41_19, g41_20, g41_20n, g41_21, g41_22, g41_23, g41_27, g41_28_0, g41_28_1, g41_28b, g41_29, g41_32, g41_35, g41_36_0, g41_36_1, g41_36b, Int.reduceToNat, jtg, mu_s, mu_n, mu_j, mn_s, mn_n, jln, jal, Option.some.injEq, exists_eq_left', zkl_i, zkl_l, zkl_n, zkl_r, zkl_0, zc_v, zc_n, zc_t, zd_v, zd_n, mj_tg, true_and, ↓reduceIte, not_true_eq_false, not_false_eq_true, ↓if_pos, ↓if_neg, Int.reduceLE, Int.reduceLT, Int.reduceEq, Int.reduceAdd]
/-- two runs, one in column r, one in column s -/
theorem s40 {s q : Int} (hR : RG Z) (h1 : RN T Ln M A Z a r p) (h2 : RN T Ln M A Z b s q) (i1 : RI Z r p) (i2 : RI Z s q) (hpq : A p = A q ↔ p = q) (e1 : Z 5 r = p) (e2 : Z 6 s = q) (h8 : 1 ≤ Z 8 (Z 5 p) ∧ Z 8 (Z 5 p) ≤ 8) : z_go zP 40 0 [some (.ref a), some (.ref b)] [] (hj T Ln M, t) Q ↔ Q (.inl (some (zi (bI (m_eq Z r s))))) (hj T Ln M, t) := by
  obtain ⟨⟨r1, r2, r3, r4, r5⟩, r6, r7, r8, r9, r10, r11, r12, r13, r14⟩ := h1
  obtain ⟨⟨q1, q2, q3, q4, q5⟩, q6, q7, q8, q9, q10, q11, q12, q13, q14⟩ := h2
  obtain ⟨y1, y2⟩ : 0 ≤ Z 21 r ∧ Z 21 r ≤ 100000000 := hR 21 r
  obtain ⟨y3, y4⟩ : 0 ≤ Z 21 s ∧ Z 21 s ≤ 100000000 := hR 21 s
  by_cases d1 : p = q
  · subst d1
    by_cases d2 : Z 21 r = Z 21 s
    · have hrr : ∀ j, (0 ≤ Z 19 (12 * r + j) ∧ Z 19 (12 * r + j) ≤ 4294967295) ∧ 0 ≤ Z 19 (12 * s + j) ∧ Z 19 (12 * s + j) ≤ 4294967295 := fun j => ⟨hR 19 _, hR 19 _⟩
      have hrr' : ∀ j, (0 ≤ Z 19 (12 * r + (4 + j)) ∧ Z 19 (12 * r + (4 + j)) ≤ 4294967295) ∧ 0 ≤ Z 19 (12 * s + (4 + j)) ∧ Z 19 (12 * s + (4 + j)) ≤ 4294967295 := fun j => ⟨hR 19 _, hR 19 _⟩
      by_cases d3 : ∀ j, 0 ≤ j → j < 4 → Z 19 (12 * r + j) = Z 19 (12 * s + j)
      · have hs := fun (Q : zU → zS → Prop) => s41y (t := t) (Q := Q) r2 q2 r4 q4 (by omega) (by omega) r13 q13 hrr d3
        by_cases d4 : ∀ j, 0 ≤ j → j < Z 8 (Z 5 p) → Z 19 (12 * r + (4 + j)) = Z 19 (12 * s + (4 + j))
        · have hs2 := fun (Q : zU → zS → Prop) => s41y (t := t) (Q := Q) r3 q3 r5 q5 (by omega) (by omega) r14 q14 hrr' d4
          have hm : m_eq Z r s := by
            refine ⟨⟨by rw [e1, e2], d2⟩, fun i hi => ?_⟩
            rw [List.mem_range] at hi
            by_cases hi4 : (i : Int) < 4
            · exact d3 i (by omega) hi4
            · by_cases hi5 : (i : Int) < 4 + Z 8 (Z 5 p)
              · have := d4 (i - 4) (by omega) (by omega)
                rw [show (4 : Int) + (i - 4) = i by omega] at this
                exact this
              · rw [i1.2.1 i (by omega) (by omega), i2.2.1 i (by omega) (by omega)]
          rw [bI_t hm]
          simp (disch := omega) only [g40_0, g40_1, g40_4, g40_4n, g40_5, g40_8, g40_11, g40_12, g40_15, g40_15n, g40_16, g40_19, g40_22, g40_23, g40_26, g40_26n, g40_27, g40_30, g40_33, g40_33b, g40_36, g40_37, g40_40, g40_40n, g40_41, g40_44, g40_47, g40_47b, g40_50, g40_51, g40_54, g40_55_0, g40_55_1, g40_55b, Int.reduceToNat, jtg, mu_s, mu_n, mu_j, mn_s, mn_n, jg_5_1, jg_5_5, jg_5_2, jg_5_3, Option.some.injEq, exists_eq_left', zkl_i, zkl_l, zkl_n, zkl_r, zkl_0, zc_v, zc_n, zc_t, zd_v, zd_n, mj_tg, true_and, ↓reduceIte, not_true_eq_false, not_false_eq_true, ↓if_pos, ↓if_neg, Int.reduceLE, Int.reduceLT, Int.reduceEq, Int.reduceAdd, r7, q7, r11, q11, r8, q8, r9, q9, hs, hs2]
        · have hm : ¬ m_eq Z r s := fun hh => d4 (fun j j1 j2 => by
            have := hh.2 (4 + j).toNat (by rw [List.mem_range]; omega)
            rw [show (((4 + j).toNat : Nat) : Int) = 4 + j by omega] at this
            exact this)
          have hx : ∃ i, 0 ≤ i ∧ i < Z 8 (Z 5 p) ∧ ¬ Z 19 (12 * r + (4 + i)) = Z 19 (12 * s + (4 + i)) := by
            false_or_by_contra
            rename_i hh
            refine d4 (fun j j1 j2 => ?_)
            false_or_by_contra
            rename_i hh2
            exact hh ⟨j, j1, j2, hh2⟩
          have hs2 := fun (Q : zU → zS → Prop) => s41n (t := t) (Q := Q) r3 q3 r5 q5 (by omega) (by omega) r14 q14 hrr' hx
          rw [bI_f hm]
          simp (disch := omega) only [g40_0, g40_1, g40_4, g40_4n, g40_5, g40_8, g40_11, g40_12, g40_15, g40_15n, g40_16, g40_19, g40_22, g40_23, g40_26, g40_26n, g40_27, g40_30, g40_33, g40_33b, g40_36, g40_37, g40_40, g40_40n, g40_41, g40_44, g40_47, g40_47b, g40_50, g40_51, g40_54, g40_55_0, g40_55_1, g40_55b, Int.reduceToNat, jtg, mu_s, mu_n, mu_j, mn_s, mn_n, jg_5_1, jg_5_5, jg_5_2, jg_5_3, Option.some.injEq, exists_eq_left', zkl_i, zkl_l, zkl_n, zkl_r, zkl_0, zc_v, zc_n, zc_t, zd_v, zd_n, mj_tg, true_and, ↓reduceIte, not_true_eq_false, not_false_eq_true, ↓if_pos, ↓if_neg, Int.reduceLE, Int.reduceLT, Int.reduceEq, Int.reduceAdd, r7, q7, r11, q11, r8, q8, r9, q9, hs, hs2]
      · have hm : ¬ m_eq Z r s := fun hh => d3 (fun j j1 j2 => by
          have := hh.2 j.toNat (by rw [List.mem_range]; omega)
          rw [show ((j.toNat : Nat) : Int) = j by omega] at this
          exact this)
        have hx : ∃ i, 0 ≤ i ∧ i < 4 ∧ ¬ Z 19 (12 * r + i) = Z 19 (12 * s + i) := by
          false_or_by_contra
          rename_i hh
          refine d3 (fun j j1 j2 => ?_)
          false_or_by_contra
          rename_i hh2
          exact hh ⟨j, j1, j2, hh2⟩
        have hs := fun (Q : zU → zS → Prop) => s41n (t := t) (Q := Q) r2 q2 r4 q4 (by omega) (by omega) r13 q13 hrr hx
        rw [bI_f hm]
        simp (disch := omega) only [g40_0, g40_1, g40_4, g40_4n, g40_5, g40_8, g40_11, g40_12, g40_15, g40_15n, g40_16, g40_19, g40_22, g40_23, g40_26, g40_26n, g40_27, g40_30, g40_33, g40_33b, g40_36, g40_37, g40_40, g40_40n, g40_41, g40_44, g40_47, g40_47b, g40_50, g40_51, g40_54, g40_55_0, g40_55_1, g40_55b, Int.reduceToNat, jtg, mu_s, mu_n, mu_j, mn_s, mn_n, jg_5_1, jg_5_5, jg_5_2, jg_5_3, Option.some.injEq, exists_eq_left', zkl_i, zkl_l, zkl_n, zkl_r, zkl_0, zc_v, zc_n, zc_t, zd_v, zd_n, mj_tg, true_and, ↓reduceIte, not_true_eq_false, not_false_eq_true, ↓if_pos, ↓if_neg, Int.reduceLE, Int.reduceLT, Int.reduceEq, Int.reduceAdd, r7, q7, r11, q11, r8, q8, r9, q9, hs]
    · have hm : ¬ m_eq Z r s := fun hh => d2 hh.1.2
      rw [bI_f hm]
      simp (disch := omega) only [g40_0, g40_1, g40_4, g40_4n, g40_5, g40_8, g40_11, g40_12, g40_15, g40_15n, g40_16, g40_19, g40_22, g40_23, g40_26, g40_26n, g40_27, g40_30, g40_33, g40_33b, g40_36, g40_37, g40_40, g40_40n, g40_41, g40_44, g40_47, g40_47b, g40_50, g40_51, g40_54, g40_55_0, g40_55_1, g40_55b, Int.reduceToNat, jtg, mu_s, mu_n, mu_j, mn_s, mn_n, jg_5_1, jg_5_5, jg_5_2, jg_5_3, Option.some.injEq, exists_eq_left', zkl_i, zkl_l, zkl_n, zkl_r, zkl_0, zc_v, zc_n, zc_t, zd_v, zd_n, mj_tg, true_and, ↓reduceIte, not_true_eq_false, not_false_eq_true, ↓if_pos, ↓if_neg, Int.reduceLE, Int.reduceLT, Int.reduceEq, Int.reduceAdd, r7, q7, r11, q11]
  · have hm : ¬ m_eq Z r s := fun hh => d1 (by rw [← e1, ← e2]; exact hh.1.1)
    have hA : ¬ A p = A q := fun hh => d1 (hpq.mp hh)
    rw [bI_f hm]
    simp (disch := omega) only [g40_0, g40_1, g40_4, g40_4n, g40_5, g40_8, g40_11, g40_12, g40_15, g40_15n, g40_16, g40_19, g40_22, g40_23, g40_26, g40_26n, g40_27, g40_30, g40_33, g40_33b, g40_36, g40_37, g40_40, g40_40n, g40_41, g40_44, g40_47, g40_47b, g40_50, g40_51, g40_54, g40_55_0, g40_55_1, g40_55b, Int.reduceToNat, jtg, mu_s, mu_n, mu_j, mn_s, mn_n, jg_5_1, jg_5_5, jg_5_2, jg_5_3, Option.some.injEq, exists_eq_left', zkl_i, zkl_l, zkl_n, zkl_r, zkl_0, zc_v, zc_n, zc_t, zd_v, zd_n, mj_tg, true_and, ↓reduceIte, not_true_eq_false, not_false_eq_true, ↓if_pos, ↓if_neg, Int.reduceLE, Int.reduceLT, Int.reduceEq, Int.reduceAdd, r7, q7]
theorem s68_l {x : Nat} {s kk N : Int} {l3 : Option Value} (hN0 : -100000000 ≤ N) (hN : N ≤ 100000000) : ∀ (m : Nat) (Y : zY) (M : Nat → Int → Value) (i : Int), RG Y → PG T Ln M A W Y p → RN T Ln M A Y a cc p → RI Y cc p → (0 ≤ i ∧ i ≤ 100000000) → (N - i).toNat = m → Y 21 cc + m ≤ 100000000 → ∃ M' i', (∀ Q : zU → zS → Prop, z_go zP 68 31 [some (.ref x), some (zi s), some (zi kk), l3, some (.ref a), some (zi N), some (zi i)] [] (hj T Ln M, t) Q ↔ z_go zP 68 57 [some (.ref x), some (zi s), some (zi kk), l3, some (.ref a), some (zi N), some (zi i')] [] (hj T Ln M', t) Q) ∧ RN T Ln M' A (m_it Y cc p m) a cc p ∧ RI (m_it Y cc p m) cc p ∧ ∀ b j, ¬ b = a → ¬ b = a + 1 → ¬ b = a + 2 → M' b j = M b j := by
  intro m
  induction m with
  | zero =>
    intro Y M i hR hp hr hi i1 i2 h21
    refine ⟨M, i, fun Q => ?_, hr, hi, fun _ _ _ _ _ => rfl⟩
    simp (disch := first | omega | (simp (disch := omega) only [tu_s, tu_n, lu_s, lu_n]; done) | (simp (disch := omega) only [tu_s, tu_n, lu_s, lu_n]; omega)) only [g68_0, g68_1, g68_2, g68_5, g68_8, g68_8n, g68_9, g68_10, g68_11, g68_14, g68_14n, g68_16, g68_16n, g68_17, g68_20, g68_20n, g68_22, g68_25, g68_26, g68_28, g68_29, g68_31, g68_33, g68_35, g68_38, g68_38n, g68_40, g68_43, g68_43b, g68_46, g68_46n, g68_48, g68_51, g68_54, g68_59, g68_59n, g68_60, g68_63_0, g68_63_1, g68_63b, Int.reduceToNat, jtg, mu_s, mu_n, mu_j, mn_s, mn_n, jg_6_3, jg_5_5, jg_5_6, Option.some.injEq, exists_eq_left', zkl_i, zkl_l, zkl_n, zkl_r, zkl_0, zc_v, zc_n, zc_t, zd_v, zd_n, mj_tg, true_and, ↓reduceIte, not_true_eq_false, not_false_eq_true, ↓if_pos, ↓if_neg, Int.reduceLE, Int.reduceLT, Int.reduceEq, Int.reduceAdd]
  | succ m ih =>
    intro Y M i hR hp hr hi i1 i2 h21
    obtain ⟨⟨r1, -⟩, -, -, -, -, -, -, r12, -⟩ := id hr
    obtain ⟨y1, y2⟩ : 0 ≤ Y 22 cc ∧ Y 22 cc ≤ 1 := hR 22 cc
    unfold m_it
    by_cases he : Y 22 cc = 0
    · rw [if_pos he]
      obtain ⟨M1, k1, k2, k3, k4, k5⟩ := adv t hR hp hr hi he (by omega)
      have e21 : m_dw Y cc p 21 cc = Y 21 cc + 1 := by rw [m_dw_21, if_pos rfl]
      obtain ⟨M2, i', l1, l2, l3, l4⟩ := ih (m_dw Y cc p) M1 (i + 1) (RG_dw hR hp.2.2.2.2.2.1 (by omega)) k4 k2 k3 (by omega) (by omega) (by rw [e21]; omega)
      refine ⟨M2, i', fun Q => ?_, l2, l3, fun b j b1 b2 b3 => by rw [l4 b j b1 b2 b3, k5 b j b1 b2 b3]⟩
      rw [← l1 Q]
      rw [he] at r12
      refine g68_31.trans ?_
      simp (disch := first | omega | (simp (disch := omega) only [tu_s, tu_n, lu_s, lu_n]; done) | (simp (disch := omega) only [tu_s, tu_n, lu_s, lu_n]; omega)) only [g68_0, g68_1, g68_2, g68_5, g68_8, g68_8n, g68_9, g68_10, g68_11, g68_14, g68_14n, g68_16, g68_16n, g68_17, g68_20, g68_20n, g68_22, g68_25, g68_26, g68_28, g68_29, g68_33, g68_35, g68_38, g68_38n, g68_40, g68_43, g68_43b, g68_46, g68_46n, g68_48, g68_51, g68_54, g68_59, g68_59n, g68_60, g68_63_0, g68_63_1, g68_63b, Int.reduceToNat, jtg, mu_s, mu_n, mu_j, mn_s, mn_n, jg_6_3, jg_5_5, jg_5_6, Option.some.injEq, exists_eq_left', zkl_i, zkl_l, zkl_n, zkl_r, zkl_0, zc_v, zc_n, zc_t, zd_v, zd_n, mj_tg, true_and, ↓reduceIte, not_true_eq_false, not_false_eq_true, ↓if_pos, ↓if_neg, Int.reduceLE, Int.reduceLT, Int.reduceEq, Int.reduceAdd, r12, k1]
    · rw [if_neg he]
      refine ⟨M, i, fun Q => ?_, hr, hi, fun _ _ _ _ _ => rfl⟩
      have e1 : Y 22 cc = 1 := by omega
      rw [e1] at r12
      simp (disch := first | omega | (simp (disch := omega) only [tu_s, tu_n, lu_s, lu_n]; done) | (simp (disch := omega) only [tu_s, tu_n, lu_s, lu_n]; omega)) only [g68_0, g68_1, g68_2, g68_5, g68_8, g68_8n, g68_9, g68_10, g68_11, g68_14, g68_14n, g68_16, g68_16n, g68_17, g68_20, g68_20n, g68_22, g68_25, g68_26, g68_28, g68_29, g68_31, g68_33, g68_35, g68_38, g68_38n, g68_40, g68_43, g68_43b, g68_46, g68_46n, g68_48, g68_51, g68_54, g68_59, g68_59n, g68_60, g68_63_0, g68_63_1, g68_63b, Int.reduceToNat, jtg, mu_s, mu_n, mu_j, mn_s, mn_n, jg_6_3, jg_5_5, jg_5_6, Option.some.injEq, exists_eq_left', zkl_i, zkl_l, zkl_n, zkl_r, zkl_0, zc_v, zc_n, zc_t, zd_v, zd_n, mj_tg, true_and, ↓reduceIte, not_true_eq_false, not_false_eq_true, ↓if_pos, ↓if_neg, Int.reduceLE, Int.reduceLT, Int.reduceEq, Int.reduceAdd, r12]
theorem c68 {s : Int} (h : RZ T Ln M n u x A W Ow X Y c n0 u0) (hc : 0 ≤ c) (hc2 : c ≤ 4000) (k1 : -2147483648 ≤ s) (k2 : s < 2147483648) (r1 : -2147483648 ≤ r) (r2 : r < 2147483648) (hd0 : cd 0 = 1) : CR 68 [some (.ref x), some (zi s), some (zi r), none, none, none, none] T Ln M n u x Ow c n0 u0 cd (zi (a_agrees Y s r).1) (a_agrees Y s r).2 := by
  have hR := h.1.1
  have hH := h.1.2.2.2.1
  have hI := h.1.2.1
  have hB := h.1.2.2.1
  have hT : T x = 8 := hH.1.1
  unfold a_agrees
  by_cases d1 : m_th Y s
  · rw [if_pos d1]
    obtain ⟨t, a1, a2, a3, a4, a5⟩ := RLX_k h.1 d1
    obtain ⟨-, -, -, -, e1, -⟩ := kt_n a5
    by_cases d2 : Y 3 s = 5
    · rw [if_pos d2]
      have hA : T (A s) = 6 := by rw [a1]; exact e1.mpr d2
      obtain ⟨-, ⟨-, -, -, f4⟩, -, -, -, -, -, -, f8, f9, f10⟩ := t.2.2.2.2.1 d2
      by_cases d3 : m_th Y r
      · rw [if_pos d3]
        obtain ⟨t', a1', a2', a3', a4', a5'⟩ := RLX_k h.1 d3
        obtain ⟨-, -, e1', -⟩ := kt_n a5'
        by_cases d4 : Y 3 r = 3
        · rw [if_pos d4]
          have hA' : T (A r) = 5 := by rw [a1']; exact e1'.mpr d4
          obtain ⟨hrf, hw⟩ := (hI r d3.1.1 d3.1.2).2.2.2.1 d4
          obtain ⟨-, hrf', hw', -⟩ := (hI s d1.1.1 d1.1.2).2.2.2.2.2.1 d2
          have hp := rf_th d3 hrf
          have hp' := rf_th d1 hrf'
          obtain ⟨b1, ⟨g1, g2, g3⟩, b3⟩ := t'.2.2.1 d4
          have hb := hB r
          have hb' := hB s
          have q21 : 0 ≤ Y 21 r := (hR 21 r).1
          have q21' : 0 ≤ Y 21 s := (hR 21 s).1
          have z : ∀ (f : Nat) (e : Int), ¬ f = 0 → yu Y 0 0 0 f e = Y f e := fun f e hf => yu_f hf
          have hpg : PG T Ln M A W (yu Y 0 0 0) (Y 5 r) := PG_f (fun _ _ _ => rfl) (z 5 _ (by omega)) (z 7 _ (by omega)) (z 8 _ (by omega)) (z 13 _ (by omega)) (fun f j _ _ _ _ => z f _ (by omega)) (PG_of h hp hrf.2.1 hw)
          have hrn : RN T Ln M A (yu Y 0 0 0) (A r) r (Y 5 r) := b1
          have hri : RI (yu Y 0 0 0) r (Y 5 r) := b3
          obtain ⟨M1, i', l1, l2, l3, l4⟩ := s68_l (t := (n, u)) (x := x) (s := s) (kk := r) (N := Y 21 s - Y 21 r) (l3 := some (.ref (A s + 6))) (by omega) (by omega) (Y 21 s - Y 21 r - 0).toNat (yu Y 0 0 0) M 0 (RG_0 hR) hpg hrn hri (by omega) rfl (by rw [z 21 _ (by omega)]; omega)
          rw [Int.sub_zero] at l2 l3
          have h9 := RZ_run h d3 d4 hc hc2 (Y 21 s - Y 21 r).toNat (by omega) l2 l3 l4
          have e0 : m_ag Y s r 0 0 = 0 := by unfold m_ag; rw [m_it_f (by omega) (by omega) (by omega) (by omega), yu_s]
          refine ⟨T, Ln, M1, n, u, _, A, W, Ow, X, fun Q => ?_, .inl ⟨e0, rfl⟩, h9.1, h9.2⟩
          obtain ⟨-, -, -, -, m7, m8, -⟩ := prog_k h hp hrf.2.1
          obtain ⟨⟨-, -⟩, -, -, -, -, -, s11, -⟩ := id f8
          obtain ⟨⟨s1', -⟩, -⟩ := id f8
          obtain ⟨-, -, -, -, -, -, r11, -⟩ := id b1
          have hsr : ¬ s = r := fun hh => by rw [hh] at d2; omega
          have zf : ∀ (f : Nat) (e : Int), ¬ (19 ≤ f ∧ f ≤ 22) → ¬ f = 0 → m_ag Y s r f e = Y f e := fun f e hf h0 => by unfold m_ag; rw [m_it_f (by omega) (by omega) (by omega) (by omega), z f e h0]
          have zc : ∀ (f : Nat) (e : Int), ¬ cow f e = r → ¬ f = 0 → m_ag Y s r f e = Y f e := fun f e hf h0 => by
            unfold m_ag
            rw [it_c (.inl rfl) (by omega) (by omega) hf _ _ (RG_0 hR) (by rw [z 5 _ (by omega), z 8 _ (by omega)]; exact m8) (by rw [z 13 _ (by omega)]; exact hw) (by rw [z 21 _ (by omega)]; omega), z f e h0]
          have hf8 : RN T Ln M1 A (m_ag Y s r) (A s + 6) s (Y 6 s) := by
            unfold RN at f8 ⊢
            rw [zf 5 _ (by omega) (by omega), zf 8 _ (by omega) (by omega), zc 20 s (by unfold cow; rw [if_neg (by omega), if_pos (by omega)]; omega) (by omega), zc 21 s (by unfold cow; rw [if_neg (by omega), if_pos (by omega)]; omega) (by omega), zc 22 s (by unfold cow; rw [if_neg (by omega), if_pos (by omega)]; omega) (by omega)]
            have hne : ∀ i : Nat, 6 ≤ i → i < 9 → M1 (A s + i) = M (A s + i) := by
              intro i i1 i2
              funext j
              have := f9 i i2
              exact l4 _ j (fun hh => by rw [hh, g1] at this; omega) (fun hh => by rw [hh, g2] at this; omega) (fun hh => by rw [hh, g3] at this; omega)
            refine RnAt_f ⟨rfl, hne 6 (by omega) (by omega)⟩ ⟨rfl, rfl, hne 7 (by omega) (by omega)⟩ ⟨rfl, rfl, hne 8 (by omega) (by omega)⟩ rfl ((hR 8 _).2) (fun j j1 j2 => ?_) f8
            exact zc 19 _ (by unfold cow; rw [if_pos rfl]; omega) (by omega)
          have hi8 : RI (m_ag Y s r) s (Y 6 s) := RI_c (zf 5 _ (by omega) (by omega)) (zf 7 _ (by omega) (by omega)) (zf 8 _ (by omega) (by omega)) (by rw [zf 13 _ (by omega) (by omega)]; omega) (zc 20 s (by unfold cow; rw [if_neg (by omega), if_pos (by omega)]; omega) (by omega)) (fun j j1 j2 => zc 19 _ (by unfold cow; rw [if_pos rfl]; omega) (by omega)) ((hR 8 _).1) f10.2.1.1
          have hs40 := fun (Q : zU → zS → Prop) => s40 (t := (n, u)) (Q := Q) (p := Y 5 r) (q := Y 6 s) h9.1.1.1 l2 hf8 l3 hi8 (us_a h hp hp') (zf 5 r (by omega) (by omega)) (zf 6 s (by omega) (by omega)) (by show 1 ≤ m_ag Y s r 8 (m_ag Y s r 5 (Y 5 r)) ∧ m_ag Y s r 8 (m_ag Y s r 5 (Y 5 r)) ≤ 8; rw [zf 5 _ (by omega) (by omega), zf 8 _ (by omega) (by omega)]; exact m8)
          have hs40' : ∀ (Q : zU → zS → Prop), z_go zP 40 0 [some (.ref (A r)), some (.ref (A s + 6))] [] (hj T Ln M1, n, u) Q ↔ Q (.inl (some (zi (bI (m_eq (m_ag Y s r) r s))))) (hj T Ln M1, n, u) := hs40
          have y1 : Y 21 s ≤ 100000000 := (hR 21 s).2
          simp (disch := first | omega | (simp (disch := omega) only [tu_s, tu_n, lu_s, lu_n]; done) | (simp (disch := omega) only [tu_s, tu_n, lu_s, lu_n]; omega)) only [g68_0, g68_1, g68_2, g68_5, g68_8, g68_8n, g68_9, g68_10, g68_11, g68_14, g68_14n, g68_16, g68_16n, g68_17, g68_20, g68_20n, g68_22, g68_25, g68_26, g68_28, g68_29, g68_33, g68_35, g68_38, g68_38n, g68_40, g68_43, g68_43b, g68_46, g68_46n, g68_48, g68_51, g68_54, g68_57, g68_57n, g68_59, g68_59n, g68_60, g68_63_0, g68_63_1, g68_63b, Int.reduceToNat, jtg, mu_s, mu_n, mu_j, mn_s, mn_n, jg_6_3, jg_5_5, jg_5_6, Option.some.injEq, exists_eq_left', zkl_i, zkl_l, zkl_n, zkl_r, zkl_0, zc_v, zc_n, zc_t, zd_v, zd_n, mj_tg, true_and, ↓reduceIte, not_true_eq_false, not_false_eq_true, ↓if_pos, ↓if_neg, Int.reduceLE, Int.reduceLT, Int.reduceEq, Int.reduceAdd, s91_y hH (tgo_y d1) hA, s89_y hH (tgo_y d3) hA', f4, s11, r11, l1, hs40']
        · rw [if_neg d4]
          have hA' : ¬ T (A r) = 5 := by rw [a1', e1']; exact d4
          refine CR_re h (by omega) (by omega) (by omega) (by omega) hd0 (fun Q => ?_)
          simp (disch := first | omega | (simp (disch := omega) only [tu_s, tu_n, lu_s, lu_n]; done) | (simp (disch := omega) only [tu_s, tu_n, lu_s, lu_n]; omega)) only [g68_0, g68_1, g68_2, g68_5, g68_8, g68_8n, g68_9, g68_10, g68_11, g68_14, g68_14n, g68_16, g68_16n, g68_17, g68_20, g68_20n, g68_22, g68_25, g68_26, g68_28, g68_29, g68_33, g68_35, g68_38, g68_38n, g68_40, g68_43, g68_43b, g68_46, g68_46n, g68_48, g68_51, g68_54, g68_57, g68_57n, g68_59, g68_59n, g68_60, g68_63_0, g68_63_1, g68_63b, Int.reduceToNat, jtg, mu_s, mu_n, mu_j, mn_s, mn_n, jg_6_3, jg_5_5, jg_5_6, Option.some.injEq, exists_eq_left', zkl_i, zkl_l, zkl_n, zkl_r, zkl_0, zc_v, zc_n, zc_t, zd_v, zd_n, mj_tg, true_and, ↓reduceIte, not_true_eq_false, not_false_eq_true, ↓if_pos, ↓if_neg, Int.reduceLE, Int.reduceLT, Int.reduceEq, Int.reduceAdd, s91_y hH (tgo_y d1) hA, f4, s89_k hH (tgo_y d3) hA']
      · rw [if_neg d3]
        refine CR_re h (by omega) (by omega) (by omega) (by omega) hd0 (fun Q => ?_)
        simp (disch := first | omega | (simp (disch := omega) only [tu_s, tu_n, lu_s, lu_n]; done) | (simp (disch := omega) only [tu_s, tu_n, lu_s, lu_n]; omega)) only [g68_0, g68_1, g68_2, g68_5, g68_8, g68_8n, g68_9, g68_10, g68_11, g68_14, g68_14n, g68_16, g68_16n, g68_17, g68_20, g68_20n, g68_22, g68_25, g68_26, g68_28, g68_29, g68_33, g68_35, g68_38, g68_38n, g68_40, g68_43, g68_43b, g68_46, g68_46n, g68_48, g68_51, g68_54, g68_57, g68_57n, g68_59, g68_59n, g68_60, g68_63_0, g68_63_1, g68_63b, Int.reduceToNat, jtg, mu_s, mu_n, mu_j, mn_s, mn_n, jg_6_3, jg_5_5, jg_5_6, Option.some.injEq, exists_eq_left', zkl_i, zkl_l, zkl_n, zkl_r, zkl_0, zc_v, zc_n, zc_t, zd_v, zd_n, mj_tg, true_and, ↓reduceIte, not_true_eq_false, not_false_eq_true, ↓if_pos, ↓if_neg, Int.reduceLE, Int.reduceLT, Int.reduceEq, Int.reduceAdd, s91_y hH (tgo_y d1) hA, f4, s89_n hH r1 r2 (tgo_n d3)]
    · rw [if_neg d2]
      have hA : ¬ T (A s) = 6 := by rw [a1, e1]; exact d2
      refine CR_re h (by omega) (by omega) (by omega) (by omega) hd0 (fun Q => ?_)
      simp (disch := first | omega | (simp (disch := omega) only [tu_s, tu_n, lu_s, lu_n]; done) | (simp (disch := omega) only [tu_s, tu_n, lu_s, lu_n]; omega)) only [g68_0, g68_1, g68_2, g68_5, g68_8, g68_8n, g68_9, g68_10, g68_11, g68_14, g68_14n, g68_16, g68_16n, g68_17, g68_20, g68_20n, g68_22, g68_25, g68_26, g68_28, g68_29, g68_33, g68_35, g68_38, g68_38n, g68_40, g68_43, g68_43b, g68_46, g68_46n, g68_48, g68_51, g68_54, g68_57, g68_57n, g68_59, g68_59n, g68_60, g68_63_0, g68_63_1, g68_63b, Int.reduceToNat, jtg, mu_s, mu_n, mu_j, mn_s, mn_n, jg_6_3, jg_5_5, jg_5_6, Option.some.injEq, exists_eq_left', zkl_i, zkl_l, zkl_n, zkl_r, zkl_0, zc_v, zc_n, zc_t, zd_v, zd_n, mj_tg, true_and, ↓reduceIte, not_true_eq_false, not_false_eq_true, ↓if_pos, ↓if_neg, Int.reduceLE, Int.reduceLT, Int.reduceEq, Int.reduceAdd, s91_k hH (tgo_y d1) hA]
  · rw [if_neg d1]
    refine CR_re h (by omega) (by omega) (by omega) (by omega) hd0 (fun Q => ?_)
    simp (disch := first | omega | (simp (disch := omega) only [tu_s, tu_n, lu_s, lu_n]; done) | (simp (disch := omega) only [tu_s, tu_n, lu_s, lu_n]; omega)) only [g68_0, g68_1, g68_2, g68_5, g68_8, g68_8n, g68_9, g68_10, g68_11, g68_14, g68_14n, g68_16, g68_16n, g68_17, g68_20, g68_20n, g68_22, g68_25, g68_26, g68_28, g68_29, g68_33, g68_35, g68_38, g68_38n, g68_40, g68_43, g68_43b, g68_46, g68_46n, g68_48, g68_51, g68_54, g68_57, g68_57n, g68_59, g68_59n, g68_60, g68_63_0, g68_63_1, g68_63b, Int.reduceToNat, jtg, mu_s, mu_n, mu_j, mn_s, mn_n, jg_6_3, jg_5_5, jg_5_6, Option.some.injEq, exists_eq_left', zkl_i, zkl_l, zkl_n, zkl_r, zkl_0, zc_v, zc_n, zc_t, zd_v, zd_n, mj_tg, true_and, ↓reduceIte, not_true_eq_false, not_false_eq_true, ↓if_pos, ↓if_neg, Int.reduceLE, Int.reduceLT, Int.reduceEq, Int.reduceAdd, s91_n hH k1 k2 (tgo_n d1)]
end
