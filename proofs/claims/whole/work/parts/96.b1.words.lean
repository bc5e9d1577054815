/-! THE CLASS: words, machines, programs, a run's next step -/
/-- a word's object -/
def WdAt (T : Nat → Nat) (M : Nat → Int → Value) (a : Nat) (op d x y n : Int) : Prop := T a = 7 ∧ M a 0 = zi op ∧ M a 1 = zi d ∧ M a 2 = zi x ∧ M a 3 = zi y ∧ M a 4 = zi n
def MaAt (T : Nat → Nat) (M : Nat → Int → Value) (a : Nat) (bits places : Int) : Prop := T a = 2 ∧ M a 0 = zi 1 ∧ M a 1 = zi places ∧ M a 2 = zl (p2 bits - 1)
/-- a program's object, its words' addresses -/
def PrAt (T : Nat → Nat) (Ln : Nat → Int) (M : Nat → Int → Value) (a m : Nat) (W : Int → Nat) (w : Int) : Prop := (T a = 4 ∧ T (a + 1) = 104 ∧ Ln (a + 1) = 24) ∧ M a 0 = zi 2 ∧ M a 1 = .ref m ∧ M a 2 = .ref (a + 1) ∧ M a 3 = zi w ∧ ∀ j, 0 ≤ j → j < 24 → M (a + 1) j = if j < w then .ref (W j) else .null
section
variable {T : Nat → Nat} {Ln : Nat → Int} {M : Nat → Int → Value} {t : Nat × Nat} {Q : zU → zS → Prop} {a m : Nat} {op d x y n : Int}
theorem s76 {v lo hi : Int} {q : zS} (v1 : -2147483648 ≤ v) (v2 : v < 2147483648) (l1 : -2147483648 ≤ lo) (l2 : lo < 2147483648) (h1 : -2147483648 ≤ hi) (h2 : hi < 2147483648) : z_go zP 76 0 [some (zi v), some (zi lo), some (zi hi)] [] q Q ↔ Q (.inl (some (zi (bI (¬ (lo ≤ v ∧ v ≤ hi)))))) q := by
  by_cases c : lo ≤ v ∧ v ≤ hi
  · rw [bI_f (fun hh => hh c)]
    simp (disch := omega) only [g76_0, g76_1, g76_2, g76_5, g76_6, g76_7, g76_10, g76_11, g76_14, g76_15_0, g76_15_1, g76_15b, Option.some.injEq, exists_eq_left', zkl_i, zkl_l, zkl_n, zkl_r, zkl_0, zc_v, zc_n, zc_t, zd_v, zd_n, mj_tg, true_and, ↓reduceIte, not_true_eq_false, not_false_eq_true, ↓if_pos, ↓if_neg, Int.reduceLE, Int.reduceLT, Int.reduceEq, Int.reduceAdd]
  · rw [bI_t c]
    by_cases c1 : lo ≤ v
    · simp (disch := omega) only [g76_0, g76_1, g76_2, g76_5, g76_6, g76_7, g76_10, g76_11, g76_14, g76_15_0, g76_15_1, g76_15b, Option.some.injEq, exists_eq_left', zkl_i, zkl_l, zkl_n, zkl_r, zkl_0, zc_v, zc_n, zc_t, zd_v, zd_n, mj_tg, true_and, ↓reduceIte, not_true_eq_false, not_false_eq_true, ↓if_pos, ↓if_neg, Int.reduceLE, Int.reduceLT, Int.reduceEq, Int.reduceAdd]
    · simp (disch := omega) only [g76_0, g76_1, g76_2, g76_5, g76_6, g76_7, g76_10, g76_11, g76_14, g76_15_0, g76_15_1, g76_15b, Option.some.injEq, exists_eq_left', zkl_i, zkl_l, zkl_n, zkl_r, zkl_0, zc_v, zc_n, zc_t, zd_v, zd_n, mj_tg, true_and, ↓reduceIte, not_true_eq_false, not_false_eq_true, ↓if_pos, ↓if_neg, Int.reduceLE, Int.reduceLT, Int.reduceEq, Int.reduceAdd]
theorem s24 {b pl v : Int} (h : MaAt T M a b pl) (b1 : 0 ≤ b) (b2 : b ≤ 32) : z_go zP 24 0 [some (.ref a), some (zl v), none] [] (hj T Ln M, t) Q ↔ Q (.inl (some (zl (v % p2 b)))) (hj T Ln M, t) := by
  obtain ⟨h1, h2, h3, h4⟩ := h
  have e := cut_eq (v := v) b1 b2
  rw [llshl_1 b1 b2] at e
  simp (disch := omega) only [g24_0, g24_1, g24_2, g24_5, g24_6, Int.reduceToNat, jtg, mu_s, mu_n, mu_j, mn_s, mn_n, jg_2_2, Option.some.injEq, exists_eq_left', zkl_i, zkl_l, zkl_n, zkl_r, zkl_0, zc_v, zc_n, zc_t, zd_v, zd_n, mj_tg, true_and, ↓reduceIte, not_true_eq_false, not_false_eq_true, ↓if_pos, ↓if_neg, Int.reduceLE, Int.reduceLT, Int.reduceEq, Int.reduceAdd, h4, e]
theorem s25 {b pl v : Int} (h : MaAt T M a b pl) (b1 : 0 ≤ b) (b2 : b ≤ 32) (p1 : 0 < pl) (p3 : pl ≤ 8) (v1 : 0 ≤ v) (v2 : v < p2 b) : z_go zP 25 0 [some (.ref a), some (zl v), none] [] (hj T Ln M, t) Q ↔ Q (.inl (some (zi (v % pl)))) (hj T Ln M, t) := by
  have h' := h
  obtain ⟨h1, h2, h3, h4⟩ := h
  have hp := p2_le b2
  have e : v % p2 b = v := Int.emod_eq_of_lt v1 v2
  have e2 := tmod_nn (v := v) (m := pl) v1
  simp (disch := omega) only [g25_0, g25_1, g25_4, g25_5, g25_8, g25_9, g25_12, g25_13, g25_14, g25_17, g25_18, g25_21, g25_22, g25_23, g25_24, Int.reduceToNat, jtg, mu_s, mu_n, mu_j, mn_s, mn_n, jg_2_1, Option.some.injEq, exists_eq_left', zkl_i, zkl_l, zkl_n, zkl_r, zkl_0, zc_v, zc_n, zc_t, zd_v, zd_n, mj_tg, true_and, ↓reduceIte, not_true_eq_false, not_false_eq_true, ↓if_pos, ↓if_neg, Int.reduceLE, Int.reduceLT, Int.reduceEq, Int.reduceAdd, h3, s24 h' b1 b2, e, e2]
theorem s50 (h : WdAt T M a op d x y n) (o1 : 0 ≤ op) (o2 : op ≤ 7) : z_go zP 50 0 [some (.ref a)] [] (hj T Ln M, t) Q ↔ Q (.inl (some (zi (bI (op ≤ 3))))) (hj T Ln M, t) := by
  obtain ⟨h1, h2, -⟩ := h
  by_cases c : op ≤ 3
  · rw [bI_t c]
    simp (disch := omega) only [g50_0, g50_1, g50_4, g50_5, g50_8, g50_9, g50_12, g50_13_0, g50_13_1, g50_13b, Int.reduceToNat, jtg, mu_s, mu_n, mu_j, mn_s, mn_n, jg_7_0, Option.some.injEq, exists_eq_left', zkl_i, zkl_l, zkl_n, zkl_r, zkl_0, zc_v, zc_n, zc_t, zd_v, zd_n, mj_tg, true_and, ↓reduceIte, not_true_eq_false, not_false_eq_true, ↓if_pos, ↓if_neg, Int.reduceLE, Int.reduceLT, Int.reduceEq, Int.reduceAdd, h2]
  · rw [bI_f c]
    simp (disch := omega) only [g50_0, g50_1, g50_4, g50_5, g50_8, g50_9, g50_12, g50_13_0, g50_13_1, g50_13b, Int.reduceToNat, jtg, mu_s, mu_n, mu_j, mn_s, mn_n, jg_7_0, Option.some.injEq, exists_eq_left', zkl_i, zkl_l, zkl_n, zkl_r, zkl_0, zc_v, zc_n, zc_t, zd_v, zd_n, mj_tg, true_and, ↓reduceIte, not_true_eq_false, not_false_eq_true, ↓if_pos, ↓if_neg, Int.reduceLE, Int.reduceLT, Int.reduceEq, Int.reduceAdd, h2]
theorem s51 (h : WdAt T M a op d x y n) (o1 : 0 ≤ op) (o2 : op ≤ 7) : z_go zP 51 0 [some (.ref a)] [] (hj T Ln M, t) Q ↔ Q (.inl (some (zi (bI (op ≤ 4))))) (hj T Ln M, t) := by
  obtain ⟨h1, h2, -⟩ := h
  by_cases c : op ≤ 4
  · rw [bI_t c]
    simp (disch := omega) only [g51_0, g51_1, g51_4, g51_5, g51_8, g51_9, g51_12, g51_13_0, g51_13_1, g51_13b, Int.reduceToNat, jtg, mu_s, mu_n, mu_j, mn_s, mn_n, jg_7_0, Option.some.injEq, exists_eq_left', zkl_i, zkl_l, zkl_n, zkl_r, zkl_0, zc_v, zc_n, zc_t, zd_v, zd_n, mj_tg, true_and, ↓reduceIte, not_true_eq_false, not_false_eq_true, ↓if_pos, ↓if_neg, Int.reduceLE, Int.reduceLT, Int.reduceEq, Int.reduceAdd, h2]
  · rw [bI_f c]
    simp (disch := omega) only [g51_0, g51_1, g51_4, g51_5, g51_8, g51_9, g51_12, g51_13_0, g51_13_1, g51_13b, Int.reduceToNat, jtg, mu_s, mu_n, mu_j, mn_s, mn_n, jg_7_0, Option.some.injEq, exists_eq_left', zkl_i, zkl_l, zkl_n, zkl_r, zkl_0, zc_v, zc_n, zc_t, zd_v, zd_n, mj_tg, true_and, ↓reduceIte, not_true_eq_false, not_false_eq_true, ↓if_pos, ↓if_neg, Int.reduceLE, Int.reduceLT, Int.reduceEq, Int.reduceAdd, h2]
theorem s52 (h : WdAt T M a op d x y n) (o1 : 0 ≤ op) (o2 : op ≤ 7) : z_go zP 52 0 [some (.ref a)] [] (hj T Ln M, t) Q ↔ Q (.inl (some (zi (bI (¬ op = 0 ∧ ¬ op = 7))))) (hj T Ln M, t) := by
  obtain ⟨h1, h2, -⟩ := h
  by_cases c : op = 0
  · rw [bI_f (by omega)]
    simp (disch := omega) only [g52_0, g52_1, g52_4, g52_4b, g52_7, g52_8, g52_11, g52_13, g52_16, g52_17, g52_20, g52_21_0, g52_21_1, g52_21b, Int.reduceToNat, jtg, mu_s, mu_n, mu_j, mn_s, mn_n, jg_7_0, Option.some.injEq, exists_eq_left', zkl_i, zkl_l, zkl_n, zkl_r, zkl_0, zc_v, zc_n, zc_t, zd_v, zd_n, mj_tg, true_and, ↓reduceIte, not_true_eq_false, not_false_eq_true, ↓if_pos, ↓if_neg, Int.reduceLE, Int.reduceLT, Int.reduceEq, Int.reduceAdd, h2, c]
  · by_cases c2 : op = 7
    · rw [bI_f (by omega)]
      simp (disch := omega) only [g52_0, g52_1, g52_4, g52_4b, g52_7, g52_8, g52_11, g52_13, g52_16, g52_17, g52_20, g52_21_0, g52_21_1, g52_21b, Int.reduceToNat, jtg, mu_s, mu_n, mu_j, mn_s, mn_n, jg_7_0, Option.some.injEq, exists_eq_left', zkl_i, zkl_l, zkl_n, zkl_r, zkl_0, zc_v, zc_n, zc_t, zd_v, zd_n, mj_tg, true_and, ↓reduceIte, not_true_eq_false, not_false_eq_true, ↓if_pos, ↓if_neg, Int.reduceLE, Int.reduceLT, Int.reduceEq, Int.reduceAdd, h2]
    · rw [bI_t (by omega)]
      simp (disch := omega) only [g52_0, g52_1, g52_4, g52_4b, g52_7, g52_8, g52_11, g52_13, g52_16, g52_17, g52_20, g52_21_0, g52_21_1, g52_21b, Int.reduceToNat, jtg, mu_s, mu_n, mu_j, mn_s, mn_n, jg_7_0, Option.some.injEq, exists_eq_left', zkl_i, zkl_l, zkl_n, zkl_r, zkl_0, zc_v, zc_n, zc_t, zd_v, zd_n, mj_tg, true_and, ↓reduceIte, not_true_eq_false, not_false_eq_true, ↓if_pos, ↓if_neg, Int.reduceLE, Int.reduceLT, Int.reduceEq, Int.reduceAdd, h2]
theorem s53 (h : WdAt T M a op d x y n) (o1 : 0 ≤ op) (o2 : op ≤ 7) : z_go zP 53 0 [some (.ref a)] [] (hj T Ln M, t) Q ↔ Q (.inl (some (zi (bI (op = 5 ∨ (¬ op = 0 ∧ op ≤ 3)))))) (hj T Ln M, t) := by
  have h' := h
  obtain ⟨h1, h2, -⟩ := h
  by_cases c : op = 5
  · rw [bI_t (by omega)]
    simp (disch := omega) only [g53_0, g53_1, g53_4, g53_5, g53_8, g53_9, g53_12, g53_12b, g53_15, g53_16, g53_19, g53_19b, g53_22, g53_23, g53_26, g53_27_0, g53_27_1, g53_27b, Int.reduceToNat, jtg, mu_s, mu_n, mu_j, mn_s, mn_n, jg_7_0, Option.some.injEq, exists_eq_left', zkl_i, zkl_l, zkl_n, zkl_r, zkl_0, zc_v, zc_n, zc_t, zd_v, zd_n, mj_tg, true_and, ↓reduceIte, not_true_eq_false, not_false_eq_true, ↓if_pos, ↓if_neg, Int.reduceLE, Int.reduceLT, Int.reduceEq, Int.reduceAdd, h2]
  · by_cases c2 : op = 0
    · rw [bI_f (by omega)]
      simp (disch := omega) only [g53_0, g53_1, g53_4, g53_5, g53_8, g53_9, g53_12, g53_12b, g53_15, g53_16, g53_19, g53_19b, g53_22, g53_23, g53_26, g53_27_0, g53_27_1, g53_27b, Int.reduceToNat, jtg, mu_s, mu_n, mu_j, mn_s, mn_n, jg_7_0, Option.some.injEq, exists_eq_left', zkl_i, zkl_l, zkl_n, zkl_r, zkl_0, zc_v, zc_n, zc_t, zd_v, zd_n, mj_tg, true_and, ↓reduceIte, not_true_eq_false, not_false_eq_true, ↓if_pos, ↓if_neg, Int.reduceLE, Int.reduceLT, Int.reduceEq, Int.reduceAdd, h2]
    · by_cases c3 : op ≤ 3
      · rw [bI_t (by omega)]
        simp (disch := omega) only [g53_0, g53_1, g53_4, g53_5, g53_8, g53_9, g53_12, g53_12b, g53_15, g53_16, g53_19, g53_19b, g53_22, g53_23, g53_26, g53_27_0, g53_27_1, g53_27b, Int.reduceToNat, jtg, mu_s, mu_n, mu_j, mn_s, mn_n, jg_7_0, Option.some.injEq, exists_eq_left', zkl_i, zkl_l, zkl_n, zkl_r, zkl_0, zc_v, zc_n, zc_t, zd_v, zd_n, mj_tg, true_and, ↓reduceIte, not_true_eq_false, not_false_eq_true, ↓if_pos, ↓if_neg, Int.reduceLE, Int.reduceLT, Int.reduceEq, Int.reduceAdd, h2, s50 h' o1 o2, bI_t c3]
      · rw [bI_f (by omega)]
        simp (disch := omega) only [g53_0, g53_1, g53_4, g53_5, g53_8, g53_9, g53_12, g53_12b, g53_15, g53_16, g53_19, g53_19b, g53_22, g53_23, g53_26, g53_27_0, g53_27_1, g53_27b, Int.reduceToNat, jtg, mu_s, mu_n, mu_j, mn_s, mn_n, jg_7_0, Option.some.injEq, exists_eq_left', zkl_i, zkl_l, zkl_n, zkl_r, zkl_0, zc_v, zc_n, zc_t, zd_v, zd_n, mj_tg, true_and, ↓reduceIte, not_true_eq_false, not_false_eq_true, ↓if_pos, ↓if_neg, Int.reduceLE, Int.reduceLT, Int.reduceEq, Int.reduceAdd, h2, s50 h' o1 o2, bI_f c3]
theorem s54 {v : Int} (h : WdAt T M a op d x y n) (o1 : 0 ≤ op) (o2 : op ≤ 7) (v1 : 0 ≤ v) (v2 : v ≤ 4294967295) : z_go zP 54 0 [some (.ref a), some (zl v), none] [] (hj T Ln M, t) Q ↔ Q (.inl (some (zi (bI (op = 6 ∧ ¬ v = 0))))) (hj T Ln M, t) := by
  obtain ⟨h1, h2, -⟩ := h
  by_cases c : op = 6
  · by_cases c2 : v = 0
    · rw [bI_f (by omega)]
      simp (disch := omega) only [g54_0, g54_1, g54_4, g54_6, g54_9, g54_10, g54_11, g54_15, g54_16, g54_19, g54_20_0, g54_20_1, g54_20b, Int.reduceToNat, jtg, mu_s, mu_n, mu_j, mn_s, mn_n, jg_7_0, Option.some.injEq, exists_eq_left', zkl_i, zkl_l, zkl_n, zkl_r, zkl_0, zc_v, zc_n, zc_t, zd_v, zd_n, mj_tg, true_and, ↓reduceIte, not_true_eq_false, not_false_eq_true, ↓if_pos, ↓if_neg, Int.reduceLE, Int.reduceLT, Int.reduceEq, Int.reduceAdd, h2]
    · rw [bI_t (by omega)]
      simp (disch := omega) only [g54_0, g54_1, g54_4, g54_6, g54_9, g54_10, g54_11, g54_15, g54_16, g54_19, g54_20_0, g54_20_1, g54_20b, Int.reduceToNat, jtg, mu_s, mu_n, mu_j, mn_s, mn_n, jg_7_0, Option.some.injEq, exists_eq_left', zkl_i, zkl_l, zkl_n, zkl_r, zkl_0, zc_v, zc_n, zc_t, zd_v, zd_n, mj_tg, true_and, ↓reduceIte, not_true_eq_false, not_false_eq_true, ↓if_pos, ↓if_neg, Int.reduceLE, Int.reduceLT, Int.reduceEq, Int.reduceAdd, h2]
  · rw [bI_f (by omega)]
    simp (disch := omega) only [g54_0, g54_1, g54_4, g54_6, g54_9, g54_10, g54_11, g54_15, g54_16, g54_19, g54_20_0, g54_20_1, g54_20b, Int.reduceToNat, jtg, mu_s, mu_n, mu_j, mn_s, mn_n, jg_7_0, Option.some.injEq, exists_eq_left', zkl_i, zkl_l, zkl_n, zkl_r, zkl_0, zc_v, zc_n, zc_t, zd_v, zd_n, mj_tg, true_and, ↓reduceIte, not_true_eq_false, not_false_eq_true, ↓if_pos, ↓if_neg, Int.reduceLE, Int.reduceLT, Int.reduceEq, Int.reduceAdd, h2]
def w_res (op x y n : Int) : Int := if op = 1 then x + y else if op = 2 then x - y else if op = 3 then lland x y else n
theorem s55 {v w : Int} (h : WdAt T M a op d x y n) (o1 : 0 ≤ op) (o2 : op ≤ 7) (n1 : -2147483648 ≤ n) (n2 : n ≤ 2147483647) : z_go zP 55 0 [some (.ref a), some (zl v), none, some (zl w), none] [] (hj T Ln M, t) Q ↔ Q (.inl (some (zl (w_res op v w n)))) (hj T Ln M, t) := by
  obtain ⟨h1, h2, -, -, -, h6⟩ := h
  unfold w_res
  by_cases c1 : op = 1
  · subst c1
    simp (disch := omega) only [g55_0, g55_1, g55_4_1, g55_4_2, g55_4_3, g55_4_d, g55_32, g55_33, g55_34, g55_35, g55_36, g55_37, g55_38, g55_39, g55_40, g55_41, g55_42, g55_43, g55_44, g55_45, g55_48, g55_49, Int.reduceToNat, jtg, mu_s, mu_n, mu_j, mn_s, mn_n, jg_7_0, jg_7_4, Option.some.injEq, exists_eq_left', zkl_i, zkl_l, zkl_n, zkl_r, zkl_0, zc_v, zc_n, zc_t, zd_v, zd_n, mj_tg, true_and, ↓reduceIte, not_true_eq_false, not_false_eq_true, ↓if_pos, ↓if_neg, Int.reduceLE, Int.reduceLT, Int.reduceEq, Int.reduceAdd, h2, h6]
  · by_cases c2 : op = 2
    · subst c2
      simp (disch := omega) only [g55_0, g55_1, g55_4_1, g55_4_2, g55_4_3, g55_4_d, g55_32, g55_33, g55_34, g55_35, g55_36, g55_37, g55_38, g55_39, g55_40, g55_41, g55_42, g55_43, g55_44, g55_45, g55_48, g55_49, Int.reduceToNat, jtg, mu_s, mu_n, mu_j, mn_s, mn_n, jg_7_0, jg_7_4, Option.some.injEq, exists_eq_left', zkl_i, zkl_l, zkl_n, zkl_r, zkl_0, zc_v, zc_n, zc_t, zd_v, zd_n, mj_tg, true_and, ↓reduceIte, not_true_eq_false, not_false_eq_true, ↓if_pos, ↓if_neg, Int.reduceLE, Int.reduceLT, Int.reduceEq, Int.reduceAdd, h2, h6]
    · by_cases c3 : op = 3
      · subst c3
        simp (disch := omega) only [g55_0, g55_1, g55_4_1, g55_4_2, g55_4_3, g55_4_d, g55_32, g55_33, g55_34, g55_35, g55_36, g55_37, g55_38, g55_39, g55_40, g55_41, g55_42, g55_43, g55_44, g55_45, g55_48, g55_49, Int.reduceToNat, jtg, mu_s, mu_n, mu_j, mn_s, mn_n, jg_7_0, jg_7_4, Option.some.injEq, exists_eq_left', zkl_i, zkl_l, zkl_n, zkl_r, zkl_0, zc_v, zc_n, zc_t, zd_v, zd_n, mj_tg, true_and, ↓reduceIte, not_true_eq_false, not_false_eq_true, ↓if_pos, ↓if_neg, Int.reduceLE, Int.reduceLT, Int.reduceEq, Int.reduceAdd, h2, h6]
      · simp (disch := omega) only [g55_0, g55_1, g55_4_1, g55_4_2, g55_4_3, g55_4_d, g55_32, g55_33, g55_34, g55_35, g55_36, g55_37, g55_38, g55_39, g55_40, g55_41, g55_42, g55_43, g55_44, g55_45, g55_48, g55_49, Int.reduceToNat, jtg, mu_s, mu_n, mu_j, mn_s, mn_n, jg_7_0, jg_7_4, Option.some.injEq, exists_eq_left', zkl_i, zkl_l, zkl_n, zkl_r, zkl_0, zc_v, zc_n, zc_t, zd_v, zd_n, mj_tg, true_and, ↓reduceIte, not_true_eq_false, not_false_eq_true, ↓if_pos, ↓if_neg, Int.reduceLE, Int.reduceLT, Int.reduceEq, Int.reduceAdd, h2, h6]
theorem ixor_s {v m : Int} (v1 : -2147483648 ≤ v) (v2 : v < 2147483648) (m1 : 0 < m) (m2 : m < 1000) : -2147483648 ≤ ixor v m ∧ ixor v m < 2147483648 ∧ (0 ≤ ixor v m ↔ 0 ≤ v) := by
  unfold ixor
  refine ⟨Int32.minValue_le_toInt _, by have := Int32.toInt_lt (Int32.ofInt v ^^^ Int32.ofInt m); omega, ?_⟩
  have h1 : (Int32.ofInt v ^^^ Int32.ofInt m).toBitVec.msb = ((Int32.ofInt v).toBitVec.msb ^^ (Int32.ofInt m).toBitVec.msb) := by
    rw [Int32.toBitVec_xor, BitVec.msb_xor]
  have hm : (Int32.ofInt m).toBitVec.msb = false := by
    have h9 : (Int32.ofInt m).toBitVec.toInt = m := i_to (by omega) (by omega)
    rw [BitVec.msb_eq_toInt, h9]
    simp only [decide_eq_false_iff_not]
    omega
  rw [hm, Bool.xor_false] at h1
  have e0 : ∀ z : Int32, (0 ≤ z.toInt) ↔ z.toBitVec.msb = false := by
    intro z
    have h9 : z.toInt = z.toBitVec.toInt := rfl
    rw [BitVec.msb_eq_toInt, h9]
    simp only [decide_eq_false_iff_not]
    omega
  have e1 := e0 (Int32.ofInt v ^^^ Int32.ofInt m)
  have e2 := e0 (Int32.ofInt v)
  rw [e1, h1, ← e2, i_to v1 v2]
theorem s154 {v m : Int} {q : zS} (v1 : -2147483648 ≤ v) (v2 : v < 2147483648) (m1 : 0 < m) (m2 : m < 1000) : z_go zP 154 0 [some (zi v), some (zi m), none] [] q Q ↔ Q (.inl (some (zi (v % m)))) q := by
  obtain ⟨x1, x2, x3⟩ := ixor_s v1 v2 m1 m2
  obtain ⟨b1, b2⟩ := tmod_b (v := v) m1
  obtain ⟨d1, d2⟩ := mod_b (v := v) m1
  by_cases c : 0 ≤ v
  · have e := tmod_nn (v := v) (m := m) c
    have c2 := x3.mpr c
    simp (disch := omega) only [g154_0, g154_1, g154_2, g154_3, g154_4, g154_5, g154_6, g154_7, g154_10, g154_11, g154_11b, g154_14, g154_15, g154_16, g154_17, g154_18, g154_19, Option.some.injEq, exists_eq_left', zkl_i, zkl_l, zkl_n, zkl_r, zkl_0, zc_v, zc_n, zc_t, zd_v, zd_n, mj_tg, true_and, ↓reduceIte, not_true_eq_false, not_false_eq_true, ↓if_pos, ↓if_neg, Int.reduceLE, Int.reduceLT, Int.reduceEq, Int.reduceAdd, e]
  · have c2 : ¬ 0 ≤ ixor v m := fun hh => c (x3.mp hh)
    have h1 : v.tmod m = -((-v) % m) := by
      have : v.tmod m = -((-v).tmod m) := by rw [Int.neg_tmod, Int.neg_neg]
      rw [this, Int.tmod_eq_emod_of_nonneg (by omega)]
    have h2 := mod_b (v := -v) m1
    have h3 := Int.emod_add_mul_ediv (-v) m
    have h4 := Int.emod_add_mul_ediv v m
    by_cases d : v.tmod m = 0
    · have e : v % m = 0 := by
        rw [← tmod_tmod m1, d]
        simp [Int.tmod_self]
      simp (disch := omega) only [g154_0, g154_1, g154_2, g154_3, g154_4, g154_5, g154_6, g154_7, g154_10, g154_11, g154_11b, g154_14, g154_15, g154_16, g154_17, g154_18, g154_19, Option.some.injEq, exists_eq_left', zkl_i, zkl_l, zkl_n, zkl_r, zkl_0, zc_v, zc_n, zc_t, zd_v, zd_n, mj_tg, true_and, ↓reduceIte, not_true_eq_false, not_false_eq_true, ↓if_pos, ↓if_neg, Int.reduceLE, Int.reduceLT, Int.reduceEq, Int.reduceAdd, d, e]
    · have e : v.tmod m + m = v % m := by
        rw [← tmod_tmod (v := v) m1, tmod_nn (v := v.tmod m + m) (m := m) (by omega), Int.emod_eq_of_lt (by omega) (by omega)]
      simp (disch := omega) only [g154_0, g154_1, g154_2, g154_3, g154_4, g154_5, g154_6, g154_7, g154_10, g154_11, g154_11b, g154_14, g154_15, g154_16, g154_17, g154_18, g154_19, Option.some.injEq, exists_eq_left', zkl_i, zkl_l, zkl_n, zkl_r, zkl_0, zc_v, zc_n, zc_t, zd_v, zd_n, mj_tg, true_and, ↓reduceIte, not_true_eq_false, not_false_eq_true, ↓if_pos, ↓if_neg, Int.reduceLE, Int.reduceLT, Int.reduceEq, Int.reduceAdd, e]
theorem s155 {v w : Int} {q : zS} (v1 : -2147483648 ≤ v) (v2 : v < 2147483648) (w1 : -2147483648 ≤ w) (w2 : w < 2147483648) : z_go zP 155 0 [some (zi v), some (zi w)] [] q Q ↔ Q (.inl (some (zi (if v < w then w else v)))) q := by
  by_cases c : v < w
  · simp (disch := omega) only [g155_0, g155_1, g155_2, g155_5, g155_6, g155_9, g155_10, Option.some.injEq, exists_eq_left', zkl_i, zkl_l, zkl_n, zkl_r, zkl_0, zc_v, zc_n, zc_t, zd_v, zd_n, mj_tg, true_and, ↓reduceIte, not_true_eq_false, not_false_eq_true, ↓if_pos, ↓if_neg, Int.reduceLE, Int.reduceLT, Int.reduceEq, Int.reduceAdd]
  · simp (disch := omega) only [g155_0, g155_1, g155_2, g155_5, g155_6, g155_9, g155_10, Option.some.injEq, exists_eq_left', zkl_i, zkl_l, zkl_n, zkl_r, zkl_0, zc_v, zc_n, zc_t, zd_v, zd_n, mj_tg, true_and, ↓reduceIte, not_true_eq_false, not_false_eq_true, ↓if_pos, ↓if_neg, Int.reduceLE, Int.reduceLT, Int.reduceEq, Int.reduceAdd]
theorem s34 {W : Int → Nat} {w : Int} {b : Nat} (h : PrAt T Ln M a m W w) (hb : WdAt T M b op d x y n) (w1 : 0 < w) (w2 : w ≤ 24) (n1 : -2147483648 ≤ n) (n2 : n ≤ 2147483647) : z_go zP 34 0 [some (.ref a), some (.ref b)] [] (hj T Ln M, t) Q ↔ Q (.inl (some (zi (n % w)))) (hj T Ln M, t) := by
  obtain ⟨⟨h1, h2, h3⟩, h4, h5, h6, h7, h8⟩ := h
  obtain ⟨g1, -, -, -, -, g6⟩ := hb
  simp (disch := omega) only [g34_0, g34_1, g34_4, g34_5, g34_8, g34_9, g34_12, g34_12n, g34_13, g34_16, g34_17, g34_20, g34_23, Int.reduceToNat, jtg, mu_s, mu_n, mu_j, mn_s, mn_n, jg_4_3, jg_7_4, Option.some.injEq, exists_eq_left', zkl_i, zkl_l, zkl_n, zkl_r, zkl_0, zc_v, zc_n, zc_t, zd_v, zd_n, mj_tg, true_and, ↓reduceIte, not_true_eq_false, not_false_eq_true, ↓if_pos, ↓if_neg, Int.reduceLE, Int.reduceLT, Int.reduceEq, Int.reduceAdd, h7, g6, s154]
theorem s33_y {W : Int → Nat} {w j : Int} (h : PrAt T Ln M a m W w) (w2 : w ≤ 24) (j1 : 0 ≤ j) (j2 : j < w) : z_go zP 33 0 [some (.ref a), some (zi j)] [] (hj T Ln M, t) Q ↔ Q (.inl (some (.ref (W j)))) (hj T Ln M, t) := by
  obtain ⟨⟨h1, h2, h3⟩, h4, h5, h6, h7, h8⟩ := h
  have h9 := h8 j j1 (by omega)
  rw [if_pos j2] at h9
  have c : ¬ ¬ (0 ≤ j ∧ j ≤ w - 1) := by omega
  simp (disch := omega) only [g33_0, g33_1, g33_2, g33_3, g33_6, g33_7, g33_8, g33_11, g33_11b, g33_14, g33_15, g33_18, g33_19, g33_22, g33_23, g33_24, g33_24n, Int.reduceToNat, jtg, mu_s, mu_n, mu_j, mn_s, mn_n, jg_4_3, jg_4_2, jaa, Option.some.injEq, exists_eq_left', zkl_i, zkl_l, zkl_n, zkl_r, zkl_0, zc_v, zc_n, zc_t, zd_v, zd_n, mj_tg, true_and, ↓reduceIte, not_true_eq_false, not_false_eq_true, ↓if_pos, ↓if_neg, Int.reduceLE, Int.reduceLT, Int.reduceEq, Int.reduceAdd, h7, s76, bI_f c, h6, h9]
theorem s33_n {W : Int → Nat} {w j : Int} (h : PrAt T Ln M a m W w) (w1 : 0 ≤ w) (w2 : w ≤ 24) (j0 : -2147483648 ≤ j) (j1 : j < 2147483648) (j2 : ¬ (0 ≤ j ∧ j < w)) : z_go zP 33 0 [some (.ref a), some (zi j)] [] (hj T Ln M, t) Q ↔ Q (.inl (some .null)) (hj T Ln M, t) := by
  obtain ⟨⟨h1, h2, h3⟩, h4, h5, h6, h7, h8⟩ := h
  have c : ¬ (0 ≤ j ∧ j ≤ w - 1) := by omega
  simp (disch := omega) only [g33_0, g33_1, g33_2, g33_3, g33_6, g33_7, g33_8, g33_11, g33_11b, g33_14, g33_15, g33_18, g33_19, g33_22, g33_23, g33_24, g33_24n, Int.reduceToNat, jtg, mu_s, mu_n, mu_j, mn_s, mn_n, jg_4_3, jg_4_2, jaa, Option.some.injEq, exists_eq_left', zkl_i, zkl_l, zkl_n, zkl_r, zkl_0, zc_v, zc_n, zc_t, zd_v, zd_n, mj_tg, true_and, ↓reduceIte, not_true_eq_false, not_false_eq_true, ↓if_pos, ↓if_neg, Int.reduceLE, Int.reduceLT, Int.reduceEq, Int.reduceAdd, h7, s76, bI_t c]
end
