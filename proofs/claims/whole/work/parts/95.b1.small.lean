/-! THE MODEL: small methods -/
section
variable {o : Nat} {Y : zY} {h : zH} {t : Nat × Nat} {Q : zU → zS → Prop}
theorem s95 : z_go zP 95 0 [some (.ref o)] [] (mj o Y h, t) Q ↔ Q (.inl (some (zi (Y 0 0)))) (mj o Y h, t) := by
  simp only [g95_0, g95_1, g95_4, mg_0, mp_0, Option.some.injEq, exists_eq_left', zkl_i, zkl_l, zkl_n, zkl_r, zkl_0, zc_v, zc_n, zc_t, zd_v, zd_n, mj_tg, true_and, ↓reduceIte, not_true_eq_false, not_false_eq_true, ↓if_pos, ↓if_neg, Int.reduceLE, Int.reduceLT, Int.reduceEq, Int.reduceAdd]
theorem s96 {c : Int} : z_go zP 96 0 [some (.ref o), some (zi c)] [] (mj o Y h, t) Q ↔ Q (.inl (some (zi 0))) (mj o (yu Y 0 0 c) h, t) := by
  simp only [g96_0, g96_1, g96_2, g96_5, g96_6, mg_0, mp_0, Option.some.injEq, exists_eq_left', zkl_i, zkl_l, zkl_n, zkl_r, zkl_0, zc_v, zc_n, zc_t, zd_v, zd_n, mj_tg, true_and, ↓reduceIte, not_true_eq_false, not_false_eq_true, ↓if_pos, ↓if_neg, Int.reduceLE, Int.reduceLT, Int.reduceEq, Int.reduceAdd]
theorem s97 {v lo hi : Int} {q : zS} (v1 : -2147483648 ≤ v) (v2 : v < 2147483648) (l1 : -2147483648 ≤ lo) (l2 : lo < 2147483648) (h1 : -2147483648 ≤ hi) (h2 : hi < 2147483648) : z_go zP 97 0 [some (zi v), some (zi lo), some (zi hi)] [] q Q ↔ Q (.inl (some (zi (bI (lo ≤ v ∧ v ≤ hi))))) q := by
  by_cases c : lo ≤ v ∧ v ≤ hi
  · rw [bI_t c]
    simp (disch := omega) only [g97_0, g97_1, g97_2, g97_5, g97_6, g97_7, g97_10, g97_11, g97_14, g97_15_0, g97_15_1, g97_15b, Option.some.injEq, exists_eq_left', zkl_i, zkl_l, zkl_n, zkl_r, zkl_0, zc_v, zc_n, zc_t, zd_v, zd_n, mj_tg, true_and, ↓reduceIte, not_true_eq_false, not_false_eq_true, ↓if_pos, ↓if_neg, Int.reduceLE, Int.reduceLT, Int.reduceEq, Int.reduceAdd]
  · rw [bI_f c]
    by_cases c1 : lo ≤ v
    · simp (disch := omega) only [g97_0, g97_1, g97_2, g97_5, g97_6, g97_7, g97_10, g97_11, g97_14, g97_15_0, g97_15_1, g97_15b, Option.some.injEq, exists_eq_left', zkl_i, zkl_l, zkl_n, zkl_r, zkl_0, zc_v, zc_n, zc_t, zd_v, zd_n, mj_tg, true_and, ↓reduceIte, not_true_eq_false, not_false_eq_true, ↓if_pos, ↓if_neg, Int.reduceLE, Int.reduceLT, Int.reduceEq, Int.reduceAdd]
    · simp (disch := omega) only [g97_0, g97_1, g97_2, g97_5, g97_6, g97_7, g97_10, g97_11, g97_14, g97_15_0, g97_15_1, g97_15b, Option.some.injEq, exists_eq_left', zkl_i, zkl_l, zkl_n, zkl_r, zkl_0, zc_v, zc_n, zc_t, zd_v, zd_n, mj_tg, true_and, ↓reduceIte, not_true_eq_false, not_false_eq_true, ↓if_pos, ↓if_neg, Int.reduceLE, Int.reduceLT, Int.reduceEq, Int.reduceAdd]
theorem s98 {w c : Int} : z_go zP 98 0 [some (.ref o), some (zi w), some (zi c)] [] (mj o Y h, t) Q ↔ Q (.inl (some (zi 0))) (mj o (yu (yu Y 1 0 w) 0 0 c) h, t) := by
  simp only [g98_0, g98_1, g98_2, g98_5, g98_6, g98_7, g98_10, mg_1, mp_1, Option.some.injEq, exists_eq_left', zkl_i, zkl_l, zkl_n, zkl_r, zkl_0, zc_v, zc_n, zc_t, zd_v, zd_n, mj_tg, true_and, ↓reduceIte, not_true_eq_false, not_false_eq_true, ↓if_pos, ↓if_neg, Int.reduceLE, Int.reduceLT, Int.reduceEq, Int.reduceAdd, s96]
/-- a handle that lives -/
abbrev m_th (Y : zY) (k : Int) : Prop := (1 ≤ k ∧ k ≤ Y 2 0) ∧ ¬ Y 4 k = 0
theorem s99 {k : Int} (k1 : -2147483648 ≤ k) (k2 : k < 2147483648) (n1 : 0 ≤ Y 2 0) (n2 : Y 2 0 ≤ 60) (b1 : 0 ≤ Y 4 k) (b2 : Y 4 k ≤ 1) : z_go zP 99 0 [some (.ref o), some (zi k)] [] (mj o Y h, t) Q ↔ Q (.inl (some (zi (bI (m_th Y k))))) (mj o Y h, t) := by
  by_cases c : m_th Y k
  · rw [bI_t c]
    obtain ⟨⟨c1, c2⟩, c3⟩ := c
    simp (disch := omega) only [g99_0, g99_1, g99_2, g99_3, g99_6, g99_9, g99_9b, g99_12, g99_13, g99_16, g99_17, g99_18, g99_18b, g99_21, g99_22, g99_25, g99_26_0, g99_26_1, g99_26b, mg_2, mp_2, mg_4, ma_4, ms_4, Option.some.injEq, exists_eq_left', zkl_i, zkl_l, zkl_n, zkl_r, zkl_0, zc_v, zc_n, zc_t, zd_v, zd_n, mj_tg, true_and, ↓reduceIte, not_true_eq_false, not_false_eq_true, ↓if_pos, ↓if_neg, Int.reduceLE, Int.reduceLT, Int.reduceEq, Int.reduceAdd, s97]
  · rw [bI_f c]
    unfold m_th at c
    by_cases c1 : 1 ≤ k ∧ k ≤ Y 2 0
    · have c3 : Y 4 k = 0 := by
        false_or_by_contra
        exact c ⟨c1, by assumption⟩
      simp (disch := omega) only [g99_0, g99_1, g99_2, g99_3, g99_6, g99_9, g99_9b, g99_12, g99_13, g99_16, g99_17, g99_18, g99_18b, g99_21, g99_22, g99_25, g99_26_0, g99_26_1, g99_26b, mg_2, mp_2, mg_4, ma_4, ms_4, Option.some.injEq, exists_eq_left', zkl_i, zkl_l, zkl_n, zkl_r, zkl_0, zc_v, zc_n, zc_t, zd_v, zd_n, mj_tg, true_and, ↓reduceIte, not_true_eq_false, not_false_eq_true, ↓if_pos, ↓if_neg, Int.reduceLE, Int.reduceLT, Int.reduceEq, Int.reduceAdd, s97]
    · simp (disch := omega) only [g99_0, g99_1, g99_2, g99_3, g99_6, g99_9, g99_9b, g99_12, g99_13, g99_16, g99_17, g99_18, g99_18b, g99_21, g99_22, g99_25, g99_26_0, g99_26_1, g99_26b, mg_2, mp_2, mg_4, ma_4, ms_4, Option.some.injEq, exists_eq_left', zkl_i, zkl_l, zkl_n, zkl_r, zkl_0, zc_v, zc_n, zc_t, zd_v, zd_n, mj_tg, true_and, ↓reduceIte, not_true_eq_false, not_false_eq_true, ↓if_pos, ↓if_neg, Int.reduceLE, Int.reduceLT, Int.reduceEq, Int.reduceAdd, s97]
end
