/-! THE CLASS: the house, its helpers -/
/-- what is a thing's tag -/
abbrev isT (c : Nat) : Prop := c = 0 ∨ c = 2 ∨ c = 3 ∨ c = 4 ∨ c = 5 ∨ c = 6
def HsAt (T : Nat → Nat) (Ln : Nat → Int) (M : Nat → Int → Value) (x : Nat) (H : Int) (tg : Int → Option Nat) : Prop := (T x = 8 ∧ T (x + 1) = 103 ∧ Ln (x + 1) = 61) ∧ M x 0 = .ref (x + 1) ∧ M x 1 = zi H ∧ (0 ≤ H ∧ H ≤ 60) ∧ (∀ j, 0 ≤ j → j < 61 → M (x + 1) j = match tg j with | some b => .ref b | none => .null) ∧ ∀ j b, tg j = some b → (1 ≤ j ∧ j ≤ 60) ∧ isT (T b)
theorem isT_m {c : Nat} (h : isT c) : c ∈ zth := by
  rcases h with h | h | h | h | h | h <;> subst h <;> decide
section
variable {T : Nat → Nat} {Ln : Nat → Int} {M : Nat → Int → Value} {n u x : Nat} {Q : zU → zS → Prop} {H k : Int} {tg : Int → Option Nat}
theorem s80 {r : Int} (hT : T x = 8) : z_go zP 80 0 [some (.ref x), some (zi r)] [] (hj T Ln M, n, u) Q ↔ Q (.inr 0) (hj T Ln (mu M x 2 (zi r)), n + 1, u + 6) := by
  simp (disch := omega) only [g80_0, g80_1, g80_2, g80_5, Int.reduceToNat, jtg, mu_s, mu_n, mu_j, mn_s, mn_n, jp_8_2, Option.some.injEq, exists_eq_left', zkl_i, zkl_l, zkl_n, zkl_r, zkl_0, zc_v, zc_n, zc_t, zd_v, zd_n, mj_tg, true_and, ↓reduceIte, not_true_eq_false, not_false_eq_true, ↓if_pos, ↓if_neg, Int.reduceLE, Int.reduceLT, Int.reduceEq, Int.reduceAdd]
theorem s85_y {b : Nat} (h : HsAt T Ln M x H tg) (hk : tg k = some b) : z_go zP 85 0 [some (.ref x), some (zi k)] [] (hj T Ln M, n, u) Q ↔ Q (.inl (some (.ref b))) (hj T Ln M, n, u) := by
  obtain ⟨⟨h1, h2, h3⟩, h4, h5, h6, h7, h8⟩ := h
  obtain ⟨k1, -⟩ := h8 k b hk
  have h9 := h7 k (by omega) (by omega)
  rw [hk] at h9
  have c : ¬ ¬ (1 ≤ k ∧ k ≤ 60) := by omega
  simp (disch := omega) only [g85_0, g85_1, g85_2, g85_4, g85_7, g85_7b, g85_10, g85_11, g85_14, g85_15, g85_18, g85_19, g85_20, g85_20n, Int.reduceToNat, jtg, mu_s, mu_n, mu_j, mn_s, mn_n, jg_8_0, jaa, Option.some.injEq, exists_eq_left', zkl_i, zkl_l, zkl_n, zkl_r, zkl_0, zc_v, zc_n, zc_t, zd_v, zd_n, mj_tg, true_and, ↓reduceIte, not_true_eq_false, not_false_eq_true, ↓if_pos, ↓if_neg, Int.reduceLE, Int.reduceLT, Int.reduceEq, Int.reduceAdd, s76, bI_f c, h4, h9]
theorem s85_n (h : HsAt T Ln M x H tg) (k1 : -2147483648 ≤ k) (k2 : k < 2147483648) (hk : tg k = none) : z_go zP 85 0 [some (.ref x), some (zi k)] [] (hj T Ln M, n, u) Q ↔ Q (.inl (some .null)) (hj T Ln M, n, u) := by
  obtain ⟨⟨h1, h2, h3⟩, h4, h5, h6, h7, h8⟩ := h
  by_cases c : 1 ≤ k ∧ k ≤ 60
  · have h9 := h7 k (by omega) (by omega)
    rw [hk] at h9
    have c2 : ¬ ¬ (1 ≤ k ∧ k ≤ 60) := by omega
    simp (disch := omega) only [g85_0, g85_1, g85_2, g85_4, g85_7, g85_7b, g85_10, g85_11, g85_14, g85_15, g85_18, g85_19, g85_20, g85_20n, Int.reduceToNat, jtg, mu_s, mu_n, mu_j, mn_s, mn_n, jg_8_0, jaa, Option.some.injEq, exists_eq_left', zkl_i, zkl_l, zkl_n, zkl_r, zkl_0, zc_v, zc_n, zc_t, zd_v, zd_n, mj_tg, true_and, ↓reduceIte, not_true_eq_false, not_false_eq_true, ↓if_pos, ↓if_neg, Int.reduceLE, Int.reduceLT, Int.reduceEq, Int.reduceAdd, s76, bI_f c2, h4, h9]
  · simp (disch := omega) only [g85_0, g85_1, g85_2, g85_4, g85_7, g85_7b, g85_10, g85_11, g85_14, g85_15, g85_18, g85_19, g85_20, g85_20n, Int.reduceToNat, jtg, mu_s, mu_n, mu_j, mn_s, mn_n, jg_8_0, jaa, Option.some.injEq, exists_eq_left', zkl_i, zkl_l, zkl_n, zkl_r, zkl_0, zc_v, zc_n, zc_t, zd_v, zd_n, mj_tg, true_and, ↓reduceIte, not_true_eq_false, not_false_eq_true, ↓if_pos, ↓if_neg, Int.reduceLE, Int.reduceLT, Int.reduceEq, Int.reduceAdd, s76, bI_t c]
theorem s86_y {b : Nat} (h : HsAt T Ln M x H tg) (hk : tg k = some b) : z_go zP 86 0 [some (.ref x), some (zi k), none] [] (hj T Ln M, n, u) Q ↔ Q (.inl (some (.ref b))) (hj T Ln M, n, u) := by
  have hT : T x = 8 := h.1.1
  simp (disch := omega) only [g86_0, g86_1, g86_2, g86_5, g86_5n, g86_6, g86_6n, g86_7, g86_7n, g86_10, g86_11, g86_12, g86_15, g86_25, g86_25n, g86_26, g86_26n, Int.reduceToNat, jtg, mu_s, mu_n, mu_j, mn_s, mn_n, jp_8_2, Option.some.injEq, exists_eq_left', zkl_i, zkl_l, zkl_n, zkl_r, zkl_0, zc_v, zc_n, zc_t, zd_v, zd_n, mj_tg, true_and, ↓reduceIte, not_true_eq_false, not_false_eq_true, ↓if_pos, ↓if_neg, Int.reduceLE, Int.reduceLT, Int.reduceEq, Int.reduceAdd, s85_y h hk]
theorem s86_n (h : HsAt T Ln M x H tg) (k1 : -2147483648 ≤ k) (k2 : k < 2147483648) (hk : tg k = none) : z_go zP 86 0 [some (.ref x), some (zi k), none] [] (hj T Ln M, n, u) Q ↔ Q (.inr 0) (hj T Ln (mu M x 2 (zi 1)), n + 1, u + 6) := by
  have hT : T x = 8 := h.1.1
  simp (disch := omega) only [g86_0, g86_1, g86_2, g86_5, g86_5n, g86_6, g86_6n, g86_7, g86_7n, g86_10, g86_11, g86_12, g86_15, g86_25, g86_25n, g86_26, g86_26n, Int.reduceToNat, jtg, mu_s, mu_n, mu_j, mn_s, mn_n, jp_8_2, Option.some.injEq, exists_eq_left', zkl_i, zkl_l, zkl_n, zkl_r, zkl_0, zc_v, zc_n, zc_t, zd_v, zd_n, mj_tg, true_and, ↓reduceIte, not_true_eq_false, not_false_eq_true, ↓if_pos, ↓if_neg, Int.reduceLE, Int.reduceLT, Int.reduceEq, Int.reduceAdd, s85_n h k1 k2 hk]
theorem s87_y {b : Nat} (h : HsAt T Ln M x H tg) (hk : tg k = some b) (hb : T b = 2) : z_go zP 87 0 [some (.ref x), some (zi k), none, none] [] (hj T Ln M, n, u) Q ↔ Q (.inl (some (.ref b))) (hj T Ln M, n, u) := by
  have hT : T x = 8 := h.1.1
  have hs := hj_c (Ln := Ln) (M := M) hb (by omega)
  have hz : (2 : Nat) ∈ zth := by decide
  simp (disch := omega) only [g87_0, g87_1, g87_2, g87_5, g87_5n, g87_6, g87_6n, g87_7, g87_7n, g87_10, g87_10b, g87_13, g87_13n, g87_14, g87_17, g87_17n, g87_18, g87_18n, g87_19, g87_19n, g87_20, g87_21, g87_22, g87_25, Int.reduceToNat, jtg, mu_s, mu_n, mu_j, mn_s, mn_n, jp_8_2, Option.some.injEq, exists_eq_left', zkl_i, zkl_l, zkl_n, zkl_r, zkl_0, zc_v, zc_n, zc_t, zd_v, zd_n, mj_tg, true_and, ↓reduceIte, not_true_eq_false, not_false_eq_true, ↓if_pos, ↓if_neg, Int.reduceLE, Int.reduceLT, Int.reduceEq, Int.reduceAdd, s86_y h hk, hs, hz, bI_t, and_self]
theorem s87_k {b : Nat} (h : HsAt T Ln M x H tg) (hk : tg k = some b) (hb : ¬ T b = 2) : z_go zP 87 0 [some (.ref x), some (zi k), none, none] [] (hj T Ln M, n, u) Q ↔ Q (.inr 0) (hj T Ln (mu M x 2 (zi 2)), n + 1, u + 6) := by
  have hT : T x = 8 := h.1.1
  obtain ⟨-, hi⟩ := h.2.2.2.2.2 k b hk
  have hs := hj_s (Ln := Ln) (M := M) (show T b < 200 by omega)
  have hz := isT_m hi
  simp (disch := omega) only [g87_0, g87_1, g87_2, g87_5, g87_5n, g87_6, g87_6n, g87_7, g87_7n, g87_10, g87_10b, g87_13, g87_13n, g87_14, g87_17, g87_17n, g87_18, g87_18n, g87_19, g87_19n, g87_20, g87_21, g87_22, g87_25, Int.reduceToNat, jtg, mu_s, mu_n, mu_j, mn_s, mn_n, jp_8_2, Option.some.injEq, exists_eq_left', zkl_i, zkl_l, zkl_n, zkl_r, zkl_0, zc_v, zc_n, zc_t, zd_v, zd_n, mj_tg, true_and, ↓reduceIte, not_true_eq_false, not_false_eq_true, ↓if_pos, ↓if_neg, Int.reduceLE, Int.reduceLT, Int.reduceEq, Int.reduceAdd, s86_y h hk, hs, hz, bI_f hb]
theorem s87_n (h : HsAt T Ln M x H tg) (k1 : -2147483648 ≤ k) (k2 : k < 2147483648) (hk : tg k = none) : z_go zP 87 0 [some (.ref x), some (zi k), none, none] [] (hj T Ln M, n, u) Q ↔ Q (.inr 0) (hj T Ln (mu M x 2 (zi 1)), n + 1, u + 6) := by
  have hT : T x = 8 := h.1.1
  simp (disch := omega) only [g87_0, g87_1, g87_2, g87_5, g87_5n, g87_6, g87_6n, g87_7, g87_7n, g87_10, g87_10b, g87_13, g87_13n, g87_14, g87_17, g87_17n, g87_18, g87_18n, g87_19, g87_19n, g87_20, g87_21, g87_22, g87_25, Int.reduceToNat, jtg, mu_s, mu_n, mu_j, mn_s, mn_n, jp_8_2, Option.some.injEq, exists_eq_left', zkl_i, zkl_l, zkl_n, zkl_r, zkl_0, zc_v, zc_n, zc_t, zd_v, zd_n, mj_tg, true_and, ↓reduceIte, not_true_eq_false, not_false_eq_true, ↓if_pos, ↓if_neg, Int.reduceLE, Int.reduceLT, Int.reduceEq, Int.reduceAdd, s86_n h k1 k2 hk]
theorem s88_y {b : Nat} (h : HsAt T Ln M x H tg) (hk : tg k = some b) (hb : T b = 4) : z_go zP 88 0 [some (.ref x), some (zi k), none, none] [] (hj T Ln M, n, u) Q ↔ Q (.inl (some (.ref b))) (hj T Ln M, n, u) := by
  have hT : T x = 8 := h.1.1
  have hs := hj_c (Ln := Ln) (M := M) hb (by omega)
  have hz : (4 : Nat) ∈ zth := by decide
  simp (disch := omega) only [g88_0, g88_1, g88_2, g88_5, g88_5n, g88_6, g88_6n, g88_7, g88_7n, g88_10, g88_10b, g88_13, g88_13n, g88_14, g88_17, g88_17n, g88_18, g88_18n, g88_19, g88_19n, g88_20, g88_21, g88_22, g88_25, Int.reduceToNat, jtg, mu_s, mu_n, mu_j, mn_s, mn_n, jp_8_2, Option.some.injEq, exists_eq_left', zkl_i, zkl_l, zkl_n, zkl_r, zkl_0, zc_v, zc_n, zc_t, zd_v, zd_n, mj_tg, true_and, ↓reduceIte, not_true_eq_false, not_false_eq_true, ↓if_pos, ↓if_neg, Int.reduceLE, Int.reduceLT, Int.reduceEq, Int.reduceAdd, s86_y h hk, hs, hz, bI_t, and_self]
theorem s88_k {b : Nat} (h : HsAt T Ln M x H tg) (hk : tg k = some b) (hb : ¬ T b = 4) : z_go zP 88 0 [some (.ref x), some (zi k), none, none] [] (hj T Ln M, n, u) Q ↔ Q (.inr 0) (hj T Ln (mu M x 2 (zi 2)), n + 1, u + 6) := by
  have hT : T x = 8 := h.1.1
  obtain ⟨-, hi⟩ := h.2.2.2.2.2 k b hk
  have hs := hj_s (Ln := Ln) (M := M) (show T b < 200 by omega)
  have hz := isT_m hi
  simp (disch := omega) only [g88_0, g88_1, g88_2, g88_5, g88_5n, g88_6, g88_6n, g88_7, g88_7n, g88_10, g88_10b, g88_13, g88_13n, g88_14, g88_17, g88_17n, g88_18, g88_18n, g88_19, g88_19n, g88_20, g88_21, g88_22, g88_25, Int.reduceToNat, jtg, mu_s, mu_n, mu_j, mn_s, mn_n, jp_8_2, Option.some.injEq, exists_eq_left', zkl_i, zkl_l, zkl_n, zkl_r, zkl_0, zc_v, zc_n, zc_t, zd_v, zd_n, mj_tg, true_and, ↓reduceIte, not_true_eq_false, not_false_eq_true, ↓if_pos, ↓if_neg, Int.reduceLE, Int.reduceLT, Int.reduceEq, Int.reduceAdd, s86_y h hk, hs, hz, bI_f hb]
theorem s88_n (h : HsAt T Ln M x H tg) (k1 : -2147483648 ≤ k) (k2 : k < 2147483648) (hk : tg k = none) : z_go zP 88 0 [some (.ref x), some (zi k), none, none] [] (hj T Ln M, n, u) Q ↔ Q (.inr 0) (hj T Ln (mu M x 2 (zi 1)), n + 1, u + 6) := by
  have hT : T x = 8 := h.1.1
  simp (disch := omega) only [g88_0, g88_1, g88_2, g88_5, g88_5n, g88_6, g88_6n, g88_7, g88_7n, g88_10, g88_10b, g88_13, g88_13n, g88_14, g88_17, g88_17n, g88_18, g88_18n, g88_19, g88_19n, g88_20, g88_21, g88_22, g88_25, Int.reduceToNat, jtg, mu_s, mu_n, mu_j, mn_s, mn_n, jp_8_2, Option.some.injEq, exists_eq_left', zkl_i, zkl_l, zkl_n, zkl_r, zkl_0, zc_v, zc_n, zc_t, zd_v, zd_n, mj_tg, true_and, ↓reduceIte, not_true_eq_false, not_false_eq_true, ↓if_pos, ↓if_neg, Int.reduceLE, Int.reduceLT, Int.reduceEq, Int.reduceAdd, s86_n h k1 k2 hk]
theorem s89_y {b : Nat} (h : HsAt T Ln M x H tg) (hk : tg k = some b) (hb : T b = 5) : z_go zP 89 0 [some (.ref x), some (zi k), none, none] [] (hj T Ln M, n, u) Q ↔ Q (.inl (some (.ref b))) (hj T Ln M, n, u) := by
  have hT : T x = 8 := h.1.1
  have hs := hj_c (Ln := Ln) (M := M) hb (by omega)
  have hz : (5 : Nat) ∈ zth := by decide
  simp (disch := omega) only [g89_0, g89_1, g89_2, g89_5, g89_5n, g89_6, g89_6n, g89_7, g89_7n, g89_10, g89_10b, g89_13, g89_13n, g89_14, g89_17, g89_17n, g89_18, g89_18n, g89_19, g89_19n, g89_20, g89_21, g89_22, g89_25, Int.reduceToNat, jtg, mu_s, mu_n, mu_j, mn_s, mn_n, jp_8_2, Option.some.injEq, exists_eq_left', zkl_i, zkl_l, zkl_n, zkl_r, zkl_0, zc_v, zc_n, zc_t, zd_v, zd_n, mj_tg, true_and, ↓reduceIte, not_true_eq_false, not_false_eq_true, ↓if_pos, ↓if_neg, Int.reduceLE, Int.reduceLT, Int.reduceEq, Int.reduceAdd, s86_y h hk, hs, hz, bI_t, and_self]
theorem s89_k {b : Nat} (h : HsAt T Ln M x H tg) (hk : tg k = some b) (hb : ¬ T b = 5) : z_go zP 89 0 [some (.ref x), some (zi k), none, none] [] (hj T Ln M, n, u) Q ↔ Q (.inr 0) (hj T Ln (mu M x 2 (zi 2)), n + 1, u + 6) := by
  have hT : T x = 8 := h.1.1
  obtain ⟨-, hi⟩ := h.2.2.2.2.2 k b hk
  have hs := hj_s (Ln := Ln) (M := M) (show T b < 200 by omega)
  have hz := isT_m hi
  simp (disch := omega) only [g89_0, g89_1, g89_2, g89_5, g89_5n, g89_6, g89_6n, g89_7, g89_7n, g89_10, g89_10b, g89_13, g89_13n, g89_14, g89_17, g89_17n, g89_18, g89_18n, g89_19, g89_19n, g89_20, g89_21, g89_22, g89_25, Int.reduceToNat, jtg, mu_s, mu_n, mu_j, mn_s, mn_n, jp_8_2, Option.some.injEq, exists_eq_left', zkl_i, zkl_l, zkl_n, zkl_r, zkl_0, zc_v, zc_n, zc_t, zd_v, zd_n, mj_tg, true_and, ↓reduceIte, not_true_eq_false, not_false_eq_true, ↓if_pos, ↓if_neg, Int.reduceLE, Int.reduceLT, Int.reduceEq, Int.reduceAdd, s86_y h hk, hs, hz, bI_f hb]
theorem s89_n (h : HsAt T Ln M x H tg) (k1 : -2147483648 ≤ k) (k2 : k < 2147483648) (hk : tg k = none) : z_go zP 89 0 [some (.ref x), some (zi k), none, none] [] (hj T Ln M, n, u) Q ↔ Q (.inr 0) (hj T Ln (mu M x 2 (zi 1)), n + 1, u + 6) := by
  have hT : T x = 8 := h.1.1
  simp (disch := omega) only [g89_0, g89_1, g89_2, g89_5, g89_5n, g89_6, g89_6n, g89_7, g89_7n, g89_10, g89_10b, g89_13, g89_13n, g89_14, g89_17, g89_17n, g89_18, g89_18n, g89_19, g89_19n, g89_20, g89_21, g89_22, g89_25, Int.reduceToNat, jtg, mu_s, mu_n, mu_j, mn_s, mn_n, jp_8_2, Option.some.injEq, exists_eq_left', zkl_i, zkl_l, zkl_n, zkl_r, zkl_0, zc_v, zc_n, zc_t, zd_v, zd_n, mj_tg, true_and, ↓reduceIte, not_true_eq_false, not_false_eq_true, ↓if_pos, ↓if_neg, Int.reduceLE, Int.reduceLT, Int.reduceEq, Int.reduceAdd, s86_n h k1 k2 hk]
theorem s90_y {b : Nat} (h : HsAt T Ln M x H tg) (hk : tg k = some b) (hb : T b = 0) : z_go zP 90 0 [some (.ref x), some (zi k), none, none] [] (hj T Ln M, n, u) Q ↔ Q (.inl (some (.ref b))) (hj T Ln M, n, u) := by
  have hT : T x = 8 := h.1.1
  have hs := hj_c (Ln := Ln) (M := M) hb (by omega)
  have hz : (0 : Nat) ∈ zth := by decide
  simp (disch := omega) only [g90_0, g90_1, g90_2, g90_5, g90_5n, g90_6, g90_6n, g90_7, g90_7n, g90_10, g90_10b, g90_13, g90_13n, g90_14, g90_17, g90_17n, g90_18, g90_18n, g90_19, g90_19n, g90_20, g90_21, g90_22, g90_25, Int.reduceToNat, jtg, mu_s, mu_n, mu_j, mn_s, mn_n, jp_8_2, Option.some.injEq, exists_eq_left', zkl_i, zkl_l, zkl_n, zkl_r, zkl_0, zc_v, zc_n, zc_t, zd_v, zd_n, mj_tg, true_and, ↓reduceIte, not_true_eq_false, not_false_eq_true, ↓if_pos, ↓if_neg, Int.reduceLE, Int.reduceLT, Int.reduceEq, Int.reduceAdd, s86_y h hk, hs, hz, bI_t, and_self]
theorem s90_k {b : Nat} (h : HsAt T Ln M x H tg) (hk : tg k = some b) (hb : ¬ T b = 0) : z_go zP 90 0 [some (.ref x), some (zi k), none, none] [] (hj T Ln M, n, u) Q ↔ Q (.inr 0) (hj T Ln (mu M x 2 (zi 2)), n + 1, u + 6) := by
  have hT : T x = 8 := h.1.1
  obtain ⟨-, hi⟩ := h.2.2.2.2.2 k b hk
  have hs := hj_s (Ln := Ln) (M := M) (show T b < 200 by omega)
  have hz := isT_m hi
  simp (disch := omega) only [g90_0, g90_1, g90_2, g90_5, g90_5n, g90_6, g90_6n, g90_7, g90_7n, g90_10, g90_10b, g90_13, g90_13n, g90_14, g90_17, g90_17n, g90_18, g90_18n, g90_19, g90_19n, g90_20, g90_21, g90_22, g90_25, Int.reduceToNat, jtg, mu_s, mu_n, mu_j, mn_s, mn_n, jp_8_2, Option.some.injEq, exists_eq_left', zkl_i, zkl_l, zkl_n, zkl_r, zkl_0, zc_v, zc_n, zc_t, zd_v, zd_n, mj_tg, true_and, ↓reduceIte, not_true_eq_false, not_false_eq_true, ↓if_pos, ↓if_neg, Int.reduceLE, Int.reduceLT, Int.reduceEq, Int.reduceAdd, s86_y h hk, hs, hz, bI_f hb]
theorem s90_n (h : HsAt T Ln M x H tg) (k1 : -2147483648 ≤ k) (k2 : k < 2147483648) (hk : tg k = none) : z_go zP 90 0 [some (.ref x), some (zi k), none, none] [] (hj T Ln M, n, u) Q ↔ Q (.inr 0) (hj T Ln (mu M x 2 (zi 1)), n + 1, u + 6) := by
  have hT : T x = 8 := h.1.1
  simp (disch := omega) only [g90_0, g90_1, g90_2, g90_5, g90_5n, g90_6, g90_6n, g90_7, g90_7n, g90_10, g90_10b, g90_13, g90_13n, g90_14, g90_17, g90_17n, g90_18, g90_18n, g90_19, g90_19n, g90_20, g90_21, g90_22, g90_25, Int.reduceToNat, jtg, mu_s, mu_n, mu_j, mn_s, mn_n, jp_8_2, Option.some.injEq, exists_eq_left', zkl_i, zkl_l, zkl_n, zkl_r, zkl_0, zc_v, zc_n, zc_t, zd_v, zd_n, mj_tg, true_and, ↓reduceIte, not_true_eq_false, not_false_eq_true, ↓if_pos, ↓if_neg, Int.reduceLE, Int.reduceLT, Int.reduceEq, Int.reduceAdd, s86_n h k1 k2 hk]
theorem s91_y {b : Nat} (h : HsAt T Ln M x H tg) (hk : tg k = some b) (hb : T b = 6) : z_go zP 91 0 [some (.ref x), some (zi k), none, none] [] (hj T Ln M, n, u) Q ↔ Q (.inl (some (.ref b))) (hj T Ln M, n, u) := by
  have hT : T x = 8 := h.1.1
  have hs := hj_c (Ln := Ln) (M := M) hb (by omega)
  have hz : (6 : Nat) ∈ zth := by decide
  simp (disch := omega) only [g91_0, g91_1, g91_2, g91_5, g91_5n, g91_6, g91_6n, g91_7, g91_7n, g91_10, g91_10b, g91_13, g91_13n, g91_14, g91_17, g91_17n, g91_18, g91_18n, g91_19, g91_19n, g91_20, g91_21, g91_22, g91_25, Int.reduceToNat, jtg, mu_s, mu_n, mu_j, mn_s, mn_n, jp_8_2, Option.some.injEq, exists_eq_left', zkl_i, zkl_l, zkl_n, zkl_r, zkl_0, zc_v, zc_n, zc_t, zd_v, zd_n, mj_tg, true_and, ↓reduceIte, not_true_eq_false, not_false_eq_true, ↓if_pos, ↓if_neg, Int.reduceLE, Int.reduceLT, Int.reduceEq, Int.reduceAdd, s86_y h hk, hs, hz, bI_t, and_self]
theorem s91_k {b : Nat} (h : HsAt T Ln M x H tg) (hk : tg k = some b) (hb : ¬ T b = 6) : z_go zP 91 0 [some (.ref x), some (zi k), none, none] [] (hj T Ln M, n, u) Q ↔ Q (.inr 0) (hj T Ln (mu M x 2 (zi 2)), n + 1, u + 6) := by
  have hT : T x = 8 := h.1.1
  obtain ⟨-, hi⟩ := h.2.2.2.2.2 k b hk
  have hs := hj_s (Ln := Ln) (M := M) (show T b < 200 by omega)
  have hz := isT_m hi
  simp (disch := omega) only [g91_0, g91_1, g91_2, g91_5, g91_5n, g91_6, g91_6n, g91_7, g91_7n, g91_10, g91_10b, g91_13, g91_13n, g91_14, g91_17, g91_17n, g91_18, g91_18n, g91_19, g91_19n, g91_20, g91_21, g91_22, g91_25, Int.reduceToNat, jtg, mu_s, mu_n, mu_j, mn_s, mn_n, jp_8_2, Option.some.injEq, exists_eq_left', zkl_i, zkl_l, zkl_n, zkl_r, zkl_0, zc_v, zc_n, zc_t, zd_v, zd_n, mj_tg, true_and, ↓reduceIte, not_true_eq_false, not_false_eq_true, ↓if_pos, ↓if_neg, Int.reduceLE, Int.reduceLT, Int.reduceEq, Int.reduceAdd, s86_y h hk, hs, hz, bI_f hb]
theorem s91_n (h : HsAt T Ln M x H tg) (k1 : -2147483648 ≤ k) (k2 : k < 2147483648) (hk : tg k = none) : z_go zP 91 0 [some (.ref x), some (zi k), none, none] [] (hj T Ln M, n, u) Q ↔ Q (.inr 0) (hj T Ln (mu M x 2 (zi 1)), n + 1, u + 6) := by
  have hT : T x = 8 := h.1.1
  simp (disch := omega) only [g91_0, g91_1, g91_2, g91_5, g91_5n, g91_6, g91_6n, g91_7, g91_7n, g91_10, g91_10b, g91_13, g91_13n, g91_14, g91_17, g91_17n, g91_18, g91_18n, g91_19, g91_19n, g91_20, g91_21, g91_22, g91_25, Int.reduceToNat, jtg, mu_s, mu_n, mu_j, mn_s, mn_n, jp_8_2, Option.some.injEq, exists_eq_left', zkl_i, zkl_l, zkl_n, zkl_r, zkl_0, zc_v, zc_n, zc_t, zd_v, zd_n, mj_tg, true_and, ↓reduceIte, not_true_eq_false, not_false_eq_true, ↓if_pos, ↓if_neg, Int.reduceLE, Int.reduceLT, Int.reduceEq, Int.reduceAdd, s86_n h k1 k2 hk]
theorem s92_y {b : Nat} (h : HsAt T Ln M x H tg) (hk : tg k = some b) (hb : T b = 3) : z_go zP 92 0 [some (.ref x), some (zi k), none, none] [] (hj T Ln M, n, u) Q ↔ Q (.inl (some (.ref b))) (hj T Ln M, n, u) := by
  have hT : T x = 8 := h.1.1
  have hs := hj_c (Ln := Ln) (M := M) hb (by omega)
  have hz : (3 : Nat) ∈ zth := by decide
  simp (disch := omega) only [g92_0, g92_1, g92_2, g92_5, g92_5n, g92_6, g92_6n, g92_7, g92_7n, g92_10, g92_10b, g92_13, g92_13n, g92_14, g92_17, g92_17n, g92_18, g92_18n, g92_19, g92_19n, g92_20, g92_21, g92_22, g92_25, Int.reduceToNat, jtg, mu_s, mu_n, mu_j, mn_s, mn_n, jp_8_2, Option.some.injEq, exists_eq_left', zkl_i, zkl_l, zkl_n, zkl_r, zkl_0, zc_v, zc_n, zc_t, zd_v, zd_n, mj_tg, true_and, ↓reduceIte, not_true_eq_false, not_false_eq_true, ↓if_pos, ↓if_neg, Int.reduceLE, Int.reduceLT, Int.reduceEq, Int.reduceAdd, s86_y h hk, hs, hz, bI_t, and_self]
theorem s92_k {b : Nat} (h : HsAt T Ln M x H tg) (hk : tg k = some b) (hb : ¬ T b = 3) : z_go zP 92 0 [some (.ref x), some (zi k), none, none] [] (hj T Ln M, n, u) Q ↔ Q (.inr 0) (hj T Ln (mu M x 2 (zi 2)), n + 1, u + 6) := by
  have hT : T x = 8 := h.1.1
  obtain ⟨-, hi⟩ := h.2.2.2.2.2 k b hk
  have hs := hj_s (Ln := Ln) (M := M) (show T b < 200 by omega)
  have hz := isT_m hi
  simp (disch := omega) only [g92_0, g92_1, g92_2, g92_5, g92_5n, g92_6, g92_6n, g92_7, g92_7n, g92_10, g92_10b, g92_13, g92_13n, g92_14, g92_17, g92_17n, g92_18, g92_18n, g92_19, g92_19n, g92_20, g92_21, g92_22, g92_25, Int.reduceToNat, jtg, mu_s, mu_n, mu_j, mn_s, mn_n, jp_8_2, Option.some.injEq, exists_eq_left', zkl_i, zkl_l, zkl_n, zkl_r, zkl_0, zc_v, zc_n, zc_t, zd_v, zd_n, mj_tg, true_and, ↓reduceIte, not_true_eq_false, not_false_eq_true, ↓if_pos, ↓if_neg, Int.reduceLE, Int.reduceLT, Int.reduceEq, Int.reduceAdd, s86_y h hk, hs, hz, bI_f hb]
theorem s92_n (h : HsAt T Ln M x H tg) (k1 : -2147483648 ≤ k) (k2 : k < 2147483648) (hk : tg k = none) : z_go zP 92 0 [some (.ref x), some (zi k), none, none] [] (hj T Ln M, n, u) Q ↔ Q (.inr 0) (hj T Ln (mu M x 2 (zi 1)), n + 1, u + 6) := by
  have hT : T x = 8 := h.1.1
  simp (disch := omega) only [g92_0, g92_1, g92_2, g92_5, g92_5n, g92_6, g92_6n, g92_7, g92_7n, g92_10, g92_10b, g92_13, g92_13n, g92_14, g92_17, g92_17n, g92_18, g92_18n, g92_19, g92_19n, g92_20, g92_21, g92_22, g92_25, Int.reduceToNat, jtg, mu_s, mu_n, mu_j, mn_s, mn_n, jp_8_2, Option.some.injEq, exists_eq_left', zkl_i, zkl_l, zkl_n, zkl_r, zkl_0, zc_v, zc_n, zc_t, zd_v, zd_n, mj_tg, true_and, ↓reduceIte, not_true_eq_false, not_false_eq_true, ↓if_pos, ↓if_neg, Int.reduceLE, Int.reduceLT, Int.reduceEq, Int.reduceAdd, s86_n h k1 k2 hk]
theorem s93_r {b : Nat} (h : HsAt T Ln M x H tg) (hk : tg k = some b) (hb : T b = 5) : z_go zP 93 0 [some (.ref x), some (zi k), none, none] [] (hj T Ln M, n, u) Q ↔ Q (.inl (some (.ref b))) (hj T Ln M, n, u) := by
  have hT : T x = 8 := h.1.1
  have hs := hj_c (Ln := Ln) (M := M) hb (by omega)
  have hz : (5 : Nat) ∈ zth := by decide
  simp (disch := omega) only [g93_0, g93_1, g93_2, g93_5, g93_5n, g93_6, g93_6n, g93_7, g93_7n, g93_10, g93_10b, g93_13, g93_13n, g93_14, g93_17, g93_17n, g93_18, g93_18n, g93_19, g93_19n, g93_20, g93_20n, g93_21, g93_21n, g93_24, g93_24b, g93_27, g93_27n, g93_28, g93_31, g93_31n, g93_32, g93_32n, g93_33, g93_36, g93_36n, g93_37, g93_38, g93_39, g93_42, Int.reduceToNat, jtg, mu_s, mu_n, mu_j, mn_s, mn_n, jg_6_3, jp_8_2, Option.some.injEq, exists_eq_left', zkl_i, zkl_l, zkl_n, zkl_r, zkl_0, zc_v, zc_n, zc_t, zd_v, zd_n, mj_tg, true_and, ↓reduceIte, not_true_eq_false, not_false_eq_true, ↓if_pos, ↓if_neg, Int.reduceLE, Int.reduceLT, Int.reduceEq, Int.reduceAdd, s86_y h hk, hs, hz, bI_t, and_self]
theorem s93_s {b c : Nat} (h : HsAt T Ln M x H tg) (hk : tg k = some b) (hb : T b = 6) (hl : M b 3 = .ref c) : z_go zP 93 0 [some (.ref x), some (zi k), none, none] [] (hj T Ln M, n, u) Q ↔ Q (.inl (some (.ref c))) (hj T Ln M, n, u) := by
  have hT : T x = 8 := h.1.1
  have hs := hj_c (Ln := Ln) (M := M) hb (by omega)
  have hz : (6 : Nat) ∈ zth := by decide
  have h5 : ¬ (6 : Nat) = 5 := by decide
  simp (disch := omega) only [g93_0, g93_1, g93_2, g93_5, g93_5n, g93_6, g93_6n, g93_7, g93_7n, g93_10, g93_10b, g93_13, g93_13n, g93_14, g93_17, g93_17n, g93_18, g93_18n, g93_19, g93_19n, g93_20, g93_20n, g93_21, g93_21n, g93_24, g93_24b, g93_27, g93_27n, g93_28, g93_31, g93_31n, g93_32, g93_32n, g93_33, g93_36, g93_36n, g93_37, g93_38, g93_39, g93_42, Int.reduceToNat, jtg, mu_s, mu_n, mu_j, mn_s, mn_n, jg_6_3, jp_8_2, Option.some.injEq, exists_eq_left', zkl_i, zkl_l, zkl_n, zkl_r, zkl_0, zc_v, zc_n, zc_t, zd_v, zd_n, mj_tg, true_and, ↓reduceIte, not_true_eq_false, not_false_eq_true, ↓if_pos, ↓if_neg, Int.reduceLE, Int.reduceLT, Int.reduceEq, Int.reduceAdd, s86_y h hk, hs, hz, bI_t, bI_f h5, and_self, hl]
theorem s93_k {b : Nat} (h : HsAt T Ln M x H tg) (hk : tg k = some b) (hb : ¬ T b = 5) (hb2 : ¬ T b = 6) : z_go zP 93 0 [some (.ref x), some (zi k), none, none] [] (hj T Ln M, n, u) Q ↔ Q (.inr 0) (hj T Ln (mu M x 2 (zi 2)), n + 1, u + 6) := by
  have hT : T x = 8 := h.1.1
  obtain ⟨-, hi⟩ := h.2.2.2.2.2 k b hk
  have hs := hj_s (Ln := Ln) (M := M) (show T b < 200 by omega)
  have hz := isT_m hi
  simp (disch := omega) only [g93_0, g93_1, g93_2, g93_5, g93_5n, g93_6, g93_6n, g93_7, g93_7n, g93_10, g93_10b, g93_13, g93_13n, g93_14, g93_17, g93_17n, g93_18, g93_18n, g93_19, g93_19n, g93_20, g93_20n, g93_21, g93_21n, g93_24, g93_24b, g93_27, g93_27n, g93_28, g93_31, g93_31n, g93_32, g93_32n, g93_33, g93_36, g93_36n, g93_37, g93_38, g93_39, g93_42, Int.reduceToNat, jtg, mu_s, mu_n, mu_j, mn_s, mn_n, jg_6_3, jp_8_2, Option.some.injEq, exists_eq_left', zkl_i, zkl_l, zkl_n, zkl_r, zkl_0, zc_v, zc_n, zc_t, zd_v, zd_n, mj_tg, true_and, ↓reduceIte, not_true_eq_false, not_false_eq_true, ↓if_pos, ↓if_neg, Int.reduceLE, Int.reduceLT, Int.reduceEq, Int.reduceAdd, s86_y h hk, hs, hz, bI_f hb, bI_f hb2]
theorem s93_n (h : HsAt T Ln M x H tg) (k1 : -2147483648 ≤ k) (k2 : k < 2147483648) (hk : tg k = none) : z_go zP 93 0 [some (.ref x), some (zi k), none, none] [] (hj T Ln M, n, u) Q ↔ Q (.inr 0) (hj T Ln (mu M x 2 (zi 1)), n + 1, u + 6) := by
  have hT : T x = 8 := h.1.1
  simp (disch := omega) only [g93_0, g93_1, g93_2, g93_5, g93_5n, g93_6, g93_6n, g93_7, g93_7n, g93_10, g93_10b, g93_13, g93_13n, g93_14, g93_17, g93_17n, g93_18, g93_18n, g93_19, g93_19n, g93_20, g93_20n, g93_21, g93_21n, g93_24, g93_24b, g93_27, g93_27n, g93_28, g93_31, g93_31n, g93_32, g93_32n, g93_33, g93_36, g93_36n, g93_37, g93_38, g93_39, g93_42, Int.reduceToNat, jtg, mu_s, mu_n, mu_j, mn_s, mn_n, jg_6_3, jp_8_2, Option.some.injEq, exists_eq_left', zkl_i, zkl_l, zkl_n, zkl_r, zkl_0, zc_v, zc_n, zc_t, zd_v, zd_n, mj_tg, true_and, ↓reduceIte, not_true_eq_false, not_false_eq_true, ↓if_pos, ↓if_neg, Int.reduceLE, Int.reduceLT, Int.reduceEq, Int.reduceAdd, s86_n h k1 k2 hk]
theorem s79_y {b : Nat} (h : HsAt T Ln M x H tg) (hH : H < 60) (hb : isT (T b)) : z_go zP 79 0 [some (.ref x), some (.ref b)] [] (hj T Ln M, n, u) Q ↔ Q (.inl (some (zi (H + 1)))) (hj T Ln (mu (mu M x 1 (zi (H + 1))) (x + 1) (H + 1) (.ref b)), n, u) := by
  obtain ⟨⟨h1, h2, h3⟩, h4, h5, h6, h7, h8⟩ := h
  have e1 : ¬ x = x + 1 := by omega
  simp (disch := omega) only [g79_0, g79_1, g79_4, g79_6, g79_9, g79_10, g79_12, g79_15, g79_16, g79_16i, g79_17, g79_20, g79_21, g79_22, g79_25, g79_26, g79_29, g79_30, g79_33, g79_33n, g79_34, g79_35, g79_36, g79_39, Int.reduceToNat, jtg, mu_s, mu_n, mu_j, mn_s, mn_n, jg_8_1, jp_8_1, jg_8_0, jsan, jst, jsw, Option.some.injEq, exists_eq_left', zkl_i, zkl_l, zkl_n, zkl_r, zkl_0, zc_v, zc_n, zc_t, zd_v, zd_n, mj_tg, true_and, ↓reduceIte, not_true_eq_false, not_false_eq_true, ↓if_pos, ↓if_neg, Int.reduceLE, Int.reduceLT, Int.reduceEq, Int.reduceAdd, h4, h5]
theorem s79_n {b : Nat} (h : HsAt T Ln M x H tg) (hH : H = 60) : z_go zP 79 0 [some (.ref x), some (.ref b)] [] (hj T Ln M, n, u) Q ↔ Q (.inr 0) (hj T Ln (mu M x 2 (zi 6)), n + 1, u + 6) := by
  obtain ⟨⟨h1, h2, h3⟩, h4, h5, h6, h7, h8⟩ := h
  simp (disch := omega) only [g79_0, g79_1, g79_4, g79_6, g79_9, g79_10, g79_12, g79_15, g79_16, g79_16i, g79_17, g79_20, g79_21, g79_22, g79_25, g79_26, g79_29, g79_30, g79_33, g79_33n, g79_34, g79_35, g79_36, g79_39, Int.reduceToNat, jtg, mu_s, mu_n, mu_j, mn_s, mn_n, jg_8_1, jp_8_1, jg_8_0, jsan, jst, jsw, Option.some.injEq, exists_eq_left', zkl_i, zkl_l, zkl_n, zkl_r, zkl_0, zc_v, zc_n, zc_t, zd_v, zd_n, mj_tg, true_and, ↓reduceIte, not_true_eq_false, not_false_eq_true, ↓if_pos, ↓if_neg, Int.reduceLE, Int.reduceLT, Int.reduceEq, Int.reduceAdd, h4, h5, s80 h1]
theorem s82_y {a b : Nat} (hT : T x = 8) (e : a = b) : z_go zP 82 0 [some (.ref x), some (.ref a), some (.ref b)] [] (hj T Ln M, n, u) Q ↔ Q (.inl none) (hj T Ln M, n, u) := by
  simp (disch := omega) only [g82_0, g82_0n, g82_1, g82_1n, g82_2, g82_5, g82_6, g82_7, g82_10, Int.reduceToNat, jtg, mu_s, mu_n, mu_j, mn_s, mn_n, Option.some.injEq, exists_eq_left', zkl_i, zkl_l, zkl_n, zkl_r, zkl_0, zc_v, zc_n, zc_t, zd_v, zd_n, mj_tg, true_and, ↓reduceIte, not_true_eq_false, not_false_eq_true, ↓if_pos, ↓if_neg, Int.reduceLE, Int.reduceLT, Int.reduceEq, Int.reduceAdd]
theorem s82_n {a b : Nat} (hT : T x = 8) (e : ¬ a = b) : z_go zP 82 0 [some (.ref x), some (.ref a), some (.ref b)] [] (hj T Ln M, n, u) Q ↔ Q (.inr 0) (hj T Ln (mu M x 2 (zi 4)), n + 1, u + 6) := by
  simp (disch := omega) only [g82_0, g82_0n, g82_1, g82_1n, g82_2, g82_5, g82_6, g82_7, g82_10, Int.reduceToNat, jtg, mu_s, mu_n, mu_j, mn_s, mn_n, Option.some.injEq, exists_eq_left', zkl_i, zkl_l, zkl_n, zkl_r, zkl_0, zc_v, zc_n, zc_t, zd_v, zd_n, mj_tg, true_and, ↓reduceIte, not_true_eq_false, not_false_eq_true, ↓if_pos, ↓if_neg, Int.reduceLE, Int.reduceLT, Int.reduceEq, Int.reduceAdd, s80 hT]
theorem s83_y {a : Nat} {w : Int} (hT : T x = 8) (ha : T a = 4) (hw : M a 3 = zi w) (w1 : 0 < w) (w2 : w ≤ 24) : z_go zP 83 0 [some (.ref x), some (.ref a)] [] (hj T Ln M, n, u) Q ↔ Q (.inl none) (hj T Ln M, n, u) := by
  simp (disch := omega) only [g83_0, g83_0n, g83_1, g83_4, g83_4b, g83_7, g83_8, g83_9, g83_12, Int.reduceToNat, jtg, mu_s, mu_n, mu_j, mn_s, mn_n, jg_4_3, Option.some.injEq, exists_eq_left', zkl_i, zkl_l, zkl_n, zkl_r, zkl_0, zc_v, zc_n, zc_t, zd_v, zd_n, mj_tg, true_and, ↓reduceIte, not_true_eq_false, not_false_eq_true, ↓if_pos, ↓if_neg, Int.reduceLE, Int.reduceLT, Int.reduceEq, Int.reduceAdd, hw]
theorem s83_n {a : Nat} {w : Int} (hT : T x = 8) (ha : T a = 4) (hw : M a 3 = zi w) (w1 : w = 0) : z_go zP 83 0 [some (.ref x), some (.ref a)] [] (hj T Ln M, n, u) Q ↔ Q (.inr 0) (hj T Ln (mu M x 2 (zi 5)), n + 1, u + 6) := by
  simp (disch := omega) only [g83_0, g83_0n, g83_1, g83_4, g83_4b, g83_7, g83_8, g83_9, g83_12, Int.reduceToNat, jtg, mu_s, mu_n, mu_j, mn_s, mn_n, jg_4_3, Option.some.injEq, exists_eq_left', zkl_i, zkl_l, zkl_n, zkl_r, zkl_0, zc_v, zc_n, zc_t, zd_v, zd_n, mj_tg, true_and, ↓reduceIte, not_true_eq_false, not_false_eq_true, ↓if_pos, ↓if_neg, Int.reduceLE, Int.reduceLT, Int.reduceEq, Int.reduceAdd, hw, w1, s80 hT]
theorem s77 {v : Int} {q : zS} (v1 : -2147483648 ≤ v) (v2 : v < 2147483648) : z_go zP 77 0 [some (zi v)] [] q Q ↔ Q (.inl (some (zi (bI (¬ (0 ≤ v ∧ v ≤ 3)))))) q := by
  by_cases c : 0 ≤ v ∧ v ≤ 3
  · simp (disch := omega) only [g77_0, g77_1, g77_2, g77_3, g77_6_0, g77_6_1, g77_6b, Option.some.injEq, exists_eq_left', zkl_i, zkl_l, zkl_n, zkl_r, zkl_0, zc_v, zc_n, zc_t, zd_v, zd_n, mj_tg, true_and, ↓reduceIte, not_true_eq_false, not_false_eq_true, ↓if_pos, ↓if_neg, Int.reduceLE, Int.reduceLT, Int.reduceEq, Int.reduceAdd, s76]
  · simp (disch := omega) only [g77_0, g77_1, g77_2, g77_3, g77_6_0, g77_6_1, g77_6b, Option.some.injEq, exists_eq_left', zkl_i, zkl_l, zkl_n, zkl_r, zkl_0, zc_v, zc_n, zc_t, zd_v, zd_n, mj_tg, true_and, ↓reduceIte, not_true_eq_false, not_false_eq_true, ↓if_pos, ↓if_neg, Int.reduceLE, Int.reduceLT, Int.reduceEq, Int.reduceAdd, s76]
theorem s78 {l g q c : Int} {z : zS} (l1 : -2147483648 ≤ l) (l2 : l < 2147483648) (g1 : -2147483648 ≤ g) (g2 : g < 2147483648) (q1 : -2147483648 ≤ q) (q2 : q < 2147483648) (c1 : -2147483648 ≤ c) (c2 : c < 2147483648) : z_go zP 78 0 [some (zi l), some (zi g), some (zi q), some (zi c)] [] z Q ↔ Q (.inl (some (zi (bI (¬ m_isc l g q c))))) z := by
  by_cases c4 : 1 ≤ l ∧ l ≤ 8
  · have c4' : ¬ ¬ (1 ≤ l ∧ l ≤ 8) := fun hh => hh c4
    by_cases c5 : 0 ≤ g ∧ g ≤ 8
    · have c5' : ¬ ¬ (0 ≤ g ∧ g ≤ 8) := fun hh => hh c5
      by_cases c6 : 0 ≤ q ∧ q ≤ 8
      · have c6' : ¬ ¬ (0 ≤ q ∧ q ≤ 8) := fun hh => hh c6
        by_cases c7 : 0 ≤ c ∧ c ≤ 8
        · have c7' : ¬ ¬ (0 ≤ c ∧ c ≤ 8) := fun hh => hh c7
          rw [bI_f (fun hh => hh ⟨c4, c5, c6, c7⟩)]
          simp (disch := omega) only [g78_0, g78_1, g78_2, g78_4, g78_7, g78_7b, g78_10, g78_11, g78_12, g78_14, g78_17, g78_17b, g78_20, g78_21, g78_22, g78_24, g78_27, g78_27b, g78_30, g78_31, g78_32, g78_34, g78_37, g78_37b, g78_40, g78_41, g78_44, g78_45_0, g78_45_1, g78_45b, Option.some.injEq, exists_eq_left', zkl_i, zkl_l, zkl_n, zkl_r, zkl_0, zc_v, zc_n, zc_t, zd_v, zd_n, mj_tg, true_and, ↓reduceIte, not_true_eq_false, not_false_eq_true, ↓if_pos, ↓if_neg, Int.reduceLE, Int.reduceLT, Int.reduceEq, Int.reduceAdd, s76, bI_f c4', bI_f c5', bI_f c6', bI_f c7']
        · rw [bI_t (show ¬ m_isc l g q c from fun hh => c7 hh.2.2.2)]
          simp (disch := omega) only [g78_0, g78_1, g78_2, g78_4, g78_7, g78_7b, g78_10, g78_11, g78_12, g78_14, g78_17, g78_17b, g78_20, g78_21, g78_22, g78_24, g78_27, g78_27b, g78_30, g78_31, g78_32, g78_34, g78_37, g78_37b, g78_40, g78_41, g78_44, g78_45_0, g78_45_1, g78_45b, Option.some.injEq, exists_eq_left', zkl_i, zkl_l, zkl_n, zkl_r, zkl_0, zc_v, zc_n, zc_t, zd_v, zd_n, mj_tg, true_and, ↓reduceIte, not_true_eq_false, not_false_eq_true, ↓if_pos, ↓if_neg, Int.reduceLE, Int.reduceLT, Int.reduceEq, Int.reduceAdd, s76, bI_f c4', bI_f c5', bI_f c6', bI_t c7]
      · rw [bI_t (show ¬ m_isc l g q c from fun hh => c6 hh.2.2.1)]
        simp (disch := omega) only [g78_0, g78_1, g78_2, g78_4, g78_7, g78_7b, g78_10, g78_11, g78_12, g78_14, g78_17, g78_17b, g78_20, g78_21, g78_22, g78_24, g78_27, g78_27b, g78_30, g78_31, g78_32, g78_34, g78_37, g78_37b, g78_40, g78_41, g78_44, g78_45_0, g78_45_1, g78_45b, Option.some.injEq, exists_eq_left', zkl_i, zkl_l, zkl_n, zkl_r, zkl_0, zc_v, zc_n, zc_t, zd_v, zd_n, mj_tg, true_and, ↓reduceIte, not_true_eq_false, not_false_eq_true, ↓if_pos, ↓if_neg, Int.reduceLE, Int.reduceLT, Int.reduceEq, Int.reduceAdd, s76, bI_f c4', bI_f c5', bI_t c6]
    · rw [bI_t (show ¬ m_isc l g q c from fun hh => c5 hh.2.1)]
      simp (disch := omega) only [g78_0, g78_1, g78_2, g78_4, g78_7, g78_7b, g78_10, g78_11, g78_12, g78_14, g78_17, g78_17b, g78_20, g78_21, g78_22, g78_24, g78_27, g78_27b, g78_30, g78_31, g78_32, g78_34, g78_37, g78_37b, g78_40, g78_41, g78_44, g78_45_0, g78_45_1, g78_45b, Option.some.injEq, exists_eq_left', zkl_i, zkl_l, zkl_n, zkl_r, zkl_0, zc_v, zc_n, zc_t, zd_v, zd_n, mj_tg, true_and, ↓reduceIte, not_true_eq_false, not_false_eq_true, ↓if_pos, ↓if_neg, Int.reduceLE, Int.reduceLT, Int.reduceEq, Int.reduceAdd, s76, bI_f c4', bI_t c5]
  · rw [bI_t (show ¬ m_isc l g q c from fun hh => c4 hh.1)]
    simp (disch := omega) only [g78_0, g78_1, g78_2, g78_4, g78_7, g78_7b, g78_10, g78_11, g78_12, g78_14, g78_17, g78_17b, g78_20, g78_21, g78_22, g78_24, g78_27, g78_27b, g78_30, g78_31, g78_32, g78_34, g78_37, g78_37b, g78_40, g78_41, g78_44, g78_45_0, g78_45_1, g78_45b, Option.some.injEq, exists_eq_left', zkl_i, zkl_l, zkl_n, zkl_r, zkl_0, zc_v, zc_n, zc_t, zd_v, zd_n, mj_tg, true_and, ↓reduceIte, not_true_eq_false, not_false_eq_true, ↓if_pos, ↓if_neg, Int.reduceLE, Int.reduceLT, Int.reduceEq, Int.reduceAdd, s76, bI_t c4]
end
