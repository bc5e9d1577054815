/-! THE LAW'S WRAPPERS -/
section
variable {T T' : Nat → Nat} {Ln Ln' : Nat → Int} {M M' : Nat → Int → Value} {n u x ot n' u' : Nat} {Z : zY} {v : Int} {res : zU}
theorem zi_wr (v : Int) : ∃ v', zi v = zi v' ∧ -2147483648 ≤ v' ∧ v' < 2147483648 := by
  refine ⟨(Int32.ofInt v).toInt, ?_, ?_, ?_⟩
  · unfold zi
    rw [Int32.ofInt_toInt]
  · exact Int32.minValue_le_toInt _
  · have := Int32.toInt_lt (Int32.ofInt v); omega
theorem zl_wr (v : Int) : ∃ v', zl v = zl v' ∧ -9223372036854775808 ≤ v' ∧ v' < 9223372036854775808 := by
  refine ⟨(Int64.ofInt v).toInt, ?_, ?_, ?_⟩
  · unfold zl
    rw [Int64.ofInt_toInt]
  · exact Int64.minValue_le_toInt _
  · have := Int64.toInt_lt (Int64.ofInt v); omega
theorem w158 {p q : Int} {cd : Nat → Int} (hx : T x = 8) (ht : T' ot = 101) (hl : Ln' ot = 1) (hgo : ∀ Q : zU → zS → Prop, z_go zP 57 0 [some (.ref x), some (zi p), some (zi q)] [] (hj T Ln M, n, u) Q ↔ Q res (hj T' Ln' M', n', u')) (hout : (Z 0 0 = 0 ∧ res = .inl (some (zi v))) ∨ ∃ e, res = .inr e ∧ Z 0 0 = cd e ∧ ¬ Z 0 0 = 0) (hcd : ∀ e, ¬ cd e = 0 → (e = 1 ∧ cd e = 1) ∨ (e = 0 ∧ cd e = 2)) : ∃ M1 v', (∀ Q : zU → zS → Prop, z_go zP 158 0 [some (.ref x), some (zi p), some (zi q), some (.ref ot), none] [] (hj T Ln M, n, u) Q ↔ Q (.inl (some (zi (Z 0 0)))) (hj T' Ln' M1, n', u')) ∧ ((Z 0 0 = 0 ∧ M1 = mu M' ot 0 (zl v')) ∨ (¬ Z 0 0 = 0 ∧ M1 = M')) ∧ zi v = zi v' ∧ (-2147483648 ≤ v' ∧ v' < 2147483648) := by
  obtain ⟨v', e1, e2, e3⟩ := zi_wr v
  rcases hout with ⟨h0, rfl⟩ | ⟨e, rfl, h1, h2⟩
  · refine ⟨mu M' ot 0 (zl v'), v', fun Q => ?_, .inl ⟨h0, rfl⟩, e1, e2, e3⟩
    rw [h0]
    rw [e1] at hgo
    simp (disch := omega) only [g158_0, g158_1, g158_2, g158_3, g158_4, g158_5, g158_8, g158_9, g158_10, g158_15, g158_16, g158_19, g158_20, g158_21, g158_22, Int.reduceToNat, jtg, mu_s, mu_n, mu_j, mn_s, mn_n, jsl, Option.some.injEq, exists_eq_left', zkl_i, zkl_l, zkl_n, zkl_r, zkl_0, zc_v, zc_n, zc_t, zd_v, zd_n, mj_tg, true_and, ↓reduceIte, not_true_eq_false, not_false_eq_true, ↓if_pos, ↓if_neg, Int.reduceLE, Int.reduceLT, Int.reduceEq, Int.reduceAdd, hgo, zh_v]
  · refine ⟨M', v', fun Q => ?_, .inr ⟨h2, rfl⟩, e1, e2, e3⟩
    rw [h1] at h2
    rw [h1]
    have h3 := hcd e h2
    rcases h3 with ⟨rfl, h4⟩ | ⟨rfl, h4⟩
    · rw [h4]
      simp (disch := omega) only [g158_0, g158_1, g158_2, g158_3, g158_4, g158_5, g158_8, g158_9, g158_10, g158_15, g158_16, g158_19, g158_20, g158_21, g158_22, Int.reduceToNat, jtg, mu_s, mu_n, mu_j, mn_s, mn_n, jsl, Option.some.injEq, exists_eq_left', zkl_i, zkl_l, zkl_n, zkl_r, zkl_0, zc_v, zc_n, zc_t, zd_v, zd_n, mj_tg, true_and, ↓reduceIte, not_true_eq_false, not_false_eq_true, ↓if_pos, ↓if_neg, Int.reduceLE, Int.reduceLT, Int.reduceEq, Int.reduceAdd, hgo, zh_0, zh_s]
    · rw [h4]
      simp (disch := omega) only [g158_0, g158_1, g158_2, g158_3, g158_4, g158_5, g158_8, g158_9, g158_10, g158_15, g158_16, g158_19, g158_20, g158_21, g158_22, Int.reduceToNat, jtg, mu_s, mu_n, mu_j, mn_s, mn_n, jsl, Option.some.injEq, exists_eq_left', zkl_i, zkl_l, zkl_n, zkl_r, zkl_0, zc_v, zc_n, zc_t, zd_v, zd_n, mj_tg, true_and, ↓reduceIte, not_true_eq_false, not_false_eq_true, ↓if_pos, ↓if_neg, Int.reduceLE, Int.reduceLT, Int.reduceEq, Int.reduceAdd, hgo, zh_0, zh_s]
theorem w159 {p : Int} {cd : Nat → Int} (hx : T x = 8) (ht : T' ot = 101) (hl : Ln' ot = 1) (hgo : ∀ Q : zU → zS → Prop, z_go zP 58 0 [some (.ref x), some (zi p)] [] (hj T Ln M, n, u) Q ↔ Q res (hj T' Ln' M', n', u')) (hout : (Z 0 0 = 0 ∧ res = .inl (some (zi v))) ∨ ∃ e, res = .inr e ∧ Z 0 0 = cd e ∧ ¬ Z 0 0 = 0) (hcd : ∀ e, ¬ cd e = 0 → (e = 0 ∧ cd e = 1)) : ∃ M1 v', (∀ Q : zU → zS → Prop, z_go zP 159 0 [some (.ref x), some (zi p), some (.ref ot), none] [] (hj T Ln M, n, u) Q ↔ Q (.inl (some (zi (Z 0 0)))) (hj T' Ln' M1, n', u')) ∧ ((Z 0 0 = 0 ∧ M1 = mu M' ot 0 (zl v')) ∨ (¬ Z 0 0 = 0 ∧ M1 = M')) ∧ zi v = zi v' ∧ (-2147483648 ≤ v' ∧ v' < 2147483648) := by
  obtain ⟨v', e1, e2, e3⟩ := zi_wr v
  rcases hout with ⟨h0, rfl⟩ | ⟨e, rfl, h1, h2⟩
  · refine ⟨mu M' ot 0 (zl v'), v', fun Q => ?_, .inl ⟨h0, rfl⟩, e1, e2, e3⟩
    rw [h0]
    rw [e1] at hgo
    simp (disch := omega) only [g159_0, g159_1, g159_2, g159_3, g159_4, g159_7, g159_8, g159_9, g159_13, g159_14, g159_15, g159_16, Int.reduceToNat, jtg, mu_s, mu_n, mu_j, mn_s, mn_n, jsl, Option.some.injEq, exists_eq_left', zkl_i, zkl_l, zkl_n, zkl_r, zkl_0, zc_v, zc_n, zc_t, zd_v, zd_n, mj_tg, true_and, ↓reduceIte, not_true_eq_false, not_false_eq_true, ↓if_pos, ↓if_neg, Int.reduceLE, Int.reduceLT, Int.reduceEq, Int.reduceAdd, hgo, zh_v]
  · refine ⟨M', v', fun Q => ?_, .inr ⟨h2, rfl⟩, e1, e2, e3⟩
    rw [h1] at h2
    rw [h1]
    have h3 := hcd e h2
    obtain ⟨rfl, h4⟩ := h3
    rw [h4]
    simp (disch := omega) only [g159_0, g159_1, g159_2, g159_3, g159_4, g159_7, g159_8, g159_9, g159_13, g159_14, g159_15, g159_16, Int.reduceToNat, jtg, mu_s, mu_n, mu_j, mn_s, mn_n, jsl, Option.some.injEq, exists_eq_left', zkl_i, zkl_l, zkl_n, zkl_r, zkl_0, zc_v, zc_n, zc_t, zd_v, zd_n, mj_tg, true_and, ↓reduceIte, not_true_eq_false, not_false_eq_true, ↓if_pos, ↓if_neg, Int.reduceLE, Int.reduceLT, Int.reduceEq, Int.reduceAdd, hgo, zh_0, zh_s]
theorem w160 {p q r s w y : Int} {cd : Nat → Int} (hx : T x = 8) (ht : T' ot = 101) (hl : Ln' ot = 1) (hgo : ∀ Q : zU → zS → Prop, z_go zP 59 0 [some (.ref x), some (zi p), some (zi q), some (zi r), some (zi s), some (zi w), some (zi y), none] [] (hj T Ln M, n, u) Q ↔ Q res (hj T' Ln' M', n', u')) (hout : (Z 0 0 = 0 ∧ res = .inl (some (zi v))) ∨ ∃ e, res = .inr e ∧ Z 0 0 = cd e ∧ ¬ Z 0 0 = 0) (hcd : ∀ e, ¬ cd e = 0 → (e = 0 ∧ cd e = 1) ∨ (e = 1 ∧ cd e = 2) ∨ (e = 2 ∧ cd e = 3)) : ∃ M1 v', (∀ Q : zU → zS → Prop, z_go zP 160 0 [some (.ref x), some (zi p), some (zi q), some (zi r), some (zi s), some (zi w), some (zi y), some (.ref ot), none] [] (hj T Ln M, n, u) Q ↔ Q (.inl (some (zi (Z 0 0)))) (hj T' Ln' M1, n', u')) ∧ ((Z 0 0 = 0 ∧ M1 = mu M' ot 0 (zl v')) ∨ (¬ Z 0 0 = 0 ∧ M1 = M')) ∧ zi v = zi v' ∧ (-2147483648 ≤ v' ∧ v' < 2147483648) := by
  obtain ⟨v', e1, e2, e3⟩ := zi_wr v
  rcases hout with ⟨h0, rfl⟩ | ⟨e, rfl, h1, h2⟩
  · refine ⟨mu M' ot 0 (zl v'), v', fun Q => ?_, .inl ⟨h0, rfl⟩, e1, e2, e3⟩
    rw [h0]
    rw [e1] at hgo
    simp (disch := omega) only [g160_0, g160_2, g160_3, g160_4, g160_5, g160_6, g160_7, g160_9, g160_11, g160_13, g160_16, g160_17, g160_18, g160_23, g160_24, g160_27, g160_28, g160_31, g160_32, g160_33, g160_34, Int.reduceToNat, jtg, mu_s, mu_n, mu_j, mn_s, mn_n, jsl, Option.some.injEq, exists_eq_left', zkl_i, zkl_l, zkl_n, zkl_r, zkl_0, zc_v, zc_n, zc_t, zd_v, zd_n, mj_tg, true_and, ↓reduceIte, not_true_eq_false, not_false_eq_true, ↓if_pos, ↓if_neg, Int.reduceLE, Int.reduceLT, Int.reduceEq, Int.reduceAdd, hgo, zh_v]
  · refine ⟨M', v', fun Q => ?_, .inr ⟨h2, rfl⟩, e1, e2, e3⟩
    rw [h1] at h2
    rw [h1]
    have h3 := hcd e h2
    rcases h3 with ⟨rfl, h4⟩ | ⟨rfl, h4⟩ | ⟨rfl, h4⟩
    · rw [h4]
      simp (disch := omega) only [g160_0, g160_2, g160_3, g160_4, g160_5, g160_6, g160_7, g160_9, g160_11, g160_13, g160_16, g160_17, g160_18, g160_23, g160_24, g160_27, g160_28, g160_31, g160_32, g160_33, g160_34, Int.reduceToNat, jtg, mu_s, mu_n, mu_j, mn_s, mn_n, jsl, Option.some.injEq, exists_eq_left', zkl_i, zkl_l, zkl_n, zkl_r, zkl_0, zc_v, zc_n, zc_t, zd_v, zd_n, mj_tg, true_and, ↓reduceIte, not_true_eq_false, not_false_eq_true, ↓if_pos, ↓if_neg, Int.reduceLE, Int.reduceLT, Int.reduceEq, Int.reduceAdd, hgo, zh_0, zh_s]
    · rw [h4]
      simp (disch := omega) only [g160_0, g160_2, g160_3, g160_4, g160_5, g160_6, g160_7, g160_9, g160_11, g160_13, g160_16, g160_17, g160_18, g160_23, g160_24, g160_27, g160_28, g160_31, g160_32, g160_33, g160_34, Int.reduceToNat, jtg, mu_s, mu_n, mu_j, mn_s, mn_n, jsl, Option.some.injEq, exists_eq_left', zkl_i, zkl_l, zkl_n, zkl_r, zkl_0, zc_v, zc_n, zc_t, zd_v, zd_n, mj_tg, true_and, ↓reduceIte, not_true_eq_false, not_false_eq_true, ↓if_pos, ↓if_neg, Int.reduceLE, Int.reduceLT, Int.reduceEq, Int.reduceAdd, hgo, zh_0, zh_s]
    · rw [h4]
      simp (disch := omega) only [g160_0, g160_2, g160_3, g160_4, g160_5, g160_6, g160_7, g160_9, g160_11, g160_13, g160_16, g160_17, g160_18, g160_23, g160_24, g160_27, g160_28, g160_31, g160_32, g160_33, g160_34, Int.reduceToNat, jtg, mu_s, mu_n, mu_j, mn_s, mn_n, jsl, Option.some.injEq, exists_eq_left', zkl_i, zkl_l, zkl_n, zkl_r, zkl_0, zc_v, zc_n, zc_t, zd_v, zd_n, mj_tg, true_and, ↓reduceIte, not_true_eq_false, not_false_eq_true, ↓if_pos, ↓if_neg, Int.reduceLE, Int.reduceLT, Int.reduceEq, Int.reduceAdd, hgo, zh_0, zh_s]
theorem w161 {p : Int} {cd : Nat → Int} (hx : T x = 8) (ht : T' ot = 101) (hl : Ln' ot = 1) (hgo : ∀ Q : zU → zS → Prop, z_go zP 60 0 [some (.ref x), some (zi p), none] [] (hj T Ln M, n, u) Q ↔ Q res (hj T' Ln' M', n', u')) (hout : (Z 0 0 = 0 ∧ res = .inl (some (zi v))) ∨ ∃ e, res = .inr e ∧ Z 0 0 = cd e ∧ ¬ Z 0 0 = 0) (hcd : ∀ e, ¬ cd e = 0 → (e = 0 ∧ cd e = 1)) : ∃ M1 v', (∀ Q : zU → zS → Prop, z_go zP 161 0 [some (.ref x), some (zi p), some (.ref ot), none] [] (hj T Ln M, n, u) Q ↔ Q (.inl (some (zi (Z 0 0)))) (hj T' Ln' M1, n', u')) ∧ ((Z 0 0 = 0 ∧ M1 = mu M' ot 0 (zl v')) ∨ (¬ Z 0 0 = 0 ∧ M1 = M')) ∧ zi v = zi v' ∧ (-2147483648 ≤ v' ∧ v' < 2147483648) := by
  obtain ⟨v', e1, e2, e3⟩ := zi_wr v
  rcases hout with ⟨h0, rfl⟩ | ⟨e, rfl, h1, h2⟩
  · refine ⟨mu M' ot 0 (zl v'), v', fun Q => ?_, .inl ⟨h0, rfl⟩, e1, e2, e3⟩
    rw [h0]
    rw [e1] at hgo
    simp (disch := omega) only [g161_0, g161_1, g161_2, g161_3, g161_4, g161_7, g161_8, g161_9, g161_13, g161_14, g161_15, g161_16, Int.reduceToNat, jtg, mu_s, mu_n, mu_j, mn_s, mn_n, jsl, Option.some.injEq, exists_eq_left', zkl_i, zkl_l, zkl_n, zkl_r, zkl_0, zc_v, zc_n, zc_t, zd_v, zd_n, mj_tg, true_and, ↓reduceIte, not_true_eq_false, not_false_eq_true, ↓if_pos, ↓if_neg, Int.reduceLE, Int.reduceLT, Int.reduceEq, Int.reduceAdd, hgo, zh_v]
  · refine ⟨M', v', fun Q => ?_, .inr ⟨h2, rfl⟩, e1, e2, e3⟩
    rw [h1] at h2
    rw [h1]
    have h3 := hcd e h2
    obtain ⟨rfl, h4⟩ := h3
    rw [h4]
    simp (disch := omega) only [g161_0, g161_1, g161_2, g161_3, g161_4, g161_7, g161_8, g161_9, g161_13, g161_14, g161_15, g161_16, Int.reduceToNat, jtg, mu_s, mu_n, mu_j, mn_s, mn_n, jsl, Option.some.injEq, exists_eq_left', zkl_i, zkl_l, zkl_n, zkl_r, zkl_0, zc_v, zc_n, zc_t, zd_v, zd_n, mj_tg, true_and, ↓reduceIte, not_true_eq_false, not_false_eq_true, ↓if_pos, ↓if_neg, Int.reduceLE, Int.reduceLT, Int.reduceEq, Int.reduceAdd, hgo, zh_0, zh_s]
theorem w162 {p q : Int} {cd : Nat → Int} (hx : T x = 8) (ht : T' ot = 101) (hl : Ln' ot = 1) (hgo : ∀ Q : zU → zS → Prop, z_go zP 61 0 [some (.ref x), some (zi p), some (zi q), none, none] [] (hj T Ln M, n, u) Q ↔ Q res (hj T' Ln' M', n', u')) (hout : (Z 0 0 = 0 ∧ res = .inl (some (zi v))) ∨ ∃ e, res = .inr e ∧ Z 0 0 = cd e ∧ ¬ Z 0 0 = 0) (hcd : ∀ e, ¬ cd e = 0 → (e = 0 ∧ cd e = 1) ∨ (e = 1 ∧ cd e = 2)) : ∃ M1 v', (∀ Q : zU → zS → Prop, z_go zP 162 0 [some (.ref x), some (zi p), some (zi q), some (.ref ot), none] [] (hj T Ln M, n, u) Q ↔ Q (.inl (some (zi (Z 0 0)))) (hj T' Ln' M1, n', u')) ∧ ((Z 0 0 = 0 ∧ M1 = mu M' ot 0 (zl v')) ∨ (¬ Z 0 0 = 0 ∧ M1 = M')) ∧ zi v = zi v' ∧ (-2147483648 ≤ v' ∧ v' < 2147483648) := by
  obtain ⟨v', e1, e2, e3⟩ := zi_wr v
  rcases hout with ⟨h0, rfl⟩ | ⟨e, rfl, h1, h2⟩
  · refine ⟨mu M' ot 0 (zl v'), v', fun Q => ?_, .inl ⟨h0, rfl⟩, e1, e2, e3⟩
    rw [h0]
    rw [e1] at hgo
    simp (disch := omega) only [g162_0, g162_1, g162_2, g162_3, g162_4, g162_5, g162_8, g162_9, g162_10, g162_15, g162_16, g162_19, g162_20, g162_21, g162_22, Int.reduceToNat, jtg, mu_s, mu_n, mu_j, mn_s, mn_n, jsl, Option.some.injEq, exists_eq_left', zkl_i, zkl_l, zkl_n, zkl_r, zkl_0, zc_v, zc_n, zc_t, zd_v, zd_n, mj_tg, true_and, ↓reduceIte, not_true_eq_false, not_false_eq_true, ↓if_pos, ↓if_neg, Int.reduceLE, Int.reduceLT, Int.reduceEq, Int.reduceAdd, hgo, zh_v]
  · refine ⟨M', v', fun Q => ?_, .inr ⟨h2, rfl⟩, e1, e2, e3⟩
    rw [h1] at h2
    rw [h1]
    have h3 := hcd e h2
    rcases h3 with ⟨rfl, h4⟩ | ⟨rfl, h4⟩
    · rw [h4]
      simp (disch := omega) only [g162_0, g162_1, g162_2, g162_3, g162_4, g162_5, g162_8, g162_9, g162_10, g162_15, g162_16, g162_19, g162_20, g162_21, g162_22, Int.reduceToNat, jtg, mu_s, mu_n, mu_j, mn_s, mn_n, jsl, Option.some.injEq, exists_eq_left', zkl_i, zkl_l, zkl_n, zkl_r, zkl_0, zc_v, zc_n, zc_t, zd_v, zd_n, mj_tg, true_and, ↓reduceIte, not_true_eq_false, not_false_eq_true, ↓if_pos, ↓if_neg, Int.reduceLE, Int.reduceLT, Int.reduceEq, Int.reduceAdd, hgo, zh_0, zh_s]
    · rw [h4]
      simp (disch := omega) only [g162_0, g162_1, g162_2, g162_3, g162_4, g162_5, g162_8, g162_9, g162_10, g162_15, g162_16, g162_19, g162_20, g162_21, g162_22, Int.reduceToNat, jtg, mu_s, mu_n, mu_j, mn_s, mn_n, jsl, Option.some.injEq, exists_eq_left', zkl_i, zkl_l, zkl_n, zkl_r, zkl_0, zc_v, zc_n, zc_t, zd_v, zd_n, mj_tg, true_and, ↓reduceIte, not_true_eq_false, not_false_eq_true, ↓if_pos, ↓if_neg, Int.reduceLE, Int.reduceLT, Int.reduceEq, Int.reduceAdd, hgo, zh_0, zh_s]
theorem w163 {p q r s w : Int} {cd : Nat → Int} (hx : T x = 8) (ht : T' ot = 101) (hl : Ln' ot = 1) (hgo : ∀ Q : zU → zS → Prop, z_go zP 62 0 [some (.ref x), some (zi p), some (zi q), some (zi r), some (zi s), some (zi w), none, none] [] (hj T Ln M, n, u) Q ↔ Q res (hj T' Ln' M', n', u')) (hout : (Z 0 0 = 0 ∧ res = .inl (some (zi v))) ∨ ∃ e, res = .inr e ∧ Z 0 0 = cd e ∧ ¬ Z 0 0 = 0) (hcd : ∀ e, ¬ cd e = 0 → (e = 0 ∧ cd e = 1) ∨ (e = 1 ∧ cd e = 2)) : ∃ M1 v', (∀ Q : zU → zS → Prop, z_go zP 163 0 [some (.ref x), some (zi p), some (zi q), some (zi r), some (zi s), some (zi w), some (.ref ot), none] [] (hj T Ln M, n, u) Q ↔ Q (.inl (some (zi (Z 0 0)))) (hj T' Ln' M1, n', u')) ∧ ((Z 0 0 = 0 ∧ M1 = mu M' ot 0 (zl v')) ∨ (¬ Z 0 0 = 0 ∧ M1 = M')) ∧ zi v = zi v' ∧ (-2147483648 ≤ v' ∧ v' < 2147483648) := by
  obtain ⟨v', e1, e2, e3⟩ := zi_wr v
  rcases hout with ⟨h0, rfl⟩ | ⟨e, rfl, h1, h2⟩
  · refine ⟨mu M' ot 0 (zl v'), v', fun Q => ?_, .inl ⟨h0, rfl⟩, e1, e2, e3⟩
    rw [h0]
    rw [e1] at hgo
    simp (disch := omega) only [g163_0, g163_2, g163_3, g163_4, g163_5, g163_6, g163_7, g163_9, g163_11, g163_14, g163_15, g163_16, g163_21, g163_22, g163_25, g163_26, g163_27, g163_28, Int.reduceToNat, jtg, mu_s, mu_n, mu_j, mn_s, mn_n, jsl, Option.some.injEq, exists_eq_left', zkl_i, zkl_l, zkl_n, zkl_r, zkl_0, zc_v, zc_n, zc_t, zd_v, zd_n, mj_tg, true_and, ↓reduceIte, not_true_eq_false, not_false_eq_true, ↓if_pos, ↓if_neg, Int.reduceLE, Int.reduceLT, Int.reduceEq, Int.reduceAdd, hgo, zh_v]
  · refine ⟨M', v', fun Q => ?_, .inr ⟨h2, rfl⟩, e1, e2, e3⟩
    rw [h1] at h2
    rw [h1]
    have h3 := hcd e h2
    rcases h3 with ⟨rfl, h4⟩ | ⟨rfl, h4⟩
    · rw [h4]
      simp (disch := omega) only [g163_0, g163_2, g163_3, g163_4, g163_5, g163_6, g163_7, g163_9, g163_11, g163_14, g163_15, g163_16, g163_21, g163_22, g163_25, g163_26, g163_27, g163_28, Int.reduceToNat, jtg, mu_s, mu_n, mu_j, mn_s, mn_n, jsl, Option.some.injEq, exists_eq_left', zkl_i, zkl_l, zkl_n, zkl_r, zkl_0, zc_v, zc_n, zc_t, zd_v, zd_n, mj_tg, true_and, ↓reduceIte, not_true_eq_false, not_false_eq_true, ↓if_pos, ↓if_neg, Int.reduceLE, Int.reduceLT, Int.reduceEq, Int.reduceAdd, hgo, zh_0, zh_s]
    · rw [h4]
      simp (disch := omega) only [g163_0, g163_2, g163_3, g163_4, g163_5, g163_6, g163_7, g163_9, g163_11, g163_14, g163_15, g163_16, g163_21, g163_22, g163_25, g163_26, g163_27, g163_28, Int.reduceToNat, jtg, mu_s, mu_n, mu_j, mn_s, mn_n, jsl, Option.some.injEq, exists_eq_left', zkl_i, zkl_l, zkl_n, zkl_r, zkl_0, zc_v, zc_n, zc_t, zd_v, zd_n, mj_tg, true_and, ↓reduceIte, not_true_eq_false, not_false_eq_true, ↓if_pos, ↓if_neg, Int.reduceLE, Int.reduceLT, Int.reduceEq, Int.reduceAdd, hgo, zh_0, zh_s]
theorem w164 {p q r s w : Int} {cd : Nat → Int} (hx : T x = 8) (ht : T' ot = 101) (hl : Ln' ot = 1) (hgo : ∀ Q : zU → zS → Prop, z_go zP 63 0 [some (.ref x), some (zi p), some (zi q), some (zi r), some (zi s), some (zi w), none, none] [] (hj T Ln M, n, u) Q ↔ Q res (hj T' Ln' M', n', u')) (hout : (Z 0 0 = 0 ∧ res = .inl (some (zi v))) ∨ ∃ e, res = .inr e ∧ Z 0 0 = cd e ∧ ¬ Z 0 0 = 0) (hcd : ∀ e, ¬ cd e = 0 → (e = 0 ∧ cd e = 1) ∨ (e = 1 ∧ cd e = 2)) : ∃ M1 v', (∀ Q : zU → zS → Prop, z_go zP 164 0 [some (.ref x), some (zi p), some (zi q), some (zi r), some (zi s), some (zi w), some (.ref ot), none] [] (hj T Ln M, n, u) Q ↔ Q (.inl (some (zi (Z 0 0)))) (hj T' Ln' M1, n', u')) ∧ ((Z 0 0 = 0 ∧ M1 = mu M' ot 0 (zl v')) ∨ (¬ Z 0 0 = 0 ∧ M1 = M')) ∧ zi v = zi v' ∧ (-2147483648 ≤ v' ∧ v' < 2147483648) := by
  obtain ⟨v', e1, e2, e3⟩ := zi_wr v
  rcases hout with ⟨h0, rfl⟩ | ⟨e, rfl, h1, h2⟩
  · refine ⟨mu M' ot 0 (zl v'), v', fun Q => ?_, .inl ⟨h0, rfl⟩, e1, e2, e3⟩
    rw [h0]
    rw [e1] at hgo
    simp (disch := omega) only [g164_0, g164_2, g164_3, g164_4, g164_5, g164_6, g164_7, g164_9, g164_11, g164_14, g164_15, g164_16, g164_21, g164_22, g164_25, g164_26, g164_27, g164_28, Int.reduceToNat, jtg, mu_s, mu_n, mu_j, mn_s, mn_n, jsl, Option.some.injEq, exists_eq_left', zkl_i, zkl_l, zkl_n, zkl_r, zkl_0, zc_v, zc_n, zc_t, zd_v, zd_n, mj_tg, true_and, ↓reduceIte, not_true_eq_false, not_false_eq_true, ↓if_pos, ↓if_neg, Int.reduceLE, Int.reduceLT, Int.reduceEq, Int.reduceAdd, hgo, zh_v]
  · refine ⟨M', v', fun Q => ?_, .inr ⟨h2, rfl⟩, e1, e2, e3⟩
    rw [h1] at h2
    rw [h1]
    have h3 := hcd e h2
    rcases h3 with ⟨rfl, h4⟩ | ⟨rfl, h4⟩
    · rw [h4]
      simp (disch := omega) only [g164_0, g164_2, g164_3, g164_4, g164_5, g164_6, g164_7, g164_9, g164_11, g164_14, g164_15, g164_16, g164_21, g164_22, g164_25, g164_26, g164_27, g164_28, Int.reduceToNat, jtg, mu_s, mu_n, mu_j, mn_s, mn_n, jsl, Option.some.injEq, exists_eq_left', zkl_i, zkl_l, zkl_n, zkl_r, zkl_0, zc_v, zc_n, zc_t, zd_v, zd_n, mj_tg, true_and, ↓reduceIte, not_true_eq_false, not_false_eq_true, ↓if_pos, ↓if_neg, Int.reduceLE, Int.reduceLT, Int.reduceEq, Int.reduceAdd, hgo, zh_0, zh_s]
    · rw [h4]
      simp (disch := omega) only [g164_0, g164_2, g164_3, g164_4, g164_5, g164_6, g164_7, g164_9, g164_11, g164_14, g164_15, g164_16, g164_21, g164_22, g164_25, g164_26, g164_27, g164_28, Int.reduceToNat, jtg, mu_s, mu_n, mu_j, mn_s, mn_n, jsl, Option.some.injEq, exists_eq_left', zkl_i, zkl_l, zkl_n, zkl_r, zkl_0, zc_v, zc_n, zc_t, zd_v, zd_n, mj_tg, true_and, ↓reduceIte, not_true_eq_false, not_false_eq_true, ↓if_pos, ↓if_neg, Int.reduceLE, Int.reduceLT, Int.reduceEq, Int.reduceAdd, hgo, zh_0, zh_s]
theorem w165 {p q : Int} {cd : Nat → Int} (hx : T x = 8) (ht : T' ot = 101) (hl : Ln' ot = 1) (hgo : ∀ Q : zU → zS → Prop, z_go zP 64 0 [some (.ref x), some (zi p), some (zi q), none, none] [] (hj T Ln M, n, u) Q ↔ Q res (hj T' Ln' M', n', u')) (hout : (Z 0 0 = 0 ∧ res = .inl (some (zi v))) ∨ ∃ e, res = .inr e ∧ Z 0 0 = cd e ∧ ¬ Z 0 0 = 0) (hcd : ∀ e, ¬ cd e = 0 → (e = 0 ∧ cd e = 1)) : ∃ M1 v', (∀ Q : zU → zS → Prop, z_go zP 165 0 [some (.ref x), some (zi p), some (zi q), some (.ref ot), none] [] (hj T Ln M, n, u) Q ↔ Q (.inl (some (zi (Z 0 0)))) (hj T' Ln' M1, n', u')) ∧ ((Z 0 0 = 0 ∧ M1 = mu M' ot 0 (zl v')) ∨ (¬ Z 0 0 = 0 ∧ M1 = M')) ∧ zi v = zi v' ∧ (-2147483648 ≤ v' ∧ v' < 2147483648) := by
  obtain ⟨v', e1, e2, e3⟩ := zi_wr v
  rcases hout with ⟨h0, rfl⟩ | ⟨e, rfl, h1, h2⟩
  · refine ⟨mu M' ot 0 (zl v'), v', fun Q => ?_, .inl ⟨h0, rfl⟩, e1, e2, e3⟩
    rw [h0]
    rw [e1] at hgo
    simp (disch := omega) only [g165_0, g165_1, g165_2, g165_3, g165_4, g165_5, g165_8, g165_9, g165_10, g165_15, g165_16, g165_17, g165_18, Int.reduceToNat, jtg, mu_s, mu_n, mu_j, mn_s, mn_n, jsl, Option.some.injEq, exists_eq_left', zkl_i, zkl_l, zkl_n, zkl_r, zkl_0, zc_v, zc_n, zc_t, zd_v, zd_n, mj_tg, true_and, ↓reduceIte, not_true_eq_false, not_false_eq_true, ↓if_pos, ↓if_neg, Int.reduceLE, Int.reduceLT, Int.reduceEq, Int.reduceAdd, hgo, zh_v]
  · refine ⟨M', v', fun Q => ?_, .inr ⟨h2, rfl⟩, e1, e2, e3⟩
    rw [h1] at h2
    rw [h1]
    have h3 := hcd e h2
    obtain ⟨rfl, h4⟩ := h3
    rw [h4]
    simp (disch := omega) only [g165_0, g165_1, g165_2, g165_3, g165_4, g165_5, g165_8, g165_9, g165_10, g165_15, g165_16, g165_17, g165_18, Int.reduceToNat, jtg, mu_s, mu_n, mu_j, mn_s, mn_n, jsl, Option.some.injEq, exists_eq_left', zkl_i, zkl_l, zkl_n, zkl_r, zkl_0, zc_v, zc_n, zc_t, zd_v, zd_n, mj_tg, true_and, ↓reduceIte, not_true_eq_false, not_false_eq_true, ↓if_pos, ↓if_neg, Int.reduceLE, Int.reduceLT, Int.reduceEq, Int.reduceAdd, hgo, zh_0, zh_s]
theorem w166 {p q : Int} {cd : Nat → Int} (hx : T x = 8) (ht : T' ot = 101) (hl : Ln' ot = 1) (hgo : ∀ Q : zU → zS → Prop, z_go zP 65 0 [some (.ref x), some (zi p), some (zi q), none, none] [] (hj T Ln M, n, u) Q ↔ Q res (hj T' Ln' M', n', u')) (hout : (Z 0 0 = 0 ∧ res = .inl (some (zi v))) ∨ ∃ e, res = .inr e ∧ Z 0 0 = cd e ∧ ¬ Z 0 0 = 0) (hcd : ∀ e, ¬ cd e = 0 → (e = 0 ∧ cd e = 1) ∨ (e = 1 ∧ cd e = 2)) : ∃ M1 v', (∀ Q : zU → zS → Prop, z_go zP 166 0 [some (.ref x), some (zi p), some (zi q), some (.ref ot), none] [] (hj T Ln M, n, u) Q ↔ Q (.inl (some (zi (Z 0 0)))) (hj T' Ln' M1, n', u')) ∧ ((Z 0 0 = 0 ∧ M1 = mu M' ot 0 (zl v')) ∨ (¬ Z 0 0 = 0 ∧ M1 = M')) ∧ zi v = zi v' ∧ (-2147483648 ≤ v' ∧ v' < 2147483648) := by
  obtain ⟨v', e1, e2, e3⟩ := zi_wr v
  rcases hout with ⟨h0, rfl⟩ | ⟨e, rfl, h1, h2⟩
  · refine ⟨mu M' ot 0 (zl v'), v', fun Q => ?_, .inl ⟨h0, rfl⟩, e1, e2, e3⟩
    rw [h0]
    rw [e1] at hgo
    simp (disch := omega) only [g166_0, g166_1, g166_2, g166_3, g166_4, g166_5, g166_8, g166_9, g166_10, g166_15, g166_16, g166_19, g166_20, g166_21, g166_22, Int.reduceToNat, jtg, mu_s, mu_n, mu_j, mn_s, mn_n, jsl, Option.some.injEq, exists_eq_left', zkl_i, zkl_l, zkl_n, zkl_r, zkl_0, zc_v, zc_n, zc_t, zd_v, zd_n, mj_tg, true_and, ↓reduceIte, not_true_eq_false, not_false_eq_true, ↓if_pos, ↓if_neg, Int.reduceLE, Int.reduceLT, Int.reduceEq, Int.reduceAdd, hgo, zh_v]
  · refine ⟨M', v', fun Q => ?_, .inr ⟨h2, rfl⟩, e1, e2, e3⟩
    rw [h1] at h2
    rw [h1]
    have h3 := hcd e h2
    rcases h3 with ⟨rfl, h4⟩ | ⟨rfl, h4⟩
    · rw [h4]
      simp (disch := omega) only [g166_0, g166_1, g166_2, g166_3, g166_4, g166_5, g166_8, g166_9, g166_10, g166_15, g166_16, g166_19, g166_20, g166_21, g166_22, Int.reduceToNat, jtg, mu_s, mu_n, mu_j, mn_s, mn_n, jsl, Option.some.injEq, exists_eq_left', zkl_i, zkl_l, zkl_n, zkl_r, zkl_0, zc_v, zc_n, zc_t, zd_v, zd_n, mj_tg, true_and, ↓reduceIte, not_true_eq_false, not_false_eq_true, ↓if_pos, ↓if_neg, Int.reduceLE, Int.reduceLT, Int.reduceEq, Int.reduceAdd, hgo, zh_0, zh_s]
    · rw [h4]
      simp (disch := omega) only [g166_0, g166_1, g166_2, g166_3, g166_4, g166_5, g166_8, g166_9, g166_10, g166_15, g166_16, g166_19, g166_20, g166_21, g166_22, Int.reduceToNat, jtg, mu_s, mu_n, mu_j, mn_s, mn_n, jsl, Option.some.injEq, exists_eq_left', zkl_i, zkl_l, zkl_n, zkl_r, zkl_0, zc_v, zc_n, zc_t, zd_v, zd_n, mj_tg, true_and, ↓reduceIte, not_true_eq_false, not_false_eq_true, ↓if_pos, ↓if_neg, Int.reduceLE, Int.reduceLT, Int.reduceEq, Int.reduceAdd, hgo, zh_0, zh_s]
theorem w167 {p q : Int} {cd : Nat → Int} (hx : T x = 8) (ht : T' ot = 101) (hl : Ln' ot = 1) (hgo : ∀ Q : zU → zS → Prop, z_go zP 66 0 [some (.ref x), some (zi p), some (zi q), none, none, none] [] (hj T Ln M, n, u) Q ↔ Q res (hj T' Ln' M', n', u')) (hout : (Z 0 0 = 0 ∧ res = .inl (some (zi v))) ∨ ∃ e, res = .inr e ∧ Z 0 0 = cd e ∧ ¬ Z 0 0 = 0) (hcd : ∀ e, ¬ cd e = 0 → (e = 0 ∧ cd e = 1) ∨ (e = 1 ∧ cd e = 2)) : ∃ M1 v', (∀ Q : zU → zS → Prop, z_go zP 167 0 [some (.ref x), some (zi p), some (zi q), some (.ref ot), none] [] (hj T Ln M, n, u) Q ↔ Q (.inl (some (zi (Z 0 0)))) (hj T' Ln' M1, n', u')) ∧ ((Z 0 0 = 0 ∧ M1 = mu M' ot 0 (zl v')) ∨ (¬ Z 0 0 = 0 ∧ M1 = M')) ∧ zi v = zi v' ∧ (-2147483648 ≤ v' ∧ v' < 2147483648) := by
  obtain ⟨v', e1, e2, e3⟩ := zi_wr v
  rcases hout with ⟨h0, rfl⟩ | ⟨e, rfl, h1, h2⟩
  · refine ⟨mu M' ot 0 (zl v'), v', fun Q => ?_, .inl ⟨h0, rfl⟩, e1, e2, e3⟩
    rw [h0]
    rw [e1] at hgo
    simp (disch := omega) only [g167_0, g167_1, g167_2, g167_3, g167_4, g167_5, g167_8, g167_9, g167_10, g167_15, g167_16, g167_19, g167_20, g167_21, g167_22, Int.reduceToNat, jtg, mu_s, mu_n, mu_j, mn_s, mn_n, jsl, Option.some.injEq, exists_eq_left', zkl_i, zkl_l, zkl_n, zkl_r, zkl_0, zc_v, zc_n, zc_t, zd_v, zd_n, mj_tg, true_and, ↓reduceIte, not_true_eq_false, not_false_eq_true, ↓if_pos, ↓if_neg, Int.reduceLE, Int.reduceLT, Int.reduceEq, Int.reduceAdd, hgo, zh_v]
  · refine ⟨M', v', fun Q => ?_, .inr ⟨h2, rfl⟩, e1, e2, e3⟩
    rw [h1] at h2
    rw [h1]
    have h3 := hcd e h2
    rcases h3 with ⟨rfl, h4⟩ | ⟨rfl, h4⟩
    · rw [h4]
      simp (disch := omega) only [g167_0, g167_1, g167_2, g167_3, g167_4, g167_5, g167_8, g167_9, g167_10, g167_15, g167_16, g167_19, g167_20, g167_21, g167_22, Int.reduceToNat, jtg, mu_s, mu_n, mu_j, mn_s, mn_n, jsl, Option.some.injEq, exists_eq_left', zkl_i, zkl_l, zkl_n, zkl_r, zkl_0, zc_v, zc_n, zc_t, zd_v, zd_n, mj_tg, true_and, ↓reduceIte, not_true_eq_false, not_false_eq_true, ↓if_pos, ↓if_neg, Int.reduceLE, Int.reduceLT, Int.reduceEq, Int.reduceAdd, hgo, zh_0, zh_s]
    · rw [h4]
      simp (disch := omega) only [g167_0, g167_1, g167_2, g167_3, g167_4, g167_5, g167_8, g167_9, g167_10, g167_15, g167_16, g167_19, g167_20, g167_21, g167_22, Int.reduceToNat, jtg, mu_s, mu_n, mu_j, mn_s, mn_n, jsl, Option.some.injEq, exists_eq_left', zkl_i, zkl_l, zkl_n, zkl_r, zkl_0, zc_v, zc_n, zc_t, zd_v, zd_n, mj_tg, true_and, ↓reduceIte, not_true_eq_false, not_false_eq_true, ↓if_pos, ↓if_neg, Int.reduceLE, Int.reduceLT, Int.reduceEq, Int.reduceAdd, hgo, zh_0, zh_s]
theorem w168 {p q : Int} {cd : Nat → Int} (hx : T x = 8) (ht : T' ot = 101) (hl : Ln' ot = 1) (hgo : ∀ Q : zU → zS → Prop, z_go zP 67 0 [some (.ref x), some (zi p), some (zi q), none] [] (hj T Ln M, n, u) Q ↔ Q res (hj T' Ln' M', n', u')) (hout : (Z 0 0 = 0 ∧ res = .inl (some (zl v))) ∨ ∃ e, res = .inr e ∧ Z 0 0 = cd e ∧ ¬ Z 0 0 = 0) (hcd : ∀ e, ¬ cd e = 0 → (e = 0 ∧ cd e = 1) ∨ (e = 1 ∧ cd e = 2)) : ∃ M1 v', (∀ Q : zU → zS → Prop, z_go zP 168 0 [some (.ref x), some (zi p), some (zi q), some (.ref ot), none] [] (hj T Ln M, n, u) Q ↔ Q (.inl (some (zi (Z 0 0)))) (hj T' Ln' M1, n', u')) ∧ ((Z 0 0 = 0 ∧ M1 = mu M' ot 0 (zl v')) ∨ (¬ Z 0 0 = 0 ∧ M1 = M')) ∧ zl v = zl v' ∧ (-9223372036854775808 ≤ v' ∧ v' < 9223372036854775808) := by
  obtain ⟨v', e1, e2, e3⟩ := zl_wr v
  rcases hout with ⟨h0, rfl⟩ | ⟨e, rfl, h1, h2⟩
  · refine ⟨mu M' ot 0 (zl v'), v', fun Q => ?_, .inl ⟨h0, rfl⟩, e1, e2, e3⟩
    rw [h0]
    rw [e1] at hgo
    simp (disch := omega) only [g168_0, g168_1, g168_2, g168_3, g168_4, g168_5, g168_8, g168_9, g168_14, g168_15, g168_18, g168_19, g168_20, g168_21, Int.reduceToNat, jtg, mu_s, mu_n, mu_j, mn_s, mn_n, jsl, Option.some.injEq, exists_eq_left', zkl_i, zkl_l, zkl_n, zkl_r, zkl_0, zc_v, zc_n, zc_t, zd_v, zd_n, mj_tg, true_and, ↓reduceIte, not_true_eq_false, not_false_eq_true, ↓if_pos, ↓if_neg, Int.reduceLE, Int.reduceLT, Int.reduceEq, Int.reduceAdd, hgo, zh_v]
  · refine ⟨M', v', fun Q => ?_, .inr ⟨h2, rfl⟩, e1, e2, e3⟩
    rw [h1] at h2
    rw [h1]
    have h3 := hcd e h2
    rcases h3 with ⟨rfl, h4⟩ | ⟨rfl, h4⟩
    · rw [h4]
      simp (disch := omega) only [g168_0, g168_1, g168_2, g168_3, g168_4, g168_5, g168_8, g168_9, g168_14, g168_15, g168_18, g168_19, g168_20, g168_21, Int.reduceToNat, jtg, mu_s, mu_n, mu_j, mn_s, mn_n, jsl, Option.some.injEq, exists_eq_left', zkl_i, zkl_l, zkl_n, zkl_r, zkl_0, zc_v, zc_n, zc_t, zd_v, zd_n, mj_tg, true_and, ↓reduceIte, not_true_eq_false, not_false_eq_true, ↓if_pos, ↓if_neg, Int.reduceLE, Int.reduceLT, Int.reduceEq, Int.reduceAdd, hgo, zh_0, zh_s]
    · rw [h4]
      simp (disch := omega) only [g168_0, g168_1, g168_2, g168_3, g168_4, g168_5, g168_8, g168_9, g168_14, g168_15, g168_18, g168_19, g168_20, g168_21, Int.reduceToNat, jtg, mu_s, mu_n, mu_j, mn_s, mn_n, jsl, Option.some.injEq, exists_eq_left', zkl_i, zkl_l, zkl_n, zkl_r, zkl_0, zc_v, zc_n, zc_t, zd_v, zd_n, mj_tg, true_and, ↓reduceIte, not_true_eq_false, not_false_eq_true, ↓if_pos, ↓if_neg, Int.reduceLE, Int.reduceLT, Int.reduceEq, Int.reduceAdd, hgo, zh_0, zh_s]
theorem w170 {p q r : Int} {cd : Nat → Int} (hx : T x = 8) (ht : T' ot = 101) (hl : Ln' ot = 1) (hgo : ∀ Q : zU → zS → Prop, z_go zP 69 0 [some (.ref x), some (zi p), some (zi q), some (zi r), none, none] [] (hj T Ln M, n, u) Q ↔ Q res (hj T' Ln' M', n', u')) (hout : (Z 0 0 = 0 ∧ res = .inl (some (zi v))) ∨ ∃ e, res = .inr e ∧ Z 0 0 = cd e ∧ ¬ Z 0 0 = 0) (hcd : ∀ e, ¬ cd e = 0 → (e = 0 ∧ cd e = 1) ∨ (e = 1 ∧ cd e = 2)) : ∃ M1 v', (∀ Q : zU → zS → Prop, z_go zP 170 0 [some (.ref x), some (zi p), some (zi q), some (zi r), some (.ref ot), none] [] (hj T Ln M, n, u) Q ↔ Q (.inl (some (zi (Z 0 0)))) (hj T' Ln' M1, n', u')) ∧ ((Z 0 0 = 0 ∧ M1 = mu M' ot 0 (zl v')) ∨ (¬ Z 0 0 = 0 ∧ M1 = M')) ∧ zi v = zi v' ∧ (-2147483648 ≤ v' ∧ v' < 2147483648) := by
  obtain ⟨v', e1, e2, e3⟩ := zi_wr v
  rcases hout with ⟨h0, rfl⟩ | ⟨e, rfl, h1, h2⟩
  · refine ⟨mu M' ot 0 (zl v'), v', fun Q => ?_, .inl ⟨h0, rfl⟩, e1, e2, e3⟩
    rw [h0]
    rw [e1] at hgo
    simp (disch := omega) only [g170_0, g170_2, g170_3, g170_4, g170_5, g170_6, g170_7, g170_10, g170_11, g170_12, g170_17, g170_18, g170_21, g170_22, g170_23, g170_24, Int.reduceToNat, jtg, mu_s, mu_n, mu_j, mn_s, mn_n, jsl, Option.some.injEq, exists_eq_left', zkl_i, zkl_l, zkl_n, zkl_r, zkl_0, zc_v, zc_n, zc_t, zd_v, zd_n, mj_tg, true_and, ↓reduceIte, not_true_eq_false, not_false_eq_true, ↓if_pos, ↓if_neg, Int.reduceLE, Int.reduceLT, Int.reduceEq, Int.reduceAdd, hgo, zh_v]
  · refine ⟨M', v', fun Q => ?_, .inr ⟨h2, rfl⟩, e1, e2, e3⟩
    rw [h1] at h2
    rw [h1]
    have h3 := hcd e h2
    rcases h3 with ⟨rfl, h4⟩ | ⟨rfl, h4⟩
    · rw [h4]
      simp (disch := omega) only [g170_0, g170_2, g170_3, g170_4, g170_5, g170_6, g170_7, g170_10, g170_11, g170_12, g170_17, g170_18, g170_21, g170_22, g170_23, g170_24, Int.reduceToNat, jtg, mu_s, mu_n, mu_j, mn_s, mn_n, jsl, Option.some.injEq, exists_eq_left', zkl_i, zkl_l, zkl_n, zkl_r, zkl_0, zc_v, zc_n, zc_t, zd_v, zd_n, mj_tg, true_and, ↓reduceIte, not_true_eq_false, not_false_eq_true, ↓if_pos, ↓if_neg, Int.reduceLE, Int.reduceLT, Int.reduceEq, Int.reduceAdd, hgo, zh_0, zh_s]
    · rw [h4]
      simp (disch := omega) only [g170_0, g170_2, g170_3, g170_4, g170_5, g170_6, g170_7, g170_10, g170_11, g170_12, g170_17, g170_18, g170_21, g170_22, g170_23, g170_24, Int.reduceToNat, jtg, mu_s, mu_n, mu_j, mn_s, mn_n, jsl, Option.some.injEq, exists_eq_left', zkl_i, zkl_l, zkl_n, zkl_r, zkl_0, zc_v, zc_n, zc_t, zd_v, zd_n, mj_tg, true_and, ↓reduceIte, not_true_eq_false, not_false_eq_true, ↓if_pos, ↓if_neg, Int.reduceLE, Int.reduceLT, Int.reduceEq, Int.reduceAdd, hgo, zh_0, zh_s]
theorem w171 {p q : Int} {cd : Nat → Int} (hx : T x = 8) (ht : T' ot = 101) (hl : Ln' ot = 1) (hgo : ∀ Q : zU → zS → Prop, z_go zP 70 0 [some (.ref x), some (zi p), some (zi q), none] [] (hj T Ln M, n, u) Q ↔ Q res (hj T' Ln' M', n', u')) (hout : (Z 0 0 = 0 ∧ res = .inl (some (zi v))) ∨ ∃ e, res = .inr e ∧ Z 0 0 = cd e ∧ ¬ Z 0 0 = 0) (hcd : ∀ e, ¬ cd e = 0 → (e = 0 ∧ cd e = 1) ∨ (e = 1 ∧ cd e = 2)) : ∃ M1 v', (∀ Q : zU → zS → Prop, z_go zP 171 0 [some (.ref x), some (zi p), some (zi q), some (.ref ot), none] [] (hj T Ln M, n, u) Q ↔ Q (.inl (some (zi (Z 0 0)))) (hj T' Ln' M1, n', u')) ∧ ((Z 0 0 = 0 ∧ M1 = mu M' ot 0 (zl v')) ∨ (¬ Z 0 0 = 0 ∧ M1 = M')) ∧ zi v = zi v' ∧ (-2147483648 ≤ v' ∧ v' < 2147483648) := by
  obtain ⟨v', e1, e2, e3⟩ := zi_wr v
  rcases hout with ⟨h0, rfl⟩ | ⟨e, rfl, h1, h2⟩
  · refine ⟨mu M' ot 0 (zl v'), v', fun Q => ?_, .inl ⟨h0, rfl⟩, e1, e2, e3⟩
    rw [h0]
    rw [e1] at hgo
    simp (disch := omega) only [g171_0, g171_1, g171_2, g171_3, g171_4, g171_5, g171_8, g171_9, g171_10, g171_15, g171_16, g171_19, g171_20, g171_21, g171_22, Int.reduceToNat, jtg, mu_s, mu_n, mu_j, mn_s, mn_n, jsl, Option.some.injEq, exists_eq_left', zkl_i, zkl_l, zkl_n, zkl_r, zkl_0, zc_v, zc_n, zc_t, zd_v, zd_n, mj_tg, true_and, ↓reduceIte, not_true_eq_false, not_false_eq_true, ↓if_pos, ↓if_neg, Int.reduceLE, Int.reduceLT, Int.reduceEq, Int.reduceAdd, hgo, zh_v]
  · refine ⟨M', v', fun Q => ?_, .inr ⟨h2, rfl⟩, e1, e2, e3⟩
    rw [h1] at h2
    rw [h1]
    have h3 := hcd e h2
    rcases h3 with ⟨rfl, h4⟩ | ⟨rfl, h4⟩
    · rw [h4]
      simp (disch := omega) only [g171_0, g171_1, g171_2, g171_3, g171_4, g171_5, g171_8, g171_9, g171_10, g171_15, g171_16, g171_19, g171_20, g171_21, g171_22, Int.reduceToNat, jtg, mu_s, mu_n, mu_j, mn_s, mn_n, jsl, Option.some.injEq, exists_eq_left', zkl_i, zkl_l, zkl_n, zkl_r, zkl_0, zc_v, zc_n, zc_t, zd_v, zd_n, mj_tg, true_and, ↓reduceIte, not_true_eq_false, not_false_eq_true, ↓if_pos, ↓if_neg, Int.reduceLE, Int.reduceLT, Int.reduceEq, Int.reduceAdd, hgo, zh_0, zh_s]
    · rw [h4]
      simp (disch := omega) only [g171_0, g171_1, g171_2, g171_3, g171_4, g171_5, g171_8, g171_9, g171_10, g171_15, g171_16, g171_19, g171_20, g171_21, g171_22, Int.reduceToNat, jtg, mu_s, mu_n, mu_j, mn_s, mn_n, jsl, Option.some.injEq, exists_eq_left', zkl_i, zkl_l, zkl_n, zkl_r, zkl_0, zc_v, zc_n, zc_t, zd_v, zd_n, mj_tg, true_and, ↓reduceIte, not_true_eq_false, not_false_eq_true, ↓if_pos, ↓if_neg, Int.reduceLE, Int.reduceLT, Int.reduceEq, Int.reduceAdd, hgo, zh_0, zh_s]
theorem w172 {p q r : Int} {cd : Nat → Int} (hx : T x = 8) (ht : T' ot = 101) (hl : Ln' ot = 1) (hgo : ∀ Q : zU → zS → Prop, z_go zP 71 0 [some (.ref x), some (zi p), some (zi q), some (zi r), none] [] (hj T Ln M, n, u) Q ↔ Q res (hj T' Ln' M', n', u')) (hout : (Z 0 0 = 0 ∧ res = .inl (some (zl v))) ∨ ∃ e, res = .inr e ∧ Z 0 0 = cd e ∧ ¬ Z 0 0 = 0) (hcd : ∀ e, ¬ cd e = 0 → (e = 0 ∧ cd e = 1) ∨ (e = 1 ∧ cd e = 2) ∨ (e = 3 ∧ cd e = 3)) : ∃ M1 v', (∀ Q : zU → zS → Prop, z_go zP 172 0 [some (.ref x), some (zi p), some (zi q), some (zi r), some (.ref ot), none] [] (hj T Ln M, n, u) Q ↔ Q (.inl (some (zi (Z 0 0)))) (hj T' Ln' M1, n', u')) ∧ ((Z 0 0 = 0 ∧ M1 = mu M' ot 0 (zl v')) ∨ (¬ Z 0 0 = 0 ∧ M1 = M')) ∧ zl v = zl v' ∧ (-9223372036854775808 ≤ v' ∧ v' < 9223372036854775808) := by
  obtain ⟨v', e1, e2, e3⟩ := zl_wr v
  rcases hout with ⟨h0, rfl⟩ | ⟨e, rfl, h1, h2⟩
  · refine ⟨mu M' ot 0 (zl v'), v', fun Q => ?_, .inl ⟨h0, rfl⟩, e1, e2, e3⟩
    rw [h0]
    rw [e1] at hgo
    simp (disch := omega) only [g172_0, g172_2, g172_3, g172_4, g172_5, g172_6, g172_7, g172_10, g172_11, g172_16, g172_17, g172_20, g172_21, g172_24, g172_25, g172_26, g172_27, Int.reduceToNat, jtg, mu_s, mu_n, mu_j, mn_s, mn_n, jsl, Option.some.injEq, exists_eq_left', zkl_i, zkl_l, zkl_n, zkl_r, zkl_0, zc_v, zc_n, zc_t, zd_v, zd_n, mj_tg, true_and, ↓reduceIte, not_true_eq_false, not_false_eq_true, ↓if_pos, ↓if_neg, Int.reduceLE, Int.reduceLT, Int.reduceEq, Int.reduceAdd, hgo, zh_v]
  · refine ⟨M', v', fun Q => ?_, .inr ⟨h2, rfl⟩, e1, e2, e3⟩
    rw [h1] at h2
    rw [h1]
    have h3 := hcd e h2
    rcases h3 with ⟨rfl, h4⟩ | ⟨rfl, h4⟩ | ⟨rfl, h4⟩
    · rw [h4]
      simp (disch := omega) only [g172_0, g172_2, g172_3, g172_4, g172_5, g172_6, g172_7, g172_10, g172_11, g172_16, g172_17, g172_20, g172_21, g172_24, g172_25, g172_26, g172_27, Int.reduceToNat, jtg, mu_s, mu_n, mu_j, mn_s, mn_n, jsl, Option.some.injEq, exists_eq_left', zkl_i, zkl_l, zkl_n, zkl_r, zkl_0, zc_v, zc_n, zc_t, zd_v, zd_n, mj_tg, true_and, ↓reduceIte, not_true_eq_false, not_false_eq_true, ↓if_pos, ↓if_neg, Int.reduceLE, Int.reduceLT, Int.reduceEq, Int.reduceAdd, hgo, zh_0, zh_s]
    · rw [h4]
      simp (disch := omega) only [g172_0, g172_2, g172_3, g172_4, g172_5, g172_6, g172_7, g172_10, g172_11, g172_16, g172_17, g172_20, g172_21, g172_24, g172_25, g172_26, g172_27, Int.reduceToNat, jtg, mu_s, mu_n, mu_j, mn_s, mn_n, jsl, Option.some.injEq, exists_eq_left', zkl_i, zkl_l, zkl_n, zkl_r, zkl_0, zc_v, zc_n, zc_t, zd_v, zd_n, mj_tg, true_and, ↓reduceIte, not_true_eq_false, not_false_eq_true, ↓if_pos, ↓if_neg, Int.reduceLE, Int.reduceLT, Int.reduceEq, Int.reduceAdd, hgo, zh_0, zh_s]
    · rw [h4]
      simp (disch := omega) only [g172_0, g172_2, g172_3, g172_4, g172_5, g172_6, g172_7, g172_10, g172_11, g172_16, g172_17, g172_20, g172_21, g172_24, g172_25, g172_26, g172_27, Int.reduceToNat, jtg, mu_s, mu_n, mu_j, mn_s, mn_n, jsl, Option.some.injEq, exists_eq_left', zkl_i, zkl_l, zkl_n, zkl_r, zkl_0, zc_v, zc_n, zc_t, zd_v, zd_n, mj_tg, true_and, ↓reduceIte, not_true_eq_false, not_false_eq_true, ↓if_pos, ↓if_neg, Int.reduceLE, Int.reduceLT, Int.reduceEq, Int.reduceAdd, hgo, zh_0, zh_s]
theorem w173 {p : Int} {cd : Nat → Int} (hx : T x = 8) (ht : T' ot = 101) (hl : Ln' ot = 1) (hgo : ∀ Q : zU → zS → Prop, z_go zP 72 0 [some (.ref x), some (zi p), none] [] (hj T Ln M, n, u) Q ↔ Q res (hj T' Ln' M', n', u')) (hout : (Z 0 0 = 0 ∧ res = .inl (some (zi v))) ∨ ∃ e, res = .inr e ∧ Z 0 0 = cd e ∧ ¬ Z 0 0 = 0) (hcd : ∀ e, ¬ cd e = 0 → (e = 0 ∧ cd e = 1)) : ∃ M1 v', (∀ Q : zU → zS → Prop, z_go zP 173 0 [some (.ref x), some (zi p), some (.ref ot), none] [] (hj T Ln M, n, u) Q ↔ Q (.inl (some (zi (Z 0 0)))) (hj T' Ln' M1, n', u')) ∧ ((Z 0 0 = 0 ∧ M1 = mu M' ot 0 (zl v')) ∨ (¬ Z 0 0 = 0 ∧ M1 = M')) ∧ zi v = zi v' ∧ (-2147483648 ≤ v' ∧ v' < 2147483648) := by
  obtain ⟨v', e1, e2, e3⟩ := zi_wr v
  rcases hout with ⟨h0, rfl⟩ | ⟨e, rfl, h1, h2⟩
  · refine ⟨mu M' ot 0 (zl v'), v', fun Q => ?_, .inl ⟨h0, rfl⟩, e1, e2, e3⟩
    rw [h0]
    rw [e1] at hgo
    simp (disch := omega) only [g173_0, g173_1, g173_2, g173_3, g173_4, g173_7, g173_8, g173_9, g173_13, g173_14, g173_15, g173_16, Int.reduceToNat, jtg, mu_s, mu_n, mu_j, mn_s, mn_n, jsl, Option.some.injEq, exists_eq_left', zkl_i, zkl_l, zkl_n, zkl_r, zkl_0, zc_v, zc_n, zc_t, zd_v, zd_n, mj_tg, true_and, ↓reduceIte, not_true_eq_false, not_false_eq_true, ↓if_pos, ↓if_neg, Int.reduceLE, Int.reduceLT, Int.reduceEq, Int.reduceAdd, hgo, zh_v]
  · refine ⟨M', v', fun Q => ?_, .inr ⟨h2, rfl⟩, e1, e2, e3⟩
    rw [h1] at h2
    rw [h1]
    have h3 := hcd e h2
    obtain ⟨rfl, h4⟩ := h3
    rw [h4]
    simp (disch := omega) only [g173_0, g173_1, g173_2, g173_3, g173_4, g173_7, g173_8, g173_9, g173_13, g173_14, g173_15, g173_16, Int.reduceToNat, jtg, mu_s, mu_n, mu_j, mn_s, mn_n, jsl, Option.some.injEq, exists_eq_left', zkl_i, zkl_l, zkl_n, zkl_r, zkl_0, zc_v, zc_n, zc_t, zd_v, zd_n, mj_tg, true_and, ↓reduceIte, not_true_eq_false, not_false_eq_true, ↓if_pos, ↓if_neg, Int.reduceLE, Int.reduceLT, Int.reduceEq, Int.reduceAdd, hgo, zh_0, zh_s]
theorem w169 {p q : Int} {cd : Nat → Int} (hx : T x = 8) (ht : T' ot = 101) (hl : Ln' ot = 1) (hgo : ∀ Q : zU → zS → Prop, z_go zP 68 0 [some (.ref x), some (zi p), some (zi q), none, none, none, none] [] (hj T Ln M, n, u) Q ↔ Q res (hj T' Ln' M', n', u')) (hv : v = 0 ∨ v = 1) (hout : (Z 0 0 = 0 ∧ res = .inl (some (zi v))) ∨ ∃ e, res = .inr e ∧ Z 0 0 = cd e ∧ ¬ Z 0 0 = 0) (hcd : ∀ e, ¬ cd e = 0 → (e = 0 ∧ cd e = 1)) : ∃ M1, (∀ Q : zU → zS → Prop, z_go zP 169 0 [some (.ref x), some (zi p), some (zi q), some (.ref ot), none] [] (hj T Ln M, n, u) Q ↔ Q (.inl (some (zi (Z 0 0)))) (hj T' Ln' M1, n', u')) ∧ ((Z 0 0 = 0 ∧ M1 = mu M' ot 0 (zl v)) ∨ (¬ Z 0 0 = 0 ∧ M1 = M')) := by
  rcases hout with ⟨h0, rfl⟩ | ⟨e, rfl, h1, h2⟩
  · refine ⟨mu M' ot 0 (zl v), fun Q => ?_, .inl ⟨h0, rfl⟩⟩
    rw [h0]
    rcases hv with rfl | rfl
    · simp (disch := omega) only [g169_0, g169_1, g169_2, g169_3, g169_4, g169_5, g169_8, g169_8b, g169_11, g169_12, g169_15, g169_16, g169_17, g169_22, g169_23, g169_24, g169_25, Int.reduceToNat, jtg, mu_s, mu_n, mu_j, mn_s, mn_n, jsl, Option.some.injEq, exists_eq_left', zkl_i, zkl_l, zkl_n, zkl_r, zkl_0, zc_v, zc_n, zc_t, zd_v, zd_n, mj_tg, true_and, ↓reduceIte, not_true_eq_false, not_false_eq_true, ↓if_pos, ↓if_neg, Int.reduceLE, Int.reduceLT, Int.reduceEq, Int.reduceAdd, hgo, zh_v]
    · simp (disch := omega) only [g169_0, g169_1, g169_2, g169_3, g169_4, g169_5, g169_8, g169_8b, g169_11, g169_12, g169_15, g169_16, g169_17, g169_22, g169_23, g169_24, g169_25, Int.reduceToNat, jtg, mu_s, mu_n, mu_j, mn_s, mn_n, jsl, Option.some.injEq, exists_eq_left', zkl_i, zkl_l, zkl_n, zkl_r, zkl_0, zc_v, zc_n, zc_t, zd_v, zd_n, mj_tg, true_and, ↓reduceIte, not_true_eq_false, not_false_eq_true, ↓if_pos, ↓if_neg, Int.reduceLE, Int.reduceLT, Int.reduceEq, Int.reduceAdd, hgo, zh_v]
  · refine ⟨M', fun Q => ?_, .inr ⟨h2, rfl⟩⟩
    rw [h1] at h2
    rw [h1]
    obtain ⟨rfl, h4⟩ := hcd e h2
    rw [h4]
    simp (disch := omega) only [g169_0, g169_1, g169_2, g169_3, g169_4, g169_5, g169_8, g169_8b, g169_11, g169_12, g169_15, g169_16, g169_17, g169_22, g169_23, g169_24, g169_25, Int.reduceToNat, jtg, mu_s, mu_n, mu_j, mn_s, mn_n, jsl, Option.some.injEq, exists_eq_left', zkl_i, zkl_l, zkl_n, zkl_r, zkl_0, zc_v, zc_n, zc_t, zd_v, zd_n, mj_tg, true_and, ↓reduceIte, not_true_eq_false, not_false_eq_true, ↓if_pos, ↓if_neg, Int.reduceLE, Int.reduceLT, Int.reduceEq, Int.reduceAdd, hgo, zh_0, zh_s]
end
