/-! CALLS THAT TELL, drop -/
section
variable {T T' : Nat → Nat} {Ln Ln' : Nat → Int} {M M' : Nat → Int → Value} {n u x : Nat} {A A' : Int → Nat} {W W' : Int → Int → Nat} {Ow Ow' : Nat → Int} {X X' : Int → Int} {Y Z : zY} {c n0 u0 k : Int} {cd : Nat → Int}
theorem c73 (h : RZ T Ln M n u x A W Ow X Y c n0 u0) (k1 : -2147483648 ≤ k) (k2 : k < 2147483648) : CR 73 [some (.ref x), some (zi k), none] T Ln M n u x Ow c n0 u0 cd (zi (a_kind Y k).1) (a_kind Y k).2 := by
  have hH := h.1.2.2.2.1
  have hT : T x = 8 := hH.1.1
  unfold a_kind
  by_cases d1 : m_th Y k
  · rw [if_pos d1]
    obtain ⟨-, a1, a2, a3, a4, a5⟩ := RLX_k h.1 d1
    have hi : isT (T (A k)) := by rw [a1]; exact kt_i
    refine CR_an h (fun Q => ?_)
    simp (disch := omega) only [g73_0, g73_1, g73_2, g73_5, g73_5n, g73_6, g73_6n, g73_7, g73_7n, g73_10, g73_11, g73_14, g73_14n, g73_15, g73_18, Int.reduceToNat, jtg, mu_s, mu_n, mu_j, mn_s, mn_n, jg0, jp0, Option.some.injEq, exists_eq_left', zkl_i, zkl_l, zkl_n, zkl_r, zkl_0, zc_v, zc_n, zc_t, zd_v, zd_n, mj_tg, true_and, ↓reduceIte, not_true_eq_false, not_false_eq_true, ↓if_pos, ↓if_neg, Int.reduceLE, Int.reduceLT, Int.reduceEq, Int.reduceAdd, s85_y hH (tgo_y d1), a3]
  · rw [if_neg d1]
    refine CR_an h (fun Q => ?_)
    simp (disch := omega) only [g73_0, g73_1, g73_2, g73_5, g73_5n, g73_6, g73_6n, g73_7, g73_7n, g73_10, g73_11, g73_14, g73_14n, g73_15, g73_18, Int.reduceToNat, jtg, mu_s, mu_n, mu_j, mn_s, mn_n, jg0, jp0, Option.some.injEq, exists_eq_left', zkl_i, zkl_l, zkl_n, zkl_r, zkl_0, zc_v, zc_n, zc_t, zd_v, zd_n, mj_tg, true_and, ↓reduceIte, not_true_eq_false, not_false_eq_true, ↓if_pos, ↓if_neg, Int.reduceLE, Int.reduceLT, Int.reduceEq, Int.reduceAdd, s85_n hH k1 k2 (tgo_n d1)]
theorem c74 (h : RZ T Ln M n u x A W Ow X Y c n0 u0) : CR 74 [some (.ref x)] T Ln M n u x Ow c n0 u0 cd (zi (Y 1 0)) (yu Y 0 0 0) := by
  have hH := h.1.2.2.2.1
  have hT : T x = 8 := hH.1.1
  have h2 := h.1.2.2.2.2.1
  refine CR_an h (fun Q => ?_)
  simp (disch := omega) only [g74_0, g74_1, g74_4, Int.reduceToNat, jtg, mu_s, mu_n, mu_j, mn_s, mn_n, jg_8_2, Option.some.injEq, exists_eq_left', zkl_i, zkl_l, zkl_n, zkl_r, zkl_0, zc_v, zc_n, zc_t, zd_v, zd_n, mj_tg, true_and, ↓reduceIte, not_true_eq_false, not_false_eq_true, ↓if_pos, ↓if_neg, Int.reduceLE, Int.reduceLT, Int.reduceEq, Int.reduceAdd, h2]
theorem c75_l {w : Int} {l6 : Option Value} {Q : zU → zS → Prop} (h : RZ T Ln M n u x A W Ow X Y c n0 u0) (w1 : 1 ≤ w) (w2 : w ≤ 7) : ∀ (m : Nat) (j : Int) (l6 : Option Value), 0 ≤ j → j + m = 61 → (z_go zP 75 35 [some (.ref x), some (zi w), some (zi (m_cn Y w (if j - 1 < Y 2 0 then j - 1 else Y 2 0).toNat)), some (.ref (x + 1)), some (zi 61), some (zi j), l6] [] (hj T Ln M, n, u) Q ↔ Q (.inl (some (zi (m_cn Y w (Y 2 0).toNat)))) (hj T Ln M, n, u)) := by
  have hH := h.1.2.2.2.1
  obtain ⟨⟨h1, h2, h3⟩, h4, h5, h6, h7, h8⟩ := hH
  intro m
  induction m with
  | zero =>
    intro j l6 j1 j2
    have e : (if j - 1 < Y 2 0 then j - 1 else Y 2 0) = Y 2 0 := by split <;> omega
    rw [e]
    simp (disch := omega) only [g75_0, g75_1, g75_2, g75_4, g75_7, g75_7b, g75_10, g75_11, g75_12, g75_13, g75_13b, g75_16, g75_17, g75_20, g75_21, g75_22, g75_23, g75_24, g75_27, g75_27n, g75_28, g75_28n, g75_29, g75_30, g75_32, g75_33, g75_35, g75_37, g75_39, g75_43, g75_45, g75_46, g75_46n, g75_48, g75_48n, g75_50, g75_50n, g75_53, g75_54, g75_55, g75_58, g75_58n, g75_60, g75_63, g75_64, g75_65, g75_66, g75_69, g75_72, g75_75, g75_78, g75_79, Int.reduceToNat, jtg, mu_s, mu_n, mu_j, mn_s, mn_n, jg_8_1, jg_8_0, jln, jaa, jg0, jp0, Option.some.injEq, exists_eq_left', zkl_i, zkl_l, zkl_n, zkl_r, zkl_0, zc_v, zc_n, zc_t, zd_v, zd_n, mj_tg, true_and, ↓reduceIte, not_true_eq_false, not_false_eq_true, ↓if_pos, ↓if_neg, Int.reduceLE, Int.reduceLT, Int.reduceEq, Int.reduceAdd]
  | succ m ih =>
    intro j l6 j1 j2
    have h9 := h7 j j1 (by omega)
    by_cases d1 : m_th Y j
    · rw [tgo_y d1] at h9
      obtain ⟨-, a1, a2, a3, a4, a5⟩ := RLX_k h.1 d1
      have hi : isT (T (A j)) := by rw [a1]; exact kt_i
      have hd := d1.1
      have e1 : (if j + 1 - 1 < Y 2 0 then j + 1 - 1 else Y 2 0) = j := by split <;> omega
      have e2 : (if j - 1 < Y 2 0 then j - 1 else Y 2 0) = j - 1 := by split <;> omega
      have e3 : j.toNat = (j - 1).toNat + 1 := by omega
      have e4 : (((j - 1).toNat : Nat) : Int) + 1 = j := by omega
      have e5 : m_cn Y w j.toNat = m_cn Y w (j - 1).toNat + bI (¬ Y 4 j = 0 ∧ (w = 1 ∨ Y 3 j = w - 1)) := by
        rw [e3]
        show m_cn Y w (j - 1).toNat + bI (¬ Y 4 ((((j - 1).toNat : Nat) : Int) + 1) = 0 ∧ (w = 1 ∨ Y 3 ((((j - 1).toNat : Nat) : Int) + 1) = w - 1)) = _
        simp only [e4]
      have h10 := ih (j + 1) (some (.ref (A j))) (by omega) (by omega)
      rw [e1, e5] at h10
      rw [e2, ← h10]
      refine g75_35.trans ?_
      by_cases c1 : w = 1
      · rw [bI_t ⟨d1.2, .inl c1⟩]
        simp (disch := omega) only [g75_0, g75_1, g75_2, g75_4, g75_7, g75_7b, g75_10, g75_11, g75_12, g75_13, g75_13b, g75_16, g75_17, g75_20, g75_21, g75_22, g75_23, g75_24, g75_27, g75_27n, g75_28, g75_28n, g75_29, g75_30, g75_32, g75_33, g75_37, g75_39, g75_42, g75_42n, g75_43, g75_45, g75_46, g75_46n, g75_48, g75_48n, g75_50, g75_50n, g75_53, g75_54, g75_55, g75_58, g75_58n, g75_60, g75_63, g75_64, g75_65, g75_66, g75_69, g75_72, g75_75, g75_78, g75_79, Int.reduceToNat, jtg, mu_s, mu_n, mu_j, mn_s, mn_n, jg_8_1, jg_8_0, jln, jaa, jg0, jp0, Option.some.injEq, exists_eq_left', zkl_i, zkl_l, zkl_n, zkl_r, zkl_0, zc_v, zc_n, zc_t, zd_v, zd_n, mj_tg, true_and, ↓reduceIte, not_true_eq_false, not_false_eq_true, ↓if_pos, ↓if_neg, Int.reduceLE, Int.reduceLT, Int.reduceEq, Int.reduceAdd, h9, c1]
      · by_cases c2 : Y 3 j = w - 1
        · rw [bI_t ⟨d1.2, .inr c2⟩]
          simp (disch := omega) only [g75_0, g75_1, g75_2, g75_4, g75_7, g75_7b, g75_10, g75_11, g75_12, g75_13, g75_13b, g75_16, g75_17, g75_20, g75_21, g75_22, g75_23, g75_24, g75_27, g75_27n, g75_28, g75_28n, g75_29, g75_30, g75_32, g75_33, g75_37, g75_39, g75_42, g75_42n, g75_43, g75_45, g75_46, g75_46n, g75_48, g75_48n, g75_50, g75_50n, g75_53, g75_54, g75_55, g75_58, g75_58n, g75_60, g75_63, g75_64, g75_65, g75_66, g75_69, g75_72, g75_75, g75_78, g75_79, Int.reduceToNat, jtg, mu_s, mu_n, mu_j, mn_s, mn_n, jg_8_1, jg_8_0, jln, jaa, jg0, jp0, Option.some.injEq, exists_eq_left', zkl_i, zkl_l, zkl_n, zkl_r, zkl_0, zc_v, zc_n, zc_t, zd_v, zd_n, mj_tg, true_and, ↓reduceIte, not_true_eq_false, not_false_eq_true, ↓if_pos, ↓if_neg, Int.reduceLE, Int.reduceLT, Int.reduceEq, Int.reduceAdd, h9, a3]
        · rw [bI_f (fun hh => by rcases hh.2 with h | h <;> omega)]
          simp (disch := omega) only [g75_0, g75_1, g75_2, g75_4, g75_7, g75_7b, g75_10, g75_11, g75_12, g75_13, g75_13b, g75_16, g75_17, g75_20, g75_21, g75_22, g75_23, g75_24, g75_27, g75_27n, g75_28, g75_28n, g75_29, g75_30, g75_32, g75_33, g75_37, g75_39, g75_42, g75_42n, g75_43, g75_45, g75_46, g75_46n, g75_48, g75_48n, g75_50, g75_50n, g75_53, g75_54, g75_55, g75_58, g75_58n, g75_60, g75_63, g75_64, g75_65, g75_66, g75_69, g75_72, g75_75, g75_78, g75_79, Int.reduceToNat, jtg, mu_s, mu_n, mu_j, mn_s, mn_n, jg_8_1, jg_8_0, jln, jaa, jg0, jp0, Option.some.injEq, exists_eq_left', zkl_i, zkl_l, zkl_n, zkl_r, zkl_0, zc_v, zc_n, zc_t, zd_v, zd_n, mj_tg, true_and, ↓reduceIte, not_true_eq_false, not_false_eq_true, ↓if_pos, ↓if_neg, Int.reduceLE, Int.reduceLT, Int.reduceEq, Int.reduceAdd, h9, a3, Int.add_zero]
    · rw [tgo_n d1] at h9
      have h10 := ih (j + 1) (some .null) (by omega) (by omega)
      have e5 : m_cn Y w (if j + 1 - 1 < Y 2 0 then j + 1 - 1 else Y 2 0).toNat = m_cn Y w (if j - 1 < Y 2 0 then j - 1 else Y 2 0).toNat := by
        by_cases hj : j ≤ Y 2 0
        · by_cases hj0 : j = 0
          · subst hj0
            have e1 : (if (0 : Int) + 1 - 1 < Y 2 0 then (0 : Int) + 1 - 1 else Y 2 0).toNat = 0 := by split <;> omega
            have e2 : (if (0 : Int) - 1 < Y 2 0 then (0 : Int) - 1 else Y 2 0).toNat = 0 := by split <;> omega
            rw [e1, e2]
          · have e1 : (if j + 1 - 1 < Y 2 0 then j + 1 - 1 else Y 2 0) = j := by split <;> omega
            have e2 : (if j - 1 < Y 2 0 then j - 1 else Y 2 0) = j - 1 := by split <;> omega
            have e3 : j.toNat = (j - 1).toNat + 1 := by omega
            have e4 : (((j - 1).toNat : Nat) : Int) + 1 = j := by omega
            rw [e1, e2, e3]
            show m_cn Y w (j - 1).toNat + bI (¬ Y 4 ((((j - 1).toNat : Nat) : Int) + 1) = 0 ∧ (w = 1 ∨ Y 3 ((((j - 1).toNat : Nat) : Int) + 1) = w - 1)) = _
            simp only [e4]
            rw [bI_f (fun hh => d1 ⟨⟨by omega, hj⟩, hh.1⟩)]
            omega
        · have e1 : (if j + 1 - 1 < Y 2 0 then j + 1 - 1 else Y 2 0) = Y 2 0 := by split <;> omega
          have e2 : (if j - 1 < Y 2 0 then j - 1 else Y 2 0) = Y 2 0 := by split <;> omega
          rw [e1, e2]
      rw [e5] at h10
      rw [← h10]
      refine g75_35.trans ?_
      simp (disch := omega) only [g75_0, g75_1, g75_2, g75_4, g75_7, g75_7b, g75_10, g75_11, g75_12, g75_13, g75_13b, g75_16, g75_17, g75_20, g75_21, g75_22, g75_23, g75_24, g75_27, g75_27n, g75_28, g75_28n, g75_29, g75_30, g75_32, g75_33, g75_37, g75_39, g75_42, g75_42n, g75_43, g75_45, g75_46, g75_46n, g75_48, g75_48n, g75_50, g75_50n, g75_53, g75_54, g75_55, g75_58, g75_58n, g75_60, g75_63, g75_64, g75_65, g75_66, g75_69, g75_72, g75_75, g75_78, g75_79, Int.reduceToNat, jtg, mu_s, mu_n, mu_j, mn_s, mn_n, jg_8_1, jg_8_0, jln, jaa, jg0, jp0, Option.some.injEq, exists_eq_left', zkl_i, zkl_l, zkl_n, zkl_r, zkl_0, zc_v, zc_n, zc_t, zd_v, zd_n, mj_tg, true_and, ↓reduceIte, not_true_eq_false, not_false_eq_true, ↓if_pos, ↓if_neg, Int.reduceLE, Int.reduceLT, Int.reduceEq, Int.reduceAdd, h9]
theorem c75 {w : Int} (h : RZ T Ln M n u x A W Ow X Y c n0 u0) (w1 : -2147483648 ≤ w) (w2 : w < 2147483648) : CR 75 [some (.ref x), some (zi w), none, none, none, none, none] T Ln M n u x Ow c n0 u0 cd (zi (a_count Y w).1) (a_count Y w).2 := by
  have hH := h.1.2.2.2.1
  obtain ⟨⟨h1, h2, h3⟩, h4, h5, h6, h7, h8⟩ := hH
  unfold a_count
  by_cases d1 : 0 ≤ w ∧ w ≤ 7
  · rw [if_pos d1]
    have d1' : ¬ ¬ (0 ≤ w ∧ w ≤ 7) := fun hh => hh d1
    by_cases d2 : w = 0
    · rw [if_pos d2]
      refine CR_an h (fun Q => ?_)
      simp (disch := omega) only [g75_0, g75_1, g75_2, g75_4, g75_7, g75_7b, g75_10, g75_11, g75_12, g75_13, g75_13b, g75_16, g75_17, g75_20, g75_21, g75_22, g75_23, g75_24, g75_27, g75_27n, g75_28, g75_28n, g75_29, g75_30, g75_32, g75_33, g75_35, g75_37, g75_39, g75_42, g75_42n, g75_43, g75_45, g75_46, g75_46n, g75_48, g75_48n, g75_50, g75_50n, g75_53, g75_54, g75_55, g75_58, g75_58n, g75_60, g75_63, g75_64, g75_65, g75_66, g75_69, g75_72, g75_75, g75_78, g75_79, Int.reduceToNat, jtg, mu_s, mu_n, mu_j, mn_s, mn_n, jg_8_1, jg_8_0, jln, jaa, jg0, jp0, Option.some.injEq, exists_eq_left', zkl_i, zkl_l, zkl_n, zkl_r, zkl_0, zc_v, zc_n, zc_t, zd_v, zd_n, mj_tg, true_and, ↓reduceIte, not_true_eq_false, not_false_eq_true, ↓if_pos, ↓if_neg, Int.reduceLE, Int.reduceLT, Int.reduceEq, Int.reduceAdd, s76, bI_f d1', h5]
    · rw [if_neg d2]
      refine CR_an h (fun Q => ?_)
      refine Iff.trans ?_ (c75_l (l6 := none) h (by omega) d1.2 61 0 none (by omega) (by omega))
      have e : (if (0 : Int) - 1 < Y 2 0 then (0 : Int) - 1 else Y 2 0).toNat = 0 := by split <;> omega
      rw [e]
      simp (disch := omega) only [g75_0, g75_1, g75_2, g75_4, g75_7, g75_7b, g75_10, g75_11, g75_12, g75_13, g75_13b, g75_16, g75_17, g75_20, g75_21, g75_22, g75_23, g75_24, g75_27, g75_27n, g75_28, g75_28n, g75_29, g75_30, g75_32, g75_33, g75_37, g75_39, g75_42, g75_42n, g75_43, g75_45, g75_46, g75_46n, g75_48, g75_48n, g75_50, g75_50n, g75_53, g75_54, g75_55, g75_58, g75_58n, g75_60, g75_63, g75_64, g75_65, g75_66, g75_69, g75_72, g75_75, g75_78, g75_79, Int.reduceToNat, jtg, mu_s, mu_n, mu_j, mn_s, mn_n, jg_8_1, jg_8_0, jln, jaa, jg0, jp0, Option.some.injEq, exists_eq_left', zkl_i, zkl_l, zkl_n, zkl_r, zkl_0, zc_v, zc_n, zc_t, zd_v, zd_n, mj_tg, true_and, ↓reduceIte, not_true_eq_false, not_false_eq_true, ↓if_pos, ↓if_neg, Int.reduceLE, Int.reduceLT, Int.reduceEq, Int.reduceAdd, s76, bI_f d1', h4, h3, m_cn]
  · rw [if_neg d1]
    refine CR_an h (fun Q => ?_)
    simp (disch := omega) only [g75_0, g75_1, g75_2, g75_4, g75_7, g75_7b, g75_10, g75_11, g75_12, g75_13, g75_13b, g75_16, g75_17, g75_20, g75_21, g75_22, g75_23, g75_24, g75_27, g75_27n, g75_28, g75_28n, g75_29, g75_30, g75_32, g75_33, g75_35, g75_37, g75_39, g75_42, g75_42n, g75_43, g75_45, g75_46, g75_46n, g75_48, g75_48n, g75_50, g75_50n, g75_53, g75_54, g75_55, g75_58, g75_58n, g75_60, g75_63, g75_64, g75_65, g75_66, g75_69, g75_72, g75_75, g75_78, g75_79, Int.reduceToNat, jtg, mu_s, mu_n, mu_j, mn_s, mn_n, jg_8_1, jg_8_0, jln, jaa, jg0, jp0, Option.some.injEq, exists_eq_left', zkl_i, zkl_l, zkl_n, zkl_r, zkl_0, zc_v, zc_n, zc_t, zd_v, zd_n, mj_tg, true_and, ↓reduceIte, not_true_eq_false, not_false_eq_true, ↓if_pos, ↓if_neg, Int.reduceLE, Int.reduceLT, Int.reduceEq, Int.reduceAdd, s76, bI_t d1]
/-- whose run is shown -/
theorem shown (h : RZ T Ln M n u x A W Ow X Y c n0 u0) (d1 : m_th Y k) (d2 : Y 3 k = 3 ∨ Y 3 k = 5) : ∃ r, RN T Ln M A Y r k (m_po Y k) ∧ (∀ Q : zU → zS → Prop, z_go zP 93 0 [some (.ref x), some (zi k), none, none] [] (hj T Ln M, n, u) Q ↔ Q (.inl (some (.ref r))) (hj T Ln M, n, u)) := by
  have hH := h.1.2.2.2.1
  obtain ⟨t, a1, a2, a3, a4, a5⟩ := RLX_k h.1 d1
  unfold m_po
  rcases d2 with d2 | d2
  · rw [if_pos d2]
    obtain ⟨b1, -⟩ := t.2.2.1 d2
    rw [d2] at a1
    exact ⟨A k, b1, fun Q => s93_r hH (tgo_y d1) a1⟩
  · rw [if_neg (by omega)]
    obtain ⟨-, ⟨-, -, -, b4⟩, -, -, -, -, -, -, b1, -⟩ := t.2.2.2.2.1 d2
    rw [d2] at a1
    exact ⟨A k + 6, b1, fun Q => s93_s hH (tgo_y d1) a1 b4⟩
theorem c66 {w : Int} (h : RZ T Ln M n u x A W Ow X Y c n0 u0) (k1 : -2147483648 ≤ k) (k2 : k < 2147483648) (w1 : -2147483648 ≤ w) (w2 : w < 2147483648) (hd0 : cd 0 = 1) (hd1 : cd 1 = 2) : CR 66 [some (.ref x), some (zi k), some (zi w), none, none, none] T Ln M n u x Ow c n0 u0 cd (zi (a_state Y k w).1) (a_state Y k w).2 := by
  have hH := h.1.2.2.2.1
  have hT : T x = 8 := hH.1.1
  have hR := h.1.1
  unfold a_state
  by_cases d1 : m_th Y k
  · rw [if_pos d1]
    obtain ⟨t, a1, a2, a3, a4, a5⟩ := RLX_k h.1 d1
    have hi : isT (T (A k)) := by rw [a1]; exact kt_i
    by_cases d2 : Y 3 k = 3 ∨ Y 3 k = 5
    · rw [if_pos d2]
      obtain ⟨r, ⟨⟨r1, r2, r3, r4, r5⟩, r6, r7, r8, r9, r10, r11, r12, r13, r14⟩, hsh⟩ := shown h d1 d2
      obtain ⟨y1, y2⟩ : 0 ≤ Y 22 k ∧ Y 22 k ≤ 1 := hR 22 k
      by_cases d0 : w = 0
      · subst d0
        rw [if_pos (by split <;> omega)]
        refine CR_an h (fun Q => ?_)
        simp (disch := omega) only [g66_0, g66_1, g66_2, g66_5, g66_5n, g66_6, g66_7, g66_7b, g66_10, g66_10n, g66_11, g66_14, g66_15, g66_16, g66_17, g66_20, g66_20n, g66_21, g66_24, g66_24b, g66_27, g66_28, g66_31, g66_32, g66_33, g66_34, g66_35, g66_38, g66_38n, g66_40, g66_40n, g66_42, g66_42n, g66_45, g66_45b, g66_48, g66_48n, g66_50, g66_53, g66_53n, g66_55, g66_56, g66_57, g66_58, g66_61, g66_61b, g66_64, g66_64n, g66_66, g66_67, g66_70, g66_71, Int.reduceToNat, jtg, mu_s, mu_n, mu_j, mn_s, mn_n, jg_5_5, jg_5_6, Option.some.injEq, exists_eq_left', zkl_i, zkl_l, zkl_n, zkl_r, zkl_0, zc_v, zc_n, zc_t, zd_v, zd_n, mj_tg, true_and, ↓reduceIte, not_true_eq_false, not_false_eq_true, ↓if_pos, ↓if_neg, Int.reduceLE, Int.reduceLT, Int.reduceEq, Int.reduceAdd, hsh, r11, m_val]
      · by_cases d01 : w = 1
        · subst d01
          rw [if_pos (by split <;> omega)]
          refine CR_an h (fun Q => ?_)
          obtain e | e : Y 22 k = 0 ∨ Y 22 k = 1 := by omega
          · rw [e] at r12
            simp (disch := omega) only [g66_0, g66_1, g66_2, g66_5, g66_5n, g66_6, g66_7, g66_7b, g66_10, g66_10n, g66_11, g66_14, g66_15, g66_16, g66_17, g66_20, g66_20n, g66_21, g66_24, g66_24b, g66_27, g66_28, g66_31, g66_32, g66_33, g66_34, g66_35, g66_38, g66_38n, g66_40, g66_40n, g66_42, g66_42n, g66_45, g66_45b, g66_48, g66_48n, g66_50, g66_53, g66_53n, g66_55, g66_56, g66_57, g66_58, g66_61, g66_61b, g66_64, g66_64n, g66_66, g66_67, g66_70, g66_71, Int.reduceToNat, jtg, mu_s, mu_n, mu_j, mn_s, mn_n, jg_5_5, jg_5_6, Option.some.injEq, exists_eq_left', zkl_i, zkl_l, zkl_n, zkl_r, zkl_0, zc_v, zc_n, zc_t, zd_v, zd_n, mj_tg, true_and, ↓reduceIte, not_true_eq_false, not_false_eq_true, ↓if_pos, ↓if_neg, Int.reduceLE, Int.reduceLT, Int.reduceEq, Int.reduceAdd, hsh, r12, m_val, e]
          · rw [e] at r12
            simp (disch := omega) only [g66_0, g66_1, g66_2, g66_5, g66_5n, g66_6, g66_7, g66_7b, g66_10, g66_10n, g66_11, g66_14, g66_15, g66_16, g66_17, g66_20, g66_20n, g66_21, g66_24, g66_24b, g66_27, g66_28, g66_31, g66_32, g66_33, g66_34, g66_35, g66_38, g66_38n, g66_40, g66_40n, g66_42, g66_42n, g66_45, g66_45b, g66_48, g66_48n, g66_50, g66_53, g66_53n, g66_55, g66_56, g66_57, g66_58, g66_61, g66_61b, g66_64, g66_64n, g66_66, g66_67, g66_70, g66_71, Int.reduceToNat, jtg, mu_s, mu_n, mu_j, mn_s, mn_n, jg_5_5, jg_5_6, Option.some.injEq, exists_eq_left', zkl_i, zkl_l, zkl_n, zkl_r, zkl_0, zc_v, zc_n, zc_t, zd_v, zd_n, mj_tg, true_and, ↓reduceIte, not_true_eq_false, not_false_eq_true, ↓if_pos, ↓if_neg, Int.reduceLE, Int.reduceLT, Int.reduceEq, Int.reduceAdd, hsh, r12, m_val, e]
        · rcases d2 with d2 | d2
          · rw [if_pos d2, if_neg (by omega)]
            rw [d2] at a1
            have hs := hj_c (Ln := Ln) (M := M) (a := A k) (c := 5) a1 (by omega)
            have hz : (5 : Nat) ∈ zth := by decide
            have h56 : ¬ (5 : Nat) = 6 := by decide
            refine CR_th h (by omega) (by omega) hd1 (fun Q => ?_)
            simp (disch := omega) only [g66_0, g66_1, g66_2, g66_5, g66_5n, g66_6, g66_7, g66_7b, g66_10, g66_10n, g66_11, g66_14, g66_15, g66_16, g66_17, g66_20, g66_20n, g66_21, g66_24, g66_24b, g66_27, g66_28, g66_31, g66_32, g66_33, g66_34, g66_35, g66_38, g66_38n, g66_40, g66_40n, g66_42, g66_42n, g66_45, g66_45b, g66_48, g66_48n, g66_50, g66_53, g66_53n, g66_55, g66_56, g66_57, g66_58, g66_61, g66_61b, g66_64, g66_64n, g66_66, g66_67, g66_70, g66_71, Int.reduceToNat, jtg, mu_s, mu_n, mu_j, mn_s, mn_n, jg_5_5, jg_5_6, Option.some.injEq, exists_eq_left', zkl_i, zkl_l, zkl_n, zkl_r, zkl_0, zc_v, zc_n, zc_t, zd_v, zd_n, mj_tg, true_and, ↓reduceIte, not_true_eq_false, not_false_eq_true, ↓if_pos, ↓if_neg, Int.reduceLE, Int.reduceLT, Int.reduceEq, Int.reduceAdd, hsh, s85_y hH (tgo_y d1), hs, hz, bI_f h56]
          · rw [if_neg (by omega : ¬ Y 3 k = 3)]
            rw [d2] at a1
            have hs := hj_c (Ln := Ln) (M := M) (a := A k) (c := 6) a1 (by omega)
            have hz : (6 : Nat) ∈ zth := by decide
            obtain ⟨-, ⟨-, -, b3, b4⟩, ⟨c1, c2, c3, c4, c5⟩, -, -, -, -, e1, -⟩ := t.2.2.2.2.1 d2
            obtain ⟨⟨q1, -⟩, -, -, -, -, -, q7, -⟩ := e1
            have a1' : T (A k) = 6 := a1
            by_cases d3 : 0 ≤ w ∧ w ≤ 5
            · rw [if_pos d3]
              refine CR_an h (fun Q => ?_)
              obtain rfl | rfl | rfl | rfl : w = 2 ∨ w = 3 ∨ w = 4 ∨ w = 5 := by omega
              · have c9 : ¬ ¬ ((2 : Int) ≤ 2 ∧ (2 : Int) ≤ 5) := by omega
                simp (disch := omega) only [g66_0, g66_1, g66_2, g66_5, g66_5n, g66_6, g66_7, g66_7b, g66_10, g66_10n, g66_11, g66_14, g66_15, g66_16, g66_17, g66_20, g66_20n, g66_21, g66_24, g66_24b, g66_27, g66_28, g66_31, g66_32, g66_33, g66_34, g66_35, g66_38, g66_38n, g66_40, g66_40n, g66_42, g66_42n, g66_45, g66_45b, g66_48, g66_48n, g66_50, g66_53, g66_53n, g66_55, g66_56, g66_57, g66_58, g66_61, g66_61b, g66_64, g66_64n, g66_66, g66_67, g66_70, g66_71, Int.reduceToNat, jtg, mu_s, mu_n, mu_j, mn_s, mn_n, jg_5_5, jg_5_6, Option.some.injEq, exists_eq_left', zkl_i, zkl_l, zkl_n, zkl_r, zkl_0, zc_v, zc_n, zc_t, zd_v, zd_n, mj_tg, true_and, ↓reduceIte, not_true_eq_false, not_false_eq_true, ↓if_pos, ↓if_neg, Int.reduceLE, Int.reduceLT, Int.reduceEq, Int.reduceAdd, hsh, s85_y hH (tgo_y d1), hs, hz, bI_t, and_self, s76, bI_f c9, g47_0, g47_1_2, g47_1_3, g47_1_4, g47_1_d, g47_28, g47_29, g47_32, g47_33, g47_34, g47_37, g47_40, g47_41, g47_42, g47_45, g47_46, g47_47, g47_50, Int.reduceToNat, jtg, mu_s, mu_n, mu_j, mn_s, mn_n, jg_6_4, jg_6_2, jg_5_5, jg_6_7, jg_6_8, c1, m_val]
              · have c9 : ¬ ¬ ((2 : Int) ≤ 3 ∧ (3 : Int) ≤ 5) := by omega
                simp (disch := omega) only [g66_0, g66_1, g66_2, g66_5, g66_5n, g66_6, g66_7, g66_7b, g66_10, g66_10n, g66_11, g66_14, g66_15, g66_16, g66_17, g66_20, g66_20n, g66_21, g66_24, g66_24b, g66_27, g66_28, g66_31, g66_32, g66_33, g66_34, g66_35, g66_38, g66_38n, g66_40, g66_40n, g66_42, g66_42n, g66_45, g66_45b, g66_48, g66_48n, g66_50, g66_53, g66_53n, g66_55, g66_56, g66_57, g66_58, g66_61, g66_61b, g66_64, g66_64n, g66_66, g66_67, g66_70, g66_71, Int.reduceToNat, jtg, mu_s, mu_n, mu_j, mn_s, mn_n, jg_5_5, jg_5_6, Option.some.injEq, exists_eq_left', zkl_i, zkl_l, zkl_n, zkl_r, zkl_0, zc_v, zc_n, zc_t, zd_v, zd_n, mj_tg, true_and, ↓reduceIte, not_true_eq_false, not_false_eq_true, ↓if_pos, ↓if_neg, Int.reduceLE, Int.reduceLT, Int.reduceEq, Int.reduceAdd, hsh, s85_y hH (tgo_y d1), hs, hz, bI_t, and_self, s76, bI_f c9, g47_0, g47_1_2, g47_1_3, g47_1_4, g47_1_d, g47_28, g47_29, g47_32, g47_33, g47_34, g47_37, g47_40, g47_41, g47_42, g47_45, g47_46, g47_47, g47_50, Int.reduceToNat, jtg, mu_s, mu_n, mu_j, mn_s, mn_n, jg_6_4, jg_6_2, jg_5_5, jg_6_7, jg_6_8, b3, q7, m_val]
              · have c9 : ¬ ¬ ((2 : Int) ≤ 4 ∧ (4 : Int) ≤ 5) := by omega
                simp (disch := omega) only [g66_0, g66_1, g66_2, g66_5, g66_5n, g66_6, g66_7, g66_7b, g66_10, g66_10n, g66_11, g66_14, g66_15, g66_16, g66_17, g66_20, g66_20n, g66_21, g66_24, g66_24b, g66_27, g66_28, g66_31, g66_32, g66_33, g66_34, g66_35, g66_38, g66_38n, g66_40, g66_40n, g66_42, g66_42n, g66_45, g66_45b, g66_48, g66_48n, g66_50, g66_53, g66_53n, g66_55, g66_56, g66_57, g66_58, g66_61, g66_61b, g66_64, g66_64n, g66_66, g66_67, g66_70, g66_71, Int.reduceToNat, jtg, mu_s, mu_n, mu_j, mn_s, mn_n, jg_5_5, jg_5_6, Option.some.injEq, exists_eq_left', zkl_i, zkl_l, zkl_n, zkl_r, zkl_0, zc_v, zc_n, zc_t, zd_v, zd_n, mj_tg, true_and, ↓reduceIte, not_true_eq_false, not_false_eq_true, ↓if_pos, ↓if_neg, Int.reduceLE, Int.reduceLT, Int.reduceEq, Int.reduceAdd, hsh, s85_y hH (tgo_y d1), hs, hz, bI_t, and_self, s76, bI_f c9, g47_0, g47_1_2, g47_1_3, g47_1_4, g47_1_d, g47_28, g47_29, g47_32, g47_33, g47_34, g47_37, g47_40, g47_41, g47_42, g47_45, g47_46, g47_47, g47_50, Int.reduceToNat, jtg, mu_s, mu_n, mu_j, mn_s, mn_n, jg_6_4, jg_6_2, jg_5_5, jg_6_7, jg_6_8, c4, m_val]
              · have c9 : ¬ ¬ ((2 : Int) ≤ 5 ∧ (5 : Int) ≤ 5) := by omega
                simp (disch := omega) only [g66_0, g66_1, g66_2, g66_5, g66_5n, g66_6, g66_7, g66_7b, g66_10, g66_10n, g66_11, g66_14, g66_15, g66_16, g66_17, g66_20, g66_20n, g66_21, g66_24, g66_24b, g66_27, g66_28, g66_31, g66_32, g66_33, g66_34, g66_35, g66_38, g66_38n, g66_40, g66_40n, g66_42, g66_42n, g66_45, g66_45b, g66_48, g66_48n, g66_50, g66_53, g66_53n, g66_55, g66_56, g66_57, g66_58, g66_61, g66_61b, g66_64, g66_64n, g66_66, g66_67, g66_70, g66_71, Int.reduceToNat, jtg, mu_s, mu_n, mu_j, mn_s, mn_n, jg_5_5, jg_5_6, Option.some.injEq, exists_eq_left', zkl_i, zkl_l, zkl_n, zkl_r, zkl_0, zc_v, zc_n, zc_t, zd_v, zd_n, mj_tg, true_and, ↓reduceIte, not_true_eq_false, not_false_eq_true, ↓if_pos, ↓if_neg, Int.reduceLE, Int.reduceLT, Int.reduceEq, Int.reduceAdd, hsh, s85_y hH (tgo_y d1), hs, hz, bI_t, and_self, s76, bI_f c9, g47_0, g47_1_2, g47_1_3, g47_1_4, g47_1_d, g47_28, g47_29, g47_32, g47_33, g47_34, g47_37, g47_40, g47_41, g47_42, g47_45, g47_46, g47_47, g47_50, Int.reduceToNat, jtg, mu_s, mu_n, mu_j, mn_s, mn_n, jg_6_4, jg_6_2, jg_5_5, jg_6_7, jg_6_8, c5, m_val]
            · rw [if_neg d3]
              have c9 : ¬ (2 ≤ w ∧ w ≤ 5) := by omega
              refine CR_th h (by omega) (by omega) hd1 (fun Q => ?_)
              simp (disch := omega) only [g66_0, g66_1, g66_2, g66_5, g66_5n, g66_6, g66_7, g66_7b, g66_10, g66_10n, g66_11, g66_14, g66_15, g66_16, g66_17, g66_20, g66_20n, g66_21, g66_24, g66_24b, g66_27, g66_28, g66_31, g66_32, g66_33, g66_34, g66_35, g66_38, g66_38n, g66_40, g66_40n, g66_42, g66_42n, g66_45, g66_45b, g66_48, g66_48n, g66_50, g66_53, g66_53n, g66_55, g66_56, g66_57, g66_58, g66_61, g66_61b, g66_64, g66_64n, g66_66, g66_67, g66_70, g66_71, Int.reduceToNat, jtg, mu_s, mu_n, mu_j, mn_s, mn_n, jg_5_5, jg_5_6, Option.some.injEq, exists_eq_left', zkl_i, zkl_l, zkl_n, zkl_r, zkl_0, zc_v, zc_n, zc_t, zd_v, zd_n, mj_tg, true_and, ↓reduceIte, not_true_eq_false, not_false_eq_true, ↓if_pos, ↓if_neg, Int.reduceLE, Int.reduceLT, Int.reduceEq, Int.reduceAdd, hsh, s85_y hH (tgo_y d1), hs, hz, bI_t, and_self, s76, bI_t c9]
    · rw [if_neg d2]
      have e5 : ¬ T (A k) = 5 := by rw [a1]; unfold kt; split; omega; split; omega; split; omega; split; omega; split; omega; omega
      have e6 : ¬ T (A k) = 6 := by rw [a1]; unfold kt; split; omega; split; omega; split; omega; split; omega; split; omega; omega
      refine CR_re h (by omega) (by omega) (by omega) (by omega) hd0 (fun Q => ?_)
      simp (disch := omega) only [g66_0, g66_1, g66_2, g66_5, g66_5n, g66_6, g66_7, g66_7b, g66_10, g66_10n, g66_11, g66_14, g66_15, g66_16, g66_17, g66_20, g66_20n, g66_21, g66_24, g66_24b, g66_27, g66_28, g66_31, g66_32, g66_33, g66_34, g66_35, g66_38, g66_38n, g66_40, g66_40n, g66_42, g66_42n, g66_45, g66_45b, g66_48, g66_48n, g66_50, g66_53, g66_53n, g66_55, g66_56, g66_57, g66_58, g66_61, g66_61b, g66_64, g66_64n, g66_66, g66_67, g66_70, g66_71, Int.reduceToNat, jtg, mu_s, mu_n, mu_j, mn_s, mn_n, jg_5_5, jg_5_6, Option.some.injEq, exists_eq_left', zkl_i, zkl_l, zkl_n, zkl_r, zkl_0, zc_v, zc_n, zc_t, zd_v, zd_n, mj_tg, true_and, ↓reduceIte, not_true_eq_false, not_false_eq_true, ↓if_pos, ↓if_neg, Int.reduceLE, Int.reduceLT, Int.reduceEq, Int.reduceAdd, s93_k hH (tgo_y d1) e5 e6]
  · rw [if_neg d1]
    refine CR_re h (by omega) (by omega) (by omega) (by omega) hd0 (fun Q => ?_)
    simp (disch := omega) only [g66_0, g66_1, g66_2, g66_5, g66_5n, g66_6, g66_7, g66_7b, g66_10, g66_10n, g66_11, g66_14, g66_15, g66_16, g66_17, g66_20, g66_20n, g66_21, g66_24, g66_24b, g66_27, g66_28, g66_31, g66_32, g66_33, g66_34, g66_35, g66_38, g66_38n, g66_40, g66_40n, g66_42, g66_42n, g66_45, g66_45b, g66_48, g66_48n, g66_50, g66_53, g66_53n, g66_55, g66_56, g66_57, g66_58, g66_61, g66_61b, g66_64, g66_64n, g66_66, g66_67, g66_70, g66_71, Int.reduceToNat, jtg, mu_s, mu_n, mu_j, mn_s, mn_n, jg_5_5, jg_5_6, Option.some.injEq, exists_eq_left', zkl_i, zkl_l, zkl_n, zkl_r, zkl_0, zc_v, zc_n, zc_t, zd_v, zd_n, mj_tg, true_and, ↓reduceIte, not_true_eq_false, not_false_eq_true, ↓if_pos, ↓if_neg, Int.reduceLE, Int.reduceLT, Int.reduceEq, Int.reduceAdd, s93_n hH k1 k2 (tgo_n d1)]
theorem c67 {w : Int} (h : RZ T Ln M n u x A W Ow X Y c n0 u0) (k1 : -2147483648 ≤ k) (k2 : k < 2147483648) (w1 : -2147483648 ≤ w) (w2 : w < 2147483648) (hd0 : cd 0 = 1) (hd1 : cd 1 = 2) : CR 67 [some (.ref x), some (zi k), some (zi w), none] T Ln M n u x Ow c n0 u0 cd (zl (a_number Y k w).1) (a_number Y k w).2 := by
  have hH := h.1.2.2.2.1
  have hT : T x = 8 := hH.1.1
  have hR := h.1.1
  unfold a_number
  by_cases d1 : m_th Y k
  · rw [if_pos d1]
    obtain ⟨t, a1, a2, a3, a4, a5⟩ := RLX_k h.1 d1
    by_cases d2 : Y 3 k = 3 ∨ Y 3 k = 5
    · rw [if_pos d2]
      obtain ⟨r, ⟨⟨r1, r2, r3, r4, r5⟩, r6, r7, r8, r9, r10, r11, r12, r13, r14⟩, hsh⟩ := shown h d1 d2
      obtain ⟨y1, y2⟩ : 0 ≤ Y 8 (Y 5 (m_po Y k)) ∧ Y 8 (Y 5 (m_po Y k)) ≤ 8 := hR 8 _
      generalize Y 8 (Y 5 (m_po Y k)) = pl at *
      by_cases d3 : 0 ≤ w ∧ w ≤ 3 + pl
      · rw [if_pos d3]
        have c9 : ¬ ¬ (0 ≤ w ∧ w ≤ 4 + Ln (r + 2) - 1) := by rw [r5]; omega
        refine CR_an h (fun Q => ?_)
        by_cases d4 : w < 4
        · have e := r13 w d3.1 d4
          simp (disch := omega) only [g67_0, g67_1, g67_2, g67_5, g67_5n, g67_6, g67_7, g67_8, g67_9, g67_9n, g67_10, g67_13, g67_14, g67_15, g67_16, g67_17, g67_20, g67_20b, g67_23, g67_33, g67_34, g67_35, g67_38, g67_38n, g67_39, g67_42, g67_43, g67_44, g67_47, g67_47n, g67_48, g67_51, g67_52, g67_53, g67_54, g67_55, Int.reduceToNat, jtg, mu_s, mu_n, mu_j, mn_s, mn_n, jg_5_3, jln, jg_5_2, jal, Option.some.injEq, exists_eq_left', zkl_i, zkl_l, zkl_n, zkl_r, zkl_0, zc_v, zc_n, zc_t, zd_v, zd_n, mj_tg, true_and, ↓reduceIte, not_true_eq_false, not_false_eq_true, ↓if_pos, ↓if_neg, Int.reduceLE, Int.reduceLT, Int.reduceEq, Int.reduceAdd, hsh, r9, s76, bI_f c9, r8, e]
        · have e := r14 (w - 4) (by omega) (by omega)
          rw [show 4 + (w - 4) = w by omega] at e
          simp (disch := omega) only [g67_0, g67_1, g67_2, g67_5, g67_5n, g67_6, g67_7, g67_8, g67_9, g67_9n, g67_10, g67_13, g67_14, g67_15, g67_16, g67_17, g67_20, g67_20b, g67_23, g67_33, g67_34, g67_35, g67_38, g67_38n, g67_39, g67_42, g67_43, g67_44, g67_47, g67_47n, g67_48, g67_51, g67_52, g67_53, g67_54, g67_55, Int.reduceToNat, jtg, mu_s, mu_n, mu_j, mn_s, mn_n, jg_5_3, jln, jg_5_2, jal, Option.some.injEq, exists_eq_left', zkl_i, zkl_l, zkl_n, zkl_r, zkl_0, zc_v, zc_n, zc_t, zd_v, zd_n, mj_tg, true_and, ↓reduceIte, not_true_eq_false, not_false_eq_true, ↓if_pos, ↓if_neg, Int.reduceLE, Int.reduceLT, Int.reduceEq, Int.reduceAdd, hsh, r9, s76, bI_f c9, e]
      · rw [if_neg d3]
        have c9 : ¬ (0 ≤ w ∧ w ≤ 4 + Ln (r + 2) - 1) := by rw [r5]; omega
        refine CR_th h (by omega) (by omega) hd1 (fun Q => ?_)
        simp (disch := omega) only [g67_0, g67_1, g67_2, g67_5, g67_5n, g67_6, g67_7, g67_8, g67_9, g67_9n, g67_10, g67_13, g67_14, g67_15, g67_16, g67_17, g67_20, g67_20b, g67_23, g67_33, g67_34, g67_35, g67_38, g67_38n, g67_39, g67_42, g67_43, g67_44, g67_47, g67_47n, g67_48, g67_51, g67_52, g67_53, g67_54, g67_55, Int.reduceToNat, jtg, mu_s, mu_n, mu_j, mn_s, mn_n, jg_5_3, jln, jg_5_2, jal, Option.some.injEq, exists_eq_left', zkl_i, zkl_l, zkl_n, zkl_r, zkl_0, zc_v, zc_n, zc_t, zd_v, zd_n, mj_tg, true_and, ↓reduceIte, not_true_eq_false, not_false_eq_true, ↓if_pos, ↓if_neg, Int.reduceLE, Int.reduceLT, Int.reduceEq, Int.reduceAdd, hsh, r9, s76, bI_t c9]
    · rw [if_neg d2]
      have e5 : ¬ T (A k) = 5 := by rw [a1]; unfold kt; split; omega; split; omega; split; omega; split; omega; split; omega; omega
      have e6 : ¬ T (A k) = 6 := by rw [a1]; unfold kt; split; omega; split; omega; split; omega; split; omega; split; omega; omega
      refine CR_re h (by omega) (by omega) (by omega) (by omega) hd0 (fun Q => ?_)
      simp (disch := omega) only [g67_0, g67_1, g67_2, g67_5, g67_5n, g67_6, g67_7, g67_8, g67_9, g67_9n, g67_10, g67_13, g67_14, g67_15, g67_16, g67_17, g67_20, g67_20b, g67_23, g67_33, g67_34, g67_35, g67_38, g67_38n, g67_39, g67_42, g67_43, g67_44, g67_47, g67_47n, g67_48, g67_51, g67_52, g67_53, g67_54, g67_55, Int.reduceToNat, jtg, mu_s, mu_n, mu_j, mn_s, mn_n, jg_5_3, jln, jg_5_2, jal, Option.some.injEq, exists_eq_left', zkl_i, zkl_l, zkl_n, zkl_r, zkl_0, zc_v, zc_n, zc_t, zd_v, zd_n, mj_tg, true_and, ↓reduceIte, not_true_eq_false, not_false_eq_true, ↓if_pos, ↓if_neg, Int.reduceLE, Int.reduceLT, Int.reduceEq, Int.reduceAdd, s93_k hH (tgo_y d1) e5 e6]
  · rw [if_neg d1]
    refine CR_re h (by omega) (by omega) (by omega) (by omega) hd0 (fun Q => ?_)
    simp (disch := omega) only [g67_0, g67_1, g67_2, g67_5, g67_5n, g67_6, g67_7, g67_8, g67_9, g67_9n, g67_10, g67_13, g67_14, g67_15, g67_16, g67_17, g67_20, g67_20b, g67_23, g67_33, g67_34, g67_35, g67_38, g67_38n, g67_39, g67_42, g67_43, g67_44, g67_47, g67_47n, g67_48, g67_51, g67_52, g67_53, g67_54, g67_55, Int.reduceToNat, jtg, mu_s, mu_n, mu_j, mn_s, mn_n, jg_5_3, jln, jg_5_2, jal, Option.some.injEq, exists_eq_left', zkl_i, zkl_l, zkl_n, zkl_r, zkl_0, zc_v, zc_n, zc_t, zd_v, zd_n, mj_tg, true_and, ↓reduceIte, not_true_eq_false, not_false_eq_true, ↓if_pos, ↓if_neg, Int.reduceLE, Int.reduceLT, Int.reduceEq, Int.reduceAdd, s93_n hH k1 k2 (tgo_n d1)]
end
