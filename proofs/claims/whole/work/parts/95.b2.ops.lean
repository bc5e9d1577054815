/-! THE MODEL: ranges, and the calls that make things -/
def rlo (f : Nat) : Int := match f with
  | 18 => -2147483648
  | 26 => -1
  | 39 => -1
  | 40 => -1
  | _ => 0
def rhi (f : Nat) : Int := match f with
  | 0 => 3
  | 1 => 7
  | 2 => 60
  | 3 => 6
  | 4 => 1
  | 5 => 60
  | 6 => 60
  | 7 => 32
  | 8 => 8
  | 9 => 8
  | 10 => 8
  | 11 => 8
  | 12 => 8
  | 13 => 24
  | 14 => 7
  | 15 => 3
  | 16 => 3
  | 17 => 3
  | 18 => 2147483647
  | 19 => 4294967295
  | 20 => 23
  | 22 => 1
  | 27 => 8
  | 32 => 60
  | 33 => 2004
  | 34 => 2000
  | 36 => 4294967295
  | 37 => 2000
  | 38 => 4294967295
  | 39 => 2000
  | 40 => 2000
  | 41 => 1
  | _ => 100000000
/-- every number is in its range -/
def RG (Y : zY) : Prop := ∀ f e, rlo f ≤ Y f e ∧ Y f e ≤ rhi f
theorem RG_u {Y : zY} {f : Nat} {e v : Int} (h : RG Y) (h1 : rlo f ≤ v) (h2 : v ≤ rhi f) : RG (yu Y f e v) := by
  intro g e'
  unfold yu
  split
  next hh => rw [hh.1]; exact ⟨h1, h2⟩
  next => exact h g e'
def m_add (Y : zY) (its fr se : Int) : zY := yu (yu (yu (yu (yu Y 2 0 (Y 2 0 + 1)) 3 (Y 2 0 + 1) its) 4 (Y 2 0 + 1) 1) 5 (Y 2 0 + 1) fr) 6 (Y 2 0 + 1) se
theorem m_add_2 {Y : zY} {its fr se : Int} : m_add Y its fr se 2 0 = Y 2 0 + 1 := by simp [m_add, yu]
def m_re (Y : zY) (w c : Int) : zY := yu (yu Y 1 0 w) 0 0 c
def m_us (Y : zY) (k x : Int) : Prop := (¬ Y 3 k = 1 ∧ Y 5 k = x) ∨ ((Y 3 k = 5 ∨ Y 3 k = 6) ∧ Y 6 k = x)
section
variable {o : Nat} {Y : zY} {h : zH} {t : Nat × Nat} {Q : zU → zS → Prop}
theorem s98' {w c : Int} : z_go zP 98 0 [some (.ref o), some (zi w), some (zi c)] [] (mj o Y h, t) Q ↔ Q (.inl (some (zi 0))) (mj o (m_re Y w c) h, t) := s98
theorem s100_y {k w c : Int} (hR : RG Y) (k1 : -2147483648 ≤ k) (k2 : k < 2147483648) (w1 : 0 ≤ w) (w2 : w < 10) (H : m_th Y k) (hk : Y 3 k = w) : z_go zP 100 0 [some (.ref o), some (zi k), some (zi w), some (zi c), none] [] (mj o Y h, t) Q ↔ Q (.inl (some (zi 1))) (mj o (yu Y 0 0 0) h, t) := by
  obtain ⟨r1, r2⟩ : 0 ≤ Y 2 0 ∧ Y 2 0 ≤ 60 := hR 2 0
  obtain ⟨r3, r4⟩ : 0 ≤ Y 4 k ∧ Y 4 k ≤ 1 := hR 4 k
  obtain ⟨r5, r6⟩ : 0 ≤ Y 3 k ∧ Y 3 k ≤ 6 := hR 3 k
  have e1 : m_th (yu Y 0 0 0) k := H
  obtain ⟨⟨c1, c2⟩, c3⟩ := H
  have e2 : yu Y 0 0 0 2 0 = Y 2 0 := rfl
  have e3 : yu Y 0 0 0 4 k = Y 4 k := by simp [yu]
  have e4 : yu Y 0 0 0 3 k = Y 3 k := by simp [yu]
  simp (disch := omega) only [g100_0, g100_1, g100_2, g100_5, g100_6, g100_7, g100_10, g100_10b, g100_13, g100_14, g100_17, g100_18, g100_21, g100_22, g100_23, g100_24, g100_27, g100_28, g100_31, g100_32, g100_34, g100_36, g100_39, g100_40, g100_42, g100_43, g100_46, g100_46r, g100_47, g100_49, g100_49b, g100_52, g100_53, g100_56, g100_57_0, g100_57_1, g100_57b, mg_0, mp_0, mg_3, ma_3, ms_3, Option.some.injEq, exists_eq_left', zkl_i, zkl_l, zkl_n, zkl_r, zkl_0, zc_v, zc_n, zc_t, zd_v, zd_n, mj_tg, true_and, ↓reduceIte, not_true_eq_false, not_false_eq_true, ↓if_pos, ↓if_neg, Int.reduceLE, Int.reduceLT, Int.reduceEq, Int.reduceAdd, s99, e1, bI_t, e4, hk]
theorem s100_n {k w c : Int} (hR : RG Y) (k1 : -2147483648 ≤ k) (k2 : k < 2147483648) (H : ¬ m_th Y k) : z_go zP 100 0 [some (.ref o), some (zi k), some (zi w), some (zi c), none] [] (mj o Y h, t) Q ↔ Q (.inl (some (zi 0))) (mj o (m_re (yu Y 0 0 0) 1 c) h, t) := by
  obtain ⟨r1, r2⟩ : 0 ≤ Y 2 0 ∧ Y 2 0 ≤ 60 := hR 2 0
  obtain ⟨r3, r4⟩ : 0 ≤ Y 4 k ∧ Y 4 k ≤ 1 := hR 4 k
  have e1 : ¬ m_th (yu Y 0 0 0) k := H
  have e2 : yu Y 0 0 0 2 0 = Y 2 0 := rfl
  have e3 : yu Y 0 0 0 4 k = Y 4 k := by simp [yu]
  simp (disch := first | omega | assumption) only [g100_0, g100_1, g100_2, g100_5, g100_6, g100_7, g100_10, g100_10b, g100_13, g100_14, g100_17, g100_18, g100_21, g100_22, g100_23, g100_24, g100_27, g100_28, g100_31, g100_32, g100_34, g100_36, g100_39, g100_40, g100_42, g100_43, g100_46, g100_46r, g100_47, g100_49, g100_49b, g100_52, g100_53, g100_56, g100_57_0, g100_57_1, g100_57b, mg_0, mp_0, mg_3, ma_3, ms_3, Option.some.injEq, exists_eq_left', zkl_i, zkl_l, zkl_n, zkl_r, zkl_0, zc_v, zc_n, zc_t, zd_v, zd_n, mj_tg, true_and, ↓reduceIte, not_true_eq_false, not_false_eq_true, ↓if_pos, ↓if_neg, Int.reduceLE, Int.reduceLT, Int.reduceEq, Int.reduceAdd, s99, bI_f e1, s98']
theorem s100_k {k w c : Int} (hR : RG Y) (k1 : -2147483648 ≤ k) (k2 : k < 2147483648) (w1 : 0 ≤ w) (w2 : w < 10) (H : m_th Y k) (hk : ¬ Y 3 k = w) : z_go zP 100 0 [some (.ref o), some (zi k), some (zi w), some (zi c), none] [] (mj o Y h, t) Q ↔ Q (.inl (some (zi 0))) (mj o (m_re (yu Y 0 0 0) 2 c) h, t) := by
  obtain ⟨r1, r2⟩ : 0 ≤ Y 2 0 ∧ Y 2 0 ≤ 60 := hR 2 0
  obtain ⟨r3, r4⟩ : 0 ≤ Y 4 k ∧ Y 4 k ≤ 1 := hR 4 k
  obtain ⟨r5, r6⟩ : 0 ≤ Y 3 k ∧ Y 3 k ≤ 6 := hR 3 k
  have e1 : m_th (yu Y 0 0 0) k := H
  obtain ⟨⟨c1, c2⟩, c3⟩ := H
  have e2 : yu Y 0 0 0 2 0 = Y 2 0 := rfl
  have e3 : yu Y 0 0 0 4 k = Y 4 k := by simp [yu]
  have e4 : yu Y 0 0 0 3 k = Y 3 k := by simp [yu]
  simp (disch := omega) only [g100_0, g100_1, g100_2, g100_5, g100_6, g100_7, g100_10, g100_10b, g100_13, g100_14, g100_17, g100_18, g100_21, g100_22, g100_23, g100_24, g100_27, g100_28, g100_31, g100_32, g100_34, g100_36, g100_39, g100_40, g100_42, g100_43, g100_46, g100_46r, g100_47, g100_49, g100_49b, g100_52, g100_53, g100_56, g100_57_0, g100_57_1, g100_57b, mg_0, mp_0, mg_3, ma_3, ms_3, Option.some.injEq, exists_eq_left', zkl_i, zkl_l, zkl_n, zkl_r, zkl_0, zc_v, zc_n, zc_t, zd_v, zd_n, mj_tg, true_and, ↓reduceIte, not_true_eq_false, not_false_eq_true, ↓if_pos, ↓if_neg, Int.reduceLE, Int.reduceLT, Int.reduceEq, Int.reduceAdd, s99, bI_t e1, s98', e4]
theorem s101_u {k x f : Int} {l4 : Option Value} (hR : RG Y) (x1 : -2147483648 ≤ x) (x2 : x < 2147483648) (k1 : 1 ≤ k) (k2 : k ≤ Y 2 0) : ∃ v : Int, (v = 0 ∨ v = 1) ∧ (v = 1 ↔ m_us Y k x) ∧ (z_go zP 101 4 [some (.ref o), some (zi x), some (zi f), some (zi k), l4] [] (mj o Y h, t) Q ↔ z_go zP 101 70 [some (.ref o), some (zi x), some (zi f), some (zi k), some (zi v)] [] (mj o Y h, t) Q) := by
  obtain ⟨r1, r2⟩ : 0 ≤ Y 2 0 ∧ Y 2 0 ≤ 60 := hR 2 0
  obtain ⟨r3, r4⟩ : 0 ≤ Y 3 k ∧ Y 3 k ≤ 6 := hR 3 k
  obtain ⟨r5, r6⟩ : 0 ≤ Y 5 k ∧ Y 5 k ≤ 60 := hR 5 k
  obtain ⟨r7, r8⟩ : 0 ≤ Y 6 k ∧ Y 6 k ≤ 60 := hR 6 k
  unfold m_us
  by_cases hu : (¬ Y 3 k = 1 ∧ Y 5 k = x) ∨ ((Y 3 k = 5 ∨ Y 3 k = 6) ∧ Y 6 k = x)
  · refine ⟨1, .inr rfl, by simp only [hu], ?_⟩
    by_cases c1 : ¬ Y 3 k = 1 ∧ Y 5 k = x
    · simp (disch := omega) only [g101_0, g101_1, g101_2, g101_3, g101_4, g101_5, g101_6, g101_9, g101_12, g101_13, g101_16, g101_17, g101_18, g101_19, g101_22, g101_23, g101_26, g101_27, g101_28, g101_29, g101_32, g101_33, g101_36, g101_37, g101_38, g101_39, g101_42, g101_43, g101_46, g101_47, g101_48, g101_50, g101_53, g101_54, g101_57, g101_58, g101_59, g101_60, g101_63, g101_64, g101_67, g101_68, g101_71, g101_71b, g101_74, g101_75, g101_78, g101_79, g101_80, g101_80b, g101_83, g101_85, g101_85b, g101_88, g101_89, g101_92, g101_93, g101_94, g101_97, g101_100, g101_101_0, g101_101_1, g101_101b, mg_2, mp_2, mg_3, ma_3, ms_3, mg_5, ma_5, ms_5, mg_6, ma_6, ms_6, mg_4, ma_4, ms_4, Option.some.injEq, exists_eq_left', zkl_i, zkl_l, zkl_n, zkl_r, zkl_0, zc_v, zc_n, zc_t, zd_v, zd_n, mj_tg, true_and, ↓reduceIte, not_true_eq_false, not_false_eq_true, ↓if_pos, ↓if_neg, Int.reduceLE, Int.reduceLT, Int.reduceEq, Int.reduceAdd]
    · by_cases c2 : Y 3 k = 1
      · omega
      · by_cases c3 : Y 3 k = 5
        · simp (disch := omega) only [g101_0, g101_1, g101_2, g101_3, g101_4, g101_5, g101_6, g101_9, g101_12, g101_13, g101_16, g101_17, g101_18, g101_19, g101_22, g101_23, g101_26, g101_27, g101_28, g101_29, g101_32, g101_33, g101_36, g101_37, g101_38, g101_39, g101_42, g101_43, g101_46, g101_47, g101_48, g101_50, g101_53, g101_54, g101_57, g101_58, g101_59, g101_60, g101_63, g101_64, g101_67, g101_68, g101_71, g101_71b, g101_74, g101_75, g101_78, g101_79, g101_80, g101_80b, g101_83, g101_85, g101_85b, g101_88, g101_89, g101_92, g101_93, g101_94, g101_97, g101_100, g101_101_0, g101_101_1, g101_101b, mg_2, mp_2, mg_3, ma_3, ms_3, mg_5, ma_5, ms_5, mg_6, ma_6, ms_6, mg_4, ma_4, ms_4, Option.some.injEq, exists_eq_left', zkl_i, zkl_l, zkl_n, zkl_r, zkl_0, zc_v, zc_n, zc_t, zd_v, zd_n, mj_tg, true_and, ↓reduceIte, not_true_eq_false, not_false_eq_true, ↓if_pos, ↓if_neg, Int.reduceLE, Int.reduceLT, Int.reduceEq, Int.reduceAdd]
        · simp (disch := omega) only [g101_0, g101_1, g101_2, g101_3, g101_4, g101_5, g101_6, g101_9, g101_12, g101_13, g101_16, g101_17, g101_18, g101_19, g101_22, g101_23, g101_26, g101_27, g101_28, g101_29, g101_32, g101_33, g101_36, g101_37, g101_38, g101_39, g101_42, g101_43, g101_46, g101_47, g101_48, g101_50, g101_53, g101_54, g101_57, g101_58, g101_59, g101_60, g101_63, g101_64, g101_67, g101_68, g101_71, g101_71b, g101_74, g101_75, g101_78, g101_79, g101_80, g101_80b, g101_83, g101_85, g101_85b, g101_88, g101_89, g101_92, g101_93, g101_94, g101_97, g101_100, g101_101_0, g101_101_1, g101_101b, mg_2, mp_2, mg_3, ma_3, ms_3, mg_5, ma_5, ms_5, mg_6, ma_6, ms_6, mg_4, ma_4, ms_4, Option.some.injEq, exists_eq_left', zkl_i, zkl_l, zkl_n, zkl_r, zkl_0, zc_v, zc_n, zc_t, zd_v, zd_n, mj_tg, true_and, ↓reduceIte, not_true_eq_false, not_false_eq_true, ↓if_pos, ↓if_neg, Int.reduceLE, Int.reduceLT, Int.reduceEq, Int.reduceAdd]
  · refine ⟨0, .inl rfl, by simp only [hu]; simp, ?_⟩
    by_cases c2 : Y 3 k = 1
    · simp (disch := omega) only [g101_0, g101_1, g101_2, g101_3, g101_4, g101_5, g101_6, g101_9, g101_12, g101_13, g101_16, g101_17, g101_18, g101_19, g101_22, g101_23, g101_26, g101_27, g101_28, g101_29, g101_32, g101_33, g101_36, g101_37, g101_38, g101_39, g101_42, g101_43, g101_46, g101_47, g101_48, g101_50, g101_53, g101_54, g101_57, g101_58, g101_59, g101_60, g101_63, g101_64, g101_67, g101_68, g101_71, g101_71b, g101_74, g101_75, g101_78, g101_79, g101_80, g101_80b, g101_83, g101_85, g101_85b, g101_88, g101_89, g101_92, g101_93, g101_94, g101_97, g101_100, g101_101_0, g101_101_1, g101_101b, mg_2, mp_2, mg_3, ma_3, ms_3, mg_5, ma_5, ms_5, mg_6, ma_6, ms_6, mg_4, ma_4, ms_4, Option.some.injEq, exists_eq_left', zkl_i, zkl_l, zkl_n, zkl_r, zkl_0, zc_v, zc_n, zc_t, zd_v, zd_n, mj_tg, true_and, ↓reduceIte, not_true_eq_false, not_false_eq_true, ↓if_pos, ↓if_neg, Int.reduceLE, Int.reduceLT, Int.reduceEq, Int.reduceAdd]
    · by_cases c3 : Y 3 k = 5
      · simp (disch := omega) only [g101_0, g101_1, g101_2, g101_3, g101_4, g101_5, g101_6, g101_9, g101_12, g101_13, g101_16, g101_17, g101_18, g101_19, g101_22, g101_23, g101_26, g101_27, g101_28, g101_29, g101_32, g101_33, g101_36, g101_37, g101_38, g101_39, g101_42, g101_43, g101_46, g101_47, g101_48, g101_50, g101_53, g101_54, g101_57, g101_58, g101_59, g101_60, g101_63, g101_64, g101_67, g101_68, g101_71, g101_71b, g101_74, g101_75, g101_78, g101_79, g101_80, g101_80b, g101_83, g101_85, g101_85b, g101_88, g101_89, g101_92, g101_93, g101_94, g101_97, g101_100, g101_101_0, g101_101_1, g101_101b, mg_2, mp_2, mg_3, ma_3, ms_3, mg_5, ma_5, ms_5, mg_6, ma_6, ms_6, mg_4, ma_4, ms_4, Option.some.injEq, exists_eq_left', zkl_i, zkl_l, zkl_n, zkl_r, zkl_0, zc_v, zc_n, zc_t, zd_v, zd_n, mj_tg, true_and, ↓reduceIte, not_true_eq_false, not_false_eq_true, ↓if_pos, ↓if_neg, Int.reduceLE, Int.reduceLT, Int.reduceEq, Int.reduceAdd]
      · by_cases c4 : Y 3 k = 6
        · simp (disch := omega) only [g101_0, g101_1, g101_2, g101_3, g101_4, g101_5, g101_6, g101_9, g101_12, g101_13, g101_16, g101_17, g101_18, g101_19, g101_22, g101_23, g101_26, g101_27, g101_28, g101_29, g101_32, g101_33, g101_36, g101_37, g101_38, g101_39, g101_42, g101_43, g101_46, g101_47, g101_48, g101_50, g101_53, g101_54, g101_57, g101_58, g101_59, g101_60, g101_63, g101_64, g101_67, g101_68, g101_71, g101_71b, g101_74, g101_75, g101_78, g101_79, g101_80, g101_80b, g101_83, g101_85, g101_85b, g101_88, g101_89, g101_92, g101_93, g101_94, g101_97, g101_100, g101_101_0, g101_101_1, g101_101b, mg_2, mp_2, mg_3, ma_3, ms_3, mg_5, ma_5, ms_5, mg_6, ma_6, ms_6, mg_4, ma_4, ms_4, Option.some.injEq, exists_eq_left', zkl_i, zkl_l, zkl_n, zkl_r, zkl_0, zc_v, zc_n, zc_t, zd_v, zd_n, mj_tg, true_and, ↓reduceIte, not_true_eq_false, not_false_eq_true, ↓if_pos, ↓if_neg, Int.reduceLE, Int.reduceLT, Int.reduceEq, Int.reduceAdd]
        · simp (disch := omega) only [g101_0, g101_1, g101_2, g101_3, g101_4, g101_5, g101_6, g101_9, g101_12, g101_13, g101_16, g101_17, g101_18, g101_19, g101_22, g101_23, g101_26, g101_27, g101_28, g101_29, g101_32, g101_33, g101_36, g101_37, g101_38, g101_39, g101_42, g101_43, g101_46, g101_47, g101_48, g101_50, g101_53, g101_54, g101_57, g101_58, g101_59, g101_60, g101_63, g101_64, g101_67, g101_68, g101_71, g101_71b, g101_74, g101_75, g101_78, g101_79, g101_80, g101_80b, g101_83, g101_85, g101_85b, g101_88, g101_89, g101_92, g101_93, g101_94, g101_97, g101_100, g101_101_0, g101_101_1, g101_101b, mg_2, mp_2, mg_3, ma_3, ms_3, mg_5, ma_5, ms_5, mg_6, ma_6, ms_6, mg_4, ma_4, ms_4, Option.some.injEq, exists_eq_left', zkl_i, zkl_l, zkl_n, zkl_r, zkl_0, zc_v, zc_n, zc_t, zd_v, zd_n, mj_tg, true_and, ↓reduceIte, not_true_eq_false, not_false_eq_true, ↓if_pos, ↓if_neg, Int.reduceLE, Int.reduceLT, Int.reduceEq, Int.reduceAdd]
theorem s101_l {x : Int} (hR : RG Y) (x1 : -2147483648 ≤ x) (x2 : x < 2147483648) (r : Int) : ∀ (m : Nat) (k f : Int) (l4 : Option Value), 1 ≤ k → k + m = Y 2 0 + 1 → ((f = 1 ∧ r = 1) ∨ (f = 0 ∧ r = 1 ∧ ∃ k', k ≤ k' ∧ k' ≤ Y 2 0 ∧ ¬ Y 4 k' = 0 ∧ m_us Y k' x) ∨ (f = 0 ∧ r = 0 ∧ ∀ k', k ≤ k' → k' ≤ Y 2 0 → ¬ Y 4 k' = 0 → ¬ m_us Y k' x)) →
    (z_go zP 101 4 [some (.ref o), some (zi x), some (zi f), some (zi k), l4] [] (mj o Y h, t) Q ↔ Q (.inl (some (zi r))) (mj o Y h, t)) := by
  obtain ⟨r1, r2⟩ : 0 ≤ Y 2 0 ∧ Y 2 0 ≤ 60 := hR 2 0
  intro m
  induction m with
  | zero =>
    intro k f l4 k1 hk hf
    have hfr : f = r ∧ (r = 0 ∨ r = 1) := by
      rcases hf with ⟨a, b⟩ | ⟨a, b, k', c, d, -⟩ | ⟨a, b, -⟩
      · omega
      · omega
      · omega
    obtain ⟨rfl, hr⟩ := hfr
    rcases hr with rfl | rfl
    · simp (disch := omega) only [g101_0, g101_1, g101_2, g101_3, g101_4, g101_5, g101_6, g101_9, g101_13, g101_16, g101_17, g101_18, g101_19, g101_22, g101_23, g101_26, g101_27, g101_28, g101_29, g101_32, g101_33, g101_36, g101_37, g101_38, g101_39, g101_42, g101_43, g101_46, g101_47, g101_48, g101_50, g101_53, g101_54, g101_57, g101_58, g101_59, g101_60, g101_63, g101_64, g101_67, g101_68, g101_70, g101_71, g101_71b, g101_74, g101_75, g101_78, g101_79, g101_80, g101_80b, g101_83, g101_85, g101_85b, g101_88, g101_89, g101_92, g101_93, g101_94, g101_97, g101_100, g101_101_0, g101_101_1, g101_101b, mg_2, mp_2, mg_3, ma_3, ms_3, mg_5, ma_5, ms_5, mg_6, ma_6, ms_6, mg_4, ma_4, ms_4, Option.some.injEq, exists_eq_left', zkl_i, zkl_l, zkl_n, zkl_r, zkl_0, zc_v, zc_n, zc_t, zd_v, zd_n, mj_tg, true_and, ↓reduceIte, not_true_eq_false, not_false_eq_true, ↓if_pos, ↓if_neg, Int.reduceLE, Int.reduceLT, Int.reduceEq, Int.reduceAdd]
    · simp (disch := omega) only [g101_0, g101_1, g101_2, g101_3, g101_4, g101_5, g101_6, g101_9, g101_13, g101_16, g101_17, g101_18, g101_19, g101_22, g101_23, g101_26, g101_27, g101_28, g101_29, g101_32, g101_33, g101_36, g101_37, g101_38, g101_39, g101_42, g101_43, g101_46, g101_47, g101_48, g101_50, g101_53, g101_54, g101_57, g101_58, g101_59, g101_60, g101_63, g101_64, g101_67, g101_68, g101_70, g101_71, g101_71b, g101_74, g101_75, g101_78, g101_79, g101_80, g101_80b, g101_83, g101_85, g101_85b, g101_88, g101_89, g101_92, g101_93, g101_94, g101_97, g101_100, g101_101_0, g101_101_1, g101_101b, mg_2, mp_2, mg_3, ma_3, ms_3, mg_5, ma_5, ms_5, mg_6, ma_6, ms_6, mg_4, ma_4, ms_4, Option.some.injEq, exists_eq_left', zkl_i, zkl_l, zkl_n, zkl_r, zkl_0, zc_v, zc_n, zc_t, zd_v, zd_n, mj_tg, true_and, ↓reduceIte, not_true_eq_false, not_false_eq_true, ↓if_pos, ↓if_neg, Int.reduceLE, Int.reduceLT, Int.reduceEq, Int.reduceAdd]
  | succ m ih =>
    intro k f l4 k1 hk hf
    obtain ⟨r3, r4⟩ : 0 ≤ Y 4 k ∧ Y 4 k ≤ 1 := hR 4 k
    obtain ⟨v, hv, hvu, hgo⟩ := s101_u (o := o) (Y := Y) (h := h) (t := t) (Q := Q) (f := f) (l4 := l4) hR x1 x2 k1 (by omega)
    rw [hgo]
    by_cases hl : Y 4 k = 0
    · have hx : (f = 1 ∧ r = 1) ∨ (f = 0 ∧ r = 1 ∧ ∃ k', k + 1 ≤ k' ∧ k' ≤ Y 2 0 ∧ ¬ Y 4 k' = 0 ∧ m_us Y k' x) ∨ (f = 0 ∧ r = 0 ∧ ∀ k', k + 1 ≤ k' → k' ≤ Y 2 0 → ¬ Y 4 k' = 0 → ¬ m_us Y k' x) := by
        rcases hf with h1 | ⟨a, b, k', c, d, e, g⟩ | ⟨a, b, c⟩
        · exact .inl h1
        · refine .inr (.inl ⟨a, b, k', ?_, d, e, g⟩)
          by_cases hkk : k' = k
          · subst hkk; exact absurd hl e
          · omega
        · exact .inr (.inr ⟨a, b, fun k' h1 h2 => c k' (by omega) h2⟩)
      have h2 := ih (k + 1) f (some (zi v)) (by omega) (by omega) hx
      have hf01 : f = 0 ∨ f = 1 := by rcases hf with h1 | h1 | h1 <;> omega
      rcases hf01 with rfl | rfl
      · rw [← h2]
        simp (disch := omega) only [g101_0, g101_1, g101_2, g101_3, g101_5, g101_6, g101_9, g101_12, g101_13, g101_16, g101_17, g101_18, g101_19, g101_22, g101_23, g101_26, g101_27, g101_28, g101_29, g101_32, g101_33, g101_36, g101_37, g101_38, g101_39, g101_42, g101_43, g101_46, g101_47, g101_48, g101_50, g101_53, g101_54, g101_57, g101_58, g101_59, g101_60, g101_63, g101_64, g101_67, g101_68, g101_70, g101_71, g101_71b, g101_74, g101_75, g101_78, g101_79, g101_80, g101_80b, g101_83, g101_85, g101_85b, g101_88, g101_89, g101_92, g101_93, g101_94, g101_97, g101_100, g101_101_0, g101_101_1, g101_101b, mg_2, mp_2, mg_3, ma_3, ms_3, mg_5, ma_5, ms_5, mg_6, ma_6, ms_6, mg_4, ma_4, ms_4, Option.some.injEq, exists_eq_left', zkl_i, zkl_l, zkl_n, zkl_r, zkl_0, zc_v, zc_n, zc_t, zd_v, zd_n, mj_tg, true_and, ↓reduceIte, not_true_eq_false, not_false_eq_true, ↓if_pos, ↓if_neg, Int.reduceLE, Int.reduceLT, Int.reduceEq, Int.reduceAdd]
      · rw [← h2]
        simp (disch := omega) only [g101_0, g101_1, g101_2, g101_3, g101_5, g101_6, g101_9, g101_12, g101_13, g101_16, g101_17, g101_18, g101_19, g101_22, g101_23, g101_26, g101_27, g101_28, g101_29, g101_32, g101_33, g101_36, g101_37, g101_38, g101_39, g101_42, g101_43, g101_46, g101_47, g101_48, g101_50, g101_53, g101_54, g101_57, g101_58, g101_59, g101_60, g101_63, g101_64, g101_67, g101_68, g101_70, g101_71, g101_71b, g101_74, g101_75, g101_78, g101_79, g101_80, g101_80b, g101_83, g101_85, g101_85b, g101_88, g101_89, g101_92, g101_93, g101_94, g101_97, g101_100, g101_101_0, g101_101_1, g101_101b, mg_2, mp_2, mg_3, ma_3, ms_3, mg_5, ma_5, ms_5, mg_6, ma_6, ms_6, mg_4, ma_4, ms_4, Option.some.injEq, exists_eq_left', zkl_i, zkl_l, zkl_n, zkl_r, zkl_0, zc_v, zc_n, zc_t, zd_v, zd_n, mj_tg, true_and, ↓reduceIte, not_true_eq_false, not_false_eq_true, ↓if_pos, ↓if_neg, Int.reduceLE, Int.reduceLT, Int.reduceEq, Int.reduceAdd]
    · rcases hv with rfl | rfl
      · have hx : (f = 1 ∧ r = 1) ∨ (f = 0 ∧ r = 1 ∧ ∃ k', k + 1 ≤ k' ∧ k' ≤ Y 2 0 ∧ ¬ Y 4 k' = 0 ∧ m_us Y k' x) ∨ (f = 0 ∧ r = 0 ∧ ∀ k', k + 1 ≤ k' → k' ≤ Y 2 0 → ¬ Y 4 k' = 0 → ¬ m_us Y k' x) := by
          rcases hf with h1 | ⟨a, b, k', c, d, e, g⟩ | ⟨a, b, c⟩
          · exact .inl h1
          · refine .inr (.inl ⟨a, b, k', ?_, d, e, g⟩)
            by_cases hkk : k' = k
            · subst hkk; have := hvu.mpr g; omega
            · omega
          · exact .inr (.inr ⟨a, b, fun k' h1 h2 => c k' (by omega) h2⟩)
        have h2 := ih (k + 1) f (some (zi 0)) (by omega) (by omega) hx
        have hf01 : f = 0 ∨ f = 1 := by rcases hf with h1 | h1 | h1 <;> omega
        rcases hf01 with rfl | rfl
        · rw [← h2]
          simp (disch := omega) only [g101_0, g101_1, g101_2, g101_3, g101_5, g101_6, g101_9, g101_12, g101_13, g101_16, g101_17, g101_18, g101_19, g101_22, g101_23, g101_26, g101_27, g101_28, g101_29, g101_32, g101_33, g101_36, g101_37, g101_38, g101_39, g101_42, g101_43, g101_46, g101_47, g101_48, g101_50, g101_53, g101_54, g101_57, g101_58, g101_59, g101_60, g101_63, g101_64, g101_67, g101_68, g101_70, g101_71, g101_71b, g101_74, g101_75, g101_78, g101_79, g101_80, g101_80b, g101_83, g101_85, g101_85b, g101_88, g101_89, g101_92, g101_93, g101_94, g101_97, g101_100, g101_101_0, g101_101_1, g101_101b, mg_2, mp_2, mg_3, ma_3, ms_3, mg_5, ma_5, ms_5, mg_6, ma_6, ms_6, mg_4, ma_4, ms_4, Option.some.injEq, exists_eq_left', zkl_i, zkl_l, zkl_n, zkl_r, zkl_0, zc_v, zc_n, zc_t, zd_v, zd_n, mj_tg, true_and, ↓reduceIte, not_true_eq_false, not_false_eq_true, ↓if_pos, ↓if_neg, Int.reduceLE, Int.reduceLT, Int.reduceEq, Int.reduceAdd]
        · rw [← h2]
          simp (disch := omega) only [g101_0, g101_1, g101_2, g101_3, g101_5, g101_6, g101_9, g101_12, g101_13, g101_16, g101_17, g101_18, g101_19, g101_22, g101_23, g101_26, g101_27, g101_28, g101_29, g101_32, g101_33, g101_36, g101_37, g101_38, g101_39, g101_42, g101_43, g101_46, g101_47, g101_48, g101_50, g101_53, g101_54, g101_57, g101_58, g101_59, g101_60, g101_63, g101_64, g101_67, g101_68, g101_70, g101_71, g101_71b, g101_74, g101_75, g101_78, g101_79, g101_80, g101_80b, g101_83, g101_85, g101_85b, g101_88, g101_89, g101_92, g101_93, g101_94, g101_97, g101_100, g101_101_0, g101_101_1, g101_101b, mg_2, mp_2, mg_3, ma_3, ms_3, mg_5, ma_5, ms_5, mg_6, ma_6, ms_6, mg_4, ma_4, ms_4, Option.some.injEq, exists_eq_left', zkl_i, zkl_l, zkl_n, zkl_r, zkl_0, zc_v, zc_n, zc_t, zd_v, zd_n, mj_tg, true_and, ↓reduceIte, not_true_eq_false, not_false_eq_true, ↓if_pos, ↓if_neg, Int.reduceLE, Int.reduceLT, Int.reduceEq, Int.reduceAdd]
      · have hr1 : r = 1 := by
          rcases hf with h1 | h1 | ⟨a, b, c⟩
          · exact h1.2
          · exact h1.2.1
          · exact absurd (hvu.mp rfl) (c k (by omega) (by omega) hl)
        have h2 := ih (k + 1) 1 (some (zi 1)) (by omega) (by omega) (.inl ⟨rfl, hr1⟩)
        have hf01 : f = 0 ∨ f = 1 := by rcases hf with h1 | h1 | h1 <;> omega
        rcases hf01 with rfl | rfl
        · rw [← h2]
          simp (disch := omega) only [g101_0, g101_1, g101_2, g101_3, g101_5, g101_6, g101_9, g101_12, g101_13, g101_16, g101_17, g101_18, g101_19, g101_22, g101_23, g101_26, g101_27, g101_28, g101_29, g101_32, g101_33, g101_36, g101_37, g101_38, g101_39, g101_42, g101_43, g101_46, g101_47, g101_48, g101_50, g101_53, g101_54, g101_57, g101_58, g101_59, g101_60, g101_63, g101_64, g101_67, g101_68, g101_70, g101_71, g101_71b, g101_74, g101_75, g101_78, g101_79, g101_80, g101_80b, g101_83, g101_85, g101_85b, g101_88, g101_89, g101_92, g101_93, g101_94, g101_97, g101_100, g101_101_0, g101_101_1, g101_101b, mg_2, mp_2, mg_3, ma_3, ms_3, mg_5, ma_5, ms_5, mg_6, ma_6, ms_6, mg_4, ma_4, ms_4, Option.some.injEq, exists_eq_left', zkl_i, zkl_l, zkl_n, zkl_r, zkl_0, zc_v, zc_n, zc_t, zd_v, zd_n, mj_tg, true_and, ↓reduceIte, not_true_eq_false, not_false_eq_true, ↓if_pos, ↓if_neg, Int.reduceLE, Int.reduceLT, Int.reduceEq, Int.reduceAdd]
        · rw [← h2]
          simp (disch := omega) only [g101_0, g101_1, g101_2, g101_3, g101_5, g101_6, g101_9, g101_12, g101_13, g101_16, g101_17, g101_18, g101_19, g101_22, g101_23, g101_26, g101_27, g101_28, g101_29, g101_32, g101_33, g101_36, g101_37, g101_38, g101_39, g101_42, g101_43, g101_46, g101_47, g101_48, g101_50, g101_53, g101_54, g101_57, g101_58, g101_59, g101_60, g101_63, g101_64, g101_67, g101_68, g101_70, g101_71, g101_71b, g101_74, g101_75, g101_78, g101_79, g101_80, g101_80b, g101_83, g101_85, g101_85b, g101_88, g101_89, g101_92, g101_93, g101_94, g101_97, g101_100, g101_101_0, g101_101_1, g101_101b, mg_2, mp_2, mg_3, ma_3, ms_3, mg_5, ma_5, ms_5, mg_6, ma_6, ms_6, mg_4, ma_4, ms_4, Option.some.injEq, exists_eq_left', zkl_i, zkl_l, zkl_n, zkl_r, zkl_0, zc_v, zc_n, zc_t, zd_v, zd_n, mj_tg, true_and, ↓reduceIte, not_true_eq_false, not_false_eq_true, ↓if_pos, ↓if_neg, Int.reduceLE, Int.reduceLT, Int.reduceEq, Int.reduceAdd]
theorem s101_y {x : Int} (hR : RG Y) (x1 : -2147483648 ≤ x) (x2 : x < 2147483648) (H : ∃ k', 1 ≤ k' ∧ k' ≤ Y 2 0 ∧ ¬ Y 4 k' = 0 ∧ m_us Y k' x) : z_go zP 101 0 [some (.ref o), some (zi x), none, none, none] [] (mj o Y h, t) Q ↔ Q (.inl (some (zi 1))) (mj o Y h, t) := by
  obtain ⟨r1, r2⟩ : 0 ≤ Y 2 0 ∧ Y 2 0 ≤ 60 := hR 2 0
  refine Iff.trans ?_ (s101_l hR x1 x2 1 (Y 2 0).toNat 1 0 none (by omega) (by omega) (.inr (.inl ⟨rfl, rfl, H⟩)))
  simp (disch := omega) only [g101_0, g101_1, g101_2, g101_3, g101_5, g101_6, g101_9, g101_12, g101_13, g101_16, g101_17, g101_18, g101_19, g101_22, g101_23, g101_26, g101_27, g101_28, g101_29, g101_32, g101_33, g101_36, g101_37, g101_38, g101_39, g101_42, g101_43, g101_46, g101_47, g101_48, g101_50, g101_53, g101_54, g101_57, g101_58, g101_59, g101_60, g101_63, g101_64, g101_67, g101_68, g101_70, g101_71, g101_71b, g101_74, g101_75, g101_78, g101_79, g101_80, g101_80b, g101_83, g101_85, g101_85b, g101_88, g101_89, g101_92, g101_93, g101_94, g101_97, g101_100, g101_101_0, g101_101_1, g101_101b, Option.some.injEq, exists_eq_left', zkl_i, zkl_l, zkl_n, zkl_r, zkl_0, zc_v, zc_n, zc_t, zd_v, zd_n, mj_tg, true_and, ↓reduceIte, not_true_eq_false, not_false_eq_true, ↓if_pos, ↓if_neg, Int.reduceLE, Int.reduceLT, Int.reduceEq, Int.reduceAdd]
theorem s101_n {x : Int} (hR : RG Y) (x1 : -2147483648 ≤ x) (x2 : x < 2147483648) (H : ∀ k', 1 ≤ k' → k' ≤ Y 2 0 → ¬ Y 4 k' = 0 → ¬ m_us Y k' x) : z_go zP 101 0 [some (.ref o), some (zi x), none, none, none] [] (mj o Y h, t) Q ↔ Q (.inl (some (zi 0))) (mj o Y h, t) := by
  obtain ⟨r1, r2⟩ : 0 ≤ Y 2 0 ∧ Y 2 0 ≤ 60 := hR 2 0
  refine Iff.trans ?_ (s101_l hR x1 x2 0 (Y 2 0).toNat 1 0 none (by omega) (by omega) (.inr (.inr ⟨rfl, rfl, H⟩)))
  simp (disch := omega) only [g101_0, g101_1, g101_2, g101_3, g101_5, g101_6, g101_9, g101_12, g101_13, g101_16, g101_17, g101_18, g101_19, g101_22, g101_23, g101_26, g101_27, g101_28, g101_29, g101_32, g101_33, g101_36, g101_37, g101_38, g101_39, g101_42, g101_43, g101_46, g101_47, g101_48, g101_50, g101_53, g101_54, g101_57, g101_58, g101_59, g101_60, g101_63, g101_64, g101_67, g101_68, g101_70, g101_71, g101_71b, g101_74, g101_75, g101_78, g101_79, g101_80, g101_80b, g101_83, g101_85, g101_85b, g101_88, g101_89, g101_92, g101_93, g101_94, g101_97, g101_100, g101_101_0, g101_101_1, g101_101b, Option.some.injEq, exists_eq_left', zkl_i, zkl_l, zkl_n, zkl_r, zkl_0, zc_v, zc_n, zc_t, zd_v, zd_n, mj_tg, true_and, ↓reduceIte, not_true_eq_false, not_false_eq_true, ↓if_pos, ↓if_neg, Int.reduceLE, Int.reduceLT, Int.reduceEq, Int.reduceAdd]
theorem s102 {its fr se : Int} (hR : RG Y) (hn : Y 2 0 < 60) : z_go zP 102 0 [some (.ref o), some (zi its), some (zi fr), some (zi se)] [] (mj o Y h, t) Q ↔ Q (.inl (some (zi (Y 2 0 + 1)))) (mj o (m_add Y its fr se) h, t) := by
  obtain ⟨r1, r2⟩ : 0 ≤ Y 2 0 ∧ Y 2 0 ≤ 60 := hR 2 0
  have e1 : ∀ (Z : zY) (f : Nat) (e v : Int), ¬ 2 = f → yu Z f e v 2 0 = Z 2 0 := fun Z f e v hh => yu_f hh
  simp (disch := first | omega | decide) only [g102_0, g102_1, g102_1i, g102_2, g102_5, g102_6, g102_7, g102_10, g102_11, g102_14, g102_15, g102_18, g102_19, g102_20, g102_21, g102_24, g102_25, g102_28, g102_29, g102_30, g102_31, g102_34, g102_35, g102_38, g102_39, g102_40, g102_41, g102_44, g102_45, g102_48, g102_49, g102_50, g102_51, g102_54, mg_2, mp_2, mg_3, ma_3, ms_3, mg_4, ma_4, ms_4, mg_5, ma_5, ms_5, mg_6, ma_6, ms_6, Option.some.injEq, exists_eq_left', zkl_i, zkl_l, zkl_n, zkl_r, zkl_0, zc_v, zc_n, zc_t, zd_v, zd_n, mj_tg, true_and, ↓reduceIte, not_true_eq_false, not_false_eq_true, ↓if_pos, ↓if_neg, Int.reduceLE, Int.reduceLT, Int.reduceEq, Int.reduceAdd, e1, yu_s, m_add]
theorem s103_n {c : Int} (hR : RG Y) (hn : Y 2 0 < 60) : z_go zP 103 0 [some (.ref o), some (zi c)] [] (mj o Y h, t) Q ↔ Q (.inl (some (zi 0))) (mj o Y h, t) := by
  obtain ⟨r1, r2⟩ : 0 ≤ Y 2 0 ∧ Y 2 0 ≤ 60 := hR 2 0
  simp (disch := omega) only [g103_0, g103_1, g103_4, g103_6, g103_9, g103_10, g103_12, g103_13, g103_16, g103_16r, g103_17, g103_18, g103_21, g103_23, g103_26, g103_27, g103_30, g103_31_0, g103_31_1, g103_31b, mg_2, mp_2, Option.some.injEq, exists_eq_left', zkl_i, zkl_l, zkl_n, zkl_r, zkl_0, zc_v, zc_n, zc_t, zd_v, zd_n, mj_tg, true_and, ↓reduceIte, not_true_eq_false, not_false_eq_true, ↓if_pos, ↓if_neg, Int.reduceLE, Int.reduceLT, Int.reduceEq, Int.reduceAdd]
theorem s103_y {c : Int} (hR : RG Y) (hn : Y 2 0 = 60) : z_go zP 103 0 [some (.ref o), some (zi c)] [] (mj o Y h, t) Q ↔ Q (.inl (some (zi 1))) (mj o (m_re Y 6 c) h, t) := by
  have e1 : m_re Y 6 c 2 0 = Y 2 0 := by simp [m_re, yu]
  simp (disch := omega) only [g103_0, g103_1, g103_4, g103_6, g103_9, g103_10, g103_12, g103_13, g103_16, g103_16r, g103_17, g103_18, g103_21, g103_23, g103_26, g103_27, g103_30, g103_31_0, g103_31_1, g103_31b, mg_2, mp_2, Option.some.injEq, exists_eq_left', zkl_i, zkl_l, zkl_n, zkl_r, zkl_0, zc_v, zc_n, zc_t, zd_v, zd_n, mj_tg, true_and, ↓reduceIte, not_true_eq_false, not_false_eq_true, ↓if_pos, ↓if_neg, Int.reduceLE, Int.reduceLT, Int.reduceEq, Int.reduceAdd, s98', e1, hn]
end
