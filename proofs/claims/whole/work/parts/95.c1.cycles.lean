/-! THE MODEL: cycles, the code -/
def m_last (Y : zY) (s d : Int) : Int := if Y 22 s = 0 then d else Y 25 (16 * s + (Y 21 s - 1) % 16) + Y 9 (Y 5 s)
def m_ea (Y : zY) (s to : Int) : zY := m_eaf s to (to + 1 - Y 24 s).toNat Y
def a_cycles (Y : zY) (s n : Int) : aO := if m_th Y s then (if Y 3 s = 5 then (if 1 ≤ n ∧ n ≤ 2000 then (if Y 22 s = 0 then (m_last (m_ea (yu Y 0 0 0) s (Y 23 s + n)) s (Y 23 s + n) - Y 23 s, yu (m_ea (yu Y 0 0 0) s (Y 23 s + n)) 23 s (m_last (m_ea (yu Y 0 0 0) s (Y 23 s + n)) s (Y 23 s + n))) else (0, yu Y 0 0 0)) else (0, yu Y 0 0 2)) else (0, m_re Y 2 1)) else (0, m_re Y 1 1)
theorem SV_0 {Y : zY} {s : Int} (h : SV Y s) : SV (yu Y 0 0 0) s := ⟨RG_0 h.1, h.2⟩
theorem SV_eaf {s to : Int} (ht : to ≤ 90000000) : ∀ (n : Nat) (Y : zY), SV Y s → SV (m_eaf s to n Y) s := by
  intro n
  induction n with
  | zero => intro Y h; exact SV_la h
  | succ n ih =>
    intro Y h
    unfold m_eaf
    split
    next hc => exact ih _ (SV_la (SV_ent h hc.1 (by omega)).1)
    next => exact SV_la h
section
variable {o : Nat} {Y : zY} {h : zH} {t : Nat × Nat} {Q : zU → zS → Prop}
theorem s124 {s b w : Int} (hR : RG Y) (s1 : 1 ≤ s) (s2 : s ≤ 60) (b1 : 0 ≤ b) (b2 : b ≤ 100000000) (w1 : 0 ≤ w) (w2 : w ≤ 1) : z_go zP 124 0 [some (.ref o), some (zi s), some (zi b), some (zi w), none, none, none] [] (mj o Y h, t) Q ↔ Q (.inl none) (mj o (m_lo Y s b w) h, t) := by
  obtain ⟨a3, a4⟩ : 0 ≤ Y 5 s ∧ Y 5 s ≤ 60 := hR 5 s
  obtain ⟨a5, a6⟩ : 0 ≤ Y 12 (Y 5 s) ∧ Y 12 (Y 5 s) ≤ 8 := hR 12 _
  obtain ⟨a7, a8⟩ : 0 ≤ Y 24 s ∧ Y 24 s ≤ 100000000 := hR 24 s
  unfold m_lo
  by_cases c : w = 0
  · simp only [if_pos c]
    by_cases d : Y 24 s - b - 1 < 0
    · simp only [if_pos d]
      simp (disch := omega) only [g124_0, g124_1, g124_4, g124_5, g124_6, g124_7, g124_8, g124_9, g124_10, g124_12, g124_13, g124_13b, g124_16, g124_17, g124_20, g124_21, g124_24, g124_25, g124_26, g124_27, g124_30, g124_31, g124_33, g124_35, g124_37, g124_40, g124_42, g124_45, g124_47, g124_49, g124_50, g124_53, g124_54, g124_55, g124_56, g124_58, g124_59, g124_60, g124_61, g124_64, g124_65, g124_66, g124_67, g124_69, g124_71, g124_72, g124_73, g124_74, mg_24, ma_24, ms_24, mg_12, ma_12, ms_12, mg_5, ma_5, ms_5, mg_28, ma_28, ms_28, mg_29, ma_29, ms_29, Option.some.injEq, exists_eq_left', zkl_i, zkl_l, zkl_n, zkl_r, zkl_0, zc_v, zc_n, zc_t, zd_v, zd_n, mj_tg, true_and, ↓reduceIte, not_true_eq_false, not_false_eq_true, ↓if_pos, ↓if_neg, Int.reduceLE, Int.reduceLT, Int.reduceEq, Int.reduceAdd, yu_f]
    · simp only [if_neg d]
      simp (disch := omega) only [g124_0, g124_1, g124_4, g124_5, g124_6, g124_7, g124_8, g124_9, g124_10, g124_12, g124_13, g124_13b, g124_16, g124_17, g124_20, g124_21, g124_24, g124_25, g124_26, g124_27, g124_30, g124_31, g124_33, g124_35, g124_37, g124_40, g124_42, g124_45, g124_47, g124_49, g124_50, g124_53, g124_54, g124_55, g124_56, g124_58, g124_59, g124_60, g124_61, g124_64, g124_65, g124_66, g124_67, g124_69, g124_71, g124_72, g124_73, g124_74, mg_24, ma_24, ms_24, mg_12, ma_12, ms_12, mg_5, ma_5, ms_5, mg_28, ma_28, ms_28, mg_29, ma_29, ms_29, Option.some.injEq, exists_eq_left', zkl_i, zkl_l, zkl_n, zkl_r, zkl_0, zc_v, zc_n, zc_t, zd_v, zd_n, mj_tg, true_and, ↓reduceIte, not_true_eq_false, not_false_eq_true, ↓if_pos, ↓if_neg, Int.reduceLE, Int.reduceLT, Int.reduceEq, Int.reduceAdd, yu_f]
  · simp only [if_neg c]
    by_cases d : Y 24 s - b - 1 < Y 12 (Y 5 s)
    · simp only [if_pos d]
      simp (disch := omega) only [g124_0, g124_1, g124_4, g124_5, g124_6, g124_7, g124_8, g124_9, g124_10, g124_12, g124_13, g124_13b, g124_16, g124_17, g124_20, g124_21, g124_24, g124_25, g124_26, g124_27, g124_30, g124_31, g124_33, g124_35, g124_37, g124_40, g124_42, g124_45, g124_47, g124_49, g124_50, g124_53, g124_54, g124_55, g124_56, g124_58, g124_59, g124_60, g124_61, g124_64, g124_65, g124_66, g124_67, g124_69, g124_71, g124_72, g124_73, g124_74, mg_24, ma_24, ms_24, mg_12, ma_12, ms_12, mg_5, ma_5, ms_5, mg_28, ma_28, ms_28, mg_29, ma_29, ms_29, Option.some.injEq, exists_eq_left', zkl_i, zkl_l, zkl_n, zkl_r, zkl_0, zc_v, zc_n, zc_t, zd_v, zd_n, mj_tg, true_and, ↓reduceIte, not_true_eq_false, not_false_eq_true, ↓if_pos, ↓if_neg, Int.reduceLE, Int.reduceLT, Int.reduceEq, Int.reduceAdd, yu_f]
    · simp only [if_neg d]
      simp (disch := omega) only [g124_0, g124_1, g124_4, g124_5, g124_6, g124_7, g124_8, g124_9, g124_10, g124_12, g124_13, g124_13b, g124_16, g124_17, g124_20, g124_21, g124_24, g124_25, g124_26, g124_27, g124_30, g124_31, g124_33, g124_35, g124_37, g124_40, g124_42, g124_45, g124_47, g124_49, g124_50, g124_53, g124_54, g124_55, g124_56, g124_58, g124_59, g124_60, g124_61, g124_64, g124_65, g124_66, g124_67, g124_69, g124_71, g124_72, g124_73, g124_74, mg_24, ma_24, ms_24, mg_12, ma_12, ms_12, mg_5, ma_5, ms_5, mg_28, ma_28, ms_28, mg_29, ma_29, ms_29, Option.some.injEq, exists_eq_left', zkl_i, zkl_l, zkl_n, zkl_r, zkl_0, zc_v, zc_n, zc_t, zd_v, zd_n, mj_tg, true_and, ↓reduceIte, not_true_eq_false, not_false_eq_true, ↓if_pos, ↓if_neg, Int.reduceLE, Int.reduceLT, Int.reduceEq, Int.reduceAdd, yu_f]
theorem s126_l {s to : Int} (t1 : 0 ≤ to) (t2 : to ≤ 90000000) : ∀ (m : Nat) (Y : zY), SV Y s → m = (Y 21 (61 + s) - Y 21 s).toNat → (z_go zP 126 5 [some (.ref o), some (zi s), some (zi to), some (zi (61 + s))] [] (mj o Y h, t) Q ↔ Q (.inl none) (mj o (m_la Y s to) h, t)) := by
  intro m
  induction m with
  | zero =>
    intro Y hv hm
    rw [m_la_u, if_neg (fun hh => by have := hh.1; omega)]
    obtain ⟨hR, ⟨s1, s2⟩, h3, h4, -⟩ := hv
    obtain ⟨a1, a2⟩ : 0 ≤ Y 21 s ∧ Y 21 s ≤ 100000000 := hR 21 s
    obtain ⟨a3, a4⟩ : 0 ≤ Y 21 (61 + s) ∧ Y 21 (61 + s) ≤ 100000000 := hR 21 _
    simp (disch := omega) only [g126_0, g126_2, g126_3, g126_4, g126_5, g126_6, g126_9, g126_10, g126_11, g126_12, g126_15, g126_16, g126_17, g126_21, g126_24, g126_26, g126_27, g126_28, g126_29, g126_32, g126_33, g126_34, g126_36, g126_37, g126_38, g126_39, g126_40, g126_43, g126_44, g126_47, g126_48, g126_49, g126_50, g126_51, g126_52, g126_55, g126_56, g126_57, g126_58, g126_61, g126_62, g126_63, g126_66, g126_69, mg_21, ma_21, ms_21, mg_25, ma_25, ms_25, mg_9, ma_9, ms_9, mg_5, ma_5, ms_5, mg_6, ma_6, ms_6, Option.some.injEq, exists_eq_left', zkl_i, zkl_l, zkl_n, zkl_r, zkl_0, zc_v, zc_n, zc_t, zd_v, zd_n, mj_tg, true_and, ↓reduceIte, not_true_eq_false, not_false_eq_true, ↓if_pos, ↓if_neg, Int.reduceLE, Int.reduceLT, Int.reduceEq, Int.reduceAdd]
  | succ m ih =>
    intro Y hv hm
    rw [m_la_u]
    have hv' := hv
    obtain ⟨hR, ⟨s1, s2⟩, h3, h4, -⟩ := hv
    obtain ⟨a1, a2⟩ : 0 ≤ Y 21 s ∧ Y 21 s ≤ 100000000 := hR 21 s
    obtain ⟨a3, a4⟩ : 0 ≤ Y 21 (61 + s) ∧ Y 21 (61 + s) ≤ 100000000 := hR 21 _
    obtain ⟨a5, a6⟩ : 0 ≤ Y 5 s ∧ Y 5 s ≤ 60 := hR 5 s
    obtain ⟨a7, a8⟩ : 0 ≤ Y 6 s ∧ Y 6 s ≤ 60 := hR 6 s
    obtain ⟨a9, a10⟩ : 0 ≤ Y 9 (Y 5 s) ∧ Y 9 (Y 5 s) ≤ 8 := hR 9 _
    have e16 := tmod_nn (v := Y 21 s) (m := 16) a1
    obtain ⟨d1, d2⟩ := mod_b (v := Y 21 s) (m := 16) (by omega)
    obtain ⟨a11, a12⟩ : 0 ≤ Y 25 (16 * s + Y 21 s % 16) ∧ Y 25 (16 * s + Y 21 s % 16) ≤ 100000000 := hR 25 _
    by_cases hg : m_gu Y s to
    · rw [if_pos hg]
      have hg2 := hg.2
      have e1 : m_dw Y s (Y 6 s) 21 s = Y 21 s + 1 := by rw [m_dw_21, if_pos rfl]
      have e2 : m_dw Y s (Y 6 s) 21 (61 + s) = Y 21 (61 + s) := by rw [m_dw_21, if_neg (by omega)]
      rw [← ih (m_dw Y s (Y 6 s)) (SV_dw hv' h3 (by omega)) (by rw [e1, e2]; omega)]
      refine g126_5.trans ?_
      simp (disch := omega) only [g126_0, g126_2, g126_3, g126_4, g126_6, g126_9, g126_10, g126_11, g126_12, g126_15, g126_16, g126_17, g126_20, g126_21, g126_24, g126_26, g126_27, g126_28, g126_29, g126_32, g126_33, g126_34, g126_36, g126_37, g126_38, g126_39, g126_40, g126_43, g126_44, g126_47, g126_48, g126_49, g126_50, g126_51, g126_52, g126_55, g126_56, g126_57, g126_58, g126_61, g126_62, g126_63, g126_66, g126_69, mg_21, ma_21, ms_21, mg_25, ma_25, ms_25, mg_9, ma_9, ms_9, mg_5, ma_5, ms_5, mg_6, ma_6, ms_6, Option.some.injEq, exists_eq_left', zkl_i, zkl_l, zkl_n, zkl_r, zkl_0, zc_v, zc_n, zc_t, zd_v, zd_n, mj_tg, true_and, ↓reduceIte, not_true_eq_false, not_false_eq_true, ↓if_pos, ↓if_neg, Int.reduceLE, Int.reduceLT, Int.reduceEq, Int.reduceAdd, e16, s116 (r := s) hR (by omega) (by omega) a7 a8 h3 h4 (by omega)]
    · rw [if_neg hg]
      have hg2 : ¬ Y 25 (16 * s + Y 21 s % 16) + Y 9 (Y 5 s) ≤ to := fun hh => hg ⟨by omega, hh⟩
      simp (disch := omega) only [g126_0, g126_2, g126_3, g126_4, g126_5, g126_6, g126_9, g126_10, g126_11, g126_12, g126_15, g126_16, g126_17, g126_20, g126_21, g126_24, g126_26, g126_27, g126_28, g126_29, g126_32, g126_33, g126_34, g126_36, g126_37, g126_38, g126_39, g126_40, g126_43, g126_44, g126_47, g126_48, g126_49, g126_50, g126_51, g126_52, g126_56, g126_57, g126_58, g126_61, g126_62, g126_63, g126_66, g126_69, mg_21, ma_21, ms_21, mg_25, ma_25, ms_25, mg_9, ma_9, ms_9, mg_5, ma_5, ms_5, mg_6, ma_6, ms_6, Option.some.injEq, exists_eq_left', zkl_i, zkl_l, zkl_n, zkl_r, zkl_0, zc_v, zc_n, zc_t, zd_v, zd_n, mj_tg, true_and, ↓reduceIte, not_true_eq_false, not_false_eq_true, ↓if_pos, ↓if_neg, Int.reduceLE, Int.reduceLT, Int.reduceEq, Int.reduceAdd, e16]
theorem s126 {s to : Int} (hv : SV Y s) (t1 : 0 ≤ to) (t2 : to ≤ 90000000) : z_go zP 126 0 [some (.ref o), some (zi s), some (zi to), none] [] (mj o Y h, t) Q ↔ Q (.inl none) (mj o (m_la Y s to) h, t) := by
  refine Iff.trans ?_ (s126_l t1 t2 _ Y hv rfl)
  simp (disch := omega) only [g126_0, g126_2, g126_3, g126_4, g126_6, g126_9, g126_10, g126_11, g126_12, g126_15, g126_16, g126_17, g126_20, g126_21, g126_24, g126_26, g126_27, g126_28, g126_29, g126_32, g126_33, g126_34, g126_36, g126_37, g126_38, g126_39, g126_40, g126_43, g126_44, g126_47, g126_48, g126_49, g126_50, g126_51, g126_52, g126_55, g126_56, g126_57, g126_58, g126_61, g126_62, g126_63, g126_66, g126_69, Option.some.injEq, exists_eq_left', zkl_i, zkl_l, zkl_n, zkl_r, zkl_0, zc_v, zc_n, zc_t, zd_v, zd_n, mj_tg, true_and, ↓reduceIte, not_true_eq_false, not_false_eq_true, ↓if_pos, ↓if_neg, Int.reduceLE, Int.reduceLT, Int.reduceEq, Int.reduceAdd]
/-- one turn of enterAll, up to its leaveAll -/
theorem s125_t {s to : Int} {l4 : Option Value} (hv : SV Y s) (t1 : 0 ≤ to) (t2 : to ≤ 90000000) (he : Y 22 (61 + s) = 0) (hw : Y 24 s ≤ to) : z_go zP 125 5 [some (.ref o), some (zi s), some (zi to), some (zi (61 + s)), l4] [] (mj o Y h, t) Q ↔ z_go zP 125 5 [some (.ref o), some (zi s), some (zi to), some (zi (61 + s)), some (zi (m_gs (m_la0 Y s) s))] [] (mj o (m_la (m_ent Y s) s (m_min (m_ent Y s 24 s) to)) h, t) Q := by
  have hE := SV_ent hv he (by omega)
  obtain ⟨hRA, -⟩ := la0_28 hv he (by omega)
  have hv' := hv
  obtain ⟨hR, ⟨s1, s2⟩, h3, h4, -, -, -, -, h9, -⟩ := hv'
  obtain ⟨a1, a2⟩ : 0 ≤ Y 21 (61 + s) ∧ Y 21 (61 + s) ≤ 100000000 := hR 21 _
  obtain ⟨a3, a4⟩ : 0 ≤ Y 24 s ∧ Y 24 s ≤ 100000000 := hR 24 s
  obtain ⟨a5, a6⟩ : 0 ≤ Y 41 s ∧ Y 41 s ≤ 1 := hR 41 s
  obtain ⟨a7, a8⟩ : 0 ≤ Y 6 s ∧ Y 6 s ≤ 60 := hR 6 s
  have hA : z_go zP 125 5 [some (.ref o), some (zi s), some (zi to), some (zi (61 + s)), l4] [] (mj o Y h, t) Q ↔ z_go zP 125 65 [some (.ref o), some (zi s), some (zi to), some (zi (61 + s)), l4] [] (mj o (m_la0 Y s) h, t) Q := by
    unfold m_la0
    by_cases c : 0 < Y 21 (61 + s)
    · rw [if_pos c]
      have e16 := tmod_nn (v := Y 21 (61 + s) - 1) (m := 16) (by omega)
      obtain ⟨d1, d2⟩ := mod_b (v := Y 21 (61 + s) - 1) (m := 16) (by omega)
      obtain ⟨a11, a12⟩ : 0 ≤ Y 25 (16 * s + (Y 21 (61 + s) - 1) % 16) ∧ Y 25 (16 * s + (Y 21 (61 + s) - 1) % 16) ≤ 100000000 := hR 25 _
      simp (disch := omega) only [g125_0, g125_2, g125_3, g125_4, g125_5, g125_6, g125_9, g125_10, g125_11, g125_11b, g125_14, g125_15, g125_18, g125_19, g125_20, g125_21, g125_24, g125_25, g125_28, g125_29, g125_30, g125_33, g125_34, g125_35, g125_36, g125_39, g125_41, g125_42, g125_43, g125_44, g125_47, g125_48, g125_49, g125_50, g125_51, g125_53, g125_54, g125_55, g125_56, g125_57, g125_60, g125_61, g125_62, g125_66, g125_67, g125_68, g125_69, g125_70, g125_73, g125_74, g125_75, g125_78, g125_81, g125_83, g125_84, g125_85, g125_88, g125_89, g125_92, g125_93, g125_95, g125_96, g125_97, g125_98, g125_99, g125_102, g125_103, g125_104, g125_105, g125_108, g125_109, g125_112, g125_113, g125_114, g125_117, g125_118, g125_121, g125_124, g125_125, g125_126, g125_127, g125_130, mg_22, ma_22, ms_22, mg_24, ma_24, ms_24, mg_21, ma_21, ms_21, mg_25, ma_25, ms_25, mg_41, ma_41, ms_41, mg_6, ma_6, ms_6, Option.some.injEq, exists_eq_left', zkl_i, zkl_l, zkl_n, zkl_r, zkl_0, zc_v, zc_n, zc_t, zd_v, zd_n, mj_tg, true_and, ↓reduceIte, not_true_eq_false, not_false_eq_true, ↓if_pos, ↓if_neg, Int.reduceLE, Int.reduceLT, Int.reduceEq, Int.reduceAdd, he, e16, s124 (s := s) hR s1 s2 a11 a12 a5 a6]
    · rw [if_neg c]
      simp (disch := omega) only [g125_0, g125_2, g125_3, g125_4, g125_5, g125_6, g125_9, g125_10, g125_11, g125_11b, g125_14, g125_15, g125_18, g125_19, g125_20, g125_21, g125_24, g125_25, g125_28, g125_29, g125_30, g125_33, g125_34, g125_35, g125_36, g125_39, g125_41, g125_42, g125_43, g125_44, g125_47, g125_48, g125_49, g125_50, g125_51, g125_53, g125_54, g125_55, g125_56, g125_57, g125_60, g125_61, g125_62, g125_66, g125_67, g125_68, g125_69, g125_70, g125_73, g125_74, g125_75, g125_78, g125_81, g125_83, g125_84, g125_85, g125_88, g125_89, g125_92, g125_93, g125_95, g125_96, g125_97, g125_98, g125_99, g125_102, g125_103, g125_104, g125_105, g125_108, g125_109, g125_112, g125_113, g125_114, g125_117, g125_118, g125_121, g125_124, g125_125, g125_126, g125_127, g125_130, mg_22, ma_22, ms_22, mg_24, ma_24, ms_24, mg_21, ma_21, ms_21, mg_25, ma_25, ms_25, mg_41, ma_41, ms_41, mg_6, ma_6, ms_6, Option.some.injEq, exists_eq_left', zkl_i, zkl_l, zkl_n, zkl_r, zkl_0, zc_v, zc_n, zc_t, zd_v, zd_n, mj_tg, true_and, ↓reduceIte, not_true_eq_false, not_false_eq_true, ↓if_pos, ↓if_neg, Int.reduceLE, Int.reduceLT, Int.reduceEq, Int.reduceAdd, he]
  rw [hA]
  have g := fun (f : Nat) (e : Int) (a : ¬ f = 28) (b : ¬ f = 29) => la0_f (Y := Y) (s := s) (e := e) a b
  have k6 : m_la0 Y s 6 s = Y 6 s := g 6 s (by decide) (by decide)
  have k13 : ∀ e, m_la0 Y s 13 e = Y 13 e := fun e => g 13 e (by decide) (by decide)
  have k5 : ∀ e, m_la0 Y s 5 e = Y 5 e := fun e => g 5 e (by decide) (by decide)
  have k8 : ∀ e, m_la0 Y s 8 e = Y 8 e := fun e => g 8 e (by decide) (by decide)
  have k21 : m_la0 Y s 21 (61 + s) = Y 21 (61 + s) := g 21 _ (by decide) (by decide)
  have k24 : m_la0 Y s 24 s = Y 24 s := g 24 _ (by decide) (by decide)
  obtain ⟨hE1, hE2, hE3, hE4, hE5, hE6⟩ := hE
  have k9 : 0 ≤ m_ent Y s 24 s := by omega
  unfold m_ent at *
  generalize hAA : m_la0 Y s = A at *
  obtain ⟨k, hk⟩ : ∃ k, m_ew A s = k := ⟨_, rfl⟩
  have hk' : m_w A (61 + s) (A 6 s) = k := hk
  have hgs : m_gs A s = bI (A 14 k = 6 ∧ ¬ A 19 (12 * (61 + s) + A 16 k) = 0) := by unfold m_gs; rw [hk]
  have k20 : 0 ≤ A 20 (61 + s) ∧ A 20 (61 + s) ≤ 23 := hRA 20 _
  have kk1 : 0 ≤ k := by rw [← hk']; unfold m_w; omega
  have kk2 : k < 1464 := by rw [← hk']; unfold m_w; omega
  obtain ⟨G, hG⟩ : ∃ G, m_gs A s = G := ⟨_, rfl⟩
  have hG01 : G = 0 ∨ G = 1 := by rw [← hG, hgs]; exact bI_01
  rw [hG] at hE1 hE2 hE3 hE4 hE5 hE6 k9 ⊢
  rw [hgs] at hG
  have h123 := fun (Q : zU → zS → Prop) => s123 (o := o) (h := h) (t := t) (Q := Q) (Y := A) hRA s1 s2 (by rw [k6, k13]; exact h3) (by rw [k6, k5, k8]; exact h4) (by omega)
  have y24 : yu (m_en A s) 41 s G 24 s = m_en A s 24 s := yu_f (by decide)
  rw [y24] at hE4 hE5 hE6 k9
  have hmin : ∀ x, m_min x to = if x < to then x else to := fun x => rfl
  rw [y24, hmin]
  by_cases cm : m_en A s 24 s < to
  · rw [if_pos cm]
    have h126 := fun (Q : zU → zS → Prop) => s126 (o := o) (h := h) (t := t) (Q := Q) (to := m_en A s 24 s) hE1 (by omega) (by omega)
    simp (disch := omega) only [g125_0, g125_2, g125_3, g125_4, g125_6, g125_9, g125_10, g125_11, g125_11b, g125_14, g125_15, g125_18, g125_19, g125_20, g125_21, g125_24, g125_25, g125_28, g125_29, g125_30, g125_33, g125_34, g125_35, g125_36, g125_39, g125_41, g125_42, g125_43, g125_44, g125_47, g125_48, g125_49, g125_50, g125_51, g125_53, g125_54, g125_55, g125_56, g125_57, g125_60, g125_61, g125_62, g125_65, g125_66, g125_67, g125_68, g125_69, g125_70, g125_73, g125_74, g125_75, g125_78, g125_81, g125_83, g125_84, g125_85, g125_88, g125_89, g125_92, g125_93, g125_95, g125_96, g125_97, g125_98, g125_99, g125_102, g125_103, g125_104, g125_105, g125_108, g125_109, g125_112, g125_113, g125_114, g125_117, g125_118, g125_121, g125_124, g125_125, g125_126, g125_127, g125_130, mg_22, ma_22, ms_22, mg_24, ma_24, ms_24, mg_21, ma_21, ms_21, mg_25, ma_25, ms_25, mg_41, ma_41, ms_41, mg_6, ma_6, ms_6, Option.some.injEq, exists_eq_left', zkl_i, zkl_l, zkl_n, zkl_r, zkl_0, zc_v, zc_n, zc_t, zd_v, zd_n, mj_tg, true_and, ↓reduceIte, not_true_eq_false, not_false_eq_true, ↓if_pos, ↓if_neg, Int.reduceLE, Int.reduceLT, Int.reduceEq, Int.reduceAdd, s114 hRA (r := 61 + s) (by omega) (by omega), hk', s115 hRA (r := 61 + s) (by omega) (by omega) kk1 kk2, hG, h123, y24, h126]
  · rw [if_neg cm]
    have h126 := fun (Q : zU → zS → Prop) => s126 (o := o) (h := h) (t := t) (Q := Q) (to := to) hE1 t1 t2
    simp (disch := omega) only [g125_0, g125_2, g125_3, g125_4, g125_6, g125_9, g125_10, g125_11, g125_11b, g125_14, g125_15, g125_18, g125_19, g125_20, g125_21, g125_24, g125_25, g125_28, g125_29, g125_30, g125_33, g125_34, g125_35, g125_36, g125_39, g125_41, g125_42, g125_43, g125_44, g125_47, g125_48, g125_49, g125_50, g125_51, g125_53, g125_54, g125_55, g125_56, g125_57, g125_60, g125_61, g125_62, g125_65, g125_66, g125_67, g125_68, g125_69, g125_70, g125_73, g125_74, g125_75, g125_78, g125_81, g125_83, g125_84, g125_85, g125_88, g125_89, g125_92, g125_93, g125_95, g125_96, g125_97, g125_98, g125_99, g125_102, g125_103, g125_104, g125_105, g125_108, g125_109, g125_112, g125_113, g125_114, g125_117, g125_118, g125_121, g125_124, g125_125, g125_126, g125_127, g125_130, mg_22, ma_22, ms_22, mg_24, ma_24, ms_24, mg_21, ma_21, ms_21, mg_25, ma_25, ms_25, mg_41, ma_41, ms_41, mg_6, ma_6, ms_6, Option.some.injEq, exists_eq_left', zkl_i, zkl_l, zkl_n, zkl_r, zkl_0, zc_v, zc_n, zc_t, zd_v, zd_n, mj_tg, true_and, ↓reduceIte, not_true_eq_false, not_false_eq_true, ↓if_pos, ↓if_neg, Int.reduceLE, Int.reduceLT, Int.reduceEq, Int.reduceAdd, s114 hRA (r := 61 + s) (by omega) (by omega), hk', s115 hRA (r := 61 + s) (by omega) (by omega) kk1 kk2, hG, h123, y24, h126]
theorem s125_l {s to : Int} (t1 : 0 ≤ to) (t2 : to ≤ 90000000) : ∀ (m : Nat) (Y : zY) (l4 : Option Value), SV Y s → (Y 22 (61 + s) = 0 → to + 1 - Y 24 s ≤ m) → (z_go zP 125 5 [some (.ref o), some (zi s), some (zi to), some (zi (61 + s)), l4] [] (mj o Y h, t) Q ↔ Q (.inl none) (mj o (m_eaf s to m Y) h, t)) := by
  intro m
  induction m with
  | zero =>
    intro Y l4 hv hm
    have hv' := hv
    obtain ⟨hR, ⟨s1, s2⟩, h3, h4, -⟩ := hv'
    obtain ⟨a3, a4⟩ : 0 ≤ Y 24 s ∧ Y 24 s ≤ 100000000 := hR 24 s
    obtain ⟨a5, a6⟩ : 0 ≤ Y 22 (61 + s) ∧ Y 22 (61 + s) ≤ 1 := hR 22 _
    have h126 := fun (Q : zU → zS → Prop) => s126 (o := o) (h := h) (t := t) (Q := Q) (to := to) hv t1 t2
    unfold m_eaf
    by_cases he : Y 22 (61 + s) = 0
    · have := hm he
      simp (disch := omega) only [g125_0, g125_2, g125_3, g125_4, g125_5, g125_6, g125_9, g125_10, g125_11, g125_11b, g125_14, g125_15, g125_18, g125_19, g125_20, g125_21, g125_25, g125_28, g125_29, g125_30, g125_33, g125_34, g125_35, g125_36, g125_39, g125_41, g125_42, g125_43, g125_44, g125_47, g125_48, g125_49, g125_50, g125_51, g125_53, g125_54, g125_55, g125_56, g125_57, g125_60, g125_61, g125_62, g125_65, g125_66, g125_67, g125_68, g125_69, g125_70, g125_73, g125_74, g125_75, g125_78, g125_81, g125_83, g125_84, g125_85, g125_88, g125_89, g125_92, g125_93, g125_95, g125_96, g125_97, g125_98, g125_99, g125_102, g125_103, g125_104, g125_105, g125_108, g125_109, g125_112, g125_113, g125_114, g125_117, g125_118, g125_121, g125_124, g125_125, g125_126, g125_127, g125_130, mg_22, ma_22, ms_22, mg_24, ma_24, ms_24, mg_21, ma_21, ms_21, mg_25, ma_25, ms_25, mg_41, ma_41, ms_41, mg_6, ma_6, ms_6, Option.some.injEq, exists_eq_left', zkl_i, zkl_l, zkl_n, zkl_r, zkl_0, zc_v, zc_n, zc_t, zd_v, zd_n, mj_tg, true_and, ↓reduceIte, not_true_eq_false, not_false_eq_true, ↓if_pos, ↓if_neg, Int.reduceLE, Int.reduceLT, Int.reduceEq, Int.reduceAdd, h126]
    · simp (disch := omega) only [g125_0, g125_2, g125_3, g125_4, g125_5, g125_6, g125_9, g125_10, g125_11, g125_11b, g125_14, g125_15, g125_18, g125_19, g125_20, g125_21, g125_25, g125_28, g125_29, g125_30, g125_33, g125_34, g125_35, g125_36, g125_39, g125_41, g125_42, g125_43, g125_44, g125_47, g125_48, g125_49, g125_50, g125_51, g125_53, g125_54, g125_55, g125_56, g125_57, g125_60, g125_61, g125_62, g125_65, g125_66, g125_67, g125_68, g125_69, g125_70, g125_73, g125_74, g125_75, g125_78, g125_81, g125_83, g125_84, g125_85, g125_88, g125_89, g125_92, g125_93, g125_95, g125_96, g125_97, g125_98, g125_99, g125_102, g125_103, g125_104, g125_105, g125_108, g125_109, g125_112, g125_113, g125_114, g125_117, g125_118, g125_121, g125_124, g125_125, g125_126, g125_127, g125_130, mg_22, ma_22, ms_22, mg_24, ma_24, ms_24, mg_21, ma_21, ms_21, mg_25, ma_25, ms_25, mg_41, ma_41, ms_41, mg_6, ma_6, ms_6, Option.some.injEq, exists_eq_left', zkl_i, zkl_l, zkl_n, zkl_r, zkl_0, zc_v, zc_n, zc_t, zd_v, zd_n, mj_tg, true_and, ↓reduceIte, not_true_eq_false, not_false_eq_true, ↓if_pos, ↓if_neg, Int.reduceLE, Int.reduceLT, Int.reduceEq, Int.reduceAdd, h126]
  | succ m ih =>
    intro Y l4 hv hm
    have hv' := hv
    obtain ⟨hR, ⟨s1, s2⟩, h3, h4, -⟩ := hv'
    obtain ⟨a3, a4⟩ : 0 ≤ Y 24 s ∧ Y 24 s ≤ 100000000 := hR 24 s
    obtain ⟨a5, a6⟩ : 0 ≤ Y 22 (61 + s) ∧ Y 22 (61 + s) ≤ 1 := hR 22 _
    unfold m_eaf
    by_cases he : Y 22 (61 + s) = 0 ∧ Y 24 s ≤ to
    · rw [if_pos he, s125_t hv t1 t2 he.1 he.2]
      obtain ⟨hE1, hE2, hE3, hE4, hE5, hE6⟩ := SV_ent hv he.1 (by omega)
      refine ih _ _ (SV_la hE1) ?_
      unfold m_la
      rw [laf_e (by simp), laf_f (by decide) (by decide) (by decide) (by decide)]
      intro h0
      have := hE4 h0
      have := hm he.1
      omega
    · rw [if_neg he]
      have h126 := fun (Q : zU → zS → Prop) => s126 (o := o) (h := h) (t := t) (Q := Q) (to := to) hv t1 t2
      by_cases he2 : Y 22 (61 + s) = 0
      · have he3 : ¬ Y 24 s ≤ to := fun hh => he ⟨he2, hh⟩
        simp (disch := omega) only [g125_0, g125_2, g125_3, g125_4, g125_5, g125_6, g125_9, g125_10, g125_11, g125_11b, g125_14, g125_15, g125_18, g125_19, g125_20, g125_21, g125_25, g125_28, g125_29, g125_30, g125_33, g125_34, g125_35, g125_36, g125_39, g125_41, g125_42, g125_43, g125_44, g125_47, g125_48, g125_49, g125_50, g125_51, g125_53, g125_54, g125_55, g125_56, g125_57, g125_60, g125_61, g125_62, g125_65, g125_66, g125_67, g125_68, g125_69, g125_70, g125_73, g125_74, g125_75, g125_78, g125_81, g125_83, g125_84, g125_85, g125_88, g125_89, g125_92, g125_93, g125_95, g125_96, g125_97, g125_98, g125_99, g125_102, g125_103, g125_104, g125_105, g125_108, g125_109, g125_112, g125_113, g125_114, g125_117, g125_118, g125_121, g125_124, g125_125, g125_126, g125_127, g125_130, mg_22, ma_22, ms_22, mg_24, ma_24, ms_24, mg_21, ma_21, ms_21, mg_25, ma_25, ms_25, mg_41, ma_41, ms_41, mg_6, ma_6, ms_6, Option.some.injEq, exists_eq_left', zkl_i, zkl_l, zkl_n, zkl_r, zkl_0, zc_v, zc_n, zc_t, zd_v, zd_n, mj_tg, true_and, ↓reduceIte, not_true_eq_false, not_false_eq_true, ↓if_pos, ↓if_neg, Int.reduceLE, Int.reduceLT, Int.reduceEq, Int.reduceAdd, h126]
      · simp (disch := omega) only [g125_0, g125_2, g125_3, g125_4, g125_5, g125_6, g125_9, g125_10, g125_11, g125_11b, g125_14, g125_15, g125_18, g125_19, g125_20, g125_21, g125_25, g125_28, g125_29, g125_30, g125_33, g125_34, g125_35, g125_36, g125_39, g125_41, g125_42, g125_43, g125_44, g125_47, g125_48, g125_49, g125_50, g125_51, g125_53, g125_54, g125_55, g125_56, g125_57, g125_60, g125_61, g125_62, g125_65, g125_66, g125_67, g125_68, g125_69, g125_70, g125_73, g125_74, g125_75, g125_78, g125_81, g125_83, g125_84, g125_85, g125_88, g125_89, g125_92, g125_93, g125_95, g125_96, g125_97, g125_98, g125_99, g125_102, g125_103, g125_104, g125_105, g125_108, g125_109, g125_112, g125_113, g125_114, g125_117, g125_118, g125_121, g125_124, g125_125, g125_126, g125_127, g125_130, mg_22, ma_22, ms_22, mg_24, ma_24, ms_24, mg_21, ma_21, ms_21, mg_25, ma_25, ms_25, mg_41, ma_41, ms_41, mg_6, ma_6, ms_6, Option.some.injEq, exists_eq_left', zkl_i, zkl_l, zkl_n, zkl_r, zkl_0, zc_v, zc_n, zc_t, zd_v, zd_n, mj_tg, true_and, ↓reduceIte, not_true_eq_false, not_false_eq_true, ↓if_pos, ↓if_neg, Int.reduceLE, Int.reduceLT, Int.reduceEq, Int.reduceAdd, h126]
theorem s125 {s to : Int} (hv : SV Y s) (t1 : 0 ≤ to) (t2 : to ≤ 90000000) : z_go zP 125 0 [some (.ref o), some (zi s), some (zi to), none, none] [] (mj o Y h, t) Q ↔ Q (.inl none) (mj o (m_ea Y s to) h, t) := by
  refine Iff.trans ?_ (s125_l t1 t2 (to + 1 - Y 24 s).toNat Y none hv (fun _ => by omega))
  simp (disch := omega) only [g125_0, g125_2, g125_3, g125_4, g125_6, g125_9, g125_10, g125_11, g125_11b, g125_14, g125_15, g125_18, g125_19, g125_20, g125_21, g125_24, g125_25, g125_28, g125_29, g125_30, g125_33, g125_34, g125_35, g125_36, g125_39, g125_41, g125_42, g125_43, g125_44, g125_47, g125_48, g125_49, g125_50, g125_51, g125_53, g125_54, g125_55, g125_56, g125_57, g125_60, g125_61, g125_62, g125_65, g125_66, g125_67, g125_68, g125_69, g125_70, g125_73, g125_74, g125_75, g125_78, g125_81, g125_83, g125_84, g125_85, g125_88, g125_89, g125_92, g125_93, g125_95, g125_96, g125_97, g125_98, g125_99, g125_102, g125_103, g125_104, g125_105, g125_108, g125_109, g125_112, g125_113, g125_114, g125_117, g125_118, g125_121, g125_124, g125_125, g125_126, g125_127, g125_130, Option.some.injEq, exists_eq_left', zkl_i, zkl_l, zkl_n, zkl_r, zkl_0, zc_v, zc_n, zc_t, zd_v, zd_n, mj_tg, true_and, ↓reduceIte, not_true_eq_false, not_false_eq_true, ↓if_pos, ↓if_neg, Int.reduceLE, Int.reduceLT, Int.reduceEq, Int.reduceAdd]
theorem s127 {s n : Int} (hR : RG Y) (k1 : -2147483648 ≤ s) (k2 : s < 2147483648) (n1 : -2147483648 ≤ n) (n2 : n < 2147483648) (hi : m_th Y s → Y 3 s = 5 → SV Y s) (hc : Y 23 s ≤ 80000000) : z_go zP 127 0 [some (.ref o), some (zi s), some (zi n), none, none] [] (mj o Y h, t) Q ↔ Q (.inl (some (zi (a_cycles Y s n).1))) (mj o (a_cycles Y s n).2 h, t) := by
  obtain ⟨r1, r2⟩ : 0 ≤ Y 2 0 ∧ Y 2 0 ≤ 60 := hR 2 0
  obtain ⟨r3, r4⟩ : 0 ≤ Y 23 s ∧ Y 23 s ≤ 100000000 := hR 23 s
  obtain ⟨r5, r6⟩ : 0 ≤ Y 22 s ∧ Y 22 s ≤ 1 := hR 22 s
  unfold a_cycles
  by_cases d1 : m_th Y s
  · rw [if_pos d1]
    have d1' := d1
    obtain ⟨⟨d1a, d1b⟩, d1c⟩ := d1'
    by_cases d2 : Y 3 s = 5
    · rw [if_pos d2]
      by_cases d3 : 1 ≤ n ∧ n ≤ 2000
      · rw [if_pos d3]
        by_cases d4 : Y 22 s = 0
        · rw [if_pos d4]
          have hv := SV_0 (hi d1 d2)
          have hv2 : SV (m_ea (yu Y 0 0 0) s (Y 23 s + n)) s := SV_eaf (by omega) _ _ hv
          have h125 := fun (Q : zU → zS → Prop) => s125 (o := o) (h := h) (t := t) (Q := Q) hv (to := Y 23 s + n) (by omega) (by omega)
          generalize m_ea (yu Y 0 0 0) s (Y 23 s + n) = Z at hv2 h125
          obtain ⟨hR2, -, -, -, -, -, -, -, -, h10⟩ := hv2
          obtain ⟨b1, b2⟩ : 0 ≤ Z 22 s ∧ Z 22 s ≤ 1 := hR2 22 s
          obtain ⟨b3, b4⟩ : 0 ≤ Z 5 s ∧ Z 5 s ≤ 60 := hR2 5 s
          obtain ⟨b5, b6⟩ : 0 ≤ Z 21 s ∧ Z 21 s ≤ 100000000 := hR2 21 s
          obtain ⟨d7, d8⟩ := tmod_b (v := Z 21 s - 1) (m := 16) (by omega)
          unfold m_last
          by_cases d5 : Z 22 s = 0
          · rw [if_pos d5]
            simp (disch := omega) only [g127_0, g127_1, g127_2, g127_3, g127_4, g127_7, g127_7b, g127_10, g127_11, g127_12, g127_13, g127_14, g127_17, g127_20, g127_20b, g127_23, g127_24, g127_25, g127_28, g127_29, g127_30, g127_33, g127_34, g127_35, g127_36, g127_37, g127_40, g127_41, g127_42, g127_42b, g127_45, g127_46, g127_47, g127_48, g127_49, g127_50, g127_51, g127_52, g127_55, g127_56, g127_59, g127_60, g127_61, g127_61b, g127_64, g127_65, g127_68, g127_70, g127_71, g127_72, g127_73, g127_76, g127_77, g127_78, g127_79, g127_80, g127_82, g127_83, g127_84, g127_85, g127_86, g127_89, g127_90, g127_93, g127_94, g127_95, g127_96, g127_97, g127_100, g127_101, g127_102, g127_103, g127_105, g127_106, g127_109, g127_110, g127_112, g127_113, g127_115, g127_116, g127_117, mg_23, ma_23, ms_23, mg_22, ma_22, ms_22, mg_25, ma_25, ms_25, mg_21, ma_21, ms_21, mg_9, ma_9, ms_9, mg_5, ma_5, ms_5, Option.some.injEq, exists_eq_left', zkl_i, zkl_l, zkl_n, zkl_r, zkl_0, zc_v, zc_n, zc_t, zd_v, zd_n, mj_tg, true_and, ↓reduceIte, not_true_eq_false, not_false_eq_true, ↓if_pos, ↓if_neg, Int.reduceLE, Int.reduceLT, Int.reduceEq, Int.reduceAdd, s100_y hR k1 k2 (by omega) (by omega) d1 d2, s97, bI_t d3, yu_f, h125]
          · rw [if_neg d5]
            have hst := h10 d5
            have e16 := tmod_nn (v := Z 21 s - 1) (m := 16) (by omega)
            obtain ⟨d9, d10⟩ := mod_b (v := Z 21 s - 1) (m := 16) (by omega)
            simp (disch := omega) only [g127_0, g127_1, g127_2, g127_3, g127_4, g127_7, g127_7b, g127_10, g127_11, g127_12, g127_13, g127_14, g127_17, g127_20, g127_20b, g127_23, g127_24, g127_25, g127_28, g127_29, g127_30, g127_33, g127_34, g127_35, g127_36, g127_37, g127_40, g127_41, g127_42, g127_42b, g127_45, g127_46, g127_47, g127_48, g127_49, g127_50, g127_51, g127_52, g127_55, g127_56, g127_59, g127_60, g127_61, g127_61b, g127_64, g127_65, g127_68, g127_70, g127_71, g127_72, g127_73, g127_76, g127_77, g127_78, g127_79, g127_80, g127_82, g127_83, g127_84, g127_85, g127_86, g127_89, g127_90, g127_93, g127_94, g127_95, g127_96, g127_97, g127_100, g127_101, g127_102, g127_103, g127_105, g127_106, g127_109, g127_110, g127_112, g127_113, g127_115, g127_116, g127_117, mg_23, ma_23, ms_23, mg_22, ma_22, ms_22, mg_25, ma_25, ms_25, mg_21, ma_21, ms_21, mg_9, ma_9, ms_9, mg_5, ma_5, ms_5, Option.some.injEq, exists_eq_left', zkl_i, zkl_l, zkl_n, zkl_r, zkl_0, zc_v, zc_n, zc_t, zd_v, zd_n, mj_tg, true_and, ↓reduceIte, not_true_eq_false, not_false_eq_true, ↓if_pos, ↓if_neg, Int.reduceLE, Int.reduceLT, Int.reduceEq, Int.reduceAdd, s100_y hR k1 k2 (by omega) (by omega) d1 d2, s97, bI_t d3, yu_f, h125, e16]
        · rw [if_neg d4]
          simp (disch := omega) only [g127_0, g127_1, g127_2, g127_3, g127_4, g127_7, g127_7b, g127_10, g127_11, g127_12, g127_13, g127_14, g127_17, g127_20, g127_20b, g127_23, g127_24, g127_25, g127_28, g127_29, g127_30, g127_33, g127_34, g127_35, g127_36, g127_37, g127_40, g127_41, g127_42, g127_42b, g127_45, g127_46, g127_47, g127_48, g127_49, g127_50, g127_51, g127_52, g127_55, g127_56, g127_59, g127_60, g127_61, g127_61b, g127_64, g127_65, g127_68, g127_70, g127_71, g127_72, g127_73, g127_76, g127_77, g127_78, g127_79, g127_80, g127_82, g127_83, g127_84, g127_85, g127_86, g127_89, g127_90, g127_93, g127_94, g127_95, g127_96, g127_97, g127_100, g127_101, g127_102, g127_103, g127_105, g127_106, g127_109, g127_110, g127_112, g127_113, g127_115, g127_116, g127_117, mg_23, ma_23, ms_23, mg_22, ma_22, ms_22, mg_25, ma_25, ms_25, mg_21, ma_21, ms_21, mg_9, ma_9, ms_9, mg_5, ma_5, ms_5, Option.some.injEq, exists_eq_left', zkl_i, zkl_l, zkl_n, zkl_r, zkl_0, zc_v, zc_n, zc_t, zd_v, zd_n, mj_tg, true_and, ↓reduceIte, not_true_eq_false, not_false_eq_true, ↓if_pos, ↓if_neg, Int.reduceLE, Int.reduceLT, Int.reduceEq, Int.reduceAdd, s100_y hR k1 k2 (by omega) (by omega) d1 d2, s97, bI_t d3, yu_f]
      · rw [if_neg d3]
        simp (disch := omega) only [g127_0, g127_1, g127_2, g127_3, g127_4, g127_7, g127_7b, g127_10, g127_11, g127_12, g127_13, g127_14, g127_17, g127_20, g127_20b, g127_23, g127_24, g127_25, g127_28, g127_29, g127_30, g127_33, g127_34, g127_35, g127_36, g127_37, g127_40, g127_41, g127_42, g127_42b, g127_45, g127_46, g127_47, g127_48, g127_49, g127_50, g127_51, g127_52, g127_55, g127_56, g127_59, g127_60, g127_61, g127_61b, g127_64, g127_65, g127_68, g127_70, g127_71, g127_72, g127_73, g127_76, g127_77, g127_78, g127_79, g127_80, g127_82, g127_83, g127_84, g127_85, g127_86, g127_89, g127_90, g127_93, g127_94, g127_95, g127_96, g127_97, g127_100, g127_101, g127_102, g127_103, g127_105, g127_106, g127_109, g127_110, g127_112, g127_113, g127_115, g127_116, g127_117, mg_23, ma_23, ms_23, mg_22, ma_22, ms_22, mg_25, ma_25, ms_25, mg_21, ma_21, ms_21, mg_9, ma_9, ms_9, mg_5, ma_5, ms_5, Option.some.injEq, exists_eq_left', zkl_i, zkl_l, zkl_n, zkl_r, zkl_0, zc_v, zc_n, zc_t, zd_v, zd_n, mj_tg, true_and, ↓reduceIte, not_true_eq_false, not_false_eq_true, ↓if_pos, ↓if_neg, Int.reduceLE, Int.reduceLT, Int.reduceEq, Int.reduceAdd, s100_y hR k1 k2 (by omega) (by omega) d1 d2, s97, bI_f d3, s96, yu_yu]
    · rw [if_neg d2]
      simp (disch := omega) only [g127_0, g127_1, g127_2, g127_3, g127_4, g127_7, g127_7b, g127_10, g127_11, g127_12, g127_13, g127_14, g127_17, g127_20, g127_20b, g127_23, g127_24, g127_25, g127_28, g127_29, g127_30, g127_33, g127_34, g127_35, g127_36, g127_37, g127_40, g127_41, g127_42, g127_42b, g127_45, g127_46, g127_47, g127_48, g127_49, g127_50, g127_51, g127_52, g127_55, g127_56, g127_59, g127_60, g127_61, g127_61b, g127_64, g127_65, g127_68, g127_70, g127_71, g127_72, g127_73, g127_76, g127_77, g127_78, g127_79, g127_80, g127_82, g127_83, g127_84, g127_85, g127_86, g127_89, g127_90, g127_93, g127_94, g127_95, g127_96, g127_97, g127_100, g127_101, g127_102, g127_103, g127_105, g127_106, g127_109, g127_110, g127_112, g127_113, g127_115, g127_116, g127_117, mg_23, ma_23, ms_23, mg_22, ma_22, ms_22, mg_25, ma_25, ms_25, mg_21, ma_21, ms_21, mg_9, ma_9, ms_9, mg_5, ma_5, ms_5, Option.some.injEq, exists_eq_left', zkl_i, zkl_l, zkl_n, zkl_r, zkl_0, zc_v, zc_n, zc_t, zd_v, zd_n, mj_tg, true_and, ↓reduceIte, not_true_eq_false, not_false_eq_true, ↓if_pos, ↓if_neg, Int.reduceLE, Int.reduceLT, Int.reduceEq, Int.reduceAdd, s100_k hR k1 k2 (by omega) (by omega) d1 d2, m_re_0]
  · rw [if_neg d1]
    simp (disch := omega) only [g127_0, g127_1, g127_2, g127_3, g127_4, g127_7, g127_7b, g127_10, g127_11, g127_12, g127_13, g127_14, g127_17, g127_20, g127_20b, g127_23, g127_24, g127_25, g127_28, g127_29, g127_30, g127_33, g127_34, g127_35, g127_36, g127_37, g127_40, g127_41, g127_42, g127_42b, g127_45, g127_46, g127_47, g127_48, g127_49, g127_50, g127_51, g127_52, g127_55, g127_56, g127_59, g127_60, g127_61, g127_61b, g127_64, g127_65, g127_68, g127_70, g127_71, g127_72, g127_73, g127_76, g127_77, g127_78, g127_79, g127_80, g127_82, g127_83, g127_84, g127_85, g127_86, g127_89, g127_90, g127_93, g127_94, g127_95, g127_96, g127_97, g127_100, g127_101, g127_102, g127_103, g127_105, g127_106, g127_109, g127_110, g127_112, g127_113, g127_115, g127_116, g127_117, mg_23, ma_23, ms_23, mg_22, ma_22, ms_22, mg_25, ma_25, ms_25, mg_21, ma_21, ms_21, mg_9, ma_9, ms_9, mg_5, ma_5, ms_5, Option.some.injEq, exists_eq_left', zkl_i, zkl_l, zkl_n, zkl_r, zkl_0, zc_v, zc_n, zc_t, zd_v, zd_n, mj_tg, true_and, ↓reduceIte, not_true_eq_false, not_false_eq_true, ↓if_pos, ↓if_neg, Int.reduceLE, Int.reduceLT, Int.reduceEq, Int.reduceAdd, s100_n hR k1 k2 d1, m_re_0]
end
