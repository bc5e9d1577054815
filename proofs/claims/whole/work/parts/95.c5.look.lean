/-! THE MODEL: ends, and going through all states: the code -/
def m_lt0 (Y : zY) (k : Int) : zY := m_ke (m_ov (m_ov (yu (yu (yu (yu Y 32 0 k) 33 0 0) 34 0 0) 35 0 0) 39 0 2003 (fun _ => -1)) 38 0 28 (fun _ => 0))
/-- from s on -/
def m_lt1 (k : Int) : Nat → Int → zY → zY
  | 0, _, Y => Y
  | n + 1, s, Y => if s < Y 33 0 ∧ Y 33 0 ≤ 2000 then m_lt1 k n (s + 1) (m_gf Y k s) else Y
def m_lt (Y : zY) (k : Int) : zY := if Y 32 0 = k then Y else m_lt1 k 2000 0 (m_lt0 Y k)
/-- what the loop over the states needs: all kept states are such -/
def PL (Y : zY) (k : Int) : Prop := RG Y ∧ CI Y ∧ (0 ≤ k ∧ k ≤ 60) ∧ (0 < Y 13 (Y 5 k) ∧ 0 < Y 13 (Y 6 k)) ∧ (0 < Y 8 (Y 5 (Y 5 k)) ∧ 0 < Y 8 (Y 5 (Y 6 k))) ∧ ∀ s, 0 ≤ s → s < m_sn Y → NV (m_op Y s) k
section
variable {o : Nat} {Y : zY} {h : zH} {t : Nat × Nat} {Q : zU → zS → Prop}
theorem s142_l {s u : Int} (hR : RG Y) (s1 : 0 ≤ s) (s2 : s ≤ 2000) (u1 : 0 ≤ u) (u2 : u ≤ 2000) : ∀ (m : Nat) (k : Int), 2 ≤ k → k + m = 18 → (z_go zP 142 2 [some (.ref o), some (zi s), some (zi u), some (zi k)] [] (mj o Y h, t) Q ↔ Q (.inl (some (zi (m_bf (fun e => Y 36 (28 * s + e)) (fun e => Y 36 (28 * u + e)) m k)))) (mj o Y h, t)) := by
  intro m
  induction m with
  | zero =>
    intro k h1 h2
    simp (disch := omega) only [g142_0, g142_1, g142_2, g142_3, g142_5, g142_9, g142_12, g142_14, g142_15, g142_16, g142_17, g142_18, g142_19, g142_20, g142_23, g142_25, g142_26, g142_27, g142_28, g142_29, g142_30, g142_34, g142_35, g142_38, g142_40, g142_41, g142_42, g142_43, g142_44, g142_45, g142_46, g142_49, g142_51, g142_52, g142_53, g142_54, g142_55, g142_56, g142_60, g142_61, g142_64, g142_65_0, g142_65_1, g142_65b, g142_66, g142_69, g142_72, g142_73_0, g142_73_1, g142_73b, mg_36, ma_36, ms_36, Option.some.injEq, exists_eq_left', zkl_i, zkl_l, zkl_n, zkl_r, zkl_0, zc_v, zc_n, zc_t, zd_v, zd_n, mj_tg, true_and, ↓reduceIte, not_true_eq_false, not_false_eq_true, ↓if_pos, ↓if_neg, Int.reduceLE, Int.reduceLT, Int.reduceEq, Int.reduceAdd, m_bf]
  | succ m ih =>
    intro k h1 h2
    obtain ⟨a1, a2⟩ : 0 ≤ Y 36 (28 * s + k) ∧ Y 36 (28 * s + k) ≤ 4294967295 := hR 36 _
    obtain ⟨a3, a4⟩ : 0 ≤ Y 36 (28 * u + k) ∧ Y 36 (28 * u + k) ≤ 4294967295 := hR 36 _
    unfold m_bf
    by_cases c : Y 36 (28 * s + k) = Y 36 (28 * u + k)
    · rw [if_pos c, ← ih (k + 1) (by omega) (by omega)]
      refine g142_2.trans ?_
      simp (disch := omega) only [g142_0, g142_1, g142_3, g142_5, g142_8, g142_9, g142_12, g142_14, g142_15, g142_16, g142_17, g142_18, g142_19, g142_20, g142_23, g142_25, g142_26, g142_27, g142_28, g142_29, g142_30, g142_34, g142_35, g142_38, g142_40, g142_41, g142_42, g142_43, g142_44, g142_45, g142_46, g142_49, g142_51, g142_52, g142_53, g142_54, g142_55, g142_56, g142_60, g142_61, g142_64, g142_65_0, g142_65_1, g142_65b, g142_66, g142_69, g142_72, g142_73_0, g142_73_1, g142_73b, mg_36, ma_36, ms_36, Option.some.injEq, exists_eq_left', zkl_i, zkl_l, zkl_n, zkl_r, zkl_0, zc_v, zc_n, zc_t, zd_v, zd_n, mj_tg, true_and, ↓reduceIte, not_true_eq_false, not_false_eq_true, ↓if_pos, ↓if_neg, Int.reduceLE, Int.reduceLT, Int.reduceEq, Int.reduceAdd, c]
    · rw [if_neg c]
      by_cases d : Y 36 (28 * s + k) < Y 36 (28 * u + k)
      · rw [bI_t d]
        simp (disch := omega) only [g142_0, g142_1, g142_2, g142_3, g142_5, g142_8, g142_9, g142_12, g142_14, g142_15, g142_16, g142_17, g142_18, g142_19, g142_20, g142_23, g142_25, g142_26, g142_27, g142_28, g142_29, g142_30, g142_34, g142_35, g142_38, g142_40, g142_41, g142_42, g142_43, g142_44, g142_45, g142_46, g142_49, g142_51, g142_52, g142_53, g142_54, g142_55, g142_56, g142_60, g142_61, g142_64, g142_65_0, g142_65_1, g142_65b, g142_66, g142_69, g142_72, g142_73_0, g142_73_1, g142_73b, mg_36, ma_36, ms_36, Option.some.injEq, exists_eq_left', zkl_i, zkl_l, zkl_n, zkl_r, zkl_0, zc_v, zc_n, zc_t, zd_v, zd_n, mj_tg, true_and, ↓reduceIte, not_true_eq_false, not_false_eq_true, ↓if_pos, ↓if_neg, Int.reduceLE, Int.reduceLT, Int.reduceEq, Int.reduceAdd]
      · rw [bI_f d]
        simp (disch := omega) only [g142_0, g142_1, g142_2, g142_3, g142_5, g142_8, g142_9, g142_12, g142_14, g142_15, g142_16, g142_17, g142_18, g142_19, g142_20, g142_23, g142_25, g142_26, g142_27, g142_28, g142_29, g142_30, g142_34, g142_35, g142_38, g142_40, g142_41, g142_42, g142_43, g142_44, g142_45, g142_46, g142_49, g142_51, g142_52, g142_53, g142_54, g142_55, g142_56, g142_60, g142_61, g142_64, g142_65_0, g142_65_1, g142_65b, g142_66, g142_69, g142_72, g142_73_0, g142_73_1, g142_73b, mg_36, ma_36, ms_36, Option.some.injEq, exists_eq_left', zkl_i, zkl_l, zkl_n, zkl_r, zkl_0, zc_v, zc_n, zc_t, zd_v, zd_n, mj_tg, true_and, ↓reduceIte, not_true_eq_false, not_false_eq_true, ↓if_pos, ↓if_neg, Int.reduceLE, Int.reduceLT, Int.reduceEq, Int.reduceAdd]
theorem s142 {s u : Int} (hR : RG Y) (s1 : 0 ≤ s) (s2 : s ≤ 2000) (u1 : 0 ≤ u) (u2 : u ≤ 2000) : z_go zP 142 0 [some (.ref o), some (zi s), some (zi u), none] [] (mj o Y h, t) Q ↔ Q (.inl (some (zi (m_bs Y s u)))) (mj o Y h, t) := by
  refine Iff.trans ?_ (s142_l hR s1 s2 u1 u2 16 2 (by omega) (by omega))
  simp (disch := omega) only [g142_0, g142_1, g142_3, g142_5, g142_8, g142_9, g142_12, g142_14, g142_15, g142_16, g142_17, g142_18, g142_19, g142_20, g142_23, g142_25, g142_26, g142_27, g142_28, g142_29, g142_30, g142_34, g142_35, g142_38, g142_40, g142_41, g142_42, g142_43, g142_44, g142_45, g142_46, g142_49, g142_51, g142_52, g142_53, g142_54, g142_55, g142_56, g142_60, g142_61, g142_64, g142_65_0, g142_65_1, g142_65b, g142_66, g142_69, g142_72, g142_73_0, g142_73_1, g142_73b, Option.some.injEq, exists_eq_left', zkl_i, zkl_l, zkl_n, zkl_r, zkl_0, zc_v, zc_n, zc_t, zd_v, zd_n, mj_tg, true_and, ↓reduceIte, not_true_eq_false, not_false_eq_true, ↓if_pos, ↓if_neg, Int.reduceLE, Int.reduceLT, Int.reduceEq, Int.reduceAdd]
theorem s143_l {s : Int} (s1 : 0 ≤ s) (s2 : s < 2000) : ∀ (i : Nat) (Y : zY), RG Y → i ≤ 2000 → (Y 34 0 < 2000) → (z_go zP 143 5 [some (.ref o), some (zi s), some (zi i)] [] (mj o Y h, t) Q ↔ Q (.inl none) (mj o (yu (m_ai s i Y) 34 0 (Y 34 0 + 1)) h, t)) := by
  intro i
  induction i with
  | zero =>
    intro Y hR hi hn
    have e : yu Y 37 0 s 34 0 = Y 34 0 := yu_f (by decide)
    simp (disch := omega) only [g143_0, g143_1, g143_4, g143_5, g143_6, g143_10, g143_11, g143_12, g143_15, g143_16, g143_17, g143_18, g143_19, g143_22, g143_22b, g143_25, g143_26, g143_29, g143_30, g143_31, g143_34, g143_35, g143_36, g143_37, g143_38, g143_39, g143_42, g143_45, g143_46, g143_49, g143_50, g143_51, g143_52, g143_53, g143_53i, g143_54, g143_57, g143_58, g143_59, g143_62, mg_34, mp_34, mg_37, ma_37, ms_37, Option.some.injEq, exists_eq_left', zkl_i, zkl_l, zkl_n, zkl_r, zkl_0, zc_v, zc_n, zc_t, zd_v, zd_n, mj_tg, true_and, ↓reduceIte, not_true_eq_false, not_false_eq_true, ↓if_pos, ↓if_neg, Int.reduceLE, Int.reduceLT, Int.reduceEq, Int.reduceAdd, m_ai, Int.natCast_zero, Int.ofNat_eq_natCast, e]
  | succ i ih =>
    intro Y hR hi hn
    obtain ⟨a1, a2⟩ : 0 ≤ Y 37 (i : Nat) ∧ Y 37 (i : Nat) ≤ 2000 := hR 37 _
    have e3 : (((i + 1 : Nat) : Int)) = (i : Int) + 1 := by omega
    have e4 : (i : Int) + 1 - 1 = i := by omega
    have e5 : (i : Int) + 1 + -1 = i := by omega
    rw [e3]
    unfold m_ai
    rcases m_bf_01 (fun e => Y 36 (28 * s + e)) (fun e => Y 36 (28 * Y 37 (i : Nat) + e)) 16 2 with hb | hb
    · have hb' : m_bs Y s (Y 37 (i : Nat)) = 0 := hb
      rw [if_pos hb']
      have e : yu Y 37 ((i : Int) + 1) s 34 0 = Y 34 0 := yu_f (by decide)
      simp (disch := omega) only [g143_0, g143_1, g143_4, g143_5, g143_6, g143_9, g143_10, g143_11, g143_12, g143_15, g143_16, g143_17, g143_18, g143_19, g143_22, g143_22b, g143_25, g143_26, g143_29, g143_30, g143_31, g143_34, g143_35, g143_36, g143_37, g143_38, g143_39, g143_42, g143_45, g143_46, g143_49, g143_50, g143_51, g143_52, g143_53, g143_53i, g143_54, g143_57, g143_58, g143_59, g143_62, mg_34, mp_34, mg_37, ma_37, ms_37, Option.some.injEq, exists_eq_left', zkl_i, zkl_l, zkl_n, zkl_r, zkl_0, zc_v, zc_n, zc_t, zd_v, zd_n, mj_tg, true_and, ↓reduceIte, not_true_eq_false, not_false_eq_true, ↓if_pos, ↓if_neg, Int.reduceLE, Int.reduceLT, Int.reduceEq, Int.reduceAdd, e4, s142 hR s1 (by omega) a1 a2, hb', e]
    · have hb' : m_bs Y s (Y 37 (i : Nat)) = 1 := hb
      rw [if_neg (by omega)]
      have h5 := ih (yu Y 37 ((i : Int) + 1) (Y 37 (i : Nat))) (RG_u hR a1 a2) (by omega) (by rw [yu_f (by decide)]; exact hn)
      rw [yu_f (by decide)] at h5
      rw [← h5]
      refine g143_5.trans ?_
      simp (disch := omega) only [g143_0, g143_1, g143_4, g143_6, g143_9, g143_10, g143_11, g143_12, g143_15, g143_16, g143_17, g143_18, g143_19, g143_22, g143_22b, g143_25, g143_26, g143_29, g143_30, g143_31, g143_34, g143_35, g143_36, g143_37, g143_38, g143_39, g143_42, g143_45, g143_46, g143_49, g143_50, g143_51, g143_52, g143_53, g143_53i, g143_54, g143_57, g143_58, g143_59, g143_62, mg_34, mp_34, mg_37, ma_37, ms_37, Option.some.injEq, exists_eq_left', zkl_i, zkl_l, zkl_n, zkl_r, zkl_0, zc_v, zc_n, zc_t, zd_v, zd_n, mj_tg, true_and, ↓reduceIte, not_true_eq_false, not_false_eq_true, ↓if_pos, ↓if_neg, Int.reduceLE, Int.reduceLT, Int.reduceEq, Int.reduceAdd, e4, e5, s142 hR s1 (by omega) a1 a2, hb']
theorem s143 {s : Int} (hR : RG Y) (s1 : 0 ≤ s) (s2 : s < 2000) (hn : Y 34 0 < 2000) : z_go zP 143 0 [some (.ref o), some (zi s), none] [] (mj o Y h, t) Q ↔ Q (.inl none) (mj o (m_ae Y s) h, t) := by
  obtain ⟨a1, a2⟩ : 0 ≤ Y 34 0 ∧ Y 34 0 ≤ 2000 := hR 34 0
  refine Iff.trans ?_ (s143_l s1 s2 (Y 34 0).toNat Y hR (by omega) hn)
  have e : (((Y 34 0).toNat : Nat) : Int) = Y 34 0 := by omega
  simp (disch := omega) only [g143_0, g143_1, g143_4, g143_6, g143_9, g143_10, g143_11, g143_12, g143_15, g143_16, g143_17, g143_18, g143_19, g143_22, g143_22b, g143_25, g143_26, g143_29, g143_30, g143_31, g143_34, g143_35, g143_36, g143_37, g143_38, g143_39, g143_42, g143_45, g143_46, g143_49, g143_50, g143_51, g143_52, g143_53, g143_53i, g143_54, g143_57, g143_58, g143_59, g143_62, mg_34, mp_34, mg_37, ma_37, ms_37, Option.some.injEq, exists_eq_left', zkl_i, zkl_l, zkl_n, zkl_r, zkl_0, zc_v, zc_n, zc_t, zd_v, zd_n, mj_tg, true_and, ↓reduceIte, not_true_eq_false, not_false_eq_true, ↓if_pos, ↓if_neg, Int.reduceLE, Int.reduceLT, Int.reduceEq, Int.reduceAdd, e]
theorem s144_1 {k s w c : Int} {l5 : Option Value} (hP : PV Y k s) (hn : Y 33 0 ≤ 2003) (w1 : 0 ≤ w) (w2 : w ≤ 3) : z_go zP 144 5 [some (.ref o), some (zi k), some (zi s), some (zi c), some (zi w), l5] [] (mj o Y h, t) Q ↔ z_go zP 144 5 [some (.ref o), some (zi k), some (zi s), some (zi (c + m_c1 Y k s w)), some (zi (w + 1)), some (zi (m_c1 Y k s w))] [] (mj o (m_g1 Y k s w) h, t) Q := by
  obtain ⟨hR, hC, ⟨k1, k2⟩, ⟨s1, s2⟩, ⟨x1, x2⟩, ⟨x3, x4⟩, hV⟩ := hP
  have O := fun (f : Nat) (e : Int) (hh : ¬ f = 38) => m_op_f (Y := Y) (s := s) (e := e) hh
  have hRo : RG (m_op Y s) := RG_op hR
  have hCo : CI (m_op Y s) := CI_op hC
  have y1 : 0 < m_op Y s 13 (m_op Y s 5 k) := by rw [O 5 _ (by decide), O 13 _ (by decide)]; exact x1
  have y2 : 0 < m_op Y s 13 (m_op Y s 6 k) := by rw [O 6 _ (by decide), O 13 _ (by decide)]; exact x2
  have y3 : 0 < m_op Y s 8 (m_op Y s 5 (m_op Y s 5 k)) := by rw [O 5 k (by decide), O 5 _ (by decide), O 8 _ (by decide)]; exact x3
  have y4 : 0 < m_op Y s 8 (m_op Y s 5 (m_op Y s 6 k)) := by rw [O 6 k (by decide), O 5 _ (by decide), O 8 _ (by decide)]; exact x4
  have n33 : m_op Y s 33 0 = Y 33 0 := O 33 _ (by decide)
  unfold m_g1 m_c1
  have h133 := fun (Q : zU → zS → Prop) => s133 (o := o) (Y := Y) (h := h) (t := t) (Q := Q) (s := s) s1 (by omega)
  generalize m_op Y s = Z at hRo hCo y1 y2 y3 y4 n33 hV h133
  obtain ⟨⟨v1, v2⟩, ⟨v3, v4⟩, ⟨v5, v6⟩, v7, v8⟩ := hV
  refine g144_5.trans ?_
  by_cases cw : w < 2
  · have hpa : m_pa Z k w = if w = 0 then Z 5 k else Z 6 k := rfl
    have z1 : 0 < Z 13 (m_pa Z k w) := by rw [hpa]; split <;> assumption
    have z2 : 0 < Z 8 (Z 5 (m_pa Z k w)) := by rw [hpa]; split <;> assumption
    have z3 : Z 38 w ≤ Z 13 (m_pa Z k w) := by
      rw [hpa]
      split
      next hh => subst hh; exact v1
      next hh => obtain rfl : w = 1 := by omega
                 exact v2
    have z4 : Z 38 (18 + 5 * w) ≤ 2 := by
      obtain rfl | rfl : w = 0 ∨ w = 1 := by omega
      · exact v3
      · exact v4
    have h139 := fun (Q : zU → zS → Prop) => s139 (o := o) (Y := Z) (h := h) (t := t) (Q := Q) hRo k1 k2 w1 (by omega) z1 z2 z3 z4
    have hcm : m_cm Z k w ↔ m_dc Z k w := by unfold m_cm; rw [if_pos cw]
    have hmv : m_mv Z k w = m_dd Z k w := by unfold m_mv; rw [if_pos cw]
    by_cases cc : m_dc Z k w
    · have cm := hcm.mpr cc
      rw [bI_t cm, if_pos cm, hmv]
      have r1 : RG (m_dd Z k w) := by rw [← hmv]; exact RG_mv hRo w1 w2 cm ⟨y1, y2⟩ ⟨⟨v1, v2⟩, ⟨v3, v4⟩, ⟨v5, v6⟩, v7, v8⟩
      have V := fun (f : Nat) (e : Int) (hh : ¬ f = 38) => show m_dd Z k w f e = Z f e by rw [← hmv]; exact m_mv_f hh
      have c1 : CI (m_dd Z k w) := CI_c (V 33 _ (by decide)) (fun e => V 36 e (by decide)) (fun e => V 39 e (by decide)) (fun e => V 40 e (by decide)) hCo
      have h136 := fun (Q : zU → zS → Prop) => s136 (o := o) (h := h) (t := t) (Q := Q) r1 c1 (by rw [V 33 _ (by decide)]; omega)
      simp (disch := omega) only [g144_0, g144_1, g144_2, g144_3, g144_7, g144_8, g144_11, g144_12, g144_13, g144_16, g144_18, g144_19, g144_22, g144_23, g144_24, g144_26, g144_29, g144_32, g144_33, g144_35, g144_36, g144_37, g144_40, g144_42, g144_44, g144_44b, g144_47, g144_50, g144_51, g144_54, g144_57, g144_60, g144_61, g144_62, g144_65, g144_66, g144_67, g144_70, g144_70b, g144_73, g144_74, g144_75, g144_78, g144_81, g144_82, g144_82b, g144_85, g144_86, g144_86i, g144_87, g144_90, g144_91, g144_92, g144_95, mg_35, mp_35, Option.some.injEq, exists_eq_left', zkl_i, zkl_l, zkl_n, zkl_r, zkl_0, zc_v, zc_n, zc_t, zd_v, zd_n, mj_tg, true_and, ↓reduceIte, not_true_eq_false, not_false_eq_true, ↓if_pos, ↓if_neg, Int.reduceLE, Int.reduceLT, Int.reduceEq, Int.reduceAdd, h133, h139, bI_t cc, if_pos cc, h136]
    · have cm : ¬ m_cm Z k w := fun hh => cc (hcm.mp hh)
      rw [bI_f cm, if_neg cm]
      simp (disch := omega) only [g144_0, g144_1, g144_2, g144_3, g144_7, g144_8, g144_11, g144_12, g144_13, g144_16, g144_18, g144_19, g144_22, g144_23, g144_24, g144_26, g144_29, g144_32, g144_33, g144_35, g144_36, g144_37, g144_40, g144_42, g144_44, g144_44b, g144_47, g144_50, g144_51, g144_54, g144_57, g144_60, g144_61, g144_62, g144_65, g144_66, g144_67, g144_70, g144_70b, g144_73, g144_74, g144_75, g144_78, g144_81, g144_82, g144_82b, g144_85, g144_86, g144_86i, g144_87, g144_90, g144_91, g144_92, g144_95, mg_35, mp_35, Option.some.injEq, exists_eq_left', zkl_i, zkl_l, zkl_n, zkl_r, zkl_0, zc_v, zc_n, zc_t, zd_v, zd_n, mj_tg, true_and, ↓reduceIte, not_true_eq_false, not_false_eq_true, ↓if_pos, ↓if_neg, Int.reduceLE, Int.reduceLT, Int.reduceEq, Int.reduceAdd, h133, h139, bI_f cc, if_neg cc, Int.add_zero]
  · have z5 : Z 38 (18 + 5 * (w - 2) + 1) ≤ 7 := by
      obtain rfl | rfl : w = 2 ∨ w = 3 := by omega
      · exact v5
      · exact v7
    have h140 := fun (Q : zU → zS → Prop) => s140 (o := o) (Y := Z) (h := h) (t := t) (Q := Q) (w := w - 2) hRo (by omega) (by omega) z5
    have hcm : m_cm Z k w ↔ ¬ Z 38 (18 + 5 * (w - 2)) = 0 := by unfold m_cm; rw [if_neg cw]
    have hmv : m_mv Z k w = m_lg Z (w - 2) := by unfold m_mv; rw [if_neg cw]
    by_cases cc : ¬ Z 38 (18 + 5 * (w - 2)) = 0
    · have cm := hcm.mpr cc
      rw [bI_t cm, if_pos cm, hmv]
      have r1 : RG (m_lg Z (w - 2)) := by rw [← hmv]; exact RG_mv hRo w1 w2 cm ⟨y1, y2⟩ ⟨⟨v1, v2⟩, ⟨v3, v4⟩, ⟨v5, v6⟩, v7, v8⟩
      have V := fun (f : Nat) (e : Int) (hh : ¬ f = 38) => show m_lg Z (w - 2) f e = Z f e by rw [← hmv]; exact m_mv_f hh
      have c1 : CI (m_lg Z (w - 2)) := CI_c (V 33 _ (by decide)) (fun e => V 36 e (by decide)) (fun e => V 39 e (by decide)) (fun e => V 40 e (by decide)) hCo
      have h136 := fun (Q : zU → zS → Prop) => s136 (o := o) (h := h) (t := t) (Q := Q) r1 c1 (by rw [V 33 _ (by decide)]; omega)
      simp (disch := omega) only [g144_0, g144_1, g144_2, g144_3, g144_7, g144_8, g144_11, g144_12, g144_13, g144_16, g144_18, g144_19, g144_22, g144_23, g144_24, g144_26, g144_29, g144_32, g144_33, g144_35, g144_36, g144_37, g144_40, g144_42, g144_44, g144_44b, g144_47, g144_50, g144_51, g144_54, g144_57, g144_60, g144_61, g144_62, g144_65, g144_66, g144_67, g144_70, g144_70b, g144_73, g144_74, g144_75, g144_78, g144_81, g144_82, g144_82b, g144_85, g144_86, g144_86i, g144_87, g144_90, g144_91, g144_92, g144_95, mg_35, mp_35, Option.some.injEq, exists_eq_left', zkl_i, zkl_l, zkl_n, zkl_r, zkl_0, zc_v, zc_n, zc_t, zd_v, zd_n, mj_tg, true_and, ↓reduceIte, not_true_eq_false, not_false_eq_true, ↓if_pos, ↓if_neg, Int.reduceLE, Int.reduceLT, Int.reduceEq, Int.reduceAdd, h133, h140, bI_t cc, if_pos cc, h136]
    · have cm : ¬ m_cm Z k w := fun hh => cc (hcm.mp hh)
      rw [bI_f cm, if_neg cm]
      simp (disch := omega) only [g144_0, g144_1, g144_2, g144_3, g144_7, g144_8, g144_11, g144_12, g144_13, g144_16, g144_18, g144_19, g144_22, g144_23, g144_24, g144_26, g144_29, g144_32, g144_33, g144_35, g144_36, g144_37, g144_40, g144_42, g144_44, g144_44b, g144_47, g144_50, g144_51, g144_54, g144_57, g144_60, g144_61, g144_62, g144_65, g144_66, g144_67, g144_70, g144_70b, g144_73, g144_74, g144_75, g144_78, g144_81, g144_82, g144_82b, g144_85, g144_86, g144_86i, g144_87, g144_90, g144_91, g144_92, g144_95, mg_35, mp_35, Option.some.injEq, exists_eq_left', zkl_i, zkl_l, zkl_n, zkl_r, zkl_0, zc_v, zc_n, zc_t, zd_v, zd_n, mj_tg, true_and, ↓reduceIte, not_true_eq_false, not_false_eq_true, ↓if_pos, ↓if_neg, Int.reduceLE, Int.reduceLT, Int.reduceEq, Int.reduceAdd, h133, h140, bI_f cc, if_neg cc, Int.add_zero]
theorem g4_f {k s e : Int} {f : Nat} (h : ¬ f = 36) (h1 : ¬ f = 40) (h2 : ¬ f = 39) (h3 : ¬ f = 33) (h4 : ¬ f = 38) {Y : zY} : m_g4 Y k s f e = Y f e := by
  have g1 : ∀ (Y : zY) (w : Int), m_g1 Y k s w f e = Y f e := by
    intro Y w
    unfold m_g1
    split
    · rw [m_ke_f h h1 h2 h3, m_mv_f h4, m_op_f h4]
    · exact m_op_f h4
  unfold m_g4
  rw [g1, g1, g1, g1]
theorem PV_4 {k s : Int} (hP : PV Y k s) (hs : s < Y 33 0) (hn : Y 33 0 ≤ 2000) : PV (m_g4 Y k s) k s ∧ Y 33 0 ≤ m_g4 Y k s 33 0 ∧ m_g4 Y k s 33 0 ≤ Y 33 0 + 4 := by
  obtain ⟨p1, a1, a2⟩ := PV_1 hP (w := 0) (by omega) (by omega) hs (by omega)
  obtain ⟨p2, b1, b2⟩ := PV_1 p1 (w := 1) (by omega) (by omega) (by omega) (by omega)
  obtain ⟨p3, c1, c2⟩ := PV_1 p2 (w := 2) (by omega) (by omega) (by omega) (by omega)
  obtain ⟨p4, d1, d2⟩ := PV_1 p3 (w := 3) (by omega) (by omega) (by omega) (by omega)
  exact ⟨p4, by unfold m_g4; omega, by unfold m_g4; omega⟩
theorem s144 {k s : Int} (hP : PV Y k s) (hs : s < Y 33 0) (hn : Y 33 0 ≤ 2000) (he : Y 34 0 < 2000) (h35 : Y 35 0 ≤ 90000000) : z_go zP 144 0 [some (.ref o), some (zi k), some (zi s), none, none, none] [] (mj o Y h, t) Q ↔ Q (.inl none) (mj o (m_gf Y k s) h, t) := by
  obtain ⟨p1, a1, a2⟩ := PV_1 hP (w := 0) (by omega) (by omega) hs (by omega)
  obtain ⟨p2, b1, b2⟩ := PV_1 p1 (w := 1) (by omega) (by omega) (by omega) (by omega)
  obtain ⟨p3, c1, c2⟩ := PV_1 p2 (w := 2) (by omega) (by omega) (by omega) (by omega)
  obtain ⟨p4, d1, d2⟩ := PV_1 p3 (w := 3) (by omega) (by omega) (by omega) (by omega)
  have hA : z_go zP 144 0 [some (.ref o), some (zi k), some (zi s), none, none, none] [] (mj o Y h, t) Q ↔ z_go zP 144 5 [some (.ref o), some (zi k), some (zi s), some (zi 0), some (zi 0), none] [] (mj o Y h, t) Q := by
    simp (disch := omega) only [g144_0, g144_1, g144_2, g144_3, g144_7, g144_8, g144_11, g144_12, g144_13, g144_16, g144_18, g144_19, g144_22, g144_23, g144_24, g144_26, g144_29, g144_32, g144_33, g144_35, g144_36, g144_37, g144_40, g144_42, g144_44, g144_44b, g144_47, g144_50, g144_51, g144_54, g144_57, g144_60, g144_61, g144_62, g144_65, g144_66, g144_67, g144_70, g144_70b, g144_73, g144_74, g144_75, g144_78, g144_81, g144_82, g144_82b, g144_85, g144_86, g144_86i, g144_87, g144_90, g144_91, g144_92, g144_95, Option.some.injEq, exists_eq_left', zkl_i, zkl_l, zkl_n, zkl_r, zkl_0, zc_v, zc_n, zc_t, zd_v, zd_n, mj_tg, true_and, ↓reduceIte, not_true_eq_false, not_false_eq_true, ↓if_pos, ↓if_neg, Int.reduceLE, Int.reduceLT, Int.reduceEq, Int.reduceAdd]
  have q1 := s144_1 (o := o) (h := h) (t := t) (Q := Q) (c := 0) (w := 0) (l5 := none) hP (by omega) (by omega) (by omega)
  have q2 := fun (c : Int) (l5 : Option Value) => s144_1 (o := o) (h := h) (t := t) (Q := Q) (c := c) (w := 1) (l5 := l5) p1 (by omega) (by omega) (by omega)
  have q3 := fun (c : Int) (l5 : Option Value) => s144_1 (o := o) (h := h) (t := t) (Q := Q) (c := c) (w := 2) (l5 := l5) p2 (by omega) (by omega) (by omega)
  have q4 := fun (c : Int) (l5 : Option Value) => s144_1 (o := o) (h := h) (t := t) (Q := Q) (c := c) (w := 3) (l5 := l5) p3 (by omega) (by omega) (by omega)
  rw [hA, q1]
  show z_go zP 144 5 [_, _, _, _, some (zi 1), _] [] _ Q ↔ _
  rw [q2]
  show z_go zP 144 5 [_, _, _, _, some (zi 2), _] [] _ Q ↔ _
  rw [q3]
  show z_go zP 144 5 [_, _, _, _, some (zi 3), _] [] _ Q ↔ _
  rw [q4]
  unfold m_gf
  show z_go zP 144 5 [some (.ref o), some (zi k), some (zi s), some (zi (m_c4 Y k s)), some (zi (3 + 1)), some (zi (m_c1 (m_g1 (m_g1 (m_g1 Y k s 0) k s 1) k s 2) k s 3))] [] (mj o (m_g4 Y k s) h, t) Q ↔ _
  obtain ⟨hR, hC, ⟨k1, k2⟩, ⟨s1, s2⟩, -⟩ := p4
  have hR4 : RG (m_op (m_g4 Y k s) s) := RG_op hR
  have h133 := fun (Q : zU → zS → Prop) => s133 (o := o) (Y := m_g4 Y k s) (h := h) (t := t) (Q := Q) (s := s) s1 (by omega)
  have e34 : m_op (m_g4 Y k s) s 34 0 = Y 34 0 := by rw [m_op_f (by decide), g4_f (by decide) (by decide) (by decide) (by decide) (by decide)]
  have e35 : m_op (m_g4 Y k s) s 35 0 = Y 35 0 := by rw [m_op_f (by decide), g4_f (by decide) (by decide) (by decide) (by decide) (by decide)]
  have hc : 0 ≤ m_c4 Y k s ∧ m_c4 Y k s ≤ 4 := by
    unfold m_c4 m_c1
    have := bI_r (c := m_cm (m_op Y s) k 0)
    have := bI_r (c := m_cm (m_op (m_g1 Y k s 0) s) k 1)
    have := bI_r (c := m_cm (m_op (m_g1 (m_g1 Y k s 0) k s 1) s) k 2)
    have := bI_r (c := m_cm (m_op (m_g1 (m_g1 (m_g1 Y k s 0) k s 1) k s 2) s) k 3)
    omega
  generalize m_c1 (m_g1 (m_g1 (m_g1 Y k s 0) k s 1) k s 2) k s 3 = xx
  generalize m_c4 Y k s = C at hc
  generalize m_op (m_g4 Y k s) s = Z at hR4 h133 e34 e35
  have h0 : 0 ≤ Y 34 0 ∧ 0 ≤ Y 35 0 := ⟨(hP.1 34 0).1, (hP.1 35 0).1⟩
  by_cases d1 : m_ie Z k
  · rw [if_pos d1]
    simp (disch := omega) only [g144_0, g144_1, g144_2, g144_3, g144_5, g144_7, g144_8, g144_11, g144_12, g144_13, g144_16, g144_18, g144_19, g144_22, g144_23, g144_24, g144_26, g144_29, g144_32, g144_33, g144_35, g144_36, g144_37, g144_40, g144_42, g144_44, g144_44b, g144_47, g144_50, g144_51, g144_54, g144_57, g144_60, g144_61, g144_62, g144_65, g144_66, g144_67, g144_70, g144_70b, g144_73, g144_74, g144_75, g144_78, g144_81, g144_82, g144_82b, g144_85, g144_86, g144_86i, g144_87, g144_90, g144_91, g144_92, g144_95, mg_35, mp_35, Option.some.injEq, exists_eq_left', zkl_i, zkl_l, zkl_n, zkl_r, zkl_0, zc_v, zc_n, zc_t, zd_v, zd_n, mj_tg, true_and, ↓reduceIte, not_true_eq_false, not_false_eq_true, ↓if_pos, ↓if_neg, Int.reduceLE, Int.reduceLT, Int.reduceEq, Int.reduceAdd, h133, s141 hR4 k1 k2, bI_t d1, s143 hR4 s1 s2 (by omega)]
  · rw [if_neg d1]
    by_cases d2 : C = 0
    · rw [if_pos d2]
      simp (disch := omega) only [g144_0, g144_1, g144_2, g144_3, g144_5, g144_7, g144_8, g144_11, g144_12, g144_13, g144_16, g144_18, g144_19, g144_22, g144_23, g144_24, g144_26, g144_29, g144_32, g144_33, g144_35, g144_36, g144_37, g144_40, g144_42, g144_44, g144_44b, g144_47, g144_50, g144_51, g144_54, g144_57, g144_60, g144_61, g144_62, g144_65, g144_66, g144_67, g144_70, g144_70b, g144_73, g144_74, g144_75, g144_78, g144_81, g144_82, g144_82b, g144_85, g144_86, g144_86i, g144_87, g144_90, g144_91, g144_92, g144_95, mg_35, mp_35, Option.some.injEq, exists_eq_left', zkl_i, zkl_l, zkl_n, zkl_r, zkl_0, zc_v, zc_n, zc_t, zd_v, zd_n, mj_tg, true_and, ↓reduceIte, not_true_eq_false, not_false_eq_true, ↓if_pos, ↓if_neg, Int.reduceLE, Int.reduceLT, Int.reduceEq, Int.reduceAdd, h133, s141 hR4 k1 k2, bI_f d1]
    · rw [if_neg d2]
      simp (disch := omega) only [g144_0, g144_1, g144_2, g144_3, g144_5, g144_7, g144_8, g144_11, g144_12, g144_13, g144_16, g144_18, g144_19, g144_22, g144_23, g144_24, g144_26, g144_29, g144_32, g144_33, g144_35, g144_36, g144_37, g144_40, g144_42, g144_44, g144_44b, g144_47, g144_50, g144_51, g144_54, g144_57, g144_60, g144_61, g144_62, g144_65, g144_66, g144_67, g144_70, g144_70b, g144_73, g144_74, g144_75, g144_78, g144_81, g144_82, g144_82b, g144_85, g144_86, g144_86i, g144_87, g144_90, g144_91, g144_92, g144_95, mg_35, mp_35, Option.some.injEq, exists_eq_left', zkl_i, zkl_l, zkl_n, zkl_r, zkl_0, zc_v, zc_n, zc_t, zd_v, zd_n, mj_tg, true_and, ↓reduceIte, not_true_eq_false, not_false_eq_true, ↓if_pos, ↓if_neg, Int.reduceLE, Int.reduceLT, Int.reduceEq, Int.reduceAdd, h133, s141 hR4 k1 k2, bI_f d1]
end
