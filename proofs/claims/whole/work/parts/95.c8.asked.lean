/-! THE MODEL: explore and end -/
theorem lt0_e {Y : zY} {k : Int} : m_lt0 Y k = m_ke (m_l00 Y k) := rfl
theorem l00_kp {Y : zY} {k : Int} : ¬ m_kp (m_l00 Y k) := by
  rintro ⟨s, -, h, -⟩
  have : m_l00 Y k 33 0 = 0 := by unfold m_l00; rw [m_ov_f (by decide), m_ov_f (by decide), yu_f (by decide), yu_f (by decide), yu_s]
  omega
theorem lt0_33 {Y : zY} {k : Int} : m_lt0 Y k 33 0 = 1 := by
  have h33 : m_l00 Y k 33 0 = 0 := by unfold m_l00; rw [m_ov_f (by decide), m_ov_f (by decide), yu_f (by decide), yu_f (by decide), yu_s]
  rw [lt0_e]
  unfold m_ke
  rw [if_neg l00_kp, if_pos (by omega), yu_s, h33]
  rfl
theorem lt0_f {Y : zY} {k e : Int} {f : Nat} (h : ¬ f = 32) (h1 : ¬ f = 33) (h2 : ¬ f = 34) (h3 : ¬ f = 35) (h4 : ¬ f = 39) (h5 : ¬ f = 38) (h6 : ¬ f = 36) (h7 : ¬ f = 40) : m_lt0 Y k f e = Y f e := by
  rw [lt0_e, m_ke_f h6 h7 h4 h1, m_l00_f h h1 h2 h3 h4 h5]
theorem lt0_36 {Y : zY} {k e : Int} (e1 : 0 ≤ e) (e2 : e < 28) : m_lt0 Y k 36 e = 0 := by
  have h33 : m_l00 Y k 33 0 = 0 := by unfold m_l00; rw [m_ov_f (by decide), m_ov_f (by decide), yu_f (by decide), yu_f (by decide), yu_s]
  rw [lt0_e]
  unfold m_ke
  rw [if_neg l00_kp, if_pos (by omega), yu_f (by decide), yu_f (by decide), yu_f (by decide), h33, m_ov_i (by omega) (by omega)]
  show m_l00 Y k 38 (e - 28 * 0) = 0
  unfold m_l00
  rw [m_ov_i (by omega) (by omega)]
theorem PQ_0 {Y : zY} {k : Int} (hR : RG Y) (hK : PK Y k) : PQ (m_lt0 Y k) k ∧ m_lt0 Y k 34 0 = 0 ∧ m_lt0 Y k 35 0 = 0 := by
  obtain ⟨r1, r2, r3, r4, r5⟩ := l00_r hR hK.1.1 hK.1.2
  have f := fun (f : Nat) (e : Int) (h : f = 5 ∨ f = 6 ∨ f = 7 ∨ f = 8 ∨ f = 13) => lt0_f (Y := Y) (k := k) (e := e) (f := f) (by omega) (by omega) (by omega) (by omega) (by omega) (by omega) (by omega) (by omega)
  have hsn : m_sn (m_lt0 Y k) = 1 := by unfold m_sn; rw [lt0_33]; rfl
  refine ⟨⟨RG_ke r1 r2 (by show m_l00 Y k 33 0 ≤ 2003; rw [r3]; omega), CI_ke r1 r2, PK_c (fun e => f 5 e (by omega)) (fun e => f 6 e (by omega)) (fun e => f 7 e (by omega)) (fun e => f 8 e (by omega)) (fun e => f 13 e (by omega)) hK, fun s s1 s2 => ?_⟩, ?_, ?_⟩
  · rw [hsn] at s2
    obtain rfl : s = 0 := by omega
    have z : ∀ e, 0 ≤ e → e < 28 → m_op (m_lt0 Y k) 0 38 e = 0 := by
      intro e e1 e2
      unfold m_op
      rw [m_ov_i e1 e2]
      show m_lt0 Y k 36 (28 * 0 + e) = 0
      rw [show 28 * 0 + e = e by omega, lt0_36 e1 e2]
    have g := fun (f' : Nat) (e : Int) (h : f' = 5 ∨ f' = 6 ∨ f' = 7 ∨ f' = 8 ∨ f' = 13) => show m_op (m_lt0 Y k) 0 f' e = Y f' e by rw [m_op_f (by omega), f f' e h]
    obtain ⟨-, ⟨x1, x2⟩, ⟨x3, x4⟩, x5⟩ := hK
    have pp := p2_pos (Y 7 (Y 5 (Y 5 k)))
    unfold VQ
    rw [g 5 k (by omega), g 6 k (by omega), g 5 _ (by omega), g 7 _ (by omega), g 8 _ (by omega), g 13 _ (by omega), g 13 _ (by omega)]
    refine ⟨⟨by rw [z 0 (by omega) (by omega)]; omega, by rw [z 1 (by omega) (by omega)]; omega⟩, fun e e1 e2 => by rw [z e (by omega) (by omega)]; exact pp, fun e e1 e2 => z e (by omega) (by omega), fun w w1 w2 => ?_⟩
    rw [z (18 + 5 * w) (by omega) (by omega), z (18 + 5 * w + 1) (by omega) (by omega), z (18 + 5 * w + 2) (by omega) (by omega), z (18 + 5 * w + 3) (by omega) (by omega), z (18 + 5 * w + 4) (by omega) (by omega)]
    exact ⟨by omega, x3, x3, pp, pp, fun _ => ⟨rfl, rfl⟩, fun _ => ⟨rfl, rfl⟩⟩
  · rw [lt0_e, m_ke_f (by decide) (by decide) (by decide) (by decide)]; exact r4
  · rw [lt0_e, m_ke_f (by decide) (by decide) (by decide) (by decide)]; exact r5
theorem PQ_l {k : Int} : ∀ (n : Nat) (s : Int) (Y : zY), 0 ≤ s → s + n = 2000 → PQ Y k → Y 34 0 ≤ s → Y 35 0 ≤ s → PQ (m_lt1 k n s Y) k := by
  intro n
  induction n with
  | zero => intro s Y _ _ h _ _; exact h
  | succ n ih =>
    intro s Y s1 hs h h34 h35
    unfold m_lt1
    split
    next hc =>
      have hsn : s < m_sn Y := by unfold m_sn; split <;> omega
      obtain ⟨p, a1, a2, a3, a4⟩ := PQ_gf h s1 hsn hc.2 h34 h35
      exact ih (s + 1) _ (by omega) (by omega) p a3 a4
    next => exact h
theorem PQ_lt {Y : zY} {k : Int} (hR : RG Y) (hK : PK Y k) (hne : ¬ Y 32 0 = k) : PQ (m_lt Y k) k := by
  unfold m_lt
  rw [if_neg hne]
  obtain ⟨p, a, b⟩ := PQ_0 hR hK
  exact PQ_l 2000 0 _ (by omega) (by omega) p (by omega) (by omega)
def m_ex (Z : zY) (w : Int) : Int := if w = 0 then Z 33 0 else if w = 1 then Z 34 0 else Z 35 0
def a_explore (Y : zY) (k w : Int) : aO := if m_th Y k then (if Y 3 k = 6 then (if 0 ≤ w ∧ w ≤ 2 then (if m_lt (yu Y 0 0 0) k 33 0 ≤ 2000 then (m_ex (m_lt (yu Y 0 0 0) k) w, m_lt (yu Y 0 0 0) k) else (0, m_re (m_lt (yu Y 0 0 0) k) 7 1)) else (0, yu Y 0 0 2)) else (0, m_re Y 2 1)) else (0, m_re Y 1 1)
def a_end (Y : zY) (k i w : Int) : aO := if m_th Y k then (if Y 3 k = 6 then (if 0 ≤ w ∧ w ≤ 7 + Y 8 (Y 5 (Y 5 k)) then (if m_lt (yu Y 0 0 0) k 33 0 ≤ 2000 then (if 0 ≤ i ∧ i ≤ m_lt (yu Y 0 0 0) k 34 0 - 1 then (m_lt (yu Y 0 0 0) k 36 (28 * m_lt (yu Y 0 0 0) k 37 i + 2 + w), yu (m_lt (yu Y 0 0 0) k) 0 0 0) else (0, yu (m_lt (yu Y 0 0 0) k) 0 0 3)) else (0, m_re (m_lt (yu Y 0 0 0) k) 7 1)) else (0, yu Y 0 0 2)) else (0, m_re Y 2 1)) else (0, m_re Y 1 1)
section
variable {o : Nat} {Y : zY} {h : zH} {t : Nat × Nat} {Q : zU → zS → Prop}
theorem s145_a {k : Int} : ∀ (m : Nat) (Y : zY) (c : Int), 0 ≤ c → c + m = 2003 → (z_go zP 145 31 [some (.ref o), some (zi k), some (zi c)] [] (mj o Y h, t) Q ↔ z_go zP 145 51 [some (.ref o), some (zi k), some (zi 2003)] [] (mj o (m_ov Y 39 c 2003 (fun _ => -1)) h, t) Q) := by
  intro m
  induction m with
  | zero =>
    intro Y c h1 h2
    rw [m_ov_0 (by omega)]
    obtain rfl : c = 2003 := by omega
    simp (disch := omega) only [g145_0, g145_1, g145_4, g145_5, g145_8, g145_9, g145_10, g145_11, g145_14, g145_15, g145_16, g145_19, g145_20, g145_21, g145_24, g145_25, g145_26, g145_29, g145_30, g145_31, g145_32, g145_35, g145_39, g145_42, g145_43, g145_44, g145_45, g145_48, g145_52, g145_53, g145_54, g145_56, g145_59, g145_60, g145_63, g145_64, g145_65, g145_66, g145_69, g145_72, g145_73, g145_76, g145_77, g145_78, g145_79, g145_80, g145_83, g145_86, g145_87, g145_90, g145_93, g145_96, g145_97, g145_98, g145_99, g145_102, g145_105, g145_108, mg_32, mp_32, mg_33, mp_33, mg_34, mp_34, mg_35, mp_35, mg_39, ma_39, ms_39, mg_38, ma_38, ms_38, Option.some.injEq, exists_eq_left', zkl_i, zkl_l, zkl_n, zkl_r, zkl_0, zc_v, zc_n, zc_t, zd_v, zd_n, mj_tg, true_and, ↓reduceIte, not_true_eq_false, not_false_eq_true, ↓if_pos, ↓if_neg, Int.reduceLE, Int.reduceLT, Int.reduceEq, Int.reduceAdd]
  | succ m ih =>
    intro Y c h1 h2
    rw [← m_ov_s (by omega), ← ih (yu Y 39 c (-1)) (c + 1) (by omega) (by omega)]
    refine g145_31.trans ?_
    simp (disch := omega) only [g145_0, g145_1, g145_4, g145_5, g145_8, g145_9, g145_10, g145_11, g145_14, g145_15, g145_16, g145_19, g145_20, g145_21, g145_24, g145_25, g145_26, g145_29, g145_30, g145_32, g145_35, g145_38, g145_39, g145_42, g145_43, g145_44, g145_45, g145_48, g145_52, g145_53, g145_54, g145_56, g145_59, g145_60, g145_63, g145_64, g145_65, g145_66, g145_69, g145_72, g145_73, g145_76, g145_77, g145_78, g145_79, g145_80, g145_83, g145_86, g145_87, g145_90, g145_93, g145_96, g145_97, g145_98, g145_99, g145_102, g145_105, g145_108, mg_32, mp_32, mg_33, mp_33, mg_34, mp_34, mg_35, mp_35, mg_39, ma_39, ms_39, mg_38, ma_38, ms_38, Option.some.injEq, exists_eq_left', zkl_i, zkl_l, zkl_n, zkl_r, zkl_0, zc_v, zc_n, zc_t, zd_v, zd_n, mj_tg, true_and, ↓reduceIte, not_true_eq_false, not_false_eq_true, ↓if_pos, ↓if_neg, Int.reduceLE, Int.reduceLT, Int.reduceEq, Int.reduceAdd]
theorem s145_b {k : Int} : ∀ (m : Nat) (Y : zY) (c : Int), 0 ≤ c → c + m = 28 → (z_go zP 145 53 [some (.ref o), some (zi k), some (zi c)] [] (mj o Y h, t) Q ↔ z_go zP 145 72 [some (.ref o), some (zi k), some (zi 28)] [] (mj o (m_ov Y 38 c 28 (fun _ => 0)) h, t) Q) := by
  intro m
  induction m with
  | zero =>
    intro Y c h1 h2
    rw [m_ov_0 (by omega)]
    obtain rfl : c = 28 := by omega
    simp (disch := omega) only [g145_0, g145_1, g145_4, g145_5, g145_8, g145_9, g145_10, g145_11, g145_14, g145_15, g145_16, g145_19, g145_20, g145_21, g145_24, g145_25, g145_26, g145_29, g145_30, g145_31, g145_32, g145_35, g145_38, g145_39, g145_42, g145_43, g145_44, g145_45, g145_48, g145_51, g145_52, g145_53, g145_54, g145_56, g145_60, g145_63, g145_64, g145_65, g145_66, g145_69, g145_73, g145_76, g145_77, g145_78, g145_79, g145_80, g145_83, g145_86, g145_87, g145_90, g145_93, g145_96, g145_97, g145_98, g145_99, g145_102, g145_105, g145_108, mg_32, mp_32, mg_33, mp_33, mg_34, mp_34, mg_35, mp_35, mg_39, ma_39, ms_39, mg_38, ma_38, ms_38, Option.some.injEq, exists_eq_left', zkl_i, zkl_l, zkl_n, zkl_r, zkl_0, zc_v, zc_n, zc_t, zd_v, zd_n, mj_tg, true_and, ↓reduceIte, not_true_eq_false, not_false_eq_true, ↓if_pos, ↓if_neg, Int.reduceLE, Int.reduceLT, Int.reduceEq, Int.reduceAdd]
  | succ m ih =>
    intro Y c h1 h2
    rw [← m_ov_s (by omega), ← ih (yu Y 38 c 0) (c + 1) (by omega) (by omega)]
    refine g145_53.trans ?_
    simp (disch := omega) only [g145_0, g145_1, g145_4, g145_5, g145_8, g145_9, g145_10, g145_11, g145_14, g145_15, g145_16, g145_19, g145_20, g145_21, g145_24, g145_25, g145_26, g145_29, g145_30, g145_31, g145_32, g145_35, g145_38, g145_39, g145_42, g145_43, g145_44, g145_45, g145_48, g145_51, g145_52, g145_54, g145_56, g145_59, g145_60, g145_63, g145_64, g145_65, g145_66, g145_69, g145_73, g145_76, g145_77, g145_78, g145_79, g145_80, g145_83, g145_86, g145_87, g145_90, g145_93, g145_96, g145_97, g145_98, g145_99, g145_102, g145_105, g145_108, mg_32, mp_32, mg_33, mp_33, mg_34, mp_34, mg_35, mp_35, mg_39, ma_39, ms_39, mg_38, ma_38, ms_38, Option.some.injEq, exists_eq_left', zkl_i, zkl_l, zkl_n, zkl_r, zkl_0, zc_v, zc_n, zc_t, zd_v, zd_n, mj_tg, true_and, ↓reduceIte, not_true_eq_false, not_false_eq_true, ↓if_pos, ↓if_neg, Int.reduceLE, Int.reduceLT, Int.reduceEq, Int.reduceAdd]
theorem s145_c {k : Int} : ∀ (n : Nat) (s : Int) (Y : zY), 0 ≤ s → s + n = 2000 → PQ Y k → Y 34 0 ≤ s → Y 35 0 ≤ s → (z_go zP 145 78 [some (.ref o), some (zi k), some (zi s)] [] (mj o Y h, t) Q ↔ Q (.inl none) (mj o (m_lt1 k n s Y) h, t)) := by
  intro n
  induction n with
  | zero =>
    intro s Y s1 hs hP h34 h35
    obtain ⟨a1, a2⟩ : 0 ≤ Y 33 0 ∧ Y 33 0 ≤ 2004 := hP.1 33 0
    unfold m_lt1
    by_cases c : s < Y 33 0
    · simp (disch := omega) only [g145_0, g145_1, g145_4, g145_5, g145_8, g145_9, g145_10, g145_11, g145_14, g145_15, g145_16, g145_19, g145_20, g145_21, g145_24, g145_25, g145_26, g145_29, g145_30, g145_31, g145_32, g145_35, g145_38, g145_39, g145_42, g145_43, g145_44, g145_45, g145_48, g145_51, g145_52, g145_53, g145_54, g145_56, g145_59, g145_60, g145_63, g145_64, g145_65, g145_66, g145_69, g145_72, g145_73, g145_76, g145_77, g145_78, g145_79, g145_80, g145_83, g145_86, g145_87, g145_90, g145_93, g145_97, g145_98, g145_99, g145_102, g145_105, g145_108, mg_32, mp_32, mg_33, mp_33, mg_34, mp_34, mg_35, mp_35, mg_39, ma_39, ms_39, mg_38, ma_38, ms_38, Option.some.injEq, exists_eq_left', zkl_i, zkl_l, zkl_n, zkl_r, zkl_0, zc_v, zc_n, zc_t, zd_v, zd_n, mj_tg, true_and, ↓reduceIte, not_true_eq_false, not_false_eq_true, ↓if_pos, ↓if_neg, Int.reduceLE, Int.reduceLT, Int.reduceEq, Int.reduceAdd]
    · simp (disch := omega) only [g145_0, g145_1, g145_4, g145_5, g145_8, g145_9, g145_10, g145_11, g145_14, g145_15, g145_16, g145_19, g145_20, g145_21, g145_24, g145_25, g145_26, g145_29, g145_30, g145_31, g145_32, g145_35, g145_38, g145_39, g145_42, g145_43, g145_44, g145_45, g145_48, g145_51, g145_52, g145_53, g145_54, g145_56, g145_59, g145_60, g145_63, g145_64, g145_65, g145_66, g145_69, g145_72, g145_73, g145_76, g145_77, g145_78, g145_79, g145_80, g145_83, g145_86, g145_87, g145_90, g145_93, g145_97, g145_98, g145_99, g145_102, g145_105, g145_108, mg_32, mp_32, mg_33, mp_33, mg_34, mp_34, mg_35, mp_35, mg_39, ma_39, ms_39, mg_38, ma_38, ms_38, Option.some.injEq, exists_eq_left', zkl_i, zkl_l, zkl_n, zkl_r, zkl_0, zc_v, zc_n, zc_t, zd_v, zd_n, mj_tg, true_and, ↓reduceIte, not_true_eq_false, not_false_eq_true, ↓if_pos, ↓if_neg, Int.reduceLE, Int.reduceLT, Int.reduceEq, Int.reduceAdd]
  | succ n ih =>
    intro s Y s1 hs hP h34 h35
    obtain ⟨a1, a2⟩ : 0 ≤ Y 33 0 ∧ Y 33 0 ≤ 2004 := hP.1 33 0
    unfold m_lt1
    by_cases hc : s < Y 33 0 ∧ Y 33 0 ≤ 2000
    · rw [if_pos hc]
      have hsn : s < m_sn Y := by unfold m_sn; split <;> omega
      obtain ⟨p, b1, b2, b3, b4⟩ := PQ_gf hP s1 hsn hc.2 h34 h35
      rw [← ih (s + 1) _ (by omega) (by omega) p b3 b4]
      have h144 := fun (Q : zU → zS → Prop) => s144 (o := o) (h := h) (t := t) (Q := Q) (PQ_PV hP s1 hsn) hc.1 hc.2 (by omega) (by omega)
      refine g145_78.trans ?_
      simp (disch := omega) only [g145_0, g145_1, g145_4, g145_5, g145_8, g145_9, g145_10, g145_11, g145_14, g145_15, g145_16, g145_19, g145_20, g145_21, g145_24, g145_25, g145_26, g145_29, g145_30, g145_31, g145_32, g145_35, g145_38, g145_39, g145_42, g145_43, g145_44, g145_45, g145_48, g145_51, g145_52, g145_53, g145_54, g145_56, g145_59, g145_60, g145_63, g145_64, g145_65, g145_66, g145_69, g145_72, g145_73, g145_76, g145_77, g145_79, g145_80, g145_83, g145_86, g145_87, g145_90, g145_93, g145_96, g145_97, g145_98, g145_99, g145_102, g145_105, g145_108, mg_32, mp_32, mg_33, mp_33, mg_34, mp_34, mg_35, mp_35, mg_39, ma_39, ms_39, mg_38, ma_38, ms_38, Option.some.injEq, exists_eq_left', zkl_i, zkl_l, zkl_n, zkl_r, zkl_0, zc_v, zc_n, zc_t, zd_v, zd_n, mj_tg, true_and, ↓reduceIte, not_true_eq_false, not_false_eq_true, ↓if_pos, ↓if_neg, Int.reduceLE, Int.reduceLT, Int.reduceEq, Int.reduceAdd, h144]
    · rw [if_neg hc]
      by_cases c : s < Y 33 0
      · simp (disch := omega) only [g145_0, g145_1, g145_4, g145_5, g145_8, g145_9, g145_10, g145_11, g145_14, g145_15, g145_16, g145_19, g145_20, g145_21, g145_24, g145_25, g145_26, g145_29, g145_30, g145_31, g145_32, g145_35, g145_38, g145_39, g145_42, g145_43, g145_44, g145_45, g145_48, g145_51, g145_52, g145_53, g145_54, g145_56, g145_59, g145_60, g145_63, g145_64, g145_65, g145_66, g145_69, g145_72, g145_73, g145_76, g145_77, g145_78, g145_79, g145_80, g145_83, g145_86, g145_87, g145_90, g145_93, g145_97, g145_98, g145_99, g145_102, g145_105, g145_108, mg_32, mp_32, mg_33, mp_33, mg_34, mp_34, mg_35, mp_35, mg_39, ma_39, ms_39, mg_38, ma_38, ms_38, Option.some.injEq, exists_eq_left', zkl_i, zkl_l, zkl_n, zkl_r, zkl_0, zc_v, zc_n, zc_t, zd_v, zd_n, mj_tg, true_and, ↓reduceIte, not_true_eq_false, not_false_eq_true, ↓if_pos, ↓if_neg, Int.reduceLE, Int.reduceLT, Int.reduceEq, Int.reduceAdd]
      · simp (disch := omega) only [g145_0, g145_1, g145_4, g145_5, g145_8, g145_9, g145_10, g145_11, g145_14, g145_15, g145_16, g145_19, g145_20, g145_21, g145_24, g145_25, g145_26, g145_29, g145_30, g145_31, g145_32, g145_35, g145_38, g145_39, g145_42, g145_43, g145_44, g145_45, g145_48, g145_51, g145_52, g145_53, g145_54, g145_56, g145_59, g145_60, g145_63, g145_64, g145_65, g145_66, g145_69, g145_72, g145_73, g145_76, g145_77, g145_78, g145_79, g145_80, g145_83, g145_86, g145_87, g145_90, g145_93, g145_97, g145_98, g145_99, g145_102, g145_105, g145_108, mg_32, mp_32, mg_33, mp_33, mg_34, mp_34, mg_35, mp_35, mg_39, ma_39, ms_39, mg_38, ma_38, ms_38, Option.some.injEq, exists_eq_left', zkl_i, zkl_l, zkl_n, zkl_r, zkl_0, zc_v, zc_n, zc_t, zd_v, zd_n, mj_tg, true_and, ↓reduceIte, not_true_eq_false, not_false_eq_true, ↓if_pos, ↓if_neg, Int.reduceLE, Int.reduceLT, Int.reduceEq, Int.reduceAdd]
theorem s145 {k : Int} (hR : RG Y) (hK : PK Y k) : z_go zP 145 0 [some (.ref o), some (zi k), none] [] (mj o Y h, t) Q ↔ Q (.inl none) (mj o (m_lt Y k) h, t) := by
  obtain ⟨a1, a2⟩ : 0 ≤ Y 32 0 ∧ Y 32 0 ≤ 60 := hR 32 0
  have hk := hK.1
  unfold m_lt
  by_cases c : Y 32 0 = k
  · rw [if_pos c]
    simp (disch := omega) only [g145_0, g145_1, g145_4, g145_5, g145_8, g145_9, g145_10, g145_11, g145_14, g145_15, g145_16, g145_19, g145_20, g145_21, g145_24, g145_25, g145_26, g145_29, g145_30, g145_31, g145_32, g145_35, g145_38, g145_39, g145_42, g145_43, g145_44, g145_45, g145_48, g145_51, g145_52, g145_53, g145_54, g145_56, g145_59, g145_60, g145_63, g145_64, g145_65, g145_66, g145_69, g145_72, g145_73, g145_76, g145_77, g145_78, g145_79, g145_80, g145_83, g145_86, g145_87, g145_90, g145_93, g145_96, g145_97, g145_98, g145_99, g145_102, g145_105, g145_108, mg_32, mp_32, mg_33, mp_33, mg_34, mp_34, mg_35, mp_35, mg_39, ma_39, ms_39, mg_38, ma_38, ms_38, Option.some.injEq, exists_eq_left', zkl_i, zkl_l, zkl_n, zkl_r, zkl_0, zc_v, zc_n, zc_t, zd_v, zd_n, mj_tg, true_and, ↓reduceIte, not_true_eq_false, not_false_eq_true, ↓if_pos, ↓if_neg, Int.reduceLE, Int.reduceLT, Int.reduceEq, Int.reduceAdd]
  · rw [if_neg c]
    obtain ⟨p, e1, e2⟩ := PQ_0 hR hK
    obtain ⟨r1, r2, r3, r4, r5⟩ := l00_r hR hk.1 hk.2
    have h136 := fun (Q : zU → zS → Prop) => s136 (o := o) (h := h) (t := t) (Q := Q) r1 r2 (by omega)
    refine Iff.trans ?_ (s145_c 2000 0 _ (by omega) (by omega) p (by omega) (by omega))
    have hA : z_go zP 145 0 [some (.ref o), some (zi k), none] [] (mj o Y h, t) Q ↔ z_go zP 145 31 [some (.ref o), some (zi k), some (zi 0)] [] (mj o (yu (yu (yu (yu Y 32 0 k) 33 0 0) 34 0 0) 35 0 0) h, t) Q := by
      simp (disch := omega) only [g145_0, g145_1, g145_4, g145_5, g145_8, g145_9, g145_10, g145_11, g145_14, g145_15, g145_16, g145_19, g145_20, g145_21, g145_24, g145_25, g145_26, g145_29, g145_30, g145_32, g145_35, g145_38, g145_39, g145_42, g145_43, g145_44, g145_45, g145_48, g145_51, g145_52, g145_53, g145_54, g145_56, g145_59, g145_60, g145_63, g145_64, g145_65, g145_66, g145_69, g145_72, g145_73, g145_76, g145_77, g145_78, g145_79, g145_80, g145_83, g145_86, g145_87, g145_90, g145_93, g145_96, g145_97, g145_98, g145_99, g145_102, g145_105, g145_108, mg_32, mp_32, mg_33, mp_33, mg_34, mp_34, mg_35, mp_35, mg_39, ma_39, ms_39, mg_38, ma_38, ms_38, Option.some.injEq, exists_eq_left', zkl_i, zkl_l, zkl_n, zkl_r, zkl_0, zc_v, zc_n, zc_t, zd_v, zd_n, mj_tg, true_and, ↓reduceIte, not_true_eq_false, not_false_eq_true, ↓if_pos, ↓if_neg, Int.reduceLE, Int.reduceLT, Int.reduceEq, Int.reduceAdd]
    have hB := s145_a (o := o) (h := h) (t := t) (Q := Q) (k := k) 2003 (yu (yu (yu (yu Y 32 0 k) 33 0 0) 34 0 0) 35 0 0) 0 (by omega) (by omega)
    have hC : ∀ Z : zY, z_go zP 145 51 [some (.ref o), some (zi k), some (zi 2003)] [] (mj o Z h, t) Q ↔ z_go zP 145 53 [some (.ref o), some (zi k), some (zi 0)] [] (mj o Z h, t) Q := by
      intro Z
      simp (disch := omega) only [g145_0, g145_1, g145_4, g145_5, g145_8, g145_9, g145_10, g145_11, g145_14, g145_15, g145_16, g145_19, g145_20, g145_21, g145_24, g145_25, g145_26, g145_29, g145_30, g145_31, g145_32, g145_35, g145_38, g145_39, g145_42, g145_43, g145_44, g145_45, g145_48, g145_51, g145_52, g145_54, g145_56, g145_59, g145_60, g145_63, g145_64, g145_65, g145_66, g145_69, g145_72, g145_73, g145_76, g145_77, g145_78, g145_79, g145_80, g145_83, g145_86, g145_87, g145_90, g145_93, g145_96, g145_97, g145_98, g145_99, g145_102, g145_105, g145_108, mg_32, mp_32, mg_33, mp_33, mg_34, mp_34, mg_35, mp_35, mg_39, ma_39, ms_39, mg_38, ma_38, ms_38, Option.some.injEq, exists_eq_left', zkl_i, zkl_l, zkl_n, zkl_r, zkl_0, zc_v, zc_n, zc_t, zd_v, zd_n, mj_tg, true_and, ↓reduceIte, not_true_eq_false, not_false_eq_true, ↓if_pos, ↓if_neg, Int.reduceLE, Int.reduceLT, Int.reduceEq, Int.reduceAdd]
    have hD := fun Z : zY => s145_b (o := o) (h := h) (t := t) (Q := Q) (k := k) 28 Z 0 (by omega) (by omega)
    rw [hA, hB, hC, hD]
    show z_go zP 145 72 [some (.ref o), some (zi k), some (zi 28)] [] (mj o (m_l00 Y k) h, t) Q ↔ _
    simp (disch := omega) only [g145_0, g145_1, g145_4, g145_5, g145_8, g145_9, g145_10, g145_11, g145_14, g145_15, g145_16, g145_19, g145_20, g145_21, g145_24, g145_25, g145_26, g145_29, g145_30, g145_31, g145_32, g145_35, g145_38, g145_39, g145_42, g145_43, g145_44, g145_45, g145_48, g145_51, g145_52, g145_53, g145_54, g145_56, g145_59, g145_60, g145_63, g145_64, g145_65, g145_66, g145_69, g145_72, g145_73, g145_76, g145_77, g145_79, g145_80, g145_83, g145_86, g145_87, g145_90, g145_93, g145_96, g145_97, g145_98, g145_99, g145_102, g145_105, g145_108, mg_32, mp_32, mg_33, mp_33, mg_34, mp_34, mg_35, mp_35, mg_39, ma_39, ms_39, mg_38, ma_38, ms_38, Option.some.injEq, exists_eq_left', zkl_i, zkl_l, zkl_n, zkl_r, zkl_0, zc_v, zc_n, zc_t, zd_v, zd_n, mj_tg, true_and, ↓reduceIte, not_true_eq_false, not_false_eq_true, ↓if_pos, ↓if_neg, Int.reduceLE, Int.reduceLT, Int.reduceEq, Int.reduceAdd, h136]
    exact Iff.rfl
theorem s147_y {k : Int} (hR : RG Y) (hK : PK Y k) (hz : RG (m_lt Y k)) (hn : m_lt Y k 33 0 ≤ 2000) : z_go zP 147 0 [some (.ref o), some (zi k)] [] (mj o Y h, t) Q ↔ Q (.inl (some (zi 1))) (mj o (m_lt Y k) h, t) := by
  have h145 := fun (Q : zU → zS → Prop) => s145 (o := o) (h := h) (t := t) (Q := Q) hR hK
  generalize m_lt Y k = Z at hn h145 hz
  obtain ⟨a1, a2⟩ : 0 ≤ Z 33 0 ∧ Z 33 0 ≤ 2004 := hz 33 0
  simp (disch := omega) only [g147_0, g147_1, g147_2, g147_5, g147_6, g147_9, g147_12, g147_15, g147_16, g147_18, g147_19, g147_22, g147_22r, g147_23, g147_24, g147_27, g147_30, g147_33, g147_34, g147_37, g147_38_0, g147_38_1, g147_38b, mg_33, mp_33, Option.some.injEq, exists_eq_left', zkl_i, zkl_l, zkl_n, zkl_r, zkl_0, zc_v, zc_n, zc_t, zd_v, zd_n, mj_tg, true_and, ↓reduceIte, not_true_eq_false, not_false_eq_true, ↓if_pos, ↓if_neg, Int.reduceLE, Int.reduceLT, Int.reduceEq, Int.reduceAdd, h145]
theorem s147_n {k : Int} (hR : RG Y) (hK : PK Y k) (hz : RG (m_lt Y k)) (hn : ¬ m_lt Y k 33 0 ≤ 2000) : z_go zP 147 0 [some (.ref o), some (zi k)] [] (mj o Y h, t) Q ↔ Q (.inl (some (zi 0))) (mj o (m_re (m_lt Y k) 7 1) h, t) := by
  have h145 := fun (Q : zU → zS → Prop) => s145 (o := o) (h := h) (t := t) (Q := Q) hR hK
  generalize m_lt Y k = Z at hn h145 hz
  obtain ⟨a1, a2⟩ : 0 ≤ Z 33 0 ∧ Z 33 0 ≤ 2004 := hz 33 0
  have e : m_re Z 7 1 33 0 = Z 33 0 := by simp [m_re, yu]
  simp (disch := omega) only [g147_0, g147_1, g147_2, g147_5, g147_6, g147_9, g147_12, g147_15, g147_16, g147_18, g147_19, g147_22, g147_22r, g147_23, g147_24, g147_27, g147_30, g147_33, g147_34, g147_37, g147_38_0, g147_38_1, g147_38b, mg_33, mp_33, Option.some.injEq, exists_eq_left', zkl_i, zkl_l, zkl_n, zkl_r, zkl_0, zc_v, zc_n, zc_t, zd_v, zd_n, mj_tg, true_and, ↓reduceIte, not_true_eq_false, not_false_eq_true, ↓if_pos, ↓if_neg, Int.reduceLE, Int.reduceLT, Int.reduceEq, Int.reduceAdd, h145, s98', e]
theorem RG_lt {k : Int} (hR : RG Y) (hK : PK Y k) : RG (m_lt Y k) := by
  by_cases c : Y 32 0 = k
  · unfold m_lt; rw [if_pos c]; exact hR
  · exact (PQ_lt hR hK c).1
theorem s148 {k w : Int} (hR : RG Y) (k1 : -2147483648 ≤ k) (k2 : k < 2147483648) (w1 : -2147483648 ≤ w) (w2 : w < 2147483648) (hi : m_th Y k → Y 3 k = 6 → PK Y k) : z_go zP 148 0 [some (.ref o), some (zi k), some (zi w)] [] (mj o Y h, t) Q ↔ Q (.inl (some (zi (a_explore Y k w).1))) (mj o (a_explore Y k w).2 h, t) := by
  obtain ⟨r1, r2⟩ : 0 ≤ Y 2 0 ∧ Y 2 0 ≤ 60 := hR 2 0
  unfold a_explore
  by_cases d1 : m_th Y k
  · rw [if_pos d1]
    have d1' := d1
    obtain ⟨⟨d1a, d1b⟩, d1c⟩ := d1'
    by_cases d2 : Y 3 k = 6
    · rw [if_pos d2]
      by_cases d3 : 0 ≤ w ∧ w ≤ 2
      · rw [if_pos d3]
        have hK : PK (yu Y 0 0 0) k := hi d1 d2
        have hz := RG_lt (RG_0 hR) hK
        by_cases d4 : m_lt (yu Y 0 0 0) k 33 0 ≤ 2000
        · rw [if_pos d4]
          have h147 := fun (Q : zU → zS → Prop) => s147_y (o := o) (h := h) (t := t) (Q := Q) (RG_0 hR) hK hz d4
          generalize m_lt (yu Y 0 0 0) k = Z at h147
          unfold m_ex
          obtain rfl | rfl | rfl : w = 0 ∨ w = 1 ∨ w = 2 := by omega
          · simp (disch := omega) only [g148_0, g148_1, g148_2, g148_4, g148_5, g148_8, g148_8b, g148_11, g148_12, g148_13, g148_14, g148_15, g148_16, g148_19, g148_19b, g148_22, g148_23, g148_24, g148_27, g148_28, g148_29, g148_30, g148_33, g148_33b, g148_36, g148_37, g148_38, g148_39, g148_39b, g148_42, g148_43, g148_46, g148_49, g148_50, g148_51, g148_54, g148_55, g148_58, g148_61, g148_62, g148_65, mg_33, mp_33, mg_34, mp_34, mg_35, mp_35, Option.some.injEq, exists_eq_left', zkl_i, zkl_l, zkl_n, zkl_r, zkl_0, zc_v, zc_n, zc_t, zd_v, zd_n, mj_tg, true_and, ↓reduceIte, not_true_eq_false, not_false_eq_true, ↓if_pos, ↓if_neg, Int.reduceLE, Int.reduceLT, Int.reduceEq, Int.reduceAdd, s100_y hR k1 k2 (by omega) (by omega) d1 d2, s97, bI_t d3, h147]
          · simp (disch := omega) only [g148_0, g148_1, g148_2, g148_4, g148_5, g148_8, g148_8b, g148_11, g148_12, g148_13, g148_14, g148_15, g148_16, g148_19, g148_19b, g148_22, g148_23, g148_24, g148_27, g148_28, g148_29, g148_30, g148_33, g148_33b, g148_36, g148_37, g148_38, g148_39, g148_39b, g148_42, g148_43, g148_46, g148_49, g148_50, g148_51, g148_54, g148_55, g148_58, g148_61, g148_62, g148_65, mg_33, mp_33, mg_34, mp_34, mg_35, mp_35, Option.some.injEq, exists_eq_left', zkl_i, zkl_l, zkl_n, zkl_r, zkl_0, zc_v, zc_n, zc_t, zd_v, zd_n, mj_tg, true_and, ↓reduceIte, not_true_eq_false, not_false_eq_true, ↓if_pos, ↓if_neg, Int.reduceLE, Int.reduceLT, Int.reduceEq, Int.reduceAdd, s100_y hR k1 k2 (by omega) (by omega) d1 d2, s97, bI_t d3, h147]
          · simp (disch := omega) only [g148_0, g148_1, g148_2, g148_4, g148_5, g148_8, g148_8b, g148_11, g148_12, g148_13, g148_14, g148_15, g148_16, g148_19, g148_19b, g148_22, g148_23, g148_24, g148_27, g148_28, g148_29, g148_30, g148_33, g148_33b, g148_36, g148_37, g148_38, g148_39, g148_39b, g148_42, g148_43, g148_46, g148_49, g148_50, g148_51, g148_54, g148_55, g148_58, g148_61, g148_62, g148_65, mg_33, mp_33, mg_34, mp_34, mg_35, mp_35, Option.some.injEq, exists_eq_left', zkl_i, zkl_l, zkl_n, zkl_r, zkl_0, zc_v, zc_n, zc_t, zd_v, zd_n, mj_tg, true_and, ↓reduceIte, not_true_eq_false, not_false_eq_true, ↓if_pos, ↓if_neg, Int.reduceLE, Int.reduceLT, Int.reduceEq, Int.reduceAdd, s100_y hR k1 k2 (by omega) (by omega) d1 d2, s97, bI_t d3, h147]
        · rw [if_neg d4]
          have h147 := fun (Q : zU → zS → Prop) => s147_n (o := o) (h := h) (t := t) (Q := Q) (RG_0 hR) hK hz d4
          simp (disch := omega) only [g148_0, g148_1, g148_2, g148_4, g148_5, g148_8, g148_8b, g148_11, g148_12, g148_13, g148_14, g148_15, g148_16, g148_19, g148_19b, g148_22, g148_23, g148_24, g148_27, g148_28, g148_29, g148_30, g148_33, g148_33b, g148_36, g148_37, g148_38, g148_39, g148_39b, g148_42, g148_43, g148_46, g148_49, g148_50, g148_51, g148_54, g148_55, g148_58, g148_61, g148_62, g148_65, mg_33, mp_33, mg_34, mp_34, mg_35, mp_35, Option.some.injEq, exists_eq_left', zkl_i, zkl_l, zkl_n, zkl_r, zkl_0, zc_v, zc_n, zc_t, zd_v, zd_n, mj_tg, true_and, ↓reduceIte, not_true_eq_false, not_false_eq_true, ↓if_pos, ↓if_neg, Int.reduceLE, Int.reduceLT, Int.reduceEq, Int.reduceAdd, s100_y hR k1 k2 (by omega) (by omega) d1 d2, s97, bI_t d3, h147]
      · rw [if_neg d3]
        simp (disch := omega) only [g148_0, g148_1, g148_2, g148_4, g148_5, g148_8, g148_8b, g148_11, g148_12, g148_13, g148_14, g148_15, g148_16, g148_19, g148_19b, g148_22, g148_23, g148_24, g148_27, g148_28, g148_29, g148_30, g148_33, g148_33b, g148_36, g148_37, g148_38, g148_39, g148_39b, g148_42, g148_43, g148_46, g148_49, g148_50, g148_51, g148_54, g148_55, g148_58, g148_61, g148_62, g148_65, mg_33, mp_33, mg_34, mp_34, mg_35, mp_35, Option.some.injEq, exists_eq_left', zkl_i, zkl_l, zkl_n, zkl_r, zkl_0, zc_v, zc_n, zc_t, zd_v, zd_n, mj_tg, true_and, ↓reduceIte, not_true_eq_false, not_false_eq_true, ↓if_pos, ↓if_neg, Int.reduceLE, Int.reduceLT, Int.reduceEq, Int.reduceAdd, s100_y hR k1 k2 (by omega) (by omega) d1 d2, s97, bI_f d3, s96, yu_yu]
    · rw [if_neg d2]
      simp (disch := omega) only [g148_0, g148_1, g148_2, g148_4, g148_5, g148_8, g148_8b, g148_11, g148_12, g148_13, g148_14, g148_15, g148_16, g148_19, g148_19b, g148_22, g148_23, g148_24, g148_27, g148_28, g148_29, g148_30, g148_33, g148_33b, g148_36, g148_37, g148_38, g148_39, g148_39b, g148_42, g148_43, g148_46, g148_49, g148_50, g148_51, g148_54, g148_55, g148_58, g148_61, g148_62, g148_65, mg_33, mp_33, mg_34, mp_34, mg_35, mp_35, Option.some.injEq, exists_eq_left', zkl_i, zkl_l, zkl_n, zkl_r, zkl_0, zc_v, zc_n, zc_t, zd_v, zd_n, mj_tg, true_and, ↓reduceIte, not_true_eq_false, not_false_eq_true, ↓if_pos, ↓if_neg, Int.reduceLE, Int.reduceLT, Int.reduceEq, Int.reduceAdd, s100_k hR k1 k2 (by omega) (by omega) d1 d2, m_re_0]
  · rw [if_neg d1]
    simp (disch := omega) only [g148_0, g148_1, g148_2, g148_4, g148_5, g148_8, g148_8b, g148_11, g148_12, g148_13, g148_14, g148_15, g148_16, g148_19, g148_19b, g148_22, g148_23, g148_24, g148_27, g148_28, g148_29, g148_30, g148_33, g148_33b, g148_36, g148_37, g148_38, g148_39, g148_39b, g148_42, g148_43, g148_46, g148_49, g148_50, g148_51, g148_54, g148_55, g148_58, g148_61, g148_62, g148_65, mg_33, mp_33, mg_34, mp_34, mg_35, mp_35, Option.some.injEq, exists_eq_left', zkl_i, zkl_l, zkl_n, zkl_r, zkl_0, zc_v, zc_n, zc_t, zd_v, zd_n, mj_tg, true_and, ↓reduceIte, not_true_eq_false, not_false_eq_true, ↓if_pos, ↓if_neg, Int.reduceLE, Int.reduceLT, Int.reduceEq, Int.reduceAdd, s100_n hR k1 k2 d1, m_re_0]
theorem s149 {k i w : Int} (hR : RG Y) (k1 : -2147483648 ≤ k) (k2 : k < 2147483648) (i1 : -2147483648 ≤ i) (i2 : i < 2147483648) (w1 : -2147483648 ≤ w) (w2 : w < 2147483648) (hi : m_th Y k → Y 3 k = 6 → PK Y k) : z_go zP 149 0 [some (.ref o), some (zi k), some (zi i), some (zi w)] [] (mj o Y h, t) Q ↔ Q (.inl (some (zl (a_end Y k i w).1))) (mj o (a_end Y k i w).2 h, t) := by
  obtain ⟨r1, r2⟩ : 0 ≤ Y 2 0 ∧ Y 2 0 ≤ 60 := hR 2 0
  obtain ⟨r3, r4⟩ : 0 ≤ Y 5 k ∧ Y 5 k ≤ 60 := hR 5 k
  obtain ⟨r5, r6⟩ : 0 ≤ Y 5 (Y 5 k) ∧ Y 5 (Y 5 k) ≤ 60 := hR 5 _
  obtain ⟨r7, r8⟩ : 0 ≤ Y 8 (Y 5 (Y 5 k)) ∧ Y 8 (Y 5 (Y 5 k)) ≤ 8 := hR 8 _
  unfold a_end
  by_cases d1 : m_th Y k
  · rw [if_pos d1]
    have d1' := d1
    obtain ⟨⟨d1a, d1b⟩, d1c⟩ := d1'
    by_cases d2 : Y 3 k = 6
    · rw [if_pos d2]
      by_cases d3 : 0 ≤ w ∧ w ≤ 7 + Y 8 (Y 5 (Y 5 k))
      · rw [if_pos d3]
        have hK : PK (yu Y 0 0 0) k := hi d1 d2
        have hz := RG_lt (RG_0 hR) hK
        by_cases d4 : m_lt (yu Y 0 0 0) k 33 0 ≤ 2000
        · rw [if_pos d4]
          have h147 := fun (Q : zU → zS → Prop) => s147_y (o := o) (h := h) (t := t) (Q := Q) (RG_0 hR) hK hz d4
          generalize m_lt (yu Y 0 0 0) k = Z at h147 hz
          obtain ⟨b1, b2⟩ : 0 ≤ Z 34 0 ∧ Z 34 0 ≤ 2000 := hz 34 0
          obtain ⟨b3, b4⟩ : 0 ≤ Z 37 i ∧ Z 37 i ≤ 2000 := hz 37 i
          by_cases d5 : 0 ≤ i ∧ i ≤ Z 34 0 - 1
          · rw [if_pos d5]
            simp (disch := omega) only [g149_0, g149_1, g149_2, g149_4, g149_5, g149_8, g149_8b, g149_11, g149_12, g149_13, g149_14, g149_15, g149_16, g149_18, g149_19, g149_22, g149_23, g149_26, g149_27, g149_30, g149_31, g149_32, g149_33, g149_34, g149_35, g149_38, g149_38b, g149_41, g149_42, g149_45, g149_46, g149_49, g149_50, g149_53, g149_56, g149_57, g149_58, g149_61, g149_61b, g149_64, g149_65, g149_66, g149_67, g149_68, g149_69, g149_70, g149_73, g149_74, g149_75, g149_78, g149_78b, g149_81, g149_82, g149_85, g149_86, g149_89, g149_90, g149_93, g149_93b, g149_96, g149_97, g149_100, g149_102, g149_103, g149_106, g149_107, g149_108, g149_109, g149_110, g149_111, g149_112, g149_113, g149_114, g149_117, g149_118, mg_8, ma_8, ms_8, mg_5, ma_5, ms_5, mg_0, mp_0, mg_34, mp_34, mg_36, ma_36, ms_36, mg_37, ma_37, ms_37, Option.some.injEq, exists_eq_left', zkl_i, zkl_l, zkl_n, zkl_r, zkl_0, zc_v, zc_n, zc_t, zd_v, zd_n, mj_tg, true_and, ↓reduceIte, not_true_eq_false, not_false_eq_true, ↓if_pos, ↓if_neg, Int.reduceLE, Int.reduceLT, Int.reduceEq, Int.reduceAdd, s100_y hR k1 k2 (by omega) (by omega) d1 d2, s97, bI_t d3, bI_t d5, h147, yu_f, yu_yu, yu_s]
          · rw [if_neg d5]
            simp (disch := omega) only [g149_0, g149_1, g149_2, g149_4, g149_5, g149_8, g149_8b, g149_11, g149_12, g149_13, g149_14, g149_15, g149_16, g149_18, g149_19, g149_22, g149_23, g149_26, g149_27, g149_30, g149_31, g149_32, g149_33, g149_34, g149_35, g149_38, g149_38b, g149_41, g149_42, g149_45, g149_46, g149_49, g149_50, g149_53, g149_56, g149_57, g149_58, g149_61, g149_61b, g149_64, g149_65, g149_66, g149_67, g149_68, g149_69, g149_70, g149_73, g149_74, g149_75, g149_78, g149_78b, g149_81, g149_82, g149_85, g149_86, g149_89, g149_90, g149_93, g149_93b, g149_96, g149_97, g149_100, g149_102, g149_103, g149_106, g149_107, g149_108, g149_109, g149_110, g149_111, g149_112, g149_113, g149_114, g149_117, g149_118, mg_8, ma_8, ms_8, mg_5, ma_5, ms_5, mg_0, mp_0, mg_34, mp_34, mg_36, ma_36, ms_36, mg_37, ma_37, ms_37, Option.some.injEq, exists_eq_left', zkl_i, zkl_l, zkl_n, zkl_r, zkl_0, zc_v, zc_n, zc_t, zd_v, zd_n, mj_tg, true_and, ↓reduceIte, not_true_eq_false, not_false_eq_true, ↓if_pos, ↓if_neg, Int.reduceLE, Int.reduceLT, Int.reduceEq, Int.reduceAdd, s100_y hR k1 k2 (by omega) (by omega) d1 d2, s97, bI_t d3, bI_f d5, h147, yu_f, yu_yu, yu_s]
        · rw [if_neg d4]
          have h147 := fun (Q : zU → zS → Prop) => s147_n (o := o) (h := h) (t := t) (Q := Q) (RG_0 hR) hK hz d4
          simp (disch := omega) only [g149_0, g149_1, g149_2, g149_4, g149_5, g149_8, g149_8b, g149_11, g149_12, g149_13, g149_14, g149_15, g149_16, g149_18, g149_19, g149_22, g149_23, g149_26, g149_27, g149_30, g149_31, g149_32, g149_33, g149_34, g149_35, g149_38, g149_38b, g149_41, g149_42, g149_45, g149_46, g149_49, g149_50, g149_53, g149_56, g149_57, g149_58, g149_61, g149_61b, g149_64, g149_65, g149_66, g149_67, g149_68, g149_69, g149_70, g149_73, g149_74, g149_75, g149_78, g149_78b, g149_81, g149_82, g149_85, g149_86, g149_89, g149_90, g149_93, g149_93b, g149_96, g149_97, g149_100, g149_102, g149_103, g149_106, g149_107, g149_108, g149_109, g149_110, g149_111, g149_112, g149_113, g149_114, g149_117, g149_118, mg_8, ma_8, ms_8, mg_5, ma_5, ms_5, mg_0, mp_0, mg_34, mp_34, mg_36, ma_36, ms_36, mg_37, ma_37, ms_37, Option.some.injEq, exists_eq_left', zkl_i, zkl_l, zkl_n, zkl_r, zkl_0, zc_v, zc_n, zc_t, zd_v, zd_n, mj_tg, true_and, ↓reduceIte, not_true_eq_false, not_false_eq_true, ↓if_pos, ↓if_neg, Int.reduceLE, Int.reduceLT, Int.reduceEq, Int.reduceAdd, s100_y hR k1 k2 (by omega) (by omega) d1 d2, s97, bI_t d3, h147, yu_f, yu_yu, yu_s]
      · rw [if_neg d3]
        simp (disch := omega) only [g149_0, g149_1, g149_2, g149_4, g149_5, g149_8, g149_8b, g149_11, g149_12, g149_13, g149_14, g149_15, g149_16, g149_18, g149_19, g149_22, g149_23, g149_26, g149_27, g149_30, g149_31, g149_32, g149_33, g149_34, g149_35, g149_38, g149_38b, g149_41, g149_42, g149_45, g149_46, g149_49, g149_50, g149_53, g149_56, g149_57, g149_58, g149_61, g149_61b, g149_64, g149_65, g149_66, g149_67, g149_68, g149_69, g149_70, g149_73, g149_74, g149_75, g149_78, g149_78b, g149_81, g149_82, g149_85, g149_86, g149_89, g149_90, g149_93, g149_93b, g149_96, g149_97, g149_100, g149_102, g149_103, g149_106, g149_107, g149_108, g149_109, g149_110, g149_111, g149_112, g149_113, g149_114, g149_117, g149_118, mg_8, ma_8, ms_8, mg_5, ma_5, ms_5, mg_0, mp_0, mg_34, mp_34, mg_36, ma_36, ms_36, mg_37, ma_37, ms_37, Option.some.injEq, exists_eq_left', zkl_i, zkl_l, zkl_n, zkl_r, zkl_0, zc_v, zc_n, zc_t, zd_v, zd_n, mj_tg, true_and, ↓reduceIte, not_true_eq_false, not_false_eq_true, ↓if_pos, ↓if_neg, Int.reduceLE, Int.reduceLT, Int.reduceEq, Int.reduceAdd, s100_y hR k1 k2 (by omega) (by omega) d1 d2, s97, bI_f d3, yu_f, yu_yu, yu_s]
    · rw [if_neg d2]
      simp (disch := omega) only [g149_0, g149_1, g149_2, g149_4, g149_5, g149_8, g149_8b, g149_11, g149_12, g149_13, g149_14, g149_15, g149_16, g149_18, g149_19, g149_22, g149_23, g149_26, g149_27, g149_30, g149_31, g149_32, g149_33, g149_34, g149_35, g149_38, g149_38b, g149_41, g149_42, g149_45, g149_46, g149_49, g149_50, g149_53, g149_56, g149_57, g149_58, g149_61, g149_61b, g149_64, g149_65, g149_66, g149_67, g149_68, g149_69, g149_70, g149_73, g149_74, g149_75, g149_78, g149_78b, g149_81, g149_82, g149_85, g149_86, g149_89, g149_90, g149_93, g149_93b, g149_96, g149_97, g149_100, g149_102, g149_103, g149_106, g149_107, g149_108, g149_109, g149_110, g149_111, g149_112, g149_113, g149_114, g149_117, g149_118, mg_8, ma_8, ms_8, mg_5, ma_5, ms_5, mg_0, mp_0, mg_34, mp_34, mg_36, ma_36, ms_36, mg_37, ma_37, ms_37, Option.some.injEq, exists_eq_left', zkl_i, zkl_l, zkl_n, zkl_r, zkl_0, zc_v, zc_n, zc_t, zd_v, zd_n, mj_tg, true_and, ↓reduceIte, not_true_eq_false, not_false_eq_true, ↓if_pos, ↓if_neg, Int.reduceLE, Int.reduceLT, Int.reduceEq, Int.reduceAdd, s100_k hR k1 k2 (by omega) (by omega) d1 d2, m_re_0]
  · rw [if_neg d1]
    simp (disch := omega) only [g149_0, g149_1, g149_2, g149_4, g149_5, g149_8, g149_8b, g149_11, g149_12, g149_13, g149_14, g149_15, g149_16, g149_18, g149_19, g149_22, g149_23, g149_26, g149_27, g149_30, g149_31, g149_32, g149_33, g149_34, g149_35, g149_38, g149_38b, g149_41, g149_42, g149_45, g149_46, g149_49, g149_50, g149_53, g149_56, g149_57, g149_58, g149_61, g149_61b, g149_64, g149_65, g149_66, g149_67, g149_68, g149_69, g149_70, g149_73, g149_74, g149_75, g149_78, g149_78b, g149_81, g149_82, g149_85, g149_86, g149_89, g149_90, g149_93, g149_93b, g149_96, g149_97, g149_100, g149_102, g149_103, g149_106, g149_107, g149_108, g149_109, g149_110, g149_111, g149_112, g149_113, g149_114, g149_117, g149_118, mg_8, ma_8, ms_8, mg_5, ma_5, ms_5, mg_0, mp_0, mg_34, mp_34, mg_36, ma_36, ms_36, mg_37, ma_37, ms_37, Option.some.injEq, exists_eq_left', zkl_i, zkl_l, zkl_n, zkl_r, zkl_0, zc_v, zc_n, zc_t, zd_v, zd_n, mj_tg, true_and, ↓reduceIte, not_true_eq_false, not_false_eq_true, ↓if_pos, ↓if_neg, Int.reduceLE, Int.reduceLT, Int.reduceEq, Int.reduceAdd, s100_n hR k1 k2 d1, m_re_0]
end
