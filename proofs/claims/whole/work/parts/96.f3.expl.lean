/-! THE CLASS: the explorer tries a word, a store -/
def PX (T : Nat → Nat) (Ln : Nat → Int) (M : Nat → Int → Value) (A : Int → Nat) (W : Int → Int → Nat) (Y : zY) (k : Int) (pr ma : Nat) : Prop := (T pr = 3 ∧ M pr 1 = .ref (A (Y 5 k)) ∧ M pr 2 = .ref (A (Y 6 k)) ∧ M pr 3 = zi (Y 12 k)) ∧ ma = A (Y 5 (Y 5 k)) ∧ PG T Ln M A W Y (Y 5 k) ∧ PG T Ln M A W Y (Y 6 k) ∧ Y 5 (Y 6 k) = Y 5 (Y 5 k) ∧ (Y 12 k = 0 ∨ Y 12 k = 1)
/-- what a word makes of the trial -/
def pv (v : Int → Int) (w op d l r n bits pl wt : Int) : Int → Int := if op ≤ 3 then vu v (2 + w * 4 + d) (w_res op l r n % p2 bits) else if op = 4 then vu v (2 + w * 4 + d) (ld v w (l % pl)) else if op = 5 then (if wt = 1 then vu (vu (vu v (20 + w * 4 + 2 * v (18 + w)) (l % pl)) (20 + w * 4 + 2 * v (18 + w) + 1) r) (18 + w) (v (18 + w) + 1) else vu v (10 + l % pl) r) else v
def fo (op n l idx sz : Int) : Int := if op = 6 ∧ ¬ l = 0 then n % sz else if op = 7 ∨ sz ≤ idx + 1 then -1 else idx + 1
section
variable {T : Nat → Nat} {Ln : Nat → Int} {M M' : Nat → Int → Value} {t : Nat × Nat} {a b pr ma p m : Nat} {n i tl w wt op d x y nn l r bits pl idx sz : Int} {G : Int → Int → Int} {sl v : Int → Int} {W : Int → Nat} {Q : zU → zS → Prop}
theorem s7 (hb : XB T Ln M a pr ma) (hv : XV M a v) (lv : LV v) (w1 : w = 0 ∨ w = 1) (hp : T pr = 3) (hp3 : M pr 3 = zi wt) (hw : wt = 0 ∨ wt = 1) : z_go zP 7 0 [some (.ref a), some (zi w)] [] (hj T Ln M, t) Q ↔ Q (.inl (some (zi (bI (wt = 1 ∧ 2 ≤ v (18 + w)))))) (hj T Ln M, t) := by
  obtain ⟨⟨h1, h2, h3, h4, h5⟩, ⟨l1, l2, l3, l4⟩, ⟨m1, m2, m3, m4⟩, m5, m6⟩ := hb
  have e1 := hv (18 + w) (by omega) (by omega)
  have b1 := lv (18 + w)
  by_cases c1 : wt = 1
  · by_cases c2 : 2 ≤ v (18 + w)
    · rw [bI_t ⟨c1, c2⟩]
      simp (disch := omega) only [g7_0, g7_1, g7_4, g7_7, g7_7b, g7_10, g7_11, g7_14, g7_16, g7_17, g7_18, g7_19, g7_22, g7_26, g7_27, g7_30, g7_31_0, g7_31_1, g7_31b, Int.reduceToNat, jtg, mu_s, mu_n, mu_j, mn_s, mn_n, jg_1_4, jg_3_3, jg_1_3, jal, Option.some.injEq, exists_eq_left', zkl_i, zkl_l, zkl_n, zkl_r, zkl_0, zc_v, zc_n, zc_t, zd_v, zd_n, mj_tg, true_and, ↓reduceIte, not_true_eq_false, not_false_eq_true, ↓if_pos, ↓if_neg, Int.reduceLE, Int.reduceLT, Int.reduceEq, Int.reduceAdd, m4, m5, hp3, c1, e1]
    · rw [bI_f (fun hh => c2 hh.2)]
      simp (disch := omega) only [g7_0, g7_1, g7_4, g7_7, g7_7b, g7_10, g7_11, g7_14, g7_16, g7_17, g7_18, g7_19, g7_22, g7_26, g7_27, g7_30, g7_31_0, g7_31_1, g7_31b, Int.reduceToNat, jtg, mu_s, mu_n, mu_j, mn_s, mn_n, jg_1_4, jg_3_3, jg_1_3, jal, Option.some.injEq, exists_eq_left', zkl_i, zkl_l, zkl_n, zkl_r, zkl_0, zc_v, zc_n, zc_t, zd_v, zd_n, mj_tg, true_and, ↓reduceIte, not_true_eq_false, not_false_eq_true, ↓if_pos, ↓if_neg, Int.reduceLE, Int.reduceLT, Int.reduceEq, Int.reduceAdd, m4, m5, hp3, c1, e1]
  · have c3 : wt = 0 := by omega
    rw [bI_f (fun hh => c1 hh.1)]
    simp (disch := omega) only [g7_0, g7_1, g7_4, g7_7, g7_7b, g7_10, g7_11, g7_14, g7_16, g7_17, g7_18, g7_19, g7_22, g7_26, g7_27, g7_30, g7_31_0, g7_31_1, g7_31b, Int.reduceToNat, jtg, mu_s, mu_n, mu_j, mn_s, mn_n, jg_1_4, jg_3_3, jg_1_3, jal, Option.some.injEq, exists_eq_left', zkl_i, zkl_l, zkl_n, zkl_r, zkl_0, zc_v, zc_n, zc_t, zd_v, zd_n, mj_tg, true_and, ↓reduceIte, not_true_eq_false, not_false_eq_true, ↓if_pos, ↓if_neg, Int.reduceLE, Int.reduceLT, Int.reduceEq, Int.reduceAdd, m4, m5, hp3, c3]
theorem s9 (hp : PrAt T Ln M p m W sz) (hb : WdAt T M b op d x y nn) (o1 : 0 ≤ op) (o2 : op ≤ 7) (n1 : -2147483648 ≤ nn) (n2 : nn ≤ 2147483647) (z1 : 0 < sz) (z2 : sz ≤ 24) (l1 : 0 ≤ l) (l2 : l ≤ 4294967295) (i1 : 0 ≤ idx) (i2 : idx < sz) : z_go zP 9 0 [some (.ref p), some (.ref b), some (zi idx), some (zl l), none] [] (hj T Ln M, t) Q ↔ Q (.inl (some (zi (fo op nn l idx sz)))) (hj T Ln M, t) := by
  obtain ⟨⟨q1, q2, q3⟩, q4, q5, q6, q7, q8⟩ := id hp
  obtain ⟨w1, w3, w4, w5, w6, w7⟩ := id hb
  have h54 := fun (Q : zU → zS → Prop) => s54 (T := T) (Ln := Ln) (M := M) (t := t) (Q := Q) hb o1 o2 l1 l2
  have h34 := fun (Q : zU → zS → Prop) => s34 (T := T) (Ln := Ln) (M := M) (t := t) (Q := Q) hp hb z1 z2 n1 n2
  unfold fo
  by_cases c1 : op = 6 ∧ ¬ l = 0
  · rw [if_pos c1]
    simp (disch := omega) only [g9_0, g9_0n, g9_1, g9_2, g9_5, g9_5b, g9_8, g9_8n, g9_9, g9_9n, g9_10, g9_13, g9_14, g9_14n, g9_15, g9_18, g9_20, g9_23, g9_24, g9_25, g9_26, g9_26n, g9_27, g9_30, g9_33, g9_34, g9_37, g9_38, g9_39, g9_40, Int.reduceToNat, jtg, mu_s, mu_n, mu_j, mn_s, mn_n, jg_7_0, jg_4_3, Option.some.injEq, exists_eq_left', zkl_i, zkl_l, zkl_n, zkl_r, zkl_0, zc_v, zc_n, zc_t, zd_v, zd_n, mj_tg, true_and, ↓reduceIte, not_true_eq_false, not_false_eq_true, ↓if_pos, ↓if_neg, Int.reduceLE, Int.reduceLT, Int.reduceEq, Int.reduceAdd, h54, bI_t c1, h34]
  · rw [if_neg c1]
    by_cases c2 : op = 7
    · simp (disch := omega) only [g9_0, g9_0n, g9_1, g9_2, g9_5, g9_5b, g9_8, g9_8n, g9_9, g9_9n, g9_10, g9_13, g9_14, g9_14n, g9_15, g9_18, g9_20, g9_23, g9_24, g9_25, g9_26, g9_26n, g9_27, g9_30, g9_33, g9_34, g9_37, g9_38, g9_39, g9_40, Int.reduceToNat, jtg, mu_s, mu_n, mu_j, mn_s, mn_n, jg_7_0, jg_4_3, Option.some.injEq, exists_eq_left', zkl_i, zkl_l, zkl_n, zkl_r, zkl_0, zc_v, zc_n, zc_t, zd_v, zd_n, mj_tg, true_and, ↓reduceIte, not_true_eq_false, not_false_eq_true, ↓if_pos, ↓if_neg, Int.reduceLE, Int.reduceLT, Int.reduceEq, Int.reduceAdd, h54, bI_f c1, w3]
    · by_cases c3 : sz ≤ idx + 1
      · simp (disch := omega) only [g9_0, g9_0n, g9_1, g9_2, g9_5, g9_5b, g9_8, g9_8n, g9_9, g9_9n, g9_10, g9_13, g9_14, g9_14n, g9_15, g9_18, g9_20, g9_23, g9_24, g9_25, g9_26, g9_26n, g9_27, g9_30, g9_33, g9_34, g9_37, g9_38, g9_39, g9_40, Int.reduceToNat, jtg, mu_s, mu_n, mu_j, mn_s, mn_n, jg_7_0, jg_4_3, Option.some.injEq, exists_eq_left', zkl_i, zkl_l, zkl_n, zkl_r, zkl_0, zc_v, zc_n, zc_t, zd_v, zd_n, mj_tg, true_and, ↓reduceIte, not_true_eq_false, not_false_eq_true, ↓if_pos, ↓if_neg, Int.reduceLE, Int.reduceLT, Int.reduceEq, Int.reduceAdd, h54, bI_f c1, w3, q7]
      · simp (disch := omega) only [g9_0, g9_0n, g9_1, g9_2, g9_5, g9_5b, g9_8, g9_8n, g9_9, g9_9n, g9_10, g9_13, g9_14, g9_14n, g9_15, g9_18, g9_20, g9_23, g9_24, g9_25, g9_26, g9_26n, g9_27, g9_30, g9_33, g9_34, g9_37, g9_38, g9_39, g9_40, Int.reduceToNat, jtg, mu_s, mu_n, mu_j, mn_s, mn_n, jg_7_0, jg_4_3, Option.some.injEq, exists_eq_left', zkl_i, zkl_l, zkl_n, zkl_r, zkl_0, zc_v, zc_n, zc_t, zd_v, zd_n, mj_tg, true_and, ↓reduceIte, not_true_eq_false, not_false_eq_true, ↓if_pos, ↓if_neg, Int.reduceLE, Int.reduceLT, Int.reduceEq, Int.reduceAdd, h54, bI_f c1, w3, q7]
theorem s8 (hb : XB T Ln M a pr ma) (hv : XV M a v) (lv : LV v) (w1 : w = 0 ∨ w = 1) (hp : T pr = 3) (hp3 : M pr 3 = zi wt) (hwt : wt = 0 ∨ wt = 1) (hm : MaAt T M ma bits pl) (b1 : 0 ≤ bits) (b2 : bits ≤ 32) (p1 : 0 < pl) (p3 : pl ≤ 8) (hw : WdAt T M b op d x y nn) (o1 : 0 ≤ op) (o2 : op ≤ 7) (d1 : 0 ≤ d) (d2 : d ≤ 3) (n1 : -2147483648 ≤ nn) (n2 : nn ≤ 2147483647) (hl : 0 ≤ l ∧ l < p2 bits) (hr : 0 ≤ r ∧ r < p2 bits) (c1 : 0 ≤ v (18 + w)) (c2 : v (18 + w) ≤ 2) (c3 : op = 5 → wt = 1 → v (18 + w) ≤ 1) : ∃ M', (∀ Q : zU → zS → Prop, z_go zP 8 0 [some (.ref a), some (.ref b), some (zi w), some (zl l), none, some (zl r), none, none] [] (hj T Ln M, t) Q ↔ Q (.inl none) (hj T Ln M', t)) ∧ XV M' a (pv v w op d l r nn bits pl wt) ∧ ∀ b j, ¬ b = a + 4 → M' b j = M b j := by
  obtain ⟨⟨h1, h2, h3, h4, h5⟩, ⟨l1, l2, l3, l4⟩, ⟨m1, m2, m3, m4⟩, m5, m6⟩ := id hb
  obtain ⟨q1, q3, q4, q5, q6, q7⟩ := id hw
  obtain ⟨k1, k2, k3, k4⟩ := id hm
  have hm9 := mod_b (v := l) p1
  have h50 := fun (Q : zU → zS → Prop) => s50 (T := T) (Ln := Ln) (M := M) (t := t) (Q := Q) hw o1 o2
  have h55 := fun (Q : zU → zS → Prop) => s55 (T := T) (Ln := Ln) (M := M) (t := t) (Q := Q) (v := l) (w := r) hw o1 o2 n1 n2
  have h24 := fun (z : Int) (Q : zU → zS → Prop) => s24 (T := T) (Ln := Ln) (M := M) (t := t) (Q := Q) (v := z) hm b1 b2
  have h25 := fun (Q : zU → zS → Prop) => s25 (T := T) (Ln := Ln) (M := M) (t := t) (Q := Q) (v := l) hm b1 b2 p1 p3 hl.1 hl.2
  unfold pv
  by_cases e1 : op ≤ 3
  · rw [if_pos e1]
    refine ⟨mu M (a + 4) (2 + w * 4 + d) (zl (w_res op l r nn % p2 bits)), fun Q => ?_, XV_u hv, fun b j hbj => mu_n hbj⟩
    simp (disch := omega) only [g8_0, g8_1, g8_2, g8_3, g8_4, g8_5, g8_5n, g8_6, g8_9, g8_10, g8_12, g8_12n, g8_13, g8_16, g8_16b, g8_19, g8_20, g8_23, g8_25, g8_26, g8_29, g8_29n, g8_30, g8_31, g8_33, g8_36, g8_39, g8_40, g8_43, g8_43n, g8_44, g8_47, g8_48, g8_51, g8_52, g8_55, g8_57, g8_58, g8_59, g8_60, g8_63, g8_64, g8_67, g8_70, g8_71, g8_74, g8_74n, g8_75, g8_78, g8_79, g8_82, g8_83, g8_86, g8_89, g8_89b, g8_92, g8_93, g8_94, g8_95, g8_98, g8_99, g8_102, g8_104, g8_107, g8_110, g8_110n, g8_111, g8_114, g8_115, g8_118, g8_119, g8_122, g8_124, g8_125, g8_128, g8_129, g8_132, g8_133, g8_135, g8_136, Int.reduceToNat, jtg, mu_s, mu_n, mu_j, mn_s, mn_n, jg_7_1, jg_1_3, jg_1_5, jsl, jg_7_0, jg_1_4, jg_3_3, Option.some.injEq, exists_eq_left', zkl_i, zkl_l, zkl_n, zkl_r, zkl_0, zc_v, zc_n, zc_t, zd_v, zd_n, mj_tg, true_and, ↓reduceIte, not_true_eq_false, not_false_eq_true, ↓if_pos, ↓if_neg, Int.reduceLE, Int.reduceLT, Int.reduceEq, Int.reduceAdd, q4, h50, bI_t e1, m4, m6, h55, h24]
  · rw [if_neg e1]
    by_cases e2 : op = 4
    · rw [if_pos e2]
      have h10 := fun (Q : zU → zS → Prop) => s10 (t := t) (Q := Q) (p := l % pl) hb hv lv w1 (by omega) (by omega) c1 c2
      refine ⟨mu M (a + 4) (2 + w * 4 + d) (zl (ld v w (l % pl))), fun Q => ?_, XV_u hv, fun b j hbj => mu_n hbj⟩
      simp (disch := omega) only [g8_0, g8_1, g8_2, g8_3, g8_4, g8_5, g8_5n, g8_6, g8_9, g8_10, g8_12, g8_12n, g8_13, g8_16, g8_16b, g8_19, g8_20, g8_23, g8_25, g8_26, g8_29, g8_29n, g8_30, g8_31, g8_33, g8_36, g8_39, g8_40, g8_43, g8_43n, g8_44, g8_47, g8_48, g8_51, g8_52, g8_55, g8_57, g8_58, g8_59, g8_60, g8_63, g8_64, g8_67, g8_70, g8_71, g8_74, g8_74n, g8_75, g8_78, g8_79, g8_82, g8_83, g8_86, g8_89, g8_89b, g8_92, g8_93, g8_94, g8_95, g8_98, g8_99, g8_102, g8_104, g8_107, g8_110, g8_110n, g8_111, g8_114, g8_115, g8_118, g8_119, g8_122, g8_124, g8_125, g8_128, g8_129, g8_132, g8_133, g8_135, g8_136, Int.reduceToNat, jtg, mu_s, mu_n, mu_j, mn_s, mn_n, jg_7_1, jg_1_3, jg_1_5, jsl, jg_7_0, jg_1_4, jg_3_3, Option.some.injEq, exists_eq_left', zkl_i, zkl_l, zkl_n, zkl_r, zkl_0, zc_v, zc_n, zc_t, zd_v, zd_n, mj_tg, true_and, ↓reduceIte, not_true_eq_false, not_false_eq_true, ↓if_pos, ↓if_neg, Int.reduceLE, Int.reduceLT, Int.reduceEq, Int.reduceAdd, q3, q4, h50, bI_f e1, m4, m6, h25, h10]
    · rw [if_neg e2]
      by_cases e3 : op = 5
      · rw [if_pos e3]
        by_cases e4 : wt = 1
        · rw [if_pos e4]
          have h11 := fun (Q : zU → zS → Prop) => s11 (t := t) (Q := Q) (p := l % pl) (x := r) hb hv (by omega) (by omega) w1 c1 (c3 e3 e4)
          refine ⟨_, fun Q => ?_, XV_u (XV_u (XV_u hv)), fun b j hbj => by rw [mu_n hbj, mu_n hbj, mu_n hbj]⟩
          simp (disch := omega) only [g8_0, g8_1, g8_2, g8_3, g8_4, g8_5, g8_5n, g8_6, g8_9, g8_10, g8_12, g8_12n, g8_13, g8_16, g8_16b, g8_19, g8_20, g8_23, g8_25, g8_26, g8_29, g8_29n, g8_30, g8_31, g8_33, g8_36, g8_39, g8_40, g8_43, g8_43n, g8_44, g8_47, g8_48, g8_51, g8_52, g8_55, g8_57, g8_58, g8_59, g8_60, g8_63, g8_64, g8_67, g8_70, g8_71, g8_74, g8_74n, g8_75, g8_78, g8_79, g8_82, g8_83, g8_86, g8_89, g8_89b, g8_92, g8_93, g8_94, g8_95, g8_98, g8_99, g8_102, g8_104, g8_107, g8_110, g8_110n, g8_111, g8_114, g8_115, g8_118, g8_119, g8_122, g8_124, g8_125, g8_128, g8_129, g8_132, g8_133, g8_135, g8_136, Int.reduceToNat, jtg, mu_s, mu_n, mu_j, mn_s, mn_n, jg_7_1, jg_1_3, jg_1_5, jsl, jg_7_0, jg_1_4, jg_3_3, Option.some.injEq, exists_eq_left', zkl_i, zkl_l, zkl_n, zkl_r, zkl_0, zc_v, zc_n, zc_t, zd_v, zd_n, mj_tg, true_and, ↓reduceIte, not_true_eq_false, not_false_eq_true, ↓if_pos, ↓if_neg, Int.reduceLE, Int.reduceLT, Int.reduceEq, Int.reduceAdd, q3, q4, h50, bI_f e1, m5, m6, hp3, h25, h11]
        · rw [if_neg e4]
          have e5 : wt = 0 := by omega
          refine ⟨mu M (a + 4) (10 + l % pl) (zl r), fun Q => ?_, XV_u hv, fun b j hbj => mu_n hbj⟩
          simp (disch := omega) only [g8_0, g8_1, g8_2, g8_3, g8_4, g8_5, g8_5n, g8_6, g8_9, g8_10, g8_12, g8_12n, g8_13, g8_16, g8_16b, g8_19, g8_20, g8_23, g8_25, g8_26, g8_29, g8_29n, g8_30, g8_31, g8_33, g8_36, g8_39, g8_40, g8_43, g8_43n, g8_44, g8_47, g8_48, g8_51, g8_52, g8_55, g8_57, g8_58, g8_59, g8_60, g8_63, g8_64, g8_67, g8_70, g8_71, g8_74, g8_74n, g8_75, g8_78, g8_79, g8_82, g8_83, g8_86, g8_89, g8_89b, g8_92, g8_93, g8_94, g8_95, g8_98, g8_99, g8_102, g8_104, g8_107, g8_110, g8_110n, g8_111, g8_114, g8_115, g8_118, g8_119, g8_122, g8_124, g8_125, g8_128, g8_129, g8_132, g8_133, g8_135, g8_136, Int.reduceToNat, jtg, mu_s, mu_n, mu_j, mn_s, mn_n, jg_7_1, jg_1_3, jg_1_5, jsl, jg_7_0, jg_1_4, jg_3_3, Option.some.injEq, exists_eq_left', zkl_i, zkl_l, zkl_n, zkl_r, zkl_0, zc_v, zc_n, zc_t, zd_v, zd_n, mj_tg, true_and, ↓reduceIte, not_true_eq_false, not_false_eq_true, ↓if_pos, ↓if_neg, Int.reduceLE, Int.reduceLT, Int.reduceEq, Int.reduceAdd, q3, q4, h50, bI_f e1, m4, m5, m6, hp3, e5, h25]
      · rw [if_neg e3]
        refine ⟨M, fun Q => ?_, hv, fun _ _ _ => rfl⟩
        simp (disch := omega) only [g8_0, g8_1, g8_2, g8_3, g8_4, g8_5, g8_5n, g8_6, g8_9, g8_10, g8_12, g8_12n, g8_13, g8_16, g8_16b, g8_19, g8_20, g8_23, g8_25, g8_26, g8_29, g8_29n, g8_30, g8_31, g8_33, g8_36, g8_39, g8_40, g8_43, g8_43n, g8_44, g8_47, g8_48, g8_51, g8_52, g8_55, g8_57, g8_58, g8_59, g8_60, g8_63, g8_64, g8_67, g8_70, g8_71, g8_74, g8_74n, g8_75, g8_78, g8_79, g8_82, g8_83, g8_86, g8_89, g8_89b, g8_92, g8_93, g8_94, g8_95, g8_98, g8_99, g8_102, g8_104, g8_107, g8_110, g8_110n, g8_111, g8_114, g8_115, g8_118, g8_119, g8_122, g8_124, g8_125, g8_128, g8_129, g8_132, g8_133, g8_135, g8_136, Int.reduceToNat, jtg, mu_s, mu_n, mu_j, mn_s, mn_n, jg_7_1, jg_1_3, jg_1_5, jsl, jg_7_0, jg_1_4, jg_3_3, Option.some.injEq, exists_eq_left', zkl_i, zkl_l, zkl_n, zkl_r, zkl_0, zc_v, zc_n, zc_t, zd_v, zd_n, mj_tg, true_and, ↓reduceIte, not_true_eq_false, not_false_eq_true, ↓if_pos, ↓if_neg, Int.reduceLE, Int.reduceLT, Int.reduceEq, Int.reduceAdd, q3, q4, h50, bI_f e1]
end
