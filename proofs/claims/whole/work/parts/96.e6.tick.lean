/-! THE CLASS: a cycle -/
theorem iand_m (v : Int) (n : Nat) (hn : n ≤ 16) : iand v ((2 : Int) ^ n - 1) = v % (2 : Int) ^ n := by
  unfold iand
  have hp : (2 : Nat) ^ n ≤ 2 ^ 16 := Nat.pow_le_pow_right (by decide) hn
  have hp1 : 0 < (2 : Nat) ^ n := Nat.pow_pos (by decide)
  have hcast : ((2 : Int) ^ n) = (((2 : Nat) ^ n : Nat) : Int) := by simp
  have hm : ((2 : Int) ^ n - 1) = (((2 : Nat) ^ n - 1 : Nat) : Int) := by rw [hcast]; omega
  show (Int32.ofInt v &&& Int32.ofInt ((2 : Int) ^ n - 1)).toBitVec.toInt = _
  rw [Int32.toBitVec_and, Int32.toBitVec_ofInt, Int32.toBitVec_ofInt]
  have hnat : (BitVec.ofInt 32 v &&& BitVec.ofInt 32 ((2 : Int) ^ n - 1)).toNat = (v % (2 : Int) ^ n).toNat := by
    rw [BitVec.toNat_and, ofInt_nat, ofInt_nat, hm]
    have e1 : ((((2 : Nat) ^ n - 1 : Nat) : Int) % ((2 ^ 32 : Nat) : Int)).toNat = 2 ^ n - 1 := by
      have : (2 : Nat) ^ n - 1 < 2 ^ 32 := by omega
      omega
    rw [e1, Nat.and_two_pow_sub_one_eq_mod]
    have hd : ((2 : Nat) ^ n) ∣ 2 ^ 32 := Nat.pow_dvd_pow 2 (by omega)
    have h3 : (v % ((2 ^ 32 : Nat) : Int)) % (((2 : Nat) ^ n : Nat) : Int) = v % (((2 : Nat) ^ n : Nat) : Int) := Int.emod_emod_of_dvd v (Int.natCast_dvd_natCast.mpr hd)
    rw [hcast, ← h3]
    have h4 : 0 ≤ v % ((2 ^ 32 : Nat) : Int) := Int.emod_nonneg _ (by decide)
    generalize v % ((2 ^ 32 : Nat) : Int) = w at h4
    obtain ⟨m, rfl⟩ := Int.eq_ofNat_of_zero_le h4
    rw [← Int.natCast_emod, Int.toNat_natCast, Int.toNat_natCast]
  have hlt : v % (2 : Int) ^ n < (2 : Int) ^ n := Int.emod_lt_of_pos _ (by rw [hcast]; omega)
  have hge : 0 ≤ v % (2 : Int) ^ n := Int.emod_nonneg _ (by rw [hcast]; omega)
  rw [BitVec.toInt_eq_toNat_of_lt (by rw [hnat]; omega), hnat]
  omega
theorem iand_15 {v : Int} : iand v 15 = v % 16 := iand_m v 4 (by decide)
theorem iand_4095 {v : Int} : iand v 4095 = v % 4096 := iand_m v 12 (by decide)
/-- what an entry writes -/
def eM (M : Nat → Int → Value) (a : Nat) (t le ba lp ll bb op d rd st ln : Int) : Nat → Int → Value := mu (if op ≤ 4 then mu (mu (mu (mu (mu M a 7 (zi (lp + ba))) a 8 (zi (ll + (t - le - 1 - ba)))) a 5 (zi t)) a 6 (zi bb)) (a + 1) d (zi (t + 1 + rd)) else mu (mu (mu (mu M a 7 (zi (lp + ba))) a 8 (zi (ll + (t - le - 1 - ba)))) a 5 (zi t)) a 6 (zi bb)) (a + 2) (st % 16) (zi (t + ln))
section
variable {T : Nat → Nat} {Ln : Nat → Int} {M M' : Nat → Int → Value} {tt : Nat × Nat} {a b w cr p m : Nat} {le ba op d x y n t lp ll st ln lg ld pe bb rd nx en pl : Int} {R N : Int → Int} {W : Int → Nat} {Q : zU → zS → Prop}
theorem s37_y (hr : RnAt T Ln M b p pl N nx st en) (he : en = 1) : z_go zP 37 0 [some (.ref b)] [] (hj T Ln M, tt) Q ↔ Q (.inl (some .null)) (hj T Ln M, tt) := by
  obtain ⟨⟨r1, -⟩, -, -, -, -, -, -, r12, -⟩ := hr
  rw [he] at r12
  simp (disch := omega) only [g37_0, g37_1, g37_4, g37_4b, g37_7, g37_8, g37_11, g37_12, g37_15, g37_16, g37_19, g37_22, g37_22n, Int.reduceToNat, jtg, mu_s, mu_n, mu_j, mn_s, mn_n, jg_5_6, jg_5_1, jg_5_4, Option.some.injEq, exists_eq_left', zkl_i, zkl_l, zkl_n, zkl_r, zkl_0, zc_v, zc_n, zc_t, zd_v, zd_n, mj_tg, true_and, ↓reduceIte, not_true_eq_false, not_false_eq_true, ↓if_pos, ↓if_neg, Int.reduceLE, Int.reduceLT, Int.reduceEq, Int.reduceAdd, r12]
theorem s37_n (hr : RnAt T Ln M b p pl N nx st en) {ww : Int} (hp : PrAt T Ln M p m W ww) (he : en = 0) (w2 : ww ≤ 24) (n1 : 0 ≤ nx) (n2 : nx < ww) : z_go zP 37 0 [some (.ref b)] [] (hj T Ln M, tt) Q ↔ Q (.inl (some (.ref (W nx)))) (hj T Ln M, tt) := by
  obtain ⟨⟨r1, -⟩, -, r7, -, -, r10, -, r12, -⟩ := hr
  have q1 := hp.1.1
  have h33 := fun (Q : zU → zS → Prop) => s33_y (T := T) (Ln := Ln) (M := M) (t := tt) (Q := Q) hp w2 n1 n2
  rw [he] at r12
  simp (disch := omega) only [g37_0, g37_1, g37_4, g37_4b, g37_7, g37_8, g37_11, g37_12, g37_15, g37_16, g37_19, g37_22, g37_22n, Int.reduceToNat, jtg, mu_s, mu_n, mu_j, mn_s, mn_n, jg_5_6, jg_5_1, jg_5_4, Option.some.injEq, exists_eq_left', zkl_i, zkl_l, zkl_n, zkl_r, zkl_0, zc_v, zc_n, zc_t, zd_v, zd_n, mj_tg, true_and, ↓reduceIte, not_true_eq_false, not_false_eq_true, ↓if_pos, ↓if_neg, Int.reduceLE, Int.reduceLT, Int.reduceEq, Int.reduceAdd, r12, r7, r10, h33]
theorem s45 (h0 : T a = 6) (h1 : T (a + 1) = 100) (h2 : Ln (a + 1) = 4) (m5 : M a 5 = zi le) (m6 : M a 6 = zi ba) (m9 : M a 9 = .ref (a + 1)) (hr : ∀ j, 0 ≤ j → j < 4 → M (a + 1) j = zi (R j)) (l1 : 0 ≤ le ∧ le ≤ 100000000) (l2 : 0 ≤ ba ∧ ba ≤ 8) (l3 : ∀ j, 0 ≤ R j ∧ R j ≤ 200000000) (hw : WdAt T M w op d x y n) (o1 : 0 ≤ op) (o2 : op ≤ 7) (x1 : 0 ≤ x) (x2 : x ≤ 3) (y1 : 0 ≤ y) (y2 : y ≤ 3) : z_go zP 45 0 [some (.ref a), some (.ref w), none] [] (hj T Ln M, tt) Q ↔ Q (.inl (some (zi (if (op = 5 ∨ (¬ op = 0 ∧ op ≤ 3)) ∧ (if (¬ op = 0 ∧ ¬ op = 7) ∧ le + 1 + ba < R x then R x else le + 1 + ba) < R y then R y else if (¬ op = 0 ∧ ¬ op = 7) ∧ le + 1 + ba < R x then R x else le + 1 + ba)))) (hj T Ln M, tt) := by
  have e1 := hr x x1 (by omega)
  have e2 := hr y y1 (by omega)
  have b1 := l3 x
  have b2 := l3 y
  obtain ⟨w1, w2, w3, w4, w5, w6⟩ := id hw
  have h52 := fun (Q : zU → zS → Prop) => s52 (T := T) (Ln := Ln) (M := M) (t := tt) (Q := Q) hw o1 o2
  have h53 := fun (Q : zU → zS → Prop) => s53 (T := T) (Ln := Ln) (M := M) (t := tt) (Q := Q) hw o1 o2
  by_cases A : ¬ op = 0 ∧ ¬ op = 7 <;> by_cases B : op = 5 ∨ (¬ op = 0 ∧ op ≤ 3) <;> by_cases C : le + 1 + ba < R x <;> by_cases D : R x < R y <;> by_cases E : le + 1 + ba < R y
  all_goals first | (exfalso; omega) | simp (disch := omega) only [g45_0, g45_1, g45_4, g45_5, g45_6, g45_7, g45_10, g45_11, g45_12, g45_12n, g45_13, g45_16, g45_16b, g45_19, g45_20, g45_21, g45_24, g45_24n, g45_25, g45_28, g45_29, g45_32, g45_33, g45_33n, g45_34, g45_37, g45_37b, g45_40, g45_41, g45_42, g45_45, g45_45n, g45_46, g45_49, g45_50, g45_53, g45_54, g45_55, Int.reduceToNat, jtg, mu_s, mu_n, mu_j, mn_s, mn_n, jg_6_5, jg_6_6, jg_6_9, jg_7_2, jai, jg_7_3, Option.some.injEq, exists_eq_left', zkl_i, zkl_l, zkl_n, zkl_r, zkl_0, zc_v, zc_n, zc_t, zd_v, zd_n, mj_tg, true_and, ↓reduceIte, not_true_eq_false, not_false_eq_true, ↓if_pos, ↓if_neg, Int.reduceLE, Int.reduceLT, Int.reduceEq, Int.reduceAdd, h52, h53, bI_t, bI_f, m5, m6, m9, w4, w5, e1, e2, s155]
theorem s46 (h0 : T a = 6) (h1 : T (a + 1) = 100) (h2 : Ln (a + 1) = 4) (h3 : T (a + 2) = 100) (h4 : Ln (a + 2) = 16) (m1 : M a 1 = .ref cr) (m2 : M a 2 = .ref b) (m4 : M a 4 = zi t) (m5 : M a 5 = zi le) (m6 : M a 6 = zi ba) (m7 : M a 7 = zi lp) (m8 : M a 8 = zi ll) (m9 : M a 9 = .ref (a + 1)) (m10 : M a 10 = .ref (a + 2)) (c0 : T cr = 0) (c2 : M cr 2 = zi ln) (c3 : M cr 3 = zi lg) (c4 : M cr 4 = zi ld) (c5 : M cr 5 = zi pe) (r1 : T b = 5) (r2 : T (b + 1) = 101) (r4 : Ln (b + 1) = 4) (r8 : M b 2 = .ref (b + 1)) (r11 : M b 5 = zi st) (r13 : ∀ j, 0 ≤ j → j < 4 → M (b + 1) j = zl (N j)) (hw : WdAt T M w op d x y n) (o1 : 0 ≤ op) (o2 : op ≤ 7) (d1 : 0 ≤ d) (d2 : d ≤ 3) (x1 : 0 ≤ x) (x2 : x ≤ 3) (hN : ∀ j, 0 ≤ N j ∧ N j ≤ 4294967295) (t1 : 0 ≤ t ∧ t ≤ 100000000) (l1 : 0 ≤ le ∧ le ≤ 100000000) (l2 : 0 ≤ ba ∧ ba ≤ 8) (l3 : 0 ≤ lp ∧ lp ≤ 100000000) (l4 : 0 ≤ ll ∧ ll ≤ 100000000) (l5 : 0 ≤ ln ∧ ln ≤ 8) (l6 : 0 ≤ lg ∧ lg ≤ 8) (l7 : 0 ≤ ld ∧ ld ≤ 8) (l8 : 0 ≤ pe ∧ pe ≤ 8) (s1 : 0 ≤ st ∧ st ≤ 100000000) (hbb : bb = if op = 6 ∧ ¬ N x = 0 then pe else 0) (hrd : rd = if op = 4 then ld else lg) (hadv : ∀ Q : zU → zS → Prop, z_go zP 38 0 [some (.ref b), none, none, none] [] (hj T Ln (eM M a t le ba lp ll bb op d rd st ln), tt) Q ↔ Q (.inl none) (hj T Ln M', tt)) : z_go zP 46 0 [some (.ref a), some (.ref w)] [] (hj T Ln M, tt) Q ↔ Q (.inl none) (hj T Ln M', tt) := by
  obtain ⟨w1, w2, w3, w4, w5, w6⟩ := id hw
  have e1 := r13 x x1 (by omega)
  have b1 := hN x
  have n1 := tne w1 h0 (by decide)
  have n2 := tne c0 h0 (by decide)
  have n3 := tne r1 h0 (by decide)
  have n4 := tne r2 h0 (by decide)
  have n5 := tne w1 h1 (by decide)
  have n6 := tne c0 h1 (by decide)
  have n7 := tne r1 h1 (by decide)
  have n8 : ¬ a = a + 1 := by omega
  have fr : ∀ M2 : Nat → Int → Value, (∀ j, M2 w j = M w j) → WdAt T M2 w op d x y n := fun M2 h2 => ⟨w1, by rw [h2]; exact w2, by rw [h2]; exact w3, by rw [h2]; exact w4, by rw [h2]; exact w5, by rw [h2]; exact w6⟩
  have hw1 : WdAt T (mu (mu (mu M a 7 (zi (lp + ba))) a 8 (zi (ll + (t - le - 1 - ba)))) a 5 (zi t)) w op d x y n := fr _ (fun j => by rw [mu_n n1, mu_n n1, mu_n n1])
  have hw2 : WdAt T (mu (mu (mu (mu M a 7 (zi (lp + ba))) a 8 (zi (ll + (t - le - 1 - ba)))) a 5 (zi t)) a 6 (zi bb)) w op d x y n := fr _ (fun j => by rw [mu_n n1, mu_n n1, mu_n n1, mu_n n1])
  have h54 := fun (Q : zU → zS → Prop) => s54 (Ln := Ln) (t := tt) (Q := Q) hw1 o1 o2 b1.1 b1.2
  have h51 := fun (Q : zU → zS → Prop) => s51 (Ln := Ln) (t := tt) (Q := Q) hw2 o1 o2
  by_cases B : op ≤ 4
  · have e9 : eM M a t le ba lp ll bb op d rd st ln = mu (mu (mu (mu (mu (mu M a 7 (zi (lp + ba))) a 8 (zi (ll + (t - le - 1 - ba)))) a 5 (zi t)) a 6 (zi bb)) (a + 1) d (zi (t + 1 + rd))) (a + 2) (st % 16) (zi (t + ln)) := by unfold eM; rw [if_pos B]
    rw [e9] at hadv
    have g : ¬ (op = 6 ∧ ¬ N x = 0) := by omega
    rw [if_neg g] at hbb
    subst hbb
    by_cases C : op = 4
    · rw [if_pos C] at hrd
      subst hrd
      simp (disch := omega) only [g46_0, g46_1, g46_1i, g46_2, g46_5, g46_6, g46_9, g46_10, g46_13, g46_14, g46_14i, g46_15, g46_18, g46_19, g46_22, g46_23, g46_26, g46_27, g46_28, g46_29, g46_30, g46_33, g46_34, g46_35, g46_38, g46_39, g46_40, g46_43, g46_46, g46_47, g46_47n, g46_48, g46_49, g46_52, g46_55, g46_55n, g46_56, g46_59, g46_60, g46_63, g46_63b, g46_66, g46_67, g46_70, g46_73, g46_76, g46_77, g46_80, g46_80n, g46_81, g46_84, g46_84b, g46_87, g46_88, g46_91, g46_91n, g46_92, g46_95, g46_96, g46_99, g46_100, g46_101, g46_101n, g46_102, g46_105, g46_106, g46_109, g46_110, g46_113, g46_116, g46_119, g46_120, g46_123, g46_126, g46_127, g46_128, g46_129, g46_132, g46_133, g46_136, g46_139, g46_141, g46_142, g46_143, g46_146, g46_147, g46_150, g46_153, g46_154, g46_155, g46_156, g46_159, g46_162, Int.reduceToNat, jtg, mu_s, mu_n, mu_j, mn_s, mn_n, jg_6_7, jg_6_6, jp_6_7, jg_6_8, jg_6_4, jg_6_5, jp_6_8, jp_6_5, jg_6_2, jg_5_2, jg_7_2, jal, jg_6_1, jg_0_5, jp_6_6, jg_6_9, jg_7_1, jg_7_0, jg_0_4, jg_0_3, jsi, jg_6_10, jg_5_5, jg_0_2, Option.some.injEq, exists_eq_left', zkl_i, zkl_l, zkl_n, zkl_r, zkl_0, zc_v, zc_n, zc_t, zd_v, zd_n, mj_tg, true_and, ↓reduceIte, not_true_eq_false, not_false_eq_true, ↓if_pos, ↓if_neg, Int.reduceLE, Int.reduceLT, Int.reduceEq, Int.reduceAdd, m1, m2, m4, m5, m6, m7, m8, m9, m10, c2, c3, c4, c5, r8, r11, w2, w3, w4, e1, h54, bI_f g, h51, bI_t B, iand_15, hadv]
    · rw [if_neg C] at hrd
      subst hrd
      simp (disch := omega) only [g46_0, g46_1, g46_1i, g46_2, g46_5, g46_6, g46_9, g46_10, g46_13, g46_14, g46_14i, g46_15, g46_18, g46_19, g46_22, g46_23, g46_26, g46_27, g46_28, g46_29, g46_30, g46_33, g46_34, g46_35, g46_38, g46_39, g46_40, g46_43, g46_46, g46_47, g46_47n, g46_48, g46_49, g46_52, g46_55, g46_55n, g46_56, g46_59, g46_60, g46_63, g46_63b, g46_66, g46_67, g46_70, g46_73, g46_76, g46_77, g46_80, g46_80n, g46_81, g46_84, g46_84b, g46_87, g46_88, g46_91, g46_91n, g46_92, g46_95, g46_96, g46_99, g46_100, g46_101, g46_101n, g46_102, g46_105, g46_106, g46_109, g46_110, g46_113, g46_116, g46_119, g46_120, g46_123, g46_126, g46_127, g46_128, g46_129, g46_132, g46_133, g46_136, g46_139, g46_141, g46_142, g46_143, g46_146, g46_147, g46_150, g46_153, g46_154, g46_155, g46_156, g46_159, g46_162, Int.reduceToNat, jtg, mu_s, mu_n, mu_j, mn_s, mn_n, jg_6_7, jg_6_6, jp_6_7, jg_6_8, jg_6_4, jg_6_5, jp_6_8, jp_6_5, jg_6_2, jg_5_2, jg_7_2, jal, jg_6_1, jg_0_5, jp_6_6, jg_6_9, jg_7_1, jg_7_0, jg_0_4, jg_0_3, jsi, jg_6_10, jg_5_5, jg_0_2, Option.some.injEq, exists_eq_left', zkl_i, zkl_l, zkl_n, zkl_r, zkl_0, zc_v, zc_n, zc_t, zd_v, zd_n, mj_tg, true_and, ↓reduceIte, not_true_eq_false, not_false_eq_true, ↓if_pos, ↓if_neg, Int.reduceLE, Int.reduceLT, Int.reduceEq, Int.reduceAdd, m1, m2, m4, m5, m6, m7, m8, m9, m10, c2, c3, c4, c5, r8, r11, w2, w3, w4, e1, h54, bI_f g, h51, bI_t B, iand_15, hadv]
  · have e9 : eM M a t le ba lp ll bb op d rd st ln = mu (mu (mu (mu (mu M a 7 (zi (lp + ba))) a 8 (zi (ll + (t - le - 1 - ba)))) a 5 (zi t)) a 6 (zi bb)) (a + 2) (st % 16) (zi (t + ln)) := by unfold eM; rw [if_neg B]
    rw [e9] at hadv
    by_cases g : op = 6 ∧ ¬ N x = 0
    · rw [if_pos g] at hbb
      subst hbb
      simp (disch := omega) only [g46_0, g46_1, g46_1i, g46_2, g46_5, g46_6, g46_9, g46_10, g46_13, g46_14, g46_14i, g46_15, g46_18, g46_19, g46_22, g46_23, g46_26, g46_27, g46_28, g46_29, g46_30, g46_33, g46_34, g46_35, g46_38, g46_39, g46_40, g46_43, g46_46, g46_47, g46_47n, g46_48, g46_49, g46_52, g46_55, g46_55n, g46_56, g46_59, g46_60, g46_63, g46_63b, g46_66, g46_67, g46_70, g46_73, g46_76, g46_77, g46_80, g46_80n, g46_81, g46_84, g46_84b, g46_87, g46_88, g46_91, g46_91n, g46_92, g46_95, g46_96, g46_99, g46_100, g46_101, g46_101n, g46_102, g46_105, g46_106, g46_109, g46_110, g46_113, g46_116, g46_119, g46_120, g46_123, g46_126, g46_127, g46_128, g46_129, g46_132, g46_133, g46_136, g46_139, g46_141, g46_142, g46_143, g46_146, g46_147, g46_150, g46_153, g46_154, g46_155, g46_156, g46_159, g46_162, Int.reduceToNat, jtg, mu_s, mu_n, mu_j, mn_s, mn_n, jg_6_7, jg_6_6, jp_6_7, jg_6_8, jg_6_4, jg_6_5, jp_6_8, jp_6_5, jg_6_2, jg_5_2, jg_7_2, jal, jg_6_1, jg_0_5, jp_6_6, jg_6_9, jg_7_1, jg_7_0, jg_0_4, jg_0_3, jsi, jg_6_10, jg_5_5, jg_0_2, Option.some.injEq, exists_eq_left', zkl_i, zkl_l, zkl_n, zkl_r, zkl_0, zc_v, zc_n, zc_t, zd_v, zd_n, mj_tg, true_and, ↓reduceIte, not_true_eq_false, not_false_eq_true, ↓if_pos, ↓if_neg, Int.reduceLE, Int.reduceLT, Int.reduceEq, Int.reduceAdd, m1, m2, m4, m5, m6, m7, m8, m9, m10, c2, c3, c4, c5, r8, r11, w2, w3, w4, e1, h54, bI_t g, h51, bI_f B, iand_15, hadv]
    · rw [if_neg g] at hbb
      subst hbb
      simp (disch := omega) only [g46_0, g46_1, g46_1i, g46_2, g46_5, g46_6, g46_9, g46_10, g46_13, g46_14, g46_14i, g46_15, g46_18, g46_19, g46_22, g46_23, g46_26, g46_27, g46_28, g46_29, g46_30, g46_33, g46_34, g46_35, g46_38, g46_39, g46_40, g46_43, g46_46, g46_47, g46_47n, g46_48, g46_49, g46_52, g46_55, g46_55n, g46_56, g46_59, g46_60, g46_63, g46_63b, g46_66, g46_67, g46_70, g46_73, g46_76, g46_77, g46_80, g46_80n, g46_81, g46_84, g46_84b, g46_87, g46_88, g46_91, g46_91n, g46_92, g46_95, g46_96, g46_99, g46_100, g46_101, g46_101n, g46_102, g46_105, g46_106, g46_109, g46_110, g46_113, g46_116, g46_119, g46_120, g46_123, g46_126, g46_127, g46_128, g46_129, g46_132, g46_133, g46_136, g46_139, g46_141, g46_142, g46_143, g46_146, g46_147, g46_150, g46_153, g46_154, g46_155, g46_156, g46_159, g46_162, Int.reduceToNat, jtg, mu_s, mu_n, mu_j, mn_s, mn_n, jg_6_7, jg_6_6, jp_6_7, jg_6_8, jg_6_4, jg_6_5, jp_6_8, jp_6_5, jg_6_2, jg_5_2, jg_7_2, jal, jg_6_1, jg_0_5, jp_6_6, jg_6_9, jg_7_1, jg_7_0, jg_0_4, jg_0_3, jsi, jg_6_10, jg_5_5, jg_0_2, Option.some.injEq, exists_eq_left', zkl_i, zkl_l, zkl_n, zkl_r, zkl_0, zc_v, zc_n, zc_t, zd_v, zd_n, mj_tg, true_and, ↓reduceIte, not_true_eq_false, not_false_eq_true, ↓if_pos, ↓if_neg, Int.reduceLE, Int.reduceLT, Int.reduceEq, Int.reduceAdd, m1, m2, m4, m5, m6, m7, m8, m9, m10, c2, c3, c4, c5, r8, r11, w2, w3, w4, e1, h54, bI_f g, h51, bI_f B, iand_15, hadv]
end
