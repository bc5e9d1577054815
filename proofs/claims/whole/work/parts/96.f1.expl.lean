/-! THE CLASS: the explorer's small methods -/
/-- a piece of one row is copied -/
def mc (M : Nat → Int → Value) (u : Nat) (c : Int) (v : Nat) (d e : Int) : Nat → Int → Value := fun b j => if b = v ∧ d ≤ j ∧ j < d + e then M u (c + (j - d)) else M b j
section
variable {T : Nat → Nat} {Ln : Nat → Int} {M M' : Nat → Int → Value} {t : Nat × Nat} {a b u v : Nat} {c d e j k : Int} {Q : zU → zS → Prop}
theorem mc_i (h1 : d ≤ j) (h2 : j < d + e) : mc M u c v d e v j = M u (c + (j - d)) := if_pos ⟨rfl, h1, h2⟩
theorem mc_o (h : ¬ (d ≤ j ∧ j < d + e)) : mc M u c v d e b j = M b j := if_neg (fun hh => h hh.2)
theorem mc_n (h : ¬ b = v) : mc M u c v d e b j = M b j := if_neg (fun hh => h hh.1)
theorem jcp (hu : T u = 101) (hv : T v = 101) (c1 : 0 ≤ c) (d1 : 0 ≤ d) (e1 : 0 ≤ e) (h1 : c + e ≤ Ln u) (h2 : d + e ≤ Ln v) (h3 : Ln u ≤ 60000) (h4 : Ln v ≤ 60000) (hl : ∀ i, 0 ≤ i → i < e → ∃ x, M u (c + i) = zl x) : z_cpy (hj T Ln M, t) u (Int32.ofInt c) v (Int32.ofInt d) (Int32.ofInt e) = some (hj T Ln (mc M u c v d e), t) := by
  unfold z_cpy
  simp only [hj_c hu (by omega), hj_c hv (by omega)]
  have n1 : (Int32.ofInt c).toNatClampNeg = c.toNat := i_nat (by omega) (by omega)
  have n2 : (Int32.ofInt d).toNatClampNeg = d.toNat := i_nat (by omega) (by omega)
  have n3 : (Int32.ofInt e).toNatClampNeg = e.toNat := i_nat (by omega) (by omega)
  have p1 : ¬ (Int32.ofInt c < 0) := by rw [i_0, i_lt (by omega) (by omega) (by omega) (by omega)]; omega
  have p2' : ¬ (Int32.ofInt d < 0) := by rw [i_0, i_lt (by omega) (by omega) (by omega) (by omega)]; omega
  have p3 : ¬ (Int32.ofInt e < 0) := by rw [i_0, i_lt (by omega) (by omega) (by omega) (by omega)]; omega
  rw [n1, n2, n3, if_pos ⟨trivial, trivial, p1, p2', p3, by omega, by omega, fun i hi => by
    obtain ⟨x, hx⟩ := hl (i : Int) (by omega) (by omega)
    have e9 : ((c.toNat + i : Nat) : Int) = c + i := by omega
    rw [e9, hx]; rfl⟩]
  congr 2
  funext b
  unfold z_up
  by_cases hb : b = v
  · subst hb
    rw [if_pos rfl, hj_c hv (by omega)]
    congr 3
    funext i
    unfold va_cpy mc
    by_cases hi : d.toNat ≤ i ∧ i < d.toNat + e.toNat
    · have e9 : ((c.toNat + (i - d.toNat) : Nat) : Int) = c + ((i : Int) - d) := by omega
      rw [if_pos hi, if_pos ⟨rfl, by omega, by omega⟩]
      show M u ((c.toNat + (i - d.toNat) : Nat) : Int) = _
      rw [e9]
    · rw [if_neg hi, if_neg (fun hh => hi ⟨by omega, by omega⟩)]
  · rw [if_neg hb]
    unfold hj
    by_cases h9 : T b < 200
    · rw [if_pos h9, if_pos h9]
      congr 3
      funext i
      rw [mc_n hb]
    · rw [if_neg h9, if_neg h9]
end
/-- the explorer's frame -/
def XB (T : Nat → Nat) (Ln : Nat → Int) (M : Nat → Int → Value) (a pr ma : Nat) : Prop := (T a = 1 ∧ T (a + 1) = 101 ∧ T (a + 2) = 100 ∧ T (a + 3) = 100 ∧ T (a + 4) = 101) ∧ (Ln (a + 1) = 56000 ∧ Ln (a + 2) = 4096 ∧ Ln (a + 3) = 2000 ∧ Ln (a + 4) = 28) ∧ (M a 0 = .ref (a + 1) ∧ M a 1 = .ref (a + 2) ∧ M a 2 = .ref (a + 3) ∧ M a 3 = .ref (a + 4)) ∧ M a 4 = .ref pr ∧ M a 5 = .ref ma
/-- its states and slots -/
def XG (M : Nat → Int → Value) (a : Nat) (G : Int → Int → Int) (n : Int) (sl : Int → Int) : Prop := M a 6 = zi n ∧ (0 ≤ n ∧ n ≤ 2000) ∧ (∀ j, 0 ≤ j → j < 56000 → ∃ x, M (a + 1) j = zl x) ∧ (∀ i j, 0 ≤ i → i < n → 0 ≤ j → j < 28 → M (a + 1) (i * 28 + j) = zl (G i j)) ∧ (∀ s, 0 ≤ s → s < 4096 → M (a + 2) s = zi (sl s) ∧ 0 ≤ sl s ∧ sl s ≤ n)
def XV (M : Nat → Int → Value) (a : Nat) (v : Int → Int) : Prop := ∀ j, 0 ≤ j → j < 28 → M (a + 4) j = zl (v j)
abbrev LV (v : Int → Int) : Prop := ∀ j, -1 ≤ v j ∧ v j ≤ 4294967295
def hx (v : Int → Int) : Nat → Int
  | 0 => 0
  | k + 1 => llxor (llxor (hx v k) (v k) * 11400714819323198485) (llshr (llxor (hx v k) (v k) * 11400714819323198485) 29)
section
variable {T : Nat → Nat} {Ln : Nat → Int} {M M' : Nat → Int → Value} {t : Nat × Nat} {a pr ma : Nat} {n i : Int} {G : Int → Int → Int} {sl v : Int → Int} {Q : zU → zS → Prop}
theorem s13 (hb : XB T Ln M a pr ma) (hg : XG M a G n sl) (i1 : 0 ≤ i) (i2 : i < n) : z_go zP 13 0 [some (.ref a), some (zi i)] [] (hj T Ln M, t) Q ↔ Q (.inl none) (hj T Ln (mc M (a + 1) (i * 28) (a + 4) 0 28), t) := by
  obtain ⟨⟨h1, h2, h3, h4, h5⟩, ⟨l1, l2, l3, l4⟩, ⟨m1, m2, m3, m4⟩, m5, m6⟩ := hb
  obtain ⟨g1, g2, g3, g4, g5⟩ := hg
  have hc := jcp (Ln := Ln) (M := M) (t := t) h2 h5 (c := i * 28) (d := 0) (e := 28) (by omega) (by omega) (by omega) (by omega) (by omega) (by omega) (by omega) (fun j j1 j2 => g3 _ (by omega) (by omega))
  simp (disch := omega) only [g13_0, g13_1, g13_4, g13_5, g13_7, g13_8, g13_9, g13_12, g13_13, g13_15, g13_18, Int.reduceToNat, jtg, mu_s, mu_n, mu_j, mn_s, mn_n, jg_1_0, jg_1_3, Option.some.injEq, exists_eq_left', zkl_i, zkl_l, zkl_n, zkl_r, zkl_0, zc_v, zc_n, zc_t, zd_v, zd_n, mj_tg, true_and, ↓reduceIte, not_true_eq_false, not_false_eq_true, ↓if_pos, ↓if_neg, Int.reduceLE, Int.reduceLT, Int.reduceEq, Int.reduceAdd, m1, m4, hc]
theorem XV_13 (hg : XG M a G n sl) (i1 : 0 ≤ i) (i2 : i < n) : XV (mc M (a + 1) (i * 28) (a + 4) 0 28) a (G i) := by
  intro j j1 j2
  rw [mc_i j1 (by omega), show i * 28 + (j - 0) = i * 28 + j by omega]
  exact hg.2.2.2.1 i j i1 i2 j1 j2
theorem s16_l (hb : XB T Ln M a pr ma) (hv : XV M a v) : ∀ (m : Nat) (k : Nat), k + m = 28 → (z_go zP 16 4 [some (.ref a), some (zl (hx v k)), none, some (zi k)] [] (hj T Ln M, t) Q ↔ Q (.inl (some (zi (hx v 28 % 4096)))) (hj T Ln M, t)) := by
  obtain ⟨⟨h1, h2, h3, h4, h5⟩, ⟨l1, l2, l3, l4⟩, ⟨m1, m2, m3, m4⟩, m5, m6⟩ := hb
  intro m
  induction m with
  | zero =>
    intro k hk
    have e : k = 28 := by omega
    subst e
    simp (disch := omega) only [g16_0, g16_1, g16_2, g16_3, g16_4, g16_5, g16_7, g16_10, g16_11, g16_12, g16_15, g16_16, g16_17, g16_18, g16_21, g16_22, g16_23, g16_24, g16_25, g16_27, g16_28, g16_29, g16_30, g16_33, g16_36, g16_37, g16_38, g16_41, g16_42, Int.reduceToNat, jtg, mu_s, mu_n, mu_j, mn_s, mn_n, jg_1_3, jal, Option.some.injEq, exists_eq_left', zkl_i, zkl_l, zkl_n, zkl_r, zkl_0, zc_v, zc_n, zc_t, zd_v, zd_n, mj_tg, true_and, ↓reduceIte, not_true_eq_false, not_false_eq_true, ↓if_pos, ↓if_neg, Int.reduceLE, Int.reduceLT, Int.reduceEq, Int.reduceAdd, iand_4095]
  | succ m ih =>
    intro k hk
    have e1 := hv k (by omega) (by omega)
    have e2 := ih (k + 1) (by omega)
    have e3 : ((k + 1 : Nat) : Int) = (k : Int) + 1 := by omega
    rw [e3] at e2
    rw [← e2]
    refine g16_4.trans ?_
    simp (disch := omega) only [g16_0, g16_1, g16_2, g16_3, g16_5, g16_7, g16_10, g16_11, g16_12, g16_15, g16_16, g16_17, g16_18, g16_21, g16_22, g16_23, g16_24, g16_25, g16_27, g16_28, g16_29, g16_30, g16_33, g16_36, g16_37, g16_38, g16_41, g16_42, Int.reduceToNat, jtg, mu_s, mu_n, mu_j, mn_s, mn_n, jg_1_3, jal, Option.some.injEq, exists_eq_left', zkl_i, zkl_l, zkl_n, zkl_r, zkl_0, zc_v, zc_n, zc_t, zd_v, zd_n, mj_tg, true_and, ↓reduceIte, not_true_eq_false, not_false_eq_true, ↓if_pos, ↓if_neg, Int.reduceLE, Int.reduceLT, Int.reduceEq, Int.reduceAdd, m4, e1, hx]
theorem s16 (hb : XB T Ln M a pr ma) (hv : XV M a v) : z_go zP 16 0 [some (.ref a), none, none, none] [] (hj T Ln M, t) Q ↔ Q (.inl (some (zi (hx v 28 % 4096)))) (hj T Ln M, t) := by
  rw [← s16_l (Q := Q) (t := t) hb hv 28 0 rfl]
  simp (disch := omega) only [g16_0, g16_1, g16_2, g16_3, g16_5, g16_7, g16_10, g16_11, g16_12, g16_15, g16_16, g16_17, g16_18, g16_21, g16_22, g16_23, g16_24, g16_25, g16_27, g16_28, g16_29, g16_30, g16_33, g16_36, g16_37, g16_38, g16_41, g16_42, Int.reduceToNat, jtg, mu_s, mu_n, mu_j, mn_s, mn_n, jg_1_3, jal, Option.some.injEq, exists_eq_left', zkl_i, zkl_l, zkl_n, zkl_r, zkl_0, zc_v, zc_n, zc_t, zd_v, zd_n, mj_tg, true_and, ↓reduceIte, not_true_eq_false, not_false_eq_true, ↓if_pos, ↓if_neg, Int.reduceLE, Int.reduceLT, Int.reduceEq, Int.reduceAdd]
  rfl
theorem s17_y (hb : XB T Ln M a pr ma) (hg : XG M a G n sl) (hv : XV M a v) (lv : LV v) (lg : ∀ i, LV (G i)) (i1 : 0 ≤ i) (i2 : i < n) (he : ∀ j, 0 ≤ j → j < 28 → G i j = v j) : ∀ (m : Nat) (k : Int), 0 ≤ k → k + m = 28 → (z_go zP 17 7 [some (.ref a), some (zi i), some (zi (i * 28)), some (zi k)] [] (hj T Ln M, t) Q ↔ Q (.inl (some (zi 1))) (hj T Ln M, t)) := by
  obtain ⟨⟨h1, h2, h3, h4, h5⟩, ⟨l1, l2, l3, l4⟩, ⟨m1, m2, m3, m4⟩, m5, m6⟩ := hb
  obtain ⟨g1, g2, g3, g4, g5⟩ := hg
  intro m
  induction m with
  | zero =>
    intro k k1 k2
    simp (disch := omega) only [g17_0, g17_1, g17_3, g17_4, g17_5, g17_6, g17_7, g17_8, g17_10, g17_13, g17_14, g17_17, g17_18, g17_19, g17_20, g17_21, g17_22, g17_25, g17_26, g17_27, g17_31, g17_32_0, g17_32_1, g17_32b, g17_33, g17_36, g17_39, g17_40_0, g17_40_1, g17_40b, Int.reduceToNat, jtg, mu_s, mu_n, mu_j, mn_s, mn_n, jg_1_0, jal, jg_1_3, Option.some.injEq, exists_eq_left', zkl_i, zkl_l, zkl_n, zkl_r, zkl_0, zc_v, zc_n, zc_t, zd_v, zd_n, mj_tg, true_and, ↓reduceIte, not_true_eq_false, not_false_eq_true, ↓if_pos, ↓if_neg, Int.reduceLE, Int.reduceLT, Int.reduceEq, Int.reduceAdd]
  | succ m ih =>
    intro k k1 k2
    have e1 := g4 i k i1 i2 k1 (by omega)
    have e2 := hv k k1 (by omega)
    have e3 := he k k1 (by omega)
    have e4 := lv k
    rw [e3] at e1
    rw [← ih (k + 1) (by omega) (by omega)]
    refine g17_7.trans ?_
    simp (disch := omega) only [g17_0, g17_1, g17_3, g17_4, g17_5, g17_6, g17_8, g17_10, g17_13, g17_14, g17_17, g17_18, g17_19, g17_20, g17_21, g17_22, g17_25, g17_26, g17_27, g17_31, g17_32_0, g17_32_1, g17_32b, g17_33, g17_36, g17_39, g17_40_0, g17_40_1, g17_40b, Int.reduceToNat, jtg, mu_s, mu_n, mu_j, mn_s, mn_n, jg_1_0, jal, jg_1_3, Option.some.injEq, exists_eq_left', zkl_i, zkl_l, zkl_n, zkl_r, zkl_0, zc_v, zc_n, zc_t, zd_v, zd_n, mj_tg, true_and, ↓reduceIte, not_true_eq_false, not_false_eq_true, ↓if_pos, ↓if_neg, Int.reduceLE, Int.reduceLT, Int.reduceEq, Int.reduceAdd, m1, m4, e1, e2]
theorem s17_n (hb : XB T Ln M a pr ma) (hg : XG M a G n sl) (hv : XV M a v) (lv : LV v) (lg : ∀ i, LV (G i)) (i1 : 0 ≤ i) (i2 : i < n) : ∀ (m : Nat) (k : Int), 0 ≤ k → k + m = 28 → (∃ j, k ≤ j ∧ j < 28 ∧ ¬ G i j = v j) → (z_go zP 17 7 [some (.ref a), some (zi i), some (zi (i * 28)), some (zi k)] [] (hj T Ln M, t) Q ↔ Q (.inl (some (zi 0))) (hj T Ln M, t)) := by
  obtain ⟨⟨h1, h2, h3, h4, h5⟩, ⟨l1, l2, l3, l4⟩, ⟨m1, m2, m3, m4⟩, m5, m6⟩ := hb
  obtain ⟨g1, g2, g3, g4, g5⟩ := hg
  intro m
  induction m with
  | zero => rintro k k1 k2 ⟨j, j1, j2, -⟩; omega
  | succ m ih =>
    rintro k k1 k2 ⟨j, j1, j2, j3⟩
    have e1 := g4 i k i1 i2 k1 (by omega)
    have e2 := hv k k1 (by omega)
    have e4 := lv k
    have e5 := lg i k
    refine g17_7.trans ?_
    by_cases e3 : G i k = v k
    · rw [← ih (k + 1) (by omega) (by omega) ⟨j, by
        by_cases hjk : j = k
        · subst hjk; exact absurd e3 j3
        · omega, j2, j3⟩]
      simp (disch := omega) only [g17_0, g17_1, g17_3, g17_4, g17_5, g17_6, g17_8, g17_10, g17_13, g17_14, g17_17, g17_18, g17_19, g17_20, g17_21, g17_22, g17_25, g17_26, g17_27, g17_31, g17_32_0, g17_32_1, g17_32b, g17_33, g17_36, g17_39, g17_40_0, g17_40_1, g17_40b, Int.reduceToNat, jtg, mu_s, mu_n, mu_j, mn_s, mn_n, jg_1_0, jal, jg_1_3, Option.some.injEq, exists_eq_left', zkl_i, zkl_l, zkl_n, zkl_r, zkl_0, zc_v, zc_n, zc_t, zd_v, zd_n, mj_tg, true_and, ↓reduceIte, not_true_eq_false, not_false_eq_true, ↓if_pos, ↓if_neg, Int.reduceLE, Int.reduceLT, Int.reduceEq, Int.reduceAdd, m1, m4, e1, e2]
    · simp (disch := omega) only [g17_0, g17_1, g17_3, g17_4, g17_5, g17_6, g17_8, g17_10, g17_13, g17_14, g17_17, g17_18, g17_19, g17_20, g17_21, g17_22, g17_25, g17_26, g17_27, g17_31, g17_32_0, g17_32_1, g17_32b, g17_33, g17_36, g17_39, g17_40_0, g17_40_1, g17_40b, Int.reduceToNat, jtg, mu_s, mu_n, mu_j, mn_s, mn_n, jg_1_0, jal, jg_1_3, Option.some.injEq, exists_eq_left', zkl_i, zkl_l, zkl_n, zkl_r, zkl_0, zc_v, zc_n, zc_t, zd_v, zd_n, mj_tg, true_and, ↓reduceIte, not_true_eq_false, not_false_eq_true, ↓if_pos, ↓if_neg, Int.reduceLE, Int.reduceLT, Int.reduceEq, Int.reduceAdd, m1, m4, e1, e2]
theorem s17y (hb : XB T Ln M a pr ma) (hg : XG M a G n sl) (hv : XV M a v) (lv : LV v) (lg : ∀ i, LV (G i)) (i1 : 0 ≤ i) (i2 : i < n) (he : eqv (G i) v) : z_go zP 17 0 [some (.ref a), some (zi i), none, none] [] (hj T Ln M, t) Q ↔ Q (.inl (some (zi 1))) (hj T Ln M, t) := by
  rw [← s17_y (Q := Q) (t := t) hb hg hv lv lg i1 i2 he 28 0 (by omega) (by omega)]
  simp (disch := omega) only [g17_0, g17_1, g17_3, g17_4, g17_5, g17_6, g17_8, g17_10, g17_13, g17_14, g17_17, g17_18, g17_19, g17_20, g17_21, g17_22, g17_25, g17_26, g17_27, g17_31, g17_32_0, g17_32_1, g17_32b, g17_33, g17_36, g17_39, g17_40_0, g17_40_1, g17_40b, Int.reduceToNat, jtg, mu_s, mu_n, mu_j, mn_s, mn_n, jg_1_0, jal, jg_1_3, Option.some.injEq, exists_eq_left', zkl_i, zkl_l, zkl_n, zkl_r, zkl_0, zc_v, zc_n, zc_t, zd_v, zd_n, mj_tg, true_and, ↓reduceIte, not_true_eq_false, not_false_eq_true, ↓if_pos, ↓if_neg, Int.reduceLE, Int.reduceLT, Int.reduceEq, Int.reduceAdd]
theorem s17n (hb : XB T Ln M a pr ma) (hg : XG M a G n sl) (hv : XV M a v) (lv : LV v) (lg : ∀ i, LV (G i)) (i1 : 0 ≤ i) (i2 : i < n) (he : ¬ eqv (G i) v) : z_go zP 17 0 [some (.ref a), some (zi i), none, none] [] (hj T Ln M, t) Q ↔ Q (.inl (some (zi 0))) (hj T Ln M, t) := by
  have hx : ∃ j, 0 ≤ j ∧ j < 28 ∧ ¬ G i j = v j := by
    false_or_by_contra
    rename_i hh
    refine he (fun j j1 j2 => ?_)
    false_or_by_contra
    rename_i hh2
    exact hh ⟨j, j1, j2, hh2⟩
  rw [← s17_n (Q := Q) (t := t) hb hg hv lv lg i1 i2 28 0 (by omega) (by omega) hx]
  simp (disch := omega) only [g17_0, g17_1, g17_3, g17_4, g17_5, g17_6, g17_8, g17_10, g17_13, g17_14, g17_17, g17_18, g17_19, g17_20, g17_21, g17_22, g17_25, g17_26, g17_27, g17_31, g17_32_0, g17_32_1, g17_32b, g17_33, g17_36, g17_39, g17_40_0, g17_40_1, g17_40b, Int.reduceToNat, jtg, mu_s, mu_n, mu_j, mn_s, mn_n, jg_1_0, jal, jg_1_3, Option.some.injEq, exists_eq_left', zkl_i, zkl_l, zkl_n, zkl_r, zkl_0, zc_v, zc_n, zc_t, zd_v, zd_n, mj_tg, true_and, ↓reduceIte, not_true_eq_false, not_false_eq_true, ↓if_pos, ↓if_neg, Int.reduceLE, Int.reduceLT, Int.reduceEq, Int.reduceAdd]
/-- what putting a state away writes -/
def pM (M : Nat → Int → Value) (a : Nat) (n s : Int) : Nat → Int → Value := mu (mu (mc M (a + 4) 0 (a + 1) (n * 28) 28) a 6 (zi (n + 1))) (a + 2) s (zi (n + 1))
theorem s15_y {s : Int} (hb : XB T Ln M a pr ma) (hg : XG M a G n sl) (hv : XV M a v) (hn : n < 2000) (s1 : 0 ≤ s) (s2 : s < 4096) : z_go zP 15 0 [some (.ref a), some (zi s)] [] (hj T Ln M, t) Q ↔ Q (.inl none) (hj T Ln (pM M a n s), t) := by
  obtain ⟨⟨h1, h2, h3, h4, h5⟩, ⟨l1, l2, l3, l4⟩, ⟨m1, m2, m3, m4⟩, m5, m6⟩ := hb
  obtain ⟨g1, g2, g3, g4, g5⟩ := hg
  have hc := jcp (Ln := Ln) (M := M) (t := t) h5 h2 (c := 0) (d := n * 28) (e := 28) (by omega) (by omega) (by omega) (by omega) (by omega) (by omega) (by omega) (fun j j1 j2 => ⟨_, by rw [show (0 : Int) + j = j by omega]; exact hv j j1 j2⟩)
  have g1' : mc M (a + 4) 0 (a + 1) (n * 28) 28 a 6 = zi n := by rw [mc_n (by omega)]; exact g1
  have m2' : mc M (a + 4) 0 (a + 1) (n * 28) 28 a 1 = .ref (a + 2) := by rw [mc_n (by omega)]; exact m2
  unfold pM
  simp (disch := omega) only [g15_0, g15_1, g15_4, g15_7, g15_10, g15_11, g15_12, g15_15, g15_16, g15_17, g15_20, g15_21, g15_22, g15_25, g15_26, g15_29, g15_31, g15_32, g15_34, g15_37, g15_38, g15_38i, g15_39, g15_42, g15_43, g15_44, g15_47, g15_48, g15_51, g15_52, g15_53, g15_56, g15_57, Int.reduceToNat, jtg, mu_s, mu_n, mu_j, mn_s, mn_n, jg_1_6, jp_1_9, jg_1_3, jg_1_0, jp_1_6, jg_1_1, jsi, Option.some.injEq, exists_eq_left', zkl_i, zkl_l, zkl_n, zkl_r, zkl_0, zc_v, zc_n, zc_t, zd_v, zd_n, mj_tg, true_and, ↓reduceIte, not_true_eq_false, not_false_eq_true, ↓if_pos, ↓if_neg, Int.reduceLE, Int.reduceLT, Int.reduceEq, Int.reduceAdd, m1, m4, g1, hc, g1', m2']
theorem s15_n {s : Int} (hb : XB T Ln M a pr ma) (hg : XG M a G n sl) (hn : n = 2000) : z_go zP 15 0 [some (.ref a), some (zi s)] [] (hj T Ln M, t) Q ↔ Q (.inl none) (hj T Ln (mu M a 9 (zi 1)), t) := by
  obtain ⟨⟨h1, h2, h3, h4, h5⟩, ⟨l1, l2, l3, l4⟩, ⟨m1, m2, m3, m4⟩, m5, m6⟩ := hb
  obtain ⟨g1, g2, g3, g4, g5⟩ := hg
  simp (disch := omega) only [g15_0, g15_1, g15_4, g15_7, g15_10, g15_11, g15_12, g15_15, g15_16, g15_17, g15_20, g15_21, g15_22, g15_25, g15_26, g15_29, g15_31, g15_32, g15_34, g15_37, g15_38, g15_38i, g15_39, g15_42, g15_43, g15_44, g15_47, g15_48, g15_51, g15_52, g15_53, g15_56, g15_57, Int.reduceToNat, jtg, mu_s, mu_n, mu_j, mn_s, mn_n, jg_1_6, jp_1_9, jg_1_3, jg_1_0, jp_1_6, jg_1_1, jsi, Option.some.injEq, exists_eq_left', zkl_i, zkl_l, zkl_n, zkl_r, zkl_0, zc_v, zc_n, zc_t, zd_v, zd_n, mj_tg, true_and, ↓reduceIte, not_true_eq_false, not_false_eq_true, ↓if_pos, ↓if_neg, Int.reduceLE, Int.reduceLT, Int.reduceEq, Int.reduceAdd, g1]
theorem s14_y (hb : XB T Ln M a pr ma) (hg : XG M a G n sl) (hv : XV M a v) (lv : LV v) (lg : ∀ i, LV (G i)) {h0 d : Int} (H1 : 0 ≤ h0) (H2 : h0 < 4096) (hd0 : ¬ sl ((h0 + d) % 4096) = 0) (hd : eqv (G (sl ((h0 + d) % 4096) - 1)) v) (d2 : d < 4096) : ∀ (m : Nat) (k : Int) (l3 : Option Value), 0 ≤ k → k + m = d → (∀ i, k ≤ i → i < d → ¬ sl ((h0 + i) % 4096) = 0 ∧ ¬ eqv (G (sl ((h0 + i) % 4096) - 1)) v) → (z_go zP 14 7 [some (.ref a), some (zi h0), some (zi k), l3] [] (hj T Ln M, t) Q ↔ Q (.inl none) (hj T Ln M, t)) := by
  obtain ⟨⟨h1, h2, h3, h4, h5⟩, ⟨l1, l2, l3, l4⟩, ⟨m1, m2, m3, m4⟩, m5, m6⟩ := id hb
  obtain ⟨g1, g2, g3, g4, g5⟩ := id hg
  intro m
  induction m with
  | zero =>
    intro k l3 k1 k2 k3
    have hkd : k = d := by omega
    subst hkd
    obtain ⟨e1, e2, e3⟩ := g5 ((h0 + k) % 4096) (by omega) (by omega)
    have hs := fun (Q : zU → zS → Prop) => s17y (t := t) (Q := Q) hb hg hv lv lg (i := sl ((h0 + k) % 4096) - 1) (by omega) (by omega) hd
    simp (disch := omega) only [g14_0, g14_1, g14_4, g14_5, g14_6, g14_7, g14_8, g14_11, g14_14, g14_15, g14_16, g14_17, g14_20, g14_21, g14_22, g14_23, g14_26, g14_27, g14_28, g14_28b, g14_31, g14_32, g14_33, g14_36, g14_37, g14_38, g14_39, g14_42, g14_43, g14_44, g14_45, g14_46, g14_49, g14_49b, g14_52, g14_53, g14_56, g14_59, Int.reduceToNat, jtg, mu_s, mu_n, mu_j, mn_s, mn_n, jg_1_1, jai, Option.some.injEq, exists_eq_left', zkl_i, zkl_l, zkl_n, zkl_r, zkl_0, zc_v, zc_n, zc_t, zd_v, zd_n, mj_tg, true_and, ↓reduceIte, not_true_eq_false, not_false_eq_true, ↓if_pos, ↓if_neg, Int.reduceLE, Int.reduceLT, Int.reduceEq, Int.reduceAdd, iand_4095, m2, e1, hs]
  | succ m ih =>
    intro k l3 k1 k2 k3
    obtain ⟨e1, e2, e3⟩ := g5 ((h0 + k) % 4096) (by omega) (by omega)
    obtain ⟨q1, q2⟩ := k3 k (by omega) (by omega)
    have hs := fun (Q : zU → zS → Prop) => s17n (t := t) (Q := Q) hb hg hv lv lg (i := sl ((h0 + k) % 4096) - 1) (by omega) (by omega) q2
    rw [← ih (k + 1) (some (zi ((h0 + k) % 4096))) (by omega) (by omega) (fun i i1 i2 => k3 i (by omega) i2)]
    refine g14_7.trans ?_
    simp (disch := omega) only [g14_0, g14_1, g14_4, g14_5, g14_6, g14_8, g14_11, g14_14, g14_15, g14_16, g14_17, g14_20, g14_21, g14_22, g14_23, g14_26, g14_27, g14_28, g14_28b, g14_31, g14_32, g14_33, g14_36, g14_37, g14_38, g14_39, g14_42, g14_43, g14_44, g14_45, g14_46, g14_49, g14_49b, g14_52, g14_53, g14_56, g14_59, Int.reduceToNat, jtg, mu_s, mu_n, mu_j, mn_s, mn_n, jg_1_1, jai, Option.some.injEq, exists_eq_left', zkl_i, zkl_l, zkl_n, zkl_r, zkl_0, zc_v, zc_n, zc_t, zd_v, zd_n, mj_tg, true_and, ↓reduceIte, not_true_eq_false, not_false_eq_true, ↓if_pos, ↓if_neg, Int.reduceLE, Int.reduceLT, Int.reduceEq, Int.reduceAdd, iand_4095, m2, e1, hs]
theorem s14_z (hb : XB T Ln M a pr ma) (hg : XG M a G n sl) (hv : XV M a v) (lv : LV v) (lg : ∀ i, LV (G i)) {h0 d : Int} (H1 : 0 ≤ h0) (H2 : h0 < 4096) (hd0 : sl ((h0 + d) % 4096) = 0) (hp : ∀ Q : zU → zS → Prop, z_go zP 15 0 [some (.ref a), some (zi ((h0 + d) % 4096))] [] (hj T Ln M, t) Q ↔ Q (.inl none) (hj T Ln M', t)) (d2 : d < 4096) : ∀ (m : Nat) (k : Int) (l3 : Option Value), 0 ≤ k → k + m = d → (∀ i, k ≤ i → i < d → ¬ sl ((h0 + i) % 4096) = 0 ∧ ¬ eqv (G (sl ((h0 + i) % 4096) - 1)) v) → (z_go zP 14 7 [some (.ref a), some (zi h0), some (zi k), l3] [] (hj T Ln M, t) Q ↔ Q (.inl none) (hj T Ln M', t)) := by
  obtain ⟨⟨h1, h2, h3, h4, h5⟩, ⟨l1, l2, l3, l4⟩, ⟨m1, m2, m3, m4⟩, m5, m6⟩ := id hb
  obtain ⟨g1, g2, g3, g4, g5⟩ := id hg
  intro m
  induction m with
  | zero =>
    intro k l3 k1 k2 k3
    have hkd : k = d := by omega
    subst hkd
    obtain ⟨e1, e2, e3⟩ := g5 ((h0 + k) % 4096) (by omega) (by omega)
    rw [hd0] at e1
    simp (disch := omega) only [g14_0, g14_1, g14_4, g14_5, g14_6, g14_7, g14_8, g14_11, g14_14, g14_15, g14_16, g14_17, g14_20, g14_21, g14_22, g14_23, g14_26, g14_27, g14_28, g14_28b, g14_31, g14_32, g14_33, g14_36, g14_37, g14_38, g14_39, g14_42, g14_43, g14_44, g14_45, g14_46, g14_49, g14_49b, g14_52, g14_53, g14_56, g14_59, Int.reduceToNat, jtg, mu_s, mu_n, mu_j, mn_s, mn_n, jg_1_1, jai, Option.some.injEq, exists_eq_left', zkl_i, zkl_l, zkl_n, zkl_r, zkl_0, zc_v, zc_n, zc_t, zd_v, zd_n, mj_tg, true_and, ↓reduceIte, not_true_eq_false, not_false_eq_true, ↓if_pos, ↓if_neg, Int.reduceLE, Int.reduceLT, Int.reduceEq, Int.reduceAdd, iand_4095, m2, e1, hp]
  | succ m ih =>
    intro k l3 k1 k2 k3
    obtain ⟨e1, e2, e3⟩ := g5 ((h0 + k) % 4096) (by omega) (by omega)
    obtain ⟨q1, q2⟩ := k3 k (by omega) (by omega)
    have hs := fun (Q : zU → zS → Prop) => s17n (t := t) (Q := Q) hb hg hv lv lg (i := sl ((h0 + k) % 4096) - 1) (by omega) (by omega) q2
    rw [← ih (k + 1) (some (zi ((h0 + k) % 4096))) (by omega) (by omega) (fun i i1 i2 => k3 i (by omega) i2)]
    refine g14_7.trans ?_
    simp (disch := omega) only [g14_0, g14_1, g14_4, g14_5, g14_6, g14_8, g14_11, g14_14, g14_15, g14_16, g14_17, g14_20, g14_21, g14_22, g14_23, g14_26, g14_27, g14_28, g14_28b, g14_31, g14_32, g14_33, g14_36, g14_37, g14_38, g14_39, g14_42, g14_43, g14_44, g14_45, g14_46, g14_49, g14_49b, g14_52, g14_53, g14_56, g14_59, Int.reduceToNat, jtg, mu_s, mu_n, mu_j, mn_s, mn_n, jg_1_1, jai, Option.some.injEq, exists_eq_left', zkl_i, zkl_l, zkl_n, zkl_r, zkl_0, zc_v, zc_n, zc_t, zd_v, zd_n, mj_tg, true_and, ↓reduceIte, not_true_eq_false, not_false_eq_true, ↓if_pos, ↓if_neg, Int.reduceLE, Int.reduceLT, Int.reduceEq, Int.reduceAdd, iand_4095, m2, e1, hs]
/-- the slots: where each state lies -/
def XO (G : Int → Int → Int) (n : Int) (sl : Int → Int) : Prop := ∃ po : Int → Int, (∀ s, 0 ≤ s → s < 4096 → ¬ sl s = 0 → po (sl s - 1) = s) ∧ ∀ i, 0 ≤ i → i < n → ∃ d, 0 ≤ d ∧ d < 4096 ∧ sl ((hx (G i) 28 % 4096 + d) % 4096) = i + 1 ∧ ∀ j, 0 ≤ j → j < d → ¬ sl ((hx (G i) 28 % 4096 + j) % 4096) = 0
theorem hx_c {v w : Int → Int} : ∀ k : Nat, k ≤ 28 → eqv v w → hx v k = hx w k := by
  intro k
  induction k with
  | zero => intro _ _; rfl
  | succ k ih =>
    intro hk he
    unfold hx
    rw [ih (by omega) he, he k (by omega) (by omega)]
/-- the first that can be found -/
theorem first_d (P : Int → Prop) [DecidablePred P] : ∀ (m : Nat) (k : Int), (∃ d, k ≤ d ∧ d < k + m ∧ P d) → ∃ d, k ≤ d ∧ d < k + m ∧ P d ∧ ∀ i, k ≤ i → i < d → ¬ P i := by
  intro m
  induction m with
  | zero => rintro k ⟨d, d1, d2, -⟩; omega
  | succ m ih =>
    rintro k ⟨d, d1, d2, d3⟩
    by_cases h : P k
    · exact ⟨k, by omega, by omega, h, fun i i1 i2 => by omega⟩
    · obtain ⟨e, e1, e2, e3, e4⟩ := ih (k + 1) ⟨d, by
        by_cases hd : d = k
        · subst hd; exact absurd d3 h
        · omega, by omega, d3⟩
      exact ⟨e, by omega, by omega, e3, fun i i1 i2 => by
        by_cases hi : i = k
        · subst hi; exact h
        · exact e4 i (by omega) i2⟩
theorem pigeon : ∀ (m : Nat) (f : Nat → Nat), (∀ i, i < m + 1 → f i < m) → ∃ i j, i < j ∧ j < m + 1 ∧ f i = f j := by
  intro m
  induction m with
  | zero => intro f h; have := h 0 (by omega); omega
  | succ m ih =>
    intro f h
    by_cases hx : ∃ i, i < m + 1 ∧ f i = f (m + 1)
    · obtain ⟨i, i1, i2⟩ := hx
      exact ⟨i, m + 1, by omega, by omega, i2⟩
    · have hne : ∀ i, i < m + 1 → ¬ f i = f (m + 1) := fun i hi hh => hx ⟨i, hi, hh⟩
      obtain ⟨i, j, h1, h2, h3⟩ := ih (fun i => if f i < f (m + 1) then f i else f i - 1) (fun i hi => by
        have a1 := h i (by omega)
        have a2 := hne i hi
        have a3 := h (m + 1) (by omega)
        show (if f i < f (m + 1) then f i else f i - 1) < m
        split <;> omega)
      refine ⟨i, j, h1, by omega, ?_⟩
      have b1 := hne i (by omega)
      have b2 := hne j h2
      have h4 : (if f i < f (m + 1) then f i else f i - 1) = if f j < f (m + 1) then f j else f j - 1 := h3
      split at h4 <;> split at h4 <;> omega
/-- a free slot is left -/
theorem free_s (hs : ∀ s, 0 ≤ s → s < 4096 → 0 ≤ sl s ∧ sl s ≤ n) (hn : n ≤ 2000) (ho : XO G n sl) : ∃ s, 0 ≤ s ∧ s < 4096 ∧ sl s = 0 := by
  obtain ⟨po, h1, -⟩ := ho
  false_or_by_contra
  rename_i hh
  have hne : ∀ s, 0 ≤ s → s < 4096 → ¬ sl s = 0 := fun s s1 s2 h9 => hh ⟨s, s1, s2, h9⟩
  obtain ⟨i, j, i1, i2, i3⟩ := pigeon 2000 (fun i => (sl (i : Int) - 1).toNat) (fun i hi => by
    have a1 := hs i (by omega) (by omega)
    have a2 := hne i (by omega) (by omega)
    show (sl (i : Int) - 1).toNat < 2000
    omega)
  have a1 := hs i (by omega) (by omega)
  have a2 := hne i (by omega) (by omega)
  have a3 := hs j (by omega) (by omega)
  have a4 := hne j (by omega) (by omega)
  have e : sl (i : Int) = sl (j : Int) := by
    have h9 : (sl (i : Int) - 1).toNat = (sl (j : Int) - 1).toNat := i3
    omega
  have b1 := h1 i (by omega) (by omega) a2
  have b2 := h1 j (by omega) (by omega) a4
  rw [e, b2] at b1
  omega
end
