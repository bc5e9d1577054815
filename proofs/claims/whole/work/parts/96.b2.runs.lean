/-! THE CLASS: runs -/
def RnAt (T : Nat → Nat) (Ln : Nat → Int) (M : Nat → Int → Value) (a p : Nat) (pl : Int) (N : Int → Int) (nx st en : Int) : Prop := (T a = 5 ∧ T (a + 1) = 101 ∧ T (a + 2) = 101 ∧ Ln (a + 1) = 4 ∧ Ln (a + 2) = pl) ∧ M a 0 = zi 3 ∧ M a 1 = .ref p ∧ M a 2 = .ref (a + 1) ∧ M a 3 = .ref (a + 2) ∧ M a 4 = zi nx ∧ M a 5 = zi st ∧ M a 6 = zi en ∧ (∀ j, 0 ≤ j → j < 4 → M (a + 1) j = zl (N j)) ∧ ∀ j, 0 ≤ j → j < pl → M (a + 2) j = zl (N (4 + j))
theorem tne {T : Nat → Nat} {x y : Nat} {c d : Nat} (h1 : T x = c) (h2 : T y = d) (h : c ≠ d) : ¬ x = y := by
  intro e
  rw [e, h2] at h1
  exact h h1.symm
/-- what a word makes of a run's numbers: as m_nu, on their own -/
def r_nu (N : Int → Int) (op d x y n bits pl : Int) : Int → Int := fun j =>
  if op = 0 then (if j = d then n % p2 bits else N j)
  else if op = 1 then (if j = d then (N x + N y) % p2 bits else N j)
  else if op = 2 then (if j = d then (N x - N y) % p2 bits else N j)
  else if op = 3 then (if j = d then lland (N x) (N y) else N j)
  else if op = 4 then (if j = d then N (4 + N x % pl) else N j)
  else if op = 5 then (if j = 4 + N x % pl then N y else N j)
  else N j
def r_to (N : Int → Int) (op x n w nx : Int) : Int := if op = 6 ∧ ¬ N x = 0 then n % w else (nx + 1) % w
section
variable {T : Nat → Nat} {Ln : Nat → Int} {M : Nat → Int → Value} {t : Nat × Nat} {a b p m : Nat} {op d x y n bits pl w nx st en : Int} {N : Int → Int} {W : Int → Nat}
set_option maxHeartbeats 4000000 in
theorem s38 (hr : RnAt T Ln M a p pl N nx st en) (hp : PrAt T Ln M p m W w) (hm : MaAt T M m bits pl) (hb : WdAt T M (W nx) op d x y n) (he : en = 0) (n1 : 0 ≤ nx) (n2 : nx < w) (w2 : w ≤ 24) (o1 : 0 ≤ op) (o2 : op ≤ 7) (d1 : 0 ≤ d) (d2 : d ≤ 3) (x1 : 0 ≤ x) (x2 : x ≤ 3) (y1 : 0 ≤ y) (y2 : y ≤ 3) (v1 : -2147483648 ≤ n) (v2 : n ≤ 2147483647) (b1 : 0 ≤ bits) (b2 : bits ≤ 32) (p1 : 0 < pl) (p3 : pl ≤ 8) (hN : ∀ j, 0 ≤ N j ∧ N j < p2 bits) (s1 : 0 ≤ st) (s2 : st < 100000000) :
    ∃ M', (∀ Q : zU → zS → Prop, z_go zP 38 0 [some (.ref a), none, none, none] [] (hj T Ln M, t) Q ↔ Q (.inl none) (hj T Ln M', t)) ∧ RnAt T Ln M' a p pl (r_nu N op d x y n bits pl) (r_to N op x n w nx) (st + 1) (bI (op = 7)) ∧ ∀ c j, ¬ c = a → ¬ c = a + 1 → ¬ c = a + 2 → M' c j = M c j := by
  have hp' := hp
  have hm' := hm
  have hb' := hb
  obtain ⟨⟨r1, r2, r3, r4, r5⟩, r6, r7, r8, r9, r10, r11, r12, r13, r14⟩ := hr
  obtain ⟨⟨q1, q2, q3⟩, q4, q5, q6, q7, q8⟩ := hp
  obtain ⟨m1, m2, m3, m4⟩ := hm
  obtain ⟨w1, w3, w4, w5, w6, w7⟩ := hb
  have P := p2_le b2
  have e1 := tne w1 r1 (by decide)
  have e2 := tne w1 r2 (by decide)
  have e3 := tne w1 r3 (by decide)
  have e4 := tne q1 r1 (by decide)
  have e5 := tne q1 r2 (by decide)
  have e6 := tne q1 r3 (by decide)
  have hx := hN x
  have hy := hN y
  have hm9 := mod_b (v := N x) p1
  have a1 : ¬ a + 1 = a := by omega
  have a2 : ¬ a + 2 = a := by omega
  have a3 : ¬ a + 1 = a + 2 := by omega
  have a4 : ¬ a + 2 = a + 1 := by omega
  have a5 : ¬ a = a + 1 := by omega
  have a6 : ¬ a = a + 2 := by omega
  have rx := r13 x x1 (by omega)
  have ry := r13 y y1 (by omega)
  have rm := r14 (N x % pl) hm9.1 hm9.2
  have en0 : M a 6 = zi 0 := by rw [r12, he]
  have h24 := fun (M2 : Nat → Int → Value) (v : Int) (Q : zU → zS → Prop) (h2 : MaAt T M2 m bits pl) => s24 (T := T) (Ln := Ln) (M := M2) (t := t) (Q := Q) (v := v) h2 b1 b2
  have h33 := fun (Q : zU → zS → Prop) => s33_y (T := T) (Ln := Ln) (M := M) (t := t) (Q := Q) hp' w2 n1 n2
  have hto : r_to N op x n w nx = if op = 6 ∧ ¬ N x = 0 then n % w else if nx + 1 < w then nx + 1 else 0 := by
    unfold r_to
    split
    · rfl
    · split
      next h9 => exact Int.emod_eq_of_lt (by omega) h9
      next h9 => rw [show nx + 1 = w by omega]; exact Int.emod_self
  have hcut := fun (v : Int) (Q : zU → zS → Prop) => s24 (T := T) (Ln := Ln) (M := M) (t := t) (Q := Q) (v := v) hm' b1 b2
  have hpla := fun (Q : zU → zS → Prop) => s25 (T := T) (Ln := Ln) (M := M) (t := t) (Q := Q) (v := N x) hm' b1 b2 p1 p3 hx.1 hx.2
  have hcomp := fun (Q : zU → zS → Prop) => s50 (T := T) (Ln := Ln) (M := M) (t := t) (Q := Q) hb' o1 o2
  have hres := fun (Q : zU → zS → Prop) => s55 (T := T) (Ln := Ln) (M := M) (t := t) (Q := Q) (v := N x) (w := N y) hb' o1 o2 v1 v2
  have fr : ∀ M2 : Nat → Int → Value, (∀ j, M2 (W nx) j = M (W nx) j) → WdAt T M2 (W nx) op d x y n := fun M2 h2 => ⟨w1, by rw [h2]; exact w3, by rw [h2]; exact w4, by rw [h2]; exact w5, by rw [h2]; exact w6, by rw [h2]; exact w7⟩
  have fp : ∀ M2 : Nat → Int → Value, (∀ j, M2 p j = M p j) → (∀ j, M2 (p + 1) j = M (p + 1) j) → PrAt T Ln M2 p m W w := fun M2 h2 h3 => ⟨⟨q1, q2, q3⟩, by rw [h2]; exact q4, by rw [h2]; exact q5, by rw [h2]; exact q6, by rw [h2]; exact q7, fun j j1 j2 => by rw [h3]; exact q8 j j1 j2⟩
  have e7 := tne q2 r1 (by decide)
  have e8 := tne q2 r2 (by decide)
  have e9 := tne q2 r3 (by decide)
  -- the numbers
  have hA : ∃ M1, (∀ Q : zU → zS → Prop, z_go zP 39 0 [some (.ref a), some (.ref (W nx)), some (zl (N x)), none, some (zl (N y)), none, none] [] (hj T Ln M, t) Q ↔ Q (.inl none) (hj T Ln M1, t)) ∧ (∀ j, ¬ j = 6 → M1 a j = M a j) ∧ M1 a 6 = zi (bI (op = 7)) ∧ (∀ j, 0 ≤ j → j < 4 → M1 (a + 1) j = zl (r_nu N op d x y n bits pl j)) ∧ (∀ j, 0 ≤ j → j < pl → M1 (a + 2) j = zl (r_nu N op d x y n bits pl (4 + j))) ∧ ∀ c j, ¬ c = a → ¬ c = a + 1 → ¬ c = a + 2 → M1 c j = M c j := by
    by_cases c3 : op ≤ 3
    · have hw : w_res op (N x) (N y) n % p2 bits = if op = 0 then n % p2 bits else if op = 1 then (N x + N y) % p2 bits else if op = 2 then (N x - N y) % p2 bits else lland (N x) (N y) := by
        unfold w_res
        obtain rfl | rfl | rfl | rfl : op = 0 ∨ op = 1 ∨ op = 2 ∨ op = 3 := by omega
        · rfl
        · rfl
        · rfl
        · show lland (N x) (N y) % p2 bits = lland (N x) (N y)
          have := lland_lt b1 b2 hx.1 hx.2 hy.1 hy.2
          exact Int.emod_eq_of_lt this.1 this.2
      refine ⟨mu M (a + 1) d (zl (w_res op (N x) (N y) n % p2 bits)), fun Q => ?_, fun j _ => mu_n a5, ?_, fun j j1 j2 => ?_, fun j j1 j2 => ?_, fun c j k1 k2 k3 => mu_n k2⟩
      · simp (disch := omega) only [g39_0, g39_1, g39_4, g39_7, g39_7n, g39_9, g39_9n, g39_10, g39_13, g39_13b, g39_16, g39_17, g39_20, g39_20n, g39_21, g39_24, g39_24n, g39_26, g39_26n, g39_27, g39_28, g39_30, g39_33, g39_36, g39_37, g39_40, g39_40n, g39_41, g39_44, g39_45, g39_48, g39_49, g39_52, g39_52n, g39_53, g39_56, g39_57, g39_60, g39_60n, g39_62, g39_63, g39_66, g39_67, g39_68, g39_71, g39_71n, g39_72, g39_75, g39_76, g39_79, g39_80, g39_83, g39_83n, g39_85, g39_86, g39_89, g39_91, g39_92, g39_95, g39_95n, g39_96, g39_99, g39_101, g39_104, g39_105, g39_106, g39_109, Int.reduceToNat, jtg, mu_s, mu_n, mu_j, mn_s, mn_n, jg_5_1, jg_4_1, jg_5_2, jg_7_1, jsl, jg_7_0, jg_5_3, jal, jp_5_6, Option.some.injEq, exists_eq_left', zkl_i, zkl_l, zkl_n, zkl_r, zkl_0, zc_v, zc_n, zc_t, zd_v, zd_n, mj_tg, true_and, ↓reduceIte, not_true_eq_false, not_false_eq_true, ↓if_pos, ↓if_neg, Int.reduceLE, Int.reduceLT, Int.reduceEq, Int.reduceAdd, r7, q5, hcomp, bI_t c3, r8, w4, hres, hcut]
      · rw [mu_n a5, en0, bI_f (by omega)]
      · rw [mu_e, hw]
        unfold r_nu
        obtain rfl | rfl | rfl | rfl : op = 0 ∨ op = 1 ∨ op = 2 ∨ op = 3 := by omega
        all_goals (split; (next hh => simp [hh]); (next hh => rw [r13 j j1 j2]; simp [hh]))
      · rw [mu_n a4, r14 j j1 j2]
        unfold r_nu
        obtain rfl | rfl | rfl | rfl : op = 0 ∨ op = 1 ∨ op = 2 ∨ op = 3 := by omega
        all_goals (have h9 : ¬ 4 + j = d := by omega
                   simp [h9])
    · by_cases c4 : op = 4
      · refine ⟨mu M (a + 1) d (zl (N (4 + N x % pl))), fun Q => ?_, fun j _ => mu_n a5, ?_, fun j j1 j2 => ?_, fun j j1 j2 => ?_, fun c j k1 k2 k3 => mu_n k2⟩
        · simp (disch := omega) only [g39_0, g39_1, g39_4, g39_7, g39_7n, g39_9, g39_9n, g39_10, g39_13, g39_13b, g39_16, g39_17, g39_20, g39_20n, g39_21, g39_24, g39_24n, g39_26, g39_26n, g39_27, g39_28, g39_30, g39_33, g39_36, g39_37, g39_40, g39_40n, g39_41, g39_44, g39_45, g39_48, g39_49, g39_52, g39_52n, g39_53, g39_56, g39_57, g39_60, g39_60n, g39_62, g39_63, g39_66, g39_67, g39_68, g39_71, g39_71n, g39_72, g39_75, g39_76, g39_79, g39_80, g39_83, g39_83n, g39_85, g39_86, g39_89, g39_91, g39_92, g39_95, g39_95n, g39_96, g39_99, g39_101, g39_104, g39_105, g39_106, g39_109, Int.reduceToNat, jtg, mu_s, mu_n, mu_j, mn_s, mn_n, jg_5_1, jg_4_1, jg_5_2, jg_7_1, jsl, jg_7_0, jg_5_3, jal, jp_5_6, Option.some.injEq, exists_eq_left', zkl_i, zkl_l, zkl_n, zkl_r, zkl_0, zc_v, zc_n, zc_t, zd_v, zd_n, mj_tg, true_and, ↓reduceIte, not_true_eq_false, not_false_eq_true, ↓if_pos, ↓if_neg, Int.reduceLE, Int.reduceLT, Int.reduceEq, Int.reduceAdd, r7, q5, hcomp, bI_f c3, r8, r9, w3, w4, hpla, rm, c4]
        · rw [mu_n a5, en0, bI_f (by omega)]
        · rw [mu_e]
          subst c4
          unfold r_nu
          split
          · next hh => simp [hh]
          · next hh => rw [r13 j j1 j2]; simp [hh]
        · rw [mu_n a4, r14 j j1 j2]
          subst c4
          have h9 : ¬ 4 + j = d := by omega
          simp [r_nu, h9]
      · by_cases c5 : op = 5
        · refine ⟨mu M (a + 2) (N x % pl) (zl (N y)), fun Q => ?_, fun j _ => mu_n a6, ?_, fun j j1 j2 => ?_, fun j j1 j2 => ?_, fun c j k1 k2 k3 => mu_n k3⟩
          · simp (disch := omega) only [g39_0, g39_1, g39_4, g39_7, g39_7n, g39_9, g39_9n, g39_10, g39_13, g39_13b, g39_16, g39_17, g39_20, g39_20n, g39_21, g39_24, g39_24n, g39_26, g39_26n, g39_27, g39_28, g39_30, g39_33, g39_36, g39_37, g39_40, g39_40n, g39_41, g39_44, g39_45, g39_48, g39_49, g39_52, g39_52n, g39_53, g39_56, g39_57, g39_60, g39_60n, g39_62, g39_63, g39_66, g39_67, g39_68, g39_71, g39_71n, g39_72, g39_75, g39_76, g39_79, g39_80, g39_83, g39_83n, g39_85, g39_86, g39_89, g39_91, g39_92, g39_95, g39_95n, g39_96, g39_99, g39_101, g39_104, g39_105, g39_106, g39_109, Int.reduceToNat, jtg, mu_s, mu_n, mu_j, mn_s, mn_n, jg_5_1, jg_4_1, jg_5_2, jg_7_1, jsl, jg_7_0, jg_5_3, jal, jp_5_6, Option.some.injEq, exists_eq_left', zkl_i, zkl_l, zkl_n, zkl_r, zkl_0, zc_v, zc_n, zc_t, zd_v, zd_n, mj_tg, true_and, ↓reduceIte, not_true_eq_false, not_false_eq_true, ↓if_pos, ↓if_neg, Int.reduceLE, Int.reduceLT, Int.reduceEq, Int.reduceAdd, r7, q5, hcomp, bI_f c3, r8, r9, w3, w4, hpla, rm, c5]
          · rw [mu_n a6, en0, bI_f (by omega)]
          · rw [mu_n a3, r13 j j1 j2]
            subst c5
            have h9 : ¬ j = 4 + N x % pl := by omega
            simp [r_nu, h9]
          · rw [mu_e]
            subst c5
            split
            next hh => simp [r_nu, hh]
            next hh =>
              have h9 : ¬ 4 + j = 4 + N x % pl := by omega
              rw [r14 j j1 j2]
              simp [r_nu, hh]
        · by_cases c7 : op = 7
          · refine ⟨mu M a 6 (zi 1), fun Q => ?_, fun j hj => mu_j hj, ?_, fun j j1 j2 => ?_, fun j j1 j2 => ?_, fun c j k1 k2 k3 => mu_n k1⟩
            · simp (disch := omega) only [g39_0, g39_1, g39_4, g39_7, g39_7n, g39_9, g39_9n, g39_10, g39_13, g39_13b, g39_16, g39_17, g39_20, g39_20n, g39_21, g39_24, g39_24n, g39_26, g39_26n, g39_27, g39_28, g39_30, g39_33, g39_36, g39_37, g39_40, g39_40n, g39_41, g39_44, g39_45, g39_48, g39_49, g39_52, g39_52n, g39_53, g39_56, g39_57, g39_60, g39_60n, g39_62, g39_63, g39_66, g39_67, g39_68, g39_71, g39_71n, g39_72, g39_75, g39_76, g39_79, g39_80, g39_83, g39_83n, g39_85, g39_86, g39_89, g39_91, g39_92, g39_95, g39_95n, g39_96, g39_99, g39_101, g39_104, g39_105, g39_106, g39_109, Int.reduceToNat, jtg, mu_s, mu_n, mu_j, mn_s, mn_n, jg_5_1, jg_4_1, jg_5_2, jg_7_1, jsl, jg_7_0, jg_5_3, jal, jp_5_6, Option.some.injEq, exists_eq_left', zkl_i, zkl_l, zkl_n, zkl_r, zkl_0, zc_v, zc_n, zc_t, zd_v, zd_n, mj_tg, true_and, ↓reduceIte, not_true_eq_false, not_false_eq_true, ↓if_pos, ↓if_neg, Int.reduceLE, Int.reduceLT, Int.reduceEq, Int.reduceAdd, r7, q5, hcomp, bI_f c3, r8, r9, w3, w4, c7]
            · rw [mu_s, bI_t c7]
            · rw [mu_n a1, r13 j j1 j2]
              subst c7
              rfl
            · rw [mu_n a2, r14 j j1 j2]
              subst c7
              rfl
          · have c6 : op = 6 := by omega
            refine ⟨M, fun Q => ?_, fun j _ => rfl, ?_, fun j j1 j2 => ?_, fun j j1 j2 => ?_, fun c j _ _ _ => rfl⟩
            · simp (disch := omega) only [g39_0, g39_1, g39_4, g39_7, g39_7n, g39_9, g39_9n, g39_10, g39_13, g39_13b, g39_16, g39_17, g39_20, g39_20n, g39_21, g39_24, g39_24n, g39_26, g39_26n, g39_27, g39_28, g39_30, g39_33, g39_36, g39_37, g39_40, g39_40n, g39_41, g39_44, g39_45, g39_48, g39_49, g39_52, g39_52n, g39_53, g39_56, g39_57, g39_60, g39_60n, g39_62, g39_63, g39_66, g39_67, g39_68, g39_71, g39_71n, g39_72, g39_75, g39_76, g39_79, g39_80, g39_83, g39_83n, g39_85, g39_86, g39_89, g39_91, g39_92, g39_95, g39_95n, g39_96, g39_99, g39_101, g39_104, g39_105, g39_106, g39_109, Int.reduceToNat, jtg, mu_s, mu_n, mu_j, mn_s, mn_n, jg_5_1, jg_4_1, jg_5_2, jg_7_1, jsl, jg_7_0, jg_5_3, jal, jp_5_6, Option.some.injEq, exists_eq_left', zkl_i, zkl_l, zkl_n, zkl_r, zkl_0, zc_v, zc_n, zc_t, zd_v, zd_n, mj_tg, true_and, ↓reduceIte, not_true_eq_false, not_false_eq_true, ↓if_pos, ↓if_neg, Int.reduceLE, Int.reduceLT, Int.reduceEq, Int.reduceAdd, r7, q5, hcomp, bI_f c3, r8, r9, w3, w4, c6]
            · rw [en0, bI_f c7]
            · rw [r13 j j1 j2]
              subst c6
              rfl
            · rw [r14 j j1 j2]
              subst c6
              rfl
  obtain ⟨M1, g0, g1, g2, g3, g4, g5⟩ := hA
  have gW : ∀ j, M1 (W nx) j = M (W nx) j := fun j => g5 _ j e1 e2 e3
  have gP : ∀ j, M1 p j = M p j := fun j => g5 _ j e4 e5 e6
  have gP1 : ∀ j, M1 (p + 1) j = M (p + 1) j := fun j => g5 _ j e7 e8 e9
  have f5 := g1 5 (by decide)
  have f4 := g1 4 (by decide)
  have f1 := g1 1 (by decide)
  rw [r11] at f5
  rw [r10] at f4
  rw [r7] at f1
  have fw : ∀ j, mu M1 a 5 (zi (st + 1)) (W nx) j = M (W nx) j := fun j => by rw [mu_n e1]; exact gW j
  have hb2 := fr _ fw
  have hp2 := fp (mu M1 a 5 (zi (st + 1))) (fun j => by rw [mu_n e4]; exact gP j) (fun j => by rw [mu_n e7]; exact gP1 j)
  have p3' : M1 p 3 = zi w := by rw [gP]; exact q7
  have hgo := fun (Q : zU → zS → Prop) => s54 (T := T) (Ln := Ln) (M := mu M1 a 5 (zi (st + 1))) (t := t) (Q := Q) (v := N x) hb2 o1 o2 hx.1 (by omega)
  have h34 := fun (Q : zU → zS → Prop) => s34 (T := T) (Ln := Ln) (M := mu M1 a 5 (zi (st + 1))) (t := t) (Q := Q) hp2 hb2 (by omega) w2 v1 v2
  have hnw := fun (Q : zU → zS → Prop) => show z_go zP 37 0 [some (.ref a)] [] (hj T Ln M, t) Q ↔ Q (.inl (some (.ref (W nx)))) (hj T Ln M, t) by
    simp (disch := omega) only [g37_0, g37_1, g37_4, g37_4b, g37_7, g37_8, g37_11, g37_12, g37_15, g37_16, g37_19, g37_22, g37_22n, Int.reduceToNat, jtg, mu_s, mu_n, mu_j, mn_s, mn_n, jg_5_6, jg_5_1, jg_5_4, Option.some.injEq, exists_eq_left', zkl_i, zkl_l, zkl_n, zkl_r, zkl_0, zc_v, zc_n, zc_t, zd_v, zd_n, mj_tg, true_and, ↓reduceIte, not_true_eq_false, not_false_eq_true, ↓if_pos, ↓if_neg, Int.reduceLE, Int.reduceLT, Int.reduceEq, Int.reduceAdd, en0, r7, r10, h33]
  refine ⟨mu (mu M1 a 5 (zi (st + 1))) a 4 (zi (r_to N op x n w nx)), fun Q => ?_, ⟨⟨r1, r2, r3, r4, r5⟩, ?_, ?_, ?_, ?_, mu_s, ?_, ?_, fun j j1 j2 => ?_, fun j j1 j2 => ?_⟩, fun c j k1 k2 k3 => ?_⟩
  · rw [hto]
    by_cases cg : op = 6 ∧ ¬ N x = 0
    · rw [if_pos cg]
      simp (disch := omega) only [g38_0, g38_1, g38_4, g38_4n, g38_5, g38_5n, g38_6, g38_6n, g38_9, g38_10, g38_11, g38_14, g38_14n, g38_15, g38_18, g38_19, g38_20, g38_21, g38_21n, g38_22, g38_23, g38_24, g38_27, g38_27n, g38_28, g38_31, g38_32, g38_35, g38_36, g38_36i, g38_37, g38_40, g38_41, g38_42, g38_45, g38_45n, g38_46, g38_47, g38_50, g38_50b, g38_53, g38_54, g38_55, g38_58, g38_58n, g38_59, g38_62, g38_65, g38_68, g38_69, g38_70, g38_73, g38_74, g38_75, g38_76, g38_79, g38_82, g38_85, g38_86, g38_89, g38_90, g38_91, g38_94, g38_95, g38_98, Int.reduceToNat, jtg, mu_s, mu_n, mu_j, mn_s, mn_n, jg_5_2, jg_7_2, jal, jg_7_3, jg_5_5, jp_5_5, jg_5_1, jp_5_4, jg_5_4, jg_4_3, Option.some.injEq, exists_eq_left', zkl_i, zkl_l, zkl_n, zkl_r, zkl_0, zc_v, zc_n, zc_t, zd_v, zd_n, mj_tg, true_and, ↓reduceIte, not_true_eq_false, not_false_eq_true, ↓if_pos, ↓if_neg, Int.reduceLE, Int.reduceLT, Int.reduceEq, Int.reduceAdd, hnw, r8, w5, w6, rx, ry, g0, f5, f1, hgo, bI_t cg, h34]
    · rw [if_neg cg]
      by_cases cn : nx + 1 < w
      · rw [if_pos cn]
        simp (disch := omega) only [g38_0, g38_1, g38_4, g38_4n, g38_5, g38_5n, g38_6, g38_6n, g38_9, g38_10, g38_11, g38_14, g38_14n, g38_15, g38_18, g38_19, g38_20, g38_21, g38_21n, g38_22, g38_23, g38_24, g38_27, g38_27n, g38_28, g38_31, g38_32, g38_35, g38_36, g38_36i, g38_37, g38_40, g38_41, g38_42, g38_45, g38_45n, g38_46, g38_47, g38_50, g38_50b, g38_53, g38_54, g38_55, g38_58, g38_58n, g38_59, g38_62, g38_65, g38_68, g38_69, g38_70, g38_73, g38_74, g38_75, g38_76, g38_79, g38_82, g38_85, g38_86, g38_89, g38_90, g38_91, g38_94, g38_95, g38_98, Int.reduceToNat, jtg, mu_s, mu_n, mu_j, mn_s, mn_n, jg_5_2, jg_7_2, jal, jg_7_3, jg_5_5, jp_5_5, jg_5_1, jp_5_4, jg_5_4, jg_4_3, Option.some.injEq, exists_eq_left', zkl_i, zkl_l, zkl_n, zkl_r, zkl_0, zc_v, zc_n, zc_t, zd_v, zd_n, mj_tg, true_and, ↓reduceIte, not_true_eq_false, not_false_eq_true, ↓if_pos, ↓if_neg, Int.reduceLE, Int.reduceLT, Int.reduceEq, Int.reduceAdd, hnw, r8, w5, w6, rx, ry, g0, f5, f1, f4, hgo, bI_f cg, p3']
      · rw [if_neg cn]
        simp (disch := omega) only [g38_0, g38_1, g38_4, g38_4n, g38_5, g38_5n, g38_6, g38_6n, g38_9, g38_10, g38_11, g38_14, g38_14n, g38_15, g38_18, g38_19, g38_20, g38_21, g38_21n, g38_22, g38_23, g38_24, g38_27, g38_27n, g38_28, g38_31, g38_32, g38_35, g38_36, g38_36i, g38_37, g38_40, g38_41, g38_42, g38_45, g38_45n, g38_46, g38_47, g38_50, g38_50b, g38_53, g38_54, g38_55, g38_58, g38_58n, g38_59, g38_62, g38_65, g38_68, g38_69, g38_70, g38_73, g38_74, g38_75, g38_76, g38_79, g38_82, g38_85, g38_86, g38_89, g38_90, g38_91, g38_94, g38_95, g38_98, Int.reduceToNat, jtg, mu_s, mu_n, mu_j, mn_s, mn_n, jg_5_2, jg_7_2, jal, jg_7_3, jg_5_5, jp_5_5, jg_5_1, jp_5_4, jg_5_4, jg_4_3, Option.some.injEq, exists_eq_left', zkl_i, zkl_l, zkl_n, zkl_r, zkl_0, zc_v, zc_n, zc_t, zd_v, zd_n, mj_tg, true_and, ↓reduceIte, not_true_eq_false, not_false_eq_true, ↓if_pos, ↓if_neg, Int.reduceLE, Int.reduceLT, Int.reduceEq, Int.reduceAdd, hnw, r8, w5, w6, rx, ry, g0, f5, f1, f4, hgo, bI_f cg, p3']
  · rw [mu_j (by decide), mu_j (by decide), g1 0 (by decide)]; exact r6
  · rw [mu_j (by decide), mu_j (by decide), g1 1 (by decide)]; exact r7
  · rw [mu_j (by decide), mu_j (by decide), g1 2 (by decide)]; exact r8
  · rw [mu_j (by decide), mu_j (by decide), g1 3 (by decide)]; exact r9
  · rw [mu_j (by decide), mu_s]
  · rw [mu_j (by decide), mu_j (by decide), g2]
  · rw [mu_n a1, mu_n a1]; exact g3 j j1 j2
  · rw [mu_n a2, mu_n a2]; exact g4 j j1 j2
  · rw [mu_n k1, mu_n k1]; exact g5 c j k1 k2 k3
end
