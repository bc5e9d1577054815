/-! THE CLASS: what was found is told -/
def EX0 (T : Nat → Nat) (Ln : Nat → Int) (M : Nat → Int → Value) (a : Nat) : Prop := (T a = 1 ∧ T (a + 1) = 101 ∧ T (a + 2) = 100 ∧ T (a + 3) = 100 ∧ T (a + 4) = 101) ∧ (Ln (a + 1) = 56000 ∧ Ln (a + 2) = 4096 ∧ Ln (a + 3) = 2000 ∧ Ln (a + 4) = 28) ∧ (M a 0 = .ref (a + 1) ∧ M a 1 = .ref (a + 2) ∧ M a 2 = .ref (a + 3) ∧ M a 3 = .ref (a + 4)) ∧ (∀ j, 0 ≤ j → j < 56000 → ∃ v, M (a + 1) j = zl v) ∧ (∀ j, 0 ≤ j → j < 2000 → ∃ v, M (a + 3) j = zi v ∧ 0 ≤ v ∧ v < 2000)
section
variable {T : Nat → Nat} {Ln : Nat → Int} {M M0 M' : Nat → Int → Value} {t : Nat × Nat} {a b pr ma nn uu : Nat} {A : Int → Nat} {W : Int → Int → Nat} {Y : zY} {n tl k en ww : Int} {G : Int → Int → Int} {sl E : Int → Int} {Q : zU → zS → Prop}
theorem s21_l (h1 : T a = 1) (h2 : T (a + 1) = 101) (h4 : T (a + 3) = 100) (l1 : Ln (a + 1) = 56000) (l3 : Ln (a + 3) = 2000) (m1 : M0 a 0 = .ref (a + 1)) (m3 : M0 a 2 = .ref (a + 3)) (m5 : M0 a 4 = .ref pr) (m7 : M0 a 7 = zi en) (p1 : T pr = 3) (p9 : M0 pr 9 = .ref nn) (b1 : T nn = 101) (b2 : Ln nn = en * ww) (e1 : 0 ≤ en) (e2 : en ≤ 2000) (w1 : 0 ≤ ww) (w2 : ww ≤ 16) (hE : ∀ j, 0 ≤ j → j < en → M0 (a + 3) j = zi (E j) ∧ 0 ≤ E j ∧ E j < 2000) (hl : ∀ j, 0 ≤ j → j < 56000 → ∃ x, M0 (a + 1) j = zl x) (hG : ∀ i j, 0 ≤ i → i < en → 0 ≤ j → j < 28 → M0 (a + 1) (E i * 28 + j) = zl (G (E i) j)) (d0 : ¬ a = nn) (d1 : ¬ a + 1 = nn) (d3 : ¬ a + 3 = nn) (d5 : ¬ pr = nn) : ∀ (m : Nat) (j : Int) (M : Nat → Int → Value), 0 ≤ j → j + m = en → (∀ b j, ¬ b = nn → M b j = M0 b j) → (∀ i e, 0 ≤ i → i < j → 0 ≤ e → e < ww → M nn (i * ww + e) = zl (G (E i) (2 + e))) → ∃ M', (∀ Q : zU → zS → Prop, z_go zP 21 85 [some (.ref a), some (zi ww), some (zi j)] [] (hj T Ln M, t) Q ↔ Q (.inl none) (hj T Ln M', t)) ∧ (∀ i e, 0 ≤ i → i < en → 0 ≤ e → e < ww → M' nn (i * ww + e) = zl (G (E i) (2 + e))) ∧ ∀ b j, ¬ b = nn → M' b j = M0 b j := by
  have hlen : en * ww ≤ 32000 := by
    have := Int.mul_le_mul e2 w2 w1 (by omega : (0 : Int) ≤ 2000)
    omega
  intro m
  induction m with
  | zero =>
    intro j M j1 j2 hf hc
    have m7' : M a 7 = zi en := by rw [hf a 7 d0]; exact m7
    refine ⟨M, fun Q => ?_, fun i e a b d f => hc i e a (by omega) d f, hf⟩
    simp (disch := omega) only [g21_0, g21_1, g21_4, g21_5, g21_8, g21_9, g21_12, g21_13, g21_16, g21_19, g21_20, g21_23, g21_23b, g21_26, g21_27, g21_28, g21_31, g21_34, g21_35, g21_36, g21_39, g21_40, g21_43, g21_46, g21_47, g21_50, g21_51, g21_54, g21_57, g21_58, g21_61, g21_62, g21_65, g21_68, g21_69, g21_72, g21_73, g21_76, g21_77, g21_78, g21_80, g21_83, g21_84, g21_85, g21_86, g21_87, g21_90, g21_93, g21_94, g21_97, g21_98, g21_101, g21_102, g21_103, g21_105, g21_106, g21_107, g21_108, g21_109, g21_112, g21_115, g21_116, g21_117, g21_118, g21_119, g21_122, g21_125, g21_128, Int.reduceToNat, jtg, mu_s, mu_n, mu_j, mn_s, mn_n, jg_1_4, jp_3_4, jg_1_9, jp_3_5, jg_1_6, jp_3_6, jg_1_8, jp_3_8, jg_1_7, jp_3_7, jnl, jnk_0, jnk_4, jnk_16, jnk_24, jnk_28, jnk_61, jnk_2000, jnk_4096, jnk_56000, jp_3_9, jg_1_0, jg_1_2, jai, jg_3_9, Option.some.injEq, exists_eq_left', zkl_i, zkl_l, zkl_n, zkl_r, zkl_0, zc_v, zc_n, zc_t, zd_v, zd_n, mj_tg, true_and, ↓reduceIte, not_true_eq_false, not_false_eq_true, ↓if_pos, ↓if_neg, Int.reduceLE, Int.reduceLT, Int.reduceEq, Int.reduceAdd, m7']
  | succ m ih =>
    intro j M j1 j2 hf hc
    have m7' : M a 7 = zi en := by rw [hf a 7 d0]; exact m7
    have m1' : M a 0 = .ref (a + 1) := by rw [hf a 0 d0]; exact m1
    have m3' : M a 2 = .ref (a + 3) := by rw [hf a 2 d0]; exact m3
    have m5' : M a 4 = .ref pr := by rw [hf a 4 d0]; exact m5
    have p9' : M pr 9 = .ref nn := by rw [hf pr 9 d5]; exact p9
    obtain ⟨q1, q2, q3⟩ := hE j j1 (by omega)
    have q1' : M (a + 3) j = zi (E j) := by rw [hf _ j d3]; exact q1
    have hj1 : j * ww + ww ≤ en * ww := by
      have h9 := Int.mul_le_mul_of_nonneg_right (show j + 1 ≤ en by omega) w1
      rw [Int.add_mul, Int.one_mul] at h9
      exact h9
    have hj0 : 0 ≤ j * ww := Int.mul_nonneg j1 w1
    have hcp := jcp (Ln := Ln) (M := M) (t := t) h2 b1 (c := E j * 28 + 2) (d := j * ww) (e := ww) (by omega) hj0 w1 (by omega) (by omega) (by omega) (by omega) (fun i i1 i2 => by rw [hf _ _ d1]; exact hl _ (by omega) (by omega))
    obtain ⟨M2, r1, r2, r3⟩ := ih (j + 1) (mc M (a + 1) (E j * 28 + 2) nn (j * ww) ww) (by omega) (by omega) (fun b i hb => by rw [mc_n hb]; exact hf b i hb) (fun i e i1 i2 e1 e2 => by
      by_cases c : i = j
      · rw [c, mc_i (by omega) (by omega), hf _ _ d1, show E j * 28 + 2 + (j * ww + e - j * ww) = E j * 28 + (2 + e) by omega]
        exact hG j (2 + e) j1 (by omega) (by omega) (by omega)
      · have h9 := Int.mul_le_mul_of_nonneg_right (show i + 1 ≤ j by omega) w1
        rw [Int.add_mul, Int.one_mul] at h9
        rw [mc_o (by omega)]
        exact hc i e i1 (by omega) e1 e2)
    refine ⟨M2, fun Q => ?_, r2, r3⟩
    rw [← r1 Q]
    refine g21_85.trans ?_
    simp (disch := omega) only [g21_0, g21_1, g21_4, g21_5, g21_8, g21_9, g21_12, g21_13, g21_16, g21_19, g21_20, g21_23, g21_23b, g21_26, g21_27, g21_28, g21_31, g21_34, g21_35, g21_36, g21_39, g21_40, g21_43, g21_46, g21_47, g21_50, g21_51, g21_54, g21_57, g21_58, g21_61, g21_62, g21_65, g21_68, g21_69, g21_72, g21_73, g21_76, g21_77, g21_78, g21_80, g21_83, g21_84, g21_86, g21_87, g21_90, g21_93, g21_94, g21_97, g21_98, g21_101, g21_102, g21_103, g21_105, g21_106, g21_107, g21_108, g21_109, g21_112, g21_115, g21_116, g21_117, g21_118, g21_119, g21_122, g21_125, g21_128, Int.reduceToNat, jtg, mu_s, mu_n, mu_j, mn_s, mn_n, jg_1_4, jp_3_4, jg_1_9, jp_3_5, jg_1_6, jp_3_6, jg_1_8, jp_3_8, jg_1_7, jp_3_7, jnl, jnk_0, jnk_4, jnk_16, jnk_24, jnk_28, jnk_61, jnk_2000, jnk_4096, jnk_56000, jp_3_9, jg_1_0, jg_1_2, jai, jg_3_9, Option.some.injEq, exists_eq_left', zkl_i, zkl_l, zkl_n, zkl_r, zkl_0, zc_v, zc_n, zc_t, zd_v, zd_n, mj_tg, true_and, ↓reduceIte, not_true_eq_false, not_false_eq_true, ↓if_pos, ↓if_neg, Int.reduceLE, Int.reduceLT, Int.reduceEq, Int.reduceAdd, m7', m1', m3', m5', p9', q1', hcp]
/-- too large -/
theorem s21_t (hx : XI T Ln M a pr ma G n sl 1) (p1 : T pr = 3) : z_go zP 21 0 [some (.ref a), none, none] [] (hj T Ln M, t) Q ↔ Q (.inl none) (hj T Ln (mu (mu M pr 4 (zi 1)) pr 5 (zi 1)), t) := by
  obtain ⟨⟨⟨h1, h2, h3, h4, h5⟩, ⟨l1, l2, l3, l4⟩, ⟨m1, m2, m3, m4⟩, m5, m6⟩, ⟨g1, g2, -⟩, -, -, ht⟩ := id hx
  have d : ¬ a = pr := tne h1 p1 (by decide)
  simp (disch := omega) only [g21_0, g21_1, g21_4, g21_5, g21_8, g21_9, g21_12, g21_13, g21_16, g21_19, g21_20, g21_23, g21_23b, g21_26, g21_27, g21_28, g21_31, g21_34, g21_35, g21_36, g21_39, g21_40, g21_43, g21_46, g21_47, g21_50, g21_51, g21_54, g21_57, g21_58, g21_61, g21_62, g21_65, g21_68, g21_69, g21_72, g21_73, g21_76, g21_77, g21_78, g21_80, g21_83, g21_84, g21_85, g21_86, g21_87, g21_90, g21_93, g21_94, g21_97, g21_98, g21_101, g21_102, g21_103, g21_105, g21_106, g21_107, g21_108, g21_109, g21_112, g21_115, g21_116, g21_117, g21_118, g21_119, g21_122, g21_125, g21_128, Int.reduceToNat, jtg, mu_s, mu_n, mu_j, mn_s, mn_n, jg_1_4, jp_3_4, jg_1_9, jp_3_5, jg_1_6, jp_3_6, jg_1_8, jp_3_8, jg_1_7, jp_3_7, jnl, jnk_0, jnk_4, jnk_16, jnk_24, jnk_28, jnk_61, jnk_2000, jnk_4096, jnk_56000, jp_3_9, jg_1_0, jg_1_2, jai, jg_3_9, Option.some.injEq, exists_eq_left', zkl_i, zkl_l, zkl_n, zkl_r, zkl_0, zc_v, zc_n, zc_t, zd_v, zd_n, mj_tg, true_and, ↓reduceIte, not_true_eq_false, not_false_eq_true, ↓if_pos, ↓if_neg, Int.reduceLE, Int.reduceLT, Int.reduceEq, Int.reduceAdd, m5, ht]
set_option maxHeartbeats 1000000 in
theorem s21_s (hR : RG Y) (hx : XI T Ln M a pr ma G n sl 0) (hp : PX T Ln M A W Y k pr ma) (he : XE M a en E) (h8 : M a 8 = zi 0) (hE : ∀ j, 0 ≤ j → j < en → 0 ≤ E j ∧ E j < n) (ww : Int) (hww : ww = 8 + Y 8 (Y 5 (Y 5 k))) (an : a + 4 < nn) (pn : pr < nn) (hAn : A (Y 5 k) < nn) (hmn : ma < nn) : ∃ M', (∀ Q : zU → zS → Prop, z_go zP 21 0 [some (.ref a), none, none] [] (hj T Ln M, nn, uu) Q ↔ Q (.inl none) (hj (tu T nn 101) (lu Ln nn (en * ww)) M', nn + 1, uu + (en * ww).toNat)) ∧ (∀ i e, 0 ≤ i → i < en → 0 ≤ e → e < ww → M' nn (i * ww + e) = zl (G (E i) (2 + e))) ∧ (M' pr 4 = zi 1 ∧ M' pr 5 = zi 0 ∧ M' pr 6 = zi n ∧ M' pr 7 = zi en ∧ M' pr 8 = zi 0 ∧ M' pr 9 = .ref nn) ∧ (∀ j, j < 4 → M' pr j = M pr j) ∧ ∀ b j, ¬ b = nn → ¬ b = pr → M' b j = M b j := by
  obtain ⟨⟨⟨h1, h2, h3, h4, h5⟩, ⟨l1, l2, l3, l4⟩, ⟨m1, m2, m3, m4⟩, m5, m6⟩, ⟨g1, g2, g3, g4, g5⟩, -, lg, ht⟩ := id hx
  obtain ⟨e7, ⟨e1, e2⟩, er, elo⟩ := he
  obtain ⟨⟨p1, p2', p3, p4⟩, p5, ⟨⟨⟨k0, -⟩, -, k1, -⟩, ⟨k2, -, k4, -⟩, -⟩, -⟩ := id hp
  have b8 : 0 ≤ Y 8 (Y 5 (Y 5 k)) ∧ Y 8 (Y 5 (Y 5 k)) ≤ 8 := hR 8 _
  have hlen : en * ww ≤ 32000 := by
    have := Int.mul_le_mul e2 (show ww ≤ 16 by omega) (show 0 ≤ ww by omega) (by omega : (0 : Int) ≤ 2000)
    omega
  have hlen0 : 0 ≤ en * ww := Int.mul_nonneg e1 (by omega)
  have d : ¬ a = pr := tne h1 p1 (by decide)
  have d1 : ¬ a + 1 = pr := tne h2 p1 (by decide)
  have d3 : ¬ a + 3 = pr := tne h4 p1 (by decide)
  have dA : ¬ A (Y 5 k) = pr := tne k0 p1 (by decide)
  have dm : ¬ A (Y 5 (Y 5 k)) = pr := tne k2 p1 (by decide)
  have h29 : ∀ Q : zU → zS → Prop, z_go zP 29 0 [some (.ref pr)] [] (hj T Ln (mu (mu M pr 4 (zi 1)) pr 5 (zi 0)), nn, uu) Q ↔ Q (.inl (some (zi ww))) (hj T Ln (mu (mu M pr 4 (zi 1)) pr 5 (zi 0)), nn, uu) := by
    intro Q
    rw [hww]
    simp (disch := omega) only [g29_0, g29_2, g29_3, g29_6, g29_9, g29_12, g29_13, Int.reduceToNat, jtg, mu_s, mu_n, mu_j, mn_s, mn_n, jg_3_1, jg_4_1, jg_2_1, Option.some.injEq, exists_eq_left', zkl_i, zkl_l, zkl_n, zkl_r, zkl_0, zc_v, zc_n, zc_t, zd_v, zd_n, mj_tg, true_and, ↓reduceIte, not_true_eq_false, not_false_eq_true, ↓if_pos, ↓if_neg, Int.reduceLE, Int.reduceLT, Int.reduceEq, Int.reduceAdd, p2', k1, k4]
  have nb : ∀ b, b < nn → tu T nn 101 b = T b ∧ lu Ln nn (en * ww) b = Ln b := fun b hb => ⟨tu_n (by omega), lu_n (by omega)⟩
  have hM0 : ∀ b j, ¬ b = nn → ¬ b = pr → mu (mn (mu (mu (mu (mu (mu M pr 4 (zi 1)) pr 5 (zi 0)) pr 6 (zi n)) pr 8 (zi 0)) pr 7 (zi en)) nn (fun _ => zl 0)) pr 9 (.ref nn) b j = M b j := fun b j x y => by rw [mu_n y, mn_n x, mu_n y, mu_n y, mu_n y, mu_n y, mu_n y]
  have hpr : ∀ j, ¬ j = 9 → mu (mn (mu (mu (mu (mu (mu M pr 4 (zi 1)) pr 5 (zi 0)) pr 6 (zi n)) pr 8 (zi 0)) pr 7 (zi en)) nn (fun _ => zl 0)) pr 9 (.ref nn) pr j = mu (mu (mu (mu (mu M pr 4 (zi 1)) pr 5 (zi 0)) pr 6 (zi n)) pr 8 (zi 0)) pr 7 (zi en) pr j := fun j hj => by rw [mu_j hj, mn_n (by omega)]
  obtain ⟨M2, r1, r2, r3⟩ := s21_l (t := (nn + 1, uu + (en * ww).toNat)) (T := tu T nn 101) (Ln := lu Ln nn (en * ww)) (M0 := mu (mn (mu (mu (mu (mu (mu M pr 4 (zi 1)) pr 5 (zi 0)) pr 6 (zi n)) pr 8 (zi 0)) pr 7 (zi en)) nn (fun _ => zl 0)) pr 9 (.ref nn)) (a := a) (pr := pr) (nn := nn) (en := en) (ww := ww) (E := E) (G := G) (by rw [(nb a (by omega)).1]; exact h1) (by rw [(nb _ (by omega)).1]; exact h2) (by rw [(nb _ (by omega)).1]; exact h4) (by rw [(nb _ (by omega)).2]; exact l1) (by rw [(nb _ (by omega)).2]; exact l3) (by rw [hM0 a 0 (by omega) d]; exact m1) (by rw [hM0 a 2 (by omega) d]; exact m3) (by rw [hM0 a 4 (by omega) d]; exact m5) (by rw [hM0 a 7 (by omega) d]; exact e7) (by rw [(nb pr pn).1]; exact p1) mu_s tu_s lu_s e1 e2 (by omega) (by omega) (fun j j1 j2 => ⟨by rw [hM0 _ j (by omega) d3]; exact elo j j1 j2, by have := hE j j1 j2; omega⟩) (fun j j1 j2 => by rw [hM0 _ j (by omega) d1]; exact g3 j j1 j2) (fun i j i1 i2 j1 j2 => by rw [hM0 _ _ (by omega) d1]; exact g4 (E i) j (hE i i1 i2).1 (hE i i1 i2).2 j1 j2) (by omega) (by omega) (by omega) (by omega) en.toNat 0 _ (by omega) (by omega) (fun _ _ _ => rfl) (fun i e i1 i2 => by omega)
  refine ⟨M2, fun Q => ?_, r2, ⟨?_, ?_, ?_, ?_, ?_, ?_⟩, fun j hj => ?_, fun b j x y => by rw [r3 b j x, hM0 b j x y]⟩
  · rw [← r1 Q]
    simp (disch := first | omega | (simp (disch := omega) only [tu_s, tu_n, lu_s, lu_n]; done) | (simp (disch := omega) only [tu_s, tu_n, lu_s, lu_n]; omega)) only [g21_0, g21_1, g21_4, g21_5, g21_8, g21_9, g21_12, g21_13, g21_16, g21_19, g21_20, g21_23, g21_23b, g21_26, g21_27, g21_28, g21_31, g21_34, g21_35, g21_36, g21_39, g21_40, g21_43, g21_46, g21_47, g21_50, g21_51, g21_54, g21_57, g21_58, g21_61, g21_62, g21_65, g21_68, g21_69, g21_72, g21_73, g21_76, g21_77, g21_78, g21_80, g21_83, g21_84, g21_86, g21_87, g21_90, g21_93, g21_94, g21_97, g21_98, g21_101, g21_102, g21_103, g21_105, g21_106, g21_107, g21_108, g21_109, g21_112, g21_115, g21_116, g21_117, g21_118, g21_119, g21_122, g21_125, g21_128, Int.reduceToNat, jtg, mu_s, mu_n, mu_j, mn_s, mn_n, jg_1_4, jp_3_4, jg_1_9, jp_3_5, jg_1_6, jp_3_6, jg_1_8, jp_3_8, jg_1_7, jp_3_7, jnl, jnk_0, jnk_4, jnk_16, jnk_24, jnk_28, jnk_61, jnk_2000, jnk_4096, jnk_56000, jp_3_9, jg_1_0, jg_1_2, jai, jg_3_9, Option.some.injEq, exists_eq_left', zkl_i, zkl_l, zkl_n, zkl_r, zkl_0, zc_v, zc_n, zc_t, zd_v, zd_n, mj_tg, true_and, ↓reduceIte, not_true_eq_false, not_false_eq_true, ↓if_pos, ↓if_neg, Int.reduceLE, Int.reduceLT, Int.reduceEq, Int.reduceAdd, m5, ht, h29, g1, h8, e7, jnl hlen0]
  · rw [r3 pr 4 (by omega), hpr 4 (by omega), mu_j (by omega), mu_j (by omega), mu_j (by omega), mu_j (by omega), mu_s]
  · rw [r3 pr 5 (by omega), hpr 5 (by omega), mu_j (by omega), mu_j (by omega), mu_j (by omega), mu_s]
  · rw [r3 pr 6 (by omega), hpr 6 (by omega), mu_j (by omega), mu_j (by omega), mu_s]
  · rw [r3 pr 7 (by omega), hpr 7 (by omega), mu_s]
  · rw [r3 pr 8 (by omega), hpr 8 (by omega), mu_j (by omega), mu_s]
  · rw [r3 pr 9 (by omega), mu_s]
  · rw [r3 pr j (by omega), hpr j (by omega), mu_j (by omega), mu_j (by omega), mu_j (by omega), mu_j (by omega), mu_j (by omega)]
end
