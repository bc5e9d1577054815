/-! THE CLASS: the explorer goes through a pair, and tells -/
def fz (M : Nat → Int → Value) (b : Nat) (l : Int) (x : Value) : Nat → Int → Value := fun b' j => if b' = b ∧ 0 ≤ j ∧ j < l then x else M b' j
section
variable {T : Nat → Nat} {Ln : Nat → Int} {M M' M2 : Nat → Int → Value} {t : Nat × Nat} {a b pr ma : Nat} {A : Int → Nat} {W : Int → Int → Nat} {Y : zY} {n n' i tl tl' w k en r at' l : Int} {G G' : Int → Int → Int} {sl v E : Int → Int} {Q : zU → zS → Prop} {Dn Dn' : Int → Int → Prop} {x : Value}
theorem fz_n {b' : Nat} {j : Int} (h : ¬ b' = b) : fz M b l x b' j = M b' j := if_neg (fun hh => h hh.1)
theorem fz_i {j : Int} (h1 : 0 ≤ j) (h2 : j < l) : fz M b l x b j = x := if_pos ⟨rfl, h1, h2⟩
theorem fz_0 : fz M b 0 x = M := by
  funext b' j
  unfold fz
  rw [if_neg (by omega)]
theorem fz_s (hl : 0 ≤ l) : mu (fz M b l x) b l x = fz M b (l + 1) x := by
  funext b' j
  unfold mu fz
  by_cases c : b' = b ∧ j = l
  · rw [if_pos c, if_pos (by omega)]
  · rw [if_neg c]
    by_cases c2 : b' = b ∧ 0 ≤ j ∧ j < l
    · rw [if_pos c2, if_pos (by omega)]
    · rw [if_neg c2, if_neg (by omega)]
theorem s157_l {y : Int} (hb : T b = 100) (hl : Ln b = l) (l2 : l ≤ 60000) : ∀ (m : Nat) (j : Int), 0 ≤ j → j + m = l → (z_go zP 157 5 [some (.ref b), some (zi y), some (zi j), some (zi l)] [] (hj T Ln (fz M b j (zi y)), t) Q ↔ Q (.inl none) (hj T Ln (fz M b l (zi y)), t)) := by
  intro m
  induction m with
  | zero =>
    intro j j1 j2
    rw [show j = l by omega]
    simp (disch := omega) only [g157_0, g157_1, g157_2, g157_3, g157_4, g157_5, g157_6, g157_7, g157_10, g157_11, g157_12, g157_13, g157_14, g157_17, g157_20, Int.reduceToNat, jtg, mu_s, mu_n, mu_j, mn_s, mn_n, jln, jsi, Option.some.injEq, exists_eq_left', zkl_i, zkl_l, zkl_n, zkl_r, zkl_0, zc_v, zc_n, zc_t, zd_v, zd_n, mj_tg, true_and, ↓reduceIte, not_true_eq_false, not_false_eq_true, ↓if_pos, ↓if_neg, Int.reduceLE, Int.reduceLT, Int.reduceEq, Int.reduceAdd]
  | succ m ih =>
    intro j j1 j2
    rw [← ih (j + 1) (by omega) (by omega), ← fz_s j1]
    refine g157_5.trans ?_
    simp (disch := omega) only [g157_0, g157_1, g157_2, g157_3, g157_4, g157_6, g157_7, g157_10, g157_11, g157_12, g157_13, g157_14, g157_17, g157_20, Int.reduceToNat, jtg, mu_s, mu_n, mu_j, mn_s, mn_n, jln, jsi, Option.some.injEq, exists_eq_left', zkl_i, zkl_l, zkl_n, zkl_r, zkl_0, zc_v, zc_n, zc_t, zd_v, zd_n, mj_tg, true_and, ↓reduceIte, not_true_eq_false, not_false_eq_true, ↓if_pos, ↓if_neg, Int.reduceLE, Int.reduceLT, Int.reduceEq, Int.reduceAdd]
theorem s157 {y : Int} (hb : T b = 100) (hl : Ln b = l) (l1 : 0 ≤ l) (l2 : l ≤ 60000) : z_go zP 157 0 [some (.ref b), some (zi y), none, none] [] (hj T Ln M, t) Q ↔ Q (.inl none) (hj T Ln (fz M b l (zi y)), t) := by
  have h := s157_l (M := M) (t := t) (Q := Q) (y := y) hb hl l2 l.toNat 0 (by omega) (by omega)
  rw [fz_0] at h
  rw [← h]
  simp (disch := omega) only [g157_0, g157_1, g157_2, g157_3, g157_4, g157_6, g157_7, g157_10, g157_11, g157_12, g157_13, g157_14, g157_17, g157_20, Int.reduceToNat, jtg, mu_s, mu_n, mu_j, mn_s, mn_n, jln, jsi, Option.some.injEq, exists_eq_left', zkl_i, zkl_l, zkl_n, zkl_r, zkl_0, zc_v, zc_n, zc_t, zd_v, zd_n, mj_tg, true_and, ↓reduceIte, not_true_eq_false, not_false_eq_true, ↓if_pos, ↓if_neg, Int.reduceLE, Int.reduceLT, Int.reduceEq, Int.reduceAdd, hl]
theorem s156_l {y : Int} (hb : T b = 101) (hl : Ln b = l) (l2 : l ≤ 60000) : ∀ (m : Nat) (j : Int), 0 ≤ j → j + m = l → (z_go zP 156 6 [some (.ref b), some (zl y), none, some (zi j), some (zi l)] [] (hj T Ln (fz M b j (zl y)), t) Q ↔ Q (.inl none) (hj T Ln (fz M b l (zl y)), t)) := by
  intro m
  induction m with
  | zero =>
    intro j j1 j2
    rw [show j = l by omega]
    simp (disch := omega) only [g156_0, g156_1, g156_2, g156_3, g156_4, g156_6, g156_7, g156_9, g156_12, g156_13, g156_14, g156_15, g156_16, g156_19, g156_22, Int.reduceToNat, jtg, mu_s, mu_n, mu_j, mn_s, mn_n, jln, jsl, Option.some.injEq, exists_eq_left', zkl_i, zkl_l, zkl_n, zkl_r, zkl_0, zc_v, zc_n, zc_t, zd_v, zd_n, mj_tg, true_and, ↓reduceIte, not_true_eq_false, not_false_eq_true, ↓if_pos, ↓if_neg, Int.reduceLE, Int.reduceLT, Int.reduceEq, Int.reduceAdd]
  | succ m ih =>
    intro j j1 j2
    rw [← ih (j + 1) (by omega) (by omega), ← fz_s j1]
    refine g156_6.trans ?_
    simp (disch := omega) only [g156_0, g156_1, g156_2, g156_3, g156_4, g156_7, g156_9, g156_12, g156_13, g156_14, g156_15, g156_16, g156_19, g156_22, Int.reduceToNat, jtg, mu_s, mu_n, mu_j, mn_s, mn_n, jln, jsl, Option.some.injEq, exists_eq_left', zkl_i, zkl_l, zkl_n, zkl_r, zkl_0, zc_v, zc_n, zc_t, zd_v, zd_n, mj_tg, true_and, ↓reduceIte, not_true_eq_false, not_false_eq_true, ↓if_pos, ↓if_neg, Int.reduceLE, Int.reduceLT, Int.reduceEq, Int.reduceAdd]
theorem s156 {y : Int} (hb : T b = 101) (hl : Ln b = l) (l1 : 0 ≤ l) (l2 : l ≤ 60000) : z_go zP 156 0 [some (.ref b), some (zl y), none, none, none] [] (hj T Ln M, t) Q ↔ Q (.inl none) (hj T Ln (fz M b l (zl y)), t) := by
  have h := s156_l (M := M) (t := t) (Q := Q) (y := y) hb hl l2 l.toNat 0 (by omega) (by omega)
  rw [fz_0] at h
  rw [← h]
  simp (disch := omega) only [g156_0, g156_1, g156_2, g156_3, g156_4, g156_7, g156_9, g156_12, g156_13, g156_14, g156_15, g156_16, g156_19, g156_22, Int.reduceToNat, jtg, mu_s, mu_n, mu_j, mn_s, mn_n, jln, jsl, Option.some.injEq, exists_eq_left', zkl_i, zkl_l, zkl_n, zkl_r, zkl_0, zc_v, zc_n, zc_t, zd_v, zd_n, mj_tg, true_and, ↓reduceIte, not_true_eq_false, not_false_eq_true, ↓if_pos, ↓if_neg, Int.reduceLE, Int.reduceLT, Int.reduceEq, Int.reduceAdd, hl]
/-- the beginning -/
theorem CV_0 (hR : RG Y) (hK : PK Y k) : CV Y k (fun _ => 0) ∧ eqv (psi Y k (fun _ => 0)) (fun _ => 0) := by
  obtain ⟨K1, ⟨K2, K3⟩, ⟨K4, K5⟩, K6⟩ := hK
  have hp : ∀ e, psi Y k (fun _ => 0) e = 0 := by
    intro e
    unfold psi
    split
    · split
      · rfl
      · rfl
    · rfl
  have hsz : ∀ w, 0 < Y 13 (m_pa Y k w) := by
    intro w
    unfold m_pa
    split
    · exact K2
    · exact K3
  have hP := p2_pos (Y 7 (Y 5 (Y 5 k)))
  have hs : ∀ e, sr Y (psi Y k (fun _ => 0)) 38 e = 0 := hp
  refine ⟨⟨fun w _ => by have := hsz w; show -1 ≤ (0 : Int) ∧ (0 : Int) < Y 13 (m_pa Y k w); omega, ⟨?_, fun e _ _ => by rw [hp]; omega⟩⟩, fun e _ _ => hp e⟩
  unfold VQ
  simp only [hs]
  refine ⟨⟨?_, ?_⟩, fun e _ _ => hP, fun e _ _ => trivial, fun w _ _ => ⟨by omega, K4, K4, hP, hP, fun _ => ⟨trivial, trivial⟩, fun _ => ⟨trivial, trivial⟩⟩⟩
  · show 0 ≤ Y 13 (Y 5 k); omega
  · show 0 ≤ Y 13 (Y 6 k); omega
theorem OK_0 (hR : RG Y) (hK : PK Y k) (hG : G 0 = fun _ => 0) : OK Y k (fun j _ => j < 0) G 1 0 := by
  obtain ⟨c1, c2⟩ := CV_0 hR hK
  refine ⟨⟨⟨⟨by omega, by omega⟩, by show eqv (psi Y k (G 0)) _; rw [hG]; exact c2⟩, fun i i1 i2 => ?_, fun i j a b d => by omega, fun i i1 i2 P hP => ?_, fun _ i w hd a => absurd hd (by omega), fun hh => absurd rfl hh⟩, fun i i1 i2 => ?_, fun j u hh => by omega, .inl rfl⟩
  · show Vd Y k (psi Y k (G i))
    rw [show i = 0 by omega, hG]; exact c1.2
  · show P (psi Y k (G i))
    rw [show i = 0 by omega, hG]
    exact hP.1 _ _ (eqv_s c2) hP.2.1
  · rw [show i = 0 by omega, hG]; exact c1
/-- going through, state by state -/
theorem s4_l (hR : RG Y) (hK : PK Y k) : ∀ (m : Nat) (at' : Int) (M : Nat → Int → Value) (G : Int → Int → Int) (n : Int) (sl : Int → Int) (tl en : Int) (E : Int → Int), XI T Ln M a pr ma G n sl tl → PX T Ln M A W Y k pr ma → OK Y k (fun j _ => j < at') G n tl → (tl = 0 ∨ tl = 1) → XE M a en E → (tl = 0 → EP (Bp Y k G) (fun i => ce (G i)) at' en E) → M a 8 = zi 0 → 0 ≤ at' → at' ≤ n → at' + m = 2000 → ∃ M' G' n' sl' tl' en' E' l2, (∀ Q : zU → zS → Prop, z_go zP 4 58 [some (.ref a), some (.ref pr), some (zi at')] [] (hj T Ln M, t) Q ↔ z_go zP 4 91 [some (.ref a), some (.ref pr), l2] [] (hj T Ln M', t) Q) ∧ XI T Ln M' a pr ma G' n' sl' tl' ∧ PX T Ln M' A W Y k pr ma ∧ OK Y k (fun j _ => j < n') G' n' tl' ∧ (tl' = 0 ∨ tl' = 1) ∧ XE M' a en' E' ∧ (tl' = 0 → EP (Bp Y k G') (fun i => ce (G' i)) n' en' E') ∧ M' a 8 = zi 0 ∧ ∀ b j, ¬ (a ≤ b ∧ b ≤ a + 4) → M' b j = M b j := by
  intro m
  induction m with
  | zero =>
    intro at' M G n sl tl en E hx hp ho ht he hep h8 a1 a2 am
    obtain ⟨⟨⟨h1, h2, h3, h4, h5⟩, ⟨l1, l2, l3, l4⟩, ⟨m1, m2, m3, m4⟩, m5, m6⟩, ⟨g1, g2, -⟩, -, -, ht9⟩ := id hx
    have hn : n = at' := by omega
    refine ⟨M, G, n, sl, tl, en, E, some (zi at'), fun Q => ?_, hx, hp, by rw [hn] at ho ⊢; exact ho, ht, he, fun h0 => by rw [hn]; exact hep h0, h8, fun _ _ _ => rfl⟩
    simp (disch := omega) only [g4_0, g4_1, g4_1n, g4_2, g4_5, g4_6, g4_6n, g4_7, g4_10, g4_13, g4_16, g4_17, g4_18, g4_21, g4_22, g4_23, g4_26, g4_27, g4_28, g4_31, g4_32, g4_33, g4_36, g4_37, g4_40, g4_41, g4_44, g4_45, g4_48, g4_49, g4_52, g4_53, g4_56, g4_57, g4_58, g4_59, g4_60, g4_63, g4_66, g4_67, g4_70, g4_73, g4_74, g4_77, g4_77b, g4_80, g4_81, g4_82, g4_85, g4_88, g4_92, g4_95, Int.reduceToNat, jtg, mu_s, mu_n, mu_j, mn_s, mn_n, jp_1_4, jg_3_1, jg_4_1, jp_1_5, jp_1_6, jp_1_7, jp_1_8, jp_1_9, jg_1_1, jg_1_3, jg_1_6, jg_1_9, Option.some.injEq, exists_eq_left', zkl_i, zkl_l, zkl_n, zkl_r, zkl_0, zc_v, zc_n, zc_t, zd_v, zd_n, mj_tg, true_and, ↓reduceIte, not_true_eq_false, not_false_eq_true, ↓if_pos, ↓if_neg, Int.reduceLE, Int.reduceLT, Int.reduceEq, Int.reduceAdd, g1]
  | succ m ih =>
    intro at' M G n sl tl en E hx hp ho ht he hep h8 a1 a2 am
    obtain ⟨⟨⟨h1, h2, h3, h4, h5⟩, ⟨l1, l2, l3, l4⟩, ⟨m1, m2, m3, m4⟩, m5, m6⟩, ⟨g1, g2, -⟩, -, -, ht9⟩ := id hx
    by_cases c1 : at' = n
    · refine ⟨M, G, n, sl, tl, en, E, some (zi at'), fun Q => ?_, hx, hp, by rw [c1] at ho; exact ho, ht, he, fun h0 => by rw [← c1]; exact hep h0, h8, fun _ _ _ => rfl⟩
      simp (disch := omega) only [g4_0, g4_1, g4_1n, g4_2, g4_5, g4_6, g4_6n, g4_7, g4_10, g4_13, g4_16, g4_17, g4_18, g4_21, g4_22, g4_23, g4_26, g4_27, g4_28, g4_31, g4_32, g4_33, g4_36, g4_37, g4_40, g4_41, g4_44, g4_45, g4_48, g4_49, g4_52, g4_53, g4_56, g4_57, g4_58, g4_59, g4_60, g4_63, g4_66, g4_67, g4_70, g4_73, g4_74, g4_77, g4_77b, g4_80, g4_81, g4_82, g4_85, g4_88, g4_92, g4_95, Int.reduceToNat, jtg, mu_s, mu_n, mu_j, mn_s, mn_n, jp_1_4, jg_3_1, jg_4_1, jp_1_5, jp_1_6, jp_1_7, jp_1_8, jp_1_9, jg_1_1, jg_1_3, jg_1_6, jg_1_9, Option.some.injEq, exists_eq_left', zkl_i, zkl_l, zkl_n, zkl_r, zkl_0, zc_v, zc_n, zc_t, zd_v, zd_n, mj_tg, true_and, ↓reduceIte, not_true_eq_false, not_false_eq_true, ↓if_pos, ↓if_neg, Int.reduceLE, Int.reduceLT, Int.reduceEq, Int.reduceAdd, g1]
    · rcases ht with rfl | rfl
      · obtain ⟨M1, G1, n1, sl1, tl1, en1, E1, q1, q2, q3, q4, q5, q6, q7, q8, q9⟩ := s5 (t := t) hR hK hx hp ho he (hep rfl) h8 a1 (by omega)
        have ht1 : tl1 = 0 ∨ tl1 = 1 := q4.2.2.2
        obtain ⟨M2, G2, n2, sl2, tl2, en2, E2, l2', r1, r2, r3, r4, r5, r6, r7, r8, r9⟩ := ih (at' + 1) M1 G1 n1 sl1 tl1 en1 E1 q2 q3 q4 ht1 q5 (fun _ => q6) q7 (by omega) q8 (by omega)
        refine ⟨M2, G2, n2, sl2, tl2, en2, E2, l2', fun Q => ?_, r2, r3, r4, r5, r6, r7, r8, fun b j hh => by rw [r9 b j hh, q9 b j hh]⟩
        rw [← r1 Q]
        refine g4_58.trans ?_
        simp (disch := omega) only [g4_0, g4_1, g4_1n, g4_2, g4_5, g4_6, g4_6n, g4_7, g4_10, g4_13, g4_16, g4_17, g4_18, g4_21, g4_22, g4_23, g4_26, g4_27, g4_28, g4_31, g4_32, g4_33, g4_36, g4_37, g4_40, g4_41, g4_44, g4_45, g4_48, g4_49, g4_52, g4_53, g4_56, g4_57, g4_59, g4_60, g4_63, g4_66, g4_67, g4_70, g4_73, g4_74, g4_77, g4_77b, g4_80, g4_81, g4_82, g4_85, g4_88, g4_92, g4_95, Int.reduceToNat, jtg, mu_s, mu_n, mu_j, mn_s, mn_n, jp_1_4, jg_3_1, jg_4_1, jp_1_5, jp_1_6, jp_1_7, jp_1_8, jp_1_9, jg_1_1, jg_1_3, jg_1_6, jg_1_9, Option.some.injEq, exists_eq_left', zkl_i, zkl_l, zkl_n, zkl_r, zkl_0, zc_v, zc_n, zc_t, zd_v, zd_n, mj_tg, true_and, ↓reduceIte, not_true_eq_false, not_false_eq_true, ↓if_pos, ↓if_neg, Int.reduceLE, Int.reduceLT, Int.reduceEq, Int.reduceAdd, g1, ht9, q1]
      · refine ⟨M, G, n, sl, 1, en, E, some (zi at'), fun Q => ?_, hx, hp, ⟨?_, ho.2.1, fun j u hh => hh, .inr rfl⟩, .inr rfl, he, fun h0 => absurd h0 (by decide), h8, fun _ _ _ => rfl⟩
        · simp (disch := omega) only [g4_0, g4_1, g4_1n, g4_2, g4_5, g4_6, g4_6n, g4_7, g4_10, g4_13, g4_16, g4_17, g4_18, g4_21, g4_22, g4_23, g4_26, g4_27, g4_28, g4_31, g4_32, g4_33, g4_36, g4_37, g4_40, g4_41, g4_44, g4_45, g4_48, g4_49, g4_52, g4_53, g4_56, g4_57, g4_58, g4_59, g4_60, g4_63, g4_66, g4_67, g4_70, g4_73, g4_74, g4_77, g4_77b, g4_80, g4_81, g4_82, g4_85, g4_88, g4_92, g4_95, Int.reduceToNat, jtg, mu_s, mu_n, mu_j, mn_s, mn_n, jp_1_4, jg_3_1, jg_4_1, jp_1_5, jp_1_6, jp_1_7, jp_1_8, jp_1_9, jg_1_1, jg_1_3, jg_1_6, jg_1_9, Option.some.injEq, exists_eq_left', zkl_i, zkl_l, zkl_n, zkl_r, zkl_0, zc_v, zc_n, zc_t, zd_v, zd_n, mj_tg, true_and, ↓reduceIte, not_true_eq_false, not_false_eq_true, ↓if_pos, ↓if_neg, Int.reduceLE, Int.reduceLT, Int.reduceEq, Int.reduceAdd, g1, ht9]
        · obtain ⟨x1, x2, x3, x4, x5, x6⟩ := ho.1
          exact ⟨x1, x2, x3, x4, fun h0 => absurd h0 (by decide), x6⟩
end
