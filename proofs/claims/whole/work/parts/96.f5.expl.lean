/-! THE CLASS: stores let go, ends -/
section
variable {T : Nat → Nat} {Ln : Nat → Int} {M M' M2 : Nat → Int → Value} {t : Nat × Nat} {a b pr ma : Nat} {A : Int → Nat} {W : Int → Int → Nat} {Y : zY} {n i tl w k : Int} {G : Int → Int → Int} {sl v : Int → Int} {Q : zU → zS → Prop}
theorem XV_c {f : Int} (h : XV M a v) (f1 : 20 ≤ f) (f2 : f ≤ 24) : XV (mc M (a + 4) (f + 2) (a + 4) f 2) a (vu (vu v f (v (f + 2))) (f + 1) (v (f + 3))) := by
  intro j j1 j2
  by_cases c1 : f ≤ j ∧ j < f + 2
  · rw [mc_i c1.1 c1.2]
    by_cases c2 : j = f
    · rw [c2, vu_n (by omega), vu_s, show f + 2 + (f - f) = f + 2 by omega]
      exact h _ (by omega) (by omega)
    · have c3 : j = f + 1 := by omega
      rw [c3, vu_s, show f + 2 + (f + 1 - f) = f + 3 by omega]
      exact h _ (by omega) (by omega)
  · rw [mc_o c1, vu_n (by omega), vu_n (by omega)]
    exact h j j1 j2
set_option maxHeartbeats 1000000 in
theorem s12 (hx : XI T Ln M a pr ma G n sl tl) (i1 : 0 ≤ i) (i2 : i < n) (h8 : Y 8 (Y 5 (Y 5 k)) ≤ 8) (hc : CW Y k (G i)) (w1 : w = 0 ∨ w = 1) : ∃ M' G' n' sl' tl' r, (∀ Q : zU → zS → Prop, z_go zP 12 0 [some (.ref a), some (zi i), some (zi w), none, none] [] (hj T Ln M, t) Q ↔ Q (.inl (some (zi r))) (hj T Ln M', t)) ∧ XI T Ln M' a pr ma G' n' sl' tl' ∧ FX M M' a ∧ ((1 ≤ G i (18 + w) ∧ r = 1 ∧ KO G n tl (sv (G i) w) G' n' tl') ∨ (¬ 1 ≤ G i (18 + w) ∧ r = 0 ∧ G' = G ∧ n' = n ∧ tl' = tl)) := by
  obtain ⟨hb, hg, ho, lg, ht⟩ := id hx
  have h13 := fun (Q : zU → zS → Prop) => s13 (t := t) (Q := Q) hb hg i1 i2
  have f13 : ∀ b j, ¬ b = a + 4 → mc M (a + 1) (i * 28) (a + 4) 0 28 b j = M b j := fun b j hh => mc_n hh
  have hv := XV_13 hg i1 i2
  have hx1 := XI_4 f13 hx
  have hF1 := FX_4 (a := a) f13
  generalize mc M (a + 1) (i * 28) (a + 4) 0 28 = M1 at h13 hv hx1 hF1 f13
  obtain ⟨hb1, hg1, -, -, ht1⟩ := id hx1
  obtain ⟨⟨h1, h2, h3, h4, h5⟩, ⟨l1, l2, l3, l4⟩, ⟨m1, m2, m3, m4⟩, m5, m6⟩ := id hb1
  obtain ⟨⟨c1, c2⟩, c3, c4⟩ := hc.2.2 w w1
  have e18 := hv (18 + w) (by omega) (by omega)
  have e20 := hv (20 + w * 4) (by omega) (by omega)
  have e21 := hv (20 + w * 4 + 1) (by omega) (by omega)
  by_cases q : 1 ≤ G i (18 + w)
  · have hv' : ∀ j, 0 ≤ j → j < 28 → M1 (a + 4) j = zl (G i j) := hv
    have c9 : ¬ ¬ (0 ≤ G i (20 + w * 4) ∧ G i (20 + w * 4) ≤ 7) := by omega
    have v1 := XV_u (j := 10 + G i (20 + w * 4)) (x := G i (20 + w * 4 + 1)) hv
    have v2 := XV_c (f := 20 + w * 4) v1 (by omega) (by omega)
    have v3 := XV_u (j := 20 + w * 4 + 4 - 2) (x := 0) v2
    have v4 := XV_u (j := 20 + w * 4 + 4 - 1) (x := 0) v3
    have v5 := XV_u (j := 18 + w) (x := G i (18 + w) - 1) v4
    have hcp := jcp (Ln := Ln) (M := mu M1 (a + 4) (10 + G i (20 + w * 4)) (zl (G i (20 + w * 4 + 1)))) (t := t) h5 h5 (c := 20 + w * 4 + 2) (d := 20 + w * 4) (e := 2) (by omega) (by omega) (by omega) (by omega) (by omega) (by omega) (by omega) (fun j j1 j2 => ⟨_, v1 _ (by omega) (by omega)⟩)
    have e18' : mc (mu M1 (a + 4) (10 + G i (20 + w * 4)) (zl (G i (20 + w * 4 + 1)))) (a + 4) (20 + w * 4 + 2) (a + 4) (20 + w * 4) 2 (a + 4) (18 + w) = zl (G i (18 + w)) := by
      rw [mc_o (by omega), mu_j (by omega)]; exact e18
    have m4' : mc (mu M1 (a + 4) (10 + G i (20 + w * 4)) (zl (G i (20 + w * 4 + 1)))) (a + 4) (20 + w * 4 + 2) (a + 4) (20 + w * 4) 2 a 3 = .ref (a + 4) := by rw [mc_n (by omega), mu_n (by omega)]; exact m4
    have f5 : ∀ b j, ¬ b = a + 4 → mu (mu (mu (mc (mu M1 (a + 4) (10 + G i (20 + w * 4)) (zl (G i (20 + w * 4 + 1)))) (a + 4) (20 + w * 4 + 2) (a + 4) (20 + w * 4) 2) (a + 4) (20 + w * 4 + 4 - 2) (zl 0)) (a + 4) (20 + w * 4 + 4 - 1) (zl 0)) (a + 4) (18 + w) (zl (G i (18 + w) - 1)) b j = M1 b j := fun b j hh => by rw [mu_n hh, mu_n hh, mu_n hh, mc_n hh, mu_n hh]
    have hx5 := XI_4 f5 hx1
    have lv := lg i
    have hlv : LV (sv (G i) w) := LV_u (LV_u (LV_u (LV_u (LV_u (LV_u lv (lv _).1 (lv _).2) (lv _).1 (lv _).2) (lv _).1 (lv _).2) (by omega) (by omega)) (by omega) (by omega)) (by omega) (by omega)
    have hev : (vu (vu (vu (vu (vu (vu (G i) (10 + G i (20 + w * 4)) (G i (20 + w * 4 + 1))) (20 + w * 4) (vu (G i) (10 + G i (20 + w * 4)) (G i (20 + w * 4 + 1)) (20 + w * 4 + 2))) (20 + w * 4 + 1) (vu (G i) (10 + G i (20 + w * 4)) (G i (20 + w * 4 + 1)) (20 + w * 4 + 3))) (20 + w * 4 + 4 - 2) 0) (20 + w * 4 + 4 - 1) 0) (18 + w) (G i (18 + w) - 1)) = sv (G i) w := by
      unfold sv
      rw [vu_n (k := 20 + w * 4 + 2) (by omega), vu_n (k := 20 + w * 4 + 3) (by omega), show 20 + w * 4 + 1 = 21 + w * 4 by omega, show 20 + w * 4 + 2 = 22 + w * 4 by omega, show 20 + w * 4 + 3 = 23 + w * 4 by omega, show 20 + w * 4 + 4 - 2 = 22 + w * 4 by omega, show 20 + w * 4 + 4 - 1 = 23 + w * 4 by omega]
    rw [hev] at v5
    obtain ⟨u1, u2, u3, u4, u5⟩ := id hx5
    obtain ⟨M4, G', n', sl', tl', w1', w2, w3, w4, w5, w6, w7, w8, w9⟩ := s14 (t := t) u1 u2 u3 v5 hlv u4 u5
    refine ⟨M4, G', n', sl', tl', 1, fun Q => ?_, ⟨w2, w3, w4, w5, w6⟩, FX_t (FX_t hF1 (FX_4 f5)) ⟨fun b j b1 b2 => w8 b j (by omega) (by omega) (by omega), w9⟩, .inl ⟨q, rfl, w7⟩⟩
    simp (disch := omega) only [g12_0, g12_1, g12_2, g12_5, g12_7, g12_8, g12_9, g12_10, g12_11, g12_12, g12_13, g12_16, g12_17, g12_18, g12_19, g12_21, g12_22, g12_25, g12_27, g12_28, g12_29, g12_30, g12_31, g12_35, g12_37, g12_38, g12_40, g12_43, g12_43b, g12_46, g12_47_0, g12_47_1, g12_47b, g12_48, g12_49, g12_52, g12_54, g12_56, g12_57, g12_58, g12_61, g12_62, g12_63, g12_64, g12_65, g12_66, g12_67, g12_70, g12_71, g12_72, g12_73, g12_74, g12_77, g12_78, g12_79, g12_82, g12_83, g12_86, g12_87, g12_88, g12_89, g12_90, g12_91, g12_92, g12_93, g12_94, g12_97, g12_98, g12_99, g12_100, g12_101, g12_102, g12_103, g12_104, g12_105, g12_108, g12_110, g12_111, g12_112, g12_113, g12_114, g12_115, g12_116, g12_117, g12_118, g12_121, g12_122_0, g12_122_1, g12_122b, Int.reduceToNat, jtg, mu_s, mu_n, mu_j, mn_s, mn_n, jg_1_3, jal, jsl, Option.some.injEq, exists_eq_left', zkl_i, zkl_l, zkl_n, zkl_r, zkl_0, zc_v, zc_n, zc_t, zd_v, zd_n, mj_tg, true_and, ↓reduceIte, not_true_eq_false, not_false_eq_true, ↓if_pos, ↓if_neg, Int.reduceLE, Int.reduceLT, Int.reduceEq, Int.reduceAdd, h13, m4, e18, e20, e21, s76, bI_f c9, hcp, m4', e18', w1']
  · refine ⟨M1, G, n, sl, tl, 0, fun Q => ?_, hx1, hF1, .inr ⟨q, rfl, rfl, rfl, rfl⟩⟩
    simp (disch := omega) only [g12_0, g12_1, g12_2, g12_5, g12_7, g12_8, g12_9, g12_10, g12_11, g12_12, g12_13, g12_16, g12_17, g12_18, g12_19, g12_21, g12_22, g12_25, g12_27, g12_28, g12_29, g12_30, g12_31, g12_35, g12_37, g12_38, g12_40, g12_43, g12_43b, g12_46, g12_47_0, g12_47_1, g12_47b, g12_48, g12_49, g12_52, g12_54, g12_56, g12_57, g12_58, g12_61, g12_62, g12_63, g12_64, g12_65, g12_66, g12_67, g12_70, g12_71, g12_72, g12_73, g12_74, g12_77, g12_78, g12_79, g12_82, g12_83, g12_86, g12_87, g12_88, g12_89, g12_90, g12_91, g12_92, g12_93, g12_94, g12_97, g12_98, g12_99, g12_100, g12_101, g12_102, g12_103, g12_104, g12_105, g12_108, g12_110, g12_111, g12_112, g12_113, g12_114, g12_115, g12_116, g12_117, g12_118, g12_121, g12_122_0, g12_122_1, g12_122b, Int.reduceToNat, jtg, mu_s, mu_n, mu_j, mn_s, mn_n, jg_1_3, jal, jsl, Option.some.injEq, exists_eq_left', zkl_i, zkl_l, zkl_n, zkl_r, zkl_0, zc_v, zc_n, zc_t, zd_v, zd_n, mj_tg, true_and, ↓reduceIte, not_true_eq_false, not_false_eq_true, ↓if_pos, ↓if_neg, Int.reduceLE, Int.reduceLT, Int.reduceEq, Int.reduceAdd, h13, m4, e18, e20]
/-- an end, as the class sees it -/
abbrev ce (v : Int → Int) : Prop := v 0 = -1 ∧ v 1 = -1 ∧ v 18 = 0 ∧ v 19 = 0
theorem s18 (hx : XI T Ln M a pr ma G n sl tl) (i1 : 0 ≤ i) (i2 : i < n) : z_go zP 18 0 [some (.ref a), some (zi i), none] [] (hj T Ln M, t) Q ↔ Q (.inl (some (zi (bI (ce (G i)))))) (hj T Ln M, t) := by
  obtain ⟨⟨⟨h1, h2, h3, h4, h5⟩, ⟨l1, l2, l3, l4⟩, ⟨m1, m2, m3, m4⟩, m5, m6⟩, ⟨g1, g2, g3, g4, g5⟩, ho, lg, ht⟩ := hx
  have e0 := g4 i 0 i1 i2 (by omega) (by omega)
  have e1 := g4 i 1 i1 i2 (by omega) (by omega)
  have e18 := g4 i 18 i1 i2 (by omega) (by omega)
  have e19 := g4 i 19 i1 i2 (by omega) (by omega)
  have b0 := lg i 0
  have b1 := lg i 1
  have b18 := lg i 18
  have b19 := lg i 19
  rw [Int.add_zero] at e0
  have n1 : (zl 18446744073709551615) = zl (-1) := rfl
  have e1' : M (a + 1) (i * 28 + 0 + 1) = zl (G i 1) := by rw [Int.add_zero]; exact e1
  have e19' : M (a + 1) (i * 28 + 18 + 1) = zl (G i 19) := by rw [show i * 28 + 18 + 1 = i * 28 + 19 by omega]; exact e19
  by_cases c0 : G i 0 = -1
  · by_cases c1 : G i 1 = -1
    · by_cases c2 : G i 18 = 0
      · by_cases c3 : G i 19 = 0
        · rw [bI_t ⟨c0, c1, c2, c3⟩]
          simp (disch := omega) only [g18_0, g18_1, g18_3, g18_4, g18_5, g18_6, g18_9, g18_10, g18_11, g18_12, g18_13, g18_16, g18_20, g18_21, g18_24, g18_25, g18_26, g18_27, g18_28, g18_29, g18_30, g18_33, g18_37, g18_38, g18_41, g18_42, g18_44, g18_45, g18_46, g18_47, g18_51, g18_52, g18_55, g18_56, g18_58, g18_59, g18_60, g18_61, g18_62, g18_63, g18_67, g18_68, g18_71, g18_72_0, g18_72_1, g18_72b, Int.reduceToNat, jtg, mu_s, mu_n, mu_j, mn_s, mn_n, jg_1_0, jal, Option.some.injEq, exists_eq_left', zkl_i, zkl_l, zkl_n, zkl_r, zkl_0, zc_v, zc_n, zc_t, zd_v, zd_n, mj_tg, true_and, ↓reduceIte, not_true_eq_false, not_false_eq_true, ↓if_pos, ↓if_neg, Int.reduceLE, Int.reduceLT, Int.reduceEq, Int.reduceAdd, Int.add_zero, n1, m1, e0, e1, e18, e19']
        · rw [bI_f (fun hh => c3 hh.2.2.2)]
          simp (disch := omega) only [g18_0, g18_1, g18_3, g18_4, g18_5, g18_6, g18_9, g18_10, g18_11, g18_12, g18_13, g18_16, g18_20, g18_21, g18_24, g18_25, g18_26, g18_27, g18_28, g18_29, g18_30, g18_33, g18_37, g18_38, g18_41, g18_42, g18_44, g18_45, g18_46, g18_47, g18_51, g18_52, g18_55, g18_56, g18_58, g18_59, g18_60, g18_61, g18_62, g18_63, g18_67, g18_68, g18_71, g18_72_0, g18_72_1, g18_72b, Int.reduceToNat, jtg, mu_s, mu_n, mu_j, mn_s, mn_n, jg_1_0, jal, Option.some.injEq, exists_eq_left', zkl_i, zkl_l, zkl_n, zkl_r, zkl_0, zc_v, zc_n, zc_t, zd_v, zd_n, mj_tg, true_and, ↓reduceIte, not_true_eq_false, not_false_eq_true, ↓if_pos, ↓if_neg, Int.reduceLE, Int.reduceLT, Int.reduceEq, Int.reduceAdd, Int.add_zero, n1, m1, e0, e1, e18, e19']
      · rw [bI_f (fun hh => c2 hh.2.2.1)]
        simp (disch := omega) only [g18_0, g18_1, g18_3, g18_4, g18_5, g18_6, g18_9, g18_10, g18_11, g18_12, g18_13, g18_16, g18_20, g18_21, g18_24, g18_25, g18_26, g18_27, g18_28, g18_29, g18_30, g18_33, g18_37, g18_38, g18_41, g18_42, g18_44, g18_45, g18_46, g18_47, g18_51, g18_52, g18_55, g18_56, g18_58, g18_59, g18_60, g18_61, g18_62, g18_63, g18_67, g18_68, g18_71, g18_72_0, g18_72_1, g18_72b, Int.reduceToNat, jtg, mu_s, mu_n, mu_j, mn_s, mn_n, jg_1_0, jal, Option.some.injEq, exists_eq_left', zkl_i, zkl_l, zkl_n, zkl_r, zkl_0, zc_v, zc_n, zc_t, zd_v, zd_n, mj_tg, true_and, ↓reduceIte, not_true_eq_false, not_false_eq_true, ↓if_pos, ↓if_neg, Int.reduceLE, Int.reduceLT, Int.reduceEq, Int.reduceAdd, Int.add_zero, n1, m1, e0, e1, e18, e19']
    · rw [bI_f (fun hh => c1 hh.2.1)]
      simp (disch := omega) only [g18_0, g18_1, g18_3, g18_4, g18_5, g18_6, g18_9, g18_10, g18_11, g18_12, g18_13, g18_16, g18_20, g18_21, g18_24, g18_25, g18_26, g18_27, g18_28, g18_29, g18_30, g18_33, g18_37, g18_38, g18_41, g18_42, g18_44, g18_45, g18_46, g18_47, g18_51, g18_52, g18_55, g18_56, g18_58, g18_59, g18_60, g18_61, g18_62, g18_63, g18_67, g18_68, g18_71, g18_72_0, g18_72_1, g18_72b, Int.reduceToNat, jtg, mu_s, mu_n, mu_j, mn_s, mn_n, jg_1_0, jal, Option.some.injEq, exists_eq_left', zkl_i, zkl_l, zkl_n, zkl_r, zkl_0, zc_v, zc_n, zc_t, zd_v, zd_n, mj_tg, true_and, ↓reduceIte, not_true_eq_false, not_false_eq_true, ↓if_pos, ↓if_neg, Int.reduceLE, Int.reduceLT, Int.reduceEq, Int.reduceAdd, Int.add_zero, n1, m1, e0, e1, e18, e19']
  · rw [bI_f (fun hh => c0 hh.1)]
    simp (disch := omega) only [g18_0, g18_1, g18_3, g18_4, g18_5, g18_6, g18_9, g18_10, g18_11, g18_12, g18_13, g18_16, g18_20, g18_21, g18_24, g18_25, g18_26, g18_27, g18_28, g18_29, g18_30, g18_33, g18_37, g18_38, g18_41, g18_42, g18_44, g18_45, g18_46, g18_47, g18_51, g18_52, g18_55, g18_56, g18_58, g18_59, g18_60, g18_61, g18_62, g18_63, g18_67, g18_68, g18_71, g18_72_0, g18_72_1, g18_72b, Int.reduceToNat, jtg, mu_s, mu_n, mu_j, mn_s, mn_n, jg_1_0, jal, Option.some.injEq, exists_eq_left', zkl_i, zkl_l, zkl_n, zkl_r, zkl_0, zc_v, zc_n, zc_t, zd_v, zd_n, mj_tg, true_and, ↓reduceIte, not_true_eq_false, not_false_eq_true, ↓if_pos, ↓if_neg, Int.reduceLE, Int.reduceLT, Int.reduceEq, Int.reduceAdd, Int.add_zero, n1, m1, e0, e1, e18, e19']
theorem s29 (hp : PX T Ln M A W Y k pr ma) : z_go zP 29 0 [some (.ref pr)] [] (hj T Ln M, t) Q ↔ Q (.inl (some (zi (8 + Y 8 (Y 5 (Y 5 k)))))) (hj T Ln M, t) := by
  obtain ⟨⟨p1, p2', p3, p4⟩, p5, ⟨⟨⟨g0, -⟩, -, g1, -⟩, ⟨g2, -, g4, -⟩, -⟩, -⟩ := hp
  simp (disch := omega) only [g29_0, g29_2, g29_3, g29_6, g29_9, g29_12, g29_13, Int.reduceToNat, jtg, mu_s, mu_n, mu_j, mn_s, mn_n, jg_3_1, jg_4_1, jg_2_1, Option.some.injEq, exists_eq_left', zkl_i, zkl_l, zkl_n, zkl_r, zkl_0, zc_v, zc_n, zc_t, zd_v, zd_n, mj_tg, true_and, ↓reduceIte, not_true_eq_false, not_false_eq_true, ↓if_pos, ↓if_neg, Int.reduceLE, Int.reduceLT, Int.reduceEq, Int.reduceAdd, p2', g1, g4]
/-- the first pc numbers, compared from place e on -/
theorem s20_l {u ww : Int} (hx : XI T Ln M a pr ma G n sl tl) (hw : 0 ≤ ww ∧ ww ≤ 16) (i1 : 0 ≤ i) (i2 : i < n) (u1 : 0 ≤ u) (u2 : u < n) : ∀ (m : Nat) (e : Int) (l5 l7 : Option Value), 2 ≤ e → e + m = 2 + ww → (l5 = none ∨ ∃ x, l5 = some (zl x)) → (l7 = none ∨ ∃ x, l7 = some (zl x)) → (z_go zP 20 11 [some (.ref a), some (zi i), some (zi u), some (zi ww), some (zi e), l5, none, l7, none] [] (hj T Ln M, t) Q ↔ Q (.inl (some (zi (m_bf (G i) (G u) m e)))) (hj T Ln M, t)) := by
  obtain ⟨⟨⟨h1, h2, h3, h4, h5⟩, ⟨l1, l2, l3, l4⟩, ⟨m1, m2, m3, m4⟩, m5, m6⟩, ⟨g1, g2, g3, g4, g5⟩, ho, lg, ht⟩ := hx
  intro m
  induction m with
  | zero =>
    intro e l5 l7 e1 e2 _ _
    show _ ↔ Q (.inl (some (zi 0))) _
    simp (disch := omega) only [g20_0, g20_1, g20_4, g20_7, g20_8, g20_9, g20_11, g20_13, g20_14, g20_15, g20_16, g20_19, g20_20, g20_23, g20_24, g20_26, g20_27, g20_29, g20_30, g20_31, g20_33, g20_34, g20_37, g20_38, g20_40, g20_41, g20_43, g20_44, g20_45, g20_47, g20_49, g20_51, g20_55, g20_57, g20_59, g20_63, g20_64, g20_67, g20_68_0, g20_68_1, g20_68b, g20_69, g20_72, g20_75, g20_76_0, g20_76_1, g20_76b, Int.reduceToNat, jtg, mu_s, mu_n, mu_j, mn_s, mn_n, jg_1_4, jg_1_0, jal, Option.some.injEq, exists_eq_left', zkl_i, zkl_l, zkl_n, zkl_r, zkl_0, zc_v, zc_n, zc_t, zd_v, zd_n, mj_tg, true_and, ↓reduceIte, not_true_eq_false, not_false_eq_true, ↓if_pos, ↓if_neg, Int.reduceLE, Int.reduceLT, Int.reduceEq, Int.reduceAdd]
  | succ m ih =>
    intro e l5 l7 e1 e2 h5' h7'
    have q1 := g4 i e i1 i2 (by omega) (by omega)
    have q2 := g4 u e u1 u2 (by omega) (by omega)
    have b1 := lg i e
    have b2 := lg u e
    show _ ↔ Q (.inl (some (zi (if G i e = G u e then m_bf (G i) (G u) m (e + 1) else bI (G i e < G u e))))) _
    refine g20_11.trans ?_
    by_cases c1 : G i e = G u e
    · rw [if_pos c1, ← ih (e + 1) (some (zl (G i e))) (some (zl (G u e))) (by omega) (by omega) (.inr ⟨_, rfl⟩) (.inr ⟨_, rfl⟩)]
      rcases h5' with rfl | ⟨x5, rfl⟩ <;> rcases h7' with rfl | ⟨x7, rfl⟩
      all_goals simp (disch := omega) only [g20_0, g20_1, g20_4, g20_7, g20_8, g20_9, g20_13, g20_14, g20_15, g20_16, g20_19, g20_20, g20_23, g20_24, g20_26, g20_27, g20_29, g20_30, g20_31, g20_33, g20_34, g20_37, g20_38, g20_40, g20_41, g20_43, g20_44, g20_45, g20_47, g20_49, g20_51, g20_55, g20_57, g20_59, g20_63, g20_64, g20_67, g20_68_0, g20_68_1, g20_68b, g20_69, g20_72, g20_75, g20_76_0, g20_76_1, g20_76b, Int.reduceToNat, jtg, mu_s, mu_n, mu_j, mn_s, mn_n, jg_1_4, jg_1_0, jal, Option.some.injEq, exists_eq_left', zkl_i, zkl_l, zkl_n, zkl_r, zkl_0, zc_v, zc_n, zc_t, zd_v, zd_n, mj_tg, true_and, ↓reduceIte, not_true_eq_false, not_false_eq_true, ↓if_pos, ↓if_neg, Int.reduceLE, Int.reduceLT, Int.reduceEq, Int.reduceAdd, m1, q1, q2]
    · rw [if_neg c1]
      by_cases c2 : G i e < G u e
      · rw [bI_t c2]
        rcases h5' with rfl | ⟨x5, rfl⟩ <;> rcases h7' with rfl | ⟨x7, rfl⟩
        all_goals simp (disch := omega) only [g20_0, g20_1, g20_4, g20_7, g20_8, g20_9, g20_13, g20_14, g20_15, g20_16, g20_19, g20_20, g20_23, g20_24, g20_26, g20_27, g20_29, g20_30, g20_31, g20_33, g20_34, g20_37, g20_38, g20_40, g20_41, g20_43, g20_44, g20_45, g20_47, g20_49, g20_51, g20_55, g20_57, g20_59, g20_63, g20_64, g20_67, g20_68_0, g20_68_1, g20_68b, g20_69, g20_72, g20_75, g20_76_0, g20_76_1, g20_76b, Int.reduceToNat, jtg, mu_s, mu_n, mu_j, mn_s, mn_n, jg_1_4, jg_1_0, jal, Option.some.injEq, exists_eq_left', zkl_i, zkl_l, zkl_n, zkl_r, zkl_0, zc_v, zc_n, zc_t, zd_v, zd_n, mj_tg, true_and, ↓reduceIte, not_true_eq_false, not_false_eq_true, ↓if_pos, ↓if_neg, Int.reduceLE, Int.reduceLT, Int.reduceEq, Int.reduceAdd, m1, q1, q2]
      · rw [bI_f c2]
        rcases h5' with rfl | ⟨x5, rfl⟩ <;> rcases h7' with rfl | ⟨x7, rfl⟩
        all_goals simp (disch := omega) only [g20_0, g20_1, g20_4, g20_7, g20_8, g20_9, g20_13, g20_14, g20_15, g20_16, g20_19, g20_20, g20_23, g20_24, g20_26, g20_27, g20_29, g20_30, g20_31, g20_33, g20_34, g20_37, g20_38, g20_40, g20_41, g20_43, g20_44, g20_45, g20_47, g20_49, g20_51, g20_55, g20_57, g20_59, g20_63, g20_64, g20_67, g20_68_0, g20_68_1, g20_68b, g20_69, g20_72, g20_75, g20_76_0, g20_76_1, g20_76b, Int.reduceToNat, jtg, mu_s, mu_n, mu_j, mn_s, mn_n, jg_1_4, jg_1_0, jal, Option.some.injEq, exists_eq_left', zkl_i, zkl_l, zkl_n, zkl_r, zkl_0, zc_v, zc_n, zc_t, zd_v, zd_n, mj_tg, true_and, ↓reduceIte, not_true_eq_false, not_false_eq_true, ↓if_pos, ↓if_neg, Int.reduceLE, Int.reduceLT, Int.reduceEq, Int.reduceAdd, m1, q1, q2]
theorem s20 {u : Int} (hR : RG Y) (hx : XI T Ln M a pr ma G n sl tl) (hp : PX T Ln M A W Y k pr ma) (i1 : 0 ≤ i) (i2 : i < n) (u1 : 0 ≤ u) (u2 : u < n) : z_go zP 20 0 [some (.ref a), some (zi i), some (zi u), none, none, none, none, none, none] [] (hj T Ln M, t) Q ↔ Q (.inl (some (zi (m_bf (G i) (G u) (8 + Y 8 (Y 5 (Y 5 k))).toNat 2)))) (hj T Ln M, t) := by
  have h8 : 0 ≤ Y 8 (Y 5 (Y 5 k)) ∧ Y 8 (Y 5 (Y 5 k)) ≤ 8 := hR 8 _
  have h29 := fun (Q : zU → zS → Prop) => s29 (t := t) (Q := Q) hp
  have hp1 := hp.1.1
  rw [← s20_l (t := t) (Q := Q) (ww := 8 + Y 8 (Y 5 (Y 5 k))) hx (by omega) i1 i2 u1 u2 (8 + Y 8 (Y 5 (Y 5 k))).toNat 2 none none (by omega) (by omega) (.inl rfl) (.inl rfl)]
  obtain ⟨⟨⟨h1, h2, h3, h4, h5⟩, ⟨l1, l2, l3, l4⟩, ⟨m1, m2, m3, m4⟩, m5, m6⟩, -⟩ := hx
  simp (disch := omega) only [g20_0, g20_1, g20_4, g20_7, g20_8, g20_9, g20_13, g20_14, g20_15, g20_16, g20_19, g20_20, g20_23, g20_24, g20_26, g20_27, g20_29, g20_30, g20_31, g20_33, g20_34, g20_37, g20_38, g20_40, g20_41, g20_43, g20_44, g20_45, g20_47, g20_49, g20_51, g20_55, g20_57, g20_59, g20_63, g20_64, g20_67, g20_68_0, g20_68_1, g20_68b, g20_69, g20_72, g20_75, g20_76_0, g20_76_1, g20_76b, Int.reduceToNat, jtg, mu_s, mu_n, mu_j, mn_s, mn_n, jg_1_4, jg_1_0, jal, Option.some.injEq, exists_eq_left', zkl_i, zkl_l, zkl_n, zkl_r, zkl_0, zc_v, zc_n, zc_t, zd_v, zd_n, mj_tg, true_and, ↓reduceIte, not_true_eq_false, not_false_eq_true, ↓if_pos, ↓if_neg, Int.reduceLE, Int.reduceLT, Int.reduceEq, Int.reduceAdd, m5, h29]
end
