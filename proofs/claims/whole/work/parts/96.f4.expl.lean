/-! THE CLASS: the explorer's moves -/
def XI (T : Nat → Nat) (Ln : Nat → Int) (M : Nat → Int → Value) (a pr ma : Nat) (G : Int → Int → Int) (n : Int) (sl : Int → Int) (tl : Int) : Prop := XB T Ln M a pr ma ∧ XG M a G n sl ∧ XO G n sl ∧ (∀ i, LV (G i)) ∧ M a 9 = zi tl
def FX (M M' : Nat → Int → Value) (a : Nat) : Prop := (∀ b j, ¬ (a ≤ b ∧ b ≤ a + 2) → ¬ b = a + 4 → M' b j = M b j) ∧ ∀ j, ¬ j = 6 → ¬ j = 9 → M' a j = M a j
def CW (Y : zY) (k : Int) (v : Int → Int) : Prop := (∀ w, w = 0 ∨ w = 1 → -1 ≤ v w ∧ v w < Y 13 (m_pa Y k w)) ∧ (∀ e, 2 ≤ e → e ≤ 17 → 0 ≤ v e ∧ v e < p2 (Y 7 (Y 5 (Y 5 k)))) ∧ ∀ w, w = 0 ∨ w = 1 → (0 ≤ v (18 + w) ∧ v (18 + w) ≤ 2) ∧ 0 ≤ v (20 + w * 4) ∧ v (20 + w * 4) < Y 8 (Y 5 (Y 5 k))
abbrev q_k (Y : zY) (k : Int) (v : Int → Int) (w : Int) : Int := 24 * m_pa Y k w + v w
def cw (Y : zY) (k : Int) (v : Int → Int) (w : Int) : Prop := ¬ v w = -1 ∧ ¬ (Y 14 (q_k Y k v w) = 5 ∧ Y 12 k = 1 ∧ 2 ≤ v (18 + w))
def nv (Y : zY) (k : Int) (v : Int → Int) (w : Int) : Int → Int := vu (pv v w (Y 14 (q_k Y k v w)) (Y 15 (q_k Y k v w)) (v (2 + w * 4 + Y 16 (q_k Y k v w))) (v (2 + w * 4 + Y 17 (q_k Y k v w))) (Y 18 (q_k Y k v w)) (Y 7 (Y 5 (Y 5 k))) (Y 8 (Y 5 (Y 5 k))) (Y 12 k)) w (fo (Y 14 (q_k Y k v w)) (Y 18 (q_k Y k v w)) (v (2 + w * 4 + Y 16 (q_k Y k v w))) (v w) (Y 13 (m_pa Y k w)))
/-- a store is let go -/
def sv (v : Int → Int) (w : Int) : Int → Int := vu (vu (vu (vu (vu (vu v (10 + v (20 + w * 4)) (v (21 + w * 4))) (20 + w * 4) (v (22 + w * 4))) (21 + w * 4) (v (23 + w * 4))) (22 + w * 4) 0) (23 + w * 4) 0) (18 + w) (v (18 + w) - 1)
section
variable {T : Nat → Nat} {Ln : Nat → Int} {M M' M2 : Nat → Int → Value} {t : Nat × Nat} {a b pr ma : Nat} {A : Int → Nat} {W : Int → Int → Nat} {Y : zY} {n i tl w k : Int} {G : Int → Int → Int} {sl v : Int → Int} {Q : zU → zS → Prop}
theorem FX_r : FX M M a := ⟨fun _ _ _ _ => rfl, fun _ _ _ => rfl⟩
theorem FX_t (h1 : FX M M' a) (h2 : FX M' M2 a) : FX M M2 a := ⟨fun b j x y => by rw [h2.1 b j x y, h1.1 b j x y], fun j x y => by rw [h2.2 j x y, h1.2 j x y]⟩
theorem FX_4 (h : ∀ b j, ¬ b = a + 4 → M' b j = M b j) : FX M M' a := ⟨fun b j _ y => h b j y, fun j _ _ => h a j (by omega)⟩
theorem PX_f (hT : T a = 1 ∧ T (a + 1) = 101 ∧ T (a + 2) = 100 ∧ T (a + 4) = 101) (h : FX M M' a) (hp : PX T Ln M A W Y k pr ma) : PX T Ln M' A W Y k pr ma := by
  obtain ⟨⟨p1, p2', p3, p4⟩, p5, p6, p7, p8⟩ := hp
  obtain ⟨t1, t2, t3, t4⟩ := hT
  have hM : ∀ b j, (T b = 2 ∨ T b = 3 ∨ T b = 4 ∨ T b = 7 ∨ T b = 104) → M' b j = M b j := by
    intro b j hb
    refine h.1 b j (fun hh => ?_) (fun hh => by rw [hh] at hb; omega)
    obtain rfl | rfl | rfl : b = a ∨ b = a + 1 ∨ b = a + 2 := by omega
    · omega
    · omega
    · omega
  refine ⟨⟨p1, by rw [hM _ _ (by omega)]; exact p2', by rw [hM _ _ (by omega)]; exact p3, by rw [hM _ _ (by omega)]; exact p4⟩, p5, ?_, ?_, p8⟩
  · exact PG_f (fun b j hb => hM b j (by omega)) rfl rfl rfl rfl (fun _ _ _ _ _ _ => rfl) p6
  · exact PG_f (fun b j hb => hM b j (by omega)) rfl rfl rfl rfl (fun _ _ _ _ _ _ => rfl) p7
/-- only the trial has changed -/
theorem XI_4 (h : ∀ b j, ¬ b = a + 4 → M' b j = M b j) (hx : XI T Ln M a pr ma G n sl tl) : XI T Ln M' a pr ma G n sl tl := by
  obtain ⟨⟨h1, h2, ⟨m1, m2, m3, m4⟩, m5, m6⟩, ⟨g1, g2, g3, g4, g5⟩, ho, lg, ht⟩ := hx
  have h0 := fun j => h a j (by omega)
  have h1' := fun j => h (a + 1) j (by omega)
  have h2' := fun j => h (a + 2) j (by omega)
  exact ⟨⟨h1, h2, ⟨by rw [h0]; exact m1, by rw [h0]; exact m2, by rw [h0]; exact m3, by rw [h0]; exact m4⟩, by rw [h0]; exact m5, by rw [h0]; exact m6⟩, ⟨by rw [h0]; exact g1, g2, fun j j1 j2 => by rw [h1']; exact g3 j j1 j2, fun i j i1 i2 j1 j2 => by rw [h1']; exact g4 i j i1 i2 j1 j2, fun s s1 s2 => by rw [h2']; exact g5 s s1 s2⟩, ho, lg, by rw [h0]; exact ht⟩
theorem s28 (hp : PX T Ln M A W Y k pr ma) (w1 : w = 0 ∨ w = 1) : z_go zP 28 0 [some (.ref pr), some (zi w)] [] (hj T Ln M, t) Q ↔ Q (.inl (some (.ref (A (m_pa Y k w))))) (hj T Ln M, t) := by
  obtain ⟨⟨p1, p2', p3, p4⟩, -⟩ := hp
  unfold m_pa
  rcases w1 with rfl | rfl
  · simp (disch := omega) only [g28_0, g28_1, g28_1b, g28_4, g28_5, g28_8, g28_11, g28_12, g28_15, g28_15n, Int.reduceToNat, jtg, mu_s, mu_n, mu_j, mn_s, mn_n, jg_3_1, jg_3_2, Option.some.injEq, exists_eq_left', zkl_i, zkl_l, zkl_n, zkl_r, zkl_0, zc_v, zc_n, zc_t, zd_v, zd_n, mj_tg, true_and, ↓reduceIte, not_true_eq_false, not_false_eq_true, ↓if_pos, ↓if_neg, Int.reduceLE, Int.reduceLT, Int.reduceEq, Int.reduceAdd, p2']
  · simp (disch := omega) only [g28_0, g28_1, g28_1b, g28_4, g28_5, g28_8, g28_11, g28_12, g28_15, g28_15n, Int.reduceToNat, jtg, mu_s, mu_n, mu_j, mn_s, mn_n, jg_3_1, jg_3_2, Option.some.injEq, exists_eq_left', zkl_i, zkl_l, zkl_n, zkl_r, zkl_0, zc_v, zc_n, zc_t, zd_v, zd_n, mj_tg, true_and, ↓reduceIte, not_true_eq_false, not_false_eq_true, ↓if_pos, ↓if_neg, Int.reduceLE, Int.reduceLT, Int.reduceEq, Int.reduceAdd, p3]
theorem PX_pa (hp : PX T Ln M A W Y k pr ma) : PG T Ln M A W Y (m_pa Y k w) ∧ Y 5 (m_pa Y k w) = Y 5 (Y 5 k) := by
  obtain ⟨-, -, p6, p7, p8, -⟩ := hp
  unfold m_pa
  split
  · exact ⟨p6, rfl⟩
  · exact ⟨p7, p8⟩
theorem LV_pv {op d l r nn bits pl wt : Int} (lv : LV v) (b2 : bits ≤ 32) (p1 : 0 < pl) (p3 : pl ≤ 8) (c2 : v (18 + w) ≤ 2) (r1 : -1 ≤ r ∧ r ≤ 4294967295) : LV (pv v w op d l r nn bits pl wt) := by
  have hm := mod_b (v := l) p1
  have hq := mod_b (v := w_res op l r nn) (m := p2 bits) (p2_pos bits)
  have P := p2_le b2
  have hld : -1 ≤ ld v w (l % pl) ∧ ld v w (l % pl) ≤ 4294967295 := by
    unfold ld
    split
    · exact lv _
    · split
      · split <;> exact lv _
      · split
        · exact lv _
        · split <;> exact lv _
  unfold pv
  split
  · exact LV_u lv (by omega) (by omega)
  · split
    · exact LV_u lv hld.1 hld.2
    · split
      · split
        · exact LV_u (LV_u (LV_u lv (by omega) (by omega)) r1.1 r1.2) (by have := lv (18 + w); omega) (by omega)
        · exact LV_u lv r1.1 r1.2
      · exact lv
set_option maxHeartbeats 1000000 in
theorem s6 (hR : RG Y) (hx : XI T Ln M a pr ma G n sl tl) (hp : PX T Ln M A W Y k pr ma) (i1 : 0 ≤ i) (i2 : i < n) (hc : CW Y k (G i)) (w1 : w = 0 ∨ w = 1) : ∃ M' G' n' sl' tl' r, (∀ Q : zU → zS → Prop, z_go zP 6 0 [some (.ref a), some (zi i), some (zi w), none, none, none, none, none, none] [] (hj T Ln M, t) Q ↔ Q (.inl (some (zi r))) (hj T Ln M', t)) ∧ XI T Ln M' a pr ma G' n' sl' tl' ∧ FX M M' a ∧ ((cw Y k (G i) w ∧ r = 1 ∧ KO G n tl (nv Y k (G i) w) G' n' tl') ∨ (¬ cw Y k (G i) w ∧ r = 0 ∧ G' = G ∧ n' = n ∧ tl' = tl)) := by
  obtain ⟨hb, hg, ho, lg, ht⟩ := id hx
  have hT' : T a = 1 ∧ T (a + 1) = 101 ∧ T (a + 2) = 100 ∧ T (a + 4) = 101 := ⟨hb.1.1, hb.1.2.1, hb.1.2.2.1, hb.1.2.2.2.2⟩
  have h13 := fun (Q : zU → zS → Prop) => s13 (t := t) (Q := Q) hb hg i1 i2
  have f13 : ∀ b j, ¬ b = a + 4 → mc M (a + 1) (i * 28) (a + 4) 0 28 b j = M b j := fun b j hh => mc_n hh
  have hv := XV_13 hg i1 i2
  have hx1 := XI_4 f13 hx
  have hF1 := FX_4 (a := a) f13
  have hp1 := PX_f hT' hF1 hp
  generalize mc M (a + 1) (i * 28) (a + 4) 0 28 = M1 at h13 hv hx1 hF1 hp1 f13
  obtain ⟨hb1, hg1, -, -, ht1⟩ := id hx1
  obtain ⟨⟨h1, h2, h3, h4, h5⟩, ⟨l1, l2, l3, l4⟩, ⟨m1, m2, m3, m4⟩, m5, m6⟩ := id hb1
  obtain ⟨⟨p1, p2', p3, p4⟩, p5, -, -, -, p12⟩ := id hp1
  obtain ⟨⟨g1, g2, g3, g4, g5, g6⟩, ge5⟩ := PX_pa (w := w) hp1
  have h28 := fun (Q : zU → zS → Prop) => s28 (t := t) (Q := Q) (w := w) hp1 w1
  obtain ⟨q1, q2⟩ := hc.1 w w1
  have ew := hv w (by omega) (by omega)
  have lv := lg i
  have g0 := g1.1.1
  by_cases c0 : G i w = -1
  · have h33 := fun (Q : zU → zS → Prop) => s33_n (t := t) (Q := Q) g1 (by omega) g6.2 (j := G i w) (by omega) (by omega) (by omega)
    refine ⟨M1, G, n, sl, tl, 0, fun Q => ?_, hx1, hF1, .inr ⟨fun hh => hh.1 c0, rfl, rfl, rfl, rfl⟩⟩
    simp (disch := omega) only [g6_0, g6_1, g6_2, g6_5, g6_6, g6_9, g6_10, g6_13, g6_13n, g6_14, g6_15, g6_18, g6_19, g6_20, g6_21, g6_22, g6_23, g6_25, g6_25n, g6_26, g6_28, g6_31, g6_31n, g6_33, g6_33n, g6_35, g6_35n, g6_38, g6_38n, g6_40, g6_43, g6_44, g6_47, g6_48, g6_49, g6_52, g6_52b, g6_55, g6_56_0, g6_56_1, g6_56b, g6_57, g6_58, g6_59, g6_60, g6_61, g6_62, g6_64, g6_65, g6_68, g6_70, g6_70n, g6_72, g6_75, g6_76, g6_77, g6_79, g6_80, g6_80n, g6_82, g6_83, g6_85, g6_86, g6_89, g6_91, g6_91n, g6_93, g6_96, g6_97, g6_98, g6_101, g6_102, g6_105, g6_106, g6_107, g6_108, g6_108n, g6_109, g6_109n, g6_111, g6_113, g6_115, g6_118, g6_119, g6_120, g6_121, g6_124, g6_125_0, g6_125_1, g6_125b, Int.reduceToNat, jtg, mu_s, mu_n, mu_j, mn_s, mn_n, jg_1_4, jg_1_3, jal, jg_7_0, jg_7_2, jg_7_3, jsl, Option.some.injEq, exists_eq_left', zkl_i, zkl_l, zkl_n, zkl_r, zkl_0, zc_v, zc_n, zc_t, zd_v, zd_n, mj_tg, true_and, ↓reduceIte, not_true_eq_false, not_false_eq_true, ↓if_pos, ↓if_neg, Int.reduceLE, Int.reduceLT, Int.reduceEq, Int.reduceAdd, Int.zero_add, h13, m5, h28, m4, ew, h33]
  · have h33 := fun (Q : zU → zS → Prop) => s33_y (t := t) (Q := Q) g1 g6.2 (j := G i w) (by omega) q2
    have hw := g3 (G i w) (by omega) q2
    obtain ⟨k1, k3, k4, k5, k6, k7⟩ := id hw
    have h7 := fun (Q : zU → zS → Prop) => s7 (t := t) (Q := Q) hb1 hv lv w1 p1 p4 p12
    obtain ⟨o1, o2⟩ : 0 ≤ Y 14 (24 * m_pa Y k w + G i w) ∧ Y 14 (24 * m_pa Y k w + G i w) ≤ 7 := hR 14 _
    obtain ⟨d1, d2⟩ : 0 ≤ Y 15 (24 * m_pa Y k w + G i w) ∧ Y 15 (24 * m_pa Y k w + G i w) ≤ 3 := hR 15 _
    obtain ⟨x1, x2⟩ : 0 ≤ Y 16 (24 * m_pa Y k w + G i w) ∧ Y 16 (24 * m_pa Y k w + G i w) ≤ 3 := hR 16 _
    obtain ⟨y1, y2⟩ : 0 ≤ Y 17 (24 * m_pa Y k w + G i w) ∧ Y 17 (24 * m_pa Y k w + G i w) ≤ 3 := hR 17 _
    obtain ⟨n1, n2⟩ : -2147483648 ≤ Y 18 (24 * m_pa Y k w + G i w) ∧ Y 18 (24 * m_pa Y k w + G i w) ≤ 2147483647 := hR 18 _
    obtain ⟨⟨c1, c2⟩, -⟩ := hc.2.2 w w1
    by_cases cf : Y 14 (24 * m_pa Y k w + G i w) = 5 ∧ Y 12 k = 1 ∧ 2 ≤ G i (18 + w)
    · refine ⟨M1, G, n, sl, tl, 0, fun Q => ?_, hx1, hF1, .inr ⟨fun hh => hh.2 cf, rfl, rfl, rfl, rfl⟩⟩
      have cf5 := cf.1
      have cf2 : Y 12 k = 1 ∧ 2 ≤ G i (18 + w) := cf.2
      simp (disch := omega) only [g6_0, g6_1, g6_2, g6_5, g6_6, g6_9, g6_10, g6_13, g6_13n, g6_14, g6_15, g6_18, g6_19, g6_20, g6_21, g6_22, g6_23, g6_25, g6_25n, g6_26, g6_28, g6_31, g6_31n, g6_33, g6_33n, g6_35, g6_35n, g6_38, g6_38n, g6_40, g6_43, g6_44, g6_47, g6_48, g6_49, g6_52, g6_52b, g6_55, g6_56_0, g6_56_1, g6_56b, g6_57, g6_58, g6_59, g6_60, g6_61, g6_62, g6_64, g6_65, g6_68, g6_70, g6_70n, g6_72, g6_75, g6_76, g6_77, g6_79, g6_80, g6_80n, g6_82, g6_83, g6_85, g6_86, g6_89, g6_91, g6_91n, g6_93, g6_96, g6_97, g6_98, g6_101, g6_102, g6_105, g6_106, g6_107, g6_108, g6_108n, g6_109, g6_109n, g6_111, g6_113, g6_115, g6_118, g6_119, g6_120, g6_121, g6_124, g6_125_0, g6_125_1, g6_125b, Int.reduceToNat, jtg, mu_s, mu_n, mu_j, mn_s, mn_n, jg_1_4, jg_1_3, jal, jg_7_0, jg_7_2, jg_7_3, jsl, Option.some.injEq, exists_eq_left', zkl_i, zkl_l, zkl_n, zkl_r, zkl_0, zc_v, zc_n, zc_t, zd_v, zd_n, mj_tg, true_and, ↓reduceIte, not_true_eq_false, not_false_eq_true, ↓if_pos, ↓if_neg, Int.reduceLE, Int.reduceLT, Int.reduceEq, Int.reduceAdd, Int.zero_add, h13, m5, h28, m4, ew, h33, k3, h7, bI_t cf2]
    · have hcw : cw Y k (G i) w := ⟨c0, cf⟩
      have el := hv (2 + w * 4 + Y 16 (24 * m_pa Y k w + G i w)) (by omega) (by omega)
      have er := hv (2 + w * 4 + Y 17 (24 * m_pa Y k w + G i w)) (by omega) (by omega)
      have hl := hc.2.1 (2 + w * 4 + Y 16 (24 * m_pa Y k w + G i w)) (by omega) (by omega)
      have hr := hc.2.1 (2 + w * 4 + Y 17 (24 * m_pa Y k w + G i w)) (by omega) (by omega)
      have P := p2_le (b := Y 7 (Y 5 (Y 5 k))) (by rw [← ge5]; exact g4.2)
      rw [ge5, ← p5] at g2
      rw [ge5] at g4 g5
      obtain ⟨M2, r1, r2, r3⟩ := s8 (t := t) hb1 hv lv w1 p1 p4 p12 g2 (by omega) g4.2 (by omega) g5.2 hw o1 o2 d1 d2 n1 n2 hl hr c1 c2 (fun e5 e1 => by
        false_or_by_contra
        exact cf ⟨e5, e1, by omega⟩)
      have hx2 := XI_4 r3 hx1
      have hF2 := FX_4 (a := a) r3
      have hp2 := PX_f hT' hF2 hp1
      obtain ⟨⟨e1, -, e3, -⟩, -⟩ := PX_pa (w := w) hp2
      have h9 := fun (Q : zU → zS → Prop) => s9 (t := t) (Q := Q) (l := G i (2 + w * 4 + Y 16 (24 * m_pa Y k w + G i w))) (idx := G i w) e1 (e3 (G i w) (by omega) q2) o1 o2 n1 n2 g6.1 g6.2 hl.1 (by omega) (by omega) q2
      have hfo : -1 ≤ fo (Y 14 (24 * m_pa Y k w + G i w)) (Y 18 (24 * m_pa Y k w + G i w)) (G i (2 + w * 4 + Y 16 (24 * m_pa Y k w + G i w))) (G i w) (Y 13 (m_pa Y k w)) ∧ fo (Y 14 (24 * m_pa Y k w + G i w)) (Y 18 (24 * m_pa Y k w + G i w)) (G i (2 + w * 4 + Y 16 (24 * m_pa Y k w + G i w))) (G i w) (Y 13 (m_pa Y k w)) ≤ 24 := by
        have := mod_b (v := Y 18 (24 * m_pa Y k w + G i w)) g6.1
        unfold fo
        split
        · omega
        · split <;> omega
      have hlv : LV (nv Y k (G i) w) := LV_u (LV_pv lv g4.2 (by omega) g5.2 c2 (lv _)) hfo.1 (Int.le_trans hfo.2 (by decide))
      have hv3 : XV (mu M2 (a + 4) w (zl (fo (Y 14 (24 * m_pa Y k w + G i w)) (Y 18 (24 * m_pa Y k w + G i w)) (G i (2 + w * 4 + Y 16 (24 * m_pa Y k w + G i w))) (G i w) (Y 13 (m_pa Y k w))))) a (nv Y k (G i) w) := XV_u r2
      have f3 : ∀ b j, ¬ b = a + 4 → mu M2 (a + 4) w (zl (fo (Y 14 (24 * m_pa Y k w + G i w)) (Y 18 (24 * m_pa Y k w + G i w)) (G i (2 + w * 4 + Y 16 (24 * m_pa Y k w + G i w))) (G i w) (Y 13 (m_pa Y k w)))) b j = M2 b j := fun b j hh => mu_n hh
      have hx3 := XI_4 f3 hx2
      obtain ⟨u1, u2, u3, u4, u5⟩ := id hx3
      obtain ⟨M4, G', n', sl', tl', v1, v2, v3, v4, v5, v6, v7, v8, v9⟩ := s14 (t := t) u1 u2 u3 hv3 hlv u4 u5
      refine ⟨M4, G', n', sl', tl', 1, fun Q => ?_, ⟨v2, v3, v4, v5, v6⟩, FX_t (FX_t hF1 (FX_t hF2 (FX_4 f3))) ⟨fun b j b1 b2 => v8 b j (by omega) (by omega) (by omega), v9⟩, .inl ⟨hcw, rfl, v7⟩⟩
      have m4' : M2 a 3 = .ref (a + 4) := by rw [r3 a 3 (by omega)]; exact m4
      by_cases c5 : Y 14 (24 * m_pa Y k w + G i w) = 5
      · have cf2 : ¬ (Y 12 k = 1 ∧ 2 ≤ G i (18 + w)) := fun hh => cf ⟨c5, hh⟩
        simp (disch := omega) only [g6_0, g6_1, g6_2, g6_5, g6_6, g6_9, g6_10, g6_13, g6_13n, g6_14, g6_15, g6_18, g6_19, g6_20, g6_21, g6_22, g6_23, g6_25, g6_25n, g6_26, g6_28, g6_31, g6_31n, g6_33, g6_33n, g6_35, g6_35n, g6_38, g6_38n, g6_40, g6_43, g6_44, g6_47, g6_48, g6_49, g6_52, g6_52b, g6_55, g6_56_0, g6_56_1, g6_56b, g6_57, g6_58, g6_59, g6_60, g6_61, g6_62, g6_64, g6_65, g6_68, g6_70, g6_70n, g6_72, g6_75, g6_76, g6_77, g6_79, g6_80, g6_80n, g6_82, g6_83, g6_85, g6_86, g6_89, g6_91, g6_91n, g6_93, g6_96, g6_97, g6_98, g6_101, g6_102, g6_105, g6_106, g6_107, g6_108, g6_108n, g6_109, g6_109n, g6_111, g6_113, g6_115, g6_118, g6_119, g6_120, g6_121, g6_124, g6_125_0, g6_125_1, g6_125b, Int.reduceToNat, jtg, mu_s, mu_n, mu_j, mn_s, mn_n, jg_1_4, jg_1_3, jal, jg_7_0, jg_7_2, jg_7_3, jsl, Option.some.injEq, exists_eq_left', zkl_i, zkl_l, zkl_n, zkl_r, zkl_0, zc_v, zc_n, zc_t, zd_v, zd_n, mj_tg, true_and, ↓reduceIte, not_true_eq_false, not_false_eq_true, ↓if_pos, ↓if_neg, Int.reduceLE, Int.reduceLT, Int.reduceEq, Int.reduceAdd, Int.zero_add, h13, m5, h28, m4, ew, h33, k3, k5, k6, h7, bI_f cf2, el, er, r1, m4', h9, v1]
      · simp (disch := omega) only [g6_0, g6_1, g6_2, g6_5, g6_6, g6_9, g6_10, g6_13, g6_13n, g6_14, g6_15, g6_18, g6_19, g6_20, g6_21, g6_22, g6_23, g6_25, g6_25n, g6_26, g6_28, g6_31, g6_31n, g6_33, g6_33n, g6_35, g6_35n, g6_38, g6_38n, g6_40, g6_43, g6_44, g6_47, g6_48, g6_49, g6_52, g6_52b, g6_55, g6_56_0, g6_56_1, g6_56b, g6_57, g6_58, g6_59, g6_60, g6_61, g6_62, g6_64, g6_65, g6_68, g6_70, g6_70n, g6_72, g6_75, g6_76, g6_77, g6_79, g6_80, g6_80n, g6_82, g6_83, g6_85, g6_86, g6_89, g6_91, g6_91n, g6_93, g6_96, g6_97, g6_98, g6_101, g6_102, g6_105, g6_106, g6_107, g6_108, g6_108n, g6_109, g6_109n, g6_111, g6_113, g6_115, g6_118, g6_119, g6_120, g6_121, g6_124, g6_125_0, g6_125_1, g6_125b, Int.reduceToNat, jtg, mu_s, mu_n, mu_j, mn_s, mn_n, jg_1_4, jg_1_3, jal, jg_7_0, jg_7_2, jg_7_3, jsl, Option.some.injEq, exists_eq_left', zkl_i, zkl_l, zkl_n, zkl_r, zkl_0, zc_v, zc_n, zc_t, zd_v, zd_n, mj_tg, true_and, ↓reduceIte, not_true_eq_false, not_false_eq_true, ↓if_pos, ↓if_neg, Int.reduceLE, Int.reduceLT, Int.reduceEq, Int.reduceAdd, Int.zero_add, h13, m5, h28, m4, ew, h33, k3, k5, k6, el, er, r1, m4', h9, v1]
end
