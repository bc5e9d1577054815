/-! CALLS: explore, end -/
def MQx (Y : zY) (k : Int) (Z : zY) : Prop := (∀ (f : Nat) (e : Int), ¬ f = 0 → ¬ (32 ≤ f ∧ f ≤ 40) → Z f e = Y f e) ∧ Z 32 0 = k ∧ Z 0 0 = 0 ∧ RG Z ∧ (Z 33 0 ≤ 2000 → XS Y k (Z 33 0) (fun i e => Z 36 (28 * i + e)) ∧ EN Y k (Z 33 0) (fun i e => Z 36 (28 * i + e)) (Z 34 0) (fun i => Z 37 i) ∧ Z 35 0 = 0) ∧ (2000 < Z 33 0 → XT Y k)
section
variable {T T' : Nat → Nat} {Ln Ln' : Nat → Int} {M M' : Nat → Int → Value} {n u x n' u' a : Nat} {A : Int → Nat} {W : Int → Int → Nat} {Ow Ow' : Nat → Int} {X X' : Int → Int} {Y Z : zY} {c n0 u0 k p w i : Int} {cd : Nat → Int} {Q : zU → zS → Prop}
theorem MQx_of (hR : RG Y) (hK : PK Y k) (hm : m_th Y k) (h6 : Y 3 k = 6) (hMX : MX Y) : MQx Y k (m_lt (yu Y 0 0 0) k) := by
  have z : ∀ (f : Nat) (e : Int), ¬ f = 0 → yu Y 0 0 0 f e = Y f e := fun f e hf => yu_f hf
  have hDA : DA (yu Y 0 0 0) Y k := DA_st (fun a e ha => (z a e (by omega)).symm)
  have h24 : ∀ p, Y 13 p ≤ 24 := fun p => (hR 13 p).2
  have h24' : ∀ p, yu Y 0 0 0 13 p ≤ 24 := fun p => by rw [z 13 p (by decide)]; exact h24 p
  have hR0 := RG_0 hR
  have hK0 : PK (yu Y 0 0 0) k := hK
  have hRZ := RG_lt hR0 hK0
  by_cases c : yu Y 0 0 0 32 0 = k
  · have e : m_lt (yu Y 0 0 0) k = yu Y 0 0 0 := if_pos c
    have c' : Y 32 0 = k := by rw [← z 32 0 (by decide)]; exact c
    rw [e] at hRZ ⊢
    have e36 : (fun (i e : Int) => yu Y 0 0 0 36 (28 * i + e)) = fun i e => Y 36 (28 * i + e) := by funext i e; exact z 36 _ (by decide)
    have e37 : (fun (i : Int) => yu Y 0 0 0 37 i) = fun i => Y 37 i := by funext i; exact z 37 _ (by decide)
    refine ⟨fun f e hf _ => z f e hf, c, yu_s, hRZ, fun h33 => ?_, fun h33 => ?_⟩
    · rw [e36, e37, z 33 0 (by decide), z 34 0 (by decide), z 35 0 (by decide)]
      rw [z 33 0 (by decide)] at h33
      have h9 := hMX (by rw [c']; exact hm) (by rw [c']; exact h6)
      rw [c'] at h9
      rcases h9 with ⟨h9, -⟩ | h9
      · omega
      · exact h9
    · rw [z 33 0 (by decide)] at h33
      have h9 := hMX (by rw [c']; exact hm) (by rw [c']; exact h6)
      rw [c'] at h9
      rcases h9 with ⟨-, h9⟩ | ⟨h9, -⟩
      · exact h9
      · have := h9.1.2; omega
  · obtain ⟨a1, a2, a3, a4⟩ := lt_x hR0 hK0 c
    refine ⟨fun f e hf hf2 => by rw [a1 f e hf2, z f e hf], a2, by rw [a1 0 0 (by decide), yu_s], hRZ, fun h33 => ?_, fun h33 => XT_c hDA h24' (a4 h33)⟩
    obtain ⟨b1, b2, b3⟩ := a3 h33
    exact ⟨XS_c hDA h24' h24 b1, EN_c hDA b2, b3⟩
/-- behind an exploration -/
theorem CR_x {kk : Nat} {L : zL} {val : Value} {out : zU} {n'' u'' : Nat} {M'' : Nat → Int → Value} {Z' : zY} (h : RZ T Ln M n u x A W Ow X Y c n0 u0) (hc : 0 ≤ c) (hR' : RLX T' Ln' M' n' x A W Ow' X' Y c) (hn : n ≤ n' ∧ n' ≤ n + 6) (hm : (∀ j, X' j = 0 ∨ X' j = 1) ∧ ∃ g : Int, ((g = 0 ∧ M' x 3 = .null) ∨ (g = 1 ∧ ¬ M' x 3 = .null)) ∧ (u' : Int) ≤ u0 + 100 * c + 33000 * xs X' 61 + 70000 * g) (hF : FR T T' Ln Ln' M M' Ow Ow') (d1 : m_th Y k) (hq : MQx Y k Z) (hRZ : RG Z') (hZ : ∀ (f : Nat) (e : Int), ¬ f = 0 → ¬ f = 1 → Z' f e = Z f e) (hM : ∀ b j, ¬ (b = x ∧ j = 2) → M'' b j = M' b j) (h2 : M'' x 2 = zi (Z' 1 0)) (hn2 : n' ≤ n'' ∧ n'' ≤ n' + 1) (hu2 : u'' ≤ u' + 6) (hgo : ∀ Q : zU → zS → Prop, z_go zP kk 0 L [] (hj T Ln M, n, u) Q ↔ Q out (hj T' Ln' M'', n'', u'')) (hout : (Z' 0 0 = 0 ∧ out = .inl (some val)) ∨ ∃ e, out = .inr e ∧ Z' 0 0 = cd e ∧ ¬ Z' 0 0 = 0) : CR kk L T Ln M n u x Ow c n0 u0 cd val Z' := by
  obtain ⟨q1, q2, q3, q4, q5, q6⟩ := hq
  have hR := h.1.1
  have hrow : ∀ (f : Nat) (e : Int), ¬ f = 0 → ¬ f = 1 → ¬ (32 ≤ f ∧ f ≤ 40) → Z' f e = Y f e := fun f e a b d => by rw [hZ f e a b, q1 f e a d]
  have hDA : DA Y Z' k := DA_st (fun a e ha => hrow a e (by omega) (by omega) (by omega))
  have h24 : ∀ p, Y 13 p ≤ 24 := fun p => (hR 13 p).2
  have h24' : ∀ p, Z' 13 p ≤ 24 := fun p => (hRZ 13 p).2
  have hMX : MX Z' := by
    intro _ _
    have e36 : (fun (i e : Int) => Z' 36 (28 * i + e)) = fun i e => Z 36 (28 * i + e) := by funext i e; exact hZ 36 _ (by decide) (by decide)
    have e37 : (fun (i : Int) => Z' 37 i) = fun i => Z 37 i := by funext i; exact hZ 37 _ (by decide) (by decide)
    rw [e36, e37, hZ 32 0 (by decide) (by decide), hZ 33 0 (by decide) (by decide), hZ 34 0 (by decide) (by decide), hZ 35 0 (by decide) (by decide), q2]
    by_cases c3 : Z 33 0 ≤ 2000
    · obtain ⟨r1, r2, r3⟩ := q5 c3
      exact .inr ⟨XS_c hDA h24 h24' r1, EN_c hDA r2, r3⟩
    · exact .inl ⟨by omega, XT_c hDA h24 (q6 (by omega))⟩
  have hx := RLX_z (n' := n'') hR' hc hRZ hrow hMX (by rw [hZ 32 0 (by decide) (by decide), q2]; exact d1.1.2) hM h2 hn2.1
  have hx3 : M'' x 3 = M' x 3 := hM x 3 (by omega)
  obtain ⟨g1, g, g2, g3⟩ := hm
  have ho1 : Ow' x = 0 := hR'.2.2.2.2.2.2.2.2.1.1
  refine ⟨T', Ln', M'', n'', u'', out, A, W, Ow', X', hgo, hout, ⟨hx, g1, by have := h.2.2.1; omega, g, by rw [hx3]; exact g2, by omega⟩, FR_t hF (fun b hb => ⟨rfl, rfl, hb, fun j => hM b j (fun hh => by rw [hh.1, ho1] at hb; exact absurd hb (by decide))⟩)⟩
/-- the class and the model have found the same -/
theorem same_x {n1 en1 n2 en2 : Int} {S1 S2 : Int → Int → Int} {E1 E2 : Int → Int} (h1 : XS Y k n1 S1) (h2 : EN Y k n1 S1 en1 E1) (h3 : XS Y k n2 S2) (h4 : EN Y k n2 S2 en2 E2) : n1 = n2 ∧ en1 = en2 ∧ ∀ i, 0 ≤ i → i < en1 → eqv (S2 (E2 i)) (S1 (E1 i)) := ⟨XS_un h1 h3, (EN_un h1 h3 h2 h4).1, (EN_un h1 h3 h2 h4).2⟩
theorem c70 (h : RZ T Ln M n u x A W Ow X Y c n0 u0) (hc : 0 ≤ c) (k1 : -2147483648 ≤ k) (k2 : k < 2147483648) (w1 : -2147483648 ≤ w) (w2 : w < 2147483648) (hd0 : cd 0 = 1) (hd1 : cd 1 = 2) : CR 70 [some (.ref x), some (zi k), some (zi w), none] T Ln M n u x Ow c n0 u0 cd (zi (a_explore Y k w).1) (a_explore Y k w).2 := by
  have hR := h.1.1
  have hH := h.1.2.2.2.1
  have hT : T x = 8 := hH.1.1
  unfold a_explore
  by_cases d1 : m_th Y k
  · rw [if_pos d1]
    obtain ⟨t, a1, a2, a3, a4, a5⟩ := RLX_k h.1 d1
    obtain ⟨-, -, -, -, -, e1⟩ := kt_n a5
    by_cases d2 : Y 3 k = 6
    · rw [if_pos d2]
      have hA : T (A k) = 3 := by rw [a1]; exact e1.mpr d2
      by_cases d3 : 0 ≤ w ∧ w ≤ 2
      · rw [if_pos d3]
        have c1 : ¬ ¬ (0 ≤ w ∧ w ≤ 2) := fun hh => hh d3
        obtain ⟨hpx, hK, an, an2, an3⟩ := PX_of h d1 d2
        have hmq := MQx_of hR hK d1 d2 h.1.2.2.2.2.2.2.2.1
        obtain ⟨T', Ln', M', n', u', Ow', X', q1, q2, q3, q4, q5, q6⟩ := ex_go h d1 d2
        obtain ⟨b1, b2, b3, b4⟩ := RZ_lt h
        have hTx : T' x = 8 := q2.2.2.2.1.1.1
        obtain ⟨⟨p1, -⟩, -, -, p5⟩ := (q2.2.2.2.2.2.2.1 k d1).2.2.2.2.2 d2
        generalize m_lt (yu Y 0 0 0) k = Z at *
        obtain ⟨z1, z2, z3, z4, z5, z6⟩ := id hmq
        have z10 : Z 1 0 = Y 1 0 := z1 1 0 (by decide) (by decide)
        have h1x : M' x 2 = zi (Y 1 0) := q2.2.2.2.2.1
        rcases p5 with ⟨hh, -⟩ | ⟨-, p6, p7⟩ | ⟨-, p6, n1, S1, en1, E1, bl, r1, r2, r3, r4, r5, r6, -⟩
        · omega
        · have hbig : ¬ Z 33 0 ≤ 2000 := fun hh => XS_xt (z5 hh).1 p7
          rw [if_neg hbig]
          refine CR_x (n'' := n' + 1) (u'' := u' + 6) (M'' := mu M' x 2 (zi 7)) (out := .inr 0) h hc q2 q4 q5 q6 d1 hmq (RG_re z4 (by omega) (by omega) (by omega) (by omega)) (fun f e a b => re_f a b) (fun b j hh => by unfold mu; rw [if_neg hh]) (by rw [mu_s]; simp [m_re, yu]) (by omega) (by omega) (fun Q => ?_) (.inr ⟨0, rfl, by rw [hd0]; simp [m_re, yu], by simp [m_re, yu]⟩)
          simp (disch := omega) only [g70_0, g70_1, g70_2, g70_5, g70_5n, g70_6, g70_7, g70_8, g70_9, g70_12, g70_12b, g70_15, g70_25, g70_26, g70_26n, g70_27, g70_30, g70_31, g70_31b, g70_34, g70_34n, g70_35, g70_38, g70_39, g70_40, g70_41, g70_44, g70_44n, g70_45, g70_48, g70_51, g70_51n, g70_52, g70_55, Int.reduceToNat, jtg, mu_s, mu_n, mu_j, mn_s, mn_n, jg_3_6, jg_3_7, jg_3_8, Option.some.injEq, exists_eq_left', zkl_i, zkl_l, zkl_n, zkl_r, zkl_0, zc_v, zc_n, zc_t, zd_v, zd_n, mj_tg, true_and, ↓reduceIte, not_true_eq_false, not_false_eq_true, ↓if_pos, ↓if_neg, Int.reduceLE, Int.reduceLT, Int.reduceEq, Int.reduceAdd, s92_y hH (tgo_y d1) hA, s76, bI_f c1, q1, g84_0, g84_0n, g84_1, g84_4, g84_4b, g84_7, g84_8, g84_11, g84_11n, g84_14, g84_15, g84_18, g84_18i, g84_19, g84_22, g84_25, g84_26, g84_29, g84_29n, g84_30, g84_33, g84_33n, g84_34, g84_37, g84_37b, g84_40, g84_41, g84_43, g84_46, Int.reduceToNat, jtg, mu_s, mu_n, mu_j, mn_s, mn_n, jg_3_4, jg_8_3, jn_1, jp_8_3, jg_3_5, p6, s80 hTx]
        · have hsm : Z 33 0 ≤ 2000 := by
            false_or_by_contra
            exact XS_xt r1 (z6 (by omega))
          rw [if_pos hsm]
          obtain ⟨y1, y2, y3⟩ := z5 hsm
          obtain ⟨s1', s2', -⟩ := same_x r1 r2 y1 y2
          subst s1' s2'
          show CR 70 _ _ _ _ _ _ _ _ _ _ _ _ (zi (m_ex Z w)) Z
          refine CR_x (n'' := n') (u'' := u') (M'' := M') (out := .inl (some (zi (m_ex Z w)))) h hc q2 q4 q5 q6 d1 hmq z4 (fun _ _ _ _ => rfl) (fun _ _ _ => rfl) (by rw [h1x, z10]) (by omega) (by omega) (fun Q => ?_) (.inl ⟨z3, rfl⟩)
          unfold m_ex
          obtain rfl | rfl | rfl : w = 0 ∨ w = 1 ∨ w = 2 := by omega
          · simp (disch := omega) only [g70_0, g70_1, g70_2, g70_5, g70_5n, g70_6, g70_7, g70_8, g70_9, g70_12, g70_12b, g70_15, g70_25, g70_26, g70_26n, g70_27, g70_30, g70_31, g70_31b, g70_34, g70_34n, g70_35, g70_38, g70_39, g70_40, g70_41, g70_44, g70_44n, g70_45, g70_48, g70_51, g70_51n, g70_52, g70_55, Int.reduceToNat, jtg, mu_s, mu_n, mu_j, mn_s, mn_n, jg_3_6, jg_3_7, jg_3_8, Option.some.injEq, exists_eq_left', zkl_i, zkl_l, zkl_n, zkl_r, zkl_0, zc_v, zc_n, zc_t, zd_v, zd_n, mj_tg, true_and, ↓reduceIte, not_true_eq_false, not_false_eq_true, ↓if_pos, ↓if_neg, Int.reduceLE, Int.reduceLT, Int.reduceEq, Int.reduceAdd, s92_y hH (tgo_y d1) hA, s76, bI_f c1, q1, g84_0, g84_0n, g84_1, g84_4, g84_4b, g84_7, g84_8, g84_11, g84_11n, g84_14, g84_15, g84_18, g84_18i, g84_19, g84_22, g84_25, g84_26, g84_29, g84_29n, g84_30, g84_33, g84_33n, g84_34, g84_37, g84_37b, g84_40, g84_41, g84_43, g84_46, Int.reduceToNat, jtg, mu_s, mu_n, mu_j, mn_s, mn_n, jg_3_4, jg_8_3, jn_1, jp_8_3, jg_3_5, p6, r3]
          · simp (disch := omega) only [g70_0, g70_1, g70_2, g70_5, g70_5n, g70_6, g70_7, g70_8, g70_9, g70_12, g70_12b, g70_15, g70_25, g70_26, g70_26n, g70_27, g70_30, g70_31, g70_31b, g70_34, g70_34n, g70_35, g70_38, g70_39, g70_40, g70_41, g70_44, g70_44n, g70_45, g70_48, g70_51, g70_51n, g70_52, g70_55, Int.reduceToNat, jtg, mu_s, mu_n, mu_j, mn_s, mn_n, jg_3_6, jg_3_7, jg_3_8, Option.some.injEq, exists_eq_left', zkl_i, zkl_l, zkl_n, zkl_r, zkl_0, zc_v, zc_n, zc_t, zd_v, zd_n, mj_tg, true_and, ↓reduceIte, not_true_eq_false, not_false_eq_true, ↓if_pos, ↓if_neg, Int.reduceLE, Int.reduceLT, Int.reduceEq, Int.reduceAdd, s92_y hH (tgo_y d1) hA, s76, bI_f c1, q1, g84_0, g84_0n, g84_1, g84_4, g84_4b, g84_7, g84_8, g84_11, g84_11n, g84_14, g84_15, g84_18, g84_18i, g84_19, g84_22, g84_25, g84_26, g84_29, g84_29n, g84_30, g84_33, g84_33n, g84_34, g84_37, g84_37b, g84_40, g84_41, g84_43, g84_46, Int.reduceToNat, jtg, mu_s, mu_n, mu_j, mn_s, mn_n, jg_3_4, jg_8_3, jn_1, jp_8_3, jg_3_5, p6, r4]
          · simp (disch := omega) only [g70_0, g70_1, g70_2, g70_5, g70_5n, g70_6, g70_7, g70_8, g70_9, g70_12, g70_12b, g70_15, g70_25, g70_26, g70_26n, g70_27, g70_30, g70_31, g70_31b, g70_34, g70_34n, g70_35, g70_38, g70_39, g70_40, g70_41, g70_44, g70_44n, g70_45, g70_48, g70_51, g70_51n, g70_52, g70_55, Int.reduceToNat, jtg, mu_s, mu_n, mu_j, mn_s, mn_n, jg_3_6, jg_3_7, jg_3_8, Option.some.injEq, exists_eq_left', zkl_i, zkl_l, zkl_n, zkl_r, zkl_0, zc_v, zc_n, zc_t, zd_v, zd_n, mj_tg, true_and, ↓reduceIte, not_true_eq_false, not_false_eq_true, ↓if_pos, ↓if_neg, Int.reduceLE, Int.reduceLT, Int.reduceEq, Int.reduceAdd, s92_y hH (tgo_y d1) hA, s76, bI_f c1, q1, g84_0, g84_0n, g84_1, g84_4, g84_4b, g84_7, g84_8, g84_11, g84_11n, g84_14, g84_15, g84_18, g84_18i, g84_19, g84_22, g84_25, g84_26, g84_29, g84_29n, g84_30, g84_33, g84_33n, g84_34, g84_37, g84_37b, g84_40, g84_41, g84_43, g84_46, Int.reduceToNat, jtg, mu_s, mu_n, mu_j, mn_s, mn_n, jg_3_4, jg_8_3, jn_1, jp_8_3, jg_3_5, p6, r5, y3]
      · rw [if_neg d3]
        refine CR_th h (by omega) (by omega) hd1 (fun Q => ?_)
        simp (disch := omega) only [g70_0, g70_1, g70_2, g70_5, g70_5n, g70_6, g70_7, g70_8, g70_9, g70_12, g70_12b, g70_15, g70_25, g70_26, g70_26n, g70_27, g70_30, g70_31, g70_31b, g70_34, g70_34n, g70_35, g70_38, g70_39, g70_40, g70_41, g70_44, g70_44n, g70_45, g70_48, g70_51, g70_51n, g70_52, g70_55, Int.reduceToNat, jtg, mu_s, mu_n, mu_j, mn_s, mn_n, jg_3_6, jg_3_7, jg_3_8, Option.some.injEq, exists_eq_left', zkl_i, zkl_l, zkl_n, zkl_r, zkl_0, zc_v, zc_n, zc_t, zd_v, zd_n, mj_tg, true_and, ↓reduceIte, not_true_eq_false, not_false_eq_true, ↓if_pos, ↓if_neg, Int.reduceLE, Int.reduceLT, Int.reduceEq, Int.reduceAdd, s92_y hH (tgo_y d1) hA, s76, bI_t d3]
    · rw [if_neg d2]
      have hA : ¬ T (A k) = 3 := by rw [a1, e1]; exact d2
      refine CR_re h (by omega) (by omega) (by omega) (by omega) hd0 (fun Q => ?_)
      simp (disch := omega) only [g70_0, g70_1, g70_2, g70_5, g70_5n, g70_6, g70_7, g70_8, g70_9, g70_12, g70_12b, g70_15, g70_25, g70_26, g70_26n, g70_27, g70_30, g70_31, g70_31b, g70_34, g70_34n, g70_35, g70_38, g70_39, g70_40, g70_41, g70_44, g70_44n, g70_45, g70_48, g70_51, g70_51n, g70_52, g70_55, Int.reduceToNat, jtg, mu_s, mu_n, mu_j, mn_s, mn_n, jg_3_6, jg_3_7, jg_3_8, Option.some.injEq, exists_eq_left', zkl_i, zkl_l, zkl_n, zkl_r, zkl_0, zc_v, zc_n, zc_t, zd_v, zd_n, mj_tg, true_and, ↓reduceIte, not_true_eq_false, not_false_eq_true, ↓if_pos, ↓if_neg, Int.reduceLE, Int.reduceLT, Int.reduceEq, Int.reduceAdd, s92_k hH (tgo_y d1) hA]
  · rw [if_neg d1]
    refine CR_re h (by omega) (by omega) (by omega) (by omega) hd0 (fun Q => ?_)
    simp (disch := omega) only [g70_0, g70_1, g70_2, g70_5, g70_5n, g70_6, g70_7, g70_8, g70_9, g70_12, g70_12b, g70_15, g70_25, g70_26, g70_26n, g70_27, g70_30, g70_31, g70_31b, g70_34, g70_34n, g70_35, g70_38, g70_39, g70_40, g70_41, g70_44, g70_44n, g70_45, g70_48, g70_51, g70_51n, g70_52, g70_55, Int.reduceToNat, jtg, mu_s, mu_n, mu_j, mn_s, mn_n, jg_3_6, jg_3_7, jg_3_8, Option.some.injEq, exists_eq_left', zkl_i, zkl_l, zkl_n, zkl_r, zkl_0, zc_v, zc_n, zc_t, zd_v, zd_n, mj_tg, true_and, ↓reduceIte, not_true_eq_false, not_false_eq_true, ↓if_pos, ↓if_neg, Int.reduceLE, Int.reduceLT, Int.reduceEq, Int.reduceAdd, s92_n hH k1 k2 (tgo_n d1)]
theorem c71 (h : RZ T Ln M n u x A W Ow X Y c n0 u0) (hc : 0 ≤ c) (k1 : -2147483648 ≤ k) (k2 : k < 2147483648) (i1 : -2147483648 ≤ i) (i2 : i < 2147483648) (w1 : -2147483648 ≤ w) (w2 : w < 2147483648) (hd0 : cd 0 = 1) (hd1 : cd 1 = 2) (hd3 : cd 3 = 3) : CR 71 [some (.ref x), some (zi k), some (zi i), some (zi w), none] T Ln M n u x Ow c n0 u0 cd (zl (a_end Y k i w).1) (a_end Y k i w).2 := by
  have hR := h.1.1
  have hH := h.1.2.2.2.1
  have hT : T x = 8 := hH.1.1
  unfold a_end
  by_cases d1 : m_th Y k
  · rw [if_pos d1]
    obtain ⟨t, a1, a2, a3, a4, a5⟩ := RLX_k h.1 d1
    obtain ⟨-, -, -, -, -, e1⟩ := kt_n a5
    by_cases d2 : Y 3 k = 6
    · rw [if_pos d2]
      have hA : T (A k) = 3 := by rw [a1]; exact e1.mpr d2
      obtain ⟨hpx, hK, an, an2, an3⟩ := PX_of h d1 d2
      have b8 : 0 ≤ Y 8 (Y 5 (Y 5 k)) ∧ Y 8 (Y 5 (Y 5 k)) ≤ 8 := hR 8 _
      have h29 := fun (Q : zU → zS → Prop) => s29 (t := (n, u)) (Q := Q) hpx
      by_cases d3 : 0 ≤ w ∧ w ≤ 7 + Y 8 (Y 5 (Y 5 k))
      · rw [if_pos d3]
        have c1 : ¬ ¬ (0 ≤ w ∧ w ≤ 8 + Y 8 (Y 5 (Y 5 k)) - 1) := by omega
        have hmq := MQx_of hR hK d1 d2 h.1.2.2.2.2.2.2.2.1
        obtain ⟨T', Ln', M', n', u', Ow', X', q1, q2, q3, q4, q5, q6⟩ := ex_go h d1 d2
        have hTx : T' x = 8 := q2.2.2.2.1.1.1
        obtain ⟨⟨p1, -⟩, ⟨-, pp1, -⟩, -, p5⟩ := (q2.2.2.2.2.2.2.1 k d1).2.2.2.2.2 d2
        have hI := h.1.2.1
        obtain ⟨f1, -⟩ := (hI k d1.1.1 d1.1.2).2.2.2.2.2.2 d2
        have t1 := rf_th d1 f1
        have hth := q2.2.2.2.2.2.2.1
        obtain ⟨⟨⟨g0, -⟩, -, g1, -⟩, -⟩ := (hth _ t1).2.1 f1.2.1
        have f2 := (hI _ t1.1.1 t1.1.2).2.2.1 f1.2.1
        have t2 := rf_th t1 f2
        obtain ⟨⟨g2, -, g4, -⟩, -⟩ := (hth _ t2).1 f2.2.1
        have h29' : ∀ Q : zU → zS → Prop, z_go zP 29 0 [some (.ref (A k))] [] (hj T' Ln' M', n', u') Q ↔ Q (.inl (some (zi (8 + Y 8 (Y 5 (Y 5 k)))))) (hj T' Ln' M', n', u') := by
          intro Q
          simp (disch := omega) only [g29_0, g29_2, g29_3, g29_6, g29_9, g29_12, g29_13, Int.reduceToNat, jtg, mu_s, mu_n, mu_j, mn_s, mn_n, jg_3_1, jg_4_1, jg_2_1, Option.some.injEq, exists_eq_left', zkl_i, zkl_l, zkl_n, zkl_r, zkl_0, zc_v, zc_n, zc_t, zd_v, zd_n, mj_tg, true_and, ↓reduceIte, not_true_eq_false, not_false_eq_true, ↓if_pos, ↓if_neg, Int.reduceLE, Int.reduceLT, Int.reduceEq, Int.reduceAdd, pp1, g1, g4]
        generalize m_lt (yu Y 0 0 0) k = Z at *
        obtain ⟨z1, z2, z3, z4, z5, z6⟩ := id hmq
        have z10 : Z 1 0 = Y 1 0 := z1 1 0 (by decide) (by decide)
        have h1x : M' x 2 = zi (Y 1 0) := q2.2.2.2.2.1
        rcases p5 with ⟨hh, -⟩ | ⟨-, p6, p7⟩ | ⟨-, p6, n1, S1, en1, E1, bl, r1, r2, r3, r4, r5, r6, ⟨r7, -, r9⟩, r10⟩
        · omega
        · have hbig : ¬ Z 33 0 ≤ 2000 := fun hh => XS_xt (z5 hh).1 p7
          rw [if_neg hbig]
          refine CR_x (n'' := n' + 1) (u'' := u' + 6) (M'' := mu M' x 2 (zi 7)) (out := .inr 0) h hc q2 q4 q5 q6 d1 hmq (RG_re z4 (by omega) (by omega) (by omega) (by omega)) (fun f e a b => re_f a b) (fun b j hh => by unfold mu; rw [if_neg hh]) (by rw [mu_s]; simp [m_re, yu]) (by omega) (by omega) (fun Q => ?_) (.inr ⟨0, rfl, by rw [hd0]; simp [m_re, yu], by simp [m_re, yu]⟩)
          simp (disch := omega) only [g71_0, g71_1, g71_2, g71_5, g71_5n, g71_7, g71_8, g71_9, g71_9n, g71_11, g71_14, g71_15, g71_16, g71_19, g71_19b, g71_22, g71_32, g71_33, g71_33n, g71_35, g71_38, g71_39, g71_40, g71_40n, g71_42, g71_45, g71_46, g71_47, g71_50, g71_50b, g71_53, g71_63, g71_63n, g71_65, g71_68, g71_69, g71_69n, g71_71, g71_74, g71_75, g71_76, g71_77, g71_78, Int.reduceToNat, jtg, mu_s, mu_n, mu_j, mn_s, mn_n, jg_3_7, jg_3_9, jal, Option.some.injEq, exists_eq_left', zkl_i, zkl_l, zkl_n, zkl_r, zkl_0, zc_v, zc_n, zc_t, zd_v, zd_n, mj_tg, true_and, ↓reduceIte, not_true_eq_false, not_false_eq_true, ↓if_pos, ↓if_neg, Int.reduceLE, Int.reduceLT, Int.reduceEq, Int.reduceAdd, s92_y hH (tgo_y d1) hA, h29, s76, bI_f c1, q1, g84_0, g84_0n, g84_1, g84_4, g84_4b, g84_7, g84_8, g84_11, g84_11n, g84_14, g84_15, g84_18, g84_18i, g84_19, g84_22, g84_25, g84_26, g84_29, g84_29n, g84_30, g84_33, g84_33n, g84_34, g84_37, g84_37b, g84_40, g84_41, g84_43, g84_46, Int.reduceToNat, jtg, mu_s, mu_n, mu_j, mn_s, mn_n, jg_3_4, jg_8_3, jn_1, jp_8_3, jg_3_5, p6, s80 hTx]
        · have hsm : Z 33 0 ≤ 2000 := by
            false_or_by_contra
            exact XS_xt r1 (z6 (by omega))
          rw [if_pos hsm]
          obtain ⟨y1, y2, y3⟩ := z5 hsm
          obtain ⟨s1', s2', s3'⟩ := same_x r1 r2 y1 y2
          have hen : 0 ≤ en1 ∧ en1 ≤ 2000 := r2.1
          subst s1' s2'
          by_cases d4 : 0 ≤ i ∧ i ≤ Z 34 0 - 1
          · rw [if_pos d4]
            have c2 : ¬ ¬ (0 ≤ i ∧ i ≤ Z 34 0 - 1) := fun hh => hh d4
            have hlen : Z 34 0 * (8 + Y 8 (Y 5 (Y 5 k))) ≤ 32000 := by
              have := Int.mul_le_mul hen.2 (show 8 + Y 8 (Y 5 (Y 5 k)) ≤ 16 by omega) (by omega) (by omega : (0 : Int) ≤ 2000)
              omega
            have hi1 : i * (8 + Y 8 (Y 5 (Y 5 k))) + (8 + Y 8 (Y 5 (Y 5 k))) ≤ Z 34 0 * (8 + Y 8 (Y 5 (Y 5 k))) := by
              have h9 := Int.mul_le_mul_of_nonneg_right (show i + 1 ≤ Z 34 0 by omega) (show 0 ≤ 8 + Y 8 (Y 5 (Y 5 k)) by omega)
              rw [Int.add_mul, Int.one_mul] at h9
              exact h9
            have hi0 : 0 ≤ i * (8 + Y 8 (Y 5 (Y 5 k))) := Int.mul_nonneg d4.1 (by omega)
            have hv := r10 i w d4.1 (by omega) d3.1 (by omega)
            have he : S1 (E1 i) (2 + w) = Z 36 (28 * Z 37 i + 2 + w) := by
              have h9 := s3' i d4.1 (by omega) (2 + w) (by omega) (by omega)
              rw [← h9, Int.add_assoc]
            rw [he] at hv
            have e0 : yu Z 0 0 0 0 0 = 0 := yu_s
            show CR 71 _ _ _ _ _ _ _ _ _ _ _ _ (zl (Z 36 (28 * Z 37 i + 2 + w))) (yu Z 0 0 0)
            refine CR_x (n'' := n') (u'' := u') (M'' := M') (out := .inl (some (zl (Z 36 (28 * Z 37 i + 2 + w))))) h hc q2 q4 q5 q6 d1 hmq (RG_0 z4) (fun f e a _ => yu_f a) (fun _ _ _ => rfl) (by rw [h1x, yu_f (by decide), z10]) (by omega) (by omega) (fun Q => ?_) (.inl ⟨e0, rfl⟩)
            simp (disch := omega) only [g71_0, g71_1, g71_2, g71_5, g71_5n, g71_7, g71_8, g71_9, g71_9n, g71_11, g71_14, g71_15, g71_16, g71_19, g71_19b, g71_22, g71_32, g71_33, g71_33n, g71_35, g71_38, g71_39, g71_40, g71_40n, g71_42, g71_45, g71_46, g71_47, g71_50, g71_50b, g71_53, g71_63, g71_63n, g71_65, g71_68, g71_69, g71_69n, g71_71, g71_74, g71_75, g71_76, g71_77, g71_78, Int.reduceToNat, jtg, mu_s, mu_n, mu_j, mn_s, mn_n, jg_3_7, jg_3_9, jal, Option.some.injEq, exists_eq_left', zkl_i, zkl_l, zkl_n, zkl_r, zkl_0, zc_v, zc_n, zc_t, zd_v, zd_n, mj_tg, true_and, ↓reduceIte, not_true_eq_false, not_false_eq_true, ↓if_pos, ↓if_neg, Int.reduceLE, Int.reduceLT, Int.reduceEq, Int.reduceAdd, s92_y hH (tgo_y d1) hA, h29, h29', s76, bI_f c1, bI_f c2, q1, g84_0, g84_0n, g84_1, g84_4, g84_4b, g84_7, g84_8, g84_11, g84_11n, g84_14, g84_15, g84_18, g84_18i, g84_19, g84_22, g84_25, g84_26, g84_29, g84_29n, g84_30, g84_33, g84_33n, g84_34, g84_37, g84_37b, g84_40, g84_41, g84_43, g84_46, Int.reduceToNat, jtg, mu_s, mu_n, mu_j, mn_s, mn_n, jg_3_4, jg_8_3, jn_1, jp_8_3, jg_3_5, p6, r4, r6, hv]
          · rw [if_neg d4]
            show CR 71 _ _ _ _ _ _ _ _ _ _ _ _ (zl 0) (yu Z 0 0 3)
            refine CR_x (n'' := n' + 1) (u'' := u' + 6) (M'' := M') (out := .inr 3) h hc q2 q4 q5 q6 d1 hmq (RG_u z4 (by decide) (by decide)) (fun f e a _ => yu_f a) (fun _ _ _ => rfl) (by rw [h1x, yu_f (by decide), z10]) (by omega) (by omega) (fun Q => ?_) (.inr ⟨3, rfl, by rw [hd3, yu_s], by rw [yu_s]; decide⟩)
            simp (disch := omega) only [g71_0, g71_1, g71_2, g71_5, g71_5n, g71_7, g71_8, g71_9, g71_9n, g71_11, g71_14, g71_15, g71_16, g71_19, g71_19b, g71_22, g71_32, g71_33, g71_33n, g71_35, g71_38, g71_39, g71_40, g71_40n, g71_42, g71_45, g71_46, g71_47, g71_50, g71_50b, g71_53, g71_63, g71_63n, g71_65, g71_68, g71_69, g71_69n, g71_71, g71_74, g71_75, g71_76, g71_77, g71_78, Int.reduceToNat, jtg, mu_s, mu_n, mu_j, mn_s, mn_n, jg_3_7, jg_3_9, jal, Option.some.injEq, exists_eq_left', zkl_i, zkl_l, zkl_n, zkl_r, zkl_0, zc_v, zc_n, zc_t, zd_v, zd_n, mj_tg, true_and, ↓reduceIte, not_true_eq_false, not_false_eq_true, ↓if_pos, ↓if_neg, Int.reduceLE, Int.reduceLT, Int.reduceEq, Int.reduceAdd, s92_y hH (tgo_y d1) hA, h29, s76, bI_f c1, bI_t d4, q1, g84_0, g84_0n, g84_1, g84_4, g84_4b, g84_7, g84_8, g84_11, g84_11n, g84_14, g84_15, g84_18, g84_18i, g84_19, g84_22, g84_25, g84_26, g84_29, g84_29n, g84_30, g84_33, g84_33n, g84_34, g84_37, g84_37b, g84_40, g84_41, g84_43, g84_46, Int.reduceToNat, jtg, mu_s, mu_n, mu_j, mn_s, mn_n, jg_3_4, jg_8_3, jn_1, jp_8_3, jg_3_5, p6, r4]
      · rw [if_neg d3]
        have c1 : ¬ (0 ≤ w ∧ w ≤ 8 + Y 8 (Y 5 (Y 5 k)) - 1) := by omega
        refine CR_th h (by omega) (by omega) hd1 (fun Q => ?_)
        simp (disch := omega) only [g71_0, g71_1, g71_2, g71_5, g71_5n, g71_7, g71_8, g71_9, g71_9n, g71_11, g71_14, g71_15, g71_16, g71_19, g71_19b, g71_22, g71_32, g71_33, g71_33n, g71_35, g71_38, g71_39, g71_40, g71_40n, g71_42, g71_45, g71_46, g71_47, g71_50, g71_50b, g71_53, g71_63, g71_63n, g71_65, g71_68, g71_69, g71_69n, g71_71, g71_74, g71_75, g71_76, g71_77, g71_78, Int.reduceToNat, jtg, mu_s, mu_n, mu_j, mn_s, mn_n, jg_3_7, jg_3_9, jal, Option.some.injEq, exists_eq_left', zkl_i, zkl_l, zkl_n, zkl_r, zkl_0, zc_v, zc_n, zc_t, zd_v, zd_n, mj_tg, true_and, ↓reduceIte, not_true_eq_false, not_false_eq_true, ↓if_pos, ↓if_neg, Int.reduceLE, Int.reduceLT, Int.reduceEq, Int.reduceAdd, s92_y hH (tgo_y d1) hA, h29, s76, bI_t c1]
    · rw [if_neg d2]
      have hA : ¬ T (A k) = 3 := by rw [a1, e1]; exact d2
      refine CR_re h (by omega) (by omega) (by omega) (by omega) hd0 (fun Q => ?_)
      simp (disch := omega) only [g71_0, g71_1, g71_2, g71_5, g71_5n, g71_7, g71_8, g71_9, g71_9n, g71_11, g71_14, g71_15, g71_16, g71_19, g71_19b, g71_22, g71_32, g71_33, g71_33n, g71_35, g71_38, g71_39, g71_40, g71_40n, g71_42, g71_45, g71_46, g71_47, g71_50, g71_50b, g71_53, g71_63, g71_63n, g71_65, g71_68, g71_69, g71_69n, g71_71, g71_74, g71_75, g71_76, g71_77, g71_78, Int.reduceToNat, jtg, mu_s, mu_n, mu_j, mn_s, mn_n, jg_3_7, jg_3_9, jal, Option.some.injEq, exists_eq_left', zkl_i, zkl_l, zkl_n, zkl_r, zkl_0, zc_v, zc_n, zc_t, zd_v, zd_n, mj_tg, true_and, ↓reduceIte, not_true_eq_false, not_false_eq_true, ↓if_pos, ↓if_neg, Int.reduceLE, Int.reduceLT, Int.reduceEq, Int.reduceAdd, s92_k hH (tgo_y d1) hA]
  · rw [if_neg d1]
    refine CR_re h (by omega) (by omega) (by omega) (by omega) hd0 (fun Q => ?_)
    simp (disch := omega) only [g71_0, g71_1, g71_2, g71_5, g71_5n, g71_7, g71_8, g71_9, g71_9n, g71_11, g71_14, g71_15, g71_16, g71_19, g71_19b, g71_22, g71_32, g71_33, g71_33n, g71_35, g71_38, g71_39, g71_40, g71_40n, g71_42, g71_45, g71_46, g71_47, g71_50, g71_50b, g71_53, g71_63, g71_63n, g71_65, g71_68, g71_69, g71_69n, g71_71, g71_74, g71_75, g71_76, g71_77, g71_78, Int.reduceToNat, jtg, mu_s, mu_n, mu_j, mn_s, mn_n, jg_3_7, jg_3_9, jal, Option.some.injEq, exists_eq_left', zkl_i, zkl_l, zkl_n, zkl_r, zkl_0, zc_v, zc_n, zc_t, zd_v, zd_n, mj_tg, true_and, ↓reduceIte, not_true_eq_false, not_false_eq_true, ↓if_pos, ↓if_neg, Int.reduceLE, Int.reduceLT, Int.reduceEq, Int.reduceAdd, s92_n hH k1 k2 (tgo_n d1)]
end
