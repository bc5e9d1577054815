/-! THE CLASS: the explorer keeps a state -/
def gu (G : Int → Int → Int) (n : Int) (v : Int → Int) : Int → Int → Int := fun i => if i = n then v else G i
def su (sl : Int → Int) (s x : Int) : Int → Int := fun i => if i = s then x else sl i
def vu (v : Int → Int) (j x : Int) : Int → Int := fun i => if i = j then x else v i
section
variable {T : Nat → Nat} {Ln : Nat → Int} {M M' : Nat → Int → Value} {t : Nat × Nat} {a pr ma : Nat} {n i tl : Int} {G : Int → Int → Int} {sl v : Int → Int} {Q : zU → zS → Prop}
theorem vu_s {j x : Int} : vu v j x j = x := if_pos rfl
theorem vu_n {j x k : Int} (h : ¬ k = j) : vu v j x k = v k := if_neg h
theorem XV_u {j x : Int} (h : XV M a v) : XV (mu M (a + 4) j (zl x)) a (vu v j x) := by
  intro k k1 k2
  by_cases hk : k = j
  · rw [hk, mu_s, vu_s]
  · rw [mu_j hk, vu_n hk]; exact h k k1 k2
theorem LV_u {j x : Int} (h : LV v) (x1 : -1 ≤ x) (x2 : x ≤ 4294967295) : LV (vu v j x) := by
  intro k
  unfold vu
  split
  · exact ⟨x1, x2⟩
  · exact h k
/-- how keeping a state ends -/
def KO (G : Int → Int → Int) (n tl : Int) (v : Int → Int) (G' : Int → Int → Int) (n' tl' : Int) : Prop := (G' = G ∧ n' = n ∧ tl' = tl ∧ ∃ i, 0 ≤ i ∧ i < n ∧ eqv (G i) v) ∨ ((¬ ∃ i, 0 ≤ i ∧ i < n ∧ eqv (G i) v) ∧ ((n < 2000 ∧ G' = gu G n v ∧ n' = n + 1 ∧ tl' = tl) ∨ (n = 2000 ∧ G' = G ∧ n' = n ∧ tl' = 1)))
theorem s14 (hb : XB T Ln M a pr ma) (hg : XG M a G n sl) (ho : XO G n sl) (hv : XV M a v) (lv : LV v) (lg : ∀ i, LV (G i)) (ht : M a 9 = zi tl) : ∃ M' G' n' sl' tl', (∀ Q : zU → zS → Prop, z_go zP 14 0 [some (.ref a), none, none, none] [] (hj T Ln M, t) Q ↔ Q (.inl none) (hj T Ln M', t)) ∧ XB T Ln M' a pr ma ∧ XG M' a G' n' sl' ∧ XO G' n' sl' ∧ (∀ i, LV (G' i)) ∧ M' a 9 = zi tl' ∧ KO G n tl v G' n' tl' ∧ (∀ b j, ¬ b = a → ¬ b = a + 1 → ¬ b = a + 2 → M' b j = M b j) ∧ ∀ j, ¬ j = 6 → ¬ j = 9 → M' a j = M a j := by
  obtain ⟨⟨h1, h2, h3, h4, h5⟩, ⟨l1, l2, l3, l4⟩, ⟨m1, m2, m3, m4⟩, m5, m6⟩ := id hb
  obtain ⟨g1, g2, g3, g4, g5⟩ := id hg
  have hh0 := mod_b (v := hx v 28) (m := 4096) (by omega)
  have h16 := fun (Q : zU → zS → Prop) => s16 (t := t) (Q := Q) hb hv
  obtain ⟨s, s1, s2, s3⟩ := free_s (fun s a b => (g5 s a b).2) g2.2 ho
  obtain ⟨h0, hh⟩ : ∃ h0, h0 = hx v 28 % 4096 := ⟨_, rfl⟩
  rw [← hh] at hh0 h16
  have hdec : DecidablePred (fun d : Int => sl ((h0 + d) % 4096) = 0 ∨ eqv (G (sl ((h0 + d) % 4096) - 1)) v) := fun _ => Classical.propDecidable _
  have hex : ∃ d, 0 ≤ d ∧ d < 0 + ((4096 : Nat) : Int) ∧ (sl ((h0 + d) % 4096) = 0 ∨ eqv (G (sl ((h0 + d) % 4096) - 1)) v) := by
    refine ⟨(s - h0) % 4096, by omega, by omega, .inl ?_⟩
    rw [show (h0 + (s - h0) % 4096) % 4096 = s by omega]
    exact s3
  obtain ⟨d, d1, d2, d3, d4⟩ := first_d _ 4096 0 hex
  have d4' : ∀ i, 0 ≤ i → i < d → ¬ sl ((h0 + i) % 4096) = 0 ∧ ¬ eqv (G (sl ((h0 + i) % 4096) - 1)) v := fun i i1 i2 => ⟨fun h9 => d4 i i1 i2 (.inl h9), fun h9 => d4 i i1 i2 (.inr h9)⟩
  have hdb : (h0 + d) % 4096 < 4096 ∧ 0 ≤ (h0 + d) % 4096 := by omega
  by_cases c1 : sl ((h0 + d) % 4096) = 0
  · have hnew : ¬ ∃ i, 0 ≤ i ∧ i < n ∧ eqv (G i) v := by
      rintro ⟨i, i1, i2, i3⟩
      obtain ⟨po, p1, p2'⟩ := ho
      obtain ⟨e, e1, e2, e3, e4⟩ := p2' i i1 i2
      rw [hx_c 28 (by omega) i3, ← hh] at e3 e4
      by_cases c2 : e < d
      · exact (d4' e e1 c2).2 (by rw [e3, show i + 1 - 1 = i by omega]; exact i3)
      · by_cases c3 : e = d
        · rw [c3, c1] at e3; omega
        · exact e4 d d1 (by omega) c1
    by_cases c2 : n < 2000
    · have h15 := fun (Q : zU → zS → Prop) => s15_y (t := t) (Q := Q) hb hg hv c2 hdb.2 hdb.1
      have hgo := fun (Q : zU → zS → Prop) => s14_z (t := t) (Q := Q) hb hg hv lv lg hh0.1 hh0.2 c1 h15 (by omega) d.toNat 0 none (by omega) (by omega) d4'
      have q0 : ∀ j, ¬ j = 6 → pM M a n ((h0 + d) % 4096) a j = M a j := fun j hj => by unfold pM; rw [mu_n (by omega), mu_j hj, mc_n (by omega)]
      have q1 : ∀ j, pM M a n ((h0 + d) % 4096) (a + 1) j = if n * 28 ≤ j ∧ j < n * 28 + 28 then M (a + 4) (j - n * 28) else M (a + 1) j := fun j => by
        unfold pM
        rw [mu_n (by omega), mu_n (by omega)]
        by_cases hj : n * 28 ≤ j ∧ j < n * 28 + 28
        · rw [mc_i hj.1 hj.2, if_pos hj, show (0 : Int) + (j - n * 28) = j - n * 28 by omega]
        · rw [mc_o hj, if_neg hj]
      have q2 : ∀ j, pM M a n ((h0 + d) % 4096) (a + 2) j = if j = (h0 + d) % 4096 then zi (n + 1) else M (a + 2) j := fun j => by
        unfold pM
        rw [mu_e]
        split
        · rfl
        · rw [mu_n (by omega), mc_n (by omega)]
      have q3 : ∀ b j, ¬ b = a → ¬ b = a + 1 → ¬ b = a + 2 → pM M a n ((h0 + d) % 4096) b j = M b j := fun b j b1 b2 b3 => by unfold pM; rw [mu_n b3, mu_n b1, mc_n b2]
      refine ⟨pM M a n ((h0 + d) % 4096), gu G n v, n + 1, su sl ((h0 + d) % 4096) (n + 1), tl, fun Q => ?_, ⟨⟨h1, h2, h3, h4, h5⟩, ⟨l1, l2, l3, l4⟩, ⟨by rw [q0 0 (by omega)]; exact m1, by rw [q0 1 (by omega)]; exact m2, by rw [q0 2 (by omega)]; exact m3, by rw [q0 3 (by omega)]; exact m4⟩, by rw [q0 4 (by omega)]; exact m5, by rw [q0 5 (by omega)]; exact m6⟩, ⟨?_, by omega, fun j j1 j2 => ?_, fun i j i1 i2 j1 j2 => ?_, fun s s1 s2 => ?_⟩, ?_, fun i => ?_, by rw [q0 9 (by omega)]; exact ht, .inr ⟨hnew, .inl ⟨c2, rfl, rfl, rfl⟩⟩, q3, fun j j1 j2 => q0 j j1⟩
      · rw [← hgo Q]
        simp (disch := omega) only [g14_0, g14_1, g14_4, g14_5, g14_6, g14_8, g14_11, g14_14, g14_15, g14_16, g14_17, g14_20, g14_21, g14_22, g14_23, g14_26, g14_27, g14_28, g14_28b, g14_31, g14_32, g14_33, g14_36, g14_37, g14_38, g14_39, g14_42, g14_43, g14_44, g14_45, g14_46, g14_49, g14_49b, g14_52, g14_53, g14_56, g14_59, Int.reduceToNat, jtg, mu_s, mu_n, mu_j, mn_s, mn_n, jg_1_1, jai, Option.some.injEq, exists_eq_left', zkl_i, zkl_l, zkl_n, zkl_r, zkl_0, zc_v, zc_n, zc_t, zd_v, zd_n, mj_tg, true_and, ↓reduceIte, not_true_eq_false, not_false_eq_true, ↓if_pos, ↓if_neg, Int.reduceLE, Int.reduceLT, Int.reduceEq, Int.reduceAdd, h16]
      · unfold pM; rw [mu_n (by omega), mu_s]
      · rw [q1]
        split
        next hj => exact ⟨_, hv _ (by omega) (by omega)⟩
        next hj => exact g3 j j1 j2
      · rw [q1]
        unfold gu
        by_cases hi : i = n
        · rw [if_pos hi, if_pos (by omega), show i * 28 + j - n * 28 = j by omega]
          exact hv j j1 j2
        · rw [if_neg hi, if_neg (by omega)]
          exact g4 i j i1 (by omega) j1 j2
      · rw [q2]
        unfold su
        split
        · exact ⟨rfl, by omega, by omega⟩
        · have := g5 s s1 s2
          exact ⟨this.1, by omega, by omega⟩
      · obtain ⟨po, p1, p2'⟩ := ho
        refine ⟨fun i => if i = n then (h0 + d) % 4096 else po i, fun s s1 s2 hs => ?_, fun i i1 i2 => ?_⟩
        · show (if su sl ((h0 + d) % 4096) (n + 1) s - 1 = n then (h0 + d) % 4096 else po (su sl ((h0 + d) % 4096) (n + 1) s - 1)) = s
          unfold su at hs ⊢
          by_cases hsd : s = (h0 + d) % 4096
          · rw [if_pos hsd, if_pos (by omega)]; exact hsd.symm
          · rw [if_neg hsd] at hs
            rw [if_neg hsd]
            have := g5 s s1 s2
            rw [if_neg (by omega)]
            exact p1 s s1 s2 hs
        · unfold gu
          by_cases hi : i = n
          · rw [if_pos hi, ← hh]
            refine ⟨d, d1, by omega, ?_, fun j j1 j2 => ?_⟩
            · unfold su; rw [if_pos rfl, hi]
            · unfold su
              split
              · omega
              · exact (d4' j j1 j2).1
          · rw [if_neg hi]
            obtain ⟨e, e1, e2, e3, e4⟩ := p2' i i1 (by omega)
            refine ⟨e, e1, e2, ?_, fun j j1 j2 => ?_⟩
            · unfold su
              rw [if_neg (fun h9 => by rw [h9, c1] at e3; omega)]
              exact e3
            · unfold su
              split
              · omega
              · exact e4 j j1 j2
      · unfold gu
        split
        · exact lv
        · exact lg i
    · have hn : n = 2000 := by omega
      have h15 := fun (Q : zU → zS → Prop) => s15_n (t := t) (Q := Q) (s := (h0 + d) % 4096) hb hg hn
      have hgo := fun (Q : zU → zS → Prop) => s14_z (t := t) (Q := Q) hb hg hv lv lg hh0.1 hh0.2 c1 h15 (by omega) d.toNat 0 none (by omega) (by omega) d4'
      refine ⟨mu M a 9 (zi 1), G, n, sl, 1, fun Q => ?_, ⟨⟨h1, h2, h3, h4, h5⟩, ⟨l1, l2, l3, l4⟩, ⟨by rw [mu_j (by omega)]; exact m1, by rw [mu_j (by omega)]; exact m2, by rw [mu_j (by omega)]; exact m3, by rw [mu_j (by omega)]; exact m4⟩, by rw [mu_j (by omega)]; exact m5, by rw [mu_j (by omega)]; exact m6⟩, ⟨by rw [mu_j (by omega)]; exact g1, g2, fun j j1 j2 => by rw [mu_n (by omega)]; exact g3 j j1 j2, fun i j i1 i2 j1 j2 => by rw [mu_n (by omega)]; exact g4 i j i1 i2 j1 j2, fun s s1 s2 => by rw [mu_n (by omega)]; exact g5 s s1 s2⟩, ho, lg, mu_s, .inr ⟨hnew, .inr ⟨hn, rfl, rfl, rfl⟩⟩, fun b j b1 _ _ => mu_n b1, fun j j1 j2 => mu_j j2⟩
      rw [← hgo Q]
      simp (disch := omega) only [g14_0, g14_1, g14_4, g14_5, g14_6, g14_8, g14_11, g14_14, g14_15, g14_16, g14_17, g14_20, g14_21, g14_22, g14_23, g14_26, g14_27, g14_28, g14_28b, g14_31, g14_32, g14_33, g14_36, g14_37, g14_38, g14_39, g14_42, g14_43, g14_44, g14_45, g14_46, g14_49, g14_49b, g14_52, g14_53, g14_56, g14_59, Int.reduceToNat, jtg, mu_s, mu_n, mu_j, mn_s, mn_n, jg_1_1, jai, Option.some.injEq, exists_eq_left', zkl_i, zkl_l, zkl_n, zkl_r, zkl_0, zc_v, zc_n, zc_t, zd_v, zd_n, mj_tg, true_and, ↓reduceIte, not_true_eq_false, not_false_eq_true, ↓if_pos, ↓if_neg, Int.reduceLE, Int.reduceLT, Int.reduceEq, Int.reduceAdd, h16]
  · have c2 : eqv (G (sl ((h0 + d) % 4096) - 1)) v := by
      rcases d3 with h9 | h9
      · exact absurd h9 c1
      · exact h9
    have hgo := fun (Q : zU → zS → Prop) => s14_y (t := t) (Q := Q) hb hg hv lv lg hh0.1 hh0.2 c1 c2 (by omega) d.toNat 0 none (by omega) (by omega) d4'
    have := g5 _ hdb.2 hdb.1
    refine ⟨M, G, n, sl, tl, fun Q => ?_, hb, hg, ho, lg, ht, .inl ⟨rfl, rfl, rfl, sl ((h0 + d) % 4096) - 1, by omega, by omega, c2⟩, fun _ _ _ _ _ => rfl, fun _ _ _ => rfl⟩
    rw [← hgo Q]
    simp (disch := omega) only [g14_0, g14_1, g14_4, g14_5, g14_6, g14_8, g14_11, g14_14, g14_15, g14_16, g14_17, g14_20, g14_21, g14_22, g14_23, g14_26, g14_27, g14_28, g14_28b, g14_31, g14_32, g14_33, g14_36, g14_37, g14_38, g14_39, g14_42, g14_43, g14_44, g14_45, g14_46, g14_49, g14_49b, g14_52, g14_53, g14_56, g14_59, Int.reduceToNat, jtg, mu_s, mu_n, mu_j, mn_s, mn_n, jg_1_1, jai, Option.some.injEq, exists_eq_left', zkl_i, zkl_l, zkl_n, zkl_r, zkl_0, zc_v, zc_n, zc_t, zd_v, zd_n, mj_tg, true_and, ↓reduceIte, not_true_eq_false, not_false_eq_true, ↓if_pos, ↓if_neg, Int.reduceLE, Int.reduceLT, Int.reduceEq, Int.reduceAdd, h16]
/-! a word of a state -/
/-- what a side sees at a place -/
def ld (v : Int → Int) (w p : Int) : Int := if v (18 + w) = 0 then v (10 + p) else if v (18 + w) = 1 then (if v (20 + w * 4) = p then v (21 + w * 4) else v (10 + p)) else if v (22 + w * 4) = p then v (23 + w * 4) else if v (20 + w * 4) = p then v (21 + w * 4) else v (10 + p)
theorem s10 {w p : Int} (hb : XB T Ln M a pr ma) (hv : XV M a v) (lv : LV v) (w1 : w = 0 ∨ w = 1) (p1 : 0 ≤ p) (p2' : p ≤ 7) (c1 : 0 ≤ v (18 + w)) (c2 : v (18 + w) ≤ 2) : z_go zP 10 0 [some (.ref a), some (zi w), some (zi p), none, none, none, none] [] (hj T Ln M, t) Q ↔ Q (.inl (some (zl (ld v w p)))) (hj T Ln M, t) := by
  obtain ⟨⟨h1, h2, h3, h4, h5⟩, ⟨l1, l2, l3, l4⟩, ⟨m1, m2, m3, m4⟩, m5, m6⟩ := hb
  have hv' : ∀ j, 0 ≤ j → j < 28 → M (a + 4) j = zl (v j) := hv
  have b20 := lv 20
  have b22 := lv 22
  have b24 := lv 24
  have b26 := lv 26
  unfold ld
  rcases w1 with rfl | rfl
  · simp only [Int.reduceAdd, Int.reduceMul] at c1 c2
    obtain c | c | c : v 18 = 0 ∨ v 18 = 1 ∨ v 18 = 2 := by omega
    · simp (disch := omega) only [g10_0, g10_2, g10_3, g10_4, g10_5, g10_6, g10_7, g10_8, g10_11, g10_13, g10_14, g10_15, g10_16, g10_18, g10_19, g10_21, g10_23, g10_24, g10_27, g10_29, g10_30, g10_31, g10_34, g10_36, g10_37, g10_38, g10_39, g10_43, g10_44, g10_47, g10_48, g10_49, g10_51, g10_52, g10_53, g10_54, g10_55, g10_56, g10_60, g10_61, g10_64, g10_65, g10_66, g10_68, g10_69, g10_70, g10_71, g10_72, g10_73, g10_75, g10_78, g10_81, g10_83, Int.reduceToNat, jtg, mu_s, mu_n, mu_j, mn_s, mn_n, jg_1_3, jal, Option.some.injEq, exists_eq_left', zkl_i, zkl_l, zkl_n, zkl_r, zkl_0, zc_v, zc_n, zc_t, zd_v, zd_n, mj_tg, true_and, ↓reduceIte, not_true_eq_false, not_false_eq_true, ↓if_pos, ↓if_neg, Int.reduceLE, Int.reduceLT, Int.reduceEq, Int.reduceAdd, Int.reduceMul, m4, hv', c]
    · by_cases q1 : v 20 = p
      · simp (disch := omega) only [g10_0, g10_2, g10_3, g10_4, g10_5, g10_6, g10_7, g10_8, g10_11, g10_13, g10_14, g10_15, g10_16, g10_18, g10_19, g10_21, g10_23, g10_24, g10_27, g10_29, g10_30, g10_31, g10_34, g10_36, g10_37, g10_38, g10_39, g10_43, g10_44, g10_47, g10_48, g10_49, g10_51, g10_52, g10_53, g10_54, g10_55, g10_56, g10_60, g10_61, g10_64, g10_65, g10_66, g10_68, g10_69, g10_70, g10_71, g10_72, g10_73, g10_75, g10_78, g10_81, g10_83, Int.reduceToNat, jtg, mu_s, mu_n, mu_j, mn_s, mn_n, jg_1_3, jal, Option.some.injEq, exists_eq_left', zkl_i, zkl_l, zkl_n, zkl_r, zkl_0, zc_v, zc_n, zc_t, zd_v, zd_n, mj_tg, true_and, ↓reduceIte, not_true_eq_false, not_false_eq_true, ↓if_pos, ↓if_neg, Int.reduceLE, Int.reduceLT, Int.reduceEq, Int.reduceAdd, Int.reduceMul, m4, hv', c]
      · simp (disch := omega) only [g10_0, g10_2, g10_3, g10_4, g10_5, g10_6, g10_7, g10_8, g10_11, g10_13, g10_14, g10_15, g10_16, g10_18, g10_19, g10_21, g10_23, g10_24, g10_27, g10_29, g10_30, g10_31, g10_34, g10_36, g10_37, g10_38, g10_39, g10_43, g10_44, g10_47, g10_48, g10_49, g10_51, g10_52, g10_53, g10_54, g10_55, g10_56, g10_60, g10_61, g10_64, g10_65, g10_66, g10_68, g10_69, g10_70, g10_71, g10_72, g10_73, g10_75, g10_78, g10_81, g10_83, Int.reduceToNat, jtg, mu_s, mu_n, mu_j, mn_s, mn_n, jg_1_3, jal, Option.some.injEq, exists_eq_left', zkl_i, zkl_l, zkl_n, zkl_r, zkl_0, zc_v, zc_n, zc_t, zd_v, zd_n, mj_tg, true_and, ↓reduceIte, not_true_eq_false, not_false_eq_true, ↓if_pos, ↓if_neg, Int.reduceLE, Int.reduceLT, Int.reduceEq, Int.reduceAdd, Int.reduceMul, m4, hv', c]
    · by_cases q1 : v 20 = p <;> by_cases q2 : v 22 = p
      all_goals simp (disch := omega) only [g10_0, g10_2, g10_3, g10_4, g10_5, g10_6, g10_7, g10_8, g10_11, g10_13, g10_14, g10_15, g10_16, g10_18, g10_19, g10_21, g10_23, g10_24, g10_27, g10_29, g10_30, g10_31, g10_34, g10_36, g10_37, g10_38, g10_39, g10_43, g10_44, g10_47, g10_48, g10_49, g10_51, g10_52, g10_53, g10_54, g10_55, g10_56, g10_60, g10_61, g10_64, g10_65, g10_66, g10_68, g10_69, g10_70, g10_71, g10_72, g10_73, g10_75, g10_78, g10_81, g10_83, Int.reduceToNat, jtg, mu_s, mu_n, mu_j, mn_s, mn_n, jg_1_3, jal, Option.some.injEq, exists_eq_left', zkl_i, zkl_l, zkl_n, zkl_r, zkl_0, zc_v, zc_n, zc_t, zd_v, zd_n, mj_tg, true_and, ↓reduceIte, not_true_eq_false, not_false_eq_true, ↓if_pos, ↓if_neg, Int.reduceLE, Int.reduceLT, Int.reduceEq, Int.reduceAdd, Int.reduceMul, m4, hv', c]
  · simp only [Int.reduceAdd, Int.reduceMul] at c1 c2
    obtain c | c | c : v 19 = 0 ∨ v 19 = 1 ∨ v 19 = 2 := by omega
    · simp (disch := omega) only [g10_0, g10_2, g10_3, g10_4, g10_5, g10_6, g10_7, g10_8, g10_11, g10_13, g10_14, g10_15, g10_16, g10_18, g10_19, g10_21, g10_23, g10_24, g10_27, g10_29, g10_30, g10_31, g10_34, g10_36, g10_37, g10_38, g10_39, g10_43, g10_44, g10_47, g10_48, g10_49, g10_51, g10_52, g10_53, g10_54, g10_55, g10_56, g10_60, g10_61, g10_64, g10_65, g10_66, g10_68, g10_69, g10_70, g10_71, g10_72, g10_73, g10_75, g10_78, g10_81, g10_83, Int.reduceToNat, jtg, mu_s, mu_n, mu_j, mn_s, mn_n, jg_1_3, jal, Option.some.injEq, exists_eq_left', zkl_i, zkl_l, zkl_n, zkl_r, zkl_0, zc_v, zc_n, zc_t, zd_v, zd_n, mj_tg, true_and, ↓reduceIte, not_true_eq_false, not_false_eq_true, ↓if_pos, ↓if_neg, Int.reduceLE, Int.reduceLT, Int.reduceEq, Int.reduceAdd, Int.reduceMul, m4, hv', c]
    · by_cases q1 : v 24 = p
      · simp (disch := omega) only [g10_0, g10_2, g10_3, g10_4, g10_5, g10_6, g10_7, g10_8, g10_11, g10_13, g10_14, g10_15, g10_16, g10_18, g10_19, g10_21, g10_23, g10_24, g10_27, g10_29, g10_30, g10_31, g10_34, g10_36, g10_37, g10_38, g10_39, g10_43, g10_44, g10_47, g10_48, g10_49, g10_51, g10_52, g10_53, g10_54, g10_55, g10_56, g10_60, g10_61, g10_64, g10_65, g10_66, g10_68, g10_69, g10_70, g10_71, g10_72, g10_73, g10_75, g10_78, g10_81, g10_83, Int.reduceToNat, jtg, mu_s, mu_n, mu_j, mn_s, mn_n, jg_1_3, jal, Option.some.injEq, exists_eq_left', zkl_i, zkl_l, zkl_n, zkl_r, zkl_0, zc_v, zc_n, zc_t, zd_v, zd_n, mj_tg, true_and, ↓reduceIte, not_true_eq_false, not_false_eq_true, ↓if_pos, ↓if_neg, Int.reduceLE, Int.reduceLT, Int.reduceEq, Int.reduceAdd, Int.reduceMul, m4, hv', c]
      · simp (disch := omega) only [g10_0, g10_2, g10_3, g10_4, g10_5, g10_6, g10_7, g10_8, g10_11, g10_13, g10_14, g10_15, g10_16, g10_18, g10_19, g10_21, g10_23, g10_24, g10_27, g10_29, g10_30, g10_31, g10_34, g10_36, g10_37, g10_38, g10_39, g10_43, g10_44, g10_47, g10_48, g10_49, g10_51, g10_52, g10_53, g10_54, g10_55, g10_56, g10_60, g10_61, g10_64, g10_65, g10_66, g10_68, g10_69, g10_70, g10_71, g10_72, g10_73, g10_75, g10_78, g10_81, g10_83, Int.reduceToNat, jtg, mu_s, mu_n, mu_j, mn_s, mn_n, jg_1_3, jal, Option.some.injEq, exists_eq_left', zkl_i, zkl_l, zkl_n, zkl_r, zkl_0, zc_v, zc_n, zc_t, zd_v, zd_n, mj_tg, true_and, ↓reduceIte, not_true_eq_false, not_false_eq_true, ↓if_pos, ↓if_neg, Int.reduceLE, Int.reduceLT, Int.reduceEq, Int.reduceAdd, Int.reduceMul, m4, hv', c]
    · by_cases q1 : v 24 = p <;> by_cases q2 : v 26 = p
      all_goals simp (disch := omega) only [g10_0, g10_2, g10_3, g10_4, g10_5, g10_6, g10_7, g10_8, g10_11, g10_13, g10_14, g10_15, g10_16, g10_18, g10_19, g10_21, g10_23, g10_24, g10_27, g10_29, g10_30, g10_31, g10_34, g10_36, g10_37, g10_38, g10_39, g10_43, g10_44, g10_47, g10_48, g10_49, g10_51, g10_52, g10_53, g10_54, g10_55, g10_56, g10_60, g10_61, g10_64, g10_65, g10_66, g10_68, g10_69, g10_70, g10_71, g10_72, g10_73, g10_75, g10_78, g10_81, g10_83, Int.reduceToNat, jtg, mu_s, mu_n, mu_j, mn_s, mn_n, jg_1_3, jal, Option.some.injEq, exists_eq_left', zkl_i, zkl_l, zkl_n, zkl_r, zkl_0, zc_v, zc_n, zc_t, zd_v, zd_n, mj_tg, true_and, ↓reduceIte, not_true_eq_false, not_false_eq_true, ↓if_pos, ↓if_neg, Int.reduceLE, Int.reduceLT, Int.reduceEq, Int.reduceAdd, Int.reduceMul, m4, hv', c]
theorem s11 {w p x : Int} (hb : XB T Ln M a pr ma) (hv : XV M a v) (p1 : 0 ≤ p) (p2' : p ≤ 7) (w1 : w = 0 ∨ w = 1) (c1 : 0 ≤ v (18 + w)) (c2 : v (18 + w) ≤ 1) : z_go zP 11 0 [some (.ref a), some (zi w), some (zi p), some (zl x), none, none, none] [] (hj T Ln M, t) Q ↔ Q (.inl none) (hj T Ln (mu (mu (mu M (a + 4) (20 + w * 4 + 2 * v (18 + w)) (zl p)) (a + 4) (20 + w * 4 + 2 * v (18 + w) + 1) (zl x)) (a + 4) (18 + w) (zl (v (18 + w) + 1))), t) := by
  obtain ⟨⟨h1, h2, h3, h4, h5⟩, ⟨l1, l2, l3, l4⟩, ⟨m1, m2, m3, m4⟩, m5, m6⟩ := hb
  have e1 := hv (18 + w) (by omega) (by omega)
  simp (disch := omega) only [g11_0, g11_1, g11_4, g11_6, g11_7, g11_8, g11_9, g11_10, g11_12, g11_14, g11_17, g11_19, g11_20, g11_23, g11_24, g11_26, g11_27, g11_28, g11_29, g11_30, g11_31, g11_33, g11_34, g11_35, g11_37, g11_38, g11_41, g11_43, g11_44, g11_45, g11_46, g11_47, g11_50, g11_52, g11_53, g11_54, g11_55, g11_56, g11_57, g11_60, g11_62, g11_63, g11_64, g11_66, g11_67, g11_68, g11_69, g11_70, Int.reduceToNat, jtg, mu_s, mu_n, mu_j, mn_s, mn_n, jg_1_3, jal, jsl, Option.some.injEq, exists_eq_left', zkl_i, zkl_l, zkl_n, zkl_r, zkl_0, zc_v, zc_n, zc_t, zd_v, zd_n, mj_tg, true_and, ↓reduceIte, not_true_eq_false, not_false_eq_true, ↓if_pos, ↓if_neg, Int.reduceLE, Int.reduceLT, Int.reduceEq, Int.reduceAdd, m4, e1]
end
