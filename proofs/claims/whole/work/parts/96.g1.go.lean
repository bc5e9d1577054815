/-! THE CLASS: the explorer goes on from a state -/
section
variable {T : Nat → Nat} {Ln : Nat → Int} {M M' M2 : Nat → Int → Value} {t : Nat × Nat} {a b pr ma : Nat} {A : Int → Nat} {W : Int → Int → Nat} {Y : zY} {n n' i tl tl' w k en r : Int} {G G' : Int → Int → Int} {sl v E : Int → Int} {Q : zU → zS → Prop} {Dn Dn' : Int → Int → Prop}
theorem mu_w2 {b' : Nat} {j k' : Int} {x : Value} (h : ¬ (b' = a ∧ j = k')) : mu M a k' x b' j = M b' j := by
  unfold mu
  rw [if_neg h]
theorem XI_e (h : ∀ b j, ¬ b = a + 3 → ¬ (b = a ∧ (j = 7 ∨ j = 8)) → M' b j = M b j) (hx : XI T Ln M a pr ma G n sl tl) : XI T Ln M' a pr ma G n sl tl := by
  obtain ⟨⟨h1, h2, ⟨m1, m2, m3, m4⟩, m5, m6⟩, ⟨g1, g2, g3, g4, g5⟩, ho, lg, ht⟩ := hx
  have h0 : ∀ j, ¬ j = 7 → ¬ j = 8 → M' a j = M a j := fun j x y => h a j (by omega) (by omega)
  have h1' := fun j => h (a + 1) j (by omega) (by omega)
  have h2' := fun j => h (a + 2) j (by omega) (by omega)
  exact ⟨⟨h1, h2, ⟨by rw [h0 0 (by omega) (by omega)]; exact m1, by rw [h0 1 (by omega) (by omega)]; exact m2, by rw [h0 2 (by omega) (by omega)]; exact m3, by rw [h0 3 (by omega) (by omega)]; exact m4⟩, by rw [h0 4 (by omega) (by omega)]; exact m5, by rw [h0 5 (by omega) (by omega)]; exact m6⟩, ⟨by rw [h0 6 (by omega) (by omega)]; exact g1, g2, fun j j1 j2 => by rw [h1']; exact g3 j j1 j2, fun i j i1 i2 j1 j2 => by rw [h1']; exact g4 i j i1 i2 j1 j2, fun s s1 s2 => by rw [h2']; exact g5 s s1 s2⟩, ho, lg, by rw [h0 9 (by omega) (by omega)]; exact ht⟩
theorem PX_e (hT : T a = 1 ∧ T (a + 3) = 100) (h : ∀ b j, ¬ b = a + 3 → ¬ b = a → M' b j = M b j) (hp : PX T Ln M A W Y k pr ma) : PX T Ln M' A W Y k pr ma := by
  obtain ⟨⟨p1, p2', p3, p4⟩, p5, p6, p7, p8⟩ := hp
  have hM : ∀ b j, (T b = 2 ∨ T b = 3 ∨ T b = 4 ∨ T b = 7 ∨ T b = 104) → M' b j = M b j := fun b j hb => h b j (fun hh => by rw [hh] at hb; omega) (fun hh => by rw [hh] at hb; omega)
  refine ⟨⟨p1, by rw [hM _ _ (by omega)]; exact p2', by rw [hM _ _ (by omega)]; exact p3, by rw [hM _ _ (by omega)]; exact p4⟩, p5, ?_, ?_, p8⟩
  · exact PG_f (fun b j hb => hM b j (by omega)) rfl rfl rfl rfl (fun _ _ _ _ _ _ => rfl) p6
  · exact PG_f (fun b j hb => hM b j (by omega)) rfl rfl rfl rfl (fun _ _ _ _ _ _ => rfl) p7
/-- the rows of the ends -/
def XE (M : Nat → Int → Value) (a : Nat) (en : Int) (E : Int → Int) : Prop := M a 7 = zi en ∧ (0 ≤ en ∧ en ≤ 2000) ∧ (∀ j, 0 ≤ j → j < 2000 → ∃ v, M (a + 3) j = zi v ∧ 0 ≤ v ∧ v < 2000) ∧ ∀ j, 0 ≤ j → j < en → M (a + 3) j = zi (E j)
theorem s19_l (hR : RG Y) (i1 : 0 ≤ i) (i2 : i < n) (n2 : n ≤ 2000) (e2 : en < 2000) (hE : ∀ j, 0 ≤ j → j < en → 0 ≤ E j ∧ E j < n) : ∀ (f : Nat) (M : Nat → Int → Value), (f : Int) ≤ en → XI T Ln M a pr ma G n sl tl → PX T Ln M A W Y k pr ma → M a 7 = zi en → (∀ j, 0 ≤ j → j < 2000 → ∃ v, M (a + 3) j = zi v ∧ 0 ≤ v ∧ v < 2000) → (∀ j : Int, 0 ≤ j → j < (f : Int) → M (a + 3) j = zi (E j)) → (∀ j : Int, (f : Int) < j → j ≤ en → M (a + 3) j = zi (E (j - 1))) → ∃ (M' : Nat → Int → Value) (po : Int), (∀ Q : zU → zS → Prop, z_go zP 19 16 [some (.ref a), some (zi i), some (zi f)] [] (hj T Ln M, t) Q ↔ Q (.inl none) (hj T Ln M', t)) ∧ (0 ≤ po ∧ po ≤ (f : Int)) ∧ (∀ j : Int, po ≤ j → j < (f : Int) → m_bf (G i) (G (E j)) (8 + Y 8 (Y 5 (Y 5 k))).toNat 2 = 1) ∧ (0 < po → ¬ m_bf (G i) (G (E (po - 1))) (8 + Y 8 (Y 5 (Y 5 k))).toNat 2 = 1) ∧ (∀ j, 0 ≤ j → j < po → M' (a + 3) j = zi (E j)) ∧ M' (a + 3) po = zi i ∧ (∀ j, po < j → j ≤ en → M' (a + 3) j = zi (E (j - 1))) ∧ M' a 7 = zi (en + 1) ∧ (∀ j, 0 ≤ j → j < 2000 → ∃ v, M' (a + 3) j = zi v ∧ 0 ≤ v ∧ v < 2000) ∧ ∀ b j, ¬ b = a + 3 → ¬ (b = a ∧ j = 7) → M' b j = M b j := by
  intro f
  induction f with
  | zero =>
    intro M hf hx hp h7 hr hlo hhi
    obtain ⟨⟨⟨h1, h2, h3, h4, h5⟩, ⟨l1, l2, l3, l4⟩, ⟨m1, m2, m3, m4⟩, m5, m6⟩, -⟩ := id hx
    refine ⟨mu (mu M (a + 3) 0 (zi i)) a 7 (zi (en + 1)), 0, fun Q => ?_, by omega, fun j a b => by omega, fun hh => by omega, fun j a b => by omega, by rw [mu_n (by omega), mu_s], fun j a b => by rw [mu_n (by omega), mu_j (by omega)]; exact hhi j a b, mu_s, fun j a b => ?_, fun b j b1 b2 => by rw [mu_w2 b2, mu_n b1]⟩
    · simp (disch := omega) only [g19_0, g19_1, g19_4, g19_7, g19_10, g19_11, g19_12, g19_15, g19_16, g19_17, g19_20, g19_21, g19_22, g19_23, g19_26, g19_27, g19_28, g19_29, g19_30, g19_33, g19_33b, g19_36, g19_37, g19_40, g19_41, g19_42, g19_45, g19_46, g19_47, g19_48, g19_49, g19_50, g19_53, g19_56, g19_57, g19_60, g19_61, g19_62, g19_63, g19_64, g19_64i, g19_65, g19_68, g19_69, g19_70, g19_73, Int.reduceToNat, jtg, mu_s, mu_n, mu_j, mn_s, mn_n, jg_1_7, jg_1_2, jai, jsi, jp_1_7, Option.some.injEq, exists_eq_left', zkl_i, zkl_l, zkl_n, zkl_r, zkl_0, zc_v, zc_n, zc_t, zd_v, zd_n, mj_tg, true_and, ↓reduceIte, not_true_eq_false, not_false_eq_true, ↓if_pos, ↓if_neg, Int.reduceLE, Int.reduceLT, Int.reduceEq, Int.reduceAdd, Int.natCast_zero, m3, h7]
    · rw [mu_n (by omega), mu_e]
      split
      · exact ⟨i, rfl, i1, by omega⟩
      · exact hr j a b
  | succ f ih =>
    intro M hf hx hp h7 hr hlo hhi
    obtain ⟨⟨⟨h1, h2, h3, h4, h5⟩, ⟨l1, l2, l3, l4⟩, ⟨m1, m2, m3, m4⟩, m5, m6⟩, -⟩ := id hx
    have ef := hlo f (by omega) (by omega)
    have hEf := hE f (by omega) (by omega)
    have h20 := fun (Q : zU → zS → Prop) => s20 (t := t) (Q := Q) hR hx hp i1 i2 hEf.1 hEf.2
    have ec : ((f + 1 : Nat) : Int) = (f : Int) + 1 := by omega
    have ec1 : (f : Int) + 1 - 1 = f := by omega
    rcases m_bf_01 (G i) (G (E f)) (8 + Y 8 (Y 5 (Y 5 k))).toNat 2 with hb | hb
    · rw [hb] at h20
      refine ⟨mu (mu M (a + 3) ((f : Int) + 1) (zi i)) a 7 (zi (en + 1)), (f : Int) + 1, fun Q => ?_, by omega, fun j a b => by omega, fun _ => by rw [ec1, hb]; decide, fun j a b => by rw [mu_n (by omega), mu_j (by omega)]; exact hlo j a (by omega), by rw [mu_n (by omega), mu_s], fun j a b => by rw [mu_n (by omega), mu_j (by omega)]; exact hhi j (by omega) b, mu_s, fun j a b => ?_, fun b j b1 b2 => by rw [mu_w2 b2, mu_n b1]⟩
      · rw [ec]
        simp (disch := omega) only [g19_0, g19_1, g19_4, g19_7, g19_10, g19_11, g19_12, g19_15, g19_16, g19_17, g19_20, g19_21, g19_22, g19_23, g19_26, g19_27, g19_28, g19_29, g19_30, g19_33, g19_33b, g19_36, g19_37, g19_40, g19_41, g19_42, g19_45, g19_46, g19_47, g19_48, g19_49, g19_50, g19_53, g19_56, g19_57, g19_60, g19_61, g19_62, g19_63, g19_64, g19_64i, g19_65, g19_68, g19_69, g19_70, g19_73, Int.reduceToNat, jtg, mu_s, mu_n, mu_j, mn_s, mn_n, jg_1_7, jg_1_2, jai, jsi, jp_1_7, Option.some.injEq, exists_eq_left', zkl_i, zkl_l, zkl_n, zkl_r, zkl_0, zc_v, zc_n, zc_t, zd_v, zd_n, mj_tg, true_and, ↓reduceIte, not_true_eq_false, not_false_eq_true, ↓if_pos, ↓if_neg, Int.reduceLE, Int.reduceLT, Int.reduceEq, Int.reduceAdd, m3, ec1, ef, h20, h7]
      · rw [mu_n (by omega), mu_e]
        split
        · exact ⟨i, rfl, i1, by omega⟩
        · exact hr j a b
    · rw [hb] at h20
      have fM : ∀ b j, ¬ b = a + 3 → ¬ (b = a ∧ (j = 7 ∨ j = 8)) → mu M (a + 3) (f + 1) (zi (E f)) b j = M b j := fun b j x _ => mu_n x
      obtain ⟨M1, po, q1, q2, q3, q4, q5, q6, q7, q8, q9, q10⟩ := ih (mu M (a + 3) (f + 1) (zi (E f))) (by omega) (XI_e fM hx) (PX_e ⟨h1, h4⟩ (fun b j x _ => mu_n x) hp) (by rw [mu_n (by omega)]; exact h7) (fun j a b => by
          rw [mu_e]
          split
          · exact ⟨_, rfl, hEf.1, by omega⟩
          · exact hr j a b) (fun j a b => by rw [mu_j (by omega)]; exact hlo j a (by omega)) (fun j a b => by
          by_cases c : j = f + 1
          · rw [c, mu_s, ec1]
          · rw [mu_j c]; exact hhi j (by omega) b)
      refine ⟨M1, po, fun Q => ?_, by omega, fun j a b => ?_, q4, q5, q6, q7, q8, q9, fun b j b1 b2 => by rw [q10 b j b1 b2, mu_n b1]⟩
      · rw [← q1 Q, ec]
        refine g19_16.trans ?_
        simp (disch := omega) only [g19_0, g19_1, g19_4, g19_7, g19_10, g19_11, g19_12, g19_15, g19_17, g19_20, g19_21, g19_22, g19_23, g19_26, g19_27, g19_28, g19_29, g19_30, g19_33, g19_33b, g19_36, g19_37, g19_40, g19_41, g19_42, g19_45, g19_46, g19_47, g19_48, g19_49, g19_50, g19_53, g19_56, g19_57, g19_60, g19_61, g19_62, g19_63, g19_64, g19_64i, g19_65, g19_68, g19_69, g19_70, g19_73, Int.reduceToNat, jtg, mu_s, mu_n, mu_j, mn_s, mn_n, jg_1_7, jg_1_2, jai, jsi, jp_1_7, Option.some.injEq, exists_eq_left', zkl_i, zkl_l, zkl_n, zkl_r, zkl_0, zc_v, zc_n, zc_t, zd_v, zd_n, mj_tg, true_and, ↓reduceIte, not_true_eq_false, not_false_eq_true, ↓if_pos, ↓if_neg, Int.reduceLE, Int.reduceLT, Int.reduceEq, Int.reduceAdd, m3, ec1, ef, h20]
        rw [show (f : Int) + 1 + -1 = f by omega]
      · by_cases c : j = f
        · rw [c]; exact hb
        · exact q3 j a (by omega)
theorem s19 (hR : RG Y) (hx : XI T Ln M a pr ma G n sl tl) (hp : PX T Ln M A W Y k pr ma) (he : XE M a en E) (i1 : 0 ≤ i) (i2 : i < n) (n2 : n ≤ 2000) (e2 : en < 2000) (hE : ∀ j, 0 ≤ j → j < en → 0 ≤ E j ∧ E j < n) : ∃ M' po E', (∀ Q : zU → zS → Prop, z_go zP 19 0 [some (.ref a), some (zi i), none] [] (hj T Ln M, t) Q ↔ Q (.inl none) (hj T Ln M', t)) ∧ (0 ≤ po ∧ po ≤ en) ∧ (∀ j, po ≤ j → j < en → m_bf (G i) (G (E j)) (8 + Y 8 (Y 5 (Y 5 k))).toNat 2 = 1) ∧ (0 < po → ¬ m_bf (G i) (G (E (po - 1))) (8 + Y 8 (Y 5 (Y 5 k))).toNat 2 = 1) ∧ (∀ j, 0 ≤ j → j < po → E' j = E j) ∧ E' po = i ∧ (∀ j, po ≤ j → j < en → E' (j + 1) = E j) ∧ XE M' a (en + 1) E' ∧ ∀ b j, ¬ b = a + 3 → ¬ (b = a ∧ j = 7) → M' b j = M b j := by
  obtain ⟨h7, e1, hr, hlo⟩ := he
  obtain ⟨M1, po, q1, q2, q3, q4, q5, q6, q7, q8, q9, q10⟩ := s19_l (t := t) hR i1 i2 n2 e2 hE en.toNat M (by omega) hx hp h7 hr (fun j a b => hlo j a (by omega)) (fun j a b => by omega)
  obtain ⟨⟨⟨h1, h2, h3, h4, h5⟩, ⟨l1, l2, l3, l4⟩, ⟨m1, m2, m3, m4⟩, m5, m6⟩, -⟩ := id hx
  refine ⟨M1, po, fun j => if j < po then E j else if j = po then i else E (j - 1), fun Q => ?_, by omega, fun j a b => q3 j a (by omega), q4, fun j a b => if_pos b, ?_, fun j a b => ?_, ⟨q8, by omega, q9, fun j x1 x2 => ?_⟩, q10⟩
  · rw [← q1 Q, show ((en.toNat : Nat) : Int) = en by omega]
    simp (disch := omega) only [g19_0, g19_1, g19_4, g19_7, g19_10, g19_11, g19_12, g19_15, g19_17, g19_20, g19_21, g19_22, g19_23, g19_26, g19_27, g19_28, g19_29, g19_30, g19_33, g19_33b, g19_36, g19_37, g19_40, g19_41, g19_42, g19_45, g19_46, g19_47, g19_48, g19_49, g19_50, g19_53, g19_56, g19_57, g19_60, g19_61, g19_62, g19_63, g19_64, g19_64i, g19_65, g19_68, g19_69, g19_70, g19_73, Int.reduceToNat, jtg, mu_s, mu_n, mu_j, mn_s, mn_n, jg_1_7, jg_1_2, jai, jsi, jp_1_7, Option.some.injEq, exists_eq_left', zkl_i, zkl_l, zkl_n, zkl_r, zkl_0, zc_v, zc_n, zc_t, zd_v, zd_n, mj_tg, true_and, ↓reduceIte, not_true_eq_false, not_false_eq_true, ↓if_pos, ↓if_neg, Int.reduceLE, Int.reduceLT, Int.reduceEq, Int.reduceAdd, h7]
  · show (if po < po then E po else if po = po then i else E (po - 1)) = i
    rw [if_neg (by omega), if_pos rfl]
  · show (if j + 1 < po then E (j + 1) else if j + 1 = po then i else E (j + 1 - 1)) = E j
    rw [if_neg (by omega), if_neg (by omega), show j + 1 - 1 = j by omega]
  · show M1 (a + 3) j = zi (if j < po then E j else if j = po then i else E (j - 1))
    by_cases c : j < po
    · rw [if_pos c]; exact q5 j x1 c
    · rw [if_neg c]
      by_cases c2 : j = po
      · rw [if_pos c2, c2]; exact q6
      · rw [if_neg c2]; exact q7 j (by omega) (by omega)
/-! one move of a state -/
def OK (Y : zY) (k : Int) (Dn : Int → Int → Prop) (G : Int → Int → Int) (n tl : Int) : Prop := XA Y k Dn n (fun i => psi Y k (G i)) tl ∧ (∀ i, 0 ≤ i → i < n → CV Y k (G i)) ∧ (∀ j v, Dn j v → j < n) ∧ (tl = 0 ∨ tl = 1)
theorem KO_g (h : KO G n tl v G' n' tl') : n ≤ n' ∧ ∀ j, j < n → G' j = G j := by
  rcases h with ⟨rfl, rfl, rfl, -⟩ | ⟨-, ⟨a, rfl, rfl, d⟩ | ⟨a, rfl, rfl, d⟩⟩
  · exact ⟨by omega, fun _ _ => rfl⟩
  · exact ⟨by omega, fun j hj => if_neg (by omega)⟩
  · exact ⟨by omega, fun _ _ => rfl⟩
theorem OK_1 {c : Prop} {ww : Int} (ho : OK Y k Dn G n tl) (hd : ∀ j u, Dn' j u → Dn j u ∨ (j = i ∧ u = ww)) (i1 : 0 ≤ i) (i2 : i < n) (w1 : 0 ≤ ww) (w2 : ww ≤ 3) (hc : m_cm (sr Y (psi Y k (G i))) k ww ↔ c) (hm : c → eqv (mvv Y k ww (psi Y k (G i))) (psi Y k v)) (hv : c → CV Y k v) (h : (c ∧ r = 1 ∧ KO G n tl v G' n' tl') ∨ (¬ c ∧ r = 0 ∧ G' = G ∧ n' = n ∧ tl' = tl)) : OK Y k Dn' G' n' tl' ∧ n ≤ n' ∧ ∀ j, j < n → G' j = G j := by
  obtain ⟨h1, h2, h3, h4⟩ := ho
  rcases h with ⟨hc', -, hk⟩ | ⟨hc', -, rfl, rfl, rfl⟩
  · obtain ⟨q1, q2⟩ := KO_g hk
    have h9 := XA_k h1 h3 hd i1 i2 w1 w2 (hc.mpr hc') (hm hc') (hv hc').2 (KO_psi h2 (hv hc') hk)
    refine ⟨⟨h9.1, KO_cv h2 (hv hc') hk, fun j u hj => ?_, ?_⟩, q1, q2⟩
    · rcases hd j u hj with hh | ⟨rfl, -⟩
      · have := h3 j u hh; omega
      · omega
    · rcases hk with ⟨-, -, rfl, -⟩ | ⟨-, ⟨-, -, -, rfl⟩ | ⟨-, -, -, rfl⟩⟩
      · exact h4
      · exact h4
      · exact .inr rfl
  · refine ⟨⟨XA_d h1 hd (fun hh => hc' (hc.mp hh)), h2, fun j u hj => ?_, h4⟩, by omega, fun _ _ => rfl⟩
    rcases hd j u hj with hh | ⟨rfl, -⟩
    · exact h3 j u hh
    · exact i2
theorem XA_w {S : Int → Int → Int} (h : ∀ j u, 0 ≤ u → u ≤ 3 → Dn' j u → Dn j u) (hx : XA Y k Dn n S tl) : XA Y k Dn' n S tl := by
  obtain ⟨h1, h2, h3, h4, h5, h6⟩ := hx
  exact ⟨h1, h2, h3, h4, fun ht i w hd a b d e => h5 ht i w (h i w d e hd) a b d e, h6⟩
end
