/-! THE CLASS: the explorer goes through -/
def Bp (Y : zY) (k : Int) (G : Int → Int → Int) : Int → Int → Prop := fun i j => m_bf (psi Y k (G i)) (psi Y k (G j)) 16 2 = 1
section
variable {T : Nat → Nat} {Ln : Nat → Int} {M M' M2 : Nat → Int → Value} {t : Nat × Nat} {a b pr ma : Nat} {A : Int → Nat} {W : Int → Int → Nat} {Y : zY} {n n' i tl tl' w k en r at' : Int} {G G' : Int → Int → Int} {sl v E : Int → Int} {Q : zU → zS → Prop} {Dn Dn' : Int → Int → Prop}
theorem XE_f (h : FX M M' a) (he : XE M a en E) : XE M' a en E := by
  obtain ⟨h7, e1, hr, hlo⟩ := he
  have h3 : ∀ j, M' (a + 3) j = M (a + 3) j := fun j => h.1 _ _ (by omega) (by omega)
  exact ⟨by rw [h.2 7 (by omega) (by omega)]; exact h7, e1, fun j a b => by rw [h3]; exact hr j a b, fun j a b => by rw [h3]; exact hlo j a b⟩
/-- the order of the ends decides between two ends -/
theorem Bp_3 {u : Int} (hG : ∀ i, 0 ≤ i → i < n → CV Y k (G i)) (hx : XA Y k Dn n (fun i => psi Y k (G i)) tl) (i1 : 0 ≤ i) (i2 : i < n) (u1 : 0 ≤ u) (u2 : u < n) (hne : ¬ i = u) (hi : ce (G i)) (hu : ce (G u)) : Bp Y k G i u ∨ Bp Y k G u i := by
  rcases bf_3 (f := psi Y k (G i)) (g := psi Y k (G u)) 16 2 with h | h | h
  · exfalso
    have e : ∀ j, eqv (psi Y k (G j)) (psi Y k (G j)) := fun _ => eqv_r
    have hq : eqv (psi Y k (G i)) (psi Y k (G u)) := by
      have vi := (hG i i1 i2).2
      have vu' := (hG u u1 u2).2
      have di := (ie_psi (hG i i1 i2)).mpr hi
      have du := (ie_psi (hG u u1 u2)).mpr hu
      have z : ∀ g, CV Y k g → ce g → ∀ e, 18 ≤ e → e < 28 → psi Y k g e = 0 := by
        intro g hg hcg e e1 e2
        have vq : ∀ w, 0 ≤ w → w ≤ 1 → (psi Y k g (18 + 5 * w) = 0 → psi Y k g (18 + 5 * w + 1) = 0 ∧ psi Y k g (18 + 5 * w + 2) = 0) ∧ (psi Y k g (18 + 5 * w) ≤ 1 → psi Y k g (18 + 5 * w + 3) = 0 ∧ psi Y k g (18 + 5 * w + 4) = 0) := fun w a b => (hg.2.1.2.2.2 w a b).2.2.2.2.2
        obtain ⟨-, -, c, d⟩ := (ie_psi hg).mpr hcg
        have c' : psi Y k g 18 = 0 := c
        have d' : psi Y k g 23 = 0 := d
        have q0 := vq 0 (by omega) (by omega)
        have q1 := vq 1 (by omega) (by omega)
        simp only [Int.reduceMul, Int.reduceAdd] at q0 q1
        have a1 := q0.1 c'
        have a2 := q0.2 (by omega)
        have a3 := q1.1 d'
        have a4 := q1.2 (by omega)
        obtain rfl | rfl | rfl | rfl | rfl | rfl | rfl | rfl | rfl | rfl : e = 18 ∨ e = 19 ∨ e = 20 ∨ e = 21 ∨ e = 22 ∨ e = 23 ∨ e = 24 ∨ e = 25 ∨ e = 26 ∨ e = 27 := by omega
        · exact c'
        · exact a1.1
        · exact a1.2
        · exact a2.1
        · exact a2.2
        · exact d'
        · exact a3.1
        · exact a3.2
        · exact a4.1
        · exact a4.2
      intro e e1 e2
      by_cases c0 : e < 2
      · obtain rfl | rfl : e = 0 ∨ e = 1 := by omega
        · exact Eq.trans di.1 du.1.symm
        · exact Eq.trans di.2.1 du.2.1.symm
      · by_cases c1 : e < 18
        · exact h e (by omega) (by omega)
        · rw [z _ (hG i i1 i2) hi e (by omega) e2, z _ (hG u u1 u2) hu e (by omega) e2]
    by_cases c : i < u
    · exact hx.2.2.1 i u i1 c u2 hq
    · exact hx.2.2.1 u i u1 (by omega) i2 (eqv_s hq)
  · exact .inl h
  · exact .inr h
set_option maxHeartbeats 2000000 in
theorem s5 (hR : RG Y) (hK : PK Y k) (hx : XI T Ln M a pr ma G n sl 0) (hp : PX T Ln M A W Y k pr ma) (ho : OK Y k (fun j _ => j < at') G n 0) (he : XE M a en E) (hep : EP (Bp Y k G) (fun i => ce (G i)) at' en E) (h8 : M a 8 = zi 0) (a1 : 0 ≤ at') (a2 : at' < n) : ∃ M' G' n' sl' tl' en' E', (∀ Q : zU → zS → Prop, z_go zP 5 0 [some (.ref a), some (zi at'), none, none] [] (hj T Ln M, t) Q ↔ Q (.inl none) (hj T Ln M', t)) ∧ XI T Ln M' a pr ma G' n' sl' tl' ∧ PX T Ln M' A W Y k pr ma ∧ OK Y k (fun j _ => j < at' + 1) G' n' tl' ∧ XE M' a en' E' ∧ EP (Bp Y k G') (fun i => ce (G' i)) (at' + 1) en' E' ∧ M' a 8 = zi 0 ∧ at' + 1 ≤ n' ∧ ∀ b j, ¬ (a ≤ b ∧ b ≤ a + 4) → M' b j = M b j := by
  have h8b : Y 8 (Y 5 (Y 5 k)) ≤ 8 := (hR 8 _).2
  have hT' : T a = 1 ∧ T (a + 1) = 101 ∧ T (a + 2) = 100 ∧ T (a + 4) = 101 := ⟨hx.1.1.1, hx.1.1.2.1, hx.1.1.2.2.1, hx.1.1.2.2.2.2⟩
  have cv0 := ho.2.1 at' a1 a2
  -- word of side 0
  obtain ⟨M1, G1, n1, sl1, tl1, r1, q1, x1, f1, d1⟩ := s6 (t := t) (w := 0) hR hx hp a1 a2 (CV_cw cv0) (.inl rfl)
  have p1 := PX_f hT' f1 hp
  obtain ⟨o1, b1, g1⟩ := OK_1 (Dn' := fun j v => j < at' ∨ (j = at' ∧ v = 0)) ho (fun j u hh => hh) a1 a2 (by omega) (by omega) (cm_psi cv0 (.inl rfl)) (fun hc => mv_psi hR hK cv0 (.inl rfl) hc) (fun hc => CV_nv hR hK cv0 (.inl rfl) hc) d1
  have cv1 := o1.2.1 at' a1 (by omega)
  have G1e := g1 at' a2
  -- store of side 0
  obtain ⟨M2, G2, n2, sl2, tl2, r2, q2, x2, f2, d2⟩ := s12 (t := t) (w := 0) x1 a1 (by omega) h8b (CV_cw cv1) (.inl rfl)
  have p2' := PX_f hT' f2 p1
  obtain ⟨o2, b2, g2⟩ := OK_1 (Dn' := fun j v => (j < at' ∨ (j = at' ∧ v = 0)) ∨ (j = at' ∧ v = 2)) (ww := 2) o1 (fun j u hh => hh) a1 (by omega) (by omega) (by omega) (cm_psi2 (.inl rfl) cv1) (fun hc => mv_psi2 hR cv1 (.inl rfl) hc) (fun hc => CV_sv hR hK cv1 (.inl rfl) hc) d2
  have cv2 := o2.2.1 at' a1 (by omega)
  have G2e := g2 at' (by omega)
  -- word of side 1
  obtain ⟨M3, G3, n3, sl3, tl3, r3, q3, x3, f3, d3⟩ := s6 (t := t) (w := 1) hR x2 p2' a1 (by omega) (CV_cw cv2) (.inr rfl)
  have p3 := PX_f hT' f3 p2'
  obtain ⟨o3, b3, g3⟩ := OK_1 (Dn' := fun j v => ((j < at' ∨ (j = at' ∧ v = 0)) ∨ (j = at' ∧ v = 2)) ∨ (j = at' ∧ v = 1)) o2 (fun j u hh => hh) a1 (by omega) (by omega) (by omega) (cm_psi cv2 (.inr rfl)) (fun hc => mv_psi hR hK cv2 (.inr rfl) hc) (fun hc => CV_nv hR hK cv2 (.inr rfl) hc) d3
  have cv3 := o3.2.1 at' a1 (by omega)
  have G3e := g3 at' (by omega)
  -- store of side 1
  obtain ⟨M4, G4, n4, sl4, tl4, r4, q4, x4, f4, d4⟩ := s12 (t := t) (w := 1) x3 a1 (by omega) h8b (CV_cw cv3) (.inr rfl)
  have p4 := PX_f hT' f4 p3
  obtain ⟨o4, b4, g4⟩ := OK_1 (Dn' := fun j v => (((j < at' ∨ (j = at' ∧ v = 0)) ∨ (j = at' ∧ v = 2)) ∨ (j = at' ∧ v = 1)) ∨ (j = at' ∧ v = 3)) (ww := 3) o3 (fun j u hh => hh) a1 (by omega) (by omega) (by omega) (cm_psi2 (.inr rfl) cv3) (fun hc => mv_psi2 hR cv3 (.inr rfl) hc) (fun hc => CV_sv hR hK cv3 (.inr rfl) hc) d4
  have G4e := g4 at' (by omega)
  have e1 : G1 at' = G at' := G1e
  have e2 : G2 at' = G at' := by rw [G2e, e1]
  have e3 : G3 at' = G at' := by rw [G3e, e2]
  have e4 : G4 at' = G at' := by rw [G4e, e3]
  have eall : ∀ j, j < n → G4 j = G j := fun j hj => by rw [g4 j (by omega), g3 j (by omega), g2 j (by omega), g1 j hj]
  have ok4 : OK Y k (fun j _ => j < at' + 1) G4 n4 tl4 := ⟨XA_w (fun j u u1 u2 hh => by
    by_cases c : j < at'
    · exact .inl (.inl (.inl (.inl c)))
    · have hj : j = at' := by omega
      obtain rfl | rfl | rfl | rfl : u = 0 ∨ u = 1 ∨ u = 2 ∨ u = 3 := by omega
      · exact .inl (.inl (.inl (.inr ⟨hj, rfl⟩)))
      · exact .inl (.inr ⟨hj, rfl⟩)
      · exact .inl (.inl (.inr ⟨hj, rfl⟩))
      · exact .inr ⟨hj, rfl⟩) o4.1, o4.2.1, fun j u hh => by omega, o4.2.2.2⟩
  have F4 : FX M M4 a := FX_t f1 (FX_t f2 (FX_t f3 f4))
  have he4 := XE_f F4 he
  have h84 : M4 a 8 = zi 0 := by rw [F4.2 8 (by omega) (by omega)]; exact h8
  have ep4 : EP (Bp Y k G4) (fun i => ce (G4 i)) at' en E := EP_c (fun i j i1 i2 j1 j2 hb => by
    unfold Bp at hb ⊢
    rw [eall i (by omega), eall j (by omega)]; exact hb) (fun i i1 i2 => by rw [eall i (by omega)]) hep
  have hb1 := x1.1.1.1
  have t0 : T a = 1 := hT'.1
  have h18 := fun (Q : zU → zS → Prop) => s18 (t := t) (Q := Q) x4 a1 (by omega)
  rw [e1] at d2
  rw [e2] at d3
  rw [e3] at d4
  have fr4 : ∀ b j, ¬ (a ≤ b ∧ b ≤ a + 4) → M4 b j = M b j := fun b j hh => F4.1 b j (by omega) (by omega)
  by_cases hce : ce (G at')
  · obtain ⟨z1, z2, z3, z4⟩ := end_no (Y := Y) (k := k) hce
    have r1' : r1 = 0 := by
      rcases d1 with h | h
      · exact absurd h.1 z1
      · exact h.2.1
    have r2' : r2 = 0 := by
      rcases d2 with h | h
      · exact absurd h.1 z3
      · exact h.2.1
    have r3' : r3 = 0 := by
      rcases d3 with h | h
      · exact absurd h.1 z2
      · exact h.2.1
    have r4' : r4 = 0 := by
      rcases d4 with h | h
      · exact absurd h.1 z4
      · exact h.2.1
    subst r1' r2' r3' r4'
    have hce4 : ce (G4 at') := by rw [e4]; exact hce
    rw [bI_t hce4] at h18
    have hn4 : n4 ≤ 2000 := x4.2.1.2.1.2
    obtain ⟨M5, po, E', w1, w2, w3, w4, w5, w6, w7, w8, w9⟩ := s19 (t := t) (i := at') hR x4 p4 he4 a1 (by omega) hn4 (by have := hep.1; omega) (fun j j1 j2 => by have := (hep.2.1 j j1 j2).1; omega)
    have hbp : ∀ j, 0 ≤ j → j < en → m_bf (G4 at') (G4 (E j)) (8 + Y 8 (Y 5 (Y 5 k))).toNat 2 = m_bf (psi Y k (G4 at')) (psi Y k (G4 (E j))) 16 2 := fun j j1 j2 => by
      have := (hep.2.1 j j1 j2).1
      exact bf_psi hR (ok4.2.1 at' a1 (by omega)) (ok4.2.1 (E j) this.1 (by omega))
    refine ⟨M5, G4, n4, sl4, tl4, en + 1, E', fun Q => ?_, XI_e (fun b j c1 c2 => w9 b j c1 (by omega)) x4, PX_e ⟨t0, hx.1.1.2.2.2.1⟩ (fun b j c1 c2 => w9 b j c1 (by omega)) p4, ok4, w8, ?_, by rw [w9 a 8 (by omega) (by omega)]; exact h84, by omega, fun b j hh => by rw [w9 b j (by omega) (by omega)]; exact fr4 b j hh⟩
    · simp (disch := omega) only [g5_0, g5_1, g5_2, g5_3, g5_4, g5_5, g5_6, g5_9, g5_10, g5_11, g5_12, g5_15, g5_15b, g5_18, g5_21, g5_22, g5_23, g5_24, g5_27, g5_27b, g5_30, g5_33, g5_36, g5_39, g5_40, g5_40b, g5_43, g5_44, g5_45, g5_48, g5_48b, g5_51, g5_52, g5_53, g5_56, g5_59, g5_60, g5_60i, g5_61, g5_64, g5_65, g5_66, g5_69, Int.reduceToNat, jtg, mu_s, mu_n, mu_j, mn_s, mn_n, jg_1_8, jp_1_8, Option.some.injEq, exists_eq_left', zkl_i, zkl_l, zkl_n, zkl_r, zkl_0, zc_v, zc_n, zc_t, zd_v, zd_n, mj_tg, true_and, ↓reduceIte, not_true_eq_false, not_false_eq_true, ↓if_pos, ↓if_neg, Int.reduceLE, Int.reduceLT, Int.reduceEq, Int.reduceAdd, q1, q2, q3, q4, h18, w1]
    · refine EP_i (po := po) a1 hce4 (fun i j l h1 h2 => bf_t h1 h2) (fun u u1 u2 hu => Bp_3 ok4.2.1 ok4.1 a1 (by omega) u1 (by omega) (by omega) hce4 hu) w2.1 w2.2 (fun j j1 j2 => ?_) (fun hpo => ?_) w5 w6 w7 ep4
      · unfold Bp
        rw [← hbp j (by omega) j2]
        exact w3 j j1 j2
      · unfold Bp
        rw [← hbp (po - 1) (by omega) (by omega)]
        exact w4 hpo
  · have hsome : ¬ (r1 = 0 ∧ r2 = 0 ∧ r3 = 0 ∧ r4 = 0) := by
      rintro ⟨rfl, rfl, rfl, rfl⟩
      refine hce (no_move cv0 ?_ ?_ ?_ ?_)
      · rcases d1 with h | h
        · omega
        · exact h.1
      · rcases d3 with h | h
        · omega
        · exact h.1
      · rcases d2 with h | h
        · omega
        · exact h.1
      · rcases d4 with h | h
        · omega
        · exact h.1
    have c1 : r1 = 0 ∨ r1 = 1 := by rcases d1 with h | h <;> omega
    have c2 : r2 = 0 ∨ r2 = 1 := by rcases d2 with h | h <;> omega
    have c3 : r3 = 0 ∨ r3 = 1 := by rcases d3 with h | h <;> omega
    have c4 : r4 = 0 ∨ r4 = 1 := by rcases d4 with h | h <;> omega
    refine ⟨M4, G4, n4, sl4, tl4, en, E, fun Q => ?_, x4, p4, ok4, he4, EP_n a1 (by rw [e4]; exact hce) ep4, h84, by omega, fr4⟩
    clear d1 d2 d3 d4
    rcases c1 with rfl | rfl <;> rcases c2 with rfl | rfl <;> rcases c3 with rfl | rfl <;> rcases c4 with rfl | rfl
    all_goals first | exact absurd ⟨rfl, rfl, rfl, rfl⟩ hsome | simp (disch := omega) only [g5_0, g5_1, g5_2, g5_3, g5_4, g5_5, g5_6, g5_9, g5_10, g5_11, g5_12, g5_15, g5_15b, g5_18, g5_21, g5_22, g5_23, g5_24, g5_27, g5_27b, g5_30, g5_33, g5_36, g5_39, g5_40, g5_40b, g5_43, g5_44, g5_45, g5_48, g5_48b, g5_51, g5_52, g5_53, g5_56, g5_59, g5_60, g5_60i, g5_61, g5_64, g5_65, g5_66, g5_69, Int.reduceToNat, jtg, mu_s, mu_n, mu_j, mn_s, mn_n, jg_1_8, jp_1_8, Option.some.injEq, exists_eq_left', zkl_i, zkl_l, zkl_n, zkl_r, zkl_0, zc_v, zc_n, zc_t, zd_v, zd_n, mj_tg, true_and, ↓reduceIte, not_true_eq_false, not_false_eq_true, ↓if_pos, ↓if_neg, Int.reduceLE, Int.reduceLT, Int.reduceEq, Int.reduceAdd, q1, q2, q3, q4]
end
