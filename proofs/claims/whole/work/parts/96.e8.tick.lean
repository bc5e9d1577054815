/-! THE CLASS: cycles -/
section
variable {T : Nat → Nat} {Ln : Nat → Int} {M M' : Nat → Int → Value} {a n u x : Nat} {A : Int → Nat} {W : Int → Int → Nat} {Ow : Nat → Int} {X : Int → Int} {Y Z : zY} {k cyc cc p j c n0 u0 : Int} {Q : zU → zS → Prop} {cd : Nat → Int}
theorem eM_n {t le ba lp ll bb op d rd st ln : Int} {b : Nat} (h : ¬ (a ≤ b ∧ b < a + 3)) : eM M a t le ba lp ll bb op d rd st ln b j = M b j := by
  unfold eM
  rw [mu_n (by omega)]
  split
  · rw [mu_n (by omega), mu_n (by omega), mu_n (by omega), mu_n (by omega), mu_n (by omega)]
  · rw [mu_n (by omega), mu_n (by omega), mu_n (by omega), mu_n (by omega)]
theorem eM_0 {t le ba lp ll bb op d rd st ln : Int} : eM M a t le ba lp ll bb op d rd st ln a j = mu (mu (mu (mu M a 7 (zi (lp + ba))) a 8 (zi (ll + (t - le - 1 - ba)))) a 5 (zi t)) a 6 (zi bb) a j := by
  unfold eM
  rw [mu_n (by omega)]
  split
  · rw [mu_n (by omega)]
  · rfl
theorem eM_1 {t le ba lp ll bb op d rd st ln : Int} : eM M a t le ba lp ll bb op d rd st ln (a + 1) j = if op ≤ 4 ∧ j = d then zi (t + 1 + rd) else M (a + 1) j := by
  unfold eM
  rw [mu_n (by omega)]
  by_cases h : op ≤ 4
  · rw [if_pos h]
    by_cases h2 : j = d
    · rw [if_pos ⟨h, h2⟩, h2, mu_s]
    · rw [if_neg (fun hh => h2 hh.2), mu_j h2, mu_n (by omega), mu_n (by omega), mu_n (by omega), mu_n (by omega)]
  · rw [if_neg h, if_neg (fun hh => h hh.1), mu_n (by omega), mu_n (by omega), mu_n (by omega), mu_n (by omega)]
theorem eM_2 {t le ba lp ll bb op d rd st ln : Int} : eM M a t le ba lp ll bb op d rd st ln (a + 2) j = if j = st % 16 then zi (t + ln) else M (a + 2) j := by
  unfold eM
  rw [mu_e]
  split
  · rfl
  · split
    · rw [mu_n (by omega), mu_n (by omega), mu_n (by omega), mu_n (by omega), mu_n (by omega)]
    · rw [mu_n (by omega), mu_n (by omega), mu_n (by omega), mu_n (by omega)]
set_option maxHeartbeats 1000000 in
theorem tick_a (t : Nat × Nat) (hs : SI Y k) (hb : Y 23 k ≤ 80000000) (h0 : Y 22 k = 0) (hk : KM T Ln M A Y k (Y 23 k)) (hc : CT T M Y (A (Y 5 k)) (Y 5 k)) (hp : PG T Ln M A W Y (Y 6 k)) : ∃ M' l1, (∀ Q : zU → zS → Prop, z_go zP 44 0 [some (.ref (A k)), none] [] (hj T Ln M, t) Q ↔ z_go zP 44 39 [some (.ref (A k)), l1] [] (hj T Ln M', t) Q) ∧ KM T Ln M' A (m_t1 Y k) k (Y 23 k + 1) ∧ ∀ b j, ¬ (A k ≤ b ∧ b < A k + 9) → M' b j = M b j := by
  obtain ⟨hv, ⟨i1, i2⟩, ⟨t1, t2⟩, i3, i4, i5, i6, i7, i8, i9, i10, i11, i12⟩ := id hs
  obtain ⟨l1, l2, l3⟩ := SV_L hv
  have hR := hv.1
  have hb0 : 0 ≤ Y 23 k := (hR 23 k).1
  have hkT := KM_T hk
  have hk4 := KM_4 (v := Y 23 k + 1) l2.2 hk
  obtain ⟨y1, y2⟩ : 0 ≤ Y 22 (61 + k) ∧ Y 22 (61 + k) ≤ 1 := hR 22 _
  obtain ⟨⟨f1, f2, f3, f4, f5⟩, ⟨b1, b2, b3, b4⟩, ⟨c1, c2, c3, c4, c5⟩, ⟨d1, d2⟩, a5, a6, a7, a8, a9⟩ := id hk4
  have m4 : M (A k) 4 = zi (Y 23 k) := hk.2.2.1.1
  have rr1 : T (A k + 3) = 5 := a8.1.1
  have m2 : M (A k) 2 = .ref (A k + 3) := hk.2.1.2.2.1
  have m9 : M (A k) 9 = .ref (A k + 1) := hk.2.2.2.1.1
  have m5' : M (A k) 5 = zi (s_le Y k) := hk.2.2.1.2.1
  have m6' : M (A k) 6 = zi (s_ba Y k) := hk.2.2.1.2.2.1
  have hp4 : PG T Ln (mu M (A k) 4 (zi (Y 23 k + 1))) A W Y (Y 6 k) := PG_b (a := A k) (fun b j hh => mu_n (by omega)) hkT rfl rfl rfl rfl (fun _ _ _ _ _ _ => rfl) hp
  have hc4 : CT T (mu M (A k) 4 (zi (Y 23 k + 1))) Y (A (Y 5 k)) (Y 5 k) := CT_b (a := A k) (fun b j hh => mu_n (by omega)) hkT (fun _ _ _ => rfl) hc
  by_cases e1 : Y 22 (61 + k) = 1
  · have et : m_t1 Y k = Y := if_neg (by omega)
    have h37 := fun (Q : zU → zS → Prop) => s37_y (tt := t) (Q := Q) a8 e1
    refine ⟨mu M (A k) 4 (zi (Y 23 k + 1)), some .null, fun Q => ?_, by rw [et]; exact hk4, fun b j hh => mu_n (by omega)⟩
    simp (disch := omega) only [g44_0, g44_1, g44_1i, g44_2, g44_5, g44_6, g44_7, g44_10, g44_11, g44_14, g44_17, g44_17n, g44_18, g44_18n, g44_19, g44_19n, g44_22, g44_23, g44_26, g44_27, g44_27n, g44_28, g44_31, g44_34, g44_35, g44_35n, g44_36, g44_40, g44_43, g44_46, g44_47, g44_50, g44_53, g44_56, g44_57, g44_60, g44_61, g44_64, g44_67, g44_69, g44_70, g44_71, g44_72, g44_75, g44_78, g44_79, g44_82, g44_85, Int.reduceToNat, jtg, mu_s, mu_n, mu_j, mn_s, mn_n, jg_6_4, jp_6_4, jg_6_2, jg_6_3, jg_5_5, jg_6_10, jai, Option.some.injEq, exists_eq_left', zkl_i, zkl_l, zkl_n, zkl_r, zkl_0, zc_v, zc_n, zc_t, zd_v, zd_n, mj_tg, true_and, ↓reduceIte, not_true_eq_false, not_false_eq_true, ↓if_pos, ↓if_neg, Int.reduceLE, Int.reduceLT, Int.reduceEq, Int.reduceAdd, m4, m2, b3, h37]
  · have e0 : Y 22 (61 + k) = 0 := by omega
    obtain ⟨g1, g2, g3, g4, g5, g6⟩ := id hp4
    have q20 : 0 ≤ Y 20 (61 + k) := (hR 20 _).1
    have h37 := fun (Q : zU → zS → Prop) => s37_n (tt := t) (Q := Q) a8 g1 e0 g6.2 q20 i2.2.2
    have hw := g3 (Y 20 (61 + k)) q20 i2.2.2
    have eew : m_ew Y k = 24 * Y 6 k + Y 20 (61 + k) := rfl
    obtain ⟨x1, x2⟩ : 0 ≤ Y 16 (24 * Y 6 k + Y 20 (61 + k)) ∧ Y 16 (24 * Y 6 k + Y 20 (61 + k)) ≤ 3 := hR 16 _
    obtain ⟨y3, y4⟩ : 0 ≤ Y 17 (24 * Y 6 k + Y 20 (61 + k)) ∧ Y 17 (24 * Y 6 k + Y 20 (61 + k)) ≤ 3 := hR 17 _
    obtain ⟨o1, o2⟩ : 0 ≤ Y 14 (24 * Y 6 k + Y 20 (61 + k)) ∧ Y 14 (24 * Y 6 k + Y 20 (61 + k)) ≤ 7 := hR 14 _
    obtain ⟨dd1, dd2⟩ : 0 ≤ Y 15 (24 * Y 6 k + Y 20 (61 + k)) ∧ Y 15 (24 * Y 6 k + Y 20 (61 + k)) ≤ 3 := hR 15 _
    have hle0 : 0 ≤ s_le Y k := by unfold s_le; split; omega; exact (hR 25 _).1
    have hba0 : 0 ≤ s_ba Y k ∧ s_ba Y k ≤ 8 := by unfold s_ba; split; omega; split; omega; exact hR 12 _
    have hra0 : ∀ j, 0 ≤ m_ra Y k j ∧ m_ra Y k j ≤ 200000000 := fun j => by
      obtain ⟨z1, z2⟩ : -1 ≤ Y 26 (4 * k + j) ∧ Y 26 (4 * k + j) ≤ 100000000 := hR 26 _
      obtain ⟨z3, z4⟩ : 0 ≤ Y 27 (4 * k + j) ∧ Y 27 (4 * k + j) ≤ 8 := hR 27 _
      unfold m_ra
      split <;> omega
    have h45 := fun (Q : zU → zS → Prop) => s45 (tt := t) (Q := Q) (R := m_ra Y k) f1 f2 f4 c2 c3 d1 a5 ⟨hle0, by omega⟩ hba0 hra0 hw o1 o2 x1 x2 y3 y4
    obtain ⟨rd1, rd2⟩ := rd_1 (e := m_ew Y k) hR
    rw [eew] at rd1 rd2
    have hent : (if (Y 14 (24 * Y 6 k + Y 20 (61 + k)) = 5 ∨ (¬ Y 14 (24 * Y 6 k + Y 20 (61 + k)) = 0 ∧ Y 14 (24 * Y 6 k + Y 20 (61 + k)) ≤ 3)) ∧ (if (¬ Y 14 (24 * Y 6 k + Y 20 (61 + k)) = 0 ∧ ¬ Y 14 (24 * Y 6 k + Y 20 (61 + k)) = 7) ∧ s_le Y k + 1 + s_ba Y k < m_ra Y k (Y 16 (24 * Y 6 k + Y 20 (61 + k))) then m_ra Y k (Y 16 (24 * Y 6 k + Y 20 (61 + k))) else s_le Y k + 1 + s_ba Y k) < m_ra Y k (Y 17 (24 * Y 6 k + Y 20 (61 + k))) then m_ra Y k (Y 17 (24 * Y 6 k + Y 20 (61 + k))) else if (¬ Y 14 (24 * Y 6 k + Y 20 (61 + k)) = 0 ∧ ¬ Y 14 (24 * Y 6 k + Y 20 (61 + k)) = 7) ∧ s_le Y k + 1 + s_ba Y k < m_ra Y k (Y 16 (24 * Y 6 k + Y 20 (61 + k))) then m_ra Y k (Y 16 (24 * Y 6 k + Y 20 (61 + k))) else s_le Y k + 1 + s_ba Y k) = Y 24 k := by
      rw [(i4 e0).2]
      unfold m_f2 m_f1
      rw [eew]
      simp only [rd1, rd2]
    rw [hent] at h45
    have hb24 : Y 24 k ≤ 100000000 := (hR 24 k).2
    have hb24' : 0 ≤ Y 24 k := (hR 24 k).1
    by_cases e2 : Y 24 k ≤ Y 23 k + 1
    · have h24 : Y 24 k = Y 23 k + 1 := by have := (i4 e0).1; omega
      have et : m_t1 Y k = m_ent Y k := if_pos ⟨e0, e2⟩
      obtain ⟨q1, q2, q3, q4, q5, q6⟩ := SV_ent hv e0 (by omega)
      obtain ⟨n28, n29⟩ := ent_28 hs e0
      have z21 : 0 ≤ Y 21 (61 + k) := (hR 21 _).1
      have z21' : Y 21 (61 + k) ≤ 80000001 := by
        have := hv.2.2.2.2.2.2.2.2.1
        omega
      have z28 : 0 ≤ Y 28 k ∧ Y 28 k ≤ 100000000 := hR 28 k
      have z29 : 0 ≤ Y 29 k ∧ Y 29 k ≤ 100000000 := hR 29 k
      have z9 : 0 ≤ Y 9 (Y 5 k) ∧ Y 9 (Y 5 k) ≤ 8 := hR 9 _
      have z10 : 0 ≤ Y 10 (Y 5 k) ∧ Y 10 (Y 5 k) ≤ 8 := hR 10 _
      have z11 : 0 ≤ Y 11 (Y 5 k) ∧ Y 11 (Y 5 k) ≤ 8 := hR 11 _
      have z12 : 0 ≤ Y 12 (Y 5 k) ∧ Y 12 (Y 5 k) ≤ 8 := hR 12 _
      have k21 : 0 ≤ Y 21 k := (hR 21 k).1
      obtain ⟨w0, w2, w3, w4, w5⟩ := hc4
      obtain ⟨⟨r1, r2, r3, r4, r5⟩, r6, r7, r8, r9, r10, r11, r12, r13, r14⟩ := id a8
      -- the entered run goes on
      have hM2 : ∀ b j, ¬ (A k ≤ b ∧ b < A k + 9) → eM (mu M (A k) 4 (zi (Y 23 k + 1))) (A k) (Y 23 k + 1) (s_le Y k) (s_ba Y k) (Y 28 k) (Y 29 k) (if m_gs Y k = 0 then 0 else Y 12 (Y 5 k)) (Y 14 (24 * Y 6 k + Y 20 (61 + k))) (Y 15 (24 * Y 6 k + Y 20 (61 + k))) (if Y 14 (24 * Y 6 k + Y 20 (61 + k)) = 4 then Y 11 (Y 5 k) else Y 10 (Y 5 k)) (Y 21 (61 + k)) (Y 9 (Y 5 k)) b j = mu M (A k) 4 (zi (Y 23 k + 1)) b j := fun b j hh => eM_n (by omega)
      have hp5 := PG_b (a := A k) hM2 hkT rfl rfl rfl rfl (fun _ _ _ _ _ _ => rfl) hp4
      have hr5 : RN T Ln (eM (mu M (A k) 4 (zi (Y 23 k + 1))) (A k) (Y 23 k + 1) (s_le Y k) (s_ba Y k) (Y 28 k) (Y 29 k) (if m_gs Y k = 0 then 0 else Y 12 (Y 5 k)) (Y 14 (24 * Y 6 k + Y 20 (61 + k))) (Y 15 (24 * Y 6 k + Y 20 (61 + k))) (if Y 14 (24 * Y 6 k + Y 20 (61 + k)) = 4 then Y 11 (Y 5 k) else Y 10 (Y 5 k)) (Y 21 (61 + k)) (Y 9 (Y 5 k))) A Y (A k + 3) (61 + k) (Y 6 k) := RN_f (fun i hi j => eM_n (by omega)) rfl rfl l2.2 rfl rfl rfl (fun _ _ _ => rfl) a8
      obtain ⟨M1, k1, k2, k3, k4, k5⟩ := adv t hR hp5 hr5 i2 e0 (by omega)
      have hgs : (if m_gs Y k = 0 then 0 else Y 12 (Y 5 k)) = if Y 14 (24 * Y 6 k + Y 20 (61 + k)) = 6 ∧ ¬ Y 19 (12 * (61 + k) + Y 16 (24 * Y 6 k + Y 20 (61 + k))) = 0 then Y 12 (Y 5 k) else 0 := by
        unfold m_gs
        rw [eew]
        by_cases hh : Y 14 (24 * Y 6 k + Y 20 (61 + k)) = 6 ∧ ¬ Y 19 (12 * (61 + k) + Y 16 (24 * Y 6 k + Y 20 (61 + k))) = 0
        · rw [bI_t hh, if_pos hh, if_neg (by omega)]
        · rw [bI_f hh, if_neg hh, if_pos rfl]
      have h46 := fun (Q : zU → zS → Prop) => s46 (tt := t) (Q := Q) (N := fun j => Y 19 (12 * (61 + k) + j)) f1 f2 f4 f3 f5 b2 b3 c1 c2 c3 c4 c5 d1 d2 w0 w2 w3 w4 w5 r1 r2 r4 r8 r11 r13 hw o1 o2 dd1 dd2 x1 x2 (fun j => hR 19 _) (by omega) ⟨hle0, by omega⟩ hba0 z28 z29 z9 z10 z11 z12 (by omega) hgs rfl k1
      have hM1 : ∀ b j, ¬ (A k + 3 ≤ b ∧ b < A k + 6) → M1 b j = eM (mu M (A k) 4 (zi (Y 23 k + 1))) (A k) (Y 23 k + 1) (s_le Y k) (s_ba Y k) (Y 28 k) (Y 29 k) (if m_gs Y k = 0 then 0 else Y 12 (Y 5 k)) (Y 14 (24 * Y 6 k + Y 20 (61 + k))) (Y 15 (24 * Y 6 k + Y 20 (61 + k))) (if Y 14 (24 * Y 6 k + Y 20 (61 + k)) = 4 then Y 11 (Y 5 k) else Y 10 (Y 5 k)) (Y 21 (61 + k)) (Y 9 (Y 5 k)) b j := fun b j hh => k5 b j (by omega) (by omega) (by omega)
      have hle : s_le (m_ent Y k) k = Y 24 k := by
        unfold s_le
        rw [if_neg (by rw [q2]; omega), q2, show Y 21 (61 + k) + 1 - 1 = Y 21 (61 + k) by omega]
        exact q3
      have cc5 : m_ent Y k 5 k = Y 5 k := ent_f (by omega)
      have cc6 : m_ent Y k 6 k = Y 6 k := ent_f (by omega)
      have cc9 : m_ent Y k 9 (Y 5 k) = Y 9 (Y 5 k) := ent_f (by omega)
      have hba : s_ba (m_ent Y k) k = if m_gs Y k = 0 then 0 else Y 12 (Y 5 k) := by
        unfold s_ba
        rw [if_neg (by rw [q2]; omega), ent_41, la0_gs, cc5, ent_f (f := 12) (by omega)]
      have c21 : m_ent Y k 21 k = Y 21 k := ent_col l3 l1 l2 (by omega)
      refine ⟨M1, some (.ref (W (Y 6 k) (Y 20 (61 + k)))), fun Q => ?_, ?_, fun b j hh => by rw [hM1 b j (by omega), hM2 b j hh, mu_n (by omega)]⟩
      · simp (disch := omega) only [g44_0, g44_1, g44_1i, g44_2, g44_5, g44_6, g44_7, g44_10, g44_11, g44_14, g44_17, g44_17n, g44_18, g44_18n, g44_19, g44_19n, g44_22, g44_23, g44_26, g44_27, g44_27n, g44_28, g44_31, g44_34, g44_35, g44_35n, g44_36, g44_40, g44_43, g44_46, g44_47, g44_50, g44_53, g44_56, g44_57, g44_60, g44_61, g44_64, g44_67, g44_69, g44_70, g44_71, g44_72, g44_75, g44_78, g44_79, g44_82, g44_85, Int.reduceToNat, jtg, mu_s, mu_n, mu_j, mn_s, mn_n, jg_6_4, jp_6_4, jg_6_2, jg_6_3, jg_5_5, jg_6_10, jai, Option.some.injEq, exists_eq_left', zkl_i, zkl_l, zkl_n, zkl_r, zkl_0, zc_v, zc_n, zc_t, zd_v, zd_n, mj_tg, true_and, ↓reduceIte, not_true_eq_false, not_false_eq_true, ↓if_pos, ↓if_neg, Int.reduceLE, Int.reduceLT, Int.reduceEq, Int.reduceAdd, m4, m2, b3, h37, h45, h46]
      · rw [et]
        unfold KM
        rw [cc5, cc6, cc9, hle, hba, n28, n29, c21, q2]
        refine ⟨⟨f1, f2, f3, f4, f5⟩, ⟨?_, ?_, ?_, ?_⟩, ⟨?_, ?_, ?_, ?_, ?_⟩, ⟨?_, ?_⟩, fun j j1 j2 => ?_, fun j j1 j2 => ?_, fun i j1 j2 => ?_, ?_, ?_⟩
        · rw [hM1 _ _ (by omega), eM_0, mu_j (by omega), mu_j (by omega), mu_j (by omega), mu_j (by omega)]; exact b1
        · rw [hM1 _ _ (by omega), eM_0, mu_j (by omega), mu_j (by omega), mu_j (by omega), mu_j (by omega)]; exact b2
        · rw [hM1 _ _ (by omega), eM_0, mu_j (by omega), mu_j (by omega), mu_j (by omega), mu_j (by omega)]; exact b3
        · rw [hM1 _ _ (by omega), eM_0, mu_j (by omega), mu_j (by omega), mu_j (by omega), mu_j (by omega)]; exact b4
        · rw [hM1 _ _ (by omega), eM_0, mu_j (by omega), mu_j (by omega), mu_j (by omega), mu_j (by omega)]; exact c1
        · rw [hM1 _ _ (by omega), eM_0, mu_j (by omega), mu_s, h24]
        · rw [hM1 _ _ (by omega), eM_0, mu_s]
        · rw [hM1 _ _ (by omega), eM_0, mu_j (by omega), mu_j (by omega), mu_j (by omega), mu_s]
        · rw [hM1 _ _ (by omega), eM_0, mu_j (by omega), mu_j (by omega), mu_s, h24]
        · rw [hM1 _ _ (by omega), eM_0, mu_j (by omega), mu_j (by omega), mu_j (by omega), mu_j (by omega)]; exact d1
        · rw [hM1 _ _ (by omega), eM_0, mu_j (by omega), mu_j (by omega), mu_j (by omega), mu_j (by omega)]; exact d2
        · rw [hM1 _ _ (by omega), eM_1, ent_ra hR j1 j2, eew, h24]
          by_cases hh : Y 14 (24 * Y 6 k + Y 20 (61 + k)) ≤ 4 ∧ j = Y 15 (24 * Y 6 k + Y 20 (61 + k))
          · rw [if_pos hh, if_pos hh]
          · rw [if_neg hh, if_neg hh]; exact a5 j j1 j2
        · rw [hM1 _ _ (by omega), eM_2]
          split
          · exact ⟨_, rfl, by omega, by omega⟩
          · exact a6 j j1 j2
        · rw [hM1 _ _ (by omega), eM_2]
          by_cases hi : i = Y 21 (61 + k)
          · rw [if_pos (by rw [hi]), hi]
            have e9 : s_en (m_ent Y k) k (Y 21 (61 + k)) = Y 24 k := q3
            rw [e9, h24]
          · rw [if_neg (by omega), ent_en hv (by omega) j1 (by omega)]
            exact a7 i j1 (by omega)
        · refine RN_f (fun _ _ _ => rfl) ?_ ?_ ?_ (ent_row l1 l2 (by omega)) (ent_row l1 l2 (by omega)) (ent_row l1 l2 (by omega)) (fun j j1 j2 => ent_row l1 l2 (by omega)) k2
          · rw [ent_f (by omega), dw_g (by omega)]
          · rw [ent_f (by omega), dw_g (f := 8) (by omega)]
          · rw [dw_g (f := 5) (by omega), dw_g (f := 8) (by omega)]; exact l2.2
        · refine RN_f (M := mu M (A k) 4 (zi (Y 23 k + 1))) (fun i hi j => ?_) (ent_f (by omega)) (ent_f (by omega)) l2.2 (ent_col l3 l1 l2 (by omega)) c21 (ent_col l3 l1 l2 (by omega)) (fun j j1 j2 => ent_col l3 l1 l2 (by omega)) a9
          rw [hM1 _ _ (by omega), eM_n (by omega)]
    · have et : m_t1 Y k = Y := if_neg (fun hh => e2 hh.2)
      refine ⟨mu M (A k) 4 (zi (Y 23 k + 1)), some (.ref (W (Y 6 k) (Y 20 (61 + k)))), fun Q => ?_, by rw [et]; exact hk4, fun b j hh => mu_n (by omega)⟩
      simp (disch := omega) only [g44_0, g44_1, g44_1i, g44_2, g44_5, g44_6, g44_7, g44_10, g44_11, g44_14, g44_17, g44_17n, g44_18, g44_18n, g44_19, g44_19n, g44_22, g44_23, g44_26, g44_27, g44_27n, g44_28, g44_31, g44_34, g44_35, g44_35n, g44_36, g44_40, g44_43, g44_46, g44_47, g44_50, g44_53, g44_56, g44_57, g44_60, g44_61, g44_64, g44_67, g44_69, g44_70, g44_71, g44_72, g44_75, g44_78, g44_79, g44_82, g44_85, Int.reduceToNat, jtg, mu_s, mu_n, mu_j, mn_s, mn_n, jg_6_4, jp_6_4, jg_6_2, jg_6_3, jg_5_5, jg_6_10, jai, Option.some.injEq, exists_eq_left', zkl_i, zkl_l, zkl_n, zkl_r, zkl_0, zc_v, zc_n, zc_t, zd_v, zd_n, mj_tg, true_and, ↓reduceIte, not_true_eq_false, not_false_eq_true, ↓if_pos, ↓if_neg, Int.reduceLE, Int.reduceLT, Int.reduceEq, Int.reduceAdd, m4, m2, b3, h37, h45]
theorem tick (t : Nat × Nat) (hs : SI Y k) (hb : Y 23 k ≤ 80000000) (h0 : Y 22 k = 0) (hk : KM T Ln M A Y k (Y 23 k)) (hc : CT T M Y (A (Y 5 k)) (Y 5 k)) (hp : PG T Ln M A W Y (Y 6 k)) : ∃ M', (∀ Q : zU → zS → Prop, z_go zP 44 0 [some (.ref (A k)), none] [] (hj T Ln M, t) Q ↔ Q (.inl none) (hj T Ln M', t)) ∧ KM T Ln M' A (m_tk Y k) k (Y 23 k + 1) ∧ ∀ b j, ¬ (A k ≤ b ∧ b < A k + 9) → M' b j = M b j := by
  obtain ⟨M1, l1, g1, g2, g3⟩ := tick_a t hs hb h0 hk hc hp
  have hm := SM_t1 hs hb h0
  have hkT := KM_T hk
  have hp1 : PG T Ln M1 A W (m_t1 Y k) (Y 6 k) := PG_b (a := A k) g3 hkT (t1_f (by omega)) (t1_f (by omega)) (t1_f (by omega)) (t1_f (by omega)) (fun f j f1 f2 _ _ => t1_f (by omega)) hp
  have c6 : m_t1 Y k 6 k = Y 6 k := t1_f (by omega)
  have c5 : m_t1 Y k 5 k = Y 5 k := t1_f (by omega)
  have c9 : m_t1 Y k 9 (Y 5 k) = Y 9 (Y 5 k) := t1_f (by omega)
  have hb0 : 0 ≤ Y 23 k := (hs.1.1 23 k).1
  have hbt : 0 ≤ Y 23 k + 1 ∧ Y 23 k + 1 ≤ 100000000 := by omega
  unfold m_tk m_t2
  rw [← c9, ← c5, ← c6]
  rw [← c6] at hp1
  generalize m_t1 Y k = Z at *
  generalize Y 23 k + 1 = tm at *
  obtain ⟨⟨hv, hj, -⟩, ⟨i1, i2⟩, -, i3, i4, i5, i8, i9, i10, i12, z0⟩ := hm
  obtain ⟨e1, e2, e3⟩ := SV_L hv
  have hR := hv.1
  obtain ⟨⟨f1, f2, f3, f4, f5⟩, ⟨b1, b2, b3, b4⟩, ⟨d1, d2, d3, d4, d5⟩, ⟨d6, d7⟩, a5, a6, a7, a8, a9⟩ := id g2
  obtain ⟨⟨r1, -⟩, -, -, -, -, -, r11, -⟩ := id a8
  obtain ⟨⟨s1', -⟩, -, -, -, -, -, s11, -⟩ := id a9
  have z21 : 0 ≤ Z 21 k ∧ Z 21 k ≤ 100000000 := hR 21 k
  have z21' : 0 ≤ Z 21 (61 + k) ∧ Z 21 (61 + k) ≤ 100000000 := hR 21 _
  by_cases c1 : Z 21 k < Z 21 (61 + k)
  · have hring := a7 (Z 21 k) (by omega) c1
    have z9 : 0 ≤ Z 9 (Z 5 k) ∧ Z 9 (Z 5 k) ≤ 8 := hR 9 _
    have z25 : 0 ≤ s_en Z k (Z 21 k) ∧ s_en Z k (Z 21 k) ≤ 100000000 := hR 25 _
    by_cases c2 : s_en Z k (Z 21 k) + Z 9 (Z 5 k) = tm
    · rw [if_pos ⟨c1, c2⟩]
      obtain ⟨M2, k1, k2, k3, k4, k5⟩ := adv t hR hp1 a9 i1 z0 (by omega)
      have off : ∀ (f : Nat) (e : Int), ¬ ((f = 19 ∧ 12 * k ≤ e ∧ e < 12 * k + 12) ∨ ((f = 20 ∨ f = 21 ∨ f = 22) ∧ e = k)) → m_dw Z k (Z 6 k) f e = Z f e := fun f e hh => dw_off e1 e2 hh
      have d21 : m_dw Z k (Z 6 k) 21 k = Z 21 k + 1 := by rw [m_dw_21, if_pos rfl]
      have hM2 : ∀ b j, ¬ (A k + 6 ≤ b ∧ b < A k + 9) → M2 b j = M1 b j := fun b j hh => k5 b j (by omega) (by omega) (by omega)
      refine ⟨M2, fun Q => ?_, ?_, fun b j hh => by rw [hM2 b j (by omega), g3 b j hh]⟩
      · rw [g1 Q]
        rw [c2] at hring
        simp (disch := omega) only [g44_0, g44_1, g44_1i, g44_2, g44_5, g44_6, g44_7, g44_10, g44_11, g44_14, g44_17, g44_17n, g44_18, g44_18n, g44_19, g44_19n, g44_22, g44_23, g44_26, g44_27, g44_27n, g44_28, g44_31, g44_34, g44_35, g44_35n, g44_36, g44_39, g44_40, g44_43, g44_46, g44_47, g44_50, g44_53, g44_56, g44_57, g44_60, g44_61, g44_64, g44_67, g44_69, g44_70, g44_71, g44_72, g44_75, g44_78, g44_79, g44_82, g44_85, Int.reduceToNat, jtg, mu_s, mu_n, mu_j, mn_s, mn_n, jg_6_4, jp_6_4, jg_6_2, jg_6_3, jg_5_5, jg_6_10, jai, Option.some.injEq, exists_eq_left', zkl_i, zkl_l, zkl_n, zkl_r, zkl_0, zc_v, zc_n, zc_t, zd_v, zd_n, mj_tg, true_and, ↓reduceIte, not_true_eq_false, not_false_eq_true, ↓if_pos, ↓if_neg, Int.reduceLE, Int.reduceLT, Int.reduceEq, Int.reduceAdd, b3, b4, r11, s11, d7, iand_15, hring, d1, k1]
      · show KM T Ln M2 A (m_dw Z k (Z 6 k)) k tm
        have hle : s_le (m_dw Z k (Z 6 k)) k = s_le Z k := by unfold s_le; rw [off 21 _ (by omega), off 25 _ (by omega)]
        have hba : s_ba (m_dw Z k (Z 6 k)) k = s_ba Z k := by unfold s_ba; rw [off 21 _ (by omega), off 41 _ (by omega), off 5 _ (by omega), off 12 _ (by omega)]
        have hra : ∀ j, m_ra (m_dw Z k (Z 6 k)) k j = m_ra Z k j := fun j => by unfold m_ra; rw [off 26 _ (by omega), off 27 _ (by omega)]
        unfold KM
        rw [hle, hba, off 5 k (by omega), off 6 k (by omega), off 28 k (by omega), off 29 k (by omega), off 9 _ (by omega), off 21 (61 + k) (by omega), d21]
        refine ⟨⟨f1, f2, f3, f4, f5⟩, ⟨by rw [hM2 _ _ (by omega)]; exact b1, by rw [hM2 _ _ (by omega)]; exact b2, by rw [hM2 _ _ (by omega)]; exact b3, by rw [hM2 _ _ (by omega)]; exact b4⟩, ⟨by rw [hM2 _ _ (by omega)]; exact d1, by rw [hM2 _ _ (by omega)]; exact d2, by rw [hM2 _ _ (by omega)]; exact d3, by rw [hM2 _ _ (by omega)]; exact d4, by rw [hM2 _ _ (by omega)]; exact d5⟩, ⟨by rw [hM2 _ _ (by omega)]; exact d6, by rw [hM2 _ _ (by omega)]; exact d7⟩, fun j j1 j2 => by rw [hM2 _ _ (by omega), hra]; exact a5 j j1 j2, fun j j1 j2 => by rw [hM2 _ _ (by omega)]; exact a6 j j1 j2, fun i j1 j2 => ?_, ?_, k2⟩
        · have e9 : s_en (m_dw Z k (Z 6 k)) k i = s_en Z k i := off 25 _ (by omega)
          rw [hM2 _ _ (by omega), e9]
          exact a7 i (by omega) j2
        · exact RN_f (fun i hi j => hM2 _ _ (by omega)) (off 5 _ (by omega)) (off 8 _ (by omega)) e2.2 (off 20 _ (by omega)) (off 21 _ (by omega)) (off 22 _ (by omega)) (fun j j1 j2 => off 19 _ (by omega)) a8
    · rw [if_neg (fun hh => c2 hh.2)]
      refine ⟨M1, fun Q => ?_, g2, g3⟩
      rw [g1 Q]
      simp (disch := omega) only [g44_0, g44_1, g44_1i, g44_2, g44_5, g44_6, g44_7, g44_10, g44_11, g44_14, g44_17, g44_17n, g44_18, g44_18n, g44_19, g44_19n, g44_22, g44_23, g44_26, g44_27, g44_27n, g44_28, g44_31, g44_34, g44_35, g44_35n, g44_36, g44_39, g44_40, g44_43, g44_46, g44_47, g44_50, g44_53, g44_56, g44_57, g44_60, g44_61, g44_64, g44_67, g44_69, g44_70, g44_71, g44_72, g44_75, g44_78, g44_79, g44_82, g44_85, Int.reduceToNat, jtg, mu_s, mu_n, mu_j, mn_s, mn_n, jg_6_4, jp_6_4, jg_6_2, jg_6_3, jg_5_5, jg_6_10, jai, Option.some.injEq, exists_eq_left', zkl_i, zkl_l, zkl_n, zkl_r, zkl_0, zc_v, zc_n, zc_t, zd_v, zd_n, mj_tg, true_and, ↓reduceIte, not_true_eq_false, not_false_eq_true, ↓if_pos, ↓if_neg, Int.reduceLE, Int.reduceLT, Int.reduceEq, Int.reduceAdd, b3, b4, r11, s11, d7, iand_15, hring, d1]
  · rw [if_neg (fun hh => c1 hh.1)]
    refine ⟨M1, fun Q => ?_, g2, g3⟩
    rw [g1 Q]
    simp (disch := omega) only [g44_0, g44_1, g44_1i, g44_2, g44_5, g44_6, g44_7, g44_10, g44_11, g44_14, g44_17, g44_17n, g44_18, g44_18n, g44_19, g44_19n, g44_22, g44_23, g44_26, g44_27, g44_27n, g44_28, g44_31, g44_34, g44_35, g44_35n, g44_36, g44_39, g44_40, g44_43, g44_46, g44_47, g44_50, g44_53, g44_56, g44_57, g44_60, g44_61, g44_64, g44_67, g44_69, g44_70, g44_71, g44_72, g44_75, g44_78, g44_79, g44_82, g44_85, Int.reduceToNat, jtg, mu_s, mu_n, mu_j, mn_s, mn_n, jg_6_4, jp_6_4, jg_6_2, jg_6_3, jg_5_5, jg_6_10, jai, Option.some.injEq, exists_eq_left', zkl_i, zkl_l, zkl_n, zkl_r, zkl_0, zc_v, zc_n, zc_t, zd_v, zd_n, mj_tg, true_and, ↓reduceIte, not_true_eq_false, not_false_eq_true, ↓if_pos, ↓if_neg, Int.reduceLE, Int.reduceLT, Int.reduceEq, Int.reduceAdd, b3, b4, r11, s11]
end
