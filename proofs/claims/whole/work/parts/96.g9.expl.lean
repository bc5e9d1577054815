/-! CALLS: explore, end -/
section
variable {T T' : Nat → Nat} {Ln Ln' : Nat → Int} {M M' : Nat → Int → Value} {n u x n' u' a : Nat} {A : Int → Nat} {W : Int → Int → Nat} {Ow Ow' : Nat → Int} {X X' : Int → Int} {Y Z : zY} {c n0 u0 k p : Int} {cd : Nat → Int} {Q : zU → zS → Prop}
theorem PG_T (hU : ∀ b, (b = A p ∨ b = A p + 1 ∨ b = A (Y 5 p) ∨ ∃ j, 0 ≤ j ∧ j < Y 13 p ∧ b = W p j) → T' b = T b ∧ Ln' b = Ln b ∧ ∀ j, M' b j = M b j) (h : PG T Ln M A W Y p) : PG T' Ln' M' A W Y p := by
  obtain ⟨⟨⟨a1, a2, a3⟩, a4, a5, a6, a7, a8⟩, ⟨b1, b2, b3, b4⟩, w, m7, m8, w1, w2⟩ := h
  obtain ⟨u1, u2, u3⟩ := hU (A p) (.inl rfl)
  obtain ⟨v1, v2, v3⟩ := hU (A p + 1) (.inr (.inl rfl))
  obtain ⟨r1, r2, r3⟩ := hU (A (Y 5 p)) (.inr (.inr (.inl rfl)))
  refine ⟨⟨⟨by rw [u1]; exact a1, by rw [v1]; exact a2, by rw [v2]; exact a3⟩, by rw [u3]; exact a4, by rw [u3]; exact a5, by rw [u3]; exact a6, by rw [u3]; exact a7, fun j j1 j2 => by rw [v3]; exact a8 j j1 j2⟩, ⟨by rw [r1]; exact b1, by rw [r3]; exact b2, by rw [r3]; exact b3, by rw [r3]; exact b4⟩, fun j j1 j2 => ?_, m7, m8, w1, w2⟩
  obtain ⟨t1, t2, t3, t4, t5, t6⟩ := w j j1 j2
  obtain ⟨q1, q2, q3⟩ := hU (W p j) (.inr (.inr (.inr ⟨j, j1, j2, rfl⟩)))
  exact ⟨by rw [q1]; exact t1, by rw [q3]; exact t2, by rw [q3]; exact t3, by rw [q3]; exact t4, by rw [q3]; exact t5, by rw [q3]; exact t6⟩
theorem PX_T (h : RZ T Ln M n u x A W Ow X Y c n0 u0) (d1 : m_th Y k) (d2 : Y 3 k = 6) (hT : ∀ b, b < n → T' b = T b ∧ Ln' b = Ln b) (hM : ∀ b j, b < n → ¬ b = x → M' b j = M b j) : PX T' Ln' M' A W Y k (A k) (A (Y 5 (Y 5 k))) := by
  obtain ⟨⟨⟨p1, p2', p3, p4⟩, p5, p6, p7, p8, p9⟩, -, an, -, -⟩ := PX_of h d1 d2
  obtain ⟨b1, b2, b3, b4⟩ := RZ_lt h
  have hI := h.1.2.1
  have o1 : Ow x = 0 := h.1.2.2.2.2.2.2.2.2.1.1
  obtain ⟨r1, r2, -⟩ := (hI k d1.1.1 d1.1.2).2.2.2.2.2.2 d2
  have t1 := rf_th d1 r1
  have t2 := rf_th d1 r2
  have hx : ∀ b, (1 ≤ Ow b ∧ Ow b ≤ 60) ∨ Ow b = 102 → T' b = T b ∧ Ln' b = Ln b ∧ ∀ j, M' b j = M b j := fun b hb => by
    have hbn := b1 b (by omega)
    exact ⟨(hT b hbn).1, (hT b hbn).2, fun j => hM b j hbn (fun hh => by rw [hh, o1] at hb; omega)⟩
  have hown : ∀ q, m_th Y q → 1 ≤ q ∧ q ≤ 60 := fun q hq => by
    have h60 : Y 2 0 ≤ 60 := (h.1.1 2 0).2
    have := hq.1
    omega
  have key : ∀ q, m_th Y q → Y 3 q = 2 → ∀ b, (b = A q ∨ b = A q + 1 ∨ b = A (Y 5 q) ∨ ∃ j, 0 ≤ j ∧ j < Y 13 q ∧ b = W q j) → T' b = T b ∧ Ln' b = Ln b ∧ ∀ j, M' b j = M b j := by
    intro q hq hq2 b hb
    obtain ⟨⟨-, ⟨k1, k2⟩, k3⟩, hm, ⟨-, k4⟩, -⟩ := prog_k h hq hq2
    have q1 := hown q hq
    have q2 := hown _ hm
    rcases hb with rfl | rfl | rfl | ⟨j, j1, j2, rfl⟩
    · exact hx _ (by omega)
    · exact hx _ (by omega)
    · exact hx _ (by omega)
    · exact hx _ (by have := (k3 j j1 j2).2; omega)
  obtain ⟨-, -, a2, -⟩ := RLX_k h.1 d1
  have hk := hown k d1
  obtain ⟨e1, e2, e3⟩ := hx (A k) (by omega)
  exact ⟨⟨by rw [e1]; exact p1, by rw [e3]; exact p2', by rw [e3]; exact p3, by rw [e3]; exact p4⟩, p5, PG_T (key _ t1 r1.2.1) p6, PG_T (key _ t2 r2.2.1) p7, p8, p9⟩
set_option maxHeartbeats 1000000 in
theorem ex_go (h : RZ T Ln M n u x A W Ow X Y c n0 u0) (d1 : m_th Y k) (d2 : Y 3 k = 6) : ∃ T' Ln' M' n' u' Ow' X', (∀ Q : zU → zS → Prop, z_go zP 84 0 [some (.ref x), some (.ref (A k))] [] (hj T Ln M, n, u) Q ↔ z_go zP 84 33 [some (.ref x), some (.ref (A k))] [] (hj T' Ln' M', n', u') Q) ∧ RLX T' Ln' M' n' x A W Ow' X' Y c ∧ X' k = 1 ∧ (n ≤ n' ∧ n' ≤ n + 6) ∧ ((∀ j, X' j = 0 ∨ X' j = 1) ∧ ∃ g : Int, ((g = 0 ∧ M' x 3 = .null) ∨ (g = 1 ∧ ¬ M' x 3 = .null)) ∧ (u' : Int) ≤ u0 + 100 * c + 33000 * xs X' 61 + 70000 * g) ∧ FR T T' Ln Ln' M M' Ow Ow' := by
  obtain ⟨b1, b2, b3, b4⟩ := RZ_lt h
  obtain ⟨t, a1, a2, a3, a4, a5⟩ := RLX_k h.1 d1
  have hR := h.1.1
  have hT8 : T x = 8 := h.1.2.2.2.1.1.1
  obtain ⟨⟨p1, p2'⟩, -, p4, p5⟩ := t.2.2.2.2.2 d2
  obtain ⟨hpx, hK, an, an2, an3⟩ := PX_of h d1 d2
  have o1 : Ow x = 0 := h.1.2.2.2.2.2.2.2.2.1.1
  have hxk : ¬ x = A k := fun hh => by rw [hh, a2] at o1; omega
  rcases h.2.1 k with hX | hX
  · have p4' : M (A k) 4 = zi 0 := by rw [p4, hX]
    rcases h.1.2.2.2.2.2.1 with hnull | ⟨a, ha, hex⟩
    · -- the explorer is made
      obtain ⟨T1, hT1⟩ : ∃ T1, T1 = tu (tu (tu (tu (tu T n 1) (n + 1) 101) (n + 1 + 1) 100) (n + 1 + 1 + 1) 100) (n + 1 + 1 + 1 + 1) 101 := ⟨_, rfl⟩
      obtain ⟨L1, hL1⟩ : ∃ L1, L1 = lu (lu (lu (lu (lu Ln n 10) (n + 1) 56000) (n + 1 + 1) 4096) (n + 1 + 1 + 1) 2000) (n + 1 + 1 + 1 + 1) 28 := ⟨_, rfl⟩
      obtain ⟨M1, hM1⟩ : ∃ M1, M1 = mu (mu (mn (mu (mn (mu (mn (mu (mn (mn M n (dv 1)) (n + 1) (fun _ => zl 0)) n 0 (.ref (n + 1))) (n + 1 + 1) (fun _ => zi 0)) n 1 (.ref (n + 1 + 1))) (n + 1 + 1 + 1) (fun _ => zi 0)) n 2 (.ref (n + 1 + 1 + 1))) (n + 1 + 1 + 1 + 1) (fun _ => zl 0)) n 3 (.ref (n + 1 + 1 + 1 + 1))) x 3 (.ref n) := ⟨_, rfl⟩
      have hs3 := fun (Q : zU → zS → Prop) => s3 (T := tu T n 1) (Ln := lu Ln n 10) (M := mn M n (dv 1)) (nn := n + 1) (uu := u + 10) (a := n) (Q := Q) tu_s (by omega)
      have fT : ∀ b, b < n → T1 b = T b ∧ L1 b = Ln b := fun b hb => by
        rw [hT1, hL1]
        exact ⟨by rw [tu_n (by omega), tu_n (by omega), tu_n (by omega), tu_n (by omega), tu_n (by omega)], by rw [lu_n (by omega), lu_n (by omega), lu_n (by omega), lu_n (by omega), lu_n (by omega)]⟩
      have fM : ∀ b j, b < n → ¬ (b = x ∧ j = 3) → M1 b j = M b j := fun b j hb hx => by rw [hM1, mu_w2 hx, mu_n (by omega), mn_n (by omega), mu_n (by omega), mn_n (by omega), mu_n (by omega), mn_n (by omega), mu_n (by omega), mn_n (by omega), mn_n (by omega)]
      have hx1 : EX0 T1 L1 M1 n := by
        rw [hT1, hL1, hM1]
        refine ⟨⟨?_, ?_, ?_, ?_, ?_⟩, ⟨?_, ?_, ?_, ?_⟩, ⟨?_, ?_, ?_, ?_⟩, fun j _ _ => ⟨0, ?_⟩, fun j _ _ => ⟨0, ?_, by omega, by omega⟩⟩
        · rw [tu_n (by omega), tu_n (by omega), tu_n (by omega), tu_n (by omega), tu_s]
        · rw [tu_n (by omega), tu_n (by omega), tu_n (by omega), tu_s]
        · rw [tu_n (by omega), tu_n (by omega), tu_s]
        · rw [tu_n (by omega), tu_s]
        · exact tu_s
        · rw [lu_n (by omega), lu_n (by omega), lu_n (by omega), lu_s]
        · rw [lu_n (by omega), lu_n (by omega), lu_s]
        · rw [lu_n (by omega), lu_s]
        · exact lu_s
        · rw [mu_n (by omega), mu_j (by omega), mn_n (by omega), mu_j (by omega), mn_n (by omega), mu_j (by omega), mn_n (by omega), mu_s]
        · rw [mu_n (by omega), mu_j (by omega), mn_n (by omega), mu_j (by omega), mn_n (by omega), mu_s]
        · rw [mu_n (by omega), mu_j (by omega), mn_n (by omega), mu_s]
        · rw [mu_n (by omega), mu_s]
        · rw [mu_n (by omega), mu_n (by omega), mn_n (by omega), mu_n (by omega), mn_n (by omega), mu_n (by omega), mn_n (by omega), mu_n (by omega), mn_s]
        · rw [mu_n (by omega), mu_n (by omega), mn_n (by omega), mu_n (by omega), mn_s]
      have hp1 : PX T1 L1 M1 A W Y k (A k) (A (Y 5 (Y 5 k))) := PX_T h d1 d2 fT (fun b j hb hbx => fM b j hb (fun hh => hbx hh.1))
      obtain ⟨T', Ln', M', n', u', q1, q2, q3, q4, q5, q6, q7⟩ := s4 (nn := n + 1 + 1 + 1 + 1 + 1) (uu := u + 10 + 56000 + 4096 + 2000 + 28) hR hK hx1 hp1 (by omega) (by omega) (by omega) (by omega)
      have hxo : ∀ b, b < n → ¬ b = A k → ¬ (b = x) → ∀ j, M' b j = M b j := fun b hb hbk hbx j => by rw [q7 b j (by omega) (by omega) hbk, fM b j hb (fun hh => hbx hh.1)]
      have hx3 : M' x 3 = .ref n := by rw [q7 x 3 (by omega) (by omega) hxk, hM1, mu_s]
      have hrz := RZ_ex (M' := M') (T' := T') (Ln' := Ln') (n' := n') (u' := u') h d1 d2 hX n (n + 5) hx3 q3 (.inr ⟨hnull, rfl, rfl, by omega⟩) (by omega) (fun b hb => by rw [(q5 b (by omega)).1, (q5 b (by omega)).2]; exact fT b hb) (fun b j hb _ hbk hbx => by rw [q7 b j (by omega) (by omega) hbk]; exact fM b j hb hbx) (fun j hj => by rw [q6 j hj]; exact fM _ j an (fun hh => hxk hh.1.symm)) q2 (by omega) (.inr ⟨hnull, by omega⟩)
      obtain ⟨Ow', X', w1, w2, w3, w4⟩ := hrz
      refine ⟨T', Ln', M', n', u', Ow', X', fun Q => ?_, w1, w2, by omega, w3, w4⟩
      have q1' := q1
      rw [hT1, hL1, hM1] at q1'
      have e3 : mu (mu (mn (mu (mn (mu (mn (mu (mn (mn M n (dv 1)) (n + 1) (fun _ => zl 0)) n 0 (.ref (n + 1))) (n + 1 + 1) (fun _ => zi 0)) n 1 (.ref (n + 1 + 1))) (n + 1 + 1 + 1) (fun _ => zi 0)) n 2 (.ref (n + 1 + 1 + 1))) (n + 1 + 1 + 1 + 1) (fun _ => zl 0)) n 3 (.ref (n + 1 + 1 + 1 + 1))) x 3 (.ref n) x 3 = .ref n := mu_s
      simp (disch := first | omega | (simp (disch := omega) only [tu_s, tu_n, lu_s, lu_n]; done) | (simp (disch := omega) only [tu_s, tu_n, lu_s, lu_n]; omega)) only [g84_0, g84_0n, g84_1, g84_4, g84_4b, g84_7, g84_8, g84_11, g84_11n, g84_14, g84_15, g84_18, g84_18i, g84_19, g84_22, g84_25, g84_26, g84_29, g84_29n, g84_30, g84_34, g84_37, g84_37b, g84_40, g84_41, g84_43, g84_46, Int.reduceToNat, jtg, mu_s, mu_n, mu_j, mn_s, mn_n, jg_3_4, jg_8_3, jn_1, jp_8_3, jg_3_5, Option.some.injEq, exists_eq_left', zkl_i, zkl_l, zkl_n, zkl_r, zkl_0, zc_v, zc_n, zc_t, zd_v, zd_n, mj_tg, true_and, ↓reduceIte, not_true_eq_false, not_false_eq_true, ↓if_pos, ↓if_neg, Int.reduceLE, Int.reduceLT, Int.reduceEq, Int.reduceAdd, p4', hnull, hs3, q1']
    · obtain ⟨e1, e2, e3, e4, e5, e6⟩ := hex
      have hx0 : EX0 T Ln M a := ⟨e1, e2, e3, e4, e5⟩
      have hnn : ¬ M x 3 = .null := by rw [ha]; intro hh; cases hh
      have an4 : a + 4 < n := b1 _ (by rw [e6 4 (by omega)]; omega)
      obtain ⟨T', Ln', M', n', u', q1, q2, q3, q4, q5, q6, q7⟩ := s4 (nn := n) (uu := u) hR hK hx0 hpx an4 an an2 an3
      have hxin : ¬ (a ≤ x ∧ x ≤ a + 4) := fun hh => by
        have h9 := e6 (x - a) (by omega)
        rw [Nat.add_sub_cancel' hh.1] at h9
        rw [o1] at h9
        exact absurd h9 (by decide)
      have hx3 : M' x 3 = .ref a := by rw [q7 x 3 hxin (by omega) hxk]; exact ha
      have hrz := RZ_ex (M' := M') (T' := T') (Ln' := Ln') (n' := n') (u' := u') h d1 d2 hX a n hx3 q3 (.inl ⟨e6, hnn, rfl⟩) (by omega) (fun b hb => q5 b (by omega)) (fun b j hb hba hbk hbx => q7 b j hba (by omega) hbk) q6 q2 (by omega) (.inl (by omega))
      obtain ⟨Ow', X', w1, w2, w3, w4⟩ := hrz
      refine ⟨T', Ln', M', n', u', Ow', X', fun Q => ?_, w1, w2, by omega, w3, w4⟩
      have t1 : T a = 1 := e1.1
      simp (disch := omega) only [g84_0, g84_0n, g84_1, g84_4, g84_4b, g84_7, g84_8, g84_11, g84_11n, g84_14, g84_15, g84_18, g84_18i, g84_19, g84_22, g84_25, g84_26, g84_29, g84_29n, g84_30, g84_34, g84_37, g84_37b, g84_40, g84_41, g84_43, g84_46, Int.reduceToNat, jtg, mu_s, mu_n, mu_j, mn_s, mn_n, jg_3_4, jg_8_3, jn_1, jp_8_3, jg_3_5, Option.some.injEq, exists_eq_left', zkl_i, zkl_l, zkl_n, zkl_r, zkl_0, zc_v, zc_n, zc_t, zd_v, zd_n, mj_tg, true_and, ↓reduceIte, not_true_eq_false, not_false_eq_true, ↓if_pos, ↓if_neg, Int.reduceLE, Int.reduceLT, Int.reduceEq, Int.reduceAdd, p4', ha, q1]
  · have p4' : M (A k) 4 = zi 1 := by rw [p4, hX]
    refine ⟨T, Ln, M, n, u, Ow, X, fun Q => ?_, h.1, hX, by omega, ⟨h.2.1, h.2.2.2⟩, fun b hb => ⟨rfl, rfl, hb, fun _ => rfl⟩⟩
    simp (disch := omega) only [g84_0, g84_0n, g84_1, g84_4, g84_4b, g84_7, g84_8, g84_11, g84_11n, g84_14, g84_15, g84_18, g84_18i, g84_19, g84_22, g84_25, g84_26, g84_29, g84_29n, g84_30, g84_34, g84_37, g84_37b, g84_40, g84_41, g84_43, g84_46, Int.reduceToNat, jtg, mu_s, mu_n, mu_j, mn_s, mn_n, jg_3_4, jg_8_3, jn_1, jp_8_3, jg_3_5, Option.some.injEq, exists_eq_left', zkl_i, zkl_l, zkl_n, zkl_r, zkl_0, zc_v, zc_n, zc_t, zd_v, zd_n, mj_tg, true_and, ↓reduceIte, not_true_eq_false, not_false_eq_true, ↓if_pos, ↓if_neg, Int.reduceLE, Int.reduceLT, Int.reduceEq, Int.reduceAdd, p4']
end
