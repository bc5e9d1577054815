/-! CALLS THAT MAKE OR CHANGE: core, change, pair, word -/
section
variable {T T' : Nat → Nat} {Ln Ln' : Nat → Int} {M M' : Nat → Int → Value} {n u x n' u' a b p : Nat} {A A' : Int → Nat} {W W' : Int → Int → Nat} {Ow Ow' : Nat → Int} {X X' : Int → Int} {Y Z : zY} {c n0 u0 k r pl j : Int} {cd : Nat → Int} {Q : zU → zS → Prop}
theorem sc_c {f : Nat} {e l g q v : Int} (hc : ¬ cow f e = r) : m_sc Y r l g q v f e = Y f e := by
  unfold m_sc
  rw [yu_c (by omega) hc, yu_c (by omega) hc, yu_c (by omega) hc, yu_c (by omega) hc]
theorem sc_f {f : Nat} {e l g q v : Int} (h : ¬ (9 ≤ f ∧ f ≤ 12)) : m_sc Y r l g q v f e = Y f e := by
  unfold m_sc
  rw [yu_f (by omega), yu_f (by omega), yu_f (by omega), yu_f (by omega)]
theorem sc_s {l g q v : Int} : m_sc Y r l g q v 9 r = l ∧ m_sc Y r l g q v 10 r = g ∧ m_sc Y r l g q v 11 r = q ∧ m_sc Y r l g q v 12 r = v := by
  simp [m_sc, yu]
theorem RG_sc {l g q v : Int} (h : RG Y) (hi : m_isc l g q v) : RG (m_sc Y r l g q v) := by
  obtain ⟨⟨a1, a2⟩, ⟨a3, a4⟩, ⟨a5, a6⟩, a7, a8⟩ := hi
  exact RG_u (RG_u (RG_u (RG_u h (by show 0 ≤ l; omega) a2) a3 a4) a5 a6) a7 a8
theorem c62 {l g q v : Int} (h : RZ T Ln M n u x A W Ow X Y c n0 u0) (hc : 0 ≤ c) (k1 : -2147483648 ≤ k) (k2 : k < 2147483648) (l1 : -2147483648 ≤ l) (l2 : l < 2147483648) (g1 : -2147483648 ≤ g) (g2 : g < 2147483648) (q1' : -2147483648 ≤ q) (q2' : q < 2147483648) (v1 : -2147483648 ≤ v) (v2 : v < 2147483648) (hd0 : cd 0 = 1) (hd1 : cd 1 = 2) : CR 62 [some (.ref x), some (zi k), some (zi l), some (zi g), some (zi q), some (zi v), none, none] T Ln M n u x Ow c n0 u0 cd (zi (a_core Y k l g q v).1) (a_core Y k l g q v).2 := by
  have hR := h.1.1
  have hH := h.1.2.2.2.1
  have hT : T x = 8 := hH.1.1
  obtain ⟨b1, b2, b3, b4⟩ := RZ_lt h
  have hs78 := fun (Q : zU → zS → Prop) (z : zS) => s78 (Q := Q) (z := z) l1 l2 g1 g2 q1' q2' v1 v2
  unfold a_core
  by_cases d1 : m_th Y k
  · rw [if_pos d1]
    obtain ⟨t, a1, a2, a3, a4, a5⟩ := RLX_k h.1 d1
    have an := b4 k d1
    obtain ⟨e1, -⟩ := kt_n a5
    by_cases d2 : Y 3 k = 1
    · rw [if_pos d2]
      have hA : T (A k) = 2 := by rw [a1]; exact e1.mpr d2
      by_cases d3 : m_isc l g q v
      · rw [if_pos d3]
        have c1 : ¬ ¬ m_isc l g q v := fun hh => hh d3
        have hs0 := fun (Q : zU → zS → Prop) => s0 (T := tu T n 0) (Ln := lu Ln n 6) (M := mn M n (dv 0)) (n := n + 1) (u := u + 6) (a := n) (b := A k) (Q := Q) tu_s
        have hs2 := fun (Q : zU → zS → Prop) => s2 (T := tu T n 0) (Ln := lu Ln n 6) (M := mu (mu (mn M n (dv 0)) n 0 (zi 4)) n 1 (.ref (A k))) (n := n + 1) (u := u + 6) (a := n) (l := l) (g := g) (q := q) (c := v) (Q := Q) tu_s
        have hT1 : ∀ a, a < n → tu T n 0 a = T a ∧ lu Ln n 6 a = Ln a := fun a ha => ⟨tu_n (by omega), lu_n (by omega)⟩
        have hM1 : ∀ a j, a < n → mu (mu (mu (mu (mu (mu (mn M n (dv 0)) n 0 (zi 4)) n 1 (.ref (A k))) n 2 (zi l)) n 3 (zi g)) n 4 (zi q)) n 5 (zi v) a j = M a j := fun a j ha => by
          rw [mu_n (by omega), mu_n (by omega), mu_n (by omega), mu_n (by omega), mu_n (by omega), mu_n (by omega), mn_n (by omega)]
        have hH1 := HS_new h hT1 hM1
        by_cases d4 : Y 2 0 < 60
        · rw [if_pos d4]
          obtain ⟨q0, q1, q2, q3, q4, q5, q6⟩ := add_0 (Y := Y) (i := 4) (p := k) (q := 0)
          have hs3 := fun (Q : zU → zS → Prop) => s79_y (b := n) (n := n + 1) (u := u + 6) (Q := Q) hH1 d4 (by rw [tu_s]; decide)
          have hk1 := d1.1
          have zz : ∀ (f : Nat) (e : Int), ¬ (9 ≤ f ∧ f ≤ 12) → m_sc (m_add (yu Y 0 0 0) 4 k 0) (Y 2 0 + 1) l g q v f e = m_add (yu Y 0 0 0) 4 k 0 f e := fun f e hf => sc_f hf
          have zc : ∀ (f : Nat) (e : Int), 3 ≤ f → ¬ cow f e = Y 2 0 + 1 → m_sc (m_add (yu Y 0 0 0) 4 k 0) (Y 2 0 + 1) l g q v f e = Y f e := fun f e f1 hce => by rw [sc_c hce, add_c f1 hce]
          obtain ⟨z9, z10, z11, z12⟩ := sc_s (Y := m_add (yu Y 0 0 0) 4 k 0) (r := Y 2 0 + 1) (l := l) (g := g) (q := q) (v := v)
          have z3 := zz 3 (Y 2 0 + 1) (by omega)
          have z5 := zz 5 (Y 2 0 + 1) (by omega)
          have z21 : ∀ e, m_sc (m_add (yu Y 0 0 0) 4 k 0) (Y 2 0 + 1) l g q v 21 e = Y 21 e := fun e => by rw [zz 21 e (by omega), add_E (by omega)]
          have z23 : ∀ e, m_sc (m_add (yu Y 0 0 0) 4 k 0) (Y 2 0 + 1) l g q v 23 e = Y 23 e := fun e => by rw [zz 23 e (by omega), add_E (by omega)]
          have y0 := zz 0 0 (by omega)
          have y1 := zz 1 0 (by omega)
          have y2 := zz 2 0 (by omega)
          have y4 := zz 4 (Y 2 0 + 1) (by omega)
          have yE : ∀ (f : Nat) (e : Int), 30 ≤ f → f ≤ 40 → m_sc (m_add (yu Y 0 0 0) 4 k 0) (Y 2 0 + 1) l g q v f e = Y f e := fun f e f1 f2 => by rw [zz f e (by omega), add_E (by omega)]
          rw [q3] at z3
          rw [q5] at z5
          rw [q0] at y0
          rw [q1] at y1
          rw [q2] at y2
          rw [q4] at y4
          have hRZ : RG (m_sc (m_add (yu Y 0 0 0) 4 k 0) (Y 2 0 + 1) l g q v) := RG_sc (RG_add hR d4 (by omega) (by omega) (by omega) (by omega) (by omega) (by omega)) d3
          show CR 62 _ _ _ _ _ _ _ _ _ _ _ _ (zi (Y 2 0 + 1)) (m_sc (m_add (yu Y 0 0 0) 4 k 0) (Y 2 0 + 1) l g q v)
          generalize m_sc (m_add (yu Y 0 0 0) 4 k 0) (Y 2 0 + 1) l g q v = Z at *
          have hrf := rf_new (Z := Z) d1 d2 (zc 3 k (by omega) (cow_n (by omega) (by omega))) (zc 4 k (by omega) (cow_n (by omega) (by omega)))
          refine CR_new h d4 hRZ y0 y1 y2 y4 yE (fun f e f1 f2 e0 hce => zc f e f1 hce) ?_ (fun e => ?_) hc hT1 hM1 1 (n' := n + 1) (u' := u + 6) rfl (by omega) (by omega) ?_ (fun Q => ?_)
          · refine ⟨by omega, fun hh => by omega, fun hh => by omega, fun hh => by omega, fun _ => by rw [z5]; exact ⟨hrf, by omega⟩, fun hh => by omega, fun hh => by omega⟩
          · rw [z21, z23]; omega
          · refine ⟨fun hh => by omega, fun hh => by omega, fun hh => by omega, fun _ => ⟨⟨?_, ?_⟩, ?_, ?_, ?_, ?_, ?_, ?_⟩, fun hh => by omega, fun hh => by omega⟩
            · rw [A1_s, tu_s]
            · rw [A1_s, O1_y (by omega)]
            · rw [A1_s, mu_n (by omega), mu_n (by omega), mu_j (by omega), mu_j (by omega), mu_j (by omega), mu_j (by omega), mu_j (by omega), mu_s]
            · rw [A1_s, mu_n (by omega), mu_n (by omega), mu_j (by omega), mu_j (by omega), mu_j (by omega), mu_j (by omega), mu_s, z5, A1_n (by omega)]
            · rw [A1_s, mu_n (by omega), mu_n (by omega), mu_j (by omega), mu_j (by omega), mu_j (by omega), mu_s, z9]
            · rw [A1_s, mu_n (by omega), mu_n (by omega), mu_j (by omega), mu_j (by omega), mu_s, z10]
            · rw [A1_s, mu_n (by omega), mu_n (by omega), mu_j (by omega), mu_s, z11]
            · rw [A1_s, mu_n (by omega), mu_n (by omega), mu_s, z12]
          · simp (disch := first | omega | (simp (disch := omega) only [tu_s, tu_n, lu_s, lu_n]; done) | (simp (disch := omega) only [tu_s, tu_n, lu_s, lu_n]; omega)) only [g62_0, g62_1, g62_2, g62_5, g62_5n, g62_7, g62_8, g62_9, g62_11, g62_13, g62_16, g62_16b, g62_19, g62_29, g62_32, g62_32i, g62_33, g62_33n, g62_35, g62_38, g62_38n, g62_40, g62_40n, g62_42, g62_43, g62_44, g62_46, g62_48, g62_51, g62_52, g62_52n, g62_54, g62_57, Int.reduceToNat, jtg, mu_s, mu_n, mu_j, mn_s, mn_n, jn_0, Option.some.injEq, exists_eq_left', zkl_i, zkl_l, zkl_n, zkl_r, zkl_0, zc_v, zc_n, zc_t, zd_v, zd_n, mj_tg, true_and, ↓reduceIte, not_true_eq_false, not_false_eq_true, ↓if_pos, ↓if_neg, Int.reduceLE, Int.reduceLT, Int.reduceEq, Int.reduceAdd, s87_y hH (tgo_y d1) hA, hs78, bI_f c1, hs0, hs2, hs3]
        · rw [if_neg d4]
          have h60 : Y 2 0 = 60 := by have : Y 2 0 ≤ 60 := (hR 2 0).2; omega
          have hs3 := fun (Q : zU → zS → Prop) => s79_n (b := n) (n := n + 1) (u := u + 6) (Q := Q) hH1 h60
          refine CR_rv h (by omega) (by omega) (by omega) (by omega) hd0 hT1 hM1 (n' := n + 1 + 1) (u' := u + 6 + 6) (by omega) (by omega) (by omega) (fun Q => ?_)
          simp (disch := first | omega | (simp (disch := omega) only [tu_s, tu_n, lu_s, lu_n]; done) | (simp (disch := omega) only [tu_s, tu_n, lu_s, lu_n]; omega)) only [g62_0, g62_1, g62_2, g62_5, g62_5n, g62_7, g62_8, g62_9, g62_11, g62_13, g62_16, g62_16b, g62_19, g62_29, g62_32, g62_32i, g62_33, g62_33n, g62_35, g62_38, g62_38n, g62_40, g62_40n, g62_42, g62_43, g62_44, g62_46, g62_48, g62_51, g62_52, g62_52n, g62_54, g62_57, Int.reduceToNat, jtg, mu_s, mu_n, mu_j, mn_s, mn_n, jn_0, Option.some.injEq, exists_eq_left', zkl_i, zkl_l, zkl_n, zkl_r, zkl_0, zc_v, zc_n, zc_t, zd_v, zd_n, mj_tg, true_and, ↓reduceIte, not_true_eq_false, not_false_eq_true, ↓if_pos, ↓if_neg, Int.reduceLE, Int.reduceLT, Int.reduceEq, Int.reduceAdd, s87_y hH (tgo_y d1) hA, hs78, bI_f c1, hs0, hs2, hs3]
      · rw [if_neg d3]
        refine CR_th h (by omega) (by omega) hd1 (fun Q => ?_)
        simp (disch := first | omega | (simp (disch := omega) only [tu_s, tu_n, lu_s, lu_n]; done) | (simp (disch := omega) only [tu_s, tu_n, lu_s, lu_n]; omega)) only [g62_0, g62_1, g62_2, g62_5, g62_5n, g62_7, g62_8, g62_9, g62_11, g62_13, g62_16, g62_16b, g62_19, g62_29, g62_32, g62_32i, g62_33, g62_33n, g62_35, g62_38, g62_38n, g62_40, g62_40n, g62_42, g62_43, g62_44, g62_46, g62_48, g62_51, g62_52, g62_52n, g62_54, g62_57, Int.reduceToNat, jtg, mu_s, mu_n, mu_j, mn_s, mn_n, jn_0, Option.some.injEq, exists_eq_left', zkl_i, zkl_l, zkl_n, zkl_r, zkl_0, zc_v, zc_n, zc_t, zd_v, zd_n, mj_tg, true_and, ↓reduceIte, not_true_eq_false, not_false_eq_true, ↓if_pos, ↓if_neg, Int.reduceLE, Int.reduceLT, Int.reduceEq, Int.reduceAdd, s87_y hH (tgo_y d1) hA, hs78, bI_t d3]
    · rw [if_neg d2]
      have hA : ¬ T (A k) = 2 := by rw [a1, e1]; exact d2
      refine CR_re h (by omega) (by omega) (by omega) (by omega) hd0 (fun Q => ?_)
      simp (disch := first | omega | (simp (disch := omega) only [tu_s, tu_n, lu_s, lu_n]; done) | (simp (disch := omega) only [tu_s, tu_n, lu_s, lu_n]; omega)) only [g62_0, g62_1, g62_2, g62_5, g62_5n, g62_7, g62_8, g62_9, g62_11, g62_13, g62_16, g62_16b, g62_19, g62_29, g62_32, g62_32i, g62_33, g62_33n, g62_35, g62_38, g62_38n, g62_40, g62_40n, g62_42, g62_43, g62_44, g62_46, g62_48, g62_51, g62_52, g62_52n, g62_54, g62_57, Int.reduceToNat, jtg, mu_s, mu_n, mu_j, mn_s, mn_n, jn_0, Option.some.injEq, exists_eq_left', zkl_i, zkl_l, zkl_n, zkl_r, zkl_0, zc_v, zc_n, zc_t, zd_v, zd_n, mj_tg, true_and, ↓reduceIte, not_true_eq_false, not_false_eq_true, ↓if_pos, ↓if_neg, Int.reduceLE, Int.reduceLT, Int.reduceEq, Int.reduceAdd, s87_k hH (tgo_y d1) hA]
  · rw [if_neg d1]
    refine CR_re h (by omega) (by omega) (by omega) (by omega) hd0 (fun Q => ?_)
    simp (disch := first | omega | (simp (disch := omega) only [tu_s, tu_n, lu_s, lu_n]; done) | (simp (disch := omega) only [tu_s, tu_n, lu_s, lu_n]; omega)) only [g62_0, g62_1, g62_2, g62_5, g62_5n, g62_7, g62_8, g62_9, g62_11, g62_13, g62_16, g62_16b, g62_19, g62_29, g62_32, g62_32i, g62_33, g62_33n, g62_35, g62_38, g62_38n, g62_40, g62_40n, g62_42, g62_43, g62_44, g62_46, g62_48, g62_51, g62_52, g62_52n, g62_54, g62_57, Int.reduceToNat, jtg, mu_s, mu_n, mu_j, mn_s, mn_n, jn_0, Option.some.injEq, exists_eq_left', zkl_i, zkl_l, zkl_n, zkl_r, zkl_0, zc_v, zc_n, zc_t, zd_v, zd_n, mj_tg, true_and, ↓reduceIte, not_true_eq_false, not_false_eq_true, ↓if_pos, ↓if_neg, Int.reduceLE, Int.reduceLT, Int.reduceEq, Int.reduceAdd, s87_n hH k1 k2 (tgo_n d1)]
theorem c63 {l g q v : Int} (h : RZ T Ln M n u x A W Ow X Y c n0 u0) (k1 : -2147483648 ≤ k) (k2 : k < 2147483648) (l1 : -2147483648 ≤ l) (l2 : l < 2147483648) (g1 : -2147483648 ≤ g) (g2 : g < 2147483648) (q1' : -2147483648 ≤ q) (q2' : q < 2147483648) (v1 : -2147483648 ≤ v) (v2 : v < 2147483648) (hd0 : cd 0 = 1) (hd1 : cd 1 = 2) : CR 63 [some (.ref x), some (zi k), some (zi l), some (zi g), some (zi q), some (zi v), none, none] T Ln M n u x Ow c n0 u0 cd (zi (a_change Y k l g q v).1) (a_change Y k l g q v).2 := by
  have hR := h.1.1
  have hH := h.1.2.2.2.1
  have hT : T x = 8 := hH.1.1
  have hs78 := fun (Q : zU → zS → Prop) (z : zS) => s78 (Q := Q) (z := z) l1 l2 g1 g2 q1' q2' v1 v2
  unfold a_change
  by_cases d1 : m_th Y k
  · rw [if_pos d1]
    obtain ⟨t, a1, a2, a3, a4, a5⟩ := RLX_k h.1 d1
    obtain ⟨-, -, -, e1, -⟩ := kt_n a5
    by_cases d2 : Y 3 k = 4
    · rw [if_pos d2]
      have hA : T (A k) = 0 := by rw [a1]; exact e1.mpr d2
      by_cases d3 : m_used Y k
      · rw [if_pos d3]
        have hs := fun (Q : zU → zS → Prop) => s81_y (Q := Q) h d1 d3
        refine CR_re h (by omega) (by omega) (by omega) (by omega) hd0 (fun Q => ?_)
        simp (disch := first | omega | (simp (disch := omega) only [tu_s, tu_n, lu_s, lu_n]; done) | (simp (disch := omega) only [tu_s, tu_n, lu_s, lu_n]; omega)) only [g63_0, g63_1, g63_2, g63_5, g63_5n, g63_7, g63_8, g63_8n, g63_10, g63_13, g63_14, g63_15, g63_17, g63_19, g63_22, g63_22b, g63_25, g63_35, g63_35n, g63_37, g63_40, g63_42, g63_42n, g63_44, g63_45, g63_46, g63_48, g63_50, g63_53, g63_55, Int.reduceToNat, jtg, mu_s, mu_n, mu_j, mn_s, mn_n, jg_0_2, Option.some.injEq, exists_eq_left', zkl_i, zkl_l, zkl_n, zkl_r, zkl_0, zc_v, zc_n, zc_t, zd_v, zd_n, mj_tg, true_and, ↓reduceIte, not_true_eq_false, not_false_eq_true, ↓if_pos, ↓if_neg, Int.reduceLE, Int.reduceLT, Int.reduceEq, Int.reduceAdd, s90_y hH (tgo_y d1) hA, hs]
      · rw [if_neg d3]
        have hs := fun (Q : zU → zS → Prop) => s81_n (Q := Q) h d1 d3
        by_cases d4 : m_isc l g q v
        · rw [if_pos d4]
          have c1 : ¬ ¬ m_isc l g q v := fun hh => hh d4
          obtain ⟨⟨p1, p2'⟩, p3, p4, p5, p6, p7, p8⟩ := t.2.2.2.1 d2
          have hs2 := fun (Q : zU → zS → Prop) => s2 (T := T) (Ln := Ln) (M := M) (n := n) (u := u) (a := A k) (l := l) (g := g) (q := q) (c := v) (Q := Q) hA
          have hgo : ∀ Q : zU → zS → Prop, z_go zP 63 0 [some (.ref x), some (zi k), some (zi l), some (zi g), some (zi q), some (zi v), none, none] [] (hj T Ln M, n, u) Q ↔ Q (.inl (some (zi (Y 9 k)))) (hj T Ln (mu (mu (mu (mu M (A k) 2 (zi l)) (A k) 3 (zi g)) (A k) 4 (zi q)) (A k) 5 (zi v)), n, u) := by
            intro Q
            simp (disch := first | omega | (simp (disch := omega) only [tu_s, tu_n, lu_s, lu_n]; done) | (simp (disch := omega) only [tu_s, tu_n, lu_s, lu_n]; omega)) only [g63_0, g63_1, g63_2, g63_5, g63_5n, g63_7, g63_8, g63_8n, g63_10, g63_13, g63_14, g63_15, g63_17, g63_19, g63_22, g63_22b, g63_25, g63_35, g63_35n, g63_37, g63_40, g63_42, g63_42n, g63_44, g63_45, g63_46, g63_48, g63_50, g63_53, g63_55, Int.reduceToNat, jtg, mu_s, mu_n, mu_j, mn_s, mn_n, jg_0_2, Option.some.injEq, exists_eq_left', zkl_i, zkl_l, zkl_n, zkl_r, zkl_0, zc_v, zc_n, zc_t, zd_v, zd_n, mj_tg, true_and, ↓reduceIte, not_true_eq_false, not_false_eq_true, ↓if_pos, ↓if_neg, Int.reduceLE, Int.reduceLT, Int.reduceEq, Int.reduceAdd, s90_y hH (tgo_y d1) hA, hs, hs78, bI_f c1, hs2, p5]
          have hnu : ∀ j, m_th Y j → ¬ m_us Y j k := fun j hj hh => d3 ((used_i hR).mpr ⟨j, hj, hh⟩)
          obtain ⟨z9, z10, z11, z12⟩ := sc_s (Y := yu Y 0 0 0) (r := k) (l := l) (g := g) (q := q) (v := v)
          have zf : ∀ (f : Nat) (e : Int), ¬ (9 ≤ f ∧ f ≤ 12) → ¬ f = 0 → m_sc (yu Y 0 0 0) k l g q v f e = Y f e := fun f e hf h0 => by rw [sc_f hf, yu_f h0]
          have zc : ∀ (f : Nat) (e : Int), ¬ cow f e = k → ¬ f = 0 → m_sc (yu Y 0 0 0) k l g q v f e = Y f e := fun f e hf h0 => by rw [sc_c hf, yu_f h0]
          have z0 : m_sc (yu Y 0 0 0) k l g q v 0 0 = 0 := by rw [sc_f (by omega), yu_s]
          have hRZ : RG (m_sc (yu Y 0 0 0) k l g q v) := RG_sc (RG_0 hR) d4
          have hB := h.1.2.2.1
          have hn5 := h.1.2.2.2.2.2.2.2.2.2
          show CR 63 _ _ _ _ _ _ _ _ _ _ _ _ (zi (Y 9 k)) (m_sc (yu Y 0 0 0) k l g q v)
          generalize m_sc (yu Y 0 0 0) k l g q v = Z at *
          have z3 := zf 3 k (by omega) (by omega)
          have z5 := zf 5 k (by omega) (by omega)
          have h9 := RZ_one (T' := T) (Ln' := Ln) (M' := mu (mu (mu (mu M (A k) 2 (zi l)) (A k) 3 (zi g)) (A k) 4 (zi q)) (A k) 5 (zi v)) (W' := W) (Ow' := Ow) (r := k) (n' := n) (u' := u) h d1 hRZ ⟨fun f e f1 f2 => zf f e (by omega) (by omega), fun f e f1 f2 => zf f e (by omega) (by omega), fun f e hf e0 he => zc f e he (by omega)⟩ (fun e => by rw [zf 13 e (by omega) (by omega)]; omega) (fun e he h9 => by
              by_cases hek : e = k
              · rw [hek, z9]; omega
              · rw [zc 9 e (cow_n (by omega) hek) (by omega)]; exact h9) (fun e he => zc 12 e (cow_n (by omega) (by intro hh; rw [hh] at he; omega)) (by omega)) (.inr hnu) (fun e => by
              rw [zf 21 e (by omega) (by omega), zf 23 e (by omega) (by omega)]
              have := hB e
              omega) (fun a _ => ⟨rfl, rfl, rfl⟩) (fun a j b1 b2 => by
              have : ¬ a = A k := fun hh => b2 (by rw [hh]; exact a2)
              rw [mu_n this, mu_n this, mu_n this, mu_n this]) (fun _ _ => rfl) hn5 (by omega) (by omega) ⟨fun hh => by omega, fun hh => by omega, fun hh => by omega, fun _ => ⟨⟨p1, p2'⟩, ?_, ?_, ?_, ?_, ?_, ?_⟩, fun hh => by omega, fun hh => by omega⟩
          · exact ⟨T, Ln, _, n, u, _, A, W, Ow, X, hgo, .inl ⟨z0, rfl⟩, h9.1, h9.2⟩
          · rw [mu_j (by omega), mu_j (by omega), mu_j (by omega), mu_j (by omega)]; exact p3
          · rw [mu_j (by omega), mu_j (by omega), mu_j (by omega), mu_j (by omega), z5]; exact p4
          · rw [mu_j (by omega), mu_j (by omega), mu_j (by omega), mu_s, z9]
          · rw [mu_j (by omega), mu_j (by omega), mu_s, z10]
          · rw [mu_j (by omega), mu_s, z11]
          · rw [mu_s, z12]
        · rw [if_neg d4]
          refine CR_th h (by omega) (by omega) hd1 (fun Q => ?_)
          simp (disch := first | omega | (simp (disch := omega) only [tu_s, tu_n, lu_s, lu_n]; done) | (simp (disch := omega) only [tu_s, tu_n, lu_s, lu_n]; omega)) only [g63_0, g63_1, g63_2, g63_5, g63_5n, g63_7, g63_8, g63_8n, g63_10, g63_13, g63_14, g63_15, g63_17, g63_19, g63_22, g63_22b, g63_25, g63_35, g63_35n, g63_37, g63_40, g63_42, g63_42n, g63_44, g63_45, g63_46, g63_48, g63_50, g63_53, g63_55, Int.reduceToNat, jtg, mu_s, mu_n, mu_j, mn_s, mn_n, jg_0_2, Option.some.injEq, exists_eq_left', zkl_i, zkl_l, zkl_n, zkl_r, zkl_0, zc_v, zc_n, zc_t, zd_v, zd_n, mj_tg, true_and, ↓reduceIte, not_true_eq_false, not_false_eq_true, ↓if_pos, ↓if_neg, Int.reduceLE, Int.reduceLT, Int.reduceEq, Int.reduceAdd, s90_y hH (tgo_y d1) hA, hs, hs78, bI_t d4]
    · rw [if_neg d2]
      have hA : ¬ T (A k) = 0 := by rw [a1, e1]; exact d2
      refine CR_re h (by omega) (by omega) (by omega) (by omega) hd0 (fun Q => ?_)
      simp (disch := first | omega | (simp (disch := omega) only [tu_s, tu_n, lu_s, lu_n]; done) | (simp (disch := omega) only [tu_s, tu_n, lu_s, lu_n]; omega)) only [g63_0, g63_1, g63_2, g63_5, g63_5n, g63_7, g63_8, g63_8n, g63_10, g63_13, g63_14, g63_15, g63_17, g63_19, g63_22, g63_22b, g63_25, g63_35, g63_35n, g63_37, g63_40, g63_42, g63_42n, g63_44, g63_45, g63_46, g63_48, g63_50, g63_53, g63_55, Int.reduceToNat, jtg, mu_s, mu_n, mu_j, mn_s, mn_n, jg_0_2, Option.some.injEq, exists_eq_left', zkl_i, zkl_l, zkl_n, zkl_r, zkl_0, zc_v, zc_n, zc_t, zd_v, zd_n, mj_tg, true_and, ↓reduceIte, not_true_eq_false, not_false_eq_true, ↓if_pos, ↓if_neg, Int.reduceLE, Int.reduceLT, Int.reduceEq, Int.reduceAdd, s90_k hH (tgo_y d1) hA]
  · rw [if_neg d1]
    refine CR_re h (by omega) (by omega) (by omega) (by omega) hd0 (fun Q => ?_)
    simp (disch := first | omega | (simp (disch := omega) only [tu_s, tu_n, lu_s, lu_n]; done) | (simp (disch := omega) only [tu_s, tu_n, lu_s, lu_n]; omega)) only [g63_0, g63_1, g63_2, g63_5, g63_5n, g63_7, g63_8, g63_8n, g63_10, g63_13, g63_14, g63_15, g63_17, g63_19, g63_22, g63_22b, g63_25, g63_35, g63_35n, g63_37, g63_40, g63_42, g63_42n, g63_44, g63_45, g63_46, g63_48, g63_50, g63_53, g63_55, Int.reduceToNat, jtg, mu_s, mu_n, mu_j, mn_s, mn_n, jg_0_2, Option.some.injEq, exists_eq_left', zkl_i, zkl_l, zkl_n, zkl_r, zkl_0, zc_v, zc_n, zc_t, zd_v, zd_n, mj_tg, true_and, ↓reduceIte, not_true_eq_false, not_false_eq_true, ↓if_pos, ↓if_neg, Int.reduceLE, Int.reduceLT, Int.reduceEq, Int.reduceAdd, s90_n hH k1 k2 (tgo_n d1)]
theorem s26 {one two : Nat} {i : Int} (h : T a = 3) (ha : a < n) (hi : i = 0 ∨ i = 1) : z_go zP 26 0 [some (.ref a), some (.ref one), some (.ref two), some (zi i)] [] (hj T Ln M, n, u) Q ↔ Q (.inl none) (hj (tu T n 101) (lu Ln n 0) (mu (mu (mu (mu (mn (mu M a 0 (zi 6)) n (fun _ => zl 0)) a 9 (.ref n)) a 1 (.ref one)) a 2 (.ref two)) a 3 (zi i)), n + 1, u + 0) := by
  have hs := fun (Q : zU → zS → Prop) (k : Int) => s48 (T := T) (Ln := Ln) (M := M) (n := n) (u := u) (a := a) (Q := Q) (k := k) (by omega)
  simp (disch := first | omega | (simp (disch := omega) only [tu_s, tu_n, lu_s, lu_n]; done) | (simp (disch := omega) only [tu_s, tu_n, lu_s, lu_n]; omega)) only [g26_0, g26_1, g26_3, g26_6, g26_7, g26_8, g26_10, g26_13, g26_14, g26_14n, g26_15, g26_18, g26_19, g26_19n, g26_20, g26_23, g26_24, g26_25, g26_28, Int.reduceToNat, jtg, mu_s, mu_n, mu_j, mn_s, mn_n, jnl, jnk_0, jnk_4, jnk_16, jnk_24, jnk_28, jnk_61, jnk_2000, jnk_4096, jnk_56000, jp_3_9, jp_3_1, jp_3_2, jp_3_3, Option.some.injEq, exists_eq_left', zkl_i, zkl_l, zkl_n, zkl_r, zkl_0, zc_v, zc_n, zc_t, zd_v, zd_n, mj_tg, true_and, ↓reduceIte, not_true_eq_false, not_false_eq_true, ↓if_pos, ↓if_neg, Int.reduceLE, Int.reduceLT, Int.reduceEq, Int.reduceAdd, hs]
end
