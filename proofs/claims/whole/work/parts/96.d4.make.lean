/-! CALLS THAT DROP AND MAKE -/
section
variable {T T' : Nat → Nat} {Ln Ln' : Nat → Int} {M M' : Nat → Int → Value} {n u x n' u' a : Nat} {A A' : Int → Nat} {W W' : Int → Int → Nat} {Ow Ow' : Nat → Int} {X X' : Int → Int} {Y Z : zY} {c n0 u0 k r : Int} {cd : Nat → Int}
theorem yu_w {f g : Nat} {e d v : Int} (h : ¬ (g = f ∧ d = e)) : yu Y f e v g d = Y g d := by
  unfold yu
  rw [if_neg h]
theorem c72 (h : RZ T Ln M n u x A W Ow X Y c n0 u0) (k1 : -2147483648 ≤ k) (k2 : k < 2147483648) (hd0 : cd 0 = 1) : CR 72 [some (.ref x), some (zi k), none] T Ln M n u x Ow c n0 u0 cd (zi (a_drop Y k).1) (a_drop Y k).2 := by
  have hH := h.1.2.2.2.1
  have hR := h.1.1
  have hI := h.1.2.1
  obtain ⟨⟨h1, h2, h3⟩, h4, h5, h6, h7, h8⟩ := id hH
  unfold a_drop
  by_cases d1 : m_th Y k
  · rw [if_pos d1]
    obtain ⟨t, a1, a2, a3, a4, a5⟩ := RLX_k h.1 d1
    have hi : isT (T (A k)) := by rw [a1]; exact kt_i
    by_cases d2 : m_used Y k
    · rw [if_pos d2]
      refine CR_re h (by omega) (by omega) (by omega) (by omega) hd0 (fun Q => ?_)
      have hs := fun (Q : zU → zS → Prop) => s81_y (Q := Q) h d1 d2
      simp (disch := omega) only [g72_0, g72_1, g72_2, g72_5, g72_5n, g72_6, g72_7, g72_7n, g72_8, g72_11, g72_12, g72_15, g72_16, g72_17, g72_18, g72_18n, g72_19, g72_22, Int.reduceToNat, jtg, mu_s, mu_n, mu_j, mn_s, mn_n, jg_8_0, jsan, jst, jsw, jg0, jp0, Option.some.injEq, exists_eq_left', zkl_i, zkl_l, zkl_n, zkl_r, zkl_0, zc_v, zc_n, zc_t, zd_v, zd_n, mj_tg, true_and, ↓reduceIte, not_true_eq_false, not_false_eq_true, ↓if_pos, ↓if_neg, Int.reduceLE, Int.reduceLT, Int.reduceEq, Int.reduceAdd, s86_y hH (tgo_y d1), hs]
    · rw [if_neg d2]
      have hs := fun (Q : zU → zS → Prop) => s81_n (Q := Q) h d1 d2
      have hne : ¬ A k = x + 1 := fun hh => by rw [hh, h2] at hi; omega
      have hgo : ∀ Q : zU → zS → Prop, z_go zP 72 0 [some (.ref x), some (zi k), none] [] (hj T Ln M, n, u) Q ↔ Q (.inl (some (zi (Y 3 k)))) (hj T Ln (mu M (x + 1) k .null), n, u) := by
        intro Q
        simp (disch := omega) only [g72_0, g72_1, g72_2, g72_5, g72_5n, g72_6, g72_7, g72_7n, g72_8, g72_11, g72_12, g72_15, g72_16, g72_17, g72_18, g72_18n, g72_19, g72_22, Int.reduceToNat, jtg, mu_s, mu_n, mu_j, mn_s, mn_n, jg_8_0, jsan, jst, jsw, jg0, jp0, Option.some.injEq, exists_eq_left', zkl_i, zkl_l, zkl_n, zkl_r, zkl_0, zc_v, zc_n, zc_t, zd_v, zd_n, mj_tg, true_and, ↓reduceIte, not_true_eq_false, not_false_eq_true, ↓if_pos, ↓if_neg, Int.reduceLE, Int.reduceLT, Int.reduceEq, Int.reduceAdd, s86_y hH (tgo_y d1), hs, h4, h3, a3]
      have hnu : ∀ j, m_th Y j → ¬ m_us Y j k := fun j hj hh => d2 ((used_i hR).mpr ⟨j, hj, hh⟩)
      have z4 : ∀ e, yu (yu Y 0 0 0) 4 k 0 4 e = if e = k then 0 else Y 4 e := fun e => by rw [yu_e, yu_f (by decide)]
      have zf : ∀ (f : Nat) (e : Int), ¬ f = 4 → ¬ f = 0 → yu (yu Y 0 0 0) 4 k 0 f e = Y f e := fun f e a b => by rw [yu_f a, yu_f b]
      have z2 := zf 2 0 (by decide) (by decide)
      have z1 := zf 1 0 (by decide) (by decide)
      have z0 : yu (yu Y 0 0 0) 4 k 0 0 0 = 0 := by rw [yu_f (by decide), yu_s]
      have hRZ : RG (yu (yu Y 0 0 0) 4 k 0) := RG_u (RG_0 hR) (by decide) (by decide)
      generalize yu (yu Y 0 0 0) 4 k 0 = Z at *
      have eth : ∀ j, m_th Z j ↔ m_th Y j ∧ ¬ j = k := by
        intro j
        unfold m_th
        rw [z2, z4]
        constructor
        · rintro ⟨b1, b2⟩
          by_cases hjk : j = k
          · rw [if_pos hjk] at b2; exact absurd rfl b2
          · rw [if_neg hjk] at b2; exact ⟨⟨b1, b2⟩, hjk⟩
        · rintro ⟨⟨b1, b2⟩, b3⟩
          rw [if_neg b3]; exact ⟨b1, b2⟩
      have hIZ : IV Z := by
        rw [IV_i]
        intro j j1 j2
        rw [z2] at j2
        refine IVc_c (fun f e f1 f2 f3 _ _ => zf f e f3 (by omega)) (fun i i1 i2 hu hh => ?_) j1 (hI j j1 j2)
        rw [z4, z4]
        by_cases hjk : j = k
        · rw [if_pos hjk]; intro hh; exact absurd rfl hh
        · rw [if_neg hjk]
          intro h9
          by_cases hik : i = k
          · subst hik
            exact absurd hu (hnu j ⟨⟨j1, j2⟩, h9⟩)
          · rw [if_neg hik]; exact hh h9
      have hB := h.1.2.2.1
      have o2 : Ow (x + 1) = 0 := h.1.2.2.2.2.2.2.2.2.1.2.1
      have hn5 := h.1.2.2.2.2.2.2.2.2.2
      have h9 := RZ_gen (T' := T) (Ln' := Ln) (M' := mu M (x + 1) k .null) (A' := A) (W' := W) (Ow' := Ow) (r := k) (n' := n) (u' := u) h hRZ hIZ (fun e => by
          rw [zf 21 e (by decide) (by decide), zf 23 e (by decide) (by decide)]
          have := hB e
          omega) (by omega) (fun f e hf _ _ => zf f e (by omega) (by omega)) (fun f e f1 f2 => zf f e (by omega) (by omega))
        (fun j hj => .inl ((eth j).mp hj)) (fun j _ _ hj f e hf e0 he => by
          by_cases hf4 : f = 4
          · subst hf4
            rw [z4, if_neg (fun hh => hj (by rw [← he, hh]; rfl))]
          · exact zf f e hf4 (by omega)) (fun j _ _ _ q _ f e f1 f2 _ _ => zf f e (by omega) (by omega)) (fun a _ => ⟨rfl, rfl, rfl⟩)
        (fun b j b1 b2 b3 => mu_n (fun hh => by rw [hh] at b3; exact b3 o2)) (mu_n (by omega)) (by rw [mu_n (by omega), h5, z2]) (by rw [mu_n (by omega), h.1.2.2.2.2.1, z1]) (mu_n (by omega))
        (fun j j1 j2 => by
          by_cases hjk : j = k
          · rw [hjk, mu_s, tgo_n (fun hh => ((eth k).mp hh).2 rfl)]
          · rw [mu_j hjk, h7 j j1 j2]
            unfold tgo
            by_cases hj2 : m_th Y j
            · rw [if_pos hj2, if_pos ((eth j).mpr ⟨hj2, hjk⟩)]
            · rw [if_neg hj2, if_neg (fun hh => hj2 ((eth j).mp hh).1)]) (fun _ _ _ => rfl) (fun _ _ => rfl) (by omega) hn5 (by omega) (by omega)
      exact ⟨T, Ln, _, n, u, _, A, W, Ow, X, hgo, .inl ⟨z0, rfl⟩, h9.1, h9.2⟩
  · rw [if_neg d1]
    refine CR_re h (by omega) (by omega) (by omega) (by omega) hd0 (fun Q => ?_)
    simp (disch := omega) only [g72_0, g72_1, g72_2, g72_5, g72_5n, g72_6, g72_7, g72_7n, g72_8, g72_11, g72_12, g72_15, g72_16, g72_17, g72_18, g72_18n, g72_19, g72_22, Int.reduceToNat, jtg, mu_s, mu_n, mu_j, mn_s, mn_n, jg_8_0, jsan, jst, jsw, jg0, jp0, Option.some.injEq, exists_eq_left', zkl_i, zkl_l, zkl_n, zkl_r, zkl_0, zc_v, zc_n, zc_t, zd_v, zd_n, mj_tg, true_and, ↓reduceIte, not_true_eq_false, not_false_eq_true, ↓if_pos, ↓if_neg, Int.reduceLE, Int.reduceLT, Int.reduceEq, Int.reduceAdd, s86_n hH k1 k2 (tgo_n d1)]
/-! the numbers of a new thing -/
theorem yu_c {f g : Nat} {e r v : Int} (hg : (3 ≤ g ∧ g ≤ 13) ∨ g = 23 ∨ g = 24 ∨ g = 28 ∨ g = 29 ∨ g = 41) (hc : ¬ cow f e = r) : yu Y g r v f e = Y f e := by
  refine yu_w (fun hh => hc ?_)
  rw [hh.1, hh.2]
  unfold cow
  rw [if_neg (by omega), if_neg (by omega), if_neg (by omega), if_neg (by omega), if_neg (by omega)]
theorem add_c {f : Nat} {e i p q : Int} (h3 : 3 ≤ f) (hc : ¬ cow f e = Y 2 0 + 1) : m_add (yu Y 0 0 0) i p q f e = Y f e := by
  have e2 : yu Y 0 0 0 2 0 = Y 2 0 := yu_f (by decide)
  unfold m_add
  rw [e2, yu_c (by omega) hc, yu_c (by omega) hc, yu_c (by omega) hc, yu_c (by omega) hc, yu_f (by omega), yu_f (by omega)]
theorem add_E {f : Nat} {e i p q : Int} (h3 : 7 ≤ f) : m_add (yu Y 0 0 0) i p q f e = Y f e := by
  unfold m_add
  rw [yu_f (by omega), yu_f (by omega), yu_f (by omega), yu_f (by omega), yu_f (by omega), yu_f (by omega)]
theorem add_0 {i p q : Int} : m_add (yu Y 0 0 0) i p q 0 0 = 0 ∧ m_add (yu Y 0 0 0) i p q 1 0 = Y 1 0 ∧ m_add (yu Y 0 0 0) i p q 2 0 = Y 2 0 + 1 ∧ m_add (yu Y 0 0 0) i p q 3 (Y 2 0 + 1) = i ∧ m_add (yu Y 0 0 0) i p q 4 (Y 2 0 + 1) = 1 ∧ m_add (yu Y 0 0 0) i p q 5 (Y 2 0 + 1) = p ∧ m_add (yu Y 0 0 0) i p q 6 (Y 2 0 + 1) = q := by
  simp [m_add, yu]
theorem RG_add {i p q : Int} (hR : RG Y) (h60 : Y 2 0 < 60) (i1 : 0 ≤ i) (i2 : i ≤ 6) (p1 : 0 ≤ p) (p2 : p ≤ 60) (q1 : 0 ≤ q) (q2 : q ≤ 60) : RG (m_add (yu Y 0 0 0) i p q) := by
  have e2 : yu Y 0 0 0 2 0 = Y 2 0 := yu_f (by decide)
  have h0 : 0 ≤ Y 2 0 := (hR 2 0).1
  unfold m_add
  rw [e2]
  exact RG_u (RG_u (RG_u (RG_u (RG_u (RG_0 hR) (by show (0 : Int) ≤ _; omega) (by show _ ≤ (60 : Int); omega)) i1 i2) (by decide) (by decide)) p1 p2) q1 q2
theorem rf_new {k d : Int} (hk : m_th Y k) (h3 : Y 3 k = d) (e3 : Z 3 k = Y 3 k) (e4 : Z 4 k = Y 4 k) : rf Z (Y 2 0 + 1) k d := by
  obtain ⟨⟨k1, k2⟩, k3⟩ := hk
  exact ⟨⟨k1, by omega⟩, by rw [e3]; exact h3, fun _ => by rw [e4]; exact k3⟩
theorem c57 {w m : Int} (h : RZ T Ln M n u x A W Ow X Y c n0 u0) (hc : 0 ≤ c) (w1 : -2147483648 ≤ w) (w2 : w < 2147483648) (m1 : -2147483648 ≤ m) (m2 : m < 2147483648) (hd0 : cd 0 = 2) (hd1 : cd 1 = 1) : CR 57 [some (.ref x), some (zi w), some (zi m)] T Ln M n u x Ow c n0 u0 cd (zi (a_machine Y w m).1) (a_machine Y w m).2 := by
  have hR := h.1.1
  have hT : T x = 8 := h.1.2.2.2.1.1.1
  obtain ⟨b1, b2, b3, b4⟩ := RZ_lt h
  unfold a_machine
  by_cases d1 : (1 ≤ w ∧ w ≤ 32) ∧ 1 ≤ m ∧ m ≤ 8
  · rw [if_pos d1]
    have c1 : ¬ ¬ (1 ≤ w ∧ w ≤ 32) := fun hh => hh d1.1
    have c2 : ¬ ¬ (1 ≤ m ∧ m ≤ 8) := fun hh => hh d1.2
    have hs := fun (Q : zU → zS → Prop) => s22 (T := tu T n 2) (Ln := lu Ln n 3) (M := mn M n (dv 2)) (n := n + 1) (u := u + 3) (a := n) (w := w) (pl := m) (Q := Q) tu_s (by omega) (by omega)
    have hT1 : ∀ a, a < n → tu T n 2 a = T a ∧ lu Ln n 3 a = Ln a := fun a ha => ⟨tu_n (by omega), lu_n (by omega)⟩
    have hM1 : ∀ a j, a < n → mu (mu (mu (mn M n (dv 2)) n 0 (zi 1)) n 1 (zi m)) n 2 (zl (p2 w - 1)) a j = M a j := fun a j ha => by
      rw [mu_n (by omega), mu_n (by omega), mu_n (by omega), mn_n (by omega)]
    have hH' := HS_new h hT1 hM1
    by_cases d2 : Y 2 0 < 60
    · rw [if_pos d2]
      obtain ⟨q0, q1, q2, q3, q4, q5, q6⟩ := add_0 (Y := Y) (i := 1) (p := 0) (q := 0)
      have hs2 := fun (Q : zU → zS → Prop) => s79_y (b := n) (n := n + 1) (u := u + 3) (Q := Q) hH' d2 (by rw [tu_s]; decide)
      have z3 : yu (yu (m_add (yu Y 0 0 0) 1 0 0) 7 (Y 2 0 + 1) w) 8 (Y 2 0 + 1) m 3 (Y 2 0 + 1) = 1 := by rw [yu_f (by decide), yu_f (by decide)]; exact q3
      have z7 : yu (yu (m_add (yu Y 0 0 0) 1 0 0) 7 (Y 2 0 + 1) w) 8 (Y 2 0 + 1) m 7 (Y 2 0 + 1) = w := by rw [yu_f (by decide), yu_s]
      have z8 : yu (yu (m_add (yu Y 0 0 0) 1 0 0) 7 (Y 2 0 + 1) w) 8 (Y 2 0 + 1) m 8 (Y 2 0 + 1) = m := yu_s
      show CR 57 _ _ _ _ _ _ _ _ _ _ _ _ (zi (Y 2 0 + 1)) (yu (yu (m_add (yu Y 0 0 0) 1 0 0) 7 (Y 2 0 + 1) w) 8 (Y 2 0 + 1) m)
      refine CR_new h d2 (RG_u (RG_u (RG_add hR d2 (by omega) (by omega) (by omega) (by omega) (by omega) (by omega)) (by show (0 : Int) ≤ w; omega) (by show w ≤ 32; omega)) (by show (0 : Int) ≤ m; omega) (by show m ≤ 8; omega)) (by rw [yu_f (by decide), yu_f (by decide)]; exact q0) (by rw [yu_f (by decide), yu_f (by decide)]; exact q1) (by rw [yu_f (by decide), yu_f (by decide)]; exact q2) (by rw [yu_f (by decide), yu_f (by decide)]; exact q4) (fun f e f1 f2 => by rw [yu_f (by omega), yu_f (by omega), add_E (by omega)]) (fun f e f1 f2 e0 hce => by rw [yu_c (by omega) hce, yu_c (by omega) hce, add_c f1 hce]) ?_ (fun e => ?_) hc hT1 hM1 1 (n' := n + 1) (u' := u + 3) rfl (by omega) (by omega) ?_ (fun Q => ?_)
      · refine ⟨by omega, fun _ => by omega, fun hh => by omega, fun hh => by omega, fun hh => by omega, fun hh => by omega, fun hh => by omega⟩
      · rw [yu_f (by decide), yu_f (by decide), add_E (by omega), yu_f (by decide), yu_f (by decide), add_E (by omega)]; omega
      · refine ⟨fun _ => ⟨⟨?_, ?_, ?_, ?_⟩, ?_⟩, fun hh => by omega, fun hh => by omega, fun hh => by omega, fun hh => by omega, fun hh => by omega⟩
        · rw [A1_s, tu_s]
        · rw [A1_s, mu_n (by omega), mu_n (by omega), mu_j (by omega), mu_j (by omega), mu_s]
        · rw [A1_s, mu_n (by omega), mu_n (by omega), mu_j (by omega), mu_s, z8]
        · rw [A1_s, mu_n (by omega), mu_n (by omega), mu_s, z7]
        · rw [A1_s, O1_y (by omega)]
      · simp (disch := first | omega | (simp (disch := omega) only [tu_s, tu_n, lu_s, lu_n]; done) | (simp (disch := omega) only [tu_s, tu_n, lu_s, lu_n]; omega)) only [g57_0, g57_1, g57_2, g57_4, g57_7, g57_7b, g57_10, g57_11, g57_12, g57_14, g57_17, g57_17b, g57_20, g57_30, g57_31, g57_34, g57_34i, g57_35, g57_36, g57_37, g57_40, g57_43, Int.reduceToNat, jtg, mu_s, mu_n, mu_j, mn_s, mn_n, jn_2, Option.some.injEq, exists_eq_left', zkl_i, zkl_l, zkl_n, zkl_r, zkl_0, zc_v, zc_n, zc_t, zd_v, zd_n, mj_tg, true_and, ↓reduceIte, not_true_eq_false, not_false_eq_true, ↓if_pos, ↓if_neg, Int.reduceLE, Int.reduceLT, Int.reduceEq, Int.reduceAdd, s76, bI_f c1, bI_f c2, hs, hs2]
    · rw [if_neg d2]
      have h60 : Y 2 0 = 60 := by have : Y 2 0 ≤ 60 := (hR 2 0).2; omega
      have hs2 := fun (Q : zU → zS → Prop) => s79_n (b := n) (n := n + 1) (u := u + 3) (Q := Q) hH' h60
      refine CR_rv h (by omega) (by omega) (by omega) (by omega) hd0 hT1 hM1 (n' := n + 1 + 1) (u' := u + 3 + 6) (by omega) (by omega) (by omega) (fun Q => ?_)
      simp (disch := first | omega | (simp (disch := omega) only [tu_s, tu_n, lu_s, lu_n]; done) | (simp (disch := omega) only [tu_s, tu_n, lu_s, lu_n]; omega)) only [g57_0, g57_1, g57_2, g57_4, g57_7, g57_7b, g57_10, g57_11, g57_12, g57_14, g57_17, g57_17b, g57_20, g57_30, g57_31, g57_34, g57_34i, g57_35, g57_36, g57_37, g57_40, g57_43, Int.reduceToNat, jtg, mu_s, mu_n, mu_j, mn_s, mn_n, jn_2, Option.some.injEq, exists_eq_left', zkl_i, zkl_l, zkl_n, zkl_r, zkl_0, zc_v, zc_n, zc_t, zd_v, zd_n, mj_tg, true_and, ↓reduceIte, not_true_eq_false, not_false_eq_true, ↓if_pos, ↓if_neg, Int.reduceLE, Int.reduceLT, Int.reduceEq, Int.reduceAdd, s76, bI_f c1, bI_f c2, hs, hs2]
  · rw [if_neg d1]
    refine CR_th h (by omega) (by omega) hd1 (fun Q => ?_)
    by_cases c1 : 1 ≤ w ∧ w ≤ 32
    · have c1' : ¬ ¬ (1 ≤ w ∧ w ≤ 32) := fun hh => hh c1
      have c2 : ¬ (1 ≤ m ∧ m ≤ 8) := fun hh => d1 ⟨c1, hh⟩
      simp (disch := first | omega | (simp (disch := omega) only [tu_s, tu_n, lu_s, lu_n]; done) | (simp (disch := omega) only [tu_s, tu_n, lu_s, lu_n]; omega)) only [g57_0, g57_1, g57_2, g57_4, g57_7, g57_7b, g57_10, g57_11, g57_12, g57_14, g57_17, g57_17b, g57_20, g57_30, g57_31, g57_34, g57_34i, g57_35, g57_36, g57_37, g57_40, g57_43, Int.reduceToNat, jtg, mu_s, mu_n, mu_j, mn_s, mn_n, jn_2, Option.some.injEq, exists_eq_left', zkl_i, zkl_l, zkl_n, zkl_r, zkl_0, zc_v, zc_n, zc_t, zd_v, zd_n, mj_tg, true_and, ↓reduceIte, not_true_eq_false, not_false_eq_true, ↓if_pos, ↓if_neg, Int.reduceLE, Int.reduceLT, Int.reduceEq, Int.reduceAdd, s76, bI_f c1', bI_t c2]
    · simp (disch := first | omega | (simp (disch := omega) only [tu_s, tu_n, lu_s, lu_n]; done) | (simp (disch := omega) only [tu_s, tu_n, lu_s, lu_n]; omega)) only [g57_0, g57_1, g57_2, g57_4, g57_7, g57_7b, g57_10, g57_11, g57_12, g57_14, g57_17, g57_17b, g57_20, g57_30, g57_31, g57_34, g57_34i, g57_35, g57_36, g57_37, g57_40, g57_43, Int.reduceToNat, jtg, mu_s, mu_n, mu_j, mn_s, mn_n, jn_2, Option.some.injEq, exists_eq_left', zkl_i, zkl_l, zkl_n, zkl_r, zkl_0, zc_v, zc_n, zc_t, zd_v, zd_n, mj_tg, true_and, ↓reduceIte, not_true_eq_false, not_false_eq_true, ↓if_pos, ↓if_neg, Int.reduceLE, Int.reduceLT, Int.reduceEq, Int.reduceAdd, s76, bI_t c1]
end
