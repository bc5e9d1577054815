/-! THE LAW'S LOOP -/
theorem xs_le {X : Int → Int} (h : ∀ k, X k = 0 ∨ X k = 1) : ∀ m : Nat, xs X m ≤ m
  | 0 => by show (0 : Int) ≤ _; omega
  | m + 1 => by
    have h1 := xs_le h m
    have h2 := h m
    show xs X m + X m ≤ _
    omega
section
variable {T T' : Nat → Nat} {Ln Ln' : Nat → Int} {M M' : Nat → Int → Value} {n u x o ot b L : Nat} {xs : Nat → Int32} {Y Z : zY} {c n0 u0 ii : Int} {l5 l6 l7 : Option Value}
theorem LI_end (h : LI b L xs T Ln M n u x o ot Y c n0 u0) : (n : Int) ≤ n0 + 12 * c ∧ (u : Int) ≤ u0 + 100 * c + 33000 * 61 + 70000 := by
  obtain ⟨A, W, Ow, X, ⟨-, r1, r2, g, hg, r3⟩, -⟩ := h
  have h1 := xs_le r1 61
  refine ⟨r2, ?_⟩
  have h2 : g ≤ 1 := by
    rcases hg with ⟨h, -⟩ | ⟨h, -⟩ <;> omega
  clear hg
  omega
theorem LI_w (h : LI b L xs T Ln M n u x o ot Y c n0 u0) (hc : 0 ≤ c) : LI b L xs T Ln M n u x o ot Y (c + 1) n0 u0 := by
  obtain ⟨A, W, Ow, X, ⟨⟨a1, a2, a3, a4⟩, r1, r2, g, hg, r3⟩, hr⟩ := h
  refine ⟨A, W, Ow, X, ⟨⟨a1, a2, fun e => ?_, a4⟩, r1, by omega, g, hg, by clear hg; omega⟩, hr⟩
  have := a3 e
  omega
theorem iand_31 {v : Int} : iand v 31 = v % 32 := iand_m v 5 (by decide)
theorem lw_head (h : LI b L xs T Ln M n u x o ot Y c n0 u0) (hL : L ≤ 3584) (i0 : 0 ≤ ii) (i7 : ii + 7 ≤ L) (Q : zU → zS → Prop) : z_go zP 174 23 [some (.ref b), some (.ref x), some (.ref o), some (.ref ot), some (zi ii), l5, l6, l7] [] (hj T Ln M, n, u) Q ↔ z_go zP 174 40 [some (.ref b), some (.ref x), some (.ref o), some (.ref ot), some (zi ii), l5, l6, l7] [zi (xe xs ii % 32)] (hj T Ln M, n, u) Q := by
  obtain ⟨j1, ⟨j2, j2'⟩, ⟨j3, j3'⟩, j4, j5, j6, j7⟩ := LJ_s (LI_J h)
  have hs := j7 ii (by omega) (by omega)
  clear j7 j6 j5
  simp (disch := omega) only [g174_23, g174_25, g174_26, g174_27, g174_29, g174_30, g174_33, g174_34, g174_36, g174_37, g174_39, Option.some.injEq, exists_eq_left', zkl_i, zkl_l, zkl_n, zkl_r, zkl_0, zc_v, zc_n, zc_t, zd_v, zd_n, mj_tg, true_and, ↓reduceIte, not_true_eq_false, not_false_eq_true, ↓if_pos, ↓if_neg, Int.reduceLE, Int.reduceLT, Int.reduceEq, Int.reduceAdd, jln, jas, hs, iand_31]
theorem lw_tail (Q : zU → zS → Prop) {q : zS} : z_go zP 174 1398 [some (.ref b), some (.ref x), some (.ref o), some (.ref ot), some (zi ii), l5, l6, l7] [] q Q ↔ z_go zP 174 23 [some (.ref b), some (.ref x), some (.ref o), some (.ref ot), some (zi (ii + 7)), l5, l6, l7] [] q Q := by
  simp (disch := omega) only [g174_1398, g174_1401, Option.some.injEq, exists_eq_left', zkl_i, zkl_l, zkl_n, zkl_r, zkl_0, zc_v, zc_n, zc_t, zd_v, zd_n, mj_tg, true_and, ↓reduceIte, not_true_eq_false, not_false_eq_true, ↓if_pos, ↓if_neg, Int.reduceLE, Int.reduceLT, Int.reduceEq, Int.reduceAdd]
theorem lw_turn (h : LI b L xs T Ln M n u x o ot Y c n0 u0) (hc : 0 ≤ c) (hc2 : c ≤ 4000) (hL : L ≤ 3584) (hb : ¬ (o ≤ b ∧ b < o + 34)) (hne : ¬ ot = b) (hno : ¬ (o ≤ ot ∧ ot < o + 34)) (i0 : 0 ≤ ii) (i7 : ii + 7 ≤ L) : ∃ T' Ln' M' n' u' Y' l5' l6' l7', (∀ Q : zU → zS → Prop, z_go zP 174 23 [some (.ref b), some (.ref x), some (.ref o), some (.ref ot), some (zi ii), l5, l6, l7] [] (hj T Ln M, n, u) Q ↔ z_go zP 174 23 [some (.ref b), some (.ref x), some (.ref o), some (.ref ot), some (zi (ii + 7)), l5', l6', l7'] [] (hj T' Ln' M', n', u') Q) ∧ LI b L xs T' Ln' M' n' u' x o ot Y' (c + 1) n0 u0 := by
  have hh := fun Q => lw_head (l5 := l5) (l6 := l6) (l7 := l7) h hL i0 i7 Q
  have e0 : 0 ≤ xe xs ii % 32 ∧ xe xs ii % 32 < 32 := by omega
  by_cases hd : 18 < xe xs ii % 32
  · exact ⟨T, Ln, M, n, u, Y, l5, l6, l7, fun Q => (hh Q).trans ((g174_40_d (by omega) (by omega) (.inr hd)).trans (lw_tail Q)), LI_w h hc⟩
  · generalize xe xs ii % 32 = e at *
    obtain rfl | rfl | rfl | rfl | rfl | rfl | rfl | rfl | rfl | rfl | rfl | rfl | rfl | rfl | rfl | rfl | rfl | rfl | rfl := (show e = 0 ∨ e = 1 ∨ e = 2 ∨ e = 3 ∨ e = 4 ∨ e = 5 ∨ e = 6 ∨ e = 7 ∨ e = 8 ∨ e = 9 ∨ e = 10 ∨ e = 11 ∨ e = 12 ∨ e = 13 ∨ e = 14 ∨ e = 15 ∨ e = 16 ∨ e = 17 ∨ e = 18 by omega)
    · obtain ⟨T', Ln', M', n', u', Y', l5', l6', l7', e1, e2⟩ := lw_0 (l5 := l5) (l6 := l6) (l7 := l7) h hc hc2 hL hb hne hno i0 i7
      exact ⟨T', Ln', M', n', u', Y', l5', l6', l7', fun Q => (hh Q).trans (g174_40_0.trans ((e1 Q).trans (lw_tail Q))), e2⟩
    · obtain ⟨T', Ln', M', n', u', Y', l5', l6', l7', e1, e2⟩ := lw_1 (l5 := l5) (l6 := l6) (l7 := l7) h hc hc2 hL hb hne hno i0 i7
      exact ⟨T', Ln', M', n', u', Y', l5', l6', l7', fun Q => (hh Q).trans (g174_40_1.trans ((e1 Q).trans (lw_tail Q))), e2⟩
    · obtain ⟨T', Ln', M', n', u', Y', l5', l6', l7', e1, e2⟩ := lw_2 (l5 := l5) (l6 := l6) (l7 := l7) h hc hc2 hL hb hne hno i0 i7
      exact ⟨T', Ln', M', n', u', Y', l5', l6', l7', fun Q => (hh Q).trans (g174_40_2.trans ((e1 Q).trans (lw_tail Q))), e2⟩
    · obtain ⟨T', Ln', M', n', u', Y', l5', l6', l7', e1, e2⟩ := lw_3 (l5 := l5) (l6 := l6) (l7 := l7) h hc hc2 hL hb hne hno i0 i7
      exact ⟨T', Ln', M', n', u', Y', l5', l6', l7', fun Q => (hh Q).trans (g174_40_3.trans ((e1 Q).trans (lw_tail Q))), e2⟩
    · obtain ⟨T', Ln', M', n', u', Y', l5', l6', l7', e1, e2⟩ := lw_4 (l5 := l5) (l6 := l6) (l7 := l7) h hc hc2 hL hb hne hno i0 i7
      exact ⟨T', Ln', M', n', u', Y', l5', l6', l7', fun Q => (hh Q).trans (g174_40_4.trans ((e1 Q).trans (lw_tail Q))), e2⟩
    · obtain ⟨T', Ln', M', n', u', Y', l5', l6', l7', e1, e2⟩ := lw_5 (l5 := l5) (l6 := l6) (l7 := l7) h hc hc2 hL hb hne hno i0 i7
      exact ⟨T', Ln', M', n', u', Y', l5', l6', l7', fun Q => (hh Q).trans (g174_40_5.trans ((e1 Q).trans (lw_tail Q))), e2⟩
    · obtain ⟨T', Ln', M', n', u', Y', l5', l6', l7', e1, e2⟩ := lw_6 (l5 := l5) (l6 := l6) (l7 := l7) h hc hc2 hL hb hne hno i0 i7
      exact ⟨T', Ln', M', n', u', Y', l5', l6', l7', fun Q => (hh Q).trans (g174_40_6.trans ((e1 Q).trans (lw_tail Q))), e2⟩
    · obtain ⟨T', Ln', M', n', u', Y', l5', l6', l7', e1, e2⟩ := lw_7 (l5 := l5) (l6 := l6) (l7 := l7) h hc hc2 hL hb hne hno i0 i7
      exact ⟨T', Ln', M', n', u', Y', l5', l6', l7', fun Q => (hh Q).trans (g174_40_7.trans ((e1 Q).trans (lw_tail Q))), e2⟩
    · obtain ⟨T', Ln', M', n', u', Y', l5', l6', l7', e1, e2⟩ := lw_8 (l5 := l5) (l6 := l6) (l7 := l7) h hc hc2 hL hb hne hno i0 i7
      exact ⟨T', Ln', M', n', u', Y', l5', l6', l7', fun Q => (hh Q).trans (g174_40_8.trans ((e1 Q).trans (lw_tail Q))), e2⟩
    · obtain ⟨T', Ln', M', n', u', Y', l5', l6', l7', e1, e2⟩ := lw_9 (l5 := l5) (l6 := l6) (l7 := l7) h hc hc2 hL hb hne hno i0 i7
      exact ⟨T', Ln', M', n', u', Y', l5', l6', l7', fun Q => (hh Q).trans (g174_40_9.trans ((e1 Q).trans (lw_tail Q))), e2⟩
    · obtain ⟨T', Ln', M', n', u', Y', l5', l6', l7', e1, e2⟩ := lw_10 (l5 := l5) (l6 := l6) (l7 := l7) h hc hc2 hL hb hne hno i0 i7
      exact ⟨T', Ln', M', n', u', Y', l5', l6', l7', fun Q => (hh Q).trans (g174_40_10.trans ((e1 Q).trans (lw_tail Q))), e2⟩
    · obtain ⟨T', Ln', M', n', u', Y', l5', l6', l7', e1, e2⟩ := lw_11 (l5 := l5) (l6 := l6) (l7 := l7) h hc hc2 hL hb hne hno i0 i7
      exact ⟨T', Ln', M', n', u', Y', l5', l6', l7', fun Q => (hh Q).trans (g174_40_11.trans ((e1 Q).trans (lw_tail Q))), e2⟩
    · obtain ⟨T', Ln', M', n', u', Y', l5', l6', l7', e1, e2⟩ := lw_12 (l5 := l5) (l6 := l6) (l7 := l7) h hc hc2 hL hb hne hno i0 i7
      exact ⟨T', Ln', M', n', u', Y', l5', l6', l7', fun Q => (hh Q).trans (g174_40_12.trans ((e1 Q).trans (lw_tail Q))), e2⟩
    · obtain ⟨T', Ln', M', n', u', Y', l5', l6', l7', e1, e2⟩ := lw_13 (l5 := l5) (l6 := l6) (l7 := l7) h hc hc2 hL hb hne hno i0 i7
      exact ⟨T', Ln', M', n', u', Y', l5', l6', l7', fun Q => (hh Q).trans (g174_40_13.trans ((e1 Q).trans (lw_tail Q))), e2⟩
    · obtain ⟨T', Ln', M', n', u', Y', l5', l6', l7', e1, e2⟩ := lw_14 (l5 := l5) (l6 := l6) (l7 := l7) h hc hc2 hL hb hne hno i0 i7
      exact ⟨T', Ln', M', n', u', Y', l5', l6', l7', fun Q => (hh Q).trans (g174_40_14.trans ((e1 Q).trans (lw_tail Q))), e2⟩
    · obtain ⟨T', Ln', M', n', u', Y', l5', l6', l7', e1, e2⟩ := lw_15 (l5 := l5) (l6 := l6) (l7 := l7) h hc hc2 hL hb hne hno i0 i7
      exact ⟨T', Ln', M', n', u', Y', l5', l6', l7', fun Q => (hh Q).trans (g174_40_15.trans ((e1 Q).trans (lw_tail Q))), e2⟩
    · obtain ⟨T', Ln', M', n', u', Y', l5', l6', l7', e1, e2⟩ := lw_16 (l5 := l5) (l6 := l6) (l7 := l7) h hc hc2 hL hb hne hno i0 i7
      exact ⟨T', Ln', M', n', u', Y', l5', l6', l7', fun Q => (hh Q).trans (g174_40_16.trans ((e1 Q).trans (lw_tail Q))), e2⟩
    · obtain ⟨T', Ln', M', n', u', Y', l5', l6', l7', e1, e2⟩ := lw_17 (l5 := l5) (l6 := l6) (l7 := l7) h hc hc2 hL hb hne hno i0 i7
      exact ⟨T', Ln', M', n', u', Y', l5', l6', l7', fun Q => (hh Q).trans (g174_40_17.trans ((e1 Q).trans (lw_tail Q))), e2⟩
    · obtain ⟨T', Ln', M', n', u', Y', l5', l6', l7', e1, e2⟩ := lw_18 (l5 := l5) (l6 := l6) (l7 := l7) h hc hc2 hL hb hne hno i0 i7
      exact ⟨T', Ln', M', n', u', Y', l5', l6', l7', fun Q => (hh Q).trans (g174_40_18.trans ((e1 Q).trans (lw_tail Q))), e2⟩
/-- from a turn's head to the end -/
theorem lw_loop (hL : L ≤ 3584) (hb : ¬ (o ≤ b ∧ b < o + 34)) (hne : ¬ ot = b) (hno : ¬ (o ≤ ot ∧ ot < o + 34)) : ∀ (m : Nat) (T : Nat → Nat) (Ln : Nat → Int) (M : Nat → Int → Value) (n u : Nat) (Y : zY) (c : Int) (l5 l6 l7 : Option Value), LI b L xs T Ln M n u x o ot Y c n0 u0 → 0 ≤ c → 7 * c ≤ L → (L : Int) < 7 * c + 7 * m + 7 → z_go zP 174 23 [some (.ref b), some (.ref x), some (.ref o), some (.ref ot), some (zi (7 * c)), l5, l6, l7] [] (hj T Ln M, n, u) (fun r q => r = .inl (some (zi 1)) ∧ (q.2.1 : Int) ≤ n0 + 12 * 512 ∧ (q.2.2 : Int) ≤ u0 + 100 * 512 + 33000 * 61 + 70000) := by
  intro m
  induction m with
  | zero =>
    intro T Ln M n u Y c l5 l6 l7 h hc h1 h2
    obtain ⟨j1, ⟨j2, j2'⟩, ⟨j3, j3'⟩, j4, j5, j6, j7⟩ := LJ_s (LI_J h)
    obtain ⟨e1, e2⟩ := LI_end h
    clear j7 j6 j5
    simp (disch := omega) only [g174_23, g174_25, g174_26, g174_27, g174_29, g174_30, g174_1404, g174_1405_1, Option.some.injEq, exists_eq_left', zkl_i, zkl_l, zkl_n, zkl_r, zkl_0, zc_v, zc_n, zc_t, zd_v, zd_n, mj_tg, true_and, ↓reduceIte, not_true_eq_false, not_false_eq_true, ↓if_pos, ↓if_neg, Int.reduceLE, Int.reduceLT, Int.reduceEq, Int.reduceAdd, jln]
    omega
  | succ m ih =>
    intro T Ln M n u Y c l5 l6 l7 h hc h1 h2
    by_cases h7 : 7 * c + 7 ≤ L
    · obtain ⟨T', Ln', M', n', u', Y', l5', l6', l7', e1, e2⟩ := lw_turn (l5 := l5) (l6 := l6) (l7 := l7) (ii := 7 * c) h hc (by omega) hL hb hne hno (by omega) h7
      rw [e1]
      have := ih T' Ln' M' n' u' Y' (c + 1) l5' l6' l7' e2 (by omega) (by omega) (by omega)
      rw [show 7 * (c + 1) = 7 * c + 7 by omega] at this
      exact this
    · obtain ⟨j1, ⟨j2, j2'⟩, ⟨j3, j3'⟩, j4, j5, j6, j7⟩ := LJ_s (LI_J h)
      obtain ⟨e1, e2⟩ := LI_end h
      clear j7 j6 j5
      simp (disch := omega) only [g174_23, g174_25, g174_26, g174_27, g174_29, g174_30, g174_1404, g174_1405_1, Option.some.injEq, exists_eq_left', zkl_i, zkl_l, zkl_n, zkl_r, zkl_0, zc_v, zc_n, zc_t, zd_v, zd_n, mj_tg, true_and, ↓reduceIte, not_true_eq_false, not_false_eq_true, ↓if_pos, ↓if_neg, Int.reduceLE, Int.reduceLT, Int.reduceEq, Int.reduceAdd, jln]
      omega
end
