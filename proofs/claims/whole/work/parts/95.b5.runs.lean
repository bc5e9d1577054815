/-! THE MODEL: runs -/
def m_zr (Y : zY) (f : Nat) (a b : Int) : zY := fun g e => if g = f ∧ a ≤ e ∧ e < b then 0 else Y g e
theorem m_zr_0 {Y : zY} {f : Nat} {a b : Int} (h : b ≤ a) : m_zr Y f a b = Y := by
  funext g e
  unfold m_zr
  rw [if_neg (by omega)]
theorem m_zr_s {Y : zY} {f : Nat} {a b : Int} (h : a < b) : m_zr (yu Y f a 0) f (a + 1) b = m_zr Y f a b := by
  funext g e
  unfold m_zr yu
  by_cases h1 : g = f ∧ a ≤ e ∧ e < b
  · rw [if_pos h1]
    by_cases h2 : e = a
    · rw [if_neg (by omega), if_pos ⟨h1.1, h2⟩]
    · rw [if_pos (by omega)]
  · rw [if_neg h1, if_neg (by omega), if_neg (by omega)]
theorem m_zr_f {Y : zY} {f g : Nat} {a b e : Int} (h : ¬ g = f) : m_zr Y f a b g e = Y g e := by
  unfold m_zr
  rw [if_neg (fun hh => h hh.1)]
theorem RG_z {Y : zY} {f : Nat} {a b : Int} (h : RG Y) (h1 : rlo f ≤ 0) (h2 : 0 ≤ rhi f) : RG (m_zr Y f a b) := by
  intro g e
  unfold m_zr
  split
  next hh => rw [hh.1]; exact ⟨h1, h2⟩
  next => exact h g e
def m_be (Y : zY) (r : Int) : zY := yu (yu (yu (m_zr Y 19 (12 * r) (12 * r + 12)) 20 r 0) 21 r 0) 22 r 0
theorem RG_dw {Y : zY} {r p : Int} (hR : RG Y) (hw : 0 < Y 13 p) (hs : Y 21 r < 100000000) : RG (m_dw Y r p) := by
  have h7 : Y 7 (Y 5 p) ≤ 32 := (hR 7 _).2
  have x1 : 0 ≤ m_x Y r p ∧ m_x Y r p ≤ 4294967295 := hR 19 _
  have y1 : 0 ≤ m_y Y r p ∧ m_y Y r p ≤ 4294967295 := hR 19 _
  have w1 : 0 ≤ Y 13 p ∧ Y 13 p ≤ 24 := hR 13 p
  have hnu : RG (m_nu Y r p) := by
    unfold m_nu
    split
    next => have := mod_p2 (Y 18 (m_w Y r p)) h7; exact RG_u hR (by show 0 ≤ _; omega) (by show _ ≤ 4294967295; omega)
    next =>
    split
    next => have := mod_p2 (m_x Y r p + m_y Y r p) h7; exact RG_u hR (by show 0 ≤ _; omega) (by show _ ≤ 4294967295; omega)
    next =>
    split
    next => have := mod_p2 (m_x Y r p - m_y Y r p) h7; exact RG_u hR (by show 0 ≤ _; omega) (by show _ ≤ 4294967295; omega)
    next =>
    split
    next =>
      have := lland_n x1.1 (by omega) y1.1 (by omega)
      have h9 : (m_x Y r p).toNat &&& (m_y Y r p).toNat ≤ (m_x Y r p).toNat := Nat.and_le_left
      exact RG_u hR (by show 0 ≤ _; omega) (by show _ ≤ 4294967295; omega)
    next =>
    split
    next => exact RG_u hR (hR 19 _).1 (hR 19 _).2
    next =>
    split
    next => exact RG_u hR y1.1 y1.2
    next => exact hR
  have hto : 0 ≤ m_to Y r p ∧ m_to Y r p ≤ 23 := by
    unfold m_to
    split
    · have := mod_b (v := Y 18 (m_w Y r p)) hw; omega
    · have := mod_b (v := Y 20 r + 1) hw; omega
  have hb := bI_r (c := Y 14 (m_w Y r p) = 7)
  have hs0 : 0 ≤ Y 21 r := (hR 21 r).1
  unfold m_dw
  exact RG_u (RG_u (RG_u hnu hb.1 hb.2) hto.1 hto.2) (by show 0 ≤ _; omega) (by show _ ≤ 100000000; omega)
theorem m_nu_f {Y : zY} {r p e : Int} {f : Nat} (h : ¬ f = 19) : m_nu Y r p f e = Y f e := by
  unfold m_nu
  split
  · exact yu_f h
  split
  · exact yu_f h
  split
  · exact yu_f h
  split
  · exact yu_f h
  split
  · exact yu_f h
  split
  · exact yu_f h
  rfl
theorem m_dw_f {Y : zY} {r p e : Int} {f : Nat} (h : ¬ f = 19) (h0 : ¬ f = 20) (h1 : ¬ f = 21) (h2 : ¬ f = 22) : m_dw Y r p f e = Y f e := by
  unfold m_dw
  rw [yu_f h1, yu_f h0, yu_f h2, m_nu_f h]
theorem m_dw_19 {Y : zY} {r p e : Int} : m_dw Y r p 19 e = m_nu Y r p 19 e := by
  unfold m_dw
  rw [yu_f (by decide), yu_f (by decide), yu_f (by decide)]
theorem m_dw_20 {Y : zY} {r p e : Int} : m_dw Y r p 20 e = if e = r then m_to Y r p else Y 20 e := by
  unfold m_dw
  rw [yu_f (by decide), yu_e, yu_f (by decide), m_nu_f (by decide)]
theorem m_dw_21 {Y : zY} {r p e : Int} : m_dw Y r p 21 e = if e = r then Y 21 r + 1 else Y 21 e := by
  unfold m_dw
  rw [yu_e, yu_f (by decide), yu_f (by decide), m_nu_f (by decide)]
theorem m_dw_22 {Y : zY} {r p e : Int} : m_dw Y r p 22 e = if e = r then bI (Y 14 (m_w Y r p) = 7) else Y 22 e := by
  unfold m_dw
  rw [yu_f (by decide), yu_f (by decide), yu_e, m_nu_f (by decide)]
/-- at most n words more -/
def m_it (Y : zY) (r p : Int) : Nat → zY
  | 0 => Y
  | n + 1 => if Y 22 r = 0 then m_it (m_dw Y r p) r p n else Y
theorem m_it_f {f : Nat} {e : Int} (h : ¬ f = 19) (h0 : ¬ f = 20) (h1 : ¬ f = 21) (h2 : ¬ f = 22) {r p : Int} : ∀ (n : Nat) (Y : zY), m_it Y r p n f e = Y f e := by
  intro n
  induction n with
  | zero => intro Y; rfl
  | succ n ih =>
    intro Y
    unfold m_it
    split
    · rw [ih, m_dw_f h h0 h1 h2]
    · rfl
theorem RG_it {r p : Int} : ∀ (n : Nat) (Y : zY), RG Y → 0 < Y 13 p → Y 21 r + n ≤ 100000000 → RG (m_it Y r p n) := by
  intro n
  induction n with
  | zero => intro Y hR _ _; exact hR
  | succ n ih =>
    intro Y hR hw hs
    unfold m_it
    split
    · refine ih _ (RG_dw hR hw (by omega)) ?_ ?_
      · rw [m_dw_f (by decide) (by decide) (by decide) (by decide)]; exact hw
      · rw [m_dw_21, if_pos rfl]; omega
    · exact hR
theorem it_21 {r p : Int} : ∀ (n : Nat) (Y : zY), Y 21 r ≤ m_it Y r p n 21 r ∧ m_it Y r p n 21 r ≤ Y 21 r + n := by
  intro n
  induction n with
  | zero => intro Y; exact ⟨Int.le_refl _, by show Y 21 r ≤ _; omega⟩
  | succ n ih =>
    intro Y
    unfold m_it
    split
    · have := ih (m_dw Y r p)
      rw [m_dw_21, if_pos rfl] at this
      omega
    · omega
def a_run (Y : zY) (p : Int) : aO := if m_th Y p then (if Y 3 p = 2 then (if Y 13 p = 0 then (0, m_re Y 5 1) else if Y 2 0 < 60 then (Y 2 0 + 1, m_be (m_add (yu Y 0 0 0) 3 p 0) (Y 2 0 + 1)) else (0, m_re Y 6 1)) else (0, m_re Y 2 1)) else (0, m_re Y 1 1)
def a_step (Y : zY) (r n : Int) : aO := if m_th Y r then (if Y 3 r = 3 then (if 1 ≤ n ∧ n ≤ 2000 then (m_it (yu Y 0 0 0) r (Y 5 r) n.toNat 21 r - Y 21 r, m_it (yu Y 0 0 0) r (Y 5 r) n.toNat) else (0, yu Y 0 0 2)) else (0, m_re Y 2 1)) else (0, m_re Y 1 1)
def m_ns (Y : zY) (k : Int) : zY := yu (yu (yu (yu (yu (yu (yu (yu (yu (yu (yu (yu Y 23 k 0) 24 k 1) 28 k 0) 29 k 0) 26 (4 * k) (-1)) 27 (4 * k) 0) 26 (4 * k + 1) (-1)) 27 (4 * k + 1) 0) 26 (4 * k + 2) (-1)) 27 (4 * k + 2) 0) 26 (4 * k + 3) (-1)) 27 (4 * k + 3) 0
def a_sim (Y : zY) (c p : Int) : aO := if m_th Y c then (if Y 3 c = 4 then (if m_th Y p then (if Y 3 p = 2 then (if Y 5 c = Y 5 p then (if Y 13 p = 0 then (0, m_re Y 5 1) else if Y 2 0 < 60 then (Y 2 0 + 1, m_ns (m_be (m_be (m_add (yu Y 0 0 0) 5 c p) (Y 2 0 + 1)) (61 + (Y 2 0 + 1))) (Y 2 0 + 1)) else (0, m_re Y 6 1)) else (0, m_re Y 4 1)) else (0, m_re Y 2 1)) else (0, m_re Y 1 1)) else (0, m_re Y 2 1)) else (0, m_re Y 1 1)
section
variable {o : Nat} {Y : zY} {h : zH} {t : Nat × Nat} {Q : zU → zS → Prop}
theorem s111_l {r : Int} (r1 : 0 ≤ r) (r2 : r < 122) : ∀ (m : Nat) (Y : zY) (k : Int), 12 * r ≤ k → k + m = 12 * r + 12 → (z_go zP 111 5 [some (.ref o), some (zi r), some (zi k)] [] (mj o Y h, t) Q ↔ Q (.inl none) (mj o (yu (yu (yu (m_zr Y 19 k (12 * r + 12)) 20 r 0) 21 r 0) 22 r 0) h, t)) := by
  intro m
  induction m with
  | zero =>
    intro Y k h1 h2
    rw [m_zr_0 (by omega)]
    simp (disch := omega) only [g111_0, g111_2, g111_3, g111_4, g111_5, g111_6, g111_8, g111_9, g111_10, g111_12, g111_13, g111_17, g111_20, g111_21, g111_22, g111_23, g111_26, g111_29, g111_30, g111_33, g111_34, g111_35, g111_36, g111_37, g111_40, g111_41, g111_42, g111_43, g111_44, g111_47, g111_48, g111_49, g111_50, mg_19, ma_19, ms_19, mg_20, ma_20, ms_20, mg_21, ma_21, ms_21, mg_22, ma_22, ms_22, Option.some.injEq, exists_eq_left', zkl_i, zkl_l, zkl_n, zkl_r, zkl_0, zc_v, zc_n, zc_t, zd_v, zd_n, mj_tg, true_and, ↓reduceIte, not_true_eq_false, not_false_eq_true, ↓if_pos, ↓if_neg, Int.reduceLE, Int.reduceLT, Int.reduceEq, Int.reduceAdd]
  | succ m ih =>
    intro Y k h1 h2
    rw [← m_zr_s (by omega), ← ih (yu Y 19 k 0) (k + 1) (by omega) (by omega)]
    refine g111_5.trans ?_
    simp (disch := omega) only [g111_0, g111_2, g111_3, g111_4, g111_6, g111_8, g111_9, g111_10, g111_12, g111_13, g111_16, g111_17, g111_20, g111_21, g111_22, g111_23, g111_26, g111_29, g111_30, g111_33, g111_34, g111_35, g111_36, g111_37, g111_40, g111_41, g111_42, g111_43, g111_44, g111_47, g111_48, g111_49, g111_50, mg_19, ma_19, ms_19, mg_20, ma_20, ms_20, mg_21, ma_21, ms_21, mg_22, ma_22, ms_22, Option.some.injEq, exists_eq_left', zkl_i, zkl_l, zkl_n, zkl_r, zkl_0, zc_v, zc_n, zc_t, zd_v, zd_n, mj_tg, true_and, ↓reduceIte, not_true_eq_false, not_false_eq_true, ↓if_pos, ↓if_neg, Int.reduceLE, Int.reduceLT, Int.reduceEq, Int.reduceAdd]
theorem s111 {r : Int} (r1 : 0 ≤ r) (r2 : r < 122) : z_go zP 111 0 [some (.ref o), some (zi r), none] [] (mj o Y h, t) Q ↔ Q (.inl none) (mj o (m_be Y r) h, t) := by
  refine Iff.trans ?_ (s111_l r1 r2 12 Y (12 * r) (by omega) (by omega))
  simp (disch := omega) only [g111_0, g111_2, g111_3, g111_4, g111_6, g111_8, g111_9, g111_10, g111_12, g111_13, g111_16, g111_17, g111_20, g111_21, g111_22, g111_23, g111_26, g111_29, g111_30, g111_33, g111_34, g111_35, g111_36, g111_37, g111_40, g111_41, g111_42, g111_43, g111_44, g111_47, g111_48, g111_49, g111_50, Option.some.injEq, exists_eq_left', zkl_i, zkl_l, zkl_n, zkl_r, zkl_0, zc_v, zc_n, zc_t, zd_v, zd_n, mj_tg, true_and, ↓reduceIte, not_true_eq_false, not_false_eq_true, ↓if_pos, ↓if_neg, Int.reduceLE, Int.reduceLT, Int.reduceEq, Int.reduceAdd]
theorem s117 {p : Int} (hR : RG Y) (k1 : -2147483648 ≤ p) (k2 : p < 2147483648) : z_go zP 117 0 [some (.ref o), some (zi p)] [] (mj o Y h, t) Q ↔ Q (.inl (some (zi (a_run Y p).1))) (mj o (a_run Y p).2 h, t) := by
  obtain ⟨r1, r2⟩ : 0 ≤ Y 2 0 ∧ Y 2 0 ≤ 60 := hR 2 0
  obtain ⟨r3, r4⟩ : 0 ≤ Y 13 p ∧ Y 13 p ≤ 24 := hR 13 p
  unfold a_run
  by_cases d1 : m_th Y p
  · rw [if_pos d1]
    have d1' := d1
    obtain ⟨⟨d1a, d1b⟩, d1c⟩ := d1'
    by_cases d2 : Y 3 p = 2
    · rw [if_pos d2]
      by_cases d3 : Y 13 p = 0
      · rw [if_pos d3]
        simp (disch := omega) only [g117_0, g117_1, g117_2, g117_3, g117_4, g117_7, g117_7b, g117_10, g117_11, g117_12, g117_13, g117_16, g117_17, g117_18, g117_18b, g117_21, g117_22, g117_23, g117_24, g117_27, g117_28, g117_29, g117_30, g117_33, g117_33b, g117_36, g117_37, g117_38, g117_39, g117_40, g117_41, g117_42, g117_43, g117_46, g117_49, g117_50, g117_53, mg_13, ma_13, ms_13, mg_2, mp_2, Option.some.injEq, exists_eq_left', zkl_i, zkl_l, zkl_n, zkl_r, zkl_0, zc_v, zc_n, zc_t, zd_v, zd_n, mj_tg, true_and, ↓reduceIte, not_true_eq_false, not_false_eq_true, ↓if_pos, ↓if_neg, Int.reduceLE, Int.reduceLT, Int.reduceEq, Int.reduceAdd, s100_y hR k1 k2 (by omega) (by omega) d1 d2, s98', m_re_0, yu_f, d3]
      · rw [if_neg d3]
        by_cases d4 : Y 2 0 < 60
        · rw [if_pos d4]
          have e1 : m_be (m_add (yu Y 0 0 0) 3 p 0) (Y 2 0 + 1) 2 0 = Y 2 0 + 1 := by simp [m_be, m_zr, m_add, yu]
          simp (disch := omega) only [g117_0, g117_1, g117_2, g117_3, g117_4, g117_7, g117_7b, g117_10, g117_11, g117_12, g117_13, g117_16, g117_17, g117_18, g117_18b, g117_21, g117_22, g117_23, g117_24, g117_27, g117_28, g117_29, g117_30, g117_33, g117_33b, g117_36, g117_37, g117_38, g117_39, g117_40, g117_41, g117_42, g117_43, g117_46, g117_49, g117_50, g117_53, mg_13, ma_13, ms_13, mg_2, mp_2, Option.some.injEq, exists_eq_left', zkl_i, zkl_l, zkl_n, zkl_r, zkl_0, zc_v, zc_n, zc_t, zd_v, zd_n, mj_tg, true_and, ↓reduceIte, not_true_eq_false, not_false_eq_true, ↓if_pos, ↓if_neg, Int.reduceLE, Int.reduceLT, Int.reduceEq, Int.reduceAdd, s100_y hR k1 k2 (by omega) (by omega) d1 d2, s103_n (Y := yu Y 0 0 0) (RG_0 hR) d4, s102 (Y := yu Y 0 0 0) (RG_0 hR) d4, yu_f, s111, e1]
        · rw [if_neg d4]
          simp (disch := omega) only [g117_0, g117_1, g117_2, g117_3, g117_4, g117_7, g117_7b, g117_10, g117_11, g117_12, g117_13, g117_16, g117_17, g117_18, g117_18b, g117_21, g117_22, g117_23, g117_24, g117_27, g117_28, g117_29, g117_30, g117_33, g117_33b, g117_36, g117_37, g117_38, g117_39, g117_40, g117_41, g117_42, g117_43, g117_46, g117_49, g117_50, g117_53, mg_13, ma_13, ms_13, mg_2, mp_2, Option.some.injEq, exists_eq_left', zkl_i, zkl_l, zkl_n, zkl_r, zkl_0, zc_v, zc_n, zc_t, zd_v, zd_n, mj_tg, true_and, ↓reduceIte, not_true_eq_false, not_false_eq_true, ↓if_pos, ↓if_neg, Int.reduceLE, Int.reduceLT, Int.reduceEq, Int.reduceAdd, s100_y hR k1 k2 (by omega) (by omega) d1 d2, s103_y (Y := yu Y 0 0 0) (RG_0 hR) (show Y 2 0 = 60 by omega), m_re_0, yu_f]
    · rw [if_neg d2]
      simp (disch := omega) only [g117_0, g117_1, g117_2, g117_3, g117_4, g117_7, g117_7b, g117_10, g117_11, g117_12, g117_13, g117_16, g117_17, g117_18, g117_18b, g117_21, g117_22, g117_23, g117_24, g117_27, g117_28, g117_29, g117_30, g117_33, g117_33b, g117_36, g117_37, g117_38, g117_39, g117_40, g117_41, g117_42, g117_43, g117_46, g117_49, g117_50, g117_53, mg_13, ma_13, ms_13, mg_2, mp_2, Option.some.injEq, exists_eq_left', zkl_i, zkl_l, zkl_n, zkl_r, zkl_0, zc_v, zc_n, zc_t, zd_v, zd_n, mj_tg, true_and, ↓reduceIte, not_true_eq_false, not_false_eq_true, ↓if_pos, ↓if_neg, Int.reduceLE, Int.reduceLT, Int.reduceEq, Int.reduceAdd, s100_k hR k1 k2 (by omega) (by omega) d1 d2, m_re_0]
  · rw [if_neg d1]
    simp (disch := omega) only [g117_0, g117_1, g117_2, g117_3, g117_4, g117_7, g117_7b, g117_10, g117_11, g117_12, g117_13, g117_16, g117_17, g117_18, g117_18b, g117_21, g117_22, g117_23, g117_24, g117_27, g117_28, g117_29, g117_30, g117_33, g117_33b, g117_36, g117_37, g117_38, g117_39, g117_40, g117_41, g117_42, g117_43, g117_46, g117_49, g117_50, g117_53, mg_13, ma_13, ms_13, mg_2, mp_2, Option.some.injEq, exists_eq_left', zkl_i, zkl_l, zkl_n, zkl_r, zkl_0, zc_v, zc_n, zc_t, zd_v, zd_n, mj_tg, true_and, ↓reduceIte, not_true_eq_false, not_false_eq_true, ↓if_pos, ↓if_neg, Int.reduceLE, Int.reduceLT, Int.reduceEq, Int.reduceAdd, s100_n hR k1 k2 d1, m_re_0]
theorem s118_l {r n w : Int} (r1 : 0 ≤ r) (r2 : r ≤ 60) (n1 : 1 ≤ n) (n2 : n ≤ 2000) (w1 : 0 ≤ w) (w2 : w ≤ 90000000) : ∀ (m : Nat) (Y : zY), RG Y → 0 < Y 13 (Y 5 r) → 0 < Y 8 (Y 5 (Y 5 r)) → w ≤ Y 21 r → Y 21 r + m = w + n → (z_go zP 118 36 [some (.ref o), some (zi r), some (zi n), some (zi w)] [] (mj o Y h, t) Q ↔ Q (.inl (some (zi (m_it Y r (Y 5 r) m 21 r - w)))) (mj o (m_it Y r (Y 5 r) m) h, t)) := by
  intro m
  induction m with
  | zero =>
    intro Y hR hw hpl h1 h2
    obtain ⟨r3, r4⟩ : 0 ≤ Y 22 r ∧ Y 22 r ≤ 1 := hR 22 r
    by_cases he : Y 22 r = 0
    · simp (disch := omega) only [g118_0, g118_1, g118_2, g118_3, g118_4, g118_7, g118_7b, g118_10, g118_11, g118_12, g118_13, g118_14, g118_17, g118_20, g118_20b, g118_23, g118_24, g118_25, g118_28, g118_29, g118_30, g118_33, g118_34, g118_35, g118_36, g118_37, g118_40, g118_41, g118_42, g118_42b, g118_45, g118_46, g118_49, g118_50, g118_51, g118_52, g118_53, g118_54, g118_58, g118_59, g118_60, g118_63, g118_64, g118_65, g118_68, g118_71, g118_72, g118_75, g118_76, g118_77, g118_78, g118_79, mg_21, ma_21, ms_21, mg_22, ma_22, ms_22, mg_5, ma_5, ms_5, Option.some.injEq, exists_eq_left', zkl_i, zkl_l, zkl_n, zkl_r, zkl_0, zc_v, zc_n, zc_t, zd_v, zd_n, mj_tg, true_and, ↓reduceIte, not_true_eq_false, not_false_eq_true, ↓if_pos, ↓if_neg, Int.reduceLE, Int.reduceLT, Int.reduceEq, Int.reduceAdd, m_it]
    · simp (disch := omega) only [g118_0, g118_1, g118_2, g118_3, g118_4, g118_7, g118_7b, g118_10, g118_11, g118_12, g118_13, g118_14, g118_17, g118_20, g118_20b, g118_23, g118_24, g118_25, g118_28, g118_29, g118_30, g118_33, g118_34, g118_35, g118_36, g118_37, g118_40, g118_41, g118_42, g118_42b, g118_45, g118_46, g118_49, g118_50, g118_51, g118_52, g118_53, g118_54, g118_58, g118_59, g118_60, g118_63, g118_64, g118_65, g118_68, g118_71, g118_72, g118_75, g118_76, g118_77, g118_78, g118_79, mg_21, ma_21, ms_21, mg_22, ma_22, ms_22, mg_5, ma_5, ms_5, Option.some.injEq, exists_eq_left', zkl_i, zkl_l, zkl_n, zkl_r, zkl_0, zc_v, zc_n, zc_t, zd_v, zd_n, mj_tg, true_and, ↓reduceIte, not_true_eq_false, not_false_eq_true, ↓if_pos, ↓if_neg, Int.reduceLE, Int.reduceLT, Int.reduceEq, Int.reduceAdd, m_it]
  | succ m ih =>
    intro Y hR hw hpl h1 h2
    obtain ⟨r3, r4⟩ : 0 ≤ Y 22 r ∧ Y 22 r ≤ 1 := hR 22 r
    obtain ⟨r5, r6⟩ : 0 ≤ Y 5 r ∧ Y 5 r ≤ 60 := hR 5 r
    by_cases he : Y 22 r = 0
    · unfold m_it
      rw [if_pos he]
      have e5 : ∀ e, m_dw Y r (Y 5 r) 5 e = Y 5 e := fun e => m_dw_f (by decide) (by decide) (by decide) (by decide)
      have e13 : ∀ e, m_dw Y r (Y 5 r) 13 e = Y 13 e := fun e => m_dw_f (by decide) (by decide) (by decide) (by decide)
      have e8 : ∀ e, m_dw Y r (Y 5 r) 8 e = Y 8 e := fun e => m_dw_f (by decide) (by decide) (by decide) (by decide)
      have e21 : m_dw Y r (Y 5 r) 21 r = Y 21 r + 1 := by rw [m_dw_21, if_pos rfl]
      have h3 := ih (m_dw Y r (Y 5 r)) (RG_dw hR hw (by omega)) (by rw [e5, e13]; exact hw) (by rw [e5, e5, e8]; exact hpl) (by omega) (by omega)
      rw [e5] at h3
      rw [← h3]
      refine g118_36.trans ?_
      simp (disch := omega) only [g118_0, g118_1, g118_2, g118_3, g118_4, g118_7, g118_7b, g118_10, g118_11, g118_12, g118_13, g118_14, g118_17, g118_20, g118_20b, g118_23, g118_24, g118_25, g118_28, g118_29, g118_30, g118_33, g118_34, g118_35, g118_37, g118_40, g118_41, g118_42, g118_42b, g118_45, g118_46, g118_49, g118_50, g118_51, g118_52, g118_53, g118_54, g118_57, g118_58, g118_59, g118_60, g118_63, g118_64, g118_65, g118_68, g118_71, g118_72, g118_75, g118_76, g118_77, g118_78, g118_79, mg_21, ma_21, ms_21, mg_22, ma_22, ms_22, mg_5, ma_5, ms_5, Option.some.injEq, exists_eq_left', zkl_i, zkl_l, zkl_n, zkl_r, zkl_0, zc_v, zc_n, zc_t, zd_v, zd_n, mj_tg, true_and, ↓reduceIte, not_true_eq_false, not_false_eq_true, ↓if_pos, ↓if_neg, Int.reduceLE, Int.reduceLT, Int.reduceEq, Int.reduceAdd, s116 (r := r) hR (by omega) (by omega) r5 r6 hw hpl (by omega)]
    · unfold m_it
      rw [if_neg he]
      simp (disch := omega) only [g118_0, g118_1, g118_2, g118_3, g118_4, g118_7, g118_7b, g118_10, g118_11, g118_12, g118_13, g118_14, g118_17, g118_20, g118_20b, g118_23, g118_24, g118_25, g118_28, g118_29, g118_30, g118_33, g118_34, g118_35, g118_36, g118_37, g118_40, g118_41, g118_42, g118_42b, g118_45, g118_46, g118_49, g118_50, g118_51, g118_52, g118_53, g118_54, g118_58, g118_59, g118_60, g118_63, g118_64, g118_65, g118_68, g118_71, g118_72, g118_75, g118_76, g118_77, g118_78, g118_79, mg_21, ma_21, ms_21, mg_22, ma_22, ms_22, mg_5, ma_5, ms_5, Option.some.injEq, exists_eq_left', zkl_i, zkl_l, zkl_n, zkl_r, zkl_0, zc_v, zc_n, zc_t, zd_v, zd_n, mj_tg, true_and, ↓reduceIte, not_true_eq_false, not_false_eq_true, ↓if_pos, ↓if_neg, Int.reduceLE, Int.reduceLT, Int.reduceEq, Int.reduceAdd]
theorem s118 {r n : Int} (hR : RG Y) (k1 : -2147483648 ≤ r) (k2 : r < 2147483648) (n1 : -2147483648 ≤ n) (n2 : n < 2147483648) (hi : m_th Y r → Y 3 r = 3 → 0 < Y 13 (Y 5 r) ∧ 0 < Y 8 (Y 5 (Y 5 r))) (hs : Y 21 r ≤ 90000000) : z_go zP 118 0 [some (.ref o), some (zi r), some (zi n), none] [] (mj o Y h, t) Q ↔ Q (.inl (some (zi (a_step Y r n).1))) (mj o (a_step Y r n).2 h, t) := by
  obtain ⟨r1, r2⟩ : 0 ≤ Y 2 0 ∧ Y 2 0 ≤ 60 := hR 2 0
  obtain ⟨r3, r4⟩ : 0 ≤ Y 21 r ∧ Y 21 r ≤ 100000000 := hR 21 r
  unfold a_step
  by_cases d1 : m_th Y r
  · rw [if_pos d1]
    have d1' := d1
    obtain ⟨⟨d1a, d1b⟩, d1c⟩ := d1'
    by_cases d2 : Y 3 r = 3
    · rw [if_pos d2]
      by_cases d3 : 1 ≤ n ∧ n ≤ 2000
      · rw [if_pos d3]
        obtain ⟨hw, hpl⟩ := hi d1 d2
        refine Iff.trans ?_ (s118_l (by omega) (by omega) d3.1 d3.2 (w := Y 21 r) (by omega) (by omega) n.toNat (yu Y 0 0 0) (RG_0 hR) hw hpl (Int.le_refl _) (by show Y 21 r + _ = _; omega))
        simp (disch := omega) only [g118_0, g118_1, g118_2, g118_3, g118_4, g118_7, g118_7b, g118_10, g118_11, g118_12, g118_13, g118_14, g118_17, g118_20, g118_20b, g118_23, g118_24, g118_25, g118_28, g118_29, g118_30, g118_33, g118_34, g118_35, g118_37, g118_40, g118_41, g118_42, g118_42b, g118_45, g118_46, g118_49, g118_50, g118_51, g118_52, g118_53, g118_54, g118_57, g118_58, g118_59, g118_60, g118_63, g118_64, g118_65, g118_68, g118_71, g118_72, g118_75, g118_76, g118_77, g118_78, g118_79, mg_21, ma_21, ms_21, mg_22, ma_22, ms_22, mg_5, ma_5, ms_5, Option.some.injEq, exists_eq_left', zkl_i, zkl_l, zkl_n, zkl_r, zkl_0, zc_v, zc_n, zc_t, zd_v, zd_n, mj_tg, true_and, ↓reduceIte, not_true_eq_false, not_false_eq_true, ↓if_pos, ↓if_neg, Int.reduceLE, Int.reduceLT, Int.reduceEq, Int.reduceAdd, s100_y hR k1 k2 (by omega) (by omega) d1 d2, s97, bI_t d3, yu_f]
      · rw [if_neg d3]
        simp (disch := omega) only [g118_0, g118_1, g118_2, g118_3, g118_4, g118_7, g118_7b, g118_10, g118_11, g118_12, g118_13, g118_14, g118_17, g118_20, g118_20b, g118_23, g118_24, g118_25, g118_28, g118_29, g118_30, g118_33, g118_34, g118_35, g118_36, g118_37, g118_40, g118_41, g118_42, g118_42b, g118_45, g118_46, g118_49, g118_50, g118_51, g118_52, g118_53, g118_54, g118_57, g118_58, g118_59, g118_60, g118_63, g118_64, g118_65, g118_68, g118_71, g118_72, g118_75, g118_76, g118_77, g118_78, g118_79, mg_21, ma_21, ms_21, mg_22, ma_22, ms_22, mg_5, ma_5, ms_5, Option.some.injEq, exists_eq_left', zkl_i, zkl_l, zkl_n, zkl_r, zkl_0, zc_v, zc_n, zc_t, zd_v, zd_n, mj_tg, true_and, ↓reduceIte, not_true_eq_false, not_false_eq_true, ↓if_pos, ↓if_neg, Int.reduceLE, Int.reduceLT, Int.reduceEq, Int.reduceAdd, s100_y hR k1 k2 (by omega) (by omega) d1 d2, s97, bI_f d3, s96, yu_yu]
    · rw [if_neg d2]
      simp (disch := omega) only [g118_0, g118_1, g118_2, g118_3, g118_4, g118_7, g118_7b, g118_10, g118_11, g118_12, g118_13, g118_14, g118_17, g118_20, g118_20b, g118_23, g118_24, g118_25, g118_28, g118_29, g118_30, g118_33, g118_34, g118_35, g118_36, g118_37, g118_40, g118_41, g118_42, g118_42b, g118_45, g118_46, g118_49, g118_50, g118_51, g118_52, g118_53, g118_54, g118_57, g118_58, g118_59, g118_60, g118_63, g118_64, g118_65, g118_68, g118_71, g118_72, g118_75, g118_76, g118_77, g118_78, g118_79, mg_21, ma_21, ms_21, mg_22, ma_22, ms_22, mg_5, ma_5, ms_5, Option.some.injEq, exists_eq_left', zkl_i, zkl_l, zkl_n, zkl_r, zkl_0, zc_v, zc_n, zc_t, zd_v, zd_n, mj_tg, true_and, ↓reduceIte, not_true_eq_false, not_false_eq_true, ↓if_pos, ↓if_neg, Int.reduceLE, Int.reduceLT, Int.reduceEq, Int.reduceAdd, s100_k hR k1 k2 (by omega) (by omega) d1 d2, m_re_0]
  · rw [if_neg d1]
    simp (disch := omega) only [g118_0, g118_1, g118_2, g118_3, g118_4, g118_7, g118_7b, g118_10, g118_11, g118_12, g118_13, g118_14, g118_17, g118_20, g118_20b, g118_23, g118_24, g118_25, g118_28, g118_29, g118_30, g118_33, g118_34, g118_35, g118_36, g118_37, g118_40, g118_41, g118_42, g118_42b, g118_45, g118_46, g118_49, g118_50, g118_51, g118_52, g118_53, g118_54, g118_57, g118_58, g118_59, g118_60, g118_63, g118_64, g118_65, g118_68, g118_71, g118_72, g118_75, g118_76, g118_77, g118_78, g118_79, mg_21, ma_21, ms_21, mg_22, ma_22, ms_22, mg_5, ma_5, ms_5, Option.some.injEq, exists_eq_left', zkl_i, zkl_l, zkl_n, zkl_r, zkl_0, zc_v, zc_n, zc_t, zd_v, zd_n, mj_tg, true_and, ↓reduceIte, not_true_eq_false, not_false_eq_true, ↓if_pos, ↓if_neg, Int.reduceLE, Int.reduceLT, Int.reduceEq, Int.reduceAdd, s100_n hR k1 k2 d1, m_re_0]
end
