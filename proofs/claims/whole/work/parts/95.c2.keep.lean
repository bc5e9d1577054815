/-! THE MODEL: states of a pair, kept -/
def m_ov (Y : zY) (f : Nat) (a b : Int) (g : Int → Int) : zY := fun f' e => if f' = f ∧ a ≤ e ∧ e < b then g e else Y f' e
theorem m_ov_0 {Y : zY} {f : Nat} {a b : Int} {g : Int → Int} (h : b ≤ a) : m_ov Y f a b g = Y := by
  funext f' e
  unfold m_ov
  rw [if_neg (by omega)]
theorem m_ov_s {Y : zY} {f : Nat} {a b : Int} {g : Int → Int} (h : a < b) : m_ov (yu Y f a (g a)) f (a + 1) b g = m_ov Y f a b g := by
  funext f' e
  unfold m_ov yu
  by_cases h1 : f' = f ∧ a ≤ e ∧ e < b
  · rw [if_pos h1]
    by_cases h2 : e = a
    · rw [if_neg (by omega), if_pos ⟨h1.1, h2⟩, h2]
    · rw [if_pos (by omega)]
  · rw [if_neg h1, if_neg (by omega), if_neg (by omega)]
theorem m_ov_f {Y : zY} {f f' : Nat} {a b e : Int} {g : Int → Int} (h : ¬ f' = f) : m_ov Y f a b g f' e = Y f' e := by
  unfold m_ov
  rw [if_neg (fun hh => h hh.1)]
theorem m_ov_i {Y : zY} {f : Nat} {a b e : Int} {g : Int → Int} (h : a ≤ e) (h1 : e < b) : m_ov Y f a b g f e = g e := by
  unfold m_ov
  rw [if_pos ⟨rfl, h, h1⟩]
theorem m_ov_o {Y : zY} {f f' : Nat} {a b e : Int} {g : Int → Int} (h : e < a ∨ b ≤ e) : m_ov Y f a b g f' e = Y f' e := by
  unfold m_ov
  rw [if_neg (by omega)]
theorem RG_ov {Y : zY} {f : Nat} {a b : Int} {g : Int → Int} (h : RG Y) (hg : ∀ e, a ≤ e → e < b → rlo f ≤ g e ∧ g e ≤ rhi f) : RG (m_ov Y f a b g) := by
  intro f' e
  unfold m_ov
  split
  next hh => rw [hh.1]; exact hg e hh.2.1 hh.2.2
  next => exact h f' e
def m_op (Y : zY) (s : Int) : zY := m_ov Y 38 0 28 (fun e => Y 36 (28 * s + e))
def m_hs (f : Int → Int) : Nat → Int
  | 0 => 17
  | n + 1 => (m_hs f n * 31 + f n) % 2003
theorem m_hs_r (f : Int → Int) : ∀ n : Nat, 0 ≤ m_hs f n ∧ m_hs f n < 2003 := by
  intro n
  cases n with
  | zero => exact ⟨by show (0 : Int) ≤ 17; omega, by show (17 : Int) < 2003; omega⟩
  | succ n => exact mod_b (by decide)
theorem m_hs_c {f g : Int → Int} : ∀ n : Nat, (∀ k : Nat, k < n → f k = g k) → m_hs f n = m_hs g n := by
  intro n
  induction n with
  | zero => intro _; rfl
  | succ n ih =>
    intro h
    unfold m_hs
    rw [ih (fun k hk => h k (by omega)), h n (by omega)]
def m_hn (Y : zY) : Int := m_hs (fun e => Y 38 e) 28
def m_ht (Y : zY) (s : Int) : Int := m_hs (fun e => Y 36 (28 * s + e)) 28
def m_sn (Y : zY) : Int := if Y 33 0 < 2000 then Y 33 0 else 2000
abbrev m_ev (Y : zY) (s : Int) : Prop := ∀ k ∈ List.range 28, Y 36 (28 * s + (k : Nat)) = Y 38 (k : Nat)
theorem m_ev_i {Y : zY} {s : Int} : m_ev Y s ↔ ∀ k, 0 ≤ k → k < 28 → Y 36 (28 * s + k) = Y 38 k := by
  constructor
  · intro h k h1 h2
    have := h k.toNat (by simp; omega)
    rw [show ((k.toNat : Nat) : Int) = k by omega] at this
    exact this
  · intro h k hk
    exact h k (by omega) (by have := List.mem_range.mp hk; omega)
abbrev m_kp (Y : zY) : Prop := ∃ s ∈ List.range 2000, (s : Int) < Y 33 0 ∧ m_ev Y s
theorem m_kp_i {Y : zY} : m_kp Y ↔ ∃ s, 0 ≤ s ∧ s < m_sn Y ∧ m_ev Y s := by
  unfold m_sn
  constructor
  · rintro ⟨s, h1, h2, h3⟩
    have := List.mem_range.mp h1
    exact ⟨s, by omega, by split <;> omega, h3⟩
  · rintro ⟨s, h1, h2, h3⟩
    refine ⟨s.toNat, by simp; split at h2 <;> omega, by split at h2 <;> omega, ?_⟩
    rw [show ((s.toNat : Nat) : Int) = s by omega]
    exact h3
/-- chains: every kept state hangs at its hash, the newer ahead of the older -/
def CI (Y : zY) : Prop := (∀ c, 0 ≤ c → c < 2003 → (-1 ≤ Y 39 c ∧ Y 39 c < m_sn Y) ∧ (0 ≤ Y 39 c → m_ht Y (Y 39 c) = c) ∧ ∀ t, 0 ≤ t → Y 39 c < t → t < m_sn Y → ¬ m_ht Y t = c) ∧ (∀ t, 0 ≤ t → t < m_sn Y → (-1 ≤ Y 40 t ∧ Y 40 t < t) ∧ (0 ≤ Y 40 t → m_ht Y (Y 40 t) = m_ht Y t) ∧ ∀ u, 0 ≤ u → Y 40 t < u → u < t → ¬ m_ht Y u = m_ht Y t)
def m_ke (Y : zY) : zY := if m_kp Y then Y else if Y 33 0 < 2000 then yu (yu (yu (m_ov Y 36 (28 * Y 33 0) (28 * Y 33 0 + 28) (fun e => Y 38 (e - 28 * Y 33 0))) 40 (Y 33 0) (Y 39 (m_hn Y))) 39 (m_hn Y) (Y 33 0)) 33 0 (Y 33 0 + 1) else yu Y 33 0 (Y 33 0 + 1)
theorem ev_hash {Y : zY} {s : Int} (h : m_ev Y s) : m_ht Y s = m_hn Y := m_hs_c 28 (fun k hk => h k (List.mem_range.mpr hk))
section
variable {o : Nat} {Y : zY} {h : zH} {t : Nat × Nat} {Q : zU → zS → Prop}
theorem s133_l {s : Int} (s1 : 0 ≤ s) (s2 : s ≤ 2000) {g : Int → Int} : ∀ (m : Nat) (Y : zY) (k : Int), 0 ≤ k → k + m = 28 → (∀ e, Y 36 (28 * s + e) = g e) → (z_go zP 133 2 [some (.ref o), some (zi s), some (zi k)] [] (mj o Y h, t) Q ↔ Q (.inl none) (mj o (m_ov Y 38 k 28 g) h, t)) := by
  intro m
  induction m with
  | zero =>
    intro Y k h1 h2 hg
    rw [m_ov_0 (by omega)]
    simp (disch := omega) only [g133_0, g133_1, g133_2, g133_3, g133_5, g133_9, g133_12, g133_13, g133_14, g133_17, g133_19, g133_20, g133_21, g133_22, g133_23, g133_24, g133_25, g133_28, g133_31, mg_38, ma_38, ms_38, mg_36, ma_36, ms_36, Option.some.injEq, exists_eq_left', zkl_i, zkl_l, zkl_n, zkl_r, zkl_0, zc_v, zc_n, zc_t, zd_v, zd_n, mj_tg, true_and, ↓reduceIte, not_true_eq_false, not_false_eq_true, ↓if_pos, ↓if_neg, Int.reduceLE, Int.reduceLT, Int.reduceEq, Int.reduceAdd]
  | succ m ih =>
    intro Y k h1 h2 hg
    rw [← m_ov_s (by omega), ← ih (yu Y 38 k (g k)) (k + 1) (by omega) (by omega) (fun e => by rw [yu_f (by decide)]; exact hg e)]
    refine g133_2.trans ?_
    simp (disch := omega) only [g133_0, g133_1, g133_3, g133_5, g133_8, g133_9, g133_12, g133_13, g133_14, g133_17, g133_19, g133_20, g133_21, g133_22, g133_23, g133_24, g133_25, g133_28, g133_31, mg_38, ma_38, ms_38, mg_36, ma_36, ms_36, Option.some.injEq, exists_eq_left', zkl_i, zkl_l, zkl_n, zkl_r, zkl_0, zc_v, zc_n, zc_t, zd_v, zd_n, mj_tg, true_and, ↓reduceIte, not_true_eq_false, not_false_eq_true, ↓if_pos, ↓if_neg, Int.reduceLE, Int.reduceLT, Int.reduceEq, Int.reduceAdd, hg]
theorem s133 {s : Int} (s1 : 0 ≤ s) (s2 : s ≤ 2000) : z_go zP 133 0 [some (.ref o), some (zi s), none] [] (mj o Y h, t) Q ↔ Q (.inl none) (mj o (m_op Y s) h, t) := by
  refine Iff.trans ?_ (s133_l s1 s2 28 Y 0 (by omega) (by omega) (fun _ => rfl))
  simp (disch := omega) only [g133_0, g133_1, g133_3, g133_5, g133_8, g133_9, g133_12, g133_13, g133_14, g133_17, g133_19, g133_20, g133_21, g133_22, g133_23, g133_24, g133_25, g133_28, g133_31, Option.some.injEq, exists_eq_left', zkl_i, zkl_l, zkl_n, zkl_r, zkl_0, zc_v, zc_n, zc_t, zd_v, zd_n, mj_tg, true_and, ↓reduceIte, not_true_eq_false, not_false_eq_true, ↓if_pos, ↓if_neg, Int.reduceLE, Int.reduceLT, Int.reduceEq, Int.reduceAdd]
theorem s134_l (hR : RG Y) : ∀ (m : Nat) (k : Nat), k + m = 28 → (z_go zP 134 6 [some (.ref o), some (zl (m_hs (fun e => Y 38 e) k)), none, some (zi k)] [] (mj o Y h, t) Q ↔ Q (.inl (some (zi (m_hn Y)))) (mj o Y h, t)) := by
  intro m
  induction m with
  | zero =>
    intro k hk
    have e : k = 28 := by omega
    subst e
    have := m_hs_r (fun e => Y 38 e) 28
    simp (disch := omega) only [g134_0, g134_3, g134_4, g134_5, g134_6, g134_7, g134_9, g134_13, g134_16, g134_17, g134_18, g134_21, g134_22, g134_23, g134_24, g134_27, g134_28, g134_29, g134_32, g134_35, g134_36, g134_37, mg_38, ma_38, ms_38, Option.some.injEq, exists_eq_left', zkl_i, zkl_l, zkl_n, zkl_r, zkl_0, zc_v, zc_n, zc_t, zd_v, zd_n, mj_tg, true_and, ↓reduceIte, not_true_eq_false, not_false_eq_true, ↓if_pos, ↓if_neg, Int.reduceLE, Int.reduceLT, Int.reduceEq, Int.reduceAdd, m_hn]
  | succ m ih =>
    intro k hk
    have h1 := ih (k + 1) (by omega)
    rw [show (((k + 1 : Nat)) : Int) = (k : Int) + 1 by omega] at h1
    rw [← h1]
    obtain ⟨a1, a2⟩ := m_hs_r (fun e => Y 38 e) k
    obtain ⟨a3, a4⟩ : 0 ≤ Y 38 k ∧ Y 38 k ≤ 4294967295 := hR 38 k
    have e1 : m_hs (fun e => Y 38 e) (k + 1) = (m_hs (fun e => Y 38 e) k * 31 + Y 38 k) % 2003 := rfl
    rw [e1]
    have e2 := tmod_nn (v := m_hs (fun e => Y 38 e) k * 31 + Y 38 k) (m := 2003) (by omega)
    refine g134_6.trans ?_
    simp (disch := omega) only [g134_0, g134_3, g134_4, g134_5, g134_7, g134_9, g134_12, g134_13, g134_16, g134_17, g134_18, g134_21, g134_22, g134_23, g134_24, g134_27, g134_28, g134_29, g134_32, g134_35, g134_36, g134_37, mg_38, ma_38, ms_38, Option.some.injEq, exists_eq_left', zkl_i, zkl_l, zkl_n, zkl_r, zkl_0, zc_v, zc_n, zc_t, zd_v, zd_n, mj_tg, true_and, ↓reduceIte, not_true_eq_false, not_false_eq_true, ↓if_pos, ↓if_neg, Int.reduceLE, Int.reduceLT, Int.reduceEq, Int.reduceAdd, e2]
theorem s134 (hR : RG Y) : z_go zP 134 0 [some (.ref o), none, none, none] [] (mj o Y h, t) Q ↔ Q (.inl (some (zi (m_hn Y)))) (mj o Y h, t) := by
  refine Iff.trans ?_ (s134_l hR 28 0 (by omega))
  simp (disch := omega) only [g134_0, g134_3, g134_4, g134_5, g134_7, g134_9, g134_12, g134_13, g134_16, g134_17, g134_18, g134_21, g134_22, g134_23, g134_24, g134_27, g134_28, g134_29, g134_32, g134_35, g134_36, g134_37, Option.some.injEq, exists_eq_left', zkl_i, zkl_l, zkl_n, zkl_r, zkl_0, zc_v, zc_n, zc_t, zd_v, zd_n, mj_tg, true_and, ↓reduceIte, not_true_eq_false, not_false_eq_true, ↓if_pos, ↓if_neg, Int.reduceLE, Int.reduceLT, Int.reduceEq, Int.reduceAdd]
  exact Iff.rfl
theorem s135_m {c s : Int} (hR : RG Y) (s1 : 0 ≤ s) (s2 : s < 2000) (x : Int) : ∀ (m : Nat) (k v : Int), 0 ≤ k → k + m = 28 → ((v = 0 ∧ x = 0) ∨ (v = 1 ∧ x = 1 ∧ ∀ j, k ≤ j → j < 28 → Y 36 (28 * s + j) = Y 38 j) ∨ (v = 1 ∧ x = 0 ∧ ∃ j, k ≤ j ∧ j < 28 ∧ ¬ Y 36 (28 * s + j) = Y 38 j)) → (z_go zP 135 16 [some (.ref o), some (zi c), some (zi s), some (zi v), some (zi k)] [] (mj o Y h, t) Q ↔ z_go zP 135 62 [some (.ref o), some (zi c), some (zi s), some (zi x), some (zi 28)] [] (mj o Y h, t) Q) := by
  intro m
  induction m with
  | zero =>
    intro k v h1 h2 h3
    have : v = x ∧ k = 28 := by
      rcases h3 with h3 | h3 | ⟨a, b, j, c, d, -⟩ <;> omega
    obtain ⟨rfl, rfl⟩ := this
    simp (disch := omega) only [g135_0, g135_1, g135_4, g135_5, g135_6, g135_7, g135_8, g135_11, g135_12, g135_13, g135_14, g135_16, g135_18, g135_20, g135_24, g135_24b, g135_27, g135_28, g135_31, g135_33, g135_34, g135_35, g135_37, g135_38, g135_39, g135_40, g135_43, g135_45, g135_46, g135_50, g135_51, g135_54, g135_55, g135_56, g135_59, g135_63, g135_63b, g135_66, g135_67_0, g135_67_1, g135_67b, g135_68, g135_69, g135_72, g135_73, g135_74, g135_75, g135_78, g135_79_0, g135_79_1, g135_79b, mg_39, ma_39, ms_39, mg_36, ma_36, ms_36, mg_38, ma_38, ms_38, mg_40, ma_40, ms_40, Option.some.injEq, exists_eq_left', zkl_i, zkl_l, zkl_n, zkl_r, zkl_0, zc_v, zc_n, zc_t, zd_v, zd_n, mj_tg, true_and, ↓reduceIte, not_true_eq_false, not_false_eq_true, ↓if_pos, ↓if_neg, Int.reduceLE, Int.reduceLT, Int.reduceEq, Int.reduceAdd]
  | succ m ih =>
    intro k v h1 h2 h3
    obtain ⟨r3, r4⟩ : 0 ≤ Y 36 (28 * s + k) ∧ Y 36 (28 * s + k) ≤ 4294967295 := hR 36 _
    obtain ⟨r5, r6⟩ : 0 ≤ Y 38 k ∧ Y 38 k ≤ 4294967295 := hR 38 _
    refine g135_16.trans ?_
    rcases h3 with ⟨rfl, rfl⟩ | ⟨rfl, rfl, h3⟩ | ⟨rfl, rfl, j, h4, h5, h6⟩
    · rw [← ih (k + 1) 0 (by omega) (by omega) (.inl ⟨rfl, rfl⟩)]
      simp (disch := omega) only [g135_0, g135_1, g135_4, g135_5, g135_6, g135_7, g135_8, g135_11, g135_12, g135_13, g135_14, g135_18, g135_20, g135_23, g135_24, g135_24b, g135_27, g135_28, g135_31, g135_33, g135_34, g135_35, g135_37, g135_38, g135_39, g135_40, g135_43, g135_45, g135_46, g135_50, g135_51, g135_54, g135_55, g135_56, g135_59, g135_63, g135_63b, g135_66, g135_67_0, g135_67_1, g135_67b, g135_68, g135_69, g135_72, g135_73, g135_74, g135_75, g135_78, g135_79_0, g135_79_1, g135_79b, mg_39, ma_39, ms_39, mg_36, ma_36, ms_36, mg_38, ma_38, ms_38, mg_40, ma_40, ms_40, Option.some.injEq, exists_eq_left', zkl_i, zkl_l, zkl_n, zkl_r, zkl_0, zc_v, zc_n, zc_t, zd_v, zd_n, mj_tg, true_and, ↓reduceIte, not_true_eq_false, not_false_eq_true, ↓if_pos, ↓if_neg, Int.reduceLE, Int.reduceLT, Int.reduceEq, Int.reduceAdd]
    · rw [← ih (k + 1) 1 (by omega) (by omega) (.inr (.inl ⟨rfl, rfl, fun j a b => h3 j (by omega) b⟩))]
      have h4 := h3 k (by omega) (by omega)
      simp (disch := omega) only [g135_0, g135_1, g135_4, g135_5, g135_6, g135_7, g135_8, g135_11, g135_12, g135_13, g135_14, g135_18, g135_20, g135_23, g135_24, g135_24b, g135_27, g135_28, g135_31, g135_33, g135_34, g135_35, g135_37, g135_38, g135_39, g135_40, g135_43, g135_45, g135_46, g135_50, g135_51, g135_54, g135_55, g135_56, g135_59, g135_63, g135_63b, g135_66, g135_67_0, g135_67_1, g135_67b, g135_68, g135_69, g135_72, g135_73, g135_74, g135_75, g135_78, g135_79_0, g135_79_1, g135_79b, mg_39, ma_39, ms_39, mg_36, ma_36, ms_36, mg_38, ma_38, ms_38, mg_40, ma_40, ms_40, Option.some.injEq, exists_eq_left', zkl_i, zkl_l, zkl_n, zkl_r, zkl_0, zc_v, zc_n, zc_t, zd_v, zd_n, mj_tg, true_and, ↓reduceIte, not_true_eq_false, not_false_eq_true, ↓if_pos, ↓if_neg, Int.reduceLE, Int.reduceLT, Int.reduceEq, Int.reduceAdd]
    · by_cases hj : Y 36 (28 * s + k) = Y 38 k
      · have hjk : ¬ j = k := fun hh => by subst hh; exact h6 hj
        rw [← ih (k + 1) 1 (by omega) (by omega) (.inr (.inr ⟨rfl, rfl, j, by omega, h5, h6⟩))]
        simp (disch := omega) only [g135_0, g135_1, g135_4, g135_5, g135_6, g135_7, g135_8, g135_11, g135_12, g135_13, g135_14, g135_18, g135_20, g135_23, g135_24, g135_24b, g135_27, g135_28, g135_31, g135_33, g135_34, g135_35, g135_37, g135_38, g135_39, g135_40, g135_43, g135_45, g135_46, g135_50, g135_51, g135_54, g135_55, g135_56, g135_59, g135_63, g135_63b, g135_66, g135_67_0, g135_67_1, g135_67b, g135_68, g135_69, g135_72, g135_73, g135_74, g135_75, g135_78, g135_79_0, g135_79_1, g135_79b, mg_39, ma_39, ms_39, mg_36, ma_36, ms_36, mg_38, ma_38, ms_38, mg_40, ma_40, ms_40, Option.some.injEq, exists_eq_left', zkl_i, zkl_l, zkl_n, zkl_r, zkl_0, zc_v, zc_n, zc_t, zd_v, zd_n, mj_tg, true_and, ↓reduceIte, not_true_eq_false, not_false_eq_true, ↓if_pos, ↓if_neg, Int.reduceLE, Int.reduceLT, Int.reduceEq, Int.reduceAdd]
      · rw [← ih (k + 1) 0 (by omega) (by omega) (.inl ⟨rfl, rfl⟩)]
        simp (disch := omega) only [g135_0, g135_1, g135_4, g135_5, g135_6, g135_7, g135_8, g135_11, g135_12, g135_13, g135_14, g135_18, g135_20, g135_23, g135_24, g135_24b, g135_27, g135_28, g135_31, g135_33, g135_34, g135_35, g135_37, g135_38, g135_39, g135_40, g135_43, g135_45, g135_46, g135_50, g135_51, g135_54, g135_55, g135_56, g135_59, g135_63, g135_63b, g135_66, g135_67_0, g135_67_1, g135_67b, g135_68, g135_69, g135_72, g135_73, g135_74, g135_75, g135_78, g135_79_0, g135_79_1, g135_79b, mg_39, ma_39, ms_39, mg_36, ma_36, ms_36, mg_38, ma_38, ms_38, mg_40, ma_40, ms_40, Option.some.injEq, exists_eq_left', zkl_i, zkl_l, zkl_n, zkl_r, zkl_0, zc_v, zc_n, zc_t, zd_v, zd_n, mj_tg, true_and, ↓reduceIte, not_true_eq_false, not_false_eq_true, ↓if_pos, ↓if_neg, Int.reduceLE, Int.reduceLT, Int.reduceEq, Int.reduceAdd]
theorem s135_l {c : Int} (hR : RG Y) (hC : CI Y) (c1 : 0 ≤ c) (c2 : c < 2003) (hc : m_hn Y = c) (x : Int) : ∀ (m : Nat) (s : Int) (l3 l4 : Option Value), s + 1 = m → s < m_sn Y → (0 ≤ s → m_ht Y s = c) → (∀ t, 0 ≤ t → s < t → t < m_sn Y → ¬ m_ev Y t) → ((x = 1 ∧ m_kp Y) ∨ (x = 0 ∧ ¬ m_kp Y)) → (z_go zP 135 7 [some (.ref o), some (zi c), some (zi s), l3, l4] [] (mj o Y h, t) Q ↔ Q (.inl (some (zi x))) (mj o Y h, t)) := by
  have hn : m_sn Y ≤ 2000 := by unfold m_sn; split <;> omega
  intro m
  induction m using Nat.strongRecOn with
  | ind m ih =>
    intro s l3 l4 hm hs hh hno hx
    by_cases h0 : 0 ≤ s
    · obtain ⟨⟨n1, n2⟩, n3, n4⟩ := hC.2 s h0 hs
      by_cases he : m_ev Y s
      · have hx1 : x = 1 := by
          rcases hx with hx | hx
          · exact hx.1
          · exact absurd (m_kp_i.mpr ⟨s, h0, hs, he⟩) hx.2
        subst hx1
        have hA := s135_m (o := o) (h := h) (t := t) (Q := Q) (c := c) (s := s) hR h0 (by omega) 1 28 0 1 (by omega) (by omega) (.inr (.inl ⟨rfl, rfl, fun j a b => m_ev_i.mp he j a b⟩))
        have hB : z_go zP 135 7 [some (.ref o), some (zi c), some (zi s), l3, l4] [] (mj o Y h, t) Q ↔ z_go zP 135 16 [some (.ref o), some (zi c), some (zi s), some (zi 1), some (zi 0)] [] (mj o Y h, t) Q := by
          simp (disch := omega) only [g135_0, g135_1, g135_4, g135_5, g135_6, g135_7, g135_8, g135_11, g135_12, g135_13, g135_14, g135_18, g135_20, g135_23, g135_24, g135_24b, g135_27, g135_28, g135_31, g135_33, g135_34, g135_35, g135_37, g135_38, g135_39, g135_40, g135_43, g135_45, g135_46, g135_50, g135_51, g135_54, g135_55, g135_56, g135_59, g135_62, g135_63, g135_63b, g135_66, g135_67_0, g135_67_1, g135_67b, g135_68, g135_69, g135_72, g135_73, g135_74, g135_75, g135_78, g135_79_0, g135_79_1, g135_79b, mg_39, ma_39, ms_39, mg_36, ma_36, ms_36, mg_38, ma_38, ms_38, mg_40, ma_40, ms_40, Option.some.injEq, exists_eq_left', zkl_i, zkl_l, zkl_n, zkl_r, zkl_0, zc_v, zc_n, zc_t, zd_v, zd_n, mj_tg, true_and, ↓reduceIte, not_true_eq_false, not_false_eq_true, ↓if_pos, ↓if_neg, Int.reduceLE, Int.reduceLT, Int.reduceEq, Int.reduceAdd]
        rw [hB, hA]
        simp (disch := omega) only [g135_0, g135_1, g135_4, g135_5, g135_6, g135_7, g135_8, g135_11, g135_12, g135_13, g135_14, g135_18, g135_20, g135_23, g135_24, g135_24b, g135_27, g135_28, g135_31, g135_33, g135_34, g135_35, g135_37, g135_38, g135_39, g135_40, g135_43, g135_45, g135_46, g135_50, g135_51, g135_54, g135_55, g135_56, g135_59, g135_62, g135_63, g135_63b, g135_66, g135_67_0, g135_67_1, g135_67b, g135_68, g135_69, g135_72, g135_73, g135_74, g135_75, g135_78, g135_79_0, g135_79_1, g135_79b, mg_39, ma_39, ms_39, mg_36, ma_36, ms_36, mg_38, ma_38, ms_38, mg_40, ma_40, ms_40, Option.some.injEq, exists_eq_left', zkl_i, zkl_l, zkl_n, zkl_r, zkl_0, zc_v, zc_n, zc_t, zd_v, zd_n, mj_tg, true_and, ↓reduceIte, not_true_eq_false, not_false_eq_true, ↓if_pos, ↓if_neg, Int.reduceLE, Int.reduceLT, Int.reduceEq, Int.reduceAdd]
      · have he' : ∃ j, 0 ≤ j ∧ j < 28 ∧ ¬ Y 36 (28 * s + j) = Y 38 j := by
          false_or_by_contra
          rename_i hn9
          apply he
          rw [m_ev_i]
          intro k a b
          false_or_by_contra
          rename_i h9
          exact hn9 ⟨k, a, b, h9⟩
        have hA := s135_m (o := o) (h := h) (t := t) (Q := Q) (c := c) (s := s) hR h0 (by omega) 0 28 0 1 (by omega) (by omega) (.inr (.inr ⟨rfl, rfl, he'⟩))
        have hB : z_go zP 135 7 [some (.ref o), some (zi c), some (zi s), l3, l4] [] (mj o Y h, t) Q ↔ z_go zP 135 16 [some (.ref o), some (zi c), some (zi s), some (zi 1), some (zi 0)] [] (mj o Y h, t) Q := by
          simp (disch := omega) only [g135_0, g135_1, g135_4, g135_5, g135_6, g135_7, g135_8, g135_11, g135_12, g135_13, g135_14, g135_18, g135_20, g135_23, g135_24, g135_24b, g135_27, g135_28, g135_31, g135_33, g135_34, g135_35, g135_37, g135_38, g135_39, g135_40, g135_43, g135_45, g135_46, g135_50, g135_51, g135_54, g135_55, g135_56, g135_59, g135_62, g135_63, g135_63b, g135_66, g135_67_0, g135_67_1, g135_67b, g135_68, g135_69, g135_72, g135_73, g135_74, g135_75, g135_78, g135_79_0, g135_79_1, g135_79b, mg_39, ma_39, ms_39, mg_36, ma_36, ms_36, mg_38, ma_38, ms_38, mg_40, ma_40, ms_40, Option.some.injEq, exists_eq_left', zkl_i, zkl_l, zkl_n, zkl_r, zkl_0, zc_v, zc_n, zc_t, zd_v, zd_n, mj_tg, true_and, ↓reduceIte, not_true_eq_false, not_false_eq_true, ↓if_pos, ↓if_neg, Int.reduceLE, Int.reduceLT, Int.reduceEq, Int.reduceAdd]
        have hD := ih (Y 40 s + 1).toNat (by omega) (Y 40 s) (some (zi 0)) (some (zi 28)) (by omega) (by omega) (fun h9 => (n3 h9).trans (hh h0)) (by
          intro t t1 t2 t3
          by_cases h5 : s < t
          · exact hno t t1 h5 t3
          · by_cases h6 : t = s
            · subst h6; exact he
            · intro h7
              exact n4 t t1 t2 (by omega) ((ev_hash h7).trans (hc.trans (hh h0).symm))) hx
        rw [hB, hA, ← hD]
        simp (disch := omega) only [g135_0, g135_1, g135_4, g135_5, g135_6, g135_8, g135_11, g135_12, g135_13, g135_14, g135_18, g135_20, g135_23, g135_24, g135_24b, g135_27, g135_28, g135_31, g135_33, g135_34, g135_35, g135_37, g135_38, g135_39, g135_40, g135_43, g135_45, g135_46, g135_50, g135_51, g135_54, g135_55, g135_56, g135_59, g135_62, g135_63, g135_63b, g135_66, g135_67_0, g135_67_1, g135_67b, g135_68, g135_69, g135_72, g135_73, g135_74, g135_75, g135_78, g135_79_0, g135_79_1, g135_79b, mg_39, ma_39, ms_39, mg_36, ma_36, ms_36, mg_38, ma_38, ms_38, mg_40, ma_40, ms_40, Option.some.injEq, exists_eq_left', zkl_i, zkl_l, zkl_n, zkl_r, zkl_0, zc_v, zc_n, zc_t, zd_v, zd_n, mj_tg, true_and, ↓reduceIte, not_true_eq_false, not_false_eq_true, ↓if_pos, ↓if_neg, Int.reduceLE, Int.reduceLT, Int.reduceEq, Int.reduceAdd]
    · have hx0 : x = 0 := by
        rcases hx with ⟨-, hx⟩ | hx
        · obtain ⟨t, t1, t2, t3⟩ := m_kp_i.mp hx
          exact absurd t3 (hno t t1 (by omega) t2)
        · exact hx.1
      subst hx0
      simp (disch := omega) only [g135_0, g135_1, g135_4, g135_5, g135_6, g135_7, g135_8, g135_11, g135_12, g135_13, g135_14, g135_18, g135_20, g135_23, g135_24, g135_24b, g135_27, g135_28, g135_31, g135_33, g135_34, g135_35, g135_37, g135_38, g135_39, g135_40, g135_43, g135_45, g135_46, g135_50, g135_51, g135_54, g135_55, g135_56, g135_59, g135_62, g135_63, g135_63b, g135_66, g135_67_0, g135_67_1, g135_67b, g135_68, g135_69, g135_72, g135_73, g135_74, g135_75, g135_78, g135_79_0, g135_79_1, g135_79b, mg_39, ma_39, ms_39, mg_36, ma_36, ms_36, mg_38, ma_38, ms_38, mg_40, ma_40, ms_40, Option.some.injEq, exists_eq_left', zkl_i, zkl_l, zkl_n, zkl_r, zkl_0, zc_v, zc_n, zc_t, zd_v, zd_n, mj_tg, true_and, ↓reduceIte, not_true_eq_false, not_false_eq_true, ↓if_pos, ↓if_neg, Int.reduceLE, Int.reduceLT, Int.reduceEq, Int.reduceAdd]
theorem s135 {c : Int} (hR : RG Y) (hC : CI Y) (hc : m_hn Y = c) (x : Int) (hx : (x = 1 ∧ m_kp Y) ∨ (x = 0 ∧ ¬ m_kp Y)) : z_go zP 135 0 [some (.ref o), some (zi c), none, none, none] [] (mj o Y h, t) Q ↔ Q (.inl (some (zi x))) (mj o Y h, t) := by
  have hcr := m_hs_r (fun e => Y 38 e) 28
  have c1 : 0 ≤ c := by rw [← hc]; exact hcr.1
  have c2 : c < 2003 := by rw [← hc]; exact hcr.2
  obtain ⟨⟨n1, n2⟩, n3, n4⟩ := hC.1 c c1 c2
  refine Iff.trans ?_ (s135_l hR hC c1 c2 hc x (Y 39 c + 1).toNat (Y 39 c) none none (by omega) n2 n3 (fun t t1 t2 t3 h7 => n4 t t1 t2 t3 ((ev_hash h7).trans hc)) hx)
  simp (disch := omega) only [g135_0, g135_1, g135_4, g135_5, g135_6, g135_8, g135_11, g135_12, g135_13, g135_14, g135_16, g135_18, g135_20, g135_23, g135_24, g135_24b, g135_27, g135_28, g135_31, g135_33, g135_34, g135_35, g135_37, g135_38, g135_39, g135_40, g135_43, g135_45, g135_46, g135_50, g135_51, g135_54, g135_55, g135_56, g135_59, g135_62, g135_63, g135_63b, g135_66, g135_67_0, g135_67_1, g135_67b, g135_68, g135_69, g135_72, g135_73, g135_74, g135_75, g135_78, g135_79_0, g135_79_1, g135_79b, mg_39, ma_39, ms_39, mg_36, ma_36, ms_36, mg_38, ma_38, ms_38, mg_40, ma_40, ms_40, Option.some.injEq, exists_eq_left', zkl_i, zkl_l, zkl_n, zkl_r, zkl_0, zc_v, zc_n, zc_t, zd_v, zd_n, mj_tg, true_and, ↓reduceIte, not_true_eq_false, not_false_eq_true, ↓if_pos, ↓if_neg, Int.reduceLE, Int.reduceLT, Int.reduceEq, Int.reduceAdd]
theorem s136_l {c n : Int} (n1 : 0 ≤ n) (n2 : n < 2000) {g : Int → Int} : ∀ (m : Nat) (Y : zY) (k : Int), 0 ≤ k → k + m = 28 → Y 33 0 = n → (∀ e, Y 38 e = g (28 * n + e)) → (z_go zP 136 26 [some (.ref o), some (zi c), some (zi k)] [] (mj o Y h, t) Q ↔ z_go zP 136 58 [some (.ref o), some (zi c), some (zi 28)] [] (mj o (m_ov Y 36 (28 * n + k) (28 * n + 28) g) h, t) Q) := by
  intro m
  induction m with
  | zero =>
    intro Y k h1 h2 h3 hg
    rw [m_ov_0 (by omega)]
    have e : k = 28 := by omega
    subst e
    simp (disch := omega) only [g136_0, g136_1, g136_4, g136_5, g136_6, g136_7, g136_10, g136_10b, g136_13, g136_14, g136_15, g136_18, g136_21, g136_24, g136_25, g136_26, g136_27, g136_29, g136_33, g136_36, g136_38, g136_39, g136_42, g136_43, g136_44, g136_45, g136_46, g136_49, g136_50, g136_51, g136_52, g136_55, g136_59, g136_62, g136_63, g136_66, g136_67, g136_70, g136_71, g136_72, g136_73, g136_74, g136_77, g136_78, g136_79, g136_82, g136_83, g136_84, g136_84i, g136_85, g136_88, g136_89, g136_90, g136_93, mg_33, mp_33, mg_36, ma_36, ms_36, mg_38, ma_38, ms_38, mg_40, ma_40, ms_40, mg_39, ma_39, ms_39, Option.some.injEq, exists_eq_left', zkl_i, zkl_l, zkl_n, zkl_r, zkl_0, zc_v, zc_n, zc_t, zd_v, zd_n, mj_tg, true_and, ↓reduceIte, not_true_eq_false, not_false_eq_true, ↓if_pos, ↓if_neg, Int.reduceLE, Int.reduceLT, Int.reduceEq, Int.reduceAdd]
  | succ m ih =>
    intro Y k h1 h2 h3 hg
    have h5 := m_ov_s (Y := Y) (f := 36) (a := 28 * n + k) (b := 28 * n + 28) (g := g) (by omega)
    rw [show 28 * n + k + 1 = 28 * n + (k + 1) by omega] at h5
    rw [← h5, ← ih (yu Y 36 (28 * n + k) (g (28 * n + k))) (k + 1) (by omega) (by omega) (by rw [yu_f (by decide)]; exact h3) (fun e => by rw [yu_f (by decide)]; exact hg e)]
    refine g136_26.trans ?_
    simp (disch := omega) only [g136_0, g136_1, g136_4, g136_5, g136_6, g136_7, g136_10, g136_10b, g136_13, g136_14, g136_15, g136_18, g136_21, g136_24, g136_25, g136_27, g136_29, g136_32, g136_33, g136_36, g136_38, g136_39, g136_42, g136_43, g136_44, g136_45, g136_46, g136_49, g136_50, g136_51, g136_52, g136_55, g136_59, g136_62, g136_63, g136_66, g136_67, g136_70, g136_71, g136_72, g136_73, g136_74, g136_77, g136_78, g136_79, g136_82, g136_83, g136_84, g136_84i, g136_85, g136_88, g136_89, g136_90, g136_93, mg_33, mp_33, mg_36, ma_36, ms_36, mg_38, ma_38, ms_38, mg_40, ma_40, ms_40, mg_39, ma_39, ms_39, Option.some.injEq, exists_eq_left', zkl_i, zkl_l, zkl_n, zkl_r, zkl_0, zc_v, zc_n, zc_t, zd_v, zd_n, mj_tg, true_and, ↓reduceIte, not_true_eq_false, not_false_eq_true, ↓if_pos, ↓if_neg, Int.reduceLE, Int.reduceLT, Int.reduceEq, Int.reduceAdd, h3, hg]
theorem s136 (hR : RG Y) (hC : CI Y) (hn : Y 33 0 ≤ 2003) : z_go zP 136 0 [some (.ref o), none, none] [] (mj o Y h, t) Q ↔ Q (.inl none) (mj o (m_ke Y) h, t) := by
  obtain ⟨a1, a2⟩ : 0 ≤ Y 33 0 ∧ Y 33 0 ≤ 2004 := hR 33 0
  obtain ⟨c, hc⟩ : ∃ c, m_hn Y = c := ⟨_, rfl⟩
  have hcr := m_hs_r (fun e => Y 38 e) 28
  have c1 : 0 ≤ c := by rw [← hc]; exact hcr.1
  have c2 : c < 2003 := by rw [← hc]; exact hcr.2
  unfold m_ke
  by_cases hk : m_kp Y
  · rw [if_pos hk]
    simp (disch := omega) only [g136_0, g136_1, g136_4, g136_5, g136_6, g136_7, g136_10, g136_10b, g136_13, g136_14, g136_15, g136_18, g136_21, g136_24, g136_25, g136_26, g136_27, g136_29, g136_32, g136_33, g136_36, g136_38, g136_39, g136_42, g136_43, g136_44, g136_45, g136_46, g136_49, g136_50, g136_51, g136_52, g136_55, g136_58, g136_59, g136_62, g136_63, g136_66, g136_67, g136_70, g136_71, g136_72, g136_73, g136_74, g136_77, g136_78, g136_79, g136_82, g136_83, g136_84, g136_84i, g136_85, g136_88, g136_89, g136_90, g136_93, mg_33, mp_33, mg_36, ma_36, ms_36, mg_38, ma_38, ms_38, mg_40, ma_40, ms_40, mg_39, ma_39, ms_39, Option.some.injEq, exists_eq_left', zkl_i, zkl_l, zkl_n, zkl_r, zkl_0, zc_v, zc_n, zc_t, zd_v, zd_n, mj_tg, true_and, ↓reduceIte, not_true_eq_false, not_false_eq_true, ↓if_pos, ↓if_neg, Int.reduceLE, Int.reduceLT, Int.reduceEq, Int.reduceAdd, s134 hR, hc, s135 hR hC hc 1 (.inl ⟨rfl, hk⟩)]
  · rw [if_neg hk]
    by_cases h2 : Y 33 0 < 2000
    · rw [if_pos h2, hc]
      have hA : z_go zP 136 0 [some (.ref o), none, none] [] (mj o Y h, t) Q ↔ z_go zP 136 26 [some (.ref o), some (zi c), some (zi 0)] [] (mj o Y h, t) Q := by
        simp (disch := omega) only [g136_0, g136_1, g136_4, g136_5, g136_6, g136_7, g136_10, g136_10b, g136_13, g136_14, g136_15, g136_18, g136_21, g136_24, g136_25, g136_27, g136_29, g136_32, g136_33, g136_36, g136_38, g136_39, g136_42, g136_43, g136_44, g136_45, g136_46, g136_49, g136_50, g136_51, g136_52, g136_55, g136_58, g136_59, g136_62, g136_63, g136_66, g136_67, g136_70, g136_71, g136_72, g136_73, g136_74, g136_77, g136_78, g136_79, g136_82, g136_83, g136_84, g136_84i, g136_85, g136_88, g136_89, g136_90, g136_93, mg_33, mp_33, mg_36, ma_36, ms_36, mg_38, ma_38, ms_38, mg_40, ma_40, ms_40, mg_39, ma_39, ms_39, Option.some.injEq, exists_eq_left', zkl_i, zkl_l, zkl_n, zkl_r, zkl_0, zc_v, zc_n, zc_t, zd_v, zd_n, mj_tg, true_and, ↓reduceIte, not_true_eq_false, not_false_eq_true, ↓if_pos, ↓if_neg, Int.reduceLE, Int.reduceLT, Int.reduceEq, Int.reduceAdd, s134 hR, hc, s135 hR hC hc 0 (.inr ⟨rfl, hk⟩)]
      have hB := s136_l (o := o) (h := h) (t := t) (Q := Q) (c := c) (n := Y 33 0) a1 h2 (g := fun e => Y 38 (e - 28 * Y 33 0)) 28 Y 0 (by omega) (by omega) rfl (fun e => by
        show Y 38 e = Y 38 (28 * Y 33 0 + e - 28 * Y 33 0)
        rw [show 28 * Y 33 0 + e - 28 * Y 33 0 = e by omega])
      rw [show 28 * Y 33 0 + 0 = 28 * Y 33 0 by omega] at hB
      rw [hA, hB]
      have e1 : ∀ f e, ¬ f = 36 → m_ov Y 36 (28 * Y 33 0) (28 * Y 33 0 + 28) (fun e => Y 38 (e - 28 * Y 33 0)) f e = Y f e := fun f e hh => m_ov_f hh
      generalize m_ov Y 36 (28 * Y 33 0) (28 * Y 33 0 + 28) (fun e => Y 38 (e - 28 * Y 33 0)) = Z at e1
      have e33 := e1 33 0 (by decide)
      have e39 := e1 39 c (by decide)
      simp (disch := omega) only [g136_0, g136_1, g136_4, g136_5, g136_6, g136_7, g136_10, g136_10b, g136_13, g136_14, g136_15, g136_18, g136_21, g136_24, g136_25, g136_27, g136_29, g136_32, g136_33, g136_36, g136_38, g136_39, g136_42, g136_43, g136_44, g136_45, g136_46, g136_49, g136_50, g136_51, g136_52, g136_55, g136_58, g136_59, g136_62, g136_63, g136_66, g136_67, g136_70, g136_71, g136_72, g136_73, g136_74, g136_77, g136_78, g136_79, g136_82, g136_83, g136_84, g136_84i, g136_85, g136_88, g136_89, g136_90, g136_93, mg_33, mp_33, mg_36, ma_36, ms_36, mg_38, ma_38, ms_38, mg_40, ma_40, ms_40, mg_39, ma_39, ms_39, Option.some.injEq, exists_eq_left', zkl_i, zkl_l, zkl_n, zkl_r, zkl_0, zc_v, zc_n, zc_t, zd_v, zd_n, mj_tg, true_and, ↓reduceIte, not_true_eq_false, not_false_eq_true, ↓if_pos, ↓if_neg, Int.reduceLE, Int.reduceLT, Int.reduceEq, Int.reduceAdd, e33, e39, yu_f]
    · rw [if_neg h2]
      simp (disch := omega) only [g136_0, g136_1, g136_4, g136_5, g136_6, g136_7, g136_10, g136_10b, g136_13, g136_14, g136_15, g136_18, g136_21, g136_24, g136_25, g136_26, g136_27, g136_29, g136_32, g136_33, g136_36, g136_38, g136_39, g136_42, g136_43, g136_44, g136_45, g136_46, g136_49, g136_50, g136_51, g136_52, g136_55, g136_58, g136_59, g136_62, g136_63, g136_66, g136_67, g136_70, g136_71, g136_72, g136_73, g136_74, g136_77, g136_78, g136_79, g136_82, g136_83, g136_84, g136_84i, g136_85, g136_88, g136_89, g136_90, g136_93, mg_33, mp_33, mg_36, ma_36, ms_36, mg_38, ma_38, ms_38, mg_40, ma_40, ms_40, mg_39, ma_39, ms_39, Option.some.injEq, exists_eq_left', zkl_i, zkl_l, zkl_n, zkl_r, zkl_0, zc_v, zc_n, zc_t, zd_v, zd_n, mj_tg, true_and, ↓reduceIte, not_true_eq_false, not_false_eq_true, ↓if_pos, ↓if_neg, Int.reduceLE, Int.reduceLT, Int.reduceEq, Int.reduceAdd, s134 hR, hc, s135 hR hC hc 0 (.inr ⟨rfl, hk⟩)]
end
