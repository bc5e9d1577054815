/-! SIMS: cycle by cycle comes to the same -/
def J9 (Z : zY) (s : Int) : Prop := (∀ i, Z 21 s ≤ i → i + 1 < Z 21 (61 + s) → s_en Z s i < s_en Z s (i + 1)) ∧ Z 21 (61 + s) - Z 21 s ≤ 9
section
variable {Y Z V : zY} {f : Nat} {e s to v : Int}
theorem SV_L (h : SV Y s) : LR Y ∧ (1 ≤ Y 8 (Y 5 (Y 6 s)) ∧ Y 8 (Y 5 (Y 6 s)) ≤ 8) ∧ 0 ≤ s := by
  obtain ⟨hR, ⟨s1, s2⟩, h3, h4, -⟩ := h
  have h8 : Y 8 (Y 5 (Y 6 s)) ≤ 8 := (hR 8 _).2
  exact ⟨fun e => ⟨hR 15 e, hR 16 e, hR 17 e⟩, ⟨by omega, h8⟩, by omega⟩
theorem la_f (h : ¬ (19 ≤ f ∧ f ≤ 22)) : m_la Y s to f e = Y f e := laf_f (by omega) (by omega) (by omega) (by omega) _ _
theorem la_e (h : f = 20 ∨ f = 21 ∨ f = 22) : m_la Y s to f (61 + s) = Y f (61 + s) := laf_e h _ _
theorem dw_e (h : f = 20 ∨ f = 21 ∨ f = 22) {p : Int} : m_dw Y s p f (61 + s) = Y f (61 + s) := by
  rcases h with rfl | rfl | rfl
  · rw [m_dw_20, if_neg (by omega)]
  · rw [m_dw_21, if_neg (by omega)]
  · rw [m_dw_22, if_neg (by omega)]
theorem dw_g {p : Int} (h : ¬ (19 ≤ f ∧ f ≤ 22)) : m_dw Y s p f e = Y f e := m_dw_f (by omega) (by omega) (by omega) (by omega)
theorem ent_25 {j : Int} (h : ¬ j = Y 21 (61 + s) % 16) : m_ent Y s 25 (16 * s + j) = Y 25 (16 * s + j) := by
  have e2 : m_e2 (m_la0 Y s) s 25 (16 * s + j) = Y 25 (16 * s + j) := by
    unfold m_e2
    rw [dw_g (by omega)]
    have e0 : m_e0 (m_la0 Y s) s 25 (16 * s + j) = Y 25 (16 * s + j) := by
      unfold m_e0
      rw [la0_g (f := 21) (by omega), yu_n (by omega), la0_g (by omega)]
    unfold m_e1
    split
    · rw [yu_f (by decide), yu_f (by decide)]; exact e0
    · exact e0
  unfold m_ent
  rw [yu_f (by decide)]
  unfold m_en
  split
  · rw [yu_f (by decide)]; exact e2
  · exact e2
theorem eaf_n (ht : to ≤ 90000000) : ∀ (n m : Nat) (Y : zY), SV Y s → (Y 22 (61 + s) = 0 → (to + 1 - Y 24 s).toNat ≤ n ∧ (to + 1 - Y 24 s).toNat ≤ m) → m_eaf s to n Y = m_eaf s to m Y := by
  intro n
  induction n with
  | zero =>
    intro m Y hv h
    cases m with
    | zero => rfl
    | succ m =>
      show m_la Y s to = if Y 22 (61 + s) = 0 ∧ Y 24 s ≤ to then _ else m_la Y s to
      rw [if_neg (fun hh => by have := h hh.1; omega)]
  | succ n ih =>
    intro m Y hv h
    by_cases c : Y 22 (61 + s) = 0 ∧ Y 24 s ≤ to
    · cases m with
      | zero => have := h c.1; omega
      | succ m =>
        show (if Y 22 (61 + s) = 0 ∧ Y 24 s ≤ to then m_eaf s to n (m_la (m_ent Y s) s (m_min (m_ent Y s 24 s) to)) else m_la Y s to) = if Y 22 (61 + s) = 0 ∧ Y 24 s ≤ to then m_eaf s to m (m_la (m_ent Y s) s (m_min (m_ent Y s 24 s) to)) else m_la Y s to
        rw [if_pos c, if_pos c]
        obtain ⟨q1, -, -, q4, -⟩ := SV_ent hv c.1 (by omega)
        refine ih m _ (SV_la q1) (fun hh => ?_)
        rw [la_e (by omega)] at hh
        rw [la_f (by omega)]
        have := q4 hh
        have := h c.1
        omega
    · show (if Y 22 (61 + s) = 0 ∧ Y 24 s ≤ to then _ else m_la Y s to) = _
      rw [if_neg c]
      cases m with
      | zero => rfl
      | succ m =>
        show _ = if Y 22 (61 + s) = 0 ∧ Y 24 s ≤ to then _ else m_la Y s to
        rw [if_neg c]
theorem ea_y (ht : to ≤ 90000000) (hv : SV Y s) (c : Y 22 (61 + s) = 0 ∧ Y 24 s ≤ to) : m_ea Y s to = m_ea (m_la (m_ent Y s) s (m_min (m_ent Y s 24 s) to)) s to := by
  obtain ⟨q1, -, -, q4, -⟩ := SV_ent hv c.1 (by omega)
  unfold m_ea
  rw [show (to + 1 - Y 24 s).toNat = (to - Y 24 s).toNat + 1 by omega]
  show (if Y 22 (61 + s) = 0 ∧ Y 24 s ≤ to then m_eaf s to (to - Y 24 s).toNat (m_la (m_ent Y s) s (m_min (m_ent Y s 24 s) to)) else m_la Y s to) = _
  rw [if_pos c]
  refine eaf_n ht _ _ _ (SV_la q1) (fun hh => ?_)
  rw [la_e (by omega)] at hh
  have := q4 hh
  rw [la_f (by omega)]
  omega
theorem ea_n (c : ¬ (Y 22 (61 + s) = 0 ∧ Y 24 s ≤ to)) : m_ea Y s to = m_la Y s to := by
  unfold m_ea
  cases (to + 1 - Y 24 s).toNat with
  | zero => rfl
  | succ m =>
    show (if Y 22 (61 + s) = 0 ∧ Y 24 s ≤ to then _ else m_la Y s to) = _
    rw [if_neg c]
theorem sorted_n {F : Int → Int} {a b : Int} (h : ∀ i, a ≤ i → i + 1 < b → F i < F (i + 1)) : ∀ (n : Nat) (j : Int), a + n = j → j < b → F a + n ≤ F j := by
  intro n
  induction n with
  | zero => intro j hj _; rw [← hj]; simp
  | succ n ih =>
    intro j hj hb
    have h1 := ih (j - 1) (by omega) (by omega)
    have h2 := h (j - 1) (by omega) (by omega)
    rw [show j - 1 + 1 = j by omega] at h2
    omega
/-- the ring, when a word has entered -/
theorem ent_en {i : Int} (hv : SV Y s) (hj : Y 21 (61 + s) - Y 21 s ≤ 9) (i1 : Y 21 s ≤ i) (i2 : i < Y 21 (61 + s)) : s_en (m_ent Y s) s i = s_en Y s i := by
  unfold s_en
  exact ent_25 (by omega)
theorem J_ent (hv : SV Y s) (he : Y 22 (61 + s) = 0) (h24 : Y 24 s ≤ 90000000) (hj : J9 Y s) (h9 : Y 21 (61 + s) - Y 21 s ≤ 8 ∨ (Y 21 s < Y 21 (61 + s) ∧ Y 24 s < s_en Y s (Y 21 s) + 8)) : J9 (m_ent Y s) s := by
  obtain ⟨q1, q2, q3, q4, q5, q6⟩ := SV_ent hv he h24
  obtain ⟨l1, l2, l3⟩ := SV_L hv
  have c21 : m_ent Y s 21 s = Y 21 s := ent_col l3 l1 l2 (by omega)
  have h21 : 0 ≤ Y 21 s := (hv.1 21 s).1
  have hlast := hv.2.2.2.2.1 he
  unfold J9
  rw [c21, q2]
  refine ⟨fun i i1 i2 => ?_, ?_⟩
  · rw [ent_en hv hj.2 i1 (by omega)]
    by_cases hi : i + 1 < Y 21 (61 + s)
    · rw [ent_en hv hj.2 (by omega) hi]
      exact hj.1 i i1 hi
    · have e1 : i + 1 = Y 21 (61 + s) := by omega
      have e2 : s_en (m_ent Y s) s (i + 1) = Y 24 s := by rw [e1]; exact q3
      rw [e2]
      have := hlast (by omega)
      rw [show Y 21 (61 + s) - 1 = i by omega] at this
      exact this
  · rcases h9 with h9 | ⟨h9, h10⟩
    · omega
    · have h11 := sorted_n hj.1 (Y 21 (61 + s) - 1 - Y 21 s).toNat (Y 21 (61 + s) - 1) (by omega) (by omega)
      have h12 : s_en Y s (Y 21 (61 + s) - 1) < Y 24 s := hlast (by omega)
      omega
theorem KL1 (ht : to ≤ 90000000) : ∀ (n : Nat) (Z : zY), SV Z s → J9 Z s → (Z 22 (61 + s) = 0 → (to + 1 - Z 24 s).toNat ≤ n) → m_gu Z s to → m_ea (m_dw Z s (Z 6 s)) s to = m_ea Z s to := by
  intro n
  induction n with
  | zero =>
    intro Z hv hj hf hg
    have c : ¬ (Z 22 (61 + s) = 0 ∧ Z 24 s ≤ to) := fun hh => by have := hf hh.1; omega
    rw [ea_n (Y := Z) c, ea_n (by rw [dw_e (by omega), dw_g (by omega)]; exact c), m_la_u (Y := Z), if_pos hg]
  | succ n ih =>
    intro Z hv hj hf hg
    by_cases c : Z 22 (61 + s) = 0 ∧ Z 24 s ≤ to
    · obtain ⟨l1, l2, l3⟩ := SV_L hv
      obtain ⟨q1, q2, q3, q4, q5, q6⟩ := SV_ent hv c.1 (by omega)
      have h21 : Z 21 (61 + s) ≤ 100000000 := (hv.1 21 _).2
      have hvD := SV_dw hv hv.2.2.1 (by have := hg.1; omega)
      rw [ea_y ht hv c, ea_y ht hvD (by rw [dw_e (by omega), dw_g (by omega)]; exact c), ent_dw l3 l1 l2, dw_g (by omega)]
      have c21 : m_ent Z s 21 s = Z 21 s := ent_col l3 l1 l2 (by omega)
      have c6 : m_ent Z s 6 s = Z 6 s := ent_f (by omega)
      have c5 : m_ent Z s 5 s = Z 5 s := ent_f (by omega)
      have c9 : m_ent Z s 9 (Z 5 s) = Z 9 (Z 5 s) := ent_f (by omega)
      have cE : s_en (m_ent Z s) s (Z 21 s) = s_en Z s (Z 21 s) := ent_en hv hj.2 (by omega) hg.1
      have h9 : Z 9 (Z 5 s) ≤ 8 := (hv.1 9 _).2
      by_cases g : m_gu (m_ent Z s) s (m_min (m_ent Z s 24 s) to)
      · rw [m_la_u (Y := m_ent Z s), if_pos g, c6]
      · have g1 : ¬ s_en Z s (Z 21 s) + Z 9 (Z 5 s) ≤ m_min (m_ent Z s 24 s) to := by
          intro hh
          refine g ⟨by rw [c21, q2]; have := hg.1; omega, ?_⟩
          rw [c5, c9, c21]
          have e9 : m_ent Z s 25 (16 * s + Z 21 s % 16) = s_en Z s (Z 21 s) := cE
          rw [e9]; exact hh
        have g2 : s_en Z s (Z 21 s) + Z 9 (Z 5 s) ≤ to := hg.2
        have g3 : m_min (m_ent Z s 24 s) to = m_ent Z s 24 s := by
          unfold m_min at g1 ⊢
          by_cases hh : m_ent Z s 24 s < to
          · rw [if_pos hh]
          · rw [if_neg hh] at g1; omega
        rw [g3] at g g1 ⊢
        have hJE : J9 (m_ent Z s) s := J_ent hv c.1 (by omega) hj (.inr ⟨hg.1, by omega⟩)
        have e1 : m_la (m_ent Z s) s (m_ent Z s 24 s) = m_ent Z s := by rw [m_la_u, if_neg g]
        have e2 : m_la (m_dw (m_ent Z s) s (Z 6 s)) s (m_ent Z s 24 s) = m_dw (m_ent Z s) s (Z 6 s) := by
          rw [m_la_u, if_neg]
          rintro ⟨k1, k2⟩
          rw [m_dw_21, if_pos rfl, dw_e (by omega), c21, q2] at k1
          rw [m_dw_21, if_pos rfl, dw_g (by omega), dw_g (by omega), dw_g (by omega), c21, c5, c9] at k2
          have k3 := hJE.1 (Z 21 s) (by rw [c21]; omega) (by rw [q2]; exact k1)
          rw [cE] at k3
          have k4 : m_ent Z s 25 (16 * s + (Z 21 s + 1) % 16) = s_en (m_ent Z s) s (Z 21 s + 1) := rfl
          rw [k4] at k2
          omega
        rw [e1, e2]
        have := ih (m_ent Z s) q1 hJE (fun hh => by have := q4 hh; have := hf c.1; omega) ⟨by rw [c21, q2]; have := hg.1; omega, by
          rw [c5, c9, c21]
          have e9 : m_ent Z s 25 (16 * s + Z 21 s % 16) = s_en Z s (Z 21 s) := cE
          rw [e9]; exact g2⟩
        rw [c6] at this
        exact this
    · rw [ea_n (Y := Z) c, ea_n (by rw [dw_e (by omega), dw_g (by omega)]; exact c), m_la_u (Y := Z), if_pos hg]
theorem J_dw (hj : J9 Z s) {p : Int} : J9 (m_dw Z s p) s := by
  unfold J9 s_en
  rw [m_dw_21, if_pos rfl, dw_e (by omega)]
  refine ⟨fun i i1 i2 => ?_, by have := hj.2; omega⟩
  rw [dw_g (by omega), dw_g (by omega)]
  exact hj.1 i (by omega) i2
theorem KL2 {w : Int} (ht : to ≤ 90000000) (hw : w ≤ to) : ∀ (n : Nat) (Z : zY), SV Z s → J9 Z s → (Z 21 (61 + s) - Z 21 s).toNat ≤ n → m_ea (m_la Z s w) s to = m_ea Z s to := by
  intro n
  induction n with
  | zero =>
    intro Z hv hj hn
    rw [m_la_u, if_neg (fun hh => by have := hh.1; omega)]
  | succ n ih =>
    intro Z hv hj hn
    by_cases g : m_gu Z s w
    · have h21 : Z 21 (61 + s) ≤ 100000000 := (hv.1 21 _).2
      rw [m_la_u, if_pos g, ih _ (SV_dw hv hv.2.2.1 (by have := g.1; omega)) (J_dw hj) (by rw [dw_e (by omega), m_dw_21, if_pos rfl]; omega)]
      exact KL1 ht _ Z hv hj (fun _ => Nat.le_refl _) ⟨g.1, by have := g.2; omega⟩
    · rw [m_la_u, if_neg g]
/-! one cycle -/
def m_t1 (Y : zY) (s : Int) : zY := if Y 22 (61 + s) = 0 ∧ Y 24 s ≤ Y 23 s + 1 then m_ent Y s else Y
def m_t2 (Y : zY) (s : Int) : zY := if m_t1 Y s 21 s < m_t1 Y s 21 (61 + s) ∧ s_en (m_t1 Y s) s (m_t1 Y s 21 s) + Y 9 (Y 5 s) = Y 23 s + 1 then m_dw (m_t1 Y s) s (Y 6 s) else m_t1 Y s
def m_tk (Y : zY) (s : Int) : zY := yu (m_t2 Y s) 23 s (Y 23 s + 1)
def m_tks (s : Int) : Nat → zY → zY
  | 0, Y => Y
  | n + 1, Y => if Y 22 s = 0 then m_tks s n (m_tk Y s) else Y
theorem J_si (h : SI Y s) : J9 Y s := by
  obtain ⟨hv, -, -, -, i4, i5, i6, i7, -⟩ := h
  exact ⟨i6, by omega⟩
theorem t1_f (h : ¬ ((19 ≤ f ∧ f ≤ 22) ∨ (24 ≤ f ∧ f ≤ 29) ∨ f = 41)) : m_t1 Y s f e = Y f e := by
  unfold m_t1
  split
  · exact ent_f h
  · rfl
theorem t2_f (h : ¬ ((19 ≤ f ∧ f ≤ 22) ∨ (24 ≤ f ∧ f ≤ 29) ∨ f = 41)) : m_t2 Y s f e = Y f e := by
  unfold m_t2
  split
  · rw [dw_g (by omega), t1_f h]
  · exact t1_f h
theorem t1_v (h : SI Y s) (hb : Y 23 s ≤ 80000000) : SV (m_t1 Y s) s ∧ J9 (m_t1 Y s) s := by
  have hv := h.1
  have hj := J_si h
  unfold m_t1
  split
  next c => exact ⟨(SV_ent hv c.1 (by omega)).1, J_ent hv c.1 (by omega) hj (.inl h.2.2.2.2.2.2.2.1)⟩
  next => exact ⟨hv, hj⟩
theorem ea_t2 (h : SI Y s) (hb : Y 23 s + 1 ≤ to) (ht : to ≤ 80000000) : m_ea (m_t2 Y s) s to = m_ea Y s to := by
  have hv := h.1
  obtain ⟨v1, j1⟩ := t1_v h (by omega)
  have e1 : m_ea (m_t1 Y s) s to = m_ea Y s to := by
    unfold m_t1
    split
    next c =>
      rw [ea_y (Y := Y) (by omega) hv ⟨c.1, by omega⟩]
      exact (KL2 (by omega) (by unfold m_min; split <;> omega) _ _ (SV_ent hv c.1 (by omega)).1 (J_ent hv c.1 (by omega) (J_si h) (.inl h.2.2.2.2.2.2.2.1)) (Nat.le_refl _)).symm
    next => rfl
  rw [← e1]
  have c6 : m_t1 Y s 6 s = Y 6 s := t1_f (by omega)
  have c5 : m_t1 Y s 5 s = Y 5 s := t1_f (by omega)
  have c9 : m_t1 Y s 9 (Y 5 s) = Y 9 (Y 5 s) := t1_f (by omega)
  unfold m_t2
  split
  next c =>
    have := KL1 (by omega) _ (m_t1 Y s) v1 j1 (fun _ => Nat.le_refl _) (to := to) ⟨c.1, by rw [c5, c9]; have := c.2; unfold s_en at this; omega⟩
    rw [c6] at this
    exact this
  next => rfl
/-! the clock itself is not seen -/
theorem mix_laf (n : Nat) : ∀ Y : zY, SV Y s → m_laf (mix (P23 s) Y V) s to n = mix (P23 s) (m_laf Y s to n) V := by
  induction n with
  | zero => intro Y _; rfl
  | succ n ih =>
    intro Y hv
    obtain ⟨l1, l2, l3⟩ := SV_L hv
    have f0 : ∀ (f : Nat) (e : Int), ¬ f = 23 → mix (P23 s) Y V f e = Y f e := fun f e hf => mix_n (decide_eq_false (fun hh => hf hh.1))
    have hg : m_gu (mix (P23 s) Y V) s to ↔ m_gu Y s to := by
      unfold m_gu
      rw [f0 21 _ (by omega), f0 21 _ (by omega), f0 25 _ (by omega), f0 5 _ (by omega), f0 9 _ (by omega)]
    unfold m_laf
    by_cases g : m_gu Y s to
    · have h21 : Y 21 (61 + s) ≤ 100000000 := (hv.1 21 _).2
      rw [if_pos g, if_pos (hg.mpr g), f0 6 _ (by omega), mix_dw P23_m l1 l2]
      exact ih _ (SV_dw hv hv.2.2.1 (by have := g.1; omega))
    · rw [if_neg g, if_neg (fun hh => g (hg.mp hh))]
theorem mix_la (hv : SV Y s) : m_la (mix (P23 s) Y V) s to = mix (P23 s) (m_la Y s to) V := by
  have f0 : ∀ (f : Nat) (e : Int), ¬ f = 23 → mix (P23 s) Y V f e = Y f e := fun f e hf => mix_n (decide_eq_false (fun hh => hf hh.1))
  unfold m_la
  rw [f0 21 _ (by omega), f0 21 _ (by omega)]
  exact mix_laf _ _ hv
theorem mix_eaf (ht : to ≤ 90000000) (n : Nat) : ∀ Y : zY, SV Y s → m_eaf s to n (mix (P23 s) Y V) = mix (P23 s) (m_eaf s to n Y) V := by
  induction n with
  | zero => intro Y hv; exact mix_la hv
  | succ n ih =>
    intro Y hv
    obtain ⟨l1, l2, l3⟩ := SV_L hv
    have f0 : ∀ (f : Nat) (e : Int), ¬ f = 23 → mix (P23 s) Y V f e = Y f e := fun f e hf => mix_n (decide_eq_false (fun hh => hf hh.1))
    unfold m_eaf
    rw [f0 22 _ (by omega), f0 24 _ (by omega)]
    by_cases c : Y 22 (61 + s) = 0 ∧ Y 24 s ≤ to
    · rw [if_pos c, if_pos c, mix_ent P23_m l1 l2, mix_n (f := 24) (decide_eq_false (by omega)), mix_la (SV_ent hv c.1 (by omega)).1]
      exact ih _ (SV_la (SV_ent hv c.1 (by omega)).1)
    · rw [if_neg c, if_neg c, mix_la hv]
theorem ea_23 (ht : to ≤ 90000000) (hv : SV Y s) : m_ea (yu Y 23 s v) s to = yu (m_ea Y s to) 23 s v := by
  rw [P23_u, P23_u]
  unfold m_ea
  rw [mix_n (f := 24) (decide_eq_false (by omega))]
  exact mix_eaf ht _ _ hv
end
