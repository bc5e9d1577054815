/-! SIMS: a cycle keeps what holds -/
section
variable {Y Z V : zY} {f : Nat} {e s to v p cc j : Int}
theorem dw_off (hL : LR Y) (h8 : 1 ≤ Y 8 (Y 5 p) ∧ Y 8 (Y 5 p) ≤ 8) (h : ¬ ((f = 19 ∧ 12 * s ≤ e ∧ e < 12 * s + 12) ∨ ((f = 20 ∨ f = 21 ∨ f = 22) ∧ e = s))) : m_dw Y s p f e = Y f e := by
  have := dw_mix (Z := Y) (s := s) hL h8 (fun _ _ _ _ => rfl) rfl rfl rfl rfl
  rw [mix_s] at this
  rw [this, mix_n (decide_eq_false h)]
/-- the entered run, when a word has entered -/
theorem ent_row (hL : LR Y) (h8 : 1 ≤ Y 8 (Y 5 (Y 6 s)) ∧ Y 8 (Y 5 (Y 6 s)) ≤ 8) (hf : 19 ≤ f ∧ f ≤ 22) : m_ent Y s f e = m_dw Y (61 + s) (Y 6 s) f e := by
  have e1 : m_e1 (m_la0 Y s) s = mix (fun f _ => decide (25 ≤ f ∧ f ≤ 29)) Y (m_e1 (m_la0 Y s) s) := by
    funext g i
    by_cases hg : 25 ≤ g ∧ g ≤ 29
    · rw [mix_y (decide_eq_true hg)]
    · rw [mix_n (decide_eq_false hg), m_e1_f (by omega) (by omega) (by omega), la0_g (by omega)]
  have e2 : m_e2 (m_la0 Y s) s f e = m_dw Y (61 + s) (Y 6 s) f e := by
    unfold m_e2
    rw [la0_g (f := 6) (by omega), e1, mix_dx (fun g i hg => by have := of_decide_eq_true hg; omega) hL h8, mix_n (decide_eq_false (by omega))]
  unfold m_ent
  rw [yu_f (by omega)]
  unfold m_en
  split
  · rw [yu_f (by omega)]; exact e2
  · exact e2
theorem RI_dw (hR : RG Y) (h8 : 1 ≤ Y 8 (Y 5 p) ∧ Y 8 (Y 5 p) ≤ 8) (h7 : 0 ≤ Y 7 (Y 5 p) ∧ Y 7 (Y 5 p) ≤ 32) (hw : 0 < Y 13 p) (hi : RI Y cc p) : RI (m_dw Y cc p) cc p := by
  obtain ⟨i1, i2, i3⟩ := hi
  obtain ⟨d1, d2⟩ : 0 ≤ Y 15 (24 * p + Y 20 cc) ∧ Y 15 (24 * p + Y 20 cc) ≤ 3 := hR 15 _
  have hN : ∀ j, 0 ≤ N1 Y cc j ∧ N1 Y cc j < p2 (Y 7 (Y 5 p)) := by
    intro j
    unfold N1
    split
    next hh => exact ⟨(hR 19 _).1, i1 j hh.1 hh.2⟩
    next => exact ⟨by omega, p2_pos _⟩
  refine ⟨fun j j1 j2 => ?_, fun j j1 j2 => ?_, ?_⟩
  · rw [dw_g (f := 5) (by omega), dw_g (f := 7) (by omega), dw_19 hR h8 j1 j2]
    exact r_nu_b h7.1 h7.2 hN
  · rw [dw_g (f := 5) (by omega), dw_g (f := 8) (by omega)] at j1
    rw [dw_19 hR h8 (by omega) j2]
    exact r_nu_z d2 h8.1 j1 (by rw [N1_y (by omega) j2]; exact i2 j j1 j2)
  · rw [m_dw_20, if_pos rfl, dw_g (f := 13) (by omega)]
    unfold m_to
    split
    · exact (mod_b hw).2
    · exact (mod_b hw).2
/-- between what enters and what leaves -/
def SM (Y : zY) (k t : Int) : Prop := (SV Y k ∧ J9 Y k) ∧ (RI Y k (Y 6 k) ∧ RI Y (61 + k) (Y 6 k)) ∧ (RT Y k (Y 6 k) ∧ RT Y (61 + k) (Y 6 k)) ∧ (∀ i : Nat, (i : Int) < Y 21 (61 + k) → (tr Y (Y 6 k) i).2.2 = 0) ∧ (Y 22 (61 + k) = 0 → t < Y 24 k ∧ Y 24 k = m_f2 Y k (m_f1 Y k (s_le Y k + 1 + s_ba Y k))) ∧ Y 21 k ≤ Y 21 (61 + k) ∧ (Y 21 k < Y 21 (61 + k) → t ≤ s_en Y k (Y 21 k) + Y 9 (Y 5 k)) ∧ s_le Y k ≤ t ∧ (1 ≤ Y 9 (Y 5 k)) ∧ (Y 21 (61 + k) = 0 → Y 24 k = 1) ∧ Y 22 k = 0
theorem ent_41 : m_ent Y s 41 s = m_gs (m_la0 Y s) s := by
  unfold m_ent
  rw [yu_s]
theorem la0_gs : m_gs (m_la0 Y s) s = m_gs Y s := by
  unfold m_gs m_ew m_w
  rw [la0_g (f := 6) (by omega), la0_g (f := 20) (by omega), la0_g (f := 14) (by omega), la0_g (f := 16) (by omega), la0_g (f := 19) (by omega)]
theorem ent_24 (h : m_ent Y s 22 (61 + s) = 0) : m_ent Y s 24 s = m_f2 (m_ent Y s) s (m_f1 (m_ent Y s) s (Y 24 s + 1 + if m_gs Y s = 0 then 0 else Y 12 (Y 5 s))) := by
  have h2 : m_e2 (m_la0 Y s) s 22 (61 + s) = 0 := by
    unfold m_ent m_en at h
    rw [yu_f (by decide)] at h
    by_cases c : m_e2 (m_la0 Y s) s 22 (61 + s) = 0
    · exact c
    · rw [if_neg c] at h; exact absurd h c
  have e : m_ent Y s = yu (yu (m_e2 (m_la0 Y s) s) 24 s (m_f2 (m_e2 (m_la0 Y s) s) s (m_f1 (m_e2 (m_la0 Y s) s) s (m_fr (m_la0 Y s) s)))) 41 s (m_gs (m_la0 Y s) s) := by
    unfold m_ent m_en
    rw [if_pos h2]
  have hfr : m_fr (m_la0 Y s) s = Y 24 s + 1 + if m_gs Y s = 0 then 0 else Y 12 (Y 5 s) := by
    unfold m_fr
    rw [la0_gs, la0_g (f := 24) (by omega), la0_g (f := 5) (by omega), la0_g (f := 12) (by omega)]
  rw [e, yu_f (by decide), yu_s, hfr]
  rfl
theorem SM_t1 (h : SI Y s) (hb : Y 23 s ≤ 80000000) (h0 : Y 22 s = 0) : SM (m_t1 Y s) s (Y 23 s + 1) := by
  obtain ⟨v1, j1⟩ := t1_v h hb
  obtain ⟨hv, ⟨i1, i2⟩, ⟨t1, t2⟩, i3, i4, i5, i6, i7, i8, i9, i10, i11, i12⟩ := id h
  by_cases c : Y 22 (61 + s) = 0 ∧ Y 24 s ≤ Y 23 s + 1
  · have e : m_t1 Y s = m_ent Y s := if_pos c
    rw [e] at v1 j1 ⊢
    obtain ⟨l1, l2, l3⟩ := SV_L hv
    have hR := hv.1
    have h24 : Y 24 s = Y 23 s + 1 := by have := (i4 c.1).1; omega
    obtain ⟨q1, q2, q3, q4, q5, q6⟩ := SV_ent hv c.1 (by omega)
    have h7 : 0 ≤ Y 7 (Y 5 (Y 6 s)) ∧ Y 7 (Y 5 (Y 6 s)) ≤ 32 := hR 7 _
    have h21 : 0 ≤ Y 21 s := (hR 21 s).1
    have c21 : m_ent Y s 21 s = Y 21 s := ent_col l3 l1 l2 (by omega)
    have c6 : m_ent Y s 6 s = Y 6 s := ent_f (by omega)
    have c5 : m_ent Y s 5 s = Y 5 s := ent_f (by omega)
    have ht : ∀ n, tr (m_ent Y s) (Y 6 s) n = tr Y (Y 6 s) n := tr_c (ent_f (by omega)) (ent_f (by omega)) (ent_f (by omega)) (ent_f (by omega)) hv.2.2.1 (fun f j f1 f2 _ _ => ent_f (by omega))
    have htd : ∀ n, tr (m_ent Y s) (Y 6 s) n = tr (m_dw Y (61 + s) (Y 6 s)) (Y 6 s) n := fun n => by
      rw [ht]
      exact (tr_c (dw_g (by omega)) (dw_g (by omega)) (dw_g (by omega)) (dw_g (by omega)) hv.2.2.1 (fun f j f1 f2 _ _ => dw_g (by omega)) n).symm
    have hle : s_le (m_ent Y s) s = Y 24 s := by
      unfold s_le
      rw [if_neg (by rw [q2]; omega), q2, show Y 21 (61 + s) + 1 - 1 = Y 21 (61 + s) by omega]
      exact q3
    have hba : s_ba (m_ent Y s) s = if m_gs Y s = 0 then 0 else Y 12 (Y 5 s) := by
      unfold s_ba
      rw [if_neg (by rw [q2]; omega), ent_41, la0_gs, c5, ent_f (f := 12) (by omega)]
    unfold SM
    rw [c6, hle, hba, c21, q2, c5, ent_f (f := 9) (by omega)]
    refine ⟨⟨v1, j1⟩, ⟨?_, ?_⟩, ⟨?_, ?_⟩, fun i hi => ?_, fun hh => ⟨?_, ent_24 hh⟩, by omega, fun hh => ?_, by omega, i10, fun hh => by omega, ?_⟩
    · exact RI_c (ent_f (by omega)) (ent_f (by omega)) (ent_f (by omega)) (by rw [ent_f (by omega)]; omega) (ent_col l3 l1 l2 (by omega)) (fun j j1 j2 => ent_col l3 l1 l2 (by omega)) (hR 8 _).1 i1
    · refine RI_c (Y := m_dw Y (61 + s) (Y 6 s)) ?_ ?_ ?_ ?_ (ent_row l1 l2 (by omega)) (fun j j1 j2 => ent_row l1 l2 (by omega)) ?_ (RI_dw hR l2 h7 hv.2.2.1 i2)
      · rw [ent_f (by omega), dw_g (by omega)]
      · rw [ent_f (by omega), dw_g (f := 7) (by omega)]
      · rw [ent_f (by omega), dw_g (f := 8) (by omega)]
      · rw [ent_f (by omega), dw_g (by omega)]; omega
      · rw [dw_g (f := 8) (by omega)]; exact (hR 8 _).1
    · exact RT_c ht c21 (ent_col l3 l1 l2 (by omega)) (ent_col l3 l1 l2 (by omega)) (fun j j1 j2 => ent_col l3 l1 l2 (by omega)) t1
    · exact RT_c htd (ent_row l1 l2 (by omega)) (ent_row l1 l2 (by omega)) (ent_row l1 l2 (by omega)) (fun j j1 j2 => ent_row l1 l2 (by omega)) (RT_dw hR l2 hv.2.2.1 t2)
    · rw [ht]
      by_cases hi2 : (i : Int) < Y 21 (61 + s)
      · exact i3 i hi2
      · have e9 : i = (Y 21 (61 + s)).toNat := by omega
        rw [e9, ← t2.2.2]; exact c.1
    · have := q4 hh; omega
    · by_cases h9 : Y 21 s < Y 21 (61 + s)
      · rw [ent_en hv (by omega) (by omega) h9]
        have := i8 h9; omega
      · have e9 : s_en (m_ent Y s) s (Y 21 s) = Y 24 s := by
          rw [show Y 21 s = Y 21 (61 + s) by omega]; exact q3
        rw [e9]; omega
    · rw [ent_col l3 l1 l2 (by omega)]; exact h0
  · have e : m_t1 Y s = Y := if_neg c
    rw [e] at v1 j1 ⊢
    exact ⟨⟨v1, j1⟩, ⟨i1, i2⟩, ⟨t1, t2⟩, i3, fun hh => ⟨by false_or_by_contra; exact c ⟨hh, by omega⟩, (i4 hh).2⟩, i5, fun hh => by have := i8 hh; omega, by omega, i10, i12, h0⟩
theorem tr23 {U : zY} {p t : Int} (hw : 0 < U 13 p) : ∀ n, tr (yu U 23 s t) p n = tr U p n := tr_c (yu_f (by decide)) (yu_f (by decide)) (yu_f (by decide)) (yu_f (by decide)) hw (fun f j f1 f2 _ _ => yu_f (by omega))
/-- how many are inside -/
theorem in_8 {Y : zY} {k t : Int} (hR : RG Y) (hj : ∀ i, Y 21 k ≤ i → i + 1 < Y 21 (61 + k) → s_en Y k i < s_en Y k (i + 1)) (h1 : Y 21 k < Y 21 (61 + k) → t < s_en Y k (Y 21 k) + Y 9 (Y 5 k)) (h2 : s_le Y k ≤ t) : Y 21 (61 + k) - Y 21 k ≤ 8 := by
  have h9 : Y 9 (Y 5 k) ≤ 8 := (hR 9 _).2
  have h0 : 0 ≤ Y 21 k := (hR 21 k).1
  by_cases c : Y 21 k < Y 21 (61 + k)
  · have h3 := sorted_n hj (Y 21 (61 + k) - 1 - Y 21 k).toNat (Y 21 (61 + k) - 1) (by omega) (by omega)
    have h4 := h1 c
    have h5 : s_en Y k (Y 21 (61 + k) - 1) = s_le Y k := by
      unfold s_le
      rw [if_neg (by omega)]
      rfl
    omega
  · omega
theorem SI_tk (h : SI Y s) (hb : Y 23 s ≤ 80000000) (h0 : Y 22 s = 0) : SI (m_tk Y s) s := by
  have hm := SM_t1 h hb h0
  have c6 : m_t1 Y s 6 s = Y 6 s := t1_f (by omega)
  have c5 : m_t1 Y s 5 s = Y 5 s := t1_f (by omega)
  have c9 : m_t1 Y s 9 (Y 5 s) = Y 9 (Y 5 s) := t1_f (by omega)
  unfold m_tk m_t2
  rw [← c9, ← c5, ← c6]
  have hb0 : 0 ≤ Y 23 s := (h.1.1 23 s).1
  have hbt : 0 ≤ Y 23 s + 1 ∧ Y 23 s + 1 ≤ 100000000 := by omega
  generalize m_t1 Y s = Z at *
  generalize Y 23 s + 1 = t at *
  obtain ⟨⟨hv, hj, -⟩, ⟨i1, i2⟩, ⟨t1, t2⟩, i3, i4, i5, i8, i9, i10, i12, z0⟩ := hm
  obtain ⟨l1, l2, l3⟩ := SV_L hv
  have hR := hv.1
  have g23 : ∀ (U : zY) (f : Nat) (e : Int), ¬ f = 23 → yu U 23 s t f e = U f e := fun U f e hf => yu_f hf
  by_cases c : Z 21 s < Z 21 (61 + s) ∧ s_en Z s (Z 21 s) + Z 9 (Z 5 s) = t
  · rw [if_pos c]
    have h21 : Z 21 (61 + s) ≤ 100000000 := (hR 21 _).2
    have h7 : 0 ≤ Z 7 (Z 5 (Z 6 s)) ∧ Z 7 (Z 5 (Z 6 s)) ≤ 32 := hR 7 _
    have hvD := SV_dw hv hv.2.2.1 (by have := c.1; omega)
    have eD : m_dw Z s (Z 6 s) = mix (Pc s) Z (m_dw Z s (Z 6 s)) := by
      have := dw_mix (Z := Z) (s := s) l1 l2 (fun _ _ _ _ => rfl) rfl rfl rfl rfl
      rw [mix_s] at this
      exact this
    have f1 : ∀ v, m_f1 (m_dw Z s (Z 6 s)) s v = m_f1 Z s v := fun v => by rw [eD]; exact mix_f1 (Pc_m l3)
    have f2 : ∀ v, m_f2 (m_dw Z s (Z 6 s)) s v = m_f2 Z s v := fun v => by rw [eD]; exact mix_f2 (Pc_m l3)
    have off : ∀ (f : Nat) (e : Int), ¬ ((f = 19 ∧ 12 * s ≤ e ∧ e < 12 * s + 12) ∨ ((f = 20 ∨ f = 21 ∨ f = 22) ∧ e = s)) → m_dw Z s (Z 6 s) f e = Z f e := fun f e hh => dw_off l1 l2 hh
    have d21 : m_dw Z s (Z 6 s) 21 s = Z 21 s + 1 := by rw [m_dw_21, if_pos rfl]
    have hri := RI_dw hR l2 h7 hv.2.2.1 i1
    have hrt := RT_dw hR l2 hv.2.2.1 t1
    have ht : ∀ n, tr (m_dw Z s (Z 6 s)) (Z 6 s) n = tr Z (Z 6 s) n := tr_c (off _ _ (by omega)) (off _ _ (by omega)) (off _ _ (by omega)) (off _ _ (by omega)) hv.2.2.1 (fun f j f1 f2 _ _ => off _ _ (by omega))
    have hri2 : RI (m_dw Z s (Z 6 s)) (61 + s) (Z 6 s) := RI_c (off _ _ (by omega)) (off _ _ (by omega)) (off _ _ (by omega)) (by rw [off _ _ (by omega)]; omega) (off _ _ (by omega)) (fun j j1 j2 => off _ _ (by omega)) (hR 8 _).1 i2
    have hrt2 : RT (m_dw Z s (Z 6 s)) (61 + s) (Z 6 s) := RT_c ht (off _ _ (by omega)) (off _ _ (by omega)) (off _ _ (by omega)) (fun j j1 j2 => off _ _ (by omega)) t2
    have en : ∀ i, s_en (m_dw Z s (Z 6 s)) s i = s_en Z s i := fun i => off _ _ (by omega)
    have hle : s_le (m_dw Z s (Z 6 s)) s = s_le Z s := by unfold s_le; rw [off 21 _ (by omega), off 25 _ (by omega)]
    have hba : s_ba (m_dw Z s (Z 6 s)) s = s_ba Z s := by unfold s_ba; rw [off 21 _ (by omega), off 41 _ (by omega), off 5 _ (by omega), off 12 _ (by omega)]
    have o6 := off 6 s (by omega)
    have o5 := off 5 s (by omega)
    have o9 := off 9 (Z 5 s) (by omega)
    have o21 := off 21 (61 + s) (by omega)
    have o22 := off 22 (61 + s) (by omega)
    have o24 := off 24 s (by omega)
    have hin : ∀ i, Z 21 s + 1 ≤ i → i + 1 < Z 21 (61 + s) → s_en Z s i < s_en Z s (i + 1) := fun i a b => hj i (by omega) b
    have hnx : Z 21 s + 1 < Z 21 (61 + s) → t < s_en Z s (Z 21 s + 1) + Z 9 (Z 5 s) := fun hh => by have := hj (Z 21 s) (by omega) hh; omega
    have hRD : RG (yu (m_dw Z s (Z 6 s)) 23 s t) := RG_u hvD.1 (by show 0 ≤ t; omega) (by show t ≤ 100000000; omega)
    have hin8 := in_8 (Y := m_dw Z s (Z 6 s)) (k := s) (t := t) hvD.1 (by rw [d21, o21]; intro i a b; rw [en, en]; exact hin i a b) (by rw [d21, o21, en, o5, o9]; exact hnx) (by rw [hle]; exact i9)
    refine ⟨⟨hRD, hvD.2⟩, ⟨?_, ?_⟩, ⟨?_, ?_⟩, ?_, ?_, ?_, ?_, hin8, ?_, ?_, ?_, ?_, ?_⟩
    · show RI (m_dw Z s (Z 6 s)) s (m_dw Z s (Z 6 s) 6 s); rw [o6]; exact hri
    · show RI (m_dw Z s (Z 6 s)) (61 + s) (m_dw Z s (Z 6 s) 6 s); rw [o6]; exact hri2
    · show RT (yu (m_dw Z s (Z 6 s)) 23 s t) s (m_dw Z s (Z 6 s) 6 s)
      rw [o6]
      exact RT_c (Y := m_dw Z s (Z 6 s)) (tr23 (by rw [off 13 _ (by omega)]; exact hv.2.2.1)) rfl rfl rfl (fun _ _ _ => rfl) hrt
    · show RT (yu (m_dw Z s (Z 6 s)) 23 s t) (61 + s) (m_dw Z s (Z 6 s) 6 s)
      rw [o6]
      exact RT_c (Y := m_dw Z s (Z 6 s)) (tr23 (by rw [off 13 _ (by omega)]; exact hv.2.2.1)) rfl rfl rfl (fun _ _ _ => rfl) hrt2
    · show ∀ i : Nat, (i : Int) < m_dw Z s (Z 6 s) 21 (61 + s) → (tr (yu (m_dw Z s (Z 6 s)) 23 s t) (m_dw Z s (Z 6 s) 6 s) i).2.2 = 0
      intro i hi
      rw [o21] at hi
      rw [o6, tr23 (by rw [off 13 _ (by omega)]; exact hv.2.2.1), ht]
      exact i3 i hi
    · show m_dw Z s (Z 6 s) 22 (61 + s) = 0 → yu (m_dw Z s (Z 6 s)) 23 s t 23 s < m_dw Z s (Z 6 s) 24 s ∧ m_dw Z s (Z 6 s) 24 s = m_f2 (m_dw Z s (Z 6 s)) s (m_f1 (m_dw Z s (Z 6 s)) s (s_le (m_dw Z s (Z 6 s)) s + 1 + s_ba (m_dw Z s (Z 6 s)) s))
      rw [o22, o24, f1, f2, hle, hba, yu_s]
      exact i4
    · show m_dw Z s (Z 6 s) 21 s ≤ m_dw Z s (Z 6 s) 21 (61 + s)
      rw [d21, o21]; have := c.1; omega
    · show ∀ i, m_dw Z s (Z 6 s) 21 s ≤ i → i + 1 < m_dw Z s (Z 6 s) 21 (61 + s) → s_en (m_dw Z s (Z 6 s)) s i < s_en (m_dw Z s (Z 6 s)) s (i + 1)
      rw [d21, o21]
      intro i a b
      rw [en, en]; exact hin i a b
    · show m_dw Z s (Z 6 s) 21 s < m_dw Z s (Z 6 s) 21 (61 + s) → yu (m_dw Z s (Z 6 s)) 23 s t 23 s < s_en (m_dw Z s (Z 6 s)) s (m_dw Z s (Z 6 s) 21 s) + m_dw Z s (Z 6 s) 9 (m_dw Z s (Z 6 s) 5 s)
      rw [d21, o21, en, o5, o9, yu_s]; exact hnx
    · show s_le (m_dw Z s (Z 6 s)) s ≤ yu (m_dw Z s (Z 6 s)) 23 s t 23 s
      rw [hle, yu_s]; exact i9
    · show 1 ≤ m_dw Z s (Z 6 s) 9 (m_dw Z s (Z 6 s) 5 s)
      rw [o5, o9]; exact i10
    · intro _
      show yu (m_dw Z s (Z 6 s)) 23 s t 23 s = s_en (m_dw Z s (Z 6 s)) s (m_dw Z s (Z 6 s) 21 s - 1) + m_dw Z s (Z 6 s) 9 (m_dw Z s (Z 6 s) 5 s)
      rw [d21, en, o5, o9, yu_s, show Z 21 s + 1 - 1 = Z 21 s by omega]; exact c.2.symm
    · show m_dw Z s (Z 6 s) 21 (61 + s) = 0 → m_dw Z s (Z 6 s) 24 s = 1
      rw [o21, o24]; exact i12
  · rw [if_neg c]
    have hnx : Z 21 s < Z 21 (61 + s) → t < s_en Z s (Z 21 s) + Z 9 (Z 5 s) := fun hh => by
      have := i8 hh
      false_or_by_contra
      exact c ⟨hh, by omega⟩
    have hRD : RG (yu Z 23 s t) := RG_u hR (by show 0 ≤ t; omega) (by show t ≤ 100000000; omega)
    have htr : ∀ n, tr (yu Z 23 s t) (Z 6 s) n = tr Z (Z 6 s) n := tr23 hv.2.2.1
    have hin8 := in_8 (Y := Z) hR hj hnx i9
    refine ⟨⟨hRD, hv.2⟩, ⟨i1, i2⟩, ⟨?_, ?_⟩, ?_, ?_, i5, hj, hin8, ?_, ?_, i10, fun hh => absurd z0 hh, i12⟩
    · exact RT_c (Y := Z) htr rfl rfl rfl (fun _ _ _ => rfl) t1
    · exact RT_c (Y := Z) htr rfl rfl rfl (fun _ _ _ => rfl) t2
    · show ∀ i : Nat, (i : Int) < Z 21 (61 + s) → (tr (yu Z 23 s t) (Z 6 s) i).2.2 = 0
      intro i hi
      rw [htr]; exact i3 i hi
    · show Z 22 (61 + s) = 0 → yu Z 23 s t 23 s < Z 24 s ∧ Z 24 s = m_f2 Z s (m_f1 Z s (s_le Z s + 1 + s_ba Z s))
      rw [yu_s]; exact i4
    · show Z 21 s < Z 21 (61 + s) → yu Z 23 s t 23 s < s_en Z s (Z 21 s) + Z 9 (Z 5 s)
      rw [yu_s]; exact hnx
    · show s_le Z s ≤ yu Z 23 s t 23 s
      rw [yu_s]; exact i9
end
