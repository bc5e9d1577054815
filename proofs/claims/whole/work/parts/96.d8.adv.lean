/-! A RUN GOES ON, in the class as in the model -/
def PG (T : Nat → Nat) (Ln : Nat → Int) (M : Nat → Int → Value) (A : Int → Nat) (W : Int → Int → Nat) (Y : zY) (p : Int) : Prop := PrAt T Ln M (A p) (A (Y 5 p)) (W p) (Y 13 p) ∧ MaAt T M (A (Y 5 p)) (Y 7 (Y 5 p)) (Y 8 (Y 5 p)) ∧ (∀ j, 0 ≤ j → j < Y 13 p → WdAt T M (W p j) (Y 14 (24 * p + j)) (Y 15 (24 * p + j)) (Y 16 (24 * p + j)) (Y 17 (24 * p + j)) (Y 18 (24 * p + j))) ∧ (1 ≤ Y 7 (Y 5 p) ∧ Y 7 (Y 5 p) ≤ 32) ∧ (1 ≤ Y 8 (Y 5 p) ∧ Y 8 (Y 5 p) ≤ 8) ∧ (0 < Y 13 p ∧ Y 13 p ≤ 24)
def N1 (Y : zY) (cc : Int) : Int → Int := fun j => if 0 ≤ j ∧ j < 12 then Y 19 (12 * cc + j) else 0
section
variable {T T' : Nat → Nat} {Ln Ln' : Nat → Int} {M M' : Nat → Int → Value} {n u x n' u' a b : Nat} {A A' : Int → Nat} {W W' : Int → Int → Nat} {Ow Ow' : Nat → Int} {X X' : Int → Int} {Y Z : zY} {c n0 u0 k r pl j p cc : Int} {cd : Nat → Int} {Q : zU → zS → Prop} {t : Nat × Nat}
theorem PG_of (h : RZ T Ln M n u x A W Ow X Y c n0 u0) (d1 : m_th Y p) (d2 : Y 3 p = 2) (hw : 0 < Y 13 p) : PG T Ln M A W Y p := by
  obtain ⟨⟨p1, -, p3⟩, hm, ⟨m1, -⟩, -, m7, m8, wr, an, mn'⟩ := prog_k h d1 d2
  exact ⟨p1, m1, fun j j1 j2 => (p3 j j1 j2).1, m7, m8, hw, wr.2⟩
theorem PG_f (hM : ∀ b j, (T b = 2 ∨ T b = 4 ∨ T b = 7 ∨ T b = 104) → M' b j = M b j) (h5 : Z 5 p = Y 5 p) (h7 : Z 7 (Y 5 p) = Y 7 (Y 5 p)) (h8 : Z 8 (Y 5 p) = Y 8 (Y 5 p)) (h13 : Z 13 p = Y 13 p) (hw : ∀ (f : Nat) (j : Int), 14 ≤ f → f ≤ 18 → 0 ≤ j → j < 24 → Z f (24 * p + j) = Y f (24 * p + j)) (h : PG T Ln M A W Y p) : PG T Ln M' A W Z p := by
  obtain ⟨⟨⟨a1, a2, a3⟩, a4, a5, a6, a7, a8⟩, ⟨b1, b2, b3, b4⟩, w, m7, m8, w1, w2⟩ := h
  unfold PG
  rw [h5, h7, h8, h13]
  refine ⟨⟨⟨a1, a2, a3⟩, by rw [hM _ _ (by omega)]; exact a4, by rw [hM _ _ (by omega)]; exact a5, by rw [hM _ _ (by omega)]; exact a6, by rw [hM _ _ (by omega)]; exact a7, fun j j1 j2 => by rw [hM _ _ (by omega)]; exact a8 j j1 j2⟩, ⟨b1, by rw [hM _ _ (by omega)]; exact b2, by rw [hM _ _ (by omega)]; exact b3, by rw [hM _ _ (by omega)]; exact b4⟩, fun j j1 j2 => ?_, m7, m8, w1, w2⟩
  obtain ⟨t1, t2, t3, t4, t5, t6⟩ := w j j1 j2
  rw [hw 14 j (by omega) (by omega) j1 (by omega), hw 15 j (by omega) (by omega) j1 (by omega), hw 16 j (by omega) (by omega) j1 (by omega), hw 17 j (by omega) (by omega) j1 (by omega), hw 18 j (by omega) (by omega) j1 (by omega)]
  exact ⟨t1, by rw [hM _ _ (by omega)]; exact t2, by rw [hM _ _ (by omega)]; exact t3, by rw [hM _ _ (by omega)]; exact t4, by rw [hM _ _ (by omega)]; exact t5, by rw [hM _ _ (by omega)]; exact t6⟩
theorem N1_y (h1 : 0 ≤ j) (h2 : j < 12) : N1 Y cc j = Y 19 (12 * cc + j) := if_pos ⟨h1, h2⟩
theorem yu_r {d v : Int} : yu Y 19 (12 * cc + d) v 19 (12 * cc + j) = if j = d then v else Y 19 (12 * cc + j) := by
  rw [yu_e]
  by_cases h : j = d
  · rw [if_pos h, if_pos (by omega)]
  · rw [if_neg h, if_neg (by omega)]
theorem dw_19 (hR : RG Y) (h8 : 1 ≤ Y 8 (Y 5 p) ∧ Y 8 (Y 5 p) ≤ 8) (j1 : 0 ≤ j) (j2 : j < 12) : m_dw Y cc p 19 (12 * cc + j) = r_nu (N1 Y cc) (Y 14 (24 * p + Y 20 cc)) (Y 15 (24 * p + Y 20 cc)) (Y 16 (24 * p + Y 20 cc)) (Y 17 (24 * p + Y 20 cc)) (Y 18 (24 * p + Y 20 cc)) (Y 7 (Y 5 p)) (Y 8 (Y 5 p)) j := by
  obtain ⟨x1, x2⟩ : 0 ≤ Y 16 (24 * p + Y 20 cc) ∧ Y 16 (24 * p + Y 20 cc) ≤ 3 := hR 16 _
  obtain ⟨y1, y2⟩ : 0 ≤ Y 17 (24 * p + Y 20 cc) ∧ Y 17 (24 * p + Y 20 cc) ≤ 3 := hR 17 _
  have hx : m_x Y cc p = N1 Y cc (Y 16 (24 * p + Y 20 cc)) := (N1_y (j := Y 16 (24 * p + Y 20 cc)) (by omega) (by omega)).symm
  have hy : m_y Y cc p = N1 Y cc (Y 17 (24 * p + Y 20 cc)) := (N1_y (j := Y 17 (24 * p + Y 20 cc)) (by omega) (by omega)).symm
  have hm := mod_b (v := N1 Y cc (Y 16 (24 * p + Y 20 cc))) (m := Y 8 (Y 5 p)) (by omega)
  have hat : m_at Y cc p = 12 * cc + (4 + N1 Y cc (Y 16 (24 * p + Y 20 cc)) % Y 8 (Y 5 p)) := by
    unfold m_at
    rw [hx, Int.add_assoc]
  have hw : m_w Y cc p = 24 * p + Y 20 cc := rfl
  rw [m_dw_19]
  unfold m_nu r_nu
  rw [hat, hx, hy, hw, N1_y j1 j2]
  split
  · exact yu_r
  · split
    · exact yu_r
    · split
      · exact yu_r
      · split
        · exact yu_r
        · split
          · rw [yu_r, N1_y (j := 4 + N1 Y cc (Y 16 (24 * p + Y 20 cc)) % Y 8 (Y 5 p)) (by omega) (by omega)]
          · split
            · exact yu_r
            · rfl
theorem r_nu_c {N N' : Int → Int} {op d v w nn bits : Int} (hN : ∀ j, 0 ≤ j → j < 12 → N' j = N j) (v1 : 0 ≤ v ∧ v ≤ 3) (w1 : 0 ≤ w ∧ w ≤ 3) (hpl : 1 ≤ pl ∧ pl ≤ 8) (j1 : 0 ≤ j) (j2 : j < 12) : r_nu N' op d v w nn bits pl j = r_nu N op d v w nn bits pl j := by
  have hm := mod_b (v := N v) (m := pl) (by omega)
  unfold r_nu
  rw [hN v (by omega) (by omega), hN w (by omega) (by omega), hN j j1 j2, hN (4 + N v % pl) (by omega) (by omega)]
theorem r_nu_b {N : Int → Int} {op d v w nn bits : Int} (hb1 : 0 ≤ bits) (hb2 : bits ≤ 32) (hN : ∀ j, 0 ≤ N j ∧ N j < p2 bits) : r_nu N op d v w nn bits pl j < p2 bits := by
  have hm := fun z => mod_b (v := z) (m := p2 bits) (p2_pos bits)
  have h1 := fun z => (hN z).2
  unfold r_nu
  split
  · split
    · exact (hm _).2
    · exact h1 _
  · split
    · split
      · exact (hm _).2
      · exact h1 _
    · split
      · split
        · exact (hm _).2
        · exact h1 _
      · split
        · split
          · exact (lland_lt hb1 hb2 (hN v).1 (hN v).2 (hN w).1 (hN w).2).2
          · exact h1 _
        · split
          · split
            · exact h1 _
            · exact h1 _
          · split
            · split
              · exact h1 _
              · exact h1 _
            · exact h1 _
theorem r_nu_z {N : Int → Int} {op d v w nn bits : Int} (hd : d ≤ 3) (hpl : 1 ≤ pl) (hj : 4 + pl ≤ j) (hN : N j = 0) : r_nu N op d v w nn bits pl j = 0 := by
  have hm := mod_b (v := N v) (m := pl) (by omega)
  unfold r_nu
  have c1 : ¬ j = d := by omega
  have c2 : ¬ j = 4 + N v % pl := by omega
  simp only [if_neg c1, if_neg c2, hN, ite_self]
theorem adv (t : Nat × Nat) (hR : RG Y) (hp : PG T Ln M A W Y p) (hr : RN T Ln M A Y a cc p) (hi : RI Y cc p) (he : Y 22 cc = 0) (hs : Y 21 cc < 100000000) : ∃ M', (∀ Q : zU → zS → Prop, z_go zP 38 0 [some (.ref a), none, none, none] [] (hj T Ln M, t) Q ↔ Q (.inl none) (hj T Ln M', t)) ∧ RN T Ln M' A (m_dw Y cc p) a cc p ∧ RI (m_dw Y cc p) cc p ∧ PG T Ln M' A W (m_dw Y cc p) p ∧ ∀ b j, ¬ b = a → ¬ b = a + 1 → ¬ b = a + 2 → M' b j = M b j := by
  obtain ⟨g1, g2, g3, g4, g5, g6⟩ := id hp
  obtain ⟨i1, i2, i3⟩ := hi
  obtain ⟨x1, x2⟩ : 0 ≤ Y 16 (24 * p + Y 20 cc) ∧ Y 16 (24 * p + Y 20 cc) ≤ 3 := hR 16 _
  obtain ⟨y1, y2⟩ : 0 ≤ Y 17 (24 * p + Y 20 cc) ∧ Y 17 (24 * p + Y 20 cc) ≤ 3 := hR 17 _
  obtain ⟨o1, o2⟩ : 0 ≤ Y 14 (24 * p + Y 20 cc) ∧ Y 14 (24 * p + Y 20 cc) ≤ 7 := hR 14 _
  obtain ⟨d1, d2⟩ : 0 ≤ Y 15 (24 * p + Y 20 cc) ∧ Y 15 (24 * p + Y 20 cc) ≤ 3 := hR 15 _
  obtain ⟨v1, v2⟩ : -2147483648 ≤ Y 18 (24 * p + Y 20 cc) ∧ Y 18 (24 * p + Y 20 cc) ≤ 2147483647 := hR 18 _
  have q20 : 0 ≤ Y 20 cc := (hR 20 cc).1
  have q21 : 0 ≤ Y 21 cc := (hR 21 cc).1
  have hN : ∀ j, 0 ≤ N1 Y cc j ∧ N1 Y cc j < p2 (Y 7 (Y 5 p)) := by
    intro j
    unfold N1
    split
    next hh => exact ⟨(hR 19 _).1, i1 j hh.1 hh.2⟩
    next => exact ⟨by omega, p2_pos _⟩
  have hr' : RnAt T Ln M a (A p) (Y 8 (Y 5 p)) (N1 Y cc) (Y 20 cc) (Y 21 cc) (Y 22 cc) := RnAt_f ⟨rfl, rfl⟩ ⟨rfl, rfl, rfl⟩ ⟨rfl, rfl, rfl⟩ rfl g5.2 (fun j j1 j2 => N1_y j1 j2) hr
  have h38 := s38 (t := t) hr' g1 g2 (g3 (Y 20 cc) q20 i3) he q20 i3 g6.2 o1 o2 d1 d2 x1 x2 y1 y2 v1 v2 (by omega) g4.2 (by omega) g5.2 hN q21 hs
  obtain ⟨M', k1, k2, k3⟩ := h38
  have f0 : ∀ (f : Nat) (e : Int), ¬ (19 ≤ f ∧ f ≤ 22) → m_dw Y cc p f e = Y f e := fun f e hf => m_dw_f (by omega) (by omega) (by omega) (by omega)
  have e20 : m_dw Y cc p 20 cc = r_to (N1 Y cc) (Y 14 (24 * p + Y 20 cc)) (Y 16 (24 * p + Y 20 cc)) (Y 18 (24 * p + Y 20 cc)) (Y 13 p) (Y 20 cc) := by
    rw [m_dw_20, if_pos rfl]
    unfold m_to r_to
    rw [N1_y (by omega) (by omega)]
    rfl
  refine ⟨M', k1, ?_, ⟨fun j j1 j2 => ?_, fun j j1 j2 => ?_, ?_⟩, ?_, k3⟩
  · unfold RN
    rw [f0 5 p (by omega), f0 8 _ (by omega), e20, m_dw_21, if_pos rfl, m_dw_22, if_pos rfl]
    exact RnAt_f ⟨rfl, rfl⟩ ⟨rfl, rfl, rfl⟩ ⟨rfl, rfl, rfl⟩ rfl g5.2 (fun j j1 j2 => dw_19 hR g5 j1 j2) k2
  · rw [f0 5 p (by omega), f0 7 _ (by omega), dw_19 hR g5 j1 j2]
    exact r_nu_b (by omega) g4.2 hN
  · rw [f0 5 p (by omega), f0 8 _ (by omega)] at j1
    rw [dw_19 hR g5 (by omega) j2]
    exact r_nu_z d2 g5.1 j1 (by rw [N1_y (by omega) j2]; exact i2 j j1 j2)
  · rw [e20, f0 13 p (by omega)]
    unfold r_to
    split
    · exact (mod_b g6.1).2
    · exact (mod_b g6.1).2
  · obtain ⟨⟨r1, r2, r3, -⟩, -⟩ := hr'
    refine PG_f (fun b j hb => k3 b j (fun hh => by rw [hh, r1] at hb; omega) (fun hh => by rw [hh, r2] at hb; omega) (fun hh => by rw [hh, r3] at hb; omega)) (f0 5 p (by omega)) (f0 7 _ (by omega)) (f0 8 _ (by omega)) (f0 13 p (by omega)) (fun f j f1 f2 _ _ => f0 f _ (by omega)) hp
/-- and stands where the words bring it -/
theorem RT_dw (hR : RG Y) (h8 : 1 ≤ Y 8 (Y 5 p) ∧ Y 8 (Y 5 p) ≤ 8) (hw : 0 < Y 13 p) (h : RT Y cc p) : RT (m_dw Y cc p) cc p := by
  obtain ⟨h1, h2, h3⟩ := h
  have f0 : ∀ (f : Nat) (e : Int), ¬ (19 ≤ f ∧ f ≤ 22) → m_dw Y cc p f e = Y f e := fun f e hf => m_dw_f (by omega) (by omega) (by omega) (by omega)
  have ht : ∀ n, tr (m_dw Y cc p) p n = tr Y p n := tr_c (f0 5 p (by omega)) (f0 7 _ (by omega)) (f0 8 _ (by omega)) (f0 13 p (by omega)) hw (fun f j f1 f2 _ _ => f0 f _ (by omega))
  have q21 : 0 ≤ Y 21 cc := (hR 21 cc).1
  obtain ⟨x1, x2⟩ : 0 ≤ Y 16 (24 * p + Y 20 cc) ∧ Y 16 (24 * p + Y 20 cc) ≤ 3 := hR 16 _
  obtain ⟨y1, y2⟩ : 0 ≤ Y 17 (24 * p + Y 20 cc) ∧ Y 17 (24 * p + Y 20 cc) ≤ 3 := hR 17 _
  have e21 : (m_dw Y cc p 21 cc).toNat = (Y 21 cc).toNat + 1 := by
    rw [m_dw_21, if_pos rfl]; omega
  unfold RT
  rw [e21, ht]
  have et : tr Y p ((Y 21 cc).toNat + 1) = t_st Y p (tr Y p (Y 21 cc).toNat) := rfl
  rw [et]
  unfold t_st
  rw [← h2]
  refine ⟨fun j j1 j2 => ?_, ?_, ?_⟩
  · rw [dw_19 hR h8 j1 j2]
    exact r_nu_c (fun j j1 j2 => by rw [N1_y j1 j2]; exact h1 j j1 j2) ⟨x1, x2⟩ ⟨y1, y2⟩ h8 j1 j2
  · rw [m_dw_20, if_pos rfl]
    unfold m_to r_to m_x
    show (if Y 14 (24 * p + Y 20 cc) = 6 ∧ ¬ Y 19 (12 * cc + Y 16 (24 * p + Y 20 cc)) = 0 then _ else _) = _
    rw [h1 _ (by omega) (by omega)]
    rfl
  · rw [m_dw_22, if_pos rfl]
    rfl
/-! where a word leaves the rest as it was -/
theorem dw_c {f : Nat} {e : Int} (hR : RG Y) (h8 : 1 ≤ Y 8 (Y 5 p) ∧ Y 8 (Y 5 p) ≤ 8) (hk : cc = k ∨ cc = 61 + k) (k1 : 1 ≤ k) (k2 : k ≤ 60) (hc : ¬ cow f e = k) : m_dw Y cc p f e = Y f e := by
  obtain ⟨d1, d2⟩ : 0 ≤ Y 15 (24 * p + Y 20 cc) ∧ Y 15 (24 * p + Y 20 cc) ≤ 3 := hR 15 _
  have hm := mod_b (v := m_x Y cc p) (m := Y 8 (Y 5 p)) (by omega)
  have c2 : ∀ g : Nat, (g = 20 ∨ g = 21 ∨ g = 22) → ¬ (f = g ∧ e = cc) := by
    rintro g g1 ⟨rfl, rfl⟩
    apply hc
    unfold cow
    rw [if_neg (by omega), if_pos g1]
    omega
  have c3 : ∀ i : Int, 0 ≤ i → i < 12 → ¬ (f = 19 ∧ e = 12 * cc + i) := by
    rintro i i1 i2 ⟨rfl, rfl⟩
    apply hc
    unfold cow
    rw [if_pos rfl]
    omega
  have c4 : ∀ v, yu Y 19 (12 * cc + Y 15 (m_w Y cc p)) v f e = Y f e := fun v => yu_w (c3 _ d1 (by show Y 15 (24 * p + Y 20 cc) < 12; omega))
  have c5 : ∀ v, yu Y 19 (m_at Y cc p) v f e = Y f e := fun v => yu_w (fun hh => c3 (4 + m_x Y cc p % Y 8 (Y 5 p)) (by omega) (by omega) ⟨hh.1, by rw [hh.2]; unfold m_at; omega⟩)
  unfold m_dw
  rw [yu_w (c2 21 (by omega)), yu_w (c2 20 (by omega)), yu_w (c2 22 (by omega))]
  unfold m_nu
  split
  · exact c4 _
  · split
    · exact c4 _
    · split
      · exact c4 _
      · split
        · exact c4 _
        · split
          · exact c4 _
          · split
            · exact c5 _
            · rfl
theorem it_c {f : Nat} {e : Int} (hk : cc = k ∨ cc = 61 + k) (k1 : 1 ≤ k) (k2 : k ≤ 60) (hc : ¬ cow f e = k) : ∀ (n : Nat) (Y : zY), RG Y → (1 ≤ Y 8 (Y 5 p) ∧ Y 8 (Y 5 p) ≤ 8) → 0 < Y 13 p → Y 21 cc + n ≤ 100000000 → m_it Y cc p n f e = Y f e := by
  intro n
  induction n with
  | zero => intro Y _ _ _ _; rfl
  | succ n ih =>
    intro Y hR h8 hw hs
    unfold m_it
    split
    · rw [ih _ (RG_dw hR hw (by omega)) ?_ ?_ ?_, dw_c hR h8 hk k1 k2 hc]
      · rw [m_dw_f (by decide) (by decide) (by decide) (by decide), m_dw_f (by decide) (by decide) (by decide) (by decide)]; exact h8
      · rw [m_dw_f (by decide) (by decide) (by decide) (by decide)]; exact hw
      · rw [m_dw_21, if_pos rfl]; omega
    · rfl
/-! step -/
theorem s61_l {x : Nat} {kk N : Int} (hN : N ≤ 2000) : ∀ (m : Nat) (Y : zY) (M : Nat → Int → Value) (i : Int), RG Y → PG T Ln M A W Y p → RN T Ln M A Y a cc p → RI Y cc p → 0 ≤ i → i + m = N → Y 21 cc + m ≤ 100000000 → ∃ M', (∀ Q : zU → zS → Prop, z_go zP 61 30 [some (.ref x), some (zi kk), some (zi N), some (.ref a), some (zi i)] [] (hj T Ln M, t) Q ↔ Q (.inl (some (zi (i + (m_it Y cc p m 21 cc - Y 21 cc))))) (hj T Ln M', t)) ∧ RN T Ln M' A (m_it Y cc p m) a cc p ∧ RI (m_it Y cc p m) cc p ∧ ∀ b j, ¬ b = a → ¬ b = a + 1 → ¬ b = a + 2 → M' b j = M b j := by
  intro m
  induction m with
  | zero =>
    intro Y M i hR hp hr hi i1 i2 h21
    refine ⟨M, fun Q => ?_, hr, hi, fun _ _ _ _ _ => rfl⟩
    have e : i + (m_it Y cc p 0 21 cc - Y 21 cc) = i := by show i + (Y 21 cc - Y 21 cc) = i; omega
    rw [e]
    simp (disch := first | omega | (simp (disch := omega) only [tu_s, tu_n, lu_s, lu_n]; done) | (simp (disch := omega) only [tu_s, tu_n, lu_s, lu_n]; omega)) only [g61_0, g61_1, g61_2, g61_5, g61_5n, g61_6, g61_7, g61_8, g61_11, g61_14, g61_14b, g61_17, g61_27, g61_28, g61_30, g61_32, g61_33, g61_36, g61_36n, g61_37, g61_40, g61_40b, g61_43, g61_43n, g61_44, g61_47, g61_50, g61_53, g61_55, Int.reduceToNat, jtg, mu_s, mu_n, mu_j, mn_s, mn_n, jg_5_6, Option.some.injEq, exists_eq_left', zkl_i, zkl_l, zkl_n, zkl_r, zkl_0, zc_v, zc_n, zc_t, zd_v, zd_n, mj_tg, true_and, ↓reduceIte, not_true_eq_false, not_false_eq_true, ↓if_pos, ↓if_neg, Int.reduceLE, Int.reduceLT, Int.reduceEq, Int.reduceAdd]
  | succ m ih =>
    intro Y M i hR hp hr hi i1 i2 h21
    obtain ⟨⟨r1, -⟩, -, -, -, -, -, -, r12, -⟩ := id hr
    obtain ⟨y1, y2⟩ : 0 ≤ Y 22 cc ∧ Y 22 cc ≤ 1 := hR 22 cc
    unfold m_it
    by_cases he : Y 22 cc = 0
    · rw [if_pos he]
      obtain ⟨M1, k1, k2, k3, k4, k5⟩ := adv t hR hp hr hi he (by omega)
      have e21 : m_dw Y cc p 21 cc = Y 21 cc + 1 := by rw [m_dw_21, if_pos rfl]
      obtain ⟨M2, l1, l2, l3, l4⟩ := ih (m_dw Y cc p) M1 (i + 1) (RG_dw hR hp.2.2.2.2.2.1 (by omega)) k4 k2 k3 (by omega) (by omega) (by rw [e21]; omega)
      refine ⟨M2, fun Q => ?_, l2, l3, fun b j b1 b2 b3 => by rw [l4 b j b1 b2 b3, k5 b j b1 b2 b3]⟩
      have e : i + (m_it (m_dw Y cc p) cc p m 21 cc - Y 21 cc) = i + 1 + (m_it (m_dw Y cc p) cc p m 21 cc - m_dw Y cc p 21 cc) := by rw [e21]; omega
      rw [e, ← l1 Q]
      rw [he] at r12
      refine g61_30.trans ?_
      simp (disch := first | omega | (simp (disch := omega) only [tu_s, tu_n, lu_s, lu_n]; done) | (simp (disch := omega) only [tu_s, tu_n, lu_s, lu_n]; omega)) only [g61_0, g61_1, g61_2, g61_5, g61_5n, g61_6, g61_7, g61_8, g61_11, g61_14, g61_14b, g61_17, g61_27, g61_28, g61_32, g61_33, g61_36, g61_36n, g61_37, g61_40, g61_40b, g61_43, g61_43n, g61_44, g61_47, g61_50, g61_53, g61_55, Int.reduceToNat, jtg, mu_s, mu_n, mu_j, mn_s, mn_n, jg_5_6, Option.some.injEq, exists_eq_left', zkl_i, zkl_l, zkl_n, zkl_r, zkl_0, zc_v, zc_n, zc_t, zd_v, zd_n, mj_tg, true_and, ↓reduceIte, not_true_eq_false, not_false_eq_true, ↓if_pos, ↓if_neg, Int.reduceLE, Int.reduceLT, Int.reduceEq, Int.reduceAdd, r12, k1]
    · rw [if_neg he]
      refine ⟨M, fun Q => ?_, hr, hi, fun _ _ _ _ _ => rfl⟩
      have e : i + (Y 21 cc - Y 21 cc) = i := by omega
      have e1 : Y 22 cc = 1 := by omega
      rw [e1] at r12
      rw [e]
      simp (disch := first | omega | (simp (disch := omega) only [tu_s, tu_n, lu_s, lu_n]; done) | (simp (disch := omega) only [tu_s, tu_n, lu_s, lu_n]; omega)) only [g61_0, g61_1, g61_2, g61_5, g61_5n, g61_6, g61_7, g61_8, g61_11, g61_14, g61_14b, g61_17, g61_27, g61_28, g61_30, g61_32, g61_33, g61_36, g61_36n, g61_37, g61_40, g61_40b, g61_43, g61_43n, g61_44, g61_47, g61_50, g61_53, g61_55, Int.reduceToNat, jtg, mu_s, mu_n, mu_j, mn_s, mn_n, jg_5_6, Option.some.injEq, exists_eq_left', zkl_i, zkl_l, zkl_n, zkl_r, zkl_0, zc_v, zc_n, zc_t, zd_v, zd_n, mj_tg, true_and, ↓reduceIte, not_true_eq_false, not_false_eq_true, ↓if_pos, ↓if_neg, Int.reduceLE, Int.reduceLT, Int.reduceEq, Int.reduceAdd, r12]
/-- a run alone has changed -/
theorem RZ_run (h : RZ T Ln M n u x A W Ow X Y c n0 u0) (d1 : m_th Y r) (d2 : Y 3 r = 3) (hc : 0 ≤ c) (hc2 : c ≤ 4000) (m : Nat) (hm : Y 21 r + m ≤ 2000 * (c + 1)) (hr : RN T Ln M' A (m_it (yu Y 0 0 0) r (Y 5 r) m) (A r) r (Y 5 r)) (hi : RI (m_it (yu Y 0 0 0) r (Y 5 r) m) r (Y 5 r)) (hM : ∀ b j, ¬ b = A r → ¬ b = A r + 1 → ¬ b = A r + 2 → M' b j = M b j) : RZ T Ln M' n u x A W Ow X (m_it (yu Y 0 0 0) r (Y 5 r) m) (c + 1) n0 u0 ∧ FR T T Ln Ln M M' Ow Ow := by
  have hR := h.1.1
  have hI := h.1.2.1
  have hB := h.1.2.2.1
  obtain ⟨hrf, hw⟩ := (hI r d1.1.1 d1.1.2).2.2.2.1 d2
  have hp := rf_th d1 hrf
  obtain ⟨-, -, -, -, m7, m8, -⟩ := prog_k h hp hrf.2.1
  have hr1 := d1.1
  have h60 : Y 2 0 ≤ 60 := (hR 2 0).2
  have hb := hB r
  have z : ∀ (f : Nat) (e : Int), ¬ f = 0 → yu Y 0 0 0 f e = Y f e := fun f e hf => yu_f hf
  have h8 : 1 ≤ yu Y 0 0 0 8 (yu Y 0 0 0 5 (Y 5 r)) ∧ yu Y 0 0 0 8 (yu Y 0 0 0 5 (Y 5 r)) ≤ 8 := by rw [z 5 _ (by omega), z 8 _ (by omega)]; exact m8
  have h13 : 0 < yu Y 0 0 0 13 (Y 5 r) := by rw [z 13 _ (by omega)]; exact hw
  have h21 : yu Y 0 0 0 21 r + m ≤ 100000000 := by rw [z 21 _ (by omega)]; omega
  have hRZ : RG (m_it (yu Y 0 0 0) r (Y 5 r) m) := RG_it m _ (RG_0 hR) h13 h21
  have zf : ∀ (f : Nat) (e : Int), ¬ (19 ≤ f ∧ f ≤ 22) → ¬ f = 0 → m_it (yu Y 0 0 0) r (Y 5 r) m f e = Y f e := fun f e hf h0 => by rw [m_it_f (by omega) (by omega) (by omega) (by omega), z f e h0]
  have zc : ∀ (f : Nat) (e : Int), ¬ cow f e = r → ¬ f = 0 → m_it (yu Y 0 0 0) r (Y 5 r) m f e = Y f e := fun f e hf h0 => by rw [it_c (.inl rfl) (by omega) (by omega) hf m _ (RG_0 hR) h8 h13 h21, z f e h0]
  have z21 := it_21 (r := r) (p := Y 5 r) m (yu Y 0 0 0)
  rw [z 21 r (by omega)] at z21
  have zn : ∀ e, ¬ e = r → m_it (yu Y 0 0 0) r (Y 5 r) m 21 e = Y 21 e := by
    intro e he
    have : ∀ (m : Nat) (Y : zY), m_it Y r (Y 5 r) m 21 e = Y 21 e := by
      intro m
      suffices hh : ∀ (p : Int) (m : Nat) (Y : zY), m_it Y r p m 21 e = Y 21 e from fun Y => hh _ m Y
      intro p m
      induction m with
      | zero => intro Y; rfl
      | succ m ih =>
        intro Y
        unfold m_it
        split
        · rw [ih, m_dw_21, if_neg he]
        · rfl
    have h9 := this m (yu Y 0 0 0)
    rw [z 5 r (by omega), z 21 e (by omega)] at h9
    exact h9
  obtain ⟨t, a1, a2, a3, a4, a5⟩ := RLX_k h.1 d1
  obtain ⟨-, ⟨o1, o2, o3⟩, -⟩ := t.2.2.1 d2
  have hn5 := h.1.2.2.2.2.2.2.2.2.2
  generalize m_it (yu Y 0 0 0) r (Y 5 r) m = Z at *
  have z3 := zf 3 r (by omega) (by omega)
  have z5 := zf 5 r (by omega) (by omega)
  refine RZ_one (T' := T) (Ln' := Ln) (M' := M') (W' := W) (Ow' := Ow) (r := r) (n' := n) (u' := u) h d1 hRZ ⟨fun f e f1 f2 => zf f e (by omega) (by omega), fun f e f1 f2 => zf f e (by omega) (by omega), fun f e hf e0 he => zc f e he (by omega)⟩ (fun e => by rw [zf 13 e (by omega) (by omega)]; omega) (fun e he h9 => by rw [zf 9 e (by omega) (by omega)]; exact h9) (fun e he => zf 12 e (by omega) (by omega)) (.inl (fun f e f1 f2 => zf f e (by omega) (by omega))) (fun e => ?_) (fun a _ => ⟨rfl, rfl, rfl⟩) (fun a j b1 b2 => hM a j (fun hh => b2 (by rw [hh]; exact o1)) (fun hh => b2 (by rw [hh]; exact o2)) (fun hh => b2 (by rw [hh]; exact o3))) (fun _ _ => rfl) hn5 (by omega) (by omega) ⟨fun hh => by omega, fun hh => by omega, fun _ => ⟨?_, ⟨o1, o2, o3⟩, ?_⟩, fun hh => by omega, fun hh => by omega, fun hh => by omega⟩
  · have he := hB e
    have e23 := zf 23 e (by omega) (by omega)
    by_cases her : e = r
    · subst her; omega
    · have := zn e her; omega
  · rw [z5]; exact hr
  · rw [z5]; exact hi
theorem c61 {N : Int} (h : RZ T Ln M n u x A W Ow X Y c n0 u0) (hc : 0 ≤ c) (hc2 : c ≤ 4000) (k1 : -2147483648 ≤ k) (k2 : k < 2147483648) (n1 : -2147483648 ≤ N) (n2 : N < 2147483648) (hd0 : cd 0 = 1) (hd1 : cd 1 = 2) : CR 61 [some (.ref x), some (zi k), some (zi N), none, none] T Ln M n u x Ow c n0 u0 cd (zi (a_step Y k N).1) (a_step Y k N).2 := by
  have hR := h.1.1
  have hH := h.1.2.2.2.1
  have hI := h.1.2.1
  have hB := h.1.2.2.1
  have hT : T x = 8 := hH.1.1
  unfold a_step
  by_cases d1 : m_th Y k
  · rw [if_pos d1]
    obtain ⟨t, a1, a2, a3, a4, a5⟩ := RLX_k h.1 d1
    obtain ⟨-, -, e1, -⟩ := kt_n a5
    by_cases d2 : Y 3 k = 3
    · rw [if_pos d2]
      have hA : T (A k) = 5 := by rw [a1]; exact e1.mpr d2
      by_cases d3 : 1 ≤ N ∧ N ≤ 2000
      · rw [if_pos d3]
        have c1 : ¬ ¬ (1 ≤ N ∧ N ≤ 2000) := fun hh => hh d3
        obtain ⟨hrf, hw⟩ := (hI k d1.1.1 d1.1.2).2.2.2.1 d2
        have hp := rf_th d1 hrf
        obtain ⟨b1, -, b3⟩ := t.2.2.1 d2
        have hb := hB k
        have z : ∀ (f : Nat) (e : Int), ¬ f = 0 → yu Y 0 0 0 f e = Y f e := fun f e hf => yu_f hf
        have hpg : PG T Ln M A W (yu Y 0 0 0) (Y 5 k) := PG_f (fun _ _ _ => rfl) (z 5 _ (by omega)) (z 7 _ (by omega)) (z 8 _ (by omega)) (z 13 _ (by omega)) (fun f j _ _ _ _ => z f _ (by omega)) (PG_of h hp hrf.2.1 hw)
        have hrn : RN T Ln M A (yu Y 0 0 0) (A k) k (Y 5 k) := b1
        have hri : RI (yu Y 0 0 0) k (Y 5 k) := b3
        obtain ⟨M1, l1, l2, l3, l4⟩ := s61_l (t := (n, u)) (x := x) (kk := k) (N := N) d3.2 N.toNat (yu Y 0 0 0) M 0 (RG_0 hR) hpg hrn hri (by omega) (by omega) (by rw [z 21 _ (by omega)]; omega)
        have h9 := RZ_run h d1 d2 hc hc2 N.toNat (by have := (hB k).1; omega) l2 l3 l4
        have e0 : m_it (yu Y 0 0 0) k (Y 5 k) N.toNat 0 0 = 0 := by rw [m_it_f (by omega) (by omega) (by omega) (by omega), yu_s]
        refine ⟨T, Ln, M1, n, u, _, A, W, Ow, X, fun Q => ?_, .inl ⟨e0, rfl⟩, h9.1, h9.2⟩
        have e2 : (0 : Int) + (m_it (yu Y 0 0 0) k (Y 5 k) N.toNat 21 k - yu Y 0 0 0 21 k) = m_it (yu Y 0 0 0) k (Y 5 k) N.toNat 21 k - Y 21 k := by rw [z 21 k (by omega)]; omega
        have l1' := l1 Q
        rw [e2] at l1'
        refine Iff.trans ?_ l1'
        simp (disch := first | omega | (simp (disch := omega) only [tu_s, tu_n, lu_s, lu_n]; done) | (simp (disch := omega) only [tu_s, tu_n, lu_s, lu_n]; omega)) only [g61_0, g61_1, g61_2, g61_5, g61_5n, g61_6, g61_7, g61_8, g61_11, g61_14, g61_14b, g61_17, g61_27, g61_28, g61_32, g61_33, g61_36, g61_36n, g61_37, g61_40, g61_40b, g61_43, g61_43n, g61_44, g61_47, g61_50, g61_53, g61_55, Int.reduceToNat, jtg, mu_s, mu_n, mu_j, mn_s, mn_n, jg_5_6, Option.some.injEq, exists_eq_left', zkl_i, zkl_l, zkl_n, zkl_r, zkl_0, zc_v, zc_n, zc_t, zd_v, zd_n, mj_tg, true_and, ↓reduceIte, not_true_eq_false, not_false_eq_true, ↓if_pos, ↓if_neg, Int.reduceLE, Int.reduceLT, Int.reduceEq, Int.reduceAdd, s89_y hH (tgo_y d1) hA, s76, bI_f c1]
      · rw [if_neg d3]
        refine CR_th h (by omega) (by omega) hd1 (fun Q => ?_)
        simp (disch := first | omega | (simp (disch := omega) only [tu_s, tu_n, lu_s, lu_n]; done) | (simp (disch := omega) only [tu_s, tu_n, lu_s, lu_n]; omega)) only [g61_0, g61_1, g61_2, g61_5, g61_5n, g61_6, g61_7, g61_8, g61_11, g61_14, g61_14b, g61_17, g61_27, g61_28, g61_32, g61_33, g61_36, g61_36n, g61_37, g61_40, g61_40b, g61_43, g61_43n, g61_44, g61_47, g61_50, g61_53, g61_55, Int.reduceToNat, jtg, mu_s, mu_n, mu_j, mn_s, mn_n, jg_5_6, Option.some.injEq, exists_eq_left', zkl_i, zkl_l, zkl_n, zkl_r, zkl_0, zc_v, zc_n, zc_t, zd_v, zd_n, mj_tg, true_and, ↓reduceIte, not_true_eq_false, not_false_eq_true, ↓if_pos, ↓if_neg, Int.reduceLE, Int.reduceLT, Int.reduceEq, Int.reduceAdd, s89_y hH (tgo_y d1) hA, s76, bI_t d3]
    · rw [if_neg d2]
      have hA : ¬ T (A k) = 5 := by rw [a1, e1]; exact d2
      refine CR_re h (by omega) (by omega) (by omega) (by omega) hd0 (fun Q => ?_)
      simp (disch := first | omega | (simp (disch := omega) only [tu_s, tu_n, lu_s, lu_n]; done) | (simp (disch := omega) only [tu_s, tu_n, lu_s, lu_n]; omega)) only [g61_0, g61_1, g61_2, g61_5, g61_5n, g61_6, g61_7, g61_8, g61_11, g61_14, g61_14b, g61_17, g61_27, g61_28, g61_32, g61_33, g61_36, g61_36n, g61_37, g61_40, g61_40b, g61_43, g61_43n, g61_44, g61_47, g61_50, g61_53, g61_55, Int.reduceToNat, jtg, mu_s, mu_n, mu_j, mn_s, mn_n, jg_5_6, Option.some.injEq, exists_eq_left', zkl_i, zkl_l, zkl_n, zkl_r, zkl_0, zc_v, zc_n, zc_t, zd_v, zd_n, mj_tg, true_and, ↓reduceIte, not_true_eq_false, not_false_eq_true, ↓if_pos, ↓if_neg, Int.reduceLE, Int.reduceLT, Int.reduceEq, Int.reduceAdd, s89_k hH (tgo_y d1) hA]
  · rw [if_neg d1]
    refine CR_re h (by omega) (by omega) (by omega) (by omega) hd0 (fun Q => ?_)
    simp (disch := first | omega | (simp (disch := omega) only [tu_s, tu_n, lu_s, lu_n]; done) | (simp (disch := omega) only [tu_s, tu_n, lu_s, lu_n]; omega)) only [g61_0, g61_1, g61_2, g61_5, g61_5n, g61_6, g61_7, g61_8, g61_11, g61_14, g61_14b, g61_17, g61_27, g61_28, g61_32, g61_33, g61_36, g61_36n, g61_37, g61_40, g61_40b, g61_43, g61_43n, g61_44, g61_47, g61_50, g61_53, g61_55, Int.reduceToNat, jtg, mu_s, mu_n, mu_j, mn_s, mn_n, jg_5_6, Option.some.injEq, exists_eq_left', zkl_i, zkl_l, zkl_n, zkl_r, zkl_0, zc_v, zc_n, zc_t, zd_v, zd_n, mj_tg, true_and, ↓reduceIte, not_true_eq_false, not_false_eq_true, ↓if_pos, ↓if_neg, Int.reduceLE, Int.reduceLT, Int.reduceEq, Int.reduceAdd, s89_n hH k1 k2 (tgo_n d1)]
end
