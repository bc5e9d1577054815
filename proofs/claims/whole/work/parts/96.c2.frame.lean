/-! WHAT ONE CALL LEAVES AS IT IS -/
/-- the handle that a number belongs to -/
def cow (f : Nat) (e : Int) : Int := if f = 19 then e / 12 % 61 else if f = 20 ∨ f = 21 ∨ f = 22 then e % 61 else if 14 ≤ f ∧ f ≤ 18 then e / 24 else if f = 25 then e / 16 else if f = 26 ∨ f = 27 then e / 4 else e
theorem t_st_c {Y Z : zY} {p : Int} {s : RS} (h5 : Z 5 p = Y 5 p) (h7 : Z 7 (Y 5 p) = Y 7 (Y 5 p)) (h8 : Z 8 (Y 5 p) = Y 8 (Y 5 p)) (h13 : Z 13 p = Y 13 p) (hw : ∀ f : Nat, 14 ≤ f → f ≤ 18 → Z f (24 * p + s.2.1) = Y f (24 * p + s.2.1)) : t_st Z p s = t_st Y p s := by
  unfold t_st
  rw [h5, h7, h8, h13, hw 14 (by omega) (by omega), hw 15 (by omega) (by omega), hw 16 (by omega) (by omega), hw 17 (by omega) (by omega), hw 18 (by omega) (by omega)]
/-- the places of a trajectory -/
theorem tr_pl {Y : zY} {p : Int} (hw : 0 < Y 13 p) : ∀ n : Nat, 0 ≤ (tr Y p n).2.1 ∧ (tr Y p n).2.1 < Y 13 p := by
  intro n
  cases n with
  | zero => exact ⟨Int.le_refl 0, hw⟩
  | succ n =>
    show 0 ≤ r_to _ _ _ _ _ _ ∧ r_to _ _ _ _ _ _ < _
    unfold r_to
    split
    · exact mod_b hw
    · exact mod_b hw
theorem tr_c {Y Z : zY} {p : Int} (h5 : Z 5 p = Y 5 p) (h7 : Z 7 (Y 5 p) = Y 7 (Y 5 p)) (h8 : Z 8 (Y 5 p) = Y 8 (Y 5 p)) (h13 : Z 13 p = Y 13 p) (hwd : 0 < Y 13 p) (hw : ∀ (f : Nat) (j : Int), 14 ≤ f → f ≤ 18 → 0 ≤ j → j < Y 13 p → Z f (24 * p + j) = Y f (24 * p + j)) : ∀ n : Nat, tr Z p n = tr Y p n := by
  intro n
  induction n with
  | zero => rfl
  | succ n ih =>
    unfold tr
    rw [ih]
    have := tr_pl hwd n
    exact t_st_c h5 h7 h8 h13 (fun f a b => hw f _ a b this.1 this.2)
/-- the numbers of a pair -/
def DA (Z Z' : zY) (k : Int) : Prop := (Z' 5 k = Z 5 k ∧ Z' 6 k = Z 6 k ∧ Z' 12 k = Z 12 k) ∧ ∀ p, (p = Z 5 k ∨ p = Z 6 k) → (Z' 13 p = Z 13 p ∧ Z' 5 p = Z 5 p ∧ Z' 7 (Z 5 p) = Z 7 (Z 5 p) ∧ Z' 8 (Z 5 p) = Z 8 (Z 5 p)) ∧ ∀ (f : Nat) (j : Int), 14 ≤ f → f ≤ 18 → 0 ≤ j → j < 24 → Z' f (24 * p + j) = Z f (24 * p + j)
theorem sr_f {Y : zY} {f : Int → Int} {g : Nat} {e : Int} (h : ¬ g = 38) : sr Y f g e = Y g e := by
  unfold sr
  rw [if_neg h]
theorem sr_38 {Y : zY} {f : Int → Int} {e : Int} : sr Y f 38 e = f e := rfl
theorem DA_sr {Y Y' : zY} {k : Int} {f : Int → Int} (h : DA Y Y' k) : DA (sr Y f) (sr Y' f) k := by
  obtain ⟨⟨a1, a2, a3⟩, a4⟩ := h
  refine ⟨⟨by rw [sr_f (by decide), sr_f (by decide)]; exact a1, by rw [sr_f (by decide), sr_f (by decide)]; exact a2, by rw [sr_f (by decide), sr_f (by decide)]; exact a3⟩, fun p hp => ?_⟩
  rw [sr_f (by decide), sr_f (by decide)] at hp
  obtain ⟨⟨b1, b2, b3, b4⟩, b5⟩ := a4 p hp
  refine ⟨⟨by rw [sr_f (by decide), sr_f (by decide)]; exact b1, by rw [sr_f (by decide), sr_f (by decide)]; exact b2, by rw [sr_f (by decide), sr_f (by decide), sr_f (by decide)]; exact b3, by rw [sr_f (by decide), sr_f (by decide), sr_f (by decide)]; exact b4⟩, fun f j c1 c2 c3 c4 => by rw [sr_f (by omega), sr_f (by omega)]; exact b5 f j c1 c2 c3 c4⟩
theorem DA_pa {Z Z' : zY} {k w : Int} (h : DA Z Z' k) : m_pa Z' k w = m_pa Z k w ∧ (m_pa Z k w = Z 5 k ∨ m_pa Z k w = Z 6 k) := by
  unfold m_pa
  rw [h.1.1, h.1.2.1]
  refine ⟨rfl, ?_⟩
  split
  · exact .inl rfl
  · exact .inr rfl
theorem DA_cm {Z Z' : zY} {k w : Int} (h : DA Z Z' k) (h38 : ∀ e, Z' 38 e = Z 38 e) (h0 : ∀ w, 0 ≤ w → w < 2 → 0 ≤ Z 38 w ∧ Z 38 w ≤ Z 13 (m_pa Z k w)) (h24 : ∀ p, Z 13 p ≤ 24) (w0 : 0 ≤ w) : m_cm Z' k w ↔ m_cm Z k w := by
  unfold m_cm
  by_cases c : w < 2
  · rw [if_pos c, if_pos c]
    obtain ⟨e1, e2⟩ := DA_pa (w := w) h
    obtain ⟨⟨b1, -⟩, b5⟩ := h.2 _ e2
    have hdk : m_dk Z' k w = m_dk Z k w := by unfold m_dk; rw [e1, h38]
    unfold m_dc
    rw [e1, b1, h38, hdk, h.1.2.2, h38]
    by_cases c2 : Z 38 w = Z 13 (m_pa Z k w)
    · simp only [c2, not_true_eq_false, false_and]
    · have h1 := h0 w w0 c
      have h2 := h24 (m_pa Z k w)
      have h14 : Z' 14 (m_dk Z k w) = Z 14 (m_dk Z k w) := b5 14 (Z 38 w) (by omega) (by omega) h1.1 (by omega)
      rw [h14]
  · rw [if_neg c, if_neg c, h38]
theorem DA_mv {Z Z' : zY} {k w : Int} (h : DA Z Z' k) (h38 : ∀ e, Z' 38 e = Z 38 e) (h0 : ∀ w, 0 ≤ w → w < 2 → 0 ≤ Z 38 w ∧ Z 38 w ≤ Z 13 (m_pa Z k w)) (h24 : ∀ p, Z 13 p ≤ 24) (w0 : 0 ≤ w) (hc : m_cm Z k w) : m_mv Z' k w 38 = m_mv Z k w 38 := by
  unfold m_mv
  unfold m_cm at hc
  by_cases c : w < 2
  · rw [if_pos c, if_pos c]
    rw [if_pos c] at hc
    obtain ⟨e1, e2⟩ := DA_pa (w := w) h
    obtain ⟨⟨b1, b2, b3, b4⟩, b5⟩ := h.2 _ e2
    have hdk : m_dk Z' k w = m_dk Z k w := by unfold m_dk; rw [e1, h38]
    have h1 := h0 w w0 c
    have h2 := h24 (m_pa Z k w)
    have h3 := hc.1
    have q := fun (f : Nat) (a : 14 ≤ f) (b : f ≤ 18) => show Z' f (m_dk Z k w) = Z f (m_dk Z k w) from b5 f (Z 38 w) a b h1.1 (by omega)
    have q14 := q 14 (by omega) (by omega)
    have q15 := q 15 (by omega) (by omega)
    have q16 := q 16 (by omega) (by omega)
    have q17 := q 17 (by omega) (by omega)
    have q18 := q 18 (by omega) (by omega)
    have hx : m_dx Z' k w = m_dx Z k w := by unfold m_dx; rw [hdk, q16, h38]
    have hy : m_dy Z' k w = m_dy Z k w := by unfold m_dy; rw [hdk, q17, h38]
    have ha : m_da Z' k w = m_da Z k w := by unfold m_da; rw [hx, e1, b2, b4]
    have hs : ∀ a, m_se Z' w a = m_se Z w a := by intro a; unfold m_se; simp only [h38]
    have hn : m_dn Z' k w = m_dn Z k w := by unfold m_dn; rw [hdk, q14, hx, q18, e1, b1, h38]
    have h12 := h.1.2.2
    funext e
    unfold m_dd
    rw [yu_e, yu_e, hn]
    split
    · rfl
    · unfold m_d1
      rw [hdk, q14, q15, q18, hx, hy, ha, e1, b2, b3, hs, h12]
      split
      · rw [yu_e, yu_e, h38]
      split
      · rw [yu_e, yu_e, h38]
      split
      · rw [yu_e, yu_e, h38]
      split
      · rw [yu_e, yu_e, h38]
      split
      · rw [yu_e, yu_e, h38]
      split
      · split
        · rw [h38, yu_e, yu_e, yu_e, yu_e, yu_e, yu_e, h38]
        · rw [yu_e, yu_e, h38]
      exact h38 e
  · rw [if_neg c, if_neg c]
    funext e
    unfold m_lg
    rw [h38]
    unfold m_l1
    split
    · simp only [yu_e, h38]
    · simp only [yu_e, h38]
theorem DA_symm {Z Z' : zY} {k : Int} (h : DA Z Z' k) : DA Z' Z k := by
  obtain ⟨⟨a1, a2, a3⟩, a4⟩ := h
  refine ⟨⟨a1.symm, a2.symm, a3.symm⟩, fun p hp => ?_⟩
  rw [a1, a2] at hp
  obtain ⟨⟨b1, b2, b3, b4⟩, b5⟩ := a4 p hp
  exact ⟨⟨b1.symm, b2.symm, by rw [b2]; exact b3.symm, by rw [b2]; exact b4.symm⟩, fun f j c1 c2 c3 c4 => (b5 f j c1 c2 c3 c4).symm⟩
theorem DA_vq {Z Z' : zY} {k : Int} (h : DA Z Z' k) (h38 : ∀ e, Z' 38 e = Z 38 e) : VQ Z' k ↔ VQ Z k := by
  obtain ⟨⟨a1, a2, a3⟩, a4⟩ := h
  obtain ⟨⟨b1, b2, b3, b4⟩, -⟩ := a4 _ (.inl rfl)
  obtain ⟨⟨c1, -⟩, -⟩ := a4 _ (.inr rfl)
  unfold VQ
  simp only [h38, a1, a2, b1, b2, b3, b4, c1]
theorem DA_ie {Z Z' : zY} {k : Int} (h : DA Z Z' k) (h38 : ∀ e, Z' 38 e = Z 38 e) : m_ie Z' k ↔ m_ie Z k := by
  obtain ⟨⟨a1, a2, a3⟩, a4⟩ := h
  obtain ⟨⟨b1, -⟩, -⟩ := a4 _ (.inl rfl)
  obtain ⟨⟨c1, -⟩, -⟩ := a4 _ (.inr rfl)
  unfold m_ie
  simp only [h38, a1, a2, b1, c1]
theorem Vd_0 {Y : zY} {k : Int} {f : Int → Int} (h : Vd Y k f) : ∀ w, 0 ≤ w → w < 2 → 0 ≤ sr Y f 38 w ∧ sr Y f 38 w ≤ sr Y f 13 (m_pa (sr Y f) k w) := by
  intro w w1 w2
  obtain ⟨⟨⟨a, b⟩, -⟩, c⟩ := h
  refine ⟨(c w w1 (by omega)).1, ?_⟩
  unfold m_pa
  split
  next hh => subst hh; exact a
  next hh => obtain rfl : w = 1 := by omega
             exact b
theorem Cl_c {Y Y' : zY} {k : Int} {S : (Int → Int) → Prop} (h : DA Y Y' k) (h24 : ∀ p, Y' 13 p ≤ 24) (hC : Cl Y k S) : Cl Y' k S := by
  obtain ⟨c1, c2, c3⟩ := hC
  refine ⟨c1, c2, fun f w w1 w2 hS hV hm => ?_⟩
  have hd := DA_symm (DA_sr (f := f) h)
  have h38 : ∀ e, sr Y f 38 e = sr Y' f 38 e := fun e => rfl
  have h24' : ∀ p, sr Y' f 13 p ≤ 24 := fun p => by rw [sr_f (by decide)]; exact h24 p
  have hm2 := (DA_cm hd h38 (Vd_0 hV) h24' w1).mpr hm
  have hV2 : Vd Y k f := ⟨(DA_vq hd h38).mpr hV.1, hV.2⟩
  have e := DA_mv hd h38 (Vd_0 hV) h24' w1 hm
  have h9 := c3 f w w1 w2 hS hV2 hm2
  unfold mvv at h9 ⊢
  rw [e] at h9
  exact h9
theorem XS_c {Y Y' : zY} {k n : Int} {S : Int → Int → Int} (h : DA Y Y' k) (h24 : ∀ p, Y 13 p ≤ 24) (h24' : ∀ p, Y' 13 p ≤ 24) (hX : XS Y k n S) : XS Y' k n S := by
  obtain ⟨a1, a2, a3, a4⟩ := hX
  exact ⟨a1, a2, fun P hP i i1 i2 => a3 P (Cl_c (DA_symm h) h24 hP) i i1 i2, Cl_c h h24' a4⟩
theorem XT_c {Y Y' : zY} {k : Int} (h : DA Y Y' k) (h24 : ∀ p, Y 13 p ≤ 24) (hX : XT Y k) : XT Y' k := by
  obtain ⟨S, a2, a3⟩ := hX
  exact ⟨S, a2, fun P hP i i1 i2 => a3 P (Cl_c (DA_symm h) h24 hP) i i1 i2⟩
theorem EN_c {Y Y' : zY} {k n en : Int} {S : Int → Int → Int} {E : Int → Int} (h : DA Y Y' k) (hX : EN Y k n S en E) : EN Y' k n S en E := by
  obtain ⟨a1, a2, a3, a4⟩ := hX
  exact ⟨a1, fun i i1 i2 => ⟨(a2 i i1 i2).1, (DA_ie (DA_sr h) (fun _ => rfl)).mpr (a2 i i1 i2).2⟩, a3, fun i i1 i2 i3 => a4 i i1 i2 ((DA_ie (DA_sr h) (fun _ => rfl)).mp i3)⟩
