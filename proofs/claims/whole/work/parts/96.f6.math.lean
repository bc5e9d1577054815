/-! EXPLORING, whatever goes through the states -/
def Rc (Y : zY) (k : Int) (f : Int → Int) : Prop := ∀ P, Cl Y k P → P f
/-- n states S are kept; of those in Dn the moves are done; tl: one did not find room -/
def XA (Y : zY) (k : Int) (Dn : Int → Int → Prop) (n : Int) (S : Int → Int → Int) (tl : Int) : Prop := ((1 ≤ n ∧ n ≤ 2000) ∧ eqv (S 0) (fun _ => 0)) ∧ (∀ i, 0 ≤ i → i < n → Vd Y k (S i)) ∧ (∀ i j, 0 ≤ i → i < j → j < n → ¬ eqv (S i) (S j)) ∧ (∀ i, 0 ≤ i → i < n → Rc Y k (S i)) ∧ (tl = 0 → ∀ i w, Dn i w → 0 ≤ i → i < n → 0 ≤ w → w ≤ 3 → m_cm (sr Y (S i)) k w → ∃ j, 0 ≤ j ∧ j < n ∧ eqv (S j) (mvv Y k w (S i))) ∧ (¬ tl = 0 → n = 2000 ∧ ∃ g, Rc Y k g ∧ ∀ i, 0 ≤ i → i < n → ¬ eqv (S i) g)
section
variable {Y Z : zY} {k n n' i w tl tl' : Int} {S S' : Int → Int → Int} {f g : Int → Int} {Dn Dn' : Int → Int → Prop}
theorem eqv_s (h : eqv f g) : eqv g f := fun e a b => (h e a b).symm
theorem eqv_t {h : Int → Int} (h1 : eqv f g) (h2 : eqv g h) : eqv f h := fun e a b => (h1 e a b).trans (h2 e a b)
theorem eqv_r : eqv f f := fun _ _ _ => rfl
theorem XA_d (h : XA Y k Dn n S tl) (hd : ∀ j v, Dn' j v → Dn j v ∨ (j = i ∧ v = w)) (hc : ¬ m_cm (sr Y (S i)) k w) : XA Y k Dn' n S tl := by
  obtain ⟨h1, h2, h3, h4, h5, h6⟩ := h
  refine ⟨h1, h2, h3, h4, fun ht j v hj j1 j2 v1 v2 hcm => ?_, h6⟩
  rcases hd j v hj with hh | ⟨rfl, rfl⟩
  · exact h5 ht j v hh j1 j2 v1 v2 hcm
  · exact absurd hcm hc
theorem XA_k (h : XA Y k Dn n S tl) (hdn : ∀ j v, Dn j v → j < n) (hd : ∀ j v, Dn' j v → Dn j v ∨ (j = i ∧ v = w)) (i1 : 0 ≤ i) (i2 : i < n) (w1 : 0 ≤ w) (w2 : w ≤ 3) (hc : m_cm (sr Y (S i)) k w) (hf : eqv (mvv Y k w (S i)) f) (hv : Vd Y k f) (hk : KO S n tl f S' n' tl') : XA Y k Dn' n' S' tl' ∧ n ≤ n' ∧ ∀ j, 0 ≤ j → j < n → S' j = S j := by
  obtain ⟨⟨⟨n1, n2⟩, h1⟩, h2, h3, h4, h5, h6⟩ := h
  have hr : Rc Y k f := fun P hP => hP.1 _ _ hf (hP.2.2 _ w w1 w2 (h4 i i1 i2 P hP) (h2 i i1 i2) hc)
  rcases hk with ⟨rfl, rfl, rfl, j, j1, j2, j3⟩ | ⟨hn, ⟨hlt, rfl, rfl, rfl⟩ | ⟨heq, rfl, rfl, rfl⟩⟩
  · refine ⟨⟨⟨⟨n1, n2⟩, h1⟩, h2, h3, h4, fun ht j' v hj q1 q2 v1 v2 hcm => ?_, h6⟩, by omega, fun _ _ _ => rfl⟩
    rcases hd j' v hj with hh | ⟨rfl, rfl⟩
    · exact h5 ht j' v hh q1 q2 v1 v2 hcm
    · exact ⟨j, j1, j2, eqv_t j3 (eqv_s hf)⟩
  · have go : ∀ j, j < n → gu S n f j = S j := fun j hj => if_neg (by omega)
    have gn : gu S n f n = f := if_pos rfl
    refine ⟨⟨⟨⟨by omega, by omega⟩, by rw [go 0 (by omega)]; exact h1⟩, fun j j1 j2 => ?_, fun j j' j1 j2 j3 => ?_, fun j j1 j2 => ?_, fun ht j v hj j1 j2 v1 v2 hcm => ?_, fun ht => by have := (h6 ht).1; omega⟩, by omega, fun j _ j2 => go j j2⟩
    · by_cases hj : j = n
      · rw [hj, gn]; exact hv
      · rw [go j (by omega)]; exact h2 j j1 (by omega)
    · rw [go j (by omega)]
      by_cases hj : j' = n
      · rw [hj, gn]; exact fun hh => hn ⟨j, j1, by omega, hh⟩
      · rw [go j' (by omega)]; exact h3 j j' j1 j2 (by omega)
    · by_cases hj : j = n
      · rw [hj, gn]; exact hr
      · rw [go j (by omega)]; exact h4 j j1 (by omega)
    · rcases hd j v hj with hh | ⟨rfl, rfl⟩
      · have hjn := hdn j v hh
        rw [go j (by omega)] at hcm ⊢
        obtain ⟨q, q1, q2, q3⟩ := h5 ht j v hh j1 (by omega) v1 v2 hcm
        exact ⟨q, q1, by omega, by rw [go q q2]; exact q3⟩
      · rw [go j i2]
        exact ⟨n, by omega, by omega, by rw [gn]; exact eqv_s hf⟩
  · refine ⟨⟨⟨⟨n1, n2⟩, h1⟩, h2, h3, h4, fun ht => by omega, fun _ => ⟨heq, f, hr, fun j j1 j2 hh => hn ⟨j, j1, j2, hh⟩⟩⟩, by omega, fun _ _ _ => rfl⟩
theorem cm_q (h : eqv f g) (w1 : 0 ≤ w) (w2 : w ≤ 3) : m_cm (sr Y f) k w ↔ m_cm (sr Y g) k w := by
  have e : ∀ e, 0 ≤ e → e < 28 → sr Y f 38 e = sr Y g 38 e := h
  have r : ∀ (a : Nat) (b : Int), ¬ a = 38 → sr Y f a b = sr Y g a b := fun a b hh => by rw [sr_f hh, sr_f hh]
  have pa : ∀ w, m_pa (sr Y f) k w = m_pa (sr Y g) k w := fun w => rfl
  unfold m_cm
  by_cases c : w < 2
  · rw [if_pos c, if_pos c]
    unfold m_dc
    have hdk : m_dk (sr Y f) k w = m_dk (sr Y g) k w := by unfold m_dk; rw [pa, e w w1 (by omega)]
    rw [hdk, pa, e w w1 (by omega), e (18 + 5 * w) (by omega) (by omega), r 13 _ (by decide), r 14 _ (by decide), r 12 _ (by decide)]
  · rw [if_neg c, if_neg c, e (18 + 5 * (w - 2)) (by omega) (by omega)]
theorem mv_q (h : eqv f g) (hR : RG Y) (hv : VQ (sr Y f) k) (h8 : 0 < Y 8 (Y 5 (Y 5 k)) ∧ Y 8 (Y 5 (Y 5 k)) ≤ 8 ∧ Y 5 (Y 6 k) = Y 5 (Y 5 k)) (h0 : ∀ e, 0 ≤ e → e < 28 → 0 ≤ f e) (w1 : 0 ≤ w) (w2 : w ≤ 3) (hc : m_cm (sr Y f) k w) : eqv (mvv Y k w f) (mvv Y k w g) := by
  have e : ∀ e, 0 ≤ e → e < 28 → sr Y f 38 e = sr Y g 38 e := h
  have r : ∀ (a : Nat) (b : Int), ¬ a = 38 → sr Y f a b = sr Y g a b := fun a b hh => by rw [sr_f hh, sr_f hh]
  have pa : m_pa (sr Y f) k w = m_pa (sr Y g) k w := rfl
  have q : ∀ b v b', 0 ≤ b' → b' < 28 → yu (sr Y f) 38 b v 38 b' = yu (sr Y g) 38 b v 38 b' := fun b v b' x y => by rw [yu_e, yu_e, e b' x y]
  intro j j1 j2
  unfold mvv m_mv
  by_cases c : w < 2
  · rw [if_pos c, if_pos c]
    have hdk : m_dk (sr Y f) k w = m_dk (sr Y g) k w := by unfold m_dk; rw [pa, e w w1 (by omega)]
    obtain ⟨x1, x2⟩ : 0 ≤ Y 16 (m_dk (sr Y g) k w) ∧ Y 16 (m_dk (sr Y g) k w) ≤ 3 := hR 16 _
    obtain ⟨y1, y2⟩ : 0 ≤ Y 17 (m_dk (sr Y g) k w) ∧ Y 17 (m_dk (sr Y g) k w) ≤ 3 := hR 17 _
    have hx : m_dx (sr Y f) k w = m_dx (sr Y g) k w := by
      unfold m_dx
      rw [hdk]
      exact e (2 + 4 * w + Y 16 (m_dk (sr Y g) k w)) (by omega) (by omega)
    have hy : m_dy (sr Y f) k w = m_dy (sr Y g) k w := by
      unfold m_dy
      rw [hdk]
      exact e (2 + 4 * w + Y 17 (m_dk (sr Y g) k w)) (by omega) (by omega)
    have ha : m_da (sr Y f) k w = m_da (sr Y g) k w := by
      unfold m_da
      rw [hx, pa, r 5 _ (by decide), r 8 _ (by decide)]
    have h8' : Y 5 (m_pa (sr Y g) k w) = Y 5 (Y 5 k) := by
      unfold m_pa
      split
      · rfl
      · exact h8.2.2
    have hab : 0 ≤ m_da (sr Y g) k w ∧ m_da (sr Y g) k w < 8 := by
      unfold m_da
      rw [sr_f (f := g) (g := 5) (by decide), sr_f (f := g) (g := 8) (by decide), h8']
      have := mod_b (v := m_dx (sr Y g) k w) h8.1
      omega
    have hse : m_se (sr Y f) w (m_da (sr Y g) k w) = m_se (sr Y g) w (m_da (sr Y g) k w) := by
      unfold m_se
      rw [e (18 + 5 * w) (by omega) (by omega), e (10 + m_da (sr Y g) k w) (by omega) (by omega), e (18 + 5 * w + 1) (by omega) (by omega), e (18 + 5 * w + 2) (by omega) (by omega), e (18 + 5 * w + 1 + 2) (by omega) (by omega), e (18 + 5 * w + 2 + 2) (by omega) (by omega)]
    have hn : m_dn (sr Y f) k w = m_dn (sr Y g) k w := by
      unfold m_dn
      rw [hdk, hx, pa, r 14 _ (by decide), r 13 _ (by decide), r 18 _ (by decide), e w w1 (by omega)]
    have e18 := e (18 + 5 * w) (by omega) (by omega)
    unfold m_dd
    rw [hn, yu_e, yu_e]
    split
    · rfl
    · unfold m_d1
      rw [hdk, hx, hy, ha, hse, e18, pa, r 14 _ (by decide), r 15 _ (by decide), r 18 _ (by decide), r 5 _ (by decide), r 7 _ (by decide), r 12 _ (by decide)]
      split
      · exact q _ _ _ j1 j2
      split
      · exact q _ _ _ j1 j2
      split
      · exact q _ _ _ j1 j2
      split
      · exact q _ _ _ j1 j2
      split
      · exact q _ _ _ j1 j2
      split
      · split
        · rw [yu_e, yu_e, yu_e, yu_e, yu_e, yu_e, e j j1 j2]
        · exact q _ _ _ j1 j2
      exact e j j1 j2
  · rw [if_neg c, if_neg c]
    have ew := fun (b : Int) (b1 : 0 ≤ b) (b2 : b ≤ 4) => e (18 + 5 * (w - 2) + b) (by omega) (by omega)
    have e18 := e (18 + 5 * (w - 2)) (by omega) (by omega)
    have e1 := ew 1 (by omega) (by omega)
    have e2 := ew 2 (by omega) (by omega)
    have e3 := ew 3 (by omega) (by omega)
    have e4 := ew 4 (by omega) (by omega)
    unfold m_lg m_l1
    rw [e18, e1, e2, e3, e4]
    split
    · simp only [yu_e, e j j1 j2]
    · simp only [yu_e, e j j1 j2]
theorem Vd_q (hY : 0 ≤ Y 8 (Y 5 (Y 5 k))) (h : eqv f g) (hv : Vd Y k f) : Vd Y k g := by
  refine ⟨VQ_c (Y := sr Y f) (Z := sr Y g) (fun _ => rfl) (fun _ => rfl) (fun _ => rfl) (fun _ => rfl) (fun _ => rfl) (fun e a b => (show sr Y g 38 e = sr Y f 38 e from (h e a b).symm)) hY hv.1, fun e a b => ?_⟩
  rw [← h e a b]
  exact hv.2 e a b
/-- all moves done: these are all -/
theorem XA_xs (hR : RG Y) (h8 : 0 < Y 8 (Y 5 (Y 5 k)) ∧ Y 8 (Y 5 (Y 5 k)) ≤ 8 ∧ Y 5 (Y 6 k) = Y 5 (Y 5 k)) (h : XA Y k (fun _ _ => True) n S tl) (ht : tl = 0) : XS Y k n S := by
  obtain ⟨⟨h1, h0⟩, h2, h3, h4, h5, h6⟩ := h
  refine ⟨h1, h3, fun P hP i i1 i2 => h4 i i1 i2 P hP, ⟨fun f g hfg ⟨i, i1, i2, i3⟩ => ⟨i, i1, i2, eqv_t i3 hfg⟩, ⟨0, by omega, by omega, h0⟩, ?_⟩⟩
  rintro f w w1 w2 ⟨i, i1, i2, i3⟩ hv hc
  have hc' := (cm_q (Y := Y) (k := k) i3 w1 w2).mpr hc
  obtain ⟨j, j1, j2, j3⟩ := h5 ht i w trivial i1 i2 w1 w2 hc'
  exact ⟨j, j1, j2, eqv_t j3 (mv_q i3 hR (h2 i i1 i2).1 h8 (fun e a b => ((h2 i i1 i2).2 e a b).1) w1 w2 hc')⟩
theorem XA_xt (h : XA Y k Dn n S tl) (ht : ¬ tl = 0) : XT Y k := by
  obtain ⟨⟨h1, h0⟩, h2, h3, h4, h5, h6⟩ := h
  obtain ⟨hn, g, g1, g2⟩ := h6 ht
  refine ⟨fun i => if i < 2000 then S i else g, fun i j i1 i2 i3 => ?_, fun P hP i i1 i2 => ?_⟩
  · show ¬ eqv (if i < 2000 then S i else g) (if j < 2000 then S j else g)
    rw [if_pos (by omega)]
    by_cases hj : j < 2000
    · rw [if_pos hj]; exact h3 i j i1 i2 (by omega)
    · rw [if_neg hj]; exact g2 i i1 (by omega)
  · show P (if i < 2000 then S i else g)
    split
    · exact h4 i i1 (by omega) P hP
    · exact g1 P hP
end
