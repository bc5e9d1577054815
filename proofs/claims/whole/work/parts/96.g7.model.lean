/-! EXPLORING: the model goes through -/
section
variable {Y Z Z' : zY} {k s w : Int} {Dn Dn' : Int → Int → Prop}
theorem MS_r (h : MS Y k Dn Z) (hP : PQ Z' k) (hf : ∀ (f : Nat) (e : Int), ¬ f = 34 → ¬ f = 35 → ¬ f = 37 → ¬ f = 38 → Z' f e = Z f e) : MS Y k Dn Z' := by
  obtain ⟨h1, h2, h3, h4⟩ := h
  have a33 := hf 33 0 (by decide) (by decide) (by decide) (by decide)
  have aSc : Sc Z' = Sc Z := Sc_c (fun i => hf 36 i (by decide) (by decide) (by decide) (by decide))
  have asn : m_sn Z' = m_sn Z := by unfold m_sn; rw [a33]
  have atl : tlm Z' = tlm Z := by unfold tlm; rw [a33]
  exact ⟨Stc_f h1 (fun f e hh => hf f e (by omega) (by omega) (by omega) (by omega)), hP, by rw [asn, aSc, atl]; exact h3, by rw [asn]; exact h4⟩
theorem MS_gf (hY : RG Y) (hK : PK Y k) (h : MS Y k (fun j _ => j < s) Z) (hn : Z 33 0 ≤ 2000) (s1 : 0 ≤ s) (s2 : s < m_sn Z) (hep : EP (Bm Z) (Dm Y Z k) s (Z 34 0) (fun i => Z 37 i)) (h35 : Z 35 0 = 0) : MS Y k (fun j _ => j < s + 1) (m_gf Z k s) ∧ EP (Bm (m_gf Z k s)) (Dm Y (m_gf Z k s) k) (s + 1) (m_gf Z k s 34 0) (fun i => m_gf Z k s 37 i) ∧ m_gf Z k s 35 0 = 0 ∧ s + 1 ≤ m_sn (m_gf Z k s) ∧ m_gf Z k s 32 0 = Z 32 0 := by
  obtain ⟨m1, b1, c1, d1, e1⟩ := MS_1 (Dn' := fun j v => j < s ∨ (j = s ∧ v = 0)) (w := 0) hY hK h (fun j u hh => hh) s1 s2 (by omega) (by omega) (by omega)
  obtain ⟨m2, b2, c2, d2, e2⟩ := MS_1 (Dn' := fun j v => (j < s ∨ (j = s ∧ v = 0)) ∨ (j = s ∧ v = 1)) (w := 1) hY hK m1 (fun j u hh => hh) s1 (by omega) (by omega) (by omega) (by omega)
  obtain ⟨m3, b3, c3, d3, e3⟩ := MS_1 (Dn' := fun j v => ((j < s ∨ (j = s ∧ v = 0)) ∨ (j = s ∧ v = 1)) ∨ (j = s ∧ v = 2)) (w := 2) hY hK m2 (fun j u hh => hh) s1 (by omega) (by omega) (by omega) (by omega)
  obtain ⟨m4, b4, c4, d4, e4⟩ := MS_1 (Dn' := fun j v => (((j < s ∨ (j = s ∧ v = 0)) ∨ (j = s ∧ v = 1)) ∨ (j = s ∧ v = 2)) ∨ (j = s ∧ v = 3)) (w := 3) hY hK m3 (fun j u hh => hh) s1 (by omega) (by omega) (by omega) (by omega)
  have S1 := c1 s s1 s2
  have S2 : Sc (m_g1 (m_g1 Z k s 0) k s 1) s = Sc Z s := by rw [c2 s s1 (by omega), S1]
  have S3 : Sc (m_g1 (m_g1 (m_g1 Z k s 0) k s 1) k s 2) s = Sc Z s := by rw [c3 s s1 (by omega), S2]
  have S4 : ∀ j, 0 ≤ j → j < m_sn Z → Sc (m_g4 Z k s) j = Sc Z j := fun j j1 j2 => by
    show Sc (m_g1 (m_g1 (m_g1 (m_g1 Z k s 0) k s 1) k s 2) k s 3) j = Sc Z j
    rw [c4 j j1 (by omega), c3 j j1 (by omega), c2 j j1 (by omega), c1 j j1 j2]
  have f4 : ∀ (f : Nat) (e : Int), f = 32 ∨ f = 34 ∨ f = 35 ∨ f = 37 → m_g4 Z k s f e = Z f e := fun f e hf => by
    show m_g1 (m_g1 (m_g1 (m_g1 Z k s 0) k s 1) k s 2) k s 3 f e = Z f e
    rw [d4 f e hf, d3 f e hf, d2 f e hf, d1 f e hf]
  have m4' : MS Y k (fun j _ => j < s + 1) (m_g4 Z k s) := by
    obtain ⟨a1, a2, a3, a4⟩ := m4
    refine ⟨a1, a2, XA_w (fun j u u1 u2 hh => ?_) a3, fun j u hh => by show j < m_sn (m_g1 (m_g1 (m_g1 (m_g1 Z k s 0) k s 1) k s 2) k s 3); omega⟩
    by_cases c : j < s
    · exact .inl (.inl (.inl (.inl c)))
    · have hj : j = s := by omega
      obtain rfl | rfl | rfl | rfl : u = 0 ∨ u = 1 ∨ u = 2 ∨ u = 3 := by omega
      · exact .inl (.inl (.inl (.inr ⟨hj, rfl⟩)))
      · exact .inl (.inl (.inr ⟨hj, rfl⟩))
      · exact .inl (.inr ⟨hj, rfl⟩)
      · exact .inr ⟨hj, rfl⟩
  have hsn4 : m_sn Z ≤ m_sn (m_g4 Z k s) := by show m_sn Z ≤ m_sn (m_g1 (m_g1 (m_g1 (m_g1 Z k s 0) k s 1) k s 2) k s 3); omega
  have hPg := PQ_gf h.2.1 s1 s2 hn (by have := hep.1; omega) (by omega)
  have hv : ∀ X : zY, Sc X s = Sc Z s → Vd Y k (Sc X s) := fun X hX => by rw [hX]; exact h.2.2.1.2.1 s s1 s2
  have hie : m_ie (m_op (m_g4 Z k s) s) k ↔ Dm Y Z k s := by
    have h9 := (op_q (w := 0) hY hK m4'.1 (hv _ (S4 s s1 s2)) (by omega) (by omega)).2.2
    rw [S4 s s1 s2] at h9
    exact h9
  have f5 : ∀ (f : Nat) (e : Int), ¬ f = 38 → m_op (m_g4 Z k s) s f e = m_g4 Z k s f e := fun f e hf => m_op_f hf
  have epc : ∀ X : zY, (∀ e, X 36 e = m_g4 Z k s 36 e) → EP (Bm X) (Dm Y X k) s (Z 34 0) (fun i => Z 37 i) := fun X hX => by
    have aSc : ∀ j, 0 ≤ j → j < m_sn Z → Sc X j = Sc Z j := fun j j1 j2 => by rw [show Sc X = Sc (m_g4 Z k s) from Sc_c hX, S4 j j1 j2]
    refine EP_c (fun i j i1 i2 j1 j2 hb => ?_) (fun i i1 i2 => ?_) hep
    · unfold Bm at hb ⊢
      rw [aSc i i1 (by omega), aSc j j1 (by omega)]; exact hb
    · unfold Dm
      rw [aSc i i1 (by omega)]
  by_cases c : m_ie (m_op (m_g4 Z k s) s) k
  · have e : m_gf Z k s = m_ae (m_op (m_g4 Z k s) s) s := if_pos c
    rw [e] at hPg ⊢
    have g34 : m_op (m_g4 Z k s) s 34 0 = Z 34 0 := by rw [f5 34 _ (by decide), f4 34 _ (by omega)]
    have hae : ∀ (f : Nat) (e : Int), ¬ f = 34 → ¬ f = 37 → m_ae (m_op (m_g4 Z k s) s) s f e = m_op (m_g4 Z k s) s f e := fun f e a b => by
      unfold m_ae
      rw [yu_f a, m_ai_f b]
    have hMS := MS_r m4' hPg.1 (fun f e a b c d => by rw [hae f e a c, f5 f e d])
    have a36 : ∀ e, m_ae (m_op (m_g4 Z k s) s) s 36 e = m_g4 Z k s 36 e := fun e => by rw [hae 36 e (by decide) (by decide), f5 36 e (by decide)]
    refine ⟨hMS, ?_, by rw [hae 35 0 (by decide) (by decide), f5 35 _ (by decide), f4 35 _ (by omega)]; exact h35, ?_, by rw [hae 32 0 (by decide) (by decide), f5 32 _ (by decide), f4 32 _ (by omega)]⟩
    · have e34 : m_ae (m_op (m_g4 Z k s) s) s 34 0 = Z 34 0 + 1 := by unfold m_ae; rw [yu_s, g34]
      rw [e34]
      have h0 := hep.1
      obtain ⟨po, p1, p2', p3, p4, p5, p6, p7⟩ := ai_s (u := s) (Z 34 0).toNat (m_op (m_g4 Z k s) s)
      have e37 : ∀ j, m_ae (m_op (m_g4 Z k s) s) s 37 j = m_ai s (Z 34 0).toNat (m_op (m_g4 Z k s) s) 37 j := fun j => by unfold m_ae; rw [yu_f (by decide), g34]
      have z37 : ∀ j, m_op (m_g4 Z k s) s 37 j = Z 37 j := fun j => by rw [f5 37 _ (by decide), f4 37 _ (by omega)]
      have hbs : ∀ j, Bm (m_ae (m_op (m_g4 Z k s) s) s) s (Z 37 j) ↔ m_bs (m_op (m_g4 Z k s) s) s (Z 37 j) = 1 := fun j => by
        unfold Bm m_bs
        rw [bf_c 16 2 (fun e a b => ⟨by rw [Sc_y (by omega) (by omega), a36, ← f5 36 _ (by decide)], by rw [Sc_y (by omega) (by omega), a36, ← f5 36 _ (by decide)]⟩)]
      have hd : Dm Y (m_ae (m_op (m_g4 Z k s) s) s) k s := by
        unfold Dm
        rw [show Sc (m_ae (m_op (m_g4 Z k s) s) s) = Sc (m_g4 Z k s) from Sc_c a36, S4 s s1 s2]
        exact hie.mp c
      refine EP_i (po := po) s1 hd (fun i j l x y => bf_t x y) (fun u u1 u2 hu => ?_) p1.1 (by omega) (fun j j1 j2 => ?_) (fun hpo => ?_) (fun j j1 j2 => ?_) ?_ (fun j j1 j2 => ?_) (epc _ a36)
      · have hv1 := (hMS.2.2.1.2.1 s s1 (by have := hMS.2.2.2 s 0 (by omega); exact this)).1
        have hv2 := (hMS.2.2.1.2.1 u u1 (by have := hMS.2.2.2 u 0 (by omega); exact this)).1
        rcases bf_3 (f := Sc (m_ae (m_op (m_g4 Z k s) s) s) s) (g := Sc (m_ae (m_op (m_g4 Z k s) s) s) u) 16 2 with hh | hh | hh
        · exact absurd (eqv_s (end_q hv1 hv2 hd hu hh)) (hMS.2.2.1.2.2.1 u s u1 u2 (hMS.2.2.2 s 0 (by omega)))
        · exact .inl hh
        · exact .inr hh
      · have := p2' j j1 (by omega)
        rw [z37] at this
        refine (hbs j).mpr ?_
        rcases m_bf_01 (fun e => m_op (m_g4 Z k s) s 36 (28 * s + e)) (fun e => m_op (m_g4 Z k s) s 36 (28 * Z 37 j + e)) 16 2 with hh | hh
        · exact absurd hh this
        · exact hh
      · have := p3 hpo
        rw [z37] at this
        intro hh
        have h9 := (hbs _).mp hh
        omega
      · show m_ae (m_op (m_g4 Z k s) s) s 37 j = Z 37 j
        rw [e37, p4 j j1 j2, z37]
      · show m_ae (m_op (m_g4 Z k s) s) s 37 po = s
        rw [e37, p5]
      · show m_ae (m_op (m_g4 Z k s) s) s 37 (j + 1) = Z 37 j
        rw [e37, p6 j j1 (by omega), z37]
    · have := hPg.2.1
      omega
  · have hc4 : ¬ m_c4 Z k s = 0 := by
      intro hh
      refine c (hie.mpr (no_mv (fun w w1 w2 hcm => ?_)))
      have k0 := bI_r (c := m_cm (m_op Z s) k 0)
      have k1 := bI_r (c := m_cm (m_op (m_g1 Z k s 0) s) k 1)
      have k2 := bI_r (c := m_cm (m_op (m_g1 (m_g1 Z k s 0) k s 1) s) k 2)
      have k3 := bI_r (c := m_cm (m_op (m_g1 (m_g1 (m_g1 Z k s 0) k s 1) k s 2) s) k 3)
      unfold m_c4 m_c1 at hh
      obtain rfl | rfl | rfl | rfl : w = 0 ∨ w = 1 ∨ w = 2 ∨ w = 3 := by omega
      · have h9 := (op_q (w := 0) hY hK h.1 (hv _ rfl) (by omega) (by omega)).1
        rw [bI_t (h9.mpr hcm)] at hh
        omega
      · have h9 := (op_q (w := 1) hY hK m1.1 (hv _ S1) (by omega) (by omega)).1
        rw [S1] at h9
        rw [bI_t (h9.mpr hcm)] at hh
        omega
      · have h9 := (op_q (w := 2) hY hK m2.1 (hv _ S2) (by omega) (by omega)).1
        rw [S2] at h9
        rw [bI_t (h9.mpr hcm)] at hh
        omega
      · have h9 := (op_q (w := 3) hY hK m3.1 (hv _ S3) (by omega) (by omega)).1
        rw [S3] at h9
        rw [bI_t (h9.mpr hcm)] at hh
        omega
    have e : m_gf Z k s = m_op (m_g4 Z k s) s := by
      unfold m_gf
      rw [if_neg c, if_neg hc4]
    rw [e] at hPg ⊢
    have g34 : m_op (m_g4 Z k s) s 34 0 = Z 34 0 := by rw [f5 34 _ (by decide), f4 34 _ (by omega)]
    have g37 : (fun i => m_op (m_g4 Z k s) s 37 i) = fun i => Z 37 i := by funext i; rw [f5 37 _ (by decide), f4 37 _ (by omega)]
    have a36 : ∀ e, m_op (m_g4 Z k s) s 36 e = m_g4 Z k s 36 e := fun e => f5 36 e (by decide)
    refine ⟨MS_r m4' hPg.1 (fun f e _ _ _ d => f5 f e d), ?_, by rw [f5 35 _ (by decide), f4 35 _ (by omega)]; exact h35, by have := hPg.2.1; omega, by rw [f5 32 _ (by decide), f4 32 _ (by omega)]⟩
    rw [g34, g37]
    refine EP_n s1 ?_ (epc _ a36)
    unfold Dm
    rw [show Sc (m_op (m_g4 Z k s) s) = Sc (m_g4 Z k s) from Sc_c a36, S4 s s1 s2]
    exact fun hh => c (hie.mpr hh)
/-- what the model has found -/
def ML (Y : zY) (k : Int) (Z : zY) : Prop := Stc Y Z ∧ Z 32 0 = k ∧ (Z 33 0 ≤ 2000 → XS Y k (Z 33 0) (fun i e => Z 36 (28 * i + e)) ∧ EN Y k (Z 33 0) (fun i e => Z 36 (28 * i + e)) (Z 34 0) (fun i => Z 37 i) ∧ Z 35 0 = 0) ∧ (2000 < Z 33 0 → XT Y k)
theorem XS_q {n : Int} {S S' : Int → Int → Int} (h : ∀ i, eqv (S i) (S' i)) (hX : XS Y k n S) : XS Y k n S' := by
  obtain ⟨a1, a2, a3, b1, b2, b3⟩ := hX
  refine ⟨a1, fun i j x y z hh => a2 i j x y z (eqv_t (h i) (eqv_t hh (eqv_s (h j)))), fun P hP i i1 i2 => hP.1 _ _ (h i) (a3 P hP i i1 i2), fun f g hfg ⟨i, i1, i2, i3⟩ => ⟨i, i1, i2, eqv_t i3 hfg⟩, ?_, ?_⟩
  · obtain ⟨i, i1, i2, i3⟩ := b2
    exact ⟨i, i1, i2, eqv_t (eqv_s (h i)) i3⟩
  · rintro f w w1 w2 ⟨i, i1, i2, i3⟩ hv hc
    obtain ⟨j, j1, j2, j3⟩ := b3 f w w1 w2 ⟨i, i1, i2, eqv_t (h i) i3⟩ hv hc
    exact ⟨j, j1, j2, eqv_t (eqv_s (h j)) j3⟩
theorem lt1_x (hY : RG Y) (hK : PK Y k) : ∀ (n : Nat) (s : Int) (Z : zY), MS Y k (fun j _ => j < s) Z → 0 ≤ s → s + n = 2000 → s ≤ m_sn Z → Z 32 0 = k → (Z 33 0 ≤ 2000 → EP (Bm Z) (Dm Y Z k) s (Z 34 0) (fun i => Z 37 i) ∧ Z 35 0 = 0) → ML Y k (m_lt1 k n s Z) := by
  have b8 : 0 < Y 8 (Y 5 (Y 5 k)) ∧ Y 8 (Y 5 (Y 5 k)) ≤ 8 ∧ Y 5 (Y 6 k) = Y 5 (Y 5 k) := ⟨hK.2.2.1.1, (hY 8 _).2, hK.2.2.1.2⟩
  have fin : ∀ (s : Int) (Z : zY), MS Y k (fun j _ => j < s) Z → Z 32 0 = k → m_sn Z ≤ s ∨ 2000 < Z 33 0 → (Z 33 0 ≤ 2000 → EP (Bm Z) (Dm Y Z k) s (Z 34 0) (fun i => Z 37 i) ∧ Z 35 0 = 0) → s ≤ m_sn Z → ML Y k Z := by
    intro s Z hm h32 hs hep hsn
    refine ⟨hm.1, h32, fun h33 => ?_, fun h33 => XA_xt hm.2.2.1 (by unfold tlm; rw [if_neg (by omega)]; decide)⟩
    have esn : m_sn Z = Z 33 0 := by unfold m_sn; split <;> omega
    have etl : tlm Z = 0 := by unfold tlm; rw [if_pos h33]
    have hsn' : s = Z 33 0 := by omega
    obtain ⟨hep1, hep2⟩ := hep h33
    obtain ⟨x1, x2, x3, x4, x5, x6⟩ := hm.2.2.1
    have hxs := XA_xs hY b8 (S := Sc Z) (n := m_sn Z) (tl := tlm Z) ⟨x1, x2, x3, x4, fun h0 i w _ i1 i2 w1 w2 hc => x5 h0 i w (by omega) i1 i2 w1 w2 hc, x6⟩ etl
    rw [esn] at hxs
    have hq : ∀ i, eqv (Sc Z i) (fun e => Z 36 (28 * i + e)) := fun i e a b => Sc_y a b
    obtain ⟨y1, y2, y3, y4⟩ := hep1
    refine ⟨XS_q hq hxs, ⟨by omega, fun i i1 i2 => ⟨by have := (y2 i i1 i2).1; omega, (ie_q (hq _)).mp (y2 i i1 i2).2⟩, fun i j i1 i2 i3 => ?_, fun i i1 i2 hi => y4 i i1 (by omega) ((ie_q (hq i)).mpr hi)⟩, hep2⟩
    have h9 : m_bf (Sc Z (Z 37 i)) (Sc Z (Z 37 j)) 16 2 = 1 := y3 i j i1 i2 i3
    rw [← h9]
    exact bf_c 16 2 (fun e a b => ⟨(hq _ e (by omega) (by omega)).symm, (hq _ e (by omega) (by omega)).symm⟩)
  intro n
  induction n with
  | zero =>
    intro s Z hm s1 s2 hsn h32 hep
    exact fin s Z hm h32 (.inl (by unfold m_sn; split <;> omega)) hep hsn
  | succ n ih =>
    intro s Z hm s1 s2 hsn h32 hep
    unfold m_lt1
    by_cases c : s < Z 33 0 ∧ Z 33 0 ≤ 2000
    · rw [if_pos c]
      have esn : m_sn Z = Z 33 0 := by unfold m_sn; split <;> omega
      obtain ⟨hep1, hep2⟩ := hep c.2
      obtain ⟨r1, r2, r3, r4, r5⟩ := MS_gf hY hK hm c.2 s1 (by omega) hep1 hep2
      exact ih (s + 1) _ r1 (by omega) (by omega) r4 (by rw [r5]; exact h32) (fun _ => ⟨r2, r3⟩)
    · rw [if_neg c]
      refine fin s Z hm h32 ?_ hep hsn
      by_cases c2 : Z 33 0 ≤ 2000
      · exact .inl (by have : ¬ s < Z 33 0 := fun hh => c ⟨hh, c2⟩
                       unfold m_sn; split <;> omega)
      · exact .inr (by omega)
theorem lt_x (hY : RG Y) (hK : PK Y k) (hne : ¬ Y 32 0 = k) : ML Y k (m_lt Y k) := by
  have e : m_lt Y k = m_lt1 k 2000 0 (m_lt0 Y k) := if_neg hne
  obtain ⟨q1, q2, q3⟩ := PQ_0 hY hK
  have h33 : m_lt0 Y k 33 0 = 1 := lt0_33
  have esn : m_sn (m_lt0 Y k) = 1 := by unfold m_sn; rw [h33]; rfl
  have etl : tlm (m_lt0 Y k) = 0 := by unfold tlm; rw [h33]; rfl
  have hst : Stc Y (m_lt0 Y k) := fun f e hf => lt0_f (by omega) (by omega) (by omega) (by omega) (by omega) (by omega) (by omega) (by omega)
  have hS0 : ∀ e, Sc (m_lt0 Y k) 0 e = 0 := by
    intro e
    unfold Sc
    split
    next hh => rw [show 28 * (0 : Int) + e = e by omega]; exact lt0_36 hh.1 hh.2
    next => rfl
  have hS0' : Sc (m_lt0 Y k) 0 = fun _ => 0 := by funext e; exact hS0 e
  obtain ⟨cv, ceq⟩ := CV_0 hY hK
  have hvd : Vd Y k (fun _ => 0) := Vd_q (hY 8 _).1 ceq cv.2
  have hms : MS Y k (fun j _ => j < 0) (m_lt0 Y k) := by
    refine ⟨hst, q1, ?_, fun j u hh => by rw [esn]; omega⟩
    rw [esn, etl]
    refine ⟨⟨⟨by omega, by omega⟩, by rw [hS0']; exact eqv_r⟩, fun i i1 i2 => ?_, fun i j i1 i2 i3 => by omega, fun i i1 i2 P hP => ?_, fun _ i w hd a => absurd hd (by omega), fun hh => absurd rfl hh⟩
    · rw [show i = 0 by omega, hS0']; exact hvd
    · rw [show i = 0 by omega, hS0']; exact hP.2.1
  have h32 : m_lt0 Y k 32 0 = k := by
    rw [lt0_e, m_ke_f (by decide) (by decide) (by decide) (by decide)]
    unfold m_l00
    rw [m_ov_f (by decide), m_ov_f (by decide), yu_f (by decide), yu_f (by decide), yu_f (by decide), yu_s]
  rw [e]
  refine lt1_x hY hK 2000 0 _ hms (by omega) (by omega) (by rw [esn]; omega) h32 (fun _ => ⟨?_, q3⟩)
  rw [q2]
  exact ⟨by omega, fun i i1 i2 => by omega, fun i j i1 i2 i3 => by omega, fun i i1 i2 => by omega⟩
end
