/-! FRAMES: a thing that a call doesn't touch -/
/-- k's own numbers are the same -/
def OC (Y Z : zY) (k : Int) : Prop := ∀ (f : Nat) (e : Int), ((3 ≤ f ∧ f ≤ 29) ∨ f = 41) → 0 ≤ e → cow f e = k → Z f e = Y f e
/-- the numbers of a program, a core -/
def PC (Y Z : zY) (q : Int) : Prop := ∀ (f : Nat) (e : Int), 9 ≤ f → f ≤ 18 → 0 ≤ e → cow f e = q → Z f e = Y f e
def SC (Y Z : zY) (H : Int) : Prop := ∀ (f : Nat) (e : Int), (f = 3 ∨ f = 5 ∨ f = 6 ∨ f = 7 ∨ f = 8) → 1 ≤ e → e ≤ H → Z f e = Y f e
theorem OC_n {Y Z : zY} {k : Int} (h : OC Y Z k) (k1 : 1 ≤ k) (k2 : k ≤ 60) (f : Nat) (hf : ((3 ≤ f ∧ f ≤ 13) ∨ f = 23 ∨ f = 24 ∨ f = 28 ∨ f = 29 ∨ f = 41)) : Z f k = Y f k := by
  refine h f k (by omega) (by omega) ?_
  unfold cow
  rw [if_neg (by omega), if_neg (by omega), if_neg (by omega), if_neg (by omega), if_neg (by omega)]
theorem OC_r {Y Z : zY} {k : Int} (h : OC Y Z k) (k1 : 1 ≤ k) (k2 : k ≤ 60) (f : Nat) (hf : f = 20 ∨ f = 21 ∨ f = 22) : Z f k = Y f k ∧ Z f (61 + k) = Y f (61 + k) := by
  refine ⟨h f k (by omega) (by omega) ?_, h f _ (by omega) (by omega) ?_⟩ <;> (unfold cow; rw [if_neg (by omega), if_pos (by omega)]; omega)
theorem OC_19 {Y Z : zY} {k j : Int} (h : OC Y Z k) (k1 : 1 ≤ k) (k2 : k ≤ 60) (j1 : 0 ≤ j) (j2 : j < 12) : Z 19 (12 * k + j) = Y 19 (12 * k + j) ∧ Z 19 (12 * (61 + k) + j) = Y 19 (12 * (61 + k) + j) := by
  refine ⟨h 19 _ (by omega) (by omega) ?_, h 19 _ (by omega) (by omega) ?_⟩ <;> (unfold cow; rw [if_pos rfl]; omega)
theorem OC_w {Y Z : zY} {k j : Int} (h : OC Y Z k) (k1 : 1 ≤ k) (j1 : 0 ≤ j) (j2 : j < 24) (f : Nat) (f1 : 14 ≤ f) (f2 : f ≤ 18) : Z f (24 * k + j) = Y f (24 * k + j) := by
  refine h f _ (by omega) (by omega) ?_
  unfold cow
  rw [if_neg (by omega), if_neg (by omega), if_pos (by omega)]
  omega
theorem OC_25 {Y Z : zY} {k j : Int} (h : OC Y Z k) (k1 : 1 ≤ k) (j1 : 0 ≤ j) (j2 : j < 16) : Z 25 (16 * k + j) = Y 25 (16 * k + j) := by
  refine h 25 _ (by omega) (by omega) ?_
  unfold cow
  rw [if_neg (by omega), if_neg (by omega), if_neg (by omega), if_pos rfl]
  omega
theorem OC_26 {Y Z : zY} {k j : Int} (h : OC Y Z k) (k1 : 1 ≤ k) (j1 : 0 ≤ j) (j2 : j < 4) (f : Nat) (hf : f = 26 ∨ f = 27) : Z f (4 * k + j) = Y f (4 * k + j) := by
  refine h f _ (by omega) (by omega) ?_
  unfold cow
  rw [if_neg (by omega), if_neg (by omega), if_neg (by omega), if_neg (by omega), if_pos hf]
  omega
theorem PC_n {Y Z : zY} {q : Int} (h : PC Y Z q) (q1 : 0 ≤ q) (f : Nat) (f1 : 9 ≤ f) (f2 : f ≤ 13) : Z f q = Y f q := by
  refine h f q f1 (by omega) q1 ?_
  unfold cow
  rw [if_neg (by omega), if_neg (by omega), if_neg (by omega), if_neg (by omega), if_neg (by omega)]
theorem PC_w {Y Z : zY} {q j : Int} (h : PC Y Z q) (q1 : 0 ≤ q) (j1 : 0 ≤ j) (j2 : j < 24) (f : Nat) (f1 : 14 ≤ f) (f2 : f ≤ 18) : Z f (24 * q + j) = Y f (24 * q + j) := by
  refine h f _ (by omega) f2 (by omega) ?_
  unfold cow
  rw [if_neg (by omega), if_neg (by omega), if_pos ⟨f1, f2⟩]
  omega
theorem s_en_c {Y Z : zY} {k i : Int} (h : OC Y Z k) (k1 : 1 ≤ k) : s_en Z k i = s_en Y k i := by
  have := mod_b (v := i) (m := 16) (by omega)
  exact OC_25 h k1 this.1 this.2
theorem m_ra_c {Y Z : zY} {k r : Int} (h : OC Y Z k) (k1 : 1 ≤ k) (r1 : 0 ≤ r) (r2 : r < 4) : m_ra Z k r = m_ra Y k r := by
  unfold m_ra
  rw [OC_26 h k1 r1 r2 26 (by omega), OC_26 h k1 r1 r2 27 (by omega)]
theorem s_le_c {Y Z : zY} {k : Int} (h : OC Y Z k) (k1 : 1 ≤ k) (k2 : k ≤ 60) : s_le Z k = s_le Y k := by
  unfold s_le
  rw [(OC_r h k1 k2 21 (by omega)).2]
  have := mod_b (v := Y 21 (61 + k) - 1) (m := 16) (by omega)
  rw [OC_25 h k1 this.1 this.2]
theorem s_ba_c {Y Z : zY} {k : Int} (h : OC Y Z k) (k1 : 1 ≤ k) (k2 : k ≤ 60) (h12 : Z 12 (Y 5 k) = Y 12 (Y 5 k)) : s_ba Z k = s_ba Y k := by
  unfold s_ba
  rw [(OC_r h k1 k2 21 (by omega)).2, OC_n h k1 k2 41 (by omega), OC_n h k1 k2 5 (by omega), h12]
theorem RI_c {Y Z : zY} {c p : Int} (h5 : Z 5 p = Y 5 p) (h7 : Z 7 (Y 5 p) = Y 7 (Y 5 p)) (h8 : Z 8 (Y 5 p) = Y 8 (Y 5 p)) (h13 : Y 13 p ≤ Z 13 p) (h20 : Z 20 c = Y 20 c) (h19 : ∀ j, 0 ≤ j → j < 12 → Z 19 (12 * c + j) = Y 19 (12 * c + j)) (hp : 0 ≤ Y 8 (Y 5 p)) (h : RI Y c p) : RI Z c p := by
  obtain ⟨a, b, d⟩ := h
  refine ⟨fun j j1 j2 => ?_, fun j j1 j2 => ?_, ?_⟩
  · rw [h19 j j1 j2, h5, h7]; exact a j j1 j2
  · rw [h5, h8] at j1
    rw [h19 j (by omega) j2]; exact b j j1 j2
  · rw [h20]; omega
theorem RT_c {Y Z : zY} {c p : Int} (ht : ∀ n, tr Z p n = tr Y p n) (h21 : Z 21 c = Y 21 c) (h20 : Z 20 c = Y 20 c) (h22 : Z 22 c = Y 22 c) (h19 : ∀ j, 0 ≤ j → j < 12 → Z 19 (12 * c + j) = Y 19 (12 * c + j)) (h : RT Y c p) : RT Z c p := by
  obtain ⟨a, b, d⟩ := h
  refine ⟨fun j j1 j2 => ?_, ?_, ?_⟩
  · rw [h19 j j1 j2, ht, h21]; exact a j j1 j2
  · rw [h20, ht, h21]; exact b
  · rw [h22, ht, h21]; exact d
theorem m_f_c {Y Z : zY} {k f : Int} (hR : RG Y) (h : OC Y Z k) (k1 : 1 ≤ k) (k2 : k ≤ 60) (hP : PC Y Z (Y 6 k)) (hpl : Y 20 (61 + k) < 24) : m_f1 Z k f = m_f1 Y k f ∧ m_f2 Z k f = m_f2 Y k f := by
  have a6 : 0 ≤ Y 6 k := (hR 6 k).1
  have a20 : 0 ≤ Y 20 (61 + k) := (hR 20 _).1
  have hew : m_ew Z k = m_ew Y k := by
    unfold m_ew m_w
    rw [OC_n h k1 k2 6 (by omega), (OC_r h k1 k2 20 (by omega)).2]
  have q := fun (f : Nat) (a : 14 ≤ f) (b : f ≤ 18) => show Z f (m_ew Y k) = Y f (m_ew Y k) from PC_w hP a6 a20 hpl f a b
  have hrd : m_rd Z (m_ew Y k) = m_rd Y (m_ew Y k) := by unfold m_rd; rw [q 14 (by omega) (by omega)]
  have b16 : 0 ≤ Y 16 (m_ew Y k) ∧ Y 16 (m_ew Y k) ≤ 3 := hR 16 _
  have b17 : 0 ≤ Y 17 (m_ew Y k) ∧ Y 17 (m_ew Y k) ≤ 3 := hR 17 _
  constructor
  · unfold m_f1
    rw [hew, hrd, q 16 (by omega) (by omega), m_ra_c h k1 b16.1 (by omega)]
  · unfold m_f2
    rw [hew, hrd, q 17 (by omega) (by omega), m_ra_c h k1 b17.1 (by omega)]
theorem SI_c {Y Z : zY} {k : Int} (hZ : RG Z) (h : OC Y Z k) (hP : PC Y Z (Y 6 k)) (hK : PC Y Z (Y 5 k)) (h5 : Z 5 (Y 6 k) = Y 5 (Y 6 k)) (h7 : Z 7 (Y 5 (Y 6 k)) = Y 7 (Y 5 (Y 6 k))) (h8 : Z 8 (Y 5 (Y 6 k)) = Y 8 (Y 5 (Y 6 k))) (hI : SI Y k) : SI Z k := by
  obtain ⟨hV, ⟨i1, i2⟩, ⟨j1, j2⟩, i3, i4, i5, i6, i7, i8, i9, i10, i11, i12⟩ := hI
  obtain ⟨hR, ⟨k1, k2⟩, v3, v4, v5, v6, v7, v8, v9, v10⟩ := hV
  have a6 : 0 ≤ Y 6 k := (hR 6 k).1
  have a5 : 0 ≤ Y 5 k := (hR 5 k).1
  have p13 := PC_n hP a6 13 (by omega) (by omega)
  have c9 := PC_n hK a5 9 (by omega) (by omega)
  have c12 := PC_n hK a5 12 (by omega) (by omega)
  have e6 := OC_n h k1 k2 6 (by omega)
  have e5 := OC_n h k1 k2 5 (by omega)
  have e23 := OC_n h k1 k2 23 (by omega)
  have e24 := OC_n h k1 k2 24 (by omega)
  have e28 := OC_n h k1 k2 28 (by omega)
  have e29 := OC_n h k1 k2 29 (by omega)
  obtain ⟨e20, f20⟩ := OC_r h k1 k2 20 (by omega)
  obtain ⟨e21, f21⟩ := OC_r h k1 k2 21 (by omega)
  obtain ⟨e22, f22⟩ := OC_r h k1 k2 22 (by omega)
  have m16 := mod_b (v := Y 21 (61 + k) - 1) (m := 16) (by omega)
  have e25 := OC_25 h k1 m16.1 m16.2
  have ht := tr_c (Z := Z) h5 h7 h8 p13 v3 (fun f j f1 f2 j1 j2 => PC_w hP a6 j1 (by have := (hR 13 (Y 6 k)).2; have h9 : Y 13 (Y 6 k) ≤ 24 := this; omega) f f1 f2)
  have w24 : Y 13 (Y 6 k) ≤ 24 := (hR 13 _).2
  have hpl : Y 20 (61 + k) < 24 := by have := i2.2.2; omega
  have hp8 : 0 ≤ Y 8 (Y 5 (Y 6 k)) := (hR 8 _).1
  have hsl := s_le_c h k1 k2
  have hsb := s_ba_c h k1 k2 c12
  refine ⟨⟨hZ, ⟨k1, k2⟩, by rw [e6, p13]; exact v3, by rw [e6, h5, h8]; exact v4, by rw [f21, f22, e25, e24]; exact v5, by rw [f21, e25, e28, e29]; exact v6, fun j j1 j2 => by rw [OC_26 h k1 j1 (by omega) 26 (by omega), e24]; exact v7 j j1 j2, by rw [e24]; exact v8, by rw [f21, f22, e24]; exact v9, by rw [e21, e22]; exact v10⟩, ⟨?_, ?_⟩, ⟨?_, ?_⟩, ?_, ?_, ?_, ?_, ?_, ?_, ?_, ?_, ?_, ?_⟩
  · rw [e6]; exact RI_c h5 h7 h8 (by omega) e20 (fun j a b => (OC_19 h k1 k2 a b).1) hp8 i1
  · rw [e6]; exact RI_c h5 h7 h8 (by omega) f20 (fun j a b => (OC_19 h k1 k2 a b).2) hp8 i2
  · rw [e6]; exact RT_c ht e21 e20 e22 (fun j a b => (OC_19 h k1 k2 a b).1) j1
  · rw [e6]; exact RT_c ht f21 f20 f22 (fun j a b => (OC_19 h k1 k2 a b).2) j2
  · intro i hi
    rw [f21] at hi
    rw [e6, ht]; exact i3 i hi
  · intro hh
    rw [f22] at hh
    rw [e23, e24, hsl, hsb, (m_f_c hR h k1 k2 hP hpl).1, (m_f_c hR h k1 k2 hP hpl).2]; exact i4 hh
  · rw [e21, f21]; exact i5
  · intro i a b
    rw [e21] at a
    rw [f21] at b
    rw [s_en_c h k1, s_en_c h k1]; exact i6 i a b
  · rw [e21, f21]; exact i7
  · rw [e21, f21, e23, s_en_c h k1, e5, c9]; exact i8
  · rw [hsl, e23]; exact i9
  · rw [e5, c9]; exact i10
  · rw [e22, e21, e23, s_en_c h k1, e5, c9]; exact i11
  · rw [f21, e24]; exact i12
section
variable {T T' : Nat → Nat} {Ln Ln' : Nat → Int} {M M' : Nat → Int → Value} {A A' : Int → Nat} {W W' : Int → Int → Nat} {Ow Ow' : Nat → Int} {X X' : Int → Int} {Y Z : zY} {k H : Int}
theorem RnAt_f {a p p' : Nat} {pl : Int} {N N' : Int → Int} {nx st en : Int} (h0 : T' a = T a ∧ M' a = M a) (h1 : T' (a + 1) = T (a + 1) ∧ Ln' (a + 1) = Ln (a + 1) ∧ M' (a + 1) = M (a + 1)) (h2 : T' (a + 2) = T (a + 2) ∧ Ln' (a + 2) = Ln (a + 2) ∧ M' (a + 2) = M (a + 2)) (hp : p' = p) (pl8 : pl ≤ 8) (hN : ∀ j, 0 ≤ j → j < 12 → N' j = N j) (h : RnAt T Ln M a p pl N nx st en) : RnAt T' Ln' M' a p' pl N' nx st en := by
  obtain ⟨⟨r1, r2, r3, r4, r5⟩, r6, r7, r8, r9, r10, r11, r12, r13, r14⟩ := h
  obtain ⟨a1, a2⟩ := h0
  obtain ⟨b1, b2, b3⟩ := h1
  obtain ⟨c1, c2, c3⟩ := h2
  subst hp
  refine ⟨⟨by rw [a1]; exact r1, by rw [b1]; exact r2, by rw [c1]; exact r3, by rw [b2]; exact r4, by rw [c2]; exact r5⟩, by rw [a2]; exact r6, by rw [a2]; exact r7, by rw [a2]; exact r8, by rw [a2]; exact r9, by rw [a2]; exact r10, by rw [a2]; exact r11, by rw [a2]; exact r12, fun j j1 j2 => by rw [b3, hN j j1 (by omega)]; exact r13 j j1 j2, fun j j1 j2 => by rw [c3, hN (4 + j) (by omega) (by omega)]; exact r14 j j1 j2⟩
/-- the thing k stays as it was -/
theorem TH_f (hIV : IV Y) (hRY : RG Y) (hRZ : RG Z) (hk : m_th Y k) (hH : Y 2 0 = H) (hT : ∀ a, ¬ Ow a = -5 → T' a = T a ∧ Ln' a = Ln a ∧ Ow' a = Ow a) (hM : ∀ a j, (Ow a = k ∨ Ow a = 102 ∨ Ow a = 103) → M' a j = M a j) (hA : ∀ j, 1 ≤ j → j ≤ H → A' j = A j) (hW : W' k = W k) (hX : X' k = X k) (hO : OC Y Z k) (hS : SC Y Z H) (hU : ∀ q, m_us Y k q → PC Y Z q) (h : TH T Ln M A W Ow X Y k) : TH T' Ln' M' A' W' Ow' X' Z k := by
  obtain ⟨⟨k1, k2⟩, k3⟩ := hk
  have kH : k ≤ H := by omega
  have h60 : Y 2 0 ≤ 60 := (hRY 2 0).2
  have k60 : k ≤ 60 := by omega
  obtain ⟨t0, t1, t2, t3, t4, t5, t6⟩ := hIV k k1 k2
  obtain ⟨u1, u2, u3, u4, u5, u6⟩ := h
  have e3 := OC_n hO k1 k60 3 (by omega)
  have e5 := OC_n hO k1 k60 5 (by omega)
  have e6 := OC_n hO k1 k60 6 (by omega)
  have aK := hA k k1 kH
  have own : ∀ a, Ow a = k → T' a = T a ∧ Ln' a = Ln a ∧ Ow' a = k ∧ M' a = M a := by
    intro a ha
    obtain ⟨b1, b2, b3⟩ := hT a (by omega)
    exact ⟨b1, b2, by rw [b3, ha], funext fun j => hM a j (.inl ha)⟩
  refine ⟨fun hh => ?_, fun hh => ?_, fun hh => ?_, fun hh => ?_, fun hh => ?_, fun hh => ?_⟩
  · rw [e3] at hh
    obtain ⟨⟨m1, m2, m3, m4⟩, m5⟩ := u1 hh
    obtain ⟨o1, o2, o3, o4⟩ := own _ m5
    unfold K1 MaAt
    rw [aK, o4, o1, o3, OC_n hO k1 k60 7 (by omega), OC_n hO k1 k60 8 (by omega)]
    exact ⟨⟨m1, m2, m3, m4⟩, rfl⟩
  · rw [e3] at hh
    obtain ⟨⟨⟨p1, p2, p3⟩, p4, p5, p6, p7, p8⟩, ⟨p9, p10⟩, p11⟩ := u2 hh
    obtain ⟨o1, o2, o3, o4⟩ := own _ p9
    obtain ⟨q1, q2, q3, q4⟩ := own _ p10
    obtain ⟨⟨r1, r2⟩, -⟩ := t2 hh
    have e13 := OC_n hO k1 k60 13 (by omega)
    have w24 : Y 13 k ≤ 24 := (hRY 13 k).2
    unfold K2 PrAt
    rw [aK, o4, q4, o1, q1, q2, o3, q3, e5, e13, hA _ r1 (by omega), hW]
    refine ⟨⟨⟨p1, p2, p3⟩, p4, p5, p6, p7, p8⟩, ⟨rfl, rfl⟩, fun j j1 j2 => ?_⟩
    obtain ⟨⟨w1, w2, w3, w4, w5, w6⟩, w7⟩ := p11 j j1 j2
    obtain ⟨x1, x2, x3⟩ := hT (W k j) (by omega)
    have x4 : M' (W k j) = M (W k j) := funext fun i => hM _ i (.inr (.inl w7))
    unfold WdAt
    rw [x1, x3, x4, OC_w hO k1 j1 (by omega) 14 (by omega) (by omega), OC_w hO k1 j1 (by omega) 15 (by omega) (by omega), OC_w hO k1 j1 (by omega) 16 (by omega) (by omega), OC_w hO k1 j1 (by omega) 17 (by omega) (by omega), OC_w hO k1 j1 (by omega) 18 (by omega) (by omega)]
    exact ⟨⟨w1, w2, w3, w4, w5, w6⟩, w7⟩
  · rw [e3] at hh
    obtain ⟨hr, ⟨o1, o2, o3⟩, hri⟩ := u3 hh
    obtain ⟨⟨⟨r1, r2⟩, r3, -⟩, r4⟩ := t3 hh
    obtain ⟨-, -, s2, -⟩ := hIV (Y 5 k) r1 (by omega)
    obtain ⟨⟨s3, s4⟩, -⟩ := s2 r3
    have f5 := hS 5 (Y 5 k) (by omega) r1 (by omega)
    have f8 := hS 8 (Y 5 (Y 5 k)) (by omega) s3 (by omega)
    have f7 := hS 7 (Y 5 (Y 5 k)) (by omega) s3 (by omega)
    have pu : m_us Y k (Y 5 k) := .inl ⟨by omega, rfl⟩
    have f13 := PC_n (hU _ pu) (by omega) 13 (by omega) (by omega)
    obtain ⟨g20, -⟩ := OC_r hO k1 k60 20 (by omega)
    obtain ⟨g21, -⟩ := OC_r hO k1 k60 21 (by omega)
    obtain ⟨g22, -⟩ := OC_r hO k1 k60 22 (by omega)
    have pl8 : Y 8 (Y 5 (Y 5 k)) ≤ 8 := (hRY 8 _).2
    have pl0 : 0 ≤ Y 8 (Y 5 (Y 5 k)) := (hRY 8 _).1
    obtain ⟨x1, x2, x3, x4⟩ := own _ o1
    obtain ⟨y1, y2, y3, y4⟩ := own _ o2
    obtain ⟨z1, z2, z3, z4⟩ := own _ o3
    unfold K3 RN
    rw [aK, e5, f5, f8, g20, g21, g22]
    refine ⟨RnAt_f ⟨x1, x4⟩ ⟨y1, y2, y4⟩ ⟨z1, z2, z4⟩ (hA _ r1 (by omega)) pl8 (fun j j1 j2 => (OC_19 hO k1 k60 j1 j2).1) hr, ⟨x3, y3, z3⟩, RI_c f5 f7 f8 (by omega) g20 (fun j j1 j2 => (OC_19 hO k1 k60 j1 j2).1) pl0 hri⟩
  · rw [e3] at hh
    obtain ⟨⟨c1, c2⟩, c3, c4, c5, c6, c7, c8⟩ := u4 hh
    obtain ⟨x1, x2, x3, x4⟩ := own _ c2
    obtain ⟨⟨⟨r1, r2⟩, -⟩, -⟩ := t4 hh
    unfold K4
    rw [aK, x1, x3, x4, e5, hA _ r1 (by omega), OC_n hO k1 k60 9 (by omega), OC_n hO k1 k60 10 (by omega), OC_n hO k1 k60 11 (by omega), OC_n hO k1 k60 12 (by omega)]
    exact ⟨⟨c1, rfl⟩, c3, c4, c5, c6, c7, c8⟩
  · rw [e3] at hh
    obtain ⟨⟨a1, a2, a3, a4, a5⟩, ⟨b1, b2, b3, b4⟩, ⟨c1, c2, c3, c4, c5⟩, ⟨d1, d2⟩, d3, d4, d5, d6, d7, d8, d9⟩ := u5 hh
    obtain ⟨⟨⟨r1, r2⟩, -⟩, ⟨⟨r3, r4⟩, r5, -⟩, r6, r7⟩ := t5 hh
    obtain ⟨-, -, s2, -⟩ := hIV (Y 6 k) r3 (by omega)
    obtain ⟨⟨s3, s4⟩, -⟩ := s2 r5
    have f5 := hS 5 (Y 6 k) (by omega) r3 (by omega)
    have f8 := hS 8 (Y 5 (Y 6 k)) (by omega) s3 (by omega)
    have f7 := hS 7 (Y 5 (Y 6 k)) (by omega) s3 (by omega)
    have pu : m_us Y k (Y 6 k) := .inr ⟨.inl hh, rfl⟩
    have pc : m_us Y k (Y 5 k) := .inl ⟨by omega, rfl⟩
    have g9 := PC_n (hU _ pc) (by omega) 9 (by omega) (by omega)
    have g12 := PC_n (hU _ pc) (by omega) 12 (by omega) (by omega)
    obtain ⟨g20, h20⟩ := OC_r hO k1 k60 20 (by omega)
    obtain ⟨g21, h21⟩ := OC_r hO k1 k60 21 (by omega)
    obtain ⟨g22, h22⟩ := OC_r hO k1 k60 22 (by omega)
    have pl8 : Y 8 (Y 5 (Y 6 k)) ≤ 8 := (hRY 8 _).2
    have q := fun (i : Nat) (hi : i < 9) => own _ (d8 i hi)
    obtain ⟨x1, x2, x3, x4⟩ := q 0 (by omega)
    obtain ⟨y1, y2, y3, y4⟩ := q 1 (by omega)
    obtain ⟨z1, z2, z3, z4⟩ := q 2 (by omega)
    obtain ⟨v1, v2, v3, v4⟩ := q 3 (by omega)
    obtain ⟨v5, v6, v7, v8⟩ := q 4 (by omega)
    obtain ⟨v9, v10, v11, v12⟩ := q 5 (by omega)
    obtain ⟨w1, w2, w3, w4⟩ := q 6 (by omega)
    obtain ⟨w5, w6, w7, w8⟩ := q 7 (by omega)
    obtain ⟨w9, w10, w11, w12⟩ := q 8 (by omega)
    simp only [Nat.add_zero] at x1 x2 x3 x4
    unfold K5 RN
    rw [aK, x1, x4, y1, y2, y4, z1, z2, z4, e5, e6, f5, f8, g20, g21, g22, h20, h21, h22, g9, OC_n hO k1 k60 23 (by omega), OC_n hO k1 k60 28 (by omega), OC_n hO k1 k60 29 (by omega), s_le_c hO k1 k60, s_ba_c hO k1 k60 g12, hA _ r1 (by omega)]
    refine ⟨⟨a1, a2, a3, a4, a5⟩, ⟨b1, b2, b3, b4⟩, ⟨c1, c2, c3, c4, c5⟩, ⟨d1, d2⟩, fun j j1 j2 => by rw [m_ra_c hO k1 j1 j2]; exact d3 j j1 j2, d4, fun i i1 i2 => by rw [s_en_c hO k1]; exact d5 i i1 i2, ?_, ?_, fun i hi => (q i hi).2.2.1, SI_c hRZ hO (hU _ pu) (hU _ pc) f5 f7 f8 d9⟩
    · exact RnAt_f ⟨v1, v4⟩ ⟨v5, v6, v8⟩ ⟨v9, v10, v12⟩ (hA _ r3 (by omega)) pl8 (fun j j1 j2 => (OC_19 hO k1 k60 j1 j2).2) d6
    · exact RnAt_f ⟨w1, w4⟩ ⟨w5, w6, w8⟩ ⟨w9, w10, w12⟩ (hA _ r3 (by omega)) pl8 (fun j j1 j2 => (OC_19 hO k1 k60 j1 j2).1) d7
  · rw [e3] at hh
    obtain ⟨⟨a1, a2⟩, ⟨b1, b2, b3, b4⟩, c0, c⟩ := u6 hh
    obtain ⟨⟨⟨r1, r2⟩, r3, -⟩, ⟨⟨r4, r5⟩, r6, -⟩, r7, r8, r9⟩ := t6 hh
    obtain ⟨-, -, s2, -⟩ := hIV (Y 5 k) r1 (by omega)
    obtain ⟨⟨s3, s4⟩, -⟩ := s2 r3
    obtain ⟨x1, x2, x3, x4⟩ := own _ a2
    have e12 := OC_n hO k1 k60 12 (by omega)
    have f5 := hS 5 (Y 5 k) (by omega) r1 (by omega)
    have f56 := hS 5 (Y 6 k) (by omega) r4 (by omega)
    have f8 := hS 8 (Y 5 (Y 5 k)) (by omega) s3 (by omega)
    have f7 := hS 7 (Y 5 (Y 5 k)) (by omega) s3 (by omega)
    have u5' : m_us Y k (Y 5 k) := .inl ⟨by omega, rfl⟩
    have u6' : m_us Y k (Y 6 k) := .inr ⟨.inr hh, rfl⟩
    have hD : DA Y Z k := by
      refine ⟨⟨e5, e6, e12⟩, fun p hp => ?_⟩
      rcases hp with rfl | rfl
      · exact ⟨⟨PC_n (hU _ u5') (by omega) 13 (by omega) (by omega), f5, f7, f8⟩, fun f j f1 f2 j1 j2 => PC_w (hU _ u5') (by omega) j1 j2 f f1 f2⟩
      · refine ⟨⟨PC_n (hU _ u6') (by omega) 13 (by omega) (by omega), f56, ?_, ?_⟩, fun f j f1 f2 j1 j2 => PC_w (hU _ u6') (by omega) j1 j2 f f1 f2⟩
        · rw [← r8]; exact f7
        · rw [← r8]; exact f8
    unfold K6
    rw [aK, x1, x3, x4, e5, e6, e12, f5, f8, hA _ r1 (by omega), hA _ r4 (by omega), hX]
    refine ⟨⟨a1, rfl⟩, ⟨b1, b2, b3, b4⟩, c0, ?_⟩
    rcases c with c | ⟨c1, c2, c3⟩ | ⟨c1, c2, n, S, en, E, b, c3, c4, c5, c6, c7, c8, ⟨c9, c10, c11⟩, c12⟩
    · exact .inl c
    · exact .inr (.inl ⟨c1, c2, XT_c hD (fun p => (hRY 13 p).2) c3⟩)
    · obtain ⟨y1, y2, y3⟩ := hT b (by omega)
      refine .inr (.inr ⟨c1, c2, n, S, en, E, b, XS_c hD (fun p => (hRY 13 p).2) (fun p => (hRZ 13 p).2) c3, EN_c hD c4, c5, c6, c7, c8, ⟨by rw [y1]; exact c9, by rw [y3]; exact c10, by rw [y2]; exact c11⟩, fun i w i1 i2 i3 i4 => ?_⟩)
      rw [hM b _ (.inr (.inr c10))]
      exact c12 i w i1 i2 i3 i4
end
