/-! A CALL THAT CHANGES ONE THING -/
section
variable {T T' : Nat → Nat} {Ln Ln' : Nat → Int} {M M' : Nat → Int → Value} {n u x n' u' : Nat} {A A' : Int → Nat} {W W' : Int → Int → Nat} {Ow Ow' : Nat → Int} {X X' : Int → Int} {Y Z : zY} {c n0 u0 k r : Int} {cd : Nat → Int}
theorem DA_of (hIV : IV Y) (hk : m_th Y k) (h6 : Y 3 k = 6) (hO : ∀ f : Nat, (f = 5 ∨ f = 6 ∨ f = 12) → Z f k = Y f k) (hS : ∀ (f : Nat) (e : Int), (f = 3 ∨ f = 5 ∨ f = 6 ∨ f = 7 ∨ f = 8) → 1 ≤ e → e ≤ Y 2 0 → Z f e = Y f e) (hU : ∀ q, m_us Y k q → PC Y Z q) : DA Y Z k := by
  obtain ⟨⟨k1, k2⟩, k3⟩ := hk
  obtain ⟨-, -, -, -, -, -, t6⟩ := hIV k k1 k2
  obtain ⟨⟨⟨r1, r2⟩, r3, -⟩, ⟨⟨r4, r5⟩, r6, -⟩, r7, r8, r9⟩ := t6 h6
  obtain ⟨-, -, s2, -⟩ := hIV (Y 5 k) r1 (by omega)
  obtain ⟨⟨s3, s4⟩, -⟩ := s2 r3
  have u5' : m_us Y k (Y 5 k) := .inl ⟨by omega, rfl⟩
  have u6' : m_us Y k (Y 6 k) := .inr ⟨.inr h6, rfl⟩
  have f5 := hS 5 (Y 5 k) (by omega) r1 (by omega)
  have f56 := hS 5 (Y 6 k) (by omega) r4 (by omega)
  have f8 := hS 8 (Y 5 (Y 5 k)) (by omega) s3 (by omega)
  have f7 := hS 7 (Y 5 (Y 5 k)) (by omega) s3 (by omega)
  refine ⟨⟨hO 5 (by omega), hO 6 (by omega), hO 12 (by omega)⟩, fun p hp => ?_⟩
  rcases hp with rfl | rfl
  · exact ⟨⟨PC_n (hU _ u5') (by omega) 13 (by omega) (by omega), f5, f7, f8⟩, fun f j f1 f2 j1 j2 => PC_w (hU _ u5') (by omega) j1 j2 f f1 f2⟩
  · refine ⟨⟨PC_n (hU _ u6') (by omega) 13 (by omega) (by omega), f56, ?_, ?_⟩, fun f j f1 f2 j1 j2 => PC_w (hU _ u6') (by omega) j1 j2 f f1 f2⟩
    · rw [← r8]; exact f7
    · rw [← r8]; exact f8
theorem IV_u (h2 : ∀ (f : Nat) (e : Int), 2 ≤ f → f ≤ 8 → Z f e = Y f e) (h13 : ∀ e, Y 13 e ≤ Z 13 e) (h9 : ∀ e, Y 3 e = 4 → 1 ≤ Y 9 e → 1 ≤ Z 9 e) (h12 : ∀ e, Y 3 e = 6 → Z 12 e = Y 12 e) (hI : IV Y) : IV Z := by
  intro k k1 k2
  rw [h2 2 0 (by omega) (by omega)] at k2
  obtain ⟨t0, t1, t2, t3, t4, t5, t6⟩ := hI k k1 k2
  have hrf : ∀ j d, rf Y k j d → rf Z k j d := by
    intro j d ⟨a1, a2, a3⟩
    refine ⟨a1, ?_, ?_⟩
    · rw [h2 3 j (by omega) (by omega)]; exact a2
    · rw [h2 4 k (by omega) (by omega), h2 4 j (by omega) (by omega)]; exact a3
  have e3 := h2 3 k (by omega) (by omega)
  have e5 := fun e => h2 5 e (by omega) (by omega)
  have e6 := fun e => h2 6 e (by omega) (by omega)
  rw [e3, e5, e6, h2 7 k (by omega) (by omega), h2 8 k (by omega) (by omega), e5, e5]
  refine ⟨t0, t1, fun hh => hrf _ _ (t2 hh), fun hh => ?_, fun hh => ?_, fun hh => ?_, fun hh => ?_⟩
  · obtain ⟨a, b⟩ := t3 hh
    have := h13 (Y 5 k)
    exact ⟨hrf _ _ a, by omega⟩
  · obtain ⟨a, b⟩ := t4 hh
    exact ⟨hrf _ _ a, h9 k hh b⟩
  · obtain ⟨a, b, d, e⟩ := t5 hh
    have := h13 (Y 6 k)
    exact ⟨hrf _ _ a, hrf _ _ b, by omega, e⟩
  · obtain ⟨a, b, ⟨d1, d2⟩, e, f⟩ := t6 hh
    have := h13 (Y 5 k)
    have := h13 (Y 6 k)
    refine ⟨hrf _ _ a, hrf _ _ b, ⟨by omega, by omega⟩, e, ?_⟩
    rw [h12 k hh]; exact f
/-- the numbers that stay: all but r's own, and those of row 0 -/
def UY (Y Z : zY) (r : Int) : Prop := (∀ (f : Nat) (e : Int), 1 ≤ f → f ≤ 8 → Z f e = Y f e) ∧ (∀ (f : Nat) (e : Int), 30 ≤ f → f ≤ 40 → Z f e = Y f e) ∧ ∀ (f : Nat) (e : Int), ((9 ≤ f ∧ f ≤ 29) ∨ f = 41) → 0 ≤ e → ¬ cow f e = r → Z f e = Y f e
theorem RZ_one (h : RZ T Ln M n u x A W Ow X Y c n0 u0) (hr : m_th Y r) (hRZ : RG Z) (hY : UY Y Z r) (h13 : ∀ e, Y 13 e ≤ Z 13 e) (h9 : ∀ e, Y 3 e = 4 → 1 ≤ Y 9 e → 1 ≤ Z 9 e) (h12 : ∀ e, Y 3 e = 6 → Z 12 e = Y 12 e) (hP : (∀ (f : Nat) (e : Int), 9 ≤ f → f ≤ 18 → Z f e = Y f e) ∨ ∀ k, m_th Y k → ¬ m_us Y k r) (hTB : TB Z (c + 1)) (hT : ∀ a, ¬ Ow a = -5 → T' a = T a ∧ Ln' a = Ln a ∧ Ow' a = Ow a) (hM : ∀ a j, ¬ Ow a = -5 → ¬ Ow a = r → M' a j = M a j) (hW : ∀ k, ¬ k = r → W' k = W k) (hO : ∀ a, n' ≤ a → Ow' a = -5) (hn : n' ≤ n + 12) (hu : u' ≤ u + 100) (hTH : TH T' Ln' M' A W' Ow' X Z r) : RZ T' Ln' M' n' u' x A W' Ow' X Z (c + 1) n0 u0 ∧ FR T T' Ln Ln' M M' Ow Ow' := by
  obtain ⟨⟨hR, hI, hB, hH, h1, hHX, h3, hMX, ⟨o1, o2, o3, o4⟩, h5⟩, hr1, hr2, g, hg, hr3⟩ := h
  obtain ⟨y1, y2, y3⟩ := hY
  have r0 : ¬ r = 0 ∧ ¬ r = 100 ∧ ¬ r = 101 ∧ ¬ r = 102 ∧ ¬ r = 103 := by
    have := hr.1
    have h60 : Y 2 0 ≤ 60 := (hR 2 0).2
    omega
  have eth : ∀ k, m_th Z k ↔ m_th Y k := by
    intro k
    unfold m_th
    rw [y1 2 0 (by omega) (by omega), y1 4 k (by omega) (by omega)]
  have etg : tgo Z A = tgo Y A := by
    funext j
    unfold tgo
    by_cases hj : m_th Y j
    · rw [if_pos hj, if_pos ((eth j).mpr hj)]
    · rw [if_neg hj, if_neg (fun hh => hj ((eth j).mp hh))]
  have hx : ∀ j, M' x j = M x j := fun j => hM x j (by omega) (by omega)
  have hx1 : ∀ j, M' (x + 1) j = M (x + 1) j := fun j => hM (x + 1) j (by omega) (by omega)
  obtain ⟨tx1, tx2, tx3⟩ := hT x (by omega)
  obtain ⟨ty1, ty2, ty3⟩ := hT (x + 1) (by omega)
  have hU : ∀ k, m_th Y k → ∀ q, m_us Y k q → PC Y Z q := by
    intro k hk q hq f e f1 f2 e1 e2
    rcases hP with hP | hP
    · exact hP f e f1 f2
    · refine y3 f e (by omega) e1 ?_
      rw [e2]
      intro hh
      subst hh
      exact hP k hk hq
  have hSC : SC Y Z (Y 2 0) := fun f e hf _ _ => y1 f e (by omega) (by omega)
  have hTHk : ∀ k, m_th Z k → TH T' Ln' M' A W' Ow' X Z k := by
    intro k hk
    have hk' := (eth k).mp hk
    by_cases hkr : k = r
    · subst hkr; exact hTH
    · have hk1 := hk'.1
      have h60 : Y 2 0 ≤ 60 := (hR 2 0).2
      refine TH_f hI hR hRZ hk' rfl hT (fun a j ha => hM a j (by omega) (by omega)) (fun _ _ _ => rfl) (hW k hkr) rfl (fun f e hf e1 e2 => ?_) hSC (hU k hk') (h3 k hk')
      by_cases hf8 : f ≤ 8
      · exact y1 f e (by omega) hf8
      · exact y3 f e (by omega) e1 (by rw [e2]; exact hkr)
  refine ⟨⟨⟨hRZ, IV_u (fun f e a b => y1 f e (by omega) b) h13 h9 h12 hI, hTB, ?_, by rw [hx, y1 1 0 (by omega) (by omega)]; exact h1, ?_, hTHk, ?_, ⟨by rw [tx3]; exact o1, by rw [ty3]; exact o2, by rw [y1 2 0 (by omega) (by omega)]; exact o3, by rw [y1 2 0 (by omega) (by omega), y2 32 0 (by omega) (by omega)]; exact o4⟩, hO⟩, hr1, by omega, g, by rw [hx]; exact hg, by omega⟩, ?_⟩
  · obtain ⟨⟨a1, a2, a3⟩, a4, a5, a6, a7, a8⟩ := hH
    rw [y1 2 0 (by omega) (by omega), etg]
    refine ⟨⟨by rw [tx1]; exact a1, by rw [ty1]; exact a2, by rw [ty2]; exact a3⟩, by rw [hx]; exact a4, by rw [hx]; exact a5, a6, fun j j1 j2 => by rw [hx1]; exact a7 j j1 j2, fun j b hb => ⟨(a8 j b hb).1, ?_⟩⟩
    unfold tgo at hb
    by_cases hj : m_th Y j
    · rw [if_pos hj] at hb
      cases hb
      have hj2 := hTHk j ((eth j).mpr hj)
      have h0 := (hI j hj.1.1 hj.1.2).1
      obtain ⟨q1, -, -⟩ := TH_tag hj2 (by rw [y1 3 j (by omega) (by omega)]; exact h0)
      rw [q1]; exact kt_i
    · rw [if_neg hj] at hb; cases hb
  · rcases hHX with hh | ⟨a, ha, ⟨e1, e2, e3, e4, e5⟩, ⟨e6, e7, e8, e9⟩, ⟨f1, f2, f3, f4⟩, f5, f6, f7⟩
    · exact .inl (by rw [hx]; exact hh)
    · have q := fun (i : Nat) (hi : i < 5) => hT (a + i) (by rw [f7 i hi]; omega)
      have qm := fun (i : Nat) (hi : i < 5) (j : Int) => hM (a + i) j (by rw [f7 i hi]; omega) (by rw [f7 i hi]; omega)
      have q0 := q 0 (by omega)
      have m0 := qm 0 (by omega)
      simp only [Nat.add_zero] at q0 m0
      refine .inr ⟨a, by rw [hx]; exact ha, ⟨by rw [q0.1]; exact e1, by rw [(q 1 (by omega)).1]; exact e2, by rw [(q 2 (by omega)).1]; exact e3, by rw [(q 3 (by omega)).1]; exact e4, by rw [(q 4 (by omega)).1]; exact e5⟩, ⟨by rw [(q 1 (by omega)).2.1]; exact e6, by rw [(q 2 (by omega)).2.1]; exact e7, by rw [(q 3 (by omega)).2.1]; exact e8, by rw [(q 4 (by omega)).2.1]; exact e9⟩, ⟨by rw [m0]; exact f1, by rw [m0]; exact f2, by rw [m0]; exact f3, by rw [m0]; exact f4⟩, fun j j1 j2 => by rw [qm 1 (by omega)]; exact f5 j j1 j2, fun j j1 j2 => by rw [qm 3 (by omega)]; exact f6 j j1 j2, fun i hi => by rw [(q i hi).2.2]; exact f7 i hi⟩
  · intro g1 g2
    have e32 := y2 32 0 (by omega) (by omega)
    rw [e32] at g1 g2
    have g1' := (eth _).mp g1
    rw [y1 3 _ (by omega) (by omega)] at g2
    have e36 : (fun (i e : Int) => Z 36 (28 * i + e)) = fun i e => Y 36 (28 * i + e) := by funext i e; exact y2 36 _ (by omega) (by omega)
    have e37 : (fun (i : Int) => Z 37 i) = fun i => Y 37 i := by funext i; exact y2 37 _ (by omega) (by omega)
    rw [e32, y2 33 0 (by omega) (by omega), y2 34 0 (by omega) (by omega), y2 35 0 (by omega) (by omega), e36, e37]
    have hD : DA Y Z (Y 32 0) := DA_of hI g1' g2 (fun f hf => by
      by_cases h8 : f ≤ 8
      · exact y1 f _ (by omega) h8
      · rw [show f = 12 by omega]; exact h12 _ g2) (fun f e hf _ _ => y1 f e (by omega) (by omega)) (hU _ g1')
    rcases hMX g1' g2 with ⟨a, b⟩ | ⟨a, b, d⟩
    · exact .inl ⟨a, XT_c hD (fun p => (hR 13 p).2) b⟩
    · exact .inr ⟨XS_c hD (fun p => (hR 13 p).2) (fun p => (hRZ 13 p).2) a, EN_c hD b, d⟩
  · intro a ha
    obtain ⟨b1, b2, b3⟩ := hT a (by omega)
    exact ⟨b1, b2, by rw [b3]; exact ha, fun j => hM a j (by omega) (by omega)⟩
/-- whether some living thing uses q -/
theorem us_a (h : RZ T Ln M n u x A W Ow X Y c n0 u0) {j q : Int} (hj : m_th Y j) (hq : m_th Y q) : A j = A q ↔ j = q := by
  obtain ⟨-, -, a2, -⟩ := RLX_k h.1 hj
  obtain ⟨-, -, b2, -⟩ := RLX_k h.1 hq
  constructor
  · intro e
    rw [e, b2] at a2
    exact a2.symm
  · intro e; rw [e]
theorem rf_th {Y : zY} {k j d : Int} (hk : m_th Y k) (h : rf Y k j d) : m_th Y j := by
  obtain ⟨⟨a1, a2⟩, a3, a4⟩ := h
  obtain ⟨⟨b1, b2⟩, b3⟩ := hk
  exact ⟨⟨a1, by omega⟩, a4 b3⟩
theorem us_j (h : RZ T Ln M n u x A W Ow X Y c n0 u0) {j q : Int} {L : zL} {Q : zU → zS → Prop} (gj : m_th Y j) (hq : m_th Y q) (v : Int) (hv : (v = 1 ∧ m_us Y j q) ∨ (v = 0 ∧ ¬ m_us Y j q)) : z_go zP 81 31 L [.ref (A q), .ref (A j)] (hj T Ln M, n, u) Q ↔ z_go zP 81 34 L [zi v] (hj T Ln M, n, u) Q := by
  obtain ⟨t, a1, a2, a3, a4, a5⟩ := RLX_k h.1 gj
  obtain ⟨t0, t1, t2, t3, t4, t5, t6⟩ := h.1.2.1 j gj.1.1 gj.1.2
  have hs := fun (d : Nat) (hd : T (A j) = d) (hd2 : d < 200) => hj_c (Ln := Ln) (M := M) hd hd2
  obtain ⟨p1, p2', p3', p4', p5', p6'⟩ := t
  obtain e | e | e | e | e | e : Y 3 j = 1 ∨ Y 3 j = 2 ∨ Y 3 j = 3 ∨ Y 3 j = 4 ∨ Y 3 j = 5 ∨ Y 3 j = 6 := by omega
  · rw [e] at a1
    have h0 : v = 0 := by
      rcases hv with ⟨-, hv⟩ | hv
      · unfold m_us at hv; omega
      · exact hv.1
    subst h0
    rw [g81_31_2 (hs 2 a1 (by omega)), s23, zd_v]
  · rw [e] at a1
    obtain ⟨⟨-, b1, b2, -⟩, -⟩ := p2' e
    have hA := us_a h hq (rf_th gj (t2 e))
    rw [g81_31_4 (hs 4 a1 (by omega)), s31 a1 b2, zd_v]
    rcases hv with ⟨rfl, hv⟩ | ⟨rfl, hv⟩
    · rw [bI_t]; rw [hA]; unfold m_us at hv; omega
    · rw [bI_f]; rw [hA]; unfold m_us at hv; omega
  · rw [e] at a1
    obtain ⟨⟨-, b1, b2, -⟩, -⟩ := p3' e
    have hA := us_a h hq (rf_th gj (t3 e).1)
    rw [g81_31_5 (hs 5 a1 (by omega)), s36 a1 b2, zd_v]
    rcases hv with ⟨rfl, hv⟩ | ⟨rfl, hv⟩
    · rw [bI_t]; rw [hA]; unfold m_us at hv; omega
    · rw [bI_f]; rw [hA]; unfold m_us at hv; omega
  · rw [e] at a1
    obtain ⟨-, b1, b2, -⟩ := p4' e
    have hA := us_a h hq (rf_th gj (t4 e).1)
    rw [g81_31_0 (hs 0 a1 (by omega)), s1 a1 b2, zd_v]
    rcases hv with ⟨rfl, hv⟩ | ⟨rfl, hv⟩
    · rw [bI_t]; rw [hA]; unfold m_us at hv; omega
    · rw [bI_f]; rw [hA]; unfold m_us at hv; omega
  · rw [e] at a1
    obtain ⟨-, ⟨b1, b2, b3, b4⟩, -, -, -, -, -, -, ⟨⟨b5, -⟩, -, b6, -⟩, -⟩ := p5' e
    have hA := us_a h hq (rf_th gj (t5 e).1)
    have hB := us_a h hq (rf_th gj (t5 e).2.1)
    rw [g81_31_6 (hs 6 a1 (by omega)), s43 a1 b2 b4 b5 b6, zd_v]
    rcases hv with ⟨rfl, hv⟩ | ⟨rfl, hv⟩
    · rw [bI_t]; rw [hA, hB]; unfold m_us at hv; omega
    · rw [bI_f]; rw [hA, hB]; unfold m_us at hv; omega
  · rw [e] at a1
    obtain ⟨-, ⟨b1, b2, b3, b4⟩, -⟩ := p6' e
    have hA := us_a h hq (rf_th gj (t6 e).1)
    have hB := us_a h hq (rf_th gj (t6 e).2.1)
    rw [g81_31_3 (hs 3 a1 (by omega)), s27 a1 b2 b3, zd_v]
    rcases hv with ⟨rfl, hv⟩ | ⟨rfl, hv⟩
    · rw [bI_t]; rw [hA, hB]; unfold m_us at hv; omega
    · rw [bI_f]; rw [hA, hB]; unfold m_us at hv; omega
theorem s81_l (h : RZ T Ln M n u x A W Ow X Y c n0 u0) {q : Int} {Q : zU → zS → Prop} (hq : m_th Y q) (R : Prop) (hyes : (∃ j, 0 ≤ j ∧ m_th Y j ∧ m_us Y j q) → (Q (.inr 0) (hj T Ln (mu M x 2 (zi 3)), n + 1, u + 6) ↔ R)) (hno : (∀ j, m_th Y j → ¬ m_us Y j q) → (Q (.inl none) (hj T Ln M, n, u) ↔ R)) : ∀ (m : Nat) (j : Int) (l5 : Option Value), 0 ≤ j → j + m = 61 → (∀ i, i < j → m_th Y i → ¬ m_us Y i q) → (z_go zP 81 11 [some (.ref x), some (.ref (A q)), some (.ref (x + 1)), some (zi 61), some (zi j), l5] [] (hj T Ln M, n, u) Q ↔ R) := by
  have hH := h.1.2.2.2.1
  obtain ⟨⟨h1, h2, h3⟩, h4, h5, h6, h7, h8⟩ := hH
  intro m
  induction m with
  | zero =>
    intro j l5 j1 j2 j3
    have hn : ∀ i, m_th Y i → ¬ m_us Y i q := fun i hi => j3 i (by have := hi.1; omega) hi
    rw [← hno hn]
    simp (disch := omega) only [g81_0, g81_1, g81_4, g81_4n, g81_5, g81_5n, g81_6, g81_7, g81_8, g81_9, g81_11, g81_13, g81_14, g81_18, g81_20, g81_21, g81_21n, g81_23, g81_23n, g81_25, g81_25n, g81_28, g81_28n, g81_30, g81_30n, g81_31_0, g81_31_2, g81_31_3, g81_31_4, g81_31_5, g81_31_6, g81_34, g81_34b, g81_37, g81_38, g81_39, g81_42, g81_45, g81_48, Int.reduceToNat, jtg, mu_s, mu_n, mu_j, mn_s, mn_n, jg_8_0, jln, jaa, Option.some.injEq, exists_eq_left', zkl_i, zkl_l, zkl_n, zkl_r, zkl_0, zc_v, zc_n, zc_t, zd_v, zd_n, mj_tg, true_and, ↓reduceIte, not_true_eq_false, not_false_eq_true, ↓if_pos, ↓if_neg, Int.reduceLE, Int.reduceLT, Int.reduceEq, Int.reduceAdd]
  | succ m ih =>
    intro j l5 j1 j2 j3
    have h9 := h7 j j1 (by omega)
    refine g81_11.trans ?_
    by_cases d1 : m_th Y j
    · rw [tgo_y d1] at h9
      by_cases d2 : m_us Y j q
      · rw [← hyes ⟨j, j1, d1, d2⟩]
        have hus := fun (L : zL) (Q : zU → zS → Prop) => us_j (L := L) (Q := Q) h d1 hq 1 (.inl ⟨rfl, d2⟩)
        simp (disch := omega) only [g81_0, g81_1, g81_4, g81_4n, g81_5, g81_5n, g81_6, g81_7, g81_8, g81_9, g81_13, g81_14, g81_17, g81_17n, g81_18, g81_20, g81_21, g81_21n, g81_23, g81_23n, g81_25, g81_25n, g81_28, g81_28n, g81_30, g81_30n, g81_34, g81_34b, g81_37, g81_38, g81_39, g81_42, g81_45, g81_48, Int.reduceToNat, jtg, mu_s, mu_n, mu_j, mn_s, mn_n, jg_8_0, jln, jaa, Option.some.injEq, exists_eq_left', zkl_i, zkl_l, zkl_n, zkl_r, zkl_0, zc_v, zc_n, zc_t, zd_v, zd_n, mj_tg, true_and, ↓reduceIte, not_true_eq_false, not_false_eq_true, ↓if_pos, ↓if_neg, Int.reduceLE, Int.reduceLT, Int.reduceEq, Int.reduceAdd, h9, hus, s80 h1]
      · rw [← ih (j + 1) (some (.ref (A j))) (by omega) (by omega) (fun i i1 i2 => by
          by_cases hij : i = j
          · subst hij; exact d2
          · exact j3 i (by omega) i2)]
        have hus := fun (L : zL) (Q : zU → zS → Prop) => us_j (L := L) (Q := Q) h d1 hq 0 (.inr ⟨rfl, d2⟩)
        simp (disch := omega) only [g81_0, g81_1, g81_4, g81_4n, g81_5, g81_5n, g81_6, g81_7, g81_8, g81_9, g81_13, g81_14, g81_17, g81_17n, g81_18, g81_20, g81_21, g81_21n, g81_23, g81_23n, g81_25, g81_25n, g81_28, g81_28n, g81_30, g81_30n, g81_34, g81_34b, g81_37, g81_38, g81_39, g81_42, g81_45, g81_48, Int.reduceToNat, jtg, mu_s, mu_n, mu_j, mn_s, mn_n, jg_8_0, jln, jaa, Option.some.injEq, exists_eq_left', zkl_i, zkl_l, zkl_n, zkl_r, zkl_0, zc_v, zc_n, zc_t, zd_v, zd_n, mj_tg, true_and, ↓reduceIte, not_true_eq_false, not_false_eq_true, ↓if_pos, ↓if_neg, Int.reduceLE, Int.reduceLT, Int.reduceEq, Int.reduceAdd, h9, hus]
    · rw [tgo_n d1] at h9
      rw [← ih (j + 1) (some .null) (by omega) (by omega) (fun i i1 i2 => by
          by_cases hij : i = j
          · subst hij; exact absurd i2 d1
          · exact j3 i (by omega) i2)]
      simp (disch := omega) only [g81_0, g81_1, g81_4, g81_4n, g81_5, g81_5n, g81_6, g81_7, g81_8, g81_9, g81_13, g81_14, g81_17, g81_17n, g81_18, g81_20, g81_21, g81_21n, g81_23, g81_23n, g81_25, g81_25n, g81_28, g81_28n, g81_30, g81_30n, g81_31_0, g81_31_2, g81_31_3, g81_31_4, g81_31_5, g81_31_6, g81_34, g81_34b, g81_37, g81_38, g81_39, g81_42, g81_45, g81_48, Int.reduceToNat, jtg, mu_s, mu_n, mu_j, mn_s, mn_n, jg_8_0, jln, jaa, Option.some.injEq, exists_eq_left', zkl_i, zkl_l, zkl_n, zkl_r, zkl_0, zc_v, zc_n, zc_t, zd_v, zd_n, mj_tg, true_and, ↓reduceIte, not_true_eq_false, not_false_eq_true, ↓if_pos, ↓if_neg, Int.reduceLE, Int.reduceLT, Int.reduceEq, Int.reduceAdd, h9]
theorem used_i (hR : RG Y) {q : Int} : m_used Y q ↔ ∃ j, m_th Y j ∧ m_us Y j q := by
  constructor
  · intro h
    obtain ⟨k', a, b, d, e⟩ := m_used_y h
    exact ⟨k', ⟨⟨a, b⟩, d⟩, e⟩
  · rintro ⟨j, ⟨⟨a, b⟩, d⟩, e⟩
    false_or_by_contra
    rename_i hn
    exact m_used_n hR hn j a b d e
theorem s81_y (h : RZ T Ln M n u x A W Ow X Y c n0 u0) {q : Int} {Q : zU → zS → Prop} (hq : m_th Y q) (hus : m_used Y q) : z_go zP 81 0 [some (.ref x), some (.ref (A q)), none, none, none, none] [] (hj T Ln M, n, u) Q ↔ Q (.inr 0) (hj T Ln (mu M x 2 (zi 3)), n + 1, u + 6) := by
  have hH := h.1.2.2.2.1
  obtain ⟨⟨h1, h2, h3⟩, h4, h5, h6, h7, h8⟩ := hH
  obtain ⟨j, ja, jb⟩ := (used_i h.1.1).mp hus
  refine Iff.trans ?_ (s81_l (Q := Q) h hq _ (fun _ => Iff.rfl) (fun hn => absurd jb (hn j ja)) 61 0 none (by omega) (by omega) (fun i i1 i2 => by have := i2.1; omega))
  simp (disch := omega) only [g81_0, g81_1, g81_4, g81_4n, g81_5, g81_5n, g81_6, g81_7, g81_8, g81_9, g81_13, g81_14, g81_17, g81_17n, g81_18, g81_20, g81_21, g81_21n, g81_23, g81_23n, g81_25, g81_25n, g81_28, g81_28n, g81_30, g81_30n, g81_31_0, g81_31_2, g81_31_3, g81_31_4, g81_31_5, g81_31_6, g81_34, g81_34b, g81_37, g81_38, g81_39, g81_42, g81_45, g81_48, Int.reduceToNat, jtg, mu_s, mu_n, mu_j, mn_s, mn_n, jg_8_0, jln, jaa, Option.some.injEq, exists_eq_left', zkl_i, zkl_l, zkl_n, zkl_r, zkl_0, zc_v, zc_n, zc_t, zd_v, zd_n, mj_tg, true_and, ↓reduceIte, not_true_eq_false, not_false_eq_true, ↓if_pos, ↓if_neg, Int.reduceLE, Int.reduceLT, Int.reduceEq, Int.reduceAdd, h4, h3]
theorem s81_n (h : RZ T Ln M n u x A W Ow X Y c n0 u0) {q : Int} {Q : zU → zS → Prop} (hq : m_th Y q) (hus : ¬ m_used Y q) : z_go zP 81 0 [some (.ref x), some (.ref (A q)), none, none, none, none] [] (hj T Ln M, n, u) Q ↔ Q (.inl none) (hj T Ln M, n, u) := by
  have hH := h.1.2.2.2.1
  obtain ⟨⟨h1, h2, h3⟩, h4, h5, h6, h7, h8⟩ := hH
  refine Iff.trans ?_ (s81_l (Q := Q) h hq _ (fun hh => absurd ((used_i h.1.1).mpr (by obtain ⟨j, -, a, b⟩ := hh; exact ⟨j, a, b⟩)) hus) (fun _ => Iff.rfl) 61 0 none (by omega) (by omega) (fun i i1 i2 => by have := i2.1; omega))
  simp (disch := omega) only [g81_0, g81_1, g81_4, g81_4n, g81_5, g81_5n, g81_6, g81_7, g81_8, g81_9, g81_13, g81_14, g81_17, g81_17n, g81_18, g81_20, g81_21, g81_21n, g81_23, g81_23n, g81_25, g81_25n, g81_28, g81_28n, g81_30, g81_30n, g81_31_0, g81_31_2, g81_31_3, g81_31_4, g81_31_5, g81_31_6, g81_34, g81_34b, g81_37, g81_38, g81_39, g81_42, g81_45, g81_48, Int.reduceToNat, jtg, mu_s, mu_n, mu_j, mn_s, mn_n, jg_8_0, jln, jaa, Option.some.injEq, exists_eq_left', zkl_i, zkl_l, zkl_n, zkl_r, zkl_0, zc_v, zc_n, zc_t, zd_v, zd_n, mj_tg, true_and, ↓reduceIte, not_true_eq_false, not_false_eq_true, ↓if_pos, ↓if_neg, Int.reduceLE, Int.reduceLT, Int.reduceEq, Int.reduceAdd, h4, h3]
end
