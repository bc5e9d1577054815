/-! CALLS: a pair is asked -/
section
variable {T T' : Nat → Nat} {Ln Ln' : Nat → Int} {M M' : Nat → Int → Value} {n u x n' u' a : Nat} {A : Int → Nat} {W : Int → Int → Nat} {Ow Ow' : Nat → Int} {X X' : Int → Int} {Y Z : zY} {c n0 u0 k : Int} {cd : Nat → Int} {Q : zU → zS → Prop}
theorem FR_t {T1 T2 : Nat → Nat} {L1 L2 : Nat → Int} {M1 M2 : Nat → Int → Value} {O1 O2 : Nat → Int} (h1 : FR T T1 Ln L1 M M1 Ow O1) (h2 : FR T1 T2 L1 L2 M1 M2 O1 O2) : FR T T2 Ln L2 M M2 Ow O2 := by
  intro b hb
  obtain ⟨a1, a2, a3, a4⟩ := h1 b hb
  obtain ⟨b1, b2, b3, b4⟩ := h2 b a3
  exact ⟨by rw [b1, a1], by rw [b2, a2], b3, fun j => by rw [b4, a4]⟩
/-- the model's own rows may change, the rule may change -/
theorem RLX_z (h : RLX T Ln M n x A W Ow X Y c) (hc : 0 ≤ c) (hRZ : RG Z) (hZ : ∀ (f : Nat) (e : Int), ¬ f = 0 → ¬ f = 1 → ¬ (32 ≤ f ∧ f ≤ 40) → Z f e = Y f e) (hMX : MX Z) (h32 : Z 32 0 ≤ Y 2 0) (hM : ∀ b j, ¬ (b = x ∧ j = 2) → M' b j = M b j) (h2 : M' x 2 = zi (Z 1 0)) (hn : n ≤ n') : RLX T Ln M' n' x A W Ow X Z (c + 1) := by
  obtain ⟨hR, hI, hB, hH, h1, hHX, h3, -, ⟨o1, o2, o3, o4⟩, h5⟩ := h
  have z2 := hZ 2 0 (by decide) (by decide) (by decide)
  have eth : ∀ k, m_th Z k ↔ m_th Y k := by
    intro k
    unfold m_th
    rw [z2, hZ 4 k (by decide) (by decide) (by decide)]
  have etg : tgo Z A = tgo Y A := by
    funext j
    unfold tgo
    by_cases hj : m_th Y j
    · rw [if_pos hj, if_pos ((eth j).mpr hj)]
    · rw [if_neg hj, if_neg (fun hh => hj ((eth j).mp hh))]
  have c3 : M' x 3 = M x 3 := hM x 3 (by omega)
  have hIZ : IV Z := by
    rw [IV_i]
    intro q q1 q2
    rw [z2] at q2
    exact IVc_c (fun f e f1 f2 f3 _ _ => hZ f e (by omega) (by omega) (by omega)) (fun j _ _ _ hh => by rw [hZ 4 q (by decide) (by decide) (by decide), hZ 4 j (by decide) (by decide) (by decide)]; exact hh) q1 (hI q q1 q2)
  refine ⟨hRZ, hIZ, fun e => ?_, ?_, h2, ?_, fun k hk => ?_, hMX, ⟨o1, o2, by rw [z2]; exact o3, by rw [z2]; exact h32⟩, fun a ha => h5 a (by omega)⟩
  · rw [hZ 21 e (by decide) (by decide) (by decide), hZ 23 e (by decide) (by decide) (by decide)]
    have := hB e
    omega
  · obtain ⟨a1, a2, a3, a4, a5, a6⟩ := hH
    rw [z2, etg]
    exact ⟨a1, by rw [hM x 0 (by omega)]; exact a2, by rw [hM x 1 (by omega)]; exact a3, a4, fun j j1 j2 => by rw [hM (x + 1) j (by omega)]; exact a5 j j1 j2, a6⟩
  · rcases hHX with hh | ⟨a, ha, e1, e2, ⟨e3, e4, e5, e6⟩, e7, e8, e9⟩
    · exact .inl (by rw [c3]; exact hh)
    · have hne : ∀ i : Nat, i < 5 → ¬ a + i = x := fun i hi hh => by have := e9 i hi; rw [hh, o1] at this; omega
      have h0 : ∀ j, M' a j = M a j := fun j => hM a j (fun hh => hne 0 (by omega) hh.1)
      refine .inr ⟨a, by rw [c3]; exact ha, e1, e2, ⟨by rw [h0]; exact e3, by rw [h0]; exact e4, by rw [h0]; exact e5, by rw [h0]; exact e6⟩, fun j j1 j2 => ?_, fun j j1 j2 => ?_, e9⟩
      · rw [hM (a + 1) j (fun hh => hne 1 (by omega) hh.1)]; exact e7 j j1 j2
      · rw [hM (a + 3) j (fun hh => hne 3 (by omega) hh.1)]; exact e8 j j1 j2
  · have hk' := (eth k).mp hk
    have hkk := hk'.1
    refine TH_f hI hR hRZ hk' rfl (fun a _ => ⟨rfl, rfl, rfl⟩) (fun a j ha => ?_) (fun _ _ _ => rfl) rfl rfl (fun f e hf _ _ => hZ f e (by omega) (by omega) (by omega)) (fun f e hf _ _ => hZ f e (by omega) (by omega) (by omega)) (fun q _ f e f1 _ _ _ => hZ f e (by omega) (by omega) (by omega)) (h3 k hk')
    refine hM a j (fun hh => ?_)
    rw [hh.1, o1] at ha
    omega
theorem PX_of (h : RZ T Ln M n u x A W Ow X Y c n0 u0) (d1 : m_th Y k) (d2 : Y 3 k = 6) : PX T Ln M A W Y k (A k) (A (Y 5 (Y 5 k))) ∧ PK Y k ∧ A k < n ∧ A (Y 5 k) < n ∧ A (Y 5 (Y 5 k)) < n := by
  have hI := h.1.2.1
  have hR := h.1.1
  obtain ⟨r1, r2, ⟨w1, w2⟩, r5, r6⟩ := (hI k d1.1.1 d1.1.2).2.2.2.2.2.2 d2
  have t1 := rf_th d1 r1
  have t2 := rf_th d1 r2
  obtain ⟨-, -, -, -, m7, m8, -, an, mn'⟩ := prog_k h t1 r1.2.1
  obtain ⟨-, -, -, b4⟩ := RZ_lt h
  obtain ⟨⟨p1, p2'⟩, ⟨p3, p4, p5, p6⟩, -⟩ := (h.1.2.2.2.2.2.2.1 k d1).2.2.2.2.2 d2
  have h60 : Y 2 0 ≤ 60 := (hR 2 0).2
  have hk := d1.1
  exact ⟨⟨⟨p1, p4, p5, p6⟩, rfl, PG_of h t1 r1.2.1 w1, PG_of h t2 r2.2.1 w2, r5.symm, r6⟩, ⟨by omega, ⟨w1, w2⟩, ⟨by omega, r5.symm⟩, by omega⟩, b4 k d1, an, mn'⟩
theorem xs_u {X X' : Int → Int} {k : Int} (hX : ∀ j, ¬ j = k → X' j = X j) : ∀ n : Nat, xs X' n = xs X n + (if 0 ≤ k ∧ k < (n : Int) then X' k - X k else 0) := by
  intro n
  induction n with
  | zero => rw [if_neg (by omega)]; rfl
  | succ n ih =>
    show xs X' n + X' n = xs X n + X n + _
    rw [ih]
    by_cases c : k = (n : Int)
    · rw [if_neg (by omega), if_pos (by omega), c]; omega
    · rw [hX n (fun hh => c hh.symm)]
      by_cases c2 : 0 ≤ k ∧ k < (n : Int)
      · rw [if_pos c2, if_pos (by omega)]; omega
      · rw [if_neg c2, if_neg (by omega)]; omega
/-- what the relation needs of a state in which pair k has just been gone through -/
theorem RZ_ex (h : RZ T Ln M n u x A W Ow X Y c n0 u0) (d1 : m_th Y k) (d2 : Y 3 k = 6) (hX : X k = 0) (a bl : Nat)
  (ha : M' x 3 = .ref a) (hx : EX0 T' Ln' M' a) (haO : ((∀ i : Nat, i < 5 → Ow (a + i) = 100) ∧ ¬ M x 3 = .null ∧ bl = n) ∨ (M x 3 = .null ∧ a = n ∧ bl = n + 5 ∧ n + 5 ≤ n')) (hbl3 : n' ≤ bl + 1)
  (hT : ∀ b, b < n → T' b = T b ∧ Ln' b = Ln b)
  (hM : ∀ b j, b < n → ¬ (a ≤ b ∧ b ≤ a + 4) → ¬ b = A k → ¬ (b = x ∧ j = 3) → M' b j = M b j) (hMk : ∀ j, j < 4 → M' (A k) j = M (A k) j)
  (hres : (XT Y k ∧ M' (A k) 4 = zi 1 ∧ M' (A k) 5 = zi 1) ∨ (TD Y k T' Ln' M' (A k) bl ∧ n' = bl + 1))
  (hn0 : n ≤ n') (hu : (u' : Int) ≤ u + 32000 ∨ (M x 3 = .null ∧ (u' : Int) ≤ u + 62134 + 32000)) : ∃ Ow' X', RLX T' Ln' M' n' x A W Ow' X' Y c ∧ X' k = 1 ∧ ((∀ j, X' j = 0 ∨ X' j = 1) ∧ ∃ g : Int, ((g = 0 ∧ M' x 3 = .null) ∨ (g = 1 ∧ ¬ M' x 3 = .null)) ∧ (u' : Int) ≤ u0 + 100 * c + 33000 * xs X' 61 + 70000 * g) ∧ FR T T' Ln Ln' M M' Ow Ow' := by
  obtain ⟨⟨hR, hI, hB, hHs, h1, hHX, h3, hMX, ⟨o1, o2, o3, o4⟩, h5⟩, hr1, hr2, g, hg, hr3⟩ := id h
  obtain ⟨b1, b2, b3, b4⟩ := RZ_lt h
  obtain ⟨t, a1, a2, a3, a4, a5⟩ := RLX_k h.1 d1
  have hk1 := d1.1
  have h60 : Y 2 0 ≤ 60 := (hR 2 0).2
  have hA := b4 k d1
  have hin : ∀ b, b < n → ¬ Ow b = 100 → ¬ (a ≤ b ∧ b ≤ a + 4) := by
    intro b hb hO hc
    rcases haO with hh | hh
    · have := hh.1 (b - a) (by omega); rw [show a + (b - a) = b by omega] at this; exact hO this
    · omega
  have hxk : ¬ x = A k := fun hh => by rw [hh] at o1; omega
  have hx1k : ¬ x + 1 = A k := fun hh => by rw [hh] at o2; omega
  have hMx : ∀ j, ¬ j = 3 → M' x j = M x j := fun j hj => hM x j b2 (hin x b2 (by omega)) hxk (by omega)
  have hMx1 : ∀ j, M' (x + 1) j = M (x + 1) j := fun j => hM (x + 1) j b3 (hin _ b3 (by omega)) hx1k (by omega)
  obtain ⟨Ow', hOw⟩ : ∃ Ow' : Nat → Int, Ow' = fun b => if n ≤ b ∧ b < n' then (if b = bl then 103 else 100) else Ow b := ⟨_, rfl⟩
  have Oo : ∀ b, b < n → Ow' b = Ow b := fun b hb => by rw [hOw]; exact if_neg (by omega)
  obtain ⟨X', hX'⟩ : ∃ X' : Int → Int, X' = fun j => if j = k then 1 else X j := ⟨_, rfl⟩
  have Xk : X' k = 1 := by rw [hX']; exact if_pos rfl
  have Xn : ∀ j, ¬ j = k → X' j = X j := fun j hj => by rw [hX']; exact if_neg hj
  have hnn : ¬ M' x 3 = .null := by rw [ha]; intro hh; cases hh
  refine ⟨Ow', X', ⟨hR, hI, hB, ?_, by rw [hMx 2 (by omega)]; exact h1, ?_, fun q hq => ?_, hMX, ⟨by rw [Oo x b2]; exact o1, by rw [Oo _ b3]; exact o2, fun q hq => by rw [Xn q (by omega)]; exact o3 q hq, o4⟩, fun b hb => ?_⟩, Xk, ⟨fun j => ?_, 1, .inr ⟨rfl, hnn⟩, ?_⟩, fun b hb => ?_⟩
  · obtain ⟨⟨s1', s2', s3'⟩, s4', s5', s6', s7', s8'⟩ := hHs
    refine ⟨⟨by rw [(hT x b2).1]; exact s1', by rw [(hT _ b3).1]; exact s2', by rw [(hT _ b3).2]; exact s3'⟩, by rw [hMx 0 (by omega)]; exact s4', by rw [hMx 1 (by omega)]; exact s5', s6', fun j j1 j2 => by rw [hMx1]; exact s7' j j1 j2, fun j b hb => ⟨(s8' j b hb).1, ?_⟩⟩
    have h9 := (s8' j b hb).2
    unfold tgo at hb
    by_cases hj : m_th Y j
    · rw [if_pos hj] at hb
      cases hb
      rw [(hT _ (b4 j hj)).1]; exact h9
    · rw [if_neg hj] at hb; cases hb
  · refine .inr ⟨a, ha, hx.1, hx.2.1, hx.2.2.1, hx.2.2.2.1, hx.2.2.2.2, fun i hi => ?_⟩
    rcases haO with hh | hh
    · have h9 := hh.1 i hi
      rw [Oo (a + i) (b1 _ (by omega))]; exact h9
    · rw [hOw]
      show (if n ≤ a + i ∧ a + i < n' then (if a + i = bl then (103 : Int) else 100) else Ow (a + i)) = 100
      rw [if_pos (by omega), if_neg (by omega)]
  · by_cases hqk : q = k
    · subst hqk
      refine ⟨fun hh => by omega, fun hh => by omega, fun hh => by omega, fun hh => by omega, fun hh => by omega, fun _ => ?_⟩
      obtain ⟨⟨p1, p2'⟩, ⟨p3, p4, p5, p6⟩, -⟩ := t.2.2.2.2.2 d2
      have hT3 : T' (A q) = 3 ∧ Ow' (A q) = q := ⟨by rw [(hT _ hA).1]; exact p1, by rw [Oo _ hA]; exact p2'⟩
      have hf : M' (A q) 0 = zi 6 ∧ M' (A q) 1 = .ref (A (Y 5 q)) ∧ M' (A q) 2 = .ref (A (Y 6 q)) ∧ M' (A q) 3 = zi (Y 12 q) := ⟨by rw [hMk 0 (by omega)]; exact p3, by rw [hMk 1 (by omega)]; exact p4, by rw [hMk 2 (by omega)]; exact p5, by rw [hMk 3 (by omega)]; exact p6⟩
      rw [Xk]
      rcases hres with ⟨r1, r2, r3⟩ | ⟨⟨nn, S, en, E, r1, r2, ⟨r3, r4, r5, r6, r7, r8⟩, ⟨r9, r10⟩, r11⟩, hn1⟩
      · exact ⟨hT3, hf, r2, .inr (.inl ⟨rfl, r3, r1⟩)⟩
      · refine ⟨hT3, hf, r3, .inr (.inr ⟨rfl, r4, nn, S, en, E, bl, r1, r2, r5, r6, r7, r8, ⟨r9, ?_, r10⟩, r11⟩)⟩
        rw [hOw]
        show (if n ≤ bl ∧ bl < n' then (if bl = bl then (103 : Int) else 100) else Ow bl) = 103
        rw [if_pos ⟨by rcases haO with hh | hh <;> omega, by omega⟩, if_pos rfl]
    · have hq1 := hq.1
      refine TH_f hI hR hR hq rfl (fun b hb => ⟨(hT b (b1 b hb)).1, (hT b (b1 b hb)).2, Oo b (b1 b hb)⟩) (fun b j hb => ?_) (fun _ _ _ => rfl) rfl (Xn q hqk) (fun _ _ _ _ _ => rfl) (fun _ _ _ _ _ => rfl) (fun _ _ _ _ _ _ _ _ => rfl) (h3 q hq)
      have hbn := b1 b (by omega)
      exact hM b j hbn (hin b hbn (by omega)) (fun hh => by rw [hh, a2] at hb; omega) (fun hh => by rw [hh.1, o1] at hb; omega)
  · rw [hOw]
    show (if n ≤ b ∧ b < n' then (if b = bl then (103 : Int) else 100) else Ow b) = -5
    rw [if_neg (by omega)]
    exact h5 b (by omega)
  · by_cases hj : j = k
    · rw [hj, Xk]; exact .inr rfl
    · rw [Xn j hj]; exact hr1 j
  · have hs := xs_u Xn 61
    rw [if_pos (by omega), Xk, hX] at hs
    rcases hg with ⟨rfl, hg⟩ | ⟨rfl, hg⟩
    · rcases hu with hu | hu
      · omega
      · have := hu.2; omega
    · rcases hu with hu | hu
      · omega
      · exact absurd hu.1 hg
  · have hbn := b1 b (by omega)
    exact ⟨(hT b hbn).1, (hT b hbn).2, by rw [Oo b hbn]; exact hb, fun j => hM b j hbn (hin b hbn (by omega)) (fun hh => by rw [hh, a2] at hb; omega) (fun hh => by rw [hh.1, o1] at hb; omega)⟩
end
