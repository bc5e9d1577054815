/-! A CALL THAT CHANGES, MAKES OR DROPS A THING -/
def IVc (Y : zY) (k : Int) : Prop := (1 ≤ Y 3 k ∧ Y 3 k ≤ 6) ∧ (Y 3 k = 1 → 1 ≤ Y 7 k ∧ 1 ≤ Y 8 k) ∧ (Y 3 k = 2 → rf Y k (Y 5 k) 1) ∧ (Y 3 k = 3 → rf Y k (Y 5 k) 2 ∧ 0 < Y 13 (Y 5 k)) ∧ (Y 3 k = 4 → rf Y k (Y 5 k) 1 ∧ 1 ≤ Y 9 k) ∧ (Y 3 k = 5 → rf Y k (Y 5 k) 4 ∧ rf Y k (Y 6 k) 2 ∧ 0 < Y 13 (Y 6 k) ∧ Y 5 (Y 5 k) = Y 5 (Y 6 k)) ∧ (Y 3 k = 6 → rf Y k (Y 5 k) 2 ∧ rf Y k (Y 6 k) 2 ∧ (0 < Y 13 (Y 5 k) ∧ 0 < Y 13 (Y 6 k)) ∧ Y 5 (Y 5 k) = Y 5 (Y 6 k) ∧ (Y 12 k = 0 ∨ Y 12 k = 1))
section
variable {T T' : Nat → Nat} {Ln Ln' : Nat → Int} {M M' : Nat → Int → Value} {n u x n' u' : Nat} {A A' : Int → Nat} {W W' : Int → Int → Nat} {Ow Ow' : Nat → Int} {X X' : Int → Int} {Y Z : zY} {c n0 u0 k r : Int} {cd : Nat → Int}
theorem IV_i : IV Y ↔ ∀ k, 1 ≤ k → k ≤ Y 2 0 → IVc Y k := Iff.rfl
/-- the clause of one thing, where nothing that it speaks of has changed -/
theorem IVc_c {k : Int} (hZ : ∀ (f : Nat) (e : Int), 3 ≤ f → f ≤ 13 → ¬ f = 4 → 1 ≤ e → e ≤ k → Z f e = Y f e) (h4 : ∀ j, 1 ≤ j → j < k → m_us Y k j → (¬ Y 4 k = 0 → ¬ Y 4 j = 0) → (¬ Z 4 k = 0 → ¬ Z 4 j = 0)) (k1 : 1 ≤ k) (h : IVc Y k) : IVc Z k := by
  obtain ⟨t0, t1, t2, t3, t4, t5, t6⟩ := h
  have e3 := hZ 3 k (by omega) (by omega) (by omega) k1 (by omega)
  have e5 := hZ 5 k (by omega) (by omega) (by omega) k1 (by omega)
  have e6 := hZ 6 k (by omega) (by omega) (by omega) k1 (by omega)
  have e7 := hZ 7 k (by omega) (by omega) (by omega) k1 (by omega)
  have e8 := hZ 8 k (by omega) (by omega) (by omega) k1 (by omega)
  have e9 := hZ 9 k (by omega) (by omega) (by omega) k1 (by omega)
  have e12 := hZ 12 k (by omega) (by omega) (by omega) k1 (by omega)
  have hrf : ∀ j d, m_us Y k j → rf Y k j d → rf Z k j d := by
    intro j d hu ⟨⟨a0, a1⟩, a2, a3⟩
    refine ⟨⟨a0, a1⟩, ?_, h4 j a0 a1 hu a3⟩
    rw [hZ 3 j (by omega) (by omega) (by omega) a0 (by omega)]; exact a2
  have m5 : ¬ Y 3 k = 1 → m_us Y k (Y 5 k) := fun hh => .inl ⟨hh, rfl⟩
  have m6 : (Y 3 k = 5 ∨ Y 3 k = 6) → m_us Y k (Y 6 k) := fun hh => .inr ⟨hh, rfl⟩
  have ex : ∀ (f : Nat) (j d : Int), 3 ≤ f → f ≤ 13 → ¬ f = 4 → rf Y k j d → Z f j = Y f j := by
    intro f j d f1 f2 f3 ⟨⟨a0, a1⟩, _⟩
    exact hZ f j f1 f2 f3 a0 (by omega)
  unfold IVc
  rw [e3, e5, e6, e7, e8, e9, e12]
  refine ⟨t0, t1, fun hh => hrf _ _ (m5 (by omega)) (t2 hh), fun hh => ?_, fun hh => ?_, fun hh => ?_, fun hh => ?_⟩
  · obtain ⟨a, b⟩ := t3 hh
    rw [ex 13 _ _ (by omega) (by omega) (by omega) a]
    exact ⟨hrf _ _ (m5 (by omega)) a, b⟩
  · obtain ⟨a, b⟩ := t4 hh
    exact ⟨hrf _ _ (m5 (by omega)) a, b⟩
  · obtain ⟨a, b, d, e⟩ := t5 hh
    rw [ex 13 _ _ (by omega) (by omega) (by omega) b, ex 5 _ _ (by omega) (by omega) (by omega) a, ex 5 _ _ (by omega) (by omega) (by omega) b]
    exact ⟨hrf _ _ (m5 (by omega)) a, hrf _ _ (m6 (by omega)) b, d, e⟩
  · obtain ⟨a, b, d, e, f⟩ := t6 hh
    rw [ex 13 _ _ (by omega) (by omega) (by omega) b, ex 13 _ _ (by omega) (by omega) (by omega) a, ex 5 _ _ (by omega) (by omega) (by omega) a, ex 5 _ _ (by omega) (by omega) (by omega) b]
    exact ⟨hrf _ _ (m5 (by omega)) a, hrf _ _ (m6 (by omega)) b, d, e, f⟩
theorem RZ_gen (h : RZ T Ln M n u x A W Ow X Y c n0 u0) (hRZ : RG Z) (hIZ : IV Z) (hTB : TB Z (c + 1)) (hH : Y 2 0 ≤ Z 2 0) (hS : SC Y Z (Y 2 0)) (hE : ∀ (f : Nat) (e : Int), 30 ≤ f → f ≤ 40 → Z f e = Y f e)
  (hL : ∀ k, m_th Z k → (m_th Y k ∧ ¬ k = r) ∨ (k = r ∧ TH T' Ln' M' A' W' Ow' X Z k ∧ (k ≤ Y 2 0 → ¬ Y 3 k = 6)))
  (hY : ∀ k, m_th Z k → m_th Y k → ¬ k = r → OC Y Z k)
  (hU : ∀ k, m_th Z k → m_th Y k → ¬ k = r → ∀ q, m_us Y k q → PC Y Z q)
  (hT : ∀ a, ¬ Ow a = -5 → T' a = T a ∧ Ln' a = Ln a ∧ Ow' a = Ow a)
  (hM : ∀ a j, ¬ Ow a = -5 → ¬ Ow a = r → ¬ Ow a = 0 → M' a j = M a j)
  (hx0 : M' x 0 = M x 0) (hx1 : M' x 1 = zi (Z 2 0)) (hx2 : M' x 2 = zi (Z 1 0)) (hx3 : M' x 3 = M x 3)
  (hxt : ∀ j, 0 ≤ j → j < 61 → M' (x + 1) j = match tgo Z A' j with | some b => .ref b | none => .null)
  (hA : ∀ j, 1 ≤ j → j ≤ Y 2 0 → A' j = A j) (hW : ∀ k, ¬ k = r → W' k = W k) (hr : r ≤ 60)
  (hO : ∀ a, n' ≤ a → Ow' a = -5) (hn : n' ≤ n + 12) (hu : u' ≤ u + 100) : RZ T' Ln' M' n' u' x A' W' Ow' X Z (c + 1) n0 u0 ∧ FR T T' Ln Ln' M M' Ow Ow' := by
  obtain ⟨⟨hR, hI, hB, hHs, h1, hHX, h3, hMX, ⟨o1, o2, o3, o4⟩, h5⟩, hr1, hr2, g, hg, hr3⟩ := h
  have h60 : Y 2 0 ≤ 60 := (hR 2 0).2
  have h60' : 0 ≤ Z 2 0 ∧ Z 2 0 ≤ 60 := hRZ 2 0
  obtain ⟨tx1, tx2, tx3⟩ := hT x (by omega)
  obtain ⟨ty1, ty2, ty3⟩ := hT (x + 1) (by omega)
  have hTHk : ∀ k, m_th Z k → TH T' Ln' M' A' W' Ow' X Z k := by
    intro k hk
    rcases hL k hk with ⟨a, b⟩ | ⟨a, b, d⟩
    · have hk1 := a.1
      exact TH_f hI hR hRZ a rfl hT (fun a j ha => hM a j (by omega) (by omega) (by omega)) hA (hW k b) rfl (hY k hk a b) hS (hU k hk a b) (h3 k a)
    · exact b
  refine ⟨⟨⟨hRZ, hIZ, hTB, ?_, hx2, ?_, hTHk, ?_, ⟨by rw [tx3]; exact o1, by rw [ty3]; exact o2, fun k hk => o3 k (by omega), by rw [hE 32 0 (by omega) (by omega)]; omega⟩, hO⟩, hr1, by omega, g, by rw [hx3]; exact hg, by omega⟩, ?_⟩
  · obtain ⟨⟨a1, a2, a3⟩, a4, a5, a6, a7, a8⟩ := hHs
    refine ⟨⟨by rw [tx1]; exact a1, by rw [ty1]; exact a2, by rw [ty2]; exact a3⟩, by rw [hx0]; exact a4, hx1, h60', hxt, fun j b hb => ?_⟩
    unfold tgo at hb
    by_cases hj : m_th Z j
    · rw [if_pos hj] at hb
      cases hb
      have hj2 := hTHk j hj
      have hj1 := hj.1
      have h0 := (hIZ j hj.1.1 hj.1.2).1
      obtain ⟨q1, -, -⟩ := TH_tag hj2 h0
      rw [q1]; exact ⟨by omega, kt_i⟩
    · rw [if_neg hj] at hb; cases hb
  · rcases hHX with hh | ⟨a, ha, ⟨e1, e2, e3, e4, e5⟩, ⟨e6, e7, e8, e9⟩, ⟨f1, f2, f3, f4⟩, f5, f6, f7⟩
    · exact .inl (by rw [hx3]; exact hh)
    · have q := fun (i : Nat) (hi : i < 5) => hT (a + i) (by rw [f7 i hi]; omega)
      have qm := fun (i : Nat) (hi : i < 5) (j : Int) => hM (a + i) j (by rw [f7 i hi]; omega) (by rw [f7 i hi]; omega) (by rw [f7 i hi]; omega)
      have q0 := q 0 (by omega)
      have m0 := qm 0 (by omega)
      simp only [Nat.add_zero] at q0 m0
      refine .inr ⟨a, by rw [hx3]; exact ha, ⟨by rw [q0.1]; exact e1, by rw [(q 1 (by omega)).1]; exact e2, by rw [(q 2 (by omega)).1]; exact e3, by rw [(q 3 (by omega)).1]; exact e4, by rw [(q 4 (by omega)).1]; exact e5⟩, ⟨by rw [(q 1 (by omega)).2.1]; exact e6, by rw [(q 2 (by omega)).2.1]; exact e7, by rw [(q 3 (by omega)).2.1]; exact e8, by rw [(q 4 (by omega)).2.1]; exact e9⟩, ⟨by rw [m0]; exact f1, by rw [m0]; exact f2, by rw [m0]; exact f3, by rw [m0]; exact f4⟩, fun j j1 j2 => by rw [qm 1 (by omega)]; exact f5 j j1 j2, fun j j1 j2 => by rw [qm 3 (by omega)]; exact f6 j j1 j2, fun i hi => by rw [(q i hi).2.2]; exact f7 i hi⟩
  · intro g1 g2
    have e32 := hE 32 0 (by omega) (by omega)
    rw [e32] at g1 g2
    have e36 : (fun (i e : Int) => Z 36 (28 * i + e)) = fun i e => Y 36 (28 * i + e) := by funext i e; exact hE 36 _ (by omega) (by omega)
    have e37 : (fun (i : Int) => Z 37 i) = fun i => Y 37 i := by funext i; exact hE 37 _ (by omega) (by omega)
    rw [e32, hE 33 0 (by omega) (by omega), hE 34 0 (by omega) (by omega), hE 35 0 (by omega) (by omega), e36, e37]
    have e3 := hS 3 (Y 32 0) (by omega) g1.1.1 o4
    rw [e3] at g2
    rcases hL _ g1 with ⟨a, b⟩ | ⟨a, b, d⟩
    · have hk1 := a.1
      have hOC := hY _ g1 a b
      have hD : DA Y Z (Y 32 0) := DA_of hI a g2 (fun f hf => OC_n hOC (by omega) (by omega) f (by omega)) hS (hU _ g1 a b)
      rcases hMX a g2 with ⟨a, b⟩ | ⟨a, b, d⟩
      · exact .inl ⟨a, XT_c hD (fun p => (hR 13 p).2) b⟩
      · exact .inr ⟨XS_c hD (fun p => (hR 13 p).2) (fun p => (hRZ 13 p).2) a, EN_c hD b, d⟩
    · exact absurd g2 (d o4)
  · intro a ha
    obtain ⟨b1, b2, b3⟩ := hT a (by omega)
    exact ⟨b1, b2, by rw [b3]; exact ha, fun j => hM a j (by omega) (by omega) (by omega)⟩
/-- refused behind what has been made in vain -/
theorem CR_rv {kk : Nat} {L : zL} {val : Value} {r d : Int} (h : RZ T Ln M n u x A W Ow X Y c n0 u0) (r1 : 0 ≤ r) (r2 : r ≤ 7) (d1 : 1 ≤ d) (d2 : d ≤ 3) (hd : cd 0 = d) (hT : ∀ a, a < n → T' a = T a ∧ Ln' a = Ln a) (hM : ∀ a j, a < n → M' a j = M a j) (hn : n ≤ n') (hm : n' ≤ n + 12) (hw : u' ≤ u + 100) (hgo : ∀ Q : zU → zS → Prop, z_go zP kk 0 L [] (hj T Ln M, n, u) Q ↔ Q (.inr 0) (hj T' Ln' (mu M' x 2 (zi r)), n', u')) : CR kk L T Ln M n u x Ow c n0 u0 cd val (m_re Y r d) := by
  have e0 : m_re Y r d 0 0 = d := by simp [m_re, yu]
  have e1 : m_re Y r d 1 0 = r := by simp [m_re, yu]
  have hf : ∀ (f : Nat) (e : Int), ¬ f = 0 → ¬ f = 1 → m_re Y r d f e = Y f e := fun f e a b => re_f a b
  have eth : ∀ k, m_th (m_re Y r d) k ↔ m_th Y k := by
    intro k
    unfold m_th
    rw [hf 2 0 (by decide) (by decide), hf 4 k (by decide) (by decide)]
  obtain ⟨⟨hR, hI, hB, ⟨⟨a1, a2, a3⟩, a4, a5, a6, a7, a8⟩, h1, hHX, h3, hMX, ⟨o1, o2, o3, o4⟩, h5⟩, -⟩ := id h
  have hlt : ∀ a, ¬ Ow a = -5 → a < n := fun a ha => by
    false_or_by_contra
    exact ha (h5 a (by omega))
  have hxn := hlt x (by omega)
  have hyn := hlt (x + 1) (by omega)
  have h9 := RZ_gen (T' := T') (Ln' := Ln') (M' := mu M' x 2 (zi r)) (A' := A) (W' := W) (Ow' := Ow) (r := -7) (n' := n') (u' := u') h (RG_re hR r1 r2 (by omega) d2) (IV_c hf hI) (fun e => by
      rw [hf 21 e (by decide) (by decide), hf 23 e (by decide) (by decide)]
      have := hB e
      omega) (by rw [hf 2 0 (by decide) (by decide)]; omega) (fun f e hh _ _ => hf f e (by omega) (by omega)) (fun f e f1 f2 => hf f e (by omega) (by omega))
    (fun k hk => .inl ⟨(eth k).mp hk, by have := hk.1; omega⟩) (fun k _ _ _ => OC_0 hf) (fun k _ _ _ q _ f e f1 f2 _ _ => hf f e (by omega) (by omega)) (fun a ha => ⟨(hT a (hlt a ha)).1, (hT a (hlt a ha)).2, rfl⟩)
    (fun a j b1 b2 b3 => by rw [mu_n (fun hh => by rw [hh] at b3; exact b3 o1)]; exact hM a j (hlt a b1))
    (by rw [mu_j (by omega)]; exact hM x 0 hxn) (by rw [mu_j (by omega), hM x 1 hxn, a5, hf 2 0 (by decide) (by decide)]) (by rw [mu_s, e1]) (by rw [mu_j (by omega)]; exact hM x 3 hxn)
    (fun j j1 j2 => by
      rw [mu_n (by omega), hM (x + 1) j hyn, a7 j j1 j2]
      unfold tgo
      by_cases hj2 : m_th Y j
      · rw [if_pos hj2, if_pos ((eth j).mpr hj2)]
      · rw [if_neg hj2, if_neg (fun hh => hj2 ((eth j).mp hh))]) (fun _ _ _ => rfl) (fun _ _ => rfl) (by omega) (fun a ha => h5 a (by omega)) (by omega) (by omega)
  exact ⟨T', Ln', _, n', u', .inr 0, A, W, Ow, X, hgo, .inr ⟨0, rfl, by rw [e0, hd], by rw [e0]; omega⟩, h9.1, h9.2⟩
theorem RZ_lt (h : RZ T Ln M n u x A W Ow X Y c n0 u0) : (∀ a, ¬ Ow a = -5 → a < n) ∧ x < n ∧ x + 1 < n ∧ ∀ k, m_th Y k → A k < n := by
  have h5 := h.1.2.2.2.2.2.2.2.2.2
  have o1 := h.1.2.2.2.2.2.2.2.2.1.1
  have o2 := h.1.2.2.2.2.2.2.2.2.1.2.1
  have hlt : ∀ a, ¬ Ow a = -5 → a < n := fun a ha => by
    false_or_by_contra
    exact ha (h5 a (by omega))
  refine ⟨hlt, hlt x (by omega), hlt (x + 1) (by omega), fun k hk => ?_⟩
  obtain ⟨-, -, a2, -, a4, -⟩ := RLX_k h.1 hk
  exact hlt _ (by omega)
/-- the house stands behind what has been made -/
theorem HS_new (h : RZ T Ln M n u x A W Ow X Y c n0 u0) (hT : ∀ a, a < n → T' a = T a ∧ Ln' a = Ln a) (hM : ∀ a j, a < n → M' a j = M a j) : HsAt T' Ln' M' x (Y 2 0) (tgo Y A) := by
  obtain ⟨b1, b2, b3, b4⟩ := RZ_lt h
  obtain ⟨⟨a1, a2, a3⟩, a4, a5, a6, a7, a8⟩ := h.1.2.2.2.1
  refine ⟨⟨by rw [(hT x b2).1]; exact a1, by rw [(hT _ b3).1]; exact a2, by rw [(hT _ b3).2]; exact a3⟩, by rw [hM x 0 b2]; exact a4, by rw [hM x 1 b2]; exact a5, a6, fun j j1 j2 => by rw [hM (x + 1) j b3]; exact a7 j j1 j2, fun j b hb => ⟨(a8 j b hb).1, ?_⟩⟩
  have h9 := (a8 j b hb).2
  unfold tgo at hb
  by_cases hj : m_th Y j
  · rw [if_pos hj] at hb
    cases hb
    rw [(hT _ (b4 j hj)).1]
    exact h9
  · rw [if_neg hj] at hb; cases hb
def A1 (A : Int → Nat) (n : Nat) (r : Int) : Int → Nat := fun j => if j = r then n else A j
def O1 (Ow : Nat → Int) (n m : Nat) (r : Int) : Nat → Int := fun a => if n ≤ a ∧ a < n + m then r else Ow a
theorem A1_s {r : Int} : A1 A n r r = n := if_pos rfl
theorem A1_n {r j : Int} (h : ¬ j = r) : A1 A n r j = A j := if_neg h
theorem O1_y {m a : Nat} {r : Int} (h : n ≤ a ∧ a < n + m) : O1 Ow n m r a = r := if_pos h
theorem O1_n {m a : Nat} {r : Int} (h : ¬ (n ≤ a ∧ a < n + m)) : O1 Ow n m r a = Ow a := if_neg h
theorem CR_new {kk : Nat} {L : zL} (h : RZ T Ln M n u x A W Ow X Y c n0 u0) (hH : Y 2 0 < 60) (hRZ : RG Z) (z0 : Z 0 0 = 0) (z1 : Z 1 0 = Y 1 0) (z2 : Z 2 0 = Y 2 0 + 1) (z4 : Z 4 (Y 2 0 + 1) = 1) (hE : ∀ (f : Nat) (e : Int), 30 ≤ f → f ≤ 40 → Z f e = Y f e) (hZ : ∀ (f : Nat) (e : Int), 3 ≤ f → (f ≤ 29 ∨ f = 41) → 0 ≤ e → ¬ cow f e = Y 2 0 + 1 → Z f e = Y f e) (hIr : IVc Z (Y 2 0 + 1)) (hTB : ∀ e, Z 21 e ≤ Y 21 e ∧ Z 23 e ≤ Y 23 e) (hc : 0 ≤ c) (hT : ∀ a, a < n → T' a = T a ∧ Ln' a = Ln a) (hM : ∀ a j, a < n → M' a j = M a j) (m : Nat) (hn : n' = n + m) (hm : m ≤ 12) (hw : u' ≤ u + 100)
  (hTH : TH T' Ln' (mu (mu M' x 1 (zi (Y 2 0 + 1))) (x + 1) (Y 2 0 + 1) (.ref n)) (A1 A n (Y 2 0 + 1)) W (O1 Ow n m (Y 2 0 + 1)) X Z (Y 2 0 + 1))
  (hgo : ∀ Q : zU → zS → Prop, z_go zP kk 0 L [] (hj T Ln M, n, u) Q ↔ Q (.inl (some (zi (Y 2 0 + 1)))) (hj T' Ln' (mu (mu M' x 1 (zi (Y 2 0 + 1))) (x + 1) (Y 2 0 + 1) (.ref n)), n', u')) : CR kk L T Ln M n u x Ow c n0 u0 cd (zi (Y 2 0 + 1)) Z := by
  obtain ⟨⟨hR, hI, hB, ⟨⟨a1, a2, a3⟩, a4, a5, a6, a7, a8⟩, h1, hHX, h3, hMX, ⟨o1, o2, o3, o4⟩, h5⟩, -⟩ := id h
  have hlt : ∀ a, ¬ Ow a = -5 → a < n := fun a ha => by
    false_or_by_contra
    exact ha (h5 a (by omega))
  have hxn := hlt x (by omega)
  have hyn := hlt (x + 1) (by omega)
  have hnn : 0 ≤ Y 2 0 := (hR 2 0).1
  have hOC : ∀ k, ¬ k = Y 2 0 + 1 → OC Y Z k := fun k hk f e hf e0 he => hZ f e (by omega) (by omega) e0 (by rw [he]; exact hk)
  have hst : ∀ (f : Nat) (e : Int), 3 ≤ f → f ≤ 13 → 1 ≤ e → ¬ e = Y 2 0 + 1 → Z f e = Y f e := by
    intro f e f1 f2 e1 e2
    refine hZ f e f1 (by omega) (by omega) ?_
    unfold cow
    rw [if_neg (by omega), if_neg (by omega), if_neg (by omega), if_neg (by omega), if_neg (by omega)]
    exact e2
  have eth : ∀ k, ¬ k = Y 2 0 + 1 → (m_th Z k ↔ m_th Y k) := by
    intro k hk
    unfold m_th
    constructor
    · rintro ⟨⟨b1, b2⟩, b3⟩
      rw [hst 4 k (by omega) (by omega) b1 hk] at b3
      exact ⟨⟨b1, by omega⟩, b3⟩
    · rintro ⟨⟨b1, b2⟩, b3⟩
      rw [hst 4 k (by omega) (by omega) b1 hk]
      exact ⟨⟨b1, by omega⟩, b3⟩
  have hIZ : IV Z := by
    rw [IV_i]
    intro k k1 k2
    by_cases hk : k = Y 2 0 + 1
    · rw [hk]; exact hIr
    · refine IVc_c (fun f e f1 f2 f3 e1 e2 => hst f e f1 f2 e1 (by omega)) (fun j j1 j2 _ hh => ?_) k1 (hI k k1 (by omega))
      rw [hst 4 k (by omega) (by omega) k1 hk, hst 4 j (by omega) (by omega) j1 (by omega)]
      exact hh
  have h9 := RZ_gen (T' := T') (Ln' := Ln') (M' := mu (mu M' x 1 (zi (Y 2 0 + 1))) (x + 1) (Y 2 0 + 1) (.ref n)) (A' := A1 A n (Y 2 0 + 1)) (W' := W) (Ow' := O1 Ow n m (Y 2 0 + 1)) (r := Y 2 0 + 1) (n' := n') (u' := u') h hRZ hIZ (fun e => by
      have := hB e
      have := hTB e
      omega) (by omega) (fun f e hf e1 e2 => hst f e (by omega) (by omega) e1 (by omega)) hE
    (fun k hk => by
      by_cases hk2 : k = Y 2 0 + 1
      · exact .inr ⟨hk2, by rw [hk2]; exact hTH, fun hh => by omega⟩
      · exact .inl ⟨(eth k hk2).mp hk, hk2⟩) (fun k _ _ hk => hOC k hk) (fun k _ hk hk2 q hq f e f1 f2 e0 he => by
      refine hZ f e (by omega) (by omega) e0 ?_
      rw [he]
      intro hh
      subst hh
      obtain ⟨⟨k1, k2⟩, k3⟩ := hk
      obtain ⟨b0, b1, b2, b3, b4, b5, b6⟩ := hI k k1 k2
      unfold m_us at hq
      obtain e | e | e | e | e | e : Y 3 k = 1 ∨ Y 3 k = 2 ∨ Y 3 k = 3 ∨ Y 3 k = 4 ∨ Y 3 k = 5 ∨ Y 3 k = 6 := by omega
      · omega
      · have := (b2 e).1; omega
      · have := (b3 e).1.1; omega
      · have := (b4 e).1.1; omega
      · have := (b5 e).1.1; have := (b5 e).2.1.1; omega
      · have := (b6 e).1.1; have := (b6 e).2.1.1; omega) (fun a ha => ⟨(hT a (hlt a ha)).1, (hT a (hlt a ha)).2, O1_n (by have := hlt a ha; omega)⟩)
    (fun a j b1 b2 b3 => by rw [mu_n (fun hh => by rw [hh] at b3; exact b3 o2), mu_n (fun hh => by rw [hh] at b3; exact b3 o1)]; exact hM a j (hlt a b1))
    (by rw [mu_n (by omega), mu_j (by omega)]; exact hM x 0 hxn) (by rw [mu_n (by omega), mu_s, z2]) (by rw [mu_n (by omega), mu_j (by omega), hM x 2 hxn, h1, z1]) (by rw [mu_n (by omega), mu_j (by omega)]; exact hM x 3 hxn)
    (fun j j1 j2 => by
      by_cases hj : j = Y 2 0 + 1
      · have ht : m_th Z j := by
          refine ⟨⟨by omega, by omega⟩, ?_⟩
          rw [hj]
          omega
        rw [tgo_y ht, hj, mu_s, A1_s]
      · rw [mu_j hj, mu_n (by omega), hM (x + 1) j hyn, a7 j j1 j2]
        unfold tgo
        by_cases hj2 : m_th Y j
        · rw [if_pos hj2, if_pos ((eth j hj).mpr hj2), A1_n hj]
        · rw [if_neg hj2, if_neg (fun hh => hj2 ((eth j hj).mp hh))]) (fun j j1 j2 => A1_n (by omega)) (fun _ _ => rfl) (by omega) (fun a ha => by rw [O1_n (by omega)]; exact h5 a (by omega)) (by omega) (by omega)
  exact ⟨T', Ln', _, n', u', _, A1 A n (Y 2 0 + 1), W, O1 Ow n m (Y 2 0 + 1), X, hgo, .inl ⟨z0, rfl⟩, h9.1, h9.2⟩
end
