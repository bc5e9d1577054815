/-! CALLS THAT REFUSE -/
def kt (k : Int) : Nat := if k = 1 then 2 else if k = 2 then 4 else if k = 3 then 5 else if k = 4 then 0 else if k = 5 then 6 else 3
def xs (X : Int → Int) : Nat → Int
  | 0 => 0
  | n + 1 => xs X n + X n
def RM (M : Nat → Int → Value) (x n u : Nat) (X : Int → Int) (c n0 u0 : Int) : Prop := (∀ k, X k = 0 ∨ X k = 1) ∧ (n : Int) ≤ n0 + 12 * c ∧ ∃ g : Int, ((g = 0 ∧ M x 3 = .null) ∨ (g = 1 ∧ ¬ M x 3 = .null)) ∧ (u : Int) ≤ u0 + 100 * c + 33000 * xs X 61 + 70000 * g
def RZ (T : Nat → Nat) (Ln : Nat → Int) (M : Nat → Int → Value) (n u x : Nat) (A : Int → Nat) (W : Int → Int → Nat) (Ow : Nat → Int) (X : Int → Int) (Y : zY) (c n0 u0 : Int) : Prop := RLX T Ln M n x A W Ow X Y c ∧ RM M x n u X c n0 u0
/-- what is not the house's own stays -/
def FR (T T' : Nat → Nat) (Ln Ln' : Nat → Int) (M M' : Nat → Int → Value) (Ow Ow' : Nat → Int) : Prop := ∀ a, Ow a = 101 → T' a = T a ∧ Ln' a = Ln a ∧ Ow' a = 101 ∧ ∀ j, M' a j = M a j
/-- the class's answer, held against the model's -/
def CR (k : Nat) (L : zL) (T : Nat → Nat) (Ln : Nat → Int) (M : Nat → Int → Value) (n u x : Nat) (Ow : Nat → Int) (c n0 u0 : Int) (cd : Nat → Int) (val : Value) (Z : zY) : Prop := ∃ T' Ln' M' n' u' out A' W' Ow' X', (∀ Q : zU → zS → Prop, z_go zP k 0 L [] (hj T Ln M, n, u) Q ↔ Q out (hj T' Ln' M', n', u')) ∧ ((Z 0 0 = 0 ∧ out = .inl (some val)) ∨ ∃ e, out = .inr e ∧ Z 0 0 = cd e ∧ ¬ Z 0 0 = 0) ∧ RZ T' Ln' M' n' u' x A' W' Ow' X' Z (c + 1) n0 u0 ∧ FR T T' Ln Ln' M M' Ow Ow'
section
variable {T T' : Nat → Nat} {Ln Ln' : Nat → Int} {M M' : Nat → Int → Value} {n u x : Nat} {A A' : Int → Nat} {W W' : Int → Int → Nat} {Ow Ow' : Nat → Int} {X X' : Int → Int} {Y Z : zY} {c n0 u0 k : Int}
theorem TH_tag (h : TH T Ln M A W Ow X Y k) (h0 : 1 ≤ Y 3 k ∧ Y 3 k ≤ 6) : T (A k) = kt (Y 3 k) ∧ Ow (A k) = k ∧ M (A k) 0 = zi (Y 3 k) := by
  obtain ⟨u1, u2, u3, u4, u5, u6⟩ := h
  obtain h | h | h | h | h | h : Y 3 k = 1 ∨ Y 3 k = 2 ∨ Y 3 k = 3 ∨ Y 3 k = 4 ∨ Y 3 k = 5 ∨ Y 3 k = 6 := by omega
  · obtain ⟨⟨a, b, -⟩, d⟩ := u1 h
    rw [h]; exact ⟨a, d, b⟩
  · obtain ⟨⟨⟨a, -⟩, b, -⟩, ⟨d, -⟩, -⟩ := u2 h
    rw [h]; exact ⟨a, d, b⟩
  · obtain ⟨⟨⟨a, -⟩, b, -⟩, ⟨d, -⟩, -⟩ := u3 h
    rw [h]; exact ⟨a, d, b⟩
  · obtain ⟨⟨a, d⟩, b, -⟩ := u4 h
    rw [h]; exact ⟨a, d, b⟩
  · obtain ⟨⟨a, -⟩, ⟨b, -⟩, -, -, -, -, -, -, -, d, -⟩ := u5 h
    rw [h]; exact ⟨a, d 0 (by omega), b⟩
  · obtain ⟨⟨a, d⟩, ⟨b, -⟩, -⟩ := u6 h
    rw [h]; exact ⟨a, d, b⟩
theorem tgo_y (h : m_th Y k) : tgo Y A k = some (A k) := if_pos h
theorem tgo_n (h : ¬ m_th Y k) : tgo Y A k = none := if_neg h
theorem RLX_k (h : RLX T Ln M n x A W Ow X Y c) (hk : m_th Y k) : TH T Ln M A W Ow X Y k ∧ T (A k) = kt (Y 3 k) ∧ Ow (A k) = k ∧ M (A k) 0 = zi (Y 3 k) ∧ (1 ≤ k ∧ k ≤ 60) ∧ (1 ≤ Y 3 k ∧ Y 3 k ≤ 6) := by
  obtain ⟨hR, hI, hB, hH, h1, h2, h3, -⟩ := h
  have h0 := (hI k hk.1.1 hk.1.2).1
  have h60 : Y 2 0 ≤ 60 := (hR 2 0).2
  obtain ⟨a, b, d⟩ := TH_tag (h3 k hk) h0
  exact ⟨h3 k hk, a, b, d, ⟨hk.1.1, by have := hk.1.2; omega⟩, h0⟩
theorem kt_i {j : Int} : isT (kt j) := by
  unfold kt
  split; omega
  split; omega
  split; omega
  split; omega
  split; omega
  omega
theorem OC_0 (h : ∀ (f : Nat) (e : Int), ¬ f = 0 → ¬ f = 1 → Z f e = Y f e) : OC Y Z k := fun f e hf _ _ => h f e (by omega) (by omega)
theorem MX_c (hRY : RG Y) (hRZ : RG Z) (h : ∀ (f : Nat) (e : Int), ¬ f = 0 → ¬ f = 1 → Z f e = Y f e) (hX : MX Y) : MX Z := by
  intro h1 h2
  have hD : ∀ k, DA Y Z k := fun k => ⟨⟨h 5 _ (by decide) (by decide), h 6 _ (by decide) (by decide), h 12 _ (by decide) (by decide)⟩, fun p _ => ⟨⟨h 13 _ (by decide) (by decide), h 5 _ (by decide) (by decide), h 7 _ (by decide) (by decide), h 8 _ (by decide) (by decide)⟩, fun f j f1 _ _ _ => h f _ (by omega) (by omega)⟩⟩
  have e32 := h 32 0 (by decide) (by decide)
  rw [e32] at h1 h2
  have h1' : m_th Y (Y 32 0) := by
    unfold m_th at h1 ⊢
    rw [h 2 0 (by decide) (by decide), h 4 _ (by decide) (by decide)] at h1
    exact h1
  rw [h 3 _ (by decide) (by decide)] at h2
  have e36 : (fun (i e : Int) => Z 36 (28 * i + e)) = fun i e => Y 36 (28 * i + e) := by funext i e; exact h 36 _ (by decide) (by decide)
  have e37 : (fun (i : Int) => Z 37 i) = fun i => Y 37 i := by funext i; exact h 37 _ (by decide) (by decide)
  rw [e32, h 33 0 (by decide) (by decide), h 34 0 (by decide) (by decide), h 35 0 (by decide) (by decide), e36, e37]
  rcases hX h1' h2 with ⟨a, b⟩ | ⟨a, b, d⟩
  · exact .inl ⟨a, XT_c (hD _) (fun p => (hRY 13 p).2) b⟩
  · exact .inr ⟨XS_c (hD _) (fun p => (hRY 13 p).2) (fun p => (hRZ 13 p).2) a, EN_c (hD _) b, d⟩
theorem IV_c (h : ∀ (f : Nat) (e : Int), ¬ f = 0 → ¬ f = 1 → Z f e = Y f e) (hI : IV Y) : IV Z := by
  unfold IV rf at *
  simp only [h 2 _ (by decide) (by decide), h 3 _ (by decide) (by decide), h 4 _ (by decide) (by decide), h 5 _ (by decide) (by decide), h 6 _ (by decide) (by decide), h 7 _ (by decide) (by decide), h 8 _ (by decide) (by decide), h 9 _ (by decide) (by decide), h 12 _ (by decide) (by decide), h 13 _ (by decide) (by decide)]
  exact hI
/-- a call that only refuses, or only tells -/
theorem RZ_same (h : RZ T Ln M n u x A W Ow X Y c n0 u0) (hRZ : RG Z) (hZ : ∀ (f : Nat) (e : Int), ¬ f = 0 → ¬ f = 1 → Z f e = Y f e) (hM : ∀ a j, ¬ (a = x ∧ j = 2) → M' a j = M a j) (h2 : M' x 2 = zi (Z 1 0)) (m v : Nat) (hm : m ≤ 12) (hv : v ≤ 100) : RZ T Ln M' (n + m) (u + v) x A W Ow X Z (c + 1) n0 u0 ∧ FR T T Ln Ln M M' Ow Ow := by
  obtain ⟨⟨hR, hI, hB, hH, h1, hHX, h3, hMX, ⟨o1, o2, o3, o4⟩, h5⟩, hr1, hr2, g, hg, hr3⟩ := h
  have eth : ∀ k, m_th Z k ↔ m_th Y k := by
    intro k
    unfold m_th
    rw [hZ 2 0 (by decide) (by decide), hZ 4 k (by decide) (by decide)]
  have etg : tgo Z A = tgo Y A := by
    funext j
    unfold tgo
    by_cases hj : m_th Y j
    · rw [if_pos hj, if_pos ((eth j).mpr hj)]
    · rw [if_neg hj, if_neg (fun hh => hj ((eth j).mp hh))]
  have c3 : M' x 3 = M x 3 := hM x 3 (by omega)
  refine ⟨⟨⟨hRZ, IV_c hZ hI, fun e => ?_, ?_, h2, ?_, fun k hk => ?_, MX_c hR hRZ hZ hMX, ⟨o1, o2, by rw [hZ 2 0 (by decide) (by decide)]; exact o3, by rw [hZ 2 0 (by decide) (by decide), hZ 32 0 (by decide) (by decide)]; exact o4⟩, fun a ha => h5 a (by omega)⟩, hr1, by omega, g, by rw [c3]; exact hg, by omega⟩, ?_⟩
  · rw [hZ 21 e (by decide) (by decide), hZ 23 e (by decide) (by decide)]
    have := hB e
    omega
  · obtain ⟨a1, a2, a3, a4, a5, a6⟩ := hH
    rw [hZ 2 0 (by decide) (by decide), etg]
    exact ⟨a1, by rw [hM x 0 (by omega)]; exact a2, by rw [hM x 1 (by omega)]; exact a3, a4, fun j j1 j2 => by rw [hM (x + 1) j (by omega)]; exact a5 j j1 j2, a6⟩
  · rcases hHX with hh | ⟨a, ha, e1, e2, ⟨e3, e4, e5, e6⟩, e7, e8, e9⟩
    · exact .inl (by rw [c3]; exact hh)
    · have hne : ∀ i : Nat, i < 5 → ¬ a + i = x := fun i hi hh => by have := e9 i hi; rw [hh, o1] at this; omega
      have h0 : ∀ j, M' a j = M a j := fun j => hM a j (fun hh => hne 0 (by omega) hh.1)
      refine .inr ⟨a, by rw [c3]; exact ha, e1, e2, ⟨by rw [h0]; exact e3, by rw [h0]; exact e4, by rw [h0]; exact e5, by rw [h0]; exact e6⟩, fun j j1 j2 => ?_, fun j j1 j2 => ?_, e9⟩
      · rw [hM (a + 1) j (fun hh => hne 1 (by omega) hh.1)]; exact e7 j j1 j2
      · rw [hM (a + 3) j (fun hh => hne 3 (by omega) hh.1)]; exact e8 j j1 j2
  · have hk' := (eth k).mp hk
    have hkk := hk'.1
    refine TH_f hI hR hRZ hk' rfl (fun a _ => ⟨rfl, rfl, rfl⟩) (fun a j ha => ?_) (fun _ _ _ => rfl) rfl rfl (OC_0 hZ) (fun f e hf _ _ => hZ f e (by omega) (by omega)) (fun q _ f e f1 _ _ _ => hZ f e (by omega) (by omega)) (h3 k hk')
    refine hM a j (fun hh => ?_)
    rw [hh.1, o1] at ha
    omega
  · intro a ha
    refine ⟨rfl, rfl, ha, fun j => hM a j (fun hh => ?_)⟩
    rw [hh.1, o1] at ha
    omega
theorem re_f {r d e : Int} {f : Nat} (h0 : ¬ f = 0) (h1 : ¬ f = 1) : m_re Y r d f e = Y f e := by
  unfold m_re
  rw [yu_f h0, yu_f h1]
theorem RG_re {r d : Int} (h : RG Y) (r1 : 0 ≤ r) (r2 : r ≤ 7) (d1 : 0 ≤ d) (d2 : d ≤ 3) : RG (m_re Y r d) := RG_u (RG_u h r1 r2) d1 d2
/-- refused by a rule -/
theorem CR_re {kk : Nat} {L : zL} {cd : Nat → Int} {val : Value} {r d : Int} (h : RZ T Ln M n u x A W Ow X Y c n0 u0) (r1 : 0 ≤ r) (r2 : r ≤ 7) (d1 : 1 ≤ d) (d2 : d ≤ 3) (hd : cd 0 = d) (hgo : ∀ Q : zU → zS → Prop, z_go zP kk 0 L [] (hj T Ln M, n, u) Q ↔ Q (.inr 0) (hj T Ln (mu M x 2 (zi r)), n + 1, u + 6)) : CR kk L T Ln M n u x Ow c n0 u0 cd val (m_re Y r d) := by
  have e0 : m_re Y r d 0 0 = d := by simp [m_re, yu]
  have e1 : m_re Y r d 1 0 = r := by simp [m_re, yu]
  have h9 := RZ_same (M' := mu M x 2 (zi r)) h (RG_re h.1.1 r1 r2 (by omega) d2) (fun f e a b => re_f a b) (fun a j hh => by unfold mu; rw [if_neg hh]) (by rw [e1, mu_s]) 1 6 (by omega) (by omega)
  exact ⟨T, Ln, _, n + 1, u + 6, .inr 0, A, W, Ow, X, hgo, .inr ⟨0, rfl, by rw [e0, hd], by rw [e0]; omega⟩, h9.1, h9.2⟩
/-- refused without a rule -/
theorem CR_th {kk : Nat} {L : zL} {cd : Nat → Int} {val : Value} {d : Int} {e : Nat} (h : RZ T Ln M n u x A W Ow X Y c n0 u0) (d1 : 1 ≤ d) (d2 : d ≤ 3) (hd : cd e = d) (hgo : ∀ Q : zU → zS → Prop, z_go zP kk 0 L [] (hj T Ln M, n, u) Q ↔ Q (.inr e) (hj T Ln M, n + 1, u + 6)) : CR kk L T Ln M n u x Ow c n0 u0 cd val (yu Y 0 0 d) := by
  have e0 : yu Y 0 0 d 0 0 = d := yu_s
  have e1 : yu Y 0 0 d 1 0 = Y 1 0 := yu_f (by decide)
  have h9 := RZ_same (M' := M) h (RG_u h.1.1 (by show 0 ≤ d; omega) d2) (fun f e a b => yu_f a) (fun a j hh => rfl) (by rw [e1]; exact h.1.2.2.2.2.1) 1 6 (by omega) (by omega)
  exact ⟨T, Ln, _, n + 1, u + 6, .inr e, A, W, Ow, X, hgo, .inr ⟨e, rfl, by rw [e0, hd], by rw [e0]; omega⟩, h9.1, h9.2⟩
/-- answered without a change -/
theorem CR_an {kk : Nat} {L : zL} {cd : Nat → Int} {val : Value} (h : RZ T Ln M n u x A W Ow X Y c n0 u0) (hgo : ∀ Q : zU → zS → Prop, z_go zP kk 0 L [] (hj T Ln M, n, u) Q ↔ Q (.inl (some val)) (hj T Ln M, n, u)) : CR kk L T Ln M n u x Ow c n0 u0 cd val (yu Y 0 0 0) := by
  have e1 : yu Y 0 0 0 1 0 = Y 1 0 := yu_f (by decide)
  have h9 := RZ_same (M' := M) h (RG_0 h.1.1) (fun f e a b => yu_f a) (fun a j hh => rfl) (by rw [e1]; exact h.1.2.2.2.2.1) 0 0 (by omega) (by omega)
  exact ⟨T, Ln, _, n, u, _, A, W, Ow, X, hgo, .inl ⟨yu_s, rfl⟩, h9.1, h9.2⟩
end
