/-! EXPLORING: the order of the ends; there is only one answer -/
section
variable {f g h : Int → Int}
theorem bf_i : ∀ (n : Nat) (k : Int), m_bf f g n k = 1 ↔ ∃ j, k ≤ j ∧ j < k + n ∧ f j < g j ∧ ∀ i, k ≤ i → i < j → f i = g i := by
  intro n
  induction n with
  | zero =>
    intro k
    constructor
    · intro hh; exact absurd hh (by show ¬ (0 : Int) = 1; decide)
    · rintro ⟨j, j1, j2, -⟩; omega
  | succ n ih =>
    intro k
    show (if f k = g k then m_bf f g n (k + 1) else bI (f k < g k)) = 1 ↔ _
    by_cases c : f k = g k
    · rw [if_pos c, ih]
      constructor
      · rintro ⟨j, j1, j2, j3, j4⟩
        exact ⟨j, by omega, by omega, j3, fun i i1 i2 => by
          by_cases hi : i = k
          · rw [hi]; exact c
          · exact j4 i (by omega) i2⟩
      · rintro ⟨j, j1, j2, j3, j4⟩
        have hjk : ¬ j = k := fun hh => by rw [hh] at j3; omega
        exact ⟨j, by omega, by omega, j3, fun i i1 i2 => j4 i (by omega) i2⟩
    · rw [if_neg c]
      constructor
      · intro hh
        by_cases c2 : f k < g k
        · exact ⟨k, by omega, by omega, c2, fun i i1 i2 => by omega⟩
        · rw [bI_f c2] at hh; omega
      · rintro ⟨j, j1, j2, j3, j4⟩
        have hjk : j = k := by
          false_or_by_contra
          exact c (j4 k (by omega) (by omega))
        rw [hjk] at j3
        exact bI_t j3
theorem bf_c {f' g' : Int → Int} : ∀ (n : Nat) (k : Int), (∀ e, k ≤ e → e < k + n → f' e = f e ∧ g' e = g e) → m_bf f' g' n k = m_bf f g n k := by
  intro n
  induction n with
  | zero => intro k _; rfl
  | succ n ih =>
    intro k hh
    show (if f' k = g' k then m_bf f' g' n (k + 1) else bI (f' k < g' k)) = if f k = g k then m_bf f g n (k + 1) else bI (f k < g k)
    have h1 := hh k (by omega) (by omega)
    rw [ih (k + 1) (fun e a b => hh e (by omega) (by omega)), h1.1, h1.2]
theorem bf_a {n : Nat} {k : Int} : ∀ (m : Nat), (∀ e, k + n ≤ e → e < k + n + m → f e = g e) → m_bf f g (n + m) k = m_bf f g n k := by
  intro m hh
  have e1 := bf_i (f := f) (g := g) (n + m) k
  have e2 := bf_i (f := f) (g := g) n k
  have d1 := m_bf_01 f g (n + m) k
  have d2 := m_bf_01 f g n k
  have e3 : m_bf f g (n + m) k = 1 ↔ m_bf f g n k = 1 := by
    rw [e1, e2]
    constructor
    · rintro ⟨j, j1, j2, j3, j4⟩
      refine ⟨j, j1, ?_, j3, j4⟩
      false_or_by_contra
      have := hh j (by omega) (by omega)
      omega
    · rintro ⟨j, j1, j2, j3, j4⟩
      exact ⟨j, j1, by omega, j3, j4⟩
  rcases d1 with d1 | d1 <;> rcases d2 with d2 | d2 <;> omega
theorem bf_t {n : Nat} {k : Int} (h1 : m_bf f g n k = 1) (h2 : m_bf g h n k = 1) : m_bf f h n k = 1 := by
  rw [bf_i] at *
  obtain ⟨j, j1, j2, j3, j4⟩ := h1
  obtain ⟨i, i1, i2, i3, i4⟩ := h2
  by_cases c : j < i
  · exact ⟨j, j1, j2, by rw [← i4 j j1 c]; exact j3, fun e a b => by rw [j4 e a b, i4 e a (by omega)]⟩
  · by_cases c2 : j = i
    · subst c2
      exact ⟨j, j1, j2, by omega, fun e a b => by rw [j4 e a b, i4 e a b]⟩
    · exact ⟨i, i1, i2, by rw [j4 i i1 (by omega)]; exact i3, fun e a b => by rw [j4 e a (by omega), i4 e a b]⟩
theorem bf_n {n : Nat} {k : Int} (h1 : ∀ e, k ≤ e → e < k + n → f e = g e) : ¬ m_bf f g n k = 1 := by
  rw [bf_i]
  rintro ⟨j, j1, j2, j3, -⟩
  have := h1 j j1 j2
  omega
theorem bf_3 (n : Nat) (k : Int) : (∀ e, k ≤ e → e < k + n → f e = g e) ∨ m_bf f g n k = 1 ∨ m_bf g f n k = 1 := by
  have hdec : DecidablePred (fun e : Int => ¬ f e = g e) := fun _ => inferInstance
  by_cases hx : ∃ d, k ≤ d ∧ d < k + n ∧ ¬ f d = g d
  · obtain ⟨d, d1, d2, d3, d4⟩ := first_d _ n k hx
    have d4' : ∀ i, k ≤ i → i < d → f i = g i := fun i a b => by
      false_or_by_contra
      rename_i hh
      exact d4 i a b hh
    by_cases c : f d < g d
    · exact .inr (.inl ((bf_i n k).mpr ⟨d, d1, d2, c, d4'⟩))
    · exact .inr (.inr ((bf_i n k).mpr ⟨d, d1, d2, by omega, fun i a b => (d4' i a b).symm⟩))
  · refine .inl (fun e a b => ?_)
    false_or_by_contra
    rename_i hh
    exact hx ⟨e, a, b, hh⟩
end
/-- the ends among the first m states, in their order -/
def EP (B : Int → Int → Prop) (D : Int → Prop) (m en : Int) (E : Int → Int) : Prop := (0 ≤ en ∧ en ≤ m) ∧ (∀ i, 0 ≤ i → i < en → (0 ≤ E i ∧ E i < m) ∧ D (E i)) ∧ (∀ i j, 0 ≤ i → i < j → j < en → B (E i) (E j)) ∧ ∀ i, 0 ≤ i → i < m → D i → ∃ j, 0 ≤ j ∧ j < en ∧ E j = i
section
variable {B : Int → Int → Prop} {D : Int → Prop} {m en po : Int} {E E' : Int → Int} {Y : zY} {k n n' en' : Int} {S S' : Int → Int → Int}
theorem EP_c {B' : Int → Int → Prop} {D' : Int → Prop} (hB : ∀ i j, 0 ≤ i → i < m → 0 ≤ j → j < m → B i j → B' i j) (hD : ∀ i, 0 ≤ i → i < m → (D i ↔ D' i)) (h : EP B D m en E) : EP B' D' m en E := by
  obtain ⟨h1, h2, h3, h4⟩ := h
  refine ⟨h1, fun i a b => ⟨(h2 i a b).1, (hD _ (h2 i a b).1.1 (h2 i a b).1.2).mp (h2 i a b).2⟩, fun i j a b d => ?_, fun i a b hd => h4 i a b ((hD i a b).mpr hd)⟩
  have q1 := (h2 i a (by omega)).1
  have q2 := (h2 j (by omega) d).1
  exact hB _ _ q1.1 q1.2 q2.1 q2.2 (h3 i j a b d)
theorem EP_n (hm : 0 ≤ m) (hd : ¬ D m) (h : EP B D m en E) : EP B D (m + 1) en E := by
  obtain ⟨h1, h2, h3, h4⟩ := h
  refine ⟨by omega, fun i a b => ⟨by have := (h2 i a b).1; omega, (h2 i a b).2⟩, h3, fun i a b hi => ?_⟩
  by_cases c : i = m
  · rw [c] at hi; exact absurd hi hd
  · exact h4 i a (by omega) hi
theorem EP_i (hm : 0 ≤ m) (hd : D m) (hT : ∀ i j l, B i j → B j l → B i l) (h3 : ∀ u, 0 ≤ u → u < m → D u → B m u ∨ B u m) (p1 : 0 ≤ po) (p2' : po ≤ en) (q1 : ∀ j, po ≤ j → j < en → B m (E j)) (q2 : 0 < po → ¬ B m (E (po - 1))) (e1 : ∀ j, 0 ≤ j → j < po → E' j = E j) (e2 : E' po = m) (e3 : ∀ j, po ≤ j → j < en → E' (j + 1) = E j) (h : EP B D m en E) : EP B D (m + 1) (en + 1) E' := by
  obtain ⟨h1, h2, hs, h4⟩ := h
  have lo : ∀ j, 0 ≤ j → j < po → B (E j) m := by
    intro j a b
    have r := h2 (po - 1) (by omega) (by omega)
    have r2 : B (E (po - 1)) m := by
      rcases h3 _ r.1.1 r.1.2 r.2 with hh | hh
      · exact absurd hh (q2 (by omega))
      · exact hh
    by_cases c : j = po - 1
    · rw [c]; exact r2
    · exact hT _ _ _ (hs j (po - 1) a (by omega) (by omega)) r2
  have ge : ∀ j, po < j → j ≤ en → E' j = E (j - 1) := fun j a b => by
    have := e3 (j - 1) (by omega) (by omega)
    rw [show j - 1 + 1 = j by omega] at this
    exact this
  refine ⟨by omega, fun i a b => ?_, fun i j a b d => ?_, fun i a b hi => ?_⟩
  · by_cases c : i < po
    · rw [e1 i a c]; have := h2 i a (by omega); exact ⟨by omega, this.2⟩
    · by_cases c2 : i = po
      · rw [c2, e2]; exact ⟨by omega, hd⟩
      · rw [ge i (by omega) (by omega)]; have := h2 (i - 1) (by omega) (by omega); exact ⟨by omega, this.2⟩
  · by_cases c : j < po
    · rw [e1 i a (by omega), e1 j (by omega) c]; exact hs i j a b (by omega)
    · by_cases c2 : j = po
      · rw [c2, e2, e1 i a (by omega)]; exact lo i a (by omega)
      · rw [ge j (by omega) (by omega)]
        by_cases c3 : i < po
        · rw [e1 i a c3]
          exact hs i (j - 1) a (by omega) (by omega)
        · by_cases c4 : i = po
          · rw [c4, e2]; exact q1 (j - 1) (by omega) (by omega)
          · rw [ge i (by omega) (by omega)]; exact hs (i - 1) (j - 1) (by omega) (by omega) (by omega)
  · by_cases c : i = m
    · exact ⟨po, by omega, by omega, by rw [e2, c]⟩
    · obtain ⟨j, j1, j2, j3⟩ := h4 i a (by omega) hi
      by_cases c2 : j < po
      · exact ⟨j, j1, by omega, by rw [e1 j j1 c2]; exact j3⟩
      · exact ⟨j + 1, by omega, by omega, by rw [e3 j (by omega) j2]; exact j3⟩
/-- as many distinct ones as there is room for -/
theorem pig {P : Int → Int → Prop} (hm : 0 ≤ m) (h : ∀ j, 0 ≤ j → j ≤ m → ∃ i, 0 ≤ i ∧ i < m ∧ P j i) : ∃ j j' i, 0 ≤ j ∧ j < j' ∧ j' ≤ m ∧ P j i ∧ P j' i := by
  have hc : ∀ j : Nat, ∃ i : Nat, j < m.toNat + 1 → (i < m.toNat ∧ P j i) := by
    intro j
    by_cases hj : j < m.toNat + 1
    · obtain ⟨i, i1, i2, i3⟩ := h j (by omega) (by omega)
      exact ⟨i.toNat, fun _ => ⟨by omega, by rw [show ((i.toNat : Nat) : Int) = i by omega]; exact i3⟩⟩
    · exact ⟨0, fun hh => absurd hh hj⟩
  obtain ⟨i, j, a, b, d⟩ := pigeon m.toNat (fun j => Classical.choose (hc j)) (fun j hj => (Classical.choose_spec (hc j) hj).1)
  have s1 := (Classical.choose_spec (hc i) (by omega)).2
  have s2 := (Classical.choose_spec (hc j) b).2
  have d' : Classical.choose (hc i) = Classical.choose (hc j) := d
  rw [d'] at s1
  exact ⟨i, j, _, by omega, by omega, by omega, s1, s2⟩
theorem XS_le (h : XS Y k n S) (h' : XS Y k n' S') : n' ≤ n := by
  false_or_by_contra
  obtain ⟨a1, a2, a3, a4⟩ := h
  obtain ⟨b1, b2, b3, b4⟩ := h'
  obtain ⟨j, j', i, q1, q2, q3, q4, q5⟩ := pig (m := n) (P := fun j i => eqv (S i) (S' j)) (by omega) (fun j j1 j2 => by
    obtain ⟨i, i1, i2, i3⟩ := b3 _ a4 j j1 (by omega)
    exact ⟨i, i1, i2, i3⟩)
  exact b2 j j' q1 q2 (by omega) (eqv_t (eqv_s q4) q5)
theorem XS_un (h : XS Y k n S) (h' : XS Y k n' S') : n = n' := by
  have := XS_le h h'
  have := XS_le h' h
  omega
theorem XS_xt (h : XS Y k n S) (h' : XT Y k) : False := by
  obtain ⟨a1, a2, a3, a4⟩ := h
  obtain ⟨S', b2, b3⟩ := h'
  obtain ⟨j, j', i, q1, q2, q3, q4, q5⟩ := pig (m := n) (P := fun j i => eqv (S i) (S' j)) (by omega) (fun j j1 j2 => by
    obtain ⟨i, i1, i2, i3⟩ := b3 _ a4 j j1 (by omega)
    exact ⟨i, i1, i2, i3⟩)
  exact b2 j j' q1 q2 (by omega) (eqv_t (eqv_s q4) q5)
theorem ie_q {f g : Int → Int} (h : eqv f g) : m_ie (sr Y f) k ↔ m_ie (sr Y g) k := by
  have e : ∀ e, 0 ≤ e → e < 28 → sr Y f 38 e = sr Y g 38 e := h
  unfold m_ie
  rw [e 0 (by omega) (by omega), e 1 (by omega) (by omega), e 18 (by omega) (by omega), e 23 (by omega) (by omega), sr_f (f := f) (g := 13) (by decide), sr_f (f := f) (g := 13) (by decide), sr_f (f := g) (g := 13) (by decide), sr_f (f := g) (g := 13) (by decide), sr_f (f := f) (g := 5) (by decide), sr_f (f := f) (g := 6) (by decide), sr_f (f := g) (g := 5) (by decide), sr_f (f := g) (g := 6) (by decide)]
theorem EN_find (hX : XS Y k n S) (hX' : XS Y k n' S') (hE : EN Y k n S en E) (hE' : EN Y k n' S' en' E') {i : Int} (i1 : 0 ≤ i) (i2 : i < en) : ∃ j, 0 ≤ j ∧ j < en' ∧ eqv (S' (E' j)) (S (E i)) := by
  obtain ⟨a1, a2, a3, a4⟩ := hX
  obtain ⟨b1, b2, b3, b4⟩ := hX'
  obtain ⟨⟨q1, q2⟩, q3⟩ := hE.2.1 i i1 i2
  obtain ⟨u, u1, u2, u3⟩ := a3 _ b4 (E i) q1 q2
  obtain ⟨j, j1, j2, j3⟩ := hE'.2.2.2 u u1 u2 ((ie_q u3).mpr q3)
  exact ⟨j, j1, j2, by rw [j3]; exact u3⟩
theorem EN_at (hX : XS Y k n S) (hX' : XS Y k n' S') (hE : EN Y k n S en E) (hE' : EN Y k n' S' en' E') : ∀ (N : Nat) (i : Int), 0 ≤ i → i < N → i < en → i < en' ∧ eqv (S' (E' i)) (S (E i)) := by
  have bq : ∀ f g f' g' : Int → Int, eqv f f' → eqv g g' → m_bf f g 16 2 = m_bf f' g' 16 2 := fun f g f' g' h1 h2 => bf_c 16 2 (fun e a b => ⟨h1 e (by omega) (by omega), h2 e (by omega) (by omega)⟩)
  have bn : ∀ f g : Int → Int, eqv f g → ¬ m_bf f g 16 2 = 1 := fun f g h1 => bf_n (fun e a b => h1 e (by omega) (by omega))
  intro N
  induction N with
  | zero => intro i i1 i2; omega
  | succ N ih =>
    intro i i1 i2 i3
    by_cases hN : i < N
    · exact ih i i1 hN i3
    · obtain ⟨j, j1, j2, j3⟩ := EN_find hX hX' hE hE' i1 i3
      have hji : ¬ j < i := by
        intro hlt
        obtain ⟨r1, r2⟩ := ih j j1 (by omega) (by omega)
        exact bn _ _ (eqv_t (eqv_s r2) j3) (hE.2.2.1 j i j1 hlt i3)
      have hi' : i < en' := by omega
      obtain ⟨l, l1, l2, l3⟩ := EN_find hX' hX hE' hE i1 hi'
      have hli : ¬ l < i := by
        intro hlt
        obtain ⟨r1, r2⟩ := ih l l1 (by omega) (by omega)
        exact bn _ _ (eqv_t r2 l3) (hE'.2.2.1 l i l1 hlt hi')
      refine ⟨hi', ?_⟩
      by_cases c : j = i
      · rw [← c]; rw [c] at j3; rw [c]; exact j3
      · have s1 := hE'.2.2.1 i j i1 (by omega) j2
        rw [bq _ _ _ _ (eqv_s l3) j3] at s1
        by_cases c2 : l = i
        · rw [c2] at s1; exact absurd s1 (bn _ _ eqv_r)
        · have s2 := hE.2.2.1 i l i1 (by omega) l2
          exact absurd (bf_t s1 s2) (bn _ _ eqv_r)
theorem EN_un (hX : XS Y k n S) (hX' : XS Y k n' S') (hE : EN Y k n S en E) (hE' : EN Y k n' S' en' E') : en = en' ∧ ∀ i, 0 ≤ i → i < en → eqv (S' (E' i)) (S (E i)) := by
  have h1 := fun i a b => EN_at hX hX' hE hE' (i.toNat + 1) i a (by omega) b
  have h2 := fun i a b => EN_at hX' hX hE' hE (i.toNat + 1) i a (by omega) b
  have e0 := hE.1
  have e1 := hE'.1
  refine ⟨?_, fun i a b => (h1 i a b).2⟩
  by_cases c : en < en'
  · have := (h2 en (by omega) c).1; omega
  · by_cases c2 : en' < en
    · have := (h1 en' (by omega) c2).1; omega
    · omega
end
