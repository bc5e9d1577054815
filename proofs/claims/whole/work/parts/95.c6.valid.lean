/-! THE MODEL: what holds of every state of a pair -/
def VQ (Y : zY) (k : Int) : Prop := (Y 38 0 ≤ Y 13 (Y 5 k) ∧ Y 38 1 ≤ Y 13 (Y 6 k)) ∧ (∀ e, 2 ≤ e → e ≤ 17 → Y 38 e < p2 (Y 7 (Y 5 (Y 5 k)))) ∧ (∀ e, 10 + Y 8 (Y 5 (Y 5 k)) ≤ e → e ≤ 17 → Y 38 e = 0) ∧ ∀ w, 0 ≤ w → w ≤ 1 → (Y 38 (18 + 5 * w) ≤ 2 ∧ Y 38 (18 + 5 * w + 1) < Y 8 (Y 5 (Y 5 k)) ∧ Y 38 (18 + 5 * w + 3) < Y 8 (Y 5 (Y 5 k)) ∧ Y 38 (18 + 5 * w + 2) < p2 (Y 7 (Y 5 (Y 5 k))) ∧ Y 38 (18 + 5 * w + 4) < p2 (Y 7 (Y 5 (Y 5 k))) ∧ (Y 38 (18 + 5 * w) = 0 → Y 38 (18 + 5 * w + 1) = 0 ∧ Y 38 (18 + 5 * w + 2) = 0) ∧ (Y 38 (18 + 5 * w) ≤ 1 → Y 38 (18 + 5 * w + 3) = 0 ∧ Y 38 (18 + 5 * w + 4) = 0))
/-- of the pair k itself -/
def PK (Y : zY) (k : Int) : Prop := (0 ≤ k ∧ k ≤ 60) ∧ (0 < Y 13 (Y 5 k) ∧ 0 < Y 13 (Y 6 k)) ∧ (0 < Y 8 (Y 5 (Y 5 k)) ∧ Y 5 (Y 6 k) = Y 5 (Y 5 k)) ∧ 0 < Y 7 (Y 5 (Y 5 k))
theorem VQ_NV {Y : zY} {k : Int} (hR : RG Y) (h : VQ Y k) : NV Y k := by
  obtain ⟨h1, -, -, h4⟩ := h
  have a := h4 0 (by omega) (by omega)
  have b := h4 1 (by omega) (by omega)
  have h8 : Y 8 (Y 5 (Y 5 k)) ≤ 8 := (hR 8 _).2
  obtain ⟨a1, a2, a3, -⟩ := a
  obtain ⟨b1, b2, b3, -⟩ := b
  exact ⟨h1, ⟨a1, b1⟩, ⟨by have : Y 38 19 < Y 8 (Y 5 (Y 5 k)) := a2; omega, by have : Y 38 21 < Y 8 (Y 5 (Y 5 k)) := a3; omega⟩, by have : Y 38 24 < Y 8 (Y 5 (Y 5 k)) := b2; omega, by have : Y 38 26 < Y 8 (Y 5 (Y 5 k)) := b3; omega⟩
theorem PK_c {Y Z : zY} {k : Int} (h5 : ∀ e, Z 5 e = Y 5 e) (h6 : ∀ e, Z 6 e = Y 6 e) (h7 : ∀ e, Z 7 e = Y 7 e) (h8 : ∀ e, Z 8 e = Y 8 e) (h13 : ∀ e, Z 13 e = Y 13 e) (h : PK Y k) : PK Z k := by
  unfold PK
  simp only [h5, h6, h7, h8, h13]
  exact h
theorem VQ_c {Y Z : zY} {k : Int} (h5 : ∀ e, Z 5 e = Y 5 e) (h6 : ∀ e, Z 6 e = Y 6 e) (h7 : ∀ e, Z 7 e = Y 7 e) (h8 : ∀ e, Z 8 e = Y 8 e) (h13 : ∀ e, Z 13 e = Y 13 e) (h38 : ∀ e, 0 ≤ e → e < 28 → Z 38 e = Y 38 e) (h0 : 0 ≤ Y 8 (Y 5 (Y 5 k))) (h : VQ Y k) : VQ Z k := by
  obtain ⟨⟨a1, a2⟩, a3, a4, a5⟩ := h
  refine ⟨⟨?_, ?_⟩, fun e e1 e2 => ?_, fun e e1 e2 => ?_, fun w w1 w2 => ?_⟩
  · rw [h38 0 (by omega) (by omega), h13, h5]; exact a1
  · rw [h38 1 (by omega) (by omega), h13, h6]; exact a2
  · rw [h38 e (by omega) (by omega), h5, h5, h7]; exact a3 e e1 e2
  · rw [h5, h5, h8] at e1
    rw [h38 e (by omega) (by omega)]; exact a4 e e1 e2
  · rw [h38 (18 + 5 * w) (by omega) (by omega), h38 (18 + 5 * w + 1) (by omega) (by omega), h38 (18 + 5 * w + 2) (by omega) (by omega), h38 (18 + 5 * w + 3) (by omega) (by omega), h38 (18 + 5 * w + 4) (by omega) (by omega), h5, h5, h8, h7]
    exact a5 w w1 w2
theorem VQ_d1 {Y : zY} {k w : Int} (hR : RG Y) (hP : PK Y k) (h : VQ Y k) (w1 : 0 ≤ w) (w2 : w ≤ 1) (hc : m_dc Y k w) : VQ (m_d1 Y k w) k := by
  obtain ⟨⟨k1, k2⟩, ⟨x1, x2⟩, ⟨x3, x4⟩, x5⟩ := hP
  have h7 : Y 7 (Y 5 (Y 5 k)) ≤ 32 := (hR 7 _).2
  have hpm : Y 5 (m_pa Y k w) = Y 5 (Y 5 k) := by unfold m_pa; split; rfl; exact x4
  obtain ⟨p, hp⟩ : ∃ p, p2 (Y 7 (Y 5 (Y 5 k))) = p := ⟨_, rfl⟩
  obtain ⟨m, hm⟩ : ∃ m, Y 8 (Y 5 (Y 5 k)) = m := ⟨_, rfl⟩
  have pp : 0 < p := by rw [← hp]; exact p2_pos _
  have r38 : ∀ e, 0 ≤ Y 38 e := fun e => (hR 38 e).1
  have b16 : 0 ≤ Y 16 (m_dk Y k w) ∧ Y 16 (m_dk Y k w) ≤ 3 := hR 16 _
  have b17 : 0 ≤ Y 17 (m_dk Y k w) ∧ Y 17 (m_dk Y k w) ≤ 3 := hR 17 _
  have b15 : 0 ≤ Y 15 (m_dk Y k w) ∧ Y 15 (m_dk Y k w) ≤ 3 := hR 15 _
  have h8 : m ≤ 8 := by rw [← hm]; exact (hR 8 _).2
  obtain ⟨y1, y2, y3, y4⟩ := h
  rw [hp] at y2
  rw [hm] at y3
  simp only [hp, hm] at y4
  have dx : 0 ≤ m_dx Y k w ∧ m_dx Y k w < p := ⟨r38 _, y2 _ (by omega) (by omega)⟩
  have dy : 0 ≤ m_dy Y k w ∧ m_dy Y k w < p := ⟨r38 _, y2 _ (by omega) (by omega)⟩
  have da : 0 ≤ m_da Y k w ∧ m_da Y k w < m := by
    unfold m_da
    rw [hpm, hm]
    exact mod_b (by omega)
  have o := fun (f : Nat) (e : Int) (hh : ¬ f = 38) => m_d1_f (Y := Y) (k := k) (w := w) (e := e) hh
  unfold VQ
  rw [o 5 k (by decide), o 6 k (by decide), o 5 _ (by decide), o 7 _ (by decide), o 8 _ (by decide), o 13 _ (by decide), o 13 _ (by decide)]
  simp only [hp, hm]
  have reg : ∀ v, 0 ≤ v → v < p → (yu Y 38 (2 + 4 * w + Y 15 (m_dk Y k w)) v 38 0 ≤ Y 13 (Y 5 k) ∧ yu Y 38 (2 + 4 * w + Y 15 (m_dk Y k w)) v 38 1 ≤ Y 13 (Y 6 k)) ∧ (∀ e, 2 ≤ e → e ≤ 17 → yu Y 38 (2 + 4 * w + Y 15 (m_dk Y k w)) v 38 e < p) ∧ (∀ e, 10 + m ≤ e → e ≤ 17 → yu Y 38 (2 + 4 * w + Y 15 (m_dk Y k w)) v 38 e = 0) ∧ ∀ u, 0 ≤ u → u ≤ 1 → (yu Y 38 (2 + 4 * w + Y 15 (m_dk Y k w)) v 38 (18 + 5 * u) ≤ 2 ∧ yu Y 38 (2 + 4 * w + Y 15 (m_dk Y k w)) v 38 (18 + 5 * u + 1) < m ∧ yu Y 38 (2 + 4 * w + Y 15 (m_dk Y k w)) v 38 (18 + 5 * u + 3) < m ∧ yu Y 38 (2 + 4 * w + Y 15 (m_dk Y k w)) v 38 (18 + 5 * u + 2) < p ∧ yu Y 38 (2 + 4 * w + Y 15 (m_dk Y k w)) v 38 (18 + 5 * u + 4) < p ∧ (yu Y 38 (2 + 4 * w + Y 15 (m_dk Y k w)) v 38 (18 + 5 * u) = 0 → yu Y 38 (2 + 4 * w + Y 15 (m_dk Y k w)) v 38 (18 + 5 * u + 1) = 0 ∧ yu Y 38 (2 + 4 * w + Y 15 (m_dk Y k w)) v 38 (18 + 5 * u + 2) = 0) ∧ (yu Y 38 (2 + 4 * w + Y 15 (m_dk Y k w)) v 38 (18 + 5 * u) ≤ 1 → yu Y 38 (2 + 4 * w + Y 15 (m_dk Y k w)) v 38 (18 + 5 * u + 3) = 0 ∧ yu Y 38 (2 + 4 * w + Y 15 (m_dk Y k w)) v 38 (18 + 5 * u + 4) = 0)) := by
    intro v v1 v2
    refine ⟨⟨?_, ?_⟩, fun e e1 e2 => ?_, fun e e1 e2 => ?_, fun u u1 u2 => ?_⟩
    · rw [yu_n (by omega)]; exact y1.1
    · rw [yu_n (by omega)]; exact y1.2
    · rw [yu_e]; split; exact v2; exact y2 e e1 e2
    · rw [yu_n (by omega)]; exact y3 e e1 e2
    · rw [yu_n (by omega), yu_n (by omega), yu_n (by omega), yu_n (by omega), yu_n (by omega)]; exact y4 u u1 u2
  unfold m_d1
  rw [hpm, hp]
  split
  next => have := mod_p2 (Y 18 (m_dk Y k w)) h7; rw [hp] at this; exact reg _ this.1 this.2.1
  next =>
  split
  next => have := mod_p2 (m_dx Y k w + m_dy Y k w) h7; rw [hp] at this; exact reg _ this.1 this.2.1
  next =>
  split
  next => have := mod_p2 (m_dx Y k w - m_dy Y k w) h7; rw [hp] at this; exact reg _ this.1 this.2.1
  next =>
  split
  next => have := lland_lt (by omega) h7 dx.1 (by rw [hp]; exact dx.2) dy.1 (by rw [hp]; exact dy.2); rw [hp] at this; exact reg _ this.1 this.2
  next =>
  split
  next =>
    have hse : 0 ≤ m_se Y w (m_da Y k w) ∧ m_se Y w (m_da Y k w) < p := by
      obtain ⟨z1, z2, z3, z4, z5, -⟩ := y4 w w1 w2
      have z5' : Y 38 (18 + 5 * w + 2 + 2) < p := by rw [show 18 + 5 * w + 2 + 2 = 18 + 5 * w + 4 by omega]; exact z5
      unfold m_se
      split
      · exact ⟨r38 _, y2 _ (by omega) (by omega)⟩
      split
      · split
        · exact ⟨r38 _, z4⟩
        · exact ⟨r38 _, y2 _ (by omega) (by omega)⟩
      split
      · exact ⟨r38 _, z5'⟩
      split
      · exact ⟨r38 _, z4⟩
      · exact ⟨r38 _, y2 _ (by omega) (by omega)⟩
    exact reg _ hse.1 hse.2
  next =>
  split
  next h5 =>
    split
    next h12 =>
      have hcnt : ¬ Y 38 (18 + 5 * w) = 2 := fun hh => hc.2 ⟨h5, h12, hh⟩
      obtain ⟨z1, z2, z3, z4, z5, z6, z7⟩ := y4 w w1 w2
      have c0 := r38 (18 + 5 * w)
      refine ⟨⟨?_, ?_⟩, fun e e1 e2 => ?_, fun e e1 e2 => ?_, fun u u1 u2 => ?_⟩
      · rw [yu_n (by omega), yu_n (by omega), yu_n (by omega)]; exact y1.1
      · rw [yu_n (by omega), yu_n (by omega), yu_n (by omega)]; exact y1.2
      · rw [yu_n (by omega), yu_n (by omega), yu_n (by omega)]; exact y2 e e1 e2
      · rw [yu_n (by omega), yu_n (by omega), yu_n (by omega)]; exact y3 e e1 e2
      · by_cases hu : u = w
        · subst hu
          obtain hcc | hcc : Y 38 (18 + 5 * u) = 0 ∨ Y 38 (18 + 5 * u) = 1 := by omega
          · obtain ⟨z8, z9⟩ := z7 (by omega)
            rw [hcc]
            simp only [yu_e]
            simp (disch := omega) only [↓if_pos, ↓if_neg, ↓reduceIte]
            refine ⟨?_, ?_, ?_, ?_, ?_, ?_, ?_⟩ <;> first | omega | (intro _; exact ⟨trivial, trivial⟩) | (intro _; constructor <;> omega)
          · rw [hcc]
            simp only [yu_e]
            simp (disch := omega) only [↓if_pos, ↓if_neg, ↓reduceIte]
            refine ⟨?_, ?_, ?_, ?_, ?_, ?_, ?_⟩ <;> first | omega | (intro _; exact ⟨trivial, trivial⟩) | (intro _; constructor <;> omega)
        · rw [yu_n (by omega), yu_n (by omega), yu_n (by omega), yu_n (by omega), yu_n (by omega), yu_n (by omega), yu_n (by omega), yu_n (by omega), yu_n (by omega), yu_n (by omega), yu_n (by omega), yu_n (by omega), yu_n (by omega), yu_n (by omega), yu_n (by omega)]; exact y4 u u1 u2
    next =>
      refine ⟨⟨?_, ?_⟩, fun e e1 e2 => ?_, fun e e1 e2 => ?_, fun u u1 u2 => ?_⟩
      · rw [yu_n (by omega)]; exact y1.1
      · rw [yu_n (by omega)]; exact y1.2
      · rw [yu_e]; split; exact dy.2; exact y2 e e1 e2
      · rw [yu_n (by omega)]; exact y3 e e1 e2
      · rw [yu_n (by omega), yu_n (by omega), yu_n (by omega), yu_n (by omega), yu_n (by omega)]; exact y4 u u1 u2
  next => exact ⟨y1, y2, y3, y4⟩
theorem VQ_mv {Y : zY} {k w : Int} (hR : RG Y) (hP : PK Y k) (h : VQ Y k) (w1 : 0 ≤ w) (w2 : w ≤ 3) (hc : m_cm Y k w) : VQ (m_mv Y k w) k := by
  have hP' := hP
  obtain ⟨⟨k1, k2⟩, ⟨x1, x2⟩, ⟨x3, x4⟩, x5⟩ := hP'
  have r38 : ∀ e, 0 ≤ Y 38 e := fun e => (hR 38 e).1
  have h8 : Y 8 (Y 5 (Y 5 k)) ≤ 8 := (hR 8 _).2
  unfold m_mv
  unfold m_cm at hc
  by_cases c : w < 2
  · rw [if_pos c] at hc ⊢
    have hd := VQ_d1 hR hP h w1 (by omega) hc
    have o := fun (f : Nat) (e : Int) (hh : ¬ f = 38) => m_d1_f (Y := Y) (k := k) (w := w) (e := e) hh
    have hpa : m_pa Y k w = if w = 0 then Y 5 k else Y 6 k := rfl
    have hn : 0 ≤ m_dn Y k w ∧ m_dn Y k w ≤ Y 13 (m_pa Y k w) := by
      have hw : 0 < Y 13 (m_pa Y k w) := by rw [hpa]; split <;> assumption
      have hle : Y 38 w ≤ Y 13 (m_pa Y k w) := by
        rw [hpa]
        obtain ⟨⟨q1, q2⟩, -⟩ := h
        split
        next hh => subst hh; exact q1
        next hh => obtain rfl : w = 1 := by omega
                   exact q2
      have h0 := r38 w
      have h1 := hc.1
      unfold m_dn
      split
      · omega
      split
      · have := mod_b (v := Y 18 (m_dk Y k w)) hw; omega
      · omega
    obtain ⟨⟨q1, q2⟩, q3, q4, q5⟩ := hd
    unfold m_dd
    generalize m_d1 Y k w = D at q1 q2 q3 q4 q5 o
    generalize m_dn Y k w = N at hn
    have O := fun (f : Nat) (e : Int) (hh : ¬ f = 38) => show yu D 38 w N f e = D f e by rw [yu_f hh]
    refine ⟨⟨?_, ?_⟩, fun e e1 e2 => ?_, fun e e1 e2 => ?_, fun u u1 u2 => ?_⟩
    · rw [O 5 _ (by decide), O 13 _ (by decide), yu_e]
      split
      next hh =>
        rw [o 5 _ (by decide), o 13 _ (by decide)]
        rw [hpa, if_pos hh.symm] at hn
        exact hn.2
      next => exact q1
    · rw [O 6 _ (by decide), O 13 _ (by decide), yu_e]
      split
      next hh =>
        rw [o 6 _ (by decide), o 13 _ (by decide)]
        rw [hpa, if_neg (by omega)] at hn
        exact hn.2
      next => exact q2
    · rw [O 5 _ (by decide), O 5 _ (by decide), O 7 _ (by decide), yu_n (by omega)]; exact q3 e e1 e2
    · rw [O 5 _ (by decide), O 5 _ (by decide), O 8 _ (by decide)] at e1
      have e0 : D 8 (D 5 (D 5 k)) = Y 8 (Y 5 (Y 5 k)) := by rw [o 5 k (by decide), o 5 _ (by decide), o 8 _ (by decide)]
      rw [yu_n (by omega)]; exact q4 e e1 e2
    · rw [O 5 _ (by decide), O 5 _ (by decide), O 7 _ (by decide), O 8 _ (by decide), yu_n (by omega), yu_n (by omega), yu_n (by omega), yu_n (by omega), yu_n (by omega)]; exact q5 u u1 u2
  · rw [if_neg c] at hc ⊢
    obtain ⟨v, hv⟩ : ∃ v, w - 2 = v := ⟨_, rfl⟩
    rw [hv] at hc ⊢
    have v1 : 0 ≤ v := by omega
    have v2 : v ≤ 1 := by omega
    obtain ⟨q1, q2, q3, q4⟩ := h
    obtain ⟨z1, z2, z3, z4, z5, z6, z7⟩ := q4 v v1 v2
    have c0 := r38 (18 + 5 * v)
    have c1 := r38 (18 + 5 * v + 1)
    have c3 := r38 (18 + 5 * v + 3)
    have ef : ∀ (f : Nat) (e : Int), ¬ f = 38 → m_lg Y v f e = Y f e := by
      intro f e hh
      unfold m_lg
      split
      · rw [yu_f hh, yu_f hh, m_l1_f hh]
      · exact m_l1_f hh
    unfold VQ
    rw [ef 5 k (by decide), ef 6 k (by decide), ef 5 _ (by decide), ef 7 _ (by decide), ef 8 _ (by decide), ef 13 _ (by decide), ef 13 _ (by decide)]
    obtain ⟨p, hp⟩ : ∃ p, p2 (Y 7 (Y 5 (Y 5 k))) = p := ⟨_, rfl⟩
    obtain ⟨m, hm⟩ : ∃ m, Y 8 (Y 5 (Y 5 k)) = m := ⟨_, rfl⟩
    rw [hp] at q2 z4 z5
    rw [hm] at q3 z2 z3 h8 x3
    simp only [hp, hm] at q4 ⊢
    have pp : 0 < p := by rw [← hp]; exact p2_pos _
    have hcell : ∀ e, m_lg Y v 38 e = if e = 18 + 5 * v + 2 then (if Y 38 (18 + 5 * v) = 1 then 0 else Y 38 (18 + 5 * v + 4)) else if e = 18 + 5 * v + 1 then (if Y 38 (18 + 5 * v) = 1 then 0 else Y 38 (18 + 5 * v + 3)) else if e = 18 + 5 * v then Y 38 (18 + 5 * v) - 1 else if e = 18 + 5 * v + 4 then 0 else if e = 18 + 5 * v + 3 then 0 else if e = 10 + Y 38 (18 + 5 * v + 1) then Y 38 (18 + 5 * v + 2) else Y 38 e := by
      intro e
      unfold m_lg
      by_cases h1 : Y 38 (18 + 5 * v) = 1
      · rw [if_pos (by omega)]
        simp only [if_pos h1]
        unfold m_l1
        simp only [yu_e]
        by_cases e1 : e = 18 + 5 * v + 2
        · simp only [if_pos e1]
        · simp only [if_neg e1]
          by_cases e2 : e = 18 + 5 * v + 1
          · simp only [if_pos e2]
          · simp only [if_neg e2]
      · rw [if_neg (by omega)]
        simp only [if_neg h1]
        unfold m_l1
        simp only [yu_e]
        by_cases e1 : e = 18 + 5 * v + 2
        · simp (disch := omega) only [↓if_pos, ↓if_neg, ↓reduceIte]
        · by_cases e2 : e = 18 + 5 * v + 1
          · simp (disch := omega) only [↓if_pos, ↓if_neg, ↓reduceIte]
          · simp only [if_neg e1, if_neg e2]
    refine ⟨⟨?_, ?_⟩, fun e e1 e2 => ?_, fun e e1 e2 => ?_, fun u u1 u2 => ?_⟩
    · rw [hcell]; simp (disch := omega) only [↓if_neg]; exact q1.1
    · rw [hcell]; simp (disch := omega) only [↓if_neg]; exact q1.2
    · rw [hcell]
      simp (disch := omega) only [↓if_neg]
      split
      · exact z4
      · exact q2 e e1 e2
    · rw [hcell]; simp (disch := omega) only [↓if_neg]; exact q3 e e1 e2
    · by_cases hu : u = v
      · subst hu
        rw [hcell, hcell, hcell, hcell, hcell]
        simp (disch := omega) only [↓if_neg, ↓if_pos, ↓reduceIte]
        by_cases h1 : Y 38 (18 + 5 * u) = 1
        · simp only [if_pos h1]
          refine ⟨?_, ?_, ?_, ?_, ?_, ?_, ?_⟩ <;> first | omega | (intro _; exact ⟨trivial, trivial⟩) | (intro _; constructor <;> omega)
        · simp only [if_neg h1]
          refine ⟨?_, ?_, ?_, ?_, ?_, ?_, ?_⟩ <;> first | omega | (intro _; exact ⟨trivial, trivial⟩) | (intro _; constructor <;> omega)
      · rw [hcell, hcell, hcell, hcell, hcell]
        simp (disch := omega) only [↓if_neg]
        exact q4 u u1 u2
