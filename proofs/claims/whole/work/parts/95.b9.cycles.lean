/-! THE MODEL: cycles -/
abbrev m_gu (Y : zY) (s to : Int) : Prop := Y 21 s < Y 21 (61 + s) ∧ Y 25 (16 * s + Y 21 s % 16) + Y 9 (Y 5 s) ≤ to
def m_laf (Y : zY) (s to : Int) : Nat → zY
  | 0 => Y
  | n + 1 => if m_gu Y s to then m_laf (m_dw Y s (Y 6 s)) s to n else Y
def m_la (Y : zY) (s to : Int) : zY := m_laf Y s to (Y 21 (61 + s) - Y 21 s).toNat
theorem m_la_u {Y : zY} {s to : Int} : m_la Y s to = if m_gu Y s to then m_la (m_dw Y s (Y 6 s)) s to else Y := by
  by_cases hg : m_gu Y s to
  · rw [if_pos hg]
    have e1 : m_dw Y s (Y 6 s) 21 s = Y 21 s + 1 := by rw [m_dw_21, if_pos rfl]
    have e2 : m_dw Y s (Y 6 s) 21 (61 + s) = Y 21 (61 + s) := by rw [m_dw_21, if_neg (by omega)]
    have h3 : (Y 21 (61 + s) - Y 21 s).toNat = (Y 21 (61 + s) - (Y 21 s + 1)).toNat + 1 := by have := hg.1; omega
    unfold m_la
    rw [e1, e2, h3]
    show (if m_gu Y s to then _ else _) = _
    rw [if_pos hg]
  · rw [if_neg hg]
    unfold m_la
    cases (Y 21 (61 + s) - Y 21 s).toNat with
    | zero => rfl
    | succ n => show (if m_gu Y s to then _ else _) = _; rw [if_neg hg]
def m_la0 (Y : zY) (s : Int) : zY := if 0 < Y 21 (61 + s) then m_lo Y s (Y 25 (16 * s + (Y 21 (61 + s) - 1) % 16)) (Y 41 s) else Y
def m_ent (Y : zY) (s : Int) : zY := yu (m_en (m_la0 Y s) s) 41 s (m_gs (m_la0 Y s) s)
def m_min (a b : Int) : Int := if a < b then a else b
def m_eaf (s to : Int) : Nat → zY → zY
  | 0, Y => m_la Y s to
  | n + 1, Y => if Y 22 (61 + s) = 0 ∧ Y 24 s ≤ to then m_eaf s to n (m_la (m_ent Y s) s (m_min (m_ent Y s 24 s) to)) else m_la Y s to
/-- what holds of a sim's numbers at all times -/
def SV (Y : zY) (s : Int) : Prop := RG Y ∧ (1 ≤ s ∧ s ≤ 60) ∧ 0 < Y 13 (Y 6 s) ∧ 0 < Y 8 (Y 5 (Y 6 s)) ∧ (Y 22 (61 + s) = 0 → 0 < Y 21 (61 + s) → Y 25 (16 * s + (Y 21 (61 + s) - 1) % 16) < Y 24 s) ∧ (Y 28 s + Y 29 s ≤ if Y 21 (61 + s) = 0 then 0 else Y 25 (16 * s + (Y 21 (61 + s) - 1) % 16)) ∧ (∀ j, 0 ≤ j → j ≤ 3 → Y 26 (4 * s + j) < Y 24 s) ∧ 1 ≤ Y 24 s ∧ Y 21 (61 + s) ≤ Y 24 s + Y 22 (61 + s) ∧ (¬ Y 22 s = 0 → 1 ≤ Y 21 s)
theorem SV_dw {Y : zY} {s p : Int} (h : SV Y s) (hp : 0 < Y 13 p) (hs : Y 21 s < 100000000) : SV (m_dw Y s p) s := by
  obtain ⟨hR, ⟨s1, s2⟩, h3, h4, h5, h6, h7, h8, h9, h10⟩ := h
  have ef : ∀ (f : Nat) (e : Int), ¬ f = 19 → ¬ f = 20 → ¬ f = 21 → ¬ f = 22 → m_dw Y s p f e = Y f e := fun f e a b c d => m_dw_f a b c d
  have e21 : m_dw Y s p 21 (61 + s) = Y 21 (61 + s) := by rw [m_dw_21, if_neg (by omega)]
  have e22 : m_dw Y s p 22 (61 + s) = Y 22 (61 + s) := by rw [m_dw_22, if_neg (by omega)]
  refine ⟨RG_dw hR hp hs, ⟨s1, s2⟩, ?_, ?_, ?_, ?_, ?_, ?_, ?_, fun _ => by rw [m_dw_21, if_pos rfl]; have := (hR 21 s).1; have h0 : 0 ≤ Y 21 s := this; omega⟩
  · rw [ef 6 _ (by decide) (by decide) (by decide) (by decide), ef 13 _ (by decide) (by decide) (by decide) (by decide)]; exact h3
  · rw [ef 6 _ (by decide) (by decide) (by decide) (by decide), ef 5 _ (by decide) (by decide) (by decide) (by decide), ef 8 _ (by decide) (by decide) (by decide) (by decide)]; exact h4
  · rw [e21, e22, ef 25 _ (by decide) (by decide) (by decide) (by decide), ef 24 _ (by decide) (by decide) (by decide) (by decide)]; exact h5
  · rw [e21, ef 25 _ (by decide) (by decide) (by decide) (by decide), ef 28 _ (by decide) (by decide) (by decide) (by decide), ef 29 _ (by decide) (by decide) (by decide) (by decide)]; exact h6
  · intro j a b
    rw [ef 26 _ (by decide) (by decide) (by decide) (by decide), ef 24 _ (by decide) (by decide) (by decide) (by decide)]; exact h7 j a b
  · rw [ef 24 _ (by decide) (by decide) (by decide) (by decide)]; exact h8
  · rw [e21, e22, ef 24 _ (by decide) (by decide) (by decide) (by decide)]; exact h9
theorem SV_laf {s to : Int} : ∀ (n : Nat) (Y : zY), SV Y s → SV (m_laf Y s to n) s := by
  intro n
  induction n with
  | zero => intro Y h; exact h
  | succ n ih =>
    intro Y h
    unfold m_laf
    split
    next hg => exact ih _ (SV_dw h h.2.2.1 (by have := (h.1 21 (61 + s)).2; have h2 : Y 21 (61 + s) ≤ 100000000 := this; omega))
    next => exact h
theorem SV_la {Y : zY} {s to : Int} (h : SV Y s) : SV (m_la Y s to) s := SV_laf _ _ h
theorem laf_f {s to : Int} {f : Nat} {e : Int} (h : ¬ f = 19) (h0 : ¬ f = 20) (h1 : ¬ f = 21) (h2 : ¬ f = 22) : ∀ (n : Nat) (Y : zY), m_laf Y s to n f e = Y f e := by
  intro n
  induction n with
  | zero => intro Y; rfl
  | succ n ih =>
    intro Y
    unfold m_laf
    split
    · rw [ih, m_dw_f h h0 h1 h2]
    · rfl
theorem laf_e {s to : Int} {f : Nat} (h : f = 20 ∨ f = 21 ∨ f = 22) : ∀ (n : Nat) (Y : zY), m_laf Y s to n f (61 + s) = Y f (61 + s) := by
  intro n
  induction n with
  | zero => intro Y; rfl
  | succ n ih =>
    intro Y
    unfold m_laf
    split
    · rw [ih]
      rcases h with rfl | rfl | rfl
      · rw [m_dw_20, if_neg (by omega)]
      · rw [m_dw_21, if_neg (by omega)]
      · rw [m_dw_22, if_neg (by omega)]
    · rfl
/-- the losses are counted -/
theorem la0_f {Y : zY} {s e : Int} {f : Nat} (h : ¬ f = 28) (h1 : ¬ f = 29) : m_la0 Y s f e = Y f e := by
  unfold m_la0
  split
  · unfold m_lo; rw [yu_f h1, yu_f h]
  · rfl
theorem la0_28 {Y : zY} {s : Int} (hv : SV Y s) (he : Y 22 (61 + s) = 0) (hw : Y 24 s ≤ 90000000) : RG (m_la0 Y s) ∧ m_la0 Y s 28 s + m_la0 Y s 29 s ≤ Y 24 s - 1 := by
  obtain ⟨hR, ⟨s1, s2⟩, h3, h4, h5, h6, h7, h8, h9, h10⟩ := hv
  have h28 : 0 ≤ Y 28 s ∧ Y 28 s ≤ 100000000 := hR 28 s
  have h29 : 0 ≤ Y 29 s ∧ Y 29 s ≤ 100000000 := hR 29 s
  have h21 : 0 ≤ Y 21 (61 + s) ∧ Y 21 (61 + s) ≤ 100000000 := hR 21 _
  unfold m_la0
  by_cases hp : 0 < Y 21 (61 + s)
  · rw [if_pos hp]
    have h5' := h5 he hp
    rw [if_neg (by omega)] at h6
    have h25 : 0 ≤ Y 25 (16 * s + (Y 21 (61 + s) - 1) % 16) ∧ Y 25 (16 * s + (Y 21 (61 + s) - 1) % 16) ≤ 100000000 := hR 25 _
    generalize Y 25 (16 * s + (Y 21 (61 + s) - 1) % 16) = b at h5' h6 h25
    obtain ⟨x, hx, x1⟩ : ∃ x, (if Y 41 s = 0 then 0 else Y 12 (Y 5 s)) = x ∧ 0 ≤ x := ⟨_, rfl, by split; omega; exact (hR 12 _).1⟩
    unfold m_lo
    rw [hx]
    obtain ⟨l, hl, l1, l2⟩ : ∃ l, (if Y 24 s - b - 1 < x then Y 24 s - b - 1 else x) = l ∧ 0 ≤ l ∧ l ≤ Y 24 s - b - 1 := ⟨_, rfl, by split <;> omega, by split <;> omega⟩
    rw [hl]
    refine ⟨RG_u (RG_u hR (by show 0 ≤ _; omega) (by show _ ≤ 100000000; omega)) (by show 0 ≤ _; omega) (by show _ ≤ 100000000; omega), ?_⟩
    rw [yu_s, yu_f (by decide), yu_s]
    omega
  · rw [if_neg hp]
    rw [if_pos (by omega)] at h6
    exact ⟨hR, by omega⟩
theorem m_ra_le {Y : zY} {s r : Int} (hR : RG Y) {w : Int} (h : Y 26 (4 * s + r) ≤ w) (hw : 0 ≤ w) : m_ra Y s r ≤ w + 9 := by
  have h27 : 0 ≤ Y 27 (4 * s + r) ∧ Y 27 (4 * s + r) ≤ 8 := hR 27 _
  unfold m_ra
  split <;> omega
theorem m_e1_26 {Y : zY} {s : Int} (h7 : ∀ j, 0 ≤ j → j ≤ 3 → Y 26 (4 * s + j) < Y 24 s) : ∀ j, 0 ≤ j → j ≤ 3 → m_e1 Y s 26 (4 * s + j) ≤ Y 24 s ∧ (m_e1 Y s 26 (4 * s + j) < Y 24 s ∨ Y 14 (m_ew Y s) ≤ 4) := by
  intro j a b
  have h1 := h7 j a b
  unfold m_e1
  split
  next hc =>
    rw [yu_f (by decide), yu_e]
    split
    · omega
    · rw [m_e0_f (by decide)]; omega
  next hc => rw [m_e0_f (by decide)]; omega
/-- a word enters -/
theorem SV_ent {Y : zY} {s : Int} (hv : SV Y s) (he : Y 22 (61 + s) = 0) (hw : Y 24 s ≤ 90000000) : SV (m_ent Y s) s ∧ m_ent Y s 21 (61 + s) = Y 21 (61 + s) + 1 ∧ m_ent Y s 25 (16 * s + Y 21 (61 + s) % 16) = Y 24 s ∧ (m_ent Y s 22 (61 + s) = 0 → Y 24 s + 1 ≤ m_ent Y s 24 s) ∧ Y 24 s ≤ m_ent Y s 24 s ∧ m_ent Y s 24 s ≤ Y 24 s + 9 := by
  obtain ⟨hRA, hls⟩ := la0_28 hv he hw
  obtain ⟨hR, ⟨s1, s2⟩, h3, h4, h5, h6, h7, h8, h9, h10⟩ := hv
  have hA : ∀ (f : Nat) (e : Int), ¬ f = 28 → ¬ f = 29 → m_la0 Y s f e = Y f e := fun f e a b => la0_f a b
  have h21 : 0 ≤ Y 21 (61 + s) ∧ Y 21 (61 + s) ≤ 100000000 := hR 21 _
  have f1 : (m_la0 Y s) 21 (61 + s) < 100000000 := by rw [hA 21 _ (by decide) (by decide)]; omega
  have f2 : 0 < (m_la0 Y s) 13 ((m_la0 Y s) 6 s) := by rw [hA 6 _ (by decide) (by decide), hA 13 _ (by decide) (by decide)]; exact h3
  have f7 : ∀ j, 0 ≤ j → j ≤ 3 → (m_la0 Y s) 26 (4 * s + j) < (m_la0 Y s) 24 s := by intro j a b; rw [hA 26 _ (by decide) (by decide), hA 24 _ (by decide) (by decide)]; exact h7 j a b
  have g24 : (m_la0 Y s) 24 s = Y 24 s := hA 24 _ (by decide) (by decide)
  have g21 : (m_la0 Y s) 21 (61 + s) = Y 21 (61 + s) := hA 21 _ (by decide) (by decide)
  have g22 : (m_la0 Y s) 22 (61 + s) = Y 22 (61 + s) := hA 22 _ (by decide) (by decide)
  have g21s : (m_la0 Y s) 21 s = Y 21 s := hA 21 _ (by decide) (by decide)
  have g22s : (m_la0 Y s) 22 s = Y 22 s := hA 22 _ (by decide) (by decide)
  have g13 : ∀ e, (m_la0 Y s) 13 e = Y 13 e := fun e => hA 13 e (by decide) (by decide)
  have g8 : ∀ e, (m_la0 Y s) 8 e = Y 8 e := fun e => hA 8 e (by decide) (by decide)
  have g5 : ∀ e, (m_la0 Y s) 5 e = Y 5 e := fun e => hA 5 e (by decide) (by decide)
  have g6 : ∀ e, (m_la0 Y s) 6 e = Y 6 e := fun e => hA 6 e (by decide) (by decide)
  unfold m_ent
  generalize m_la0 Y s = A at g21s g22s hRA hls f1 f2 f7 g24 g21 g22 g13 g8 g5 g6
  have e13 : ∀ e, m_e1 A s 13 e = A 13 e := fun e => m_e1_f (by decide) (by decide) (by decide)
  have hR2 : RG (m_e2 A s) := RG_dw (RG_e1 hRA) (by rw [e13]; exact f2) (by rw [m_e1_f (by decide) (by decide) (by decide)]; exact f1)
  have z21 : m_e2 A s 21 (61 + s) = A 21 (61 + s) + 1 := by unfold m_e2; rw [m_dw_21, if_pos rfl, m_e1_f (by decide) (by decide) (by decide)]
  have z22 : m_e2 A s 22 (61 + s) = bI (A 14 (m_ew A s) = 7) := by
    unfold m_e2
    rw [m_dw_22, if_pos rfl, m_e1_f (by decide) (by decide) (by decide)]
    unfold m_ew m_w
    rw [m_e1_f (by decide) (by decide) (by decide)]
  have z24 : m_e2 A s 24 s = A 24 s := m_e2_f (by decide) (by decide) (by decide) (by decide) (by decide) (by decide) (by decide)
  have z25 : m_e2 A s 25 (16 * s + A 21 (61 + s) % 16) = A 24 s := by
    unfold m_e2
    rw [m_dw_f (by decide) (by decide) (by decide) (by decide)]
    unfold m_e1
    split
    · rw [yu_f (by decide), yu_f (by decide)]; unfold m_e0; rw [yu_s]
    · unfold m_e0; rw [yu_s]
  have z26 : ∀ j, 0 ≤ j → j ≤ 3 → m_e2 A s 26 (4 * s + j) ≤ A 24 s ∧ (m_e2 A s 26 (4 * s + j) < A 24 s ∨ A 14 (m_ew A s) ≤ 4) := by
    intro j a b
    unfold m_e2
    rw [m_dw_f (by decide) (by decide) (by decide) (by decide)]
    exact m_e1_26 f7 j a b
  have z28 : m_e2 A s 28 s = A 28 s := m_e2_f (by decide) (by decide) (by decide) (by decide) (by decide) (by decide) (by decide)
  have z29 : m_e2 A s 29 s = A 29 s := m_e2_f (by decide) (by decide) (by decide) (by decide) (by decide) (by decide) (by decide)
  have z21s : m_e2 A s 21 s = A 21 s := by unfold m_e2; rw [m_dw_21, if_neg (by omega), m_e1_f (by decide) (by decide) (by decide)]
  have z22s : m_e2 A s 22 s = A 22 s := by unfold m_e2; rw [m_dw_22, if_neg (by omega), m_e1_f (by decide) (by decide) (by decide)]
  have z13 : ∀ e, m_e2 A s 13 e = A 13 e := fun e => m_e2_f (by decide) (by decide) (by decide) (by decide) (by decide) (by decide) (by decide)
  have z5 : ∀ e, m_e2 A s 5 e = A 5 e := fun e => m_e2_f (by decide) (by decide) (by decide) (by decide) (by decide) (by decide) (by decide)
  have z6 : ∀ e, m_e2 A s 6 e = A 6 e := fun e => m_e2_f (by decide) (by decide) (by decide) (by decide) (by decide) (by decide) (by decide)
  have z8 : ∀ e, m_e2 A s 8 e = A 8 e := fun e => m_e2_f (by decide) (by decide) (by decide) (by decide) (by decide) (by decide) (by decide)
  have hgs := bI_r (c := A 14 (m_ew A s) = 6 ∧ ¬ A 19 (12 * (61 + s) + A 16 (m_ew A s)) = 0)
  have hgs' : 0 ≤ m_gs A s ∧ m_gs A s ≤ 1 := hgs
  have hfr : A 24 s + 1 ≤ m_fr A s ∧ m_fr A s ≤ A 24 s + 9 := by
    unfold m_fr
    have h12 : 0 ≤ A 12 (A 5 s) ∧ A 12 (A 5 s) ≤ 8 := hRA 12 _
    split <;> omega
  have hw0 : 0 ≤ A 24 s := by rw [g24]; omega
  unfold m_en
  generalize m_e2 A s = Z at z21s z22s hR2 z21 z22 z24 z25 z26 z28 z29 z13 z5 z6 z8
  have b16 : 0 ≤ Z 16 (m_ew Z s) ∧ Z 16 (m_ew Z s) ≤ 3 := hR2 16 _
  have b17 : 0 ≤ Z 17 (m_ew Z s) ∧ Z 17 (m_ew Z s) ≤ 3 := hR2 17 _
  have q1 := m_ra_le (s := s) hR2 (z26 _ b16.1 b16.2).1 hw0
  have q2 := m_ra_le (s := s) hR2 (z26 _ b17.1 b17.2).1 hw0
  have hf1 : A 24 s + 1 ≤ m_f1 Z s (m_fr A s) ∧ m_f1 Z s (m_fr A s) ≤ A 24 s + 9 := by unfold m_f1; split <;> omega
  have hf2 : A 24 s + 1 ≤ m_f2 Z s (m_f1 Z s (m_fr A s)) ∧ m_f2 Z s (m_f1 Z s (m_fr A s)) ≤ A 24 s + 9 := by unfold m_f2; split <;> omega
  generalize m_f2 Z s (m_f1 Z s (m_fr A s)) = F at hf2
  generalize m_gs A s = G at hgs'
  have e16 : (A 21 (61 + s) + 1 - 1) = A 21 (61 + s) := by omega
  by_cases c : Z 22 (61 + s) = 0
  · rw [if_pos c]
    have y := fun (f : Nat) (e : Int) (a : ¬ f = 24) (b : ¬ f = 41) => show yu (yu Z 24 s F) 41 s G f e = Z f e by rw [yu_f b, yu_f a]
    have y24 : yu (yu Z 24 s F) 41 s G 24 s = F := by rw [yu_f (by decide), yu_s]
    have hlast : ¬ yu (yu Z 24 s F) 41 s G 22 s = 0 → 1 ≤ yu (yu Z 24 s F) 41 s G 21 s := by rw [y 21 _ (by decide) (by decide), y 22 _ (by decide) (by decide), z21s, z22s, g21s, g22s]; exact h10
    refine ⟨⟨RG_u (RG_u hR2 (by show 0 ≤ _; omega) (by show _ ≤ 100000000; omega)) hgs'.1 hgs'.2, ⟨s1, s2⟩, ?_, ?_, ?_, ?_, ?_, ?_, ?_, hlast⟩, ?_, ?_, ?_, ?_, ?_⟩
    · rw [y 6 _ (by decide) (by decide), y 13 _ (by decide) (by decide), z6, z13, g6, g13]; exact h3
    · rw [y 6 _ (by decide) (by decide), y 5 _ (by decide) (by decide), y 8 _ (by decide) (by decide), z6, z5, z8, g6, g5, g8]; exact h4
    · intro _ _
      rw [y24, y 21 _ (by decide) (by decide), y 25 _ (by decide) (by decide), z21, e16, z25]; omega
    · rw [y 28 _ (by decide) (by decide), y 29 _ (by decide) (by decide), y 21 _ (by decide) (by decide), y 25 _ (by decide) (by decide), z21, e16, z25, z28, z29, if_neg (by omega)]; omega
    · intro j a b
      rw [y24, y 26 _ (by decide) (by decide)]
      have := (z26 j a b).1
      omega
    · rw [y24]; omega
    · rw [y24, y 21 _ (by decide) (by decide), y 22 _ (by decide) (by decide), z21, c]; omega
    · rw [y 21 _ (by decide) (by decide), z21, g21]
    · rw [y 25 _ (by decide) (by decide), ← g21, z25, g24]
    · intro _; rw [y24]; omega
    · rw [y24]; omega
    · rw [y24]; omega
  · rw [if_neg c]
    have c7 : A 14 (m_ew A s) = 7 := by
      false_or_by_contra
      rename_i hn
      rw [z22, bI_f hn] at c
      exact c rfl
    have z221 : Z 22 (61 + s) = 1 := by rw [z22, bI_t c7]
    have y := fun (f : Nat) (e : Int) (b : ¬ f = 41) => show yu Z 41 s G f e = Z f e by rw [yu_f b]
    have hlast : ¬ yu Z 41 s G 22 s = 0 → 1 ≤ yu Z 41 s G 21 s := by rw [y 21 _ (by decide), y 22 _ (by decide), z21s, z22s, g21s, g22s]; exact h10
    refine ⟨⟨RG_u hR2 hgs'.1 hgs'.2, ⟨s1, s2⟩, ?_, ?_, ?_, ?_, ?_, ?_, ?_, hlast⟩, ?_, ?_, ?_, ?_, ?_⟩
    · rw [y 6 _ (by decide), y 13 _ (by decide), z6, z13, g6, g13]; exact h3
    · rw [y 6 _ (by decide), y 5 _ (by decide), y 8 _ (by decide), z6, z5, z8, g6, g5, g8]; exact h4
    · intro h0 _
      rw [y 22 _ (by decide)] at h0
      exact absurd h0 c
    · rw [y 28 _ (by decide), y 29 _ (by decide), y 21 _ (by decide), y 25 _ (by decide), z21, e16, z25, z28, z29, if_neg (by omega)]; omega
    · intro j a b
      rw [y 24 _ (by decide), y 26 _ (by decide), z24]
      have := (z26 j a b).2
      omega
    · rw [y 24 _ (by decide), z24]; omega
    · rw [y 24 _ (by decide), y 21 _ (by decide), y 22 _ (by decide), z21, z24, z221]; omega
    · rw [y 21 _ (by decide), z21, g21]
    · rw [y 25 _ (by decide), ← g21, z25, g24]
    · intro h0
      rw [y 22 _ (by decide)] at h0
      exact absurd h0 c
    · rw [y 24 _ (by decide), z24]; omega
    · rw [y 24 _ (by decide), z24]; omega
