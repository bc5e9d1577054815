/-! SIMS: what a part of the numbers does not see -/
def mix (P : Nat → Int → Bool) (Y V : zY) : zY := fun f e => if P f e = true then V f e else Y f e
/-- P touches neither the words nor column c -/
def Ms (P : Nat → Int → Bool) (c : Int) : Prop := ∀ f e, P f e = true → (19 ≤ f ∧ f ≤ 23) ∧ (f = 19 → e < 12 * c ∨ 12 * c + 12 ≤ e) ∧ ((f = 20 ∨ f = 21 ∨ f = 22) → ¬ e = c)
def LR (Y : zY) : Prop := ∀ e, (0 ≤ Y 15 e ∧ Y 15 e ≤ 3) ∧ (0 ≤ Y 16 e ∧ Y 16 e ≤ 3) ∧ (0 ≤ Y 17 e ∧ Y 17 e ≤ 3)
section
variable {P : Nat → Int → Bool} {Y V Z : zY} {f g : Nat} {e v c p s to d : Int}
theorem mix_n (h : P f e = false) : mix P Y V f e = Y f e := by
  unfold mix
  rw [h]; rfl
theorem mix_y (h : P f e = true) : mix P Y V f e = V f e := by
  unfold mix
  rw [h]; rfl
theorem mix_u (h : P f e = false) : yu (mix P Y V) f e v = mix P (yu Y f e v) V := by
  funext f' e'
  by_cases h1 : f' = f ∧ e' = e
  · obtain ⟨rfl, rfl⟩ := h1
    rw [yu_s, mix_n h, yu_s]
  · rw [yu_w h1]
    unfold mix
    rw [yu_w h1]
theorem mix_v (h : P f e = true) : yu (mix P Y V) f e v = mix P Y (yu V f e v) := by
  funext f' e'
  by_cases h1 : f' = f ∧ e' = e
  · obtain ⟨rfl, rfl⟩ := h1
    rw [yu_s, mix_y h, yu_s]
  · rw [yu_w h1]
    unfold mix
    rw [yu_w h1]
theorem mix_s : mix P Y Y = Y := by
  funext f e
  unfold mix
  split <;> rfl
theorem bf {b : Bool} (h : ¬ b = true) : b = false := by cases b; rfl; exact absurd rfl h
theorem Ms_f (h : Ms P c) (hf : ¬ (19 ≤ f ∧ f ≤ 23)) : P f e = false := bf (fun hh => hf (h f e hh).1)
theorem Ms_r (h : Ms P c) (hf : f = 20 ∨ f = 21 ∨ f = 22) : P f c = false := bf (fun hh => (h f c hh).2.2 hf rfl)
theorem Ms_19 (h : Ms P c) (d1 : 0 ≤ d) (d2 : d < 12) : P 19 (12 * c + d) = false := bf (fun hh => by have := (h 19 _ hh).2.1 rfl; omega)
theorem mf (h : Ms P c) (hf : ¬ (19 ≤ f ∧ f ≤ 23)) : mix P Y V f e = Y f e := mix_n (Ms_f h hf)
/-- P touches neither the words nor column c, whatever else -/
def Md (P : Nat → Int → Bool) (c : Int) : Prop := ∀ f e, P f e = true → 19 ≤ f ∧ (f = 19 → e < 12 * c ∨ 12 * c + 12 ≤ e) ∧ ((f = 20 ∨ f = 21 ∨ f = 22) → ¬ e = c)
theorem Md_of (h : Ms P c) : Md P c := fun f e hh => ⟨(h f e hh).1.1, (h f e hh).2⟩
theorem Md_r (h : Md P c) (hf : f = 20 ∨ f = 21 ∨ f = 22) : P f c = false := bf (fun hh => (h f c hh).2.2 hf rfl)
theorem Md_19 (h : Md P c) (d1 : 0 ≤ d) (d2 : d < 12) : P 19 (12 * c + d) = false := bf (fun hh => by have := (h 19 _ hh).2.1 rfl; omega)
theorem mg (h : Md P c) (hf : f < 19) : mix P Y V f e = Y f e := mix_n (bf (fun hh => by have := (h f e hh).1; omega))
theorem mix_dx (hP : Md P c) (hL : LR Y) (h8 : 1 ≤ Y 8 (Y 5 p) ∧ Y 8 (Y 5 p) ≤ 8) : m_dw (mix P Y V) c p = mix P (m_dw Y c p) V := by
  have ew : m_w (mix P Y V) c p = m_w Y c p := by
    unfold m_w
    rw [mix_n (Md_r hP (by omega))]
  obtain ⟨l1, l2, l3⟩ := hL (m_w Y c p)
  have ex : m_x (mix P Y V) c p = m_x Y c p := by
    unfold m_x
    rw [ew, mg (f := 16) hP (by omega), mix_n (Md_19 hP l2.1 (by omega))]
  have ey : m_y (mix P Y V) c p = m_y Y c p := by
    unfold m_y
    rw [ew, mg (f := 17) hP (by omega), mix_n (Md_19 hP l3.1 (by omega))]
  have hm := mod_b (v := m_x Y c p) (m := Y 8 (Y 5 p)) (by omega)
  have eat : m_at (mix P Y V) c p = m_at Y c p := by
    unfold m_at
    rw [ex, mg hP (by omega), mg hP (by omega)]
  have hat : P 19 (m_at Y c p) = false := by
    have := Md_19 (d := 4 + m_x Y c p % Y 8 (Y 5 p)) hP (by omega) (by omega)
    rw [← Int.add_assoc] at this
    exact this
  have eto : m_to (mix P Y V) c p = m_to Y c p := by
    unfold m_to
    rw [ew, ex, mg hP (by omega), mg hP (by omega), mg hP (by omega), mix_n (Md_r hP (by omega))]
  have h15 : P 19 (12 * c + Y 15 (m_w Y c p)) = false := Md_19 hP l1.1 (by omega)
  have enu : m_nu (mix P Y V) c p = mix P (m_nu Y c p) V := by
    unfold m_nu
    rw [ew, ex, ey, eat, mg hP (by omega), mg hP (by omega), mg hP (by omega), mg hP (by omega), mg hP (by omega), mix_n hat]
    split
    · exact mix_u h15
    · split
      · exact mix_u h15
      · split
        · exact mix_u h15
        · split
          · exact mix_u h15
          · split
            · exact mix_u h15
            · split
              · exact mix_u hat
              · rfl
  unfold m_dw
  rw [enu, ew, eto, mg hP (by omega), mix_n (Md_r hP (by omega)), mix_u (Md_r hP (by omega)), mix_u (Md_r hP (by omega)), mix_u (Md_r hP (by omega))]
theorem mix_dw (hP : Ms P c) (hL : LR Y) (h8 : 1 ≤ Y 8 (Y 5 p) ∧ Y 8 (Y 5 p) ≤ 8) : m_dw (mix P Y V) c p = mix P (m_dw Y c p) V := mix_dx (Md_of hP) hL h8
/-- P stays off what an entry sees -/
def Mt (P : Nat → Int → Bool) (s : Int) : Prop := ∀ f e, P f e = true → (f = 19 ∧ 12 * s ≤ e ∧ e < 12 * s + 12) ∨ ((f = 20 ∨ f = 21 ∨ f = 22) ∧ e = s) ∨ f = 23
theorem Mt_s (h : Mt P s) : Ms P (61 + s) := by
  intro f e hh
  have := h f e hh
  omega
theorem LR_of (h : ∀ (f : Nat) (e : Int), (f = 15 ∨ f = 16 ∨ f = 17) → Z f e = Y f e) (hL : LR Y) : LR Z := by
  intro e
  rw [h 15 e (by omega), h 16 e (by omega), h 17 e (by omega)]
  exact hL e
theorem mix_lo {b w : Int} (hP : Ms P (61 + s)) : m_lo (mix P Y V) s b w = mix P (m_lo Y s b w) V := by
  unfold m_lo
  rw [mf hP (by omega), mf hP (by omega), mf hP (by omega), mf hP (by omega), mf hP (by omega), mix_u (Ms_f hP (by omega)), mix_u (Ms_f hP (by omega))]
theorem mix_la0 (hP : Ms P (61 + s)) : m_la0 (mix P Y V) s = mix P (m_la0 Y s) V := by
  unfold m_la0
  rw [mix_n (Ms_r hP (by omega)), mf hP (by omega), mf hP (by omega)]
  split
  · exact mix_lo hP
  · rfl
theorem mix_ew (hP : Ms P (61 + s)) : m_ew (mix P Y V) s = m_ew Y s := by
  unfold m_ew m_w
  rw [mix_n (Ms_r hP (by omega)), mf hP (by omega)]
theorem mix_gs (hP : Ms P (61 + s)) (hL : LR Y) : m_gs (mix P Y V) s = m_gs Y s := by
  obtain ⟨l1, l2, l3⟩ := hL (m_ew Y s)
  unfold m_gs
  rw [mix_ew hP, mf (f := 14) hP (by omega), mf (f := 16) hP (by omega), mix_n (Ms_19 hP l2.1 (by omega))]
theorem mix_ra {r : Int} (hP : Ms P (61 + s)) : m_ra (mix P Y V) s r = m_ra Y s r := by
  unfold m_ra
  rw [mf hP (by omega), mf hP (by omega)]
theorem mix_rd {k : Int} (hP : Ms P (61 + s)) : m_rd (mix P Y V) k = m_rd Y k := by
  unfold m_rd
  rw [mf hP (by omega)]
theorem mix_f1 {k : Int} (hP : Ms P (61 + s)) : m_f1 (mix P Y V) s k = m_f1 Y s k := by
  unfold m_f1
  rw [mix_ew hP, mix_rd hP, mf hP (by omega), mix_ra hP]
theorem mix_f2 {k : Int} (hP : Ms P (61 + s)) : m_f2 (mix P Y V) s k = m_f2 Y s k := by
  unfold m_f2
  rw [mix_ew hP, mix_rd hP, mf hP (by omega), mix_ra hP]
theorem mix_e1 (hP : Ms P (61 + s)) : m_e1 (mix P Y V) s = mix P (m_e1 Y s) V := by
  have e0 : m_e0 (mix P Y V) s = mix P (m_e0 Y s) V := by
    unfold m_e0
    rw [mix_n (Ms_r hP (by omega)), mf hP (by omega), mix_u (Ms_f hP (by omega))]
  unfold m_e1
  rw [e0, mix_ew hP, mf hP (by omega), mf hP (by omega), mf hP (by omega), mf hP (by omega), mf hP (by omega), mf hP (by omega)]
  split
  · rw [mix_u (Ms_f hP (by omega)), mix_u (Ms_f hP (by omega))]
  · rfl
theorem mix_en (hP : Ms P (61 + s)) (hL : LR Y) (h8 : 1 ≤ Y 8 (Y 5 (Y 6 s)) ∧ Y 8 (Y 5 (Y 6 s)) ≤ 8) : m_en (mix P Y V) s = mix P (m_en Y s) V := by
  have e2 : m_e2 (mix P Y V) s = mix P (m_e2 Y s) V := by
    unfold m_e2
    rw [mix_e1 hP, mf hP (by omega), mix_dw hP (LR_of (fun f e hf => m_e1_f (by omega) (by omega) (by omega)) hL) (by rw [m_e1_f (f := 5) (by omega) (by omega) (by omega), m_e1_f (f := 8) (by omega) (by omega) (by omega)]; exact h8)]
  have ef : m_fr (mix P Y V) s = m_fr Y s := by
    unfold m_fr
    rw [mix_gs hP hL, mf hP (by omega), mf hP (by omega), mf hP (by omega)]
  unfold m_en
  rw [e2, ef, mix_n (Ms_r hP (by omega)), mix_f1 hP, mix_f2 hP]
  split
  · rw [mix_u (Ms_f hP (by omega))]
  · rfl
theorem la0_g (h : ¬ (f = 28 ∨ f = 29)) : m_la0 Y s f e = Y f e := by
  unfold m_la0
  split
  · unfold m_lo
    rw [yu_f (by omega), yu_f (by omega)]
  · rfl
theorem mix_ent (hP : Ms P (61 + s)) (hL : LR Y) (h8 : 1 ≤ Y 8 (Y 5 (Y 6 s)) ∧ Y 8 (Y 5 (Y 6 s)) ≤ 8) : m_ent (mix P Y V) s = mix P (m_ent Y s) V := by
  have hL' : LR (m_la0 Y s) := LR_of (fun f e hf => la0_g (by omega)) hL
  unfold m_ent
  rw [mix_la0 hP, mix_gs hP hL', mix_en hP hL' (by rw [la0_g (f := 6) (by omega), la0_g (f := 5) (by omega), la0_g (f := 8) (by omega)]; exact h8), mix_u (Ms_f hP (by omega))]
/-! the column of what has left -/
def Pc (s : Int) : Nat → Int → Bool := fun f e => decide ((f = 19 ∧ 12 * s ≤ e ∧ e < 12 * s + 12) ∨ ((f = 20 ∨ f = 21 ∨ f = 22) ∧ e = s))
def P23 (s : Int) : Nat → Int → Bool := fun f e => decide (f = 23 ∧ e = s)
theorem Pc_m (s1 : 0 ≤ s) : Ms (Pc s) (61 + s) := by
  intro f e hh
  have := of_decide_eq_true hh
  omega
theorem P23_m : Ms (P23 s) c := by
  intro f e hh
  have := of_decide_eq_true hh
  omega
theorem P23_u : yu Y 23 s v = mix (P23 s) Y (fun _ _ => v) := by
  funext f e
  by_cases h : f = 23 ∧ e = s
  · rw [mix_y (decide_eq_true h), h.1, h.2, yu_s]
  · rw [mix_n (decide_eq_false h), yu_w h]
/-- a word done in column s changes column s alone -/
theorem dw_mix (hL : LR Y) (h8 : 1 ≤ Y 8 (Y 5 p) ∧ Y 8 (Y 5 p) ≤ 8) (he : ∀ (f : Nat) (e : Int), 14 ≤ f → f ≤ 18 → Z f e = Y f e) (h5 : Z 5 p = Y 5 p) (h7 : Z 7 (Y 5 p) = Y 7 (Y 5 p)) (h8' : Z 8 (Y 5 p) = Y 8 (Y 5 p)) (h13 : Z 13 p = Y 13 p) : m_dw (mix (Pc s) Z Y) s p = mix (Pc s) Z (m_dw Y s p) := by
  have c1 : ∀ f : Nat, f = 20 ∨ f = 21 ∨ f = 22 → Pc s f s = true := fun f hf => decide_eq_true (by omega)
  have c2 : ∀ d, 0 ≤ d → d < 12 → Pc s 19 (12 * s + d) = true := fun d d1 d2 => decide_eq_true (by omega)
  have c3 : ∀ (f : Nat) (e : Int), ¬ (19 ≤ f ∧ f ≤ 22) → Pc s f e = false := fun f e hf => decide_eq_false (by omega)
  have ew : m_w (mix (Pc s) Z Y) s p = m_w Y s p := by
    unfold m_w
    rw [mix_y (c1 20 (by omega))]
  obtain ⟨l1, l2, l3⟩ := hL (m_w Y s p)
  have m14 : ∀ (f : Nat) (e : Int), 14 ≤ f → f ≤ 18 → mix (Pc s) Z Y f e = Y f e := fun f e f1 f2 => by rw [mix_n (c3 f e (by omega)), he f e f1 f2]
  have m5 : mix (Pc s) Z Y 5 p = Y 5 p := by rw [mix_n (c3 5 _ (by omega)), h5]
  have m7 : mix (Pc s) Z Y 7 (Y 5 p) = Y 7 (Y 5 p) := by rw [mix_n (c3 7 _ (by omega)), h7]
  have m8 : mix (Pc s) Z Y 8 (Y 5 p) = Y 8 (Y 5 p) := by rw [mix_n (c3 8 _ (by omega)), h8']
  have m13 : mix (Pc s) Z Y 13 p = Y 13 p := by rw [mix_n (c3 13 _ (by omega)), h13]
  have ex : m_x (mix (Pc s) Z Y) s p = m_x Y s p := by
    unfold m_x
    rw [ew, m14 16 _ (by omega) (by omega), mix_y (c2 _ l2.1 (by omega))]
  have ey : m_y (mix (Pc s) Z Y) s p = m_y Y s p := by
    unfold m_y
    rw [ew, m14 17 _ (by omega) (by omega), mix_y (c2 _ l3.1 (by omega))]
  have hm := mod_b (v := m_x Y s p) (m := Y 8 (Y 5 p)) (by omega)
  have eat : m_at (mix (Pc s) Z Y) s p = m_at Y s p := by
    unfold m_at
    rw [ex, m5, m8]
  have hat : Pc s 19 (m_at Y s p) = true := by
    have := c2 (4 + m_x Y s p % Y 8 (Y 5 p)) (by omega) (by omega)
    rw [← Int.add_assoc] at this
    exact this
  have h15 : Pc s 19 (12 * s + Y 15 (m_w Y s p)) = true := c2 _ l1.1 (by omega)
  have eto : m_to (mix (Pc s) Z Y) s p = m_to Y s p := by
    unfold m_to
    rw [ew, ex, m14 14 _ (by omega) (by omega), m14 18 _ (by omega) (by omega), m13, mix_y (c1 20 (by omega))]
  have enu : m_nu (mix (Pc s) Z Y) s p = mix (Pc s) Z (m_nu Y s p) := by
    unfold m_nu
    rw [ew, ex, ey, eat, m14 14 _ (by omega) (by omega), m14 15 _ (by omega) (by omega), m14 18 _ (by omega) (by omega), m5, m7, mix_y hat]
    split
    · exact mix_v h15
    · split
      · exact mix_v h15
      · split
        · exact mix_v h15
        · split
          · exact mix_v h15
          · split
            · exact mix_v h15
            · split
              · exact mix_v hat
              · rfl
  unfold m_dw
  rw [enu, ew, eto, m14 14 _ (by omega) (by omega), mix_y (c1 21 (by omega)), mix_v (c1 22 (by omega)), mix_v (c1 20 (by omega)), mix_v (c1 21 (by omega))]
theorem ent_f (h : ¬ ((19 ≤ f ∧ f ≤ 22) ∨ (24 ≤ f ∧ f ≤ 29) ∨ f = 41)) : m_ent Y s f e = Y f e := by
  unfold m_ent
  rw [yu_f (by omega)]
  unfold m_en
  split
  · rw [yu_f (by omega), m_e2_f (by omega) (by omega) (by omega) (by omega) (by omega) (by omega) (by omega), la0_g (by omega)]
  · rw [m_e2_f (by omega) (by omega) (by omega) (by omega) (by omega) (by omega) (by omega), la0_g (by omega)]
/-- a word that leaves and a word that enters do not see each other -/
theorem ent_dw (s1 : 0 ≤ s) (hL : LR Y) (h8 : 1 ≤ Y 8 (Y 5 (Y 6 s)) ∧ Y 8 (Y 5 (Y 6 s)) ≤ 8) : m_ent (m_dw Y s (Y 6 s)) s = m_dw (m_ent Y s) s (Y 6 s) := by
  have e1 : m_dw Y s (Y 6 s) = mix (Pc s) Y (m_dw Y s (Y 6 s)) := by
    have := dw_mix (Z := Y) (s := s) hL h8 (fun _ _ _ _ => rfl) rfl rfl rfl rfl
    rw [mix_s] at this
    exact this
  have e2 : m_ent Y s = mix (Pc s) (m_ent Y s) Y := by
    have := mix_ent (V := Y) (Pc_m s1) hL h8
    rw [mix_s] at this
    exact this
  have e3 := mix_ent (V := m_dw Y s (Y 6 s)) (Pc_m s1) hL h8
  rw [← e1] at e3
  have e4 := dw_mix (Z := m_ent Y s) (s := s) hL h8 (fun f e f1 f2 => ent_f (by omega)) (ent_f (by omega)) (ent_f (by omega)) (ent_f (by omega)) (ent_f (by omega))
  rw [← e2] at e4
  rw [e3, e4]
theorem ent_col (s1 : 0 ≤ s) (hL : LR Y) (h8 : 1 ≤ Y 8 (Y 5 (Y 6 s)) ∧ Y 8 (Y 5 (Y 6 s)) ≤ 8) (h : (f = 19 ∧ 12 * s ≤ e ∧ e < 12 * s + 12) ∨ ((f = 20 ∨ f = 21 ∨ f = 22) ∧ e = s)) : m_ent Y s f e = Y f e := by
  have e2 : m_ent Y s = mix (Pc s) (m_ent Y s) Y := by
    have := mix_ent (V := Y) (Pc_m s1) hL h8
    rw [mix_s] at this
    exact this
  rw [e2, mix_y (decide_eq_true h)]
end
