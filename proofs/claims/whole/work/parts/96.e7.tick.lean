/-! THE CLASS: a cycle, against the model's numbers -/
def KM (T : Nat → Nat) (Ln : Nat → Int) (M : Nat → Int → Value) (A : Int → Nat) (Y : zY) (k cyc : Int) : Prop := (T (A k) = 6 ∧ T (A k + 1) = 100 ∧ T (A k + 2) = 100 ∧ Ln (A k + 1) = 4 ∧ Ln (A k + 2) = 16) ∧ (M (A k) 0 = zi 5 ∧ M (A k) 1 = .ref (A (Y 5 k)) ∧ M (A k) 2 = .ref (A k + 3) ∧ M (A k) 3 = .ref (A k + 6)) ∧ (M (A k) 4 = zi cyc ∧ M (A k) 5 = zi (s_le Y k) ∧ M (A k) 6 = zi (s_ba Y k) ∧ M (A k) 7 = zi (Y 28 k) ∧ M (A k) 8 = zi (Y 29 k)) ∧ (M (A k) 9 = .ref (A k + 1) ∧ M (A k) 10 = .ref (A k + 2)) ∧ (∀ j, 0 ≤ j → j < 4 → M (A k + 1) j = zi (m_ra Y k j)) ∧ (∀ j, 0 ≤ j → j < 16 → ∃ v, M (A k + 2) j = zi v ∧ -2147483648 ≤ v ∧ v < 2147483648) ∧ (∀ i, Y 21 k ≤ i → i < Y 21 (61 + k) → M (A k + 2) (i % 16) = zi (s_en Y k i + Y 9 (Y 5 k))) ∧ RN T Ln M A Y (A k + 3) (61 + k) (Y 6 k) ∧ RN T Ln M A Y (A k + 6) k (Y 6 k)
def CT (T : Nat → Nat) (M : Nat → Int → Value) (Y : zY) (a : Nat) (c : Int) : Prop := T a = 0 ∧ M a 2 = zi (Y 9 c) ∧ M a 3 = zi (Y 10 c) ∧ M a 4 = zi (Y 11 c) ∧ M a 5 = zi (Y 12 c)
section
variable {T : Nat → Nat} {Ln : Nat → Int} {M M' : Nat → Int → Value} {t : Nat × Nat} {a : Nat} {A : Int → Nat} {W : Int → Int → Nat} {Ow : Nat → Int} {Y Z : zY} {k cyc cc p j : Int} {Q : zU → zS → Prop}
theorem K5_i : K5 T Ln M A Ow Y k ↔ KM T Ln M A Y k (Y 23 k) ∧ (∀ i : Nat, i < 9 → Ow (A k + i) = k) ∧ SI Y k := by
  constructor
  · rintro ⟨a1, a2, a3, a4, a5, a6, a7, a8, a9, a10, a11⟩
    exact ⟨⟨a1, a2, a3, a4, a5, a6, a7, a8, a9⟩, a10, a11⟩
  · rintro ⟨⟨a1, a2, a3, a4, a5, a6, a7, a8, a9⟩, a10, a11⟩
    exact ⟨a1, a2, a3, a4, a5, a6, a7, a8, a9, a10, a11⟩
theorem RN_f (hM : ∀ i : Nat, i < 3 → ∀ j, M' (a + i) j = M (a + i) j) (h5 : Z 5 p = Y 5 p) (h8 : Z 8 (Y 5 p) = Y 8 (Y 5 p)) (h88 : Y 8 (Y 5 p) ≤ 8) (h20 : Z 20 cc = Y 20 cc) (h21 : Z 21 cc = Y 21 cc) (h22 : Z 22 cc = Y 22 cc) (h19 : ∀ j, 0 ≤ j → j < 12 → Z 19 (12 * cc + j) = Y 19 (12 * cc + j)) (h : RN T Ln M A Y a cc p) : RN T Ln M' A Z a cc p := by
  unfold RN
  rw [h5, h8, h20, h21, h22]
  exact RnAt_f ⟨rfl, by funext j; exact hM 0 (by omega) j⟩ ⟨rfl, rfl, by funext j; exact hM 1 (by omega) j⟩ ⟨rfl, rfl, by funext j; exact hM 2 (by omega) j⟩ rfl h88 h19 h
theorem KM_4 {v : Int} (h8 : Y 8 (Y 5 (Y 6 k)) ≤ 8) (h : KM T Ln M A Y k cyc) : KM T Ln (mu M (A k) 4 (zi v)) A Y k v := by
  obtain ⟨a1, ⟨b1, b2, b3, b4⟩, ⟨c1, c2, c3, c4, c5⟩, ⟨d1, d2⟩, a5, a6, a7, a8, a9⟩ := h
  refine ⟨a1, ⟨by rw [mu_j (by omega)]; exact b1, by rw [mu_j (by omega)]; exact b2, by rw [mu_j (by omega)]; exact b3, by rw [mu_j (by omega)]; exact b4⟩, ⟨mu_s, by rw [mu_j (by omega)]; exact c2, by rw [mu_j (by omega)]; exact c3, by rw [mu_j (by omega)]; exact c4, by rw [mu_j (by omega)]; exact c5⟩, ⟨by rw [mu_j (by omega)]; exact d1, by rw [mu_j (by omega)]; exact d2⟩, fun j j1 j2 => by rw [mu_n (by omega)]; exact a5 j j1 j2, fun j j1 j2 => by rw [mu_n (by omega)]; exact a6 j j1 j2, fun j j1 j2 => by rw [mu_n (by omega)]; exact a7 j j1 j2, ?_, ?_⟩
  · exact RN_f (fun i hi j => mu_n (by omega)) rfl rfl h8 rfl rfl rfl (fun _ _ _ => rfl) a8
  · exact RN_f (fun i hi j => mu_n (by omega)) rfl rfl h8 rfl rfl rfl (fun _ _ _ => rfl) a9
/-! what an entry counts -/
theorem ent_28 (hs : SI Y k) (he : Y 22 (61 + k) = 0) : m_ent Y k 28 k = Y 28 k + s_ba Y k ∧ m_ent Y k 29 k = Y 29 k + (Y 24 k - s_le Y k - 1 - s_ba Y k) := by
  have hx : ∀ f : Nat, f = 28 ∨ f = 29 → m_ent Y k f k = m_la0 Y k f k := by
    intro f hf
    unfold m_ent
    rw [yu_f (by omega)]
    unfold m_en
    split
    · rw [yu_f (by omega), m_e2_f (by omega) (by omega) (by omega) (by omega) (by omega) (by omega) (by omega)]
    · rw [m_e2_f (by omega) (by omega) (by omega) (by omega) (by omega) (by omega) (by omega)]
  rw [hx 28 (by omega), hx 29 (by omega)]
  obtain ⟨hv, -, -, -, i4, -, -, -, -, -, -, -, i12⟩ := hs
  have hR := hv.1
  have h21 : 0 ≤ Y 21 (61 + k) := (hR 21 _).1
  unfold m_la0
  by_cases c : 0 < Y 21 (61 + k)
  · rw [if_pos c]
    have hle : s_le Y k = Y 25 (16 * k + (Y 21 (61 + k) - 1) % 16) := by unfold s_le; rw [if_neg (by omega)]
    have hba : s_ba Y k = if Y 41 k = 0 then 0 else Y 12 (Y 5 k) := by unfold s_ba; rw [if_neg (by omega)]
    have h24 : s_le Y k + 1 + s_ba Y k ≤ Y 24 k := by
      rw [(i4 he).2]
      have f1 : ∀ v, v ≤ m_f1 Y k v := fun v => by unfold m_f1; split <;> omega
      have f2 : ∀ v, v ≤ m_f2 Y k v := fun v => by unfold m_f2; split <;> omega
      exact Int.le_trans (f1 _) (f2 _)
    unfold m_lo
    rw [← hle, ← hba, if_neg (by omega)]
    refine ⟨?_, ?_⟩
    · rw [yu_f (by decide), yu_s]
    · rw [yu_s]
  · rw [if_neg c]
    have h24 := i12 (by omega)
    have hle : s_le Y k = 0 := by unfold s_le; rw [if_pos (by omega)]
    have hba : s_ba Y k = 0 := by unfold s_ba; rw [if_pos (by omega)]
    omega
theorem ent_ra (hR : RG Y) (j1 : 0 ≤ j) (j2 : j < 4) : m_ra (m_ent Y k) k j = if Y 14 (m_ew Y k) ≤ 4 ∧ j = Y 15 (m_ew Y k) then Y 24 k + 1 + (if Y 14 (m_ew Y k) = 4 then Y 11 (Y 5 k) else Y 10 (Y 5 k)) else m_ra Y k j := by
  have ew : m_ew (m_la0 Y k) k = m_ew Y k := by unfold m_ew m_w; rw [la0_g (f := 6) (by omega), la0_g (f := 20) (by omega)]
  have hx : ∀ f : Nat, f = 26 ∨ f = 27 → m_ent Y k f (4 * k + j) = m_e1 (m_la0 Y k) k f (4 * k + j) := by
    intro f hf
    have h2 : m_e2 (m_la0 Y k) k f (4 * k + j) = m_e1 (m_la0 Y k) k f (4 * k + j) := by unfold m_e2; rw [dw_g (by omega)]
    unfold m_ent
    rw [yu_f (by omega)]
    unfold m_en
    split
    · rw [yu_f (by omega), h2]
    · exact h2
  have h24 : 0 ≤ Y 24 k := (hR 24 k).1
  have e0 : ∀ f : Nat, f = 26 ∨ f = 27 → m_e0 (m_la0 Y k) k f (4 * k + j) = Y f (4 * k + j) := fun f hf => by rw [m_e0_f (by omega), la0_g (by omega)]
  have e1 : m_e1 (m_la0 Y k) k = if Y 14 (m_ew Y k) ≤ 4 then yu (yu (m_e0 (m_la0 Y k) k) 26 (4 * k + Y 15 (m_ew Y k)) (Y 24 k)) 27 (4 * k + Y 15 (m_ew Y k)) (if Y 14 (m_ew Y k) = 4 then Y 11 (Y 5 k) else Y 10 (Y 5 k)) else m_e0 (m_la0 Y k) k := by
    unfold m_e1
    rw [ew, la0_g (f := 14) (by omega), la0_g (f := 15) (by omega), la0_g (f := 24) (by omega), la0_g (f := 5) (by omega), la0_g (f := 11) (by omega), la0_g (f := 10) (by omega)]
  have x26 := hx 26 (by omega)
  have x27 := hx 27 (by omega)
  rw [e1] at x26 x27
  by_cases c : Y 14 (m_ew Y k) ≤ 4
  · rw [if_pos c] at x26 x27
    by_cases c2 : j = Y 15 (m_ew Y k)
    · rw [← c2, yu_f (by decide), yu_s] at x26
      rw [← c2, yu_s] at x27
      have c3 : Y 14 (m_ew Y k) ≤ 4 ∧ j = Y 15 (m_ew Y k) := ⟨c, c2⟩
      rw [if_pos c3]
      unfold m_ra
      rw [x26, x27, if_neg (by omega)]
      omega
    · rw [yu_f (by decide), yu_n (by omega), e0 26 (by omega)] at x26
      rw [yu_n (by omega), yu_f (by decide), e0 27 (by omega)] at x27
      have c3 : ¬ (Y 14 (m_ew Y k) ≤ 4 ∧ j = Y 15 (m_ew Y k)) := fun hh => c2 hh.2
      rw [if_neg c3]
      unfold m_ra
      rw [x26, x27]
  · rw [if_neg c, e0 26 (by omega)] at x26
    rw [if_neg c, e0 27 (by omega)] at x27
    have c3 : ¬ (Y 14 (m_ew Y k) ≤ 4 ∧ j = Y 15 (m_ew Y k)) := fun hh => c hh.1
    rw [if_neg c3]
    unfold m_ra
    rw [x26, x27]
theorem rd_1 {e : Int} (hR : RG Y) : (0 < m_rd Y e ↔ ¬ Y 14 e = 0 ∧ ¬ Y 14 e = 7) ∧ (1 < m_rd Y e ↔ Y 14 e = 5 ∨ (¬ Y 14 e = 0 ∧ Y 14 e ≤ 3)) := by
  obtain ⟨o1, o2⟩ : 0 ≤ Y 14 e ∧ Y 14 e ≤ 7 := hR 14 e
  unfold m_rd
  obtain h | h | h | h | h | h | h | h : Y 14 e = 0 ∨ Y 14 e = 1 ∨ Y 14 e = 2 ∨ Y 14 e = 3 ∨ Y 14 e = 4 ∨ Y 14 e = 5 ∨ Y 14 e = 6 ∨ Y 14 e = 7 := by omega
  all_goals (rw [h]; decide)
theorem PG_b (hM : ∀ b j, ¬ (a ≤ b ∧ b < a + 9) → M' b j = M b j) (hT : ∀ i : Nat, i < 9 → T (a + i) = 6 ∨ T (a + i) = 100 ∨ T (a + i) = 5 ∨ T (a + i) = 101) (h5 : Z 5 p = Y 5 p) (h7 : Z 7 (Y 5 p) = Y 7 (Y 5 p)) (h8 : Z 8 (Y 5 p) = Y 8 (Y 5 p)) (h13 : Z 13 p = Y 13 p) (hw : ∀ (f : Nat) (j : Int), 14 ≤ f → f ≤ 18 → 0 ≤ j → j < 24 → Z f (24 * p + j) = Y f (24 * p + j)) (h : PG T Ln M A W Y p) : PG T Ln M' A W Z p := by
  refine PG_f (fun b j hb => hM b j (fun hh => ?_)) h5 h7 h8 h13 hw h
  have := hT (b - a) (by omega)
  rw [show a + (b - a) = b by omega] at this
  omega
theorem KM_T (h : KM T Ln M A Y k cyc) : ∀ i : Nat, i < 9 → T (A k + i) = 6 ∨ T (A k + i) = 100 ∨ T (A k + i) = 5 ∨ T (A k + i) = 101 := by
  obtain ⟨⟨a1, a2, a3, -, -⟩, -, -, -, -, -, -, ⟨⟨b1, b2, b3, -⟩, -⟩, ⟨⟨c1, c2, c3, -⟩, -⟩⟩ := h
  intro i hi
  obtain rfl | rfl | rfl | rfl | rfl | rfl | rfl | rfl | rfl : i = 0 ∨ i = 1 ∨ i = 2 ∨ i = 3 ∨ i = 4 ∨ i = 5 ∨ i = 6 ∨ i = 7 ∨ i = 8 := by omega
  · left; exact a1
  · right; left; exact a2
  · right; left; exact a3
  · right; right; left; exact b1
  · right; right; right; exact b2
  · right; right; right; exact b3
  · right; right; left; exact c1
  · right; right; right; exact c2
  · right; right; right; exact c3
theorem CT_b (hM : ∀ b j, ¬ (a ≤ b ∧ b < a + 9) → M' b j = M b j) (hT : ∀ i : Nat, i < 9 → T (a + i) = 6 ∨ T (a + i) = 100 ∨ T (a + i) = 5 ∨ T (a + i) = 101) {b : Nat} {c : Int} (h9 : ∀ f : Nat, 9 ≤ f → f ≤ 12 → Z f c = Y f c) (h : CT T M Y b c) : CT T M' Z b c := by
  obtain ⟨a1, a2, a3, a4, a5⟩ := h
  have hb : ∀ j, M' b j = M b j := fun j => hM b j (fun hh => by
    have := hT (b - a) (by omega)
    rw [show a + (b - a) = b by omega] at this
    omega)
  exact ⟨a1, by rw [hb, h9 9 (by omega) (by omega)]; exact a2, by rw [hb, h9 10 (by omega) (by omega)]; exact a3, by rw [hb, h9 11 (by omega) (by omega)]; exact a4, by rw [hb, h9 12 (by omega) (by omega)]; exact a5⟩
end
