/-! THE MODEL: ends, and going through all states -/
def m_bf (f g : Int → Int) : Nat → Int → Int
  | 0, _ => 0
  | n + 1, k => if f k = g k then m_bf f g n (k + 1) else bI (f k < g k)
theorem m_bf_01 (f g : Int → Int) : ∀ (n : Nat) (k : Int), m_bf f g n k = 0 ∨ m_bf f g n k = 1 := by
  intro n
  induction n with
  | zero => intro k; exact .inl rfl
  | succ n ih =>
    intro k
    unfold m_bf
    split
    · exact ih (k + 1)
    · exact bI_01
def m_bs (Y : zY) (s u : Int) : Int := m_bf (fun e => Y 36 (28 * s + e)) (fun e => Y 36 (28 * u + e)) 16 2
def m_ai (s : Int) : Nat → zY → zY
  | 0, Y => yu Y 37 0 s
  | i + 1, Y => if m_bs Y s (Y 37 (i : Nat)) = 0 then yu Y 37 ((i : Int) + 1) s else m_ai s i (yu Y 37 ((i : Int) + 1) (Y 37 (i : Nat)))
def m_ae (Y : zY) (s : Int) : zY := yu (m_ai s (Y 34 0).toNat Y) 34 0 (Y 34 0 + 1)
theorem m_ai_f {s : Int} {f : Nat} {e : Int} (h : ¬ f = 37) : ∀ (i : Nat) (Y : zY), m_ai s i Y f e = Y f e := by
  intro i
  induction i with
  | zero => intro Y; exact yu_f h
  | succ i ih =>
    intro Y
    unfold m_ai
    split
    · exact yu_f h
    · rw [ih, yu_f h]
abbrev m_cm (Y : zY) (k w : Int) : Prop := if w < 2 then m_dc Y k w else ¬ Y 38 (18 + 5 * (w - 2)) = 0
def m_mv (Y : zY) (k w : Int) : zY := if w < 2 then m_dd Y k w else m_lg Y (w - 2)
def m_g1 (Y : zY) (k s w : Int) : zY := if m_cm (m_op Y s) k w then m_ke (m_mv (m_op Y s) k w) else m_op Y s
def m_c1 (Y : zY) (k s w : Int) : Int := bI (m_cm (m_op Y s) k w)
def m_g4 (Y : zY) (k s : Int) : zY := m_g1 (m_g1 (m_g1 (m_g1 Y k s 0) k s 1) k s 2) k s 3
def m_c4 (Y : zY) (k s : Int) : Int := 0 + m_c1 Y k s 0 + m_c1 (m_g1 Y k s 0) k s 1 + m_c1 (m_g1 (m_g1 Y k s 0) k s 1) k s 2 + m_c1 (m_g1 (m_g1 (m_g1 Y k s 0) k s 1) k s 2) k s 3
def m_gf (Y : zY) (k s : Int) : zY := if m_ie (m_op (m_g4 Y k s) s) k then m_ae (m_op (m_g4 Y k s) s) s else if m_c4 Y k s = 0 then yu (m_op (m_g4 Y k s) s) 35 0 (m_op (m_g4 Y k s) s 35 0 + 1) else m_op (m_g4 Y k s) s
/-- what the code needs of the numbers at a move from s -/
def PV (Y : zY) (k s : Int) : Prop := RG Y ∧ CI Y ∧ (0 ≤ k ∧ k ≤ 60) ∧ (0 ≤ s ∧ s < 2000) ∧ (0 < Y 13 (Y 5 k) ∧ 0 < Y 13 (Y 6 k)) ∧ (0 < Y 8 (Y 5 (Y 5 k)) ∧ 0 < Y 8 (Y 5 (Y 6 k))) ∧ NV (m_op Y s) k
theorem RG_op {Y : zY} {s : Int} (h : RG Y) : RG (m_op Y s) := RG_ov h (fun e _ _ => h 36 _)
theorem m_op_f {Y : zY} {s e : Int} {f : Nat} (h : ¬ f = 38) : m_op Y s f e = Y f e := m_ov_f h
theorem CI_c {Y Z : zY} (h33 : Z 33 0 = Y 33 0) (h36 : ∀ e, Z 36 e = Y 36 e) (h39 : ∀ e, Z 39 e = Y 39 e) (h40 : ∀ e, Z 40 e = Y 40 e) (h : CI Y) : CI Z := by
  have e1 : m_sn Z = m_sn Y := by unfold m_sn; rw [h33]
  have e2 : ∀ s, m_ht Z s = m_ht Y s := fun s => m_hs_c 28 (fun k _ => h36 _)
  unfold CI
  simp only [e1, e2, h39, h40]
  exact h
theorem CI_op {Y : zY} {s : Int} (h : CI Y) : CI (m_op Y s) := CI_c (m_op_f (by decide)) (fun _ => m_op_f (by decide)) (fun _ => m_op_f (by decide)) (fun _ => m_op_f (by decide)) h
theorem m_d1_f {Y : zY} {k w e : Int} {f : Nat} (h : ¬ f = 38) : m_d1 Y k w f e = Y f e := by
  unfold m_d1
  split
  · exact yu_f h
  split
  · exact yu_f h
  split
  · exact yu_f h
  split
  · exact yu_f h
  split
  · exact yu_f h
  split
  · split
    · rw [yu_f h, yu_f h, yu_f h]
    · exact yu_f h
  rfl
theorem m_l1_f {Y : zY} {w e : Int} {f : Nat} (h : ¬ f = 38) : m_l1 Y w f e = Y f e := by
  unfold m_l1
  rw [yu_f h, yu_f h, yu_f h, yu_f h, yu_f h, yu_f h]
theorem m_mv_f {Y : zY} {k w e : Int} {f : Nat} (h : ¬ f = 38) : m_mv Y k w f e = Y f e := by
  unfold m_mv
  split
  · unfold m_dd; rw [yu_f h, m_d1_f h]
  · unfold m_lg
    split
    · rw [yu_f h, yu_f h, m_l1_f h]
    · exact m_l1_f h
theorem RG_mv {Y : zY} {k w : Int} (hR : RG Y) (w1 : 0 ≤ w) (w2 : w ≤ 3) (hc : m_cm Y k w) (hw : 0 < Y 13 (Y 5 k) ∧ 0 < Y 13 (Y 6 k)) (hn : NV Y k) : RG (m_mv Y k w) := by
  unfold m_mv
  unfold m_cm at hc
  by_cases c : w < 2
  · rw [if_pos c] at hc ⊢
    have hpa : 0 < Y 13 (m_pa Y k w) := by unfold m_pa; split; exact hw.1; exact hw.2
    have h13 : Y 13 (m_pa Y k w) ≤ 24 := (hR 13 _).2
    have h7 : Y 7 (Y 5 (m_pa Y k w)) ≤ 32 := (hR 7 _).2
    have x1 : 0 ≤ m_dx Y k w ∧ m_dx Y k w ≤ 4294967295 := hR 38 _
    have y1 : 0 ≤ m_dy Y k w ∧ m_dy Y k w ≤ 4294967295 := hR 38 _
    have hnw : 0 ≤ Y 38 w ∧ Y 38 w ≤ 24 := by
      have h0 : 0 ≤ Y 38 w := (hR 38 w).1
      have h1 := (hR 13 (Y 5 k)).2
      have h2 := (hR 13 (Y 6 k)).2
      have h3 : Y 13 (Y 5 k) ≤ 24 := h1
      have h4 : Y 13 (Y 6 k) ≤ 24 := h2
      obtain ⟨⟨n1, n2⟩, -⟩ := hn
      obtain rfl | rfl : w = 0 ∨ w = 1 := by omega
      · omega
      · omega
    have ha : 0 ≤ m_da Y k w ∧ m_da Y k w ≤ 4294967295 := by
      unfold m_da
      have h8 : 0 ≤ Y 8 (Y 5 (m_pa Y k w)) := (hR 8 _).1
      by_cases hz : Y 8 (Y 5 (m_pa Y k w)) = 0
      · rw [hz, Int.emod_zero]; exact x1
      · have := mod_b (v := m_dx Y k w) (m := Y 8 (Y 5 (m_pa Y k w))) (by omega)
        have h9 : Y 8 (Y 5 (m_pa Y k w)) ≤ 8 := (hR 8 _).2
        omega
    have h1 : RG (m_d1 Y k w) := by
      unfold m_d1
      split
      next => have := mod_p2 (Y 18 (m_dk Y k w)) h7; exact RG_u hR (by show 0 ≤ _; omega) (by show _ ≤ 4294967295; omega)
      next =>
      split
      next => have := mod_p2 (m_dx Y k w + m_dy Y k w) h7; exact RG_u hR (by show 0 ≤ _; omega) (by show _ ≤ 4294967295; omega)
      next =>
      split
      next => have := mod_p2 (m_dx Y k w - m_dy Y k w) h7; exact RG_u hR (by show 0 ≤ _; omega) (by show _ ≤ 4294967295; omega)
      next =>
      split
      next =>
        have := lland_n x1.1 (by omega) y1.1 (by omega)
        have h9 : (m_dx Y k w).toNat &&& (m_dy Y k w).toNat ≤ (m_dx Y k w).toNat := Nat.and_le_left
        exact RG_u hR (by show 0 ≤ _; omega) (by show _ ≤ 4294967295; omega)
      next =>
      split
      next =>
        have : 0 ≤ m_se Y w (m_da Y k w) ∧ m_se Y w (m_da Y k w) ≤ 4294967295 := by
          unfold m_se
          split
          · exact hR 38 _
          split
          · split
            · exact hR 38 _
            · exact hR 38 _
          split
          · exact hR 38 _
          split
          · exact hR 38 _
          · exact hR 38 _
        exact RG_u hR this.1 this.2
      next =>
      split
      next =>
        split
        next => 
          have h9 : 0 ≤ Y 38 (18 + 5 * w) ∧ Y 38 (18 + 5 * w) ≤ 2 := by
            have h0 : 0 ≤ Y 38 (18 + 5 * w) := (hR 38 _).1
            obtain ⟨-, ⟨n3, n4⟩, -⟩ := hn
            obtain rfl | rfl : w = 0 ∨ w = 1 := by omega
            · exact ⟨h0, n3⟩
            · exact ⟨h0, n4⟩
          exact RG_u (RG_u (RG_u hR ha.1 ha.2) y1.1 y1.2) (by show 0 ≤ _; omega) (by show _ ≤ 4294967295; omega)
        next => exact RG_u hR y1.1 y1.2
      next => exact hR
    have h2 : 0 ≤ m_dn Y k w ∧ m_dn Y k w ≤ 4294967295 := by
      unfold m_dn
      split
      · omega
      split
      · have := mod_b (v := Y 18 (m_dk Y k w)) hpa; omega
      · omega
    exact RG_u h1 h2.1 h2.2
  · rw [if_neg c] at hc ⊢
    have h9 : 0 ≤ Y 38 (18 + 5 * (w - 2)) ∧ Y 38 (18 + 5 * (w - 2)) ≤ 4294967295 := hR 38 _
    have h1 : RG (m_l1 Y (w - 2)) := by
      unfold m_l1
      exact RG_u (RG_u (RG_u (RG_u (RG_u (RG_u hR (hR 38 _).1 (hR 38 _).2) (hR 38 _).1 (hR 38 _).2) (hR 38 _).1 (hR 38 _).2) (by decide) (by decide)) (by decide) (by decide)) (by show 0 ≤ _; omega) (by show _ ≤ 4294967295; omega)
    unfold m_lg
    split
    · exact RG_u (RG_u h1 (by decide) (by decide)) (by decide) (by decide)
    · exact h1
theorem m_ke_f {Y : zY} {e : Int} {f : Nat} (h : ¬ f = 36) (h1 : ¬ f = 40) (h2 : ¬ f = 39) (h3 : ¬ f = 33) : m_ke Y f e = Y f e := by
  unfold m_ke
  split
  · rfl
  split
  · rw [yu_f h3, yu_f h2, yu_f h1, m_ov_f h]
  · rw [yu_f h3]
theorem RG_ke {Y : zY} (hR : RG Y) (hC : CI Y) (hn : Y 33 0 ≤ 2003) : RG (m_ke Y) := by
  have h33 : 0 ≤ Y 33 0 := (hR 33 0).1
  unfold m_ke
  split
  · exact hR
  split
  next h2 =>
    have hcr := m_hs_r (fun e => Y 38 e) 28
    exact RG_u (RG_u (RG_u (RG_ov hR (fun e _ _ => hR 38 _)) (hR 39 _).1 (hR 39 _).2) (by show -1 ≤ _; omega) (by show _ ≤ 2000; omega)) (by show 0 ≤ _; omega) (by show _ ≤ 2004; omega)
  next => exact RG_u hR (by show 0 ≤ _; omega) (by show _ ≤ 2004; omega)
theorem ke_33 {Y : zY} : Y 33 0 ≤ m_ke Y 33 0 ∧ m_ke Y 33 0 ≤ Y 33 0 + 1 := by
  unfold m_ke
  split
  · omega
  split
  · rw [yu_s]; omega
  · rw [yu_s]; omega
/-- what was kept stays -/
theorem ke_36 {Y : zY} {s e : Int} (h0 : 0 ≤ s) (h : s < m_sn Y) (e1 : 0 ≤ e) (e2 : e < 28) : m_ke Y 36 (28 * s + e) = Y 36 (28 * s + e) := by
  have hs : s < Y 33 0 := by unfold m_sn at h; split at h <;> omega
  unfold m_ke
  split
  · rfl
  split
  · rw [yu_f (by decide), yu_f (by decide), yu_f (by decide), m_ov_o (by omega)]
  · rw [yu_f (by decide)]
theorem ke_ht {Y : zY} {s : Int} (h0 : 0 ≤ s) (h : s < m_sn Y) : m_ht (m_ke Y) s = m_ht Y s := m_hs_c 28 (fun k hk => ke_36 h0 h (by omega) (by omega))
theorem CI_ke {Y : zY} (hR : RG Y) (hC : CI Y) : CI (m_ke Y) := by
  have h33 : 0 ≤ Y 33 0 := (hR 33 0).1
  by_cases hk : m_kp Y
  · unfold m_ke; rw [if_pos hk]; exact hC
  by_cases h2 : Y 33 0 < 2000
  · have hsn : m_sn Y = Y 33 0 := by unfold m_sn; rw [if_pos h2]
    have hcr := m_hs_r (fun e => Y 38 e) 28
    have hht := fun (s : Int) (a : 0 ≤ s) (b : s < m_sn Y) => ke_ht a b
    have hke : m_ke Y = yu (yu (yu (m_ov Y 36 (28 * Y 33 0) (28 * Y 33 0 + 28) (fun e => Y 38 (e - 28 * Y 33 0))) 40 (Y 33 0) (Y 39 (m_hn Y))) 39 (m_hn Y) (Y 33 0)) 33 0 (Y 33 0 + 1) := by
      unfold m_ke; rw [if_neg hk, if_pos h2]
    have k33 : m_ke Y 33 0 = Y 33 0 + 1 := by rw [hke, yu_s]
    have k39 : ∀ c, m_ke Y 39 c = if c = m_hn Y then Y 33 0 else Y 39 c := by
      intro c
      rw [hke, yu_f (by decide), yu_e]
      split
      · rfl
      · rw [yu_f (by decide), m_ov_f (by decide)]
    have k40 : ∀ c, m_ke Y 40 c = if c = Y 33 0 then Y 39 (m_hn Y) else Y 40 c := by
      intro c
      rw [hke, yu_f (by decide), yu_f (by decide), yu_e, m_ov_f (by decide)]
    have knew : m_ht (m_ke Y) (Y 33 0) = m_hn Y := by
      refine m_hs_c 28 (fun k hk9 => ?_)
      rw [hke]
      show yu _ 33 0 _ 36 (28 * Y 33 0 + (k : Int)) = _
      rw [yu_f (by decide), yu_f (by decide), yu_f (by decide), m_ov_i (by omega) (by omega)]
      show Y 38 (28 * Y 33 0 + (k : Int) - 28 * Y 33 0) = Y 38 k
      rw [show 28 * Y 33 0 + (k : Int) - 28 * Y 33 0 = k by omega]
    have ksn : m_sn (m_ke Y) = Y 33 0 + 1 := by unfold m_sn; rw [k33]; split <;> omega
    obtain ⟨hC1, hC2⟩ := hC
    have hhn : 0 ≤ m_hn Y ∧ m_hn Y < 2003 := hcr
    refine ⟨fun c c1 c2 => ?_, fun t t1 t2 => ?_⟩
    · obtain ⟨⟨x1, x2⟩, x3, x4⟩ := hC1 c c1 c2
      rw [k39, ksn]
      by_cases hc : c = m_hn Y
      · rw [if_pos hc]
        refine ⟨by omega, fun _ => by rw [knew, hc], fun t t1 t2 t3 => by omega⟩
      · rw [if_neg hc]
        refine ⟨by omega, fun h9 => by rw [hht _ h9 x2]; exact x3 h9, fun t t1 t2 t3 => ?_⟩
        by_cases ht : t = Y 33 0
        · subst ht; rw [knew]; exact fun h9 => hc h9.symm
        · rw [hht t t1 (by omega)]; exact x4 t t1 t2 (by omega)
    · rw [ksn] at t2
      rw [k40]
      by_cases ht : t = Y 33 0
      · subst ht
        rw [if_pos rfl]
        obtain ⟨⟨x1, x2⟩, x3, x4⟩ := hC1 (m_hn Y) hhn.1 hhn.2
        refine ⟨by omega, fun h9 => by rw [hht _ h9 x2, knew]; exact x3 h9, fun u u1 u2 u3 => ?_⟩
        rw [hht u u1 (by omega), knew]
        exact x4 u u1 u2 (by omega)
      · rw [if_neg ht]
        obtain ⟨⟨x1, x2⟩, x3, x4⟩ := hC2 t t1 (by omega)
        refine ⟨⟨x1, x2⟩, fun h9 => by rw [hht _ h9 (by omega), hht t t1 (by omega)]; exact x3 h9, fun u u1 u2 u3 => ?_⟩
        rw [hht u u1 (by omega), hht t t1 (by omega)]
        exact x4 u u1 u2 u3
  · have hke : m_ke Y = yu Y 33 0 (Y 33 0 + 1) := by unfold m_ke; rw [if_neg hk, if_neg h2]
    have e1 : m_sn (m_ke Y) = m_sn Y := by rw [hke]; unfold m_sn; rw [yu_s, if_neg (by omega), if_neg h2]
    have e2 : ∀ s, m_ht (m_ke Y) s = m_ht Y s := by intro s; rw [hke]; exact m_hs_c 28 (fun k _ => yu_f (by decide))
    have e3 : ∀ c, m_ke Y 39 c = Y 39 c := by intro c; rw [hke, yu_f (by decide)]
    have e4 : ∀ c, m_ke Y 40 c = Y 40 c := by intro c; rw [hke, yu_f (by decide)]
    unfold CI
    simp only [e1, e2, e3, e4]
    exact hC
theorem PV_1 {Y : zY} {k s w : Int} (h : PV Y k s) (w1 : 0 ≤ w) (w2 : w ≤ 3) (hs : s < Y 33 0) (hn : Y 33 0 ≤ 2003) : PV (m_g1 Y k s w) k s ∧ Y 33 0 ≤ m_g1 Y k s w 33 0 ∧ m_g1 Y k s w 33 0 ≤ Y 33 0 + 1 := by
  obtain ⟨hR, hC, hk, h1, h2, h3, h4⟩ := h
  have o := fun (f : Nat) (e : Int) (hh : ¬ f = 38) => m_op_f (Y := Y) (s := s) (e := e) hh
  have hno : NV (m_op Y s) k := h4
  unfold m_g1
  have hw : 0 < m_op Y s 13 (m_op Y s 5 k) ∧ 0 < m_op Y s 13 (m_op Y s 6 k) := by
    rw [o 5 _ (by decide), o 6 _ (by decide), o 13 _ (by decide), o 13 _ (by decide)]; exact h2
  by_cases c : m_cm (m_op Y s) k w
  · rw [if_pos c]
    have r1 := RG_mv (RG_op hR) w1 w2 c hw h4
    have v := fun (f : Nat) (e : Int) (hh : ¬ f = 38) => m_mv_f (Y := m_op Y s) (k := k) (w := w) (e := e) hh
    have c1 : CI (m_mv (m_op Y s) k w) := CI_c (v 33 _ (by decide)) (fun e => v 36 e (by decide)) (fun e => v 39 e (by decide)) (fun e => v 40 e (by decide)) (CI_op hC)
    have n1 : m_mv (m_op Y s) k w 33 0 = Y 33 0 := by rw [v 33 _ (by decide), o 33 _ (by decide)]
    have hke := ke_33 (Y := m_mv (m_op Y s) k w)
    have z := fun (f : Nat) (e : Int) (a : ¬ f = 36) (b : ¬ f = 40) (c : ¬ f = 39) (d : ¬ f = 33) (g : ¬ f = 38) => show m_ke (m_mv (m_op Y s) k w) f e = Y f e by rw [m_ke_f a b c d, v f e g, o f e g]
    refine ⟨⟨RG_ke r1 c1 (by omega), CI_ke r1 c1, hk, h1, ?_, ?_, ?_⟩, by omega, by omega⟩
    · rw [z 5 _ (by decide) (by decide) (by decide) (by decide) (by decide), z 6 _ (by decide) (by decide) (by decide) (by decide) (by decide), z 13 _ (by decide) (by decide) (by decide) (by decide) (by decide), z 13 _ (by decide) (by decide) (by decide) (by decide) (by decide)]; exact h2
    · rw [z 5 k (by decide) (by decide) (by decide) (by decide) (by decide), z 6 _ (by decide) (by decide) (by decide) (by decide) (by decide), z 5 _ (by decide) (by decide) (by decide) (by decide) (by decide), z 5 _ (by decide) (by decide) (by decide) (by decide) (by decide), z 8 _ (by decide) (by decide) (by decide) (by decide) (by decide), z 8 _ (by decide) (by decide) (by decide) (by decide) (by decide)]; exact h3
    · have hsn : s < m_sn (m_mv (m_op Y s) k w) := by unfold m_sn; rw [n1]; split <;> omega
      have e38 : ∀ e, 0 ≤ e → e < 28 → m_op (m_ke (m_mv (m_op Y s) k w)) s 38 e = m_op Y s 38 e := by
        intro e e1 e2
        unfold m_op
        rw [m_ov_i e1 e2, m_ov_i e1 e2]
        show m_ke (m_mv (m_op Y s) k w) 36 (28 * s + e) = Y 36 (28 * s + e)
        rw [ke_36 h1.1 hsn e1 e2, v 36 _ (by decide), o 36 _ (by decide)]
      have ef : ∀ (f : Nat) (e : Int), (f = 13 ∨ f = 5 ∨ f = 6) → m_op (m_ke (m_mv (m_op Y s) k w)) s f e = m_op Y s f e := by
        intro f e hf
        rw [m_op_f (by omega), z f e (by omega) (by omega) (by omega) (by omega) (by omega), o f e (by omega)]
      unfold NV
      rw [e38 0 (by omega) (by omega), e38 1 (by omega) (by omega), e38 18 (by omega) (by omega), e38 23 (by omega) (by omega), e38 19 (by omega) (by omega), e38 21 (by omega) (by omega), e38 24 (by omega) (by omega), e38 26 (by omega) (by omega), ef 5 k (by omega), ef 6 k (by omega), ef 13 _ (by omega), ef 13 _ (by omega)]
      exact hno
  · rw [if_neg c]
    have n1 : m_op Y s 33 0 = Y 33 0 := o 33 _ (by decide)
    refine ⟨⟨RG_op hR, CI_op hC, hk, h1, hw, ?_, ?_⟩, by omega, by omega⟩
    · rw [o 5 k (by decide), o 6 _ (by decide), o 5 _ (by decide), o 5 _ (by decide), o 8 _ (by decide), o 8 _ (by decide)]; exact h3
    · have e38 : ∀ e, 0 ≤ e → e < 28 → m_op (m_op Y s) s 38 e = m_op Y s 38 e := by
        intro e e1 e2
        unfold m_op
        rw [m_ov_i e1 e2, m_ov_i e1 e2]
        show m_ov Y 38 0 28 _ 36 _ = _
        rw [m_ov_f (by decide)]
      have ef : ∀ (f : Nat) (e : Int), (f = 13 ∨ f = 5 ∨ f = 6) → m_op (m_op Y s) s f e = m_op Y s f e := by
        intro f e hf
        rw [m_op_f (by omega)]
      unfold NV
      rw [e38 0 (by omega) (by omega), e38 1 (by omega) (by omega), e38 18 (by omega) (by omega), e38 23 (by omega) (by omega), e38 19 (by omega) (by omega), e38 21 (by omega) (by omega), e38 24 (by omega) (by omega), e38 26 (by omega) (by omega), ef 5 k (by omega), ef 6 k (by omega), ef 13 _ (by omega), ef 13 _ (by omega)]
      exact hno
