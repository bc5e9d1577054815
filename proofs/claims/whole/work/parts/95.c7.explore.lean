/-! THE MODEL: going through all states -/
def PQ (Y : zY) (k : Int) : Prop := RG Y ∧ CI Y ∧ PK Y k ∧ ∀ s, 0 ≤ s → s < m_sn Y → VQ (m_op Y s) k
theorem VQ_o {Y Z : zY} {k s : Int} (h5 : ∀ e, Z 5 e = Y 5 e) (h6 : ∀ e, Z 6 e = Y 6 e) (h7 : ∀ e, Z 7 e = Y 7 e) (h8 : ∀ e, Z 8 e = Y 8 e) (h13 : ∀ e, Z 13 e = Y 13 e) (h36 : ∀ e, 0 ≤ e → e < 28 → Z 36 (28 * s + e) = Y 36 (28 * s + e)) (h0 : 0 ≤ Y 8 (Y 5 (Y 5 k))) (h : VQ (m_op Y s) k) : VQ (m_op Z s) k := by
  refine VQ_c (Y := m_op Y s) (fun e => ?_) (fun e => ?_) (fun e => ?_) (fun e => ?_) (fun e => ?_) (fun e e1 e2 => ?_) ?_ h
  · rw [m_op_f (by decide), m_op_f (by decide), h5]
  · rw [m_op_f (by decide), m_op_f (by decide), h6]
  · rw [m_op_f (by decide), m_op_f (by decide), h7]
  · rw [m_op_f (by decide), m_op_f (by decide), h8]
  · rw [m_op_f (by decide), m_op_f (by decide), h13]
  · unfold m_op; rw [m_ov_i e1 e2, m_ov_i e1 e2]; exact h36 e e1 e2
  · rw [m_op_f (by decide), m_op_f (by decide), m_op_f (by decide)]; exact h0
theorem PQ_PV {Y : zY} {k s : Int} (h : PQ Y k) (s1 : 0 ≤ s) (s2 : s < m_sn Y) : PV Y k s := by
  obtain ⟨hR, hC, hK, hV⟩ := h
  have hsn : m_sn Y ≤ 2000 := by unfold m_sn; split <;> omega
  obtain ⟨a1, a2, ⟨a3, a4⟩, a5⟩ := hK
  exact ⟨hR, hC, a1, ⟨s1, by omega⟩, a2, ⟨a3, by rw [a4]; exact a3⟩, VQ_NV (RG_op hR) (hV s s1 s2)⟩
theorem sn_le {Y : zY} : m_sn Y ≤ Y 33 0 ∨ m_sn Y = 2000 := by unfold m_sn; split <;> omega
theorem PQ_1 {Y : zY} {k s w : Int} (h : PQ Y k) (s1 : 0 ≤ s) (s2 : s < m_sn Y) (w1 : 0 ≤ w) (w2 : w ≤ 3) (hn : Y 33 0 ≤ 2003) : PQ (m_g1 Y k s w) k ∧ m_sn Y ≤ m_sn (m_g1 Y k s w) ∧ Y 33 0 ≤ m_g1 Y k s w 33 0 ∧ m_g1 Y k s w 33 0 ≤ Y 33 0 + 1 := by
  have hs33 : s < Y 33 0 := by unfold m_sn at s2; split at s2 <;> omega
  obtain ⟨hPV, hb1, hb2⟩ := PV_1 (PQ_PV h s1 s2) w1 w2 hs33 hn
  obtain ⟨hR, hC, hK, hV⟩ := h
  have h80 : 0 ≤ Y 8 (Y 5 (Y 5 k)) := (hR 8 _).1
  refine ⟨⟨hPV.1, hPV.2.1, ?_, ?_⟩, ?_, hb1, hb2⟩
  · refine PK_c (fun e => ?_) (fun e => ?_) (fun e => ?_) (fun e => ?_) (fun e => ?_) hK <;> (unfold m_g1; split; rw [m_ke_f (by decide) (by decide) (by decide) (by decide), m_mv_f (by decide), m_op_f (by decide)]; rw [m_op_f (by decide)])
  · intro u u1 u2
    unfold m_g1 at u2 ⊢
    by_cases c : m_cm (m_op Y s) k w
    · rw [if_pos c] at u2 ⊢
      have v := fun (f : Nat) (e : Int) (hh : ¬ f = 38) => show m_mv (m_op Y s) k w f e = Y f e by rw [m_mv_f hh, m_op_f hh]
      have hK2 : PK (m_op Y s) k := PK_c (fun e => m_op_f (by decide)) (fun e => m_op_f (by decide)) (fun e => m_op_f (by decide)) (fun e => m_op_f (by decide)) (fun e => m_op_f (by decide)) hK
      have hVm := VQ_mv (RG_op hR) hK2 (hV s s1 s2) w1 w2 c
      have hsnm : m_sn (m_mv (m_op Y s) k w) = m_sn Y := by unfold m_sn; rw [v 33 _ (by decide)]
      have z := fun (f : Nat) (e : Int) (a : ¬ f = 36) (b : ¬ f = 40) (c : ¬ f = 39) (d : ¬ f = 33) (g : ¬ f = 38) => show m_ke (m_mv (m_op Y s) k w) f e = Y f e by rw [m_ke_f a b c d, v f e g]
      by_cases hu : u < m_sn Y
      · refine VQ_o (fun e => z 5 e (by decide) (by decide) (by decide) (by decide) (by decide)) (fun e => z 6 e (by decide) (by decide) (by decide) (by decide) (by decide)) (fun e => z 7 e (by decide) (by decide) (by decide) (by decide) (by decide)) (fun e => z 8 e (by decide) (by decide) (by decide) (by decide) (by decide)) (fun e => z 13 e (by decide) (by decide) (by decide) (by decide) (by decide)) (fun e e1 e2 => ?_) h80 (hV u u1 hu)
        rw [ke_36 u1 (by rw [hsnm]; exact hu) e1 e2, v 36 _ (by decide)]
      · generalize hD : m_mv (m_op Y s) k w = D at *
        by_cases hkp : m_kp D
        · unfold m_ke at u2
          rw [if_pos hkp, hsnm] at u2
          exact absurd u2 hu
        · by_cases h20 : D 33 0 < 2000
          · have hke : m_ke D = yu (yu (yu (m_ov D 36 (28 * D 33 0) (28 * D 33 0 + 28) (fun e => D 38 (e - 28 * D 33 0))) 40 (D 33 0) (D 39 (m_hn D))) 39 (m_hn D) (D 33 0)) 33 0 (D 33 0 + 1) := by
              unfold m_ke; rw [if_neg hkp, if_pos h20]
            have k33 : m_ke D 33 0 = D 33 0 + 1 := by rw [hke, yu_s]
            have hun : u = D 33 0 := by
              unfold m_sn at u2 hu hsnm
              rw [k33] at u2
              rw [if_pos h20] at hsnm
              rw [v 33 _ (by decide)] at h20 hsnm u2 ⊢
              rw [if_pos h20] at hu
              split at u2 <;> omega
            refine VQ_c (Y := D) (fun e => ?_) (fun e => ?_) (fun e => ?_) (fun e => ?_) (fun e => ?_) (fun e e1 e2 => ?_) ?_ hVm
            · rw [m_op_f (by decide), z 5 e (by decide) (by decide) (by decide) (by decide) (by decide), v 5 e (by decide)]
            · rw [m_op_f (by decide), z 6 e (by decide) (by decide) (by decide) (by decide) (by decide), v 6 e (by decide)]
            · rw [m_op_f (by decide), z 7 e (by decide) (by decide) (by decide) (by decide) (by decide), v 7 e (by decide)]
            · rw [m_op_f (by decide), z 8 e (by decide) (by decide) (by decide) (by decide) (by decide), v 8 e (by decide)]
            · rw [m_op_f (by decide), z 13 e (by decide) (by decide) (by decide) (by decide) (by decide), v 13 e (by decide)]
            · unfold m_op
              rw [m_ov_i e1 e2]
              show m_ke D 36 (28 * u + e) = D 38 e
              rw [hke, yu_f (by decide), yu_f (by decide), yu_f (by decide), hun, m_ov_i (by omega) (by omega)]
              show D 38 (28 * D 33 0 + e - 28 * D 33 0) = D 38 e
              rw [show 28 * D 33 0 + e - 28 * D 33 0 = e by omega]
            · rw [v 5 _ (by decide), v 5 _ (by decide), v 8 _ (by decide)]; exact h80
          · have hke : m_ke D = yu D 33 0 (D 33 0 + 1) := by unfold m_ke; rw [if_neg hkp, if_neg h20]
            unfold m_sn at u2 hu
            rw [hke, yu_s] at u2
            rw [v 33 _ (by decide)] at u2 h20
            rw [if_neg h20] at hu
            split at u2 <;> omega
    · rw [if_neg c] at u2 ⊢
      have hsnm : m_sn (m_op Y s) = m_sn Y := by unfold m_sn; rw [m_op_f (by decide)]
      rw [hsnm] at u2
      exact VQ_o (fun e => m_op_f (by decide)) (fun e => m_op_f (by decide)) (fun e => m_op_f (by decide)) (fun e => m_op_f (by decide)) (fun e => m_op_f (by decide)) (fun e e1 e2 => m_op_f (by decide)) h80 (hV u u1 u2)
  · unfold m_sn
    split <;> split <;> omega
theorem PQ_4 {Y : zY} {k s : Int} (h : PQ Y k) (s1 : 0 ≤ s) (s2 : s < m_sn Y) (hn : Y 33 0 ≤ 2000) : PQ (m_g4 Y k s) k ∧ m_sn Y ≤ m_sn (m_g4 Y k s) ∧ Y 33 0 ≤ m_g4 Y k s 33 0 ∧ m_g4 Y k s 33 0 ≤ Y 33 0 + 4 := by
  obtain ⟨p1, a0, a1, a2⟩ := PQ_1 h s1 s2 (w := 0) (by omega) (by omega) (by omega)
  obtain ⟨p2, b0, b1, b2⟩ := PQ_1 p1 s1 (by omega) (w := 1) (by omega) (by omega) (by omega)
  obtain ⟨p3, c0, c1, c2⟩ := PQ_1 p2 s1 (by omega) (w := 2) (by omega) (by omega) (by omega)
  obtain ⟨p4, d0, d1, d2⟩ := PQ_1 p3 s1 (by omega) (w := 3) (by omega) (by omega) (by omega)
  exact ⟨p4, by unfold m_g4; omega, by unfold m_g4; omega, by unfold m_g4; omega⟩
/-- rows 34, 35, 37, 38 are nothing to it -/
theorem PQ_r {Y Z : zY} {k : Int} (h : PQ Y k) (hR : RG Z) (hf : ∀ (f : Nat) (e : Int), ¬ f = 34 → ¬ f = 35 → ¬ f = 37 → ¬ f = 38 → Z f e = Y f e) : PQ Z k := by
  obtain ⟨hR0, hC, hK, hV⟩ := h
  have h80 : 0 ≤ Y 8 (Y 5 (Y 5 k)) := (hR0 8 _).1
  refine ⟨hR, CI_c (hf 33 0 (by decide) (by decide) (by decide) (by decide)) (fun e => hf 36 e (by decide) (by decide) (by decide) (by decide)) (fun e => hf 39 e (by decide) (by decide) (by decide) (by decide)) (fun e => hf 40 e (by decide) (by decide) (by decide) (by decide)) hC, PK_c (fun e => hf 5 e (by decide) (by decide) (by decide) (by decide)) (fun e => hf 6 e (by decide) (by decide) (by decide) (by decide)) (fun e => hf 7 e (by decide) (by decide) (by decide) (by decide)) (fun e => hf 8 e (by decide) (by decide) (by decide) (by decide)) (fun e => hf 13 e (by decide) (by decide) (by decide) (by decide)) hK, fun s s1 s2 => ?_⟩
  have e : m_sn Z = m_sn Y := by unfold m_sn; rw [hf 33 0 (by decide) (by decide) (by decide) (by decide)]
  rw [e] at s2
  exact VQ_o (fun e => hf 5 e (by decide) (by decide) (by decide) (by decide)) (fun e => hf 6 e (by decide) (by decide) (by decide) (by decide)) (fun e => hf 7 e (by decide) (by decide) (by decide) (by decide)) (fun e => hf 8 e (by decide) (by decide) (by decide) (by decide)) (fun e => hf 13 e (by decide) (by decide) (by decide) (by decide)) (fun e _ _ => hf 36 _ (by decide) (by decide) (by decide) (by decide)) h80 (hV s s1 s2)
theorem RG_ai {s : Int} (s1 : 0 ≤ s) (s2 : s ≤ 2000) : ∀ (i : Nat) (Y : zY), RG Y → RG (m_ai s i Y) := by
  intro i
  induction i with
  | zero => intro Y h; exact RG_u h s1 s2
  | succ i ih =>
    intro Y h
    unfold m_ai
    split
    · exact RG_u h s1 s2
    · exact ih _ (RG_u h (h 37 _).1 (h 37 _).2)
theorem PQ_gf {Y : zY} {k s : Int} (h : PQ Y k) (s1 : 0 ≤ s) (s2 : s < m_sn Y) (hn : Y 33 0 ≤ 2000) (he : Y 34 0 ≤ s) (h35 : Y 35 0 ≤ s) : PQ (m_gf Y k s) k ∧ m_sn Y ≤ m_sn (m_gf Y k s) ∧ m_gf Y k s 33 0 = m_g4 Y k s 33 0 ∧ m_gf Y k s 34 0 ≤ s + 1 ∧ m_gf Y k s 35 0 ≤ s + 1 := by
  obtain ⟨hP4, a1, a2, a3⟩ := PQ_4 h s1 s2 hn
  have hsn : m_sn Y ≤ 2000 := by unfold m_sn; split <;> omega
  have hR4 := RG_op (s := s) hP4.1
  have e34 : m_op (m_g4 Y k s) s 34 0 = Y 34 0 := by rw [m_op_f (by decide), g4_f (by decide) (by decide) (by decide) (by decide) (by decide)]
  have e35 : m_op (m_g4 Y k s) s 35 0 = Y 35 0 := by rw [m_op_f (by decide), g4_f (by decide) (by decide) (by decide) (by decide) (by decide)]
  have h34 : 0 ≤ Y 34 0 := (h.1 34 0).1
  have h350 : 0 ≤ Y 35 0 := (h.1 35 0).1
  unfold m_gf
  split
  · have hf : ∀ (f : Nat) (e : Int), ¬ f = 34 → ¬ f = 35 → ¬ f = 37 → ¬ f = 38 → m_ae (m_op (m_g4 Y k s) s) s f e = m_g4 Y k s f e := by
      intro f e b1 b2 b3 b4
      unfold m_ae
      rw [yu_f b1, m_ai_f b3, m_op_f b4]
    have f33 := hf 33 0 (by decide) (by decide) (by decide) (by decide)
    refine ⟨PQ_r hP4 (RG_u (RG_ai s1 (by omega) _ _ hR4) (by show 0 ≤ _; omega) (by show _ ≤ 2000; omega)) hf, by unfold m_sn at a1 ⊢; rw [f33]; exact a1, f33, ?_, ?_⟩
    · unfold m_ae; rw [yu_s]; omega
    · unfold m_ae; rw [yu_f (by decide), m_ai_f (by decide)]; omega
  split
  · have hf : ∀ (f : Nat) (e : Int), ¬ f = 34 → ¬ f = 35 → ¬ f = 37 → ¬ f = 38 → yu (m_op (m_g4 Y k s) s) 35 0 (m_op (m_g4 Y k s) s 35 0 + 1) f e = m_g4 Y k s f e := by
      intro f e b1 b2 b3 b4
      rw [yu_f b2, m_op_f b4]
    have f33 := hf 33 0 (by decide) (by decide) (by decide) (by decide)
    refine ⟨PQ_r hP4 (RG_u hR4 (by show 0 ≤ _; omega) (by show _ ≤ 100000000; omega)) hf, by unfold m_sn at a1 ⊢; rw [f33]; exact a1, f33, ?_, ?_⟩
    · rw [yu_f (by decide)]; omega
    · rw [yu_s]; omega
  · have f33 : m_op (m_g4 Y k s) s 33 0 = m_g4 Y k s 33 0 := m_op_f (by decide)
    exact ⟨PQ_r hP4 hR4 (fun f e _ _ _ b4 => m_op_f b4), by unfold m_sn at a1 ⊢; rw [f33]; exact a1, f33, by omega, by omega⟩
/-- at the start -/
def m_l00 (Y : zY) (k : Int) : zY := m_ov (m_ov (yu (yu (yu (yu Y 32 0 k) 33 0 0) 34 0 0) 35 0 0) 39 0 2003 (fun _ => -1)) 38 0 28 (fun _ => 0)
theorem m_l00_f {Y : zY} {k e : Int} {f : Nat} (h : ¬ f = 32) (h1 : ¬ f = 33) (h2 : ¬ f = 34) (h3 : ¬ f = 35) (h4 : ¬ f = 39) (h5 : ¬ f = 38) : m_l00 Y k f e = Y f e := by
  unfold m_l00
  rw [m_ov_f h5, m_ov_f h4, yu_f h3, yu_f h2, yu_f h1, yu_f h]
theorem l00_r {Y : zY} {k : Int} (hR : RG Y) (k1 : 0 ≤ k) (k2 : k ≤ 60) : RG (m_l00 Y k) ∧ CI (m_l00 Y k) ∧ m_l00 Y k 33 0 = 0 ∧ m_l00 Y k 34 0 = 0 ∧ m_l00 Y k 35 0 = 0 := by
  have h33 : m_l00 Y k 33 0 = 0 := by unfold m_l00; rw [m_ov_f (by decide), m_ov_f (by decide), yu_f (by decide), yu_f (by decide), yu_s]
  have hsn : m_sn (m_l00 Y k) = 0 := by unfold m_sn; rw [h33]; rfl
  have h39 : ∀ c, 0 ≤ c → c < 2003 → m_l00 Y k 39 c = -1 := by
    intro c c1 c2
    unfold m_l00
    rw [m_ov_f (by decide), m_ov_i c1 c2]
  refine ⟨RG_ov (RG_ov (RG_u (RG_u (RG_u (RG_u hR k1 k2) (by decide) (by decide)) (by decide) (by decide)) (by decide) (by decide)) (fun _ _ _ => ⟨by decide, by decide⟩)) (fun _ _ _ => ⟨by decide, by decide⟩), ⟨fun c c1 c2 => ?_, fun t t1 t2 => ?_⟩, h33, ?_, ?_⟩
  · rw [h39 c c1 c2, hsn]
    exact ⟨by omega, by omega, by omega⟩
  · rw [hsn] at t2; omega
  · unfold m_l00; rw [m_ov_f (by decide), m_ov_f (by decide), yu_f (by decide), yu_s]
  · unfold m_l00; rw [m_ov_f (by decide), m_ov_f (by decide), yu_s]
