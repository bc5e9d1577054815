/-! EXPLORING: stores let go; what holds of every vector -/
section
variable {Y : zY} {k w e n i tl n' tl' : Int} {v u f : Int → Int} {G G' : Int → Int → Int}
theorem mv_psi2 (hR : RG Y) (hv : CV Y k v) (hw : w = 0 ∨ w = 1) (hc : 1 ≤ v (18 + w)) : eqv (mvv Y k (w + 2) (psi Y k v)) (psi Y k (sv v w)) := by
  obtain ⟨⟨c1, c2⟩, c3, c4⟩ := (CV_cw hv).2.2 w hw
  have b8 : Y 8 (Y 5 (Y 5 k)) ≤ 8 := (hR 8 _).2
  have e18 : sr Y (psi Y k v) 38 (18 + 5 * w) = v (18 + w) := psi_18 hw
  have hx : ∀ i, 0 ≤ i → i ≤ 3 → sr Y (psi Y k v) 38 (18 + 5 * w + 1 + i) = v (20 + i + w * 4) := by
    intro i a b
    rw [sr_38, psi_e (by omega) (by omega)]
    rcases hw with rfl | rfl
    · rw [kx_r (by omega), show (18 : Int) + 5 * 0 + 1 + i + 1 = 20 + i + 0 * 4 by omega]
    · rw [kx_i (by omega), show (18 : Int) + 5 * 1 + 1 + i = 20 + i + 1 * 4 by omega]
  have x1 : sr Y (psi Y k v) 38 (18 + 5 * w + 1) = v (20 + w * 4) := by
    have := hx 0 (by omega) (by omega)
    rw [Int.add_zero, Int.add_zero] at this
    exact this
  have x2 : sr Y (psi Y k v) 38 (18 + 5 * w + 2) = v (21 + w * 4) := by
    have := hx 1 (by omega) (by omega)
    rw [show 18 + 5 * w + 1 + 1 = 18 + 5 * w + 2 by omega] at this
    exact this
  have x3 : sr Y (psi Y k v) 38 (18 + 5 * w + 3) = v (22 + w * 4) := by
    have := hx 2 (by omega) (by omega)
    rw [show 18 + 5 * w + 1 + 2 = 18 + 5 * w + 3 by omega] at this
    exact this
  have x4 : sr Y (psi Y k v) 38 (18 + 5 * w + 4) = v (23 + w * 4) := by
    have := hx 3 (by omega) (by omega)
    rw [show 18 + 5 * w + 1 + 3 = 18 + 5 * w + 4 by omega] at this
    exact this
  have hz : v (18 + w) = 1 → v (22 + w * 4) = 0 ∧ v (23 + w * 4) = 0 := by
    intro hh
    have q : sr Y (psi Y k v) 38 (18 + 5 * w) ≤ 1 → sr Y (psi Y k v) 38 (18 + 5 * w + 3) = 0 ∧ sr Y (psi Y k v) 38 (18 + 5 * w + 4) = 0 := (hv.2.1.2.2.2 w (by omega) (by omega)).2.2.2.2.2.2
    rw [e18, x3, x4] at q
    exact q (by omega)
  have hl : ∀ j, 0 ≤ j → j < 28 → m_l1 (sr Y (psi Y k v)) w 38 j = psi Y k (sv v w) j := by
    intro j j1 j2
    unfold m_l1
    rw [e18, x1, x2, x3, x4, yu_e, yu_e, yu_e, yu_e, yu_e, yu_e, sr_38]
    by_cases c : j < 2
    · have hj : j = 0 ∨ j = 1 := by omega
      rw [if_neg (by omega), if_neg (by omega), if_neg (by omega), if_neg (by omega), if_neg (by omega), if_neg (by omega), psi_w hj, psi_w hj]
      have e9 : sv v w j = v j := by unfold sv; rw [vu_n (by omega), vu_n (by omega), vu_n (by omega), vu_n (by omega), vu_n (by omega), vu_n (by omega)]
      rw [e9]
    · rw [psi_e (by omega) j2, psi_e (by omega) j2]
      have i0 : kx j = 18 + w ↔ j = 18 + 5 * w := by unfold kx; split; omega; split <;> omega
      have i4 : kx j = 23 + w * 4 ↔ j = 18 + 5 * w + 4 := by unfold kx; split; omega; split <;> omega
      have i3 : kx j = 22 + w * 4 ↔ j = 18 + 5 * w + 3 := by unfold kx; split; omega; split <;> omega
      have i2 : kx j = 21 + w * 4 ↔ j = 18 + 5 * w + 2 := by unfold kx; split; omega; split <;> omega
      have i1 : kx j = 20 + w * 4 ↔ j = 18 + 5 * w + 1 := by unfold kx; split; omega; split <;> omega
      have im : kx j = 10 + v (20 + w * 4) ↔ j = 10 + v (20 + w * 4) := by unfold kx; split; omega; split <;> omega
      unfold sv vu
      simp only [i0, i1, i2, i3, i4, im]
  intro j j1 j2
  unfold mvv m_mv
  rw [if_neg (by omega), show w + 2 - 2 = w by omega]
  unfold m_lg
  rw [e18]
  by_cases c : v (18 + w) - 1 = 0
  · rw [if_pos c]
    obtain ⟨z1, z2⟩ := hz (by omega)
    rw [yu_e, yu_e]
    by_cases d1 : j = 18 + 5 * w + 2
    · rw [if_pos d1, ← hl j j1 j2, d1]
      unfold m_l1
      rw [yu_n (by omega), yu_n (by omega), yu_n (by omega), yu_s, x4, z2]
    · rw [if_neg d1]
      by_cases d2 : j = 18 + 5 * w + 1
      · rw [if_pos d2, ← hl j j1 j2, d2]
        unfold m_l1
        rw [yu_n (by omega), yu_n (by omega), yu_n (by omega), yu_n (by omega), yu_s, x3, z1]
      · rw [if_neg d2]; exact hl j j1 j2
  · rw [if_neg c]; exact hl j j1 j2
theorem RG_sr (hR : RG Y) (hf : ∀ e, 0 ≤ f e ∧ f e ≤ 4294967295) : RG (sr Y f) := by
  intro g e
  by_cases h : g = 38
  · rw [h, sr_38]; exact hf e
  · rw [sr_f h]; exact hR g e
theorem Vd_mv (hR : RG Y) (hK : PK Y k) (hf : ∀ e, 0 ≤ f e ∧ f e ≤ 4294967295) (hv : Vd Y k f) (w1 : 0 ≤ w) (w2 : w ≤ 3) (hc : m_cm (sr Y f) k w) : Vd Y k (mvv Y k w f) := by
  have hRf := RG_sr hR hf
  have hKf : PK (sr Y f) k := hK
  have h1 := VQ_mv hRf hKf hv.1 w1 w2 hc
  have h2 := RG_mv hRf w1 w2 hc hK.2.1 (VQ_NV hRf hv.1)
  have e : ∀ (g : Nat) (e : Int), ¬ g = 38 → sr Y (mvv Y k w f) g e = m_mv (sr Y f) k w g e := fun g e hg => by rw [sr_f hg, m_mv_f hg, sr_f hg]
  refine ⟨VQ_c (Y := m_mv (sr Y f) k w) (fun i => e 5 i (by decide)) (fun i => e 6 i (by decide)) (fun i => e 7 i (by decide)) (fun i => e 8 i (by decide)) (fun i => e 13 i (by decide)) (fun _ _ _ => rfl) (h2 8 _).1 h1, fun j _ _ => h2 38 j⟩
theorem psi_b (hv : CV Y k v) : ∀ e, 0 ≤ psi Y k v e ∧ psi Y k v e ≤ 4294967295 := by
  intro e
  by_cases c : 0 ≤ e ∧ e < 28
  · exact hv.2.2 e c.1 c.2
  · unfold psi
    rw [if_neg c]
    omega
theorem CV_nv (hR : RG Y) (hK : PK Y k) (hv : CV Y k v) (hw : w = 0 ∨ w = 1) (hc : cw Y k v w) : CV Y k (nv Y k v w) := by
  have hsz : 0 < Y 13 (m_pa Y k w) := by
    unfold m_pa
    split
    · exact hK.2.1.1
    · exact hK.2.1.2
  refine ⟨fun j hj => ?_, Vd_q (hR 8 _).1 (mv_psi hR hK hv hw hc) (Vd_mv hR hK (psi_b hv) hv.2 (by omega) (by omega) ((cm_psi hv hw).mpr hc))⟩
  unfold nv
  by_cases cj : j = w
  · rw [cj, vu_s]
    have h1 := hv.1 w hw
    have := mod_b (v := Y 18 (q_k Y k v w)) hsz
    unfold fo
    split
    · omega
    · split
      · omega
      · omega
  · rw [vu_n cj]
    have d1 : 0 ≤ Y 15 (q_k Y k v w) := (hR 15 _).1
    have hm := mod_b (v := v (2 + w * 4 + Y 16 (q_k Y k v w))) hK.2.2.1.1
    have c1 := ((CV_cw hv).2.2 w hw).1
    have e1 : pv v w (Y 14 (q_k Y k v w)) (Y 15 (q_k Y k v w)) (v (2 + w * 4 + Y 16 (q_k Y k v w))) (v (2 + w * 4 + Y 17 (q_k Y k v w))) (Y 18 (q_k Y k v w)) (Y 7 (Y 5 (Y 5 k))) (Y 8 (Y 5 (Y 5 k))) (Y 12 k) j = v j := by
      unfold pv
      split
      · exact vu_n (by omega)
      · split
        · exact vu_n (by omega)
        · split
          · split
            · rw [vu_n (by omega), vu_n (by omega), vu_n (by omega)]
            · exact vu_n (by omega)
          · rfl
    rw [e1]
    exact hv.1 j hj
theorem CV_sv (hR : RG Y) (hK : PK Y k) (hv : CV Y k v) (hw : w = 0 ∨ w = 1) (hc : 1 ≤ v (18 + w)) : CV Y k (sv v w) := by
  refine ⟨fun j hj => ?_, Vd_q (hR 8 _).1 (mv_psi2 hR hv hw hc) (Vd_mv hR hK (psi_b hv) hv.2 (by omega) (by omega) ((cm_psi2 hw hv).mpr hc))⟩
  have c1 := ((CV_cw hv).2.2 w hw).2
  have e9 : sv v w j = v j := by unfold sv; rw [vu_n (by omega), vu_n (by omega), vu_n (by omega), vu_n (by omega), vu_n (by omega), vu_n (by omega)]
  rw [e9]
  exact hv.1 j hj
/-- an end is an end -/
theorem ie_psi (hv : CV Y k v) : m_ie (sr Y (psi Y k v)) k ↔ ce v := by
  have e : m_ie (sr Y (psi Y k v)) k ↔ (psi Y k v 0 = Y 13 (Y 5 k) ∧ psi Y k v 1 = Y 13 (Y 6 k) ∧ psi Y k v 18 = 0 ∧ psi Y k v 23 = 0) := Iff.rfl
  have h0 := hv.1 0 (.inl rfl)
  have h1 := hv.1 1 (.inr rfl)
  have p0 : m_pa Y k 0 = Y 5 k := rfl
  have p1 : m_pa Y k 1 = Y 6 k := rfl
  rw [e, psi_w (.inl rfl), psi_w (.inr rfl), psi_e (by omega) (by omega), psi_e (by omega) (by omega), kx_i (by omega), kx_23, p0, p1]
  rw [p0] at h0
  rw [p1] at h1
  unfold ce
  constructor
  · rintro ⟨a, b, c, d⟩
    refine ⟨?_, ?_, c, d⟩
    · split at a <;> omega
    · split at b <;> omega
  · rintro ⟨a, b, c, d⟩
    rw [if_pos a, if_pos b]
    exact ⟨rfl, rfl, c, d⟩
theorem bf_psi (hR : RG Y) (hu : CV Y k u) (hv : CV Y k v) : m_bf u v (8 + Y 8 (Y 5 (Y 5 k))).toNat 2 = m_bf (psi Y k u) (psi Y k v) 16 2 := by
  have h8 : 0 ≤ Y 8 (Y 5 (Y 5 k)) ∧ Y 8 (Y 5 (Y 5 k)) ≤ 8 := hR 8 _
  have e1 : m_bf (psi Y k u) (psi Y k v) 16 2 = m_bf u v 16 2 := bf_c 16 2 (fun e a b => ⟨by rw [psi_e (by omega) (by omega), kx_i (by omega)], by rw [psi_e (by omega) (by omega), kx_i (by omega)]⟩)
  have e2 : (16 : Nat) = (8 + Y 8 (Y 5 (Y 5 k))).toNat + (8 - Y 8 (Y 5 (Y 5 k))).toNat := by omega
  rw [e1]
  conv => rhs; rw [e2]
  refine (bf_a _ (fun e a b => ?_)).symm
  have z1 : psi Y k u e = 0 := hu.2.1.2.2.1 e (by show 10 + Y 8 (Y 5 (Y 5 k)) ≤ e; omega) (by omega)
  have z2 : psi Y k v e = 0 := hv.2.1.2.2.1 e (by show 10 + Y 8 (Y 5 (Y 5 k)) ≤ e; omega) (by omega)
  rw [psi_e (by omega) (by omega), kx_i (by omega)] at z1 z2
  rw [z1, z2]
/-- where nothing can be done, there is an end -/
theorem no_move (hv : CV Y k v) (h0 : ¬ cw Y k v 0) (h1 : ¬ cw Y k v 1) (s0 : ¬ 1 ≤ v 18) (s1' : ¬ 1 ≤ v 19) : ce v := by
  have q0 := ((CV_cw hv).2.2 0 (.inl rfl)).1
  have q1 := ((CV_cw hv).2.2 1 (.inr rfl)).1
  have q0' : 0 ≤ v 18 := q0.1
  have q1' : 0 ≤ v 19 := q1.1
  refine ⟨?_, ?_, by omega, by omega⟩
  · false_or_by_contra
    rename_i hh
    refine h0 ⟨hh, fun ⟨_, _, z⟩ => ?_⟩
    have : 2 ≤ v 18 := z
    omega
  · false_or_by_contra
    rename_i hh
    refine h1 ⟨hh, fun ⟨_, _, z⟩ => ?_⟩
    have : 2 ≤ v 19 := z
    omega
theorem end_no (h : ce v) : ¬ cw Y k v 0 ∧ ¬ cw Y k v 1 ∧ ¬ 1 ≤ v 18 ∧ ¬ 1 ≤ v 19 := by
  obtain ⟨a, b, c, d⟩ := h
  exact ⟨fun hh => hh.1 a, fun hh => hh.1 b, by omega, by omega⟩
/-- keeping, as the model's vectors see it -/
theorem KO_psi (hG : ∀ i, 0 ≤ i → i < n → CV Y k (G i)) (hv : CV Y k v) (h : KO G n tl v G' n' tl') : KO (fun i => psi Y k (G i)) n tl (psi Y k v) (fun i => psi Y k (G' i)) n' tl' := by
  rcases h with ⟨rfl, rfl, rfl, j, j1, j2, j3⟩ | ⟨hn, hh⟩
  · exact .inl ⟨rfl, rfl, rfl, j, j1, j2, psi_c j3⟩
  · refine .inr ⟨fun ⟨i, i1, i2, i3⟩ => hn ⟨i, i1, i2, psi_inj (hG i i1 i2) hv i3⟩, ?_⟩
    rcases hh with ⟨a, rfl, b, d⟩ | ⟨a, rfl, b, d⟩
    · refine .inl ⟨a, ?_, b, d⟩
      funext i
      unfold gu
      by_cases c : i = n
      · rw [if_pos c, if_pos c]
      · rw [if_neg c, if_neg c]
    · exact .inr ⟨a, rfl, b, d⟩
theorem KO_cv (hG : ∀ i, 0 ≤ i → i < n → CV Y k (G i)) (hv : CV Y k v) (h : KO G n tl v G' n' tl') : ∀ i, 0 ≤ i → i < n' → CV Y k (G' i) := by
  intro i i1 i2
  rcases h with ⟨rfl, rfl, rfl, -⟩ | ⟨-, ⟨a, rfl, rfl, d⟩ | ⟨a, rfl, rfl, d⟩⟩
  · exact hG i i1 i2
  · unfold gu
    by_cases c : i = n
    · rw [if_pos c]; exact hv
    · rw [if_neg c]; exact hG i i1 (by omega)
  · exact hG i i1 i2
end
