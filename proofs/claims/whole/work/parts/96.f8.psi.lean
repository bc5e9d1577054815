/-! EXPLORING: the class's vectors as the model's -/
def kx (e : Int) : Int := if e = 23 then 19 else if 19 ≤ e ∧ e ≤ 22 then e + 1 else e
def psi (Y : zY) (k : Int) (v : Int → Int) : Int → Int := fun e => if 0 ≤ e ∧ e < 28 then (if e < 2 then (if v e = -1 then Y 13 (m_pa Y k e) else v e) else v (kx e)) else 0
def CV (Y : zY) (k : Int) (v : Int → Int) : Prop := (∀ w, w = 0 ∨ w = 1 → -1 ≤ v w ∧ v w < Y 13 (m_pa Y k w)) ∧ Vd Y k (psi Y k v)
section
variable {Y : zY} {k w e : Int} {v u f : Int → Int}
theorem psi_w (hw : w = 0 ∨ w = 1) : psi Y k v w = if v w = -1 then Y 13 (m_pa Y k w) else v w := by
  unfold psi
  rw [if_pos (by omega), if_pos (by omega)]
theorem psi_e (h1 : 2 ≤ e) (h2 : e < 28) : psi Y k v e = v (kx e) := by
  unfold psi
  rw [if_pos (by omega), if_neg (by omega)]
theorem kx_i (h : e ≤ 18 ∨ 24 ≤ e) : kx e = e := by unfold kx; rw [if_neg (by omega), if_neg (by omega)]
theorem kx_r (h : 19 ≤ e ∧ e ≤ 22) : kx e = e + 1 := by unfold kx; rw [if_neg (by omega), if_pos h]
theorem kx_23 : kx 23 = 19 := rfl
theorem psi_inj (hu : CV Y k u) (hv : CV Y k v) (h : eqv (psi Y k u) (psi Y k v)) : eqv u v := by
  intro e e1 e2
  by_cases c : e < 2
  · have h1 := h e e1 e2
    have hw : e = 0 ∨ e = 1 := by omega
    rw [psi_w hw, psi_w hw] at h1
    have a1 := hu.1 e hw
    have a2 := hv.1 e hw
    split at h1 <;> split at h1 <;> omega
  · have hx : ∃ j, 2 ≤ j ∧ j < 28 ∧ kx j = e := by
      by_cases c1 : e = 19
      · exact ⟨23, by omega, by omega, by rw [c1]; rfl⟩
      · by_cases c2 : 20 ≤ e ∧ e ≤ 23
        · exact ⟨e - 1, by omega, by omega, by rw [kx_r (by omega)]; omega⟩
        · exact ⟨e, by omega, by omega, kx_i (by omega)⟩
    obtain ⟨j, j1, j2, j3⟩ := hx
    have h1 := h j (by omega) j2
    rw [psi_e j1 j2, psi_e j1 j2, j3] at h1
    exact h1
theorem psi_c (h : eqv u v) : eqv (psi Y k u) (psi Y k v) := by
  intro e e1 e2
  by_cases c : e < 2
  · have hw : e = 0 ∨ e = 1 := by omega
    rw [psi_w hw, psi_w hw, h e e1 e2]
  · rw [psi_e (by omega) e2, psi_e (by omega) e2]
    refine h _ ?_ ?_
    · unfold kx; split; omega; split <;> omega
    · unfold kx; split; omega; split <;> omega
theorem CV_cw (hv : CV Y k v) : CW Y k v := by
  obtain ⟨h1, ⟨-, h3, -, h5⟩, h6⟩ := hv
  refine ⟨h1, fun e a b => ?_, fun w hw => ?_⟩
  · have q := h6 e (by omega) (by omega)
    have q2 : psi Y k v e < p2 (Y 7 (Y 5 (Y 5 k))) := h3 e a b
    rw [psi_e a (by omega), kx_i (by omega)] at q q2
    exact ⟨q.1, q2⟩
  · obtain ⟨r1, r2, -⟩ := h5 w (by omega) (by omega)
    have r1' : psi Y k v (18 + 5 * w) ≤ 2 := r1
    have r2' : psi Y k v (18 + 5 * w + 1) < Y 8 (Y 5 (Y 5 k)) := r2
    have q := h6 (18 + 5 * w) (by omega) (by omega)
    have q' := h6 (18 + 5 * w + 1) (by omega) (by omega)
    rw [psi_e (by omega) (by omega)] at q q' r1' r2'
    rcases hw with rfl | rfl
    · exact ⟨⟨q.1, r1'⟩, q'.1, r2'⟩
    · exact ⟨⟨q.1, r1'⟩, q'.1, r2'⟩
theorem psi_18 (hw : w = 0 ∨ w = 1) : psi Y k v (18 + 5 * w) = v (18 + w) := by
  rw [psi_e (by omega) (by omega)]
  rcases hw with rfl | rfl <;> rfl
theorem cm_psi (hv : CV Y k v) (hw : w = 0 ∨ w = 1) : m_cm (sr Y (psi Y k v)) k w ↔ cw Y k v w := by
  have h1 := hv.1 w hw
  have h2 := ((CV_cw hv).2.2 w hw).1
  have e1 : m_dc (sr Y (psi Y k v)) k w ↔ (¬ psi Y k v w = Y 13 (m_pa Y k w) ∧ ¬ (Y 14 (24 * m_pa Y k w + psi Y k v w) = 5 ∧ Y 12 k = 1 ∧ psi Y k v (18 + 5 * w) = 2)) := Iff.rfl
  unfold m_cm
  rw [if_pos (by omega), e1, psi_w hw, psi_18 hw]
  unfold cw q_k
  by_cases c : v w = -1
  · rw [if_pos c]
    constructor
    · intro hh; exact absurd rfl hh.1
    · intro hh; exact absurd c hh.1
  · rw [if_neg c]
    constructor
    · rintro ⟨-, hh⟩; exact ⟨c, fun ⟨x, y, z⟩ => hh ⟨x, y, by omega⟩⟩
    · rintro ⟨-, hh⟩; exact ⟨by omega, fun ⟨x, y, z⟩ => hh ⟨x, y, by omega⟩⟩
theorem cm_psi2 (hw : w = 0 ∨ w = 1) (hv : CV Y k v) : m_cm (sr Y (psi Y k v)) k (w + 2) ↔ 1 ≤ v (18 + w) := by
  have h2 := ((CV_cw hv).2.2 w hw).1
  unfold m_cm
  rw [if_neg (by omega), show w + 2 - 2 = w by omega, sr_38, psi_18 hw]
  omega
theorem se_psi {a : Int} (hv : CV Y k v) (hw : w = 0 ∨ w = 1) (a1 : 0 ≤ a) (a2 : a < 8) : m_se (sr Y (psi Y k v)) w a = ld v w a := by
  have h2 := ((CV_cw hv).2.2 w hw).1
  have e10 : sr Y (psi Y k v) 38 (10 + a) = v (10 + a) := by rw [sr_38, psi_e (by omega) (by omega), kx_i (by omega)]
  have e18 : sr Y (psi Y k v) 38 (18 + 5 * w) = v (18 + w) := psi_18 hw
  have hx : ∀ i, 0 ≤ i → i ≤ 3 → sr Y (psi Y k v) 38 (18 + 5 * w + 1 + i) = v (20 + i + w * 4) := by
    intro i a b
    rw [sr_38, psi_e (by omega) (by omega)]
    rcases hw with rfl | rfl
    · rw [kx_r (by omega), show (18 : Int) + 5 * 0 + 1 + i + 1 = 20 + i + 0 * 4 by omega]
    · rw [kx_i (by omega), show (18 : Int) + 5 * 1 + 1 + i = 20 + i + 1 * 4 by omega]
  have x1 : sr Y (psi Y k v) 38 (18 + 5 * w + 1) = v (20 + w * 4) := by
    have := hx 0 (by omega) (by omega)
    rw [Int.add_zero, Int.add_zero] at this
    exact this
  have x2 : sr Y (psi Y k v) 38 (18 + 5 * w + 2) = v (21 + w * 4) := by
    have := hx 1 (by omega) (by omega)
    rw [show 18 + 5 * w + 1 + 1 = 18 + 5 * w + 2 by omega] at this
    exact this
  have x3 : sr Y (psi Y k v) 38 (18 + 5 * w + 1 + 2) = v (22 + w * 4) := hx 2 (by omega) (by omega)
  have x4 : sr Y (psi Y k v) 38 (18 + 5 * w + 2 + 2) = v (23 + w * 4) := by
    have := hx 3 (by omega) (by omega)
    rw [show 18 + 5 * w + 1 + 3 = 18 + 5 * w + 2 + 2 by omega] at this
    exact this
  unfold m_se ld
  rw [x3, x4, x1, x2, e10, e18]
theorem yu_vu {f u : Int → Int} {i i' x j : Int} (h : f j = u (kx j)) (hi : kx j = i' ↔ j = i) : yu (sr Y f) 38 i x 38 j = vu u i' x (kx j) := by
  rw [yu_e, sr_38]
  unfold vu
  by_cases c : j = i
  · rw [if_pos c, if_pos (hi.mpr c)]
  · rw [if_neg c, if_neg (fun hh => c (hi.mp hh)), h]
theorem mv_psi (hR : RG Y) (hK : PK Y k) (hv : CV Y k v) (hw : w = 0 ∨ w = 1) (hc : cw Y k v w) : eqv (mvv Y k w (psi Y k v)) (psi Y k (nv Y k v w)) := by
  obtain ⟨K1, ⟨K2, K3⟩, ⟨K4, K5⟩, K6⟩ := hK
  have hcw := CV_cw hv
  have h1 := hv.1 w hw
  obtain ⟨⟨h2, h2'⟩, h3, h3'⟩ := hcw.2.2 w hw
  have hpw : psi Y k v w = v w := by rw [psi_w hw, if_neg hc.1]
  have hdk : m_dk (sr Y (psi Y k v)) k w = q_k Y k v w := by
    show 24 * m_pa Y k w + psi Y k v w = _
    rw [hpw]
  obtain ⟨x1, x2⟩ : 0 ≤ Y 16 (q_k Y k v w) ∧ Y 16 (q_k Y k v w) ≤ 3 := hR 16 _
  obtain ⟨y1, y2⟩ : 0 ≤ Y 17 (q_k Y k v w) ∧ Y 17 (q_k Y k v w) ≤ 3 := hR 17 _
  obtain ⟨d1, d2⟩ : 0 ≤ Y 15 (q_k Y k v w) ∧ Y 15 (q_k Y k v w) ≤ 3 := hR 15 _
  obtain ⟨o1, o2⟩ : 0 ≤ Y 14 (q_k Y k v w) ∧ Y 14 (q_k Y k v w) ≤ 7 := hR 14 _
  have b8 : Y 8 (Y 5 (Y 5 k)) ≤ 8 := (hR 8 _).2
  have b7 : 0 ≤ Y 7 (Y 5 (Y 5 k)) ∧ Y 7 (Y 5 (Y 5 k)) ≤ 32 := hR 7 _
  have h5 : Y 5 (m_pa Y k w) = Y 5 (Y 5 k) := by
    unfold m_pa
    split
    · rfl
    · exact K5
  have hsz : 0 < Y 13 (m_pa Y k w) := by
    unfold m_pa
    split
    · exact K2
    · exact K3
  have hx : m_dx (sr Y (psi Y k v)) k w = v (2 + w * 4 + Y 16 (q_k Y k v w)) := by
    unfold m_dx
    rw [hdk]
    show psi Y k v (2 + 4 * w + Y 16 (q_k Y k v w)) = _
    rw [psi_e (by omega) (by omega), kx_i (by omega), show 2 + 4 * w + Y 16 (q_k Y k v w) = 2 + w * 4 + Y 16 (q_k Y k v w) by omega]
  have hy : m_dy (sr Y (psi Y k v)) k w = v (2 + w * 4 + Y 17 (q_k Y k v w)) := by
    unfold m_dy
    rw [hdk]
    show psi Y k v (2 + 4 * w + Y 17 (q_k Y k v w)) = _
    rw [psi_e (by omega) (by omega), kx_i (by omega), show 2 + 4 * w + Y 17 (q_k Y k v w) = 2 + w * 4 + Y 17 (q_k Y k v w) by omega]
  have hl := hcw.2.1 (2 + w * 4 + Y 16 (q_k Y k v w)) (by omega) (by omega)
  have hr := hcw.2.1 (2 + w * 4 + Y 17 (q_k Y k v w)) (by omega) (by omega)
  have ha : m_da (sr Y (psi Y k v)) k w = v (2 + w * 4 + Y 16 (q_k Y k v w)) % Y 8 (Y 5 (Y 5 k)) := by
    unfold m_da
    rw [hx]
    show _ % Y 8 (Y 5 (m_pa Y k w)) = _
    rw [h5]
  have hm := mod_b (v := v (2 + w * 4 + Y 16 (q_k Y k v w))) K4
  have hse := se_psi (a := v (2 + w * 4 + Y 16 (q_k Y k v w)) % Y 8 (Y 5 (Y 5 k))) hv hw (by omega) (by omega)
  have hn : m_dn (sr Y (psi Y k v)) k w = if fo (Y 14 (q_k Y k v w)) (Y 18 (q_k Y k v w)) (v (2 + w * 4 + Y 16 (q_k Y k v w))) (v w) (Y 13 (m_pa Y k w)) = -1 then Y 13 (m_pa Y k w) else fo (Y 14 (q_k Y k v w)) (Y 18 (q_k Y k v w)) (v (2 + w * 4 + Y 16 (q_k Y k v w))) (v w) (Y 13 (m_pa Y k w)) := by
    unfold m_dn
    rw [hdk, hx]
    show (if Y 14 (q_k Y k v w) = 7 then Y 13 (m_pa Y k w) else if Y 14 (q_k Y k v w) = 6 ∧ ¬ v (2 + w * 4 + Y 16 (q_k Y k v w)) = 0 then Y 18 (q_k Y k v w) % Y 13 (m_pa Y k w) else psi Y k v w + 1) = _
    rw [hpw]
    have hq := mod_b (v := Y 18 (q_k Y k v w)) hsz
    by_cases c7 : Y 14 (q_k Y k v w) = 7
    · have hf : fo (Y 14 (q_k Y k v w)) (Y 18 (q_k Y k v w)) (v (2 + w * 4 + Y 16 (q_k Y k v w))) (v w) (Y 13 (m_pa Y k w)) = -1 := by
        have c6 : ¬ (Y 14 (q_k Y k v w) = 6 ∧ ¬ v (2 + w * 4 + Y 16 (q_k Y k v w)) = 0) := fun hh => by have := hh.1; omega
        have c9 : Y 14 (q_k Y k v w) = 7 ∨ Y 13 (m_pa Y k w) ≤ v w + 1 := .inl c7
        unfold fo
        rw [if_neg c6, if_pos c9]
      rw [if_pos c7, hf, if_pos rfl]
    · rw [if_neg c7]
      by_cases c6 : Y 14 (q_k Y k v w) = 6 ∧ ¬ v (2 + w * 4 + Y 16 (q_k Y k v w)) = 0
      · have hf : fo (Y 14 (q_k Y k v w)) (Y 18 (q_k Y k v w)) (v (2 + w * 4 + Y 16 (q_k Y k v w))) (v w) (Y 13 (m_pa Y k w)) = Y 18 (q_k Y k v w) % Y 13 (m_pa Y k w) := by
          unfold fo
          rw [if_pos c6]
        rw [if_pos c6, hf, if_neg (by omega)]
      · rw [if_neg c6]
        by_cases c8 : Y 13 (m_pa Y k w) ≤ v w + 1
        · have hf : fo (Y 14 (q_k Y k v w)) (Y 18 (q_k Y k v w)) (v (2 + w * 4 + Y 16 (q_k Y k v w))) (v w) (Y 13 (m_pa Y k w)) = -1 := by
            have c9 : Y 14 (q_k Y k v w) = 7 ∨ Y 13 (m_pa Y k w) ≤ v w + 1 := .inr c8
            unfold fo
            rw [if_neg c6, if_pos c9]
          rw [hf, if_pos rfl]; omega
        · have hf : fo (Y 14 (q_k Y k v w)) (Y 18 (q_k Y k v w)) (v (2 + w * 4 + Y 16 (q_k Y k v w))) (v w) (Y 13 (m_pa Y k w)) = v w + 1 := by
            have c9 : ¬ (Y 14 (q_k Y k v w) = 7 ∨ Y 13 (m_pa Y k w) ≤ v w + 1) := by omega
            unfold fo
            rw [if_neg c6, if_neg c9]
          rw [hf, if_neg (by omega)]
  have hres : ∀ op, (op = 0 ∨ op = 1 ∨ op = 2 ∨ op = 3) → w_res op (v (2 + w * 4 + Y 16 (q_k Y k v w))) (v (2 + w * 4 + Y 17 (q_k Y k v w))) (Y 18 (q_k Y k v w)) % p2 (Y 7 (Y 5 (Y 5 k))) = if op = 0 then Y 18 (q_k Y k v w) % p2 (Y 7 (Y 5 (Y 5 k))) else if op = 1 then (v (2 + w * 4 + Y 16 (q_k Y k v w)) + v (2 + w * 4 + Y 17 (q_k Y k v w))) % p2 (Y 7 (Y 5 (Y 5 k))) else if op = 2 then (v (2 + w * 4 + Y 16 (q_k Y k v w)) - v (2 + w * 4 + Y 17 (q_k Y k v w))) % p2 (Y 7 (Y 5 (Y 5 k))) else lland (v (2 + w * 4 + Y 16 (q_k Y k v w))) (v (2 + w * 4 + Y 17 (q_k Y k v w))) := by
    intro op hop
    unfold w_res
    rcases hop with rfl | rfl | rfl | rfl
    · rfl
    · rfl
    · rfl
    · have := lland_lt b7.1 b7.2 hl.1 hl.2 hr.1 hr.2
      exact Int.emod_eq_of_lt this.1 this.2
  -- the numbers but the next words
  have hd1 : ∀ j, 2 ≤ j → j < 28 → m_d1 (sr Y (psi Y k v)) k w 38 j = pv v w (Y 14 (q_k Y k v w)) (Y 15 (q_k Y k v w)) (v (2 + w * 4 + Y 16 (q_k Y k v w))) (v (2 + w * 4 + Y 17 (q_k Y k v w))) (Y 18 (q_k Y k v w)) (Y 7 (Y 5 (Y 5 k))) (Y 8 (Y 5 (Y 5 k))) (Y 12 k) (kx j) := by
    intro j j1 j2
    have hp := psi_e (Y := Y) (k := k) (v := v) j1 j2
    have hreg : kx j = 2 + w * 4 + Y 15 (q_k Y k v w) ↔ j = 2 + 4 * w + Y 15 (q_k Y k v w) := by
      unfold kx
      split
      · omega
      · split <;> omega
    have hmem : kx j = 10 + v (2 + w * 4 + Y 16 (q_k Y k v w)) % Y 8 (Y 5 (Y 5 k)) ↔ j = 10 + v (2 + w * 4 + Y 16 (q_k Y k v w)) % Y 8 (Y 5 (Y 5 k)) := by
      unfold kx
      split
      · omega
      · split <;> omega
    unfold m_d1
    rw [hdk, hx, hy, ha, hse]
    show (if Y 14 (q_k Y k v w) = 0 then yu (sr Y (psi Y k v)) 38 (2 + 4 * w + Y 15 (q_k Y k v w)) (Y 18 (q_k Y k v w) % p2 (Y 7 (Y 5 (m_pa Y k w))))
      else if Y 14 (q_k Y k v w) = 1 then yu (sr Y (psi Y k v)) 38 (2 + 4 * w + Y 15 (q_k Y k v w)) ((v (2 + w * 4 + Y 16 (q_k Y k v w)) + v (2 + w * 4 + Y 17 (q_k Y k v w))) % p2 (Y 7 (Y 5 (m_pa Y k w))))
      else if Y 14 (q_k Y k v w) = 2 then yu (sr Y (psi Y k v)) 38 (2 + 4 * w + Y 15 (q_k Y k v w)) ((v (2 + w * 4 + Y 16 (q_k Y k v w)) - v (2 + w * 4 + Y 17 (q_k Y k v w))) % p2 (Y 7 (Y 5 (m_pa Y k w))))
      else if Y 14 (q_k Y k v w) = 3 then yu (sr Y (psi Y k v)) 38 (2 + 4 * w + Y 15 (q_k Y k v w)) (lland (v (2 + w * 4 + Y 16 (q_k Y k v w))) (v (2 + w * 4 + Y 17 (q_k Y k v w))))
      else if Y 14 (q_k Y k v w) = 4 then yu (sr Y (psi Y k v)) 38 (2 + 4 * w + Y 15 (q_k Y k v w)) (ld v w (v (2 + w * 4 + Y 16 (q_k Y k v w)) % Y 8 (Y 5 (Y 5 k))))
      else if Y 14 (q_k Y k v w) = 5 then (if Y 12 k = 1 then yu (yu (yu (sr Y (psi Y k v)) 38 (18 + 5 * w + 1 + 2 * psi Y k v (18 + 5 * w)) (v (2 + w * 4 + Y 16 (q_k Y k v w)) % Y 8 (Y 5 (Y 5 k)))) 38 (18 + 5 * w + 2 + 2 * psi Y k v (18 + 5 * w)) (v (2 + w * 4 + Y 17 (q_k Y k v w)))) 38 (18 + 5 * w) (psi Y k v (18 + 5 * w) + 1) else yu (sr Y (psi Y k v)) 38 (10 + v (2 + w * 4 + Y 16 (q_k Y k v w)) % Y 8 (Y 5 (Y 5 k))) (v (2 + w * 4 + Y 17 (q_k Y k v w))))
      else sr Y (psi Y k v)) 38 j = _
    rw [h5, psi_18 hw]
    unfold pv
    by_cases o3 : Y 14 (q_k Y k v w) ≤ 3
    · rw [if_pos o3, hres _ (by omega)]
      obtain o | o | o | o : Y 14 (q_k Y k v w) = 0 ∨ Y 14 (q_k Y k v w) = 1 ∨ Y 14 (q_k Y k v w) = 2 ∨ Y 14 (q_k Y k v w) = 3 := by omega
      · rw [if_pos o, if_pos o]; exact yu_vu hp hreg
      · rw [if_neg (by omega), if_pos o, if_neg (by omega), if_pos o]; exact yu_vu hp hreg
      · rw [if_neg (by omega), if_neg (by omega), if_pos o, if_neg (by omega), if_neg (by omega), if_pos o]; exact yu_vu hp hreg
      · rw [if_neg (by omega), if_neg (by omega), if_neg (by omega), if_pos o, if_neg (by omega), if_neg (by omega), if_neg (by omega)]; exact yu_vu hp hreg
    · rw [if_neg o3, if_neg (by omega), if_neg (by omega), if_neg (by omega), if_neg (by omega)]
      by_cases o4 : Y 14 (q_k Y k v w) = 4
      · rw [if_pos o4, if_pos o4]; exact yu_vu hp hreg
      · rw [if_neg o4, if_neg o4]
        by_cases o5 : Y 14 (q_k Y k v w) = 5
        · rw [if_pos o5, if_pos o5]
          by_cases ow : Y 12 k = 1
          · rw [if_pos ow, if_pos ow]
            have hle : v (18 + w) ≤ 1 := by
              false_or_by_contra
              exact hc.2 ⟨o5, ow, by omega⟩
            rw [yu_e, yu_e, yu_e, sr_38, hp]
            unfold vu
            have i1 : kx j = 18 + w ↔ j = 18 + 5 * w := by
              unfold kx
              split
              · omega
              · split <;> omega
            have i2 : kx j = 20 + w * 4 + 2 * v (18 + w) + 1 ↔ j = 18 + 5 * w + 2 + 2 * v (18 + w) := by
              unfold kx
              split
              · omega
              · split <;> omega
            have i3 : kx j = 20 + w * 4 + 2 * v (18 + w) ↔ j = 18 + 5 * w + 1 + 2 * v (18 + w) := by
              unfold kx
              split
              · omega
              · split <;> omega
            simp only [i1, i2, i3]
          · rw [if_neg ow, if_neg ow]; exact yu_vu hp hmem
        · rw [if_neg o5, if_neg o5]; exact hp
  intro j j1 j2
  have hcm := (cm_psi hv hw).mpr hc
  unfold mvv m_mv
  rw [if_pos (by omega)]
  unfold m_dd
  rw [yu_e, hn]
  by_cases c : j < 2
  · have hj : j = 0 ∨ j = 1 := by omega
    rw [psi_w hj]
    unfold nv
    by_cases cj : j = w
    · rw [if_pos cj, cj, vu_s]
    · rw [if_neg cj, vu_n cj]
      have e1 : pv v w (Y 14 (q_k Y k v w)) (Y 15 (q_k Y k v w)) (v (2 + w * 4 + Y 16 (q_k Y k v w))) (v (2 + w * 4 + Y 17 (q_k Y k v w))) (Y 18 (q_k Y k v w)) (Y 7 (Y 5 (Y 5 k))) (Y 8 (Y 5 (Y 5 k))) (Y 12 k) j = v j := by
        unfold pv
        split
        · exact vu_n (by omega)
        · split
          · exact vu_n (by omega)
          · split
            · split
              · rw [vu_n (by omega), vu_n (by omega), vu_n (by omega)]
              · exact vu_n (by omega)
            · rfl
      rw [e1, ← psi_w (Y := Y) (k := k) hj]
      have e2 : ∀ i x, 2 ≤ i → yu (sr Y (psi Y k v)) 38 i x 38 j = psi Y k v j := fun i x hi => by rw [yu_n (by omega)]; rfl
      unfold m_d1
      rw [hdk, ha]
      split
      · exact e2 _ _ (by show 2 ≤ 2 + 4 * w + Y 15 (q_k Y k v w); omega)
      split
      · exact e2 _ _ (by show 2 ≤ 2 + 4 * w + Y 15 (q_k Y k v w); omega)
      split
      · exact e2 _ _ (by show 2 ≤ 2 + 4 * w + Y 15 (q_k Y k v w); omega)
      split
      · exact e2 _ _ (by show 2 ≤ 2 + 4 * w + Y 15 (q_k Y k v w); omega)
      split
      · exact e2 _ _ (by show 2 ≤ 2 + 4 * w + Y 15 (q_k Y k v w); omega)
      split
      · have e18 : sr Y (psi Y k v) 38 (18 + 5 * w) = v (18 + w) := psi_18 hw
        split
        · rw [e18, yu_n (by omega), yu_n (by omega)]
          exact e2 _ _ (by omega)
        · exact e2 _ _ (by omega)
      rfl
  · rw [if_neg (by omega), hd1 j (by omega) j2, psi_e (by omega) j2]
    unfold nv
    rw [vu_n (by unfold kx; split; omega; split <;> omega)]
end
