/-! EXPLORING: the model keeps the same -/
def Sc (Z : zY) (i : Int) : Int → Int := fun e => if 0 ≤ e ∧ e < 28 then Z 36 (28 * i + e) else 0
def c28 (f : Int → Int) : Int → Int := fun e => if 0 ≤ e ∧ e < 28 then f e else 0
def tlm (Z : zY) : Int := if Z 33 0 ≤ 2000 then 0 else 1
def Stc (Y Z : zY) : Prop := ∀ (f : Nat) (e : Int), ¬ (32 ≤ f ∧ f ≤ 40) → Z f e = Y f e
def Bm (Z : zY) : Int → Int → Prop := fun i j => m_bf (Sc Z i) (Sc Z j) 16 2 = 1
def Dm (Y Z : zY) (k : Int) : Int → Prop := fun i => m_ie (sr Y (Sc Z i)) k
def MS (Y : zY) (k : Int) (Dn : Int → Int → Prop) (Z : zY) : Prop := Stc Y Z ∧ PQ Z k ∧ XA Y k Dn (m_sn Z) (Sc Z) (tlm Z) ∧ ∀ j v, Dn j v → j < m_sn Z
section
variable {Y Z Z' : zY} {k s w : Int} {Dn Dn' : Int → Int → Prop} {f g : Int → Int}
theorem DA_st (h : ∀ (a : Nat) (e : Int), (5 ≤ a ∧ a ≤ 18) → Z' a e = Z a e) : DA Z Z' k := ⟨⟨h 5 _ (by omega), h 6 _ (by omega), h 12 _ (by omega)⟩, fun p _ => ⟨⟨h 13 _ (by omega), h 5 _ (by omega), h 7 _ (by omega), h 8 _ (by omega)⟩, fun a j a1 a2 _ _ => h a _ (by omega)⟩⟩
theorem Sc_y {e : Int} (h1 : 0 ≤ e) (h2 : e < 28) : Sc Z s e = Z 36 (28 * s + e) := if_pos ⟨h1, h2⟩
theorem c28_q : eqv f (c28 f) := fun e a b => (if_pos ⟨a, b⟩ : c28 f e = f e).symm
/-- the state that is taken up, and its moves -/
theorem op_q (hY : RG Y) (hK : PK Y k) (hs : Stc Y Z) (hv : Vd Y k (Sc Z s)) (w1 : 0 ≤ w) (w2 : w ≤ 3) : (m_cm (m_op Z s) k w ↔ m_cm (sr Y (Sc Z s)) k w) ∧ (m_cm (sr Y (Sc Z s)) k w → eqv (mvv Y k w (Sc Z s)) (m_mv (m_op Z s) k w 38)) ∧ (m_ie (m_op Z s) k ↔ m_ie (sr Y (Sc Z s)) k) := by
  have h38 : ∀ e, m_op Z s 38 e = sr Y (m_op Z s 38) 38 e := fun e => rfl
  have hst : ∀ (a : Nat) (e : Int), (5 ≤ a ∧ a ≤ 18) → m_op Z s a e = sr Y (m_op Z s 38) a e := fun a e ha => by rw [m_op_f (by omega), sr_f (by omega), hs a e (by omega)]
  have hDA : DA (sr Y (m_op Z s 38)) (m_op Z s) k := DA_st hst
  have hq : eqv (m_op Z s 38) (Sc Z s) := fun e a b => by
    rw [Sc_y a b]
    exact m_ov_i a b
  have b8 : 0 ≤ Y 8 (Y 5 (Y 5 k)) := (hY 8 _).1
  have hv' : Vd Y k (m_op Z s 38) := Vd_q b8 (eqv_s hq) hv
  have h0 := Vd_0 hv'
  have h24 : ∀ p, sr Y (m_op Z s 38) 13 p ≤ 24 := fun p => (hY 13 p).2
  have h8 : 0 < Y 8 (Y 5 (Y 5 k)) ∧ Y 8 (Y 5 (Y 5 k)) ≤ 8 ∧ Y 5 (Y 6 k) = Y 5 (Y 5 k) := ⟨hK.2.2.1.1, (hY 8 _).2, hK.2.2.1.2⟩
  refine ⟨(DA_cm hDA h38 h0 h24 w1).trans (cm_q hq w1 w2), fun hc => ?_, (DA_ie hDA h38).trans (ie_q hq)⟩
  have hc' := (cm_q (Y := Y) (k := k) hq w1 w2).mpr hc
  have e1 : m_mv (m_op Z s) k w 38 = mvv Y k w (m_op Z s 38) := DA_mv hDA h38 h0 h24 w1 hc'
  rw [e1]
  exact mv_q (eqv_s hq) hY hv.1 h8 (fun e a b => (hv.2 e a b).1) w1 w2 hc
theorem Sc_c (h : ∀ e, Z' 36 e = Z 36 e) : Sc Z' = Sc Z := by
  funext i e
  unfold Sc
  split
  · exact h _
  · rfl
/-- keeping, in the model -/
theorem ke_KO (hR : RG Z) : KO (Sc Z) (m_sn Z) (tlm Z) (c28 (Z 38)) (Sc (m_ke Z)) (m_sn (m_ke Z)) (tlm (m_ke Z)) := by
  have h33 : 0 ≤ Z 33 0 := (hR 33 0).1
  have hkp : m_kp Z ↔ ∃ i, 0 ≤ i ∧ i < m_sn Z ∧ eqv (Sc Z i) (c28 (Z 38)) := by
    rw [m_kp_i]
    constructor
    · rintro ⟨i, i1, i2, i3⟩
      rw [m_ev_i] at i3
      exact ⟨i, i1, i2, eqv_t (fun e a b => by rw [Sc_y a b]; exact i3 e a b) c28_q⟩
    · rintro ⟨i, i1, i2, i3⟩
      refine ⟨i, i1, i2, m_ev_i.mpr (fun e a b => ?_)⟩
      have := i3 e a b
      rw [Sc_y a b] at this
      rw [this]
      exact if_pos ⟨a, b⟩
  by_cases c : m_kp Z
  · have e : m_ke Z = Z := if_pos c
    rw [e]
    exact .inl ⟨rfl, rfl, rfl, hkp.mp c⟩
  · refine .inr ⟨fun hh => c (hkp.mpr hh), ?_⟩
    by_cases c2 : Z 33 0 < 2000
    · have e : m_ke Z = yu (yu (yu (m_ov Z 36 (28 * Z 33 0) (28 * Z 33 0 + 28) (fun e => Z 38 (e - 28 * Z 33 0))) 40 (Z 33 0) (Z 39 (m_hn Z))) 39 (m_hn Z) (Z 33 0)) 33 0 (Z 33 0 + 1) := by
        unfold m_ke
        rw [if_neg c, if_pos c2]
      have e33 : m_ke Z 33 0 = Z 33 0 + 1 := by rw [e, yu_s]
      have e36 : ∀ i, m_ke Z 36 i = m_ov Z 36 (28 * Z 33 0) (28 * Z 33 0 + 28) (fun e => Z 38 (e - 28 * Z 33 0)) 36 i := fun i => by rw [e, yu_f (by decide), yu_f (by decide), yu_f (by decide)]
      have sn : m_sn Z = Z 33 0 := by unfold m_sn; rw [if_pos c2]
      refine .inl ⟨by omega, ?_, ?_, ?_⟩
      · funext i j
        rw [sn]
        unfold gu
        by_cases ci : i = Z 33 0
        · rw [if_pos ci]
          unfold Sc c28
          by_cases cj : 0 ≤ j ∧ j < 28
          · rw [if_pos cj, if_pos cj, e36, m_ov_i (by omega) (by omega), show 28 * i + j - 28 * Z 33 0 = j by omega]
          · rw [if_neg cj, if_neg cj]
        · rw [if_neg ci]
          unfold Sc
          by_cases cj : 0 ≤ j ∧ j < 28
          · rw [if_pos cj, if_pos cj, e36, m_ov_o (by omega)]
          · rw [if_neg cj, if_neg cj]
      · rw [sn]
        unfold m_sn
        rw [e33]
        split <;> omega
      · unfold tlm
        rw [e33, if_pos (by omega), if_pos (by omega)]
    · have e : m_ke Z = yu Z 33 0 (Z 33 0 + 1) := by
        unfold m_ke
        rw [if_neg c, if_neg c2]
      have e33 : m_ke Z 33 0 = Z 33 0 + 1 := by rw [e, yu_s]
      have sn : m_sn Z = 2000 := by unfold m_sn; rw [if_neg c2]
      refine .inr ⟨sn, Sc_c (fun i => by rw [e, yu_f (by decide)]), ?_, ?_⟩
      · rw [sn]
        unfold m_sn
        rw [e33, if_neg (by omega)]
      · unfold tlm
        rw [e33, if_neg (by omega)]
theorem Stc_f (h : Stc Y Z) (h2 : ∀ (f : Nat) (e : Int), ¬ (32 ≤ f ∧ f ≤ 40) → Z' f e = Z f e) : Stc Y Z' := fun f e hf => by rw [h2 f e hf, h f e hf]
/-- one move -/
theorem MS_1 (hY : RG Y) (hK : PK Y k) (h : MS Y k Dn Z) (hd : ∀ j u, Dn' j u → Dn j u ∨ (j = s ∧ u = w)) (s1 : 0 ≤ s) (s2 : s < m_sn Z) (w1 : 0 ≤ w) (w2 : w ≤ 3) (hn : Z 33 0 ≤ 2003) : MS Y k Dn' (m_g1 Z k s w) ∧ m_sn Z ≤ m_sn (m_g1 Z k s w) ∧ (∀ j, 0 ≤ j → j < m_sn Z → Sc (m_g1 Z k s w) j = Sc Z j) ∧ (∀ (f : Nat) (e : Int), f = 32 ∨ f = 34 ∨ f = 35 ∨ f = 37 → m_g1 Z k s w f e = Z f e) ∧ m_g1 Z k s w 33 0 ≤ Z 33 0 + 1 := by
  obtain ⟨h1, h2, h3, h4⟩ := h
  have hPQ := PQ_1 h2 s1 s2 w1 w2 hn
  obtain ⟨q1, q2, q3⟩ := op_q (w := w) hY hK h1 (h3.2.1 s s1 s2) w1 w2
  have hRm : RG (m_op Z s) := RG_op h2.1
  by_cases c : m_cm (m_op Z s) k w
  · have e : m_g1 Z k s w = m_ke (m_mv (m_op Z s) k w) := if_pos c
    have hc := q1.mp c
    have a36 : ∀ i, m_mv (m_op Z s) k w 36 i = Z 36 i := fun i => by rw [m_mv_f (by decide), m_op_f (by decide)]
    have a33 : m_mv (m_op Z s) k w 33 0 = Z 33 0 := by rw [m_mv_f (by decide), m_op_f (by decide)]
    have aSc : Sc (m_mv (m_op Z s) k w) = Sc Z := Sc_c a36
    have asn : m_sn (m_mv (m_op Z s) k w) = m_sn Z := by unfold m_sn; rw [a33]
    have atl : tlm (m_mv (m_op Z s) k w) = tlm Z := by unfold tlm; rw [a33]
    have hpv := PQ_PV h2 s1 s2
    have hRv : RG (m_mv (m_op Z s) k w) := RG_mv hRm w1 w2 c (by rw [m_op_f (f := 5) (by decide), m_op_f (f := 6) (by decide), m_op_f (f := 13) (by decide), m_op_f (f := 13) (by decide)]; exact hpv.2.2.2.2.1) hpv.2.2.2.2.2.2
    have hko := ke_KO hRv
    rw [aSc, asn, atl] at hko
    have hf := q2 hc
    have hf' := eqv_t hf (c28_q (f := m_mv (m_op Z s) k w 38))
    have hvf : Vd Y k (c28 (m_mv (m_op Z s) k w 38)) := by
      refine Vd_q (hY 8 _).1 hf' (Vd_mv hY hK (fun e => ?_) (h3.2.1 s s1 s2) w1 w2 hc)
      unfold Sc
      split
      · exact h2.1 36 _
      · omega
    obtain ⟨r1, r2, r3⟩ := XA_k h3 h4 hd s1 s2 w1 w2 hc hf' hvf hko
    rw [e] at hPQ ⊢
    refine ⟨⟨Stc_f h1 (fun f e hf => by rw [m_ke_f (by omega) (by omega) (by omega) (by omega), m_mv_f (by omega), m_op_f (by omega)]), hPQ.1, r1, fun j u hj => ?_⟩, r2, r3, fun f e hf => by rw [m_ke_f (by omega) (by omega) (by omega) (by omega), m_mv_f (by omega), m_op_f (by omega)], hPQ.2.2.2⟩
    rcases hd j u hj with hh | ⟨rfl, -⟩
    · have := h4 j u hh; omega
    · omega
  · have e : m_g1 Z k s w = m_op Z s := if_neg c
    have aSc : Sc (m_op Z s) = Sc Z := Sc_c (fun i => m_op_f (by decide))
    have a33 : m_op Z s 33 0 = Z 33 0 := m_op_f (by decide)
    have asn : m_sn (m_op Z s) = m_sn Z := by unfold m_sn; rw [a33]
    have atl : tlm (m_op Z s) = tlm Z := by unfold tlm; rw [a33]
    rw [e] at hPQ ⊢
    refine ⟨⟨Stc_f h1 (fun f e hf => m_op_f (by omega)), hPQ.1, by rw [asn, aSc, atl]; exact XA_d h3 hd (fun hh => c (q1.mpr hh)), fun j u hj => ?_⟩, by rw [asn]; omega, fun j _ _ => by rw [aSc], fun f e hf => m_op_f (by omega), by rw [a33]; omega⟩
    rw [asn]
    rcases hd j u hj with hh | ⟨rfl, -⟩
    · exact h4 j u hh
    · exact s2
/-! the ends, in the model -/
theorem end_q (hf : VQ (sr Y f) k) (hg : VQ (sr Y g) k) (df : m_ie (sr Y f) k) (dg : m_ie (sr Y g) k) (h : ∀ e, 2 ≤ e → e < 2 + 16 → f e = g e) : eqv f g := by
  have z : ∀ u : Int → Int, VQ (sr Y u) k → m_ie (sr Y u) k → ∀ e, 18 ≤ e → e < 28 → u e = 0 := by
    intro u hu hi e e1 e2
    have vq : ∀ w, 0 ≤ w → w ≤ 1 → (u (18 + 5 * w) = 0 → u (18 + 5 * w + 1) = 0 ∧ u (18 + 5 * w + 2) = 0) ∧ (u (18 + 5 * w) ≤ 1 → u (18 + 5 * w + 3) = 0 ∧ u (18 + 5 * w + 4) = 0) := fun w a b => (hu.2.2.2 w a b).2.2.2.2.2
    obtain ⟨-, -, c, d⟩ := hi
    have c' : u 18 = 0 := c
    have d' : u 23 = 0 := d
    have q0 := vq 0 (by omega) (by omega)
    have q1 := vq 1 (by omega) (by omega)
    simp only [Int.reduceMul, Int.reduceAdd] at q0 q1
    have a1 := q0.1 c'
    have a2 := q0.2 (by omega)
    have a3 := q1.1 d'
    have a4 := q1.2 (by omega)
    obtain rfl | rfl | rfl | rfl | rfl | rfl | rfl | rfl | rfl | rfl : e = 18 ∨ e = 19 ∨ e = 20 ∨ e = 21 ∨ e = 22 ∨ e = 23 ∨ e = 24 ∨ e = 25 ∨ e = 26 ∨ e = 27 := by omega
    · exact c'
    · exact a1.1
    · exact a1.2
    · exact a2.1
    · exact a2.2
    · exact d'
    · exact a3.1
    · exact a3.2
    · exact a4.1
    · exact a4.2
  intro e e1 e2
  by_cases c0 : e < 2
  · obtain rfl | rfl : e = 0 ∨ e = 1 := by omega
    · exact Eq.trans df.1 dg.1.symm
    · exact Eq.trans df.2.1 dg.2.1.symm
  · by_cases c1 : e < 18
    · exact h e (by omega) (by omega)
    · rw [z f hf df e (by omega) e2, z g hg dg e (by omega) e2]
theorem ai_s {u : Int} : ∀ (i : Nat) (Z : zY), ∃ po : Int, (0 ≤ po ∧ po ≤ (i : Int)) ∧ (∀ j : Int, po ≤ j → j < (i : Int) → ¬ m_bs Z u (Z 37 j) = 0) ∧ (0 < po → m_bs Z u (Z 37 (po - 1)) = 0) ∧ (∀ j : Int, 0 ≤ j → j < po → m_ai u i Z 37 j = Z 37 j) ∧ m_ai u i Z 37 po = u ∧ (∀ j : Int, po ≤ j → j < (i : Int) → m_ai u i Z 37 (j + 1) = Z 37 j) ∧ ∀ j : Int, (i : Int) < j → m_ai u i Z 37 j = Z 37 j := by
  intro i
  induction i with
  | zero =>
    intro Z
    refine ⟨0, by omega, fun j a b => by omega, fun hh => by omega, fun j a b => by omega, ?_, fun j a b => by omega, fun j a => ?_⟩
    · show yu Z 37 0 u 37 0 = u
      rw [yu_s]
    · show yu Z 37 0 u 37 j = Z 37 j
      rw [yu_n (by omega)]
  | succ i ih =>
    intro Z
    have ed : m_ai u (i + 1) Z = if m_bs Z u (Z 37 (i : Nat)) = 0 then yu Z 37 ((i : Int) + 1) u else m_ai u i (yu Z 37 ((i : Int) + 1) (Z 37 (i : Nat))) := rfl
    by_cases c : m_bs Z u (Z 37 (i : Nat)) = 0
    · rw [ed, if_pos c]
      refine ⟨(i : Int) + 1, by omega, fun j a b => by omega, fun _ => by rw [show (i : Int) + 1 - 1 = i by omega]; exact c, fun j a b => yu_n (by omega), yu_s, fun j a b => by omega, fun j a => yu_n (by omega)⟩
    · rw [ed, if_neg c]
      obtain ⟨po, p1, p2', p3, p4, p5, p6, p7⟩ := ih (yu Z 37 ((i : Int) + 1) (Z 37 (i : Nat)))
      have hb : ∀ x y, m_bs (yu Z 37 ((i : Int) + 1) (Z 37 (i : Nat))) x y = m_bs Z x y := fun x y => rfl
      have hz : ∀ j : Int, j ≤ i → yu Z 37 ((i : Int) + 1) (Z 37 (i : Nat)) 37 j = Z 37 j := fun j hj => yu_n (by omega)
      refine ⟨po, by omega, fun j a b => ?_, fun hh => ?_, fun j a b => by rw [p4 j a b, hz j (by omega)], p5, fun j a b => ?_, fun j a => by rw [p7 j (by omega), yu_n (by omega)]⟩
      · by_cases cj : j = i
        · rw [cj]; exact c
        · have := p2' j a (by omega)
          rw [hb, hz j (by omega)] at this
          exact this
      · have := p3 hh
        rw [hb, hz _ (by omega)] at this
        exact this
      · by_cases cj : j = i
        · rw [cj, p7 _ (by omega), yu_s]
        · rw [p6 j a (by omega), hz j (by omega)]
theorem no_mv (hw : ∀ w, 0 ≤ w → w ≤ 3 → ¬ m_cm (sr Y f) k w) : m_ie (sr Y f) k := by
  have h0 := hw 0 (by omega) (by omega)
  have h1 := hw 1 (by omega) (by omega)
  have h2 := hw 2 (by omega) (by omega)
  have h3 := hw 3 (by omega) (by omega)
  unfold m_cm at h0 h1 h2 h3
  rw [if_pos (by omega)] at h0 h1
  rw [if_neg (by omega)] at h2 h3
  have c2 : f 18 = 0 := by
    false_or_by_contra
    rename_i hh
    exact h2 hh
  have c3 : f 23 = 0 := by
    false_or_by_contra
    rename_i hh
    exact h3 hh
  refine ⟨?_, ?_, c2, c3⟩
  · false_or_by_contra
    rename_i hh
    refine h0 ⟨hh, fun ⟨_, _, z⟩ => ?_⟩
    have z' : f 18 = 2 := z
    omega
  · false_or_by_contra
    rename_i hh
    refine h1 ⟨hh, fun ⟨_, _, z⟩ => ?_⟩
    have z' : f 23 = 2 := z
    omega
end
