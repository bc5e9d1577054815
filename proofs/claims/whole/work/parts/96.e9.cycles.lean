/-! CALLS: cycles -/
section
variable {T : Nat → Nat} {Ln : Nat → Int} {M M' : Nat → Int → Value} {a n u x : Nat} {A : Int → Nat} {W : Int → Int → Nat} {Ow : Nat → Int} {X : Int → Int} {Y Z : zY} {k s to cyc cc p j c n0 u0 e : Int} {Q : zU → zS → Prop} {cd : Nat → Int} {f : Nat} {t : Nat × Nat}
/-- nothing happens any more, or not yet -/
theorem ea_stay (h : SI Y s) (h1 : to = Y 23 s ∨ ¬ Y 22 s = 0) : m_ea Y s to = Y ∧ m_last Y s to = Y 23 s := by
  obtain ⟨hv, ⟨i1, i2⟩, ⟨t1, t2⟩, i3, i4, i5, i6, i7, i8, i9, i10, i11, i12⟩ := id h
  have hR := hv.1
  have k21 : 0 ≤ Y 21 s := (hR 21 s).1
  by_cases c : Y 22 s = 0
  · have e : to = Y 23 s := by omega
    subst e
    refine ⟨?_, ?_⟩
    · rw [ea_n (fun hh => by have := i4 hh.1; omega), m_la_u, if_neg]
      rintro ⟨g1, g2⟩
      have := i8 g1
      unfold s_en at this
      omega
    · unfold m_last
      rw [if_pos c]
  · have e1 : Y 21 s = Y 21 (61 + s) := by
      false_or_by_contra
      have h9 := i3 (Y 21 s).toNat (by omega)
      rw [← t1.2.2] at h9
      exact c h9
    have e2 : ¬ Y 22 (61 + s) = 0 := by
      rw [t2.2.2, ← e1, ← t1.2.2]
      exact c
    refine ⟨?_, ?_⟩
    · rw [ea_n (fun hh => e2 hh.1), m_la_u, if_neg]
      rintro ⟨g1, g2⟩
      omega
    · unfold m_last
      rw [if_neg c]
      exact (i11 c).symm
theorem yu_self {v : Int} (h : Y f e = v) : yu Y f e v = Y := by
  funext g i
  by_cases hh : g = f ∧ i = e
  · rw [hh.1, hh.2, yu_s, h]
  · rw [yu_w hh]
theorem last_23 {v : Int} : m_last (yu Y 23 s v) s to = m_last Y s to := rfl
theorem tks_ea : ∀ (n : Nat) (Y : zY), SI Y s → Y 23 s + n ≤ 80000000 → yu (m_ea Y s (Y 23 s + n)) 23 s (m_last (m_ea Y s (Y 23 s + n)) s (Y 23 s + n)) = m_tks s n Y := by
  intro n
  induction n with
  | zero =>
    intro Y h hb
    obtain ⟨e1, e2⟩ := ea_stay (to := Y 23 s + (0 : Nat)) h (.inl (by omega))
    rw [e1, e2]
    exact yu_self rfl
  | succ n ih =>
    intro Y h hb
    by_cases c : Y 22 s = 0
    · have hb0 : 0 ≤ Y 23 s := (h.1.1 23 s).1
      have hsi := SI_tk h (by omega) c
      have e23 : m_tk Y s 23 s = Y 23 s + 1 := by unfold m_tk; rw [yu_s]
      have h9 := ih (m_tk Y s) hsi (by rw [e23]; omega)
      have e : m_tk Y s 23 s + (n : Nat) = Y 23 s + ((n + 1 : Nat) : Int) := by rw [e23]; omega
      rw [e] at h9
      have e2 : m_ea (m_tk Y s) s (Y 23 s + ((n + 1 : Nat) : Int)) = yu (m_ea Y s (Y 23 s + ((n + 1 : Nat) : Int))) 23 s (Y 23 s + 1) := by
        unfold m_tk
        have hv2 : SV (m_t2 Y s) s := by
          obtain ⟨v1, -⟩ := t1_v h (by omega)
          unfold m_t2
          split
          next hc =>
            have c6 : m_t1 Y s 6 s = Y 6 s := t1_f (by omega)
            have h21 : m_t1 Y s 21 (61 + s) ≤ 100000000 := (v1.1 21 _).2
            rw [← c6]
            exact SV_dw v1 v1.2.2.1 (by have := hc.1; omega)
          next => exact v1
        rw [ea_23 (by omega) hv2, ea_t2 h (by omega) (by omega)]
      rw [e2, last_23, yu_yu] at h9
      rw [h9]
      show _ = if Y 22 s = 0 then m_tks s n (m_tk Y s) else Y
      rw [if_pos c]
    · obtain ⟨e1, e2⟩ := ea_stay (to := Y 23 s + ((n + 1 : Nat) : Int)) h (.inr c)
      show _ = if Y 22 s = 0 then m_tks s n (m_tk Y s) else Y
      rw [e1, e2, if_neg c]
      exact yu_self rfl
/-! what a cycle leaves as it was -/
theorem ent_c (hv : SV Y k) (hc : ¬ cow f e = k) : m_ent Y k f e = Y f e := by
  obtain ⟨l1, l2, l3⟩ := SV_L hv
  obtain ⟨k1, k2⟩ := hv.2.1
  have hL : LR (m_e1 (m_la0 Y k) k) := LR_of (fun f e hf => by rw [m_e1_f (by omega) (by omega) (by omega), la0_g (by omega)]) l1
  have h0 : m_la0 Y k f e = Y f e := by
    unfold m_la0
    split
    · unfold m_lo; rw [yu_c (by omega) hc, yu_c (by omega) hc]
    · rfl
  have hd := hL (m_ew (m_la0 Y k) k)
  have x15 : m_e1 (m_la0 Y k) k 15 (m_ew (m_la0 Y k) k) = m_la0 Y k 15 (m_ew (m_la0 Y k) k) := m_e1_f (by omega) (by omega) (by omega)
  have h1 : m_e1 (m_la0 Y k) k f e = Y f e := by
    have e0 : m_e0 (m_la0 Y k) k f e = Y f e := by
      unfold m_e0
      rw [yu_w (fun hh => hc (by rw [hh.1, hh.2]; unfold cow; rw [if_neg (by omega), if_neg (by omega), if_neg (by omega), if_pos rfl]; omega))]
      exact h0
    have hx : ∀ g : Nat, g = 26 ∨ g = 27 → ¬ (f = g ∧ e = 4 * k + m_la0 Y k 15 (m_ew (m_la0 Y k) k)) := by
      rintro g g1 ⟨rfl, rfl⟩
      apply hc
      unfold cow
      rw [if_neg (by omega), if_neg (by omega), if_neg (by omega), if_neg (by omega), if_pos g1]
      omega
    unfold m_e1
    split
    · rw [yu_w (hx 27 (by omega)), yu_w (hx 26 (by omega))]; exact e0
    · exact e0
  have h2 : m_e2 (m_la0 Y k) k f e = Y f e := by
    unfold m_e2
    rw [dw_off hL (by rw [m_e1_f (f := 5) (by omega) (by omega) (by omega), m_e1_f (f := 8) (by omega) (by omega) (by omega), la0_g (f := 6) (by omega), la0_g (f := 5) (by omega), la0_g (f := 8) (by omega)]; exact l2) ?_, h1]
    intro hh
    apply hc
    rcases hh with ⟨rfl, hh⟩ | ⟨hh, rfl⟩
    · unfold cow; rw [if_pos rfl]; omega
    · unfold cow; rw [if_neg (by omega), if_pos hh]; omega
  unfold m_ent
  rw [yu_c (by omega) hc]
  unfold m_en
  split
  · rw [yu_c (by omega) hc]; exact h2
  · exact h2
theorem tk_c (h : SI Y k) (hb : Y 23 k ≤ 80000000) (hc : ¬ cow f e = k) : m_tk Y k f e = Y f e := by
  obtain ⟨v1, -⟩ := t1_v h hb
  obtain ⟨l1, l2, l3⟩ := SV_L v1
  obtain ⟨k1, k2⟩ := v1.2.1
  have h1 : m_t1 Y k f e = Y f e := by
    unfold m_t1
    split
    · exact ent_c h.1 hc
    · rfl
  unfold m_tk
  rw [yu_c (by omega) hc]
  unfold m_t2
  split
  · have c6 : m_t1 Y k 6 k = Y 6 k := t1_f (by omega)
    rw [← c6, dw_off l1 l2 ?_, h1]
    intro hh
    apply hc
    rcases hh with ⟨rfl, hh⟩ | ⟨hh, rfl⟩
    · unfold cow; rw [if_pos rfl]; omega
    · unfold cow; rw [if_neg (by omega), if_pos hh]; omega
  · exact h1
theorem tk_f (h : ¬ ((19 ≤ f ∧ f ≤ 29) ∨ f = 41)) : m_tk Y k f e = Y f e := by
  unfold m_tk
  rw [yu_f (by omega), t2_f (by omega)]
theorem tk_21 (h : SI Y k) (hb : Y 23 k ≤ 80000000) : m_tk Y k 21 e ≤ Y 21 e + 1 := by
  have hv := h.1
  obtain ⟨l1, l2, l3⟩ := SV_L hv
  have h1 : m_t1 Y k 21 e ≤ Y 21 e + 1 ∧ (e = k → m_t1 Y k 21 e = Y 21 e) := by
    unfold m_t1
    split
    next c =>
      rw [ent_row l1 l2 (by omega), m_dw_21]
      split
      next h9 => exact ⟨by rw [h9]; omega, fun hh => by omega⟩
      next => exact ⟨by omega, fun _ => rfl⟩
    next => exact ⟨by omega, fun _ => rfl⟩
  unfold m_tk
  rw [yu_f (by decide)]
  unfold m_t2
  split
  · rw [m_dw_21]
    split
    next h9 => have := h1.2 h9; subst h9; omega
    next => exact h1.1
  · exact h1.1
theorem tks_all : ∀ (n : Nat) (Y : zY), SI Y k → Y 23 k + n ≤ 80000000 → SI (m_tks k n Y) k ∧ (∀ (f : Nat) (e : Int), ¬ cow f e = k → m_tks k n Y f e = Y f e) ∧ (∀ (f : Nat) (e : Int), ¬ ((19 ≤ f ∧ f ≤ 29) ∨ f = 41) → m_tks k n Y f e = Y f e) ∧ (∀ e, m_tks k n Y 21 e ≤ Y 21 e + n) ∧ Y 23 k ≤ m_tks k n Y 23 k ∧ m_tks k n Y 23 k ≤ Y 23 k + n := by
  intro n
  induction n with
  | zero => intro Y h _; exact ⟨h, fun _ _ _ => rfl, fun _ _ _ => rfl, fun e => by show Y 21 e ≤ Y 21 e + ((0 : Nat) : Int); omega, Int.le_refl _, by show Y 23 k ≤ Y 23 k + ((0 : Nat) : Int); omega⟩
  | succ n ih =>
    intro Y h hb
    have hb0 : 0 ≤ Y 23 k := (h.1.1 23 k).1
    have e23 : m_tk Y k 23 k = Y 23 k + 1 := by unfold m_tk; rw [yu_s]
    unfold m_tks
    split
    next c =>
      obtain ⟨b1, b2, b3, b4, b5, b6⟩ := ih (m_tk Y k) (SI_tk h (by omega) c) (by rw [e23]; omega)
      refine ⟨b1, fun f e hf => by rw [b2 f e hf, tk_c h (by omega) hf], fun f e hf => by rw [b3 f e hf, tk_f hf], fun e => ?_, by omega, by omega⟩
      have := b4 e
      have := tk_21 (e := e) h (by omega)
      omega
    next => exact ⟨h, fun _ _ _ => rfl, fun _ _ _ => rfl, fun e => by omega, by omega, by omega⟩
theorem s65_l {x : Nat} {kk N : Int} (hN : N ≤ 2000) : ∀ (m : Nat) (Y : zY) (M : Nat → Int → Value) (i : Int), SI Y k → KM T Ln M A Y k (Y 23 k) → CT T M Y (A (Y 5 k)) (Y 5 k) → PG T Ln M A W Y (Y 6 k) → 0 ≤ i → i + m = N → Y 23 k + m ≤ 80000000 → ∃ M', (∀ Q : zU → zS → Prop, z_go zP 65 30 [some (.ref x), some (zi kk), some (zi N), some (.ref (A k)), some (zi i)] [] (hj T Ln M, t) Q ↔ Q (.inl (some (zi (i + (m_tks k m Y 23 k - Y 23 k))))) (hj T Ln M', t)) ∧ KM T Ln M' A (m_tks k m Y) k (m_tks k m Y 23 k) ∧ ∀ b j, ¬ (A k ≤ b ∧ b < A k + 9) → M' b j = M b j := by
  intro m
  induction m with
  | zero =>
    intro Y M i hs hk hc hp i1 i2 hb
    refine ⟨M, fun Q => ?_, hk, fun _ _ _ => rfl⟩
    have e : i + (m_tks k 0 Y 23 k - Y 23 k) = i := by show i + (Y 23 k - Y 23 k) = i; omega
    rw [e]
    simp (disch := omega) only [g65_0, g65_1, g65_2, g65_5, g65_5n, g65_6, g65_7, g65_8, g65_11, g65_14, g65_14b, g65_17, g65_27, g65_28, g65_30, g65_32, g65_33, g65_36, g65_36n, g65_37, g65_40, g65_43, g65_43b, g65_46, g65_46n, g65_47, g65_50, g65_53, g65_56, g65_58, Int.reduceToNat, jtg, mu_s, mu_n, mu_j, mn_s, mn_n, jg_6_3, jg_5_6, Option.some.injEq, exists_eq_left', zkl_i, zkl_l, zkl_n, zkl_r, zkl_0, zc_v, zc_n, zc_t, zd_v, zd_n, mj_tg, true_and, ↓reduceIte, not_true_eq_false, not_false_eq_true, ↓if_pos, ↓if_neg, Int.reduceLE, Int.reduceLT, Int.reduceEq, Int.reduceAdd]
  | succ m ih =>
    intro Y M i hs hk hc hp i1 i2 hb
    obtain ⟨⟨f1, -⟩, ⟨b1, b2, b3, b4⟩, -, -, -, -, -, -, a9⟩ := id hk
    obtain ⟨⟨s1', -⟩, -, -, -, -, -, s11, s12, -⟩ := id a9
    obtain ⟨y1, y2⟩ : 0 ≤ Y 22 k ∧ Y 22 k ≤ 1 := hs.1.1 22 k
    have hb0 : 0 ≤ Y 23 k := (hs.1.1 23 k).1
    unfold m_tks
    by_cases he : Y 22 k = 0
    · rw [if_pos he]
      obtain ⟨M1, k1, k2, k3⟩ := tick t hs (by omega) he hk hc hp
      have e23 : m_tk Y k 23 k = Y 23 k + 1 := by unfold m_tk; rw [yu_s]
      have hkT := KM_T hk
      have c5 : m_tk Y k 5 k = Y 5 k := tk_f (by omega)
      have c6 : m_tk Y k 6 k = Y 6 k := tk_f (by omega)
      obtain ⟨M2, l1, l2, l3⟩ := ih (m_tk Y k) M1 (i + 1) (SI_tk hs (by omega) he) (by rw [e23]; exact k2) (by rw [c5]; exact CT_b (a := A k) k3 hkT (fun f f1 f2 => tk_f (by omega)) hc) (by rw [c6]; exact PG_b (a := A k) k3 hkT (tk_f (by omega)) (tk_f (by omega)) (tk_f (by omega)) (tk_f (by omega)) (fun f j f1 f2 _ _ => tk_f (by omega)) hp) (by omega) (by omega) (by rw [e23]; omega)
      refine ⟨M2, fun Q => ?_, l2, fun b j hh => by rw [l3 b j hh, k3 b j hh]⟩
      have e : i + (m_tks k m (m_tk Y k) 23 k - Y 23 k) = i + 1 + (m_tks k m (m_tk Y k) 23 k - m_tk Y k 23 k) := by rw [e23]; omega
      rw [e, ← l1 Q]
      rw [he] at s12
      refine g65_30.trans ?_
      simp (disch := omega) only [g65_0, g65_1, g65_2, g65_5, g65_5n, g65_6, g65_7, g65_8, g65_11, g65_14, g65_14b, g65_17, g65_27, g65_28, g65_32, g65_33, g65_36, g65_36n, g65_37, g65_40, g65_43, g65_43b, g65_46, g65_46n, g65_47, g65_50, g65_53, g65_56, g65_58, Int.reduceToNat, jtg, mu_s, mu_n, mu_j, mn_s, mn_n, jg_6_3, jg_5_6, Option.some.injEq, exists_eq_left', zkl_i, zkl_l, zkl_n, zkl_r, zkl_0, zc_v, zc_n, zc_t, zd_v, zd_n, mj_tg, true_and, ↓reduceIte, not_true_eq_false, not_false_eq_true, ↓if_pos, ↓if_neg, Int.reduceLE, Int.reduceLT, Int.reduceEq, Int.reduceAdd, b4, s12, k1]
    · rw [if_neg he]
      refine ⟨M, fun Q => ?_, hk, fun _ _ _ => rfl⟩
      have e : i + (Y 23 k - Y 23 k) = i := by omega
      have e1 : Y 22 k = 1 := by omega
      rw [e1] at s12
      rw [e]
      simp (disch := omega) only [g65_0, g65_1, g65_2, g65_5, g65_5n, g65_6, g65_7, g65_8, g65_11, g65_14, g65_14b, g65_17, g65_27, g65_28, g65_30, g65_32, g65_33, g65_36, g65_36n, g65_37, g65_40, g65_43, g65_43b, g65_46, g65_46n, g65_47, g65_50, g65_53, g65_56, g65_58, Int.reduceToNat, jtg, mu_s, mu_n, mu_j, mn_s, mn_n, jg_6_3, jg_5_6, Option.some.injEq, exists_eq_left', zkl_i, zkl_l, zkl_n, zkl_r, zkl_0, zc_v, zc_n, zc_t, zd_v, zd_n, mj_tg, true_and, ↓reduceIte, not_true_eq_false, not_false_eq_true, ↓if_pos, ↓if_neg, Int.reduceLE, Int.reduceLT, Int.reduceEq, Int.reduceAdd, b4, s12]
theorem c65 {N : Int} (h : RZ T Ln M n u x A W Ow X Y c n0 u0) (hc : 0 ≤ c) (hc2 : c ≤ 4000) (k1 : -2147483648 ≤ k) (k2 : k < 2147483648) (n1 : -2147483648 ≤ N) (n2 : N < 2147483648) (hd0 : cd 0 = 1) (hd1 : cd 1 = 2) : CR 65 [some (.ref x), some (zi k), some (zi N), none, none] T Ln M n u x Ow c n0 u0 cd (zi (a_cycles Y k N).1) (a_cycles Y k N).2 := by
  have hR := h.1.1
  have hH := h.1.2.2.2.1
  have hI := h.1.2.1
  have hB := h.1.2.2.1
  have hT : T x = 8 := hH.1.1
  have hn5 := h.1.2.2.2.2.2.2.2.2.2
  unfold a_cycles
  by_cases d1 : m_th Y k
  · rw [if_pos d1]
    obtain ⟨tt, a1, a2, a3, a4, a5⟩ := RLX_k h.1 d1
    obtain ⟨-, -, -, -, e1, -⟩ := kt_n a5
    by_cases d2 : Y 3 k = 5
    · rw [if_pos d2]
      have hA : T (A k) = 6 := by rw [a1]; exact e1.mpr d2
      by_cases d3 : 1 ≤ N ∧ N ≤ 2000
      · rw [if_pos d3]
        have c1 : ¬ ¬ (1 ≤ N ∧ N ≤ 2000) := fun hh => hh d3
        obtain ⟨hkm, hOw, hsi⟩ := K5_i.mp (tt.2.2.2.2.1 d2)
        obtain ⟨krf, prf, hw, -⟩ := (hI k d1.1.1 d1.1.2).2.2.2.2.2.1 d2
        have hcr := rf_th d1 krf
        have hpr := rf_th d1 prf
        obtain ⟨⟨w1, -⟩, -, -, w3, w4, w5, w6⟩ := (h.1.2.2.2.2.2.2.1 _ hcr).2.2.2.1 krf.2.1
        have hct : CT T M (yu Y 0 0 0) (A (yu Y 0 0 0 5 k)) (yu Y 0 0 0 5 k) := ⟨w1, w3, w4, w5, w6⟩
        have z : ∀ (f : Nat) (e : Int), ¬ f = 0 → yu Y 0 0 0 f e = Y f e := fun f e hf => yu_f hf
        have hpg : PG T Ln M A W (yu Y 0 0 0) (yu Y 0 0 0 6 k) := PG_f (fun _ _ _ => rfl) (z 5 _ (by omega)) (z 7 _ (by omega)) (z 8 _ (by omega)) (z 13 _ (by omega)) (fun f j _ _ _ _ => z f _ (by omega)) (PG_of h hpr prf.2.1 hw)
        have hsi' : SI (yu Y 0 0 0) k := SI_c (RG_0 hR) (fun f e hf _ _ => z f e (by omega)) (fun f e f1 f2 _ _ => z f e (by omega)) (fun f e f1 f2 _ _ => z f e (by omega)) (z 5 _ (by omega)) (z 7 _ (by omega)) (z 8 _ (by omega)) hsi
        have hkm' : KM T Ln M A (yu Y 0 0 0) k (yu Y 0 0 0 23 k) := hkm
        have hb := hB k
        have hkk := d1.1
        have h60 : Y 2 0 ≤ 60 := (hR 2 0).2
        obtain ⟨M1, l1, l2, l3⟩ := s65_l (t := (n, u)) (x := x) (kk := k) (N := N) d3.2 N.toNat (yu Y 0 0 0) M 0 hsi' hkm' hct hpg (by omega) (by omega) (by rw [z 23 _ (by omega)]; omega)
        obtain ⟨b1, b2, b3, b4, b5, b6⟩ := tks_all N.toNat (yu Y 0 0 0) hsi' (by rw [z 23 _ (by omega)]; omega)
        have heq : (if Y 22 k = 0 then ((m_last (m_ea (yu Y 0 0 0) k (Y 23 k + N)) k (Y 23 k + N) - Y 23 k, yu (m_ea (yu Y 0 0 0) k (Y 23 k + N)) 23 k (m_last (m_ea (yu Y 0 0 0) k (Y 23 k + N)) k (Y 23 k + N))) : aO) else (0, yu Y 0 0 0)) = (m_tks k N.toNat (yu Y 0 0 0) 23 k - Y 23 k, m_tks k N.toNat (yu Y 0 0 0)) := by
          have h9 := tks_ea N.toNat (yu Y 0 0 0) hsi' (by rw [z 23 _ (by omega)]; omega)
          rw [z 23 _ (by omega), show ((N.toNat : Nat) : Int) = N by omega] at h9
          by_cases c9 : Y 22 k = 0
          · rw [if_pos c9, h9]
            have h8 : yu (m_ea (yu Y 0 0 0) k (Y 23 k + N)) 23 k (m_last (m_ea (yu Y 0 0 0) k (Y 23 k + N)) k (Y 23 k + N)) 23 k = m_tks k N.toNat (yu Y 0 0 0) 23 k := by rw [h9]
            rw [yu_s] at h8
            rw [h8]
          · rw [if_neg c9]
            have h8 : m_tks k N.toNat (yu Y 0 0 0) = yu Y 0 0 0 := by
              rw [show N.toNat = (N.toNat - 1) + 1 by omega]
              show (if yu Y 0 0 0 22 k = 0 then _ else _) = _
              rw [if_neg (by rw [z 22 k (by omega)]; exact c9)]
            rw [h8, z 23 k (by omega)]
            simp
        rw [heq]
        have e0 : m_tks k N.toNat (yu Y 0 0 0) 0 0 = 0 := by rw [b3 0 0 (by omega), yu_s]
        show CR 65 _ _ _ _ _ _ _ _ _ _ _ _ (zi (m_tks k N.toNat (yu Y 0 0 0) 23 k - Y 23 k)) (m_tks k N.toNat (yu Y 0 0 0))
        have hRZ := b1.1.1
        have l1' := l1
        rw [z 23 k (by omega)] at l1' b5 b6
        generalize m_tks k N.toNat (yu Y 0 0 0) = Z at *
        have zf : ∀ (f : Nat) (e : Int), ¬ ((19 ≤ f ∧ f ≤ 29) ∨ f = 41) → ¬ f = 0 → Z f e = Y f e := fun f e hf h0 => by rw [b3 f e hf, z f e h0]
        have zc : ∀ (f : Nat) (e : Int), ¬ cow f e = k → ¬ f = 0 → Z f e = Y f e := fun f e hf h0 => by rw [b2 f e hf, z f e h0]
        have z3 := zf 3 k (by omega) (by omega)
        have h9 := RZ_one (T' := T) (Ln' := Ln) (M' := M1) (W' := W) (Ow' := Ow) (r := k) (n' := n) (u' := u) h d1 hRZ ⟨fun f e f1 f2 => zf f e (by omega) (by omega), fun f e f1 f2 => zf f e (by omega) (by omega), fun f e hf e0 he => zc f e he (by omega)⟩ (fun e => by rw [zf 13 e (by omega) (by omega)]; omega) (fun e he h9 => by rw [zf 9 e (by omega) (by omega)]; exact h9) (fun e he => zf 12 e (by omega) (by omega)) (.inl (fun f e f1 f2 => zf f e (by omega) (by omega))) (fun e => ?_) (fun a _ => ⟨rfl, rfl, rfl⟩) (fun a j q1 q2 => l3 a j (fun hh => q2 (by have := hOw (a - A k) (by omega); rw [show A k + (a - A k) = a by omega] at this; exact this))) (fun _ _ => rfl) hn5 (by omega) (by omega) ⟨fun hh => by omega, fun hh => by omega, fun hh => by omega, fun hh => by omega, fun _ => K5_i.mpr ⟨l2, hOw, b1⟩, fun hh => by omega⟩
        · refine ⟨T, Ln, M1, n, u, _, A, W, Ow, X, fun Q => ?_, .inl ⟨e0, rfl⟩, h9.1, h9.2⟩
          have e2 : (0 : Int) + (Z 23 k - Y 23 k) = Z 23 k - Y 23 k := by omega
          have l1'' := l1' Q
          rw [e2] at l1''
          refine Iff.trans ?_ l1''
          simp (disch := first | omega | (simp (disch := omega) only [tu_s, tu_n, lu_s, lu_n]; done) | (simp (disch := omega) only [tu_s, tu_n, lu_s, lu_n]; omega)) only [g65_0, g65_1, g65_2, g65_5, g65_5n, g65_6, g65_7, g65_8, g65_11, g65_14, g65_14b, g65_17, g65_27, g65_28, g65_32, g65_33, g65_36, g65_36n, g65_37, g65_40, g65_43, g65_43b, g65_46, g65_46n, g65_47, g65_50, g65_53, g65_56, g65_58, Int.reduceToNat, jtg, mu_s, mu_n, mu_j, mn_s, mn_n, jg_6_3, jg_5_6, Option.some.injEq, exists_eq_left', zkl_i, zkl_l, zkl_n, zkl_r, zkl_0, zc_v, zc_n, zc_t, zd_v, zd_n, mj_tg, true_and, ↓reduceIte, not_true_eq_false, not_false_eq_true, ↓if_pos, ↓if_neg, Int.reduceLE, Int.reduceLT, Int.reduceEq, Int.reduceAdd, s91_y hH (tgo_y d1) hA, s76, bI_f c1]
        · have he := hB e
          have e21 := b4 e
          rw [z 21 e (by omega)] at e21
          refine ⟨by omega, ?_⟩
          by_cases hek : e = k
          · subst hek; omega
          · rw [zc 23 e (by unfold cow; rw [if_neg (by omega), if_neg (by omega), if_neg (by omega), if_neg (by omega), if_neg (by omega)]; exact hek) (by omega)]; omega
      · rw [if_neg d3]
        refine CR_th h (by omega) (by omega) hd1 (fun Q => ?_)
        simp (disch := first | omega | (simp (disch := omega) only [tu_s, tu_n, lu_s, lu_n]; done) | (simp (disch := omega) only [tu_s, tu_n, lu_s, lu_n]; omega)) only [g65_0, g65_1, g65_2, g65_5, g65_5n, g65_6, g65_7, g65_8, g65_11, g65_14, g65_14b, g65_17, g65_27, g65_28, g65_32, g65_33, g65_36, g65_36n, g65_37, g65_40, g65_43, g65_43b, g65_46, g65_46n, g65_47, g65_50, g65_53, g65_56, g65_58, Int.reduceToNat, jtg, mu_s, mu_n, mu_j, mn_s, mn_n, jg_6_3, jg_5_6, Option.some.injEq, exists_eq_left', zkl_i, zkl_l, zkl_n, zkl_r, zkl_0, zc_v, zc_n, zc_t, zd_v, zd_n, mj_tg, true_and, ↓reduceIte, not_true_eq_false, not_false_eq_true, ↓if_pos, ↓if_neg, Int.reduceLE, Int.reduceLT, Int.reduceEq, Int.reduceAdd, s91_y hH (tgo_y d1) hA, s76, bI_t d3]
    · rw [if_neg d2]
      have hA : ¬ T (A k) = 6 := by rw [a1, e1]; exact d2
      refine CR_re h (by omega) (by omega) (by omega) (by omega) hd0 (fun Q => ?_)
      simp (disch := first | omega | (simp (disch := omega) only [tu_s, tu_n, lu_s, lu_n]; done) | (simp (disch := omega) only [tu_s, tu_n, lu_s, lu_n]; omega)) only [g65_0, g65_1, g65_2, g65_5, g65_5n, g65_6, g65_7, g65_8, g65_11, g65_14, g65_14b, g65_17, g65_27, g65_28, g65_32, g65_33, g65_36, g65_36n, g65_37, g65_40, g65_43, g65_43b, g65_46, g65_46n, g65_47, g65_50, g65_53, g65_56, g65_58, Int.reduceToNat, jtg, mu_s, mu_n, mu_j, mn_s, mn_n, jg_6_3, jg_5_6, Option.some.injEq, exists_eq_left', zkl_i, zkl_l, zkl_n, zkl_r, zkl_0, zc_v, zc_n, zc_t, zd_v, zd_n, mj_tg, true_and, ↓reduceIte, not_true_eq_false, not_false_eq_true, ↓if_pos, ↓if_neg, Int.reduceLE, Int.reduceLT, Int.reduceEq, Int.reduceAdd, s91_k hH (tgo_y d1) hA]
  · rw [if_neg d1]
    refine CR_re h (by omega) (by omega) (by omega) (by omega) hd0 (fun Q => ?_)
    simp (disch := first | omega | (simp (disch := omega) only [tu_s, tu_n, lu_s, lu_n]; done) | (simp (disch := omega) only [tu_s, tu_n, lu_s, lu_n]; omega)) only [g65_0, g65_1, g65_2, g65_5, g65_5n, g65_6, g65_7, g65_8, g65_11, g65_14, g65_14b, g65_17, g65_27, g65_28, g65_32, g65_33, g65_36, g65_36n, g65_37, g65_40, g65_43, g65_43b, g65_46, g65_46n, g65_47, g65_50, g65_53, g65_56, g65_58, Int.reduceToNat, jtg, mu_s, mu_n, mu_j, mn_s, mn_n, jg_6_3, jg_5_6, Option.some.injEq, exists_eq_left', zkl_i, zkl_l, zkl_n, zkl_r, zkl_0, zc_v, zc_n, zc_t, zd_v, zd_n, mj_tg, true_and, ↓reduceIte, not_true_eq_false, not_false_eq_true, ↓if_pos, ↓if_neg, Int.reduceLE, Int.reduceLT, Int.reduceEq, Int.reduceAdd, s91_n hH k1 k2 (tgo_n d1)]
end
