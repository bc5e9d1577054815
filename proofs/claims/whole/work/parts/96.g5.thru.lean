/-! THE CLASS: a pair is gone through -/
/-- what has been found out of pair k is told in the pair pr; its ends lie at bl -/
def TD (Y : zY) (k : Int) (T : Nat → Nat) (Ln : Nat → Int) (M : Nat → Int → Value) (pr bl : Nat) : Prop := ∃ n S en E, XS Y k n S ∧ EN Y k n S en E ∧ (M pr 4 = zi 1 ∧ M pr 5 = zi 0 ∧ M pr 6 = zi n ∧ M pr 7 = zi en ∧ M pr 8 = zi 0 ∧ M pr 9 = .ref bl) ∧ (T bl = 101 ∧ Ln bl = en * (8 + Y 8 (Y 5 (Y 5 k)))) ∧ ∀ i w, 0 ≤ i → i < en → 0 ≤ w → w < 8 + Y 8 (Y 5 (Y 5 k)) → M bl (i * (8 + Y 8 (Y 5 (Y 5 k))) + w) = zl (S (E i) (2 + w))
section
variable {T : Nat → Nat} {Ln : Nat → Int} {M M' : Nat → Int → Value} {t : Nat × Nat} {a pr ma nn uu : Nat} {A : Int → Nat} {W : Int → Int → Nat} {Y : zY} {n tl k en : Int} {G : Int → Int → Int} {sl E : Int → Int} {Q : zU → zS → Prop}
theorem XI_x (hx : XI T Ln M a pr ma G n sl tl) (he : XE M a en E) : EX0 T Ln M a := ⟨hx.1.1, hx.1.2.1, hx.1.2.2.1, hx.2.1.2.2.1, he.2.2.1⟩
set_option maxHeartbeats 1000000 in
theorem s4 (hR : RG Y) (hK : PK Y k) (hx : EX0 T Ln M a) (hp : PX T Ln M A W Y k pr ma) (an : a + 4 < nn) (pn : pr < nn) (hAn : A (Y 5 k) < nn) (hmn : ma < nn) : ∃ T' Ln' M' n' u', (∀ Q : zU → zS → Prop, z_go zP 4 0 [some (.ref a), some (.ref pr), none] [] (hj T Ln M, nn, uu) Q ↔ Q (.inl none) (hj T' Ln' M', n', u')) ∧ ((XT Y k ∧ M' pr 4 = zi 1 ∧ M' pr 5 = zi 1) ∨ (TD Y k T' Ln' M' pr nn ∧ n' = nn + 1)) ∧ EX0 T' Ln' M' a ∧ (nn ≤ n' ∧ n' ≤ nn + 1 ∧ uu ≤ u' ∧ u' ≤ uu + 32000) ∧ (∀ b, ¬ b = nn → T' b = T b ∧ Ln' b = Ln b) ∧ (∀ j, j < 4 → M' pr j = M pr j) ∧ ∀ b j, ¬ (a ≤ b ∧ b ≤ a + 4) → ¬ b = nn → ¬ b = pr → M' b j = M b j := by
  obtain ⟨⟨h1, h2, h3, h4, h5⟩, ⟨l1, l2, l3, l4⟩, ⟨m1, m2, m3, m4⟩, hst, hen⟩ := id hx
  obtain ⟨⟨p1, p2', p3, p4⟩, p5, ⟨⟨⟨k0, -⟩, -, k1, -⟩, ⟨k2, -, k4, -⟩, -⟩, -⟩ := id hp
  have d : ¬ pr = a := tne p1 h1 (by decide)
  have dA : ¬ A (Y 5 k) = a := tne k0 h1 (by decide)
  -- the fields
  obtain ⟨M1, hM1⟩ : ∃ M1, M1 = mu (mu (mu (mu (mu (mu M a 4 (.ref pr)) a 5 (.ref ma)) a 6 (zi 0)) a 7 (zi 0)) a 8 (zi 0)) a 9 (zi 0) := ⟨_, rfl⟩
  have f1 : ∀ b j, ¬ b = a → M1 b j = M b j := fun b j hb => by rw [hM1, mu_n hb, mu_n hb, mu_n hb, mu_n hb, mu_n hb, mu_n hb]
  have c4 : M1 a 4 = .ref pr := by rw [hM1, mu_j (by omega), mu_j (by omega), mu_j (by omega), mu_j (by omega), mu_j (by omega), mu_s]
  have c5 : M1 a 5 = .ref ma := by rw [hM1, mu_j (by omega), mu_j (by omega), mu_j (by omega), mu_j (by omega), mu_s]
  have c6 : M1 a 6 = zi 0 := by rw [hM1, mu_j (by omega), mu_j (by omega), mu_j (by omega), mu_s]
  have c7 : M1 a 7 = zi 0 := by rw [hM1, mu_j (by omega), mu_j (by omega), mu_s]
  have c8 : M1 a 8 = zi 0 := by rw [hM1, mu_j (by omega), mu_s]
  have c9 : M1 a 9 = zi 0 := by rw [hM1, mu_s]
  have c0 : ∀ j, j < 4 → M1 a j = M a j := fun j hj => by rw [hM1, mu_j (by omega), mu_j (by omega), mu_j (by omega), mu_j (by omega), mu_j (by omega), mu_j (by omega)]
  -- the rows emptied
  have f3 : ∀ b j, ¬ b = a + 2 → ¬ b = a + 4 → fz (fz M1 (a + 2) 4096 (zi 0)) (a + 4) 28 (zl 0) b j = M1 b j := fun b j x y => by rw [fz_n y, fz_n x]
  have hv3 : XV (fz (fz M1 (a + 2) 4096 (zi 0)) (a + 4) 28 (zl 0)) a (fun _ => 0) := fun j j1 j2 => fz_i j1 j2
  have h157 := fun (Q : zU → zS → Prop) => s157 (T := T) (Ln := Ln) (M := M1) (t := (nn, uu)) (Q := Q) (b := a + 2) (y := 0) h3 l2 (by omega) (by omega)
  have h156 := fun (Q : zU → zS → Prop) => s156 (T := T) (Ln := Ln) (M := fz M1 (a + 2) 4096 (zi 0)) (t := (nn, uu)) (Q := Q) (b := a + 4) (y := 0) h5 l4 (by omega) (by omega)
  have m4' : fz M1 (a + 2) 4096 (zi 0) a 3 = .ref (a + 4) := by rw [fz_n (by omega), c0 3 (by omega)]; exact m4
  have m2' : M1 a 1 = .ref (a + 2) := by rw [c0 1 (by omega)]; exact m2
  have hb3 : XB T Ln (fz (fz M1 (a + 2) 4096 (zi 0)) (a + 4) 28 (zl 0)) a pr ma := ⟨⟨h1, h2, h3, h4, h5⟩, ⟨l1, l2, l3, l4⟩, ⟨by rw [f3 a 0 (by omega) (by omega), c0 0 (by omega)]; exact m1, by rw [f3 a 1 (by omega) (by omega), c0 1 (by omega)]; exact m2, by rw [f3 a 2 (by omega) (by omega), c0 2 (by omega)]; exact m3, by rw [f3 a 3 (by omega) (by omega), c0 3 (by omega)]; exact m4⟩, by rw [f3 a 4 (by omega) (by omega)]; exact c4, by rw [f3 a 5 (by omega) (by omega)]; exact c5⟩
  have hg3 : XG (fz (fz M1 (a + 2) 4096 (zi 0)) (a + 4) 28 (zl 0)) a (fun _ _ => 0) 0 (fun _ => 0) := ⟨by rw [f3 a 6 (by omega) (by omega)]; exact c6, by omega, fun j j1 j2 => by rw [f3 _ j (by omega) (by omega), f1 _ j (by omega)]; exact hst j j1 j2, fun i j i1 i2 => by omega, fun s s1 s2 => ⟨by rw [fz_n (by omega)]; exact fz_i s1 s2, Int.le_refl 0, Int.le_refl 0⟩⟩
  have ho3 : XO (fun _ _ => 0) 0 (fun _ => 0) := ⟨fun _ => 0, fun s _ _ hh => absurd rfl hh, fun i i1 i2 => by omega⟩
  obtain ⟨M4, G4, n4, sl4, tl4, q1, q2, q3, q4, q5, q6, q7, q8, q9⟩ := s14 (t := (nn, uu)) hb3 hg3 ho3 hv3 (fun _ => by omega) (fun _ _ => by omega) (by rw [f3 a 9 (by omega) (by omega)]; exact c9)
  have hko : G4 = gu (fun _ _ => 0) 0 (fun _ => 0) ∧ n4 = 1 ∧ tl4 = 0 := by
    rcases q7 with ⟨-, -, -, i, i1, i2, -⟩ | ⟨-, ⟨-, r1, r2, r3⟩ | ⟨r0, -⟩⟩
    · omega
    · exact ⟨r1, by omega, r3⟩
    · omega
  obtain ⟨hG4, hn4, ht4⟩ := hko
  subst hn4 ht4
  have hG0 : G4 0 = fun _ => 0 := by rw [hG4]; rfl
  have f4 : ∀ b j, ¬ (a ≤ b ∧ b ≤ a + 4) → M4 b j = M b j := fun b j hh => by rw [q8 b j (by omega) (by omega) (by omega), f3 b j (by omega) (by omega), f1 b j (by omega)]
  have hp4 : PX T Ln M4 A W Y k pr ma := by
    have hM : ∀ b j, (T b = 2 ∨ T b = 3 ∨ T b = 4 ∨ T b = 7 ∨ T b = 104) → M4 b j = M b j := fun b j hb => f4 b j (fun hh => by
      obtain rfl | rfl | rfl | rfl | rfl : b = a ∨ b = a + 1 ∨ b = a + 2 ∨ b = a + 3 ∨ b = a + 4 := by omega
      · omega
      · omega
      · omega
      · omega
      · omega)
    obtain ⟨-, -, pg1, pg2, pg3⟩ := id hp
    exact ⟨⟨p1, by rw [hM _ _ (by omega)]; exact p2', by rw [hM _ _ (by omega)]; exact p3, by rw [hM _ _ (by omega)]; exact p4⟩, p5, PG_f (fun b j hb => hM b j (by omega)) rfl rfl rfl rfl (fun _ _ _ _ _ _ => rfl) pg1, PG_f (fun b j hb => hM b j (by omega)) rfl rfl rfl rfl (fun _ _ _ _ _ _ => rfl) pg2, pg3⟩
  have he4 : XE M4 a 0 (fun _ => 0) := ⟨by rw [q9 7 (by omega) (by omega), f3 a 7 (by omega) (by omega)]; exact c7, by omega, fun j j1 j2 => by rw [q8 _ j (by omega) (by omega) (by omega), f3 _ j (by omega) (by omega), f1 _ j (by omega)]; exact hen j j1 j2, fun j j1 j2 => by omega⟩
  have h84 : M4 a 8 = zi 0 := by rw [q9 8 (by omega) (by omega), f3 a 8 (by omega) (by omega)]; exact c8
  have ho4 : OK Y k (fun j _ => j < 0) G4 1 0 := OK_0 hR hK hG0
  have hep4 : EP (Bp Y k G4) (fun i => ce (G4 i)) 0 0 (fun _ => 0) := ⟨by omega, fun i i1 i2 => by omega, fun i j i1 i2 i3 => by omega, fun i i1 i2 => by omega⟩
  obtain ⟨M5, G5, n5, sl5, tl5, en5, E5, l5, r1, r2, r3, r4, r5, r6, r7, r8, r9⟩ := s4_l (t := (nn, uu)) hR hK 2000 0 M4 G4 1 sl4 0 0 (fun _ => 0) ⟨q2, q3, q4, q5, q6⟩ hp4 ho4 (.inl rfl) he4 (fun _ => hep4) h84 (by omega) (by omega) (by omega)
  have hgo : ∀ Q : zU → zS → Prop, z_go zP 4 0 [some (.ref a), some (.ref pr), none] [] (hj T Ln M, nn, uu) Q ↔ z_go zP 4 91 [some (.ref a), some (.ref pr), l5] [] (hj T Ln M5, nn, uu) Q := by
    intro Q
    rw [← r1 Q]
    have h157' := h157
    have m2'' := m2'
    rw [hM1] at h157' h156 q1 m2'' m4'
    rw [← p5] at k1
    simp (disch := omega) only [g4_0, g4_1, g4_1n, g4_2, g4_5, g4_6, g4_6n, g4_7, g4_10, g4_13, g4_16, g4_17, g4_18, g4_21, g4_22, g4_23, g4_26, g4_27, g4_28, g4_31, g4_32, g4_33, g4_36, g4_37, g4_40, g4_41, g4_44, g4_45, g4_48, g4_49, g4_52, g4_53, g4_56, g4_57, g4_59, g4_60, g4_63, g4_66, g4_67, g4_70, g4_73, g4_74, g4_77, g4_77b, g4_80, g4_81, g4_82, g4_85, g4_88, g4_91, g4_92, g4_95, Int.reduceToNat, jtg, mu_s, mu_n, mu_j, mn_s, mn_n, jp_1_4, jg_3_1, jg_4_1, jp_1_5, jp_1_6, jp_1_7, jp_1_8, jp_1_9, jg_1_1, jg_1_3, jg_1_6, jg_1_9, Option.some.injEq, exists_eq_left', zkl_i, zkl_l, zkl_n, zkl_r, zkl_0, zc_v, zc_n, zc_t, zd_v, zd_n, mj_tg, true_and, ↓reduceIte, not_true_eq_false, not_false_eq_true, ↓if_pos, ↓if_neg, Int.reduceLE, Int.reduceLT, Int.reduceEq, Int.reduceAdd, p2', k1, m2, m2'', h157', m4', h156, q1]
  have hex5 := XI_x r2 r6
  have f5 : ∀ b j, ¬ (a ≤ b ∧ b ≤ a + 4) → M5 b j = M b j := fun b j hh => by rw [r9 b j hh, f4 b j hh]
  have dpr : ¬ (a ≤ pr ∧ pr ≤ a + 4) := fun hh => by
    obtain rfl | rfl | rfl | rfl | rfl : pr = a ∨ pr = a + 1 ∨ pr = a + 2 ∨ pr = a + 3 ∨ pr = a + 4 := by omega
    · omega
    · omega
    · omega
    · omega
    · omega
  have b8 : 0 < Y 8 (Y 5 (Y 5 k)) ∧ Y 8 (Y 5 (Y 5 k)) ≤ 8 ∧ Y 5 (Y 6 k) = Y 5 (Y 5 k) := ⟨hK.2.2.1.1, (hR 8 _).2, hK.2.2.1.2⟩
  rcases r5 with rfl | rfl
  · have hep := r7 rfl
    have hE5 : ∀ j, 0 ≤ j → j < en5 → 0 ≤ E5 j ∧ E5 j < n5 := fun j j1 j2 => (hep.2.1 j j1 j2).1
    have hn5 : n5 ≤ 2000 := r2.2.1.2.1.2
    obtain ⟨M6, w1, w2, w3, w4, w5⟩ := s21_s (uu := uu) hR r2 r3 r6 r8 hE5 _ rfl an pn hAn hmn
    have hxs : XS Y k n5 (fun i => psi Y k (G5 i)) := by
      have h9 := XA_w (Dn' := fun j _ => j < n5) (fun _ _ _ _ hh => hh) r4.1
      obtain ⟨x1, x2, x3, x4, x5, x6⟩ := h9
      exact XA_xs hR b8 ⟨x1, x2, x3, x4, fun h0 i w _ i1 i2 w1 w2 hc => x5 h0 i w i2 i1 i2 w1 w2 hc, x6⟩ rfl
    have hen5 : EN Y k n5 (fun i => psi Y k (G5 i)) en5 E5 := by
      obtain ⟨y1, y2, y3, y4⟩ := hep
      refine ⟨by omega, fun i i1 i2 => ⟨(y2 i i1 i2).1, (ie_psi (r4.2.1 _ (y2 i i1 i2).1.1 (y2 i i1 i2).1.2)).mpr (y2 i i1 i2).2⟩, y3, fun i i1 i2 hi => y4 i i1 i2 ((ie_psi (r4.2.1 i i1 i2)).mp hi)⟩
    have hlen : en5 * (8 + Y 8 (Y 5 (Y 5 k))) ≤ 32000 := by
      have := Int.mul_le_mul (show en5 ≤ 2000 by have := hep.1; omega) (show 8 + Y 8 (Y 5 (Y 5 k)) ≤ 16 by omega) (by omega) (by omega : (0 : Int) ≤ 2000)
      omega
    refine ⟨tu T nn 101, lu Ln nn (en5 * (8 + Y 8 (Y 5 (Y 5 k)))), M6, nn + 1, uu + (en5 * (8 + Y 8 (Y 5 (Y 5 k)))).toNat, fun Q => ?_, .inr ⟨⟨n5, fun i => psi Y k (G5 i), en5, E5, hxs, hen5, w3, ⟨tu_s, lu_s⟩, fun i w i1 i2 w1' w2' => ?_⟩, rfl⟩, ?_, ⟨by omega, by omega, by omega, by omega⟩, fun b hb => ⟨tu_n hb, lu_n hb⟩, fun j hj => by rw [w4 j hj]; exact f5 pr j dpr, fun b j x y z => by rw [w5 b j y z]; exact f5 b j x⟩
    · rw [hgo Q]
      have t0 : T a = 1 := h1
      simp (disch := omega) only [g4_0, g4_1, g4_1n, g4_2, g4_5, g4_6, g4_6n, g4_7, g4_10, g4_13, g4_16, g4_17, g4_18, g4_21, g4_22, g4_23, g4_26, g4_27, g4_28, g4_31, g4_32, g4_33, g4_36, g4_37, g4_40, g4_41, g4_44, g4_45, g4_48, g4_49, g4_52, g4_53, g4_56, g4_57, g4_59, g4_60, g4_63, g4_66, g4_67, g4_70, g4_73, g4_74, g4_77, g4_77b, g4_80, g4_81, g4_82, g4_85, g4_88, g4_91, g4_92, g4_95, Int.reduceToNat, jtg, mu_s, mu_n, mu_j, mn_s, mn_n, jp_1_4, jg_3_1, jg_4_1, jp_1_5, jp_1_6, jp_1_7, jp_1_8, jp_1_9, jg_1_1, jg_1_3, jg_1_6, jg_1_9, Option.some.injEq, exists_eq_left', zkl_i, zkl_l, zkl_n, zkl_r, zkl_0, zc_v, zc_n, zc_t, zd_v, zd_n, mj_tg, true_and, ↓reduceIte, not_true_eq_false, not_false_eq_true, ↓if_pos, ↓if_neg, Int.reduceLE, Int.reduceLT, Int.reduceEq, Int.reduceAdd, w1]
    · rw [w2 i w i1 i2 w1' w2']
      show _ = zl (psi Y k (G5 (E5 i)) (2 + w))
      rw [psi_e (by omega) (by omega), kx_i (by omega)]
    · obtain ⟨⟨a1, a2, a3, a4, a5⟩, ⟨a6, a7, a8, a9⟩, ⟨e1, e2, e3, e4⟩, e5, e6⟩ := hex5
      have nb : ∀ i : Nat, i ≤ 4 → tu T nn 101 (a + i) = T (a + i) ∧ lu Ln nn (en5 * (8 + Y 8 (Y 5 (Y 5 k)))) (a + i) = Ln (a + i) := fun i hi => ⟨tu_n (by omega), lu_n (by omega)⟩
      have nm : ∀ (i : Nat) (j : Int), i ≤ 4 → M6 (a + i) j = M5 (a + i) j := fun i j hi => w5 _ _ (by omega) (by omega)
      have nb0 := nb 0 (by omega)
      have nm0 := fun j => nm 0 j (by omega)
      simp only [Nat.add_zero] at nb0 nm0
      exact ⟨⟨by rw [nb0.1]; exact a1, by rw [(nb 1 (by omega)).1]; exact a2, by rw [(nb 2 (by omega)).1]; exact a3, by rw [(nb 3 (by omega)).1]; exact a4, by rw [(nb 4 (by omega)).1]; exact a5⟩, ⟨by rw [(nb 1 (by omega)).2]; exact a6, by rw [(nb 2 (by omega)).2]; exact a7, by rw [(nb 3 (by omega)).2]; exact a8, by rw [(nb 4 (by omega)).2]; exact a9⟩, ⟨by rw [nm0]; exact e1, by rw [nm0]; exact e2, by rw [nm0]; exact e3, by rw [nm0]; exact e4⟩, fun j j1 j2 => by rw [nm 1 j (by omega)]; exact e5 j j1 j2, fun j j1 j2 => by rw [nm 3 j (by omega)]; exact e6 j j1 j2⟩
  · have h21 := fun (Q : zU → zS → Prop) => s21_t (t := (nn, uu)) (Q := Q) r2 p1
    have hxt : XT Y k := XA_xt r4.1 (by decide)
    have nm : ∀ (i : Nat) (j : Int), i ≤ 4 → mu (mu M5 pr 4 (zi 1)) pr 5 (zi 1) (a + i) j = M5 (a + i) j := fun i j hi => by rw [mu_n (by omega), mu_n (by omega)]
    have nm0 := fun j => nm 0 j (by omega)
    simp only [Nat.add_zero] at nm0
    refine ⟨T, Ln, mu (mu M5 pr 4 (zi 1)) pr 5 (zi 1), nn, uu, fun Q => ?_, .inl ⟨hxt, by rw [mu_j (by omega), mu_s], mu_s⟩, ?_, ⟨by omega, by omega, by omega, by omega⟩, fun b _ => ⟨rfl, rfl⟩, fun j hj => by rw [mu_j (by omega), mu_j (by omega)]; exact f5 pr j dpr, fun b j x y z => by rw [mu_n z, mu_n z]; exact f5 b j x⟩
    · rw [hgo Q]
      simp (disch := omega) only [g4_0, g4_1, g4_1n, g4_2, g4_5, g4_6, g4_6n, g4_7, g4_10, g4_13, g4_16, g4_17, g4_18, g4_21, g4_22, g4_23, g4_26, g4_27, g4_28, g4_31, g4_32, g4_33, g4_36, g4_37, g4_40, g4_41, g4_44, g4_45, g4_48, g4_49, g4_52, g4_53, g4_56, g4_57, g4_59, g4_60, g4_63, g4_66, g4_67, g4_70, g4_73, g4_74, g4_77, g4_77b, g4_80, g4_81, g4_82, g4_85, g4_88, g4_91, g4_92, g4_95, Int.reduceToNat, jtg, mu_s, mu_n, mu_j, mn_s, mn_n, jp_1_4, jg_3_1, jg_4_1, jp_1_5, jp_1_6, jp_1_7, jp_1_8, jp_1_9, jg_1_1, jg_1_3, jg_1_6, jg_1_9, Option.some.injEq, exists_eq_left', zkl_i, zkl_l, zkl_n, zkl_r, zkl_0, zc_v, zc_n, zc_t, zd_v, zd_n, mj_tg, true_and, ↓reduceIte, not_true_eq_false, not_false_eq_true, ↓if_pos, ↓if_neg, Int.reduceLE, Int.reduceLT, Int.reduceEq, Int.reduceAdd, h21]
    · obtain ⟨a1, a2, ⟨e1, e2, e3, e4⟩, e5, e6⟩ := hex5
      exact ⟨a1, a2, ⟨by rw [nm0]; exact e1, by rw [nm0]; exact e2, by rw [nm0]; exact e3, by rw [nm0]; exact e4⟩, fun j j1 j2 => by rw [nm 1 j (by omega)]; exact e5 j j1 j2, fun j j1 j2 => by rw [nm 3 j (by omega)]; exact e6 j j1 j2⟩
theorem s3 (h : T a = 1) (ha : a < nn) : z_go zP 3 0 [some (.ref a)] [] (hj T Ln M, nn, uu) Q ↔ Q (.inl none) (hj (tu (tu (tu (tu T nn 101) (nn + 1) 100) (nn + 1 + 1) 100) (nn + 1 + 1 + 1) 101) (lu (lu (lu (lu Ln nn 56000) (nn + 1) 4096) (nn + 1 + 1) 2000) (nn + 1 + 1 + 1) 28) (mu (mn (mu (mn (mu (mn (mu (mn M nn (fun _ => zl 0)) a 0 (.ref nn)) (nn + 1) (fun _ => zi 0)) a 1 (.ref (nn + 1))) (nn + 1 + 1) (fun _ => zi 0)) a 2 (.ref (nn + 1 + 1))) (nn + 1 + 1 + 1) (fun _ => zl 0)) a 3 (.ref (nn + 1 + 1 + 1))), nn + 1 + 1 + 1 + 1, uu + 56000 + 4096 + 2000 + 28) := by
  simp (disch := first | omega | (simp (disch := omega) only [tu_s, tu_n, lu_s, lu_n]; done) | (simp (disch := omega) only [tu_s, tu_n, lu_s, lu_n]; omega)) only [g3_0, g3_1, g3_4, g3_5, g3_7, g3_9, g3_12, g3_13, g3_16, g3_18, g3_21, g3_22, g3_25, g3_27, g3_30, g3_31, g3_33, g3_35, g3_38, Int.reduceToNat, jtg, mu_s, mu_n, mu_j, mn_s, mn_n, jnl, jnk_0, jnk_4, jnk_16, jnk_24, jnk_28, jnk_61, jnk_2000, jnk_4096, jnk_56000, jp_1_0, jp_1_1, jp_1_2, jp_1_3, Option.some.injEq, exists_eq_left', zkl_i, zkl_l, zkl_n, zkl_r, zkl_0, zc_v, zc_n, zc_t, zd_v, zd_n, mj_tg, true_and, ↓reduceIte, not_true_eq_false, not_false_eq_true, ↓if_pos, ↓if_neg, Int.reduceLE, Int.reduceLT, Int.reduceEq, Int.reduceAdd]
end
