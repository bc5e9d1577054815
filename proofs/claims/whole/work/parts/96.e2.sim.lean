/-! CALLS: sim, made -/
section
variable {T T' : Nat → Nat} {Ln Ln' : Nat → Int} {M M' : Nat → Int → Value} {n u x n' u' a b : Nat} {A A' : Int → Nat} {W W' : Int → Int → Nat} {Ow Ow' : Nat → Int} {X X' : Int → Int} {Y Z : zY} {c n0 u0 k r pl j p : Int} {cd : Nat → Int} {Q : zU → zS → Prop}
theorem c64 (h : RZ T Ln M n u x A W Ow X Y c n0 u0) (hc : 0 ≤ c) (k1 : -2147483648 ≤ k) (k2 : k < 2147483648) (p1 : -2147483648 ≤ p) (p2' : p < 2147483648) (hd0 : cd 0 = 1) : CR 64 [some (.ref x), some (zi k), some (zi p), none, none] T Ln M n u x Ow c n0 u0 cd (zi (a_sim Y k p).1) (a_sim Y k p).2 := by
  have hR := h.1.1
  have hI := h.1.2.1
  have hH := h.1.2.2.2.1
  have hT : T x = 8 := hH.1.1
  obtain ⟨b1, b2, b3, b4⟩ := RZ_lt h
  unfold a_sim
  by_cases d1 : m_th Y k
  · rw [if_pos d1]
    obtain ⟨t, a1, a2, a3, a4, a5⟩ := RLX_k h.1 d1
    obtain ⟨-, -, -, e1, -⟩ := kt_n a5
    by_cases d2 : Y 3 k = 4
    · rw [if_pos d2]
      have hA : T (A k) = 0 := by rw [a1]; exact e1.mpr d2
      obtain ⟨-, -, c3, -⟩ := t.2.2.2.1 d2
      obtain ⟨krf, k9⟩ := (hI k d1.1.1 d1.1.2).2.2.2.2.1 d2
      have hmk := rf_th d1 krf
      by_cases d3 : m_th Y p
      · rw [if_pos d3]
        obtain ⟨t', a1', a2', a3', a4', a5'⟩ := RLX_k h.1 d3
        obtain ⟨-, e1', -⟩ := kt_n a5'
        by_cases d4 : Y 3 p = 2
        · rw [if_pos d4]
          have hA' : T (A p) = 4 := by rw [a1']; exact e1'.mpr d4
          obtain ⟨⟨⟨-, q3', q4', q5', q6', q7'⟩, -⟩, hm, ⟨⟨m3, m4, m5, m6⟩, -⟩, -, m7, m8, w1, an, mn'⟩ := prog_k h d3 d4
          have hus := us_a h hmk hm
          by_cases d5 : Y 5 k = Y 5 p
          · rw [if_pos d5]
            have hs82 := fun (Q : zU → zS → Prop) => s82_y (Ln := Ln) (M := M) (n := n) (u := u) (Q := Q) hT (hus.mpr d5)
            by_cases d6 : Y 13 p = 0
            · rw [if_pos d6]
              refine CR_re h (by omega) (by omega) (by omega) (by omega) hd0 (fun Q => ?_)
              simp (disch := first | omega | (simp (disch := omega) only [tu_s, tu_n, lu_s, lu_n]; done) | (simp (disch := omega) only [tu_s, tu_n, lu_s, lu_n]; omega)) only [g64_0, g64_1, g64_2, g64_5, g64_5n, g64_6, g64_7, g64_8, g64_11, g64_11n, g64_13, g64_14, g64_14n, g64_15, g64_18, g64_18n, g64_20, g64_23, g64_26, g64_27, g64_27n, g64_29, g64_32, g64_33, g64_36, g64_36i, g64_37, g64_37n, g64_38, g64_38n, g64_40, g64_43, g64_46, Int.reduceToNat, jtg, mu_s, mu_n, mu_j, mn_s, mn_n, jg_0_1, jg_4_1, jn_6, Option.some.injEq, exists_eq_left', zkl_i, zkl_l, zkl_n, zkl_r, zkl_0, zc_v, zc_n, zc_t, zd_v, zd_n, mj_tg, true_and, ↓reduceIte, not_true_eq_false, not_false_eq_true, ↓if_pos, ↓if_neg, Int.reduceLE, Int.reduceLT, Int.reduceEq, Int.reduceAdd, s90_y hH (tgo_y d1) hA, s88_y hH (tgo_y d3) hA', c3, q4', hs82, s83_n hT hA' q6' d6]
            · rw [if_neg d6]
              have hs83 := fun (Q : zU → zS → Prop) => s83_y (Ln := Ln) (n := n) (u := u) (Q := Q) hT hA' q6' (by omega) (by omega)
              have hs := fun (Q : zU → zS → Prop) => s42 (T := tu T n 6) (Ln := lu Ln n 11) (M := mn M n (dv 6)) (n := n + 1) (u := u + 11) (a := n) (cr := A k) (p := A p) (m := A (Y 5 p)) (pl := Y 8 (Y 5 p)) (Q := Q) tu_s (by omega) (by rw [tu_n (by omega)]; exact hA') (by rw [tu_n (by omega)]; exact m3) (by omega) (by omega) (by omega) (by omega) (by rw [mn_n (by omega)]; exact q4') (by rw [mn_n (by omega)]; exact m5) (by omega) (by omega)
              have hT1 : ∀ a, a < n → sT (tu T n 6) (n + 1) a = T a ∧ sL (lu Ln n 11) (n + 1) (Y 8 (Y 5 p)) a = Ln a := fun a ha => ⟨by rw [sT_n (by omega), tu_n (by omega)], by rw [sL_n (by omega), lu_n (by omega)]⟩
              have hM1 : ∀ a j, a < n → sM (mn M n (dv 6)) (n + 1) n (A k) (A p) a j = M a j := fun a j ha => by rw [sM_n (by omega) (by omega), mn_n (by omega)]
              have hH1 := HS_new h hT1 hM1
              have hTx : sT (tu T n 6) (n + 1) x = 8 := by rw [(hT1 x b2).1]; exact hT
              by_cases d8 : Y 2 0 < 60
              · rw [if_pos d8]
                obtain ⟨q0, q1, q2, q3, q4, q5, q6⟩ := add_0 (Y := Y) (i := 5) (p := k) (q := p)
                have hTn : sT (tu T n 6) (n + 1) n = 6 := by rw [sT_n (by omega), tu_s]
                have hs3 := fun (Q : zU → zS → Prop) => s79_y (b := n) (n := n + 1 + 1 + 1 + 1 + 1 + 1 + 1 + 1 + 1) (u := u + 11 + 4 + 16 + 7 + 4 + (Y 8 (Y 5 p)).toNat + 7 + 4 + (Y 8 (Y 5 p)).toNat) (Q := Q) hH1 d8 (by rw [hTn]; decide)
                have h0 : 0 ≤ Y 2 0 := (hR 2 0).1
                have hk1 := d1.1
                have hq1 := d3.1
                have hm1 := hm.1
                have zz : ∀ (f : Nat) (e : Int), ¬ (19 ≤ f ∧ f ≤ 29) → m_ns (m_be (m_be (m_add (yu Y 0 0 0) 5 k p) (Y 2 0 + 1)) (61 + (Y 2 0 + 1))) (Y 2 0 + 1) f e = m_add (yu Y 0 0 0) 5 k p f e := fun f e hf => by rw [ns_f (by omega), be_f (by omega), be_f (by omega)]
                have zc : ∀ (f : Nat) (e : Int), 3 ≤ f → ¬ cow f e = Y 2 0 + 1 → m_ns (m_be (m_be (m_add (yu Y 0 0 0) 5 k p) (Y 2 0 + 1)) (61 + (Y 2 0 + 1))) (Y 2 0 + 1) f e = Y f e := fun f e f1 hce => by rw [ns_c (by omega) hce, be_c (.inr rfl) (by omega) (by omega) hce, be_c (.inl rfl) (by omega) (by omega) hce, add_c f1 hce]
                have zb : ∀ (f : Nat) (e : Int), ¬ (23 ≤ f ∧ f ≤ 29) → m_ns (m_be (m_be (m_add (yu Y 0 0 0) 5 k p) (Y 2 0 + 1)) (61 + (Y 2 0 + 1))) (Y 2 0 + 1) f e = m_be (m_be (m_add (yu Y 0 0 0) 5 k p) (Y 2 0 + 1)) (61 + (Y 2 0 + 1)) f e := fun f e hf => ns_f hf
                obtain ⟨v19, v20, v21, v22⟩ := be_0 (Y := m_add (yu Y 0 0 0) 5 k p) (i := Y 2 0 + 1)
                obtain ⟨y19, y20, y21, y22⟩ := be_0 (Y := m_be (m_add (yu Y 0 0 0) 5 k p) (Y 2 0 + 1)) (i := 61 + (Y 2 0 + 1))
                have hbx : ∀ f : Nat, f = 20 ∨ f = 21 ∨ f = 22 → m_be (m_be (m_add (yu Y 0 0 0) 5 k p) (Y 2 0 + 1)) (61 + (Y 2 0 + 1)) f (Y 2 0 + 1) = m_be (m_add (yu Y 0 0 0) 5 k p) (Y 2 0 + 1) f (Y 2 0 + 1) := by
                  intro f hf
                  unfold m_be
                  rw [yu_n (by omega), yu_n (by omega), yu_n (by omega), m_zr_f (by omega)]
                have hb19 : ∀ j, 0 ≤ j → j < 12 → m_be (m_be (m_add (yu Y 0 0 0) 5 k p) (Y 2 0 + 1)) (61 + (Y 2 0 + 1)) 19 (12 * (Y 2 0 + 1) + j) = 0 := by
                  intro j j1 j2
                  refine Eq.trans ?_ (v19 j j1 j2)
                  generalize m_be (m_add (yu Y 0 0 0) 5 k p) (Y 2 0 + 1) = V
                  unfold m_be
                  rw [yu_f (by decide), yu_f (by decide), yu_f (by decide)]
                  unfold m_zr
                  rw [if_neg (by omega)]
                obtain ⟨n23, n24, n28, n29, n26, nle⟩ := ns_0 (Y := m_be (m_be (m_add (yu Y 0 0 0) 5 k p) (Y 2 0 + 1)) (61 + (Y 2 0 + 1))) (r := Y 2 0 + 1)
                have hR1 : RG (m_add (yu Y 0 0 0) 5 k p) := RG_add hR d8 (by omega) (by omega) (by omega) (by omega) (by omega) (by omega)
                have hR2 := RG_be (i := 61 + (Y 2 0 + 1)) (RG_be (i := Y 2 0 + 1) hR1)
                have hRZ : RG (m_ns (m_be (m_be (m_add (yu Y 0 0 0) 5 k p) (Y 2 0 + 1)) (61 + (Y 2 0 + 1))) (Y 2 0 + 1)) := RG_ns hR2
                have hle : ∀ e, m_ns (m_be (m_be (m_add (yu Y 0 0 0) 5 k p) (Y 2 0 + 1)) (61 + (Y 2 0 + 1))) (Y 2 0 + 1) 21 e ≤ Y 21 e := fun e => by
                  rw [zb 21 e (by omega)]
                  have h9 : m_add (yu Y 0 0 0) 5 k p 21 e = Y 21 e := add_E (by omega)
                  have h8 : 0 ≤ Y 21 e := (hR 21 e).1
                  have h7 := be_le (Y := m_add (yu Y 0 0 0) 5 k p) (i := Y 2 0 + 1) (e := e) (by rw [h9]; exact h8)
                  have h6 := be_le (Y := m_be (m_add (yu Y 0 0 0) 5 k p) (Y 2 0 + 1)) (i := 61 + (Y 2 0 + 1)) (e := e) ((RG_be hR1) 21 e).1
                  omega
                have hle3 : ∀ e, m_ns (m_be (m_be (m_add (yu Y 0 0 0) 5 k p) (Y 2 0 + 1)) (61 + (Y 2 0 + 1))) (Y 2 0 + 1) 23 e ≤ Y 23 e := fun e => by
                  have h9 : m_be (m_be (m_add (yu Y 0 0 0) 5 k p) (Y 2 0 + 1)) (61 + (Y 2 0 + 1)) 23 e = Y 23 e := by rw [be_f (by omega), be_f (by omega), add_E (by omega)]
                  have := nle e (hR2 23 e).1
                  omega
                have z19 : ∀ j, 0 ≤ j → j < 12 → m_ns (m_be (m_be (m_add (yu Y 0 0 0) 5 k p) (Y 2 0 + 1)) (61 + (Y 2 0 + 1))) (Y 2 0 + 1) 19 (12 * (Y 2 0 + 1) + j) = 0 := fun j j1 j2 => by rw [zb 19 _ (by omega)]; exact hb19 j j1 j2
                have w19 : ∀ j, 0 ≤ j → j < 12 → m_ns (m_be (m_be (m_add (yu Y 0 0 0) 5 k p) (Y 2 0 + 1)) (61 + (Y 2 0 + 1))) (Y 2 0 + 1) 19 (12 * (61 + (Y 2 0 + 1)) + j) = 0 := fun j j1 j2 => by rw [zb 19 _ (by omega)]; exact y19 j j1 j2
                have z20 := zb 20 (Y 2 0 + 1) (by omega)
                have z21 := zb 21 (Y 2 0 + 1) (by omega)
                have z22 := zb 22 (Y 2 0 + 1) (by omega)
                have w20 := zb 20 (61 + (Y 2 0 + 1)) (by omega)
                have w21 := zb 21 (61 + (Y 2 0 + 1)) (by omega)
                have w22 := zb 22 (61 + (Y 2 0 + 1)) (by omega)
                rw [hbx 20 (by omega), v20] at z20
                rw [hbx 21 (by omega), v21] at z21
                rw [hbx 22 (by omega), v22] at z22
                rw [y20] at w20
                rw [y21] at w21
                rw [y22] at w22
                have z3 := zz 3 (Y 2 0 + 1) (by omega)
                have z5 := zz 5 (Y 2 0 + 1) (by omega)
                have z6 := zz 6 (Y 2 0 + 1) (by omega)
                have u0' := zz 0 0 (by omega)
                have u1 := zz 1 0 (by omega)
                have u2 := zz 2 0 (by omega)
                have u4 := zz 4 (Y 2 0 + 1) (by omega)
                have uE : ∀ (f : Nat) (e : Int), 30 ≤ f → f ≤ 40 → m_ns (m_be (m_be (m_add (yu Y 0 0 0) 5 k p) (Y 2 0 + 1)) (61 + (Y 2 0 + 1))) (Y 2 0 + 1) f e = Y f e := fun f e f1 f2 => by rw [zz f e (by omega), add_E (by omega)]
                rw [q3] at z3
                rw [q5] at z5
                rw [q6] at z6
                rw [q0] at u0'
                rw [q1] at u1
                rw [q2] at u2
                rw [q4] at u4
                show CR 64 _ _ _ _ _ _ _ _ _ _ _ _ (zi (Y 2 0 + 1)) (m_ns (m_be (m_be (m_add (yu Y 0 0 0) 5 k p) (Y 2 0 + 1)) (61 + (Y 2 0 + 1))) (Y 2 0 + 1))
                clear hbx hb19 nle v19 v20 v21 v22 y19 y20 y21 y22 zz zb hR2 hR1 q0 q1 q2 q3 q4 q5 q6
                generalize m_ns (m_be (m_be (m_add (yu Y 0 0 0) 5 k p) (Y 2 0 + 1)) (61 + (Y 2 0 + 1))) (Y 2 0 + 1) = Z at *
                have hrf := rf_new (Z := Z) d1 d2 (zc 3 k (by omega) (cow_n (by omega) (by omega))) (zc 4 k (by omega) (cow_n (by omega) (by omega)))
                have hrf' := rf_new (Z := Z) d3 d4 (zc 3 p (by omega) (cow_n (by omega) (by omega))) (zc 4 p (by omega) (cow_n (by omega) (by omega)))
                have zk5 := zc 5 k (by omega) (cow_n (by omega) (by omega))
                have zk9 := zc 9 k (by omega) (cow_n (by omega) (by omega))
                have zp5 := zc 5 p (by omega) (cow_n (by omega) (by omega))
                have zp13 := zc 13 p (by omega) (cow_n (by omega) (by omega))
                have zm8 := zc 8 (Y 5 p) (by omega) (cow_n (by omega) (by omega))
                have h13 : 0 < Y 13 p := by omega
                have hSI : SI Z (Y 2 0 + 1) := SI_new hRZ (by omega) (by omega) (by rw [z6, zp13]; exact h13) (by rw [z6, zp5, zm8]; exact m8.1) (by rw [z5, zk9]; exact k9) z19 w19 z20 w20 z21 w21 z22 w22 n23 n24 n26 n28 n29
                have hle' : s_le Z (Y 2 0 + 1) = 0 := by unfold s_le; rw [if_pos w21]
                have hba : s_ba Z (Y 2 0 + 1) = 0 := by unfold s_ba; rw [if_pos w21]
                refine CR_new h d8 hRZ u0' u1 u2 u4 uE (fun f e f1 f2 e0 hce => zc f e f1 hce) ?_ (fun e => ⟨hle e, hle3 e⟩) hc hT1 hM1 9 (n' := n + 1 + 1 + 1 + 1 + 1 + 1 + 1 + 1 + 1) (u' := u + 11 + 4 + 16 + 7 + 4 + (Y 8 (Y 5 p)).toNat + 7 + 4 + (Y 8 (Y 5 p)).toNat) rfl (by omega) (by omega) ?_ (fun Q => ?_)
                · refine ⟨by omega, fun hh => by omega, fun hh => by omega, fun hh => by omega, fun hh => by omega, fun _ => ?_, fun hh => by omega⟩
                  rw [z5, z6, zk5, zp5, zp13]
                  exact ⟨hrf, hrf', h13, d5⟩
                · have hMx : ∀ b j, ¬ b = x → ¬ b = x + 1 → mu (mu (sM (mn M n (dv 6)) (n + 1) n (A k) (A p)) x 1 (zi (Y 2 0 + 1))) (x + 1) (Y 2 0 + 1) (.ref n) b j = sM (mn M n (dv 6)) (n + 1) n (A k) (A p) b j := fun b j h1 h2 => by rw [mu_n h2, mu_n h1]
                  refine ⟨fun hh => by omega, fun hh => by omega, fun hh => by omega, fun hh => by omega, fun _ => ?_, fun hh => by omega⟩
                  have ea : ∀ j, j = Y 2 0 + 1 → A1 A n (Y 2 0 + 1) j = n := fun j hj => by rw [hj, A1_s]
                  unfold K5
                  rw [A1_s, z5, z6, A1_n (by omega), hle', hba, n23, n28, n29]
                  have s0' : ∀ j, ¬ j = 3 → ¬ j = 2 → sM (mn M n (dv 6)) (n + 1) n (A k) (A p) n j = sM0 (mn M n (dv 6)) (n + 1) n (A k) n j := fun j h3 h2 => by
                    unfold sM
                    rw [mu_j h3, rM_n (by omega)]
                    unfold sM1
                    rw [mu_j h2, rM_n (by omega)]
                  have s1' : ∀ j, (4 ≤ j ∧ j ≤ 8) → sM0 (mn M n (dv 6)) (n + 1) n (A k) n j = dv 6 j := fun j hj => by
                    unfold sM0
                    rw [mu_j (by omega), mu_j (by omega), mn_n (by omega), mu_j (by omega), mn_n (by omega), mu_j (by omega), mn_s]
                  refine ⟨⟨hTn, ?_, ?_, ?_, ?_⟩, ⟨?_, ?_, ?_, ?_⟩, ⟨?_, ?_, ?_, ?_, ?_⟩, ⟨?_, ?_⟩, fun j j1 j2 => ?_, fun j j1 j2 => ⟨0, ?_, by omega, by omega⟩, fun i i1 i2 => by omega, ?_, ?_, fun i hi => O1_y (by omega), hSI⟩
                  · unfold sT; rw [rT_n (by omega), rT_n (by omega), tu_n (by omega), tu_s]
                  · unfold sT; rw [rT_n (by omega), rT_n (by omega), tu_s]
                  · unfold sL; rw [rL_n (by omega), rL_n (by omega), lu_n (by omega), lu_s]
                  · unfold sL; rw [rL_n (by omega), rL_n (by omega), lu_s]
                  · rw [hMx n _ (by omega) (by omega), s0' 0 (by omega) (by omega)]
                    unfold sM0
                    rw [mu_j (by omega), mu_j (by omega), mn_n (by omega), mu_j (by omega), mn_n (by omega), mu_s]
                  · rw [hMx n _ (by omega) (by omega), s0' 1 (by omega) (by omega)]
                    unfold sM0
                    rw [mu_s]
                  · rw [hMx n _ (by omega) (by omega)]
                    unfold sM
                    rw [mu_j (by omega), rM_n (by omega)]
                    unfold sM1
                    rw [mu_s]
                  · rw [hMx n _ (by omega) (by omega)]
                    unfold sM
                    rw [mu_s]
                  · rw [hMx n _ (by omega) (by omega), s0' 4 (by omega) (by omega), s1' 4 (by omega)]; rfl
                  · rw [hMx n _ (by omega) (by omega), s0' 5 (by omega) (by omega), s1' 5 (by omega)]; rfl
                  · rw [hMx n _ (by omega) (by omega), s0' 6 (by omega) (by omega), s1' 6 (by omega)]; rfl
                  · rw [hMx n _ (by omega) (by omega), s0' 7 (by omega) (by omega), s1' 7 (by omega)]; rfl
                  · rw [hMx n _ (by omega) (by omega), s0' 8 (by omega) (by omega), s1' 8 (by omega)]; rfl
                  · rw [hMx n _ (by omega) (by omega), s0' 9 (by omega) (by omega)]
                    unfold sM0
                    rw [mu_j (by omega), mu_j (by omega), mn_n (by omega), mu_s]
                  · rw [hMx n _ (by omega) (by omega), s0' 10 (by omega) (by omega)]
                    unfold sM0
                    rw [mu_j (by omega), mu_s]
                  · rw [hMx (n + 1) _ (by omega) (by omega)]
                    unfold sM
                    rw [mu_n (by omega), rM_n (by omega)]
                    unfold sM1
                    rw [mu_n (by omega), rM_n (by omega)]
                    unfold sM0
                    rw [mu_n (by omega), mu_n (by omega), mn_n (by omega), mu_n (by omega), mn_s]
                    unfold m_ra
                    rw [if_pos (by rw [n26 j j1 j2]; omega)]
                  · rw [hMx (n + 2) _ (by omega) (by omega)]
                    unfold sM
                    rw [mu_n (by omega), rM_n (by omega)]
                    unfold sM1
                    rw [mu_n (by omega), rM_n (by omega)]
                    unfold sM0
                    rw [mu_n (by omega), mu_n (by omega), mn_s]
                  · unfold RN
                    rw [A1_n (by omega), zp5, zm8, w20, w21, w22]
                    refine RnAt_f (T := rT (tu (tu (tu T n 6) (n + 1) 100) (n + 1 + 1) 100) (n + 3)) (Ln := rL (lu (lu (lu Ln n 11) (n + 1) 4) (n + 1 + 1) 16) (n + 3) (Y 8 (Y 5 p))) (M := rM (sM0 (mn M n (dv 6)) (n + 1) n (A k)) (n + 3) (A p)) (N := fun _ => 0) ?_ ?_ ?_ rfl m8.2 (fun j j1 j2 => w19 j j1 j2) RnAt_new
                    · refine ⟨?_, ?_⟩
                      · unfold sT; rw [rT_n (by omega)]
                      · funext j; rw [hMx _ _ (by omega) (by omega)]; unfold sM sM1; rw [mu_n (by omega), rM_n (by omega), mu_n (by omega)]
                    · refine ⟨?_, ?_, ?_⟩
                      · unfold sT; rw [rT_n (by omega)]
                      · unfold sL; rw [rL_n (by omega)]
                      · funext j; rw [hMx _ _ (by omega) (by omega)]; unfold sM sM1; rw [mu_n (by omega), rM_n (by omega), mu_n (by omega)]
                    · refine ⟨?_, ?_, ?_⟩
                      · unfold sT; rw [rT_n (by omega)]
                      · unfold sL; rw [rL_n (by omega)]
                      · funext j; rw [hMx _ _ (by omega) (by omega)]; unfold sM sM1; rw [mu_n (by omega), rM_n (by omega), mu_n (by omega)]
                  · unfold RN
                    rw [A1_n (by omega), zp5, zm8, z20, z21, z22]
                    refine RnAt_f (T := sT (tu T n 6) (n + 1)) (Ln := sL (lu Ln n 11) (n + 1) (Y 8 (Y 5 p))) (M := rM (sM1 (mn M n (dv 6)) (n + 1) n (A k) (A p)) (n + 6) (A p)) (N := fun _ => 0) ⟨rfl, ?_⟩ ⟨rfl, rfl, ?_⟩ ⟨rfl, rfl, ?_⟩ rfl m8.2 (fun j j1 j2 => z19 j j1 j2) RnAt_new
                    · funext j; rw [hMx _ _ (by omega) (by omega)]; unfold sM; rw [mu_n (by omega)]
                    · funext j; rw [hMx _ _ (by omega) (by omega)]; unfold sM; rw [mu_n (by omega)]
                    · funext j; rw [hMx _ _ (by omega) (by omega)]; unfold sM; rw [mu_n (by omega)]
                · simp (disch := first | omega | (simp (disch := omega) only [tu_s, tu_n, lu_s, lu_n, rT_n, rL_n]; done) | (simp (disch := omega) only [tu_s, tu_n, lu_s, lu_n, rT_n, rL_n]; omega)) only [g64_0, g64_1, g64_2, g64_5, g64_5n, g64_6, g64_7, g64_8, g64_11, g64_11n, g64_13, g64_14, g64_14n, g64_15, g64_18, g64_18n, g64_20, g64_23, g64_26, g64_27, g64_27n, g64_29, g64_32, g64_33, g64_36, g64_36i, g64_37, g64_37n, g64_38, g64_38n, g64_40, g64_43, g64_46, Int.reduceToNat, jtg, mu_s, mu_n, mu_j, mn_s, mn_n, jg_0_1, jg_4_1, jn_6, Option.some.injEq, exists_eq_left', zkl_i, zkl_l, zkl_n, zkl_r, zkl_0, zc_v, zc_n, zc_t, zd_v, zd_n, mj_tg, true_and, ↓reduceIte, not_true_eq_false, not_false_eq_true, ↓if_pos, ↓if_neg, Int.reduceLE, Int.reduceLT, Int.reduceEq, Int.reduceAdd, s90_y hH (tgo_y d1) hA, s88_y hH (tgo_y d3) hA', c3, q4', hs82, hs83, hs, hs3]
              · rw [if_neg d8]
                have h60 : Y 2 0 = 60 := by have : Y 2 0 ≤ 60 := (hR 2 0).2; omega
                have hs3 := fun (Q : zU → zS → Prop) => s79_n (b := n) (n := n + 1 + 1 + 1 + 1 + 1 + 1 + 1 + 1 + 1) (u := u + 11 + 4 + 16 + 7 + 4 + (Y 8 (Y 5 p)).toNat + 7 + 4 + (Y 8 (Y 5 p)).toNat) (Q := Q) hH1 h60
                refine CR_rv h (by omega) (by omega) (by omega) (by omega) hd0 hT1 hM1 (n' := n + 1 + 1 + 1 + 1 + 1 + 1 + 1 + 1 + 1 + 1) (u' := u + 11 + 4 + 16 + 7 + 4 + (Y 8 (Y 5 p)).toNat + 7 + 4 + (Y 8 (Y 5 p)).toNat + 6) (by omega) (by omega) (by omega) (fun Q => ?_)
                simp (disch := first | omega | (simp (disch := omega) only [tu_s, tu_n, lu_s, lu_n, rT_n, rL_n]; done) | (simp (disch := omega) only [tu_s, tu_n, lu_s, lu_n, rT_n, rL_n]; omega)) only [g64_0, g64_1, g64_2, g64_5, g64_5n, g64_6, g64_7, g64_8, g64_11, g64_11n, g64_13, g64_14, g64_14n, g64_15, g64_18, g64_18n, g64_20, g64_23, g64_26, g64_27, g64_27n, g64_29, g64_32, g64_33, g64_36, g64_36i, g64_37, g64_37n, g64_38, g64_38n, g64_40, g64_43, g64_46, Int.reduceToNat, jtg, mu_s, mu_n, mu_j, mn_s, mn_n, jg_0_1, jg_4_1, jn_6, Option.some.injEq, exists_eq_left', zkl_i, zkl_l, zkl_n, zkl_r, zkl_0, zc_v, zc_n, zc_t, zd_v, zd_n, mj_tg, true_and, ↓reduceIte, not_true_eq_false, not_false_eq_true, ↓if_pos, ↓if_neg, Int.reduceLE, Int.reduceLT, Int.reduceEq, Int.reduceAdd, s90_y hH (tgo_y d1) hA, s88_y hH (tgo_y d3) hA', c3, q4', hs82, hs83, hs, hs3]
          · rw [if_neg d5]
            have hs82 := fun (Q : zU → zS → Prop) => s82_n (Ln := Ln) (M := M) (n := n) (u := u) (Q := Q) hT (fun hh => d5 (hus.mp hh))
            refine CR_re h (by omega) (by omega) (by omega) (by omega) hd0 (fun Q => ?_)
            simp (disch := first | omega | (simp (disch := omega) only [tu_s, tu_n, lu_s, lu_n]; done) | (simp (disch := omega) only [tu_s, tu_n, lu_s, lu_n]; omega)) only [g64_0, g64_1, g64_2, g64_5, g64_5n, g64_6, g64_7, g64_8, g64_11, g64_11n, g64_13, g64_14, g64_14n, g64_15, g64_18, g64_18n, g64_20, g64_23, g64_26, g64_27, g64_27n, g64_29, g64_32, g64_33, g64_36, g64_36i, g64_37, g64_37n, g64_38, g64_38n, g64_40, g64_43, g64_46, Int.reduceToNat, jtg, mu_s, mu_n, mu_j, mn_s, mn_n, jg_0_1, jg_4_1, jn_6, Option.some.injEq, exists_eq_left', zkl_i, zkl_l, zkl_n, zkl_r, zkl_0, zc_v, zc_n, zc_t, zd_v, zd_n, mj_tg, true_and, ↓reduceIte, not_true_eq_false, not_false_eq_true, ↓if_pos, ↓if_neg, Int.reduceLE, Int.reduceLT, Int.reduceEq, Int.reduceAdd, s90_y hH (tgo_y d1) hA, s88_y hH (tgo_y d3) hA', c3, q4', hs82]
        · rw [if_neg d4]
          have hA' : ¬ T (A p) = 4 := by rw [a1', e1']; exact d4
          refine CR_re h (by omega) (by omega) (by omega) (by omega) hd0 (fun Q => ?_)
          simp (disch := first | omega | (simp (disch := omega) only [tu_s, tu_n, lu_s, lu_n]; done) | (simp (disch := omega) only [tu_s, tu_n, lu_s, lu_n]; omega)) only [g64_0, g64_1, g64_2, g64_5, g64_5n, g64_6, g64_7, g64_8, g64_11, g64_11n, g64_13, g64_14, g64_14n, g64_15, g64_18, g64_18n, g64_20, g64_23, g64_26, g64_27, g64_27n, g64_29, g64_32, g64_33, g64_36, g64_36i, g64_37, g64_37n, g64_38, g64_38n, g64_40, g64_43, g64_46, Int.reduceToNat, jtg, mu_s, mu_n, mu_j, mn_s, mn_n, jg_0_1, jg_4_1, jn_6, Option.some.injEq, exists_eq_left', zkl_i, zkl_l, zkl_n, zkl_r, zkl_0, zc_v, zc_n, zc_t, zd_v, zd_n, mj_tg, true_and, ↓reduceIte, not_true_eq_false, not_false_eq_true, ↓if_pos, ↓if_neg, Int.reduceLE, Int.reduceLT, Int.reduceEq, Int.reduceAdd, s90_y hH (tgo_y d1) hA, s88_k hH (tgo_y d3) hA']
      · rw [if_neg d3]
        refine CR_re h (by omega) (by omega) (by omega) (by omega) hd0 (fun Q => ?_)
        simp (disch := first | omega | (simp (disch := omega) only [tu_s, tu_n, lu_s, lu_n]; done) | (simp (disch := omega) only [tu_s, tu_n, lu_s, lu_n]; omega)) only [g64_0, g64_1, g64_2, g64_5, g64_5n, g64_6, g64_7, g64_8, g64_11, g64_11n, g64_13, g64_14, g64_14n, g64_15, g64_18, g64_18n, g64_20, g64_23, g64_26, g64_27, g64_27n, g64_29, g64_32, g64_33, g64_36, g64_36i, g64_37, g64_37n, g64_38, g64_38n, g64_40, g64_43, g64_46, Int.reduceToNat, jtg, mu_s, mu_n, mu_j, mn_s, mn_n, jg_0_1, jg_4_1, jn_6, Option.some.injEq, exists_eq_left', zkl_i, zkl_l, zkl_n, zkl_r, zkl_0, zc_v, zc_n, zc_t, zd_v, zd_n, mj_tg, true_and, ↓reduceIte, not_true_eq_false, not_false_eq_true, ↓if_pos, ↓if_neg, Int.reduceLE, Int.reduceLT, Int.reduceEq, Int.reduceAdd, s90_y hH (tgo_y d1) hA, s88_n hH p1 p2' (tgo_n d3)]
    · rw [if_neg d2]
      have hA : ¬ T (A k) = 0 := by rw [a1, e1]; exact d2
      refine CR_re h (by omega) (by omega) (by omega) (by omega) hd0 (fun Q => ?_)
      simp (disch := first | omega | (simp (disch := omega) only [tu_s, tu_n, lu_s, lu_n]; done) | (simp (disch := omega) only [tu_s, tu_n, lu_s, lu_n]; omega)) only [g64_0, g64_1, g64_2, g64_5, g64_5n, g64_6, g64_7, g64_8, g64_11, g64_11n, g64_13, g64_14, g64_14n, g64_15, g64_18, g64_18n, g64_20, g64_23, g64_26, g64_27, g64_27n, g64_29, g64_32, g64_33, g64_36, g64_36i, g64_37, g64_37n, g64_38, g64_38n, g64_40, g64_43, g64_46, Int.reduceToNat, jtg, mu_s, mu_n, mu_j, mn_s, mn_n, jg_0_1, jg_4_1, jn_6, Option.some.injEq, exists_eq_left', zkl_i, zkl_l, zkl_n, zkl_r, zkl_0, zc_v, zc_n, zc_t, zd_v, zd_n, mj_tg, true_and, ↓reduceIte, not_true_eq_false, not_false_eq_true, ↓if_pos, ↓if_neg, Int.reduceLE, Int.reduceLT, Int.reduceEq, Int.reduceAdd, s90_k hH (tgo_y d1) hA]
  · rw [if_neg d1]
    refine CR_re h (by omega) (by omega) (by omega) (by omega) hd0 (fun Q => ?_)
    simp (disch := first | omega | (simp (disch := omega) only [tu_s, tu_n, lu_s, lu_n]; done) | (simp (disch := omega) only [tu_s, tu_n, lu_s, lu_n]; omega)) only [g64_0, g64_1, g64_2, g64_5, g64_5n, g64_6, g64_7, g64_8, g64_11, g64_11n, g64_13, g64_14, g64_14n, g64_15, g64_18, g64_18n, g64_20, g64_23, g64_26, g64_27, g64_27n, g64_29, g64_32, g64_33, g64_36, g64_36i, g64_37, g64_37n, g64_38, g64_38n, g64_40, g64_43, g64_46, Int.reduceToNat, jtg, mu_s, mu_n, mu_j, mn_s, mn_n, jg_0_1, jg_4_1, jn_6, Option.some.injEq, exists_eq_left', zkl_i, zkl_l, zkl_n, zkl_r, zkl_0, zc_v, zc_n, zc_t, zd_v, zd_n, mj_tg, true_and, ↓reduceIte, not_true_eq_false, not_false_eq_true, ↓if_pos, ↓if_neg, Int.reduceLE, Int.reduceLT, Int.reduceEq, Int.reduceAdd, s90_n hH k1 k2 (tgo_n d1)]
end
