/-! CALLS THAT MAKE: program, run, core, pair -/
def rT (T : Nat → Nat) (n : Nat) : Nat → Nat := tu (tu (tu T n 5) (n + 1) 101) (n + 1 + 1) 101
def rL (Ln : Nat → Int) (n : Nat) (pl : Int) : Nat → Int := lu (lu (lu Ln n 7) (n + 1) 4) (n + 1 + 1) pl
def rM (M : Nat → Int → Value) (n p : Nat) : Nat → Int → Value := mu (mn (mu (mu (mn (mu (mn M n (dv 5)) n 0 (zi 3)) (n + 1) (fun _ => zl 0)) n 2 (.ref (n + 1))) n 1 (.ref p)) (n + 1 + 1) (fun _ => zl 0)) n 3 (.ref (n + 1 + 1))
section
variable {T T' : Nat → Nat} {Ln Ln' : Nat → Int} {M M' : Nat → Int → Value} {n u x n' u' a b p : Nat} {A A' : Int → Nat} {W W' : Int → Int → Nat} {Ow Ow' : Nat → Int} {X X' : Int → Int} {Y Z : zY} {c n0 u0 k r pl j : Int} {cd : Nat → Int} {Q : zU → zS → Prop}
theorem rT_n (h : ¬ (n ≤ b ∧ b < n + 3)) : rT T n b = T b := by
  unfold rT
  rw [tu_n (by omega), tu_n (by omega), tu_n (by omega)]
theorem rT_s : rT T n n = 5 := by
  unfold rT
  rw [tu_n (by omega), tu_n (by omega), tu_s]
theorem rL_n (h : ¬ (n ≤ b ∧ b < n + 3)) : rL Ln n pl b = Ln b := by
  unfold rL
  rw [lu_n (by omega), lu_n (by omega), lu_n (by omega)]
theorem rM_n (h : ¬ (n ≤ b ∧ b < n + 3)) : rM M n p b j = M b j := by
  unfold rM
  rw [mu_n (by omega), mn_n (by omega), mu_n (by omega), mu_n (by omega), mn_n (by omega), mu_n (by omega), mn_n (by omega)]
theorem RnAt_new : RnAt (rT T n) (rL Ln n pl) (rM M n p) n p pl (fun _ => 0) 0 0 0 := by
  unfold rT rL rM
  refine ⟨⟨by rw [tu_n (by omega), tu_n (by omega), tu_s], by rw [tu_n (by omega), tu_s], tu_s, by rw [lu_n (by omega), lu_s], lu_s⟩, ?_, ?_, ?_, ?_, ?_, ?_, ?_, fun j _ _ => ?_, fun j _ _ => ?_⟩
  · rw [mu_j (by omega), mn_n (by omega), mu_j (by omega), mu_j (by omega), mn_n (by omega), mu_s]
  · rw [mu_j (by omega), mn_n (by omega), mu_s]
  · rw [mu_j (by omega), mn_n (by omega), mu_j (by omega), mu_s]
  · rw [mu_s]
  · rw [mu_j (by omega), mn_n (by omega), mu_j (by omega), mu_j (by omega), mn_n (by omega), mu_j (by omega), mn_s]; rfl
  · rw [mu_j (by omega), mn_n (by omega), mu_j (by omega), mu_j (by omega), mn_n (by omega), mu_j (by omega), mn_s]; rfl
  · rw [mu_j (by omega), mn_n (by omega), mu_j (by omega), mu_j (by omega), mn_n (by omega), mu_j (by omega), mn_s]; rfl
  · rw [mu_n (by omega), mn_n (by omega), mu_n (by omega), mu_n (by omega), mn_s]
  · rw [mu_n (by omega), mn_s]
theorem s35n {m : Nat} (hp : T p = 4) (hm : T m = 2) (pn : p < n) (mn' : m < n) (p1 : M p 1 = .ref m) (m1 : M m 1 = zi pl) (pl1 : 0 ≤ pl) (pl2 : pl ≤ 8) : z_go zP 35 0 [some (.ref n), some (.ref p)] [] (hj (tu T n 5) (lu Ln n 7) (mn M n (dv 5)), n + 1, u + 7) Q ↔ Q (.inl none) (hj (rT T n) (rL Ln n pl) (rM M n p), n + 1 + 1 + 1, u + 7 + 4 + pl.toNat) :=
  s35 (T := tu T n 5) (Ln := lu Ln n 7) (M := mn M n (dv 5)) (n := n + 1) (u := u + 7) (a := n) (p := p) (m := m) (pl := pl) (Q := Q) tu_s (by omega) (by rw [tu_n (by omega)]; exact hp) (by rw [tu_n (by omega)]; exact hm) (by omega) (by omega) (by omega) (by omega) (by rw [mn_n (by omega)]; exact p1) (by rw [mn_n (by omega)]; exact m1) pl1 pl2
theorem kt_n {i : Int} (h0 : 1 ≤ i ∧ i ≤ 6) : (kt i = 2 ↔ i = 1) ∧ (kt i = 4 ↔ i = 2) ∧ (kt i = 5 ↔ i = 3) ∧ (kt i = 0 ↔ i = 4) ∧ (kt i = 6 ↔ i = 5) ∧ (kt i = 3 ↔ i = 6) := by
  obtain h | h | h | h | h | h : i = 1 ∨ i = 2 ∨ i = 3 ∨ i = 4 ∨ i = 5 ∨ i = 6 := by omega
  all_goals (subst h; decide)
theorem c58 (h : RZ T Ln M n u x A W Ow X Y c n0 u0) (hc : 0 ≤ c) (k1 : -2147483648 ≤ k) (k2 : k < 2147483648) (hd0 : cd 0 = 1) : CR 58 [some (.ref x), some (zi k)] T Ln M n u x Ow c n0 u0 cd (zi (a_program Y k).1) (a_program Y k).2 := by
  have hR := h.1.1
  have hT : T x = 8 := h.1.2.2.2.1.1.1
  obtain ⟨b1, b2, b3, b4⟩ := RZ_lt h
  have hT0 : ∀ a, a < n → tu T n 4 a = T a ∧ lu Ln n 4 a = Ln a := fun a ha => ⟨tu_n (by omega), lu_n (by omega)⟩
  have hM0 : ∀ a j, a < n → mn M n (dv 4) a j = M a j := fun a j ha => mn_n (by omega)
  have hH0 := HS_new h hT0 hM0
  unfold a_program
  by_cases d1 : m_th Y k
  · rw [if_pos d1]
    obtain ⟨t, a1, a2, a3, a4, a5⟩ := RLX_k h.1 d1
    have an := b4 k d1
    obtain ⟨e1, -⟩ := kt_n a5
    by_cases d2 : Y 3 k = 1
    · rw [if_pos d2]
      have hA : T (A k) = 2 := by rw [a1]; exact e1.mpr d2
      have hs87 := fun (Q : zU → zS → Prop) => s87_y (n := n + 1) (u := u + 4) (Q := Q) hH0 (tgo_y d1) (by rw [tu_n (by omega)]; exact hA)
      have hs := fun (Q : zU → zS → Prop) => s30 (T := tu T n 4) (Ln := lu Ln n 4) (M := mn M n (dv 4)) (n := n + 1) (u := u + 4) (a := n) (b := A k) (Q := Q) tu_s (by omega)
      have hT1 : ∀ a, a < n → tu (tu T n 4) (n + 1) 104 a = T a ∧ lu (lu Ln n 4) (n + 1) 24 a = Ln a := fun a ha => ⟨by rw [tu_n (by omega), tu_n (by omega)], by rw [lu_n (by omega), lu_n (by omega)]⟩
      have hM1 : ∀ a j, a < n → mu (mu (mn (mu (mn M n (dv 4)) n 0 (zi 2)) (n + 1) (fun _ => .null)) n 2 (.ref (n + 1))) n 1 (.ref (A k)) a j = M a j := fun a j ha => by
        rw [mu_n (by omega), mu_n (by omega), mn_n (by omega), mu_n (by omega), mn_n (by omega)]
      have hH1 := HS_new h hT1 hM1
      by_cases d3 : Y 2 0 < 60
      · rw [if_pos d3]
        obtain ⟨q0, q1, q2, q3, q4, q5, q6⟩ := add_0 (Y := Y) (i := 2) (p := k) (q := 0)
        have hs2 := fun (Q : zU → zS → Prop) => s79_y (b := n) (n := n + 1 + 1) (u := u + 4 + 24) (Q := Q) hH1 d3 (by rw [tu_n (by omega), tu_s]; decide)
        have zz : ∀ (f : Nat) (e : Int), ¬ f = 13 → yu (m_add (yu Y 0 0 0) 2 k 0) 13 (Y 2 0 + 1) 0 f e = m_add (yu Y 0 0 0) 2 k 0 f e := fun f e hf => yu_f hf
        have z13 : yu (m_add (yu Y 0 0 0) 2 k 0) 13 (Y 2 0 + 1) 0 13 (Y 2 0 + 1) = 0 := yu_s
        have zc : ∀ (f : Nat) (e : Int), 3 ≤ f → ¬ cow f e = Y 2 0 + 1 → yu (m_add (yu Y 0 0 0) 2 k 0) 13 (Y 2 0 + 1) 0 f e = Y f e := fun f e f1 hce => by rw [yu_c (by omega) hce, add_c f1 hce]
        have z3 := zz 3 (Y 2 0 + 1) (by decide)
        have z5 := zz 5 (Y 2 0 + 1) (by decide)
        rw [q3] at z3
        rw [q5] at z5
        have hk1 := d1.1
        have hkc : ∀ f : Nat, 3 ≤ f → f ≤ 12 → yu (m_add (yu Y 0 0 0) 2 k 0) 13 (Y 2 0 + 1) 0 f k = Y f k := fun f f1 f2 => zc f k f1 (by unfold cow; rw [if_neg (by omega), if_neg (by omega), if_neg (by omega), if_neg (by omega), if_neg (by omega)]; omega)
        have hrf := rf_new (Z := yu (m_add (yu Y 0 0 0) 2 k 0) 13 (Y 2 0 + 1) 0) d1 d2 (hkc 3 (by omega) (by omega)) (hkc 4 (by omega) (by omega))
        show CR 58 _ _ _ _ _ _ _ _ _ _ _ _ (zi (Y 2 0 + 1)) (yu (m_add (yu Y 0 0 0) 2 k 0) 13 (Y 2 0 + 1) 0)
        refine CR_new h d3 (RG_u (RG_add hR d3 (by omega) (by omega) (by omega) (by omega) (by omega) (by omega)) (by decide) (by decide)) (by rw [zz 0 0 (by decide)]; exact q0) (by rw [zz 1 0 (by decide)]; exact q1) (by rw [zz 2 0 (by decide)]; exact q2) (by rw [zz 4 _ (by decide)]; exact q4) (fun f e f1 f2 => by rw [zz f e (by omega), add_E (by omega)]) (fun f e f1 f2 e0 hce => zc f e f1 hce) ?_ (fun e => ?_) hc hT1 hM1 2 (n' := n + 1 + 1) (u' := u + 4 + 24) rfl (by omega) (by omega) ?_ (fun Q => ?_)
        · refine ⟨by omega, fun hh => by omega, fun _ => by rw [z5]; exact hrf, fun hh => by omega, fun hh => by omega, fun hh => by omega, fun hh => by omega⟩
        · rw [zz 21 e (by decide), zz 23 e (by decide), add_E (by omega), add_E (by omega)]; omega
        · refine ⟨fun hh => by omega, fun _ => ⟨⟨⟨?_, ?_, ?_⟩, ?_, ?_, ?_, ?_, fun j j1 j2 => ?_⟩, ⟨?_, ?_⟩, fun j j1 j2 => ?_⟩, fun hh => by omega, fun hh => by omega, fun hh => by omega, fun hh => by omega⟩
          · rw [A1_s, tu_n (by omega), tu_s]
          · rw [A1_s, tu_s]
          · rw [A1_s, lu_s]
          · rw [A1_s, mu_n (by omega), mu_n (by omega), mu_j (by omega), mu_j (by omega), mn_n (by omega), mu_s]
          · rw [A1_s, mu_n (by omega), mu_n (by omega), mu_s, z5, A1_n (by omega)]
          · rw [A1_s, mu_n (by omega), mu_n (by omega), mu_j (by omega), mu_s]
          · rw [A1_s, mu_n (by omega), mu_n (by omega), mu_j (by omega), mu_j (by omega), mn_n (by omega), mu_j (by omega), mn_s, z13]; rfl
          · rw [A1_s, mu_n (by omega), mu_n (by omega), mu_n (by omega), mu_n (by omega), mn_s, z13, if_neg (by omega)]
          · rw [A1_s, O1_y (by omega)]
          · rw [A1_s, O1_y (by omega)]
          · rw [z13] at j2; omega
        · simp (disch := first | omega | (simp (disch := omega) only [tu_s, tu_n, lu_s, lu_n]; done) | (simp (disch := omega) only [tu_s, tu_n, lu_s, lu_n]; omega)) only [g58_0, g58_1, g58_4, g58_4i, g58_5, g58_6, g58_7, g58_10, g58_13, g58_16, Int.reduceToNat, jtg, mu_s, mu_n, mu_j, mn_s, mn_n, jn_4, Option.some.injEq, exists_eq_left', zkl_i, zkl_l, zkl_n, zkl_r, zkl_0, zc_v, zc_n, zc_t, zd_v, zd_n, mj_tg, true_and, ↓reduceIte, not_true_eq_false, not_false_eq_true, ↓if_pos, ↓if_neg, Int.reduceLE, Int.reduceLT, Int.reduceEq, Int.reduceAdd, hs87, hs, hs2]
      · rw [if_neg d3]
        have h60 : Y 2 0 = 60 := by have : Y 2 0 ≤ 60 := (hR 2 0).2; omega
        have hs2 := fun (Q : zU → zS → Prop) => s79_n (b := n) (n := n + 1 + 1) (u := u + 4 + 24) (Q := Q) hH1 h60
        refine CR_rv h (by omega) (by omega) (by omega) (by omega) hd0 hT1 hM1 (n' := n + 1 + 1 + 1) (u' := u + 4 + 24 + 6) (by omega) (by omega) (by omega) (fun Q => ?_)
        simp (disch := first | omega | (simp (disch := omega) only [tu_s, tu_n, lu_s, lu_n]; done) | (simp (disch := omega) only [tu_s, tu_n, lu_s, lu_n]; omega)) only [g58_0, g58_1, g58_4, g58_4i, g58_5, g58_6, g58_7, g58_10, g58_13, g58_16, Int.reduceToNat, jtg, mu_s, mu_n, mu_j, mn_s, mn_n, jn_4, Option.some.injEq, exists_eq_left', zkl_i, zkl_l, zkl_n, zkl_r, zkl_0, zc_v, zc_n, zc_t, zd_v, zd_n, mj_tg, true_and, ↓reduceIte, not_true_eq_false, not_false_eq_true, ↓if_pos, ↓if_neg, Int.reduceLE, Int.reduceLT, Int.reduceEq, Int.reduceAdd, hs87, hs, hs2]
    · rw [if_neg d2]
      have hA : ¬ tu T n 4 (A k) = 2 := by rw [tu_n (by omega), a1, e1]; exact d2
      have hs87 := fun (Q : zU → zS → Prop) => s87_k (n := n + 1) (u := u + 4) (Q := Q) hH0 (tgo_y d1) hA
      refine CR_rv h (by omega) (by omega) (by omega) (by omega) hd0 hT0 hM0 (n' := n + 1 + 1) (u' := u + 4 + 6) (by omega) (by omega) (by omega) (fun Q => ?_)
      simp (disch := first | omega | (simp (disch := omega) only [tu_s, tu_n, lu_s, lu_n]; done) | (simp (disch := omega) only [tu_s, tu_n, lu_s, lu_n]; omega)) only [g58_0, g58_1, g58_4, g58_4i, g58_5, g58_6, g58_7, g58_10, g58_13, g58_16, Int.reduceToNat, jtg, mu_s, mu_n, mu_j, mn_s, mn_n, jn_4, Option.some.injEq, exists_eq_left', zkl_i, zkl_l, zkl_n, zkl_r, zkl_0, zc_v, zc_n, zc_t, zd_v, zd_n, mj_tg, true_and, ↓reduceIte, not_true_eq_false, not_false_eq_true, ↓if_pos, ↓if_neg, Int.reduceLE, Int.reduceLT, Int.reduceEq, Int.reduceAdd, hs87]
  · rw [if_neg d1]
    have hs87 := fun (Q : zU → zS → Prop) => s87_n (n := n + 1) (u := u + 4) (Q := Q) hH0 k1 k2 (tgo_n d1)
    refine CR_rv h (by omega) (by omega) (by omega) (by omega) hd0 hT0 hM0 (n' := n + 1 + 1) (u' := u + 4 + 6) (by omega) (by omega) (by omega) (fun Q => ?_)
    simp (disch := first | omega | (simp (disch := omega) only [tu_s, tu_n, lu_s, lu_n]; done) | (simp (disch := omega) only [tu_s, tu_n, lu_s, lu_n]; omega)) only [g58_0, g58_1, g58_4, g58_4i, g58_5, g58_6, g58_7, g58_10, g58_13, g58_16, Int.reduceToNat, jtg, mu_s, mu_n, mu_j, mn_s, mn_n, jn_4, Option.some.injEq, exists_eq_left', zkl_i, zkl_l, zkl_n, zkl_r, zkl_0, zc_v, zc_n, zc_t, zd_v, zd_n, mj_tg, true_and, ↓reduceIte, not_true_eq_false, not_false_eq_true, ↓if_pos, ↓if_neg, Int.reduceLE, Int.reduceLT, Int.reduceEq, Int.reduceAdd, hs87]
/-- a living program and its machine -/
theorem prog_k (h : RZ T Ln M n u x A W Ow X Y c n0 u0) (d1 : m_th Y k) (d2 : Y 3 k = 2) : K2 T Ln M A W Ow Y k ∧ m_th Y (Y 5 k) ∧ K1 T M A Ow Y (Y 5 k) ∧ Y 3 (Y 5 k) = 1 ∧ (1 ≤ Y 7 (Y 5 k) ∧ Y 7 (Y 5 k) ≤ 32) ∧ (1 ≤ Y 8 (Y 5 k) ∧ Y 8 (Y 5 k) ≤ 8) ∧ (0 ≤ Y 13 k ∧ Y 13 k ≤ 24) ∧ A k < n ∧ A (Y 5 k) < n := by
  have hR := h.1.1
  have hI := h.1.2.1
  have hrf := (hI k d1.1.1 d1.1.2).2.2.1 d2
  have hm := rf_th d1 hrf
  have t := h.1.2.2.2.2.2.2.1
  obtain ⟨-, -, -, b4⟩ := RZ_lt h
  have hm1 := (hI _ hm.1.1 hm.1.2).2.1 hrf.2.1
  have h7 : Y 7 (Y 5 k) ≤ 32 := (hR 7 _).2
  have h8 : Y 8 (Y 5 k) ≤ 8 := (hR 8 _).2
  exact ⟨(t k d1).2.1 d2, hm, (t _ hm).1 hrf.2.1, hrf.2.1, ⟨hm1.1, h7⟩, ⟨hm1.2, h8⟩, hR 13 k, b4 k d1, b4 _ hm⟩
theorem be_c {f : Nat} {e i : Int} (hr : i = r ∨ i = 61 + r) (r1 : 1 ≤ r) (r2 : r ≤ 60) (hc : ¬ cow f e = r) : m_be Y i f e = Y f e := by
  unfold m_be
  rw [yu_w (fun hh => hc (by rw [hh.1, hh.2]; unfold cow; rw [if_neg (by omega), if_pos (by omega)]; omega)), yu_w (fun hh => hc (by rw [hh.1, hh.2]; unfold cow; rw [if_neg (by omega), if_pos (by omega)]; omega)), yu_w (fun hh => hc (by rw [hh.1, hh.2]; unfold cow; rw [if_neg (by omega), if_pos (by omega)]; omega))]
  unfold m_zr
  rw [if_neg (fun hh => hc (by rw [hh.1]; unfold cow; rw [if_pos rfl]; omega))]
theorem be_f {f : Nat} {e i : Int} (h : ¬ (19 ≤ f ∧ f ≤ 22)) : m_be Y i f e = Y f e := by
  unfold m_be
  rw [yu_f (by omega), yu_f (by omega), yu_f (by omega), m_zr_f (by omega)]
theorem be_0 {i : Int} : (∀ j, 0 ≤ j → j < 12 → m_be Y i 19 (12 * i + j) = 0) ∧ m_be Y i 20 i = 0 ∧ m_be Y i 21 i = 0 ∧ m_be Y i 22 i = 0 := by
  refine ⟨fun j j1 j2 => ?_, ?_, ?_, ?_⟩
  · unfold m_be
    rw [yu_f (by decide), yu_f (by decide), yu_f (by decide)]
    unfold m_zr
    rw [if_pos ⟨rfl, by omega, by omega⟩]
  · unfold m_be; rw [yu_f (by decide), yu_f (by decide), yu_s]
  · unfold m_be; rw [yu_f (by decide), yu_s]
  · unfold m_be; rw [yu_s]
theorem be_le {i e : Int} (h : 0 ≤ Y 21 e) : m_be Y i 21 e ≤ Y 21 e := by
  unfold m_be
  rw [yu_f (by decide), yu_e]
  split
  · exact h
  · rw [yu_f (by decide), m_zr_f (by decide)]; omega
theorem RG_be {i : Int} (h : RG Y) : RG (m_be Y i) := RG_u (RG_u (RG_u (RG_z h (by decide) (by decide)) (by decide) (by decide)) (by decide) (by decide)) (by decide) (by decide)
theorem cow_n {f : Nat} {e r : Int} (hf : 3 ≤ f ∧ f ≤ 13) (h : ¬ e = r) : ¬ cow f e = r := by
  unfold cow
  rw [if_neg (by omega), if_neg (by omega), if_neg (by omega), if_neg (by omega), if_neg (by omega)]
  exact h
theorem p2_p {b : Int} (h0 : 0 ≤ b) (h32 : b ≤ 32) : 1 ≤ p2 b := by
  have := p2_pos b
  omega
theorem c60 (h : RZ T Ln M n u x A W Ow X Y c n0 u0) (hc : 0 ≤ c) (k1 : -2147483648 ≤ k) (k2 : k < 2147483648) (hd0 : cd 0 = 1) : CR 60 [some (.ref x), some (zi k), none] T Ln M n u x Ow c n0 u0 cd (zi (a_run Y k).1) (a_run Y k).2 := by
  have hR := h.1.1
  have hH := h.1.2.2.2.1
  have hT : T x = 8 := hH.1.1
  obtain ⟨b1, b2, b3, b4⟩ := RZ_lt h
  unfold a_run
  by_cases d1 : m_th Y k
  · rw [if_pos d1]
    obtain ⟨t, a1, a2, a3, a4, a5⟩ := RLX_k h.1 d1
    obtain ⟨-, e1, -⟩ := kt_n a5
    by_cases d2 : Y 3 k = 2
    · rw [if_pos d2]
      have hA : T (A k) = 4 := by rw [a1]; exact e1.mpr d2
      obtain ⟨⟨⟨-, p3, p4, p5, p6, p7⟩, -⟩, hm, ⟨⟨m3, m4, m5, m6⟩, -⟩, -, m7, m8, w1, an, mn'⟩ := prog_k h d1 d2
      by_cases d3 : Y 13 k = 0
      · rw [if_pos d3]
        refine CR_re h (by omega) (by omega) (by omega) (by omega) hd0 (fun Q => ?_)
        simp (disch := first | omega | (simp (disch := omega) only [tu_s, tu_n, lu_s, lu_n, rT_n, rL_n]; done) | (simp (disch := omega) only [tu_s, tu_n, lu_s, lu_n, rT_n, rL_n]; omega)) only [g60_0, g60_1, g60_2, g60_5, g60_5n, g60_6, g60_7, g60_7n, g60_8, g60_11, g60_12, g60_15, g60_15i, g60_16, g60_16n, g60_17, g60_20, g60_23, Int.reduceToNat, jtg, mu_s, mu_n, mu_j, mn_s, mn_n, jn_5, Option.some.injEq, exists_eq_left', zkl_i, zkl_l, zkl_n, zkl_r, zkl_0, zc_v, zc_n, zc_t, zd_v, zd_n, mj_tg, true_and, ↓reduceIte, not_true_eq_false, not_false_eq_true, ↓if_pos, ↓if_neg, Int.reduceLE, Int.reduceLT, Int.reduceEq, Int.reduceAdd, s88_y hH (tgo_y d1) hA, s83_n hT hA p6 d3]
      · rw [if_neg d3]
        have hs83 := fun (Q : zU → zS → Prop) => s83_y (Ln := Ln) (n := n) (u := u) (Q := Q) hT hA p6 (by omega) (by omega)
        have hs := fun (Q : zU → zS → Prop) => s35n (Ln := Ln) (u := u) (Q := Q) hA m3 an mn' p4 m5 (by omega) (by omega)
        have hT1 : ∀ a, a < n → rT T n a = T a ∧ rL Ln n (Y 8 (Y 5 k)) a = Ln a := fun a ha => ⟨rT_n (by omega), rL_n (by omega)⟩
        have hM1 : ∀ a j, a < n → rM M n (A k) a j = M a j := fun a j ha => rM_n (by omega)
        have hH1 := HS_new h hT1 hM1
        by_cases d4 : Y 2 0 < 60
        · rw [if_pos d4]
          obtain ⟨q0, q1, q2, q3, q4, q5, q6⟩ := add_0 (Y := Y) (i := 3) (p := k) (q := 0)
          have hs2 := fun (Q : zU → zS → Prop) => s79_y (b := n) (n := n + 1 + 1 + 1) (u := u + 7 + 4 + (Y 8 (Y 5 k)).toNat) (Q := Q) hH1 d4 (by rw [rT_s]; decide)
          have h0 : 0 ≤ Y 2 0 := (hR 2 0).1
          have zz : ∀ (f : Nat) (e : Int), ¬ (19 ≤ f ∧ f ≤ 22) → m_be (m_add (yu Y 0 0 0) 3 k 0) (Y 2 0 + 1) f e = m_add (yu Y 0 0 0) 3 k 0 f e := fun f e hf => be_f hf
          have zc : ∀ (f : Nat) (e : Int), 3 ≤ f → ¬ cow f e = Y 2 0 + 1 → m_be (m_add (yu Y 0 0 0) 3 k 0) (Y 2 0 + 1) f e = Y f e := fun f e f1 hce => by rw [be_c (.inl rfl) (by omega) (by omega) hce, add_c f1 hce]
          have z3 := zz 3 (Y 2 0 + 1) (by omega)
          have z5 := zz 5 (Y 2 0 + 1) (by omega)
          rw [q3] at z3
          rw [q5] at z5
          have hk1 := d1.1
          have hm1 := hm.1
          obtain ⟨z19, z20, z21, z22⟩ := be_0 (Y := m_add (yu Y 0 0 0) 3 k 0) (i := Y 2 0 + 1)
          have hle : ∀ e, m_be (m_add (yu Y 0 0 0) 3 k 0) (Y 2 0 + 1) 21 e ≤ Y 21 e := fun e => by
            have h9 : m_add (yu Y 0 0 0) 3 k 0 21 e = Y 21 e := add_E (by omega)
            have h8 : 0 ≤ Y 21 e := (hR 21 e).1
            have := be_le (Y := m_add (yu Y 0 0 0) 3 k 0) (i := Y 2 0 + 1) (e := e) (by rw [h9]; exact h8)
            omega
          have h23 : ∀ e, m_be (m_add (yu Y 0 0 0) 3 k 0) (Y 2 0 + 1) 23 e ≤ Y 23 e := fun e => by
            rw [zz 23 e (by omega), add_E (by omega)]; omega
          have hRZ : RG (m_be (m_add (yu Y 0 0 0) 3 k 0) (Y 2 0 + 1)) := RG_be (RG_add hR d4 (by omega) (by omega) (by omega) (by omega) (by omega) (by omega))
          have y0 : m_be (m_add (yu Y 0 0 0) 3 k 0) (Y 2 0 + 1) 0 0 = 0 := by rw [zz 0 0 (by omega)]; exact q0
          have y1 : m_be (m_add (yu Y 0 0 0) 3 k 0) (Y 2 0 + 1) 1 0 = Y 1 0 := by rw [zz 1 0 (by omega)]; exact q1
          have y2 : m_be (m_add (yu Y 0 0 0) 3 k 0) (Y 2 0 + 1) 2 0 = Y 2 0 + 1 := by rw [zz 2 0 (by omega)]; exact q2
          have y4 : m_be (m_add (yu Y 0 0 0) 3 k 0) (Y 2 0 + 1) 4 (Y 2 0 + 1) = 1 := by rw [zz 4 _ (by omega)]; exact q4
          have yE : ∀ (f : Nat) (e : Int), 30 ≤ f → f ≤ 40 → m_be (m_add (yu Y 0 0 0) 3 k 0) (Y 2 0 + 1) f e = Y f e := fun f e f1 f2 => by rw [zz f e (by omega), add_E (by omega)]
          show CR 60 _ _ _ _ _ _ _ _ _ _ _ _ (zi (Y 2 0 + 1)) (m_be (m_add (yu Y 0 0 0) 3 k 0) (Y 2 0 + 1))
          generalize m_be (m_add (yu Y 0 0 0) 3 k 0) (Y 2 0 + 1) = Z at *
          have hrf := rf_new (Z := Z) d1 d2 (zc 3 k (by omega) (cow_n (by omega) (by omega))) (zc 4 k (by omega) (cow_n (by omega) (by omega)))
          have zk5 := zc 5 k (by omega) (cow_n (by omega) (by omega))
          have zk13 := zc 13 k (by omega) (cow_n (by omega) (by omega))
          have zm7 := zc 7 (Y 5 k) (by omega) (cow_n (by omega) (by omega))
          have zm8 := zc 8 (Y 5 k) (by omega) (cow_n (by omega) (by omega))
          have h13 : 0 < Y 13 k := by omega
          refine CR_new h d4 hRZ y0 y1 y2 y4 yE (fun f e f1 f2 e0 hce => zc f e f1 hce) ?_ (fun e => ⟨hle e, h23 e⟩) hc hT1 hM1 3 (n' := n + 1 + 1 + 1) (u' := u + 7 + 4 + (Y 8 (Y 5 k)).toNat) rfl (by omega) (by omega) ?_ (fun Q => ?_)
          · refine ⟨by omega, fun hh => by omega, fun hh => by omega, fun _ => by rw [z5, zk13]; exact ⟨hrf, h13⟩, fun hh => by omega, fun hh => by omega, fun hh => by omega⟩
          · refine ⟨fun hh => by omega, fun hh => by omega, fun _ => ⟨?_, ⟨?_, ?_, ?_⟩, ⟨fun j j1 j2 => ?_, fun j j1 j2 => ?_, ?_⟩⟩, fun hh => by omega, fun hh => by omega, fun hh => by omega⟩
            · unfold RN
              rw [A1_s, z5, A1_n (by omega), zk5, zm8, z20, z21, z22]
              refine RnAt_f (T := rT T n) (Ln := rL Ln n (Y 8 (Y 5 k))) (M := rM M n (A k)) (N := fun _ => 0) ⟨rfl, ?_⟩ ⟨rfl, rfl, ?_⟩ ⟨rfl, rfl, ?_⟩ rfl m8.2 (fun j j1 j2 => z19 j j1 j2) RnAt_new
              · funext j; rw [mu_n (by omega), mu_n (by omega)]
              · funext j; rw [mu_n (by omega), mu_n (by omega)]
              · funext j; rw [mu_n (by omega), mu_n (by omega)]
            · rw [A1_s, O1_y (by omega)]
            · rw [A1_s, O1_y (by omega)]
            · rw [A1_s, O1_y (by omega)]
            · rw [z19 j j1 j2, z5, zk5, zm7]; have := p2_pos (Y 7 (Y 5 k)); omega
            · rw [z5, zk5, zm8] at j1; exact z19 j (by omega) j2
            · rw [z20, z5, zk13]; exact h13
          · simp (disch := first | omega | (simp (disch := omega) only [tu_s, tu_n, lu_s, lu_n, rT_n, rL_n]; done) | (simp (disch := omega) only [tu_s, tu_n, lu_s, lu_n, rT_n, rL_n]; omega)) only [g60_0, g60_1, g60_2, g60_5, g60_5n, g60_6, g60_7, g60_7n, g60_8, g60_11, g60_12, g60_15, g60_15i, g60_16, g60_16n, g60_17, g60_20, g60_23, Int.reduceToNat, jtg, mu_s, mu_n, mu_j, mn_s, mn_n, jn_5, Option.some.injEq, exists_eq_left', zkl_i, zkl_l, zkl_n, zkl_r, zkl_0, zc_v, zc_n, zc_t, zd_v, zd_n, mj_tg, true_and, ↓reduceIte, not_true_eq_false, not_false_eq_true, ↓if_pos, ↓if_neg, Int.reduceLE, Int.reduceLT, Int.reduceEq, Int.reduceAdd, s88_y hH (tgo_y d1) hA, hs83, hs, hs2]
        · rw [if_neg d4]
          have h60 : Y 2 0 = 60 := by have : Y 2 0 ≤ 60 := (hR 2 0).2; omega
          have hs2 := fun (Q : zU → zS → Prop) => s79_n (b := n) (n := n + 1 + 1 + 1) (u := u + 7 + 4 + (Y 8 (Y 5 k)).toNat) (Q := Q) hH1 h60
          refine CR_rv h (by omega) (by omega) (by omega) (by omega) hd0 hT1 hM1 (n' := n + 1 + 1 + 1 + 1) (u' := u + 7 + 4 + (Y 8 (Y 5 k)).toNat + 6) (by omega) (by omega) (by omega) (fun Q => ?_)
          simp (disch := first | omega | (simp (disch := omega) only [tu_s, tu_n, lu_s, lu_n, rT_n, rL_n]; done) | (simp (disch := omega) only [tu_s, tu_n, lu_s, lu_n, rT_n, rL_n]; omega)) only [g60_0, g60_1, g60_2, g60_5, g60_5n, g60_6, g60_7, g60_7n, g60_8, g60_11, g60_12, g60_15, g60_15i, g60_16, g60_16n, g60_17, g60_20, g60_23, Int.reduceToNat, jtg, mu_s, mu_n, mu_j, mn_s, mn_n, jn_5, Option.some.injEq, exists_eq_left', zkl_i, zkl_l, zkl_n, zkl_r, zkl_0, zc_v, zc_n, zc_t, zd_v, zd_n, mj_tg, true_and, ↓reduceIte, not_true_eq_false, not_false_eq_true, ↓if_pos, ↓if_neg, Int.reduceLE, Int.reduceLT, Int.reduceEq, Int.reduceAdd, s88_y hH (tgo_y d1) hA, hs83, hs, hs2]
    · rw [if_neg d2]
      have hA : ¬ T (A k) = 4 := by rw [a1, e1]; exact d2
      refine CR_re h (by omega) (by omega) (by omega) (by omega) hd0 (fun Q => ?_)
      simp (disch := first | omega | (simp (disch := omega) only [tu_s, tu_n, lu_s, lu_n, rT_n, rL_n]; done) | (simp (disch := omega) only [tu_s, tu_n, lu_s, lu_n, rT_n, rL_n]; omega)) only [g60_0, g60_1, g60_2, g60_5, g60_5n, g60_6, g60_7, g60_7n, g60_8, g60_11, g60_12, g60_15, g60_15i, g60_16, g60_16n, g60_17, g60_20, g60_23, Int.reduceToNat, jtg, mu_s, mu_n, mu_j, mn_s, mn_n, jn_5, Option.some.injEq, exists_eq_left', zkl_i, zkl_l, zkl_n, zkl_r, zkl_0, zc_v, zc_n, zc_t, zd_v, zd_n, mj_tg, true_and, ↓reduceIte, not_true_eq_false, not_false_eq_true, ↓if_pos, ↓if_neg, Int.reduceLE, Int.reduceLT, Int.reduceEq, Int.reduceAdd, s88_k hH (tgo_y d1) hA]
  · rw [if_neg d1]
    refine CR_re h (by omega) (by omega) (by omega) (by omega) hd0 (fun Q => ?_)
    simp (disch := first | omega | (simp (disch := omega) only [tu_s, tu_n, lu_s, lu_n, rT_n, rL_n]; done) | (simp (disch := omega) only [tu_s, tu_n, lu_s, lu_n, rT_n, rL_n]; omega)) only [g60_0, g60_1, g60_2, g60_5, g60_5n, g60_6, g60_7, g60_7n, g60_8, g60_11, g60_12, g60_15, g60_15i, g60_16, g60_16n, g60_17, g60_20, g60_23, Int.reduceToNat, jtg, mu_s, mu_n, mu_j, mn_s, mn_n, jn_5, Option.some.injEq, exists_eq_left', zkl_i, zkl_l, zkl_n, zkl_r, zkl_0, zc_v, zc_n, zc_t, zd_v, zd_n, mj_tg, true_and, ↓reduceIte, not_true_eq_false, not_false_eq_true, ↓if_pos, ↓if_neg, Int.reduceLE, Int.reduceLT, Int.reduceEq, Int.reduceAdd, s88_n hH k1 k2 (tgo_n d1)]
end
