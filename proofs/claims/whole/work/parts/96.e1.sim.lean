/-! CALLS: sim -/
def sT (T : Nat → Nat) (n : Nat) : Nat → Nat := rT (rT (tu (tu T n 100) (n + 1) 100) (n + 1 + 1)) (n + 1 + 1 + 1 + 1 + 1)
def sL (Ln : Nat → Int) (n : Nat) (pl : Int) : Nat → Int := rL (rL (lu (lu Ln n 4) (n + 1) 16) (n + 1 + 1) pl) (n + 1 + 1 + 1 + 1 + 1) pl
def sM0 (M : Nat → Int → Value) (n a cr : Nat) : Nat → Int → Value := mu (mu (mn (mu (mn (mu M a 0 (zi 5)) n (fun _ => zi 0)) a 9 (.ref n)) (n + 1) (fun _ => zi 0)) a 10 (.ref (n + 1))) a 1 (.ref cr)
def sM1 (M : Nat → Int → Value) (n a cr p : Nat) : Nat → Int → Value := mu (rM (sM0 M n a cr) (n + 1 + 1) p) a 2 (.ref (n + 1 + 1))
def sM (M : Nat → Int → Value) (n a cr p : Nat) : Nat → Int → Value := mu (rM (sM1 M n a cr p) (n + 1 + 1 + 1 + 1 + 1) p) a 3 (.ref (n + 1 + 1 + 1 + 1 + 1))
section
variable {T T' : Nat → Nat} {Ln Ln' : Nat → Int} {M M' : Nat → Int → Value} {n u x n' u' a b cr p m : Nat} {A A' : Int → Nat} {W W' : Int → Int → Nat} {Ow Ow' : Nat → Int} {X X' : Int → Int} {Y Z : zY} {c n0 u0 k r pl j : Int} {cd : Nat → Int} {Q : zU → zS → Prop}
theorem sM0_n (h1 : ¬ b = a) (h2 : ¬ (n ≤ b ∧ b < n + 2)) : sM0 M n a cr b j = M b j := by
  unfold sM0
  rw [mu_n h1, mu_n h1, mn_n (by omega), mu_n h1, mn_n (by omega), mu_n h1]
theorem sM1_n (h1 : ¬ b = a) (h2 : ¬ (n ≤ b ∧ b < n + 5)) : sM1 M n a cr p b j = M b j := by
  unfold sM1
  rw [mu_n h1, rM_n (by omega), sM0_n h1 (by omega)]
theorem sM_n (h1 : ¬ b = a) (h2 : ¬ (n ≤ b ∧ b < n + 8)) : sM M n a cr p b j = M b j := by
  unfold sM
  rw [mu_n h1, rM_n (by omega), sM1_n h1 (by omega)]
theorem sT_n (h : ¬ (n ≤ b ∧ b < n + 8)) : sT T n b = T b := by
  unfold sT
  rw [rT_n (by omega), rT_n (by omega), tu_n (by omega), tu_n (by omega)]
theorem sL_n (h : ¬ (n ≤ b ∧ b < n + 8)) : sL Ln n pl b = Ln b := by
  unfold sL
  rw [rL_n (by omega), rL_n (by omega), lu_n (by omega), lu_n (by omega)]
set_option maxHeartbeats 1000000 in
theorem s42 (h : T a = 6) (ha : a < n) (hp : T p = 4) (hm : T m = 2) (pn : p < n) (mn' : m < n) (pa : ¬ p = a) (ma : ¬ m = a) (p1 : M p 1 = .ref m) (m1 : M m 1 = zi pl) (pl1 : 0 ≤ pl) (pl2 : pl ≤ 8) : z_go zP 42 0 [some (.ref a), some (.ref cr), some (.ref p)] [] (hj T Ln M, n, u) Q ↔ Q (.inl none) (hj (sT T n) (sL Ln n pl) (sM M n a cr p), n + 1 + 1 + 1 + 1 + 1 + 1 + 1 + 1, u + 4 + 16 + 7 + 4 + pl.toNat + 7 + 4 + pl.toNat) := by
  have hs := fun (Q : zU → zS → Prop) (k : Int) => s48 (T := T) (Ln := Ln) (M := M) (n := n) (u := u) (a := a) (Q := Q) (k := k) (by omega)
  have h1 := fun (Q : zU → zS → Prop) => s35n (T := tu (tu T n 100) (n + 1) 100) (Ln := lu (lu Ln n 4) (n + 1) 16) (M := sM0 M n a cr) (n := n + 1 + 1) (u := u + 4 + 16) (p := p) (m := m) (pl := pl) (Q := Q) (by rw [tu_n (by omega), tu_n (by omega)]; exact hp) (by rw [tu_n (by omega), tu_n (by omega)]; exact hm) (by omega) (by omega) (by rw [sM0_n pa (by omega)]; exact p1) (by rw [sM0_n ma (by omega)]; exact m1) pl1 pl2
  have h2 := fun (Q : zU → zS → Prop) => s35n (T := rT (tu (tu T n 100) (n + 1) 100) (n + 1 + 1)) (Ln := rL (lu (lu Ln n 4) (n + 1) 16) (n + 1 + 1) pl) (M := sM1 M n a cr p) (n := n + 1 + 1 + 1 + 1 + 1) (u := u + 4 + 16 + 7 + 4 + pl.toNat) (p := p) (m := m) (pl := pl) (Q := Q) (by rw [rT_n (by omega), tu_n (by omega), tu_n (by omega)]; exact hp) (by rw [rT_n (by omega), tu_n (by omega), tu_n (by omega)]; exact hm) (by omega) (by omega) (by rw [sM1_n pa (by omega)]; exact p1) (by rw [sM1_n ma (by omega)]; exact m1) pl1 pl2
  have e0 : sM0 M n a cr = mu (mu (mn (mu (mn (mu M a 0 (zi 5)) n (fun _ => zi 0)) a 9 (.ref n)) (n + 1) (fun _ => zi 0)) a 10 (.ref (n + 1))) a 1 (.ref cr) := rfl
  have e1 : sM1 M n a cr p = mu (rM (sM0 M n a cr) (n + 1 + 1) p) a 2 (.ref (n + 1 + 1)) := rfl
  have e2 : sM M n a cr p = mu (rM (sM1 M n a cr p) (n + 1 + 1 + 1 + 1 + 1) p) a 3 (.ref (n + 1 + 1 + 1 + 1 + 1)) := rfl
  unfold sT sL
  rw [e2]
  simp (disch := first | omega | (simp (disch := omega) only [tu_s, tu_n, lu_s, lu_n, rT_n, rL_n]; done) | (simp (disch := omega) only [tu_s, tu_n, lu_s, lu_n, rT_n, rL_n]; omega)) only [g42_0, g42_1, g42_2, g42_5, g42_6, g42_7, g42_9, g42_12, g42_13, g42_15, g42_17, g42_20, g42_21, g42_21n, g42_22, g42_25, g42_26, g42_29, g42_29i, g42_30, g42_30n, g42_31, g42_34, g42_37, g42_38, g42_41, g42_41i, g42_42, g42_42n, g42_43, g42_46, g42_49, Int.reduceToNat, jtg, mu_s, mu_n, mu_j, mn_s, mn_n, jnl, jnk_0, jnk_4, jnk_16, jnk_24, jnk_28, jnk_61, jnk_2000, jnk_4096, jnk_56000, jp_6_9, jp_6_10, jp_6_1, jn_5, jp_6_2, jp_6_3, Option.some.injEq, exists_eq_left', zkl_i, zkl_l, zkl_n, zkl_r, zkl_0, zc_v, zc_n, zc_t, zd_v, zd_n, mj_tg, true_and, ↓reduceIte, not_true_eq_false, not_false_eq_true, ↓if_pos, ↓if_neg, Int.reduceLE, Int.reduceLT, Int.reduceEq, Int.reduceAdd, hs, ← e0, h1, ← e1, h2]
/-- the numbers of a new sim -/
theorem SI_new (hR : RG Z) (k1 : 1 ≤ k) (k2 : k ≤ 60) (hw : 0 < Z 13 (Z 6 k)) (h8 : 1 ≤ Z 8 (Z 5 (Z 6 k))) (h9 : 1 ≤ Z 9 (Z 5 k)) (z19 : ∀ j, 0 ≤ j → j < 12 → Z 19 (12 * k + j) = 0) (y19 : ∀ j, 0 ≤ j → j < 12 → Z 19 (12 * (61 + k) + j) = 0) (z20 : Z 20 k = 0) (y20 : Z 20 (61 + k) = 0) (z21 : Z 21 k = 0) (y21 : Z 21 (61 + k) = 0) (z22 : Z 22 k = 0) (y22 : Z 22 (61 + k) = 0) (z23 : Z 23 k = 0) (z24 : Z 24 k = 1) (z26 : ∀ j, 0 ≤ j → j < 4 → Z 26 (4 * k + j) = -1) (z28 : Z 28 k = 0) (z29 : Z 29 k = 0) : SI Z k := by
  have hra : ∀ j, 0 ≤ j → j < 4 → m_ra Z k j = 0 := by
    intro j j1 j2
    unfold m_ra
    rw [if_pos (by rw [z26 j j1 j2]; omega)]
  have hle : s_le Z k = 0 := by unfold s_le; rw [if_pos y21]
  have hba : s_ba Z k = 0 := by unfold s_ba; rw [if_pos y21]
  have hf1 : m_f1 Z k 1 = 1 := by
    unfold m_f1
    rw [hra _ (hR 16 _).1 (by have : Z 16 (m_ew Z k) ≤ 3 := (hR 16 _).2; omega), if_neg (by omega)]
  have hf2 : m_f2 Z k 1 = 1 := by
    unfold m_f2
    rw [hra _ (hR 17 _).1 (by have : Z 17 (m_ew Z k) ≤ 3 := (hR 17 _).2; omega), if_neg (by omega)]
  have hp2 := p2_pos (Z 7 (Z 5 (Z 6 k)))
  have hx8 : 0 ≤ Z 8 (Z 5 (Z 6 k)) := by omega
  refine ⟨⟨hR, ⟨k1, k2⟩, hw, by omega, fun _ hh => by omega, by rw [if_pos y21]; omega, fun j j1 j2 => by rw [z26 j j1 (by omega)]; omega, by omega, by omega, fun hh => absurd z22 hh⟩, ⟨⟨fun j j1 j2 => by rw [z19 j j1 j2]; exact hp2, fun j j1 j2 => z19 j (by omega) j2, by omega⟩, ⟨fun j j1 j2 => by rw [y19 j j1 j2]; exact hp2, fun j j1 j2 => y19 j (by omega) j2, by omega⟩⟩, ⟨⟨fun j j1 j2 => ?_, ?_, ?_⟩, ⟨fun j j1 j2 => ?_, ?_, ?_⟩⟩, fun i hi => by omega, fun _ => ⟨by omega, ?_⟩, by omega, fun i i1 i2 => by omega, by omega, fun hh => by omega, by omega, h9, fun hh => absurd z22 hh, fun _ => z24⟩
  · rw [z19 j j1 j2, z21]; rfl
  · rw [z20, z21]; rfl
  · rw [z22, z21]; rfl
  · rw [y19 j j1 j2, y21]; rfl
  · rw [y20, y21]; rfl
  · rw [y22, y21]; rfl
  · rw [hle, hba]
    show Z 24 k = m_f2 Z k (m_f1 Z k 1)
    rw [hf1, hf2]; exact z24
theorem ns_c {f : Nat} {e : Int} (r1 : 1 ≤ r) (hc : ¬ cow f e = r) : m_ns Y r f e = Y f e := by
  have h4 : ∀ (g : Nat) (i : Int), (g = 26 ∨ g = 27) → 0 ≤ i → i < 4 → ¬ (f = g ∧ e = 4 * r + i) := by
    rintro g i g1 i1 i2 ⟨rfl, rfl⟩
    apply hc
    unfold cow
    rw [if_neg (by omega), if_neg (by omega), if_neg (by omega), if_neg (by omega), if_pos g1]
    omega
  have h40 : ∀ (g : Nat), (g = 26 ∨ g = 27) → ¬ (f = g ∧ e = 4 * r) := fun g g1 hh => h4 g 0 g1 (by omega) (by omega) ⟨hh.1, by omega⟩
  unfold m_ns
  rw [yu_w (h4 27 3 (by omega) (by omega) (by omega)), yu_w (h4 26 3 (by omega) (by omega) (by omega)), yu_w (h4 27 2 (by omega) (by omega) (by omega)), yu_w (h4 26 2 (by omega) (by omega) (by omega)), yu_w (h4 27 1 (by omega) (by omega) (by omega)), yu_w (h4 26 1 (by omega) (by omega) (by omega)), yu_w (h40 27 (by omega)), yu_w (h40 26 (by omega)), yu_c (by omega) hc, yu_c (by omega) hc, yu_c (by omega) hc, yu_c (by omega) hc]
theorem ns_f {f : Nat} {e : Int} (h : ¬ (23 ≤ f ∧ f ≤ 29)) : m_ns Y r f e = Y f e := by
  unfold m_ns
  rw [yu_f (by omega), yu_f (by omega), yu_f (by omega), yu_f (by omega), yu_f (by omega), yu_f (by omega), yu_f (by omega), yu_f (by omega), yu_f (by omega), yu_f (by omega), yu_f (by omega), yu_f (by omega)]
theorem ns_0 : m_ns Y r 23 r = 0 ∧ m_ns Y r 24 r = 1 ∧ m_ns Y r 28 r = 0 ∧ m_ns Y r 29 r = 0 ∧ (∀ j, 0 ≤ j → j < 4 → m_ns Y r 26 (4 * r + j) = -1) ∧ ∀ e, 0 ≤ Y 23 e → m_ns Y r 23 e ≤ Y 23 e := by
  refine ⟨by simp [m_ns, yu], by simp [m_ns, yu], by simp [m_ns, yu], by simp [m_ns, yu], fun j j1 j2 => ?_, fun e he => ?_⟩
  · obtain rfl | rfl | rfl | rfl : j = 0 ∨ j = 1 ∨ j = 2 ∨ j = 3 := by omega
    all_goals simp [m_ns, yu]
  · unfold m_ns
    rw [yu_f (by decide), yu_f (by decide), yu_f (by decide), yu_f (by decide), yu_f (by decide), yu_f (by decide), yu_f (by decide), yu_f (by decide), yu_f (by decide), yu_f (by decide), yu_f (by decide), yu_e]
    split <;> omega
theorem RG_ns (h : RG Y) : RG (m_ns Y r) := by
  unfold m_ns
  exact RG_u (RG_u (RG_u (RG_u (RG_u (RG_u (RG_u (RG_u (RG_u (RG_u (RG_u (RG_u h (by decide) (by decide)) (by decide) (by decide)) (by decide) (by decide)) (by decide) (by decide)) (by decide) (by decide)) (by decide) (by decide)) (by decide) (by decide)) (by decide) (by decide)) (by decide) (by decide)) (by decide) (by decide)) (by decide) (by decide)) (by decide) (by decide)
end
