/-! THE LAW'S START -/
def T0 (b : Nat) : Nat → Nat := fun a => if a = b then 99 else 200
def M0 (xs : Nat → Int32) : Nat → Int → Value := fun _ j => .int (xs j.toNat)
def T1 (b n : Nat) : Nat → Nat := tu (mT (n + 1 + 1) (tu (tu (T0 b) n 8) (n + 1) 103)) (n + 1 + 1 + 34) 101
def Ln1 (L n : Nat) : Nat → Int := lu (mL (n + 1 + 1) (lu (lu (fun _ => (L : Int)) n 4) (n + 1) 61)) (n + 1 + 1 + 34) 1
def M1 (xs : Nat → Int32) (n : Nat) : Nat → Int → Value := mn (mY (n + 1 + 1) (fun _ _ => 0) (mu (mn (mn (M0 xs) n (dv 8)) (n + 1) (fun _ => .null)) n 0 (.ref (n + 1)))) (n + 1 + 1 + 34) (fun _ => zl 0)
def Ow1 (b n : Nat) : Nat → Int := fun a => if a = b then 101 else if a = n ∨ a = n + 1 then 0 else if n + 1 + 1 ≤ a ∧ a < n + 37 then 101 else -5
theorem xs_0 : ∀ m : Nat, xs (fun _ => 0) m = 0
  | 0 => rfl
  | m + 1 => by show xs (fun _ => 0) m + 0 = 0; rw [xs_0 m]; rfl
section
variable {b L n u : Nat} {xs : Nat → Int32} {q : zH}
theorem hj_0 : z_s0 b L xs n = (hj (T0 b) (fun _ => (L : Int)) (M0 xs), n, 0) := by
  unfold z_s0
  congr 1
  funext a
  unfold hj T0
  by_cases h : a = b
  · rw [if_pos h, if_pos (by rw [if_pos h]; omega), if_pos h]
    simp only [Int.toNat_natCast]
    rfl
  · rw [if_neg h, if_neg (by rw [if_neg h]; omega)]
theorem nw9 : z_new 9 42 (fun k => defaultValue (zty 9 k)) (q, n, u) = (pm n 0 q, n + 1, u + 42) := by
  rw [znw, pm_0]
theorem law_st {Q : zU → zS → Prop} : z_go zP 174 0 [some (.ref b), none, none, none, none, none, none, none] [] (hj (T0 b) (fun _ => (L : Int)) (M0 xs), n, 0) Q ↔ z_go zP 174 23 [some (.ref b), some (.ref n), some (.ref (n + 1 + 1)), some (.ref (n + 1 + 1 + 34)), some (zi 0), none, none, none] [] (hj (T1 b n) (Ln1 L n) (M1 xs n), n + 1 + 1 + 34 + 1, 0 + 4 + (61 : Int).toNat + 42 + 73651 + (1 : Int).toNat) Q := by
  unfold T1 Ln1 M1
  simp (disch := first | omega | (simp (disch := omega) only [tu_s, tu_n, lu_s, lu_n]; done) | (simp (disch := omega) only [tu_s, tu_n, lu_s, lu_n]; omega)) only [g174_0, g174_3, g174_4, g174_7, g174_8, g174_11, g174_12, g174_15, g174_16, g174_17, g174_19, g174_20, g174_21, g56_0, g56_1, g56_4, g56_5, g56_7, g56_10, g56_13, jn_8, jnl, jp_8_0, nw9, s94, mj_new, Option.some.injEq, exists_eq_left', zkl_i, zkl_l, zkl_n, zkl_r, zkl_0, zc_v, zc_n, zc_t, zd_v, zd_n, mj_tg, true_and, ↓reduceIte, not_true_eq_false, not_false_eq_true, ↓if_pos, ↓if_neg, Int.reduceLE, Int.reduceLT, Int.reduceEq, Int.reduceAdd]
theorem T1_o {a : Nat} (h : a < n) : T1 b n a = T0 b a := by
  unfold T1 mT
  rw [tu_n (by omega), if_neg (by omega), if_neg (by omega), tu_n (by omega), tu_n (by omega)]
theorem Ln1_o {a : Nat} (h : a < n) : Ln1 L n a = L := by
  unfold Ln1 mL
  rw [lu_n (by omega), if_neg (by omega), if_neg (by omega), lu_n (by omega), lu_n (by omega)]
theorem M1_o {a : Nat} {j : Int} (h : a < n) : M1 xs n a j = M0 xs a j := by
  unfold M1 mY
  rw [mn_n (by omega), if_neg (by omega), if_neg (by omega), mu_n (by omega), mn_n (by omega), mn_n (by omega)]
theorem T1_x : T1 b n n = 8 ∧ T1 b n (n + 1) = 103 ∧ Ln1 L n (n + 1) = 61 := by
  unfold T1 mT Ln1 mL
  refine ⟨?_, ?_, ?_⟩
  · rw [tu_n (by omega), if_neg (by omega), if_neg (by omega), tu_n (by omega), tu_s]
  · rw [tu_n (by omega), if_neg (by omega), if_neg (by omega), tu_s]
  · rw [lu_n (by omega), if_neg (by omega), if_neg (by omega), lu_s]
theorem M1_0 : M1 xs n n 0 = .ref (n + 1) := by
  unfold M1 mY
  rw [mn_n (by omega), if_neg (by omega), if_neg (by omega), mu_s]
theorem M1_x {j : Int} (h : ¬ j = 0) : M1 xs n n j = dv 8 j := by
  unfold M1 mY
  rw [mn_n (by omega), if_neg (by omega), if_neg (by omega), mu_j h, mn_n (by omega), mn_s]
theorem M1_1 {j : Int} : M1 xs n (n + 1) j = .null := by
  unfold M1 mY
  rw [mn_n (by omega), if_neg (by omega), if_neg (by omega), mu_n (by omega), mn_s]
theorem RG_start : RG (fun _ _ => 0) := by
  intro f e
  refine ⟨?_, ?_⟩
  · show rlo f ≤ 0
    unfold rlo
    split <;> omega
  · show 0 ≤ rhi f
    unfold rhi
    split <;> omega
theorem th_0 {k : Int} : ¬ m_th (fun _ _ => 0) k := fun h => h.2 rfl
theorem LI_0 (hb : b < n) : LI b L xs (T1 b n) (Ln1 L n) (M1 xs n) (n + 1 + 1 + 34 + 1) u n (n + 1 + 1) (n + 1 + 1 + 34) (fun _ _ => 0) 0 ((n + 37 : Nat) : Int) (u : Int) := by
  obtain ⟨t1, t2, t3⟩ := T1_x (b := b) (n := n) (L := L)
  refine ⟨fun _ => 0, fun _ _ => 0, Ow1 b n, fun _ => 0, ⟨⟨RG_start, fun k k1 k2 => ?_, fun e => ⟨Int.le_refl _, Int.le_refl _⟩, ⟨⟨t1, t2, t3⟩, M1_0, ?_, ⟨Int.le_refl _, by show (0 : Int) ≤ 60; omega⟩, fun j j1 j2 => ?_, fun j b hh => ?_⟩, ?_, .inl ?_, fun k hk => absurd hk th_0, fun hk => absurd hk th_0, ⟨?_, ?_, fun _ _ => rfl, Int.le_refl _⟩, fun a ha => ?_⟩, fun _ => .inl rfl, by omega, 0, .inl ⟨rfl, ?_⟩, ?_⟩, ?_, ⟨?_, Ln1_o hb, ?_, fun j _ => ?_⟩, ⟨tu_s, lu_s, ?_⟩, fun i hi => ?_⟩
  · have : k ≤ 0 := k2
    omega
  · exact M1_x (by omega)
  · rw [M1_1, tgo_n th_0]
  · rw [tgo_n th_0] at hh
    cases hh
  · exact M1_x (by omega)
  · exact M1_x (by omega)
  · unfold Ow1
    rw [if_neg (by omega), if_pos (by omega)]
  · unfold Ow1
    rw [if_neg (by omega), if_pos (by omega)]
  · unfold Ow1
    rw [if_neg (by omega), if_neg (by omega), if_neg (by omega)]
  · exact M1_x (by omega)
  · rw [xs_0]
    omega
  · refine MB_f (fun i hi => ⟨?_, ?_, fun j => ?_⟩) (MB_new (T := tu (tu (T0 b) n 8) (n + 1) 103) (Ln := lu (lu (fun _ => (L : Int)) n 4) (n + 1) 61) (M := mu (mn (mn (M0 xs) n (dv 8)) (n + 1) (fun _ => .null)) n 0 (.ref (n + 1))))
    · unfold T1
      rw [tu_n (by omega)]
    · unfold Ln1
      rw [lu_n (by omega)]
    · unfold M1
      rw [mn_n (by omega)]
  · rw [T1_o hb]
    exact if_pos rfl
  · exact if_pos rfl
  · rw [M1_o hb]
    show Value.int (xs ((j : Int)).toNat) = _
    rw [Int.toNat_natCast]
  · unfold Ow1
    rw [if_neg (by omega), if_neg (by omega), if_pos (by omega)]
  · unfold Ow1
    rw [if_neg (by omega), if_neg (by omega), if_pos (by omega)]
end
/-- THE LAW SAYS TRUE on every script -/
theorem z_law : z_Law := by
  intro b L n0 xs hL hb
  have h0 : z_go zP 174 0 [some (.ref b), none, none, none, none, none, none, none] [] (z_s0 b L xs n0) (fun r q => r = .inl (some (zi 1)) ∧ (q.2.1 : Int) ≤ ((n0 + 37 : Nat) : Int) + 12 * 512 ∧ (q.2.2 : Int) ≤ ((0 + 4 + (61 : Int).toNat + 42 + 73651 + (1 : Int).toNat : Nat) : Int) + 100 * 512 + 33000 * 61 + 70000) := by
    rw [hj_0, law_st]
    exact lw_loop hL (by omega) (by omega) (by omega) 512 _ _ _ _ _ _ 0 _ _ _ (LI_0 hb) (Int.le_refl _) (by omega) (by omega)
  obtain ⟨k, o, q, h1, rfl, h2, h3⟩ := h0
  exact ⟨k, q, h1, by omega, by omega⟩
