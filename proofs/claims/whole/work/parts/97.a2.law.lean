/-! THE LAW'S HEAP: class, model, script, out -/
def MB (T : Nat → Nat) (Ln : Nat → Int) (M : Nat → Int → Value) (o : Nat) (Y : zY) : Prop := (T o = 9 ∧ Ln o = 42 ∧ ∀ j : Nat, M o j = mobj o Y j) ∧ ∀ i : Nat, 0 < i → i < 34 → T (o + i) = mtag (mfo i) ∧ Ln (o + i) = mlen (mfo i) ∧ ∀ j : Nat, M (o + i) j = mval (mfo i) (Y (mfo i) j)
def mY (o : Nat) (Y : zY) (M : Nat → Int → Value) : Nat → Int → Value := fun a j => if a = o then mobj o Y j.toNat else if o < a ∧ a < o + 34 then mval (mfo (a - o)) (Y (mfo (a - o)) j) else M a j
def mT (o : Nat) (T : Nat → Nat) : Nat → Nat := fun a => if a = o then 9 else if o < a ∧ a < o + 34 then mtag (mfo (a - o)) else T a
def mL (o : Nat) (Ln : Nat → Int) : Nat → Int := fun a => if a = o then 42 else if o < a ∧ a < o + 34 then mlen (mfo (a - o)) else Ln a
section
variable {T T' : Nat → Nat} {Ln Ln' : Nat → Int} {M M' : Nat → Int → Value} {o : Nat} {Y Z : zY}
theorem mtag_l {f : Nat} : mtag f < 200 := by
  unfold mtag
  split
  · omega
  · split <;> omega
theorem mj_new : mj o Y (hj T Ln M) = hj (mT o T) (mL o Ln) (mY o Y M) := by
  funext a
  unfold mj hj mT mL mY
  by_cases h : a = o
  · rw [if_pos h, if_pos (by rw [if_pos h]; omega)]
    simp only [if_pos h]
    rfl
  · rw [if_neg h]
    by_cases h2 : o < a ∧ a < o + 34
    · rw [if_pos h2, if_pos (by rw [if_neg h, if_pos h2]; exact mtag_l)]
      simp only [if_neg h, if_pos h2]
      rfl
    · rw [if_neg h2]
      simp only [if_neg h, if_neg h2]
theorem MB_new : MB (mT o T) (mL o Ln) (mY o Y M) o Y := by
  refine ⟨⟨if_pos rfl, if_pos rfl, fun j => if_pos rfl⟩, fun i i1 i2 => ?_⟩
  unfold mT mL mY
  have h1 : ¬ o + i = o := by omega
  have h2 : o < o + i ∧ o + i < o + 34 := by omega
  simp only [if_neg h1, if_pos h2, Nat.add_sub_cancel_left]
  exact ⟨trivial, trivial, fun _ => trivial⟩
theorem MB_T (h : MB T Ln M o Y) : mT o T = T ∧ mL o Ln = Ln := by
  refine ⟨?_, ?_⟩
  · funext a
    unfold mT
    by_cases h1 : a = o
    · rw [if_pos h1, h1]; exact h.1.1.symm
    · rw [if_neg h1]
      by_cases h2 : o < a ∧ a < o + 34
      · rw [if_pos h2]
        have := (h.2 (a - o) (by omega) (by omega)).1
        rw [Nat.add_sub_cancel' (by omega)] at this
        exact this.symm
      · rw [if_neg h2]
  · funext a
    unfold mL
    by_cases h1 : a = o
    · rw [if_pos h1, h1]; exact h.1.2.1.symm
    · rw [if_neg h1]
      by_cases h2 : o < a ∧ a < o + 34
      · rw [if_pos h2]
        have := (h.2 (a - o) (by omega) (by omega)).2.1
        rw [Nat.add_sub_cancel' (by omega)] at this
        exact this.symm
      · rw [if_neg h2]
theorem mj_mY (h : MB T Ln M o Y) : mj o Z (hj T Ln M) = hj T Ln (mY o Z M) ∧ MB T Ln (mY o Z M) o Z := by
  obtain ⟨e1, e2⟩ := MB_T h
  have h1 := mj_new (o := o) (Y := Z) (T := T) (Ln := Ln) (M := M)
  have h2 := MB_new (o := o) (Y := Z) (T := T) (Ln := Ln) (M := M)
  rw [e1, e2] at h1 h2
  exact ⟨h1, h2⟩
theorem mj_hj (h : MB T Ln M o Y) : mj o Y (hj T Ln M) = hj T Ln M := by
  funext a
  by_cases h1 : a = o
  · subst h1
    rw [mj_o, hj_c h.1.1 (by omega), h.1.2.1]
    congr 3
    funext j
    exact (h.1.2.2 j).symm
  · by_cases h2 : o < a ∧ a < o + 34
    · have h3 := h.2 (a - o) (by omega) (by omega)
      rw [Nat.add_sub_cancel' (by omega)] at h3
      unfold mj
      rw [if_neg h1, if_pos h2, hj_c h3.1 mtag_l, h3.2.1]
      congr 3
      funext j
      exact (h3.2.2 j).symm
    · exact mj_r (by omega)
theorem MB_f (hT : ∀ i : Nat, i < 34 → T' (o + i) = T (o + i) ∧ Ln' (o + i) = Ln (o + i) ∧ ∀ j, M' (o + i) j = M (o + i) j) (h : MB T Ln M o Y) : MB T' Ln' M' o Y := by
  obtain ⟨⟨a1, a2, a3⟩, a4⟩ := h
  have h0 := hT 0 (by omega)
  simp only [Nat.add_zero] at h0
  refine ⟨⟨by rw [h0.1]; exact a1, by rw [h0.2.1]; exact a2, fun j => by rw [h0.2.2]; exact a3 j⟩, fun i i1 i2 => ?_⟩
  obtain ⟨b1, b2, b3⟩ := a4 i i1 i2
  have h1 := hT i i2
  exact ⟨by rw [h1.1]; exact b1, by rw [h1.2.1]; exact b2, fun j => by rw [h1.2.2]; exact b3 j⟩
end
section
variable {T T' : Nat → Nat} {Ln Ln' : Nat → Int} {M M' : Nat → Int → Value} {n u x : Nat} {A : Int → Nat} {W : Int → Int → Nat} {Ow : Nat → Int} {X : Int → Int} {Y Z : zY} {c n0 u0 k : Int}
/-- what is not the house's may change -/
theorem RZ_M (hM : ∀ b j, ¬ Ow b = 101 → M' b j = M b j) (h : RZ T Ln M n u x A W Ow X Y c n0 u0) : RZ T Ln M' n u x A W Ow X Y c n0 u0 := by
  obtain ⟨⟨hR, hI, hB, hHs, h1, hHX, h3, hMX, ⟨o1, o2, o3, o4⟩, h5⟩, hr1, hr2, g, hg, hr3⟩ := h
  have hx : ∀ j, M' x j = M x j := fun j => hM x j (by omega)
  have hx1 : ∀ j, M' (x + 1) j = M (x + 1) j := fun j => hM (x + 1) j (by omega)
  refine ⟨⟨hR, hI, hB, ?_, by rw [hx]; exact h1, ?_, fun q hq => ?_, hMX, ⟨o1, o2, o3, o4⟩, h5⟩, hr1, hr2, g, by rw [hx]; exact hg, hr3⟩
  · obtain ⟨a1, a2, a3, a4, a5, a6⟩ := hHs
    exact ⟨a1, by rw [hx]; exact a2, by rw [hx]; exact a3, a4, fun j j1 j2 => by rw [hx1]; exact a5 j j1 j2, a6⟩
  · rcases hHX with hh | ⟨a, ha, e1, e2, ⟨e3, e4, e5, e6⟩, e7, e8, e9⟩
    · exact .inl (by rw [hx]; exact hh)
    · have h0 : ∀ j, M' a j = M a j := fun j => hM a j (by have := e9 0 (by omega); simp only [Nat.add_zero] at this; omega)
      exact .inr ⟨a, by rw [hx]; exact ha, e1, e2, ⟨by rw [h0]; exact e3, by rw [h0]; exact e4, by rw [h0]; exact e5, by rw [h0]; exact e6⟩, fun j j1 j2 => by rw [hM (a + 1) j (by rw [e9 1 (by omega)]; omega)]; exact e7 j j1 j2, fun j j1 j2 => by rw [hM (a + 3) j (by rw [e9 3 (by omega)]; omega)]; exact e8 j j1 j2, e9⟩
  · have hq1 := hq.1
    have h60 : Y 2 0 ≤ 60 := (hR 2 0).2
    exact TH_f hI hR hR hq rfl (fun _ _ => ⟨rfl, rfl, rfl⟩) (fun b j hb => hM b j (by omega)) (fun _ _ _ => rfl) rfl rfl (fun _ _ _ _ _ => rfl) (fun _ _ _ _ _ => rfl) (fun _ _ _ _ _ _ _ _ => rfl) (h3 q hq)
end
/-- between two calls of the law -/
def LI (b L : Nat) (xs : Nat → Int32) (T : Nat → Nat) (Ln : Nat → Int) (M : Nat → Int → Value) (n u x o ot : Nat) (Y : zY) (c n0 u0 : Int) : Prop := ∃ A W Ow X, RZ T Ln M n u x A W Ow X Y c n0 u0 ∧ MB T Ln M o Y ∧ (T b = 99 ∧ Ln b = L ∧ Ow b = 101 ∧ ∀ j : Nat, j < L → M b j = .int (xs j)) ∧ (T ot = 101 ∧ Ln ot = 1 ∧ Ow ot = 101) ∧ ∀ i : Nat, i < 34 → Ow (o + i) = 101
def LJ (b L : Nat) (xs : Nat → Int32) (T : Nat → Nat) (Ln : Nat → Int) (M : Nat → Int → Value) (n u x o ot : Nat) (Y Z : zY) (c n0 u0 : Int) : Prop := ∃ A W Ow X, RZ T Ln M n u x A W Ow X Z c n0 u0 ∧ MB T Ln M o Y ∧ (T b = 99 ∧ Ln b = L ∧ Ow b = 101 ∧ ∀ j : Nat, j < L → M b j = .int (xs j)) ∧ (T ot = 101 ∧ Ln ot = 1 ∧ Ow ot = 101) ∧ ∀ i : Nat, i < 34 → Ow (o + i) = 101
section
variable {T T' : Nat → Nat} {Ln Ln' : Nat → Int} {M M' : Nat → Int → Value} {n u x o ot b L : Nat} {xs : Nat → Int32} {Y Z : zY} {c n0 u0 k : Int} {cd : Nat → Int} {val : Value} {kk : Nat} {LL : zL}
/-- behind a call of the class -/
theorem CR_LJ (h : LI b L xs T Ln M n u x o ot Y c n0 u0) (hne : ¬ ot = b) (hno : ¬ (o ≤ ot ∧ ot < o + 34)) (hcr : ∀ A W Ow X, RZ T Ln M n u x A W Ow X Y c n0 u0 → CR kk LL T Ln M n u x Ow c n0 u0 cd val Z) : ∃ T' Ln' M' n' u' out, (∀ Q : zU → zS → Prop, z_go zP kk 0 LL [] (hj T Ln M, n, u) Q ↔ Q out (hj T' Ln' M', n', u')) ∧ ((Z 0 0 = 0 ∧ out = .inl (some val)) ∨ ∃ e, out = .inr e ∧ Z 0 0 = cd e ∧ ¬ Z 0 0 = 0) ∧ LJ b L xs T' Ln' M' n' u' x o ot Y Z (c + 1) n0 u0 ∧ ∀ v, LJ b L xs T' Ln' (mu M' ot 0 v) n' u' x o ot Y Z (c + 1) n0 u0 := by
  obtain ⟨A, W, Ow, X, hrz, hmb, ⟨s1', s2', s3', s4'⟩, ⟨t1, t2, t3⟩, ho⟩ := h
  obtain ⟨T', Ln', M', n', u', out, A', W', Ow', X', q1, q2, q3, q4⟩ := hcr A W Ow X hrz
  obtain ⟨b1, b2, b3, b4⟩ := q4 b s3'
  obtain ⟨e1, e2, e3, e4⟩ := q4 ot t3
  have hmb' : MB T' Ln' M' o Y := MB_f (fun i hi => by obtain ⟨f1, f2, f3, f4⟩ := q4 _ (ho i hi); exact ⟨f1, f2, f4⟩) hmb
  have ho' : ∀ i : Nat, i < 34 → Ow' (o + i) = 101 := fun i hi => (q4 _ (ho i hi)).2.2.1
  refine ⟨T', Ln', M', n', u', out, q1, q2, ⟨A', W', Ow', X', q3, hmb', ⟨by rw [b1]; exact s1', by rw [b2]; exact s2', b3, fun j hj => by rw [b4]; exact s4' j hj⟩, ⟨by rw [e1]; exact t1, by rw [e2]; exact t2, e3⟩, ho'⟩, fun v => ⟨A', W', Ow', X', RZ_M (fun b j hb => mu_n (fun hh => by rw [hh] at hb; exact hb e3)) q3, MB_f (fun i hi => ⟨rfl, rfl, fun j => mu_n (by omega)⟩) hmb', ⟨by rw [b1]; exact s1', by rw [b2]; exact s2', b3, fun j hj => by rw [mu_n (fun hh => hne hh.symm), b4]; exact s4' j hj⟩, ⟨by rw [e1]; exact t1, by rw [e2]; exact t2, e3⟩, ho'⟩⟩
/-- behind the model's -/
theorem LJ_LI (hb : ¬ (o ≤ b ∧ b < o + 34)) (h : LJ b L xs T Ln M n u x o ot Y Z c n0 u0) : mj o Y (hj T Ln M) = hj T Ln M ∧ mj o Z (hj T Ln M) = hj T Ln (mY o Z M) ∧ LI b L xs T Ln (mY o Z M) n u x o ot Z c n0 u0 := by
  obtain ⟨A, W, Ow, X, hrz, hmb, ⟨s1', s2', s3', s4'⟩, ht, ho⟩ := h
  obtain ⟨e1, e2⟩ := mj_mY (Z := Z) hmb
  have hM : ∀ b j, ¬ (o ≤ b ∧ b < o + 34) → mY o Z M b j = M b j := fun b j hb => by unfold mY; rw [if_neg (by omega), if_neg (by omega)]
  refine ⟨mj_hj hmb, e1, A, W, Ow, X, RZ_M (fun b j hb => hM b j (fun hh => hb (by have := ho (b - o) (by omega); rw [Nat.add_sub_cancel' (by omega)] at this; exact this))) hrz, e2, ⟨s1', s2', s3', fun j hj => by rw [hM b j hb]; exact s4' j hj⟩, ht, ho⟩
end
