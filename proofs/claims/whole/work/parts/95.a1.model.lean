/-! THE MODEL'S HEAP as a function of its numbers: row f is the field f; of an int field column 0 alone -/
abbrev zY : Type := Nat → Int → Int
def yu (Y : zY) (f : Nat) (e v : Int) : zY := fun f' e' => if f' = f ∧ e' = e then v else Y f' e'
theorem yu_s {Y : zY} {f : Nat} {e v : Int} : yu Y f e v f e = v := by simp [yu]
theorem yu_e {Y : zY} {f : Nat} {e v e' : Int} : yu Y f e v f e' = if e' = e then v else Y f e' := by simp [yu]
theorem yu_f {Y : zY} {f f' : Nat} {e v e' : Int} (h : ¬ f' = f) : yu Y f e v f' e' = Y f' e' := by simp [yu, h]
theorem yu_n {Y : zY} {f f' : Nat} {e v e' : Int} (h : ¬ e' = e) : yu Y f e v f' e' = Y f' e' := by simp [yu, h]
def mtag (f : Nat) : Nat := if f = 4 ∨ f = 22 ∨ f = 41 then 102 else if f = 19 ∨ f = 36 ∨ f = 38 then 101 else 100
def mlen (f : Nat) : Nat := if f = 14 ∨ f = 15 ∨ f = 16 ∨ f = 17 ∨ f = 18 ∨ f = 19 then 1464 else if f = 20 ∨ f = 21 ∨ f = 22 then 122 else if f = 25 then 976 else if f = 26 ∨ f = 27 then 244 else if f = 36 then 56028 else if f = 37 ∨ f = 40 then 2001 else if f = 38 then 28 else if f = 39 then 2003 else 61
def moff (f : Nat) : Nat := if f < 30 then f - 2 else f - 8
def mfo (c : Nat) : Nat := if c < 28 then c + 2 else c + 8
def misa (f : Nat) : Prop := (3 ≤ f ∧ f < 30) ∨ (36 ≤ f ∧ f < 42)
theorem misa_dec (f : Nat) : misa f ↔ ((3 ≤ f ∧ f < 30) ∨ (36 ≤ f ∧ f < 42)) := Iff.rfl
def mval (f : Nat) (x : Int) : Value := if mtag f = 101 then zl x else zi x
def mobj (o : Nat) (Y : zY) (f : Nat) : Value := if (3 ≤ f ∧ f < 30) ∨ (36 ≤ f ∧ f < 42) then .ref (o + moff f) else if f < 42 then zi (Y f 0) else defaultValue (zty 9 f)
def mj (o : Nat) (Y : zY) (h : zH) : zH := fun a => if a = o then some (9, 42, mobj o Y) else if o < a ∧ a < o + 34 then some (mtag (mfo (a - o)), mlen (mfo (a - o)), fun j => mval (mfo (a - o)) (Y (mfo (a - o)) j)) else h a
section
variable {o n u : Nat} {Y : zY} {h : zH} {t : Nat × Nat} {e v : Int}
theorem mj_o : mj o Y h o = some (9, 42, mobj o Y) := if_pos rfl
theorem mj_tg : z_tg (mj o Y h) o = some 9 := by simp [z_tg, mj_o]
theorem mj_r {a : Nat} (ha : a < o ∨ o + 34 ≤ a) : mj o Y h a = h a := by
  unfold mj
  rw [if_neg (by omega), if_neg (by omega)]
theorem mo_fo {f : Nat} (hf : misa f) : mfo (moff f) = f ∧ 0 < moff f ∧ moff f < 34 := by
  unfold misa at hf
  unfold mfo moff
  split <;> split <;> omega
theorem mj_a {f : Nat} (hf : misa f) : mj o Y h (o + moff f) = some (mtag f, mlen f, fun j : Nat => mval f (Y f j)) := by
  obtain ⟨h1, h2, h3⟩ := mo_fo hf
  unfold mj
  rw [if_neg (by omega), if_pos (by omega), Nat.add_sub_cancel_left, h1]
theorem mj_upr {a : Nat} {w : zO} (ha : a < o ∨ o + 34 ≤ a) : z_up (mj o Y h) a w = mj o Y (z_up h a w) := by
  funext b
  unfold z_up mj
  by_cases hb : b = a
  · subst hb
    rw [if_pos rfl, if_neg (by omega), if_neg (by omega)]
    exact (if_pos rfl).symm
  · simp only [if_neg hb]
theorem mj_upa {f : Nat} (hf : misa f) (he : 0 ≤ e) : z_up (mj o Y h) (o + moff f) (mtag f, mlen f, z_uf (fun j : Nat => mval f (Y f j)) e.toNat (mval f v)) = mj o (yu Y f e v) h := by
  obtain ⟨h1, h2, h3⟩ := mo_fo hf
  have hm : ∀ g : Nat, g < 42 → ¬ ((3 ≤ g ∧ g < 30) ∨ (36 ≤ g ∧ g < 42)) → ¬ g = f := by
    intro g _ hg he
    subst he
    exact hg hf
  funext b
  unfold z_up
  by_cases hb : b = o + moff f
  · subst hb
    rw [if_pos rfl, mj_a hf]
    congr 3
    funext j
    unfold z_uf yu
    by_cases hj : j = e.toNat
    · have hje : (j : Int) = e := by omega
      simp only [if_pos hj, hje, and_self, if_true]
    · have hje : ¬ (j : Int) = e := by omega
      simp only [if_neg hj, hje, and_false, if_false]
  · rw [if_neg hb]
    unfold mj
    by_cases hbo : b = o
    · simp only [if_pos hbo]
      congr 3
      funext g
      unfold mobj
      by_cases hg : (3 ≤ g ∧ g < 30) ∨ (36 ≤ g ∧ g < 42)
      · rw [if_pos hg, if_pos hg]
      · rw [if_neg hg, if_neg hg]
        by_cases hg2 : g < 42
        · rw [if_pos hg2, if_pos hg2, yu_f (hm g hg2 hg)]
        · rw [if_neg hg2, if_neg hg2]
    · simp only [if_neg hbo]
      by_cases hbi : o < b ∧ b < o + 34
      · simp only [if_pos hbi]
        have hne : ¬ mfo (b - o) = f := by
          intro he2
          apply hb
          have : b - o = moff f := by
            rw [← he2]
            unfold moff mfo
            split <;> split <;> omega
          omega
        congr 3
        funext j
        rw [yu_f hne]
      · simp only [if_neg hbi]
theorem mj_upo {f : Nat} (hf : ¬ ((3 ≤ f ∧ f < 30) ∨ (36 ≤ f ∧ f < 42))) (hf2 : f < 42) : z_up (mj o Y h) o (9, 42, z_uf (mobj o Y) f (zi v)) = mj o (yu Y f 0 v) h := by
  funext b
  unfold z_up mj
  by_cases hb : b = o
  · simp only [if_pos hb]
    congr 3
    funext g
    unfold z_uf mobj
    by_cases hg : g = f
    · subst hg
      rw [if_pos rfl, if_neg hf, if_pos hf2, yu_s]
    · rw [if_neg hg, yu_f hg]
  · simp only [if_neg hb]
    by_cases hbi : o < b ∧ b < o + 34
    · simp only [if_pos hbi]
      have hne : ¬ mfo (b - o) = f := by
        intro he2
        apply hf
        rw [← he2]
        unfold mfo
        split <;> omega
      congr 3
      funext j
      rw [yu_f hne]
    · simp only [if_neg hbi]
theorem mgG (f : Nat) : z_get [9] f (mj o Y h) o = some (mobj o Y f) := by
  unfold z_get
  rw [mj_o]
  rfl
theorem mpG (f : Nat) (hf : ¬ ((3 ≤ f ∧ f < 30) ∨ (36 ≤ f ∧ f < 42))) (hf2 : f < 42) (hn : narrow (zty 9 f) (zi v) = zi v) (hn2 : fits (zty 9 f) (zi v) = true) : z_put [9] f (mj o Y h, t) o (zi v) = some (mj o (yu Y f 0 v) h, t) := by
  unfold z_put
  simp only [mj_o]
  rw [if_pos ⟨by simp, hn, hn2⟩, mj_upo hf hf2]
theorem maG {tags : List Nat} (f : Nat) (hf : misa f) (ht : mtag f ∈ tags) (h1 : 0 ≤ e) (h2 : e < (mlen f : Int)) (h3 : e < 2147483648) : z_at tags (mj o Y h) (o + moff f) (Int32.ofInt e) = some (mval f (Y f e)) := by
  unfold z_at
  rw [mj_a hf]
  simp only
  have e1 : ¬ (Int32.ofInt e < 0) := by rw [i_0, i_lt (by omega) (by omega) (by omega) (by omega)]; omega
  have e2 : (Int32.ofInt e).toNatClampNeg = e.toNat := i_nat (by omega) (by omega)
  rw [e2, if_pos ⟨ht, by rintro (h9 | h9); exact e1 h9; omega⟩]
  have : ((e.toNat : Nat) : Int) = e := by omega
  rw [this]
theorem msG (f : Nat) (hf : misa f) (h1 : 0 ≤ e) (h2 : e < (mlen f : Int)) (h3 : e < 2147483648) : z_st (mtag f) (mj o Y h, t) (o + moff f) (Int32.ofInt e) (mval f v) = some (mj o (yu Y f e v) h, t) := by
  unfold z_st
  simp only [mj_a hf]
  have e1 : ¬ (Int32.ofInt e < 0) := by rw [i_0, i_lt (by omega) (by omega) (by omega) (by omega)]; omega
  have e2 : (Int32.ofInt e).toNatClampNeg = e.toNat := i_nat (by omega) (by omega)
  rw [e2, if_pos ⟨trivial, by rintro (h9 | h9); exact e1 h9; omega⟩, mj_upa hf h1]
theorem mg_0 : z_get [9] 0 (mj o Y h) o = some (zi (Y 0 0)) := mgG 0
theorem mp_0 : z_put [9] 0 (mj o Y h, t) o (zi v) = some (mj o (yu Y 0 0 v) h, t) := mpG 0 (by omega) (by omega) rfl rfl
theorem mg_1 : z_get [9] 1 (mj o Y h) o = some (zi (Y 1 0)) := mgG 1
theorem mp_1 : z_put [9] 1 (mj o Y h, t) o (zi v) = some (mj o (yu Y 1 0 v) h, t) := mpG 1 (by omega) (by omega) rfl rfl
theorem mg_2 : z_get [9] 2 (mj o Y h) o = some (zi (Y 2 0)) := mgG 2
theorem mp_2 : z_put [9] 2 (mj o Y h, t) o (zi v) = some (mj o (yu Y 2 0 v) h, t) := mpG 2 (by omega) (by omega) rfl rfl
theorem mg_3 : z_get [9] 3 (mj o Y h) o = some (.ref (o + 1)) := mgG 3
theorem ma_3 (h1 : 0 ≤ e) (h2 : e < 61) : z_at [99, 100] (mj o Y h) (o + 1) (Int32.ofInt e) = some (zi (Y 3 e)) := maG 3 (by unfold misa; omega) (by decide) h1 h2 (by omega)
theorem ms_3 (h1 : 0 ≤ e) (h2 : e < 61) : z_st 100 (mj o Y h, t) (o + 1) (Int32.ofInt e) (zi v) = some (mj o (yu Y 3 e v) h, t) := msG 3 (by unfold misa; omega) h1 h2 (by omega)
theorem mg_4 : z_get [9] 4 (mj o Y h) o = some (.ref (o + 2)) := mgG 4
theorem ma_4 (h1 : 0 ≤ e) (h2 : e < 61) : z_at [102] (mj o Y h) (o + 2) (Int32.ofInt e) = some (zi (Y 4 e)) := maG 4 (by unfold misa; omega) (by decide) h1 h2 (by omega)
theorem ms_4 (h1 : 0 ≤ e) (h2 : e < 61) : z_st 102 (mj o Y h, t) (o + 2) (Int32.ofInt e) (zi v) = some (mj o (yu Y 4 e v) h, t) := msG 4 (by unfold misa; omega) h1 h2 (by omega)
theorem mg_5 : z_get [9] 5 (mj o Y h) o = some (.ref (o + 3)) := mgG 5
theorem ma_5 (h1 : 0 ≤ e) (h2 : e < 61) : z_at [99, 100] (mj o Y h) (o + 3) (Int32.ofInt e) = some (zi (Y 5 e)) := maG 5 (by unfold misa; omega) (by decide) h1 h2 (by omega)
theorem ms_5 (h1 : 0 ≤ e) (h2 : e < 61) : z_st 100 (mj o Y h, t) (o + 3) (Int32.ofInt e) (zi v) = some (mj o (yu Y 5 e v) h, t) := msG 5 (by unfold misa; omega) h1 h2 (by omega)
theorem mg_6 : z_get [9] 6 (mj o Y h) o = some (.ref (o + 4)) := mgG 6
theorem ma_6 (h1 : 0 ≤ e) (h2 : e < 61) : z_at [99, 100] (mj o Y h) (o + 4) (Int32.ofInt e) = some (zi (Y 6 e)) := maG 6 (by unfold misa; omega) (by decide) h1 h2 (by omega)
theorem ms_6 (h1 : 0 ≤ e) (h2 : e < 61) : z_st 100 (mj o Y h, t) (o + 4) (Int32.ofInt e) (zi v) = some (mj o (yu Y 6 e v) h, t) := msG 6 (by unfold misa; omega) h1 h2 (by omega)
theorem mg_7 : z_get [9] 7 (mj o Y h) o = some (.ref (o + 5)) := mgG 7
theorem ma_7 (h1 : 0 ≤ e) (h2 : e < 61) : z_at [99, 100] (mj o Y h) (o + 5) (Int32.ofInt e) = some (zi (Y 7 e)) := maG 7 (by unfold misa; omega) (by decide) h1 h2 (by omega)
theorem ms_7 (h1 : 0 ≤ e) (h2 : e < 61) : z_st 100 (mj o Y h, t) (o + 5) (Int32.ofInt e) (zi v) = some (mj o (yu Y 7 e v) h, t) := msG 7 (by unfold misa; omega) h1 h2 (by omega)
theorem mg_8 : z_get [9] 8 (mj o Y h) o = some (.ref (o + 6)) := mgG 8
theorem ma_8 (h1 : 0 ≤ e) (h2 : e < 61) : z_at [99, 100] (mj o Y h) (o + 6) (Int32.ofInt e) = some (zi (Y 8 e)) := maG 8 (by unfold misa; omega) (by decide) h1 h2 (by omega)
theorem ms_8 (h1 : 0 ≤ e) (h2 : e < 61) : z_st 100 (mj o Y h, t) (o + 6) (Int32.ofInt e) (zi v) = some (mj o (yu Y 8 e v) h, t) := msG 8 (by unfold misa; omega) h1 h2 (by omega)
theorem mg_9 : z_get [9] 9 (mj o Y h) o = some (.ref (o + 7)) := mgG 9
theorem ma_9 (h1 : 0 ≤ e) (h2 : e < 61) : z_at [99, 100] (mj o Y h) (o + 7) (Int32.ofInt e) = some (zi (Y 9 e)) := maG 9 (by unfold misa; omega) (by decide) h1 h2 (by omega)
theorem ms_9 (h1 : 0 ≤ e) (h2 : e < 61) : z_st 100 (mj o Y h, t) (o + 7) (Int32.ofInt e) (zi v) = some (mj o (yu Y 9 e v) h, t) := msG 9 (by unfold misa; omega) h1 h2 (by omega)
theorem mg_10 : z_get [9] 10 (mj o Y h) o = some (.ref (o + 8)) := mgG 10
theorem ma_10 (h1 : 0 ≤ e) (h2 : e < 61) : z_at [99, 100] (mj o Y h) (o + 8) (Int32.ofInt e) = some (zi (Y 10 e)) := maG 10 (by unfold misa; omega) (by decide) h1 h2 (by omega)
theorem ms_10 (h1 : 0 ≤ e) (h2 : e < 61) : z_st 100 (mj o Y h, t) (o + 8) (Int32.ofInt e) (zi v) = some (mj o (yu Y 10 e v) h, t) := msG 10 (by unfold misa; omega) h1 h2 (by omega)
theorem mg_11 : z_get [9] 11 (mj o Y h) o = some (.ref (o + 9)) := mgG 11
theorem ma_11 (h1 : 0 ≤ e) (h2 : e < 61) : z_at [99, 100] (mj o Y h) (o + 9) (Int32.ofInt e) = some (zi (Y 11 e)) := maG 11 (by unfold misa; omega) (by decide) h1 h2 (by omega)
theorem ms_11 (h1 : 0 ≤ e) (h2 : e < 61) : z_st 100 (mj o Y h, t) (o + 9) (Int32.ofInt e) (zi v) = some (mj o (yu Y 11 e v) h, t) := msG 11 (by unfold misa; omega) h1 h2 (by omega)
theorem mg_12 : z_get [9] 12 (mj o Y h) o = some (.ref (o + 10)) := mgG 12
theorem ma_12 (h1 : 0 ≤ e) (h2 : e < 61) : z_at [99, 100] (mj o Y h) (o + 10) (Int32.ofInt e) = some (zi (Y 12 e)) := maG 12 (by unfold misa; omega) (by decide) h1 h2 (by omega)
theorem ms_12 (h1 : 0 ≤ e) (h2 : e < 61) : z_st 100 (mj o Y h, t) (o + 10) (Int32.ofInt e) (zi v) = some (mj o (yu Y 12 e v) h, t) := msG 12 (by unfold misa; omega) h1 h2 (by omega)
theorem mg_13 : z_get [9] 13 (mj o Y h) o = some (.ref (o + 11)) := mgG 13
theorem ma_13 (h1 : 0 ≤ e) (h2 : e < 61) : z_at [99, 100] (mj o Y h) (o + 11) (Int32.ofInt e) = some (zi (Y 13 e)) := maG 13 (by unfold misa; omega) (by decide) h1 h2 (by omega)
theorem ms_13 (h1 : 0 ≤ e) (h2 : e < 61) : z_st 100 (mj o Y h, t) (o + 11) (Int32.ofInt e) (zi v) = some (mj o (yu Y 13 e v) h, t) := msG 13 (by unfold misa; omega) h1 h2 (by omega)
theorem mg_14 : z_get [9] 14 (mj o Y h) o = some (.ref (o + 12)) := mgG 14
theorem ma_14 (h1 : 0 ≤ e) (h2 : e < 1464) : z_at [99, 100] (mj o Y h) (o + 12) (Int32.ofInt e) = some (zi (Y 14 e)) := maG 14 (by unfold misa; omega) (by decide) h1 h2 (by omega)
theorem ms_14 (h1 : 0 ≤ e) (h2 : e < 1464) : z_st 100 (mj o Y h, t) (o + 12) (Int32.ofInt e) (zi v) = some (mj o (yu Y 14 e v) h, t) := msG 14 (by unfold misa; omega) h1 h2 (by omega)
theorem mg_15 : z_get [9] 15 (mj o Y h) o = some (.ref (o + 13)) := mgG 15
theorem ma_15 (h1 : 0 ≤ e) (h2 : e < 1464) : z_at [99, 100] (mj o Y h) (o + 13) (Int32.ofInt e) = some (zi (Y 15 e)) := maG 15 (by unfold misa; omega) (by decide) h1 h2 (by omega)
theorem ms_15 (h1 : 0 ≤ e) (h2 : e < 1464) : z_st 100 (mj o Y h, t) (o + 13) (Int32.ofInt e) (zi v) = some (mj o (yu Y 15 e v) h, t) := msG 15 (by unfold misa; omega) h1 h2 (by omega)
theorem mg_16 : z_get [9] 16 (mj o Y h) o = some (.ref (o + 14)) := mgG 16
theorem ma_16 (h1 : 0 ≤ e) (h2 : e < 1464) : z_at [99, 100] (mj o Y h) (o + 14) (Int32.ofInt e) = some (zi (Y 16 e)) := maG 16 (by unfold misa; omega) (by decide) h1 h2 (by omega)
theorem ms_16 (h1 : 0 ≤ e) (h2 : e < 1464) : z_st 100 (mj o Y h, t) (o + 14) (Int32.ofInt e) (zi v) = some (mj o (yu Y 16 e v) h, t) := msG 16 (by unfold misa; omega) h1 h2 (by omega)
theorem mg_17 : z_get [9] 17 (mj o Y h) o = some (.ref (o + 15)) := mgG 17
theorem ma_17 (h1 : 0 ≤ e) (h2 : e < 1464) : z_at [99, 100] (mj o Y h) (o + 15) (Int32.ofInt e) = some (zi (Y 17 e)) := maG 17 (by unfold misa; omega) (by decide) h1 h2 (by omega)
theorem ms_17 (h1 : 0 ≤ e) (h2 : e < 1464) : z_st 100 (mj o Y h, t) (o + 15) (Int32.ofInt e) (zi v) = some (mj o (yu Y 17 e v) h, t) := msG 17 (by unfold misa; omega) h1 h2 (by omega)
theorem mg_18 : z_get [9] 18 (mj o Y h) o = some (.ref (o + 16)) := mgG 18
theorem ma_18 (h1 : 0 ≤ e) (h2 : e < 1464) : z_at [99, 100] (mj o Y h) (o + 16) (Int32.ofInt e) = some (zi (Y 18 e)) := maG 18 (by unfold misa; omega) (by decide) h1 h2 (by omega)
theorem ms_18 (h1 : 0 ≤ e) (h2 : e < 1464) : z_st 100 (mj o Y h, t) (o + 16) (Int32.ofInt e) (zi v) = some (mj o (yu Y 18 e v) h, t) := msG 18 (by unfold misa; omega) h1 h2 (by omega)
theorem mg_19 : z_get [9] 19 (mj o Y h) o = some (.ref (o + 17)) := mgG 19
theorem ma_19 (h1 : 0 ≤ e) (h2 : e < 1464) : z_at [101] (mj o Y h) (o + 17) (Int32.ofInt e) = some (zl (Y 19 e)) := maG 19 (by unfold misa; omega) (by decide) h1 h2 (by omega)
theorem ms_19 (h1 : 0 ≤ e) (h2 : e < 1464) : z_st 101 (mj o Y h, t) (o + 17) (Int32.ofInt e) (zl v) = some (mj o (yu Y 19 e v) h, t) := msG 19 (by unfold misa; omega) h1 h2 (by omega)
theorem mg_20 : z_get [9] 20 (mj o Y h) o = some (.ref (o + 18)) := mgG 20
theorem ma_20 (h1 : 0 ≤ e) (h2 : e < 122) : z_at [99, 100] (mj o Y h) (o + 18) (Int32.ofInt e) = some (zi (Y 20 e)) := maG 20 (by unfold misa; omega) (by decide) h1 h2 (by omega)
theorem ms_20 (h1 : 0 ≤ e) (h2 : e < 122) : z_st 100 (mj o Y h, t) (o + 18) (Int32.ofInt e) (zi v) = some (mj o (yu Y 20 e v) h, t) := msG 20 (by unfold misa; omega) h1 h2 (by omega)
theorem mg_21 : z_get [9] 21 (mj o Y h) o = some (.ref (o + 19)) := mgG 21
theorem ma_21 (h1 : 0 ≤ e) (h2 : e < 122) : z_at [99, 100] (mj o Y h) (o + 19) (Int32.ofInt e) = some (zi (Y 21 e)) := maG 21 (by unfold misa; omega) (by decide) h1 h2 (by omega)
theorem ms_21 (h1 : 0 ≤ e) (h2 : e < 122) : z_st 100 (mj o Y h, t) (o + 19) (Int32.ofInt e) (zi v) = some (mj o (yu Y 21 e v) h, t) := msG 21 (by unfold misa; omega) h1 h2 (by omega)
theorem mg_22 : z_get [9] 22 (mj o Y h) o = some (.ref (o + 20)) := mgG 22
theorem ma_22 (h1 : 0 ≤ e) (h2 : e < 122) : z_at [102] (mj o Y h) (o + 20) (Int32.ofInt e) = some (zi (Y 22 e)) := maG 22 (by unfold misa; omega) (by decide) h1 h2 (by omega)
theorem ms_22 (h1 : 0 ≤ e) (h2 : e < 122) : z_st 102 (mj o Y h, t) (o + 20) (Int32.ofInt e) (zi v) = some (mj o (yu Y 22 e v) h, t) := msG 22 (by unfold misa; omega) h1 h2 (by omega)
theorem mg_23 : z_get [9] 23 (mj o Y h) o = some (.ref (o + 21)) := mgG 23
theorem ma_23 (h1 : 0 ≤ e) (h2 : e < 61) : z_at [99, 100] (mj o Y h) (o + 21) (Int32.ofInt e) = some (zi (Y 23 e)) := maG 23 (by unfold misa; omega) (by decide) h1 h2 (by omega)
theorem ms_23 (h1 : 0 ≤ e) (h2 : e < 61) : z_st 100 (mj o Y h, t) (o + 21) (Int32.ofInt e) (zi v) = some (mj o (yu Y 23 e v) h, t) := msG 23 (by unfold misa; omega) h1 h2 (by omega)
theorem mg_24 : z_get [9] 24 (mj o Y h) o = some (.ref (o + 22)) := mgG 24
theorem ma_24 (h1 : 0 ≤ e) (h2 : e < 61) : z_at [99, 100] (mj o Y h) (o + 22) (Int32.ofInt e) = some (zi (Y 24 e)) := maG 24 (by unfold misa; omega) (by decide) h1 h2 (by omega)
theorem ms_24 (h1 : 0 ≤ e) (h2 : e < 61) : z_st 100 (mj o Y h, t) (o + 22) (Int32.ofInt e) (zi v) = some (mj o (yu Y 24 e v) h, t) := msG 24 (by unfold misa; omega) h1 h2 (by omega)
theorem mg_25 : z_get [9] 25 (mj o Y h) o = some (.ref (o + 23)) := mgG 25
theorem ma_25 (h1 : 0 ≤ e) (h2 : e < 976) : z_at [99, 100] (mj o Y h) (o + 23) (Int32.ofInt e) = some (zi (Y 25 e)) := maG 25 (by unfold misa; omega) (by decide) h1 h2 (by omega)
theorem ms_25 (h1 : 0 ≤ e) (h2 : e < 976) : z_st 100 (mj o Y h, t) (o + 23) (Int32.ofInt e) (zi v) = some (mj o (yu Y 25 e v) h, t) := msG 25 (by unfold misa; omega) h1 h2 (by omega)
theorem mg_26 : z_get [9] 26 (mj o Y h) o = some (.ref (o + 24)) := mgG 26
theorem ma_26 (h1 : 0 ≤ e) (h2 : e < 244) : z_at [99, 100] (mj o Y h) (o + 24) (Int32.ofInt e) = some (zi (Y 26 e)) := maG 26 (by unfold misa; omega) (by decide) h1 h2 (by omega)
theorem ms_26 (h1 : 0 ≤ e) (h2 : e < 244) : z_st 100 (mj o Y h, t) (o + 24) (Int32.ofInt e) (zi v) = some (mj o (yu Y 26 e v) h, t) := msG 26 (by unfold misa; omega) h1 h2 (by omega)
theorem mg_27 : z_get [9] 27 (mj o Y h) o = some (.ref (o + 25)) := mgG 27
theorem ma_27 (h1 : 0 ≤ e) (h2 : e < 244) : z_at [99, 100] (mj o Y h) (o + 25) (Int32.ofInt e) = some (zi (Y 27 e)) := maG 27 (by unfold misa; omega) (by decide) h1 h2 (by omega)
theorem ms_27 (h1 : 0 ≤ e) (h2 : e < 244) : z_st 100 (mj o Y h, t) (o + 25) (Int32.ofInt e) (zi v) = some (mj o (yu Y 27 e v) h, t) := msG 27 (by unfold misa; omega) h1 h2 (by omega)
theorem mg_28 : z_get [9] 28 (mj o Y h) o = some (.ref (o + 26)) := mgG 28
theorem ma_28 (h1 : 0 ≤ e) (h2 : e < 61) : z_at [99, 100] (mj o Y h) (o + 26) (Int32.ofInt e) = some (zi (Y 28 e)) := maG 28 (by unfold misa; omega) (by decide) h1 h2 (by omega)
theorem ms_28 (h1 : 0 ≤ e) (h2 : e < 61) : z_st 100 (mj o Y h, t) (o + 26) (Int32.ofInt e) (zi v) = some (mj o (yu Y 28 e v) h, t) := msG 28 (by unfold misa; omega) h1 h2 (by omega)
theorem mg_29 : z_get [9] 29 (mj o Y h) o = some (.ref (o + 27)) := mgG 29
theorem ma_29 (h1 : 0 ≤ e) (h2 : e < 61) : z_at [99, 100] (mj o Y h) (o + 27) (Int32.ofInt e) = some (zi (Y 29 e)) := maG 29 (by unfold misa; omega) (by decide) h1 h2 (by omega)
theorem ms_29 (h1 : 0 ≤ e) (h2 : e < 61) : z_st 100 (mj o Y h, t) (o + 27) (Int32.ofInt e) (zi v) = some (mj o (yu Y 29 e v) h, t) := msG 29 (by unfold misa; omega) h1 h2 (by omega)
theorem mg_30 : z_get [9] 30 (mj o Y h) o = some (zi (Y 30 0)) := mgG 30
theorem mp_30 : z_put [9] 30 (mj o Y h, t) o (zi v) = some (mj o (yu Y 30 0 v) h, t) := mpG 30 (by omega) (by omega) rfl rfl
theorem mg_31 : z_get [9] 31 (mj o Y h) o = some (zi (Y 31 0)) := mgG 31
theorem mp_31 : z_put [9] 31 (mj o Y h, t) o (zi v) = some (mj o (yu Y 31 0 v) h, t) := mpG 31 (by omega) (by omega) rfl rfl
theorem mg_32 : z_get [9] 32 (mj o Y h) o = some (zi (Y 32 0)) := mgG 32
theorem mp_32 : z_put [9] 32 (mj o Y h, t) o (zi v) = some (mj o (yu Y 32 0 v) h, t) := mpG 32 (by omega) (by omega) rfl rfl
theorem mg_33 : z_get [9] 33 (mj o Y h) o = some (zi (Y 33 0)) := mgG 33
theorem mp_33 : z_put [9] 33 (mj o Y h, t) o (zi v) = some (mj o (yu Y 33 0 v) h, t) := mpG 33 (by omega) (by omega) rfl rfl
theorem mg_34 : z_get [9] 34 (mj o Y h) o = some (zi (Y 34 0)) := mgG 34
theorem mp_34 : z_put [9] 34 (mj o Y h, t) o (zi v) = some (mj o (yu Y 34 0 v) h, t) := mpG 34 (by omega) (by omega) rfl rfl
theorem mg_35 : z_get [9] 35 (mj o Y h) o = some (zi (Y 35 0)) := mgG 35
theorem mp_35 : z_put [9] 35 (mj o Y h, t) o (zi v) = some (mj o (yu Y 35 0 v) h, t) := mpG 35 (by omega) (by omega) rfl rfl
theorem mg_36 : z_get [9] 36 (mj o Y h) o = some (.ref (o + 28)) := mgG 36
theorem ma_36 (h1 : 0 ≤ e) (h2 : e < 56028) : z_at [101] (mj o Y h) (o + 28) (Int32.ofInt e) = some (zl (Y 36 e)) := maG 36 (by unfold misa; omega) (by decide) h1 h2 (by omega)
theorem ms_36 (h1 : 0 ≤ e) (h2 : e < 56028) : z_st 101 (mj o Y h, t) (o + 28) (Int32.ofInt e) (zl v) = some (mj o (yu Y 36 e v) h, t) := msG 36 (by unfold misa; omega) h1 h2 (by omega)
theorem mg_37 : z_get [9] 37 (mj o Y h) o = some (.ref (o + 29)) := mgG 37
theorem ma_37 (h1 : 0 ≤ e) (h2 : e < 2001) : z_at [99, 100] (mj o Y h) (o + 29) (Int32.ofInt e) = some (zi (Y 37 e)) := maG 37 (by unfold misa; omega) (by decide) h1 h2 (by omega)
theorem ms_37 (h1 : 0 ≤ e) (h2 : e < 2001) : z_st 100 (mj o Y h, t) (o + 29) (Int32.ofInt e) (zi v) = some (mj o (yu Y 37 e v) h, t) := msG 37 (by unfold misa; omega) h1 h2 (by omega)
theorem mg_38 : z_get [9] 38 (mj o Y h) o = some (.ref (o + 30)) := mgG 38
theorem ma_38 (h1 : 0 ≤ e) (h2 : e < 28) : z_at [101] (mj o Y h) (o + 30) (Int32.ofInt e) = some (zl (Y 38 e)) := maG 38 (by unfold misa; omega) (by decide) h1 h2 (by omega)
theorem ms_38 (h1 : 0 ≤ e) (h2 : e < 28) : z_st 101 (mj o Y h, t) (o + 30) (Int32.ofInt e) (zl v) = some (mj o (yu Y 38 e v) h, t) := msG 38 (by unfold misa; omega) h1 h2 (by omega)
theorem mg_39 : z_get [9] 39 (mj o Y h) o = some (.ref (o + 31)) := mgG 39
theorem ma_39 (h1 : 0 ≤ e) (h2 : e < 2003) : z_at [99, 100] (mj o Y h) (o + 31) (Int32.ofInt e) = some (zi (Y 39 e)) := maG 39 (by unfold misa; omega) (by decide) h1 h2 (by omega)
theorem ms_39 (h1 : 0 ≤ e) (h2 : e < 2003) : z_st 100 (mj o Y h, t) (o + 31) (Int32.ofInt e) (zi v) = some (mj o (yu Y 39 e v) h, t) := msG 39 (by unfold misa; omega) h1 h2 (by omega)
theorem mg_40 : z_get [9] 40 (mj o Y h) o = some (.ref (o + 32)) := mgG 40
theorem ma_40 (h1 : 0 ≤ e) (h2 : e < 2001) : z_at [99, 100] (mj o Y h) (o + 32) (Int32.ofInt e) = some (zi (Y 40 e)) := maG 40 (by unfold misa; omega) (by decide) h1 h2 (by omega)
theorem ms_40 (h1 : 0 ≤ e) (h2 : e < 2001) : z_st 100 (mj o Y h, t) (o + 32) (Int32.ofInt e) (zi v) = some (mj o (yu Y 40 e v) h, t) := msG 40 (by unfold misa; omega) h1 h2 (by omega)
theorem mg_41 : z_get [9] 41 (mj o Y h) o = some (.ref (o + 33)) := mgG 41
theorem ma_41 (h1 : 0 ≤ e) (h2 : e < 61) : z_at [102] (mj o Y h) (o + 33) (Int32.ofInt e) = some (zi (Y 41 e)) := maG 41 (by unfold misa; omega) (by decide) h1 h2 (by omega)
theorem ms_41 (h1 : 0 ≤ e) (h2 : e < 61) : z_st 102 (mj o Y h, t) (o + 33) (Int32.ofInt e) (zi v) = some (mj o (yu Y 41 e v) h, t) := msG 41 (by unfold misa; omega) h1 h2 (by omega)
end
