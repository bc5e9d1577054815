/-! RUNS OF THE LITTLE MACHINE, FORWARD: an instruction at a time -/
/-- behind a call of k1 at pc in the method k (M): it answers, or it throws -/
def z_bk (P : List zM) (M : zM) (k pc : Nat) (i : Instr) (len : Nat) (x : zX) (L : zL) (r : List Value) (Q : zU → zS → Prop) (o : zU) (t : zS) : Prop := match o with
  | .inl v => z_go P k (pc + len) L (v.toList ++ r) t Q
  | .inr j => z_vk i x = true ∧ (if zm_h M = [] then Q (.inr j) t else match z_row (zm_h M) (zm_e M) pc j with
    | none => False
    | some h => match z_ftc (zm_c M) h with
      | none => False
      | some q' => match z_put1 q' h L with
        | none => False
        | some w => z_go P k w.1 w.2 [] t Q)
theorem z_go_mono {P : List zM} {k pc : Nat} {L : zL} {S : List Value} {q : zS} {Q Q' : zU → zS → Prop} (h : z_go P k pc L S q Q) (hQ : ∀ o t, Q o t → Q' o t) : z_go P k pc L S q Q' := by
  obtain ⟨n, o, t, h1, h2⟩ := h
  exact ⟨n, o, t, h1, hQ o t h2⟩
section ZGO
variable {P : List zM} {M : zM} {k pc len : Nat} {i : Instr} {x : zX} {L : zL} {S : List Value} {q : zS} {Q : zU → zS → Prop}
theorem z_go_nx {t : zN} (hM : P[k]? = some M) (hf : z_ftc (zm_c M) pc = some (i, len, x)) (hn : z_nx i x pc len L S q = some t) : z_go P k pc L S q Q ↔ z_go P k t.1 t.2.1 t.2.2.1 t.2.2.2 Q := by
  constructor
  · rintro ⟨n, o, w, h1, h2⟩
    cases n with
    | zero => simp [z_rn] at h1
    | succ n =>
      rw [z_rn, hM] at h1
      simp only [hf, hn] at h1
      exact ⟨n, o, w, h1, h2⟩
  · rintro ⟨n, o, w, h1, h2⟩
    refine ⟨n + 1, o, w, ?_, h2⟩
    rw [z_rn, hM]
    simp only [hf, hn]
    exact h1
theorem z_go_rt {v : Option Value} (hM : P[k]? = some M) (hf : z_ftc (zm_c M) pc = some (i, len, x)) (hn : z_nx i x pc len L S q = none) (hr : z_rt (zm_r M) i S = some v) : z_go P k pc L S q Q ↔ Q (.inl v) q := by
  constructor
  · rintro ⟨n, o, w, h1, h2⟩
    cases n with
    | zero => simp [z_rn] at h1
    | succ n =>
      rw [z_rn, hM] at h1
      simp only [hf, hn, hr, Option.some.injEq, Prod.mk.injEq] at h1
      obtain ⟨rfl, rfl⟩ := h1
      exact h2
  · intro h
    refine ⟨1, _, _, ?_, h⟩
    rw [z_rn, hM]
    simp only [hf, hn, hr]
theorem z_go_th {t : Nat × zS} (hM : P[k]? = some M) (hf : z_ftc (zm_c M) pc = some (i, len, x)) (hn : z_nx i x pc len L S q = none) (hr : z_rt (zm_r M) i S = none) (ht : z_th i x S q = some t) (hh : zm_h M = []) : z_go P k pc L S q Q ↔ Q (.inr t.1) t.2 := by
  constructor
  · rintro ⟨n, o, w, h1, h2⟩
    cases n with
    | zero => simp [z_rn] at h1
    | succ n =>
      rw [z_rn, hM] at h1
      simp only [hf, hn, hr, ht, hh, if_true, Option.some.injEq, Prod.mk.injEq] at h1
      obtain ⟨rfl, rfl⟩ := h1
      exact h2
  · intro h
    refine ⟨1, _, _, ?_, h⟩
    rw [z_rn, hM]
    simp only [hf, hn, hr, ht, hh, if_true]
theorem z_go_cl {k1 : Nat} {A r : List Value} {N : zM} (hM : P[k]? = some M) (hf : z_ftc (zm_c M) pc = some (i, len, x)) (hn : z_nx i x pc len L S q = none) (hr : z_rt (zm_r M) i S = none) (ht : z_th i x S q = none) (hc : z_cl i x S q = some (k1, A, r)) (hN : P[k1]? = some N) (he : (z_ent A).length ≤ zm_n N) :
    z_go P k pc L S q Q ↔ z_go P k1 0 (z_ini (zm_n N) A) [] q (z_bk P M k pc i len x L r Q) := by
  constructor
  · rintro ⟨n, o, w, h1, h2⟩
    cases n with
    | zero => simp [z_rn] at h1
    | succ n =>
      rw [z_rn, hM] at h1
      simp only [hf, hn, hr, ht, hc, hN, he, if_true] at h1
      cases hb : z_rn P n k1 0 (z_ini (zm_n N) A) [] q with
      | none => rw [hb] at h1; simp at h1
      | some y =>
        rw [hb] at h1
        obtain ⟨o1, q1⟩ := y
        refine ⟨n, o1, q1, hb, ?_⟩
        cases o1 with
        | inl v => exact ⟨n, o, w, h1, h2⟩
        | inr j =>
          simp only at h1
          split at h1
          next hv =>
            refine ⟨hv, ?_⟩
            split at h1
            next hh =>
              simp only [Option.some.injEq, Prod.mk.injEq] at h1
              obtain ⟨rfl, rfl⟩ := h1
              rw [if_pos hh]
              exact h2
            next hh =>
              rw [if_neg hh]
              cases hro : z_row (zm_h M) (zm_e M) pc j with
              | none => rw [hro] at h1; simp at h1
              | some g =>
                rw [hro] at h1
                simp only at h1 ⊢
                cases hq' : z_ftc (zm_c M) g with
                | none => rw [hq'] at h1; simp at h1
                | some q9 =>
                  rw [hq'] at h1
                  simp only at h1 ⊢
                  cases hp : z_put1 q9 g L with
                  | none => rw [hp] at h1; simp at h1
                  | some t => rw [hp] at h1; exact ⟨n, o, w, h1, h2⟩
          next => cases h1
  · rintro ⟨n, o1, q1, hb, h2⟩
    cases o1 with
    | inl v =>
      obtain ⟨n2, o, w, h3, h4⟩ := h2
      refine ⟨max n n2 + 1, o, w, ?_, h4⟩
      rw [z_rn, hM]
      simp only [hf, hn, hr, ht, hc, hN, he, if_true, z_rn_le P (Nat.le_max_left n n2) hb]
      exact z_rn_le P (Nat.le_max_right n n2) h3
    | inr j =>
      obtain ⟨hv, h2⟩ := h2
      split at h2
      next hh =>
        refine ⟨n + 1, _, _, ?_, h2⟩
        rw [z_rn, hM]
        simp only [hf, hn, hr, ht, hc, hN, he, if_true, hb, hv, hh]
      next hh =>
        split at h2
        next => cases h2
        next g hro =>
          split at h2
          next => cases h2
          next q9 hq' =>
            split at h2
            next => cases h2
            next t hp =>
              obtain ⟨n2, o, w, h3, h4⟩ := h2
              refine ⟨max n n2 + 1, o, w, ?_, h4⟩
              rw [z_rn, hM]
              simp only [hf, hn, hr, ht, hc, hN, he, if_true, z_rn_le P (Nat.le_max_left n n2) hb, hv, hh, if_false, hro, hq', hp]
              exact z_rn_le P (Nat.le_max_right n n2) h3
end ZGO
/-- a thing's tag -/
def z_tg (h : zH) (a : Nat) : Option Nat := (h a).map fun o => o.1
/-! numbers, as they are read -/
def zi (a : Int) : Value := .int (Int32.ofInt a)
def zl (a : Int) : Value := .long (Int64.ofInt a)
def bI (c : Prop) [Decidable c] : Int := if c then 1 else 0
theorem bI_t {c : Prop} [Decidable c] (h : c) : bI c = 1 := if_pos h
theorem bI_f {c : Prop} [Decidable c] (h : ¬ c) : bI c = 0 := if_neg h
theorem bI_r {c : Prop} [Decidable c] : 0 ≤ bI c ∧ bI c ≤ 1 := by unfold bI; split <;> omega
theorem bI_01 {c : Prop} [Decidable c] : bI c = 0 ∨ bI c = 1 := by unfold bI; split <;> simp
theorem i_of (x : Int32) : Value.int x = zi x.toInt := by simp [zi]
theorem l_of (x : Int64) : Value.long x = zl x.toInt := by simp [zl]
theorem i_to {a : Int} (h1 : -2147483648 ≤ a) (h2 : a < 2147483648) : (Int32.ofInt a).toInt = a := Int32.toInt_ofInt_of_le (by omega) (by omega)
theorem l_to {a : Int} (h1 : -9223372036854775808 ≤ a) (h2 : a < 9223372036854775808) : (Int64.ofInt a).toInt = a := Int64.toInt_ofInt_of_le (by omega) (by omega)
theorem i_nat {a : Int} (h1 : -2147483648 ≤ a) (h2 : a < 2147483648) : (Int32.ofInt a).toNatClampNeg = a.toNat := by
  show (Int32.ofInt a).toInt.toNat = a.toNat
  rw [i_to h1 h2]
theorem i_eq {a b : Int} (a1 : -2147483648 ≤ a) (a2 : a < 2147483648) (b1 : -2147483648 ≤ b) (b2 : b < 2147483648) : (Int32.ofInt a = Int32.ofInt b) ↔ a = b := by
  rw [← Int32.toInt_inj, i_to a1 a2, i_to b1 b2]
theorem i_lt {a b : Int} (a1 : -2147483648 ≤ a) (a2 : a < 2147483648) (b1 : -2147483648 ≤ b) (b2 : b < 2147483648) : (Int32.ofInt a < Int32.ofInt b) ↔ a < b := by
  rw [Int32.lt_iff_toInt_lt, i_to a1 a2, i_to b1 b2]
theorem i_le {a b : Int} (a1 : -2147483648 ≤ a) (a2 : a < 2147483648) (b1 : -2147483648 ≤ b) (b2 : b < 2147483648) : (Int32.ofInt a ≤ Int32.ofInt b) ↔ a ≤ b := by
  rw [Int32.le_iff_toInt_le, i_to a1 a2, i_to b1 b2]
theorem l_eq {a b : Int} (a1 : -9223372036854775808 ≤ a) (a2 : a < 9223372036854775808) (b1 : -9223372036854775808 ≤ b) (b2 : b < 9223372036854775808) : (Int64.ofInt a = Int64.ofInt b) ↔ a = b := by
  rw [← Int64.toInt_inj, l_to a1 a2, l_to b1 b2]
theorem l_lt {a b : Int} (a1 : -9223372036854775808 ≤ a) (a2 : a < 9223372036854775808) (b1 : -9223372036854775808 ≤ b) (b2 : b < 9223372036854775808) : (Int64.ofInt a < Int64.ofInt b) ↔ a < b := by
  rw [Int64.lt_iff_toInt_lt, l_to a1 a2, l_to b1 b2]
theorem l_le {a b : Int} (a1 : -9223372036854775808 ≤ a) (a2 : a < 9223372036854775808) (b1 : -9223372036854775808 ≤ b) (b2 : b < 9223372036854775808) : (Int64.ofInt a ≤ Int64.ofInt b) ↔ a ≤ b := by
  rw [Int64.le_iff_toInt_le, l_to a1 a2, l_to b1 b2]
theorem i_0 : (0 : Int32) = Int32.ofInt 0 := rfl
theorem zi_inj {a b : Int} (a1 : -2147483648 ≤ a) (a2 : a < 2147483648) (b1 : -2147483648 ≤ b) (b2 : b < 2147483648) : (zi a = zi b) ↔ a = b := by
  unfold zi
  rw [Value.int.injEq, i_eq a1 a2 b1 b2]
theorem zl_inj {a b : Int} (a1 : -9223372036854775808 ≤ a) (a2 : a < 9223372036854775808) (b1 : -9223372036854775808 ≤ b) (b2 : b < 9223372036854775808) : (zl a = zl b) ↔ a = b := by
  unfold zl
  rw [Value.long.injEq, l_eq a1 a2 b1 b2]
def iand (a b : Int) : Int := (Int32.ofInt a &&& Int32.ofInt b).toInt
def ixor (a b : Int) : Int := (Int32.ofInt a ^^^ Int32.ofInt b).toInt
def lland (a b : Int) : Int := (Int64.ofInt a &&& Int64.ofInt b).toInt
def llxor (a b : Int) : Int := (Int64.ofInt a ^^^ Int64.ofInt b).toInt
def llshr (a b : Int) : Int := ((Int64.ofInt a).toUInt64 >>> ((Int32.ofInt b).toInt64.toUInt64 &&& Int64.toUInt64 63)).toInt64.toInt
def llshl (a b : Int) : Int := (Int64.ofInt a <<< ((Int32.ofInt b).toInt64 &&& 63)).toInt
/-- behind calls: one that may throw, one that may not -/
def zc (k pc : Nat) (L : zL) (r : List Value) (Q : zU → zS → Prop) (o : zU) (t : zS) : Prop := match o with
  | .inl v => z_go zP k pc L (v.toList ++ r) t Q
  | .inr j => Q (.inr j) t
def zd (k pc : Nat) (L : zL) (r : List Value) (Q : zU → zS → Prop) (o : zU) (t : zS) : Prop := match o with
  | .inl v => z_go zP k pc L (v.toList ++ r) t Q
  | .inr _ => False
/-- behind a call whose throws are caught: the rows by exception -/
def zh (k pc : Nat) (L : zL) (r : List Value) (H : List (Nat × Nat × zL)) (Q : zU → zS → Prop) (o : zU) (t : zS) : Prop := match o with
  | .inl v => z_go zP k pc L (v.toList ++ r) t Q
  | .inr j => match H.find? (fun w => decide (w.1 = j)) with
    | some w => z_go zP k w.2.1 w.2.2 [] t Q
    | none => False
section ZC
variable {k pc : Nat} {L : zL} {r : List Value} {Q : zU → zS → Prop} {v : Value} {t : zS} {j : Nat} {H : List (Nat × Nat × zL)}
theorem zc_v : zc k pc L r Q (.inl (some v)) t ↔ z_go zP k pc L (v :: r) t Q := Iff.rfl
theorem zc_n : zc k pc L r Q (.inl none) t ↔ z_go zP k pc L r t Q := Iff.rfl
theorem zc_t : zc k pc L r Q (.inr j) t ↔ Q (.inr j) t := Iff.rfl
theorem zd_v : zd k pc L r Q (.inl (some v)) t ↔ z_go zP k pc L (v :: r) t Q := Iff.rfl
theorem zd_n : zd k pc L r Q (.inl none) t ↔ z_go zP k pc L r t Q := Iff.rfl
theorem zd_t : zd k pc L r Q (.inr j) t ↔ False := Iff.rfl
theorem zh_v : zh k pc L r H Q (.inl (some v)) t ↔ z_go zP k pc L (v :: r) t Q := Iff.rfl
theorem zh_0 {p2 : Nat} {L2 : zL} : zh k pc L r ((j, p2, L2) :: H) Q (.inr j) t ↔ z_go zP k p2 L2 [] t Q := by simp [zh]
theorem zh_s {p2 i : Nat} {L2 : zL} (h : ¬ i = j) : zh k pc L r ((i, p2, L2) :: H) Q (.inr j) t ↔ zh k pc L r H Q (.inr j) t := by simp [zh, h]
end ZC
theorem zwb_le {S : List Value} (h : S.length ≤ 4) : z_wb S = true := by
  unfold z_wb
  refine decide_eq_true ?_
  have h2 : ∀ S : List Value, (S.map fun v => v.category).sum ≤ 2 * S.length := by
    intro S
    induction S with
    | nil => simp
    | cons v S ih =>
      have hv : v.category ≤ 2 := by cases v <;> simp [Value.category]
      simp only [List.map_cons, List.sum_cons, List.length_cons]
      omega
  have := h2 S
  omega
/-- the place ahead of one that is written -/
def zkl (l : Option Value) : Option Value := if z_two l then none else l
theorem zkl_i {a : Int} : zkl (some (zi a)) = some (zi a) := rfl
theorem zkl_l {a : Int} : zkl (some (zl a)) = none := rfl
theorem zkl_n : zkl none = none := rfl
theorem zkl_r {a : Nat} : zkl (some (.ref a)) = some (.ref a) := rfl
theorem zkl_0 : zkl (some .null) = some .null := rfl
section GE
variable {M : zM} {k pc len : Nat} {i : Instr} {x : zX} {L : zL} {S : List Value} {q : zS} {Q : zU → zS → Prop} {a b : Int} {o : Int} {t : Nat}
theorem ge_x {T : List Value} {L' : zL} {q' : zS} (hM : zP[k]? = some M) (hf : z_ftc (zm_c M) pc = some (i, len, x)) (hn : z_nx i x pc len L S q = some (pc + len, L', T, q')) : z_go zP k pc L S q Q ↔ z_go zP k (pc + len) L' T q' Q := z_go_nx hM hf hn
theorem ge_rti (hM : zP[k]? = some M) (hf : z_ftc (zm_c M) pc = some (.ireturn, len, x)) (hr : zm_r M = some .int) : z_go zP k pc L [zi a] q Q ↔ Q (.inl (some (zi a))) q := by
  refine z_go_rt hM hf rfl ?_
  rw [hr]
  exact if_pos rfl
theorem ge_iadd (hM : zP[k]? = some M) (hf : z_ftc (zm_c M) pc = some (.iadd, len, x)) : z_go zP k pc L (zi b :: zi a :: S) q Q ↔ z_go zP k (pc + len) L (zi (a + b) :: S) q Q := by
  unfold zi
  rw [Int32.ofInt_add]
  exact ge_x hM hf rfl
theorem ge_isub (hM : zP[k]? = some M) (hf : z_ftc (zm_c M) pc = some (.isub, len, x)) : z_go zP k pc L (zi b :: zi a :: S) q Q ↔ z_go zP k (pc + len) L (zi (a - b) :: S) q Q := by
  unfold zi
  rw [Int32.ofInt_sub]
  exact ge_x hM hf rfl
theorem ge_imul (hM : zP[k]? = some M) (hf : z_ftc (zm_c M) pc = some (.imul, len, x)) : z_go zP k pc L (zi b :: zi a :: S) q Q ↔ z_go zP k (pc + len) L (zi (a * b) :: S) q Q := by
  unfold zi
  rw [Int32.ofInt_mul]
  exact ge_x hM hf rfl
theorem ge_iand (hM : zP[k]? = some M) (hf : z_ftc (zm_c M) pc = some (.iand, len, x)) : z_go zP k pc L (zi b :: zi a :: S) q Q ↔ z_go zP k (pc + len) L (zi (iand a b) :: S) q Q := by
  unfold zi iand
  rw [Int32.ofInt_toInt]
  exact ge_x hM hf rfl
theorem ge_ixor (hM : zP[k]? = some M) (hf : z_ftc (zm_c M) pc = some (.ixor, len, x)) : z_go zP k pc L (zi b :: zi a :: S) q Q ↔ z_go zP k (pc + len) L (zi (ixor a b) :: S) q Q := by
  unfold zi ixor
  rw [Int32.ofInt_toInt]
  exact ge_x hM hf rfl
theorem ge_ladd (hM : zP[k]? = some M) (hf : z_ftc (zm_c M) pc = some (.ladd, len, x)) : z_go zP k pc L (zl b :: zl a :: S) q Q ↔ z_go zP k (pc + len) L (zl (a + b) :: S) q Q := by
  unfold zl
  rw [Int64.ofInt_add]
  exact ge_x hM hf rfl
theorem ge_lsub (hM : zP[k]? = some M) (hf : z_ftc (zm_c M) pc = some (.lsub, len, x)) : z_go zP k pc L (zl b :: zl a :: S) q Q ↔ z_go zP k (pc + len) L (zl (a - b) :: S) q Q := by
  unfold zl
  rw [Int64.ofInt_sub]
  exact ge_x hM hf rfl
theorem ge_lmul (hM : zP[k]? = some M) (hf : z_ftc (zm_c M) pc = some (.lmul, len, x)) : z_go zP k pc L (zl b :: zl a :: S) q Q ↔ z_go zP k (pc + len) L (zl (a * b) :: S) q Q := by
  unfold zl
  rw [Int64.ofInt_mul]
  exact ge_x hM hf rfl
theorem ge_land (hM : zP[k]? = some M) (hf : z_ftc (zm_c M) pc = some (.land, len, x)) : z_go zP k pc L (zl b :: zl a :: S) q Q ↔ z_go zP k (pc + len) L (zl (lland a b) :: S) q Q := by
  unfold zl lland
  rw [Int64.ofInt_toInt]
  exact ge_x hM hf rfl
theorem ge_lxor (hM : zP[k]? = some M) (hf : z_ftc (zm_c M) pc = some (.lxor, len, x)) : z_go zP k pc L (zl b :: zl a :: S) q Q ↔ z_go zP k (pc + len) L (zl (llxor a b) :: S) q Q := by
  unfold zl llxor
  rw [Int64.ofInt_toInt]
  exact ge_x hM hf rfl
theorem ge_lushr (hM : zP[k]? = some M) (hf : z_ftc (zm_c M) pc = some (.lushr, len, x)) : z_go zP k pc L (zi b :: zl a :: S) q Q ↔ z_go zP k (pc + len) L (zl (llshr a b) :: S) q Q := by
  unfold zl zi llshr
  rw [Int64.ofInt_toInt]
  exact ge_x hM hf rfl
theorem ge_lshl (hM : zP[k]? = some M) (hf : z_ftc (zm_c M) pc = some (.lshl, len, x)) : z_go zP k pc L (zi b :: zl a :: S) q Q ↔ z_go zP k (pc + len) L (zl (llshl a b) :: S) q Q := by
  unfold zl zi llshl
  rw [Int64.ofInt_toInt]
  exact ge_x hM hf rfl
theorem ge_l2i (hM : zP[k]? = some M) (hf : z_ftc (zm_c M) pc = some (.l2i, len, x)) : z_go zP k pc L (zl a :: S) q Q ↔ z_go zP k (pc + len) L (zi a :: S) q Q := by
  have h : z_nx .l2i x pc len L (zl a :: S) q = some (pc + len, L, .int (Int64.ofInt a).toInt32 :: S, q) := rfl
  rw [Int64.toInt32_ofInt] at h
  exact z_go_nx hM hf h
theorem ge_i2l (a1 : -2147483648 ≤ a) (a2 : a < 2147483648) (hM : zP[k]? = some M) (hf : z_ftc (zm_c M) pc = some (.i2l, len, x)) : z_go zP k pc L (zi a :: S) q Q ↔ z_go zP k (pc + len) L (zl a :: S) q Q := by
  have h : z_nx .i2l x pc len L (zi a :: S) q = some (pc + len, L, .long (Int32.ofInt a).toInt64 :: S, q) := rfl
  have h2 : (Int32.ofInt a).toInt64 = Int64.ofInt a := by rw [← Int64.ofInt_int32ToInt, i_to a1 a2]
  rw [h2] at h
  exact z_go_nx hM hf h
theorem i_rem {a b : Int} (a1 : -2147483648 ≤ a) (a2 : a < 2147483648) (b1 : 0 < b) (b2 : b < 2147483648) : Int32.ofInt a - Int32.ofInt a / Int32.ofInt b * Int32.ofInt b = Int32.ofInt (a.tmod b) := by
  rw [← Int32.ofInt_tdiv (by show (-2147483648 : Int) ≤ a; omega) (by show a ≤ (2147483647 : Int); omega) (by show (-2147483648 : Int) ≤ b; omega) (by show b ≤ (2147483647 : Int); omega), ← Int32.ofInt_mul, ← Int32.ofInt_sub]
  congr 1
  have := Int.tdiv_mul_add_tmod a b
  omega
theorem l_rem {a b : Int} (a1 : -9223372036854775808 ≤ a) (a2 : a < 9223372036854775808) (b1 : 0 < b) (b2 : b < 9223372036854775808) : Int64.ofInt a - Int64.ofInt a / Int64.ofInt b * Int64.ofInt b = Int64.ofInt (a.tmod b) := by
  rw [← Int64.ofInt_tdiv (by show (-9223372036854775808 : Int) ≤ a; omega) (by show a ≤ (9223372036854775807 : Int); omega) (by show (-9223372036854775808 : Int) ≤ b; omega) (by show b ≤ (9223372036854775807 : Int); omega), ← Int64.ofInt_mul, ← Int64.ofInt_sub]
  congr 1
  have := Int.tdiv_mul_add_tmod a b
  omega
theorem ge_irem (a1 : -2147483648 ≤ a) (a2 : a < 2147483648) (b1 : 0 < b) (b2 : b < 2147483648) (hM : zP[k]? = some M) (hf : z_ftc (zm_c M) pc = some (.irem, len, x)) : z_go zP k pc L (zi b :: zi a :: S) q Q ↔ z_go zP k (pc + len) L (zi (a.tmod b) :: S) q Q := by
  have hb : ¬ Int32.ofInt b = 0 := by rw [i_0, i_eq (by omega) b2 (by omega) (by omega)]; omega
  have h : z_nx .irem x pc len L (zi b :: zi a :: S) q = some (pc + len, L, .int (Int32.ofInt a - Int32.ofInt a / Int32.ofInt b * Int32.ofInt b) :: S, q) := if_neg hb
  rw [i_rem a1 a2 b1 b2] at h
  exact z_go_nx hM hf h
theorem ge_lrem (a1 : -9223372036854775808 ≤ a) (a2 : a < 9223372036854775808) (b1 : 0 < b) (b2 : b < 9223372036854775808) (hM : zP[k]? = some M) (hf : z_ftc (zm_c M) pc = some (.lrem, len, x)) : z_go zP k pc L (zl b :: zl a :: S) q Q ↔ z_go zP k (pc + len) L (zl (a.tmod b) :: S) q Q := by
  have hb : ¬ Int64.ofInt b = 0 := by rw [show (0 : Int64) = Int64.ofInt 0 from rfl, l_eq (by omega) b2 (by omega) (by omega)]; omega
  have h : z_nx .lrem x pc len L (zl b :: zl a :: S) q = some (pc + len, L, .long (Int64.ofInt a - Int64.ofInt a / Int64.ofInt b * Int64.ofInt b) :: S, q) := if_neg hb
  rw [l_rem a1 a2 b1 b2] at h
  exact z_go_nx hM hf h
theorem ge_br {S' : List Value} {c : Prop} [Decidable c] {d : Bool} (hM : zP[k]? = some M) (hf : z_ftc (zm_c M) pc = some (i, len, x)) (hn : z_nx i x pc len L S q = z_br d pc len o L S' q) (ht : (pc : Int) + o = (t : Int)) (hd : d = true ↔ c) : z_go zP k pc L S q Q ↔ if c then z_go zP k t L S' q Q else z_go zP k (pc + len) L S' q Q := by
  unfold z_br at hn
  rw [if_pos (by omega : 0 ≤ (pc : Int) + o)] at hn
  rw [z_go_nx hM hf hn]
  by_cases hc : c
  · simp only [hd.mpr hc, hc, if_true, ht, Int.toNat_natCast]
  · simp only [mt hd.mp hc, hc, if_false]
    simp
theorem ge_opt {α : Type} {c : Option α} {F : α → zN} (hM : zP[k]? = some M) (hf : z_ftc (zm_c M) pc = some (i, len, x)) (hn : z_nx i x pc len L S q = c.map F) (h2 : z_rt (zm_r M) i S = none) (h3 : z_th i x S q = none) (h4 : z_cl i x S q = none) : z_go zP k pc L S q Q ↔ ∃ v, c = some v ∧ z_go zP k (F v).1 (F v).2.1 (F v).2.2.1 (F v).2.2.2 Q := by
  cases c with
  | none =>
    constructor
    · rintro ⟨n, w, y, h1, -⟩
      cases n with
      | zero => simp [z_rn] at h1
      | succ n =>
        rw [z_rn, hM] at h1
        simp only [hf, hn, h2, h3, h4, Option.map_none] at h1
        cases h1
    · rintro ⟨v, h, -⟩
      cases h
  | some v =>
    rw [z_go_nx hM hf hn]
    constructor
    · intro h
      exact ⟨v, rfl, h⟩
    · rintro ⟨w, h, h1⟩
      cases h
      exact h1
theorem ge_ic_eq (a1 : -2147483648 ≤ a) (a2 : a < 2147483648) (b1 : -2147483648 ≤ b) (b2 : b < 2147483648) (hM : zP[k]? = some M) (hf : z_ftc (zm_c M) pc = some (.if_icmp .eq o, len, x)) (ht : (pc : Int) + o = (t : Int)) : z_go zP k pc L (zi b :: zi a :: S) q Q ↔ if a = b then z_go zP k t L S q Q else z_go zP k (pc + len) L S q Q := ge_br (d := z_cc .eq (Int32.ofInt a) (Int32.ofInt b)) hM hf rfl ht (by simp only [z_cc, Bool.not_eq_true', decide_eq_true_eq, decide_eq_false_iff_not, i_eq a1 a2 b1 b2])
theorem ge_ic_ne (a1 : -2147483648 ≤ a) (a2 : a < 2147483648) (b1 : -2147483648 ≤ b) (b2 : b < 2147483648) (hM : zP[k]? = some M) (hf : z_ftc (zm_c M) pc = some (.if_icmp .ne o, len, x)) (ht : (pc : Int) + o = (t : Int)) : z_go zP k pc L (zi b :: zi a :: S) q Q ↔ if ¬ a = b then z_go zP k t L S q Q else z_go zP k (pc + len) L S q Q := ge_br (d := z_cc .ne (Int32.ofInt a) (Int32.ofInt b)) hM hf rfl ht (by simp only [z_cc, Bool.not_eq_true', decide_eq_true_eq, decide_eq_false_iff_not, i_eq a1 a2 b1 b2])
theorem ge_ic_lt (a1 : -2147483648 ≤ a) (a2 : a < 2147483648) (b1 : -2147483648 ≤ b) (b2 : b < 2147483648) (hM : zP[k]? = some M) (hf : z_ftc (zm_c M) pc = some (.if_icmp .lt o, len, x)) (ht : (pc : Int) + o = (t : Int)) : z_go zP k pc L (zi b :: zi a :: S) q Q ↔ if a < b then z_go zP k t L S q Q else z_go zP k (pc + len) L S q Q := ge_br (d := z_cc .lt (Int32.ofInt a) (Int32.ofInt b)) hM hf rfl ht (by simp only [z_cc, Bool.not_eq_true', decide_eq_true_eq, decide_eq_false_iff_not, i_lt a1 a2 b1 b2])
theorem ge_ic_ge (a1 : -2147483648 ≤ a) (a2 : a < 2147483648) (b1 : -2147483648 ≤ b) (b2 : b < 2147483648) (hM : zP[k]? = some M) (hf : z_ftc (zm_c M) pc = some (.if_icmp .ge o, len, x)) (ht : (pc : Int) + o = (t : Int)) : z_go zP k pc L (zi b :: zi a :: S) q Q ↔ if b ≤ a then z_go zP k t L S q Q else z_go zP k (pc + len) L S q Q := ge_br (d := z_cc .ge (Int32.ofInt a) (Int32.ofInt b)) hM hf rfl ht (by simp only [z_cc, Bool.not_eq_true', decide_eq_true_eq, decide_eq_false_iff_not, i_le b1 b2 a1 a2])
theorem ge_ic_gt (a1 : -2147483648 ≤ a) (a2 : a < 2147483648) (b1 : -2147483648 ≤ b) (b2 : b < 2147483648) (hM : zP[k]? = some M) (hf : z_ftc (zm_c M) pc = some (.if_icmp .gt o, len, x)) (ht : (pc : Int) + o = (t : Int)) : z_go zP k pc L (zi b :: zi a :: S) q Q ↔ if b < a then z_go zP k t L S q Q else z_go zP k (pc + len) L S q Q := ge_br (d := z_cc .gt (Int32.ofInt a) (Int32.ofInt b)) hM hf rfl ht (by simp only [z_cc, Bool.not_eq_true', decide_eq_true_eq, decide_eq_false_iff_not, i_lt b1 b2 a1 a2])
theorem ge_ic_le (a1 : -2147483648 ≤ a) (a2 : a < 2147483648) (b1 : -2147483648 ≤ b) (b2 : b < 2147483648) (hM : zP[k]? = some M) (hf : z_ftc (zm_c M) pc = some (.if_icmp .le o, len, x)) (ht : (pc : Int) + o = (t : Int)) : z_go zP k pc L (zi b :: zi a :: S) q Q ↔ if a ≤ b then z_go zP k t L S q Q else z_go zP k (pc + len) L S q Q := ge_br (d := z_cc .le (Int32.ofInt a) (Int32.ofInt b)) hM hf rfl ht (by simp only [z_cc, Bool.not_eq_true', decide_eq_true_eq, decide_eq_false_iff_not, i_le a1 a2 b1 b2])
theorem ge_if_eq (a1 : -2147483648 ≤ a) (a2 : a < 2147483648) (hM : zP[k]? = some M) (hf : z_ftc (zm_c M) pc = some (.ifCond .eq o, len, x)) (ht : (pc : Int) + o = (t : Int)) : z_go zP k pc L (zi a :: S) q Q ↔ if a = 0 then z_go zP k t L S q Q else z_go zP k (pc + len) L S q Q := ge_br (d := z_cc .eq (Int32.ofInt a) 0) hM hf rfl ht (by simp only [z_cc, i_0, Bool.not_eq_true', decide_eq_true_eq, decide_eq_false_iff_not, i_eq (b := 0) a1 a2 (by omega) (by omega)])
theorem ge_if_ne (a1 : -2147483648 ≤ a) (a2 : a < 2147483648) (hM : zP[k]? = some M) (hf : z_ftc (zm_c M) pc = some (.ifCond .ne o, len, x)) (ht : (pc : Int) + o = (t : Int)) : z_go zP k pc L (zi a :: S) q Q ↔ if ¬ a = 0 then z_go zP k t L S q Q else z_go zP k (pc + len) L S q Q := ge_br (d := z_cc .ne (Int32.ofInt a) 0) hM hf rfl ht (by simp only [z_cc, i_0, Bool.not_eq_true', decide_eq_true_eq, decide_eq_false_iff_not, i_eq (b := 0) a1 a2 (by omega) (by omega)])
theorem ge_if_lt (a1 : -2147483648 ≤ a) (a2 : a < 2147483648) (hM : zP[k]? = some M) (hf : z_ftc (zm_c M) pc = some (.ifCond .lt o, len, x)) (ht : (pc : Int) + o = (t : Int)) : z_go zP k pc L (zi a :: S) q Q ↔ if a < 0 then z_go zP k t L S q Q else z_go zP k (pc + len) L S q Q := ge_br (d := z_cc .lt (Int32.ofInt a) 0) hM hf rfl ht (by simp only [z_cc, i_0, Bool.not_eq_true', decide_eq_true_eq, decide_eq_false_iff_not, i_lt (b := 0) a1 a2 (by omega) (by omega)])
theorem ge_if_ge (a1 : -2147483648 ≤ a) (a2 : a < 2147483648) (hM : zP[k]? = some M) (hf : z_ftc (zm_c M) pc = some (.ifCond .ge o, len, x)) (ht : (pc : Int) + o = (t : Int)) : z_go zP k pc L (zi a :: S) q Q ↔ if 0 ≤ a then z_go zP k t L S q Q else z_go zP k (pc + len) L S q Q := ge_br (d := z_cc .ge (Int32.ofInt a) 0) hM hf rfl ht (by simp only [z_cc, i_0, Bool.not_eq_true', decide_eq_true_eq, decide_eq_false_iff_not, i_le (a := 0) (by omega) (by omega) a1 a2])
theorem ge_if_gt (a1 : -2147483648 ≤ a) (a2 : a < 2147483648) (hM : zP[k]? = some M) (hf : z_ftc (zm_c M) pc = some (.ifCond .gt o, len, x)) (ht : (pc : Int) + o = (t : Int)) : z_go zP k pc L (zi a :: S) q Q ↔ if 0 < a then z_go zP k t L S q Q else z_go zP k (pc + len) L S q Q := ge_br (d := z_cc .gt (Int32.ofInt a) 0) hM hf rfl ht (by simp only [z_cc, i_0, Bool.not_eq_true', decide_eq_true_eq, decide_eq_false_iff_not, i_lt (a := 0) (by omega) (by omega) a1 a2])
theorem ge_if_le (a1 : -2147483648 ≤ a) (a2 : a < 2147483648) (hM : zP[k]? = some M) (hf : z_ftc (zm_c M) pc = some (.ifCond .le o, len, x)) (ht : (pc : Int) + o = (t : Int)) : z_go zP k pc L (zi a :: S) q Q ↔ if a ≤ 0 then z_go zP k t L S q Q else z_go zP k (pc + len) L S q Q := ge_br (d := z_cc .le (Int32.ofInt a) 0) hM hf rfl ht (by simp only [z_cc, i_0, Bool.not_eq_true', decide_eq_true_eq, decide_eq_false_iff_not, i_le (b := 0) a1 a2 (by omega) (by omega)])
theorem ge_if_eq_b {c : Prop} [Decidable c] (hM : zP[k]? = some M) (hf : z_ftc (zm_c M) pc = some (.ifCond .eq o, len, x)) (ht : (pc : Int) + o = (t : Int)) : z_go zP k pc L (zi (bI c) :: S) q Q ↔ if c then z_go zP k (pc + len) L S q Q else z_go zP k t L S q Q := by
  have hr := bI_r (c := c)
  rw [ge_if_eq (by omega) (by omega) hM hf ht]
  by_cases h : c
  · rw [if_neg (by rw [bI_t h]; omega), if_pos h]
  · rw [if_pos (bI_f h), if_neg h]
theorem ge_if_ne_b {c : Prop} [Decidable c] (hM : zP[k]? = some M) (hf : z_ftc (zm_c M) pc = some (.ifCond .ne o, len, x)) (ht : (pc : Int) + o = (t : Int)) : z_go zP k pc L (zi (bI c) :: S) q Q ↔ if c then z_go zP k t L S q Q else z_go zP k (pc + len) L S q Q := by
  have hr := bI_r (c := c)
  rw [ge_if_ne (by omega) (by omega) hM hf ht]
  by_cases h : c
  · rw [if_pos (by rw [bI_t h]; omega), if_pos h]
  · rw [if_neg (fun h0 => h0 (bI_f h)), if_neg h]
theorem ge_lc_eq {x1 : zX} {p2 l2 : Nat} (a1 : -9223372036854775808 ≤ a) (a2 : a < 9223372036854775808) (b1 : -9223372036854775808 ≤ b) (b2 : b < 9223372036854775808) (hM : zP[k]? = some M) (hf : z_ftc (zm_c M) pc = some (.lcmp, len, x)) (hp : pc + len = p2) (hf2 : z_ftc (zm_c M) p2 = some (.ifCond .eq o, l2, x1)) (ht : (p2 : Int) + o = (t : Int)) : z_go zP k pc L (zl b :: zl a :: S) q Q ↔ if a = b then z_go zP k t L S q Q else z_go zP k (p2 + l2) L S q Q := by
  subst hp
  rw [z_go_nx (t := (pc + len, L, .int (lg_cmp (Int64.ofInt a) (Int64.ofInt b)) :: S, q)) hM hf rfl]
  exact ge_br (d := z_cc .eq (lg_cmp (Int64.ofInt a) (Int64.ofInt b)) 0) hM hf2 rfl ht (by simp only [z_cc, Bool.not_eq_true', decide_eq_true_eq, decide_eq_false_iff_not, lg_cmp_eq, l_eq a1 a2 b1 b2])
theorem ge_lc_ne {x1 : zX} {p2 l2 : Nat} (a1 : -9223372036854775808 ≤ a) (a2 : a < 9223372036854775808) (b1 : -9223372036854775808 ≤ b) (b2 : b < 9223372036854775808) (hM : zP[k]? = some M) (hf : z_ftc (zm_c M) pc = some (.lcmp, len, x)) (hp : pc + len = p2) (hf2 : z_ftc (zm_c M) p2 = some (.ifCond .ne o, l2, x1)) (ht : (p2 : Int) + o = (t : Int)) : z_go zP k pc L (zl b :: zl a :: S) q Q ↔ if ¬ a = b then z_go zP k t L S q Q else z_go zP k (p2 + l2) L S q Q := by
  subst hp
  rw [z_go_nx (t := (pc + len, L, .int (lg_cmp (Int64.ofInt a) (Int64.ofInt b)) :: S, q)) hM hf rfl]
  exact ge_br (d := z_cc .ne (lg_cmp (Int64.ofInt a) (Int64.ofInt b)) 0) hM hf2 rfl ht (by simp only [z_cc, Bool.not_eq_true', decide_eq_true_eq, decide_eq_false_iff_not, lg_cmp_eq, l_eq a1 a2 b1 b2])
theorem ge_lc_lt {x1 : zX} {p2 l2 : Nat} (a1 : -9223372036854775808 ≤ a) (a2 : a < 9223372036854775808) (b1 : -9223372036854775808 ≤ b) (b2 : b < 9223372036854775808) (hM : zP[k]? = some M) (hf : z_ftc (zm_c M) pc = some (.lcmp, len, x)) (hp : pc + len = p2) (hf2 : z_ftc (zm_c M) p2 = some (.ifCond .lt o, l2, x1)) (ht : (p2 : Int) + o = (t : Int)) : z_go zP k pc L (zl b :: zl a :: S) q Q ↔ if a < b then z_go zP k t L S q Q else z_go zP k (p2 + l2) L S q Q := by
  subst hp
  rw [z_go_nx (t := (pc + len, L, .int (lg_cmp (Int64.ofInt a) (Int64.ofInt b)) :: S, q)) hM hf rfl]
  exact ge_br (d := z_cc .lt (lg_cmp (Int64.ofInt a) (Int64.ofInt b)) 0) hM hf2 rfl ht (by simp only [z_cc, Bool.not_eq_true', decide_eq_true_eq, decide_eq_false_iff_not, lg_cmp_lt, l_lt a1 a2 b1 b2])
theorem ge_lc_ge {x1 : zX} {p2 l2 : Nat} (a1 : -9223372036854775808 ≤ a) (a2 : a < 9223372036854775808) (b1 : -9223372036854775808 ≤ b) (b2 : b < 9223372036854775808) (hM : zP[k]? = some M) (hf : z_ftc (zm_c M) pc = some (.lcmp, len, x)) (hp : pc + len = p2) (hf2 : z_ftc (zm_c M) p2 = some (.ifCond .ge o, l2, x1)) (ht : (p2 : Int) + o = (t : Int)) : z_go zP k pc L (zl b :: zl a :: S) q Q ↔ if b ≤ a then z_go zP k t L S q Q else z_go zP k (p2 + l2) L S q Q := by
  subst hp
  rw [z_go_nx (t := (pc + len, L, .int (lg_cmp (Int64.ofInt a) (Int64.ofInt b)) :: S, q)) hM hf rfl]
  exact ge_br (d := z_cc .ge (lg_cmp (Int64.ofInt a) (Int64.ofInt b)) 0) hM hf2 rfl ht (by simp only [z_cc, Bool.not_eq_true', decide_eq_true_eq, decide_eq_false_iff_not, lg_cmp_ge, l_le b1 b2 a1 a2])
theorem ge_lc_gt {x1 : zX} {p2 l2 : Nat} (a1 : -9223372036854775808 ≤ a) (a2 : a < 9223372036854775808) (b1 : -9223372036854775808 ≤ b) (b2 : b < 9223372036854775808) (hM : zP[k]? = some M) (hf : z_ftc (zm_c M) pc = some (.lcmp, len, x)) (hp : pc + len = p2) (hf2 : z_ftc (zm_c M) p2 = some (.ifCond .gt o, l2, x1)) (ht : (p2 : Int) + o = (t : Int)) : z_go zP k pc L (zl b :: zl a :: S) q Q ↔ if b < a then z_go zP k t L S q Q else z_go zP k (p2 + l2) L S q Q := by
  subst hp
  rw [z_go_nx (t := (pc + len, L, .int (lg_cmp (Int64.ofInt a) (Int64.ofInt b)) :: S, q)) hM hf rfl]
  exact ge_br (d := z_cc .gt (lg_cmp (Int64.ofInt a) (Int64.ofInt b)) 0) hM hf2 rfl ht (by simp only [z_cc, Bool.not_eq_true', decide_eq_true_eq, decide_eq_false_iff_not, lg_cmp_gt, l_lt b1 b2 a1 a2])
theorem ge_lc_le {x1 : zX} {p2 l2 : Nat} (a1 : -9223372036854775808 ≤ a) (a2 : a < 9223372036854775808) (b1 : -9223372036854775808 ≤ b) (b2 : b < 9223372036854775808) (hM : zP[k]? = some M) (hf : z_ftc (zm_c M) pc = some (.lcmp, len, x)) (hp : pc + len = p2) (hf2 : z_ftc (zm_c M) p2 = some (.ifCond .le o, l2, x1)) (ht : (p2 : Int) + o = (t : Int)) : z_go zP k pc L (zl b :: zl a :: S) q Q ↔ if a ≤ b then z_go zP k t L S q Q else z_go zP k (p2 + l2) L S q Q := by
  subst hp
  rw [z_go_nx (t := (pc + len, L, .int (lg_cmp (Int64.ofInt a) (Int64.ofInt b)) :: S, q)) hM hf rfl]
  exact ge_br (d := z_cc .le (lg_cmp (Int64.ofInt a) (Int64.ofInt b)) 0) hM hf2 rfl ht (by simp only [z_cc, Bool.not_eq_true', decide_eq_true_eq, decide_eq_false_iff_not, lg_cmp_le, l_le a1 a2 b1 b2])
theorem ge_acmp_ne {u v : Nat} (hM : zP[k]? = some M) (hf : z_ftc (zm_c M) pc = some (.if_acmp .ne o, len, x)) (ht : (pc : Int) + o = (t : Int)) : z_go zP k pc L (.ref v :: .ref u :: S) q Q ↔ if u = v then z_go zP k (pc + len) L S q Q else z_go zP k t L S q Q := by
  rw [ge_br (c := ¬ u = v) (d := !decide (Value.ref u = Value.ref v)) hM hf rfl ht (by simp)]
  by_cases h : u = v <;> simp [h]
theorem ge_acmp_eq {u v : Nat} (hM : zP[k]? = some M) (hf : z_ftc (zm_c M) pc = some (.if_acmp .eq o, len, x)) (ht : (pc : Int) + o = (t : Int)) : z_go zP k pc L (.ref v :: .ref u :: S) q Q ↔ if u = v then z_go zP k t L S q Q else z_go zP k (pc + len) L S q Q := ge_br (d := decide (Value.ref u = Value.ref v)) hM hf rfl ht (by simp)
theorem ge_to {S' : List Value} (hM : zP[k]? = some M) (hf : z_ftc (zm_c M) pc = some (i, len, x)) (ht : (pc : Int) + o = (t : Int)) (hn : z_nx i x pc len L S q = z_to pc o L S' q) : z_go zP k pc L S q Q ↔ z_go zP k t L S' q Q := by
  unfold z_to at hn
  rw [if_pos (by omega : 0 ≤ (pc : Int) + o)] at hn
  rw [z_go_nx hM hf hn]
  simp only [ht, Int.toNat_natCast]
theorem ge_getf {u : Nat} {f : Nat} (hM : zP[k]? = some M) (hf : z_ftc (zm_c M) pc = some (.getfield f, len, x)) : z_go zP k pc L (.ref u :: S) q Q ↔ ∃ v, z_get x.2.2 x.1 q.1 u = some v ∧ z_go zP k (pc + len) L (v :: S) q Q := by
  refine (ge_opt (c := z_get x.2.2 x.1 q.1 u) (F := fun v => (pc + len, L, (v :: S), q)) hM hf ?_ rfl rfl rfl)
  show _ = Option.map _ (z_get x.2.2 x.1 q.1 u)
  simp only [z_nx, zi, zl]
  cases z_get x.2.2 x.1 q.1 u <;> rfl
theorem ge_putf {u : Nat} {v0 : Value} {f : Nat} (hM : zP[k]? = some M) (hf : z_ftc (zm_c M) pc = some (.putfield f, len, x)) : z_go zP k pc L (v0 :: .ref u :: S) q Q ↔ ∃ q1, z_put x.2.2 x.1 q u v0 = some q1 ∧ z_go zP k (pc + len) L S q1 Q := by
  refine (ge_opt (c := z_put x.2.2 x.1 q u v0) (F := fun q1 => (pc + len, L, S, q1)) hM hf ?_ rfl rfl rfl)
  show _ = Option.map _ (z_put x.2.2 x.1 q u v0)
  simp only [z_nx, zi, zl]
  cases z_put x.2.2 x.1 q u v0 <;> rfl
theorem ge_iald {u : Nat} (hM : zP[k]? = some M) (hf : z_ftc (zm_c M) pc = some (.iaload, len, x)) : z_go zP k pc L (zi a :: .ref u :: S) q Q ↔ ∃ v1, z_at [99, 100] q.1 u (Int32.ofInt a) = some v1 ∧ z_go zP k (pc + len) L (v1 :: S) q Q := by
  refine (ge_opt (c := z_at [99, 100] q.1 u (Int32.ofInt a)) (F := fun v1 => (pc + len, L, (v1 :: S), q)) hM hf ?_ rfl rfl rfl)
  show _ = Option.map _ (z_at [99, 100] q.1 u (Int32.ofInt a))
  simp only [z_nx, zi, zl]
  cases z_at [99, 100] q.1 u (Int32.ofInt a) <;> rfl
theorem ge_lald {u : Nat} (hM : zP[k]? = some M) (hf : z_ftc (zm_c M) pc = some (.laload, len, x)) : z_go zP k pc L (zi a :: .ref u :: S) q Q ↔ ∃ v1, z_at [101] q.1 u (Int32.ofInt a) = some v1 ∧ z_go zP k (pc + len) L (v1 :: S) q Q := by
  refine (ge_opt (c := z_at [101] q.1 u (Int32.ofInt a)) (F := fun v1 => (pc + len, L, (v1 :: S), q)) hM hf ?_ rfl rfl rfl)
  show _ = Option.map _ (z_at [101] q.1 u (Int32.ofInt a))
  simp only [z_nx, zi, zl]
  cases z_at [101] q.1 u (Int32.ofInt a) <;> rfl
theorem ge_bald {u : Nat} (hM : zP[k]? = some M) (hf : z_ftc (zm_c M) pc = some (.baload, len, x)) : z_go zP k pc L (zi a :: .ref u :: S) q Q ↔ ∃ v1, z_at [102] q.1 u (Int32.ofInt a) = some v1 ∧ z_go zP k (pc + len) L (v1 :: S) q Q := by
  refine (ge_opt (c := z_at [102] q.1 u (Int32.ofInt a)) (F := fun v1 => (pc + len, L, (v1 :: S), q)) hM hf ?_ rfl rfl rfl)
  show _ = Option.map _ (z_at [102] q.1 u (Int32.ofInt a))
  simp only [z_nx, zi, zl]
  cases z_at [102] q.1 u (Int32.ofInt a) <;> rfl
theorem ge_aald {u : Nat} (hM : zP[k]? = some M) (hf : z_ftc (zm_c M) pc = some (.aaload, len, x)) : z_go zP k pc L (zi a :: .ref u :: S) q Q ↔ ∃ v1, z_at [103, 104] q.1 u (Int32.ofInt a) = some v1 ∧ z_go zP k (pc + len) L (v1 :: S) q Q := by
  refine (ge_opt (c := z_at [103, 104] q.1 u (Int32.ofInt a)) (F := fun v1 => (pc + len, L, (v1 :: S), q)) hM hf ?_ rfl rfl rfl)
  show _ = Option.map _ (z_at [103, 104] q.1 u (Int32.ofInt a))
  simp only [z_nx, zi, zl]
  cases z_at [103, 104] q.1 u (Int32.ofInt a) <;> rfl
theorem ge_iast {u : Nat} (hM : zP[k]? = some M) (hf : z_ftc (zm_c M) pc = some (.iastore, len, x)) : z_go zP k pc L (zi b :: zi a :: .ref u :: S) q Q ↔ ∃ q1, z_st 100 q u (Int32.ofInt a) (zi b) = some q1 ∧ z_go zP k (pc + len) L S q1 Q := by
  refine (ge_opt (c := z_st 100 q u (Int32.ofInt a) (zi b)) (F := fun q1 => (pc + len, L, S, q1)) hM hf ?_ rfl rfl rfl)
  show _ = Option.map _ (z_st 100 q u (Int32.ofInt a) (zi b))
  simp only [z_nx, zi, zl]
  cases z_st 100 q u (Int32.ofInt a) (.int (Int32.ofInt b)) <;> rfl
theorem ge_last {u : Nat} (hM : zP[k]? = some M) (hf : z_ftc (zm_c M) pc = some (.lastore, len, x)) : z_go zP k pc L (zl b :: zi a :: .ref u :: S) q Q ↔ ∃ q1, z_st 101 q u (Int32.ofInt a) (zl b) = some q1 ∧ z_go zP k (pc + len) L S q1 Q := by
  refine (ge_opt (c := z_st 101 q u (Int32.ofInt a) (zl b)) (F := fun q1 => (pc + len, L, S, q1)) hM hf ?_ rfl rfl rfl)
  show _ = Option.map _ (z_st 101 q u (Int32.ofInt a) (zl b))
  simp only [z_nx, zi, zl]
  cases z_st 101 q u (Int32.ofInt a) (.long (Int64.ofInt b)) <;> rfl
theorem ge_aast {u : Nat} {v0 : Value} (hM : zP[k]? = some M) (hf : z_ftc (zm_c M) pc = some (.aastore, len, x)) : z_go zP k pc L (v0 :: zi a :: .ref u :: S) q Q ↔ ∃ q1, z_ast q u (Int32.ofInt a) v0 = some q1 ∧ z_go zP k (pc + len) L S q1 Q := by
  refine (ge_opt (c := z_ast q u (Int32.ofInt a) v0) (F := fun q1 => (pc + len, L, S, q1)) hM hf ?_ rfl rfl rfl)
  show _ = Option.map _ (z_ast q u (Int32.ofInt a) v0)
  simp only [z_nx, zi, zl]
  cases z_ast q u (Int32.ofInt a) v0 <;> rfl
theorem ge_alen {u : Nat} (hM : zP[k]? = some M) (hf : z_ftc (zm_c M) pc = some (.arraylength, len, x)) : z_go zP k pc L (.ref u :: S) q Q ↔ ∃ v1, z_len q.1 u = some v1 ∧ z_go zP k (pc + len) L (v1 :: S) q Q := by
  refine (ge_opt (c := z_len q.1 u) (F := fun v1 => (pc + len, L, (v1 :: S), q)) hM hf ?_ rfl rfl rfl)
  show _ = Option.map _ (z_len q.1 u)
  simp only [z_nx, zi, zl]
  cases z_len q.1 u <;> rfl
theorem ge_bast {u : Nat} (hb : b = 0 ∨ b = 1) (hM : zP[k]? = some M) (hf : z_ftc (zm_c M) pc = some (.bastore, len, x)) : z_go zP k pc L (zi b :: zi a :: .ref u :: S) q Q ↔ ∃ q1, z_st 102 q u (Int32.ofInt a) (zi b) = some q1 ∧ z_go zP k (pc + len) L S q1 Q := by
  have hn : narrow .boolean (.int (Int32.ofInt b)) = .int (Int32.ofInt b) := by rcases hb with rfl | rfl <;> decide
  constructor
  · intro h
    obtain ⟨n, w, y, h1, h2⟩ := h
    cases n with
    | zero => simp [z_rn] at h1
    | succ n =>
      rw [z_rn, hM] at h1
      simp only [hf, z_nx, zi, hn] at h1
      cases hg : z_st 102 q u (Int32.ofInt a) (zi b) with
      | none => unfold zi at hg; rw [hg] at h1; simp [z_psh, z_rt, z_th, z_cl] at h1
      | some v => unfold zi at hg; rw [hg] at h1; exact ⟨v, rfl, n, w, y, h1, h2⟩
  · rintro ⟨v, h1, h2⟩
    unfold zi at h1
    rw [z_go_nx (t := (pc + len, L, S, v)) hM hf (by simp only [z_nx, zi, hn, h1])]
    exact h2
theorem ge_cst {u : Nat} {f : Nat} (hM : zP[k]? = some M) (hf : z_ftc (zm_c M) pc = some (.checkcast f, len, x)) : z_go zP k pc L (.ref u :: S) q Q ↔ ∃ w, q.1 u = some w ∧ (w.1 = x.1 ∧ w.1 ∈ zth) ∧ z_go zP k (pc + len) L (.ref u :: S) q Q := by
  constructor
  · intro h
    obtain ⟨n, w, y, h1, h2⟩ := h
    cases n with
    | zero => simp [z_rn] at h1
    | succ n =>
      rw [z_rn, hM] at h1
      simp only [hf, z_nx] at h1
      cases hg : q.1 u with
      | none => rw [hg] at h1; simp [z_rt, z_th, z_cl] at h1
      | some v =>
        rw [hg] at h1
        simp only at h1
        split at h1
        next t ht =>
          split at ht
          next hh => cases ht; exact ⟨v, rfl, hh, n, w, y, h1, h2⟩
          next => cases ht
        next => simp [z_rt, z_th, z_cl] at h1
  · rintro ⟨v, h1, h2, h3⟩
    rw [z_go_nx (t := (pc + len, L, .ref u :: S, q)) hM hf (by simp only [z_nx, h1]; rw [if_pos h2])]
    exact h3
theorem ge_iof {u : Nat} {f : Nat} (hM : zP[k]? = some M) (hf : z_ftc (zm_c M) pc = some (.instanceof f, len, x)) : z_go zP k pc L (.ref u :: S) q Q ↔ ∃ w, q.1 u = some w ∧ w.1 ∈ zth ∧ z_go zP k (pc + len) L (zi (bI (w.1 = x.1)) :: S) q Q := by
  have hb : ∀ w : zO, Value.int (if w.1 = x.1 then 1 else 0) = zi (bI (w.1 = x.1)) := by
    intro w
    unfold bI zi
    split <;> rfl
  constructor
  · intro h
    obtain ⟨n, w, y, h1, h2⟩ := h
    cases n with
    | zero => simp [z_rn] at h1
    | succ n =>
      rw [z_rn, hM] at h1
      simp only [hf, z_nx] at h1
      cases hg : q.1 u with
      | none => rw [hg] at h1; simp [z_rt, z_th, z_cl] at h1
      | some v =>
        rw [hg] at h1
        simp only [hb] at h1
        split at h1
        next t ht =>
          split at ht
          next hh => cases ht; exact ⟨v, rfl, hh, n, w, y, h1, h2⟩
          next => cases ht
        next => simp [z_rt, z_th, z_cl] at h1
  · rintro ⟨v, h1, h2, h3⟩
    rw [z_go_nx (t := (pc + len, L, zi (bI (v.1 = x.1)) :: S, q)) hM hf (by simp only [z_nx, h1]; rw [if_pos h2, hb])]
    exact h3
theorem ge_nwa {tag n8 : Nat} {d : Value} (a1 : 0 ≤ a) (a2 : a ≤ 60000) (hb : n8 ≤ 8) (hM : zP[k]? = some M) (hf : z_ftc (zm_c M) pc = some (i, len, x)) (hn : z_nx i x pc len L (zi a :: S) q = z_nwa tag d n8 (pc + len) L (zi a :: S) q) : z_go zP k pc L (zi a :: S) q Q ↔ z_go zP k (pc + len) L (.ref q.2.1 :: S) (z_new tag a.toNat (fun _ => d) q) Q := by
  have h2 : z_nwa tag d n8 (pc + len) L (zi a :: S) q = some (pc + len, L, .ref q.2.1 :: S, z_new tag a.toNat (fun _ => d) q) := by
    unfold zi z_nwa
    simp only
    have e := i_nat (a := a) (by omega) (by omega)
    rw [e, if_pos]
    refine ⟨?_, ?_⟩
    · rw [i_0, i_lt (by omega) (by omega) (by omega) (by omega)]; omega
    · have : a.toNat ≤ 60000 := by omega
      calc a.toNat * n8 ≤ 60000 * 8 := Nat.mul_le_mul this hb
        _ ≤ 536870912 := by decide
  exact z_go_nx hM hf (hn.trans h2)
theorem ge_acp {u v : Nat} {c d e : Int} {f : Nat} (hS : S.length ≤ 4) (h8 : x.2.1 = 8) (hM : zP[k]? = some M) (hf : z_ftc (zm_c M) pc = some (.invokestatic f, len, x)) : z_go zP k pc L (zi e :: zi d :: .ref v :: zi c :: .ref u :: S) q Q ↔ ∃ q1, z_cpy q u (Int32.ofInt c) v (Int32.ofInt d) (Int32.ofInt e) = some q1 ∧ z_go zP k (pc + len) L S q1 Q := by
  have hw := zwb_le hS
  have hcl : z_cl (.invokestatic f) x (zi e :: zi d :: .ref v :: zi c :: .ref u :: S) q = none := by
    unfold z_cl
    simp only [h8]
    split
    next => rw [if_neg]; rintro ⟨h | h | h, -⟩ <;> cases h
    next => rfl
  refine (ge_opt (c := z_cpy q u (Int32.ofInt c) v (Int32.ofInt d) (Int32.ofInt e)) (F := fun q1 => (pc + len, L, S, q1)) hM hf ?_ rfl rfl hcl)
  simp only [z_nx, zi, h8, hw, if_true]
  cases z_cpy q u (Int32.ofInt c) v (Int32.ofInt d) (Int32.ofInt e) <;> rfl
theorem ge_oin {u : Nat} {f : Nat} (hS : S.length ≤ 4) (h7 : x.2.1 = 7) (hM : zP[k]? = some M) (hf : z_ftc (zm_c M) pc = some (.invokespecial f, len, x)) : z_go zP k pc L (.ref u :: S) q Q ↔ z_go zP k (pc + len) L S q Q := by
  have h : z_nx (.invokespecial f) x pc len L (.ref u :: S) q = some (pc + len, L, S, q) := by simp only [z_nx, h7, if_true, zwb_le hS]
  exact z_go_nx hM hf h
theorem ge_thr {f : Nat} (hS : S.length ≤ 4) (hx : 100 ≤ x.1) (hM : zP[k]? = some M) (hf : z_ftc (zm_c M) pc = some (.new f, len, x)) (hh : zm_h M = []) : z_go zP k pc L S q Q ↔ Q (.inr (x.1 - 100)) (q.1, q.2.1 + 1, q.2.2 + 6) :=
  z_go_th (t := (x.1 - 100, q.1, q.2.1 + 1, q.2.2 + 6)) hM hf (by simp only [z_nx]; rw [if_neg (by omega)]) rfl (by simp only [z_th, hx, zwb_le hS, true_and, if_true]) hh
theorem ge_bk_c {k1 n1 : Nat} {L1 : zL} {r : List Value} (hh : zm_h M = []) (hv : z_vk i x = true) : z_go zP k1 n1 L1 [] q (z_bk zP M k pc i len x L r Q) ↔ z_go zP k1 n1 L1 [] q (zc k (pc + len) L r Q) := by
  have e : z_bk zP M k pc i len x L r Q = zc k (pc + len) L r Q := by
    funext o t
    cases o with
    | inl v => rfl
    | inr j => simp only [z_bk, zc, hh, hv, true_and, if_true]
  rw [e]
theorem ge_bk_d {k1 n1 : Nat} {L1 : zL} {r : List Value} (hv : z_vk i x = false) : z_go zP k1 n1 L1 [] q (z_bk zP M k pc i len x L r Q) ↔ z_go zP k1 n1 L1 [] q (zd k (pc + len) L r Q) := by
  have e : z_bk zP M k pc i len x L r Q = zd k (pc + len) L r Q := by
    funext o t
    cases o with
    | inl v => rfl
    | inr j => simp only [z_bk, zd, hv, Bool.false_eq_true, false_and]
  rw [e]
theorem ge_bk_h {k1 n1 : Nat} {L1 : zL} {r : List Value} {H : List (Nat × Nat × zL)} (hh : ¬ zm_h M = []) (hv : z_vk i x = true) (hr : ∀ j : Nat, (match z_row (zm_h M) (zm_e M) pc j with
    | none => none
    | some h => match z_ftc (zm_c M) h with
      | none => none
      | some q' => z_put1 q' h L) = (H.find? (fun w => decide (w.1 = j))).map (fun w => w.2)) : z_go zP k1 n1 L1 [] q (z_bk zP M k pc i len x L r Q) ↔ z_go zP k1 n1 L1 [] q (zh k (pc + len) L r H Q) := by
  have e : z_bk zP M k pc i len x L r Q = zh k (pc + len) L r H Q := by
    funext o t
    cases o with
    | inl v => rfl
    | inr j =>
      have h := hr j
      simp only [z_bk, zh, hh, hv, true_and, if_false]
      cases h1 : z_row (zm_h M) (zm_e M) pc j with
      | none =>
        rw [h1] at h
        cases h4 : H.find? (fun w => decide (w.1 = j)) with
        | none => rfl
        | some w => rw [h4] at h; cases h
      | some g =>
        rw [h1] at h
        simp only at h ⊢
        cases h2 : z_ftc (zm_c M) g with
        | none =>
          rw [h2] at h
          cases h4 : H.find? (fun w => decide (w.1 = j)) with
          | none => rfl
          | some w => rw [h4] at h; cases h
        | some q9 =>
          rw [h2] at h
          simp only at h ⊢
          cases h3 : z_put1 q9 g L with
          | none =>
            rw [h3] at h
            cases h4 : H.find? (fun w => decide (w.1 = j)) with
            | none => rfl
            | some w => rw [h4] at h; cases h
          | some t9 =>
            rw [h3] at h
            cases h4 : H.find? (fun w => decide (w.1 = j)) with
            | none => rw [h4] at h; cases h
            | some w => rw [h4] at h; cases h; rfl
  rw [e]
theorem ge_vc0 {k1 n0 tag u f : Nat} {A r : List Value} {N : zM} (hw : z_wb r = true) (hM : zP[k]? = some M) (hf : z_ftc (zm_c M) pc = some (.invokevirtual f, len, (k1, 0, [n0, tag]))) (hd : S.drop n0 = .ref u :: r) (hA : A = .ref u :: (S.take n0).reverse) (hN : zP[k1]? = some N) (he : (z_ent A).length ≤ zm_n N) :
    z_go zP k pc L S q Q ↔ z_tg q.1 u = some tag ∧ z_go zP k1 0 (z_ini (zm_n N) A) [] q (z_bk zP M k pc (.invokevirtual f) len (k1, 0, [n0, tag]) L r Q) := by
  by_cases ht : z_tg q.1 u = some tag
  · obtain ⟨ob, ho, ho2⟩ := Option.map_eq_some_iff.mp ht
    have hc : z_cl (.invokevirtual f) (k1, 0, [n0, tag]) S q = some (k1, A, r) := by
      simp only [z_cl, hd, ho, hw, if_true, ho2, hA]
    rw [z_go_cl hM hf rfl rfl rfl hc hN he]
    simp only [ht, true_and]
  · simp only [ht, false_and, iff_false]
    rintro ⟨n, w, y, h1, -⟩
    cases n with
    | zero => simp [z_rn] at h1
    | succ n =>
      have hc : z_cl (.invokevirtual f) (k1, 0, [n0, tag]) S q = none := by
        simp only [z_cl, hd]
        cases ho : q.1 u with
        | none => rfl
        | some ob =>
          have hne : ¬ tag = ob.1 := by
            intro h9
            apply ht
            unfold z_tg
            rw [ho, h9]
            rfl
          simp only [hw, if_true]
          rw [if_neg]
          intro h9
          cases h9
          exact hne rfl
      rw [z_rn, hM] at h1
      simp only [hf, show z_nx (.invokevirtual f) (k1, 0, [n0, tag]) pc len L S q = none from rfl, show z_rt (zm_r M) (.invokevirtual f) S = none from rfl, show z_th (.invokevirtual f) (k1, 0, [n0, tag]) S q = none from rfl, hc] at h1
      cases h1
theorem ge_vc {k1 n0 tag u f : Nat} {A r : List Value} {N : zM} (hw : z_wb r = true) (hM : zP[k]? = some M) (hf : z_ftc (zm_c M) pc = some (.invokevirtual f, len, (k1, 0, [n0, tag]))) (hd : S.drop n0 = .ref u :: r) (hA : A = .ref u :: (S.take n0).reverse) (hN : zP[k1]? = some N) (he : (z_ent A).length ≤ zm_n N) (hh : zm_h M = []) :
    z_go zP k pc L S q Q ↔ z_tg q.1 u = some tag ∧ z_go zP k1 0 (z_ini (zm_n N) A) [] q (zc k (pc + len) L r Q) := by
  rw [ge_vc0 hw hM hf hd hA hN he, ge_bk_c hh rfl]
theorem ge_vh {k1 n0 tag u f : Nat} {A r : List Value} {N : zM} {H : List (Nat × Nat × zL)} (hw : z_wb r = true) (hM : zP[k]? = some M) (hf : z_ftc (zm_c M) pc = some (.invokevirtual f, len, (k1, 0, [n0, tag]))) (hd : S.drop n0 = .ref u :: r) (hA : A = .ref u :: (S.take n0).reverse) (hN : zP[k1]? = some N) (he : (z_ent A).length ≤ zm_n N) (hh : ¬ zm_h M = [])
    (hr : ∀ j : Nat, (match z_row (zm_h M) (zm_e M) pc j with
    | none => none
    | some h => match z_ftc (zm_c M) h with
      | none => none
      | some q' => z_put1 q' h L) = (H.find? (fun w => decide (w.1 = j))).map (fun w => w.2)) :
    z_go zP k pc L S q Q ↔ z_tg q.1 u = some tag ∧ z_go zP k1 0 (z_ini (zm_n N) A) [] q (zh k (pc + len) L r H Q) := by
  rw [ge_vc0 hw hM hf hd hA hN he, ge_bk_h hh rfl hr]
end GE
