/-- a method: name, bytes, locals, answer, the rows of its table, the exceptions that they name, its code, the frames and words that it needs above its own -/
abbrev zM : Type := MethodName × ByteArray × Nat × Option FieldType × List (Nat × Nat × Nat × Nat) × List Nat × List (Nat × Instr × Nat × zX) × Nat × Nat
abbrev zm_y (M : zM) : MethodName := M.1
abbrev zm_b (M : zM) : ByteArray := M.2.1
abbrev zm_n (M : zM) : Nat := M.2.2.1
abbrev zm_r (M : zM) : Option FieldType := M.2.2.2.1
abbrev zm_h (M : zM) : List (Nat × Nat × Nat × Nat) := M.2.2.2.2.1
abbrev zm_e (M : zM) : List Nat := M.2.2.2.2.2.1
abbrev zm_c (M : zM) : List (Nat × Instr × Nat × zX) := M.2.2.2.2.2.2.1
abbrev zm_f (M : zM) : Nat := M.2.2.2.2.2.2.2.1
abbrev zm_w (M : zM) : Nat := M.2.2.2.2.2.2.2.2
def z_ftc (C : List (Nat × Instr × Nat × zX)) (pc : Nat) : Option (Instr × Nat × zX) := match C with
  | [] => none
  | e :: C' => if e.1 = pc then some e.2 else z_ftc C' pc
def z_ft (P : List zM) (k pc : Nat) : Option (Instr × Nat × zX) := match P[k]? with
  | some M => z_ftc (zm_c M) pc
  | none => none
/-- an answer -/
def z_rt (r : Option FieldType) (i : Instr) (S : List Value) : Option (Option Value) := match i with
  | .ireturn => match S, r with
    | [.int v], some ty => if narrow ty (.int v) = .int v then some (some (.int v)) else none
    | _, _ => none
  | .lreturn => match S, r with
    | [.long v], some .long => some (some (.long v))
    | _, _ => none
  | .areturn => match S, r with
    | [v], some (.object _) => if v.isRef = true then some (some v) else none
    | [v], some (.array _) => if v.isRef = true then some (some v) else none
    | _, _ => none
  | .return_ => match S, r with
    | [], none => some none
    | _, _ => none
  | _ => none
/-- 'throw new E(text)' -/
def z_th (i : Instr) (x : zX) (S : List Value) (s : zS) : Option (Nat × zS) := match i with
  | .new _ => if 100 ≤ x.1 ∧ z_wb S = true then some (x.1 - 100, s.1, s.2.1 + 1, s.2.2 + 6) else none
  | _ => none
/-- a call: the method's number, its arguments, what stays on the stack -/
def z_cl (i : Instr) (x : zX) (S : List Value) (s : zS) : Option (Nat × List Value × List Value) := match i with
  | .invokevirtual _ => match x.2.2 with
    | n :: t => match S.drop n with
      | .ref b :: r => match s.1 b with
        | some o => if z_wb r = true then (if x.2.1 = 0 then (if t = [o.1] then some (x.1, .ref b :: (S.take n).reverse, r) else none)
            else if x.2.1 = 1 ∧ o.1 ∈ zth then match t[o.1]? with
              | some m => some (m, .ref b :: (S.take n).reverse, r)
              | none => none
            else none) else none
        | none => none
      | _ => none
    | _ => none
  | .invokestatic _ => match x.2.2 with
    | [n] => if (x.2.1 = 2 ∨ x.2.1 = 4 ∨ x.2.1 = 6) ∧ n ≤ S.length ∧ z_wb (S.drop n) = true then some (x.1, (S.take n).reverse, S.drop n) else none
    | _ => none
  | .invokespecial _ => match x.2.2 with
    | [n] => match S.drop n with
      | .ref b :: r => if (x.2.1 = 3 ∨ x.2.1 = 5) ∧ z_wb r = true then some (x.1, .ref b :: (S.take n).reverse, r) else none
      | _ => none
    | _ => none
  | _ => none
/-- the row of a table that takes the exception e at pc -/
def z_row (H : List (Nat × Nat × Nat × Nat)) (E : List Nat) (pc e : Nat) : Option Nat := match H, E with
  | h :: H', q :: E' => if h.1 ≤ pc ∧ pc < h.2.1 ∧ q = e then some h.2.2.1 else z_row H' E' pc e
  | _, _ => none
/-- behind a catch: the exception is put away, its place is not known any more -/
def z_put1 (i : Instr × Nat × zX) (pc : Nat) (L : zL) : Option (Nat × zL) := match i.1 with
  | .astore_n j => if (j : Nat) < L.length ∧ i.2.1 = 1 then some (pc + 1, (z_kill L j).set j none) else none
  | .astore j => if j < L.length ∧ i.2.1 = 2 then some (pc + 2, (z_kill L j).set j none) else none
  | _ => none
abbrev zU : Type := Option Value ⊕ Nat
/-- calls that may throw -/
def z_vk (i : Instr) (x : zX) : Bool := match i with
  | .invokevirtual _ => decide (x.2.1 = 0)
  | _ => false
def z_rn (P : List zM) : Nat → Nat → Nat → zL → List Value → zS → Option (zU × zS)
  | 0, _, _, _, _, _ => none
  | n + 1, k, pc, L, S, s => match P[k]? with
    | none => none
    | some M => match z_ftc (zm_c M) pc with
      | none => none
      | some q => match z_nx q.1 q.2.2 pc q.2.1 L S s with
        | some t => z_rn P n k t.1 t.2.1 t.2.2.1 t.2.2.2
        | none => match z_rt (zm_r M) q.1 S with
          | some v => some (.inl v, s)
          | none => match z_th q.1 q.2.2 S s with
            | some t => if zm_h M = [] then some (.inr t.1, t.2) else none
            | none => match z_cl q.1 q.2.2 S s with
              | none => none
              | some c => match P[c.1]? with
                | none => none
                | some N => if (z_ent c.2.1).length ≤ zm_n N then match z_rn P n c.1 0 (z_ini (zm_n N) c.2.1) [] s with
                    | none => none
                    | some (.inl v, s') => z_rn P n k (pc + q.2.1) L (v.toList ++ c.2.2) s'
                    | some (.inr e, s') => if z_vk q.1 q.2.2 = true then (if zm_h M = [] then some (.inr e, s') else match z_row (zm_h M) (zm_e M) pc e with
                      | none => none
                      | some h => match z_ftc (zm_c M) h with
                        | none => none
                        | some q' => match z_put1 q' h L with
                          | none => none
                          | some t => z_rn P n k t.1 t.2 [] s') else none
                  else none
/-- it comes to an end where Q holds -/
def z_go (P : List zM) (k pc : Nat) (L : zL) (S : List Value) (s : zS) (Q : zU → zS → Prop) : Prop := ∃ n o t, z_rn P n k pc L S s = some (o, t) ∧ Q o t
theorem z_rn_mono (P : List zM) : ∀ (n k pc : Nat) (L : zL) (S : List Value) (s : zS) (r : zU × zS), z_rn P n k pc L S s = some r → z_rn P (n + 1) k pc L S s = some r := by
  intro n
  induction n with
  | zero => intro k pc L S s r h; simp [z_rn] at h
  | succ n ih =>
    intro k pc L S s r h
    rw [z_rn] at h ⊢
    cases hM : P[k]? with
    | none => rw [hM] at h; simp at h
    | some M =>
      rw [hM] at h
      simp only at h ⊢
      cases hq : z_ftc (zm_c M) pc with
      | none => rw [hq] at h; simp at h
      | some q =>
        rw [hq] at h
        simp only at h ⊢
        cases hx : z_nx q.1 q.2.2 pc q.2.1 L S s with
        | some t => rw [hx] at h; simp only at h ⊢; exact ih _ _ _ _ _ _ h
        | none =>
          rw [hx] at h
          simp only at h ⊢
          cases hr : z_rt (zm_r M) q.1 S with
          | some v => rw [hr] at h; simpa using h
          | none =>
            rw [hr] at h
            simp only at h ⊢
            cases ht : z_th q.1 q.2.2 S s with
            | some t => rw [ht] at h; simpa using h
            | none =>
              rw [ht] at h
              simp only at h ⊢
              cases hc : z_cl q.1 q.2.2 S s with
              | none => rw [hc] at h; simp at h
              | some c =>
                rw [hc] at h
                simp only at h ⊢
                cases hN : P[c.1]? with
                | none => rw [hN] at h; simp at h
                | some N =>
                  rw [hN] at h
                  simp only at h ⊢
                  split at h
                  next hle =>
                    rw [if_pos hle]
                    cases hb : z_rn P n c.1 0 (z_ini (zm_n N) c.2.1) [] s with
                    | none => rw [hb] at h; simp at h
                    | some w =>
                      rw [ih _ _ _ _ _ _ hb]
                      rw [hb] at h
                      obtain ⟨o, s'⟩ := w
                      cases o with
                      | inl v => simp only at h ⊢; exact ih _ _ _ _ _ _ h
                      | inr e =>
                        simp only at h ⊢
                        split at h
                        next hvk =>
                          rw [if_pos hvk]
                          split at h
                          next hh => rw [if_pos hh]; exact h
                          next hh =>
                            rw [if_neg hh]
                            cases hro : z_row (zm_h M) (zm_e M) pc e with
                            | none => rw [hro] at h; simp at h
                            | some g =>
                              rw [hro] at h
                              simp only at h ⊢
                              cases hq' : z_ftc (zm_c M) g with
                              | none => rw [hq'] at h; simp at h
                              | some q' =>
                                rw [hq'] at h
                                simp only at h ⊢
                                cases hp : z_put1 q' g L with
                                | none => rw [hp] at h; simp at h
                                | some t => rw [hp] at h; simp only at h ⊢; exact ih _ _ _ _ _ _ h
                        next hvk => simp at h
                  next hle => simp at h
theorem z_rn_le (P : List zM) {n m : Nat} (hnm : n ≤ m) {k pc : Nat} {L : zL} {S : List Value} {s : zS} {r : zU × zS} (h : z_rn P n k pc L S s = some r) : z_rn P m k pc L S s = some r := by
  induction hnm with
  | refl => exact h
  | step _ ih => exact z_rn_mono P _ _ _ _ _ _ _ ih
