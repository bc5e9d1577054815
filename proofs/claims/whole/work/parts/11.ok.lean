/-! WHAT IS CHECKED OF A METHOD'S CODE BY PROGRAM, and: an instruction that goes on, goes on -/
/-- words that stay true while the tables warm -/
def z_gw (w : Jvm.Cond) : Bool := goodWord w || (match w with
  | .castable _ _ => true
  | .declares _ => true
  | .methodLinkNest _ _ _ _ => true
  | .arrayOver (.object _) => true
  | _ => false)
theorem z_word {s0 s : State} (hW : s0.WarmedH s.vm) {w : Jvm.Cond} (hg : z_gw w = true) {a0 a : Array Value} (h : w.before a0 s0 = true) : w.before a s = true := by
  unfold z_gw at hg
  rw [Bool.or_eq_true] at hg
  rcases hg with hg | hg
  · exact word_at hW (good_of_word hg) h
  · split at hg
    · exact va_Nw.use rfl (va_Nw.warmC hW (va_Nw.of rfl h))
    · exact va_Nw.use rfl (va_Nw.warmD hW (va_Nw.of rfl h))
    · exact va_Nw.use rfl (va_Nw.warmM hW (va_Nw.of rfl h))
    · exact va_AO.use (va_AO.moved hW.alike (va_AO.of h))
    · cases hg
def z_wd (ps : List Nat) (j : Nat) (w : Jvm.Cond) : Bool := (match ps[j]? with
  | some p => decide (lw_tbl[p]? = some w)
  | none => false) && z_gw w
theorem z_wd_ok {ps : List Nat} {j : Nat} {w : Jvm.Cond} (h : z_wd ps j w = true) : w ∈ lw_tbl ∧ z_gw w = true := by
  unfold z_wd at h
  rw [Bool.and_eq_true] at h
  obtain ⟨h1, h2⟩ := h
  split at h1
  next p hp => exact ⟨List.mem_of_getElem? (of_decide_eq_true h1), h2⟩
  next => cases h1
/-- an instruction's length -/
def z_ln (i : Instr) : Nat := match i with
  | .bipush _ => 2
  | .iload _ => 2
  | .lload _ => 2
  | .aload _ => 2
  | .istore _ => 2
  | .lstore _ => 2
  | .astore _ => 2
  | .ldc _ => 2
  | .newarray _ => 2
  | .sipush _ => 3
  | .ldc_w _ => 3
  | .ldc2_w _ => 3
  | .iinc _ _ => 3
  | .ifCond _ _ => 3
  | .if_icmp _ _ => 3
  | .if_acmp _ _ => 3
  | .ifnull _ => 3
  | .ifnonnull _ => 3
  | .goto _ => 3
  | .getfield _ => 3
  | .putfield _ => 3
  | .new _ => 3
  | .anewarray _ => 3
  | .checkcast _ => 3
  | .instanceof _ => 3
  | .invokespecial _ => 3
  | .invokestatic _ => 3
  | .invokevirtual _ => 3
  | _ => 1
def z_swi (i : Instr) : Bool := match i with
  | .tableswitch _ _ _ _ => true
  | _ => false
/-- the words that an instruction within the frame leans on -/
def z_okn (M : zM) (i : Instr) (x : zX) (ps : List Nat) : Bool := match i with
  | .getfield idx => x.2.2.all fun t => decide (t < 90) && (match zcl[t]? with
      | some r => decide (x.1 < r.2.2) && z_wd ps 0 (.fieldLink (zm_y M).cls idx (r.2.1 x.1).1 (r.2.1 x.1).2.1 (r.2.1 x.1).2.2.1)
      | none => false)
  | .putfield idx => x.2.2.all fun t => decide (t < 90) && (match zcl[t]? with
      | some r => decide (x.1 < r.2.2) && z_wd ps 0 (.fieldLink (zm_y M).cls idx (r.2.1 x.1).1 (r.2.1 x.1).2.1 (r.2.1 x.1).2.2.1) && (!(r.2.1 x.1).2.2.2 || (decide ((zm_y M).name = "<init>") && decide ((r.2.1 x.1).1 = (zm_y M).cls)))
      | none => false)
  | .ldc idx => decide (x.2.2 ≠ []) || z_wd ps 0 (.constant (zm_y M).cls idx (Int32.ofNat x.1))
  | .ldc2_w idx => z_wd ps 0 (.constantLong (zm_y M).cls idx (Int64.ofNat x.1))
  | .new idx => decide (90 ≤ x.1) || (match zcl[x.1]? with
      | some r => z_wd ps 0 (.classLink (zm_y M).cls idx r.1) && z_wd ps 1 (.instantiable r.1 r.2.2) && z_wd ps 2 (.initialized r.1)
      | none => false)
  | .newarray t => z_wd ps 0 (.arrayClass (newarray.typeOf t))
  | .anewarray idx => match zaty x.1 with
      | .object C => z_wd ps 0 (.classLink (zm_y M).cls idx C) && z_wd ps 1 (.arrayOver (.object C))
      | _ => false
  | .checkcast idx => decide (x.1 ∈ zth) && (match zcl[x.1]? with
      | some r => z_wd ps 0 (.classLink (zm_y M).cls idx r.1)
      | none => false)
  | .instanceof idx => decide (x.1 ∈ zth) && (match zcl[x.1]? with
      | some r => z_wd ps 0 (.classLink (zm_y M).cls idx r.1)
      | none => false)
  | .invokespecial idx => decide (x.2.1 ≠ 7) || (z_wd ps 0 (.methodLink (zm_y M).cls idx objectInit) && z_wd ps 1 (.instanceMethod objectInit) && z_wd ps 2 (.code objectInit ⟨#[0xb1]⟩ 1 none) && decide (1 ≤ zm_f M) && decide (20 ≤ zm_w M))
  | .invokestatic idx => decide (x.2.1 ≠ 8) || (z_wd ps 0 (.methodLink (zm_y M).cls idx arraycopyName) && z_wd ps 1 (.native arraycopyName) && z_wd ps 2 (.static arraycopyName) && z_wd ps 3 (.initialized "java/lang/System") && decide (1 ≤ zm_f M) && decide (8 + (nativeFrameWords "java/lang/System" "arraycopy" 5 + 11) ≤ zm_w M))
  | _ => true
def z_oke (M : zM) (q : Nat × Instr × Nat × zX) (ps : List Nat) : Bool := decide (decode (zm_b M) q.1 = .ok (q.2.1, q.2.2.1)) && (z_swi q.2.1 || decide (q.2.2.1 = z_ln q.2.1)) && z_okn M q.2.1 q.2.2.2 ps
/-! what a step was -/
section ZI
variable {pc : Nat} {L : zL} {S : List Value} {s : zS} {j : Nat} {t : zN}
theorem zi_ldi (h : z_psh pc L S s (z_ldi L j) = some t) : ∃ v : Int32, L[j]? = some (some (.int v)) ∧ t = (pc, L, .int v :: S, s) := by
  unfold z_psh z_ldi at h
  split at h
  next v hv =>
    split at hv
    next w hw => cases hv; cases h; exact ⟨w, hw, rfl⟩
    next => cases hv
  next => cases h
theorem zi_ldl (h : z_psh pc L S s (z_ldl L j) = some t) : ∃ v : Int64, L[j]? = some (some (.long v)) ∧ t = (pc, L, .long v :: S, s) := by
  unfold z_psh z_ldl at h
  split at h
  next v hv =>
    split at hv
    next w hw => cases hv; cases h; exact ⟨w, hw, rfl⟩
    next => cases hv
  next => cases h
theorem zi_lda (h : z_psh pc L S s (z_lda L j) = some t) : (∃ v : Nat, L[j]? = some (some (.ref v)) ∧ t = (pc, L, .ref v :: S, s)) ∨ (L[j]? = some (some .null) ∧ t = (pc, L, .null :: S, s)) := by
  unfold z_psh z_lda at h
  split at h
  next v hv =>
    split at hv
    next w hw => cases hv; cases h; exact Or.inl ⟨w, hw, rfl⟩
    next hw => cases hv; cases h; exact Or.inr ⟨hw, rfl⟩
    next => cases hv
  next => cases h
theorem zi_sti (h : z_sti pc L S s j = some t) : ∃ (v : Int32) (r : List Value), S = .int v :: r ∧ j < L.length ∧ t = (pc, z_set1 L j (.int v), r, s) := by
  unfold z_sti at h
  split at h
  next v r =>
    split at h
    next hj => cases h; exact ⟨v, r, rfl, hj, rfl⟩
    next => cases h
  next => cases h
theorem zi_stl (h : z_stl pc L S s j = some t) : ∃ (v : Int64) (r : List Value), S = .long v :: r ∧ j + 1 < L.length ∧ t = (pc, z_set2 L j (.long v), r, s) := by
  unfold z_stl at h
  split at h
  next v r =>
    split at h
    next hj => cases h; exact ⟨v, r, rfl, hj, rfl⟩
    next => cases h
  next => cases h
theorem zi_sta (h : z_sta pc L S s j = some t) : (∃ (v : Nat) (r : List Value), S = .ref v :: r ∧ j < L.length ∧ t = (pc, z_set1 L j (.ref v), r, s)) ∨ (∃ r : List Value, S = .null :: r ∧ j < L.length ∧ t = (pc, z_set1 L j .null, r, s)) := by
  unfold z_sta at h
  split at h
  next v r =>
    split at h
    next hj => cases h; exact Or.inl ⟨v, r, rfl, hj, rfl⟩
    next => cases h
  next r =>
    split at h
    next hj => cases h; exact Or.inr ⟨r, rfl, hj, rfl⟩
    next => cases h
  next => cases h
theorem zi_bi {f : Int32 → Int32 → Int32} (h : z_bi pc L S s f = some t) : ∃ (x y : Int32) (r : List Value), S = .int y :: .int x :: r ∧ t = (pc, L, .int (f x y) :: r, s) := by
  unfold z_bi at h
  split at h
  next y x r => cases h; exact ⟨x, y, r, rfl, rfl⟩
  next => cases h
theorem zi_bl {f : Int64 → Int64 → Int64} (h : z_bl pc L S s f = some t) : ∃ (x y : Int64) (r : List Value), S = .long y :: .long x :: r ∧ t = (pc, L, .long (f x y) :: r, s) := by
  unfold z_bl at h
  split at h
  next y x r => cases h; exact ⟨x, y, r, rfl, rfl⟩
  next => cases h
theorem zi_sl {f : Int64 → Int32 → Int64} (h : z_sl pc L S s f = some t) : ∃ (x : Int64) (y : Int32) (r : List Value), S = .int y :: .long x :: r ∧ t = (pc, L, .long (f x y) :: r, s) := by
  unfold z_sl at h
  split at h
  next y x r => cases h; exact ⟨x, y, r, rfl, rfl⟩
  next => cases h
theorem zi_psh {r : Option Value} (h : z_psh pc L S s r = some t) : ∃ v, r = some v ∧ t = (pc, L, v :: S, s) := by
  unfold z_psh at h
  split at h
  next v => cases h; exact ⟨v, rfl, rfl⟩
  next => cases h
theorem zi_get {tags : List Nat} {k a : Nat} {h9 : zH} {v : Value} (h : z_get tags k h9 a = some v) : ∃ o, h9 a = some o ∧ o.1 ∈ tags ∧ v = o.2.2 k := by
  unfold z_get at h
  split at h
  next o ho =>
    split at h
    next ht => cases h; exact ⟨o, ho, ht, rfl⟩
    next => cases h
  next => cases h
theorem zi_put {tags : List Nat} {k a : Nat} {v : Value} {s' : zS} (h : z_put tags k s a v = some s') : ∃ o, s.1 a = some o ∧ o.1 ∈ tags ∧ narrow (zty o.1 k) v = v ∧ fits (zty o.1 k) v = true ∧ s' = (z_up s.1 a (o.1, o.2.1, z_uf o.2.2 k v), s.2) := by
  unfold z_put at h
  split at h
  next o ho =>
    split at h
    next ht => cases h; exact ⟨o, ho, ht.1, ht.2.1, ht.2.2, rfl⟩
    next => cases h
  next => cases h
theorem zi_at {tags : List Nat} {a : Nat} {i : Int32} {h9 : zH} {v : Value} (h : z_at tags h9 a i = some v) : ∃ o, h9 a = some o ∧ o.1 ∈ tags ∧ ¬ (i < 0 ∨ o.2.1 ≤ i.toNatClampNeg) ∧ v = o.2.2 i.toNatClampNeg := by
  unfold z_at at h
  split at h
  next o ho =>
    split at h
    next ht => cases h; exact ⟨o, ho, ht.1, ht.2, rfl⟩
    next => cases h
  next => cases h
theorem zi_st {tag a : Nat} {i : Int32} {v : Value} {s' : zS} (h : z_st tag s a i v = some s') : ∃ o, s.1 a = some o ∧ o.1 = tag ∧ ¬ (i < 0 ∨ o.2.1 ≤ i.toNatClampNeg) ∧ s' = (z_up s.1 a (o.1, o.2.1, z_uf o.2.2 i.toNatClampNeg v), s.2) := by
  unfold z_st at h
  split at h
  next o ho =>
    split at h
    next ht => cases h; exact ⟨o, ho, ht.1, ht.2, rfl⟩
    next => cases h
  next => cases h
theorem zi_ast {a : Nat} {i : Int32} {v : Value} {s' : zS} (h : z_ast s a i v = some s') : ∃ o, s.1 a = some o ∧ (o.1 = 103 ∨ o.1 = 104) ∧ z_may o.1 s.1 v = true ∧ ¬ (i < 0 ∨ o.2.1 ≤ i.toNatClampNeg) ∧ s' = (z_up s.1 a (o.1, o.2.1, z_uf o.2.2 i.toNatClampNeg v), s.2) := by
  unfold z_ast at h
  split at h
  next o ho =>
    split at h
    next ht =>
      obtain ⟨o', h1, h2, h3, h4⟩ := zi_st h
      cases ho.symm.trans h1
      exact ⟨o, ho, ht.1, ht.2, h3, h4⟩
    next => cases h
  next => cases h
theorem zi_len {a : Nat} {h9 : zH} {v : Value} (h : z_len h9 a = some v) : ∃ o, h9 a = some o ∧ 99 ≤ o.1 ∧ v = .int o.2.1.toInt32 := by
  unfold z_len at h
  split at h
  next o ho =>
    split at h
    next ht => cases h; exact ⟨o, ho, ht.1, rfl⟩
    next => cases h
  next => cases h
theorem zi_nwa {tag b : Nat} {d : Value} (h : z_nwa tag d b pc L S s = some t) : ∃ (n : Int32) (r : List Value), S = .int n :: r ∧ ¬ n < 0 ∧ n.toNatClampNeg * b ≤ 536870912 ∧ t = (pc, L, .ref s.2.1 :: r, z_new tag n.toNatClampNeg (fun _ => d) s) := by
  unfold z_nwa at h
  split at h
  next n r =>
    split at h
    next ht => cases h; exact ⟨n, r, rfl, ht.1, ht.2, rfl⟩
    next => cases h
  next => cases h
end ZI
