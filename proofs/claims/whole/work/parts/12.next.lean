/-! AN INSTRUCTION THAT GOES ON WITHIN THE FRAME -/
/-- where a method of the little machine stands in the machine -/
def z_C (p : Program) (R : Room) (s : State) (m : MethodId) (args : Array Value) (meth : Method) (c : Code) (M : zM) (D : va_G) (cA : Nat → ClassId) : Prop :=
  p.tables.exec = Jvm.exec ∧ c.code = zm_b M ∧ c.maxLocals = zm_n M ∧ s.vm.findClass (zm_y M).cls = some m.cls ∧ meth.name = (zm_y M).name ∧ zm_f M ≤ R.frames ∧ zm_w M ≤ R.locals ∧
  (va_K D zcl (z_tys cA) s ∧ ArrOfT s (cA 99) .int) ∧ (∀ (i : Nat) (r : vw_C), zcl[i]? = some r → ∀ w ∈ u_ws r.1 r.2.1 r.2.2, w.before args s = true) ∧ (∀ i ∈ zth, ∀ rr : vw_C, zcl[i]? = some rr → va_Nw (.castable rr.1 "ProcessorHouse$Thing") s) ∧
  (∀ i ∈ zth, ∀ j ∈ zth, i ≠ j → ∀ r1 r2 : vw_C, zcl[i]? = some r1 → zcl[j]? = some r2 → va_Nc r1.1 r2.1 s) ∧ (∀ w, w ∈ lw_tbl → z_gw w = true → w.before args s = true)
section ZX
variable {p : Program} {l : Launch} {e : Env} {R : Room} {s : State} {m : MethodId} {args : Array Value} {below : List Frame} {meth : Method} {c : Code} {Q : State → Prop} {s0 : State} {D : va_G} {cA : Nat → ClassId} {n0 u0 : Nat}
variable {M : zM} {pc len : Nat} {L : zL} {S : List Value} {q : zS} {x : zX} {ps : List Nat} {t : zN}

theorem zn_iconst {n : Int} (C : z_C p R s m args meth c M D cA) (hLn : L.length = zm_n M) (hok : z_oke M (pc, .iconst n, len, x) ps = true) (hn0 : n0 ≤ q.2.1) (hu0 : u0 ≤ q.2.2) (hrc : t.2.2.2.2.1 - n0 ≤ R.cells) (hrs : t.2.2.2.2.2 - u0 ≤ R.slots) (h : z_nx (.iconst n) x pc len L S q = some t) (k : z_W p l e R s m args below meth c Q s0 D cA n0 u0 t.1 t.2.1 t.2.2.1 t.2.2.2) : z_W p l e R s m args below meth c Q s0 D cA n0 u0 pc L S q := by
  obtain ⟨hx, hb, hml, hown, hnm, hfr, hlo, ⟨hK, h99⟩, hlay, hcst, hno, hw⟩ := C
  simp only [z_oke, Bool.and_eq_true, Bool.or_eq_true, decide_eq_true_eq] at hok
  have hd0 := hok.1.1
  simp only [z_okn, z_swi, z_ln, Bool.false_eq_true, false_or, Bool.and_eq_true, Bool.or_eq_true, decide_eq_true_eq] at hok
  simp only [z_nx] at h
  obtain ⟨⟨hd, hlen⟩, -⟩ := hok
  subst hlen
  cases h
  exact zs_iconst hx hb hd k
theorem zn_bipush {n : Int} (C : z_C p R s m args meth c M D cA) (hLn : L.length = zm_n M) (hok : z_oke M (pc, .bipush n, len, x) ps = true) (hn0 : n0 ≤ q.2.1) (hu0 : u0 ≤ q.2.2) (hrc : t.2.2.2.2.1 - n0 ≤ R.cells) (hrs : t.2.2.2.2.2 - u0 ≤ R.slots) (h : z_nx (.bipush n) x pc len L S q = some t) (k : z_W p l e R s m args below meth c Q s0 D cA n0 u0 t.1 t.2.1 t.2.2.1 t.2.2.2) : z_W p l e R s m args below meth c Q s0 D cA n0 u0 pc L S q := by
  obtain ⟨hx, hb, hml, hown, hnm, hfr, hlo, ⟨hK, h99⟩, hlay, hcst, hno, hw⟩ := C
  simp only [z_oke, Bool.and_eq_true, Bool.or_eq_true, decide_eq_true_eq] at hok
  have hd0 := hok.1.1
  simp only [z_okn, z_swi, z_ln, Bool.false_eq_true, false_or, Bool.and_eq_true, Bool.or_eq_true, decide_eq_true_eq] at hok
  simp only [z_nx] at h
  obtain ⟨⟨hd, hlen⟩, -⟩ := hok
  subst hlen
  cases h
  exact zs_bipush hx hb hd k
theorem zn_sipush {n : Int} (C : z_C p R s m args meth c M D cA) (hLn : L.length = zm_n M) (hok : z_oke M (pc, .sipush n, len, x) ps = true) (hn0 : n0 ≤ q.2.1) (hu0 : u0 ≤ q.2.2) (hrc : t.2.2.2.2.1 - n0 ≤ R.cells) (hrs : t.2.2.2.2.2 - u0 ≤ R.slots) (h : z_nx (.sipush n) x pc len L S q = some t) (k : z_W p l e R s m args below meth c Q s0 D cA n0 u0 t.1 t.2.1 t.2.2.1 t.2.2.2) : z_W p l e R s m args below meth c Q s0 D cA n0 u0 pc L S q := by
  obtain ⟨hx, hb, hml, hown, hnm, hfr, hlo, ⟨hK, h99⟩, hlay, hcst, hno, hw⟩ := C
  simp only [z_oke, Bool.and_eq_true, Bool.or_eq_true, decide_eq_true_eq] at hok
  have hd0 := hok.1.1
  simp only [z_okn, z_swi, z_ln, Bool.false_eq_true, false_or, Bool.and_eq_true, Bool.or_eq_true, decide_eq_true_eq] at hok
  simp only [z_nx] at h
  obtain ⟨⟨hd, hlen⟩, -⟩ := hok
  subst hlen
  cases h
  exact zs_sipush hx hb hd k
theorem zn_lconst {n : Fin 2} (C : z_C p R s m args meth c M D cA) (hLn : L.length = zm_n M) (hok : z_oke M (pc, .lconst n, len, x) ps = true) (hn0 : n0 ≤ q.2.1) (hu0 : u0 ≤ q.2.2) (hrc : t.2.2.2.2.1 - n0 ≤ R.cells) (hrs : t.2.2.2.2.2 - u0 ≤ R.slots) (h : z_nx (.lconst n) x pc len L S q = some t) (k : z_W p l e R s m args below meth c Q s0 D cA n0 u0 t.1 t.2.1 t.2.2.1 t.2.2.2) : z_W p l e R s m args below meth c Q s0 D cA n0 u0 pc L S q := by
  obtain ⟨hx, hb, hml, hown, hnm, hfr, hlo, ⟨hK, h99⟩, hlay, hcst, hno, hw⟩ := C
  simp only [z_oke, Bool.and_eq_true, Bool.or_eq_true, decide_eq_true_eq] at hok
  have hd0 := hok.1.1
  simp only [z_okn, z_swi, z_ln, Bool.false_eq_true, false_or, Bool.and_eq_true, Bool.or_eq_true, decide_eq_true_eq] at hok
  simp only [z_nx] at h
  obtain ⟨⟨hd, hlen⟩, -⟩ := hok
  subst hlen
  cases h
  exact zs_lconst hx hb hd k
theorem zn_null  (C : z_C p R s m args meth c M D cA) (hLn : L.length = zm_n M) (hok : z_oke M (pc, .aconst_null, len, x) ps = true) (hn0 : n0 ≤ q.2.1) (hu0 : u0 ≤ q.2.2) (hrc : t.2.2.2.2.1 - n0 ≤ R.cells) (hrs : t.2.2.2.2.2 - u0 ≤ R.slots) (h : z_nx (.aconst_null) x pc len L S q = some t) (k : z_W p l e R s m args below meth c Q s0 D cA n0 u0 t.1 t.2.1 t.2.2.1 t.2.2.2) : z_W p l e R s m args below meth c Q s0 D cA n0 u0 pc L S q := by
  obtain ⟨hx, hb, hml, hown, hnm, hfr, hlo, ⟨hK, h99⟩, hlay, hcst, hno, hw⟩ := C
  simp only [z_oke, Bool.and_eq_true, Bool.or_eq_true, decide_eq_true_eq] at hok
  have hd0 := hok.1.1
  simp only [z_okn, z_swi, z_ln, Bool.false_eq_true, false_or, Bool.and_eq_true, Bool.or_eq_true, decide_eq_true_eq] at hok
  simp only [z_nx] at h
  obtain ⟨⟨hd, hlen⟩, -⟩ := hok
  subst hlen
  cases h
  exact zs_null hx hb hd k
theorem zn_iload_n {j : Fin 4} (C : z_C p R s m args meth c M D cA) (hLn : L.length = zm_n M) (hok : z_oke M (pc, .iload_n j, len, x) ps = true) (hn0 : n0 ≤ q.2.1) (hu0 : u0 ≤ q.2.2) (hrc : t.2.2.2.2.1 - n0 ≤ R.cells) (hrs : t.2.2.2.2.2 - u0 ≤ R.slots) (h : z_nx (.iload_n j) x pc len L S q = some t) (k : z_W p l e R s m args below meth c Q s0 D cA n0 u0 t.1 t.2.1 t.2.2.1 t.2.2.2) : z_W p l e R s m args below meth c Q s0 D cA n0 u0 pc L S q := by
  obtain ⟨hx, hb, hml, hown, hnm, hfr, hlo, ⟨hK, h99⟩, hlay, hcst, hno, hw⟩ := C
  simp only [z_oke, Bool.and_eq_true, Bool.or_eq_true, decide_eq_true_eq] at hok
  have hd0 := hok.1.1
  simp only [z_okn, z_swi, z_ln, Bool.false_eq_true, false_or, Bool.and_eq_true, Bool.or_eq_true, decide_eq_true_eq] at hok
  simp only [z_nx] at h
  obtain ⟨⟨hd, hlen⟩, -⟩ := hok
  subst hlen
  obtain ⟨v, hv, rfl⟩ := zi_ldi h
  exact zs_iload_n hx hb hv hd k
theorem zn_iload {j : Nat} (C : z_C p R s m args meth c M D cA) (hLn : L.length = zm_n M) (hok : z_oke M (pc, .iload j, len, x) ps = true) (hn0 : n0 ≤ q.2.1) (hu0 : u0 ≤ q.2.2) (hrc : t.2.2.2.2.1 - n0 ≤ R.cells) (hrs : t.2.2.2.2.2 - u0 ≤ R.slots) (h : z_nx (.iload j) x pc len L S q = some t) (k : z_W p l e R s m args below meth c Q s0 D cA n0 u0 t.1 t.2.1 t.2.2.1 t.2.2.2) : z_W p l e R s m args below meth c Q s0 D cA n0 u0 pc L S q := by
  obtain ⟨hx, hb, hml, hown, hnm, hfr, hlo, ⟨hK, h99⟩, hlay, hcst, hno, hw⟩ := C
  simp only [z_oke, Bool.and_eq_true, Bool.or_eq_true, decide_eq_true_eq] at hok
  have hd0 := hok.1.1
  simp only [z_okn, z_swi, z_ln, Bool.false_eq_true, false_or, Bool.and_eq_true, Bool.or_eq_true, decide_eq_true_eq] at hok
  simp only [z_nx] at h
  obtain ⟨⟨hd, hlen⟩, -⟩ := hok
  subst hlen
  obtain ⟨v, hv, rfl⟩ := zi_ldi h
  exact zs_iload hx hb hv hd k
theorem zn_lload_n {j : Fin 4} (C : z_C p R s m args meth c M D cA) (hLn : L.length = zm_n M) (hok : z_oke M (pc, .lload_n j, len, x) ps = true) (hn0 : n0 ≤ q.2.1) (hu0 : u0 ≤ q.2.2) (hrc : t.2.2.2.2.1 - n0 ≤ R.cells) (hrs : t.2.2.2.2.2 - u0 ≤ R.slots) (h : z_nx (.lload_n j) x pc len L S q = some t) (k : z_W p l e R s m args below meth c Q s0 D cA n0 u0 t.1 t.2.1 t.2.2.1 t.2.2.2) : z_W p l e R s m args below meth c Q s0 D cA n0 u0 pc L S q := by
  obtain ⟨hx, hb, hml, hown, hnm, hfr, hlo, ⟨hK, h99⟩, hlay, hcst, hno, hw⟩ := C
  simp only [z_oke, Bool.and_eq_true, Bool.or_eq_true, decide_eq_true_eq] at hok
  have hd0 := hok.1.1
  simp only [z_okn, z_swi, z_ln, Bool.false_eq_true, false_or, Bool.and_eq_true, Bool.or_eq_true, decide_eq_true_eq] at hok
  simp only [z_nx] at h
  obtain ⟨⟨hd, hlen⟩, -⟩ := hok
  subst hlen
  obtain ⟨v, hv, rfl⟩ := zi_ldl h
  exact zs_lload_n hx hb hv hd k
theorem zn_lload {j : Nat} (C : z_C p R s m args meth c M D cA) (hLn : L.length = zm_n M) (hok : z_oke M (pc, .lload j, len, x) ps = true) (hn0 : n0 ≤ q.2.1) (hu0 : u0 ≤ q.2.2) (hrc : t.2.2.2.2.1 - n0 ≤ R.cells) (hrs : t.2.2.2.2.2 - u0 ≤ R.slots) (h : z_nx (.lload j) x pc len L S q = some t) (k : z_W p l e R s m args below meth c Q s0 D cA n0 u0 t.1 t.2.1 t.2.2.1 t.2.2.2) : z_W p l e R s m args below meth c Q s0 D cA n0 u0 pc L S q := by
  obtain ⟨hx, hb, hml, hown, hnm, hfr, hlo, ⟨hK, h99⟩, hlay, hcst, hno, hw⟩ := C
  simp only [z_oke, Bool.and_eq_true, Bool.or_eq_true, decide_eq_true_eq] at hok
  have hd0 := hok.1.1
  simp only [z_okn, z_swi, z_ln, Bool.false_eq_true, false_or, Bool.and_eq_true, Bool.or_eq_true, decide_eq_true_eq] at hok
  simp only [z_nx] at h
  obtain ⟨⟨hd, hlen⟩, -⟩ := hok
  subst hlen
  obtain ⟨v, hv, rfl⟩ := zi_ldl h
  exact zs_lload hx hb hv hd k
theorem zn_aload_n {j : Fin 4} (C : z_C p R s m args meth c M D cA) (hLn : L.length = zm_n M) (hok : z_oke M (pc, .aload_n j, len, x) ps = true) (hn0 : n0 ≤ q.2.1) (hu0 : u0 ≤ q.2.2) (hrc : t.2.2.2.2.1 - n0 ≤ R.cells) (hrs : t.2.2.2.2.2 - u0 ≤ R.slots) (h : z_nx (.aload_n j) x pc len L S q = some t) (k : z_W p l e R s m args below meth c Q s0 D cA n0 u0 t.1 t.2.1 t.2.2.1 t.2.2.2) : z_W p l e R s m args below meth c Q s0 D cA n0 u0 pc L S q := by
  obtain ⟨hx, hb, hml, hown, hnm, hfr, hlo, ⟨hK, h99⟩, hlay, hcst, hno, hw⟩ := C
  simp only [z_oke, Bool.and_eq_true, Bool.or_eq_true, decide_eq_true_eq] at hok
  have hd0 := hok.1.1
  simp only [z_okn, z_swi, z_ln, Bool.false_eq_true, false_or, Bool.and_eq_true, Bool.or_eq_true, decide_eq_true_eq] at hok
  simp only [z_nx] at h
  obtain ⟨⟨hd, hlen⟩, -⟩ := hok
  subst hlen
  rcases zi_lda h with ⟨v, hv, rfl⟩ | ⟨hv, rfl⟩
  · exact zs_aload_n hx hb hv hd k
  · exact zs_aload_nN hx hb hv hd k
theorem zn_aload {j : Nat} (C : z_C p R s m args meth c M D cA) (hLn : L.length = zm_n M) (hok : z_oke M (pc, .aload j, len, x) ps = true) (hn0 : n0 ≤ q.2.1) (hu0 : u0 ≤ q.2.2) (hrc : t.2.2.2.2.1 - n0 ≤ R.cells) (hrs : t.2.2.2.2.2 - u0 ≤ R.slots) (h : z_nx (.aload j) x pc len L S q = some t) (k : z_W p l e R s m args below meth c Q s0 D cA n0 u0 t.1 t.2.1 t.2.2.1 t.2.2.2) : z_W p l e R s m args below meth c Q s0 D cA n0 u0 pc L S q := by
  obtain ⟨hx, hb, hml, hown, hnm, hfr, hlo, ⟨hK, h99⟩, hlay, hcst, hno, hw⟩ := C
  simp only [z_oke, Bool.and_eq_true, Bool.or_eq_true, decide_eq_true_eq] at hok
  have hd0 := hok.1.1
  simp only [z_okn, z_swi, z_ln, Bool.false_eq_true, false_or, Bool.and_eq_true, Bool.or_eq_true, decide_eq_true_eq] at hok
  simp only [z_nx] at h
  obtain ⟨⟨hd, hlen⟩, -⟩ := hok
  subst hlen
  rcases zi_lda h with ⟨v, hv, rfl⟩ | ⟨hv, rfl⟩
  · exact zs_aload hx hb hv hd k
  · exact zs_aloadN hx hb hv hd k
theorem zn_istore_n {j : Fin 4} (C : z_C p R s m args meth c M D cA) (hLn : L.length = zm_n M) (hok : z_oke M (pc, .istore_n j, len, x) ps = true) (hn0 : n0 ≤ q.2.1) (hu0 : u0 ≤ q.2.2) (hrc : t.2.2.2.2.1 - n0 ≤ R.cells) (hrs : t.2.2.2.2.2 - u0 ≤ R.slots) (h : z_nx (.istore_n j) x pc len L S q = some t) (k : z_W p l e R s m args below meth c Q s0 D cA n0 u0 t.1 t.2.1 t.2.2.1 t.2.2.2) : z_W p l e R s m args below meth c Q s0 D cA n0 u0 pc L S q := by
  obtain ⟨hx, hb, hml, hown, hnm, hfr, hlo, ⟨hK, h99⟩, hlay, hcst, hno, hw⟩ := C
  simp only [z_oke, Bool.and_eq_true, Bool.or_eq_true, decide_eq_true_eq] at hok
  have hd0 := hok.1.1
  simp only [z_okn, z_swi, z_ln, Bool.false_eq_true, false_or, Bool.and_eq_true, Bool.or_eq_true, decide_eq_true_eq] at hok
  simp only [z_nx] at h
  obtain ⟨⟨hd, hlen⟩, -⟩ := hok
  subst hlen
  obtain ⟨v, r, rfl, hj, rfl⟩ := zi_sti h
  exact zs_istore_n hx hb hj hd k
theorem zn_istore {j : Nat} (C : z_C p R s m args meth c M D cA) (hLn : L.length = zm_n M) (hok : z_oke M (pc, .istore j, len, x) ps = true) (hn0 : n0 ≤ q.2.1) (hu0 : u0 ≤ q.2.2) (hrc : t.2.2.2.2.1 - n0 ≤ R.cells) (hrs : t.2.2.2.2.2 - u0 ≤ R.slots) (h : z_nx (.istore j) x pc len L S q = some t) (k : z_W p l e R s m args below meth c Q s0 D cA n0 u0 t.1 t.2.1 t.2.2.1 t.2.2.2) : z_W p l e R s m args below meth c Q s0 D cA n0 u0 pc L S q := by
  obtain ⟨hx, hb, hml, hown, hnm, hfr, hlo, ⟨hK, h99⟩, hlay, hcst, hno, hw⟩ := C
  simp only [z_oke, Bool.and_eq_true, Bool.or_eq_true, decide_eq_true_eq] at hok
  have hd0 := hok.1.1
  simp only [z_okn, z_swi, z_ln, Bool.false_eq_true, false_or, Bool.and_eq_true, Bool.or_eq_true, decide_eq_true_eq] at hok
  simp only [z_nx] at h
  obtain ⟨⟨hd, hlen⟩, -⟩ := hok
  subst hlen
  obtain ⟨v, r, rfl, hj, rfl⟩ := zi_sti h
  exact zs_istore hx hb hj hd k
theorem zn_lstore_n {j : Fin 4} (C : z_C p R s m args meth c M D cA) (hLn : L.length = zm_n M) (hok : z_oke M (pc, .lstore_n j, len, x) ps = true) (hn0 : n0 ≤ q.2.1) (hu0 : u0 ≤ q.2.2) (hrc : t.2.2.2.2.1 - n0 ≤ R.cells) (hrs : t.2.2.2.2.2 - u0 ≤ R.slots) (h : z_nx (.lstore_n j) x pc len L S q = some t) (k : z_W p l e R s m args below meth c Q s0 D cA n0 u0 t.1 t.2.1 t.2.2.1 t.2.2.2) : z_W p l e R s m args below meth c Q s0 D cA n0 u0 pc L S q := by
  obtain ⟨hx, hb, hml, hown, hnm, hfr, hlo, ⟨hK, h99⟩, hlay, hcst, hno, hw⟩ := C
  simp only [z_oke, Bool.and_eq_true, Bool.or_eq_true, decide_eq_true_eq] at hok
  have hd0 := hok.1.1
  simp only [z_okn, z_swi, z_ln, Bool.false_eq_true, false_or, Bool.and_eq_true, Bool.or_eq_true, decide_eq_true_eq] at hok
  simp only [z_nx] at h
  obtain ⟨⟨hd, hlen⟩, -⟩ := hok
  subst hlen
  obtain ⟨v, r, rfl, hj, rfl⟩ := zi_stl h
  exact zs_lstore_n hx hb hj hd k
theorem zn_lstore {j : Nat} (C : z_C p R s m args meth c M D cA) (hLn : L.length = zm_n M) (hok : z_oke M (pc, .lstore j, len, x) ps = true) (hn0 : n0 ≤ q.2.1) (hu0 : u0 ≤ q.2.2) (hrc : t.2.2.2.2.1 - n0 ≤ R.cells) (hrs : t.2.2.2.2.2 - u0 ≤ R.slots) (h : z_nx (.lstore j) x pc len L S q = some t) (k : z_W p l e R s m args below meth c Q s0 D cA n0 u0 t.1 t.2.1 t.2.2.1 t.2.2.2) : z_W p l e R s m args below meth c Q s0 D cA n0 u0 pc L S q := by
  obtain ⟨hx, hb, hml, hown, hnm, hfr, hlo, ⟨hK, h99⟩, hlay, hcst, hno, hw⟩ := C
  simp only [z_oke, Bool.and_eq_true, Bool.or_eq_true, decide_eq_true_eq] at hok
  have hd0 := hok.1.1
  simp only [z_okn, z_swi, z_ln, Bool.false_eq_true, false_or, Bool.and_eq_true, Bool.or_eq_true, decide_eq_true_eq] at hok
  simp only [z_nx] at h
  obtain ⟨⟨hd, hlen⟩, -⟩ := hok
  subst hlen
  obtain ⟨v, r, rfl, hj, rfl⟩ := zi_stl h
  exact zs_lstore hx hb hj hd k
theorem zn_astore_n {j : Fin 4} (C : z_C p R s m args meth c M D cA) (hLn : L.length = zm_n M) (hok : z_oke M (pc, .astore_n j, len, x) ps = true) (hn0 : n0 ≤ q.2.1) (hu0 : u0 ≤ q.2.2) (hrc : t.2.2.2.2.1 - n0 ≤ R.cells) (hrs : t.2.2.2.2.2 - u0 ≤ R.slots) (h : z_nx (.astore_n j) x pc len L S q = some t) (k : z_W p l e R s m args below meth c Q s0 D cA n0 u0 t.1 t.2.1 t.2.2.1 t.2.2.2) : z_W p l e R s m args below meth c Q s0 D cA n0 u0 pc L S q := by
  obtain ⟨hx, hb, hml, hown, hnm, hfr, hlo, ⟨hK, h99⟩, hlay, hcst, hno, hw⟩ := C
  simp only [z_oke, Bool.and_eq_true, Bool.or_eq_true, decide_eq_true_eq] at hok
  have hd0 := hok.1.1
  simp only [z_okn, z_swi, z_ln, Bool.false_eq_true, false_or, Bool.and_eq_true, Bool.or_eq_true, decide_eq_true_eq] at hok
  simp only [z_nx] at h
  obtain ⟨⟨hd, hlen⟩, -⟩ := hok
  subst hlen
  rcases zi_sta h with ⟨v, r, rfl, hj, rfl⟩ | ⟨r, rfl, hj, rfl⟩
  · exact zs_astore_n hx hb hj hd k
  · exact zs_astoreN_n hx hb hj hd k
theorem zn_astore {j : Nat} (C : z_C p R s m args meth c M D cA) (hLn : L.length = zm_n M) (hok : z_oke M (pc, .astore j, len, x) ps = true) (hn0 : n0 ≤ q.2.1) (hu0 : u0 ≤ q.2.2) (hrc : t.2.2.2.2.1 - n0 ≤ R.cells) (hrs : t.2.2.2.2.2 - u0 ≤ R.slots) (h : z_nx (.astore j) x pc len L S q = some t) (k : z_W p l e R s m args below meth c Q s0 D cA n0 u0 t.1 t.2.1 t.2.2.1 t.2.2.2) : z_W p l e R s m args below meth c Q s0 D cA n0 u0 pc L S q := by
  obtain ⟨hx, hb, hml, hown, hnm, hfr, hlo, ⟨hK, h99⟩, hlay, hcst, hno, hw⟩ := C
  simp only [z_oke, Bool.and_eq_true, Bool.or_eq_true, decide_eq_true_eq] at hok
  have hd0 := hok.1.1
  simp only [z_okn, z_swi, z_ln, Bool.false_eq_true, false_or, Bool.and_eq_true, Bool.or_eq_true, decide_eq_true_eq] at hok
  simp only [z_nx] at h
  obtain ⟨⟨hd, hlen⟩, -⟩ := hok
  subst hlen
  rcases zi_sta h with ⟨v, r, rfl, hj, rfl⟩ | ⟨r, rfl, hj, rfl⟩
  · exact zs_astore hx hb hj hd k
  · exact zs_astoreN hx hb hj hd k
theorem zn_iinc {j : Nat} {n : Int} (C : z_C p R s m args meth c M D cA) (hLn : L.length = zm_n M) (hok : z_oke M (pc, .iinc j n, len, x) ps = true) (hn0 : n0 ≤ q.2.1) (hu0 : u0 ≤ q.2.2) (hrc : t.2.2.2.2.1 - n0 ≤ R.cells) (hrs : t.2.2.2.2.2 - u0 ≤ R.slots) (h : z_nx (.iinc j n) x pc len L S q = some t) (k : z_W p l e R s m args below meth c Q s0 D cA n0 u0 t.1 t.2.1 t.2.2.1 t.2.2.2) : z_W p l e R s m args below meth c Q s0 D cA n0 u0 pc L S q := by
  obtain ⟨hx, hb, hml, hown, hnm, hfr, hlo, ⟨hK, h99⟩, hlay, hcst, hno, hw⟩ := C
  simp only [z_oke, Bool.and_eq_true, Bool.or_eq_true, decide_eq_true_eq] at hok
  have hd0 := hok.1.1
  simp only [z_okn, z_swi, z_ln, Bool.false_eq_true, false_or, Bool.and_eq_true, Bool.or_eq_true, decide_eq_true_eq] at hok
  simp only [z_nx] at h
  obtain ⟨⟨hd, hlen⟩, -⟩ := hok
  subst hlen
  split at h
  next v hv =>
    split at h
    next hj =>
      cases h
      unfold z_ldi at hv
      split at hv
      next w hw2 => cases hv; exact zs_iinc hx hb hw2 hd k
      next => cases hv
    next => cases h
  next => cases h
theorem zn_iadd  (C : z_C p R s m args meth c M D cA) (hLn : L.length = zm_n M) (hok : z_oke M (pc, .iadd, len, x) ps = true) (hn0 : n0 ≤ q.2.1) (hu0 : u0 ≤ q.2.2) (hrc : t.2.2.2.2.1 - n0 ≤ R.cells) (hrs : t.2.2.2.2.2 - u0 ≤ R.slots) (h : z_nx (.iadd) x pc len L S q = some t) (k : z_W p l e R s m args below meth c Q s0 D cA n0 u0 t.1 t.2.1 t.2.2.1 t.2.2.2) : z_W p l e R s m args below meth c Q s0 D cA n0 u0 pc L S q := by
  obtain ⟨hx, hb, hml, hown, hnm, hfr, hlo, ⟨hK, h99⟩, hlay, hcst, hno, hw⟩ := C
  simp only [z_oke, Bool.and_eq_true, Bool.or_eq_true, decide_eq_true_eq] at hok
  have hd0 := hok.1.1
  simp only [z_okn, z_swi, z_ln, Bool.false_eq_true, false_or, Bool.and_eq_true, Bool.or_eq_true, decide_eq_true_eq] at hok
  simp only [z_nx] at h
  obtain ⟨⟨hd, hlen⟩, -⟩ := hok
  subst hlen
  obtain ⟨x9, y9, r, rfl, rfl⟩ := zi_bi h
  exact zs_iadd hx hb hd k
theorem zn_isub  (C : z_C p R s m args meth c M D cA) (hLn : L.length = zm_n M) (hok : z_oke M (pc, .isub, len, x) ps = true) (hn0 : n0 ≤ q.2.1) (hu0 : u0 ≤ q.2.2) (hrc : t.2.2.2.2.1 - n0 ≤ R.cells) (hrs : t.2.2.2.2.2 - u0 ≤ R.slots) (h : z_nx (.isub) x pc len L S q = some t) (k : z_W p l e R s m args below meth c Q s0 D cA n0 u0 t.1 t.2.1 t.2.2.1 t.2.2.2) : z_W p l e R s m args below meth c Q s0 D cA n0 u0 pc L S q := by
  obtain ⟨hx, hb, hml, hown, hnm, hfr, hlo, ⟨hK, h99⟩, hlay, hcst, hno, hw⟩ := C
  simp only [z_oke, Bool.and_eq_true, Bool.or_eq_true, decide_eq_true_eq] at hok
  have hd0 := hok.1.1
  simp only [z_okn, z_swi, z_ln, Bool.false_eq_true, false_or, Bool.and_eq_true, Bool.or_eq_true, decide_eq_true_eq] at hok
  simp only [z_nx] at h
  obtain ⟨⟨hd, hlen⟩, -⟩ := hok
  subst hlen
  obtain ⟨x9, y9, r, rfl, rfl⟩ := zi_bi h
  exact zs_isub hx hb hd k
theorem zn_imul  (C : z_C p R s m args meth c M D cA) (hLn : L.length = zm_n M) (hok : z_oke M (pc, .imul, len, x) ps = true) (hn0 : n0 ≤ q.2.1) (hu0 : u0 ≤ q.2.2) (hrc : t.2.2.2.2.1 - n0 ≤ R.cells) (hrs : t.2.2.2.2.2 - u0 ≤ R.slots) (h : z_nx (.imul) x pc len L S q = some t) (k : z_W p l e R s m args below meth c Q s0 D cA n0 u0 t.1 t.2.1 t.2.2.1 t.2.2.2) : z_W p l e R s m args below meth c Q s0 D cA n0 u0 pc L S q := by
  obtain ⟨hx, hb, hml, hown, hnm, hfr, hlo, ⟨hK, h99⟩, hlay, hcst, hno, hw⟩ := C
  simp only [z_oke, Bool.and_eq_true, Bool.or_eq_true, decide_eq_true_eq] at hok
  have hd0 := hok.1.1
  simp only [z_okn, z_swi, z_ln, Bool.false_eq_true, false_or, Bool.and_eq_true, Bool.or_eq_true, decide_eq_true_eq] at hok
  simp only [z_nx] at h
  obtain ⟨⟨hd, hlen⟩, -⟩ := hok
  subst hlen
  obtain ⟨x9, y9, r, rfl, rfl⟩ := zi_bi h
  exact zs_imul hx hb hd k
theorem zn_iand  (C : z_C p R s m args meth c M D cA) (hLn : L.length = zm_n M) (hok : z_oke M (pc, .iand, len, x) ps = true) (hn0 : n0 ≤ q.2.1) (hu0 : u0 ≤ q.2.2) (hrc : t.2.2.2.2.1 - n0 ≤ R.cells) (hrs : t.2.2.2.2.2 - u0 ≤ R.slots) (h : z_nx (.iand) x pc len L S q = some t) (k : z_W p l e R s m args below meth c Q s0 D cA n0 u0 t.1 t.2.1 t.2.2.1 t.2.2.2) : z_W p l e R s m args below meth c Q s0 D cA n0 u0 pc L S q := by
  obtain ⟨hx, hb, hml, hown, hnm, hfr, hlo, ⟨hK, h99⟩, hlay, hcst, hno, hw⟩ := C
  simp only [z_oke, Bool.and_eq_true, Bool.or_eq_true, decide_eq_true_eq] at hok
  have hd0 := hok.1.1
  simp only [z_okn, z_swi, z_ln, Bool.false_eq_true, false_or, Bool.and_eq_true, Bool.or_eq_true, decide_eq_true_eq] at hok
  simp only [z_nx] at h
  obtain ⟨⟨hd, hlen⟩, -⟩ := hok
  subst hlen
  obtain ⟨x9, y9, r, rfl, rfl⟩ := zi_bi h
  exact zs_iand hx hb hd k
theorem zn_ixor  (C : z_C p R s m args meth c M D cA) (hLn : L.length = zm_n M) (hok : z_oke M (pc, .ixor, len, x) ps = true) (hn0 : n0 ≤ q.2.1) (hu0 : u0 ≤ q.2.2) (hrc : t.2.2.2.2.1 - n0 ≤ R.cells) (hrs : t.2.2.2.2.2 - u0 ≤ R.slots) (h : z_nx (.ixor) x pc len L S q = some t) (k : z_W p l e R s m args below meth c Q s0 D cA n0 u0 t.1 t.2.1 t.2.2.1 t.2.2.2) : z_W p l e R s m args below meth c Q s0 D cA n0 u0 pc L S q := by
  obtain ⟨hx, hb, hml, hown, hnm, hfr, hlo, ⟨hK, h99⟩, hlay, hcst, hno, hw⟩ := C
  simp only [z_oke, Bool.and_eq_true, Bool.or_eq_true, decide_eq_true_eq] at hok
  have hd0 := hok.1.1
  simp only [z_okn, z_swi, z_ln, Bool.false_eq_true, false_or, Bool.and_eq_true, Bool.or_eq_true, decide_eq_true_eq] at hok
  simp only [z_nx] at h
  obtain ⟨⟨hd, hlen⟩, -⟩ := hok
  subst hlen
  obtain ⟨x9, y9, r, rfl, rfl⟩ := zi_bi h
  exact zs_ixor hx hb hd k
theorem zn_ladd  (C : z_C p R s m args meth c M D cA) (hLn : L.length = zm_n M) (hok : z_oke M (pc, .ladd, len, x) ps = true) (hn0 : n0 ≤ q.2.1) (hu0 : u0 ≤ q.2.2) (hrc : t.2.2.2.2.1 - n0 ≤ R.cells) (hrs : t.2.2.2.2.2 - u0 ≤ R.slots) (h : z_nx (.ladd) x pc len L S q = some t) (k : z_W p l e R s m args below meth c Q s0 D cA n0 u0 t.1 t.2.1 t.2.2.1 t.2.2.2) : z_W p l e R s m args below meth c Q s0 D cA n0 u0 pc L S q := by
  obtain ⟨hx, hb, hml, hown, hnm, hfr, hlo, ⟨hK, h99⟩, hlay, hcst, hno, hw⟩ := C
  simp only [z_oke, Bool.and_eq_true, Bool.or_eq_true, decide_eq_true_eq] at hok
  have hd0 := hok.1.1
  simp only [z_okn, z_swi, z_ln, Bool.false_eq_true, false_or, Bool.and_eq_true, Bool.or_eq_true, decide_eq_true_eq] at hok
  simp only [z_nx] at h
  obtain ⟨⟨hd, hlen⟩, -⟩ := hok
  subst hlen
  obtain ⟨x9, y9, r, rfl, rfl⟩ := zi_bl h
  exact zs_ladd hx hb hd k
theorem zn_lsub  (C : z_C p R s m args meth c M D cA) (hLn : L.length = zm_n M) (hok : z_oke M (pc, .lsub, len, x) ps = true) (hn0 : n0 ≤ q.2.1) (hu0 : u0 ≤ q.2.2) (hrc : t.2.2.2.2.1 - n0 ≤ R.cells) (hrs : t.2.2.2.2.2 - u0 ≤ R.slots) (h : z_nx (.lsub) x pc len L S q = some t) (k : z_W p l e R s m args below meth c Q s0 D cA n0 u0 t.1 t.2.1 t.2.2.1 t.2.2.2) : z_W p l e R s m args below meth c Q s0 D cA n0 u0 pc L S q := by
  obtain ⟨hx, hb, hml, hown, hnm, hfr, hlo, ⟨hK, h99⟩, hlay, hcst, hno, hw⟩ := C
  simp only [z_oke, Bool.and_eq_true, Bool.or_eq_true, decide_eq_true_eq] at hok
  have hd0 := hok.1.1
  simp only [z_okn, z_swi, z_ln, Bool.false_eq_true, false_or, Bool.and_eq_true, Bool.or_eq_true, decide_eq_true_eq] at hok
  simp only [z_nx] at h
  obtain ⟨⟨hd, hlen⟩, -⟩ := hok
  subst hlen
  obtain ⟨x9, y9, r, rfl, rfl⟩ := zi_bl h
  exact zs_lsub hx hb hd k
theorem zn_lmul  (C : z_C p R s m args meth c M D cA) (hLn : L.length = zm_n M) (hok : z_oke M (pc, .lmul, len, x) ps = true) (hn0 : n0 ≤ q.2.1) (hu0 : u0 ≤ q.2.2) (hrc : t.2.2.2.2.1 - n0 ≤ R.cells) (hrs : t.2.2.2.2.2 - u0 ≤ R.slots) (h : z_nx (.lmul) x pc len L S q = some t) (k : z_W p l e R s m args below meth c Q s0 D cA n0 u0 t.1 t.2.1 t.2.2.1 t.2.2.2) : z_W p l e R s m args below meth c Q s0 D cA n0 u0 pc L S q := by
  obtain ⟨hx, hb, hml, hown, hnm, hfr, hlo, ⟨hK, h99⟩, hlay, hcst, hno, hw⟩ := C
  simp only [z_oke, Bool.and_eq_true, Bool.or_eq_true, decide_eq_true_eq] at hok
  have hd0 := hok.1.1
  simp only [z_okn, z_swi, z_ln, Bool.false_eq_true, false_or, Bool.and_eq_true, Bool.or_eq_true, decide_eq_true_eq] at hok
  simp only [z_nx] at h
  obtain ⟨⟨hd, hlen⟩, -⟩ := hok
  subst hlen
  obtain ⟨x9, y9, r, rfl, rfl⟩ := zi_bl h
  exact zs_lmul hx hb hd k
theorem zn_land  (C : z_C p R s m args meth c M D cA) (hLn : L.length = zm_n M) (hok : z_oke M (pc, .land, len, x) ps = true) (hn0 : n0 ≤ q.2.1) (hu0 : u0 ≤ q.2.2) (hrc : t.2.2.2.2.1 - n0 ≤ R.cells) (hrs : t.2.2.2.2.2 - u0 ≤ R.slots) (h : z_nx (.land) x pc len L S q = some t) (k : z_W p l e R s m args below meth c Q s0 D cA n0 u0 t.1 t.2.1 t.2.2.1 t.2.2.2) : z_W p l e R s m args below meth c Q s0 D cA n0 u0 pc L S q := by
  obtain ⟨hx, hb, hml, hown, hnm, hfr, hlo, ⟨hK, h99⟩, hlay, hcst, hno, hw⟩ := C
  simp only [z_oke, Bool.and_eq_true, Bool.or_eq_true, decide_eq_true_eq] at hok
  have hd0 := hok.1.1
  simp only [z_okn, z_swi, z_ln, Bool.false_eq_true, false_or, Bool.and_eq_true, Bool.or_eq_true, decide_eq_true_eq] at hok
  simp only [z_nx] at h
  obtain ⟨⟨hd, hlen⟩, -⟩ := hok
  subst hlen
  obtain ⟨x9, y9, r, rfl, rfl⟩ := zi_bl h
  exact zs_land hx hb hd k
theorem zn_lxor  (C : z_C p R s m args meth c M D cA) (hLn : L.length = zm_n M) (hok : z_oke M (pc, .lxor, len, x) ps = true) (hn0 : n0 ≤ q.2.1) (hu0 : u0 ≤ q.2.2) (hrc : t.2.2.2.2.1 - n0 ≤ R.cells) (hrs : t.2.2.2.2.2 - u0 ≤ R.slots) (h : z_nx (.lxor) x pc len L S q = some t) (k : z_W p l e R s m args below meth c Q s0 D cA n0 u0 t.1 t.2.1 t.2.2.1 t.2.2.2) : z_W p l e R s m args below meth c Q s0 D cA n0 u0 pc L S q := by
  obtain ⟨hx, hb, hml, hown, hnm, hfr, hlo, ⟨hK, h99⟩, hlay, hcst, hno, hw⟩ := C
  simp only [z_oke, Bool.and_eq_true, Bool.or_eq_true, decide_eq_true_eq] at hok
  have hd0 := hok.1.1
  simp only [z_okn, z_swi, z_ln, Bool.false_eq_true, false_or, Bool.and_eq_true, Bool.or_eq_true, decide_eq_true_eq] at hok
  simp only [z_nx] at h
  obtain ⟨⟨hd, hlen⟩, -⟩ := hok
  subst hlen
  obtain ⟨x9, y9, r, rfl, rfl⟩ := zi_bl h
  exact zs_lxor hx hb hd k
theorem zn_lshl  (C : z_C p R s m args meth c M D cA) (hLn : L.length = zm_n M) (hok : z_oke M (pc, .lshl, len, x) ps = true) (hn0 : n0 ≤ q.2.1) (hu0 : u0 ≤ q.2.2) (hrc : t.2.2.2.2.1 - n0 ≤ R.cells) (hrs : t.2.2.2.2.2 - u0 ≤ R.slots) (h : z_nx (.lshl) x pc len L S q = some t) (k : z_W p l e R s m args below meth c Q s0 D cA n0 u0 t.1 t.2.1 t.2.2.1 t.2.2.2) : z_W p l e R s m args below meth c Q s0 D cA n0 u0 pc L S q := by
  obtain ⟨hx, hb, hml, hown, hnm, hfr, hlo, ⟨hK, h99⟩, hlay, hcst, hno, hw⟩ := C
  simp only [z_oke, Bool.and_eq_true, Bool.or_eq_true, decide_eq_true_eq] at hok
  have hd0 := hok.1.1
  simp only [z_okn, z_swi, z_ln, Bool.false_eq_true, false_or, Bool.and_eq_true, Bool.or_eq_true, decide_eq_true_eq] at hok
  simp only [z_nx] at h
  obtain ⟨⟨hd, hlen⟩, -⟩ := hok
  subst hlen
  obtain ⟨x9, y9, r, rfl, rfl⟩ := zi_sl h
  exact zs_lshl hx hb hd k
theorem zn_lushr  (C : z_C p R s m args meth c M D cA) (hLn : L.length = zm_n M) (hok : z_oke M (pc, .lushr, len, x) ps = true) (hn0 : n0 ≤ q.2.1) (hu0 : u0 ≤ q.2.2) (hrc : t.2.2.2.2.1 - n0 ≤ R.cells) (hrs : t.2.2.2.2.2 - u0 ≤ R.slots) (h : z_nx (.lushr) x pc len L S q = some t) (k : z_W p l e R s m args below meth c Q s0 D cA n0 u0 t.1 t.2.1 t.2.2.1 t.2.2.2) : z_W p l e R s m args below meth c Q s0 D cA n0 u0 pc L S q := by
  obtain ⟨hx, hb, hml, hown, hnm, hfr, hlo, ⟨hK, h99⟩, hlay, hcst, hno, hw⟩ := C
  simp only [z_oke, Bool.and_eq_true, Bool.or_eq_true, decide_eq_true_eq] at hok
  have hd0 := hok.1.1
  simp only [z_okn, z_swi, z_ln, Bool.false_eq_true, false_or, Bool.and_eq_true, Bool.or_eq_true, decide_eq_true_eq] at hok
  simp only [z_nx] at h
  obtain ⟨⟨hd, hlen⟩, -⟩ := hok
  subst hlen
  obtain ⟨x9, y9, r, rfl, rfl⟩ := zi_sl h
  exact zs_lushr hx hb hd k
theorem zn_irem  (C : z_C p R s m args meth c M D cA) (hLn : L.length = zm_n M) (hok : z_oke M (pc, .irem, len, x) ps = true) (hn0 : n0 ≤ q.2.1) (hu0 : u0 ≤ q.2.2) (hrc : t.2.2.2.2.1 - n0 ≤ R.cells) (hrs : t.2.2.2.2.2 - u0 ≤ R.slots) (h : z_nx (.irem) x pc len L S q = some t) (k : z_W p l e R s m args below meth c Q s0 D cA n0 u0 t.1 t.2.1 t.2.2.1 t.2.2.2) : z_W p l e R s m args below meth c Q s0 D cA n0 u0 pc L S q := by
  obtain ⟨hx, hb, hml, hown, hnm, hfr, hlo, ⟨hK, h99⟩, hlay, hcst, hno, hw⟩ := C
  simp only [z_oke, Bool.and_eq_true, Bool.or_eq_true, decide_eq_true_eq] at hok
  have hd0 := hok.1.1
  simp only [z_okn, z_swi, z_ln, Bool.false_eq_true, false_or, Bool.and_eq_true, Bool.or_eq_true, decide_eq_true_eq] at hok
  simp only [z_nx] at h
  obtain ⟨⟨hd, hlen⟩, -⟩ := hok
  subst hlen
  split at h
  next y9 x9 r =>
    split at h
    next => cases h
    next hy => cases h; exact zs_irem hx hb hy hd k
  next => cases h
theorem zn_lrem  (C : z_C p R s m args meth c M D cA) (hLn : L.length = zm_n M) (hok : z_oke M (pc, .lrem, len, x) ps = true) (hn0 : n0 ≤ q.2.1) (hu0 : u0 ≤ q.2.2) (hrc : t.2.2.2.2.1 - n0 ≤ R.cells) (hrs : t.2.2.2.2.2 - u0 ≤ R.slots) (h : z_nx (.lrem) x pc len L S q = some t) (k : z_W p l e R s m args below meth c Q s0 D cA n0 u0 t.1 t.2.1 t.2.2.1 t.2.2.2) : z_W p l e R s m args below meth c Q s0 D cA n0 u0 pc L S q := by
  obtain ⟨hx, hb, hml, hown, hnm, hfr, hlo, ⟨hK, h99⟩, hlay, hcst, hno, hw⟩ := C
  simp only [z_oke, Bool.and_eq_true, Bool.or_eq_true, decide_eq_true_eq] at hok
  have hd0 := hok.1.1
  simp only [z_okn, z_swi, z_ln, Bool.false_eq_true, false_or, Bool.and_eq_true, Bool.or_eq_true, decide_eq_true_eq] at hok
  simp only [z_nx] at h
  obtain ⟨⟨hd, hlen⟩, -⟩ := hok
  subst hlen
  split at h
  next y9 x9 r =>
    split at h
    next => cases h
    next hy => cases h; exact zs_lrem hx hb hy hd k
  next => cases h
theorem zn_i2l  (C : z_C p R s m args meth c M D cA) (hLn : L.length = zm_n M) (hok : z_oke M (pc, .i2l, len, x) ps = true) (hn0 : n0 ≤ q.2.1) (hu0 : u0 ≤ q.2.2) (hrc : t.2.2.2.2.1 - n0 ≤ R.cells) (hrs : t.2.2.2.2.2 - u0 ≤ R.slots) (h : z_nx (.i2l) x pc len L S q = some t) (k : z_W p l e R s m args below meth c Q s0 D cA n0 u0 t.1 t.2.1 t.2.2.1 t.2.2.2) : z_W p l e R s m args below meth c Q s0 D cA n0 u0 pc L S q := by
  obtain ⟨hx, hb, hml, hown, hnm, hfr, hlo, ⟨hK, h99⟩, hlay, hcst, hno, hw⟩ := C
  simp only [z_oke, Bool.and_eq_true, Bool.or_eq_true, decide_eq_true_eq] at hok
  have hd0 := hok.1.1
  simp only [z_okn, z_swi, z_ln, Bool.false_eq_true, false_or, Bool.and_eq_true, Bool.or_eq_true, decide_eq_true_eq] at hok
  simp only [z_nx] at h
  obtain ⟨⟨hd, hlen⟩, -⟩ := hok
  subst hlen
  split at h
  next => cases h; exact zs_i2l hx hb hd k
  next => cases h
theorem zn_l2i  (C : z_C p R s m args meth c M D cA) (hLn : L.length = zm_n M) (hok : z_oke M (pc, .l2i, len, x) ps = true) (hn0 : n0 ≤ q.2.1) (hu0 : u0 ≤ q.2.2) (hrc : t.2.2.2.2.1 - n0 ≤ R.cells) (hrs : t.2.2.2.2.2 - u0 ≤ R.slots) (h : z_nx (.l2i) x pc len L S q = some t) (k : z_W p l e R s m args below meth c Q s0 D cA n0 u0 t.1 t.2.1 t.2.2.1 t.2.2.2) : z_W p l e R s m args below meth c Q s0 D cA n0 u0 pc L S q := by
  obtain ⟨hx, hb, hml, hown, hnm, hfr, hlo, ⟨hK, h99⟩, hlay, hcst, hno, hw⟩ := C
  simp only [z_oke, Bool.and_eq_true, Bool.or_eq_true, decide_eq_true_eq] at hok
  have hd0 := hok.1.1
  simp only [z_okn, z_swi, z_ln, Bool.false_eq_true, false_or, Bool.and_eq_true, Bool.or_eq_true, decide_eq_true_eq] at hok
  simp only [z_nx] at h
  obtain ⟨⟨hd, hlen⟩, -⟩ := hok
  subst hlen
  split at h
  next => cases h; exact zs_l2i hx hb hd k
  next => cases h
theorem zn_lcmp  (C : z_C p R s m args meth c M D cA) (hLn : L.length = zm_n M) (hok : z_oke M (pc, .lcmp, len, x) ps = true) (hn0 : n0 ≤ q.2.1) (hu0 : u0 ≤ q.2.2) (hrc : t.2.2.2.2.1 - n0 ≤ R.cells) (hrs : t.2.2.2.2.2 - u0 ≤ R.slots) (h : z_nx (.lcmp) x pc len L S q = some t) (k : z_W p l e R s m args below meth c Q s0 D cA n0 u0 t.1 t.2.1 t.2.2.1 t.2.2.2) : z_W p l e R s m args below meth c Q s0 D cA n0 u0 pc L S q := by
  obtain ⟨hx, hb, hml, hown, hnm, hfr, hlo, ⟨hK, h99⟩, hlay, hcst, hno, hw⟩ := C
  simp only [z_oke, Bool.and_eq_true, Bool.or_eq_true, decide_eq_true_eq] at hok
  have hd0 := hok.1.1
  simp only [z_okn, z_swi, z_ln, Bool.false_eq_true, false_or, Bool.and_eq_true, Bool.or_eq_true, decide_eq_true_eq] at hok
  simp only [z_nx] at h
  obtain ⟨⟨hd, hlen⟩, -⟩ := hok
  subst hlen
  split at h
  next => cases h; exact zs_lcmp hx hb hd k
  next => cases h
theorem zn_dup  (C : z_C p R s m args meth c M D cA) (hLn : L.length = zm_n M) (hok : z_oke M (pc, .dup, len, x) ps = true) (hn0 : n0 ≤ q.2.1) (hu0 : u0 ≤ q.2.2) (hrc : t.2.2.2.2.1 - n0 ≤ R.cells) (hrs : t.2.2.2.2.2 - u0 ≤ R.slots) (h : z_nx (.dup) x pc len L S q = some t) (k : z_W p l e R s m args below meth c Q s0 D cA n0 u0 t.1 t.2.1 t.2.2.1 t.2.2.2) : z_W p l e R s m args below meth c Q s0 D cA n0 u0 pc L S q := by
  obtain ⟨hx, hb, hml, hown, hnm, hfr, hlo, ⟨hK, h99⟩, hlay, hcst, hno, hw⟩ := C
  simp only [z_oke, Bool.and_eq_true, Bool.or_eq_true, decide_eq_true_eq] at hok
  have hd0 := hok.1.1
  simp only [z_okn, z_swi, z_ln, Bool.false_eq_true, false_or, Bool.and_eq_true, Bool.or_eq_true, decide_eq_true_eq] at hok
  simp only [z_nx] at h
  obtain ⟨⟨hd, hlen⟩, -⟩ := hok
  subst hlen
  split at h
  next v r =>
    split at h
    next hv => cases h; exact zs_dup hx hb hv hd k
    next => cases h
  next => cases h
theorem zn_pop  (C : z_C p R s m args meth c M D cA) (hLn : L.length = zm_n M) (hok : z_oke M (pc, .pop, len, x) ps = true) (hn0 : n0 ≤ q.2.1) (hu0 : u0 ≤ q.2.2) (hrc : t.2.2.2.2.1 - n0 ≤ R.cells) (hrs : t.2.2.2.2.2 - u0 ≤ R.slots) (h : z_nx (.pop) x pc len L S q = some t) (k : z_W p l e R s m args below meth c Q s0 D cA n0 u0 t.1 t.2.1 t.2.2.1 t.2.2.2) : z_W p l e R s m args below meth c Q s0 D cA n0 u0 pc L S q := by
  obtain ⟨hx, hb, hml, hown, hnm, hfr, hlo, ⟨hK, h99⟩, hlay, hcst, hno, hw⟩ := C
  simp only [z_oke, Bool.and_eq_true, Bool.or_eq_true, decide_eq_true_eq] at hok
  have hd0 := hok.1.1
  simp only [z_okn, z_swi, z_ln, Bool.false_eq_true, false_or, Bool.and_eq_true, Bool.or_eq_true, decide_eq_true_eq] at hok
  simp only [z_nx] at h
  obtain ⟨⟨hd, hlen⟩, -⟩ := hok
  subst hlen
  split at h
  next v r =>
    split at h
    next hv => cases h; exact zs_pop hx hb hv hd k
    next => cases h
  next => cases h
theorem zn_dup2  (C : z_C p R s m args meth c M D cA) (hLn : L.length = zm_n M) (hok : z_oke M (pc, .dup2, len, x) ps = true) (hn0 : n0 ≤ q.2.1) (hu0 : u0 ≤ q.2.2) (hrc : t.2.2.2.2.1 - n0 ≤ R.cells) (hrs : t.2.2.2.2.2 - u0 ≤ R.slots) (h : z_nx (.dup2) x pc len L S q = some t) (k : z_W p l e R s m args below meth c Q s0 D cA n0 u0 t.1 t.2.1 t.2.2.1 t.2.2.2) : z_W p l e R s m args below meth c Q s0 D cA n0 u0 pc L S q := by
  obtain ⟨hx, hb, hml, hown, hnm, hfr, hlo, ⟨hK, h99⟩, hlay, hcst, hno, hw⟩ := C
  simp only [z_oke, Bool.and_eq_true, Bool.or_eq_true, decide_eq_true_eq] at hok
  have hd0 := hok.1.1
  simp only [z_okn, z_swi, z_ln, Bool.false_eq_true, false_or, Bool.and_eq_true, Bool.or_eq_true, decide_eq_true_eq] at hok
  simp only [z_nx] at h
  obtain ⟨⟨hd, hlen⟩, -⟩ := hok
  subst hlen
  split at h
  next v w r =>
    split at h
    next hv => cases h; exact zs_dup2 hx hb hv.1 hv.2 hd k
    next => cases h
  next => cases h
theorem zn_ifCond {cn : Jvm.ClassFile.Cond} {o : Int} (C : z_C p R s m args meth c M D cA) (hLn : L.length = zm_n M) (hok : z_oke M (pc, .ifCond cn o, len, x) ps = true) (hn0 : n0 ≤ q.2.1) (hu0 : u0 ≤ q.2.2) (hrc : t.2.2.2.2.1 - n0 ≤ R.cells) (hrs : t.2.2.2.2.2 - u0 ≤ R.slots) (h : z_nx (.ifCond cn o) x pc len L S q = some t) (k : z_W p l e R s m args below meth c Q s0 D cA n0 u0 t.1 t.2.1 t.2.2.1 t.2.2.2) : z_W p l e R s m args below meth c Q s0 D cA n0 u0 pc L S q := by
  obtain ⟨hx, hb, hml, hown, hnm, hfr, hlo, ⟨hK, h99⟩, hlay, hcst, hno, hw⟩ := C
  simp only [z_oke, Bool.and_eq_true, Bool.or_eq_true, decide_eq_true_eq] at hok
  have hd0 := hok.1.1
  simp only [z_okn, z_swi, z_ln, Bool.false_eq_true, false_or, Bool.and_eq_true, Bool.or_eq_true, decide_eq_true_eq] at hok
  simp only [z_nx] at h
  obtain ⟨⟨hd, hlen⟩, -⟩ := hok
  subst hlen
  split at h
  next v r =>
    cases cn with
    | eq => exact zs_if_eq hx hb hd h k
    | ne => exact zs_if_ne hx hb hd h k
    | lt => exact zs_if_lt hx hb hd h k
    | ge => exact zs_if_ge hx hb hd h k
    | gt => exact zs_if_gt hx hb hd h k
    | le => exact zs_if_le hx hb hd h k
  next => cases h
theorem zn_if_icmp {cn : Jvm.ClassFile.Cond} {o : Int} (C : z_C p R s m args meth c M D cA) (hLn : L.length = zm_n M) (hok : z_oke M (pc, .if_icmp cn o, len, x) ps = true) (hn0 : n0 ≤ q.2.1) (hu0 : u0 ≤ q.2.2) (hrc : t.2.2.2.2.1 - n0 ≤ R.cells) (hrs : t.2.2.2.2.2 - u0 ≤ R.slots) (h : z_nx (.if_icmp cn o) x pc len L S q = some t) (k : z_W p l e R s m args below meth c Q s0 D cA n0 u0 t.1 t.2.1 t.2.2.1 t.2.2.2) : z_W p l e R s m args below meth c Q s0 D cA n0 u0 pc L S q := by
  obtain ⟨hx, hb, hml, hown, hnm, hfr, hlo, ⟨hK, h99⟩, hlay, hcst, hno, hw⟩ := C
  simp only [z_oke, Bool.and_eq_true, Bool.or_eq_true, decide_eq_true_eq] at hok
  have hd0 := hok.1.1
  simp only [z_okn, z_swi, z_ln, Bool.false_eq_true, false_or, Bool.and_eq_true, Bool.or_eq_true, decide_eq_true_eq] at hok
  simp only [z_nx] at h
  obtain ⟨⟨hd, hlen⟩, -⟩ := hok
  subst hlen
  split at h
  next w v r =>
    cases cn with
    | eq => exact zs_icmp_eq hx hb hd h k
    | ne => exact zs_icmp_ne hx hb hd h k
    | lt => exact zs_icmp_lt hx hb hd h k
    | ge => exact zs_icmp_ge hx hb hd h k
    | gt => exact zs_icmp_gt hx hb hd h k
    | le => exact zs_icmp_le hx hb hd h k
  next => cases h
theorem zn_if_acmp {cn : Jvm.ClassFile.ACond} {o : Int} (C : z_C p R s m args meth c M D cA) (hLn : L.length = zm_n M) (hok : z_oke M (pc, .if_acmp cn o, len, x) ps = true) (hn0 : n0 ≤ q.2.1) (hu0 : u0 ≤ q.2.2) (hrc : t.2.2.2.2.1 - n0 ≤ R.cells) (hrs : t.2.2.2.2.2 - u0 ≤ R.slots) (h : z_nx (.if_acmp cn o) x pc len L S q = some t) (k : z_W p l e R s m args below meth c Q s0 D cA n0 u0 t.1 t.2.1 t.2.2.1 t.2.2.2) : z_W p l e R s m args below meth c Q s0 D cA n0 u0 pc L S q := by
  obtain ⟨hx, hb, hml, hown, hnm, hfr, hlo, ⟨hK, h99⟩, hlay, hcst, hno, hw⟩ := C
  simp only [z_oke, Bool.and_eq_true, Bool.or_eq_true, decide_eq_true_eq] at hok
  have hd0 := hok.1.1
  simp only [z_okn, z_swi, z_ln, Bool.false_eq_true, false_or, Bool.and_eq_true, Bool.or_eq_true, decide_eq_true_eq] at hok
  simp only [z_nx] at h
  obtain ⟨⟨hd, hlen⟩, -⟩ := hok
  subst hlen
  split at h
  next w v r =>
    split at h
    next hv =>
      cases cn with
      | eq => exact zs_acmp_eq hx hb hv.1 hv.2 hd h k
      | ne => exact zs_acmp_ne hx hb hv.1 hv.2 hd h k
    next => cases h
  next => cases h
theorem zn_ifnull {o : Int} (C : z_C p R s m args meth c M D cA) (hLn : L.length = zm_n M) (hok : z_oke M (pc, .ifnull o, len, x) ps = true) (hn0 : n0 ≤ q.2.1) (hu0 : u0 ≤ q.2.2) (hrc : t.2.2.2.2.1 - n0 ≤ R.cells) (hrs : t.2.2.2.2.2 - u0 ≤ R.slots) (h : z_nx (.ifnull o) x pc len L S q = some t) (k : z_W p l e R s m args below meth c Q s0 D cA n0 u0 t.1 t.2.1 t.2.2.1 t.2.2.2) : z_W p l e R s m args below meth c Q s0 D cA n0 u0 pc L S q := by
  obtain ⟨hx, hb, hml, hown, hnm, hfr, hlo, ⟨hK, h99⟩, hlay, hcst, hno, hw⟩ := C
  simp only [z_oke, Bool.and_eq_true, Bool.or_eq_true, decide_eq_true_eq] at hok
  have hd0 := hok.1.1
  simp only [z_okn, z_swi, z_ln, Bool.false_eq_true, false_or, Bool.and_eq_true, Bool.or_eq_true, decide_eq_true_eq] at hok
  simp only [z_nx] at h
  obtain ⟨⟨hd, hlen⟩, -⟩ := hok
  subst hlen
  split at h
  next => cases h; exact zs_ifnull hx hb hd k
  next => exact zs_ifnullN hx hb hd h k
  next => cases h
theorem zn_ifnonnull {o : Int} (C : z_C p R s m args meth c M D cA) (hLn : L.length = zm_n M) (hok : z_oke M (pc, .ifnonnull o, len, x) ps = true) (hn0 : n0 ≤ q.2.1) (hu0 : u0 ≤ q.2.2) (hrc : t.2.2.2.2.1 - n0 ≤ R.cells) (hrs : t.2.2.2.2.2 - u0 ≤ R.slots) (h : z_nx (.ifnonnull o) x pc len L S q = some t) (k : z_W p l e R s m args below meth c Q s0 D cA n0 u0 t.1 t.2.1 t.2.2.1 t.2.2.2) : z_W p l e R s m args below meth c Q s0 D cA n0 u0 pc L S q := by
  obtain ⟨hx, hb, hml, hown, hnm, hfr, hlo, ⟨hK, h99⟩, hlay, hcst, hno, hw⟩ := C
  simp only [z_oke, Bool.and_eq_true, Bool.or_eq_true, decide_eq_true_eq] at hok
  have hd0 := hok.1.1
  simp only [z_okn, z_swi, z_ln, Bool.false_eq_true, false_or, Bool.and_eq_true, Bool.or_eq_true, decide_eq_true_eq] at hok
  simp only [z_nx] at h
  obtain ⟨⟨hd, hlen⟩, -⟩ := hok
  subst hlen
  split at h
  next => exact zs_ifnonnull hx hb hd h k
  next => cases h; exact zs_ifnonnullN hx hb hd k
  next => cases h
theorem zn_goto {o : Int} (C : z_C p R s m args meth c M D cA) (hLn : L.length = zm_n M) (hok : z_oke M (pc, .goto o, len, x) ps = true) (hn0 : n0 ≤ q.2.1) (hu0 : u0 ≤ q.2.2) (hrc : t.2.2.2.2.1 - n0 ≤ R.cells) (hrs : t.2.2.2.2.2 - u0 ≤ R.slots) (h : z_nx (.goto o) x pc len L S q = some t) (k : z_W p l e R s m args below meth c Q s0 D cA n0 u0 t.1 t.2.1 t.2.2.1 t.2.2.2) : z_W p l e R s m args below meth c Q s0 D cA n0 u0 pc L S q := by
  obtain ⟨hx, hb, hml, hown, hnm, hfr, hlo, ⟨hK, h99⟩, hlay, hcst, hno, hw⟩ := C
  simp only [z_oke, Bool.and_eq_true, Bool.or_eq_true, decide_eq_true_eq] at hok
  have hd0 := hok.1.1
  simp only [z_okn, z_swi, z_ln, Bool.false_eq_true, false_or, Bool.and_eq_true, Bool.or_eq_true, decide_eq_true_eq] at hok
  simp only [z_nx] at h
  obtain ⟨⟨hd, hlen⟩, -⟩ := hok
  exact zs_goto hx hb (by rw [← hlen]; exact hd) h k
theorem zn_tableswitch {d lo hi : Int} {os : Array Int} (C : z_C p R s m args meth c M D cA) (hLn : L.length = zm_n M) (hok : z_oke M (pc, .tableswitch d lo hi os, len, x) ps = true) (hn0 : n0 ≤ q.2.1) (hu0 : u0 ≤ q.2.2) (hrc : t.2.2.2.2.1 - n0 ≤ R.cells) (hrs : t.2.2.2.2.2 - u0 ≤ R.slots) (h : z_nx (.tableswitch d lo hi os) x pc len L S q = some t) (k : z_W p l e R s m args below meth c Q s0 D cA n0 u0 t.1 t.2.1 t.2.2.1 t.2.2.2) : z_W p l e R s m args below meth c Q s0 D cA n0 u0 pc L S q := by
  obtain ⟨hx, hb, hml, hown, hnm, hfr, hlo, ⟨hK, h99⟩, hlay, hcst, hno, hw⟩ := C
  simp only [z_oke, Bool.and_eq_true, Bool.or_eq_true, decide_eq_true_eq] at hok
  have hd0 := hok.1.1
  simp only [z_okn, z_swi, z_ln, Bool.false_eq_true, false_or, Bool.and_eq_true, Bool.or_eq_true, decide_eq_true_eq] at hok
  simp only [z_nx] at h
  have hd := hd0
  split at h
  next v r =>
    split at h
    next hc => exact zs_tableOut hx hb hd hc h k
    next hc =>
      split at h
      next o ho => exact zs_tableIn hx hb hd hc ho h k
      next => cases h
  next => cases h
theorem zn_getfield {idx : Nat} (C : z_C p R s m args meth c M D cA) (hLn : L.length = zm_n M) (hok : z_oke M (pc, .getfield idx, len, x) ps = true) (hn0 : n0 ≤ q.2.1) (hu0 : u0 ≤ q.2.2) (hrc : t.2.2.2.2.1 - n0 ≤ R.cells) (hrs : t.2.2.2.2.2 - u0 ≤ R.slots) (h : z_nx (.getfield idx) x pc len L S q = some t) (k : z_W p l e R s m args below meth c Q s0 D cA n0 u0 t.1 t.2.1 t.2.2.1 t.2.2.2) : z_W p l e R s m args below meth c Q s0 D cA n0 u0 pc L S q := by
  obtain ⟨hx, hb, hml, hown, hnm, hfr, hlo, ⟨hK, h99⟩, hlay, hcst, hno, hw⟩ := C
  simp only [z_oke, Bool.and_eq_true, Bool.or_eq_true, decide_eq_true_eq] at hok
  have hd0 := hok.1.1
  simp only [z_okn, z_swi, z_ln, Bool.false_eq_true, false_or, Bool.and_eq_true, Bool.or_eq_true, decide_eq_true_eq] at hok
  simp only [z_nx] at h
  obtain ⟨hd, hlen⟩ := hok.1
  subst hlen
  split at h
  next a r =>
    obtain ⟨v, hv, rfl⟩ := zi_psh h
    obtain ⟨o, ho, ht, rfl⟩ := zi_get hv
    have h9 := List.all_eq_true.mp hok.2 o.1 ht
    simp only [Bool.and_eq_true, decide_eq_true_eq] at h9
    obtain ⟨h90, h9⟩ := h9
    split at h9
    next rr hr =>
      simp only [Bool.and_eq_true, decide_eq_true_eq] at h9
      exact zs_getf hx hb hown hK hlay ho h90 hr h9.1 (hw _ (z_wd_ok h9.2).1 (z_wd_ok h9.2).2) hd k
    next => cases h9
  next => cases h
theorem zn_putfield {idx : Nat} (C : z_C p R s m args meth c M D cA) (hLn : L.length = zm_n M) (hok : z_oke M (pc, .putfield idx, len, x) ps = true) (hn0 : n0 ≤ q.2.1) (hu0 : u0 ≤ q.2.2) (hrc : t.2.2.2.2.1 - n0 ≤ R.cells) (hrs : t.2.2.2.2.2 - u0 ≤ R.slots) (h : z_nx (.putfield idx) x pc len L S q = some t) (k : z_W p l e R s m args below meth c Q s0 D cA n0 u0 t.1 t.2.1 t.2.2.1 t.2.2.2) : z_W p l e R s m args below meth c Q s0 D cA n0 u0 pc L S q := by
  obtain ⟨hx, hb, hml, hown, hnm, hfr, hlo, ⟨hK, h99⟩, hlay, hcst, hno, hw⟩ := C
  simp only [z_oke, Bool.and_eq_true, Bool.or_eq_true, decide_eq_true_eq] at hok
  have hd0 := hok.1.1
  simp only [z_okn, z_swi, z_ln, Bool.false_eq_true, false_or, Bool.and_eq_true, Bool.or_eq_true, decide_eq_true_eq] at hok
  simp only [z_nx] at h
  obtain ⟨hd, hlen⟩ := hok.1
  subst hlen
  split at h
  next v a r =>
    split at h
    next s' hs =>
      cases h
      obtain ⟨o, ho, ht, hn, hf, rfl⟩ := zi_put hs
      have h9 := List.all_eq_true.mp hok.2 o.1 ht
      simp only [Bool.and_eq_true, decide_eq_true_eq] at h9
      obtain ⟨h90, h9⟩ := h9
      split at h9
      next rr hr =>
        simp only [Bool.and_eq_true, decide_eq_true_eq] at h9
        obtain ⟨⟨g1, g2⟩, g3⟩ := h9
        simp only [Bool.or_eq_true, Bool.not_eq_true', Bool.and_eq_true, decide_eq_true_eq] at g3
        exact zs_putf hx hb hown hK hlay ho h90 hr g1 (hw _ (z_wd_ok g2).1 (z_wd_ok g2).2) (g3.imp id (fun z => ⟨hnm.trans z.1, z.2⟩)) hn hf hd k
      next => cases h9
    next => cases h
  next => cases h
theorem zn_iaload  (C : z_C p R s m args meth c M D cA) (hLn : L.length = zm_n M) (hok : z_oke M (pc, .iaload, len, x) ps = true) (hn0 : n0 ≤ q.2.1) (hu0 : u0 ≤ q.2.2) (hrc : t.2.2.2.2.1 - n0 ≤ R.cells) (hrs : t.2.2.2.2.2 - u0 ≤ R.slots) (h : z_nx (.iaload) x pc len L S q = some t) (k : z_W p l e R s m args below meth c Q s0 D cA n0 u0 t.1 t.2.1 t.2.2.1 t.2.2.2) : z_W p l e R s m args below meth c Q s0 D cA n0 u0 pc L S q := by
  obtain ⟨hx, hb, hml, hown, hnm, hfr, hlo, ⟨hK, h99⟩, hlay, hcst, hno, hw⟩ := C
  simp only [z_oke, Bool.and_eq_true, Bool.or_eq_true, decide_eq_true_eq] at hok
  have hd0 := hok.1.1
  simp only [z_okn, z_swi, z_ln, Bool.false_eq_true, false_or, Bool.and_eq_true, Bool.or_eq_true, decide_eq_true_eq] at hok
  simp only [z_nx] at h
  obtain ⟨⟨hd, hlen⟩, -⟩ := hok
  subst hlen
  split at h
  next j a r =>
    obtain ⟨v, hv, rfl⟩ := zi_psh h
    obtain ⟨o, ho, ht, hin, rfl⟩ := zi_at hv
    exact zs_iald hx hb hK h99 ho (by simpa using ht) hin hd k
  next => cases h
theorem zn_laload  (C : z_C p R s m args meth c M D cA) (hLn : L.length = zm_n M) (hok : z_oke M (pc, .laload, len, x) ps = true) (hn0 : n0 ≤ q.2.1) (hu0 : u0 ≤ q.2.2) (hrc : t.2.2.2.2.1 - n0 ≤ R.cells) (hrs : t.2.2.2.2.2 - u0 ≤ R.slots) (h : z_nx (.laload) x pc len L S q = some t) (k : z_W p l e R s m args below meth c Q s0 D cA n0 u0 t.1 t.2.1 t.2.2.1 t.2.2.2) : z_W p l e R s m args below meth c Q s0 D cA n0 u0 pc L S q := by
  obtain ⟨hx, hb, hml, hown, hnm, hfr, hlo, ⟨hK, h99⟩, hlay, hcst, hno, hw⟩ := C
  simp only [z_oke, Bool.and_eq_true, Bool.or_eq_true, decide_eq_true_eq] at hok
  have hd0 := hok.1.1
  simp only [z_okn, z_swi, z_ln, Bool.false_eq_true, false_or, Bool.and_eq_true, Bool.or_eq_true, decide_eq_true_eq] at hok
  simp only [z_nx] at h
  obtain ⟨⟨hd, hlen⟩, -⟩ := hok
  subst hlen
  split at h
  next j a r =>
    obtain ⟨v, hv, rfl⟩ := zi_psh h
    obtain ⟨o, ho, ht, hin, rfl⟩ := zi_at hv
    exact zs_lald hx hb hK ho (by simpa using ht) hin hd k
  next => cases h
theorem zn_baload  (C : z_C p R s m args meth c M D cA) (hLn : L.length = zm_n M) (hok : z_oke M (pc, .baload, len, x) ps = true) (hn0 : n0 ≤ q.2.1) (hu0 : u0 ≤ q.2.2) (hrc : t.2.2.2.2.1 - n0 ≤ R.cells) (hrs : t.2.2.2.2.2 - u0 ≤ R.slots) (h : z_nx (.baload) x pc len L S q = some t) (k : z_W p l e R s m args below meth c Q s0 D cA n0 u0 t.1 t.2.1 t.2.2.1 t.2.2.2) : z_W p l e R s m args below meth c Q s0 D cA n0 u0 pc L S q := by
  obtain ⟨hx, hb, hml, hown, hnm, hfr, hlo, ⟨hK, h99⟩, hlay, hcst, hno, hw⟩ := C
  simp only [z_oke, Bool.and_eq_true, Bool.or_eq_true, decide_eq_true_eq] at hok
  have hd0 := hok.1.1
  simp only [z_okn, z_swi, z_ln, Bool.false_eq_true, false_or, Bool.and_eq_true, Bool.or_eq_true, decide_eq_true_eq] at hok
  simp only [z_nx] at h
  obtain ⟨⟨hd, hlen⟩, -⟩ := hok
  subst hlen
  split at h
  next j a r =>
    obtain ⟨v, hv, rfl⟩ := zi_psh h
    obtain ⟨o, ho, ht, hin, rfl⟩ := zi_at hv
    exact zs_bald hx hb hK ho (by simpa using ht) hin hd k
  next => cases h
theorem zn_aaload  (C : z_C p R s m args meth c M D cA) (hLn : L.length = zm_n M) (hok : z_oke M (pc, .aaload, len, x) ps = true) (hn0 : n0 ≤ q.2.1) (hu0 : u0 ≤ q.2.2) (hrc : t.2.2.2.2.1 - n0 ≤ R.cells) (hrs : t.2.2.2.2.2 - u0 ≤ R.slots) (h : z_nx (.aaload) x pc len L S q = some t) (k : z_W p l e R s m args below meth c Q s0 D cA n0 u0 t.1 t.2.1 t.2.2.1 t.2.2.2) : z_W p l e R s m args below meth c Q s0 D cA n0 u0 pc L S q := by
  obtain ⟨hx, hb, hml, hown, hnm, hfr, hlo, ⟨hK, h99⟩, hlay, hcst, hno, hw⟩ := C
  simp only [z_oke, Bool.and_eq_true, Bool.or_eq_true, decide_eq_true_eq] at hok
  have hd0 := hok.1.1
  simp only [z_okn, z_swi, z_ln, Bool.false_eq_true, false_or, Bool.and_eq_true, Bool.or_eq_true, decide_eq_true_eq] at hok
  simp only [z_nx] at h
  obtain ⟨⟨hd, hlen⟩, -⟩ := hok
  subst hlen
  split at h
  next j a r =>
    obtain ⟨v, hv, rfl⟩ := zi_psh h
    obtain ⟨o, ho, ht, hin, rfl⟩ := zi_at hv
    exact zs_aald hx hb hK ho (by simpa using ht) hin hd k
  next => cases h
theorem zn_iastore  (C : z_C p R s m args meth c M D cA) (hLn : L.length = zm_n M) (hok : z_oke M (pc, .iastore, len, x) ps = true) (hn0 : n0 ≤ q.2.1) (hu0 : u0 ≤ q.2.2) (hrc : t.2.2.2.2.1 - n0 ≤ R.cells) (hrs : t.2.2.2.2.2 - u0 ≤ R.slots) (h : z_nx (.iastore) x pc len L S q = some t) (k : z_W p l e R s m args below meth c Q s0 D cA n0 u0 t.1 t.2.1 t.2.2.1 t.2.2.2) : z_W p l e R s m args below meth c Q s0 D cA n0 u0 pc L S q := by
  obtain ⟨hx, hb, hml, hown, hnm, hfr, hlo, ⟨hK, h99⟩, hlay, hcst, hno, hw⟩ := C
  simp only [z_oke, Bool.and_eq_true, Bool.or_eq_true, decide_eq_true_eq] at hok
  have hd0 := hok.1.1
  simp only [z_okn, z_swi, z_ln, Bool.false_eq_true, false_or, Bool.and_eq_true, Bool.or_eq_true, decide_eq_true_eq] at hok
  simp only [z_nx] at h
  obtain ⟨⟨hd, hlen⟩, -⟩ := hok
  subst hlen
  split at h
  next v j a r =>
    split at h
    next s' hs =>
      cases h
      obtain ⟨o, ho, ht, hin, rfl⟩ := zi_st hs
      exact zs_iast hx hb hK ho ht hin hd k
    next => cases h
  next => cases h
theorem zn_lastore  (C : z_C p R s m args meth c M D cA) (hLn : L.length = zm_n M) (hok : z_oke M (pc, .lastore, len, x) ps = true) (hn0 : n0 ≤ q.2.1) (hu0 : u0 ≤ q.2.2) (hrc : t.2.2.2.2.1 - n0 ≤ R.cells) (hrs : t.2.2.2.2.2 - u0 ≤ R.slots) (h : z_nx (.lastore) x pc len L S q = some t) (k : z_W p l e R s m args below meth c Q s0 D cA n0 u0 t.1 t.2.1 t.2.2.1 t.2.2.2) : z_W p l e R s m args below meth c Q s0 D cA n0 u0 pc L S q := by
  obtain ⟨hx, hb, hml, hown, hnm, hfr, hlo, ⟨hK, h99⟩, hlay, hcst, hno, hw⟩ := C
  simp only [z_oke, Bool.and_eq_true, Bool.or_eq_true, decide_eq_true_eq] at hok
  have hd0 := hok.1.1
  simp only [z_okn, z_swi, z_ln, Bool.false_eq_true, false_or, Bool.and_eq_true, Bool.or_eq_true, decide_eq_true_eq] at hok
  simp only [z_nx] at h
  obtain ⟨⟨hd, hlen⟩, -⟩ := hok
  subst hlen
  split at h
  next v j a r =>
    split at h
    next s' hs =>
      cases h
      obtain ⟨o, ho, ht, hin, rfl⟩ := zi_st hs
      exact zs_last hx hb hK ho ht hin hd k
    next => cases h
  next => cases h
theorem zn_bastore  (C : z_C p R s m args meth c M D cA) (hLn : L.length = zm_n M) (hok : z_oke M (pc, .bastore, len, x) ps = true) (hn0 : n0 ≤ q.2.1) (hu0 : u0 ≤ q.2.2) (hrc : t.2.2.2.2.1 - n0 ≤ R.cells) (hrs : t.2.2.2.2.2 - u0 ≤ R.slots) (h : z_nx (.bastore) x pc len L S q = some t) (k : z_W p l e R s m args below meth c Q s0 D cA n0 u0 t.1 t.2.1 t.2.2.1 t.2.2.2) : z_W p l e R s m args below meth c Q s0 D cA n0 u0 pc L S q := by
  obtain ⟨hx, hb, hml, hown, hnm, hfr, hlo, ⟨hK, h99⟩, hlay, hcst, hno, hw⟩ := C
  simp only [z_oke, Bool.and_eq_true, Bool.or_eq_true, decide_eq_true_eq] at hok
  have hd0 := hok.1.1
  simp only [z_okn, z_swi, z_ln, Bool.false_eq_true, false_or, Bool.and_eq_true, Bool.or_eq_true, decide_eq_true_eq] at hok
  simp only [z_nx] at h
  obtain ⟨⟨hd, hlen⟩, -⟩ := hok
  subst hlen
  split at h
  next v j a r =>
    split at h
    next s' hs =>
      cases h
      obtain ⟨o, ho, ht, hin, rfl⟩ := zi_st hs
      exact zs_bast hx hb hK ho ht hin hd k
    next => cases h
  next => cases h
theorem zn_aastore  (C : z_C p R s m args meth c M D cA) (hLn : L.length = zm_n M) (hok : z_oke M (pc, .aastore, len, x) ps = true) (hn0 : n0 ≤ q.2.1) (hu0 : u0 ≤ q.2.2) (hrc : t.2.2.2.2.1 - n0 ≤ R.cells) (hrs : t.2.2.2.2.2 - u0 ≤ R.slots) (h : z_nx (.aastore) x pc len L S q = some t) (k : z_W p l e R s m args below meth c Q s0 D cA n0 u0 t.1 t.2.1 t.2.2.1 t.2.2.2) : z_W p l e R s m args below meth c Q s0 D cA n0 u0 pc L S q := by
  obtain ⟨hx, hb, hml, hown, hnm, hfr, hlo, ⟨hK, h99⟩, hlay, hcst, hno, hw⟩ := C
  simp only [z_oke, Bool.and_eq_true, Bool.or_eq_true, decide_eq_true_eq] at hok
  have hd0 := hok.1.1
  simp only [z_okn, z_swi, z_ln, Bool.false_eq_true, false_or, Bool.and_eq_true, Bool.or_eq_true, decide_eq_true_eq] at hok
  simp only [z_nx] at h
  obtain ⟨⟨hd, hlen⟩, -⟩ := hok
  subst hlen
  split at h
  next v j a r =>
    split at h
    next s' hs =>
      cases h
      obtain ⟨o, ho, ht, hmay, hin, rfl⟩ := zi_ast hs
      unfold z_may at hmay
      split at hmay
      next => exact zs_aastN hx hb hK ho ht hin hd k
      next b =>
        split at hmay
        next o2 ho2 =>
          refine zs_aast hx hb hK hcst ho ho2 ?_ hin hd k
          split at hmay
          next h3 => exact Or.inl ⟨h3, of_decide_eq_true hmay⟩
          next h3 => exact Or.inr ⟨ht.resolve_left h3, of_decide_eq_true hmay⟩
        next => cases hmay
      next => cases hmay
    next => cases h
  next => cases h
theorem zn_arraylength  (C : z_C p R s m args meth c M D cA) (hLn : L.length = zm_n M) (hok : z_oke M (pc, .arraylength, len, x) ps = true) (hn0 : n0 ≤ q.2.1) (hu0 : u0 ≤ q.2.2) (hrc : t.2.2.2.2.1 - n0 ≤ R.cells) (hrs : t.2.2.2.2.2 - u0 ≤ R.slots) (h : z_nx (.arraylength) x pc len L S q = some t) (k : z_W p l e R s m args below meth c Q s0 D cA n0 u0 t.1 t.2.1 t.2.2.1 t.2.2.2) : z_W p l e R s m args below meth c Q s0 D cA n0 u0 pc L S q := by
  obtain ⟨hx, hb, hml, hown, hnm, hfr, hlo, ⟨hK, h99⟩, hlay, hcst, hno, hw⟩ := C
  simp only [z_oke, Bool.and_eq_true, Bool.or_eq_true, decide_eq_true_eq] at hok
  have hd0 := hok.1.1
  simp only [z_okn, z_swi, z_ln, Bool.false_eq_true, false_or, Bool.and_eq_true, Bool.or_eq_true, decide_eq_true_eq] at hok
  simp only [z_nx] at h
  obtain ⟨⟨hd, hlen⟩, -⟩ := hok
  subst hlen
  split at h
  next a r =>
    obtain ⟨v, hv, rfl⟩ := zi_psh h
    obtain ⟨o, ho, ht, rfl⟩ := zi_len hv
    exact zs_alen hx hb hK h99 ho ht hd k
  next => cases h
theorem zn_ldc {idx : Nat} (C : z_C p R s m args meth c M D cA) (hLn : L.length = zm_n M) (hok : z_oke M (pc, .ldc idx, len, x) ps = true) (hn0 : n0 ≤ q.2.1) (hu0 : u0 ≤ q.2.2) (hrc : t.2.2.2.2.1 - n0 ≤ R.cells) (hrs : t.2.2.2.2.2 - u0 ≤ R.slots) (h : z_nx (.ldc idx) x pc len L S q = some t) (k : z_W p l e R s m args below meth c Q s0 D cA n0 u0 t.1 t.2.1 t.2.2.1 t.2.2.2) : z_W p l e R s m args below meth c Q s0 D cA n0 u0 pc L S q := by
  obtain ⟨hx, hb, hml, hown, hnm, hfr, hlo, ⟨hK, h99⟩, hlay, hcst, hno, hw⟩ := C
  simp only [z_oke, Bool.and_eq_true, Bool.or_eq_true, decide_eq_true_eq] at hok
  have hd0 := hok.1.1
  simp only [z_okn, z_swi, z_ln, Bool.false_eq_true, false_or, Bool.and_eq_true, Bool.or_eq_true, decide_eq_true_eq] at hok
  simp only [z_nx] at h
  obtain ⟨⟨hd, hlen⟩, h2⟩ := hok
  subst hlen
  split at h
  next he =>
    cases h
    rcases h2 with h2 | h2
    · exact absurd he h2
    · exact zs_ldc hx hb hown (hw _ (z_wd_ok h2).1 (z_wd_ok h2).2) hd k
  next => cases h
theorem zn_ldc2_w {idx : Nat} (C : z_C p R s m args meth c M D cA) (hLn : L.length = zm_n M) (hok : z_oke M (pc, .ldc2_w idx, len, x) ps = true) (hn0 : n0 ≤ q.2.1) (hu0 : u0 ≤ q.2.2) (hrc : t.2.2.2.2.1 - n0 ≤ R.cells) (hrs : t.2.2.2.2.2 - u0 ≤ R.slots) (h : z_nx (.ldc2_w idx) x pc len L S q = some t) (k : z_W p l e R s m args below meth c Q s0 D cA n0 u0 t.1 t.2.1 t.2.2.1 t.2.2.2) : z_W p l e R s m args below meth c Q s0 D cA n0 u0 pc L S q := by
  obtain ⟨hx, hb, hml, hown, hnm, hfr, hlo, ⟨hK, h99⟩, hlay, hcst, hno, hw⟩ := C
  simp only [z_oke, Bool.and_eq_true, Bool.or_eq_true, decide_eq_true_eq] at hok
  have hd0 := hok.1.1
  simp only [z_okn, z_swi, z_ln, Bool.false_eq_true, false_or, Bool.and_eq_true, Bool.or_eq_true, decide_eq_true_eq] at hok
  simp only [z_nx] at h
  obtain ⟨⟨hd, hlen⟩, h2⟩ := hok
  subst hlen
  cases h
  exact zs_ldc2 hx hb hown (hw _ (z_wd_ok h2).1 (z_wd_ok h2).2) hd k
theorem zn_new {idx : Nat} (C : z_C p R s m args meth c M D cA) (hLn : L.length = zm_n M) (hok : z_oke M (pc, .new idx, len, x) ps = true) (hn0 : n0 ≤ q.2.1) (hu0 : u0 ≤ q.2.2) (hrc : t.2.2.2.2.1 - n0 ≤ R.cells) (hrs : t.2.2.2.2.2 - u0 ≤ R.slots) (h : z_nx (.new idx) x pc len L S q = some t) (k : z_W p l e R s m args below meth c Q s0 D cA n0 u0 t.1 t.2.1 t.2.2.1 t.2.2.2) : z_W p l e R s m args below meth c Q s0 D cA n0 u0 pc L S q := by
  obtain ⟨hx, hb, hml, hown, hnm, hfr, hlo, ⟨hK, h99⟩, hlay, hcst, hno, hw⟩ := C
  simp only [z_oke, Bool.and_eq_true, Bool.or_eq_true, decide_eq_true_eq] at hok
  have hd0 := hok.1.1
  simp only [z_okn, z_swi, z_ln, Bool.false_eq_true, false_or, Bool.and_eq_true, Bool.or_eq_true, decide_eq_true_eq] at hok
  simp only [z_nx] at h
  obtain ⟨⟨hd, hlen⟩, h2⟩ := hok
  subst hlen
  split at h
  next h90 =>
    rcases h2 with h2 | h2
    · omega
    · split at h
      next rr hr =>
        rw [hr] at h2
        simp only [Bool.and_eq_true] at h2
        obtain ⟨⟨g1, g2⟩, g3⟩ := h2
        cases h
        exact zs_new hx hb hown hK hlay h90 hr (hw _ (z_wd_ok g1).1 (z_wd_ok g1).2) (hw _ (z_wd_ok g2).1 (z_wd_ok g2).2) (hw _ (z_wd_ok g3).1 (z_wd_ok g3).2) hn0 hu0 hrc hrs hd k
      next => cases h
  next => cases h
theorem zn_newarray {ty : ArrayType} (C : z_C p R s m args meth c M D cA) (hLn : L.length = zm_n M) (hok : z_oke M (pc, .newarray ty, len, x) ps = true) (hn0 : n0 ≤ q.2.1) (hu0 : u0 ≤ q.2.2) (hrc : t.2.2.2.2.1 - n0 ≤ R.cells) (hrs : t.2.2.2.2.2 - u0 ≤ R.slots) (h : z_nx (.newarray ty) x pc len L S q = some t) (k : z_W p l e R s m args below meth c Q s0 D cA n0 u0 t.1 t.2.1 t.2.2.1 t.2.2.2) : z_W p l e R s m args below meth c Q s0 D cA n0 u0 pc L S q := by
  obtain ⟨hx, hb, hml, hown, hnm, hfr, hlo, ⟨hK, h99⟩, hlay, hcst, hno, hw⟩ := C
  simp only [z_oke, Bool.and_eq_true, Bool.or_eq_true, decide_eq_true_eq] at hok
  have hd0 := hok.1.1
  simp only [z_okn, z_swi, z_ln, Bool.false_eq_true, false_or, Bool.and_eq_true, Bool.or_eq_true, decide_eq_true_eq] at hok
  simp only [z_nx] at h
  obtain ⟨⟨hd, hlen⟩, h2⟩ := hok
  subst hlen
  split at h
  next w hw2 =>
    obtain ⟨n, r, rfl, g1, g2, rfl⟩ := zi_nwa h
    exact zs_newa hx hb hK hw2 (hw _ (z_wd_ok h2).1 (z_wd_ok h2).2) g1 g2 hn0 hu0 hrc hrs hd k
  next => cases h
theorem zn_anewarray {idx : Nat} (C : z_C p R s m args meth c M D cA) (hLn : L.length = zm_n M) (hok : z_oke M (pc, .anewarray idx, len, x) ps = true) (hn0 : n0 ≤ q.2.1) (hu0 : u0 ≤ q.2.2) (hrc : t.2.2.2.2.1 - n0 ≤ R.cells) (hrs : t.2.2.2.2.2 - u0 ≤ R.slots) (h : z_nx (.anewarray idx) x pc len L S q = some t) (k : z_W p l e R s m args below meth c Q s0 D cA n0 u0 t.1 t.2.1 t.2.2.1 t.2.2.2) : z_W p l e R s m args below meth c Q s0 D cA n0 u0 pc L S q := by
  obtain ⟨hx, hb, hml, hown, hnm, hfr, hlo, ⟨hK, h99⟩, hlay, hcst, hno, hw⟩ := C
  simp only [z_oke, Bool.and_eq_true, Bool.or_eq_true, decide_eq_true_eq] at hok
  have hd0 := hok.1.1
  simp only [z_okn, z_swi, z_ln, Bool.false_eq_true, false_or, Bool.and_eq_true, Bool.or_eq_true, decide_eq_true_eq] at hok
  simp only [z_nx] at h
  obtain ⟨⟨hd, hlen⟩, h2⟩ := hok
  subst hlen
  split at h
  next ht =>
    obtain ⟨n, r, rfl, g1, g2, rfl⟩ := zi_nwa h
    split at h2
    next C hC =>
      simp only [Bool.and_eq_true] at h2
      exact zs_anew hx hb hown hK ht hC (hw _ (z_wd_ok h2.1).1 (z_wd_ok h2.1).2) (hw _ (z_wd_ok h2.2).1 (z_wd_ok h2.2).2) g1 g2 hn0 hu0 hrc hrs hd k
    next => cases h2
  next => cases h
theorem zn_checkcast {idx : Nat} (C : z_C p R s m args meth c M D cA) (hLn : L.length = zm_n M) (hok : z_oke M (pc, .checkcast idx, len, x) ps = true) (hn0 : n0 ≤ q.2.1) (hu0 : u0 ≤ q.2.2) (hrc : t.2.2.2.2.1 - n0 ≤ R.cells) (hrs : t.2.2.2.2.2 - u0 ≤ R.slots) (h : z_nx (.checkcast idx) x pc len L S q = some t) (k : z_W p l e R s m args below meth c Q s0 D cA n0 u0 t.1 t.2.1 t.2.2.1 t.2.2.2) : z_W p l e R s m args below meth c Q s0 D cA n0 u0 pc L S q := by
  obtain ⟨hx, hb, hml, hown, hnm, hfr, hlo, ⟨hK, h99⟩, hlay, hcst, hno, hw⟩ := C
  simp only [z_oke, Bool.and_eq_true, Bool.or_eq_true, decide_eq_true_eq] at hok
  have hd0 := hok.1.1
  simp only [z_okn, z_swi, z_ln, Bool.false_eq_true, false_or, Bool.and_eq_true, Bool.or_eq_true, decide_eq_true_eq] at hok
  simp only [z_nx] at h
  obtain ⟨⟨hd, hlen⟩, h2, h3⟩ := hok
  subst hlen
  split at h3
  next rr hr =>
    split at h
    next a r =>
      split at h
      next o ho =>
        split at h
        next hc =>
          cases h
          have h90 : o.1 < 90 := by
            have := hc.2
            simp [zth] at this
            omega
          exact zs_castY hx hb hown hK ho h90 (by rw [hc.1]; exact hr) (hw _ (z_wd_ok h3).1 (z_wd_ok h3).2) hd k
        next => cases h
      next => cases h
    next => cases h; exact zs_castN hx hb hd k
    next => cases h
  next => cases h3
theorem zn_instanceof {idx : Nat} (C : z_C p R s m args meth c M D cA) (hLn : L.length = zm_n M) (hok : z_oke M (pc, .instanceof idx, len, x) ps = true) (hn0 : n0 ≤ q.2.1) (hu0 : u0 ≤ q.2.2) (hrc : t.2.2.2.2.1 - n0 ≤ R.cells) (hrs : t.2.2.2.2.2 - u0 ≤ R.slots) (h : z_nx (.instanceof idx) x pc len L S q = some t) (k : z_W p l e R s m args below meth c Q s0 D cA n0 u0 t.1 t.2.1 t.2.2.1 t.2.2.2) : z_W p l e R s m args below meth c Q s0 D cA n0 u0 pc L S q := by
  obtain ⟨hx, hb, hml, hown, hnm, hfr, hlo, ⟨hK, h99⟩, hlay, hcst, hno, hw⟩ := C
  simp only [z_oke, Bool.and_eq_true, Bool.or_eq_true, decide_eq_true_eq] at hok
  have hd0 := hok.1.1
  simp only [z_okn, z_swi, z_ln, Bool.false_eq_true, false_or, Bool.and_eq_true, Bool.or_eq_true, decide_eq_true_eq] at hok
  simp only [z_nx] at h
  obtain ⟨⟨hd, hlen⟩, h2, h3⟩ := hok
  subst hlen
  split at h3
  next rr hr =>
    split at h
    next a r =>
      split at h
      next o ho =>
        split at h
        next hc =>
          cases h
          have h90 : o.1 < 90 := by
            have := hc
            simp [zth] at this
            omega
          by_cases ho1 : o.1 = x.1
          · rw [if_pos ho1] at k
            exact zs_instY hx hb hown hK ho h90 (by rw [ho1]; exact hr) (hw _ (z_wd_ok h3).1 (z_wd_ok h3).2) hd k
          · rw [if_neg ho1] at k
            obtain ⟨r1, hr1⟩ : ∃ r1, zcl[o.1]? = some r1 := by
              have h9 : o.1 < zcl.length := by
                have := hc
                simp [zth] at this
                simp [zcl]
                omega
              exact ⟨_, List.getElem?_eq_getElem h9⟩
            exact zs_instNo hx hb hown hK ho h90 hr1 (hw _ (z_wd_ok h3).1 (z_wd_ok h3).2) (hno o.1 hc x.1 h2 ho1 r1 rr hr1 hr) hd k
        next => cases h
      next => cases h
    next => cases h; exact zs_instN hx hb hd k
    next => cases h
  next => cases h3
theorem zn_invokespecial {idx : Nat} (C : z_C p R s m args meth c M D cA) (hLn : L.length = zm_n M) (hok : z_oke M (pc, .invokespecial idx, len, x) ps = true) (hn0 : n0 ≤ q.2.1) (hu0 : u0 ≤ q.2.2) (hrc : t.2.2.2.2.1 - n0 ≤ R.cells) (hrs : t.2.2.2.2.2 - u0 ≤ R.slots) (h : z_nx (.invokespecial idx) x pc len L S q = some t) (k : z_W p l e R s m args below meth c Q s0 D cA n0 u0 t.1 t.2.1 t.2.2.1 t.2.2.2) : z_W p l e R s m args below meth c Q s0 D cA n0 u0 pc L S q := by
  obtain ⟨hx, hb, hml, hown, hnm, hfr, hlo, ⟨hK, h99⟩, hlay, hcst, hno, hw⟩ := C
  simp only [z_oke, Bool.and_eq_true, Bool.or_eq_true, decide_eq_true_eq] at hok
  have hd0 := hok.1.1
  simp only [z_okn, z_swi, z_ln, Bool.false_eq_true, false_or, Bool.and_eq_true, Bool.or_eq_true, decide_eq_true_eq] at hok
  simp only [z_nx] at h
  obtain ⟨⟨hd, hlen⟩, h2⟩ := hok
  subst hlen
  split at h
  next h7 =>
    rcases h2 with h2 | ⟨⟨⟨⟨g1, g2⟩, g3⟩, g4⟩, g5⟩
    · exact absurd h7 h2
    · split at h
      next a r =>
        split at h
        next hwb =>
          cases h
          exact zs_obj hx hb hown (hLn.trans hml.symm) (hw _ (z_wd_ok g1).1 (z_wd_ok g1).2) (hw _ (z_wd_ok g2).1 (z_wd_ok g2).2) (hw _ (z_wd_ok g3).1 (z_wd_ok g3).2) hwb (Nat.le_trans g4 hfr) (Nat.le_trans g5 hlo) hd k
        next => cases h
      next => cases h
  next => cases h
theorem zn_invokestatic {idx : Nat} (C : z_C p R s m args meth c M D cA) (hLn : L.length = zm_n M) (hok : z_oke M (pc, .invokestatic idx, len, x) ps = true) (hn0 : n0 ≤ q.2.1) (hu0 : u0 ≤ q.2.2) (hrc : t.2.2.2.2.1 - n0 ≤ R.cells) (hrs : t.2.2.2.2.2 - u0 ≤ R.slots) (h : z_nx (.invokestatic idx) x pc len L S q = some t) (k : z_W p l e R s m args below meth c Q s0 D cA n0 u0 t.1 t.2.1 t.2.2.1 t.2.2.2) : z_W p l e R s m args below meth c Q s0 D cA n0 u0 pc L S q := by
  obtain ⟨hx, hb, hml, hown, hnm, hfr, hlo, ⟨hK, h99⟩, hlay, hcst, hno, hw⟩ := C
  simp only [z_oke, Bool.and_eq_true, Bool.or_eq_true, decide_eq_true_eq] at hok
  have hd0 := hok.1.1
  simp only [z_okn, z_swi, z_ln, Bool.false_eq_true, false_or, Bool.and_eq_true, Bool.or_eq_true, decide_eq_true_eq] at hok
  simp only [z_nx] at h
  obtain ⟨⟨hd, hlen⟩, h2⟩ := hok
  subst hlen
  split at h
  next h8 =>
    rcases h2 with h2 | ⟨⟨⟨⟨⟨g1, g2⟩, g3⟩, g4⟩, g5⟩, g6⟩
    · exact absurd h8 h2
    · split at h
      next n dp a1 sp a0 r =>
        split at h
        next hwb =>
          split at h
          next s' hs =>
            cases h
            exact zs_cpy hx hb hown (hLn.trans hml.symm) hK (hw _ (z_wd_ok g1).1 (z_wd_ok g1).2) (hw _ (z_wd_ok g2).1 (z_wd_ok g2).2) (hw _ (z_wd_ok g3).1 (z_wd_ok g3).2) (hw _ (z_wd_ok g4).1 (z_wd_ok g4).2) hs hwb (Nat.le_trans g5 hfr) (Nat.le_trans g6 hlo) hd k
          next => cases h
        next => cases h
      next => cases h
  next => cases h
/-- what the little machine does within a frame, the machine does -/
theorem z_next {i : Instr} (C : z_C p R s m args meth c M D cA) (hLn : L.length = zm_n M) (hok : z_oke M (pc, i, len, x) ps = true) (hn0 : n0 ≤ q.2.1) (hu0 : u0 ≤ q.2.2) (hrc : t.2.2.2.2.1 - n0 ≤ R.cells) (hrs : t.2.2.2.2.2 - u0 ≤ R.slots) (h : z_nx i x pc len L S q = some t) (k : z_W p l e R s m args below meth c Q s0 D cA n0 u0 t.1 t.2.1 t.2.2.1 t.2.2.2) : z_W p l e R s m args below meth c Q s0 D cA n0 u0 pc L S q := by
  cases i with
  | iconst n => exact zn_iconst C hLn hok hn0 hu0 hrc hrs h k
  | bipush n => exact zn_bipush C hLn hok hn0 hu0 hrc hrs h k
  | sipush n => exact zn_sipush C hLn hok hn0 hu0 hrc hrs h k
  | lconst n => exact zn_lconst C hLn hok hn0 hu0 hrc hrs h k
  | aconst_null => exact zn_null C hLn hok hn0 hu0 hrc hrs h k
  | iload_n j => exact zn_iload_n C hLn hok hn0 hu0 hrc hrs h k
  | iload j => exact zn_iload C hLn hok hn0 hu0 hrc hrs h k
  | lload_n j => exact zn_lload_n C hLn hok hn0 hu0 hrc hrs h k
  | lload j => exact zn_lload C hLn hok hn0 hu0 hrc hrs h k
  | aload_n j => exact zn_aload_n C hLn hok hn0 hu0 hrc hrs h k
  | aload j => exact zn_aload C hLn hok hn0 hu0 hrc hrs h k
  | istore_n j => exact zn_istore_n C hLn hok hn0 hu0 hrc hrs h k
  | istore j => exact zn_istore C hLn hok hn0 hu0 hrc hrs h k
  | lstore_n j => exact zn_lstore_n C hLn hok hn0 hu0 hrc hrs h k
  | lstore j => exact zn_lstore C hLn hok hn0 hu0 hrc hrs h k
  | astore_n j => exact zn_astore_n C hLn hok hn0 hu0 hrc hrs h k
  | astore j => exact zn_astore C hLn hok hn0 hu0 hrc hrs h k
  | iinc j n => exact zn_iinc C hLn hok hn0 hu0 hrc hrs h k
  | iadd => exact zn_iadd C hLn hok hn0 hu0 hrc hrs h k
  | isub => exact zn_isub C hLn hok hn0 hu0 hrc hrs h k
  | imul => exact zn_imul C hLn hok hn0 hu0 hrc hrs h k
  | iand => exact zn_iand C hLn hok hn0 hu0 hrc hrs h k
  | ixor => exact zn_ixor C hLn hok hn0 hu0 hrc hrs h k
  | ladd => exact zn_ladd C hLn hok hn0 hu0 hrc hrs h k
  | lsub => exact zn_lsub C hLn hok hn0 hu0 hrc hrs h k
  | lmul => exact zn_lmul C hLn hok hn0 hu0 hrc hrs h k
  | land => exact zn_land C hLn hok hn0 hu0 hrc hrs h k
  | lxor => exact zn_lxor C hLn hok hn0 hu0 hrc hrs h k
  | lshl => exact zn_lshl C hLn hok hn0 hu0 hrc hrs h k
  | lushr => exact zn_lushr C hLn hok hn0 hu0 hrc hrs h k
  | irem => exact zn_irem C hLn hok hn0 hu0 hrc hrs h k
  | lrem => exact zn_lrem C hLn hok hn0 hu0 hrc hrs h k
  | i2l => exact zn_i2l C hLn hok hn0 hu0 hrc hrs h k
  | l2i => exact zn_l2i C hLn hok hn0 hu0 hrc hrs h k
  | lcmp => exact zn_lcmp C hLn hok hn0 hu0 hrc hrs h k
  | dup => exact zn_dup C hLn hok hn0 hu0 hrc hrs h k
  | pop => exact zn_pop C hLn hok hn0 hu0 hrc hrs h k
  | dup2 => exact zn_dup2 C hLn hok hn0 hu0 hrc hrs h k
  | ifCond cn o => exact zn_ifCond C hLn hok hn0 hu0 hrc hrs h k
  | if_icmp cn o => exact zn_if_icmp C hLn hok hn0 hu0 hrc hrs h k
  | if_acmp cn o => exact zn_if_acmp C hLn hok hn0 hu0 hrc hrs h k
  | ifnull o => exact zn_ifnull C hLn hok hn0 hu0 hrc hrs h k
  | ifnonnull o => exact zn_ifnonnull C hLn hok hn0 hu0 hrc hrs h k
  | goto o => exact zn_goto C hLn hok hn0 hu0 hrc hrs h k
  | tableswitch d lo hi os => exact zn_tableswitch C hLn hok hn0 hu0 hrc hrs h k
  | getfield idx => exact zn_getfield C hLn hok hn0 hu0 hrc hrs h k
  | putfield idx => exact zn_putfield C hLn hok hn0 hu0 hrc hrs h k
  | iaload => exact zn_iaload C hLn hok hn0 hu0 hrc hrs h k
  | laload => exact zn_laload C hLn hok hn0 hu0 hrc hrs h k
  | baload => exact zn_baload C hLn hok hn0 hu0 hrc hrs h k
  | aaload => exact zn_aaload C hLn hok hn0 hu0 hrc hrs h k
  | iastore => exact zn_iastore C hLn hok hn0 hu0 hrc hrs h k
  | lastore => exact zn_lastore C hLn hok hn0 hu0 hrc hrs h k
  | bastore => exact zn_bastore C hLn hok hn0 hu0 hrc hrs h k
  | aastore => exact zn_aastore C hLn hok hn0 hu0 hrc hrs h k
  | arraylength => exact zn_arraylength C hLn hok hn0 hu0 hrc hrs h k
  | ldc idx => exact zn_ldc C hLn hok hn0 hu0 hrc hrs h k
  | ldc2_w idx => exact zn_ldc2_w C hLn hok hn0 hu0 hrc hrs h k
  | new idx => exact zn_new C hLn hok hn0 hu0 hrc hrs h k
  | newarray ty => exact zn_newarray C hLn hok hn0 hu0 hrc hrs h k
  | anewarray idx => exact zn_anewarray C hLn hok hn0 hu0 hrc hrs h k
  | checkcast idx => exact zn_checkcast C hLn hok hn0 hu0 hrc hrs h k
  | instanceof idx => exact zn_instanceof C hLn hok hn0 hu0 hrc hrs h k
  | invokespecial idx => exact zn_invokespecial C hLn hok hn0 hu0 hrc hrs h k
  | invokestatic idx => exact zn_invokestatic C hLn hok hn0 hu0 hrc hrs h k
  | _ => exact absurd h (by simp [z_nx])
/-- locals keep their number -/
theorem z_nx_len {i : Instr} (h : z_nx i x pc len L S q = some t) : t.2.1.length = L.length ∧ q.2.1 ≤ t.2.2.2.2.1 ∧ q.2.2 ≤ t.2.2.2.2.2 := by
  have up : ∀ (pc : Nat) (S : List Value) (v : Option Value), z_psh pc L S q v = some t → t.2.1.length = L.length ∧ q.2.1 ≤ t.2.2.2.2.1 ∧ q.2.2 ≤ t.2.2.2.2.2 := by
    intro pc S v h
    obtain ⟨w, -, rfl⟩ := zi_psh h
    exact ⟨rfl, Nat.le_refl _, Nat.le_refl _⟩
  have to : ∀ (o : Int) (S : List Value), z_to pc o L S q = some t → t.2.1.length = L.length ∧ q.2.1 ≤ t.2.2.2.2.1 ∧ q.2.2 ≤ t.2.2.2.2.2 := by
    intro o S h
    obtain ⟨-, e2⟩ := zs_to h
    rw [e2]
    exact ⟨rfl, Nat.le_refl _, Nat.le_refl _⟩
  have br : ∀ (b : Bool) (o : Int) (S : List Value), z_br b pc len o L S q = some t → t.2.1.length = L.length ∧ q.2.1 ≤ t.2.2.2.2.1 ∧ q.2.2 ≤ t.2.2.2.2.2 := by
    intro b o S h
    obtain ⟨-, e2⟩ := zs_br h
    rw [e2]
    exact ⟨rfl, Nat.le_refl _, Nat.le_refl _⟩
  have nw : ∀ (tag b : Nat) (d : Value) (pc : Nat), z_nwa tag d b pc L S q = some t → t.2.1.length = L.length ∧ q.2.1 ≤ t.2.2.2.2.1 ∧ q.2.2 ≤ t.2.2.2.2.2 := by
    intro tag b d pc h
    obtain ⟨n, r, -, -, -, rfl⟩ := zi_nwa h
    exact ⟨rfl, Nat.le_add_right _ _, Nat.le_add_right _ _⟩
  have st : ∀ (tag a : Nat) (i : Int32) (v : Value) (s' : zS), z_st tag q a i v = some s' → q.2.1 ≤ s'.2.1 ∧ q.2.2 ≤ s'.2.2 := by
    intro tag a i v s' h
    obtain ⟨o, -, -, -, rfl⟩ := zi_st h
    exact ⟨Nat.le_refl _, Nat.le_refl _⟩
  unfold z_nx at h
  split at h
  all_goals first
    | (cases h; exact ⟨rfl, Nat.le_refl _, Nat.le_refl _⟩)
    | exact up _ _ _ h
    | exact to _ _ h
    | exact br _ _ _ h
    | exact nw _ _ _ _ h
    | (obtain ⟨v, r, -, -, rfl⟩ := zi_sti h; exact ⟨z_set1_len _ _ _, Nat.le_refl _, Nat.le_refl _⟩)
    | (obtain ⟨v, r, -, -, rfl⟩ := zi_stl h; exact ⟨z_set2_len _ _ _, Nat.le_refl _, Nat.le_refl _⟩)
    | (rcases zi_sta h with ⟨v, r, -, -, rfl⟩ | ⟨r, -, -, rfl⟩ <;> exact ⟨z_set1_len _ _ _, Nat.le_refl _, Nat.le_refl _⟩)
    | (obtain ⟨x9, y9, r, -, rfl⟩ := zi_bi h; exact ⟨rfl, Nat.le_refl _, Nat.le_refl _⟩)
    | (obtain ⟨x9, y9, r, -, rfl⟩ := zi_bl h; exact ⟨rfl, Nat.le_refl _, Nat.le_refl _⟩)
    | (obtain ⟨x9, y9, r, -, rfl⟩ := zi_sl h; exact ⟨rfl, Nat.le_refl _, Nat.le_refl _⟩)
    | skip
  all_goals (repeat' (split at h))
  all_goals first
    | (cases h; done)
    | exact up _ _ _ h
    | exact to _ _ h
    | exact br _ _ _ h
    | exact nw _ _ _ _ h
    | (cases h; exact ⟨z_set1_len _ _ _, Nat.le_refl _, Nat.le_refl _⟩)
    | (cases h; exact ⟨rfl, Nat.le_refl _, Nat.le_refl _⟩)
    | (cases h; exact ⟨rfl, Nat.le_add_right _ _, Nat.le_add_right _ _⟩)
    | (rename_i hs; cases h; obtain ⟨o, -, -, -, -, rfl⟩ := zi_put hs; exact ⟨rfl, Nat.le_refl _, Nat.le_refl _⟩)
    | (rename_i hs; cases h; obtain ⟨o, -, -, -, rfl⟩ := zi_st hs; exact ⟨rfl, Nat.le_refl _, Nat.le_refl _⟩)
    | (rename_i hs; cases h; obtain ⟨o, -, -, -, -, rfl⟩ := zi_ast hs; exact ⟨rfl, Nat.le_refl _, Nat.le_refl _⟩)
    | (rename_i hs; cases h; unfold z_cpy at hs; repeat' (split at hs)
       all_goals first | (cases hs; done) | (cases hs; exact ⟨rfl, Nat.le_refl _, Nat.le_refl _⟩))
end ZX
