/-! Catching by name where the table's rows are not resolved yet: each row that covers the place is linked on the way. -/
section ZC
/-- a row that names a class that is linked: taken, or passed by -/
theorem zc_link {e : Env} {f : JFrame} {a : Addr} {Q : Handler → Pre} {E : CtlPost} {d : Bool} {acts : List Action} {s : State} {x : ExceptionTableEntry} {t : List ExceptionTableEntry} {c : ClassId} {cell : Cell} (hx : covers x f.pc = true) (h0 : x.catchType ≠ 0)
    (hl : s.vm.ClassLinks e.platform f.method.cls x.catchType c) (hcell : s.heap[a]? = some cell) (hobj : ∀ k, cell.vm ≠ .statics k) (hk : ∃ k, s.vm.classes[cell.cls]? = some k) (hc : ∃ k, s.vm.classes[c]? = some k) :
    wp (findHandler.go f a (x :: t)) Q E e d acts s ↔ (if s.vm.assignable cell.cls c = true then Q (.found x.handlerPc) d acts (s.setVm (s.vm.noted f.method.cls x.catchType (.cls c)))
      else wp (findHandler.go f a t) Q E e d acts (s.setVm (s.vm.noted f.method.cls x.catchType (.cls c)))) := by
  have hal : s.vm.Alike (s.vm.noted f.method.cls x.catchType (.cls c)) := (Vm.Alike.refl s.vm).noted _ _ _
  obtain ⟨g1, g2⟩ := (resolveClass_links e.toSetting hl).op (op := VmOp.resolveClass f.method.cls x.catchType) rfl
  obtain ⟨k1, e1⟩ := hk
  obtain ⟨k2, e2⟩ := hc
  obtain ⟨k1', e1', -⟩ := hal.2.2 _ _ e1
  obtain ⟨k2', e2', -⟩ := hal.2.2 _ _ e2
  simp only [covers] at hx
  by_cases ha : s.vm.assignable cell.cls c = true
  · have hb : (s.vm.noted f.method.cls x.catchType (.cls c)).assignable cell.cls c = true := by rw [hal.assignable]; exact ha
    rw [if_pos ha]
    simp [findHandler.go, hx, h0, g1, g2, hcell, hobj, e1', e2', hb, VmOp.dirties, VmOp.acts]
  · have hb : (s.vm.noted f.method.cls x.catchType (.cls c)).assignable cell.cls c = false := by rw [hal.assignable]; simpa using ha
    rw [if_neg ha]
    simp [findHandler.go, hx, h0, g1, g2, hcell, hobj, e1', e2', hb, VmOp.dirties, VmOp.acts]
/-- a row that doesn't take an object of the class k at pc -/
def zc_past (pl : Platform) (s : State) (d : ClassId) (pc : Nat) (k : ClassId) (x : ExceptionTableEntry) : Prop :=
  covers x pc = false ∨ (x.catchType ≠ 0 ∧ ∃ c, s.vm.ClassLinks pl d x.catchType c ∧ s.vm.assignable k c = false)
theorem zc_find {e : Env} {s : State} {f : JFrame} {a : Addr} {cell : Cell} (hobj : ∀ k, cell.vm ≠ .statics k) (hk : ∃ k, s.vm.classes[cell.cls]? = some k) (x : ExceptionTableEntry) (suf : List ExceptionTableEntry) (hx : covers x f.pc = true)
    (h0 : x.catchType ≠ 0) {c : ClassId} (hl : s.vm.ClassLinks e.platform f.method.cls x.catchType c) (ha : s.vm.assignable cell.cls c = true) :
    ∀ (pre : List ExceptionTableEntry) (U : State), s.WarmedH U.vm → U.heap[a]? = some cell → (∀ z ∈ pre, zc_past e.platform s f.method.cls f.pc cell.cls z) →
      ∃ vm', s.WarmedH vm' ∧ ∀ (Q : Handler → Pre) (E : CtlPost) (d : Bool) (acts : List Action), wp (findHandler.go f a (pre ++ x :: suf)) Q E e d acts U ↔ Q (.found x.handlerPc) d acts (U.setVm vm') := by
  obtain ⟨k0, hk0⟩ := hk
  have note : ∀ (z : ExceptionTableEntry) (c : ClassId) (U : State), s.WarmedH U.vm → s.vm.ClassLinks e.platform f.method.cls z.catchType c → s.WarmedH (U.vm.noted f.method.cls z.catchType (.cls c)) ∧ U.vm.ClassLinks e.platform f.method.cls z.catchType c ∧ ∃ k, U.vm.classes[c]? = some k := by
    intro z c U hW hz
    obtain ⟨dk, _, _, kt, hd, _, _, _, _, hkt, _, hopen⟩ := hz.here
    obtain ⟨kt', hkt', -⟩ := hW.alike.2.2 _ _ hkt
    exact ⟨hW.noted hd hopen (State.rightAt_cls hz), hW.classLinks hz, kt', hkt'⟩
  intro pre
  induction pre with
  | nil =>
    intro U hW hcell _
    obtain ⟨k0', hk0', -⟩ := hW.alike.2.2 _ _ hk0
    obtain ⟨n1, n2, n3⟩ := note x c U hW hl
    refine ⟨_, n1, fun Q E d acts => ?_⟩
    rw [List.nil_append, zc_link hx h0 n2 hcell hobj ⟨k0', hk0'⟩ n3, if_pos (by rw [hW.alike.assignable]; exact ha)]
  | cons z zs ih =>
    intro U hW hcell hp
    obtain ⟨k0', hk0', -⟩ := hW.alike.2.2 _ _ hk0
    have hp' : ∀ y ∈ zs, zc_past e.platform s f.method.cls f.pc cell.cls y := fun y hy => hp y (List.mem_cons_of_mem _ hy)
    cases hcov : covers z f.pc with
    | false =>
      obtain ⟨vm', w1, w2⟩ := ih U hW hcell hp'
      refine ⟨vm', w1, fun Q E d acts => ?_⟩
      rw [List.cons_append, Jvm.W.findHandler_go_skip hcov]
      exact w2 Q E d acts
    | true =>
      rcases hp z List.mem_cons_self with h | ⟨z0, cz, hz, hno⟩
      · rw [hcov] at h; cases h
      · obtain ⟨n1, n2, n3⟩ := note z cz U hW hz
        obtain ⟨vm', w1, w2⟩ := ih (U.setVm (U.vm.noted f.method.cls z.catchType (.cls cz))) n1 hcell hp'
        refine ⟨vm', w1, fun Q E d acts => ?_⟩
        rw [List.cons_append, zc_link hcov z0 n2 hcell hobj ⟨k0', hk0'⟩ n3, if_neg (by rw [hW.alike.assignable, hno]; decide)]
        exact w2 Q E d acts
theorem zc_frames (u : State) (w : Vm) (F G : List Frame) : ((u.setFrames F).setVm w).setFrames G = (u.setVm w).setFrames G := by
  rw [show (u.setFrames F).setVm w = (u.setVm w).setFrames F from rfl, State.setFrames_setFrames]
variable {p : Program} {l : Launch} {e : Env} {R : Room} {s : State} {m : MethodId} {args : Array Value} {below : List Frame} {meth : Method} {c : Code} {T : State} {locs : List Loc} {cells slots : Nat}
theorem zc_caught (X : Stand p l e R s m args below meth c T locs cells slots) (a : Addr) {g : JFrame} (hg : g.method = m) {cell : Cell} (hcell : T.heap[a]? = some cell) (hobj : ∀ k, cell.vm ≠ .statics k) (hk : ∃ k, s.vm.classes[cell.cls]? = some k)
    (pre : List ExceptionTableEntry) (x : ExceptionTableEntry) (suf : List ExceptionTableEntry) (hsplit : c.exceptionTable.toList = pre ++ x :: suf) (hpast : ∀ z ∈ pre, zc_past e.platform s m.cls g.pc cell.cls z) (hx : covers x g.pc = true) (h0 : x.catchType ≠ 0)
    {cT : ClassId} (hl : s.vm.ClassLinks e.platform m.cls x.catchType cT) (ha : s.vm.assignable cell.cls cT = true) :
    ∃ vm', Stand p l e R s m args below meth c (T.setVm vm') locs cells slots ∧ Steps p.tables e below ((T.setTop g).pushFrame (.throwing a)) ((T.setVm vm').setTop { g with pc := x.handlerPc, stack := [.ref a] }) := by
  subst hg
  obtain ⟨vm', hW', hq⟩ := zc_find (e := e) (f := g) (a := a) hobj hk x suf hx h0 hl ha pre ((T.setTop g).pushFrame (.throwing a)) X.warmed hcell hpast
  refine ⟨vm', X.noted hW', ?_⟩
  have h : At T g.method c below := X.here
  obtain ⟨hgo, hw⟩ := h.throwing a
  refine Steps.head hgo hw ?_
  have hst : (stepThrowing e ((T.setTop g).pushFrame (.throwing a)) a (.java g :: T.frames.tail)).Is ((((T.setTop g).pushFrame (.throwing a)).setVm vm').setFrames (.java { g with pc := x.handlerPc, stack := [.ref a] } :: T.frames.tail)) [] := by
    simp only [stepThrowing, searchFrame, vmDo]
    generalize hr : Sem.go _ e false [] ((T.setTop g).pushFrame (.throwing a)) = res
    have hf : ∀ (Q : Handler → Pre) (E : CtlPost) (d : Bool) (acts : List Action), wp (findHandler g a) Q E e d acts ((T.setTop g).pushFrame (.throwing a)) ↔ Q (.found x.handlerPc) d acts (((T.setTop g).pushFrame (.throwing a)).setVm vm') := fun Q E d acts => by
      rw [Jvm.W.findHandler_eq (s := (T.setTop g).pushFrame (.throwing a)) (f := g) (meth := meth) (code := c) X.method' X.code, hsplit]
      exact hq Q E d acts
    obtain ⟨as, rfl, h9⟩ := Sem.eq_ok_of hr (a := Handler.found x.handlerPc) (s' := ((T.setTop g).pushFrame (.throwing a)).setVm vm') (acts' := []) (by simp [hf _ _ _ _])
    exact ⟨rfl, h9⟩
  rw [stepThread_throwing (frames_entered h.top _), hst.1]
  obtain ⟨g₀, hg0⟩ := Option.isSome_iff_exists.mp h.top
  obtain ⟨r, hr⟩ := State.topJava?_eq_some.mp hg0
  have hr' : (T.setVm vm').frames = .java g₀ :: r := hr
  rw [hr, List.tail_cons, State.pushFrame, zc_frames, State.setTop_of_frames _ hr, zc_frames, State.setTop_of_frames _ hr']
  exact Steps.refl _
end ZC
