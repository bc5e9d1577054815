/-! ANSWERS, THROWS, CALLS: what is checked, what they need -/
theorem zex_fit (i : Nat) : Bundle.fit (zex i) = true := by
  match i with
  | 0 => decide +kernel
  | 1 => decide +kernel
  | 2 => decide +kernel
  | i + 3 => exact (by decide +kernel : Bundle.fit "java/lang/IndexOutOfBoundsException" = true)
def z_F (l : Launch) (s0 : State) (a0 : Array Value) (D : va_G) (cA : Nat → ClassId) : Prop :=
  l.stackTraces = false ∧ (∀ w ∈ lw_tbl, w.before a0 s0 = true) ∧ (va_K D zcl (z_tys cA) s0 ∧ ArrOfT s0 (cA 99) .int) ∧
  (∀ i ∈ zth, ∀ j ∈ zth, i ≠ j → ∀ r1 r2 : vw_C, zcl[i]? = some r1 → zcl[j]? = some r2 → va_Nc r1.1 r2.1 s0) ∧
  (∀ i j : Nat, i < 4 → j < 4 → i ≠ j → va_Nc (zex i) (zex j) s0) ∧
  vx_Zq Bundle.tN "UNASSIGNED_STACK" Bundle.steD (z_free s0) s0 s0.heap ∧ vx_Zq Bundle.tN "SUPPRESSED_SENTINEL" Bundle.listD (z_free s0) s0 s0.heap ∧
  (∀ (own : String) (k : Nat) (text : String), Jvm.Cond.stringRef own k text ∈ lw_tbl → ∃ sa, vk_R own k text sa s0)
abbrev z_names : List String := ["java/lang/RuntimeException", "java/lang/Exception"]
/-- the words of a throw: of the class own, by its entries ik (class) and ic (constructor), of the exception e -/
def z_thw (q : String × Nat × Nat × Nat) : List Jvm.Cond := Jvm.Cond.classLink q.1 q.2.1 (zex q.2.2.2) :: Jvm.Cond.initialized (zex q.2.2.2) :: vx_atS q.1 q.2.2.1 (zex q.2.2.2) z_names
/-- what the tables say once for all methods -/
def z_T (TH : List (String × Nat × Nat × Nat)) : Prop :=
  (∀ (i : Nat) (r : vw_C), zcl[i]? = some r → ∀ w ∈ u_ws r.1 r.2.1 r.2.2, w ∈ lw_tbl ∧ z_gw w = true) ∧ (∀ i ∈ zth, ∀ rr : vw_C, zcl[i]? = some rr → Jvm.Cond.castable rr.1 "ProcessorHouse$Thing" ∈ lw_tbl) ∧
  (∀ i : Nat, i < 4 → Jvm.Cond.castable (zex i) (zex i) ∈ lw_tbl) ∧ (∀ q ∈ TH, q.2.2.2 < 4 ∧ ∀ w ∈ z_thw q, w ∈ lw_tbl ∧ z_gw w = true ∧ vx_ot w = true)
def z_str (ps : List Nat) (j : Nat) (own : String) (k : Nat) : Bool := match ps[j]? with
  | some p => match lw_tbl[p]? with
    | some (.stringRef o i _) => decide (o = own) && decide (i = k)
    | _ => false
  | none => false
theorem z_str_ok {ps : List Nat} {j k : Nat} {own : String} (h : z_str ps j own k = true) : ∃ text, Jvm.Cond.stringRef own k text ∈ lw_tbl := by
  unfold z_str at h
  split at h
  next p hp =>
    split at h
    next o i t ht =>
      simp only [Bool.and_eq_true, decide_eq_true_eq] at h
      obtain ⟨rfl, rfl⟩ := h
      exact ⟨t, List.mem_of_getElem? ht⟩
    next => cases h
  next => cases h
/-- a throw: new, dup, ldc, invokespecial, athrow -/
def z_okt (TH : List (String × Nat × Nat × Nat)) (M : zM) (pc : Nat) (i : Instr) (x : zX) (ps : List Nat) : Bool := match i with
  | .new idx => decide (x.1 < 100) || (match x.2.2 with
    | [ic, wide] => decide (((zm_y M).cls, idx, ic, x.1 - 100) ∈ TH) && decide (6 ≤ zm_f M) && decide (90 ≤ zm_w M) && decide (zm_h M = []) && z_str ps 0 (zm_y M).cls x.2.1 && decide (decode (zm_b M) (pc + 3) = .ok (.dup, 1)) &&
        (if wide = 0 then decide (decode (zm_b M) (pc + 4) = .ok (.ldc x.2.1, 2)) && decide (decode (zm_b M) (pc + 6) = .ok (.invokespecial ic, 3)) && decide (decode (zm_b M) (pc + 9) = .ok (.athrow, 1))
         else decide (decode (zm_b M) (pc + 4) = .ok (.ldc_w x.2.1, 3)) && decide (decode (zm_b M) (pc + 7) = .ok (.invokespecial ic, 3)) && decide (decode (zm_b M) (pc + 10) = .ok (.athrow, 1)))
    | _ => false)
  | _ => true
def z_cw (N : zM) : Jvm.Cond := if zm_h N = [] then .code (zm_y N) (zm_b N) (zm_n N) (zm_r N) else .codeWith (zm_y N) (zm_b N) (zm_n N) (zm_r N) (zm_h N)
/-- of every callee N, with n arguments beside the receiver: room, names, code -/
def z_okb (M N : zM) (n : Nat) (ps : List Nat) : Bool := decide (zm_f N + 1 ≤ zm_f M) && decide (8 + (zm_n N + 11) + zm_w N ≤ zm_w M) && plainFor (zm_y N) && decide ((zm_y N).cls ≠ "java/lang/invoke/MethodHandle") && decide ((zm_y N).cls ≠ "java/lang/invoke/VarHandle") &&
  decide ((parseMethodDescriptor (zm_y N).desc).map (fun d => d.parameters.length) = some n) && z_wd ps 0 (z_cw N) && z_wd ps 1 (.initialized (zm_y N).cls)
abbrev z_uses : MethodName := ⟨"ProcessorHouse$Thing", "uses", "(LProcessorHouse$Thing;)Z"⟩
def z_okc (P : List zM) (M : zM) (i : Instr) (x : zX) (ps : List Nat) : Bool := match i with
  | .invokevirtual idx => if x.2.1 = 0 then (match x.2.2, P[x.1]? with
      | [n, t], some N => z_okb M N n ps && decide (zm_h N = []) && z_wd ps 2 (.methodLink (zm_y M).cls idx (zm_y N)) && z_wd ps 3 (.instanceMethod (zm_y N)) && z_wd ps 4 (.selects (zm_y N).cls (zm_y N) (zm_y N)) && decide (t < 90) && (match zcl[t]? with
          | some r => decide (r.1 = (zm_y N).cls)
          | none => false)
      | _, _ => false)
    else if x.2.1 = 1 then (match x.2.2 with
      | 1 :: ms => z_wd ps 0 (.methodLink (zm_y M).cls idx z_uses) && z_wd ps 1 (.sameMethod "ProcessorHouse$Thing" "ProcessorHouse$Thing" "uses" "(LProcessorHouse$Thing;)Z") && z_wd ps 2 (.declares z_uses) &&
          zth.all fun t => match ms[t]?, zcl[t]? with
            | some k, some r => (match P[k]? with
              | some N => z_okb M N 1 (ps.drop (3 + 4 * t)) && decide (zm_h N = []) && z_wd (ps.drop (3 + 4 * t)) 2 (.selects r.1 z_uses (zm_y N)) && z_wd (ps.drop (3 + 4 * t)) 3 (.instanceMethod (zm_y N))
              | none => false)
            | _, _ => false
      | _ => false)
    else false
  | .invokestatic idx => if x.2.1 = 8 then true else (match x.2.2, P[x.1]? with
      | [n], some N => z_okb M N n ps && z_wd ps 2 (.static (zm_y N)) && (if x.2.1 = 2 then decide (zm_h N = []) && z_wd ps 3 (.methodLink (zm_y M).cls idx (zm_y N)) else if x.2.1 = 4 then decide (zm_h N = []) && z_wd ps 3 (.methodLinkNest (zm_y M).cls idx (zm_y N) "ProcessorHouse") else if x.2.1 = 6 then decide (zm_h N ≠ []) && z_wd ps 3 (.methodLink (zm_y M).cls idx (zm_y N)) else false)
      | _, _ => false)
  | .invokespecial idx => if x.2.1 = 7 then true else (match x.2.2, P[x.1]? with
      | [n], some N => z_okb M N n ps && decide (zm_h N = []) && decide (zm_r N = none) && decide ((zm_y N).name = "<init>") && z_wd ps 2 (.instanceMethod (zm_y N)) && (if x.2.1 = 3 then z_wd ps 3 (.methodLink (zm_y M).cls idx (zm_y N)) else if x.2.1 = 5 then z_wd ps 3 (.methodLinkNest (zm_y M).cls idx (zm_y N) "ProcessorHouse") else false)
      | _, _ => false)
  | _ => true
/-- a method's table: every row names an exception -/
def z_okh (M : zM) (ps : List Nat) : Bool := decide ((zm_h M).length = (zm_e M).length) && ((zm_h M).zip (zm_e M)).zipIdx.all fun w => decide (w.1.1.2.2.2 ≠ 0) && decide (w.1.2 < 4) && z_wd ps w.2 (.classLink (zm_y M).cls w.1.1.2.2.2 (zex w.1.2))
/-- all that is checked of a method; ph, pe: where its words stand -/
def z_okm (P : List zM) (TH : List (String × Nat × Nat × Nat)) (M : zM) (ph : List Nat) (pe : List (List Nat)) : Bool :=
  z_okh M ph && plainFor (zm_y M) && decide (pe.length = (zm_c M).length) && ((zm_c M).zip pe).all fun w => z_oke M w.1 w.2 && z_okt TH M w.1.1 w.1.2.1 w.1.2.2.2 w.2 && z_okc P M w.1.2.1 w.1.2.2.2 w.2
def z_OK (P : List zM) (TH : List (String × Nat × Nat × Nat)) : Prop := ∀ (k : Nat) (M : zM), P[k]? = some M → ∃ (ph : List Nat) (pe : List (List Nat)), z_okm P TH M ph pe = true
theorem z_okm_at {P : List zM} {TH : List (String × Nat × Nat × Nat)} {M : zM} {ph : List Nat} {pe : List (List Nat)} (h : z_okm P TH M ph pe = true) {pc : Nat} {q : Instr × Nat × zX} (hq : z_ftc (zm_c M) pc = some q) :
    ∃ ps, z_oke M (pc, q) ps = true ∧ z_okt TH M pc q.1 q.2.2 ps = true ∧ z_okc P M q.1 q.2.2 ps = true := by
  have hmem : ∀ C : List (Nat × Instr × Nat × zX), z_ftc C pc = some q → (pc, q) ∈ C := by
    intro C
    induction C with
    | nil => intro h; simp [z_ftc] at h
    | cons a C ih =>
      intro h
      unfold z_ftc at h
      split at h
      next he => cases h; subst he; exact List.mem_cons_self
      next => exact List.mem_cons_of_mem _ (ih h)
  unfold z_okm at h
  simp only [Bool.and_eq_true, decide_eq_true_eq] at h
  obtain ⟨⟨⟨-, -⟩, hl⟩, ha⟩ := h
  obtain ⟨j, hj⟩ := List.getElem?_of_mem (hmem _ hq)
  have hjl : j < pe.length := by rw [hl]; exact (List.getElem?_eq_some_iff.mp hj).1
  have hz : ((pc, q), pe[j]) ∈ (zm_c M).zip pe := by
    refine List.mem_of_getElem? (i := j) ?_
    rw [List.getElem?_zip_eq_some]
    exact ⟨hj, List.getElem?_eq_getElem hjl⟩
  have h9 := List.all_eq_true.mp ha _ hz
  simp only [Bool.and_eq_true] at h9
  exact ⟨pe[j], h9.1.1, h9.1.2, h9.2⟩
/-! contracts out of runs -/
def z_Pc (s0 : State) (D : va_G) (cA : Nat → ClassId) (A : List Value) (q : zS) : Array Value → State → Prop := fun a U => a = A.toArray ∧ z_R s0 D cA q U.heap ∧ s0.WarmedH U.vm
def z_Qc (s0 : State) (D : va_G) (cA : Nat → ClassId) (o : zU) (q : zS) : Array Value → State → Outcome → State → Prop := fun _ _ oc t => ∃ v, o = .inl v ∧ oc = .returned v ∧ z_R s0 D cA q t.heap
def z_XC (s0 : State) (D : va_G) (cA : Nat → ClassId) (o : zU) (q : zS) : String → State → State → Prop := fun E _ t => ∃ k, o = .inr k ∧ E = zex k ∧ z_R s0 D cA q t.heap
def z_rm (N : zM) (mc ms : Nat) : Room := { frames := zm_f N, cells := mc, slots := ms, locals := zm_w N }
theorem z_Pc_blind {s0 : State} {D : va_G} {cA : Nat → ClassId} {A : List Value} {q : zS} : FrameBlind (z_Pc s0 D cA A q) := fun _ _ _ _ h => h
theorem z_met {l : Launch} {y : MethodName} {ws : List Jvm.Cond} {rm : Room} {Pc : Array Value → State → Prop} {Qc : Array Value → State → Outcome → State → Prop} {XC : String → State → State → Prop} {mc ms : Nat} {free : Addr → Prop} (h : vx_Met l y ws rm Pc Qc XC mc ms free) (hX : ∀ E st t, ¬ XC E st t) : Met l y ws rm Pc Qc mc ms free := by
  refine MetFree.mono h (fun _ _ h => h) (fun _ _ _ _ _ h => h) ?_
  intro a st o t _ hq
  rcases hq with hq | ⟨q, -, E, ce, L, hx, -⟩
  · exact hq
  · exact absurd hx (hX _ _ _)
section ZR
variable {p : Program} {l : Launch} {e : Env} {R : Room} {s : State} {m : MethodId} {args : Array Value} {below : List Frame} {meth : Method} {c : Code} {s0 : State} {D : va_G} {cA : Nat → ClassId} {n0 u0 : Nat}
variable {M : zM} {pc len : Nat} {L : zL} {S : List Value} {q : zS} {x : zX} {ps : List Nat}
/-- an answer -/
theorem zr_ret {i : Instr} {v : Option Value} (C : z_C p R s m args meth c M D cA) (hr : meth.sig.returnType = zm_r M) (hlocks : meth.locks = false) (hok : z_oke M (pc, i, len, x) ps = true) (h : z_rt (zm_r M) i S = some v) :
    z_W p l e R s m args below meth c (vx_MQ below (z_Qc s0 D cA (.inl v) q) (z_XC s0 D cA (.inl v) q) args s (q.2.1 - n0) (q.2.2 - u0) (z_free s0)) s0 D cA n0 u0 pc L S q := fun H locs ls hR hf hl => by
  obtain ⟨hx, hb, -⟩ := C
  simp only [z_oke, Bool.and_eq_true, Bool.or_eq_true, decide_eq_true_eq] at hok
  have hd := hok.1.1
  have hlen := hok.1.2
  have hq : ∀ t : State, t.heap = H → s.WarmedH t.vm → z_Qc s0 D cA (.inl v) q args s (.returned v) t := fun t ht _ => ⟨v, rfl, rfl, by rw [ht]; exact hR⟩
  unfold z_rt at h
  split at h
  · simp only [z_swi, z_ln, Bool.false_eq_true, false_or] at hlen
    subst hlen
    split at h
    next v9 ty hty =>
      split at h
      next hn => cases h; exact vx_ret (W.zret hx hb (hr.trans hty) hn hq hf hd hlocks)
      next => cases h
    next => cases h
  · simp only [z_swi, z_ln, Bool.false_eq_true, false_or] at hlen
    subst hlen
    split at h
    next v9 hty => cases h; exact vx_ret (W.lret hx hb (hr.trans hty) hq hf hd hlocks)
    next => cases h
  · simp only [z_swi, z_ln, Bool.false_eq_true, false_or] at hlen
    subst hlen
    have ref : ∀ w : Value, w.isRef = true → w = .null ∨ ∃ a, w = .ref a := by
      intro w hw
      cases w <;> first | exact Or.inl rfl | exact Or.inr ⟨_, rfl⟩ | simp [Value.isRef] at hw
    split at h
    next w nm hty =>
      split at h
      next hw => cases h; exact vx_ret (W.aret hx hb (hr.trans hty) (Or.inl ⟨_, rfl⟩) (ref _ hw) hq hf hd hlocks)
      next => cases h
    next w nm hty =>
      split at h
      next hw => cases h; exact vx_ret (W.aret hx hb (hr.trans hty) (Or.inr ⟨_, rfl⟩) (ref _ hw) hq hf hd hlocks)
      next => cases h
    next => cases h
  · simp only [z_swi, z_ln, Bool.false_eq_true, false_or] at hlen
    subst hlen
    split at h
    next hty => cases h; exact vx_ret (W.vret hx hb (hr.trans hty) hq hf hd hlocks)
    next => cases h
  · cases h
/-- a throw -/
theorem zr_throw {TH : List (String × Nat × Nat × Nat)} {a0 : Array Value} {i : Instr} {k : Nat} {q' : zS} (F : z_F l s0 a0 D cA) (T : z_T TH) (C : z_C p R s m args meth c M D cA) (hlocks : meth.locks = false) (htab : c.exceptionTable.toList = tableOf (zm_h M)) (hW : s0.WarmedH s.vm)
    (hLn : L.length = zm_n M) (hs1 : s0.heap.size ≤ s.heap.size) (hs2 : ∀ a : Nat, a < s0.heap.size → s.heap[a]? = s0.heap[a]?) (hs3 : s.heap.size = n0) (hn0 : n0 ≤ q.2.1) (hu0 : u0 ≤ q.2.2) (hrc : q'.2.1 - n0 ≤ R.cells) (hrs : q'.2.2 - u0 ≤ R.slots)
    (hok : z_oke M (pc, i, len, x) ps = true) (hot : z_okt TH M pc i x ps = true) (h : z_th i x S q = some (k, q')) :
    k < 4 ∧ z_W p l e R s m args below meth c (vx_MQ below (z_Qc s0 D cA (.inr k) q') (z_XC s0 D cA (.inr k) q') args s (q'.2.1 - n0) (q'.2.2 - u0) (z_free s0)) s0 D cA n0 u0 pc L S q := by
  obtain ⟨hst, htb, -, -, -, hU, hN, hstr⟩ := F
  obtain ⟨-, -, -, hTH⟩ := T
  obtain ⟨hx, hb, hml, hown, hnm, hfr, hlo, ⟨hK, h99⟩, hlay, hcst, hno, hw⟩ := C
  unfold z_th at h
  split at h
  next idx =>
    split at h
    next hc =>
      cases h
      simp only [z_okt, Bool.or_eq_true, decide_eq_true_eq] at hot
      have hot := hot.resolve_left (by omega)
      split at hot
      next ic wide hx2 =>
        simp only [Bool.and_eq_true, decide_eq_true_eq] at hot
        obtain ⟨⟨⟨⟨⟨⟨h1, h2⟩, h3⟩, h4⟩, h5⟩, h6⟩, h7⟩ := hot
        obtain ⟨hk4, hwords⟩ := hTH _ h1
        refine ⟨hk4, fun H locs ls hR hf hl => ?_⟩
        obtain ⟨text, ht⟩ := z_str_ok h5
        obtain ⟨sa, hsa⟩ := hstr _ _ _ ht
        simp only [z_oke, z_ln, z_swi, Bool.and_eq_true, Bool.or_eq_true, decide_eq_true_eq] at hok
        have hd := hok.1.1
        have hlen : len = 3 := by
          rcases hok.1.2 with h9 | h9
          · cases h9
          · exact of_decide_eq_true h9
        subst hlen
        have hw8 := z_wb_le hc.2
        have hwb : ∀ w ∈ z_thw ((zm_y M).cls, idx, ic, x.1 - 100), w.before args s = true := fun w hw9 => hw w (hwords w hw9).1 (hwords w hw9).2.1
        have keep : ∀ a : Nat, a < s0.heap.size → ¬ z_free s0 a → s.heap[a]? = s0.heap[a]? := fun a h9 _ => hs2 a h9
        have hU' := (vx_Zq.moved hW.alike hU).kept keep
        have hN' := (vx_Zq.moved hW.alike hN).kept keep
        have hS : va_S (z_free s0) s.heap H locs := ⟨by rw [hs3, hR.2.2.1]; exact hn0, fun a _ h9 => by
          have h8 : a < s0.heap.size := Nat.not_le.mp h9
          rw [hR.2.1 a h8, hs2 a h8], hf⟩
        have hempty : ∀ z ∈ c.exceptionTable.toList, False := by
          intro z hz
          rw [htab, h4] at hz
          cases hz
        have hxx : ∀ t : State, s.vm.Alike t.vm → t.heap.size = H.size + 1 → (∀ a : Nat, a < H.size → t.heap[a]? = H[a]?) → z_XC s0 D cA (.inr (x.1 - 100)) (q.1, q.2.1 + 1, q.2.2 + 6) (zex (x.1 - 100)) s t := by
          intro t _ e1 e2
          refine ⟨_, rfl, rfl, ?_⟩
          refine ⟨by have := hR.1; omega, fun a h9 => by rw [e2 a (by have := hR.1; omega)]; exact hR.2.1 a h9, by rw [e1, hR.2.2.1], fun a o ho => ?_⟩
          obtain ⟨g1, g2⟩ := hR.2.2.2 a o ho
          exact ⟨g1.kept (e2 a g1.lt), g2⟩
        split at h7
        next =>
          simp only [Bool.and_eq_true, decide_eq_true_eq] at h7
          obtain ⟨⟨d4, d6⟩, d9⟩ := h7
          exact vx_throwS (names := z_names) hx hb hst hown (zex_fit (x.1 - 100)) (by decide +kernel) (hwb _ List.mem_cons_self) (hwb _ (List.mem_cons_of_mem _ List.mem_cons_self)) (vk_R.warm hW hsa)
            (fun w hw9 => hwb w (List.mem_cons_of_mem _ (List.mem_cons_of_mem _ hw9))) (fun w hw9 => (hwords w hw9).2.2) hU' hN' hS (by rw [hl.1, hLn, hml]) hd h6 d4 d6 d9 (fun z hz => (hempty z hz).elim) (by show 2 + 3 < _; omega) (by show _ + (13 * (2 + 1) + 43) ≤ _; omega)
            (by have : q.2.1 + 1 - n0 ≤ R.cells := hrc; omega) (by have : q.2.2 + 6 - u0 ≤ R.slots := hrs; omega) hlocks hxx hf (by show _ ≤ q.2.1 + 1 - n0; omega) (by show _ ≤ q.2.2 + 6 - u0; omega)
        next =>
          simp only [Bool.and_eq_true, decide_eq_true_eq] at h7
          obtain ⟨⟨d4, d6⟩, d9⟩ := h7
          exact vx_throwSW (names := z_names) hx hb hst hown (zex_fit (x.1 - 100)) (by decide +kernel) (hwb _ List.mem_cons_self) (hwb _ (List.mem_cons_of_mem _ List.mem_cons_self)) (vk_R.warm hW hsa)
            (fun w hw9 => hwb w (List.mem_cons_of_mem _ (List.mem_cons_of_mem _ hw9))) (fun w hw9 => (hwords w hw9).2.2) hU' hN' hS (by rw [hl.1, hLn, hml]) hd h6 d4 d6 d9 (fun z hz => (hempty z hz).elim) (by show 2 + 3 < _; omega) (by show _ + (13 * (2 + 1) + 43) ≤ _; omega)
            (by have : q.2.1 + 1 - n0 ≤ R.cells := hrc; omega) (by have : q.2.2 + 6 - u0 ≤ R.slots := hrs; omega) hlocks hxx hf (by show _ ≤ q.2.1 + 1 - n0; omega) (by show _ ≤ q.2.2 + 6 - u0; omega)
      next => cases hot
    next => cases h
  next => cases h
end ZR
