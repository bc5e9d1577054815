/-! THE CLAIM OUT OF A RUN OF THE LITTLE MACHINE -/
theorem zt_0 : ∀ w ∈ u_ws RX0 TX0 6, w ∈ lw_tbl ∧ z_gw w = true := by decide +kernel
theorem zt_1 : ∀ w ∈ u_ws RX1 TX1 10, w ∈ lw_tbl ∧ z_gw w = true := by decide +kernel
theorem zt_2 : ∀ w ∈ u_ws RX2 TX2 3, w ∈ lw_tbl ∧ z_gw w = true := by decide +kernel
theorem zt_3 : ∀ w ∈ u_ws RX3 TX3 10, w ∈ lw_tbl ∧ z_gw w = true := by decide +kernel
theorem zt_4 : ∀ w ∈ u_ws RX4 TX4 4, w ∈ lw_tbl ∧ z_gw w = true := by decide +kernel
theorem zt_5 : ∀ w ∈ u_ws RX5 TX5 7, w ∈ lw_tbl ∧ z_gw w = true := by decide +kernel
theorem zt_6 : ∀ w ∈ u_ws RX6 TX6 11, w ∈ lw_tbl ∧ z_gw w = true := by decide +kernel
theorem zt_7 : ∀ w ∈ u_ws RX8 TX8 5, w ∈ lw_tbl ∧ z_gw w = true := by decide +kernel
theorem zt_8 : ∀ w ∈ u_ws RX9 TX9 4, w ∈ lw_tbl ∧ z_gw w = true := by decide +kernel
theorem zt_9 : ∀ w ∈ u_ws RX10 TX10 42, w ∈ lw_tbl ∧ z_gw w = true := by decide +kernel
theorem zt_cst : ∀ n ∈ [RX0, RX2, RX3, RX4, RX5, RX6], Jvm.Cond.castable n "ProcessorHouse$Thing" ∈ lw_tbl := by decide +kernel
theorem zt_ex : ∀ i : Nat, i < 4 → Jvm.Cond.castable (zex i) (zex i) ∈ lw_tbl := by decide +kernel
theorem zt_th : ∀ q ∈ zTH, q.2.2.2 < 4 ∧ ∀ w ∈ z_thw q, w ∈ lw_tbl ∧ z_gw w = true ∧ vx_ot w = true := by decide +kernel
theorem z_t : z_T zTH := by
  refine ⟨fun i r h => ?_, fun i hi rr h => ?_, zt_ex, zt_th⟩
  · match i, h with
    | 0, h => cases h; exact zt_0
    | 1, h => cases h; exact zt_1
    | 2, h => cases h; exact zt_2
    | 3, h => cases h; exact zt_3
    | 4, h => cases h; exact zt_4
    | 5, h => cases h; exact zt_5
    | 6, h => cases h; exact zt_6
    | 7, h => cases h; exact zt_7
    | 8, h => cases h; exact zt_8
    | 9, h => cases h; exact zt_9
    | j + 10, h => simp [zcl] at h
  · simp only [zth, List.mem_cons, List.not_mem_nil, or_false] at hi
    rcases hi with rfl | rfl | rfl | rfl | rfl | rfl <;> cases h <;> exact zt_cst _ (by simp)
/-- what the statement says of classes that are no others -/
abbrev z_nots : List (String × String) := ([RX0, RX2, RX3, RX4, RX5, RX6].flatMap fun a => ([RX0, RX2, RX3, RX4, RX5, RX6].filter fun b => decide (a ≠ b)).map fun b => (a, b)) ++ ([0, 1, 2, 3].flatMap fun a => ([0, 1, 2, 3].filter fun b => decide (a ≠ b)).map fun b => (zex a, zex b))
theorem zt_not : ∀ q ∈ z_nots, Jvm.Cond.not (.castable q.1 q.2) ∈ flatC (Jvm.Cond.and given_1 narrow_1) := by decide +kernel
theorem zt_str : (lw_tbl.all fun w => match w with
  | .stringRef o k _ => decide (Jvm.Cond.exactly (.string o k) "java/lang/String" ∈ flatC (Jvm.Cond.and given_1 narrow_1))
  | _ => true) = true := by decide +kernel
theorem zt_in : ∀ w ∈ [Jvm.Cond.instantiable RX0 6, .instantiable RX1 10, .instantiable RX2 3, .instantiable RX3 10, .instantiable RX4 4, .instantiable RX5 7, .instantiable RX6 11, .instantiable RX8 5, .instantiable RX9 4, .instantiable RX10 42, .arrayClass .int, .arrayClass .long, .arrayClass .boolean, .arrayOver (.object "ProcessorHouse$Thing"), .arrayOver (.object "ProcessorHouse$Word"), .laysStatic Bundle.tN "UNASSIGNED_STACK" Bundle.steD, .laysStatic Bundle.tN "SUPPRESSED_SENTINEL" Bundle.listD, .initialized Bundle.tN], w ∈ lw_tbl := by decide +kernel
theorem zt_ref : ∀ w ∈ [Jvm.Cond.isRef (.static Bundle.tN "UNASSIGNED_STACK" Bundle.steD), .isRef (.static Bundle.tN "SUPPRESSED_SENTINEL" Bundle.listD)], w ∈ flatC (Jvm.Cond.and given_1 narrow_1) := by decide +kernel
theorem z_arr1 {s : State} {args : Array Value} {ty : FieldType} (h : (Jvm.Cond.arrayClass ty).before args s = true) (hty : ∀ C, ty ≠ .object C) : ∃ cA : ClassId, ArrOfT s cA ty ∧ va_RA s cA ty := by
  obtain ⟨c, k, comp, h1, h2, h3⟩ := Cond.arrayClass_spec h
  refine ⟨c, fun n z => ⟨fun q hq => (by cases hq), k, h2, comp, h3⟩, ?_⟩
  cases ty <;> first | exact h1 | exact absurd rfl (hty _)
theorem z_arr2 {s : State} {args : Array Value} {C : String} (h : (Jvm.Cond.arrayOver (.object C)).before args s = true) : ∃ cA : ClassId, ArrOfT s cA (.object C) ∧ va_RA s cA (.object C) := by
  obtain ⟨comp, c, k, h1, h2, h3, h4, h5⟩ := Cond.arrayOver_spec h
  exact ⟨c, fun n z => ⟨fun q hq => (by cases hq), k, h3, comp, h4⟩, k, comp, h3, h4, h1, h5⟩
/-- at the law's entry -/
theorem z_start {l : Launch} {s : State} {b L : Nat} {xs : Nat → Int32} (hl : l.stackTraces = false) (hts : ∀ w ∈ lw_tbl, w.before #[Value.ref b] s = true) (hX : va_X b L xs s s.heap) (hgv : (Jvm.Cond.and given_1 narrow_1).before #[Value.ref b] s = true) :
    ∃ (D : va_G) (cA : Nat → ClassId), z_F l s #[Value.ref b] D cA ∧ zo_R D cA s.heap b (99, L, fun j => .int (xs j)) := by
  have hfl := flat_of_before _ hgv
  obtain ⟨scr, x1, x2, x3, x4, x5⟩ := hX
  have hcl : ∀ i : Nat, ∃ y : ClassId × (Nat → Nat), ∀ r : vw_C, zcl[i]? = some r → u_Kn s r.1 r.2.1 r.2.2 y.1 y.2 := by
    intro i
    have one : ∀ (r : vw_C) (n : Nat), zcl[i]? = some r → (∀ w ∈ u_ws r.1 r.2.1 r.2.2, w ∈ lw_tbl ∧ z_gw w = true) → (Jvm.Cond.instantiable r.1 n).before #[Value.ref b] s = true → ∃ y : ClassId × (Nat → Nat), ∀ r : vw_C, zcl[i]? = some r → u_Kn s r.1 r.2.1 r.2.2 y.1 y.2 := by
      intro r n hr hw hi
      obtain ⟨c0, iS, hK⟩ := u_known (C := r.1) (T := r.2.1) (N := r.2.2) (n := n) hts (fun w h => (hw w h).1) hi
      exact ⟨(c0, iS), fun r' hr' => by cases hr.symm.trans hr'; exact hK⟩
    match i, one with
    | 0, one => exact one (RX0, TX0, 6) 6 rfl zt_0 (hts _ (zt_in _ (by simp)))
    | 1, one => exact one (RX1, TX1, 10) 10 rfl zt_1 (hts _ (zt_in _ (by simp)))
    | 2, one => exact one (RX2, TX2, 3) 3 rfl zt_2 (hts _ (zt_in _ (by simp)))
    | 3, one => exact one (RX3, TX3, 10) 10 rfl zt_3 (hts _ (zt_in _ (by simp)))
    | 4, one => exact one (RX4, TX4, 4) 4 rfl zt_4 (hts _ (zt_in _ (by simp)))
    | 5, one => exact one (RX5, TX5, 7) 7 rfl zt_5 (hts _ (zt_in _ (by simp)))
    | 6, one => exact one (RX6, TX6, 11) 11 rfl zt_6 (hts _ (zt_in _ (by simp)))
    | 7, one => exact one (RX8, TX8, 5) 5 rfl zt_7 (hts _ (zt_in _ (by simp)))
    | 8, one => exact one (RX9, TX9, 4) 4 rfl zt_8 (hts _ (zt_in _ (by simp)))
    | 9, one => exact one (RX10, TX10, 42) 42 rfl zt_9 (hts _ (zt_in _ (by simp)))
    | j + 10, _ => exact ⟨(0, fun _ => 0), fun r hr => by simp [zcl] at hr⟩
  obtain ⟨fD, hfD⟩ := Classical.axiomOfChoice hcl
  obtain ⟨a0, ha0⟩ := z_arr1 (hts _ (zt_in (.arrayClass .int) (by simp))) (fun C h => by cases h)
  obtain ⟨a1, ha1⟩ := z_arr1 (hts _ (zt_in (.arrayClass .long) (by simp))) (fun C h => by cases h)
  obtain ⟨a2, ha2⟩ := z_arr1 (hts _ (zt_in (.arrayClass .boolean) (by simp))) (fun C h => by cases h)
  obtain ⟨a3, ha3⟩ := z_arr2 (hts _ (zt_in (.arrayOver (.object "ProcessorHouse$Thing")) (by simp)))
  obtain ⟨a4, ha4⟩ := z_arr2 (hts _ (zt_in (.arrayOver (.object "ProcessorHouse$Word")) (by simp)))
  refine ⟨(fun i => (fD i).1, fun i => (fD i).2), fun t => match t with
    | 99 => scr.cls
    | 100 => a0
    | 101 => a1
    | 102 => a2
    | 103 => a3
    | _ => a4, ⟨hl, hts, ⟨⟨fun i r hr => hfD i r hr, fun k q hk => ?_⟩, fun n z => ⟨fun q hq => (by cases hq), x2.2⟩⟩, fun i hi j hj hij r1 r2 h1 h2 => ?_, fun i j hi hj hij => ?_, ?_, ?_, fun own k text hm => ?_⟩, Or.inr (Or.inr ⟨rfl, scr, x1, rfl, x2.1, x3, x4, x5⟩)⟩
  · match k, hk with
    | 0, hk => cases hk; exact ha0
    | 1, hk => cases hk; exact ha1
    | 2, hk => cases hk; exact ha2
    | 3, hk => cases hk; exact ha3
    | 4, hk => cases hk; exact ha4
    | k + 5, hk => simp [z_tys] at hk
  · refine va_Nc.of (hfl _ (zt_not (r1.1, r2.1) ?_))
    refine List.mem_append_left _ ?_
    simp only [zth, List.mem_cons, List.not_mem_nil, or_false] at hi hj
    rcases hi with rfl | rfl | rfl | rfl | rfl | rfl <;> rcases hj with rfl | rfl | rfl | rfl | rfl | rfl <;> first | exact absurd rfl hij | (cases h1; cases h2; decide +kernel)
  · refine va_Nc.of (hfl _ (zt_not (zex i, zex j) ?_))
    refine List.mem_append_right _ ?_
    rcases (show i = 0 ∨ i = 1 ∨ i = 2 ∨ i = 3 by omega) with rfl | rfl | rfl | rfl <;> rcases (show j = 0 ∨ j = 1 ∨ j = 2 ∨ j = 3 by omega) with rfl | rfl | rfl | rfl <;> first | exact absurd rfl hij | decide +kernel
  · exact vx_Zqof (hts _ (zt_in _ (by simp))) (hts _ (zt_in _ (by simp))) (hfl _ (zt_ref _ (by simp))) (fun a h => Nat.not_le.mpr h)
  · exact vx_Zqof (hts _ (zt_in _ (by simp))) (hts _ (zt_in _ (by simp))) (hfl _ (zt_ref _ (by simp))) (fun a h => Nat.not_le.mpr h)
  · have h9 := List.all_eq_true.mp zt_str _ hm
    simp only [decide_eq_true_eq] at h9
    obtain ⟨a, _, _, _, he, -⟩ := Cond.exactly_spec (hfl _ h9)
    exact ⟨a, vk_R.of (hts _ hm) he⟩
/-- the law's start, for the little machine: the script at b, n0 cells -/
def z_s0 (b L : Nat) (xs : Nat → Int32) (n0 : Nat) : zS := (fun a => if a = b then some (99, L, fun j => .int (xs j)) else none, n0, 0)
/-- the law's number among the methods -/
abbrev z_kl : Nat := 174
/-- WHAT IS LEFT: a run of the little machine -/
def z_Law : Prop := ∀ (b L n0 : Nat) (xs : Nat → Int32), L ≤ 3584 → b < n0 → ∃ (n : Nat) (q : zS), z_rn zP n z_kl 0 (z_ini 8 [.ref b]) [] (z_s0 b L xs n0) = some (.inl (some (.int 1)), q) ∧ q.2.1 - n0 ≤ 601024 ∧ q.2.2 ≤ 7293034
def R_law : String := "ProcessorHouseLaw"
def lw_P (b : Addr) (xs : List Int32) (args : Array Value) (s : State) : Prop := args = #[.ref b] ∧ s.IntsAt b xs ∧ xs.length ≤ 3584 ∧ (Jvm.Cond.and given_1 narrow_1).before args s = true
def lw_Q (_ : Array Value) (s : State) (o : Outcome) (t : State) : Prop := o = .returned (some (.int 1)) ∧ Framed s o t [] 601024 7293034
def lw_Z (below : List Frame) (a : Array Value) (s : State) : State → Prop := fun t => ∃ o, t.status = .running ∧ Ended t below o ∧ lw_Q a s o t
def lw_At (p : Program) (s : State) (m : MethodId) (meth : Method) (c : Code) (b L : Nat) (xs : Nat → Int32) : Prop :=
  p.tables.exec = Jvm.exec ∧ c.code = code ∧ meth.sig.returnType = ret ∧ c.maxLocals = 8 ∧ s.vm.findClass R_law = some m.cls ∧ (∀ w ∈ lw_tbl, w.before #[Value.ref b] s = true) ∧ va_X b L xs s s.heap ∧ b < s.heap.size ∧ meth.locks = false ∧ (Jvm.Cond.and given_1 narrow_1).before #[Value.ref b] s = true ∧ meth.name = "law" ∧ c.exceptionTable.toList = []
set_option maxHeartbeats 4000000 in
set_option maxRecDepth 100000 in
theorem whole_start (HL : z_Law) {p : Program} {e : Env} {s : State} {m : MethodId} {below : List Frame} {meth : Method} {c : Code} (l : Launch) (hst : l.stackTraces = false) {b L : Nat} {xs : Nat → Int32} (hL : L ≤ 3584) (C0 : lw_At p s m meth c b L xs) : W p l e room_1 s m #[Value.ref b] below meth c s.heap [] 0 0 (lw_Z below #[Value.ref b] s) (entryFrame m ([Value.ref b] : List Value).toArray 8) := by
  obtain ⟨hx, hb, hr, hml, hown, hts, hX, hbl, hlocks, hgv, hname, htab⟩ := C0
  obtain ⟨D, cA, F, hscr⟩ := z_start hst hts hX hgv
  obtain ⟨n, q, hrun, hq1, hq2⟩ := HL b L s.heap.size xs hL hbl
  have hI := z_main F z_t z_ok n z_kl 0 (z_ini 8 [.ref b]) [] (z_s0 b L xs s.heap.size) _ q zm_L_law hrun rfl rfl
  have hC : z_C p room_1 s m #[Value.ref b] meth c zm_L_law D cA := z_C_of F z_t (State.WarmedH.refl s) hx hb hml hown hname (by decide) (by decide)
  have hR : z_R s D cA (z_s0 b L xs s.heap.size) s.heap := by
    refine ⟨Nat.le_refl _, fun _ _ => rfl, rfl, fun a o ho => ?_⟩
    simp only [z_s0] at ho
    split at ho
    next he => cases ho; subst he; exact ⟨hscr, fun h => absurd rfl h⟩
    next => cases ho
  have hw := hI.2 p e room_1 s m #[Value.ref b] below meth c s.heap.size 0 hC hr hlocks htab (State.WarmedH.refl s) (Nat.le_refl _) (fun _ _ => rfl) rfl (Nat.le_refl _) (Nat.le_refl _) hq1 hq2 s.heap [] _ hR (fun z hz => by cases hz) (z_ini_has (by show 1 ≤ 8; omega))
  rw [lg_entry_eq]
  intro T hT X
  have hw2 := z_cs (k1 := 0) (k2 := 0) (by show 0 = s.heap.size - s.heap.size; omega) (by rfl) hw
  obtain ⟨t, a1, o, b1, b2, b3⟩ := hw2 T hT X
  refine ⟨t, a1, o, b1, b2, ?_⟩
  rcases b3 with ⟨⟨v, hv, ho, -⟩, Lc, ⟨f1, f2, f3⟩, f4⟩ | ⟨a, -, E, ce, Lc, ⟨k, hk, -⟩, -⟩
  · cases hv
    exact ⟨ho, f1, f2, f3.weaken (fun y hy hlt => absurd hlt (Nat.not_lt.mpr (f4 y hy))) hq1 (by have : q.2.2 - 0 ≤ 7293034 := hq2; exact this)⟩
  · cases hk
set_option maxHeartbeats 4000000 in
theorem lw_walk (HL : z_Law) (l : Launch) (hst : l.stackTraces = false) (b : Addr) (xs : List Int32) : MetFree l x (headSpec (Jvm.Cond.code x code maxLocals ret :: tables_1) room_1) (lw_P b xs) (fun _ _ _ _ _ => True) lw_Q := by
  refine MetFree.of_bodyS (code := code) (maxLocals := maxLocals) (ret := ret) (by decide) ?_ ?_
  · intro args s m h hn
    obtain ⟨meth, c, h1, h2, h3, h4, h5, h6, -, -⟩ := Cond.code_spec hn (atoms_spec (ws := Jvm.Cond.code x code maxLocals ret :: tables_1) h _ List.mem_cons_self)
    exact ⟨meth, c, h1, h2, h3, h4, h5, h6⟩
  · intro p e s m args below meth c s₁ B hml0 hP _
    obtain ⟨rfl, hx, hbd, hgv⟩ := hP
    obtain ⟨scr, harrAt, hlist, hof, hsmall⟩ := hx
    obtain ⟨hcb, hkn, -, -⟩ := State.arrayAt?_spec harrAt
    have hown : s.vm.findClass R_law = some m.cls := findClass_of_methodNamed B.named
    have hts0 : ∀ c ∈ (Jvm.Cond.code x code maxLocals ret :: tables_1), c.before #[Value.ref b] s = true := atoms_spec (ws := Jvm.Cond.code x code maxLocals ret :: tables_1) B.pre
    have hts : ∀ w ∈ lw_tbl, w.before #[Value.ref b] s = true := k2_hts_sels lw_privs (fun w hw => hts0 w (List.mem_cons_of_mem _ hw)) lw_privs_ok
    have hml : c.maxLocals = 8 := B.maxLocals_eq (hts0 _ List.mem_cons_self)
    have X₀ : Stand p l e room_1 s m #[Value.ref b] below meth c s₁ [] 0 0 := Stand.of_body B
    have hh0 : s₁.heap = s.heap := by rw [B.state]; rfl
    have hsz : scr.slots.size = xs.length := by rw [← Array.length_toList, hlist, List.length_map]
    have hval : ∀ j : Nat, j < xs.length → scr.slots[j]? = some (.int (xs.getD j 0)) := fun j hj => by
      rw [← Array.getElem?_toList, hlist]
      simp [hj]
    have hbl : b < s.heap.size := (Array.getElem?_eq_some_iff.mp hcb).1
    have hX : va_X b xs.length (fun j => xs.getD j 0) s s.heap := ⟨scr, hcb, hof, hkn, hsz, hval⟩
    have htab : c.exceptionTable.toList = [] := by
      have h9 := B.noHandlers (hts0 _ List.mem_cons_self)
      rw [Array.isEmpty_iff.mp h9]
    have K : W p l e room_1 s m #[Value.ref b] below meth c s₁.heap [] 0 0 (lw_Z below #[Value.ref b] s) (entryFrame m ([Value.ref b] : List Value).toArray 8) := by
      rw [hh0]
      exact whole_start HL l hst hbd ⟨B.exec, B.bytes, B.returns, hml, hown, hts, hX, hbl, B.notSynchronized, hgv, (name_of_methodNamed B.named B.method).1, htab⟩
    obtain ⟨t, a1, o, b1, b2, b3⟩ := K s₁ rfl X₀
    exact ⟨t, o, a1, b1, b2, b3⟩
theorem lw_pre_spec {args : Array Value} {s : State} (h : (Jvm.Cond.and given_1 narrow_1).before args s = true) (hr : rest_1_c.before args s = true) : ∃ (b : Addr) (xs : List Int32), lw_P b xs args s := by
  have hs := flat_of_before _ h
  have hq := flat_of_before _ hr
  have hc : (Cond.count 1).before args s = true := hs _ (by decide +kernel)
  have harr : (Cond.arrayOf (.arg 0) .int).before args s = true := hs _ (by decide +kernel)
  have hle : (Cond.le (.length (.arg 0)) (.int 3584)).before args s = true := hs _ (by decide +kernel)
  have hlen : (Cond.isInt (.length (.arg 0))).before args s = true := hq _ (by decide +kernel)
  have hall : (Cond.all (.arg 0) (.isInt (.elem (.arg 0) (.index 0)))).before args s = true := hq _ (by decide +kernel)
  obtain ⟨b, xs, hb, hx⟩ := State.ints_of_pre rfl harr hlen hall
  have hsm : xs.length < 2 ^ 31 := hx.choose_spec.2.2.2
  have hev : (Term.length (.arg 0)).eval args s none [] s = some (.int xs.length.toInt32) := hx.length_eval hb
  have hv := Cond.le_ints hev (show (Term.int 3584).eval args s none [] s = some (.int 3584) from rfl)
  have hd : xs.length.toInt32 ≤ 3584 := by
    simpa [Cond.before, Cond.holds, hv] using hle
  have hN : xs.length ≤ 3584 := (Int32.ofNat_le_ofNat hsm (by decide)).mp (show Int32.ofNat xs.length ≤ Int32.ofNat 3584 from hd)
  exact ⟨b, xs, Cond.one_arg hc (show args[0]? = some (.ref b) from hb), hx, hN, h⟩
theorem lw_comes (HL : z_Law) (l : Launch) (hst : l.stackTraces = false) : Comes l x (Jvm.Cond.code x code maxLocals ret :: tables_1) room_1 (fun tb e args s => Calls_1 tb e args s ∧ rest_1 tb e args s ∧ Pre_1 tb e args s)
    (fun _ _ args s o t => lw_Q args s o t) := by
  intro p e ha hc hk s m args below hf hfit hheap happ hpre
  obtain ⟨b, xs, hP⟩ := lw_pre_spec hpre.2.2 hpre.2.1
  obtain ⟨k, o, h1, h2, h3, hQ⟩ := lw_walk HL l hst b xs p e ha hc hk s m args below hf ((Spec.applies_iff_loose hf).mp happ).1 hP trivial
  exact ⟨k, o, h1, h2, h3, hQ⟩
theorem lw_frame {s t : State} {o : Outcome} {args : Array Value} (h : Framed s o t [] 601024 7293034) :
    Framed s o t (fieldLocs frame_1_writes args s ++ arrayLocs frame_1_arrays args s ++ staticLocs frame_1_statics s) 601024 7293034 := h
theorem lw_limb (HL : z_Law) (L : Cond) (hL : ∀ (args : Array Value) (s t : State), L.after args s (.returned (some (.int 1))) t = true) :
    ArmFor flags0 classFile x code maxLocals ret World_1 tables_1 room_1 Calls_1 rest_1 Pre_1
      (fun tb e a s o t => postC L tb e a s o t ∧ Framed s o t (fieldLocs frame_1_writes a s ++ arrayLocs frame_1_arrays a s ++ staticLocs frame_1_statics s) 601024 7293034) := by
  intro l hfl _ _ p e ha hc hk s m args below hf hfit hheap happ hpre
  have hst : l.stackTraces = false := by
    unfold Launch.stackTraces
    rw [hfl]
    decide
  obtain ⟨k, o, h1, h2, h3, rfl, hF⟩ := lw_comes HL l hst p e ha hc hk s m args below hf hfit hheap happ hpre
  exact ⟨k, _, h1, h2, h3, hL args s _, lw_frame hF⟩
/-- THE CLAIM, once the little machine's run of the law is known -/
theorem i_vc_open (HL : z_Law) : Claimed_1_1 ∧ Claimed_1_2 := ⟨lw_limb HL limb_1_1 (fun args s t => by simp [limb_1_1, Cond.after, Cond.holds, Cond.value]), lw_limb HL limb_1_2 (fun args s t => Cond.after_iff.mpr (by
  first | (rw [show limb_1_2 = Cond.eq .result (.int 1) from rfl, Cond.eq_ints (x := 1) (y := 1) rfl rfl]; simp; done) | (simp [limb_1_2, Cond.value, Term.eval]; done)))⟩
