/-! A CALL THAT THROWS, A CATCH, and the whole -/
theorem z_row_spec : ∀ (H : List (Nat × Nat × Nat × Nat)) (E : List Nat) {pc k h : Nat}, z_row H E pc k = some h → ∃ (pre : List ((Nat × Nat × Nat × Nat) × Nat)) (x : Nat × Nat × Nat × Nat) (suf : List ((Nat × Nat × Nat × Nat) × Nat)),
    H.zip E = pre ++ (x, k) :: suf ∧ x.1 ≤ pc ∧ pc < x.2.1 ∧ x.2.2.1 = h ∧ ∀ z ∈ pre, ¬ (z.1.1 ≤ pc ∧ pc < z.1.2.1) ∨ z.2 ≠ k := by
  intro H
  induction H with
  | nil => intro E pc k h hh; simp [z_row] at hh
  | cons a H ih =>
    intro E pc k h hh
    cases E with
    | nil => simp [z_row] at hh
    | cons b E =>
      unfold z_row at hh
      split at hh
      next hc =>
        cases hh
        obtain ⟨h1, h2, h3⟩ := hc
        subst h3
        exact ⟨[], a, H.zip E, rfl, h1, h2, rfl, fun z hz => by cases hz⟩
      next hc =>
        obtain ⟨pre, x, suf, e1, e2, e3, e4, e5⟩ := ih E hh
        refine ⟨(a, b) :: pre, x, suf, by simp [e1], e2, e3, e4, fun z hz => ?_⟩
        rcases List.mem_cons.mp hz with rfl | hz
        · by_cases hcov : a.1 ≤ pc ∧ pc < a.2.1
          · exact Or.inr fun hk => hc ⟨hcov.1, hcov.2, hk⟩
          · exact Or.inl hcov
        · exact e5 z hz
theorem z_okh_spec {M : zM} {ps : List Nat} (h : z_okh M ps = true) : (zm_h M).length = (zm_e M).length ∧ ∀ w ∈ (zm_h M).zip (zm_e M), w.1.2.2.2 ≠ 0 ∧ w.2 < 4 ∧ Jvm.Cond.classLink (zm_y M).cls w.1.2.2.2 (zex w.2) ∈ lw_tbl ∧ z_gw (Jvm.Cond.classLink (zm_y M).cls w.1.2.2.2 (zex w.2)) = true := by
  unfold z_okh at h
  simp only [Bool.and_eq_true, decide_eq_true_eq] at h
  obtain ⟨h1, h2⟩ := h
  refine ⟨h1, fun w hw => ?_⟩
  obtain ⟨j, hj⟩ := List.getElem?_of_mem hw
  have h3 := List.all_eq_true.mp h2 (w, j) (List.mem_of_getElem? (i := j) (by rw [List.getElem?_zipIdx, hj]; simp))
  simp only [Bool.and_eq_true, decide_eq_true_eq] at h3
  exact ⟨h3.1.1, h3.1.2, z_wd_ok h3.2⟩
section ZK
variable {p : Program} {l : Launch} {e : Env} {R : Room} {s : State} {m : MethodId} {args : Array Value} {below : List Frame} {meth : Method} {c : Code} {Q : State → Prop} {s0 : State} {D : va_G} {cA : Nat → ClassId} {n0 u0 : Nat}
variable {M N : zM} {pc len : Nat} {L : zL} {S r : List Value} {q q1 : zS} {x : zX} {ps : List Nat} {A : List Value} {P : List zM}
/-- a call that throws -/
theorem zr_callX {i : Instr} {k j : Nat} (C : z_C p R s m args meth c M D cA) (hW : s0.WarmedH s.vm) (hLn : L.length = zm_n M) (hok : z_oke M (pc, i, len, x) ps = true) (hoc : z_okc P M i x ps = true) (hvk : z_vk i x = true) (h : z_cl i x S q = some (k, A, r)) (hN : P[k]? = some N) (con : z_Con l s0 D cA N A q (.inr j) q1)
    (hn0 : n0 ≤ q.2.1) (hu0 : u0 ≤ q.2.2) (hn1 : q.2.1 ≤ q1.2.1) (hu1 : q.2.2 ≤ q1.2.2) (hrc : q1.2.1 - n0 ≤ R.cells) (hrs : q1.2.2 - u0 ≤ R.slots)
    (kk : ∀ (H : Heap) (locs : List Loc) (ls : Array Slot) (a : Addr) (ce : Cell), z_R s0 D cA q1 H → (∀ z ∈ locs, s0.heap.size ≤ z.base) → z_has ls L → H[a]? = some ce → ce.vm = .none → s.vm.findClass (zex j) = some ce.cls → vx_W p l e R s m args below meth c H locs (q1.2.1 - n0) (q1.2.2 - u0) Q (F0 m pc ls r) a) :
    z_W p l e R s m args below meth c Q s0 D cA n0 u0 pc L S q := fun H locs ls hR hf hl => by
  have hcf : ∀ own, s.vm.findClass own = some m.cls → CallFix p m c (zm_b M) (zm_n M) s args [] own := fun own ho => ⟨C.1, C.2.1, C.2.2.1, ho, fun w hw => by cases hw⟩
  obtain ⟨hx, hb, hml, hown, hnm, hfr, hlo, ⟨hK, h99⟩, hlay, hcst, hno, hw⟩ := id C
  have hsz : ls.size = zm_n M := by rw [hl.1, hLn]
  simp only [z_oke, Bool.and_eq_true, Bool.or_eq_true, decide_eq_true_eq] at hok
  have hd := hok.1.1
  have hlen := hok.1.2
  have hroom : (q.2.1 - n0) + (q1.2.1 - q.2.1) ≤ R.cells ∧ (q.2.2 - u0) + (q1.2.2 - q.2.2) ≤ R.slots := ⟨by omega, by omega⟩
  have e1 : (q.2.1 - n0) + (q1.2.1 - q.2.1) = q1.2.1 - n0 := by omega
  have e2 : (q.2.2 - u0) + (q1.2.2 - q.2.2) = q1.2.2 - u0 := by omega
  unfold z_vk at hvk
  split at hvk
  next idx =>
    have hk0 := of_decide_eq_true hvk
    have hl3 : len = 3 := hlen.resolve_left (by simp [z_swi])
    subst hl3
    unfold z_cl at h
    simp only at h
    split at h
    next n t hx2 =>
      split at h
      next b r' hdr =>
        obtain ⟨hstk, hlen2⟩ := z_stk hdr
        split at h
        next o ho =>
          split at h
          next hwb =>
            have hw8 := lv_room (m := m) (pc := pc) (ls := ls) (rest := S) (z_wb_le hwb)
            try rw [if_pos hk0] at h
            split at h
            next ht =>
              cases h
              simp only [z_okc, hk0, if_true, hx2, ht, hN, Bool.and_eq_true, decide_eq_true_eq] at hoc
              obtain ⟨⟨⟨⟨⟨⟨g1, g2⟩, g3⟩, g4⟩, g5⟩, g6⟩, g7⟩ := hoc
              split at g7
              next rr hrr =>
                have hcls := of_decide_eq_true g7
                have hcw : CallW R s args (zm_y M).cls rr.1 idx (zm_y N) (zm_b N) (zm_n N) (zm_r N) [z_cw N] (z_rm N (q1.2.1 - q.2.1) (q1.2.2 - q.2.2)) (q1.2.1 - q.2.1) (q1.2.2 - q.2.2) n := ⟨z_cb C g2 g1 (hw _ (z_wd_ok g3).1 (z_wd_ok g3).2), hw _ (z_wd_ok g4).1 (z_wd_ok g4).2, by rw [hcls]; exact hw _ (z_wd_ok g5).1 (z_wd_ok g5).2⟩
                have run := vx_runV (hcf _ hown) con hcw (z_preV C hW hR ho g6 hrr) (e := e) (below := below) (meth := meth) (locs := locs) (g := F0 m pc ls S) rfl hlen2 hsz hstk hw8 hd hroom
                intro T hT X
                rcases run T hT X with ⟨v', st0, t, T', L', h0, X', hL, f1, f2, ⟨w, hw1, -⟩, -⟩ | ⟨a, st0, t, T', L', E, ce, h0, X', hL, f1, f2, ⟨k9, hk9, hE, hR1⟩, hce, hcv, hcl, st⟩
                · cases hw1
                · cases hk9
                  subst hE
                  rw [e1, e2] at X'
                  obtain ⟨t2, a1, b1⟩ := kk T'.heap (locs ++ L') ls a ce (by rw [f1]; exact hR1) (fun z hz => (List.mem_append.mp hz).elim (hf z) (hL z)) hl (by rw [f1]; exact hce) hcv hcl T' rfl X'
                  exact ⟨t2, st.trans a1, b1⟩
              next => cases g7
            next => cases h
          next => cases h
        next => cases h
      next => cases h
    next => cases h
  next => cases hvk
/-- caught: the exception is put away, and on -/
theorem zr_catch {a0 : Array Value} {TH : List (String × Nat × Nat × Nat)} {j g : Nat} {ph : List Nat} {q' : Instr × Nat × zX} {t : Nat × zL} (F : z_F l s0 a0 D cA) (T : z_T TH) (C : z_C p R s m args meth c M D cA) (hW : s0.WarmedH s.vm) (htab : c.exceptionTable.toList = tableOf (zm_h M)) (hj : j < 4)
    (hoh : z_okh M ph = true) (hrow : z_row (zm_h M) (zm_e M) pc j = some g) (hok : z_oke M (g, q') ps = true) (hput : z_put1 q' g L = some t) (kk : z_W p l e R s m args below meth c Q s0 D cA n0 u0 t.1 t.2 [] q1)
    (H : Heap) (locs : List Loc) (ls : Array Slot) (a : Addr) (ce : Cell) (hR : z_R s0 D cA q1 H) (hf : ∀ z ∈ locs, s0.heap.size ≤ z.base) (hl : z_has ls L) (hce : H[a]? = some ce) (hcv : ce.vm = .none) (hcl : s.vm.findClass (zex j) = some ce.cls) :
    vx_W p l e R s m args below meth c H locs (q1.2.1 - n0) (q1.2.2 - u0) Q (F0 m pc ls r) a := by
  obtain ⟨hst, htb, -, -, hex, -⟩ := F
  obtain ⟨-, -, t3, -⟩ := T
  obtain ⟨hx, hb, hml, hown, hnm, hfr, hlo, ⟨hK, h99⟩, hlay, hcst, hno, hw⟩ := C
  obtain ⟨hlen, hrows⟩ := z_okh_spec hoh
  obtain ⟨pre, x9, suf, e1, e2, e3, e4, e5⟩ := z_row_spec _ _ hrow
  have hsplit : c.exceptionTable.toList = tableOf (pre.map Prod.fst) ++ (⟨x9.1, x9.2.1, x9.2.2.1, x9.2.2.2⟩ : ExceptionTableEntry) :: tableOf (suf.map Prod.fst) := by
    rw [htab]
    have h9 : zm_h M = ((zm_h M).zip (zm_e M)).map Prod.fst := (List.map_fst_zip (Nat.le_of_eq hlen)).symm
    rw [h9, e1]
    simp [tableOf]
  have hx9 := hrows (x9, j) (by rw [e1]; simp)
  refine vx_catch hown _ _ _ hsplit (fun z hz => ?_) (by simp [covers, e2, e3]) hx9.1 (hw _ hx9.2.2.1 hx9.2.2.2) (hw _ (t3 j hj) rfl) hce hcv hcl ?_
  · simp only [tableOf, List.mem_map] at hz
    obtain ⟨w, ⟨w2, hw2, rfl⟩, rfl⟩ := hz
    rcases e5 w2 hw2 with h9 | h9
    · left
      simp only [covers, Bool.and_eq_false_iff, decide_eq_false_iff_not]
      by_cases h8 : w2.1.1 ≤ pc
      · exact Or.inr fun h7 => h9 ⟨h8, h7⟩
      · exact Or.inl h8
    · have hw3 := hrows w2 (by rw [e1]; exact List.mem_append_left _ hw2)
      exact Or.inr ⟨hw3.1, _, hw _ hw3.2.2.1 hw3.2.2.2, (hex j w2.2 hj hw3.2.1 (Ne.symm h9)).moved hW.alike⟩
  · show W p l e R s m args below meth c H locs (q1.2.1 - n0) (q1.2.2 - u0) Q (F0 m x9.2.2.1 ls [.ref a])
    rw [e4]
    simp only [z_oke, Bool.and_eq_true, Bool.or_eq_true, decide_eq_true_eq] at hok
    have hd := hok.1.1
    obtain ⟨i, len', x'⟩ := q'
    unfold z_put1 at hput
    simp only at hput hd
    split at hput
    next y9 =>
      split at hput
      next hc =>
        cases hput
        obtain ⟨h1, h2⟩ := hc
        rw [h2] at hd
        exact lv_astore_n hx hb hd rfl hl.prs h1 rfl (fun ls2 h3 => kk H locs ls2 hR hf (z_has.unset1 h1 h3))
      next => cases hput
    next y9 =>
      split at hput
      next hc =>
        cases hput
        obtain ⟨h1, h2⟩ := hc
        rw [h2] at hd
        exact lv_astore hx hb hd hl.prs h1 rfl (fun ls2 h3 => kk H locs ls2 hR hf (z_has.unset1 h1 h3))
      next => cases hput
    next => cases hput
theorem z_put1_len {q' : Instr × Nat × zX} {g : Nat} {t : Nat × zL} (h : z_put1 q' g L = some t) : t.2.length = L.length := by
  unfold z_put1 at h
  split at h
  · split at h
    · cases h; simp [z_kill_len]
    · cases h
  · split at h
    · cases h; simp [z_kill_len]
    · cases h
  · cases h
end ZK
/-- what is known of a run of the little machine -/
def z_Is (l : Launch) (s0 : State) (D : va_G) (cA : Nat → ClassId) (M : zM) (pc : Nat) (L : zL) (S : List Value) (q : zS) (o : zU) (q' : zS) : Prop :=
  (q.2.1 ≤ q'.2.1 ∧ q.2.2 ≤ q'.2.2 ∧ ∀ j, o = .inr j → j < 4) ∧
  ∀ (p : Program) (e : Env) (R : Room) (s : State) (m : MethodId) (args : Array Value) (below : List Frame) (meth : Method) (c : Code) (n0 u0 : Nat), z_C p R s m args meth c M D cA → meth.sig.returnType = zm_r M → meth.locks = false → c.exceptionTable.toList = tableOf (zm_h M) → s0.WarmedH s.vm → s0.heap.size ≤ s.heap.size → (∀ a : Nat, a < s0.heap.size → s.heap[a]? = s0.heap[a]?) → s.heap.size = n0 →
    n0 ≤ q.2.1 → u0 ≤ q.2.2 → q'.2.1 - n0 ≤ R.cells → q'.2.2 - u0 ≤ R.slots → z_W p l e R s m args below meth c (vx_MQ below (z_Qc s0 D cA o q') (z_XC s0 D cA o q') args s (q'.2.1 - n0) (q'.2.2 - u0) (z_free s0)) s0 D cA n0 u0 pc L S q
theorem z_con {l : Launch} {s0 : State} {a0 : Array Value} {D : va_G} {cA : Nat → ClassId} {TH : List (String × Nat × Nat × Nat)} (F : z_F l s0 a0 D cA) (T : z_T TH) {N : zM} {A : List Value} {q q1 : zS} {o : zU} (hpl : plainFor (zm_y N) = true) (hent : (z_ent A).length ≤ zm_n N) (h : z_Is l s0 D cA N 0 (z_ini (zm_n N) A) [] q o q1) : z_Con l s0 D cA N A q o q1 := by
  have key : ∀ (p : Program) (e : Env) (s : State) (m : MethodId) (args : Array Value) (below : List Frame) (meth : Method) (c : Code) (s₁ : State), BodyLoose p l (zm_y N) (headSpec [z_cw N] (z_rm N (q1.2.1 - q.2.1) (q1.2.2 - q.2.2))) (zm_b N) (zm_n N) (zm_r N) e s m args below meth c s₁ → c.maxLocals = zm_n N → c.exceptionTable.toList = tableOf (zm_h N) → z_Pc s0 D cA A q args s →
      W p l e (headSpec [z_cw N] (z_rm N (q1.2.1 - q.2.1) (q1.2.2 - q.2.2))).room s m args below meth c s.heap [] 0 0 (vx_MQ below (z_Qc s0 D cA o q1) (z_XC s0 D cA o q1) args s (q1.2.1 - q.2.1) (q1.2.2 - q.2.2) (z_free s0)) (entryFrame m args (zm_n N)) := by
    intro p e s m args below meth c s₁ B hml htab hP
    obtain ⟨rfl, hR, hW⟩ := hP
    have hC : z_C p (headSpec [z_cw N] (z_rm N (q1.2.1 - q.2.1) (q1.2.2 - q.2.2))).room s m A.toArray meth c N D cA := z_C_of F T hW B.exec B.bytes hml (findClass_of_methodNamed B.named) (name_of_methodNamed B.named B.method).1 (Nat.le_refl _) (Nat.le_refl _)
    have hw := h.2 p e _ s m A.toArray below meth c q.2.1 q.2.2 hC B.returns B.notSynchronized htab hW hR.1 hR.2.1 hR.2.2.1 (Nat.le_refl _) (Nat.le_refl _) (Nat.le_refl _) (Nat.le_refl _) s.heap [] _ hR (fun z hz => by cases hz) (z_ini_has hent)
    rw [lg_entry_eq]
    rw [Nat.sub_self, Nat.sub_self] at hw
    exact hw
  unfold z_Con
  by_cases hh : zm_h N = []
  · refine vx_ofW (cc := zm_b N) (maxL := zm_n N) (ret := zm_r N) hpl (ws' := []) (by rw [z_cw, if_pos hh]) ?_
    intro p e s m args below meth c s₁ B hml ht hP
    exact key p e s m args below meth c s₁ B hml (by
      rw [hh]
      cases hl : c.exceptionTable.toList with
      | nil => rfl
      | cons a b => exact (ht a (by rw [hl]; exact List.mem_cons_self)).elim) hP
  · refine vx_ofWH (cc := zm_b N) (maxL := zm_n N) (ret := zm_r N) (hh := zm_h N) hpl (ws' := []) (by rw [z_cw, if_neg hh]) ?_
    intro p e s m args below meth c s₁ B hml hP
    refine key p e s m args below meth c s₁ B hml ?_ hP
    have h9 := atoms_spec (ws := [z_cw N]) B.pre _ List.mem_cons_self
    rw [z_cw, if_neg hh] at h9
    exact vx_table (x := zm_y N) B h9
/-- THE LITTLE MACHINE IS SOUND -/
theorem z_main {l : Launch} {s0 : State} {a0 : Array Value} {D : va_G} {cA : Nat → ClassId} {TH : List (String × Nat × Nat × Nat)} {P : List zM} (F : z_F l s0 a0 D cA) (T : z_T TH) (OK : z_OK P TH) :
    ∀ (n k pc : Nat) (L : zL) (S : List Value) (q : zS) (o : zU) (q' : zS) (M : zM), z_rn P n k pc L S q = some (o, q') → P[k]? = some M → L.length = zm_n M → z_Is l s0 D cA M pc L S q o q' := by
  intro n
  induction n with
  | zero => intro k pc L S q o q' M h; simp [z_rn] at h
  | succ n ih =>
    intro k pc L S q o q' M h hM hLn
    obtain ⟨ph, pe, hokm⟩ := OK k M hM
    have hoh : z_okh M ph = true := by
      have := hokm
      unfold z_okm at this
      simp only [Bool.and_eq_true] at this
      exact this.1.1.1
    rw [z_rn, hM] at h
    simp only at h
    cases hq : z_ftc (zm_c M) pc with
    | none => rw [hq] at h; simp at h
    | some w =>
      rw [hq] at h
      simp only at h
      obtain ⟨ps, hoke, hokt, hokc⟩ := z_okm_at hokm hq
      obtain ⟨i, len, x⟩ := w
      simp only at h hoke hokt hokc
      cases hnx : z_nx i x pc len L S q with
      | some t =>
        rw [hnx] at h
        simp only at h
        obtain ⟨g1, g2, g3⟩ := z_nx_len hnx
        obtain ⟨⟨i1, i2, i3⟩, i4⟩ := ih k t.1 t.2.1 t.2.2.1 t.2.2.2 o q' M h hM (g1.trans hLn)
        refine ⟨⟨Nat.le_trans g2 i1, Nat.le_trans g3 i2, i3⟩, ?_⟩
        intro p e R s m args below meth c n0 u0 hC hr hlk htab hW hs1 hs2 hs3 hn0 hu0 hrc hrs
        exact z_next hC hLn hoke hn0 hu0 (by omega) (by omega) hnx (i4 p e R s m args below meth c n0 u0 hC hr hlk htab hW hs1 hs2 hs3 (by omega) (by omega) hrc hrs)
      | none =>
        rw [hnx] at h
        simp only at h
        cases hrt : z_rt (zm_r M) i S with
        | some v =>
          rw [hrt] at h
          simp only [Option.some.injEq, Prod.mk.injEq] at h
          obtain ⟨rfl, rfl⟩ := h
          refine ⟨⟨Nat.le_refl _, Nat.le_refl _, fun j hj => by cases hj⟩, ?_⟩
          intro p e R s m args below meth c n0 u0 hC hr hlk htab hW hs1 hs2 hs3 hn0 hu0 hrc hrs
          exact zr_ret hC hr hlk hoke hrt
        | none =>
          rw [hrt] at h
          simp only at h
          cases hth : z_th i x S q with
          | some t =>
            rw [hth] at h
            simp only at h
            split at h
            next hh =>
              simp only [Option.some.injEq, Prod.mk.injEq] at h
              obtain ⟨rfl, rfl⟩ := h
              have hmono : q.2.1 ≤ t.2.2.1 ∧ q.2.2 ≤ t.2.2.2 := by
                unfold z_th at hth
                split at hth
                · split at hth
                  · cases hth; exact ⟨Nat.le_add_right _ _, Nat.le_add_right _ _⟩
                  · cases hth
                · cases hth
              have hk4 : t.1 < 4 := by
                have h9 := hth
                unfold z_th at h9
                split at h9
                next idx =>
                  split at h9
                  next hc =>
                    cases h9
                    simp only [z_okt, Bool.or_eq_true, decide_eq_true_eq] at hokt
                    have hokt := hokt.resolve_left (by omega)
                    split at hokt
                    next ic wide hx2 =>
                      simp only [Bool.and_eq_true, decide_eq_true_eq] at hokt
                      exact (T.2.2.2 _ hokt.1.1.1.1.1.1).1
                    next => cases hokt
                  next => cases h9
                next => cases h9
              refine ⟨⟨hmono.1, hmono.2, fun j hj => by cases hj; exact hk4⟩, ?_⟩
              intro p e R s m args below meth c n0 u0 hC hr hlk htab hW hs1 hs2 hs3 hn0 hu0 hrc hrs
              exact (zr_throw F T hC hlk htab hW hLn hs1 hs2 hs3 hn0 hu0 hrc hrs hoke hokt hth).2
            next => cases h
          | none =>
            rw [hth] at h
            simp only at h
            cases hcl : z_cl i x S q with
            | none => rw [hcl] at h; simp at h
            | some w =>
              obtain ⟨k1, A, r⟩ := w
              rw [hcl] at h
              simp only at h
              cases hN : P[k1]? with
              | none => rw [hN] at h; simp at h
              | some N =>
                rw [hN] at h
                simp only at h
                split at h
                next hent =>
                  obtain ⟨phN, peN, hokN⟩ := OK k1 N hN
                  have hpl : plainFor (zm_y N) = true := by
                    have := hokN
                    unfold z_okm at this
                    simp only [Bool.and_eq_true] at this
                    exact this.1.1.2
                  cases hb : z_rn P n k1 0 (z_ini (zm_n N) A) [] q with
                  | none => rw [hb] at h; simp at h
                  | some w =>
                    obtain ⟨o1, q1⟩ := w
                    rw [hb] at h
                    have hI := ih k1 0 (z_ini (zm_n N) A) [] q o1 q1 N hb hN (z_ini_len hent)
                    have hcon := z_con F T hpl hent hI
                    obtain ⟨⟨b1, b2, b3⟩, -⟩ := hI
                    cases o1 with
                    | inl v =>
                      simp only at h
                      obtain ⟨⟨i1, i2, i3⟩, i4⟩ := ih k (pc + len) L (v.toList ++ r) q1 o q' M h hM hLn
                      refine ⟨⟨Nat.le_trans b1 i1, Nat.le_trans b2 i2, i3⟩, ?_⟩
                      intro p e R s m args below meth c n0 u0 hC hr hlk htab hW hs1 hs2 hs3 hn0 hu0 hrc hrs
                      exact zr_call hC hW hLn hoke hokc hcl hN hcon hn0 hu0 b1 b2 (by omega) (by omega) (i4 p e R s m args below meth c n0 u0 hC hr hlk htab hW hs1 hs2 hs3 (by omega) (by omega) hrc hrs)
                    | inr j =>
                      have hj4 : j < 4 := b3 j rfl
                      simp only at h
                      split at h
                      next hvk =>
                        split at h
                        next hh =>
                          simp only [Option.some.injEq, Prod.mk.injEq] at h
                          obtain ⟨rfl, rfl⟩ := h
                          refine ⟨⟨b1, b2, b3⟩, ?_⟩
                          intro p e R s m args below meth c n0 u0 hC hr hlk htab hW hs1 hs2 hs3 hn0 hu0 hrc hrs
                          refine zr_callX hC hW hLn hoke hokc hvk hcl hN hcon hn0 hu0 b1 b2 hrc hrs ?_
                          intro H locs ls a ce hR hf hl hce hcv hcls
                          exact vx_out (fun z hz => by rw [htab, hh] at hz; cases hz) hlk hce hcv hcls (fun t ht _ => ⟨j, rfl, rfl, by rw [ht]; exact hR⟩) hf (Nat.le_refl _) (Nat.le_refl _)
                        next hh =>
                          cases hro : z_row (zm_h M) (zm_e M) pc j with
                          | none => rw [hro] at h; simp at h
                          | some g =>
                            rw [hro] at h
                            simp only at h
                            cases hq' : z_ftc (zm_c M) g with
                            | none => rw [hq'] at h; simp at h
                            | some q9 =>
                              rw [hq'] at h
                              simp only at h
                              cases hp : z_put1 q9 g L with
                              | none => rw [hp] at h; simp at h
                              | some t =>
                                rw [hp] at h
                                simp only at h
                                obtain ⟨ps', hoke', -, -⟩ := z_okm_at hokm hq'
                                obtain ⟨⟨i1, i2, i3⟩, i4⟩ := ih k t.1 t.2 [] q1 o q' M h hM ((z_put1_len hp).trans hLn)
                                refine ⟨⟨Nat.le_trans b1 i1, Nat.le_trans b2 i2, i3⟩, ?_⟩
                                intro p e R s m args below meth c n0 u0 hC hr hlk htab hW hs1 hs2 hs3 hn0 hu0 hrc hrs
                                refine zr_callX hC hW hLn hoke hokc hvk hcl hN hcon hn0 hu0 b1 b2 (by omega) (by omega) ?_
                                intro H locs ls a ce hR hf hl hce hcv hcls
                                exact zr_catch F T hC hW htab hj4 hoh hro hoke' hp (i4 p e R s m args below meth c n0 u0 hC hr hlk htab hW hs1 hs2 hs3 (by omega) (by omega) hrc hrs) H locs ls a ce hR hf hl hce hcv hcls
                      next => cases h
                next => cases h
