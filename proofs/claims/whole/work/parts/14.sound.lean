/-! CALLS, and: what the little machine computes, the machine does -/
def z_Con (l : Launch) (s0 : State) (D : va_G) (cA : Nat → ClassId) (N : zM) (A : List Value) (q : zS) (o : zU) (q1 : zS) : Prop :=
  vx_Met l (zm_y N) [z_cw N] (z_rm N (q1.2.1 - q.2.1) (q1.2.2 - q.2.2)) (z_Pc s0 D cA A q) (z_Qc s0 D cA o q1) (z_XC s0 D cA o q1) (q1.2.1 - q.2.1) (q1.2.2 - q.2.2) (z_free s0)
theorem z_okb_spec {M N : zM} {n : Nat} {ps : List Nat} (h : z_okb M N n ps = true) : zm_f N + 1 ≤ zm_f M ∧ 8 + (zm_n N + 11) + zm_w N ≤ zm_w M ∧ plainFor (zm_y N) = true ∧ ((zm_y N).cls ≠ "java/lang/invoke/MethodHandle" ∧ (zm_y N).cls ≠ "java/lang/invoke/VarHandle") ∧
    (∀ sig, parseMethodDescriptor (zm_y N).desc = some sig → n = sig.parameters.length) ∧ (z_cw N ∈ lw_tbl ∧ z_gw (z_cw N) = true) ∧ (Jvm.Cond.initialized (zm_y N).cls ∈ lw_tbl ∧ z_gw (Jvm.Cond.initialized (zm_y N).cls) = true) := by
  unfold z_okb at h
  simp only [Bool.and_eq_true, decide_eq_true_eq] at h
  obtain ⟨⟨⟨⟨⟨⟨⟨h1, h2⟩, h3⟩, h4⟩, h5⟩, h6⟩, h7⟩, h8⟩ := h
  refine ⟨h1, h2, h3, ⟨h4, h5⟩, fun sig hs => ?_, z_wd_ok h7, z_wd_ok h8⟩
  rw [hs] at h6
  exact (Option.some.inj h6).symm
section ZG
variable {p : Program} {l : Launch} {e : Env} {R : Room} {s : State} {m : MethodId} {args : Array Value} {below : List Frame} {meth : Method} {c : Code} {Q : State → Prop} {s0 : State} {D : va_G} {cA : Nat → ClassId} {n0 u0 : Nat}
variable {M N : zM} {pc len : Nat} {L : zL} {S r : List Value} {q q1 : zS} {x : zX} {ps : List Nat} {A : List Value} {v : Option Value} {P : List zM}
theorem z_C_of {a0 : Array Value} {TH : List (String × Nat × Nat × Nat)} (F : z_F l s0 a0 D cA) (T : z_T TH) (hW : s0.WarmedH s.vm) (hx : p.tables.exec = Jvm.exec) (hb : c.code = zm_b M) (hml : c.maxLocals = zm_n M) (hown : s.vm.findClass (zm_y M).cls = some m.cls) (hnm : meth.name = (zm_y M).name) (hfr : zm_f M ≤ R.frames) (hlo : zm_w M ≤ R.locals) : z_C p R s m args meth c M D cA := by
  obtain ⟨hst, htb, ⟨hK, h99⟩, hno, hex, hU, hN, hstr⟩ := F
  obtain ⟨t1, t2, t3, t4⟩ := T
  have hw : ∀ w, w ∈ lw_tbl → z_gw w = true → w.before args s = true := fun w h1 h2 => z_word hW h2 (htb w h1)
  exact ⟨hx, hb, hml, hown, hnm, hfr, hlo, ⟨va_K.moved hW.alike hK, arrOfT_moved hW.alike h99⟩, fun i r hr w hw9 => hw w (t1 i r hr w hw9).1 (t1 i r hr w hw9).2, fun i hi rr hr => va_Nw.of rfl (hw _ (t2 i hi rr hr) (by rfl)), fun i hi j hj hij r1 r2 h1 h2 => (hno i hi j hj hij r1 r2 h1 h2).moved hW.alike, hw⟩
theorem z_goon {H : Heap} {locs : List Loc} {ls : Array Slot} {a : Array Value} {cells slots mc ms : Nat} (run : va_Run p l e R s m args below meth c H locs cells slots mc ms (F0 m pc ls S) r (z_Qc s0 D cA (.inl v) q1 a) (z_free s0)) (hf : ∀ z ∈ locs, s0.heap.size ≤ z.base) (hl : z_has ls L) (h1 : cells + mc = q1.2.1 - n0) (h2 : slots + ms = q1.2.2 - u0)
    (kk : z_W p l e R s m args below meth c Q s0 D cA n0 u0 (pc + 3) L (v.toList ++ r) q1) : W p l e R s m args below meth c H locs cells slots Q (F0 m pc ls S) := by
  intro T hT X
  obtain ⟨v', st0, t, T', L', h0, X', hL, e1, e2, ⟨w, hw1, hw2, hR1⟩, st⟩ := run T hT X
  cases hw1
  cases hw2
  rw [h1, h2] at X'
  obtain ⟨t2, a1, b1⟩ := kk T'.heap (locs ++ L') ls (by rw [e1]; exact hR1) (fun z hz => (List.mem_append.mp hz).elim (hf z) (hL z)) hl T' rfl X'
  exact ⟨t2, st t2 a1, b1⟩
theorem z_cb {idx n mc ms : Nat} (C : z_C p R s m args meth c M D cA) (hh : zm_h N = []) (hb : z_okb M N n ps = true) (hl : (Jvm.Cond.methodLink (zm_y M).cls idx (zm_y N)).before args s = true) :
    CallB R s args (zm_y M).cls idx (zm_y N) (zm_b N) (zm_n N) (zm_r N) [z_cw N] (z_rm N mc ms) mc ms n := by
  obtain ⟨h1, h2, h3, h4, h5, h6, h7⟩ := z_okb_spec hb
  obtain ⟨hx, hb, hml, hown, hnm, hfr, hlo, ⟨hK, h99⟩, hlay, hcst, hno, hw⟩ := C
  have hcw : z_cw N = .code (zm_y N) (zm_b N) (zm_n N) (zm_r N) := by rw [z_cw, if_pos hh]
  refine ⟨rfl, rfl, Nat.le_trans h1 hfr, Nat.le_trans h2 hlo, fun w hw9 a' U hU => ?_, by rw [hcw]; exact List.mem_cons_self, by rw [← hcw]; exact hw _ h6.1 h6.2, hw _ h7.1 h7.2, h4, h5, hl⟩
  rw [List.mem_singleton] at hw9
  subst hw9
  exact z_word hU h6.2 (hw _ h6.1 h6.2)
theorem z_pre (C : z_C p R s m args meth c M D cA) (hW : s0.WarmedH s.vm) {H : Heap} (hR : z_R s0 D cA q H) : PreS s H (z_Pc s0 D cA A q) A := ⟨z_Pc_blind, fun U hU hWU => ⟨rfl, by rw [hU]; exact hR, State.WarmedH.trans hW hWU⟩⟩
theorem z_preV (C : z_C p R s m args meth c M D cA) (hW : s0.WarmedH s.vm) {H : Heap} (hR : z_R s0 D cA q H) {b : Nat} {As : List Value} {o : zO} (ho : q.1 b = some o) (h90 : o.1 < 90) {rr : vw_C} (hc : zcl[o.1]? = some rr) : PreV s H rr.1 b (z_Pc s0 D cA (.ref b :: As) q) As := by
  obtain ⟨hx, hb, hml, hown, hnm, hfr, hlo, ⟨hK, h99⟩, -⟩ := C
  exact ⟨z_Pc_blind, z_is hK hR ho h90 hc, fun U hU hWU => ⟨rfl, by rw [hU]; exact hR, State.WarmedH.trans hW hWU⟩⟩
theorem z_stk {S r : List Value} {b n : Nat} (h : S.drop n = .ref b :: r) : S = ((S.take n).reverse).reverse ++ .ref b :: r ∧ ((S.take n).reverse).length = n := by
  refine ⟨by rw [List.reverse_reverse, ← h, List.take_append_drop], ?_⟩
  have : (S.drop n).length = S.length - n := List.length_drop
  rw [h] at this
  simp at this
  rw [List.length_reverse, List.length_take]
  omega
/-- a call that answers -/
theorem zr_call {i : Instr} {k : Nat} (C : z_C p R s m args meth c M D cA) (hW : s0.WarmedH s.vm) (hLn : L.length = zm_n M) (hok : z_oke M (pc, i, len, x) ps = true) (hoc : z_okc P M i x ps = true) (h : z_cl i x S q = some (k, A, r)) (hN : P[k]? = some N) (con : z_Con l s0 D cA N A q (.inl v) q1)
    (hn0 : n0 ≤ q.2.1) (hu0 : u0 ≤ q.2.2) (hn1 : q.2.1 ≤ q1.2.1) (hu1 : q.2.2 ≤ q1.2.2) (hrc : q1.2.1 - n0 ≤ R.cells) (hrs : q1.2.2 - u0 ≤ R.slots)
    (kk : z_W p l e R s m args below meth c Q s0 D cA n0 u0 (pc + len) L (v.toList ++ r) q1) : z_W p l e R s m args below meth c Q s0 D cA n0 u0 pc L S q := fun H locs ls hR hf hl => by
  have hmet : Met l (zm_y N) [z_cw N] (z_rm N (q1.2.1 - q.2.1) (q1.2.2 - q.2.2)) (z_Pc s0 D cA A q) (z_Qc s0 D cA (.inl v) q1) (q1.2.1 - q.2.1) (q1.2.2 - q.2.2) (z_free s0) := z_met con (fun E st t hx9 => by obtain ⟨k9, hk9, -⟩ := hx9; cases hk9)
  have hcf : ∀ own, s.vm.findClass own = some m.cls → CallFix p m c (zm_b M) (zm_n M) s args [] own := fun own ho => ⟨C.1, C.2.1, C.2.2.1, ho, fun w hw => by cases hw⟩
  obtain ⟨hx, hb, hml, hown, hnm, hfr, hlo, ⟨hK, h99⟩, hlay, hcst, hno, hw⟩ := id C
  have hsz : ls.size = zm_n M := by rw [hl.1, hLn]
  simp only [z_oke, Bool.and_eq_true, Bool.or_eq_true, decide_eq_true_eq] at hok
  have hd := hok.1.1
  have hlen := hok.1.2
  have hroom : (q.2.1 - n0) + (q1.2.1 - q.2.1) ≤ R.cells ∧ (q.2.2 - u0) + (q1.2.2 - q.2.2) ≤ R.slots := ⟨by omega, by omega⟩
  have e1 : (q.2.1 - n0) + (q1.2.1 - q.2.1) = q1.2.1 - n0 := by omega
  have e2 : (q.2.2 - u0) + (q1.2.2 - q.2.2) = q1.2.2 - u0 := by omega
  unfold z_cl at h
  split at h
  next idx =>
    have hl3 : len = 3 := hlen.resolve_left (by simp [z_swi])
    subst hl3
    split at h
    next n t hx2 =>
      split at h
      next b r' hdr =>
        obtain ⟨hstk, hlen2⟩ := z_stk hdr
        split at h
        next o ho =>
          split at h
          next hwb =>
            have hw8 := lv_room (m := m) (pc := pc) (ls := ls) (rest := S) (z_wb_le hwb)
            split at h
            next hk0 =>
              split at h
              next ht =>
                cases h
                simp only [z_okc, hk0, if_true, hx2, ht, hN, Bool.and_eq_true, decide_eq_true_eq] at hoc
                obtain ⟨⟨⟨⟨⟨⟨g1, g2⟩, g3⟩, g4⟩, g5⟩, g6⟩, g7⟩ := hoc
                split at g7
                next rr hrr =>
                  have hcls := of_decide_eq_true g7
                  have hcw : CallW R s args (zm_y M).cls rr.1 idx (zm_y N) (zm_b N) (zm_n N) (zm_r N) [z_cw N] (z_rm N (q1.2.1 - q.2.1) (q1.2.2 - q.2.2)) (q1.2.1 - q.2.1) (q1.2.2 - q.2.2) n := ⟨z_cb C g2 g1 (hw _ (z_wd_ok g3).1 (z_wd_ok g3).2), hw _ (z_wd_ok g4).1 (z_wd_ok g4).2, by rw [hcls]; exact hw _ (z_wd_ok g5).1 (z_wd_ok g5).2⟩
                  exact z_goon (va_runV (hcf _ hown) hmet hcw (z_preV C hW hR ho g6 hrr) rfl hlen2 hsz hstk hw8 hd hroom) hf hl e1 e2 kk
                next => cases g7
              next => cases h
            next hk0 =>
              split at h
              next hk1 =>
                split at h
                next k9 hk9 =>
                  cases h
                  simp only [z_okc, hk1.1, hx2] at hoc
                  rw [if_neg (by decide), if_pos trivial] at hoc
                  split at hoc
                  next ms9 heq =>
                    cases heq
                    simp only [Bool.and_eq_true] at hoc
                    obtain ⟨⟨⟨g1, g2⟩, g3⟩, g4⟩ := hoc
                    have g5 := List.all_eq_true.mp g4 o.1 hk1.2
                    rw [hk9] at g5
                    split at g5
                    next k8 rr hk8 hrr =>
                      cases hk8
                      rw [hN] at g5
                      simp only [Bool.and_eq_true, decide_eq_true_eq] at g5
                      obtain ⟨⟨⟨g6, g7⟩, g8⟩, g9⟩ := g5
                      obtain ⟨f1, f2, f3, f4, f5, f6, f7⟩ := z_okb_spec g6
                      have h90 : o.1 < 90 := by
                        have := hk1.2
                        simp [zth] at this
                        omega
                      have hcw9 : z_cw N = .code (zm_y N) (zm_b N) (zm_n N) (zm_r N) := by rw [z_cw, if_pos g7]
                      have hcu : va_CU R s args (zm_y M).cls rr.1 "ProcessorHouse$Thing" idx z_uses (zm_y N) (zm_b N) (zm_n N) (zm_r N) [z_cw N] (z_rm N (q1.2.1 - q.2.1) (q1.2.2 - q.2.2)) (q1.2.1 - q.2.1) (q1.2.2 - q.2.2) 1 := by
                        refine ⟨⟨rfl, rfl, Nat.le_trans f1 hfr, Nat.le_trans f2 hlo, fun w hw9 a' U hU => ?_, by rw [hcw9]; exact List.mem_cons_self⟩, by rw [← hcw9]; exact hw _ f6.1 f6.2, hw _ f7.1 f7.2, ⟨by decide, by decide⟩, fun sig hs => ?_, hw _ (z_wd_ok g1).1 (z_wd_ok g1).2, hw _ (z_wd_ok g2).1 (z_wd_ok g2).2, va_Decl.abs (va_Nw.of rfl (hw _ (z_wd_ok g3).1 (z_wd_ok g3).2)), hw _ (z_wd_ok g8).1 (z_wd_ok g8).2, hw _ (z_wd_ok g9).1 (z_wd_ok g9).2⟩
                        · rw [List.mem_singleton] at hw9
                          subst hw9
                          exact z_word hU f6.2 (hw _ f6.1 f6.2)
                        · have h8 : (parseMethodDescriptor z_uses.desc).map (fun d => d.parameters.length) = some 1 := by decide +kernel
                          rw [hs] at h8
                          exact (Option.some.inj h8).symm
                      exact z_goon (va_runU (hcf _ hown) hmet hcu (z_preV C hW hR ho h90 hrr) rfl hlen2 hsz hstk hw8 hd hroom) hf hl e1 e2 kk
                    next => cases g5
                  next => cases hoc
                next => cases h
              next => cases h
          next => cases h
        next => cases h
      next => cases h
    next => cases h
  next idx =>
    have hl3 : len = 3 := hlen.resolve_left (by simp [z_swi])
    subst hl3
    split at h
    next n hx2 =>
      split at h
      next hc =>
        obtain ⟨hk, hn9, hwb⟩ := hc
        cases h
        have hw8 := lv_room (m := m) (pc := pc) (ls := ls) (rest := S) (z_wb_le hwb)
        have hstk : S = ((S.take n).reverse).reverse ++ S.drop n := by rw [List.reverse_reverse, List.take_append_drop]
        have hlen2 : ((S.take n).reverse).length = n := by rw [List.length_reverse, List.length_take]; omega
        simp only [z_okc, hx2, hN] at hoc
        rw [if_neg (by omega)] at hoc
        simp only [Bool.and_eq_true] at hoc
        obtain ⟨⟨g1, g2⟩, g3⟩ := hoc
        split at g3
        next h2 =>
          simp only [Bool.and_eq_true, decide_eq_true_eq] at g3
          exact z_goon (va_runS (hcf _ hown) hmet ⟨z_cb C g3.1 g1 (hw _ (z_wd_ok g3.2).1 (z_wd_ok g3.2).2), hw _ (z_wd_ok g2).1 (z_wd_ok g2).2⟩ (z_pre C hW hR) rfl hlen2 hsz hstk hw8 hd hroom) hf hl e1 e2 kk
        next h2 =>
          obtain ⟨f1, f2, f3, f4, f5, f6, f7⟩ := z_okb_spec g1
          have hws : ∀ w ∈ [z_cw N], ∀ (a' : Array Value) (U : State), s.WarmedH U.vm → w.before a' U = true := fun w hw9 a' U hU => by
            rw [List.mem_singleton] at hw9
            subst hw9
            exact z_word hU f6.2 (hw _ f6.1 f6.2)
          split at g3
          next h4 =>
            simp only [Bool.and_eq_true, decide_eq_true_eq] at g3
            have hcw9 : z_cw N = .code (zm_y N) (zm_b N) (zm_n N) (zm_r N) := by rw [z_cw, if_pos g3.1]
            have hcn : va_CN R s args (zm_y M).cls idx (zm_y N) "ProcessorHouse" (zm_b N) (zm_n N) (zm_r N) [z_cw N] (z_rm N (q1.2.1 - q.2.1) (q1.2.2 - q.2.2)) (q1.2.1 - q.2.1) (q1.2.2 - q.2.2) n :=
              ⟨⟨rfl, rfl, Nat.le_trans f1 hfr, Nat.le_trans f2 hlo, hws, by rw [hcw9]; exact List.mem_cons_self⟩, by rw [← hcw9]; exact hw _ f6.1 f6.2, hw _ f7.1 f7.2, f4, f5, hw _ (z_wd_ok g3.2).1 (z_wd_ok g3.2).2⟩
            exact z_goon (va_runSN (hcf _ hown) hmet ⟨hcn, hw _ (z_wd_ok g2).1 (z_wd_ok g2).2, trivial⟩ (z_pre C hW hR) rfl hlen2 hsz hstk hw8 hd hroom) hf hl e1 e2 kk
          next h4 =>
            split at g3
            next h6 =>
              simp only [Bool.and_eq_true, decide_eq_true_eq] at g3
              have hcw9 : z_cw N = .codeWith (zm_y N) (zm_b N) (zm_n N) (zm_r N) (zm_h N) := by rw [z_cw, if_neg g3.1]
              have hcn : vx_CSW R s args (zm_y M).cls idx (zm_y N) (zm_b N) (zm_n N) (zm_r N) (zm_h N) [z_cw N] (z_rm N (q1.2.1 - q.2.1) (q1.2.2 - q.2.2)) (q1.2.1 - q.2.1) (q1.2.2 - q.2.2) n :=
                ⟨⟨rfl, rfl, Nat.le_trans f1 hfr, Nat.le_trans f2 hlo, hws, by rw [hcw9]; exact List.mem_cons_self⟩, by rw [← hcw9]; exact hw _ f6.1 f6.2, hw _ f7.1 f7.2, f4, f5, hw _ (z_wd_ok g3.2).1 (z_wd_ok g3.2).2, hw _ (z_wd_ok g2).1 (z_wd_ok g2).2⟩
              exact z_goon (vx_runSW (hcf _ hown) hmet hcn (z_pre C hW hR) rfl hlen2 hsz hstk hw8 hd hroom) hf hl e1 e2 kk
            next => cases g3
      next => cases h
    next => cases h
  next idx =>
    have hl3 : len = 3 := hlen.resolve_left (by simp [z_swi])
    subst hl3
    split at h
    next n hx2 =>
      split at h
      next b r' hdr =>
        obtain ⟨hstk, hlen2⟩ := z_stk hdr
        split at h
        next hc =>
          obtain ⟨hk, hwb⟩ := hc
          cases h
          have hw8 := lv_room (m := m) (pc := pc) (ls := ls) (rest := S) (z_wb_le hwb)
          simp only [z_okc, hx2, hN] at hoc
          rw [if_neg (by omega)] at hoc
          simp only [Bool.and_eq_true, decide_eq_true_eq] at hoc
          obtain ⟨⟨⟨⟨⟨g1, g2⟩, g3⟩, g4⟩, g5⟩, g6⟩ := hoc
          obtain ⟨f1, f2, f3, f4, f5, f6, f7⟩ := z_okb_spec g1
          split at g6
          next h3 =>
            have hcb := z_cb (mc := q1.2.1 - q.2.1) (ms := q1.2.2 - q.2.2) C g2 g1 (hw _ (z_wd_ok g6).1 (z_wd_ok g6).2)
            rw [g3] at hcb
            exact z_goon (va_runI (hcf _ hown) hmet ⟨hcb, g4, hw _ (z_wd_ok g5).1 (z_wd_ok g5).2⟩ (z_pre C hW hR) rfl hlen2 hsz hstk hw8 hd hroom) hf hl e1 e2 kk
          next h3 =>
            split at g6
            next h5 =>
              have hcw9 : z_cw N = .code (zm_y N) (zm_b N) (zm_n N) none := by rw [z_cw, if_pos g2, g3]
              have hcn : va_CN R s args (zm_y M).cls idx (zm_y N) "ProcessorHouse" (zm_b N) (zm_n N) none [z_cw N] (z_rm N (q1.2.1 - q.2.1) (q1.2.2 - q.2.2)) (q1.2.1 - q.2.1) (q1.2.2 - q.2.2) n :=
                ⟨⟨rfl, rfl, Nat.le_trans f1 hfr, Nat.le_trans f2 hlo, fun w hw9 a' U hU => by
                  rw [List.mem_singleton] at hw9
                  subst hw9
                  exact z_word hU f6.2 (hw _ f6.1 f6.2), by rw [hcw9]; exact List.mem_cons_self⟩, by rw [← hcw9]; exact hw _ f6.1 f6.2, hw _ f7.1 f7.2, f4, f5, hw _ (z_wd_ok g6).1 (z_wd_ok g6).2⟩
              exact z_goon (va_runIN (hcf _ hown) hmet ⟨hcn, g4, hw _ (z_wd_ok g5).1 (z_wd_ok g5).2⟩ (z_pre C hW hR) rfl hlen2 hsz hstk hw8 hd hroom) hf hl e1 e2 kk
            next => cases g6
        next => cases h
      next => cases h
    next => cases h
  next => cases h
end ZG
