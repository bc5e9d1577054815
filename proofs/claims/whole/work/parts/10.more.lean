/-! CONSTANTS, CASTS, Object's constructor, System.arraycopy, throws, answers -/
def zex : Nat → String := fun e => match e with
  | 0 => "java/lang/IllegalStateException"
  | 1 => "java/lang/IllegalArgumentException"
  | 2 => "java/lang/UnsupportedOperationException"
  | _ => "java/lang/IndexOutOfBoundsException"
/-- where a method may write: what came since the law began -/
def z_free (s0 : State) : Addr → Prop := fun a => s0.heap.size ≤ a
section ZM
variable {p : Program} {l : Launch} {e : Env} {R : Room} {s : State} {m : MethodId} {args : Array Value} {below : List Frame} {meth : Method} {c : Code} {Q : State → Prop} {s0 : State} {D : va_G} {cA : Nat → ClassId} {n0 u0 : Nat}
variable {cc : ByteArray} {pc : Nat} {L : zL} {S r : List Value} {q : zS} {own : String}
theorem zs_ldc (hx : p.tables.exec = Jvm.exec) (hb : c.code = cc) (hown : s.vm.findClass own = some m.cls) {idx : Nat} {v : Int32} (hc : (Cond.constant own idx v).before args s = true) (hd : decode cc pc = .ok (.ldc idx, 2))
    (k : z_W p l e R s m args below meth c Q s0 D cA n0 u0 (pc + 2) L (.int v :: S) q) : z_W p l e R s m args below meth c Q s0 D cA n0 u0 pc L S q := fun H locs ls hR hf hl => lv_ldc hx hb hown hc hd (k H locs ls hR hf hl)
theorem zs_ldc2 (hx : p.tables.exec = Jvm.exec) (hb : c.code = cc) (hown : s.vm.findClass own = some m.cls) {idx : Nat} {v : Int64} (hc : (Cond.constantLong own idx v).before args s = true) (hd : decode cc pc = .ok (.ldc2_w idx, 3))
    (k : z_W p l e R s m args below meth c Q s0 D cA n0 u0 (pc + 3) L (.long v :: S) q) : z_W p l e R s m args below meth c Q s0 D cA n0 u0 pc L S q := fun H locs ls hR hf hl => lv_ldc2 hx hb hown hc hd (k H locs ls hR hf hl)
theorem z_is (hK : va_K D zcl (z_tys cA) s) {H : Heap} (hR : z_R s0 D cA q H) {a : Nat} {o : zO} (ha : q.1 a = some o) (h90 : o.1 < 90) {rr : vw_C} (hc : zcl[o.1]? = some rr) : ∃ cell : Cell, H[a]? = some cell ∧ cell.vm.isStatics = false ∧ s.vm.findClass rr.1 = some cell.cls := by
  obtain ⟨r', h1, cell, q1, q2, q3, q4⟩ := z_obj_of (hR.2.2.2 a o ha).1 h90
  cases hc.symm.trans h1
  exact ⟨cell, q1, by rw [q3]; rfl, by rw [q2]; exact (hK.1 o.1 rr hc).2.1⟩
theorem zs_castY (hx : p.tables.exec = Jvm.exec) (hb : c.code = cc) (hown : s.vm.findClass own = some m.cls) (hK : va_K D zcl (z_tys cA) s) {a idx : Nat} {o : zO} (ha : q.1 a = some o) (h90 : o.1 < 90) {rr : vw_C} (hc : zcl[o.1]? = some rr) (hlink : (Cond.classLink own idx rr.1).before args s = true) (hd : decode cc pc = .ok (.checkcast idx, 3))
    (k : z_W p l e R s m args below meth c Q s0 D cA n0 u0 (pc + 3) L (.ref a :: r) q) : z_W p l e R s m args below meth c Q s0 D cA n0 u0 pc L (.ref a :: r) q := fun H locs ls hR hf hl => va_castS hx hb hown hlink (hK.1 o.1 rr hc).2 (z_is hK hR ha h90 hc) hd (k H locs ls hR hf hl)
theorem zs_castN (hx : p.tables.exec = Jvm.exec) (hb : c.code = cc) {idx : Nat} (hd : decode cc pc = .ok (.checkcast idx, 3))
    (k : z_W p l e R s m args below meth c Q s0 D cA n0 u0 (pc + 3) L (.null :: r) q) : z_W p l e R s m args below meth c Q s0 D cA n0 u0 pc L (.null :: r) q := fun H locs ls hR hf hl => lv_castN hx hb hd (k H locs ls hR hf hl)
theorem zs_instY (hx : p.tables.exec = Jvm.exec) (hb : c.code = cc) (hown : s.vm.findClass own = some m.cls) (hK : va_K D zcl (z_tys cA) s) {a idx : Nat} {o : zO} (ha : q.1 a = some o) (h90 : o.1 < 90) {rr : vw_C} (hc : zcl[o.1]? = some rr) (hlink : (Cond.classLink own idx rr.1).before args s = true) (hd : decode cc pc = .ok (.instanceof idx, 3))
    (k : z_W p l e R s m args below meth c Q s0 D cA n0 u0 (pc + 3) L (.int 1 :: r) q) : z_W p l e R s m args below meth c Q s0 D cA n0 u0 pc L (.ref a :: r) q := fun H locs ls hR hf hl => va_instS hx hb hown hlink (hK.1 o.1 rr hc).2 (z_is hK hR ha h90 hc) hd (k H locs ls hR hf hl)
theorem zs_instNo (hx : p.tables.exec = Jvm.exec) (hb : c.code = cc) (hown : s.vm.findClass own = some m.cls) (hK : va_K D zcl (z_tys cA) s) {a idx : Nat} {o : zO} {nm : String} (ha : q.1 a = some o) (h90 : o.1 < 90) {rr : vw_C} (hc : zcl[o.1]? = some rr) (hlink : (Cond.classLink own idx nm).before args s = true) (hno : va_Nc rr.1 nm s) (hd : decode cc pc = .ok (.instanceof idx, 3))
    (k : z_W p l e R s m args below meth c Q s0 D cA n0 u0 (pc + 3) L (.int 0 :: r) q) : z_W p l e R s m args below meth c Q s0 D cA n0 u0 pc L (.ref a :: r) q := fun H locs ls hR hf hl => va_instNo hx hb hown hlink hno (z_is hK hR ha h90 hc) hd (k H locs ls hR hf hl)
theorem zs_instN (hx : p.tables.exec = Jvm.exec) (hb : c.code = cc) {idx : Nat} (hd : decode cc pc = .ok (.instanceof idx, 3))
    (k : z_W p l e R s m args below meth c Q s0 D cA n0 u0 (pc + 3) L (.int 0 :: r) q) : z_W p l e R s m args below meth c Q s0 D cA n0 u0 pc L (.null :: r) q := fun H locs ls hR hf hl => lv_instN hx hb hd (k H locs ls hR hf hl)
theorem z_wb_le {S : List Value} (h : z_wb S = true) : (S.map fun v => v.category).sum ≤ 8 := by simpa [z_wb] using h
theorem zs_obj (hx : p.tables.exec = Jvm.exec) (hb : c.code = cc) (hown : s.vm.findClass own = some m.cls) (hLn : L.length = c.maxLocals) {a idx : Nat} (hlink : (Cond.methodLink own idx objectInit).before args s = true) (hinst : (Cond.instanceMethod objectInit).before args s = true) (hcode : (Cond.code objectInit ⟨#[0xb1]⟩ 1 none).before args s = true)
    (hw : z_wb r = true) (hfr : 1 ≤ R.frames) (hlo : 20 ≤ R.locals) (hd : decode cc pc = .ok (.invokespecial idx, 3)) (k : z_W p l e R s m args below meth c Q s0 D cA n0 u0 (pc + 3) L r q) : z_W p l e R s m args below meth c Q s0 D cA n0 u0 pc L (.ref a :: r) q := fun H locs ls hR hf hl => by
  have hw8 := z_wb_le hw
  exact W.objInit hx hb hown hlink hinst hcode rfl (by rw [← hLn]; exact hl.1) rfl hd hfr (by show 2 * 0 + _ + 12 ≤ _; omega) (k H locs ls hR hf hl)
theorem zs_cpy (hx : p.tables.exec = Jvm.exec) (hb : c.code = cc) (hown : s.vm.findClass own = some m.cls) (hLn : L.length = c.maxLocals) (hK : va_K D zcl (z_tys cA) s) {idx : Nat} (hlink : (Cond.methodLink own idx arraycopyName).before args s = true) (hnat : (Cond.native arraycopyName).before args s = true) (hstat : (Cond.static arraycopyName).before args s = true) (hini : (Cond.initialized "java/lang/System").before args s = true)
    {a0 a1 : Nat} {sp dp n : Int32} {q' : zS} (hc : z_cpy q a0 sp a1 dp n = some q') (hw : z_wb r = true) (hfr : 1 ≤ R.frames) (hlo : 8 + (nativeFrameWords "java/lang/System" "arraycopy" 5 + 11) ≤ R.locals) (hd : decode cc pc = .ok (.invokestatic idx, 3))
    (k : z_W p l e R s m args below meth c Q s0 D cA n0 u0 (pc + 3) L r q') : z_W p l e R s m args below meth c Q s0 D cA n0 u0 pc L (.int n :: .int dp :: .ref a1 :: .int sp :: .ref a0 :: r) q := fun H locs ls hR hf hl => by
  have hw8 := z_wb_le hw
  unfold z_cpy at hc
  split at hc
  next o0 o1 h0 h1 =>
    split at hc
    next hcond =>
      obtain ⟨t0, t1, h2, h3, h4, h5, h6, h7⟩ := hcond
      cases hc
      have nn : ∀ z : Int32, ¬ z < 0 → z.toInt = (z.toNatClampNeg : Int) := by
        intro z hz
        have hz0 : (0 : Int) ≤ z.toInt := by
          have := Int32.not_lt.mp hz
          simpa using Int32.le_iff_toInt_le.mp this
        show z.toInt = ((z.toInt.toNat : Nat) : Int)
        omega
      obtain ⟨b1, b2, b3⟩ := z_arr_of (hR.2.2.2 a0 o0 h0).1 (by omega)
      obtain ⟨d1, d2, d3⟩ := z_arr_of (hR.2.2.2 a1 o1 h1).1 (by omega)
      have hge := (hR.2.2.2 a1 o1 h1).2 (by omega)
      have ha0 := z_arrs hK b1 b2 o0.2.1 o0.2.2
      have ha1 := z_arrs hK d1 d2 o1.2.1 o1.2.2
      rw [show zaty o0.1 = .long by rw [t0]; rfl] at ha0
      rw [show zaty o1.1 = .long by rw [t1]; rfl] at ha1
      obtain ⟨-, k0, hk0, cm0, hkk0⟩ := ha0
      obtain ⟨-, k1, hk1, cm1, hkk1⟩ := ha1
      intro T hT X
      obtain ⟨vm', X', step⟩ := X.arraycopy hx hown hlink hnat hstat hini (src := a0) (dst := a1) (cs := arrV (cA o0.1) o0.2.1 o0.2.2) (cd := arrV (cA o1.1) o1.2.1 o1.2.2) (srcPos := sp) (destPos := dp) (n := n) (by rw [hT]; exact b3) (by rw [hT]; exact d3)
        (fun _ h => by cases h) (fun _ h => by cases h) (fun h => by cases h) (fun h => by cases h) hk0 hk1 hkk0 hkk1 (by decide) h2 h3 h4
        (by rw [nn sp h2, nn n h4, arrV_size]; omega) (by rw [nn dp h3, nn n h4, arrV_size]; omega)
        (fun vm₁ _ i hi => by
          have e9 : (arrV (cA o0.1) o0.2.1 o0.2.2).slots.getD (sp.toNatClampNeg + i) .null = o0.2.2 (sp.toNatClampNeg + i) := by
            rw [Array.getD_eq_getD_getElem?, arrV_read _ _ (by omega)]
            rfl
          rw [e9]
          have h8 := h7 i hi
          refine ⟨h8, ?_⟩
          cases hv : o0.2.2 (sp.toNatClampNeg + i) with
          | long x => exact trivial
          | int x => rw [hv] at h8; simp [fits] at h8
          | float x => rw [hv] at h8; simp [fits] at h8
          | double x => rw [hv] at h8; simp [fits] at h8
          | null => rw [hv] at h8; simp [fits] at h8
          | ref x => rw [hv] at h8; simp [fits] at h8
          | retAddr x => rw [hv] at h8; simp [fits] at h8)
        (g := F0 m pc ls (.int n :: .int dp :: .ref a1 :: .int sp :: .ref a0 :: r)) rfl (by rw [← hLn]; exact hl.1) (rest := r) rfl (by rw [hb]; exact hd) hfr (by show 2 * 0 + _ + _ ≤ _; omega)
      have e1 : copied (arrV (cA o0.1) o0.2.1 o0.2.2) (arrV (cA o1.1) o1.2.1 o1.2.2) sp dp n = arrV (cA o1.1) o1.2.1 (va_cpy o0.2.2 o1.2.2 sp.toNatClampNeg dp.toNatClampNeg n.toNatClampNeg) := va_copied (fun z : Value => z) (cA o0.1) (cA o1.1) o0.2.2 o1.2.2 h5
      rw [e1] at X' step
      have hlt : a1 < H.size := (Array.getElem?_eq_some_iff.mp d3).1
      have hheap : ((T.setVm vm').setCell a1 (arrV (cA o1.1) o1.2.1 (va_cpy o0.2.2 o1.2.2 sp.toNatClampNeg dp.toNatClampNeg n.toNatClampNeg))).heap = H.setIfInBounds a1 (arrV (cA o1.1) o1.2.1 (va_cpy o0.2.2 o1.2.2 sp.toNatClampNeg dp.toNatClampNeg n.toNatClampNeg)) := by rw [← hT]; rfl
      have hw9 := k (H.setIfInBounds a1 (arrV (cA o1.1) o1.2.1 (va_cpy o0.2.2 o1.2.2 sp.toNatClampNeg dp.toNatClampNeg n.toNatClampNeg))) (locs ++ ((arrV (cA o0.1) o0.2.1 o0.2.2).stretch sp.toNatClampNeg n.toNatClampNeg).zipIdx.map fun z => ⟨a1, dp.toNatClampNeg + z.2⟩) ls
        (hR.set (o' := (101, o1.2.1, va_cpy o0.2.2 o1.2.2 sp.toNatClampNeg dp.toNatClampNeg n.toNatClampNeg)) h1 (by omega) (Or.inr (Or.inl ⟨by show 100 ≤ 101; decide, by show 101 ≤ 104; decide, by
          show (H.setIfInBounds a1 _)[a1]? = _
          rw [← t1]
          simp [Array.getElem?_setIfInBounds, hlt]⟩)) (by show 101 ≠ 99; decide) (by simp) (fun b hb9 => by simp [Array.getElem?_setIfInBounds, Ne.symm hb9])) (fun z hz => by
          rcases List.mem_append.mp hz with h | h
          · exact hf z h
          · obtain ⟨w, -, hw9⟩ := List.mem_map.mp h
            rw [← hw9]
            exact hge) hl
      obtain ⟨t, a9, b9⟩ := hw9 _ hheap X'
      exact ⟨t, step t a9, b9⟩
    next => cases hc
  next => cases hc
end ZM
