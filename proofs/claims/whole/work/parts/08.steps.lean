/-! INSTRUCTIONS THAT GO ON WITHIN THE FRAME: what the little machine does, the machine does -/
def z_W (p : Program) (l : Launch) (e : Env) (R : Room) (s : State) (m : MethodId) (args : Array Value) (below : List Frame) (meth : Method) (c : Code) (Q : State → Prop) (s0 : State) (D : va_G) (cA : Nat → ClassId) (n0 u0 : Nat) (pc : Nat) (L : zL) (S : List Value) (q : zS) : Prop :=
  ∀ (H : Heap) (locs : List Loc) (ls : Array Slot), z_R s0 D cA q H → (∀ z ∈ locs, s0.heap.size ≤ z.base) → z_has ls L → W p l e R s m args below meth c H locs (q.2.1 - n0) (q.2.2 - u0) Q (F0 m pc ls S)
section ZS
variable {p : Program} {l : Launch} {e : Env} {R : Room} {s : State} {m : MethodId} {args : Array Value} {below : List Frame} {meth : Method} {c : Code} {Q : State → Prop} {s0 : State} {D : va_G} {cA : Nat → ClassId} {n0 u0 : Nat}
variable {cc : ByteArray} {pc : Nat} {L : zL} {S r : List Value} {q : zS}

theorem zs_iconst (hx : p.tables.exec = Jvm.exec) (hb : c.code = cc) {n : Int} (hd : decode cc pc = .ok (.iconst n, 1)) (k : z_W p l e R s m args below meth c Q s0 D cA n0 u0 (pc + 1) L (.int (Int32.ofInt n) :: S) q) : z_W p l e R s m args below meth c Q s0 D cA n0 u0 pc L S q := fun H locs ls hR hf hl => lv_iconst hx hb hd rfl (k H locs ls hR hf hl)
theorem zs_bipush (hx : p.tables.exec = Jvm.exec) (hb : c.code = cc) {n : Int} (hd : decode cc pc = .ok (.bipush n, 2)) (k : z_W p l e R s m args below meth c Q s0 D cA n0 u0 (pc + 2) L (.int (Int8.ofInt n).toInt32 :: S) q) : z_W p l e R s m args below meth c Q s0 D cA n0 u0 pc L S q := fun H locs ls hR hf hl => lv_bipush hx hb hd rfl (k H locs ls hR hf hl)
theorem zs_sipush (hx : p.tables.exec = Jvm.exec) (hb : c.code = cc) {n : Int} (hd : decode cc pc = .ok (.sipush n, 3)) (k : z_W p l e R s m args below meth c Q s0 D cA n0 u0 (pc + 3) L (.int (Int16.ofInt n).toInt32 :: S) q) : z_W p l e R s m args below meth c Q s0 D cA n0 u0 pc L S q := fun H locs ls hR hf hl => lv_sipush hx hb hd rfl (k H locs ls hR hf hl)
theorem zs_lconst (hx : p.tables.exec = Jvm.exec) (hb : c.code = cc) {n : Fin 2} (hd : decode cc pc = .ok (.lconst n, 1)) (k : z_W p l e R s m args below meth c Q s0 D cA n0 u0 (pc + 1) L (.long (Int64.ofNat (n : Nat)) :: S) q) : z_W p l e R s m args below meth c Q s0 D cA n0 u0 pc L S q := fun H locs ls hR hf hl => lv_lconst hx hb hd rfl (k H locs ls hR hf hl)
theorem zs_null (hx : p.tables.exec = Jvm.exec) (hb : c.code = cc)  (hd : decode cc pc = .ok (.aconst_null, 1)) (k : z_W p l e R s m args below meth c Q s0 D cA n0 u0 (pc + 1) L (.null :: S) q) : z_W p l e R s m args below meth c Q s0 D cA n0 u0 pc L S q := fun H locs ls hR hf hl => lv_null hx hb hd (k H locs ls hR hf hl)
theorem zs_iload_n (hx : p.tables.exec = Jvm.exec) (hb : c.code = cc) {j : Fin 4} {v : Int32} (hv : L[(j : Nat)]? = some (some (.int v))) (hd : decode cc pc = .ok (.iload_n j, 1)) (k : z_W p l e R s m args below meth c Q s0 D cA n0 u0 (pc + 1) L (.int v :: S) q) : z_W p l e R s m args below meth c Q s0 D cA n0 u0 pc L S q := fun H locs ls hR hf hl => lv_iload_n hx hb hd rfl (hl.2.2 _ _ hv) (k H locs ls hR hf hl)
theorem zs_iload (hx : p.tables.exec = Jvm.exec) (hb : c.code = cc) {j : Nat} {v : Int32} (hv : L[j]? = some (some (.int v))) (hd : decode cc pc = .ok (.iload j, 2)) (k : z_W p l e R s m args below meth c Q s0 D cA n0 u0 (pc + 2) L (.int v :: S) q) : z_W p l e R s m args below meth c Q s0 D cA n0 u0 pc L S q := fun H locs ls hR hf hl => lv_iload hx hb hd (hl.2.2 _ _ hv) (k H locs ls hR hf hl)
theorem zs_lload_n (hx : p.tables.exec = Jvm.exec) (hb : c.code = cc) {j : Fin 4} {v : Int64} (hv : L[(j : Nat)]? = some (some (.long v))) (hd : decode cc pc = .ok (.lload_n j, 1)) (k : z_W p l e R s m args below meth c Q s0 D cA n0 u0 (pc + 1) L (.long v :: S) q) : z_W p l e R s m args below meth c Q s0 D cA n0 u0 pc L S q := fun H locs ls hR hf hl => lv_lload_n hx hb hd rfl (hl.2.2 _ _ hv) (k H locs ls hR hf hl)
theorem zs_lload (hx : p.tables.exec = Jvm.exec) (hb : c.code = cc) {j : Nat} {v : Int64} (hv : L[j]? = some (some (.long v))) (hd : decode cc pc = .ok (.lload j, 2)) (k : z_W p l e R s m args below meth c Q s0 D cA n0 u0 (pc + 2) L (.long v :: S) q) : z_W p l e R s m args below meth c Q s0 D cA n0 u0 pc L S q := fun H locs ls hR hf hl => lv_lload hx hb hd (hl.2.2 _ _ hv) (k H locs ls hR hf hl)
theorem zs_aload_n (hx : p.tables.exec = Jvm.exec) (hb : c.code = cc) {j : Fin 4} {v : Nat} (hv : L[(j : Nat)]? = some (some (.ref v))) (hd : decode cc pc = .ok (.aload_n j, 1)) (k : z_W p l e R s m args below meth c Q s0 D cA n0 u0 (pc + 1) L (.ref v :: S) q) : z_W p l e R s m args below meth c Q s0 D cA n0 u0 pc L S q := fun H locs ls hR hf hl => lv_aload_n hx hb hd rfl (hl.2.2 _ _ hv) (k H locs ls hR hf hl)
theorem zs_aload (hx : p.tables.exec = Jvm.exec) (hb : c.code = cc) {j : Nat} {v : Nat} (hv : L[j]? = some (some (.ref v))) (hd : decode cc pc = .ok (.aload j, 2)) (k : z_W p l e R s m args below meth c Q s0 D cA n0 u0 (pc + 2) L (.ref v :: S) q) : z_W p l e R s m args below meth c Q s0 D cA n0 u0 pc L S q := fun H locs ls hR hf hl => lv_aload hx hb hd (hl.2.2 _ _ hv) (k H locs ls hR hf hl)
theorem zs_aload_nN (hx : p.tables.exec = Jvm.exec) (hb : c.code = cc) {j : Fin 4} (hv : L[(j : Nat)]? = some (some .null)) (hd : decode cc pc = .ok (.aload_n j, 1)) (k : z_W p l e R s m args below meth c Q s0 D cA n0 u0 (pc + 1) L (.null :: S) q) : z_W p l e R s m args below meth c Q s0 D cA n0 u0 pc L S q := fun H locs ls hR hf hl => lv_aload_nN hx hb hd rfl (hl.2.2 _ _ hv) (k H locs ls hR hf hl)
theorem zs_aloadN (hx : p.tables.exec = Jvm.exec) (hb : c.code = cc) {j : Nat} (hv : L[j]? = some (some .null)) (hd : decode cc pc = .ok (.aload j, 2)) (k : z_W p l e R s m args below meth c Q s0 D cA n0 u0 (pc + 2) L (.null :: S) q) : z_W p l e R s m args below meth c Q s0 D cA n0 u0 pc L S q := fun H locs ls hR hf hl => lv_aloadN hx hb hd (hl.2.2 _ _ hv) (k H locs ls hR hf hl)
theorem zs_istore_n (hx : p.tables.exec = Jvm.exec) (hb : c.code = cc) {j : Fin 4} {v : Int32} (hj : (j : Nat) < L.length) (hd : decode cc pc = .ok (.istore_n j, 1)) (k : z_W p l e R s m args below meth c Q s0 D cA n0 u0 (pc + 1) (z_set1 L j (.int v)) r q) : z_W p l e R s m args below meth c Q s0 D cA n0 u0 pc L (.int v :: r) q := fun H locs ls hR hf hl => lv_istore_n hx hb hd rfl hl.prs hj rfl (fun ls2 h2 => k H locs ls2 hR hf (z_has.set1 hj h2))
theorem zs_istore (hx : p.tables.exec = Jvm.exec) (hb : c.code = cc) {j : Nat} {v : Int32} (hj : j < L.length) (hd : decode cc pc = .ok (.istore j, 2)) (k : z_W p l e R s m args below meth c Q s0 D cA n0 u0 (pc + 2) (z_set1 L j (.int v)) r q) : z_W p l e R s m args below meth c Q s0 D cA n0 u0 pc L (.int v :: r) q := fun H locs ls hR hf hl => lv_istore hx hb hd hl.prs hj rfl (fun ls2 h2 => k H locs ls2 hR hf (z_has.set1 hj h2))
theorem zs_lstore_n (hx : p.tables.exec = Jvm.exec) (hb : c.code = cc) {j : Fin 4} {v : Int64} (hj : (j : Nat) + 1 < L.length) (hd : decode cc pc = .ok (.lstore_n j, 1)) (k : z_W p l e R s m args below meth c Q s0 D cA n0 u0 (pc + 1) (z_set2 L j (.long v)) r q) : z_W p l e R s m args below meth c Q s0 D cA n0 u0 pc L (.long v :: r) q := fun H locs ls hR hf hl => lv_lstore_n hx hb hd rfl hl.prs hj rfl (fun ls2 h2 => k H locs ls2 hR hf (z_has.set2 hj h2))
theorem zs_lstore (hx : p.tables.exec = Jvm.exec) (hb : c.code = cc) {j : Nat} {v : Int64} (hj : j + 1 < L.length) (hd : decode cc pc = .ok (.lstore j, 2)) (k : z_W p l e R s m args below meth c Q s0 D cA n0 u0 (pc + 2) (z_set2 L j (.long v)) r q) : z_W p l e R s m args below meth c Q s0 D cA n0 u0 pc L (.long v :: r) q := fun H locs ls hR hf hl => lv_lstore hx hb hd hl.prs hj rfl (fun ls2 h2 => k H locs ls2 hR hf (z_has.set2 hj h2))
theorem zs_astore_n (hx : p.tables.exec = Jvm.exec) (hb : c.code = cc) {j : Fin 4} {v : Nat} (hj : (j : Nat) < L.length) (hd : decode cc pc = .ok (.astore_n j, 1)) (k : z_W p l e R s m args below meth c Q s0 D cA n0 u0 (pc + 1) (z_set1 L j (.ref v)) r q) : z_W p l e R s m args below meth c Q s0 D cA n0 u0 pc L (.ref v :: r) q := fun H locs ls hR hf hl => lv_astore_n hx hb hd rfl hl.prs hj rfl (fun ls2 h2 => k H locs ls2 hR hf (z_has.set1 hj h2))
theorem zs_astore (hx : p.tables.exec = Jvm.exec) (hb : c.code = cc) {j : Nat} {v : Nat} (hj : j < L.length) (hd : decode cc pc = .ok (.astore j, 2)) (k : z_W p l e R s m args below meth c Q s0 D cA n0 u0 (pc + 2) (z_set1 L j (.ref v)) r q) : z_W p l e R s m args below meth c Q s0 D cA n0 u0 pc L (.ref v :: r) q := fun H locs ls hR hf hl => lv_astore hx hb hd hl.prs hj rfl (fun ls2 h2 => k H locs ls2 hR hf (z_has.set1 hj h2))
theorem zs_astoreN_n (hx : p.tables.exec = Jvm.exec) (hb : c.code = cc) {j : Fin 4}  (hj : (j : Nat) < L.length) (hd : decode cc pc = .ok (.astore_n j, 1)) (k : z_W p l e R s m args below meth c Q s0 D cA n0 u0 (pc + 1) (z_set1 L j (.null)) r q) : z_W p l e R s m args below meth c Q s0 D cA n0 u0 pc L (.null :: r) q := fun H locs ls hR hf hl => lv_astore_nN hx hb hd rfl hl.prs hj rfl (fun ls2 h2 => k H locs ls2 hR hf (z_has.set1 hj h2))
theorem zs_astoreN (hx : p.tables.exec = Jvm.exec) (hb : c.code = cc) {j : Nat}  (hj : j < L.length) (hd : decode cc pc = .ok (.astore j, 2)) (k : z_W p l e R s m args below meth c Q s0 D cA n0 u0 (pc + 2) (z_set1 L j (.null)) r q) : z_W p l e R s m args below meth c Q s0 D cA n0 u0 pc L (.null :: r) q := fun H locs ls hR hf hl => lv_astoreN hx hb hd hl.prs hj rfl (fun ls2 h2 => k H locs ls2 hR hf (z_has.set1 hj h2))
theorem zs_iinc (hx : p.tables.exec = Jvm.exec) (hb : c.code = cc) {j : Nat} {n : Int} {v : Int32} (hv : L[j]? = some (some (.int v))) (hd : decode cc pc = .ok (.iinc j n, 3)) (k : z_W p l e R s m args below meth c Q s0 D cA n0 u0 (pc + 3) (z_set1 L j (.int (v + Int32.ofInt n))) S q) : z_W p l e R s m args below meth c Q s0 D cA n0 u0 pc L S q := fun H locs ls hR hf hl => by
  obtain ⟨i, hi⟩ := List.getElem?_of_mem (z_prs_mem.mpr hv)
  have hj : j < L.length := (List.getElem?_eq_some_iff.mp hv).1
  exact lv_iinc hx hb hd hl.prs hi rfl hj rfl (fun ls2 h2 => k H locs ls2 hR hf (z_has.set1 hj h2))
theorem zs_iadd (hx : p.tables.exec = Jvm.exec) (hb : c.code = cc) {x y : Int32} (hd : decode cc pc = .ok (.iadd, 1)) (k : z_W p l e R s m args below meth c Q s0 D cA n0 u0 (pc + 1) L (.int (x + y) :: r) q) : z_W p l e R s m args below meth c Q s0 D cA n0 u0 pc L (.int y :: .int x :: r) q := fun H locs ls hR hf hl => lv_iadd hx hb hd (k H locs ls hR hf hl)
theorem zs_isub (hx : p.tables.exec = Jvm.exec) (hb : c.code = cc) {x y : Int32} (hd : decode cc pc = .ok (.isub, 1)) (k : z_W p l e R s m args below meth c Q s0 D cA n0 u0 (pc + 1) L (.int (x - y) :: r) q) : z_W p l e R s m args below meth c Q s0 D cA n0 u0 pc L (.int y :: .int x :: r) q := fun H locs ls hR hf hl => lv_isub hx hb hd (k H locs ls hR hf hl)
theorem zs_imul (hx : p.tables.exec = Jvm.exec) (hb : c.code = cc) {x y : Int32} (hd : decode cc pc = .ok (.imul, 1)) (k : z_W p l e R s m args below meth c Q s0 D cA n0 u0 (pc + 1) L (.int (x * y) :: r) q) : z_W p l e R s m args below meth c Q s0 D cA n0 u0 pc L (.int y :: .int x :: r) q := fun H locs ls hR hf hl => lv_imul hx hb hd (k H locs ls hR hf hl)
theorem zs_iand (hx : p.tables.exec = Jvm.exec) (hb : c.code = cc) {x y : Int32} (hd : decode cc pc = .ok (.iand, 1)) (k : z_W p l e R s m args below meth c Q s0 D cA n0 u0 (pc + 1) L (.int (x &&& y) :: r) q) : z_W p l e R s m args below meth c Q s0 D cA n0 u0 pc L (.int y :: .int x :: r) q := fun H locs ls hR hf hl => lv_iand hx hb hd (k H locs ls hR hf hl)
theorem zs_ixor (hx : p.tables.exec = Jvm.exec) (hb : c.code = cc) {x y : Int32} (hd : decode cc pc = .ok (.ixor, 1)) (k : z_W p l e R s m args below meth c Q s0 D cA n0 u0 (pc + 1) L (.int (x ^^^ y) :: r) q) : z_W p l e R s m args below meth c Q s0 D cA n0 u0 pc L (.int y :: .int x :: r) q := fun H locs ls hR hf hl => lv_ixor hx hb hd (k H locs ls hR hf hl)
theorem zs_ladd (hx : p.tables.exec = Jvm.exec) (hb : c.code = cc) {x y : Int64} (hd : decode cc pc = .ok (.ladd, 1)) (k : z_W p l e R s m args below meth c Q s0 D cA n0 u0 (pc + 1) L (.long (x + y) :: r) q) : z_W p l e R s m args below meth c Q s0 D cA n0 u0 pc L (.long y :: .long x :: r) q := fun H locs ls hR hf hl => lv_ladd hx hb hd (k H locs ls hR hf hl)
theorem zs_lsub (hx : p.tables.exec = Jvm.exec) (hb : c.code = cc) {x y : Int64} (hd : decode cc pc = .ok (.lsub, 1)) (k : z_W p l e R s m args below meth c Q s0 D cA n0 u0 (pc + 1) L (.long (x - y) :: r) q) : z_W p l e R s m args below meth c Q s0 D cA n0 u0 pc L (.long y :: .long x :: r) q := fun H locs ls hR hf hl => lv_lsub hx hb hd (k H locs ls hR hf hl)
theorem zs_lmul (hx : p.tables.exec = Jvm.exec) (hb : c.code = cc) {x y : Int64} (hd : decode cc pc = .ok (.lmul, 1)) (k : z_W p l e R s m args below meth c Q s0 D cA n0 u0 (pc + 1) L (.long (x * y) :: r) q) : z_W p l e R s m args below meth c Q s0 D cA n0 u0 pc L (.long y :: .long x :: r) q := fun H locs ls hR hf hl => lv_lmul hx hb hd (k H locs ls hR hf hl)
theorem zs_land (hx : p.tables.exec = Jvm.exec) (hb : c.code = cc) {x y : Int64} (hd : decode cc pc = .ok (.land, 1)) (k : z_W p l e R s m args below meth c Q s0 D cA n0 u0 (pc + 1) L (.long (x &&& y) :: r) q) : z_W p l e R s m args below meth c Q s0 D cA n0 u0 pc L (.long y :: .long x :: r) q := fun H locs ls hR hf hl => lv_land hx hb hd (k H locs ls hR hf hl)
theorem zs_lxor (hx : p.tables.exec = Jvm.exec) (hb : c.code = cc) {x y : Int64} (hd : decode cc pc = .ok (.lxor, 1)) (k : z_W p l e R s m args below meth c Q s0 D cA n0 u0 (pc + 1) L (.long (x ^^^ y) :: r) q) : z_W p l e R s m args below meth c Q s0 D cA n0 u0 pc L (.long y :: .long x :: r) q := fun H locs ls hR hf hl => lv_lxor hx hb hd (k H locs ls hR hf hl)
theorem zs_irem (hx : p.tables.exec = Jvm.exec) (hb : c.code = cc) {x y : Int32} (hy : ¬ y = 0) (hd : decode cc pc = .ok (.irem, 1)) (k : z_W p l e R s m args below meth c Q s0 D cA n0 u0 (pc + 1) L (.int (x - x / y * y) :: r) q) : z_W p l e R s m args below meth c Q s0 D cA n0 u0 pc L (.int y :: .int x :: r) q := fun H locs ls hR hf hl => lv_irem hx hb hd hy (k H locs ls hR hf hl)
theorem zs_lrem (hx : p.tables.exec = Jvm.exec) (hb : c.code = cc) {x y : Int64} (hy : ¬ y = 0) (hd : decode cc pc = .ok (.lrem, 1)) (k : z_W p l e R s m args below meth c Q s0 D cA n0 u0 (pc + 1) L (.long (x - x / y * y) :: r) q) : z_W p l e R s m args below meth c Q s0 D cA n0 u0 pc L (.long y :: .long x :: r) q := fun H locs ls hR hf hl => lv_lrem hx hb hd hy (k H locs ls hR hf hl)
theorem zs_lshl (hx : p.tables.exec = Jvm.exec) (hb : c.code = cc) {x : Int64} {y : Int32} (hd : decode cc pc = .ok (.lshl, 1)) (k : z_W p l e R s m args below meth c Q s0 D cA n0 u0 (pc + 1) L (.long (x <<< (y.toInt64 &&& 63)) :: r) q) : z_W p l e R s m args below meth c Q s0 D cA n0 u0 pc L (.int y :: .long x :: r) q := fun H locs ls hR hf hl => lv_lshl hx hb hd rfl (k H locs ls hR hf hl)
theorem zs_lushr (hx : p.tables.exec = Jvm.exec) (hb : c.code = cc) {x : Int64} {y : Int32} (hd : decode cc pc = .ok (.lushr, 1)) (k : z_W p l e R s m args below meth c Q s0 D cA n0 u0 (pc + 1) L (.long (x.toUInt64 >>> (y.toInt64.toUInt64 &&& Int64.toUInt64 63)).toInt64 :: r) q) : z_W p l e R s m args below meth c Q s0 D cA n0 u0 pc L (.int y :: .long x :: r) q := fun H locs ls hR hf hl => lv_lushr hx hb hd rfl (k H locs ls hR hf hl)
theorem zs_i2l (hx : p.tables.exec = Jvm.exec) (hb : c.code = cc) {x : Int32} (hd : decode cc pc = .ok (.i2l, 1)) (k : z_W p l e R s m args below meth c Q s0 D cA n0 u0 (pc + 1) L (.long x.toInt64 :: r) q) : z_W p l e R s m args below meth c Q s0 D cA n0 u0 pc L (.int x :: r) q := fun H locs ls hR hf hl => lv_i2l hx hb hd rfl (k H locs ls hR hf hl)
theorem zs_l2i (hx : p.tables.exec = Jvm.exec) (hb : c.code = cc) {x : Int64} (hd : decode cc pc = .ok (.l2i, 1)) (k : z_W p l e R s m args below meth c Q s0 D cA n0 u0 (pc + 1) L (.int x.toInt32 :: r) q) : z_W p l e R s m args below meth c Q s0 D cA n0 u0 pc L (.long x :: r) q := fun H locs ls hR hf hl => lv_l2i hx hb hd rfl (k H locs ls hR hf hl)
theorem zs_lcmp (hx : p.tables.exec = Jvm.exec) (hb : c.code = cc) {x y : Int64} (hd : decode cc pc = .ok (.lcmp, 1)) (k : z_W p l e R s m args below meth c Q s0 D cA n0 u0 (pc + 1) L (.int (lg_cmp x y) :: r) q) : z_W p l e R s m args below meth c Q s0 D cA n0 u0 pc L (.long y :: .long x :: r) q := fun H locs ls hR hf hl => W.lcmp hx hb hd (k H locs ls hR hf hl)
theorem zs_dup (hx : p.tables.exec = Jvm.exec) (hb : c.code = cc) {v : Value} (hv : v.category = 1) (hd : decode cc pc = .ok (.dup, 1)) (k : z_W p l e R s m args below meth c Q s0 D cA n0 u0 (pc + 1) L (v :: v :: r) q) : z_W p l e R s m args below meth c Q s0 D cA n0 u0 pc L (v :: r) q := fun H locs ls hR hf hl => lv_dup hx hb hd hv (k H locs ls hR hf hl)
theorem zs_pop (hx : p.tables.exec = Jvm.exec) (hb : c.code = cc) {v : Value} (hv : v.category = 1) (hd : decode cc pc = .ok (.pop, 1)) (k : z_W p l e R s m args below meth c Q s0 D cA n0 u0 (pc + 1) L (r) q) : z_W p l e R s m args below meth c Q s0 D cA n0 u0 pc L (v :: r) q := fun H locs ls hR hf hl => lv_pop hx hb hd hv (k H locs ls hR hf hl)
theorem zs_dup2 (hx : p.tables.exec = Jvm.exec) (hb : c.code = cc) {v w : Value} (hv : v.category = 1) (hw : w.category = 1) (hd : decode cc pc = .ok (.dup2, 1)) (k : z_W p l e R s m args below meth c Q s0 D cA n0 u0 (pc + 1) L (v :: w :: v :: w :: r) q) : z_W p l e R s m args below meth c Q s0 D cA n0 u0 pc L (v :: w :: r) q := fun H locs ls hR hf hl => lv_dup2_11 hx hb hd hv hw (k H locs ls hR hf hl)
theorem zs_to {o : Int} {t : zN} (h : z_to pc o L S q = some t) : (pc : Int) + o = (t.1 : Int) ∧ t.2 = (L, S, q) := by
  unfold z_to at h
  split at h
  next h0 => cases h; exact ⟨by simp; omega, rfl⟩
  next => cases h
theorem zs_br {b : Bool} {o : Int} {t : zN} {len : Nat} (h : z_br b pc len o L S q = some t) : (pc : Int) + o = ((((pc : Int) + o).toNat : Nat) : Int) ∧ t = (if b = true then ((pc : Int) + o).toNat else pc + len, L, S, q) := by
  unfold z_br at h
  split at h
  next h0 => cases h; exact ⟨by omega, rfl⟩
  next => cases h
theorem zs_if_eq (hx : p.tables.exec = Jvm.exec) (hb : c.code = cc) {x : Int32} {o : Int} {t : zN} (hd : decode cc pc = .ok (.ifCond .eq o, 3)) (h : z_br (z_cc .eq x 0) pc 3 o L r q = some t) (k : z_W p l e R s m args below meth c Q s0 D cA n0 u0 t.1 t.2.1 t.2.2.1 t.2.2.2) : z_W p l e R s m args below meth c Q s0 D cA n0 u0 pc L (.int x :: r) q := fun H locs ls hR hf hl => by
  obtain ⟨e1, rfl⟩ := zs_br h
  simp only at k
  refine lv_if_eq hx hb hd e1 (fun hc => ?_) (fun hc => ?_)
  · rw [if_pos (by simpa [z_cc] using hc)] at k
    exact k H locs ls hR hf hl
  · rw [if_neg (by simpa [z_cc] using hc)] at k
    exact k H locs ls hR hf hl
theorem zs_icmp_eq (hx : p.tables.exec = Jvm.exec) (hb : c.code = cc) {x y : Int32} {o : Int} {t : zN} (hd : decode cc pc = .ok (.if_icmp .eq o, 3)) (h : z_br (z_cc .eq x y) pc 3 o L r q = some t) (k : z_W p l e R s m args below meth c Q s0 D cA n0 u0 t.1 t.2.1 t.2.2.1 t.2.2.2) : z_W p l e R s m args below meth c Q s0 D cA n0 u0 pc L (.int y :: .int x :: r) q := fun H locs ls hR hf hl => by
  obtain ⟨e1, rfl⟩ := zs_br h
  simp only at k
  refine lv_icmp_eq hx hb hd e1 (fun hc => ?_) (fun hc => ?_)
  · rw [if_pos (by simpa [z_cc] using hc)] at k
    exact k H locs ls hR hf hl
  · rw [if_neg (by simpa [z_cc] using hc)] at k
    exact k H locs ls hR hf hl
theorem zs_if_ne (hx : p.tables.exec = Jvm.exec) (hb : c.code = cc) {x : Int32} {o : Int} {t : zN} (hd : decode cc pc = .ok (.ifCond .ne o, 3)) (h : z_br (z_cc .ne x 0) pc 3 o L r q = some t) (k : z_W p l e R s m args below meth c Q s0 D cA n0 u0 t.1 t.2.1 t.2.2.1 t.2.2.2) : z_W p l e R s m args below meth c Q s0 D cA n0 u0 pc L (.int x :: r) q := fun H locs ls hR hf hl => by
  obtain ⟨e1, rfl⟩ := zs_br h
  simp only at k
  refine lv_if_ne hx hb hd e1 (fun hc => ?_) (fun hc => ?_)
  · rw [if_pos (by simpa [z_cc] using hc)] at k
    exact k H locs ls hR hf hl
  · rw [if_neg (by simpa [z_cc] using hc)] at k
    exact k H locs ls hR hf hl
theorem zs_icmp_ne (hx : p.tables.exec = Jvm.exec) (hb : c.code = cc) {x y : Int32} {o : Int} {t : zN} (hd : decode cc pc = .ok (.if_icmp .ne o, 3)) (h : z_br (z_cc .ne x y) pc 3 o L r q = some t) (k : z_W p l e R s m args below meth c Q s0 D cA n0 u0 t.1 t.2.1 t.2.2.1 t.2.2.2) : z_W p l e R s m args below meth c Q s0 D cA n0 u0 pc L (.int y :: .int x :: r) q := fun H locs ls hR hf hl => by
  obtain ⟨e1, rfl⟩ := zs_br h
  simp only at k
  refine lv_icmp_ne hx hb hd e1 (fun hc => ?_) (fun hc => ?_)
  · rw [if_pos (by simpa [z_cc] using hc)] at k
    exact k H locs ls hR hf hl
  · rw [if_neg (by simpa [z_cc] using hc)] at k
    exact k H locs ls hR hf hl
theorem zs_if_lt (hx : p.tables.exec = Jvm.exec) (hb : c.code = cc) {x : Int32} {o : Int} {t : zN} (hd : decode cc pc = .ok (.ifCond .lt o, 3)) (h : z_br (z_cc .lt x 0) pc 3 o L r q = some t) (k : z_W p l e R s m args below meth c Q s0 D cA n0 u0 t.1 t.2.1 t.2.2.1 t.2.2.2) : z_W p l e R s m args below meth c Q s0 D cA n0 u0 pc L (.int x :: r) q := fun H locs ls hR hf hl => by
  obtain ⟨e1, rfl⟩ := zs_br h
  simp only at k
  refine lv_if_lt hx hb hd e1 (fun hc => ?_) (fun hc => ?_)
  · rw [if_pos (by simpa [z_cc] using hc)] at k
    exact k H locs ls hR hf hl
  · rw [if_neg (by simpa [z_cc] using hc)] at k
    exact k H locs ls hR hf hl
theorem zs_icmp_lt (hx : p.tables.exec = Jvm.exec) (hb : c.code = cc) {x y : Int32} {o : Int} {t : zN} (hd : decode cc pc = .ok (.if_icmp .lt o, 3)) (h : z_br (z_cc .lt x y) pc 3 o L r q = some t) (k : z_W p l e R s m args below meth c Q s0 D cA n0 u0 t.1 t.2.1 t.2.2.1 t.2.2.2) : z_W p l e R s m args below meth c Q s0 D cA n0 u0 pc L (.int y :: .int x :: r) q := fun H locs ls hR hf hl => by
  obtain ⟨e1, rfl⟩ := zs_br h
  simp only at k
  refine lv_icmp_lt hx hb hd e1 (fun hc => ?_) (fun hc => ?_)
  · rw [if_pos (by simpa [z_cc] using hc)] at k
    exact k H locs ls hR hf hl
  · rw [if_neg (by simpa [z_cc] using hc)] at k
    exact k H locs ls hR hf hl
theorem zs_if_ge (hx : p.tables.exec = Jvm.exec) (hb : c.code = cc) {x : Int32} {o : Int} {t : zN} (hd : decode cc pc = .ok (.ifCond .ge o, 3)) (h : z_br (z_cc .ge x 0) pc 3 o L r q = some t) (k : z_W p l e R s m args below meth c Q s0 D cA n0 u0 t.1 t.2.1 t.2.2.1 t.2.2.2) : z_W p l e R s m args below meth c Q s0 D cA n0 u0 pc L (.int x :: r) q := fun H locs ls hR hf hl => by
  obtain ⟨e1, rfl⟩ := zs_br h
  simp only at k
  refine lv_if_ge hx hb hd e1 (fun hc => ?_) (fun hc => ?_)
  · rw [if_pos (by simpa [z_cc] using hc)] at k
    exact k H locs ls hR hf hl
  · rw [if_neg (by simpa [z_cc] using hc)] at k
    exact k H locs ls hR hf hl
theorem zs_icmp_ge (hx : p.tables.exec = Jvm.exec) (hb : c.code = cc) {x y : Int32} {o : Int} {t : zN} (hd : decode cc pc = .ok (.if_icmp .ge o, 3)) (h : z_br (z_cc .ge x y) pc 3 o L r q = some t) (k : z_W p l e R s m args below meth c Q s0 D cA n0 u0 t.1 t.2.1 t.2.2.1 t.2.2.2) : z_W p l e R s m args below meth c Q s0 D cA n0 u0 pc L (.int y :: .int x :: r) q := fun H locs ls hR hf hl => by
  obtain ⟨e1, rfl⟩ := zs_br h
  simp only at k
  refine lv_icmp_ge hx hb hd e1 (fun hc => ?_) (fun hc => ?_)
  · rw [if_pos (by simpa [z_cc] using hc)] at k
    exact k H locs ls hR hf hl
  · rw [if_neg (by simpa [z_cc] using hc)] at k
    exact k H locs ls hR hf hl
theorem zs_if_gt (hx : p.tables.exec = Jvm.exec) (hb : c.code = cc) {x : Int32} {o : Int} {t : zN} (hd : decode cc pc = .ok (.ifCond .gt o, 3)) (h : z_br (z_cc .gt x 0) pc 3 o L r q = some t) (k : z_W p l e R s m args below meth c Q s0 D cA n0 u0 t.1 t.2.1 t.2.2.1 t.2.2.2) : z_W p l e R s m args below meth c Q s0 D cA n0 u0 pc L (.int x :: r) q := fun H locs ls hR hf hl => by
  obtain ⟨e1, rfl⟩ := zs_br h
  simp only at k
  refine lv_if_gt hx hb hd e1 (fun hc => ?_) (fun hc => ?_)
  · rw [if_pos (by simpa [z_cc] using hc)] at k
    exact k H locs ls hR hf hl
  · rw [if_neg (by simpa [z_cc] using hc)] at k
    exact k H locs ls hR hf hl
theorem zs_icmp_gt (hx : p.tables.exec = Jvm.exec) (hb : c.code = cc) {x y : Int32} {o : Int} {t : zN} (hd : decode cc pc = .ok (.if_icmp .gt o, 3)) (h : z_br (z_cc .gt x y) pc 3 o L r q = some t) (k : z_W p l e R s m args below meth c Q s0 D cA n0 u0 t.1 t.2.1 t.2.2.1 t.2.2.2) : z_W p l e R s m args below meth c Q s0 D cA n0 u0 pc L (.int y :: .int x :: r) q := fun H locs ls hR hf hl => by
  obtain ⟨e1, rfl⟩ := zs_br h
  simp only at k
  refine lv_icmp_gt hx hb hd e1 (fun hc => ?_) (fun hc => ?_)
  · rw [if_pos (by simpa [z_cc] using hc)] at k
    exact k H locs ls hR hf hl
  · rw [if_neg (by simpa [z_cc] using hc)] at k
    exact k H locs ls hR hf hl
theorem zs_if_le (hx : p.tables.exec = Jvm.exec) (hb : c.code = cc) {x : Int32} {o : Int} {t : zN} (hd : decode cc pc = .ok (.ifCond .le o, 3)) (h : z_br (z_cc .le x 0) pc 3 o L r q = some t) (k : z_W p l e R s m args below meth c Q s0 D cA n0 u0 t.1 t.2.1 t.2.2.1 t.2.2.2) : z_W p l e R s m args below meth c Q s0 D cA n0 u0 pc L (.int x :: r) q := fun H locs ls hR hf hl => by
  obtain ⟨e1, rfl⟩ := zs_br h
  simp only at k
  refine lv_if_le hx hb hd e1 (fun hc => ?_) (fun hc => ?_)
  · rw [if_pos (by simpa [z_cc] using hc)] at k
    exact k H locs ls hR hf hl
  · rw [if_neg (by simpa [z_cc] using hc)] at k
    exact k H locs ls hR hf hl
theorem zs_icmp_le (hx : p.tables.exec = Jvm.exec) (hb : c.code = cc) {x y : Int32} {o : Int} {t : zN} (hd : decode cc pc = .ok (.if_icmp .le o, 3)) (h : z_br (z_cc .le x y) pc 3 o L r q = some t) (k : z_W p l e R s m args below meth c Q s0 D cA n0 u0 t.1 t.2.1 t.2.2.1 t.2.2.2) : z_W p l e R s m args below meth c Q s0 D cA n0 u0 pc L (.int y :: .int x :: r) q := fun H locs ls hR hf hl => by
  obtain ⟨e1, rfl⟩ := zs_br h
  simp only at k
  refine lv_icmp_le hx hb hd e1 (fun hc => ?_) (fun hc => ?_)
  · rw [if_pos (by simpa [z_cc] using hc)] at k
    exact k H locs ls hR hf hl
  · rw [if_neg (by simpa [z_cc] using hc)] at k
    exact k H locs ls hR hf hl
theorem zs_acmp_eq (hx : p.tables.exec = Jvm.exec) (hb : c.code = cc) {v w : Value} (hv : v.isRef = true) (hw : w.isRef = true) {o : Int} {t : zN} (hd : decode cc pc = .ok (.if_acmp .eq o, 3)) (h : z_br (decide (v = w)) pc 3 o L r q = some t) (k : z_W p l e R s m args below meth c Q s0 D cA n0 u0 t.1 t.2.1 t.2.2.1 t.2.2.2) : z_W p l e R s m args below meth c Q s0 D cA n0 u0 pc L (w :: v :: r) q := fun H locs ls hR hf hl => by
  obtain ⟨e1, rfl⟩ := zs_br h
  simp only at k
  obtain ⟨rv, rfl⟩ : ∃ rv, v = va_rf rv := by
    cases v <;> first | exact ⟨none, rfl⟩ | exact ⟨some _, rfl⟩ | simp [Value.isRef] at hv
  obtain ⟨rw9, rfl⟩ : ∃ rw9, w = va_rf rw9 := by
    cases w <;> first | exact ⟨none, rfl⟩ | exact ⟨some _, rfl⟩ | simp [Value.isRef] at hw
  have hinj : va_rf rv = va_rf rw9 ↔ rv = rw9 := by cases rv <;> cases rw9 <;> simp [va_rf]
  refine lv_acmp_eq hx hb hd e1 (fun hc => ?_) (fun hc => ?_)
  · rw [if_pos (by simpa [hinj] using hc)] at k
    exact k H locs ls hR hf hl
  · rw [if_neg (by simpa [hinj] using hc)] at k
    exact k H locs ls hR hf hl
theorem zs_acmp_ne (hx : p.tables.exec = Jvm.exec) (hb : c.code = cc) {v w : Value} (hv : v.isRef = true) (hw : w.isRef = true) {o : Int} {t : zN} (hd : decode cc pc = .ok (.if_acmp .ne o, 3)) (h : z_br (!decide (v = w)) pc 3 o L r q = some t) (k : z_W p l e R s m args below meth c Q s0 D cA n0 u0 t.1 t.2.1 t.2.2.1 t.2.2.2) : z_W p l e R s m args below meth c Q s0 D cA n0 u0 pc L (w :: v :: r) q := fun H locs ls hR hf hl => by
  obtain ⟨e1, rfl⟩ := zs_br h
  simp only at k
  obtain ⟨rv, rfl⟩ : ∃ rv, v = va_rf rv := by
    cases v <;> first | exact ⟨none, rfl⟩ | exact ⟨some _, rfl⟩ | simp [Value.isRef] at hv
  obtain ⟨rw9, rfl⟩ : ∃ rw9, w = va_rf rw9 := by
    cases w <;> first | exact ⟨none, rfl⟩ | exact ⟨some _, rfl⟩ | simp [Value.isRef] at hw
  have hinj : va_rf rv = va_rf rw9 ↔ rv = rw9 := by cases rv <;> cases rw9 <;> simp [va_rf]
  refine lv_acmp_ne hx hb hd e1 (fun hc => ?_) (fun hc => ?_)
  · rw [if_pos (by simpa [hinj] using hc)] at k
    exact k H locs ls hR hf hl
  · rw [if_neg (by simpa [hinj] using hc)] at k
    exact k H locs ls hR hf hl
theorem zs_ifnull (hx : p.tables.exec = Jvm.exec) (hb : c.code = cc) {x : Nat} {o : Int} (hd : decode cc pc = .ok (.ifnull o, 3))  (k : z_W p l e R s m args below meth c Q s0 D cA n0 u0 (pc + 3) L r q) : z_W p l e R s m args below meth c Q s0 D cA n0 u0 pc L (.ref x :: r) q := fun H locs ls hR hf hl => by
  exact lv_ifnull hx hb hd (k H locs ls hR hf hl)
theorem zs_ifnullN (hx : p.tables.exec = Jvm.exec) (hb : c.code = cc) {o : Int} {t : zN} (hd : decode cc pc = .ok (.ifnull o, 3)) (h : z_to pc o L r q = some t) (k : z_W p l e R s m args below meth c Q s0 D cA n0 u0 t.1 t.2.1 t.2.2.1 t.2.2.2) : z_W p l e R s m args below meth c Q s0 D cA n0 u0 pc L (.null :: r) q := fun H locs ls hR hf hl => by
  obtain ⟨e1, e2⟩ := zs_to h
  obtain ⟨pc', t'⟩ := t
  simp only at e1 e2 k
  subst e2
  exact lv_ifnullN hx hb hd e1 (k H locs ls hR hf hl)
theorem zs_ifnonnull (hx : p.tables.exec = Jvm.exec) (hb : c.code = cc) {x : Nat} {o : Int} {t : zN} (hd : decode cc pc = .ok (.ifnonnull o, 3)) (h : z_to pc o L r q = some t) (k : z_W p l e R s m args below meth c Q s0 D cA n0 u0 t.1 t.2.1 t.2.2.1 t.2.2.2) : z_W p l e R s m args below meth c Q s0 D cA n0 u0 pc L (.ref x :: r) q := fun H locs ls hR hf hl => by
  obtain ⟨e1, e2⟩ := zs_to h
  obtain ⟨pc', t'⟩ := t
  simp only at e1 e2 k
  subst e2
  exact lv_ifnonnull hx hb hd e1 (k H locs ls hR hf hl)
theorem zs_ifnonnullN (hx : p.tables.exec = Jvm.exec) (hb : c.code = cc) {o : Int} (hd : decode cc pc = .ok (.ifnonnull o, 3))  (k : z_W p l e R s m args below meth c Q s0 D cA n0 u0 (pc + 3) L r q) : z_W p l e R s m args below meth c Q s0 D cA n0 u0 pc L (.null :: r) q := fun H locs ls hR hf hl => by
  exact lv_ifnonnullN hx hb hd (k H locs ls hR hf hl)
theorem zs_goto (hx : p.tables.exec = Jvm.exec) (hb : c.code = cc) {o : Int} {t : zN} (hd : decode cc pc = .ok (.goto o, 3)) (h : z_to pc o L S q = some t) (k : z_W p l e R s m args below meth c Q s0 D cA n0 u0 t.1 t.2.1 t.2.2.1 t.2.2.2) : z_W p l e R s m args below meth c Q s0 D cA n0 u0 pc L S q := fun H locs ls hR hf hl => by
  obtain ⟨e1, e2⟩ := zs_to h
  obtain ⟨pc', t'⟩ := t
  simp only at e1 e2 k
  subst e2
  exact lv_goto hx hb hd e1 (k H locs ls hR hf hl)
theorem zs_tableOut (hx : p.tables.exec = Jvm.exec) (hb : c.code = cc) {x : Int32} {dfl lo hi : Int} {offs : Array Int} {len : Nat} {t : zN} (hd : decode cc pc = .ok (.tableswitch dfl lo hi offs, len)) (hc : x.toInt < lo ∨ hi < x.toInt) (h : z_to pc dfl L r q = some t) (k : z_W p l e R s m args below meth c Q s0 D cA n0 u0 t.1 t.2.1 t.2.2.1 t.2.2.2) : z_W p l e R s m args below meth c Q s0 D cA n0 u0 pc L (.int x :: r) q := fun H locs ls hR hf hl => by
  obtain ⟨e1, e2⟩ := zs_to h
  obtain ⟨pc', t'⟩ := t
  simp only at e1 e2 k
  subst e2
  exact lv_tableOut hx hb hd hc e1 (k H locs ls hR hf hl)
theorem zs_tableIn (hx : p.tables.exec = Jvm.exec) (hb : c.code = cc) {x : Int32} {dfl lo hi o : Int} {offs : Array Int} {len : Nat} {t : zN} (hd : decode cc pc = .ok (.tableswitch dfl lo hi offs, len)) (hc : ¬ (x.toInt < lo ∨ hi < x.toInt)) (ho : offs[(x.toInt - lo).toNat]? = some o) (h : z_to pc o L r q = some t) (k : z_W p l e R s m args below meth c Q s0 D cA n0 u0 t.1 t.2.1 t.2.2.1 t.2.2.2) : z_W p l e R s m args below meth c Q s0 D cA n0 u0 pc L (.int x :: r) q := fun H locs ls hR hf hl => by
  obtain ⟨e1, e2⟩ := zs_to h
  obtain ⟨pc', t'⟩ := t
  simp only at e1 e2 k
  subst e2
  exact lv_tableIn hx hb hd (fun z => hc (Or.inl z)) (fun z => hc (Or.inr z)) ho e1 (k H locs ls hR hf hl)
end ZS
