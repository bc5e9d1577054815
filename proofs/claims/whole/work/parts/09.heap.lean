/-! INSTRUCTIONS THAT READ, WRITE OR MAKE -/
def z_tys (cA : Nat → ClassId) : List (ClassId × FieldType) := [(cA 100, zaty 100), (cA 101, zaty 101), (cA 102, zaty 102), (cA 103, zaty 103), (cA 104, zaty 104)]
theorem z_tys_at (cA : Nat → ClassId) {t : Nat} (h1 : 100 ≤ t) (h2 : t ≤ 104) : (z_tys cA)[t - 100]? = some (cA t, zaty t) := by
  obtain ⟨j, rfl⟩ := Nat.exists_eq_add_of_le h1
  have : j ≤ 4 := by omega
  rcases (show j = 0 ∨ j = 1 ∨ j = 2 ∨ j = 3 ∨ j = 4 by omega) with rfl | rfl | rfl | rfl | rfl <;> rfl
theorem z_arr_of {D : va_G} {cA : Nat → ClassId} {H : Heap} {a : Nat} {o : zO} (h : zo_R D cA H a o) (ht : 100 ≤ o.1) : 100 ≤ o.1 ∧ o.1 ≤ 104 ∧ H[a]? = some (arrV (cA o.1) o.2.1 o.2.2) := by
  rcases h with ⟨h9, -⟩ | h | ⟨h9, -⟩
  · omega
  · exact h
  · omega
theorem z_obj_of {D : va_G} {cA : Nat → ClassId} {H : Heap} {a : Nat} {o : zO} (h : zo_R D cA H a o) (ht : o.1 < 90) : ∃ r : vw_C, zcl[o.1]? = some r ∧ t_OB a (D.1 o.1) r.2.2 (D.2 o.1) H o.2.2 := by
  rcases h with ⟨-, h⟩ | ⟨h9, -⟩ | ⟨h9, -⟩
  · exact h
  · omega
  · omega
theorem z_nm : ∀ (i : Nat) (r : vw_C), zcl[i]? = some r → (∀ a, a < r.2.2 → ∀ b, b < r.2.2 → a ≠ b → (r.2.1 a).2.1 ≠ (r.2.1 b).2.1) ∧ ∀ k, k < r.2.2 → parseFieldDescriptor (r.2.1 k).2.2.1 = some (zty i k) := by
  intro i r h
  match i, h with
  | 0, h => cases h; exact ⟨nmX0, tyX0_ok⟩
  | 1, h => cases h; exact ⟨nmX1, tyX1_ok⟩
  | 2, h => cases h; exact ⟨nmX2, tyX2_ok⟩
  | 3, h => cases h; exact ⟨nmX3, tyX3_ok⟩
  | 4, h => cases h; exact ⟨nmX4, tyX4_ok⟩
  | 5, h => cases h; exact ⟨nmX5, tyX5_ok⟩
  | 6, h => cases h; exact ⟨nmX6, tyX6_ok⟩
  | 7, h => cases h; exact ⟨nmX8, tyX8_ok⟩
  | 8, h => cases h; exact ⟨nmX9, tyX9_ok⟩
  | 9, h => cases h; exact ⟨nmX10, tyX10_ok⟩
  | j + 10, h => simp [zcl] at h
section ZH
variable {p : Program} {l : Launch} {e : Env} {R : Room} {s : State} {m : MethodId} {args : Array Value} {below : List Frame} {meth : Method} {c : Code} {Q : State → Prop} {s0 : State} {D : va_G} {cA : Nat → ClassId} {n0 u0 : Nat}
variable {cc : ByteArray} {pc : Nat} {L : zL} {S r : List Value} {q : zS} {own : String}
theorem zs_getf (hx : p.tables.exec = Jvm.exec) (hb : c.code = cc) (hown : s.vm.findClass own = some m.cls) (hK : va_K D zcl (z_tys cA) s) (hlay : ∀ (i : Nat) (r : vw_C), zcl[i]? = some r → ∀ w ∈ u_ws r.1 r.2.1 r.2.2, w.before args s = true)
    {a k idx : Nat} {o : zO} (ha : q.1 a = some o) (h90 : o.1 < 90) {rr : vw_C} (hc : zcl[o.1]? = some rr) (hk : k < rr.2.2) (hlink : (Cond.fieldLink own idx (rr.2.1 k).1 (rr.2.1 k).2.1 (rr.2.1 k).2.2.1).before args s = true) (hd : decode cc pc = .ok (.getfield idx, 3))
    (kk : z_W p l e R s m args below meth c Q s0 D cA n0 u0 (pc + 3) L (o.2.2 k :: r) q) : z_W p l e R s m args below meth c Q s0 D cA n0 u0 pc L (.ref a :: r) q := fun H locs ls hR hf hl => by
  obtain ⟨r', h1, cell, q1, q2, q3, q4⟩ := z_obj_of (hR.2.2.2 a o ha).1 h90
  cases hc.symm.trans h1
  obtain ⟨hS, hfc, kC, hkC, hkind⟩ := hK.1 o.1 _ hc
  obtain ⟨cf, kf, fi, f, hi, hsl⟩ := hS k hk
  refine W.getf hx hb hown hlink hi (u_facts hfc hkC (u_lays (ws := u_ws rr.1 rr.2.1 rr.2.2) (hlay o.1 rr hc) (fun _ h => h) hk) hi).1 q1 (by rw [q3]; exact fun h => by cases h) (v := o.2.2 k) ?_ rfl rfl hd (kk H locs ls hR hf hl)
  rw [hsl]
  exact q4 k hk
/-- a field written: one that is not final, or one of the constructor's own -/
theorem zs_putf (hx : p.tables.exec = Jvm.exec) (hb : c.code = cc) (hown : s.vm.findClass own = some m.cls) (hK : va_K D zcl (z_tys cA) s) (hlay : ∀ (i : Nat) (r : vw_C), zcl[i]? = some r → ∀ w ∈ u_ws r.1 r.2.1 r.2.2, w.before args s = true)
    {a k idx : Nat} {o : zO} {v : Value} (ha : q.1 a = some o) (h90 : o.1 < 90) {rr : vw_C} (hc : zcl[o.1]? = some rr) (hk : k < rr.2.2) (hlink : (Cond.fieldLink own idx (rr.2.1 k).1 (rr.2.1 k).2.1 (rr.2.1 k).2.2.1).before args s = true)
    (hfin : (rr.2.1 k).2.2.2 = false ∨ (meth.name = "<init>" ∧ (rr.2.1 k).1 = own)) (hn : narrow (zty o.1 k) v = v) (hfit : fits (zty o.1 k) v = true) (hd : decode cc pc = .ok (.putfield idx, 3))
    (kk : z_W p l e R s m args below meth c Q s0 D cA n0 u0 (pc + 3) L r (z_up q.1 a (o.1, o.2.1, z_uf o.2.2 k v), q.2)) : z_W p l e R s m args below meth c Q s0 D cA n0 u0 pc L (v :: .ref a :: r) q := fun H locs ls hR hf hl => by
  have hge := (hR.2.2.2 a o ha).2 (by omega)
  obtain ⟨r', h1, cell, q1, q2, q3, q4⟩ := z_obj_of (hR.2.2.2 a o ha).1 h90
  cases hc.symm.trans h1
  obtain ⟨hnm, hty⟩ := z_nm o.1 rr hc
  have hap := va_apart (own := own) (hlay o.1 rr hc) (fun _ h => h) (zty o.1) hty hnm hK hc
  obtain ⟨hS, hfc, kC, hkC, hkind⟩ := hK.1 o.1 _ hc
  obtain ⟨cf, kf, fi, f, hi, hsl⟩ := hS k hk
  have hlays := u_lays (ws := u_ws rr.1 rr.2.1 rr.2.2) (hlay o.1 rr hc) (fun _ h => h) hk
  have hlay2 := hlay o.1 rr hc _ (u_in_lay hk)
  have hst := (u_facts hfc hkC hlays hi).1
  have hgo : ∀ H' : Heap, H'[a]? = some (cell.setSlot f.slot v) → H'.size = H.size → (∀ b, b ≠ a → H'[b]? = H[b]?) → W p l e R s m args below meth c H' (locs ++ [⟨a, f.slot⟩]) (q.2.1 - n0) (q.2.2 - u0) Q (F0 m (pc + 3) ls r) := by
    intro H' e1 e2 e3
    rw [hsl] at e1
    refine kk H' _ ls (hR.set ha (by omega) (Or.inl ⟨h90, rr, hc, ?_⟩) (by show o.1 ≠ 99; omega) e2 e3) ?_ hl
    · exact ⟨_, e1, q2, q3, t_set q4 hap hk v⟩
    · intro z hz
      rcases List.mem_append.mp hz with h | h
      · exact hf z h
      · rw [List.mem_singleton] at h
        subst h
        exact hge
  unfold u_lay at hlay2
  cases hfb : (rr.2.1 k).2.2.2 with
  | false =>
    rw [if_neg (by rw [hfb]; decide)] at hlay2
    have h6 := u_store hfc hkC hkind hlay2 hi (hty k hk) hn hfit
    exact W.putK hx hb (f := f) ⟨hown, hlink, ⟨_, _, _, hi⟩, hst⟩ (by rw [q2]; exact h6) q1 q3 (by rw [hsl]; exact k2_hasslot (q4 k hk)) rfl rfl hd hgo
  | true =>
    rw [if_pos hfb] at hlay2
    obtain ⟨hin2, hdecl⟩ : meth.name = "<init>" ∧ (rr.2.1 k).1 = own := by
      rcases hfin with h | h
      · rw [hfb] at h; cases h
      · exact h
    have hcf : m.cls = cf := by
      obtain ⟨_, _, c', _, _, _, -, -, hf', -, -, -, hown2, -⟩ := Cond.laysFinal_spec hlay2
      have e1 : c' = cf := by have := hi.symm.trans hf'; simp at this; exact this.1.symm
      rw [hdecl] at hown2
      rw [← e1]; exact Option.some.inj (hown.symm.trans hown2)
    have h6 := u_fits hfc hkC hkind (Or.inr hlay2) hi (hty k hk) hn hfit
    exact W.putFinK hx hb hown hlink hi hst hcf hin2 (by rw [q2]; exact h6) q1 q3 (by rw [hsl]; exact k2_hasslot (q4 k hk)) rfl rfl hd hgo
theorem z_arrs (hK : va_K D zcl (z_tys cA) s) {t : Nat} (h1 : 100 ≤ t) (h2 : t ≤ 104) (n : Nat) (f : Nat → Value) : s.isArrayOf (arrV (cA t) n f) (zaty t) := (hK.2 (t - 100) _ (z_tys_at cA h1 h2)).1 n f
theorem z_scr (h99 : ArrOfT s (cA 99) .int) {scr : Cell} (h1 : scr.cls = cA 99) (h2 : ∀ k, scr.vm ≠ .statics k) : s.isArrayOf scr .int := by
  obtain ⟨-, k, hk, comp, hkind⟩ := h99 0 (fun _ => .null)
  exact ⟨h2, k, by rw [h1]; exact hk, comp, hkind⟩
theorem zs_iald (hx : p.tables.exec = Jvm.exec) (hb : c.code = cc) (hK : va_K D zcl (z_tys cA) s) (h99 : ArrOfT s (cA 99) .int) {a : Nat} {o : zO} {j : Int32} (ha : q.1 a = some o) (ht : o.1 = 99 ∨ o.1 = 100) (hin : ¬ (j < 0 ∨ o.2.1 ≤ j.toNatClampNeg)) (hd : decode cc pc = .ok (.iaload, 1))
    (kk : z_W p l e R s m args below meth c Q s0 D cA n0 u0 (pc + 1) L (o.2.2 j.toNatClampNeg :: r) q) : z_W p l e R s m args below meth c Q s0 D cA n0 u0 pc L (.int j :: .ref a :: r) q := fun H locs ls hR hf hl => by
  have hlt : j.toNatClampNeg < o.2.1 := Nat.not_le.mp fun z => hin (Or.inr z)
  rcases ht with ht | ht
  · rcases (hR.2.2.2 a o ha).1 with ⟨h9, -⟩ | ⟨h9, -⟩ | ⟨-, scr, q1, q2, q3, q4, q5, q6⟩
    · omega
    · omega
    · exact W.iald hx hb q1 (z_scr h99 q2 q3) q4 (by rw [q5]; exact hin) (q6 _ hlt) rfl rfl hd (kk H locs ls hR hf hl)
  obtain ⟨h1, h2, h3⟩ := z_arr_of (hR.2.2.2 a o ha).1 (by omega)
  have ha9 := z_arrs hK h1 h2 o.2.1 o.2.2
  have hty : zaty o.1 = .int := by rw [ht]; rfl
  rw [hty] at ha9
  exact W.iald hx hb h3 ha9 (fun h => by cases h) (by rw [arrV_size]; exact hin) (arrV_read _ _ hlt) rfl rfl hd (kk H locs ls hR hf hl)
theorem zs_lald (hx : p.tables.exec = Jvm.exec) (hb : c.code = cc) (hK : va_K D zcl (z_tys cA) s) {a : Nat} {o : zO} {j : Int32} (ha : q.1 a = some o) (ht : o.1 = 101) (hin : ¬ (j < 0 ∨ o.2.1 ≤ j.toNatClampNeg)) (hd : decode cc pc = .ok (.laload, 1))
    (kk : z_W p l e R s m args below meth c Q s0 D cA n0 u0 (pc + 1) L (o.2.2 j.toNatClampNeg :: r) q) : z_W p l e R s m args below meth c Q s0 D cA n0 u0 pc L (.int j :: .ref a :: r) q := fun H locs ls hR hf hl => by
  obtain ⟨h1, h2, h3⟩ := z_arr_of (hR.2.2.2 a o ha).1 (by omega)
  have hlt : j.toNatClampNeg < o.2.1 := Nat.not_le.mp fun z => hin (Or.inr z)
  have ha9 := z_arrs hK h1 h2 o.2.1 o.2.2
  have hty : zaty o.1 = .long := by rw [ht]; rfl
  rw [hty] at ha9
  exact W.lald hx hb h3 ha9 (fun h => by cases h) (by rw [arrV_size]; exact hin) (arrV_read _ _ hlt) rfl rfl hd (kk H locs ls hR hf hl)
theorem zs_bald (hx : p.tables.exec = Jvm.exec) (hb : c.code = cc) (hK : va_K D zcl (z_tys cA) s) {a : Nat} {o : zO} {j : Int32} (ha : q.1 a = some o) (ht : o.1 = 102) (hin : ¬ (j < 0 ∨ o.2.1 ≤ j.toNatClampNeg)) (hd : decode cc pc = .ok (.baload, 1))
    (kk : z_W p l e R s m args below meth c Q s0 D cA n0 u0 (pc + 1) L (o.2.2 j.toNatClampNeg :: r) q) : z_W p l e R s m args below meth c Q s0 D cA n0 u0 pc L (.int j :: .ref a :: r) q := fun H locs ls hR hf hl => by
  obtain ⟨h1, h2, h3⟩ := z_arr_of (hR.2.2.2 a o ha).1 (by omega)
  have hlt : j.toNatClampNeg < o.2.1 := Nat.not_le.mp fun z => hin (Or.inr z)
  have ha9 := z_arrs hK h1 h2 o.2.1 o.2.2
  have hty : zaty o.1 = .boolean := by rw [ht]; rfl
  rw [hty] at ha9
  exact W.zald hx hb h3 ha9 (fun h => by cases h) (by rw [arrV_size]; exact hin) (arrV_read _ _ hlt) rfl rfl hd (kk H locs ls hR hf hl)
theorem zs_aald (hx : p.tables.exec = Jvm.exec) (hb : c.code = cc) (hK : va_K D zcl (z_tys cA) s) {a : Nat} {o : zO} {j : Int32} (ha : q.1 a = some o) (ht : o.1 = 103 ∨ o.1 = 104) (hin : ¬ (j < 0 ∨ o.2.1 ≤ j.toNatClampNeg)) (hd : decode cc pc = .ok (.aaload, 1))
    (kk : z_W p l e R s m args below meth c Q s0 D cA n0 u0 (pc + 1) L (o.2.2 j.toNatClampNeg :: r) q) : z_W p l e R s m args below meth c Q s0 D cA n0 u0 pc L (.int j :: .ref a :: r) q := fun H locs ls hR hf hl => by
  obtain ⟨h1, h2, h3⟩ := z_arr_of (hR.2.2.2 a o ha).1 (by omega)
  have hlt : j.toNatClampNeg < o.2.1 := Nat.not_le.mp fun z => hin (Or.inr z)
  exact W.aald hx hb h3 (z_arrs hK h1 h2 o.2.1 o.2.2) (by rcases ht with h | h <;> rw [h] <;> rfl) (fun h => by cases h) (by rw [arrV_size]; exact hin) (arrV_read _ _ hlt) rfl rfl hd (kk H locs ls hR hf hl)
theorem zs_alen (hx : p.tables.exec = Jvm.exec) (hb : c.code = cc) (hK : va_K D zcl (z_tys cA) s) (h99 : ArrOfT s (cA 99) .int) {a : Nat} {o : zO} (ha : q.1 a = some o) (ht : 99 ≤ o.1) (hd : decode cc pc = .ok (.arraylength, 1))
    (kk : z_W p l e R s m args below meth c Q s0 D cA n0 u0 (pc + 1) L (.int o.2.1.toInt32 :: r) q) : z_W p l e R s m args below meth c Q s0 D cA n0 u0 pc L (.ref a :: r) q := fun H locs ls hR hf hl => by
  rcases (hR.2.2.2 a o ha).1 with ⟨h9, -⟩ | h9 | ⟨-, scr, q1, q2, q3, q4, q5, q6⟩
  · omega
  rotate_left
  · exact W.alen hx hb q1 (z_scr h99 q2 q3) (by rw [q5]) rfl rfl hd (kk H locs ls hR hf hl)
  obtain ⟨h1, h2, h3⟩ := h9
  exact W.alen hx hb h3 (z_arrs hK h1 h2 o.2.1 o.2.2) (by rw [arrV_size]) rfl rfl hd (kk H locs ls hR hf hl)
/-- behind a store into an array -/
theorem z_stored {a : Nat} {o : zO} {i : Nat} {v : Value} {H H' : Heap} {locs : List Loc} (hR : z_R s0 D cA q H) (hf : ∀ z ∈ locs, s0.heap.size ≤ z.base) (ha : q.1 a = some o) (ht : 100 ≤ o.1) (e1 : H'[a]? = some ((arrV (cA o.1) o.2.1 o.2.2).setSlot i v)) (e2 : H'.size = H.size) (e3 : ∀ b, b ≠ a → H'[b]? = H[b]?) :
    z_R s0 D cA (z_up q.1 a (o.1, o.2.1, z_uf o.2.2 i v), q.2) H' ∧ ∀ z ∈ locs ++ [(⟨a, i⟩ : Loc)], s0.heap.size ≤ z.base := by
  have hge := (hR.2.2.2 a o ha).2 (by omega)
  obtain ⟨h1, h2, h3⟩ := z_arr_of (hR.2.2.2 a o ha).1 (by omega)
  refine ⟨hR.set ha (by omega) (Or.inr (Or.inl ⟨h1, h2, ?_⟩)) (by show o.1 ≠ 99; omega) e2 e3, fun z hz => ?_⟩
  · rw [e1, arrV_store]
    rfl
  · rcases List.mem_append.mp hz with h | h
    · exact hf z h
    · rw [List.mem_singleton] at h
      subst h
      exact hge
theorem zs_iast (hx : p.tables.exec = Jvm.exec) (hb : c.code = cc) (hK : va_K D zcl (z_tys cA) s) {a : Nat} {o : zO} {j v : Int32} (ha : q.1 a = some o) (ht : o.1 = 100) (hin : ¬ (j < 0 ∨ o.2.1 ≤ j.toNatClampNeg)) (hd : decode cc pc = .ok (.iastore, 1))
    (kk : z_W p l e R s m args below meth c Q s0 D cA n0 u0 (pc + 1) L r (z_up q.1 a (o.1, o.2.1, z_uf o.2.2 j.toNatClampNeg (.int v)), q.2)) : z_W p l e R s m args below meth c Q s0 D cA n0 u0 pc L (.int v :: .int j :: .ref a :: r) q := fun H locs ls hR hf hl => by
  obtain ⟨h1, h2, h3⟩ := z_arr_of (hR.2.2.2 a o ha).1 (by omega)
  have ha9 := z_arrs hK h1 h2 o.2.1 o.2.2
  have hty : zaty o.1 = .int := by rw [ht]; rfl
  rw [hty] at ha9
  refine W.iast hx hb h3 ha9 (fun h => by cases h) (by rw [arrV_size]; exact hin) rfl rfl hd fun H' e1 e2 e3 => ?_
  obtain ⟨g1, g2⟩ := z_stored hR hf ha (by omega) e1 e2 e3
  exact kk H' _ ls g1 g2 hl
theorem zs_last (hx : p.tables.exec = Jvm.exec) (hb : c.code = cc) (hK : va_K D zcl (z_tys cA) s) {a : Nat} {o : zO} {j : Int32} {v : Int64} (ha : q.1 a = some o) (ht : o.1 = 101) (hin : ¬ (j < 0 ∨ o.2.1 ≤ j.toNatClampNeg)) (hd : decode cc pc = .ok (.lastore, 1))
    (kk : z_W p l e R s m args below meth c Q s0 D cA n0 u0 (pc + 1) L r (z_up q.1 a (o.1, o.2.1, z_uf o.2.2 j.toNatClampNeg (.long v)), q.2)) : z_W p l e R s m args below meth c Q s0 D cA n0 u0 pc L (.long v :: .int j :: .ref a :: r) q := fun H locs ls hR hf hl => by
  obtain ⟨h1, h2, h3⟩ := z_arr_of (hR.2.2.2 a o ha).1 (by omega)
  have ha9 := z_arrs hK h1 h2 o.2.1 o.2.2
  have hty : zaty o.1 = .long := by rw [ht]; rfl
  rw [hty] at ha9
  refine W.last hx hb h3 ha9 (fun h => by cases h) (by rw [arrV_size]; exact hin) rfl rfl hd fun H' e1 e2 e3 => ?_
  obtain ⟨g1, g2⟩ := z_stored hR hf ha (by omega) e1 e2 e3
  exact kk H' _ ls g1 g2 hl
theorem zs_bast (hx : p.tables.exec = Jvm.exec) (hb : c.code = cc) (hK : va_K D zcl (z_tys cA) s) {a : Nat} {o : zO} {j v : Int32} (ha : q.1 a = some o) (ht : o.1 = 102) (hin : ¬ (j < 0 ∨ o.2.1 ≤ j.toNatClampNeg)) (hd : decode cc pc = .ok (.bastore, 1))
    (kk : z_W p l e R s m args below meth c Q s0 D cA n0 u0 (pc + 1) L r (z_up q.1 a (o.1, o.2.1, z_uf o.2.2 j.toNatClampNeg (narrow .boolean (.int v))), q.2)) : z_W p l e R s m args below meth c Q s0 D cA n0 u0 pc L (.int v :: .int j :: .ref a :: r) q := fun H locs ls hR hf hl => by
  obtain ⟨h1, h2, h3⟩ := z_arr_of (hR.2.2.2 a o ha).1 (by omega)
  have ha9 := z_arrs hK h1 h2 o.2.1 o.2.2
  have hty : zaty o.1 = .boolean := by rw [ht]; rfl
  rw [hty] at ha9
  refine W.zast hx hb h3 ha9 (fun h => by cases h) (by rw [arrV_size]; exact hin) rfl rfl hd fun H' e1 e2 e3 => ?_
  obtain ⟨g1, g2⟩ := z_stored hR hf ha (by omega) e1 e2 e3
  exact kk H' _ ls g1 g2 hl
theorem zs_aastN (hx : p.tables.exec = Jvm.exec) (hb : c.code = cc) (hK : va_K D zcl (z_tys cA) s) {a : Nat} {o : zO} {j : Int32} (ha : q.1 a = some o) (ht : o.1 = 103 ∨ o.1 = 104) (hin : ¬ (j < 0 ∨ o.2.1 ≤ j.toNatClampNeg)) (hd : decode cc pc = .ok (.aastore, 1))
    (kk : z_W p l e R s m args below meth c Q s0 D cA n0 u0 (pc + 1) L r (z_up q.1 a (o.1, o.2.1, z_uf o.2.2 j.toNatClampNeg .null), q.2)) : z_W p l e R s m args below meth c Q s0 D cA n0 u0 pc L (.null :: .int j :: .ref a :: r) q := fun H locs ls hR hf hl => by
  obtain ⟨h1, h2, h3⟩ := z_arr_of (hR.2.2.2 a o ha).1 (by omega)
  have ha9 := z_arrs hK h1 h2 o.2.1 o.2.2
  obtain ⟨C, hty⟩ : ∃ C, zaty o.1 = .object C := by rcases ht with h | h <;> rw [h] <;> exact ⟨_, rfl⟩
  rw [hty] at ha9
  refine va_WaastN hx hb h3 ha9 (fun h => by cases h) (by rw [arrV_size]; exact hin) rfl rfl hd fun H' e1 e2 e3 => ?_
  obtain ⟨g1, g2⟩ := z_stored hR hf ha (by omega) e1 e2 e3
  exact kk H' _ ls g1 g2 hl
/-- a thing into an array of things: its class is one that the array takes -/
theorem zs_aast (hx : p.tables.exec = Jvm.exec) (hb : c.code = cc) (hK : va_K D zcl (z_tys cA) s) (hcst : ∀ i ∈ zth, ∀ rr : vw_C, zcl[i]? = some rr → va_Nw (.castable rr.1 "ProcessorHouse$Thing") s) {a b : Nat} {o o2 : zO} {j : Int32} (ha : q.1 a = some o) (hv : q.1 b = some o2)
    (ht : (o.1 = 103 ∧ o2.1 ∈ zth) ∨ (o.1 = 104 ∧ o2.1 = 7)) (hin : ¬ (j < 0 ∨ o.2.1 ≤ j.toNatClampNeg)) (hd : decode cc pc = .ok (.aastore, 1))
    (kk : z_W p l e R s m args below meth c Q s0 D cA n0 u0 (pc + 1) L r (z_up q.1 a (o.1, o.2.1, z_uf o.2.2 j.toNatClampNeg (.ref b)), q.2)) : z_W p l e R s m args below meth c Q s0 D cA n0 u0 pc L (.ref b :: .int j :: .ref a :: r) q := fun H locs ls hR hf hl => by
  obtain ⟨h1, h2, h3⟩ := z_arr_of (hR.2.2.2 a o ha).1 (by omega)
  have hlt : j.toNatClampNeg < o.2.1 := Nat.not_le.mp fun z => hin (Or.inr z)
  have h0 : ¬ j < 0 := fun z => hin (Or.inl z)
  have h90 : o2.1 < 90 := by
    rcases ht with ⟨-, h⟩ | ⟨-, h⟩
    · simp [zth] at h; omega
    · omega
  obtain ⟨rr, hrr, cellV, g1, g2, g3, -⟩ := z_obj_of (hR.2.2.2 b o2 hv).1 h90
  have hcls := (hK.1 o2.1 rr hrr).2
  obtain ⟨kC, hkC, -⟩ := hcls.2
  have hRA := (hK.2 (o.1 - 100) _ (z_tys_at cA h1 h2)).2
  have hgo : ∀ (kA : Class) (comp : ClassId) (C : String), s.vm.classes[cA o.1]? = some kA → kA.kind = .array comp (.object C) → s.vm.findClass C = some comp → s.vm.assignable (D.1 o2.1) comp = true → W p l e R s m args below meth c H locs (q.2.1 - n0) (q.2.2 - u0) Q (F0 m pc ls (.ref b :: .int j :: .ref a :: r)) := by
    intro kA comp C k1 k2 k3 k4
    obtain ⟨kcomp, hkcomp, -⟩ := Vm.findClass_spec k3
    refine W.aast hx hb h3 (fun z h => by cases h) (fun h => by cases h) k1 k2 rfl hkcomp ⟨h0, by rw [arrV_size]; exact hlt⟩ g1 (fun z h => by rw [g3] at h; cases h) (by rw [g2]; exact hkC) (by rw [g2]; exact k4) rfl rfl hd fun H' e1 e2 e3 => ?_
    obtain ⟨w1, w2⟩ := z_stored hR hf ha (by omega) e1 e2 e3
    exact kk H' _ ls w1 w2 hl
  rcases ht with ⟨ht, hz⟩ | ⟨ht, hz⟩
  · rw [show zaty o.1 = .object "ProcessorHouse$Thing" by rw [ht]; rfl] at hRA
    obtain ⟨kA, comp, k1, k2, k3, -⟩ := hRA
    obtain ⟨c3, c4, hc3, hc4, hasg⟩ := Cond.castable_spec (va_Nw.use (A := args) rfl (hcst o2.1 hz rr hrr))
    cases Option.some.inj (hc3.symm.trans hcls.1)
    cases Option.some.inj (hc4.symm.trans k3)
    exact hgo kA comp _ k1 k2 k3 hasg
  · rw [show zaty o.1 = .object "ProcessorHouse$Word" by rw [ht]; rfl] at hRA
    obtain ⟨kA, comp, k1, k2, k3, -⟩ := hRA
    rw [hz] at hrr
    cases hrr
    have : comp = D.1 o2.1 := Option.some.inj (k3.symm.trans hcls.1)
    subst this
    exact hgo kA _ _ k1 k2 k3 (va_assign hcls)
theorem z_cs {H : Heap} {locs : List Loc} {g : JFrame} {k1 k2 w1 w2 : Nat} (h1 : k1 = w1) (h2 : k2 = w2) (h : W p l e R s m args below meth c H locs w1 w2 Q g) : W p l e R s m args below meth c H locs k1 k2 Q g := by
  subst h1; subst h2; exact h
theorem zs_new (hx : p.tables.exec = Jvm.exec) (hb : c.code = cc) (hown : s.vm.findClass own = some m.cls) (hK : va_K D zcl (z_tys cA) s) (hlay : ∀ (i : Nat) (r : vw_C), zcl[i]? = some r → ∀ w ∈ u_ws r.1 r.2.1 r.2.2, w.before args s = true)
    {i idx : Nat} {rr : vw_C} (h90 : i < 90) (hc : zcl[i]? = some rr) (hcl : (Cond.classLink own idx rr.1).before args s = true) (hinst : (Cond.instantiable rr.1 rr.2.2).before args s = true) (hini : (Cond.initialized rr.1).before args s = true)
    (hn0 : n0 ≤ q.2.1) (hu0 : u0 ≤ q.2.2) (hrc : q.2.1 + 1 - n0 ≤ R.cells) (hrs : q.2.2 + rr.2.2 - u0 ≤ R.slots) (hd : decode cc pc = .ok (.new idx, 3))
    (kk : z_W p l e R s m args below meth c Q s0 D cA n0 u0 (pc + 3) L (.ref q.2.1 :: S) (z_new i rr.2.2 (fun k => defaultValue (zty i k)) q)) : z_W p l e R s m args below meth c Q s0 D cA n0 u0 pc L S q := fun H locs ls hR hf hl => by
  have hKn := hK.1 i rr hc
  refine W.newcK hx hb hown hcl hinst hini rfl hd (by omega) (by omega) hKn.2.1 rfl fun H1 kC hkC e1 z1 o1 => ?_
  have hb9 := u_born (zty i) (hlay i rr hc) (fun _ h => h) hKn hkC e1 (z_nm i rr hc).2
  have hw := kk H1 locs ls (hR.new (Or.inl ⟨h90, rr, hc, hb9⟩) z1 o1) hf hl
  rw [hR.2.2.1]
  refine z_cs ?_ ?_ hw
  · show q.2.1 - n0 + 1 = q.2.1 + 1 - n0; omega
  · show q.2.2 - u0 + rr.2.2 = q.2.2 + rr.2.2 - u0; omega
theorem zs_newa (hx : p.tables.exec = Jvm.exec) (hb : c.code = cc) (hK : va_K D zcl (z_tys cA) s) {at9 : ArrayType} {n : Int32} {t : Nat × Value × Nat} (hat : z_aty at9 = some t) (harr : (Cond.arrayClass (newarray.typeOf at9)).before args s = true) (hn : ¬ n < 0) (hby : n.toNatClampNeg * t.2.2 ≤ 536870912)
    (hn0 : n0 ≤ q.2.1) (hu0 : u0 ≤ q.2.2) (hrc : q.2.1 + 1 - n0 ≤ R.cells) (hrs : q.2.2 + n.toNatClampNeg - u0 ≤ R.slots) (hd : decode cc pc = .ok (.newarray at9, 2))
    (kk : z_W p l e R s m args below meth c Q s0 D cA n0 u0 (pc + 2) L (.ref q.2.1 :: r) (z_new t.1 n.toNatClampNeg (fun _ => t.2.1) q)) : z_W p l e R s m args below meth c Q s0 D cA n0 u0 pc L (.int n :: r) q := fun H locs ls hR hf hl => by
  have ht : 100 ≤ t.1 ∧ t.1 ≤ 104 ∧ zaty t.1 = newarray.typeOf at9 ∧ t.2.1 = defaultValue (newarray.typeOf at9) ∧ t.2.2 = componentBytes (newarray.typeOf at9) ∧ zaty t.1 ≠ .object "" := by
    cases at9 <;> simp [z_aty] at hat <;> subst hat <;> refine ⟨by decide, by decide, rfl, rfl, rfl, ?_⟩ <;> (intro h; cases h)
  obtain ⟨t1, t2, t3, t4, t5, -⟩ := ht
  refine W.newa hx hb harr rfl hd rfl hn (by rw [← t5]; exact hby) (by omega) (by omega) fun cA9 kA comp g1 g2 g3 => ?_
  have hRA := (hK.2 (t.1 - 100) _ (z_tys_at cA (by omega) t2)).2
  have hcA : cA t.1 = cA9 := by
    rw [t3] at hRA
    have h9 : s.vm.findClass ("[" ++ (newarray.typeOf at9).toString) = some (cA t.1) := by cases at9 <;> exact hRA
    exact Option.some.inj (h9.symm.trans g1)
  have e1 : (H.push { cls := cA9, slots := Array.replicate n.toNatClampNeg (defaultValue (newarray.typeOf at9)), vm := .none })[H.size]? = some (arrV (cA t.1) n.toNatClampNeg (fun _ => t.2.1)) := by
    rw [hcA, t4, ← arrV_new]; simp
  have hw := kk (H.push { cls := cA9, slots := Array.replicate n.toNatClampNeg (defaultValue (newarray.typeOf at9)), vm := .none }) locs ls (hR.new (Or.inr (Or.inl ⟨by show 100 ≤ t.1; omega, t2, e1⟩)) (by simp) (fun b hb9 => by rw [Array.getElem?_push, if_neg (Nat.ne_of_lt hb9)])) hf hl
  rw [hR.2.2.1]
  refine z_cs ?_ ?_ hw
  · show q.2.1 - n0 + 1 = q.2.1 + 1 - n0; omega
  · show q.2.2 - u0 + n.toNatClampNeg = q.2.2 + n.toNatClampNeg - u0; omega
theorem zs_anew (hx : p.tables.exec = Jvm.exec) (hb : c.code = cc) (hown : s.vm.findClass own = some m.cls) (hK : va_K D zcl (z_tys cA) s) {t idx : Nat} {C : String} {n : Int32} (ht : t = 103 ∨ t = 104) (hC : zaty t = .object C) (hclink : (Cond.classLink own idx C).before args s = true) (hover : (Cond.arrayOver (.object C)).before args s = true) (hn : ¬ n < 0) (hby : n.toNatClampNeg * 4 ≤ 536870912)
    (hn0 : n0 ≤ q.2.1) (hu0 : u0 ≤ q.2.2) (hrc : q.2.1 + 1 - n0 ≤ R.cells) (hrs : q.2.2 + n.toNatClampNeg - u0 ≤ R.slots) (hd : decode cc pc = .ok (.anewarray idx, 3))
    (kk : z_W p l e R s m args below meth c Q s0 D cA n0 u0 (pc + 3) L (.ref q.2.1 :: r) (z_new t n.toNatClampNeg (fun _ => .null) q)) : z_W p l e R s m args below meth c Q s0 D cA n0 u0 pc L (.int n :: r) q := fun H locs ls hR hf hl => by
  refine W.anew hx hb hown hclink hover rfl hd rfl hn hby (by omega) (by omega) fun cA9 kA comp g1 g2 g3 g4 => ?_
  have hRA := (hK.2 (t - 100) _ (z_tys_at cA (by omega) (by omega))).2
  rw [hC] at hRA
  obtain ⟨_, _, -, -, -, h9⟩ := hRA
  have hcA : cA t = cA9 := Option.some.inj (h9.symm.trans g1)
  have e1 : (H.push { cls := cA9, slots := Array.replicate n.toNatClampNeg .null, vm := .none })[H.size]? = some (arrV (cA t) n.toNatClampNeg (fun _ => .null)) := by
    rw [hcA, ← arrV_new]; simp
  have hw := kk (H.push { cls := cA9, slots := Array.replicate n.toNatClampNeg .null, vm := .none }) locs ls (hR.new (Or.inr (Or.inl ⟨by show 100 ≤ t; omega, by show t ≤ 104; omega, e1⟩)) (by simp) (fun b hb9 => by rw [Array.getElem?_push, if_neg (Nat.ne_of_lt hb9)])) hf hl
  rw [hR.2.2.1]
  refine z_cs ?_ ?_ hw
  · show q.2.1 - n0 + 1 = q.2.1 + 1 - n0; omega
  · show q.2.2 - u0 + n.toNatClampNeg = q.2.2 + n.toNatClampNeg - u0; omega
end ZH
