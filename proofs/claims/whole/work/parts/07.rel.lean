/-! HOW THE MACHINE HOLDS A STATE OF THE LITTLE ONE -/
def z_has (ls : Array Slot) (L : zL) : Prop := ls.size = L.length ∧ lv_wf ls ∧ ∀ (i : Nat) (v : Value), L[i]? = some (some v) → ls[i]? = some (.val v)
def z_prs (L : zL) : List (Nat × Value) := (List.range L.length).filterMap (fun j => match L[j]? with
  | some (some w) => some (j, w)
  | _ => none)
theorem z_prs_mem {L : zL} {j : Nat} {w : Value} : (j, w) ∈ z_prs L ↔ L[j]? = some (some w) := by
  unfold z_prs
  rw [List.mem_filterMap]
  constructor
  · rintro ⟨a, -, h⟩
    split at h
    next w' hw => cases h; exact hw
    next => cases h
  · intro h
    have hj : j < L.length := (List.getElem?_eq_some_iff.mp h).1
    exact ⟨j, List.mem_range.mpr hj, by rw [h]⟩
theorem z_has.prs {ls : Array Slot} {L : zL} (h : z_has ls L) : lv_has ls L.length (z_prs L) := ⟨h.1, h.2.1, fun q hq => h.2.2 q.1 q.2 (z_prs_mem.mp hq)⟩
theorem z_kill_len (L : zL) (i : Nat) : (z_kill L i).length = L.length := by
  unfold z_kill
  split
  · rfl
  · split
    · split <;> simp
    · rfl
theorem z_two_iff {w : Value} : z_two (some w) = true ↔ w.category = 2 := by cases w <;> simp [z_two, Value.category]
theorem z_kill_get {L : zL} {i j : Nat} {w : Value} (h : (z_kill L i)[j]? = some (some w)) : L[j]? = some (some w) ∧ ¬ (j + 1 = i ∧ w.category = 2) := by
  unfold z_kill at h
  split at h
  · exact ⟨h, fun q => by omega⟩
  · next k =>
    split at h
    · next w' hw =>
      split at h
      next ht =>
        by_cases hjk : j = k
        · subst hjk
          rw [List.getElem?_set_self (List.getElem?_eq_some_iff.mp hw).1] at h
          cases h
        · rw [List.getElem?_set_ne (Ne.symm hjk)] at h
          exact ⟨h, fun q => hjk (by omega)⟩
      next ht =>
        refine ⟨h, fun q => ht ?_⟩
        have hj : j = k := by omega
        subst hj
        rw [h] at hw
        cases hw
        exact z_two_iff.mpr q.2
    · next hn =>
      refine ⟨h, fun q => ?_⟩
      have hj : j = k := by omega
      subst hj
      rw [h] at hn
      cases hn
theorem z_set1_len (L : zL) (i : Nat) (v : Value) : (z_set1 L i v).length = L.length := by simp [z_set1, z_kill_len]
theorem z_set2_len (L : zL) (i : Nat) (v : Value) : (z_set2 L i v).length = L.length := by simp [z_set2, z_kill_len]
theorem z_has.of {ls : Array Slot} {L L' : zL} {l : List (Nat × Value)} (h : lv_has ls L.length l) (hlen : L'.length = L.length) (hm : ∀ (j : Nat) (w : Value), L'[j]? = some (some w) → (j, w) ∈ l) : z_has ls L' :=
  ⟨by rw [h.1, hlen], h.2.1, fun i v hi => h.2.2 (i, v) (hm i v hi)⟩
theorem z_has.set1 {ls : Array Slot} {L : zL} {i : Nat} {v : Value} (hi : i < L.length) (h : lv_has ls L.length ((i, v) :: (z_prs L).filter (fun q => !(q.1 == i) && !(q.1 + 1 == i && q.2.category == 2)))) : z_has ls (z_set1 L i v) := by
  refine z_has.of h (z_set1_len L i v) fun j w hj => ?_
  unfold z_set1 at hj
  by_cases hji : j = i
  · subst hji
    rw [List.getElem?_set_self (by rw [z_kill_len]; exact hi)] at hj
    cases hj
    exact List.mem_cons_self
  · rw [List.getElem?_set_ne (Ne.symm hji)] at hj
    obtain ⟨h1, h2⟩ := z_kill_get hj
    refine List.mem_cons_of_mem _ (List.mem_filter.mpr ⟨z_prs_mem.mpr h1, ?_⟩)
    simp only [Bool.and_eq_true, Bool.not_eq_true', beq_eq_false_iff_ne, ne_eq, Bool.and_eq_false_imp, beq_iff_eq]
    exact ⟨hji, fun q r => h2 ⟨q, r⟩⟩
theorem z_has.unset1 {ls : Array Slot} {L : zL} {i : Nat} {v : Value} (hi : i < L.length) (h : lv_has ls L.length ((i, v) :: (z_prs L).filter (fun q => !(q.1 == i) && !(q.1 + 1 == i && q.2.category == 2)))) : z_has ls ((z_kill L i).set i none) := by
  refine z_has.of h (by simp [z_kill_len]) fun j w hj => ?_
  by_cases hji : j = i
  · subst hji
    rw [List.getElem?_set_self (by rw [z_kill_len]; exact hi)] at hj
    cases hj
  · rw [List.getElem?_set_ne (Ne.symm hji)] at hj
    obtain ⟨h1, h2⟩ := z_kill_get hj
    refine List.mem_cons_of_mem _ (List.mem_filter.mpr ⟨z_prs_mem.mpr h1, ?_⟩)
    simp only [Bool.and_eq_true, Bool.not_eq_true', beq_eq_false_iff_ne, ne_eq, Bool.and_eq_false_imp, beq_iff_eq]
    exact ⟨hji, fun q r => h2 ⟨q, r⟩⟩
theorem z_has.set2 {ls : Array Slot} {L : zL} {i : Nat} {v : Value} (hi : i + 1 < L.length) (h : lv_has ls L.length ((i, v) :: (z_prs L).filter (fun q => !(q.1 == i) && (!(q.1 == i + 1) && !(q.1 + 1 == i && q.2.category == 2))))) : z_has ls (z_set2 L i v) := by
  refine z_has.of h (z_set2_len L i v) fun j w hj => ?_
  unfold z_set2 at hj
  by_cases hji : j = i
  · subst hji
    rw [List.getElem?_set_self (by simp only [List.length_set, z_kill_len]; omega)] at hj
    cases hj
    exact List.mem_cons_self
  · rw [List.getElem?_set_ne (Ne.symm hji)] at hj
    by_cases hj1 : j = i + 1
    · subst hj1
      rw [List.getElem?_set_self (by rw [z_kill_len]; exact hi)] at hj
      cases hj
    · rw [List.getElem?_set_ne (Ne.symm hj1)] at hj
      obtain ⟨h1, h2⟩ := z_kill_get hj
      refine List.mem_cons_of_mem _ (List.mem_filter.mpr ⟨z_prs_mem.mpr h1, ?_⟩)
      simp only [Bool.and_eq_true, Bool.not_eq_true', beq_eq_false_iff_ne, ne_eq, Bool.and_eq_false_imp, beq_iff_eq]
      exact ⟨hji, hj1, fun q r => h2 ⟨q, r⟩⟩
theorem z_ent_get : ∀ (A : List Value) (i : Nat) (pre : Nat) (v : Value), (z_ent A)[i]? = some (some v) → (pre + i, v) ∈ lv_args pre A := by
  intro A
  induction A with
  | nil => intro i pre v h; simp [z_ent] at h
  | cons a as ih =>
    intro i pre v h
    unfold z_ent at h
    unfold lv_args
    split at h
    next hc =>
      rw [if_pos hc]
      match i, h with
      | 0, h => simp at h; subst h; exact List.mem_cons_self
      | 1, h => simp at h
      | i + 2, h =>
        have h' : (z_ent as)[i]? = some (some v) := by simpa using h
        have := ih i (pre + 2) v h'
        rw [show pre + (i + 2) = pre + 2 + i by omega]
        exact List.mem_cons_of_mem _ this
    next hc =>
      rw [if_neg hc]
      match i, h with
      | 0, h => simp at h; subst h; exact List.mem_cons_self
      | i + 1, h =>
        have h' : (z_ent as)[i]? = some (some v) := by simpa using h
        have := ih i (pre + 1) v h'
        rw [show pre + (i + 1) = pre + 1 + i by omega]
        exact List.mem_cons_of_mem _ this
theorem z_ent_len (A : List Value) : (z_ent A).length = (lg_sl A).length := by
  induction A with
  | nil => rfl
  | cons a as ih =>
    unfold z_ent
    cases a <;> simp [Value.category, lg_sl, ih] <;> (try (simp [lg_sl] at ih; omega))
theorem z_ini_len {n : Nat} {A : List Value} (h : (z_ent A).length ≤ n) : (z_ini n A).length = n := by simp [z_ini]; omega
theorem z_ini_has {n : Nat} {A : List Value} (h : (z_ent A).length ≤ n) : z_has ((lg_sl A ++ List.replicate (n - (lg_sl A).length) Slot.unset).toArray) (z_ini n A) := by
  have hl := lv_entry A (n := n) (by rw [← z_ent_len]; exact h)
  refine ⟨by rw [hl.1, z_ini_len h], hl.2.1, fun i v hi => ?_⟩
  unfold z_ini at hi
  by_cases hlt : i < (z_ent A).length
  · rw [List.getElem?_append_left hlt] at hi
    have := z_ent_get A i 0 v hi
    rw [Nat.zero_add] at this
    exact hl.2.2 (i, v) this
  · rw [List.getElem?_append_right (Nat.not_lt.mp hlt)] at hi
    simp [List.getElem?_replicate] at hi
/-! the heap -/
def zo_R (D : va_G) (cA : Nat → ClassId) (H : Heap) (a : Nat) (o : zO) : Prop :=
  (o.1 < 90 ∧ ∃ r : vw_C, zcl[o.1]? = some r ∧ t_OB a (D.1 o.1) r.2.2 (D.2 o.1) H o.2.2) ∨ (100 ≤ o.1 ∧ o.1 ≤ 104 ∧ H[a]? = some (arrV (cA o.1) o.2.1 o.2.2)) ∨
  (o.1 = 99 ∧ ∃ scr : Cell, H[a]? = some scr ∧ scr.cls = cA 99 ∧ (∀ k, scr.vm ≠ .statics k) ∧ scr.vm ≠ .unknown ∧ scr.slots.size = o.2.1 ∧ ∀ j, j < o.2.1 → scr.slots[j]? = some (o.2.2 j))
def z_R (s0 : State) (D : va_G) (cA : Nat → ClassId) (q : zS) (H : Heap) : Prop :=
  s0.heap.size ≤ H.size ∧ (∀ a : Nat, a < s0.heap.size → H[a]? = s0.heap[a]?) ∧ H.size = q.2.1 ∧ ∀ (a : Nat) (o : zO), q.1 a = some o → zo_R D cA H a o ∧ (o.1 ≠ 99 → s0.heap.size ≤ a)
theorem zo_R.lt {D : va_G} {cA : Nat → ClassId} {H : Heap} {a : Nat} {o : zO} (h : zo_R D cA H a o) : a < H.size := by
  rcases h with ⟨-, r, -, cell, h1, -⟩ | ⟨-, -, h1⟩ | ⟨-, scr, h1, -⟩ <;> exact (Array.getElem?_eq_some_iff.mp h1).1
theorem zo_R.kept {D : va_G} {cA : Nat → ClassId} {H H1 : Heap} {a : Nat} {o : zO} (h : zo_R D cA H a o) (hq : H1[a]? = H[a]?) : zo_R D cA H1 a o := by
  rcases h with ⟨h0, r, h1, h2⟩ | ⟨h0, h1, h2⟩ | ⟨h0, scr, h1, h2⟩
  · exact Or.inl ⟨h0, r, h1, h2.kept hq⟩
  · exact Or.inr (Or.inl ⟨h0, h1, hq.trans h2⟩)
  · exact Or.inr (Or.inr ⟨h0, scr, hq.trans h1, h2⟩)
/-- one cell written -/
theorem z_R.set {s0 : State} {D : va_G} {cA : Nat → ClassId} {q : zS} {H H1 : Heap} (h : z_R s0 D cA q H) {a : Nat} {o o' : zO} (ha : q.1 a = some o) (hne : o.1 ≠ 99) (ho : zo_R D cA H1 a o') (ht : o'.1 ≠ 99) (hz : H1.size = H.size) (hk : ∀ b : Nat, b ≠ a → H1[b]? = H[b]?) :
    z_R s0 D cA (z_up q.1 a o', q.2) H1 := by
  have hge := (h.2.2.2 a o ha).2 hne
  refine ⟨by rw [hz]; exact h.1, fun b hb => by rw [hk b (fun e => by omega)]; exact h.2.1 b hb, by rw [hz]; exact h.2.2.1, fun b o2 hb => ?_⟩
  simp only [z_up] at hb
  split at hb
  next e => cases hb; subst e; exact ⟨ho, fun _ => hge⟩
  next e =>
    obtain ⟨h1, h2⟩ := h.2.2.2 b o2 hb
    exact ⟨h1.kept (hk b e), h2⟩
/-- one cell more -/
theorem z_R.new {s0 : State} {D : va_G} {cA : Nat → ClassId} {q : zS} {H H1 : Heap} (h : z_R s0 D cA q H) {tag n : Nat} {f : Nat → Value} (ho : zo_R D cA H1 H.size (tag, n, f)) (hz : H1.size = H.size + 1) (hk : ∀ b : Nat, b < H.size → H1[b]? = H[b]?) :
    z_R s0 D cA (z_new tag n f q) H1 := by
  obtain ⟨h1, h2, h3, h4⟩ := h
  refine ⟨by omega, fun b hb => by rw [hk b (by omega)]; exact h2 b hb, by show H1.size = q.2.1 + 1; omega, fun b o2 hb => ?_⟩
  simp only [z_new, z_up] at hb
  split at hb
  next e =>
    cases hb
    rw [← h3] at e
    subst e
    exact ⟨ho, fun _ => h1⟩
  next e =>
    obtain ⟨g1, g2⟩ := h4 b o2 hb
    exact ⟨g1.kept (hk b g1.lt), g2⟩
