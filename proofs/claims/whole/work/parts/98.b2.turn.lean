/-! ONE TURN OF THE LAW'S LOOP -/
def cdM (e : Nat) : Int := if e = 1 then 1 else if e = 0 then 2 else 0
def cd1 (e : Nat) : Int := if e = 0 then 1 else 0
def cd2 (e : Nat) : Int := if e = 0 then 1 else if e = 1 then 2 else 0
def cdW (e : Nat) : Int := if e = 0 then 1 else if e = 1 then 2 else if e = 2 then 3 else 0
def cdE (e : Nat) : Int := if e = 0 then 1 else if e = 1 then 2 else if e = 3 then 3 else 0
theorem cdM_i (e : Nat) (h : ¬ cdM e = 0) : (e = 1 ∧ cdM e = 1) ∨ (e = 0 ∧ cdM e = 2) := by
  unfold cdM at *
  split at h
  · left; rename_i h1; rw [if_pos h1]; exact ⟨h1, rfl⟩
  · split at h
    · right; rename_i h1 h2; rw [if_neg h1, if_pos h2]; exact ⟨h2, rfl⟩
    · exact absurd rfl h
theorem cd1_i (e : Nat) (h : ¬ cd1 e = 0) : (e = 0 ∧ cd1 e = 1) := by
  unfold cd1 at *
  split at h
  · rename_i h1; rw [if_pos h1]; exact ⟨h1, rfl⟩
  · exact absurd rfl h
theorem cd2_i (e : Nat) (h : ¬ cd2 e = 0) : (e = 0 ∧ cd2 e = 1) ∨ (e = 1 ∧ cd2 e = 2) := by
  unfold cd2 at *
  split at h
  · left; rename_i h1; rw [if_pos h1]; exact ⟨h1, rfl⟩
  · split at h
    · right; rename_i h1 h2; rw [if_neg h1, if_pos h2]; exact ⟨h2, rfl⟩
    · exact absurd rfl h
theorem cdW_i (e : Nat) (h : ¬ cdW e = 0) : (e = 0 ∧ cdW e = 1) ∨ (e = 1 ∧ cdW e = 2) ∨ (e = 2 ∧ cdW e = 3) := by
  unfold cdW at *
  split at h
  · left; rename_i h1; rw [if_pos h1]; exact ⟨h1, rfl⟩
  · split at h
    · right; left; rename_i h1 h2; rw [if_neg h1, if_pos h2]; exact ⟨h2, rfl⟩
    · split at h
      · right; right; rename_i h1 h2 h3; rw [if_neg h1, if_neg h2, if_pos h3]; exact ⟨h3, rfl⟩
      · exact absurd rfl h
theorem cdE_i (e : Nat) (h : ¬ cdE e = 0) : (e = 0 ∧ cdE e = 1) ∨ (e = 1 ∧ cdE e = 2) ∨ (e = 3 ∧ cdE e = 3) := by
  unfold cdE at *
  split at h
  · left; rename_i h1; rw [if_pos h1]; exact ⟨h1, rfl⟩
  · split at h
    · right; left; rename_i h1 h2; rw [if_neg h1, if_pos h2]; exact ⟨h2, rfl⟩
    · split at h
      · right; right; rename_i h1 h2 h3; rw [if_neg h1, if_neg h2, if_pos h3]; exact ⟨h3, rfl⟩
      · exact absurd rfl h
section
variable {T T' : Nat → Nat} {Ln Ln' : Nat → Int} {M M' : Nat → Int → Value} {n u x o ot b L : Nat} {xs : Nat → Int32} {Y Z : zY} {c n0 u0 ii : Int} {l5 l6 l7 : Option Value}
theorem mY_o {j : Int} (h : ¬ (o ≤ ot ∧ ot < o + 34)) : mY o Z M ot j = M ot j := by unfold mY; rw [if_neg (by omega), if_neg (by omega)]
def xe (xs : Nat → Int32) (j : Int) : Int := (xs j.toNat).toInt
theorem xe_r {j : Int} : -2147483648 ≤ xe xs j ∧ xe xs j < 2147483648 := by
  unfold xe
  have h1 := Int32.minValue_le_toInt (xs j.toNat)
  have h2 := Int32.toInt_lt (xs j.toNat)
  exact ⟨h1, by omega⟩
theorem LJ_s (h : LJ b L xs T Ln M n u x o ot Y Z c n0 u0) : T x = 8 ∧ (T b = 99 ∧ Ln b = L) ∧ (T ot = 101 ∧ Ln ot = 1) ∧ T o = 9 ∧ RG Z ∧ (∀ e, Z 21 e ≤ 2000 * c ∧ Z 23 e ≤ 2000 * c) ∧ ∀ j : Int, 0 ≤ j → j < L → M b j = zi (xe xs j) := by
  obtain ⟨A, W, Ow, X, hrz, hmb, ⟨s1', s2', s3', s4'⟩, ⟨t1, t2, t3⟩, ho⟩ := h
  refine ⟨hrz.1.2.2.2.1.1.1, ⟨s1', s2'⟩, ⟨t1, t2⟩, hmb.1.1, hrz.1.1, hrz.1.2.2.1, fun j j1 j2 => ?_⟩
  have h1 := s4' j.toNat (by omega)
  rw [show ((j.toNat : Nat) : Int) = j by omega] at h1
  rw [h1]
  unfold zi xe
  rw [Int32.ofInt_toInt]
theorem LI_J (h : LI b L xs T Ln M n u x o ot Y c n0 u0) : LJ b L xs T Ln M n u x o ot Y Y c n0 u0 := h
theorem LI_run (h : LI b L xs T Ln M n u x o ot Y c n0 u0) {r : Int} : m_th Y r → Y 3 r = 3 → 0 < Y 13 (Y 5 r) ∧ 0 < Y 8 (Y 5 (Y 5 r)) := by
  obtain ⟨A, W, Ow, X, hrz, -⟩ := h
  intro d1 d2
  obtain ⟨hrf, hw⟩ := (hrz.1.2.1 r d1.1.1 d1.1.2).2.2.2.1 d2
  obtain ⟨-, -, -, -, -, m8, -⟩ := prog_k hrz (rf_th d1 hrf) hrf.2.1
  exact ⟨hw, by omega⟩
theorem LI_sv (h : LI b L xs T Ln M n u x o ot Y c n0 u0) {r : Int} : m_th Y r → Y 3 r = 5 → SV Y r := by
  obtain ⟨A, W, Ow, X, hrz, -⟩ := h
  intro d1 d2
  exact (K5_i.mp ((hrz.1.2.2.2.2.2.2.1 r d1).2.2.2.2.1 d2)).2.2.1
theorem LI_pk (h : LI b L xs T Ln M n u x o ot Y c n0 u0) {r : Int} : m_th Y r → Y 3 r = 6 → PK Y r := by
  obtain ⟨A, W, Ow, X, hrz, -⟩ := h
  intro d1 d2
  exact (PX_of hrz d1 d2).2.1
set_option maxHeartbeats 2000000 in
theorem lw_0 (h : LI b L xs T Ln M n u x o ot Y c n0 u0) (hc : 0 ≤ c) (hc2 : c ≤ 4000) (hL : L ≤ 3584) (hb : ¬ (o ≤ b ∧ b < o + 34)) (hne : ¬ ot = b) (hno : ¬ (o ≤ ot ∧ ot < o + 34)) (i0 : 0 ≤ ii) (i7 : ii + 7 ≤ L) : ∃ T' Ln' M' n' u' Y' l5' l6' l7', (∀ Q : zU → zS → Prop, z_go zP 174 132 [some (.ref b), some (.ref x), some (.ref o), some (.ref ot), some (zi ii), l5, l6, l7] [] (hj T Ln M, n, u) Q ↔ z_go zP 174 1398 [some (.ref b), some (.ref x), some (.ref o), some (.ref ot), some (zi ii), l5', l6', l7'] [] (hj T' Ln' M', n', u') Q) ∧ LI b L xs T' Ln' M' n' u' x o ot Y' (c + 1) n0 u0 := by
  obtain ⟨j1, ⟨j2, j2'⟩, ⟨j3, j3'⟩, j4, j5, j6, j7⟩ := LJ_s (LI_J h)
  obtain ⟨T', Ln', M', n', u', res, q1, q2, q3, q4⟩ := CR_LJ (cd := cdM) h hne hno (fun A W Ow X hrz => c57 hrz hc (xe_r).1 (xe_r).2 (xe_r).1 (xe_r).2 rfl rfl)
  obtain ⟨-, -, ⟨k3, k3'⟩, -, -, -, k7⟩ := LJ_s q3
  obtain ⟨M1, v', w1, w2, w3, w4, w5⟩ := w158 j1 k3 k3' q1 q2 cdM_i
  have hLJ : LJ b L xs T' Ln' M1 n' u' x o ot Y (a_machine Y (xe xs (ii + 1)) (xe xs (ii + 2))).2 (c + 1) n0 u0 := by
    rcases w2 with ⟨-, rfl⟩ | ⟨-, rfl⟩
    · exact q4 _
    · exact q3
  obtain ⟨f1, f2, f3⟩ := LJ_LI hb hLJ
  obtain ⟨y1, ⟨y2, y2'⟩, ⟨y3, y3'⟩, y4, y5, y6, y7⟩ := LJ_s hLJ
  have sm := fun (Q : zU → zS → Prop) => s104 (o := o) (Y := Y) (h := hj T' Ln' M1) (t := (n', u')) (Q := Q) j5 (xe_r (xs := xs) (j := ii + 1)).1 (xe_r (xs := xs) (j := ii + 1)).2 (xe_r (xs := xs) (j := ii + 2)).1 (xe_r (xs := xs) (j := ii + 2)).2
  have s9 := fun (Q : zU → zS → Prop) => s95 (o := o) (Y := (a_machine Y (xe xs (ii + 1)) (xe xs (ii + 2))).2) (h := hj T' Ln' M1) (t := (n', u')) (Q := Q)
  rw [f1, f2] at sm
  rw [f2] at s9
  rw [w3] at sm
  have hs1 := j7 (ii + 1) (by omega) (by omega)
  have hs1' := k7 (ii + 1) (by omega) (by omega)
  have hs2 := j7 (ii + 2) (by omega) (by omega)
  have hs2' := k7 (ii + 2) (by omega) (by omega)
  have hot : mY o (a_machine Y (xe xs (ii + 1)) (xe xs (ii + 2))).2 M1 ot 0 = M1 ot 0 := mY_o hno
  have hz : 0 ≤ (a_machine Y (xe xs (ii + 1)) (xe xs (ii + 2))).2 0 0 ∧ (a_machine Y (xe xs (ii + 1)) (xe xs (ii + 2))).2 0 0 ≤ 3 := y5 0 0
  generalize a_machine Y (xe xs (ii + 1)) (xe xs (ii + 2)) = R at *
  obtain ⟨rv, Z⟩ := R
  simp only at *
  refine ⟨T', Ln', mY o Z M1, n', u', Z, some (zi (Z 0 0)), some (zi v'), l7, fun Q => ?_, f3⟩
  rcases w2 with ⟨z0, rfl⟩ | ⟨z0, rfl⟩
  · rw [mu_s] at hot
    simp (disch := omega) only [g174_132, g174_133, g174_134, g174_136, g174_137, g174_138, g174_139, g174_140, g174_142, g174_143, g174_144, g174_145, g174_146, g174_149, g174_151, g174_152, g174_153, g174_155, g174_156, g174_157, g174_158, g174_159, g174_161, g174_162, g174_163, g174_164, g174_167, g174_169, g174_170, g174_173, g174_175, g174_178, g174_179_0, g174_179_1, g174_179b, g174_180, g174_182, g174_182b, g174_185, g174_186, g174_187, g174_188, g174_190, g174_191, g174_195, g174_196_0, g174_196_1, g174_196b, g174_197, Int.reduceToNat, jtg, mu_s, mu_n, mu_j, mn_s, mn_n, jn_8, jnl, jnk_0, jnk_4, jnk_16, jnk_24, jnk_28, jnk_61, jnk_2000, jnk_4096, jnk_56000, jln, jai, jal, Option.some.injEq, exists_eq_left', zkl_i, zkl_l, zkl_n, zkl_r, zkl_0, zc_v, zc_n, zc_t, zd_v, zd_n, mj_tg, true_and, ↓reduceIte, not_true_eq_false, not_false_eq_true, ↓if_pos, ↓if_neg, Int.reduceLE, Int.reduceLT, Int.reduceEq, Int.reduceAdd, jas, hs1, hs1', hs2, hs2', w1, sm, s9, hot]
  · simp (disch := omega) only [g174_132, g174_133, g174_134, g174_136, g174_137, g174_138, g174_139, g174_140, g174_142, g174_143, g174_144, g174_145, g174_146, g174_149, g174_151, g174_152, g174_153, g174_155, g174_156, g174_157, g174_158, g174_159, g174_161, g174_162, g174_163, g174_164, g174_167, g174_169, g174_170, g174_173, g174_175, g174_178, g174_179_0, g174_179_1, g174_179b, g174_180, g174_182, g174_182b, g174_185, g174_186, g174_187, g174_188, g174_190, g174_191, g174_195, g174_196_0, g174_196_1, g174_196b, g174_197, Int.reduceToNat, jtg, mu_s, mu_n, mu_j, mn_s, mn_n, jn_8, jnl, jnk_0, jnk_4, jnk_16, jnk_24, jnk_28, jnk_61, jnk_2000, jnk_4096, jnk_56000, jln, jai, jal, Option.some.injEq, exists_eq_left', zkl_i, zkl_l, zkl_n, zkl_r, zkl_0, zc_v, zc_n, zc_t, zd_v, zd_n, mj_tg, true_and, ↓reduceIte, not_true_eq_false, not_false_eq_true, ↓if_pos, ↓if_neg, Int.reduceLE, Int.reduceLT, Int.reduceEq, Int.reduceAdd, jas, hs1, hs1', hs2, hs2', w1, sm, s9]
set_option maxHeartbeats 2000000 in
theorem lw_1 (h : LI b L xs T Ln M n u x o ot Y c n0 u0) (hc : 0 ≤ c) (hc2 : c ≤ 4000) (hL : L ≤ 3584) (hb : ¬ (o ≤ b ∧ b < o + 34)) (hne : ¬ ot = b) (hno : ¬ (o ≤ ot ∧ ot < o + 34)) (i0 : 0 ≤ ii) (i7 : ii + 7 ≤ L) : ∃ T' Ln' M' n' u' Y' l5' l6' l7', (∀ Q : zU → zS → Prop, z_go zP 174 200 [some (.ref b), some (.ref x), some (.ref o), some (.ref ot), some (zi ii), l5, l6, l7] [] (hj T Ln M, n, u) Q ↔ z_go zP 174 1398 [some (.ref b), some (.ref x), some (.ref o), some (.ref ot), some (zi ii), l5', l6', l7'] [] (hj T' Ln' M', n', u') Q) ∧ LI b L xs T' Ln' M' n' u' x o ot Y' (c + 1) n0 u0 := by
  obtain ⟨j1, ⟨j2, j2'⟩, ⟨j3, j3'⟩, j4, j5, j6, j7⟩ := LJ_s (LI_J h)
  obtain ⟨T', Ln', M', n', u', res, q1, q2, q3, q4⟩ := CR_LJ (cd := cd1) h hne hno (fun A W Ow X hrz => c58 hrz hc (xe_r).1 (xe_r).2 rfl)
  obtain ⟨-, -, ⟨k3, k3'⟩, -, -, -, k7⟩ := LJ_s q3
  obtain ⟨M1, v', w1, w2, w3, w4, w5⟩ := w159 j1 k3 k3' q1 q2 cd1_i
  have hLJ : LJ b L xs T' Ln' M1 n' u' x o ot Y (a_program Y (xe xs (ii + 1))).2 (c + 1) n0 u0 := by
    rcases w2 with ⟨-, rfl⟩ | ⟨-, rfl⟩
    · exact q4 _
    · exact q3
  obtain ⟨f1, f2, f3⟩ := LJ_LI hb hLJ
  obtain ⟨y1, ⟨y2, y2'⟩, ⟨y3, y3'⟩, y4, y5, y6, y7⟩ := LJ_s hLJ
  have sm := fun (Q : zU → zS → Prop) => s105 (o := o) (Y := Y) (h := hj T' Ln' M1) (t := (n', u')) (Q := Q) j5 (xe_r (xs := xs) (j := ii + 1)).1 (xe_r (xs := xs) (j := ii + 1)).2
  have s9 := fun (Q : zU → zS → Prop) => s95 (o := o) (Y := (a_program Y (xe xs (ii + 1))).2) (h := hj T' Ln' M1) (t := (n', u')) (Q := Q)
  rw [f1, f2] at sm
  rw [f2] at s9
  rw [w3] at sm
  have hs1 := j7 (ii + 1) (by omega) (by omega)
  have hs1' := k7 (ii + 1) (by omega) (by omega)
  have hot : mY o (a_program Y (xe xs (ii + 1))).2 M1 ot 0 = M1 ot 0 := mY_o hno
  have hz : 0 ≤ (a_program Y (xe xs (ii + 1))).2 0 0 ∧ (a_program Y (xe xs (ii + 1))).2 0 0 ≤ 3 := y5 0 0
  generalize a_program Y (xe xs (ii + 1)) = R at *
  obtain ⟨rv, Z⟩ := R
  simp only at *
  refine ⟨T', Ln', mY o Z M1, n', u', Z, some (zi (Z 0 0)), some (zi v'), l7, fun Q => ?_, f3⟩
  rcases w2 with ⟨z0, rfl⟩ | ⟨z0, rfl⟩
  · rw [mu_s] at hot
    simp (disch := omega) only [g174_200, g174_201, g174_202, g174_204, g174_205, g174_206, g174_207, g174_208, g174_211, g174_213, g174_214, g174_215, g174_217, g174_218, g174_219, g174_220, g174_223, g174_225, g174_226, g174_229, g174_231, g174_234, g174_235_0, g174_235_1, g174_235b, g174_236, g174_238, g174_238b, g174_241, g174_242, g174_243, g174_244, g174_246, g174_247, g174_251, g174_252_0, g174_252_1, g174_252b, g174_253, Int.reduceToNat, jtg, mu_s, mu_n, mu_j, mn_s, mn_n, jn_8, jnl, jnk_0, jnk_4, jnk_16, jnk_24, jnk_28, jnk_61, jnk_2000, jnk_4096, jnk_56000, jln, jai, jal, Option.some.injEq, exists_eq_left', zkl_i, zkl_l, zkl_n, zkl_r, zkl_0, zc_v, zc_n, zc_t, zd_v, zd_n, mj_tg, true_and, ↓reduceIte, not_true_eq_false, not_false_eq_true, ↓if_pos, ↓if_neg, Int.reduceLE, Int.reduceLT, Int.reduceEq, Int.reduceAdd, jas, hs1, hs1', w1, sm, s9, hot]
  · simp (disch := omega) only [g174_200, g174_201, g174_202, g174_204, g174_205, g174_206, g174_207, g174_208, g174_211, g174_213, g174_214, g174_215, g174_217, g174_218, g174_219, g174_220, g174_223, g174_225, g174_226, g174_229, g174_231, g174_234, g174_235_0, g174_235_1, g174_235b, g174_236, g174_238, g174_238b, g174_241, g174_242, g174_243, g174_244, g174_246, g174_247, g174_251, g174_252_0, g174_252_1, g174_252b, g174_253, Int.reduceToNat, jtg, mu_s, mu_n, mu_j, mn_s, mn_n, jn_8, jnl, jnk_0, jnk_4, jnk_16, jnk_24, jnk_28, jnk_61, jnk_2000, jnk_4096, jnk_56000, jln, jai, jal, Option.some.injEq, exists_eq_left', zkl_i, zkl_l, zkl_n, zkl_r, zkl_0, zc_v, zc_n, zc_t, zd_v, zd_n, mj_tg, true_and, ↓reduceIte, not_true_eq_false, not_false_eq_true, ↓if_pos, ↓if_neg, Int.reduceLE, Int.reduceLT, Int.reduceEq, Int.reduceAdd, jas, hs1, hs1', w1, sm, s9]
set_option maxHeartbeats 2000000 in
theorem lw_2 (h : LI b L xs T Ln M n u x o ot Y c n0 u0) (hc : 0 ≤ c) (hc2 : c ≤ 4000) (hL : L ≤ 3584) (hb : ¬ (o ≤ b ∧ b < o + 34)) (hne : ¬ ot = b) (hno : ¬ (o ≤ ot ∧ ot < o + 34)) (i0 : 0 ≤ ii) (i7 : ii + 7 ≤ L) : ∃ T' Ln' M' n' u' Y' l5' l6' l7', (∀ Q : zU → zS → Prop, z_go zP 174 256 [some (.ref b), some (.ref x), some (.ref o), some (.ref ot), some (zi ii), l5, l6, l7] [] (hj T Ln M, n, u) Q ↔ z_go zP 174 1398 [some (.ref b), some (.ref x), some (.ref o), some (.ref ot), some (zi ii), l5', l6', l7'] [] (hj T' Ln' M', n', u') Q) ∧ LI b L xs T' Ln' M' n' u' x o ot Y' (c + 1) n0 u0 := by
  obtain ⟨j1, ⟨j2, j2'⟩, ⟨j3, j3'⟩, j4, j5, j6, j7⟩ := LJ_s (LI_J h)
  obtain ⟨T', Ln', M', n', u', res, q1, q2, q3, q4⟩ := CR_LJ (cd := cdW) h hne hno (fun A W Ow X hrz => c59 hrz (xe_r).1 (xe_r).2 (xe_r).1 (xe_r).2 (xe_r).1 (xe_r).2 (xe_r).1 (xe_r).2 (xe_r).1 (xe_r).2 (xe_r).1 (xe_r).2 rfl rfl rfl)
  obtain ⟨-, -, ⟨k3, k3'⟩, -, -, -, k7⟩ := LJ_s q3
  obtain ⟨M1, v', w1, w2, w3, w4, w5⟩ := w160 j1 k3 k3' q1 q2 cdW_i
  have hLJ : LJ b L xs T' Ln' M1 n' u' x o ot Y (a_word Y (xe xs (ii + 1)) (xe xs (ii + 2)) (xe xs (ii + 3)) (xe xs (ii + 4)) (xe xs (ii + 5)) (xe xs (ii + 6))).2 (c + 1) n0 u0 := by
    rcases w2 with ⟨-, rfl⟩ | ⟨-, rfl⟩
    · exact q4 _
    · exact q3
  obtain ⟨f1, f2, f3⟩ := LJ_LI hb hLJ
  obtain ⟨y1, ⟨y2, y2'⟩, ⟨y3, y3'⟩, y4, y5, y6, y7⟩ := LJ_s hLJ
  have sm := fun (Q : zU → zS → Prop) => s106 (o := o) (Y := Y) (h := hj T' Ln' M1) (t := (n', u')) (Q := Q) (n := xe xs (ii + 6)) j5 (xe_r (xs := xs) (j := ii + 1)).1 (xe_r (xs := xs) (j := ii + 1)).2 (xe_r (xs := xs) (j := ii + 2)).1 (xe_r (xs := xs) (j := ii + 2)).2 (xe_r (xs := xs) (j := ii + 3)).1 (xe_r (xs := xs) (j := ii + 3)).2 (xe_r (xs := xs) (j := ii + 4)).1 (xe_r (xs := xs) (j := ii + 4)).2 (xe_r (xs := xs) (j := ii + 5)).1 (xe_r (xs := xs) (j := ii + 5)).2
  have s9 := fun (Q : zU → zS → Prop) => s95 (o := o) (Y := (a_word Y (xe xs (ii + 1)) (xe xs (ii + 2)) (xe xs (ii + 3)) (xe xs (ii + 4)) (xe xs (ii + 5)) (xe xs (ii + 6))).2) (h := hj T' Ln' M1) (t := (n', u')) (Q := Q)
  rw [f1, f2] at sm
  rw [f2] at s9
  rw [w3] at sm
  have hs1 := j7 (ii + 1) (by omega) (by omega)
  have hs1' := k7 (ii + 1) (by omega) (by omega)
  have hs2 := j7 (ii + 2) (by omega) (by omega)
  have hs2' := k7 (ii + 2) (by omega) (by omega)
  have hs3 := j7 (ii + 3) (by omega) (by omega)
  have hs3' := k7 (ii + 3) (by omega) (by omega)
  have hs4 := j7 (ii + 4) (by omega) (by omega)
  have hs4' := k7 (ii + 4) (by omega) (by omega)
  have hs5 := j7 (ii + 5) (by omega) (by omega)
  have hs5' := k7 (ii + 5) (by omega) (by omega)
  have hs6 := j7 (ii + 6) (by omega) (by omega)
  have hs6' := k7 (ii + 6) (by omega) (by omega)
  have hot : mY o (a_word Y (xe xs (ii + 1)) (xe xs (ii + 2)) (xe xs (ii + 3)) (xe xs (ii + 4)) (xe xs (ii + 5)) (xe xs (ii + 6))).2 M1 ot 0 = M1 ot 0 := mY_o hno
  have hz : 0 ≤ (a_word Y (xe xs (ii + 1)) (xe xs (ii + 2)) (xe xs (ii + 3)) (xe xs (ii + 4)) (xe xs (ii + 5)) (xe xs (ii + 6))).2 0 0 ∧ (a_word Y (xe xs (ii + 1)) (xe xs (ii + 2)) (xe xs (ii + 3)) (xe xs (ii + 4)) (xe xs (ii + 5)) (xe xs (ii + 6))).2 0 0 ≤ 3 := y5 0 0
  generalize a_word Y (xe xs (ii + 1)) (xe xs (ii + 2)) (xe xs (ii + 3)) (xe xs (ii + 4)) (xe xs (ii + 5)) (xe xs (ii + 6)) = R at *
  obtain ⟨rv, Z⟩ := R
  simp only at *
  refine ⟨T', Ln', mY o Z M1, n', u', Z, some (zi (Z 0 0)), some (zi v'), l7, fun Q => ?_, f3⟩
  rcases w2 with ⟨z0, rfl⟩ | ⟨z0, rfl⟩
  · rw [mu_s] at hot
    simp (disch := omega) only [g174_256, g174_257, g174_258, g174_260, g174_261, g174_262, g174_263, g174_264, g174_266, g174_267, g174_268, g174_269, g174_270, g174_272, g174_273, g174_274, g174_275, g174_276, g174_278, g174_279, g174_280, g174_281, g174_282, g174_284, g174_285, g174_286, g174_287, g174_288, g174_290, g174_292, g174_293, g174_294, g174_295, g174_298, g174_300, g174_301, g174_302, g174_304, g174_305, g174_306, g174_307, g174_308, g174_310, g174_311, g174_312, g174_313, g174_314, g174_316, g174_317, g174_318, g174_319, g174_320, g174_322, g174_323, g174_324, g174_325, g174_326, g174_328, g174_329, g174_330, g174_331, g174_332, g174_334, g174_336, g174_337, g174_338, g174_341, g174_343, g174_344, g174_347, g174_349, g174_352, g174_353_0, g174_353_1, g174_353b, g174_354, g174_356, g174_356b, g174_359, g174_360, g174_361, g174_362, g174_364, g174_365, g174_369, g174_370_0, g174_370_1, g174_370b, g174_371, Int.reduceToNat, jtg, mu_s, mu_n, mu_j, mn_s, mn_n, jn_8, jnl, jnk_0, jnk_4, jnk_16, jnk_24, jnk_28, jnk_61, jnk_2000, jnk_4096, jnk_56000, jln, jai, jal, Option.some.injEq, exists_eq_left', zkl_i, zkl_l, zkl_n, zkl_r, zkl_0, zc_v, zc_n, zc_t, zd_v, zd_n, mj_tg, true_and, ↓reduceIte, not_true_eq_false, not_false_eq_true, ↓if_pos, ↓if_neg, Int.reduceLE, Int.reduceLT, Int.reduceEq, Int.reduceAdd, jas, hs1, hs1', hs2, hs2', hs3, hs3', hs4, hs4', hs5, hs5', hs6, hs6', w1, sm, s9, hot]
  · simp (disch := omega) only [g174_256, g174_257, g174_258, g174_260, g174_261, g174_262, g174_263, g174_264, g174_266, g174_267, g174_268, g174_269, g174_270, g174_272, g174_273, g174_274, g174_275, g174_276, g174_278, g174_279, g174_280, g174_281, g174_282, g174_284, g174_285, g174_286, g174_287, g174_288, g174_290, g174_292, g174_293, g174_294, g174_295, g174_298, g174_300, g174_301, g174_302, g174_304, g174_305, g174_306, g174_307, g174_308, g174_310, g174_311, g174_312, g174_313, g174_314, g174_316, g174_317, g174_318, g174_319, g174_320, g174_322, g174_323, g174_324, g174_325, g174_326, g174_328, g174_329, g174_330, g174_331, g174_332, g174_334, g174_336, g174_337, g174_338, g174_341, g174_343, g174_344, g174_347, g174_349, g174_352, g174_353_0, g174_353_1, g174_353b, g174_354, g174_356, g174_356b, g174_359, g174_360, g174_361, g174_362, g174_364, g174_365, g174_369, g174_370_0, g174_370_1, g174_370b, g174_371, Int.reduceToNat, jtg, mu_s, mu_n, mu_j, mn_s, mn_n, jn_8, jnl, jnk_0, jnk_4, jnk_16, jnk_24, jnk_28, jnk_61, jnk_2000, jnk_4096, jnk_56000, jln, jai, jal, Option.some.injEq, exists_eq_left', zkl_i, zkl_l, zkl_n, zkl_r, zkl_0, zc_v, zc_n, zc_t, zd_v, zd_n, mj_tg, true_and, ↓reduceIte, not_true_eq_false, not_false_eq_true, ↓if_pos, ↓if_neg, Int.reduceLE, Int.reduceLT, Int.reduceEq, Int.reduceAdd, jas, hs1, hs1', hs2, hs2', hs3, hs3', hs4, hs4', hs5, hs5', hs6, hs6', w1, sm, s9]
set_option maxHeartbeats 2000000 in
theorem lw_3 (h : LI b L xs T Ln M n u x o ot Y c n0 u0) (hc : 0 ≤ c) (hc2 : c ≤ 4000) (hL : L ≤ 3584) (hb : ¬ (o ≤ b ∧ b < o + 34)) (hne : ¬ ot = b) (hno : ¬ (o ≤ ot ∧ ot < o + 34)) (i0 : 0 ≤ ii) (i7 : ii + 7 ≤ L) : ∃ T' Ln' M' n' u' Y' l5' l6' l7', (∀ Q : zU → zS → Prop, z_go zP 174 374 [some (.ref b), some (.ref x), some (.ref o), some (.ref ot), some (zi ii), l5, l6, l7] [] (hj T Ln M, n, u) Q ↔ z_go zP 174 1398 [some (.ref b), some (.ref x), some (.ref o), some (.ref ot), some (zi ii), l5', l6', l7'] [] (hj T' Ln' M', n', u') Q) ∧ LI b L xs T' Ln' M' n' u' x o ot Y' (c + 1) n0 u0 := by
  obtain ⟨j1, ⟨j2, j2'⟩, ⟨j3, j3'⟩, j4, j5, j6, j7⟩ := LJ_s (LI_J h)
  obtain ⟨T', Ln', M', n', u', res, q1, q2, q3, q4⟩ := CR_LJ (cd := cd1) h hne hno (fun A W Ow X hrz => c60 hrz hc (xe_r).1 (xe_r).2 rfl)
  obtain ⟨-, -, ⟨k3, k3'⟩, -, -, -, k7⟩ := LJ_s q3
  obtain ⟨M1, v', w1, w2, w3, w4, w5⟩ := w161 j1 k3 k3' q1 q2 cd1_i
  have hLJ : LJ b L xs T' Ln' M1 n' u' x o ot Y (a_run Y (xe xs (ii + 1))).2 (c + 1) n0 u0 := by
    rcases w2 with ⟨-, rfl⟩ | ⟨-, rfl⟩
    · exact q4 _
    · exact q3
  obtain ⟨f1, f2, f3⟩ := LJ_LI hb hLJ
  obtain ⟨y1, ⟨y2, y2'⟩, ⟨y3, y3'⟩, y4, y5, y6, y7⟩ := LJ_s hLJ
  have sm := fun (Q : zU → zS → Prop) => s117 (o := o) (Y := Y) (h := hj T' Ln' M1) (t := (n', u')) (Q := Q) j5 (xe_r (xs := xs) (j := ii + 1)).1 (xe_r (xs := xs) (j := ii + 1)).2
  have s9 := fun (Q : zU → zS → Prop) => s95 (o := o) (Y := (a_run Y (xe xs (ii + 1))).2) (h := hj T' Ln' M1) (t := (n', u')) (Q := Q)
  rw [f1, f2] at sm
  rw [f2] at s9
  rw [w3] at sm
  have hs1 := j7 (ii + 1) (by omega) (by omega)
  have hs1' := k7 (ii + 1) (by omega) (by omega)
  have hot : mY o (a_run Y (xe xs (ii + 1))).2 M1 ot 0 = M1 ot 0 := mY_o hno
  have hz : 0 ≤ (a_run Y (xe xs (ii + 1))).2 0 0 ∧ (a_run Y (xe xs (ii + 1))).2 0 0 ≤ 3 := y5 0 0
  generalize a_run Y (xe xs (ii + 1)) = R at *
  obtain ⟨rv, Z⟩ := R
  simp only at *
  refine ⟨T', Ln', mY o Z M1, n', u', Z, some (zi (Z 0 0)), some (zi v'), l7, fun Q => ?_, f3⟩
  rcases w2 with ⟨z0, rfl⟩ | ⟨z0, rfl⟩
  · rw [mu_s] at hot
    simp (disch := omega) only [g174_374, g174_375, g174_376, g174_378, g174_379, g174_380, g174_381, g174_382, g174_385, g174_387, g174_388, g174_389, g174_391, g174_392, g174_393, g174_394, g174_397, g174_399, g174_400, g174_403, g174_405, g174_408, g174_409_0, g174_409_1, g174_409b, g174_410, g174_412, g174_412b, g174_415, g174_416, g174_417, g174_418, g174_420, g174_421, g174_425, g174_426_0, g174_426_1, g174_426b, g174_427, Int.reduceToNat, jtg, mu_s, mu_n, mu_j, mn_s, mn_n, jn_8, jnl, jnk_0, jnk_4, jnk_16, jnk_24, jnk_28, jnk_61, jnk_2000, jnk_4096, jnk_56000, jln, jai, jal, Option.some.injEq, exists_eq_left', zkl_i, zkl_l, zkl_n, zkl_r, zkl_0, zc_v, zc_n, zc_t, zd_v, zd_n, mj_tg, true_and, ↓reduceIte, not_true_eq_false, not_false_eq_true, ↓if_pos, ↓if_neg, Int.reduceLE, Int.reduceLT, Int.reduceEq, Int.reduceAdd, jas, hs1, hs1', w1, sm, s9, hot]
  · simp (disch := omega) only [g174_374, g174_375, g174_376, g174_378, g174_379, g174_380, g174_381, g174_382, g174_385, g174_387, g174_388, g174_389, g174_391, g174_392, g174_393, g174_394, g174_397, g174_399, g174_400, g174_403, g174_405, g174_408, g174_409_0, g174_409_1, g174_409b, g174_410, g174_412, g174_412b, g174_415, g174_416, g174_417, g174_418, g174_420, g174_421, g174_425, g174_426_0, g174_426_1, g174_426b, g174_427, Int.reduceToNat, jtg, mu_s, mu_n, mu_j, mn_s, mn_n, jn_8, jnl, jnk_0, jnk_4, jnk_16, jnk_24, jnk_28, jnk_61, jnk_2000, jnk_4096, jnk_56000, jln, jai, jal, Option.some.injEq, exists_eq_left', zkl_i, zkl_l, zkl_n, zkl_r, zkl_0, zc_v, zc_n, zc_t, zd_v, zd_n, mj_tg, true_and, ↓reduceIte, not_true_eq_false, not_false_eq_true, ↓if_pos, ↓if_neg, Int.reduceLE, Int.reduceLT, Int.reduceEq, Int.reduceAdd, jas, hs1, hs1', w1, sm, s9]
set_option maxHeartbeats 2000000 in
theorem lw_4 (h : LI b L xs T Ln M n u x o ot Y c n0 u0) (hc : 0 ≤ c) (hc2 : c ≤ 4000) (hL : L ≤ 3584) (hb : ¬ (o ≤ b ∧ b < o + 34)) (hne : ¬ ot = b) (hno : ¬ (o ≤ ot ∧ ot < o + 34)) (i0 : 0 ≤ ii) (i7 : ii + 7 ≤ L) : ∃ T' Ln' M' n' u' Y' l5' l6' l7', (∀ Q : zU → zS → Prop, z_go zP 174 430 [some (.ref b), some (.ref x), some (.ref o), some (.ref ot), some (zi ii), l5, l6, l7] [] (hj T Ln M, n, u) Q ↔ z_go zP 174 1398 [some (.ref b), some (.ref x), some (.ref o), some (.ref ot), some (zi ii), l5', l6', l7'] [] (hj T' Ln' M', n', u') Q) ∧ LI b L xs T' Ln' M' n' u' x o ot Y' (c + 1) n0 u0 := by
  obtain ⟨j1, ⟨j2, j2'⟩, ⟨j3, j3'⟩, j4, j5, j6, j7⟩ := LJ_s (LI_J h)
  obtain ⟨T', Ln', M', n', u', res, q1, q2, q3, q4⟩ := CR_LJ (cd := cd2) h hne hno (fun A W Ow X hrz => c61 hrz hc hc2 (xe_r).1 (xe_r).2 (xe_r).1 (xe_r).2 rfl rfl)
  obtain ⟨-, -, ⟨k3, k3'⟩, -, -, -, k7⟩ := LJ_s q3
  obtain ⟨M1, v', w1, w2, w3, w4, w5⟩ := w162 j1 k3 k3' q1 q2 cd2_i
  have hLJ : LJ b L xs T' Ln' M1 n' u' x o ot Y (a_step Y (xe xs (ii + 1)) (xe xs (ii + 2))).2 (c + 1) n0 u0 := by
    rcases w2 with ⟨-, rfl⟩ | ⟨-, rfl⟩
    · exact q4 _
    · exact q3
  obtain ⟨f1, f2, f3⟩ := LJ_LI hb hLJ
  obtain ⟨y1, ⟨y2, y2'⟩, ⟨y3, y3'⟩, y4, y5, y6, y7⟩ := LJ_s hLJ
  have sm := fun (Q : zU → zS → Prop) => s118 (o := o) (Y := Y) (h := hj T' Ln' M1) (t := (n', u')) (Q := Q) j5 (xe_r (xs := xs) (j := ii + 1)).1 (xe_r (xs := xs) (j := ii + 1)).2 (xe_r (xs := xs) (j := ii + 2)).1 (xe_r (xs := xs) (j := ii + 2)).2 (LI_run h) (by have := (j6 (xe xs (ii + 1))).1; omega)
  have s9 := fun (Q : zU → zS → Prop) => s95 (o := o) (Y := (a_step Y (xe xs (ii + 1)) (xe xs (ii + 2))).2) (h := hj T' Ln' M1) (t := (n', u')) (Q := Q)
  rw [f1, f2] at sm
  rw [f2] at s9
  rw [w3] at sm
  have hs1 := j7 (ii + 1) (by omega) (by omega)
  have hs1' := k7 (ii + 1) (by omega) (by omega)
  have hs2 := j7 (ii + 2) (by omega) (by omega)
  have hs2' := k7 (ii + 2) (by omega) (by omega)
  have hot : mY o (a_step Y (xe xs (ii + 1)) (xe xs (ii + 2))).2 M1 ot 0 = M1 ot 0 := mY_o hno
  have hz : 0 ≤ (a_step Y (xe xs (ii + 1)) (xe xs (ii + 2))).2 0 0 ∧ (a_step Y (xe xs (ii + 1)) (xe xs (ii + 2))).2 0 0 ≤ 3 := y5 0 0
  generalize a_step Y (xe xs (ii + 1)) (xe xs (ii + 2)) = R at *
  obtain ⟨rv, Z⟩ := R
  simp only at *
  refine ⟨T', Ln', mY o Z M1, n', u', Z, some (zi (Z 0 0)), some (zi v'), l7, fun Q => ?_, f3⟩
  rcases w2 with ⟨z0, rfl⟩ | ⟨z0, rfl⟩
  · rw [mu_s] at hot
    simp (disch := omega) only [g174_430, g174_431, g174_432, g174_434, g174_435, g174_436, g174_437, g174_438, g174_440, g174_441, g174_442, g174_443, g174_444, g174_447, g174_449, g174_450, g174_451, g174_453, g174_454, g174_455, g174_456, g174_457, g174_459, g174_460, g174_461, g174_462, g174_465, g174_467, g174_468, g174_471, g174_473, g174_476, g174_477_0, g174_477_1, g174_477b, g174_478, g174_480, g174_480b, g174_483, g174_484, g174_485, g174_486, g174_488, g174_489, g174_493, g174_494_0, g174_494_1, g174_494b, g174_495, Int.reduceToNat, jtg, mu_s, mu_n, mu_j, mn_s, mn_n, jn_8, jnl, jnk_0, jnk_4, jnk_16, jnk_24, jnk_28, jnk_61, jnk_2000, jnk_4096, jnk_56000, jln, jai, jal, Option.some.injEq, exists_eq_left', zkl_i, zkl_l, zkl_n, zkl_r, zkl_0, zc_v, zc_n, zc_t, zd_v, zd_n, mj_tg, true_and, ↓reduceIte, not_true_eq_false, not_false_eq_true, ↓if_pos, ↓if_neg, Int.reduceLE, Int.reduceLT, Int.reduceEq, Int.reduceAdd, jas, hs1, hs1', hs2, hs2', w1, sm, s9, hot]
  · simp (disch := omega) only [g174_430, g174_431, g174_432, g174_434, g174_435, g174_436, g174_437, g174_438, g174_440, g174_441, g174_442, g174_443, g174_444, g174_447, g174_449, g174_450, g174_451, g174_453, g174_454, g174_455, g174_456, g174_457, g174_459, g174_460, g174_461, g174_462, g174_465, g174_467, g174_468, g174_471, g174_473, g174_476, g174_477_0, g174_477_1, g174_477b, g174_478, g174_480, g174_480b, g174_483, g174_484, g174_485, g174_486, g174_488, g174_489, g174_493, g174_494_0, g174_494_1, g174_494b, g174_495, Int.reduceToNat, jtg, mu_s, mu_n, mu_j, mn_s, mn_n, jn_8, jnl, jnk_0, jnk_4, jnk_16, jnk_24, jnk_28, jnk_61, jnk_2000, jnk_4096, jnk_56000, jln, jai, jal, Option.some.injEq, exists_eq_left', zkl_i, zkl_l, zkl_n, zkl_r, zkl_0, zc_v, zc_n, zc_t, zd_v, zd_n, mj_tg, true_and, ↓reduceIte, not_true_eq_false, not_false_eq_true, ↓if_pos, ↓if_neg, Int.reduceLE, Int.reduceLT, Int.reduceEq, Int.reduceAdd, jas, hs1, hs1', hs2, hs2', w1, sm, s9]
set_option maxHeartbeats 2000000 in
theorem lw_5 (h : LI b L xs T Ln M n u x o ot Y c n0 u0) (hc : 0 ≤ c) (hc2 : c ≤ 4000) (hL : L ≤ 3584) (hb : ¬ (o ≤ b ∧ b < o + 34)) (hne : ¬ ot = b) (hno : ¬ (o ≤ ot ∧ ot < o + 34)) (i0 : 0 ≤ ii) (i7 : ii + 7 ≤ L) : ∃ T' Ln' M' n' u' Y' l5' l6' l7', (∀ Q : zU → zS → Prop, z_go zP 174 498 [some (.ref b), some (.ref x), some (.ref o), some (.ref ot), some (zi ii), l5, l6, l7] [] (hj T Ln M, n, u) Q ↔ z_go zP 174 1398 [some (.ref b), some (.ref x), some (.ref o), some (.ref ot), some (zi ii), l5', l6', l7'] [] (hj T' Ln' M', n', u') Q) ∧ LI b L xs T' Ln' M' n' u' x o ot Y' (c + 1) n0 u0 := by
  obtain ⟨j1, ⟨j2, j2'⟩, ⟨j3, j3'⟩, j4, j5, j6, j7⟩ := LJ_s (LI_J h)
  obtain ⟨T', Ln', M', n', u', res, q1, q2, q3, q4⟩ := CR_LJ (cd := cd2) h hne hno (fun A W Ow X hrz => c62 hrz hc (xe_r).1 (xe_r).2 (xe_r).1 (xe_r).2 (xe_r).1 (xe_r).2 (xe_r).1 (xe_r).2 (xe_r).1 (xe_r).2 rfl rfl)
  obtain ⟨-, -, ⟨k3, k3'⟩, -, -, -, k7⟩ := LJ_s q3
  obtain ⟨M1, v', w1, w2, w3, w4, w5⟩ := w163 j1 k3 k3' q1 q2 cd2_i
  have hLJ : LJ b L xs T' Ln' M1 n' u' x o ot Y (a_core Y (xe xs (ii + 1)) (xe xs (ii + 2)) (xe xs (ii + 3)) (xe xs (ii + 4)) (xe xs (ii + 5))).2 (c + 1) n0 u0 := by
    rcases w2 with ⟨-, rfl⟩ | ⟨-, rfl⟩
    · exact q4 _
    · exact q3
  obtain ⟨f1, f2, f3⟩ := LJ_LI hb hLJ
  obtain ⟨y1, ⟨y2, y2'⟩, ⟨y3, y3'⟩, y4, y5, y6, y7⟩ := LJ_s hLJ
  have sm := fun (Q : zU → zS → Prop) => s109 (o := o) (Y := Y) (h := hj T' Ln' M1) (t := (n', u')) (Q := Q) j5 (xe_r (xs := xs) (j := ii + 1)).1 (xe_r (xs := xs) (j := ii + 1)).2 (xe_r (xs := xs) (j := ii + 2)).1 (xe_r (xs := xs) (j := ii + 2)).2 (xe_r (xs := xs) (j := ii + 3)).1 (xe_r (xs := xs) (j := ii + 3)).2 (xe_r (xs := xs) (j := ii + 4)).1 (xe_r (xs := xs) (j := ii + 4)).2 (xe_r (xs := xs) (j := ii + 5)).1 (xe_r (xs := xs) (j := ii + 5)).2
  have s9 := fun (Q : zU → zS → Prop) => s95 (o := o) (Y := (a_core Y (xe xs (ii + 1)) (xe xs (ii + 2)) (xe xs (ii + 3)) (xe xs (ii + 4)) (xe xs (ii + 5))).2) (h := hj T' Ln' M1) (t := (n', u')) (Q := Q)
  rw [f1, f2] at sm
  rw [f2] at s9
  rw [w3] at sm
  have hs1 := j7 (ii + 1) (by omega) (by omega)
  have hs1' := k7 (ii + 1) (by omega) (by omega)
  have hs2 := j7 (ii + 2) (by omega) (by omega)
  have hs2' := k7 (ii + 2) (by omega) (by omega)
  have hs3 := j7 (ii + 3) (by omega) (by omega)
  have hs3' := k7 (ii + 3) (by omega) (by omega)
  have hs4 := j7 (ii + 4) (by omega) (by omega)
  have hs4' := k7 (ii + 4) (by omega) (by omega)
  have hs5 := j7 (ii + 5) (by omega) (by omega)
  have hs5' := k7 (ii + 5) (by omega) (by omega)
  have hot : mY o (a_core Y (xe xs (ii + 1)) (xe xs (ii + 2)) (xe xs (ii + 3)) (xe xs (ii + 4)) (xe xs (ii + 5))).2 M1 ot 0 = M1 ot 0 := mY_o hno
  have hz : 0 ≤ (a_core Y (xe xs (ii + 1)) (xe xs (ii + 2)) (xe xs (ii + 3)) (xe xs (ii + 4)) (xe xs (ii + 5))).2 0 0 ∧ (a_core Y (xe xs (ii + 1)) (xe xs (ii + 2)) (xe xs (ii + 3)) (xe xs (ii + 4)) (xe xs (ii + 5))).2 0 0 ≤ 3 := y5 0 0
  generalize a_core Y (xe xs (ii + 1)) (xe xs (ii + 2)) (xe xs (ii + 3)) (xe xs (ii + 4)) (xe xs (ii + 5)) = R at *
  obtain ⟨rv, Z⟩ := R
  simp only at *
  refine ⟨T', Ln', mY o Z M1, n', u', Z, some (zi (Z 0 0)), some (zi v'), l7, fun Q => ?_, f3⟩
  rcases w2 with ⟨z0, rfl⟩ | ⟨z0, rfl⟩
  · rw [mu_s] at hot
    simp (disch := omega) only [g174_498, g174_499, g174_500, g174_502, g174_503, g174_504, g174_505, g174_506, g174_508, g174_509, g174_510, g174_511, g174_512, g174_514, g174_515, g174_516, g174_517, g174_518, g174_520, g174_521, g174_522, g174_523, g174_524, g174_526, g174_527, g174_528, g174_529, g174_530, g174_533, g174_535, g174_536, g174_537, g174_539, g174_540, g174_541, g174_542, g174_543, g174_545, g174_546, g174_547, g174_548, g174_549, g174_551, g174_552, g174_553, g174_554, g174_555, g174_557, g174_558, g174_559, g174_560, g174_561, g174_563, g174_564, g174_565, g174_566, g174_569, g174_571, g174_572, g174_575, g174_577, g174_580, g174_581_0, g174_581_1, g174_581b, g174_582, g174_584, g174_584b, g174_587, g174_588, g174_589, g174_590, g174_592, g174_593, g174_597, g174_598_0, g174_598_1, g174_598b, g174_599, Int.reduceToNat, jtg, mu_s, mu_n, mu_j, mn_s, mn_n, jn_8, jnl, jnk_0, jnk_4, jnk_16, jnk_24, jnk_28, jnk_61, jnk_2000, jnk_4096, jnk_56000, jln, jai, jal, Option.some.injEq, exists_eq_left', zkl_i, zkl_l, zkl_n, zkl_r, zkl_0, zc_v, zc_n, zc_t, zd_v, zd_n, mj_tg, true_and, ↓reduceIte, not_true_eq_false, not_false_eq_true, ↓if_pos, ↓if_neg, Int.reduceLE, Int.reduceLT, Int.reduceEq, Int.reduceAdd, jas, hs1, hs1', hs2, hs2', hs3, hs3', hs4, hs4', hs5, hs5', w1, sm, s9, hot]
  · simp (disch := omega) only [g174_498, g174_499, g174_500, g174_502, g174_503, g174_504, g174_505, g174_506, g174_508, g174_509, g174_510, g174_511, g174_512, g174_514, g174_515, g174_516, g174_517, g174_518, g174_520, g174_521, g174_522, g174_523, g174_524, g174_526, g174_527, g174_528, g174_529, g174_530, g174_533, g174_535, g174_536, g174_537, g174_539, g174_540, g174_541, g174_542, g174_543, g174_545, g174_546, g174_547, g174_548, g174_549, g174_551, g174_552, g174_553, g174_554, g174_555, g174_557, g174_558, g174_559, g174_560, g174_561, g174_563, g174_564, g174_565, g174_566, g174_569, g174_571, g174_572, g174_575, g174_577, g174_580, g174_581_0, g174_581_1, g174_581b, g174_582, g174_584, g174_584b, g174_587, g174_588, g174_589, g174_590, g174_592, g174_593, g174_597, g174_598_0, g174_598_1, g174_598b, g174_599, Int.reduceToNat, jtg, mu_s, mu_n, mu_j, mn_s, mn_n, jn_8, jnl, jnk_0, jnk_4, jnk_16, jnk_24, jnk_28, jnk_61, jnk_2000, jnk_4096, jnk_56000, jln, jai, jal, Option.some.injEq, exists_eq_left', zkl_i, zkl_l, zkl_n, zkl_r, zkl_0, zc_v, zc_n, zc_t, zd_v, zd_n, mj_tg, true_and, ↓reduceIte, not_true_eq_false, not_false_eq_true, ↓if_pos, ↓if_neg, Int.reduceLE, Int.reduceLT, Int.reduceEq, Int.reduceAdd, jas, hs1, hs1', hs2, hs2', hs3, hs3', hs4, hs4', hs5, hs5', w1, sm, s9]
set_option maxHeartbeats 2000000 in
theorem lw_6 (h : LI b L xs T Ln M n u x o ot Y c n0 u0) (hc : 0 ≤ c) (hc2 : c ≤ 4000) (hL : L ≤ 3584) (hb : ¬ (o ≤ b ∧ b < o + 34)) (hne : ¬ ot = b) (hno : ¬ (o ≤ ot ∧ ot < o + 34)) (i0 : 0 ≤ ii) (i7 : ii + 7 ≤ L) : ∃ T' Ln' M' n' u' Y' l5' l6' l7', (∀ Q : zU → zS → Prop, z_go zP 174 602 [some (.ref b), some (.ref x), some (.ref o), some (.ref ot), some (zi ii), l5, l6, l7] [] (hj T Ln M, n, u) Q ↔ z_go zP 174 1398 [some (.ref b), some (.ref x), some (.ref o), some (.ref ot), some (zi ii), l5', l6', l7'] [] (hj T' Ln' M', n', u') Q) ∧ LI b L xs T' Ln' M' n' u' x o ot Y' (c + 1) n0 u0 := by
  obtain ⟨j1, ⟨j2, j2'⟩, ⟨j3, j3'⟩, j4, j5, j6, j7⟩ := LJ_s (LI_J h)
  obtain ⟨T', Ln', M', n', u', res, q1, q2, q3, q4⟩ := CR_LJ (cd := cd2) h hne hno (fun A W Ow X hrz => c63 hrz (xe_r).1 (xe_r).2 (xe_r).1 (xe_r).2 (xe_r).1 (xe_r).2 (xe_r).1 (xe_r).2 (xe_r).1 (xe_r).2 rfl rfl)
  obtain ⟨-, -, ⟨k3, k3'⟩, -, -, -, k7⟩ := LJ_s q3
  obtain ⟨M1, v', w1, w2, w3, w4, w5⟩ := w164 j1 k3 k3' q1 q2 cd2_i
  have hLJ : LJ b L xs T' Ln' M1 n' u' x o ot Y (a_change Y (xe xs (ii + 1)) (xe xs (ii + 2)) (xe xs (ii + 3)) (xe xs (ii + 4)) (xe xs (ii + 5))).2 (c + 1) n0 u0 := by
    rcases w2 with ⟨-, rfl⟩ | ⟨-, rfl⟩
    · exact q4 _
    · exact q3
  obtain ⟨f1, f2, f3⟩ := LJ_LI hb hLJ
  obtain ⟨y1, ⟨y2, y2'⟩, ⟨y3, y3'⟩, y4, y5, y6, y7⟩ := LJ_s hLJ
  have sm := fun (Q : zU → zS → Prop) => s110 (o := o) (Y := Y) (h := hj T' Ln' M1) (t := (n', u')) (Q := Q) j5 (xe_r (xs := xs) (j := ii + 1)).1 (xe_r (xs := xs) (j := ii + 1)).2 (xe_r (xs := xs) (j := ii + 2)).1 (xe_r (xs := xs) (j := ii + 2)).2 (xe_r (xs := xs) (j := ii + 3)).1 (xe_r (xs := xs) (j := ii + 3)).2 (xe_r (xs := xs) (j := ii + 4)).1 (xe_r (xs := xs) (j := ii + 4)).2 (xe_r (xs := xs) (j := ii + 5)).1 (xe_r (xs := xs) (j := ii + 5)).2
  have s9 := fun (Q : zU → zS → Prop) => s95 (o := o) (Y := (a_change Y (xe xs (ii + 1)) (xe xs (ii + 2)) (xe xs (ii + 3)) (xe xs (ii + 4)) (xe xs (ii + 5))).2) (h := hj T' Ln' M1) (t := (n', u')) (Q := Q)
  rw [f1, f2] at sm
  rw [f2] at s9
  rw [w3] at sm
  have hs1 := j7 (ii + 1) (by omega) (by omega)
  have hs1' := k7 (ii + 1) (by omega) (by omega)
  have hs2 := j7 (ii + 2) (by omega) (by omega)
  have hs2' := k7 (ii + 2) (by omega) (by omega)
  have hs3 := j7 (ii + 3) (by omega) (by omega)
  have hs3' := k7 (ii + 3) (by omega) (by omega)
  have hs4 := j7 (ii + 4) (by omega) (by omega)
  have hs4' := k7 (ii + 4) (by omega) (by omega)
  have hs5 := j7 (ii + 5) (by omega) (by omega)
  have hs5' := k7 (ii + 5) (by omega) (by omega)
  have hot : mY o (a_change Y (xe xs (ii + 1)) (xe xs (ii + 2)) (xe xs (ii + 3)) (xe xs (ii + 4)) (xe xs (ii + 5))).2 M1 ot 0 = M1 ot 0 := mY_o hno
  have hz : 0 ≤ (a_change Y (xe xs (ii + 1)) (xe xs (ii + 2)) (xe xs (ii + 3)) (xe xs (ii + 4)) (xe xs (ii + 5))).2 0 0 ∧ (a_change Y (xe xs (ii + 1)) (xe xs (ii + 2)) (xe xs (ii + 3)) (xe xs (ii + 4)) (xe xs (ii + 5))).2 0 0 ≤ 3 := y5 0 0
  generalize a_change Y (xe xs (ii + 1)) (xe xs (ii + 2)) (xe xs (ii + 3)) (xe xs (ii + 4)) (xe xs (ii + 5)) = R at *
  obtain ⟨rv, Z⟩ := R
  simp only at *
  refine ⟨T', Ln', mY o Z M1, n', u', Z, some (zi (Z 0 0)), some (zi v'), l7, fun Q => ?_, f3⟩
  rcases w2 with ⟨z0, rfl⟩ | ⟨z0, rfl⟩
  · rw [mu_s] at hot
    simp (disch := omega) only [g174_602, g174_603, g174_604, g174_606, g174_607, g174_608, g174_609, g174_610, g174_612, g174_613, g174_614, g174_615, g174_616, g174_618, g174_619, g174_620, g174_621, g174_622, g174_624, g174_625, g174_626, g174_627, g174_628, g174_630, g174_631, g174_632, g174_633, g174_634, g174_637, g174_639, g174_640, g174_641, g174_643, g174_644, g174_645, g174_646, g174_647, g174_649, g174_650, g174_651, g174_652, g174_653, g174_655, g174_656, g174_657, g174_658, g174_659, g174_661, g174_662, g174_663, g174_664, g174_665, g174_667, g174_668, g174_669, g174_670, g174_673, g174_675, g174_676, g174_679, g174_681, g174_684, g174_685_0, g174_685_1, g174_685b, g174_686, g174_688, g174_688b, g174_691, g174_692, g174_693, g174_694, g174_696, g174_697, g174_701, g174_702_0, g174_702_1, g174_702b, g174_703, Int.reduceToNat, jtg, mu_s, mu_n, mu_j, mn_s, mn_n, jn_8, jnl, jnk_0, jnk_4, jnk_16, jnk_24, jnk_28, jnk_61, jnk_2000, jnk_4096, jnk_56000, jln, jai, jal, Option.some.injEq, exists_eq_left', zkl_i, zkl_l, zkl_n, zkl_r, zkl_0, zc_v, zc_n, zc_t, zd_v, zd_n, mj_tg, true_and, ↓reduceIte, not_true_eq_false, not_false_eq_true, ↓if_pos, ↓if_neg, Int.reduceLE, Int.reduceLT, Int.reduceEq, Int.reduceAdd, jas, hs1, hs1', hs2, hs2', hs3, hs3', hs4, hs4', hs5, hs5', w1, sm, s9, hot]
  · simp (disch := omega) only [g174_602, g174_603, g174_604, g174_606, g174_607, g174_608, g174_609, g174_610, g174_612, g174_613, g174_614, g174_615, g174_616, g174_618, g174_619, g174_620, g174_621, g174_622, g174_624, g174_625, g174_626, g174_627, g174_628, g174_630, g174_631, g174_632, g174_633, g174_634, g174_637, g174_639, g174_640, g174_641, g174_643, g174_644, g174_645, g174_646, g174_647, g174_649, g174_650, g174_651, g174_652, g174_653, g174_655, g174_656, g174_657, g174_658, g174_659, g174_661, g174_662, g174_663, g174_664, g174_665, g174_667, g174_668, g174_669, g174_670, g174_673, g174_675, g174_676, g174_679, g174_681, g174_684, g174_685_0, g174_685_1, g174_685b, g174_686, g174_688, g174_688b, g174_691, g174_692, g174_693, g174_694, g174_696, g174_697, g174_701, g174_702_0, g174_702_1, g174_702b, g174_703, Int.reduceToNat, jtg, mu_s, mu_n, mu_j, mn_s, mn_n, jn_8, jnl, jnk_0, jnk_4, jnk_16, jnk_24, jnk_28, jnk_61, jnk_2000, jnk_4096, jnk_56000, jln, jai, jal, Option.some.injEq, exists_eq_left', zkl_i, zkl_l, zkl_n, zkl_r, zkl_0, zc_v, zc_n, zc_t, zd_v, zd_n, mj_tg, true_and, ↓reduceIte, not_true_eq_false, not_false_eq_true, ↓if_pos, ↓if_neg, Int.reduceLE, Int.reduceLT, Int.reduceEq, Int.reduceAdd, jas, hs1, hs1', hs2, hs2', hs3, hs3', hs4, hs4', hs5, hs5', w1, sm, s9]
set_option maxHeartbeats 2000000 in
theorem lw_7 (h : LI b L xs T Ln M n u x o ot Y c n0 u0) (hc : 0 ≤ c) (hc2 : c ≤ 4000) (hL : L ≤ 3584) (hb : ¬ (o ≤ b ∧ b < o + 34)) (hne : ¬ ot = b) (hno : ¬ (o ≤ ot ∧ ot < o + 34)) (i0 : 0 ≤ ii) (i7 : ii + 7 ≤ L) : ∃ T' Ln' M' n' u' Y' l5' l6' l7', (∀ Q : zU → zS → Prop, z_go zP 174 706 [some (.ref b), some (.ref x), some (.ref o), some (.ref ot), some (zi ii), l5, l6, l7] [] (hj T Ln M, n, u) Q ↔ z_go zP 174 1398 [some (.ref b), some (.ref x), some (.ref o), some (.ref ot), some (zi ii), l5', l6', l7'] [] (hj T' Ln' M', n', u') Q) ∧ LI b L xs T' Ln' M' n' u' x o ot Y' (c + 1) n0 u0 := by
  obtain ⟨j1, ⟨j2, j2'⟩, ⟨j3, j3'⟩, j4, j5, j6, j7⟩ := LJ_s (LI_J h)
  obtain ⟨T', Ln', M', n', u', res, q1, q2, q3, q4⟩ := CR_LJ (cd := cd1) h hne hno (fun A W Ow X hrz => c64 hrz hc (xe_r).1 (xe_r).2 (xe_r).1 (xe_r).2 rfl)
  obtain ⟨-, -, ⟨k3, k3'⟩, -, -, -, k7⟩ := LJ_s q3
  obtain ⟨M1, v', w1, w2, w3, w4, w5⟩ := w165 j1 k3 k3' q1 q2 cd1_i
  have hLJ : LJ b L xs T' Ln' M1 n' u' x o ot Y (a_sim Y (xe xs (ii + 1)) (xe xs (ii + 2))).2 (c + 1) n0 u0 := by
    rcases w2 with ⟨-, rfl⟩ | ⟨-, rfl⟩
    · exact q4 _
    · exact q3
  obtain ⟨f1, f2, f3⟩ := LJ_LI hb hLJ
  obtain ⟨y1, ⟨y2, y2'⟩, ⟨y3, y3'⟩, y4, y5, y6, y7⟩ := LJ_s hLJ
  have sm := fun (Q : zU → zS → Prop) => s119 (o := o) (Y := Y) (h := hj T' Ln' M1) (t := (n', u')) (Q := Q) j5 (xe_r (xs := xs) (j := ii + 1)).1 (xe_r (xs := xs) (j := ii + 1)).2 (xe_r (xs := xs) (j := ii + 2)).1 (xe_r (xs := xs) (j := ii + 2)).2
  have s9 := fun (Q : zU → zS → Prop) => s95 (o := o) (Y := (a_sim Y (xe xs (ii + 1)) (xe xs (ii + 2))).2) (h := hj T' Ln' M1) (t := (n', u')) (Q := Q)
  rw [f1, f2] at sm
  rw [f2] at s9
  rw [w3] at sm
  have hs1 := j7 (ii + 1) (by omega) (by omega)
  have hs1' := k7 (ii + 1) (by omega) (by omega)
  have hs2 := j7 (ii + 2) (by omega) (by omega)
  have hs2' := k7 (ii + 2) (by omega) (by omega)
  have hot : mY o (a_sim Y (xe xs (ii + 1)) (xe xs (ii + 2))).2 M1 ot 0 = M1 ot 0 := mY_o hno
  have hz : 0 ≤ (a_sim Y (xe xs (ii + 1)) (xe xs (ii + 2))).2 0 0 ∧ (a_sim Y (xe xs (ii + 1)) (xe xs (ii + 2))).2 0 0 ≤ 3 := y5 0 0
  generalize a_sim Y (xe xs (ii + 1)) (xe xs (ii + 2)) = R at *
  obtain ⟨rv, Z⟩ := R
  simp only at *
  refine ⟨T', Ln', mY o Z M1, n', u', Z, some (zi (Z 0 0)), some (zi v'), l7, fun Q => ?_, f3⟩
  rcases w2 with ⟨z0, rfl⟩ | ⟨z0, rfl⟩
  · rw [mu_s] at hot
    simp (disch := omega) only [g174_706, g174_707, g174_708, g174_710, g174_711, g174_712, g174_713, g174_714, g174_716, g174_717, g174_718, g174_719, g174_720, g174_723, g174_725, g174_726, g174_727, g174_729, g174_730, g174_731, g174_732, g174_733, g174_735, g174_736, g174_737, g174_738, g174_741, g174_743, g174_744, g174_747, g174_749, g174_752, g174_753_0, g174_753_1, g174_753b, g174_754, g174_756, g174_756b, g174_759, g174_760, g174_761, g174_762, g174_764, g174_765, g174_769, g174_770_0, g174_770_1, g174_770b, g174_771, Int.reduceToNat, jtg, mu_s, mu_n, mu_j, mn_s, mn_n, jn_8, jnl, jnk_0, jnk_4, jnk_16, jnk_24, jnk_28, jnk_61, jnk_2000, jnk_4096, jnk_56000, jln, jai, jal, Option.some.injEq, exists_eq_left', zkl_i, zkl_l, zkl_n, zkl_r, zkl_0, zc_v, zc_n, zc_t, zd_v, zd_n, mj_tg, true_and, ↓reduceIte, not_true_eq_false, not_false_eq_true, ↓if_pos, ↓if_neg, Int.reduceLE, Int.reduceLT, Int.reduceEq, Int.reduceAdd, jas, hs1, hs1', hs2, hs2', w1, sm, s9, hot]
  · simp (disch := omega) only [g174_706, g174_707, g174_708, g174_710, g174_711, g174_712, g174_713, g174_714, g174_716, g174_717, g174_718, g174_719, g174_720, g174_723, g174_725, g174_726, g174_727, g174_729, g174_730, g174_731, g174_732, g174_733, g174_735, g174_736, g174_737, g174_738, g174_741, g174_743, g174_744, g174_747, g174_749, g174_752, g174_753_0, g174_753_1, g174_753b, g174_754, g174_756, g174_756b, g174_759, g174_760, g174_761, g174_762, g174_764, g174_765, g174_769, g174_770_0, g174_770_1, g174_770b, g174_771, Int.reduceToNat, jtg, mu_s, mu_n, mu_j, mn_s, mn_n, jn_8, jnl, jnk_0, jnk_4, jnk_16, jnk_24, jnk_28, jnk_61, jnk_2000, jnk_4096, jnk_56000, jln, jai, jal, Option.some.injEq, exists_eq_left', zkl_i, zkl_l, zkl_n, zkl_r, zkl_0, zc_v, zc_n, zc_t, zd_v, zd_n, mj_tg, true_and, ↓reduceIte, not_true_eq_false, not_false_eq_true, ↓if_pos, ↓if_neg, Int.reduceLE, Int.reduceLT, Int.reduceEq, Int.reduceAdd, jas, hs1, hs1', hs2, hs2', w1, sm, s9]
set_option maxHeartbeats 2000000 in
theorem lw_8 (h : LI b L xs T Ln M n u x o ot Y c n0 u0) (hc : 0 ≤ c) (hc2 : c ≤ 4000) (hL : L ≤ 3584) (hb : ¬ (o ≤ b ∧ b < o + 34)) (hne : ¬ ot = b) (hno : ¬ (o ≤ ot ∧ ot < o + 34)) (i0 : 0 ≤ ii) (i7 : ii + 7 ≤ L) : ∃ T' Ln' M' n' u' Y' l5' l6' l7', (∀ Q : zU → zS → Prop, z_go zP 174 774 [some (.ref b), some (.ref x), some (.ref o), some (.ref ot), some (zi ii), l5, l6, l7] [] (hj T Ln M, n, u) Q ↔ z_go zP 174 1398 [some (.ref b), some (.ref x), some (.ref o), some (.ref ot), some (zi ii), l5', l6', l7'] [] (hj T' Ln' M', n', u') Q) ∧ LI b L xs T' Ln' M' n' u' x o ot Y' (c + 1) n0 u0 := by
  obtain ⟨j1, ⟨j2, j2'⟩, ⟨j3, j3'⟩, j4, j5, j6, j7⟩ := LJ_s (LI_J h)
  obtain ⟨T', Ln', M', n', u', res, q1, q2, q3, q4⟩ := CR_LJ (cd := cd2) h hne hno (fun A W Ow X hrz => c65 hrz hc hc2 (xe_r).1 (xe_r).2 (xe_r).1 (xe_r).2 rfl rfl)
  obtain ⟨-, -, ⟨k3, k3'⟩, -, -, -, k7⟩ := LJ_s q3
  obtain ⟨M1, v', w1, w2, w3, w4, w5⟩ := w166 j1 k3 k3' q1 q2 cd2_i
  have hLJ : LJ b L xs T' Ln' M1 n' u' x o ot Y (a_cycles Y (xe xs (ii + 1)) (xe xs (ii + 2))).2 (c + 1) n0 u0 := by
    rcases w2 with ⟨-, rfl⟩ | ⟨-, rfl⟩
    · exact q4 _
    · exact q3
  obtain ⟨f1, f2, f3⟩ := LJ_LI hb hLJ
  obtain ⟨y1, ⟨y2, y2'⟩, ⟨y3, y3'⟩, y4, y5, y6, y7⟩ := LJ_s hLJ
  have sm := fun (Q : zU → zS → Prop) => s127 (o := o) (Y := Y) (h := hj T' Ln' M1) (t := (n', u')) (Q := Q) j5 (xe_r (xs := xs) (j := ii + 1)).1 (xe_r (xs := xs) (j := ii + 1)).2 (xe_r (xs := xs) (j := ii + 2)).1 (xe_r (xs := xs) (j := ii + 2)).2 (LI_sv h) (by have := (j6 (xe xs (ii + 1))).2; omega)
  have s9 := fun (Q : zU → zS → Prop) => s95 (o := o) (Y := (a_cycles Y (xe xs (ii + 1)) (xe xs (ii + 2))).2) (h := hj T' Ln' M1) (t := (n', u')) (Q := Q)
  rw [f1, f2] at sm
  rw [f2] at s9
  rw [w3] at sm
  have hs1 := j7 (ii + 1) (by omega) (by omega)
  have hs1' := k7 (ii + 1) (by omega) (by omega)
  have hs2 := j7 (ii + 2) (by omega) (by omega)
  have hs2' := k7 (ii + 2) (by omega) (by omega)
  have hot : mY o (a_cycles Y (xe xs (ii + 1)) (xe xs (ii + 2))).2 M1 ot 0 = M1 ot 0 := mY_o hno
  have hz : 0 ≤ (a_cycles Y (xe xs (ii + 1)) (xe xs (ii + 2))).2 0 0 ∧ (a_cycles Y (xe xs (ii + 1)) (xe xs (ii + 2))).2 0 0 ≤ 3 := y5 0 0
  generalize a_cycles Y (xe xs (ii + 1)) (xe xs (ii + 2)) = R at *
  obtain ⟨rv, Z⟩ := R
  simp only at *
  refine ⟨T', Ln', mY o Z M1, n', u', Z, some (zi (Z 0 0)), some (zi v'), l7, fun Q => ?_, f3⟩
  rcases w2 with ⟨z0, rfl⟩ | ⟨z0, rfl⟩
  · rw [mu_s] at hot
    simp (disch := omega) only [g174_774, g174_775, g174_776, g174_778, g174_779, g174_780, g174_781, g174_782, g174_784, g174_785, g174_786, g174_787, g174_788, g174_791, g174_793, g174_794, g174_795, g174_797, g174_798, g174_799, g174_800, g174_801, g174_803, g174_804, g174_805, g174_806, g174_809, g174_811, g174_812, g174_815, g174_817, g174_820, g174_821_0, g174_821_1, g174_821b, g174_822, g174_824, g174_824b, g174_827, g174_828, g174_829, g174_830, g174_832, g174_833, g174_837, g174_838_0, g174_838_1, g174_838b, g174_839, Int.reduceToNat, jtg, mu_s, mu_n, mu_j, mn_s, mn_n, jn_8, jnl, jnk_0, jnk_4, jnk_16, jnk_24, jnk_28, jnk_61, jnk_2000, jnk_4096, jnk_56000, jln, jai, jal, Option.some.injEq, exists_eq_left', zkl_i, zkl_l, zkl_n, zkl_r, zkl_0, zc_v, zc_n, zc_t, zd_v, zd_n, mj_tg, true_and, ↓reduceIte, not_true_eq_false, not_false_eq_true, ↓if_pos, ↓if_neg, Int.reduceLE, Int.reduceLT, Int.reduceEq, Int.reduceAdd, jas, hs1, hs1', hs2, hs2', w1, sm, s9, hot]
  · simp (disch := omega) only [g174_774, g174_775, g174_776, g174_778, g174_779, g174_780, g174_781, g174_782, g174_784, g174_785, g174_786, g174_787, g174_788, g174_791, g174_793, g174_794, g174_795, g174_797, g174_798, g174_799, g174_800, g174_801, g174_803, g174_804, g174_805, g174_806, g174_809, g174_811, g174_812, g174_815, g174_817, g174_820, g174_821_0, g174_821_1, g174_821b, g174_822, g174_824, g174_824b, g174_827, g174_828, g174_829, g174_830, g174_832, g174_833, g174_837, g174_838_0, g174_838_1, g174_838b, g174_839, Int.reduceToNat, jtg, mu_s, mu_n, mu_j, mn_s, mn_n, jn_8, jnl, jnk_0, jnk_4, jnk_16, jnk_24, jnk_28, jnk_61, jnk_2000, jnk_4096, jnk_56000, jln, jai, jal, Option.some.injEq, exists_eq_left', zkl_i, zkl_l, zkl_n, zkl_r, zkl_0, zc_v, zc_n, zc_t, zd_v, zd_n, mj_tg, true_and, ↓reduceIte, not_true_eq_false, not_false_eq_true, ↓if_pos, ↓if_neg, Int.reduceLE, Int.reduceLT, Int.reduceEq, Int.reduceAdd, jas, hs1, hs1', hs2, hs2', w1, sm, s9]
set_option maxHeartbeats 2000000 in
theorem lw_9 (h : LI b L xs T Ln M n u x o ot Y c n0 u0) (hc : 0 ≤ c) (hc2 : c ≤ 4000) (hL : L ≤ 3584) (hb : ¬ (o ≤ b ∧ b < o + 34)) (hne : ¬ ot = b) (hno : ¬ (o ≤ ot ∧ ot < o + 34)) (i0 : 0 ≤ ii) (i7 : ii + 7 ≤ L) : ∃ T' Ln' M' n' u' Y' l5' l6' l7', (∀ Q : zU → zS → Prop, z_go zP 174 842 [some (.ref b), some (.ref x), some (.ref o), some (.ref ot), some (zi ii), l5, l6, l7] [] (hj T Ln M, n, u) Q ↔ z_go zP 174 1398 [some (.ref b), some (.ref x), some (.ref o), some (.ref ot), some (zi ii), l5', l6', l7'] [] (hj T' Ln' M', n', u') Q) ∧ LI b L xs T' Ln' M' n' u' x o ot Y' (c + 1) n0 u0 := by
  obtain ⟨j1, ⟨j2, j2'⟩, ⟨j3, j3'⟩, j4, j5, j6, j7⟩ := LJ_s (LI_J h)
  obtain ⟨T', Ln', M', n', u', res, q1, q2, q3, q4⟩ := CR_LJ (cd := cd2) h hne hno (fun A W Ow X hrz => c66 hrz (xe_r).1 (xe_r).2 (xe_r).1 (xe_r).2 rfl rfl)
  obtain ⟨-, -, ⟨k3, k3'⟩, -, -, -, k7⟩ := LJ_s q3
  obtain ⟨M1, v', w1, w2, w3, w4, w5⟩ := w167 j1 k3 k3' q1 q2 cd2_i
  have hLJ : LJ b L xs T' Ln' M1 n' u' x o ot Y (a_state Y (xe xs (ii + 1)) (xe xs (ii + 2))).2 (c + 1) n0 u0 := by
    rcases w2 with ⟨-, rfl⟩ | ⟨-, rfl⟩
    · exact q4 _
    · exact q3
  obtain ⟨f1, f2, f3⟩ := LJ_LI hb hLJ
  obtain ⟨y1, ⟨y2, y2'⟩, ⟨y3, y3'⟩, y4, y5, y6, y7⟩ := LJ_s hLJ
  have sm := fun (Q : zU → zS → Prop) => s129 (o := o) (Y := Y) (h := hj T' Ln' M1) (t := (n', u')) (Q := Q) j5 (xe_r (xs := xs) (j := ii + 1)).1 (xe_r (xs := xs) (j := ii + 1)).2 (xe_r (xs := xs) (j := ii + 2)).1 (xe_r (xs := xs) (j := ii + 2)).2
  have s9 := fun (Q : zU → zS → Prop) => s95 (o := o) (Y := (a_state Y (xe xs (ii + 1)) (xe xs (ii + 2))).2) (h := hj T' Ln' M1) (t := (n', u')) (Q := Q)
  rw [f1, f2] at sm
  rw [f2] at s9
  rw [w3] at sm
  have hs1 := j7 (ii + 1) (by omega) (by omega)
  have hs1' := k7 (ii + 1) (by omega) (by omega)
  have hs2 := j7 (ii + 2) (by omega) (by omega)
  have hs2' := k7 (ii + 2) (by omega) (by omega)
  have hot : mY o (a_state Y (xe xs (ii + 1)) (xe xs (ii + 2))).2 M1 ot 0 = M1 ot 0 := mY_o hno
  have hz : 0 ≤ (a_state Y (xe xs (ii + 1)) (xe xs (ii + 2))).2 0 0 ∧ (a_state Y (xe xs (ii + 1)) (xe xs (ii + 2))).2 0 0 ≤ 3 := y5 0 0
  generalize a_state Y (xe xs (ii + 1)) (xe xs (ii + 2)) = R at *
  obtain ⟨rv, Z⟩ := R
  simp only at *
  refine ⟨T', Ln', mY o Z M1, n', u', Z, some (zi (Z 0 0)), some (zi v'), l7, fun Q => ?_, f3⟩
  rcases w2 with ⟨z0, rfl⟩ | ⟨z0, rfl⟩
  · rw [mu_s] at hot
    simp (disch := omega) only [g174_842, g174_843, g174_844, g174_846, g174_847, g174_848, g174_849, g174_850, g174_852, g174_853, g174_854, g174_855, g174_856, g174_859, g174_861, g174_862, g174_863, g174_865, g174_866, g174_867, g174_868, g174_869, g174_871, g174_872, g174_873, g174_874, g174_877, g174_879, g174_880, g174_883, g174_885, g174_888, g174_889_0, g174_889_1, g174_889b, g174_890, g174_892, g174_892b, g174_895, g174_896, g174_897, g174_898, g174_900, g174_901, g174_905, g174_906_0, g174_906_1, g174_906b, g174_907, Int.reduceToNat, jtg, mu_s, mu_n, mu_j, mn_s, mn_n, jn_8, jnl, jnk_0, jnk_4, jnk_16, jnk_24, jnk_28, jnk_61, jnk_2000, jnk_4096, jnk_56000, jln, jai, jal, Option.some.injEq, exists_eq_left', zkl_i, zkl_l, zkl_n, zkl_r, zkl_0, zc_v, zc_n, zc_t, zd_v, zd_n, mj_tg, true_and, ↓reduceIte, not_true_eq_false, not_false_eq_true, ↓if_pos, ↓if_neg, Int.reduceLE, Int.reduceLT, Int.reduceEq, Int.reduceAdd, jas, hs1, hs1', hs2, hs2', w1, sm, s9, hot]
  · simp (disch := omega) only [g174_842, g174_843, g174_844, g174_846, g174_847, g174_848, g174_849, g174_850, g174_852, g174_853, g174_854, g174_855, g174_856, g174_859, g174_861, g174_862, g174_863, g174_865, g174_866, g174_867, g174_868, g174_869, g174_871, g174_872, g174_873, g174_874, g174_877, g174_879, g174_880, g174_883, g174_885, g174_888, g174_889_0, g174_889_1, g174_889b, g174_890, g174_892, g174_892b, g174_895, g174_896, g174_897, g174_898, g174_900, g174_901, g174_905, g174_906_0, g174_906_1, g174_906b, g174_907, Int.reduceToNat, jtg, mu_s, mu_n, mu_j, mn_s, mn_n, jn_8, jnl, jnk_0, jnk_4, jnk_16, jnk_24, jnk_28, jnk_61, jnk_2000, jnk_4096, jnk_56000, jln, jai, jal, Option.some.injEq, exists_eq_left', zkl_i, zkl_l, zkl_n, zkl_r, zkl_0, zc_v, zc_n, zc_t, zd_v, zd_n, mj_tg, true_and, ↓reduceIte, not_true_eq_false, not_false_eq_true, ↓if_pos, ↓if_neg, Int.reduceLE, Int.reduceLT, Int.reduceEq, Int.reduceAdd, jas, hs1, hs1', hs2, hs2', w1, sm, s9]
set_option maxHeartbeats 2000000 in
theorem lw_10 (h : LI b L xs T Ln M n u x o ot Y c n0 u0) (hc : 0 ≤ c) (hc2 : c ≤ 4000) (hL : L ≤ 3584) (hb : ¬ (o ≤ b ∧ b < o + 34)) (hne : ¬ ot = b) (hno : ¬ (o ≤ ot ∧ ot < o + 34)) (i0 : 0 ≤ ii) (i7 : ii + 7 ≤ L) : ∃ T' Ln' M' n' u' Y' l5' l6' l7', (∀ Q : zU → zS → Prop, z_go zP 174 910 [some (.ref b), some (.ref x), some (.ref o), some (.ref ot), some (zi ii), l5, l6, l7] [] (hj T Ln M, n, u) Q ↔ z_go zP 174 1398 [some (.ref b), some (.ref x), some (.ref o), some (.ref ot), some (zi ii), l5', l6', l7'] [] (hj T' Ln' M', n', u') Q) ∧ LI b L xs T' Ln' M' n' u' x o ot Y' (c + 1) n0 u0 := by
  obtain ⟨j1, ⟨j2, j2'⟩, ⟨j3, j3'⟩, j4, j5, j6, j7⟩ := LJ_s (LI_J h)
  obtain ⟨T', Ln', M', n', u', res, q1, q2, q3, q4⟩ := CR_LJ (cd := cd2) h hne hno (fun A W Ow X hrz => c67 hrz (xe_r).1 (xe_r).2 (xe_r).1 (xe_r).2 rfl rfl)
  obtain ⟨-, -, ⟨k3, k3'⟩, -, -, -, k7⟩ := LJ_s q3
  obtain ⟨M1, v', w1, w2, w3, w4, w5⟩ := w168 j1 k3 k3' q1 q2 cd2_i
  have hLJ : LJ b L xs T' Ln' M1 n' u' x o ot Y (a_number Y (xe xs (ii + 1)) (xe xs (ii + 2))).2 (c + 1) n0 u0 := by
    rcases w2 with ⟨-, rfl⟩ | ⟨-, rfl⟩
    · exact q4 _
    · exact q3
  obtain ⟨f1, f2, f3⟩ := LJ_LI hb hLJ
  obtain ⟨y1, ⟨y2, y2'⟩, ⟨y3, y3'⟩, y4, y5, y6, y7⟩ := LJ_s hLJ
  have sm := fun (Q : zU → zS → Prop) => s131 (o := o) (Y := Y) (h := hj T' Ln' M1) (t := (n', u')) (Q := Q) j5 (xe_r (xs := xs) (j := ii + 1)).1 (xe_r (xs := xs) (j := ii + 1)).2 (xe_r (xs := xs) (j := ii + 2)).1 (xe_r (xs := xs) (j := ii + 2)).2
  have s9 := fun (Q : zU → zS → Prop) => s95 (o := o) (Y := (a_number Y (xe xs (ii + 1)) (xe xs (ii + 2))).2) (h := hj T' Ln' M1) (t := (n', u')) (Q := Q)
  rw [f1, f2] at sm
  rw [f2] at s9
  rw [w3] at sm
  have hs1 := j7 (ii + 1) (by omega) (by omega)
  have hs1' := k7 (ii + 1) (by omega) (by omega)
  have hs2 := j7 (ii + 2) (by omega) (by omega)
  have hs2' := k7 (ii + 2) (by omega) (by omega)
  have hot : mY o (a_number Y (xe xs (ii + 1)) (xe xs (ii + 2))).2 M1 ot 0 = M1 ot 0 := mY_o hno
  have hz : 0 ≤ (a_number Y (xe xs (ii + 1)) (xe xs (ii + 2))).2 0 0 ∧ (a_number Y (xe xs (ii + 1)) (xe xs (ii + 2))).2 0 0 ≤ 3 := y5 0 0
  generalize a_number Y (xe xs (ii + 1)) (xe xs (ii + 2)) = R at *
  obtain ⟨rv, Z⟩ := R
  simp only at *
  refine ⟨T', Ln', mY o Z M1, n', u', Z, some (zi (Z 0 0)), some (zl v'), none, fun Q => ?_, f3⟩
  rcases w2 with ⟨z0, rfl⟩ | ⟨z0, rfl⟩
  · rw [mu_s] at hot
    simp (disch := omega) only [g174_910, g174_911, g174_912, g174_914, g174_915, g174_916, g174_917, g174_918, g174_920, g174_921, g174_922, g174_923, g174_924, g174_927, g174_929, g174_930, g174_931, g174_933, g174_934, g174_935, g174_936, g174_937, g174_939, g174_940, g174_941, g174_942, g174_945, g174_947, g174_948, g174_951, g174_953, g174_956, g174_957_0, g174_957_1, g174_957b, g174_958, g174_960, g174_960b, g174_963, g174_964, g174_965, g174_966, g174_968, g174_972, g174_973_0, g174_973_1, g174_973b, g174_974, Int.reduceToNat, jtg, mu_s, mu_n, mu_j, mn_s, mn_n, jn_8, jnl, jnk_0, jnk_4, jnk_16, jnk_24, jnk_28, jnk_61, jnk_2000, jnk_4096, jnk_56000, jln, jai, jal, Option.some.injEq, exists_eq_left', zkl_i, zkl_l, zkl_n, zkl_r, zkl_0, zc_v, zc_n, zc_t, zd_v, zd_n, mj_tg, true_and, ↓reduceIte, not_true_eq_false, not_false_eq_true, ↓if_pos, ↓if_neg, Int.reduceLE, Int.reduceLT, Int.reduceEq, Int.reduceAdd, jas, hs1, hs1', hs2, hs2', w1, sm, s9, hot]
  · simp (disch := omega) only [g174_910, g174_911, g174_912, g174_914, g174_915, g174_916, g174_917, g174_918, g174_920, g174_921, g174_922, g174_923, g174_924, g174_927, g174_929, g174_930, g174_931, g174_933, g174_934, g174_935, g174_936, g174_937, g174_939, g174_940, g174_941, g174_942, g174_945, g174_947, g174_948, g174_951, g174_953, g174_956, g174_957_0, g174_957_1, g174_957b, g174_958, g174_960, g174_960b, g174_963, g174_964, g174_965, g174_966, g174_968, g174_972, g174_973_0, g174_973_1, g174_973b, g174_974, Int.reduceToNat, jtg, mu_s, mu_n, mu_j, mn_s, mn_n, jn_8, jnl, jnk_0, jnk_4, jnk_16, jnk_24, jnk_28, jnk_61, jnk_2000, jnk_4096, jnk_56000, jln, jai, jal, Option.some.injEq, exists_eq_left', zkl_i, zkl_l, zkl_n, zkl_r, zkl_0, zc_v, zc_n, zc_t, zd_v, zd_n, mj_tg, true_and, ↓reduceIte, not_true_eq_false, not_false_eq_true, ↓if_pos, ↓if_neg, Int.reduceLE, Int.reduceLT, Int.reduceEq, Int.reduceAdd, jas, hs1, hs1', hs2, hs2', w1, sm, s9]
set_option maxHeartbeats 2000000 in
theorem lw_11 (h : LI b L xs T Ln M n u x o ot Y c n0 u0) (hc : 0 ≤ c) (hc2 : c ≤ 4000) (hL : L ≤ 3584) (hb : ¬ (o ≤ b ∧ b < o + 34)) (hne : ¬ ot = b) (hno : ¬ (o ≤ ot ∧ ot < o + 34)) (i0 : 0 ≤ ii) (i7 : ii + 7 ≤ L) : ∃ T' Ln' M' n' u' Y' l5' l6' l7', (∀ Q : zU → zS → Prop, z_go zP 174 977 [some (.ref b), some (.ref x), some (.ref o), some (.ref ot), some (zi ii), l5, l6, l7] [] (hj T Ln M, n, u) Q ↔ z_go zP 174 1398 [some (.ref b), some (.ref x), some (.ref o), some (.ref ot), some (zi ii), l5', l6', l7'] [] (hj T' Ln' M', n', u') Q) ∧ LI b L xs T' Ln' M' n' u' x o ot Y' (c + 1) n0 u0 := by
  obtain ⟨j1, ⟨j2, j2'⟩, ⟨j3, j3'⟩, j4, j5, j6, j7⟩ := LJ_s (LI_J h)
  obtain ⟨T', Ln', M', n', u', res, q1, q2, q3, q4⟩ := CR_LJ (cd := cd1) h hne hno (fun A W Ow X hrz => c68 hrz hc hc2 (xe_r).1 (xe_r).2 (xe_r).1 (xe_r).2 rfl)
  obtain ⟨-, -, ⟨k3, k3'⟩, -, -, -, k7⟩ := LJ_s q3
  have hv : (a_agrees Y (xe xs (ii + 1)) (xe xs (ii + 2))).1 = 0 ∨ (a_agrees Y (xe xs (ii + 1)) (xe xs (ii + 2))).1 = 1 := by
    unfold a_agrees
    split
    · split
      · split
        · split
          · show bI _ = 0 ∨ bI _ = 1
            unfold bI
            split
            · exact .inr rfl
            · exact .inl rfl
          · exact .inl rfl
        · exact .inl rfl
      · exact .inl rfl
    · exact .inl rfl
  obtain ⟨M1, w1, w2⟩ := w169 j1 k3 k3' q1 hv q2 cd1_i
  have hLJ : LJ b L xs T' Ln' M1 n' u' x o ot Y (a_agrees Y (xe xs (ii + 1)) (xe xs (ii + 2))).2 (c + 1) n0 u0 := by
    rcases w2 with ⟨-, rfl⟩ | ⟨-, rfl⟩
    · exact q4 _
    · exact q3
  obtain ⟨f1, f2, f3⟩ := LJ_LI hb hLJ
  obtain ⟨y1, ⟨y2, y2'⟩, ⟨y3, y3'⟩, y4, y5, y6, y7⟩ := LJ_s hLJ
  have sm := fun (Q : zU → zS → Prop) => s132 (o := o) (Y := Y) (h := hj T' Ln' M1) (t := (n', u')) (Q := Q) j5 (xe_r (xs := xs) (j := ii + 1)).1 (xe_r (xs := xs) (j := ii + 1)).2 (xe_r (xs := xs) (j := ii + 2)).1 (xe_r (xs := xs) (j := ii + 2)).2 (LI_run h) (by have := (j6 (xe xs (ii + 1))).1; omega)
  have s9 := fun (Q : zU → zS → Prop) => s95 (o := o) (Y := (a_agrees Y (xe xs (ii + 1)) (xe xs (ii + 2))).2) (h := hj T' Ln' M1) (t := (n', u')) (Q := Q)
  rw [f1, f2] at sm
  rw [f2] at s9
  have hs1 := j7 (ii + 1) (by omega) (by omega)
  have hs1' := k7 (ii + 1) (by omega) (by omega)
  have hs2 := j7 (ii + 2) (by omega) (by omega)
  have hs2' := k7 (ii + 2) (by omega) (by omega)
  have hot : mY o (a_agrees Y (xe xs (ii + 1)) (xe xs (ii + 2))).2 M1 ot 0 = M1 ot 0 := mY_o hno
  have hz : 0 ≤ (a_agrees Y (xe xs (ii + 1)) (xe xs (ii + 2))).2 0 0 ∧ (a_agrees Y (xe xs (ii + 1)) (xe xs (ii + 2))).2 0 0 ≤ 3 := y5 0 0
  generalize a_agrees Y (xe xs (ii + 1)) (xe xs (ii + 2)) = R at *
  obtain ⟨rv, Z⟩ := R
  simp only at *
  refine ⟨T', Ln', mY o Z M1, n', u', Z, some (zi (Z 0 0)), some (zi rv), l7, fun Q => ?_, f3⟩
  rcases w2 with ⟨z0, rfl⟩ | ⟨z0, rfl⟩
  · rw [mu_s] at hot
    rcases hv with rfl | rfl
    · simp (disch := omega) only [g174_977, g174_978, g174_979, g174_981, g174_982, g174_983, g174_984, g174_985, g174_987, g174_988, g174_989, g174_990, g174_991, g174_994, g174_996, g174_997, g174_998, g174_1000, g174_1001, g174_1002, g174_1003, g174_1004, g174_1006, g174_1007, g174_1008, g174_1009, g174_1012, g174_1014, g174_1015, g174_1018, g174_1020, g174_1023, g174_1024_0, g174_1024_1, g174_1024b, g174_1025, g174_1027, g174_1027b, g174_1030, g174_1031, g174_1032, g174_1033, g174_1035, g174_1035b, g174_1038, g174_1039, g174_1042, g174_1043, g174_1047, g174_1048_0, g174_1048_1, g174_1048b, g174_1049, Int.reduceToNat, jtg, mu_s, mu_n, mu_j, mn_s, mn_n, jn_8, jnl, jnk_0, jnk_4, jnk_16, jnk_24, jnk_28, jnk_61, jnk_2000, jnk_4096, jnk_56000, jln, jai, jal, Option.some.injEq, exists_eq_left', zkl_i, zkl_l, zkl_n, zkl_r, zkl_0, zc_v, zc_n, zc_t, zd_v, zd_n, mj_tg, true_and, ↓reduceIte, not_true_eq_false, not_false_eq_true, ↓if_pos, ↓if_neg, Int.reduceLE, Int.reduceLT, Int.reduceEq, Int.reduceAdd, jas, hs1, hs1', hs2, hs2', w1, sm, s9, hot]
    · simp (disch := omega) only [g174_977, g174_978, g174_979, g174_981, g174_982, g174_983, g174_984, g174_985, g174_987, g174_988, g174_989, g174_990, g174_991, g174_994, g174_996, g174_997, g174_998, g174_1000, g174_1001, g174_1002, g174_1003, g174_1004, g174_1006, g174_1007, g174_1008, g174_1009, g174_1012, g174_1014, g174_1015, g174_1018, g174_1020, g174_1023, g174_1024_0, g174_1024_1, g174_1024b, g174_1025, g174_1027, g174_1027b, g174_1030, g174_1031, g174_1032, g174_1033, g174_1035, g174_1035b, g174_1038, g174_1039, g174_1042, g174_1043, g174_1047, g174_1048_0, g174_1048_1, g174_1048b, g174_1049, Int.reduceToNat, jtg, mu_s, mu_n, mu_j, mn_s, mn_n, jn_8, jnl, jnk_0, jnk_4, jnk_16, jnk_24, jnk_28, jnk_61, jnk_2000, jnk_4096, jnk_56000, jln, jai, jal, Option.some.injEq, exists_eq_left', zkl_i, zkl_l, zkl_n, zkl_r, zkl_0, zc_v, zc_n, zc_t, zd_v, zd_n, mj_tg, true_and, ↓reduceIte, not_true_eq_false, not_false_eq_true, ↓if_pos, ↓if_neg, Int.reduceLE, Int.reduceLT, Int.reduceEq, Int.reduceAdd, jas, hs1, hs1', hs2, hs2', w1, sm, s9, hot]
  · simp (disch := omega) only [g174_977, g174_978, g174_979, g174_981, g174_982, g174_983, g174_984, g174_985, g174_987, g174_988, g174_989, g174_990, g174_991, g174_994, g174_996, g174_997, g174_998, g174_1000, g174_1001, g174_1002, g174_1003, g174_1004, g174_1006, g174_1007, g174_1008, g174_1009, g174_1012, g174_1014, g174_1015, g174_1018, g174_1020, g174_1023, g174_1024_0, g174_1024_1, g174_1024b, g174_1025, g174_1027, g174_1027b, g174_1030, g174_1031, g174_1032, g174_1033, g174_1035, g174_1035b, g174_1038, g174_1039, g174_1042, g174_1043, g174_1047, g174_1048_0, g174_1048_1, g174_1048b, g174_1049, Int.reduceToNat, jtg, mu_s, mu_n, mu_j, mn_s, mn_n, jn_8, jnl, jnk_0, jnk_4, jnk_16, jnk_24, jnk_28, jnk_61, jnk_2000, jnk_4096, jnk_56000, jln, jai, jal, Option.some.injEq, exists_eq_left', zkl_i, zkl_l, zkl_n, zkl_r, zkl_0, zc_v, zc_n, zc_t, zd_v, zd_n, mj_tg, true_and, ↓reduceIte, not_true_eq_false, not_false_eq_true, ↓if_pos, ↓if_neg, Int.reduceLE, Int.reduceLT, Int.reduceEq, Int.reduceAdd, jas, hs1, hs1', hs2, hs2', w1, sm, s9]
set_option maxHeartbeats 2000000 in
theorem lw_12 (h : LI b L xs T Ln M n u x o ot Y c n0 u0) (hc : 0 ≤ c) (hc2 : c ≤ 4000) (hL : L ≤ 3584) (hb : ¬ (o ≤ b ∧ b < o + 34)) (hne : ¬ ot = b) (hno : ¬ (o ≤ ot ∧ ot < o + 34)) (i0 : 0 ≤ ii) (i7 : ii + 7 ≤ L) : ∃ T' Ln' M' n' u' Y' l5' l6' l7', (∀ Q : zU → zS → Prop, z_go zP 174 1052 [some (.ref b), some (.ref x), some (.ref o), some (.ref ot), some (zi ii), l5, l6, l7] [] (hj T Ln M, n, u) Q ↔ z_go zP 174 1398 [some (.ref b), some (.ref x), some (.ref o), some (.ref ot), some (zi ii), l5', l6', l7'] [] (hj T' Ln' M', n', u') Q) ∧ LI b L xs T' Ln' M' n' u' x o ot Y' (c + 1) n0 u0 := by
  obtain ⟨j1, ⟨j2, j2'⟩, ⟨j3, j3'⟩, j4, j5, j6, j7⟩ := LJ_s (LI_J h)
  obtain ⟨T', Ln', M', n', u', res, q1, q2, q3, q4⟩ := CR_LJ (cd := cd2) h hne hno (fun A W Ow X hrz => c69 hrz hc (xe_r).1 (xe_r).2 (xe_r).1 (xe_r).2 (xe_r).1 (xe_r).2 rfl rfl)
  obtain ⟨-, -, ⟨k3, k3'⟩, -, -, -, k7⟩ := LJ_s q3
  obtain ⟨M1, v', w1, w2, w3, w4, w5⟩ := w170 j1 k3 k3' q1 q2 cd2_i
  have hLJ : LJ b L xs T' Ln' M1 n' u' x o ot Y (a_pair Y (xe xs (ii + 1)) (xe xs (ii + 2)) (xe xs (ii + 3))).2 (c + 1) n0 u0 := by
    rcases w2 with ⟨-, rfl⟩ | ⟨-, rfl⟩
    · exact q4 _
    · exact q3
  obtain ⟨f1, f2, f3⟩ := LJ_LI hb hLJ
  obtain ⟨y1, ⟨y2, y2'⟩, ⟨y3, y3'⟩, y4, y5, y6, y7⟩ := LJ_s hLJ
  have sm := fun (Q : zU → zS → Prop) => s146 (o := o) (Y := Y) (h := hj T' Ln' M1) (t := (n', u')) (Q := Q) j5 (xe_r (xs := xs) (j := ii + 1)).1 (xe_r (xs := xs) (j := ii + 1)).2 (xe_r (xs := xs) (j := ii + 2)).1 (xe_r (xs := xs) (j := ii + 2)).2 (xe_r (xs := xs) (j := ii + 3)).1 (xe_r (xs := xs) (j := ii + 3)).2
  have s9 := fun (Q : zU → zS → Prop) => s95 (o := o) (Y := (a_pair Y (xe xs (ii + 1)) (xe xs (ii + 2)) (xe xs (ii + 3))).2) (h := hj T' Ln' M1) (t := (n', u')) (Q := Q)
  rw [f1, f2] at sm
  rw [f2] at s9
  rw [w3] at sm
  have hs1 := j7 (ii + 1) (by omega) (by omega)
  have hs1' := k7 (ii + 1) (by omega) (by omega)
  have hs2 := j7 (ii + 2) (by omega) (by omega)
  have hs2' := k7 (ii + 2) (by omega) (by omega)
  have hs3 := j7 (ii + 3) (by omega) (by omega)
  have hs3' := k7 (ii + 3) (by omega) (by omega)
  have hot : mY o (a_pair Y (xe xs (ii + 1)) (xe xs (ii + 2)) (xe xs (ii + 3))).2 M1 ot 0 = M1 ot 0 := mY_o hno
  have hz : 0 ≤ (a_pair Y (xe xs (ii + 1)) (xe xs (ii + 2)) (xe xs (ii + 3))).2 0 0 ∧ (a_pair Y (xe xs (ii + 1)) (xe xs (ii + 2)) (xe xs (ii + 3))).2 0 0 ≤ 3 := y5 0 0
  generalize a_pair Y (xe xs (ii + 1)) (xe xs (ii + 2)) (xe xs (ii + 3)) = R at *
  obtain ⟨rv, Z⟩ := R
  simp only at *
  refine ⟨T', Ln', mY o Z M1, n', u', Z, some (zi (Z 0 0)), some (zi v'), l7, fun Q => ?_, f3⟩
  rcases w2 with ⟨z0, rfl⟩ | ⟨z0, rfl⟩
  · rw [mu_s] at hot
    simp (disch := omega) only [g174_1052, g174_1053, g174_1054, g174_1056, g174_1057, g174_1058, g174_1059, g174_1060, g174_1062, g174_1063, g174_1064, g174_1065, g174_1066, g174_1068, g174_1069, g174_1070, g174_1071, g174_1072, g174_1075, g174_1077, g174_1078, g174_1079, g174_1081, g174_1082, g174_1083, g174_1084, g174_1085, g174_1087, g174_1088, g174_1089, g174_1090, g174_1091, g174_1093, g174_1094, g174_1095, g174_1096, g174_1099, g174_1101, g174_1102, g174_1105, g174_1107, g174_1110, g174_1111_0, g174_1111_1, g174_1111b, g174_1112, g174_1114, g174_1114b, g174_1117, g174_1118, g174_1119, g174_1120, g174_1122, g174_1123, g174_1127, g174_1128_0, g174_1128_1, g174_1128b, g174_1129, Int.reduceToNat, jtg, mu_s, mu_n, mu_j, mn_s, mn_n, jn_8, jnl, jnk_0, jnk_4, jnk_16, jnk_24, jnk_28, jnk_61, jnk_2000, jnk_4096, jnk_56000, jln, jai, jal, Option.some.injEq, exists_eq_left', zkl_i, zkl_l, zkl_n, zkl_r, zkl_0, zc_v, zc_n, zc_t, zd_v, zd_n, mj_tg, true_and, ↓reduceIte, not_true_eq_false, not_false_eq_true, ↓if_pos, ↓if_neg, Int.reduceLE, Int.reduceLT, Int.reduceEq, Int.reduceAdd, jas, hs1, hs1', hs2, hs2', hs3, hs3', w1, sm, s9, hot]
  · simp (disch := omega) only [g174_1052, g174_1053, g174_1054, g174_1056, g174_1057, g174_1058, g174_1059, g174_1060, g174_1062, g174_1063, g174_1064, g174_1065, g174_1066, g174_1068, g174_1069, g174_1070, g174_1071, g174_1072, g174_1075, g174_1077, g174_1078, g174_1079, g174_1081, g174_1082, g174_1083, g174_1084, g174_1085, g174_1087, g174_1088, g174_1089, g174_1090, g174_1091, g174_1093, g174_1094, g174_1095, g174_1096, g174_1099, g174_1101, g174_1102, g174_1105, g174_1107, g174_1110, g174_1111_0, g174_1111_1, g174_1111b, g174_1112, g174_1114, g174_1114b, g174_1117, g174_1118, g174_1119, g174_1120, g174_1122, g174_1123, g174_1127, g174_1128_0, g174_1128_1, g174_1128b, g174_1129, Int.reduceToNat, jtg, mu_s, mu_n, mu_j, mn_s, mn_n, jn_8, jnl, jnk_0, jnk_4, jnk_16, jnk_24, jnk_28, jnk_61, jnk_2000, jnk_4096, jnk_56000, jln, jai, jal, Option.some.injEq, exists_eq_left', zkl_i, zkl_l, zkl_n, zkl_r, zkl_0, zc_v, zc_n, zc_t, zd_v, zd_n, mj_tg, true_and, ↓reduceIte, not_true_eq_false, not_false_eq_true, ↓if_pos, ↓if_neg, Int.reduceLE, Int.reduceLT, Int.reduceEq, Int.reduceAdd, jas, hs1, hs1', hs2, hs2', hs3, hs3', w1, sm, s9]
set_option maxHeartbeats 2000000 in
theorem lw_13 (h : LI b L xs T Ln M n u x o ot Y c n0 u0) (hc : 0 ≤ c) (hc2 : c ≤ 4000) (hL : L ≤ 3584) (hb : ¬ (o ≤ b ∧ b < o + 34)) (hne : ¬ ot = b) (hno : ¬ (o ≤ ot ∧ ot < o + 34)) (i0 : 0 ≤ ii) (i7 : ii + 7 ≤ L) : ∃ T' Ln' M' n' u' Y' l5' l6' l7', (∀ Q : zU → zS → Prop, z_go zP 174 1132 [some (.ref b), some (.ref x), some (.ref o), some (.ref ot), some (zi ii), l5, l6, l7] [] (hj T Ln M, n, u) Q ↔ z_go zP 174 1398 [some (.ref b), some (.ref x), some (.ref o), some (.ref ot), some (zi ii), l5', l6', l7'] [] (hj T' Ln' M', n', u') Q) ∧ LI b L xs T' Ln' M' n' u' x o ot Y' (c + 1) n0 u0 := by
  obtain ⟨j1, ⟨j2, j2'⟩, ⟨j3, j3'⟩, j4, j5, j6, j7⟩ := LJ_s (LI_J h)
  obtain ⟨T', Ln', M', n', u', res, q1, q2, q3, q4⟩ := CR_LJ (cd := cd2) h hne hno (fun A W Ow X hrz => c70 hrz hc (xe_r).1 (xe_r).2 (xe_r).1 (xe_r).2 rfl rfl)
  obtain ⟨-, -, ⟨k3, k3'⟩, -, -, -, k7⟩ := LJ_s q3
  obtain ⟨M1, v', w1, w2, w3, w4, w5⟩ := w171 j1 k3 k3' q1 q2 cd2_i
  have hLJ : LJ b L xs T' Ln' M1 n' u' x o ot Y (a_explore Y (xe xs (ii + 1)) (xe xs (ii + 2))).2 (c + 1) n0 u0 := by
    rcases w2 with ⟨-, rfl⟩ | ⟨-, rfl⟩
    · exact q4 _
    · exact q3
  obtain ⟨f1, f2, f3⟩ := LJ_LI hb hLJ
  obtain ⟨y1, ⟨y2, y2'⟩, ⟨y3, y3'⟩, y4, y5, y6, y7⟩ := LJ_s hLJ
  have sm := fun (Q : zU → zS → Prop) => s148 (o := o) (Y := Y) (h := hj T' Ln' M1) (t := (n', u')) (Q := Q) j5 (xe_r (xs := xs) (j := ii + 1)).1 (xe_r (xs := xs) (j := ii + 1)).2 (xe_r (xs := xs) (j := ii + 2)).1 (xe_r (xs := xs) (j := ii + 2)).2 (LI_pk h)
  have s9 := fun (Q : zU → zS → Prop) => s95 (o := o) (Y := (a_explore Y (xe xs (ii + 1)) (xe xs (ii + 2))).2) (h := hj T' Ln' M1) (t := (n', u')) (Q := Q)
  rw [f1, f2] at sm
  rw [f2] at s9
  rw [w3] at sm
  have hs1 := j7 (ii + 1) (by omega) (by omega)
  have hs1' := k7 (ii + 1) (by omega) (by omega)
  have hs2 := j7 (ii + 2) (by omega) (by omega)
  have hs2' := k7 (ii + 2) (by omega) (by omega)
  have hot : mY o (a_explore Y (xe xs (ii + 1)) (xe xs (ii + 2))).2 M1 ot 0 = M1 ot 0 := mY_o hno
  have hz : 0 ≤ (a_explore Y (xe xs (ii + 1)) (xe xs (ii + 2))).2 0 0 ∧ (a_explore Y (xe xs (ii + 1)) (xe xs (ii + 2))).2 0 0 ≤ 3 := y5 0 0
  generalize a_explore Y (xe xs (ii + 1)) (xe xs (ii + 2)) = R at *
  obtain ⟨rv, Z⟩ := R
  simp only at *
  refine ⟨T', Ln', mY o Z M1, n', u', Z, some (zi (Z 0 0)), some (zi v'), l7, fun Q => ?_, f3⟩
  rcases w2 with ⟨z0, rfl⟩ | ⟨z0, rfl⟩
  · rw [mu_s] at hot
    simp (disch := omega) only [g174_1132, g174_1133, g174_1134, g174_1136, g174_1137, g174_1138, g174_1139, g174_1140, g174_1142, g174_1143, g174_1144, g174_1145, g174_1146, g174_1149, g174_1151, g174_1152, g174_1153, g174_1155, g174_1156, g174_1157, g174_1158, g174_1159, g174_1161, g174_1162, g174_1163, g174_1164, g174_1167, g174_1169, g174_1170, g174_1173, g174_1175, g174_1178, g174_1179_0, g174_1179_1, g174_1179b, g174_1180, g174_1182, g174_1182b, g174_1185, g174_1186, g174_1187, g174_1188, g174_1190, g174_1191, g174_1195, g174_1196_0, g174_1196_1, g174_1196b, g174_1197, Int.reduceToNat, jtg, mu_s, mu_n, mu_j, mn_s, mn_n, jn_8, jnl, jnk_0, jnk_4, jnk_16, jnk_24, jnk_28, jnk_61, jnk_2000, jnk_4096, jnk_56000, jln, jai, jal, Option.some.injEq, exists_eq_left', zkl_i, zkl_l, zkl_n, zkl_r, zkl_0, zc_v, zc_n, zc_t, zd_v, zd_n, mj_tg, true_and, ↓reduceIte, not_true_eq_false, not_false_eq_true, ↓if_pos, ↓if_neg, Int.reduceLE, Int.reduceLT, Int.reduceEq, Int.reduceAdd, jas, hs1, hs1', hs2, hs2', w1, sm, s9, hot]
  · simp (disch := omega) only [g174_1132, g174_1133, g174_1134, g174_1136, g174_1137, g174_1138, g174_1139, g174_1140, g174_1142, g174_1143, g174_1144, g174_1145, g174_1146, g174_1149, g174_1151, g174_1152, g174_1153, g174_1155, g174_1156, g174_1157, g174_1158, g174_1159, g174_1161, g174_1162, g174_1163, g174_1164, g174_1167, g174_1169, g174_1170, g174_1173, g174_1175, g174_1178, g174_1179_0, g174_1179_1, g174_1179b, g174_1180, g174_1182, g174_1182b, g174_1185, g174_1186, g174_1187, g174_1188, g174_1190, g174_1191, g174_1195, g174_1196_0, g174_1196_1, g174_1196b, g174_1197, Int.reduceToNat, jtg, mu_s, mu_n, mu_j, mn_s, mn_n, jn_8, jnl, jnk_0, jnk_4, jnk_16, jnk_24, jnk_28, jnk_61, jnk_2000, jnk_4096, jnk_56000, jln, jai, jal, Option.some.injEq, exists_eq_left', zkl_i, zkl_l, zkl_n, zkl_r, zkl_0, zc_v, zc_n, zc_t, zd_v, zd_n, mj_tg, true_and, ↓reduceIte, not_true_eq_false, not_false_eq_true, ↓if_pos, ↓if_neg, Int.reduceLE, Int.reduceLT, Int.reduceEq, Int.reduceAdd, jas, hs1, hs1', hs2, hs2', w1, sm, s9]
set_option maxHeartbeats 2000000 in
theorem lw_14 (h : LI b L xs T Ln M n u x o ot Y c n0 u0) (hc : 0 ≤ c) (hc2 : c ≤ 4000) (hL : L ≤ 3584) (hb : ¬ (o ≤ b ∧ b < o + 34)) (hne : ¬ ot = b) (hno : ¬ (o ≤ ot ∧ ot < o + 34)) (i0 : 0 ≤ ii) (i7 : ii + 7 ≤ L) : ∃ T' Ln' M' n' u' Y' l5' l6' l7', (∀ Q : zU → zS → Prop, z_go zP 174 1200 [some (.ref b), some (.ref x), some (.ref o), some (.ref ot), some (zi ii), l5, l6, l7] [] (hj T Ln M, n, u) Q ↔ z_go zP 174 1398 [some (.ref b), some (.ref x), some (.ref o), some (.ref ot), some (zi ii), l5', l6', l7'] [] (hj T' Ln' M', n', u') Q) ∧ LI b L xs T' Ln' M' n' u' x o ot Y' (c + 1) n0 u0 := by
  obtain ⟨j1, ⟨j2, j2'⟩, ⟨j3, j3'⟩, j4, j5, j6, j7⟩ := LJ_s (LI_J h)
  obtain ⟨T', Ln', M', n', u', res, q1, q2, q3, q4⟩ := CR_LJ (cd := cdE) h hne hno (fun A W Ow X hrz => c71 hrz hc (xe_r).1 (xe_r).2 (xe_r).1 (xe_r).2 (xe_r).1 (xe_r).2 rfl rfl rfl)
  obtain ⟨-, -, ⟨k3, k3'⟩, -, -, -, k7⟩ := LJ_s q3
  obtain ⟨M1, v', w1, w2, w3, w4, w5⟩ := w172 j1 k3 k3' q1 q2 cdE_i
  have hLJ : LJ b L xs T' Ln' M1 n' u' x o ot Y (a_end Y (xe xs (ii + 1)) (xe xs (ii + 2)) (xe xs (ii + 3))).2 (c + 1) n0 u0 := by
    rcases w2 with ⟨-, rfl⟩ | ⟨-, rfl⟩
    · exact q4 _
    · exact q3
  obtain ⟨f1, f2, f3⟩ := LJ_LI hb hLJ
  obtain ⟨y1, ⟨y2, y2'⟩, ⟨y3, y3'⟩, y4, y5, y6, y7⟩ := LJ_s hLJ
  have sm := fun (Q : zU → zS → Prop) => s149 (o := o) (Y := Y) (h := hj T' Ln' M1) (t := (n', u')) (Q := Q) j5 (xe_r (xs := xs) (j := ii + 1)).1 (xe_r (xs := xs) (j := ii + 1)).2 (xe_r (xs := xs) (j := ii + 2)).1 (xe_r (xs := xs) (j := ii + 2)).2 (xe_r (xs := xs) (j := ii + 3)).1 (xe_r (xs := xs) (j := ii + 3)).2 (LI_pk h)
  have s9 := fun (Q : zU → zS → Prop) => s95 (o := o) (Y := (a_end Y (xe xs (ii + 1)) (xe xs (ii + 2)) (xe xs (ii + 3))).2) (h := hj T' Ln' M1) (t := (n', u')) (Q := Q)
  rw [f1, f2] at sm
  rw [f2] at s9
  rw [w3] at sm
  have hs1 := j7 (ii + 1) (by omega) (by omega)
  have hs1' := k7 (ii + 1) (by omega) (by omega)
  have hs2 := j7 (ii + 2) (by omega) (by omega)
  have hs2' := k7 (ii + 2) (by omega) (by omega)
  have hs3 := j7 (ii + 3) (by omega) (by omega)
  have hs3' := k7 (ii + 3) (by omega) (by omega)
  have hot : mY o (a_end Y (xe xs (ii + 1)) (xe xs (ii + 2)) (xe xs (ii + 3))).2 M1 ot 0 = M1 ot 0 := mY_o hno
  have hz : 0 ≤ (a_end Y (xe xs (ii + 1)) (xe xs (ii + 2)) (xe xs (ii + 3))).2 0 0 ∧ (a_end Y (xe xs (ii + 1)) (xe xs (ii + 2)) (xe xs (ii + 3))).2 0 0 ≤ 3 := y5 0 0
  generalize a_end Y (xe xs (ii + 1)) (xe xs (ii + 2)) (xe xs (ii + 3)) = R at *
  obtain ⟨rv, Z⟩ := R
  simp only at *
  refine ⟨T', Ln', mY o Z M1, n', u', Z, some (zi (Z 0 0)), some (zl v'), none, fun Q => ?_, f3⟩
  rcases w2 with ⟨z0, rfl⟩ | ⟨z0, rfl⟩
  · rw [mu_s] at hot
    simp (disch := omega) only [g174_1200, g174_1201, g174_1202, g174_1204, g174_1205, g174_1206, g174_1207, g174_1208, g174_1210, g174_1211, g174_1212, g174_1213, g174_1214, g174_1216, g174_1217, g174_1218, g174_1219, g174_1220, g174_1223, g174_1225, g174_1226, g174_1227, g174_1229, g174_1230, g174_1231, g174_1232, g174_1233, g174_1235, g174_1236, g174_1237, g174_1238, g174_1239, g174_1241, g174_1242, g174_1243, g174_1244, g174_1247, g174_1249, g174_1250, g174_1253, g174_1255, g174_1258, g174_1259_0, g174_1259_1, g174_1259b, g174_1260, g174_1262, g174_1262b, g174_1265, g174_1266, g174_1267, g174_1268, g174_1270, g174_1274, g174_1275_0, g174_1275_1, g174_1275b, g174_1276, Int.reduceToNat, jtg, mu_s, mu_n, mu_j, mn_s, mn_n, jn_8, jnl, jnk_0, jnk_4, jnk_16, jnk_24, jnk_28, jnk_61, jnk_2000, jnk_4096, jnk_56000, jln, jai, jal, Option.some.injEq, exists_eq_left', zkl_i, zkl_l, zkl_n, zkl_r, zkl_0, zc_v, zc_n, zc_t, zd_v, zd_n, mj_tg, true_and, ↓reduceIte, not_true_eq_false, not_false_eq_true, ↓if_pos, ↓if_neg, Int.reduceLE, Int.reduceLT, Int.reduceEq, Int.reduceAdd, jas, hs1, hs1', hs2, hs2', hs3, hs3', w1, sm, s9, hot]
  · simp (disch := omega) only [g174_1200, g174_1201, g174_1202, g174_1204, g174_1205, g174_1206, g174_1207, g174_1208, g174_1210, g174_1211, g174_1212, g174_1213, g174_1214, g174_1216, g174_1217, g174_1218, g174_1219, g174_1220, g174_1223, g174_1225, g174_1226, g174_1227, g174_1229, g174_1230, g174_1231, g174_1232, g174_1233, g174_1235, g174_1236, g174_1237, g174_1238, g174_1239, g174_1241, g174_1242, g174_1243, g174_1244, g174_1247, g174_1249, g174_1250, g174_1253, g174_1255, g174_1258, g174_1259_0, g174_1259_1, g174_1259b, g174_1260, g174_1262, g174_1262b, g174_1265, g174_1266, g174_1267, g174_1268, g174_1270, g174_1274, g174_1275_0, g174_1275_1, g174_1275b, g174_1276, Int.reduceToNat, jtg, mu_s, mu_n, mu_j, mn_s, mn_n, jn_8, jnl, jnk_0, jnk_4, jnk_16, jnk_24, jnk_28, jnk_61, jnk_2000, jnk_4096, jnk_56000, jln, jai, jal, Option.some.injEq, exists_eq_left', zkl_i, zkl_l, zkl_n, zkl_r, zkl_0, zc_v, zc_n, zc_t, zd_v, zd_n, mj_tg, true_and, ↓reduceIte, not_true_eq_false, not_false_eq_true, ↓if_pos, ↓if_neg, Int.reduceLE, Int.reduceLT, Int.reduceEq, Int.reduceAdd, jas, hs1, hs1', hs2, hs2', hs3, hs3', w1, sm, s9]
set_option maxHeartbeats 2000000 in
theorem lw_15 (h : LI b L xs T Ln M n u x o ot Y c n0 u0) (hc : 0 ≤ c) (hc2 : c ≤ 4000) (hL : L ≤ 3584) (hb : ¬ (o ≤ b ∧ b < o + 34)) (hne : ¬ ot = b) (hno : ¬ (o ≤ ot ∧ ot < o + 34)) (i0 : 0 ≤ ii) (i7 : ii + 7 ≤ L) : ∃ T' Ln' M' n' u' Y' l5' l6' l7', (∀ Q : zU → zS → Prop, z_go zP 174 1279 [some (.ref b), some (.ref x), some (.ref o), some (.ref ot), some (zi ii), l5, l6, l7] [] (hj T Ln M, n, u) Q ↔ z_go zP 174 1398 [some (.ref b), some (.ref x), some (.ref o), some (.ref ot), some (zi ii), l5', l6', l7'] [] (hj T' Ln' M', n', u') Q) ∧ LI b L xs T' Ln' M' n' u' x o ot Y' (c + 1) n0 u0 := by
  obtain ⟨j1, ⟨j2, j2'⟩, ⟨j3, j3'⟩, j4, j5, j6, j7⟩ := LJ_s (LI_J h)
  obtain ⟨T', Ln', M', n', u', res, q1, q2, q3, q4⟩ := CR_LJ (cd := cd1) h hne hno (fun A W Ow X hrz => c72 hrz (xe_r).1 (xe_r).2 rfl)
  obtain ⟨-, -, ⟨k3, k3'⟩, -, -, -, k7⟩ := LJ_s q3
  obtain ⟨M1, v', w1, w2, w3, w4, w5⟩ := w173 j1 k3 k3' q1 q2 cd1_i
  have hLJ : LJ b L xs T' Ln' M1 n' u' x o ot Y (a_drop Y (xe xs (ii + 1))).2 (c + 1) n0 u0 := by
    rcases w2 with ⟨-, rfl⟩ | ⟨-, rfl⟩
    · exact q4 _
    · exact q3
  obtain ⟨f1, f2, f3⟩ := LJ_LI hb hLJ
  obtain ⟨y1, ⟨y2, y2'⟩, ⟨y3, y3'⟩, y4, y5, y6, y7⟩ := LJ_s hLJ
  have sm := fun (Q : zU → zS → Prop) => s150 (o := o) (Y := Y) (h := hj T' Ln' M1) (t := (n', u')) (Q := Q) j5 (xe_r (xs := xs) (j := ii + 1)).1 (xe_r (xs := xs) (j := ii + 1)).2
  have s9 := fun (Q : zU → zS → Prop) => s95 (o := o) (Y := (a_drop Y (xe xs (ii + 1))).2) (h := hj T' Ln' M1) (t := (n', u')) (Q := Q)
  rw [f1, f2] at sm
  rw [f2] at s9
  rw [w3] at sm
  have hs1 := j7 (ii + 1) (by omega) (by omega)
  have hs1' := k7 (ii + 1) (by omega) (by omega)
  have hot : mY o (a_drop Y (xe xs (ii + 1))).2 M1 ot 0 = M1 ot 0 := mY_o hno
  have hz : 0 ≤ (a_drop Y (xe xs (ii + 1))).2 0 0 ∧ (a_drop Y (xe xs (ii + 1))).2 0 0 ≤ 3 := y5 0 0
  generalize a_drop Y (xe xs (ii + 1)) = R at *
  obtain ⟨rv, Z⟩ := R
  simp only at *
  refine ⟨T', Ln', mY o Z M1, n', u', Z, some (zi (Z 0 0)), some (zi v'), l7, fun Q => ?_, f3⟩
  rcases w2 with ⟨z0, rfl⟩ | ⟨z0, rfl⟩
  · rw [mu_s] at hot
    simp (disch := omega) only [g174_1279, g174_1280, g174_1281, g174_1283, g174_1284, g174_1285, g174_1286, g174_1287, g174_1290, g174_1292, g174_1293, g174_1294, g174_1296, g174_1297, g174_1298, g174_1299, g174_1302, g174_1304, g174_1305, g174_1308, g174_1310, g174_1313, g174_1314_0, g174_1314_1, g174_1314b, g174_1315, g174_1317, g174_1317b, g174_1320, g174_1321, g174_1322, g174_1323, g174_1325, g174_1326, g174_1330, g174_1331_0, g174_1331_1, g174_1331b, g174_1332, Int.reduceToNat, jtg, mu_s, mu_n, mu_j, mn_s, mn_n, jn_8, jnl, jnk_0, jnk_4, jnk_16, jnk_24, jnk_28, jnk_61, jnk_2000, jnk_4096, jnk_56000, jln, jai, jal, Option.some.injEq, exists_eq_left', zkl_i, zkl_l, zkl_n, zkl_r, zkl_0, zc_v, zc_n, zc_t, zd_v, zd_n, mj_tg, true_and, ↓reduceIte, not_true_eq_false, not_false_eq_true, ↓if_pos, ↓if_neg, Int.reduceLE, Int.reduceLT, Int.reduceEq, Int.reduceAdd, jas, hs1, hs1', w1, sm, s9, hot]
  · simp (disch := omega) only [g174_1279, g174_1280, g174_1281, g174_1283, g174_1284, g174_1285, g174_1286, g174_1287, g174_1290, g174_1292, g174_1293, g174_1294, g174_1296, g174_1297, g174_1298, g174_1299, g174_1302, g174_1304, g174_1305, g174_1308, g174_1310, g174_1313, g174_1314_0, g174_1314_1, g174_1314b, g174_1315, g174_1317, g174_1317b, g174_1320, g174_1321, g174_1322, g174_1323, g174_1325, g174_1326, g174_1330, g174_1331_0, g174_1331_1, g174_1331b, g174_1332, Int.reduceToNat, jtg, mu_s, mu_n, mu_j, mn_s, mn_n, jn_8, jnl, jnk_0, jnk_4, jnk_16, jnk_24, jnk_28, jnk_61, jnk_2000, jnk_4096, jnk_56000, jln, jai, jal, Option.some.injEq, exists_eq_left', zkl_i, zkl_l, zkl_n, zkl_r, zkl_0, zc_v, zc_n, zc_t, zd_v, zd_n, mj_tg, true_and, ↓reduceIte, not_true_eq_false, not_false_eq_true, ↓if_pos, ↓if_neg, Int.reduceLE, Int.reduceLT, Int.reduceEq, Int.reduceAdd, jas, hs1, hs1', w1, sm, s9]
set_option maxHeartbeats 2000000 in
theorem lw_16 (h : LI b L xs T Ln M n u x o ot Y c n0 u0) (hc : 0 ≤ c) (hc2 : c ≤ 4000) (hL : L ≤ 3584) (hb : ¬ (o ≤ b ∧ b < o + 34)) (hne : ¬ ot = b) (hno : ¬ (o ≤ ot ∧ ot < o + 34)) (i0 : 0 ≤ ii) (i7 : ii + 7 ≤ L) : ∃ T' Ln' M' n' u' Y' l5' l6' l7', (∀ Q : zU → zS → Prop, z_go zP 174 1335 [some (.ref b), some (.ref x), some (.ref o), some (.ref ot), some (zi ii), l5, l6, l7] [] (hj T Ln M, n, u) Q ↔ z_go zP 174 1398 [some (.ref b), some (.ref x), some (.ref o), some (.ref ot), some (zi ii), l5', l6', l7'] [] (hj T' Ln' M', n', u') Q) ∧ LI b L xs T' Ln' M' n' u' x o ot Y' (c + 1) n0 u0 := by
  obtain ⟨j1, ⟨j2, j2'⟩, ⟨j3, j3'⟩, j4, j5, j6, j7⟩ := LJ_s (LI_J h)
  obtain ⟨T', Ln', M', n', u', res, q1, q2, q3, q4⟩ := CR_LJ (cd := fun _ => 0) h hne hno (fun A W Ow X hrz => c73 hrz (xe_r).1 (xe_r).2)
  have hres : res = .inl (some (zi (a_kind Y (xe xs (ii + 1))).1)) := by
    rcases q2 with hh | ⟨e, -, e1, e2⟩
    · exact hh.2
    · exact absurd e1 e2
  subst hres
  obtain ⟨f1, f2, f3⟩ := LJ_LI hb q3
  obtain ⟨y1, ⟨y2, y2'⟩, ⟨y3, y3'⟩, y4, y5, y6, y7⟩ := LJ_s q3
  have sm := fun (Q : zU → zS → Prop) => s151 (o := o) (Y := Y) (h := hj T' Ln' M') (t := (n', u')) (Q := Q) j5 (xe_r (xs := xs) (j := ii + 1)).1 (xe_r (xs := xs) (j := ii + 1)).2
  rw [f1, f2] at sm
  obtain ⟨v', w3, w4, w5⟩ := zi_wr (a_kind Y (xe xs (ii + 1))).1
  rw [w3] at sm q1
  have hs1 := j7 (ii + 1) (by omega) (by omega)
  have hs1' := y7 (ii + 1) (by omega) (by omega)
  refine ⟨T', Ln', mY o (a_kind Y (xe xs (ii + 1))).2 M', n', u', (a_kind Y (xe xs (ii + 1))).2, l5, l6, l7, fun Q => ?_, f3⟩
  simp (disch := omega) only [g174_1335, g174_1336, g174_1337, g174_1339, g174_1340, g174_1341, g174_1342, g174_1345, g174_1346, g174_1347, g174_1349, g174_1350, g174_1351, g174_1352, g174_1355, g174_1358, g174_1359_0, g174_1359_1, g174_1359b, Int.reduceToNat, jtg, mu_s, mu_n, mu_j, mn_s, mn_n, jn_8, jnl, jnk_0, jnk_4, jnk_16, jnk_24, jnk_28, jnk_61, jnk_2000, jnk_4096, jnk_56000, jln, jai, jal, Option.some.injEq, exists_eq_left', zkl_i, zkl_l, zkl_n, zkl_r, zkl_0, zc_v, zc_n, zc_t, zd_v, zd_n, mj_tg, true_and, ↓reduceIte, not_true_eq_false, not_false_eq_true, ↓if_pos, ↓if_neg, Int.reduceLE, Int.reduceLT, Int.reduceEq, Int.reduceAdd, jas, hs1, hs1', q1, sm]
set_option maxHeartbeats 2000000 in
theorem lw_17 (h : LI b L xs T Ln M n u x o ot Y c n0 u0) (hc : 0 ≤ c) (hc2 : c ≤ 4000) (hL : L ≤ 3584) (hb : ¬ (o ≤ b ∧ b < o + 34)) (hne : ¬ ot = b) (hno : ¬ (o ≤ ot ∧ ot < o + 34)) (i0 : 0 ≤ ii) (i7 : ii + 7 ≤ L) : ∃ T' Ln' M' n' u' Y' l5' l6' l7', (∀ Q : zU → zS → Prop, z_go zP 174 1360 [some (.ref b), some (.ref x), some (.ref o), some (.ref ot), some (zi ii), l5, l6, l7] [] (hj T Ln M, n, u) Q ↔ z_go zP 174 1398 [some (.ref b), some (.ref x), some (.ref o), some (.ref ot), some (zi ii), l5', l6', l7'] [] (hj T' Ln' M', n', u') Q) ∧ LI b L xs T' Ln' M' n' u' x o ot Y' (c + 1) n0 u0 := by
  obtain ⟨j1, ⟨j2, j2'⟩, ⟨j3, j3'⟩, j4, j5, j6, j7⟩ := LJ_s (LI_J h)
  obtain ⟨T', Ln', M', n', u', res, q1, q2, q3, q4⟩ := CR_LJ (cd := fun _ => 0) h hne hno (fun A W Ow X hrz => c74 hrz )
  have hres : res = .inl (some (zi (Y 1 0))) := by
    rcases q2 with hh | ⟨e, -, e1, e2⟩
    · exact hh.2
    · exact absurd e1 e2
  subst hres
  obtain ⟨f1, f2, f3⟩ := LJ_LI hb q3
  obtain ⟨y1, ⟨y2, y2'⟩, ⟨y3, y3'⟩, y4, y5, y6, y7⟩ := LJ_s q3
  have sm := fun (Q : zU → zS → Prop) => s152 (o := o) (Y := Y) (h := hj T' Ln' M') (t := (n', u')) (Q := Q) 
  rw [f1, f2] at sm
  obtain ⟨v', w3, w4, w5⟩ := zi_wr (Y 1 0)
  rw [w3] at sm q1
  refine ⟨T', Ln', mY o (yu Y 0 0 0) M', n', u', (yu Y 0 0 0), l5, l6, l7, fun Q => ?_, f3⟩
  simp (disch := omega) only [g174_1360, g174_1361, g174_1364, g174_1365, g174_1368, g174_1371, g174_1372_0, g174_1372_1, g174_1372b, Int.reduceToNat, jtg, mu_s, mu_n, mu_j, mn_s, mn_n, jn_8, jnl, jnk_0, jnk_4, jnk_16, jnk_24, jnk_28, jnk_61, jnk_2000, jnk_4096, jnk_56000, jln, jai, jal, Option.some.injEq, exists_eq_left', zkl_i, zkl_l, zkl_n, zkl_r, zkl_0, zc_v, zc_n, zc_t, zd_v, zd_n, mj_tg, true_and, ↓reduceIte, not_true_eq_false, not_false_eq_true, ↓if_pos, ↓if_neg, Int.reduceLE, Int.reduceLT, Int.reduceEq, Int.reduceAdd, jas, q1, sm]
set_option maxHeartbeats 2000000 in
theorem lw_18 (h : LI b L xs T Ln M n u x o ot Y c n0 u0) (hc : 0 ≤ c) (hc2 : c ≤ 4000) (hL : L ≤ 3584) (hb : ¬ (o ≤ b ∧ b < o + 34)) (hne : ¬ ot = b) (hno : ¬ (o ≤ ot ∧ ot < o + 34)) (i0 : 0 ≤ ii) (i7 : ii + 7 ≤ L) : ∃ T' Ln' M' n' u' Y' l5' l6' l7', (∀ Q : zU → zS → Prop, z_go zP 174 1373 [some (.ref b), some (.ref x), some (.ref o), some (.ref ot), some (zi ii), l5, l6, l7] [] (hj T Ln M, n, u) Q ↔ z_go zP 174 1398 [some (.ref b), some (.ref x), some (.ref o), some (.ref ot), some (zi ii), l5', l6', l7'] [] (hj T' Ln' M', n', u') Q) ∧ LI b L xs T' Ln' M' n' u' x o ot Y' (c + 1) n0 u0 := by
  obtain ⟨j1, ⟨j2, j2'⟩, ⟨j3, j3'⟩, j4, j5, j6, j7⟩ := LJ_s (LI_J h)
  obtain ⟨T', Ln', M', n', u', res, q1, q2, q3, q4⟩ := CR_LJ (cd := fun _ => 0) h hne hno (fun A W Ow X hrz => c75 hrz (xe_r).1 (xe_r).2)
  have hres : res = .inl (some (zi (a_count Y (xe xs (ii + 1))).1)) := by
    rcases q2 with hh | ⟨e, -, e1, e2⟩
    · exact hh.2
    · exact absurd e1 e2
  subst hres
  obtain ⟨f1, f2, f3⟩ := LJ_LI hb q3
  obtain ⟨y1, ⟨y2, y2'⟩, ⟨y3, y3'⟩, y4, y5, y6, y7⟩ := LJ_s q3
  have sm := fun (Q : zU → zS → Prop) => s153 (o := o) (Y := Y) (h := hj T' Ln' M') (t := (n', u')) (Q := Q) j5 (xe_r (xs := xs) (j := ii + 1)).1 (xe_r (xs := xs) (j := ii + 1)).2
  rw [f1, f2] at sm
  obtain ⟨v', w3, w4, w5⟩ := zi_wr (a_count Y (xe xs (ii + 1))).1
  rw [w3] at sm q1
  have hs1 := j7 (ii + 1) (by omega) (by omega)
  have hs1' := y7 (ii + 1) (by omega) (by omega)
  refine ⟨T', Ln', mY o (a_count Y (xe xs (ii + 1))).2 M', n', u', (a_count Y (xe xs (ii + 1))).2, l5, l6, l7, fun Q => ?_, f3⟩
  simp (disch := omega) only [g174_1373, g174_1374, g174_1375, g174_1377, g174_1378, g174_1379, g174_1380, g174_1383, g174_1384, g174_1385, g174_1387, g174_1388, g174_1389, g174_1390, g174_1393, g174_1396, g174_1397_0, g174_1397_1, g174_1397b, Int.reduceToNat, jtg, mu_s, mu_n, mu_j, mn_s, mn_n, jn_8, jnl, jnk_0, jnk_4, jnk_16, jnk_24, jnk_28, jnk_61, jnk_2000, jnk_4096, jnk_56000, jln, jai, jal, Option.some.injEq, exists_eq_left', zkl_i, zkl_l, zkl_n, zkl_r, zkl_0, zc_v, zc_n, zc_t, zd_v, zd_n, mj_tg, true_and, ↓reduceIte, not_true_eq_false, not_false_eq_true, ↓if_pos, ↓if_neg, Int.reduceLE, Int.reduceLT, Int.reduceEq, Int.reduceAdd, jas, hs1, hs1', q1, sm]
end
