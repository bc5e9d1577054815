/-! THE MODEL IS MADE -/
/-- the model's object with its first k rows -/
def pm (o k : Nat) (h : zH) : zH := fun a => if a = o then some (9, 42, fun f => if ((3 ≤ f ∧ f < 30) ∨ (36 ≤ f ∧ f < 42)) ∧ moff f ≤ k then .ref (o + moff f) else defaultValue (zty 9 f)) else if o < a ∧ a < o + 1 + k then some (mtag (mfo (a - o)), mlen (mfo (a - o)), fun _ => mval (mfo (a - o)) 0) else h a
section
variable {o n u k f c m : Nat} {h : zH} {t : Nat × Nat} {Q : zU → zS → Prop}
theorem znw {q : zH} {g : Nat → Value} : z_new c m g (q, n, u) = (z_up q n (c, m, g), n + 1, u + m) := rfl
theorem pm_put (hf : (3 ≤ f ∧ f < 30) ∨ (36 ≤ f ∧ f < 42)) (hk : moff f = k + 1) (hn : narrow (zty 9 f) (.ref (o + (k + 1))) = .ref (o + (k + 1))) (ht : fits (zty 9 f) (.ref (o + (k + 1))) = true) : z_put [9] f (z_up (pm o k h) (o + (k + 1)) (mtag f, mlen f, fun _ => mval f 0), t) o (.ref (o + (k + 1))) = some (pm o (k + 1) h, t) := by
  have h0 : z_up (pm o k h) (o + (k + 1)) (mtag f, mlen f, fun _ => mval f 0) o = some (9, 42, fun f => if ((3 ≤ f ∧ f < 30) ∨ (36 ≤ f ∧ f < 42)) ∧ moff f ≤ k then .ref (o + moff f) else defaultValue (zty 9 f)) := by
    unfold z_up pm
    rw [if_neg (by omega), if_pos rfl]
  obtain ⟨e1, e2, e3⟩ := mo_fo (f := f) hf
  unfold z_put
  simp only [h0]
  rw [if_pos ⟨by simp, hn, ht⟩]
  congr 2
  funext a
  unfold z_up
  by_cases ha : a = o
  · subst ha
    rw [if_pos rfl]
    unfold pm
    rw [if_pos rfl]
    congr 3
    funext g
    unfold z_uf
    by_cases hg : g = f
    · rw [if_pos hg, hg, if_pos ⟨hf, by omega⟩, hk]
    · rw [if_neg hg]
      show (if ((3 ≤ g ∧ g < 30) ∨ (36 ≤ g ∧ g < 42)) ∧ moff g ≤ k then Value.ref (a + moff g) else defaultValue (zty 9 g)) = if ((3 ≤ g ∧ g < 30) ∨ (36 ≤ g ∧ g < 42)) ∧ moff g ≤ k + 1 then Value.ref (a + moff g) else defaultValue (zty 9 g)
      by_cases hm : (3 ≤ g ∧ g < 30) ∨ (36 ≤ g ∧ g < 42)
      · have hne : ¬ moff g = k + 1 := by
          intro hh
          have q := (mo_fo (f := g) hm).1
          rw [hh, ← hk, e1] at q
          exact hg q.symm
        by_cases hk2 : moff g ≤ k
        · rw [if_pos ⟨hm, hk2⟩, if_pos ⟨hm, by omega⟩]
        · rw [if_neg (fun hh => hk2 hh.2), if_neg (fun hh => by have := hh.2; omega)]
      · rw [if_neg (fun hh => hm hh.1), if_neg (fun hh => hm hh.1)]
  · rw [if_neg ha]
    by_cases hb : a = o + (k + 1)
    · rw [if_pos hb]
      unfold pm
      rw [if_neg ha, if_pos (by omega), hb, Nat.add_sub_cancel_left, ← hk, e1]
    · rw [if_neg hb]
      unfold pm
      rw [if_neg ha, if_neg ha]
      by_cases hc : o < a ∧ a < o + 1 + k
      · rw [if_pos hc, if_pos (by omega)]
      · rw [if_neg hc, if_neg (by omega)]
theorem pp_3 : z_put [9] 3 (z_up (pm o 0 h) (o + 1) (100, 61, fun _ => zi 0), t) o (.ref (o + 1)) = some (pm o 1 h, t) := pm_put (f := 3) (k := 0) (by decide) rfl rfl rfl
theorem pp_4 : z_put [9] 4 (z_up (pm o 1 h) (o + 2) (102, 61, fun _ => zi 0), t) o (.ref (o + 2)) = some (pm o 2 h, t) := pm_put (f := 4) (k := 1) (by decide) rfl rfl rfl
theorem pp_5 : z_put [9] 5 (z_up (pm o 2 h) (o + 3) (100, 61, fun _ => zi 0), t) o (.ref (o + 3)) = some (pm o 3 h, t) := pm_put (f := 5) (k := 2) (by decide) rfl rfl rfl
theorem pp_6 : z_put [9] 6 (z_up (pm o 3 h) (o + 4) (100, 61, fun _ => zi 0), t) o (.ref (o + 4)) = some (pm o 4 h, t) := pm_put (f := 6) (k := 3) (by decide) rfl rfl rfl
theorem pp_7 : z_put [9] 7 (z_up (pm o 4 h) (o + 5) (100, 61, fun _ => zi 0), t) o (.ref (o + 5)) = some (pm o 5 h, t) := pm_put (f := 7) (k := 4) (by decide) rfl rfl rfl
theorem pp_8 : z_put [9] 8 (z_up (pm o 5 h) (o + 6) (100, 61, fun _ => zi 0), t) o (.ref (o + 6)) = some (pm o 6 h, t) := pm_put (f := 8) (k := 5) (by decide) rfl rfl rfl
theorem pp_9 : z_put [9] 9 (z_up (pm o 6 h) (o + 7) (100, 61, fun _ => zi 0), t) o (.ref (o + 7)) = some (pm o 7 h, t) := pm_put (f := 9) (k := 6) (by decide) rfl rfl rfl
theorem pp_10 : z_put [9] 10 (z_up (pm o 7 h) (o + 8) (100, 61, fun _ => zi 0), t) o (.ref (o + 8)) = some (pm o 8 h, t) := pm_put (f := 10) (k := 7) (by decide) rfl rfl rfl
theorem pp_11 : z_put [9] 11 (z_up (pm o 8 h) (o + 9) (100, 61, fun _ => zi 0), t) o (.ref (o + 9)) = some (pm o 9 h, t) := pm_put (f := 11) (k := 8) (by decide) rfl rfl rfl
theorem pp_12 : z_put [9] 12 (z_up (pm o 9 h) (o + 10) (100, 61, fun _ => zi 0), t) o (.ref (o + 10)) = some (pm o 10 h, t) := pm_put (f := 12) (k := 9) (by decide) rfl rfl rfl
theorem pp_13 : z_put [9] 13 (z_up (pm o 10 h) (o + 11) (100, 61, fun _ => zi 0), t) o (.ref (o + 11)) = some (pm o 11 h, t) := pm_put (f := 13) (k := 10) (by decide) rfl rfl rfl
theorem pp_14 : z_put [9] 14 (z_up (pm o 11 h) (o + 12) (100, 1464, fun _ => zi 0), t) o (.ref (o + 12)) = some (pm o 12 h, t) := pm_put (f := 14) (k := 11) (by decide) rfl rfl rfl
theorem pp_15 : z_put [9] 15 (z_up (pm o 12 h) (o + 13) (100, 1464, fun _ => zi 0), t) o (.ref (o + 13)) = some (pm o 13 h, t) := pm_put (f := 15) (k := 12) (by decide) rfl rfl rfl
theorem pp_16 : z_put [9] 16 (z_up (pm o 13 h) (o + 14) (100, 1464, fun _ => zi 0), t) o (.ref (o + 14)) = some (pm o 14 h, t) := pm_put (f := 16) (k := 13) (by decide) rfl rfl rfl
theorem pp_17 : z_put [9] 17 (z_up (pm o 14 h) (o + 15) (100, 1464, fun _ => zi 0), t) o (.ref (o + 15)) = some (pm o 15 h, t) := pm_put (f := 17) (k := 14) (by decide) rfl rfl rfl
theorem pp_18 : z_put [9] 18 (z_up (pm o 15 h) (o + 16) (100, 1464, fun _ => zi 0), t) o (.ref (o + 16)) = some (pm o 16 h, t) := pm_put (f := 18) (k := 15) (by decide) rfl rfl rfl
theorem pp_19 : z_put [9] 19 (z_up (pm o 16 h) (o + 17) (101, 1464, fun _ => zl 0), t) o (.ref (o + 17)) = some (pm o 17 h, t) := pm_put (f := 19) (k := 16) (by decide) rfl rfl rfl
theorem pp_20 : z_put [9] 20 (z_up (pm o 17 h) (o + 18) (100, 122, fun _ => zi 0), t) o (.ref (o + 18)) = some (pm o 18 h, t) := pm_put (f := 20) (k := 17) (by decide) rfl rfl rfl
theorem pp_21 : z_put [9] 21 (z_up (pm o 18 h) (o + 19) (100, 122, fun _ => zi 0), t) o (.ref (o + 19)) = some (pm o 19 h, t) := pm_put (f := 21) (k := 18) (by decide) rfl rfl rfl
theorem pp_22 : z_put [9] 22 (z_up (pm o 19 h) (o + 20) (102, 122, fun _ => zi 0), t) o (.ref (o + 20)) = some (pm o 20 h, t) := pm_put (f := 22) (k := 19) (by decide) rfl rfl rfl
theorem pp_23 : z_put [9] 23 (z_up (pm o 20 h) (o + 21) (100, 61, fun _ => zi 0), t) o (.ref (o + 21)) = some (pm o 21 h, t) := pm_put (f := 23) (k := 20) (by decide) rfl rfl rfl
theorem pp_24 : z_put [9] 24 (z_up (pm o 21 h) (o + 22) (100, 61, fun _ => zi 0), t) o (.ref (o + 22)) = some (pm o 22 h, t) := pm_put (f := 24) (k := 21) (by decide) rfl rfl rfl
theorem pp_25 : z_put [9] 25 (z_up (pm o 22 h) (o + 23) (100, 976, fun _ => zi 0), t) o (.ref (o + 23)) = some (pm o 23 h, t) := pm_put (f := 25) (k := 22) (by decide) rfl rfl rfl
theorem pp_26 : z_put [9] 26 (z_up (pm o 23 h) (o + 24) (100, 244, fun _ => zi 0), t) o (.ref (o + 24)) = some (pm o 24 h, t) := pm_put (f := 26) (k := 23) (by decide) rfl rfl rfl
theorem pp_27 : z_put [9] 27 (z_up (pm o 24 h) (o + 25) (100, 244, fun _ => zi 0), t) o (.ref (o + 25)) = some (pm o 25 h, t) := pm_put (f := 27) (k := 24) (by decide) rfl rfl rfl
theorem pp_28 : z_put [9] 28 (z_up (pm o 25 h) (o + 26) (100, 61, fun _ => zi 0), t) o (.ref (o + 26)) = some (pm o 26 h, t) := pm_put (f := 28) (k := 25) (by decide) rfl rfl rfl
theorem pp_29 : z_put [9] 29 (z_up (pm o 26 h) (o + 27) (100, 61, fun _ => zi 0), t) o (.ref (o + 27)) = some (pm o 27 h, t) := pm_put (f := 29) (k := 26) (by decide) rfl rfl rfl
theorem pp_36 : z_put [9] 36 (z_up (pm o 27 h) (o + 28) (101, 56028, fun _ => zl 0), t) o (.ref (o + 28)) = some (pm o 28 h, t) := pm_put (f := 36) (k := 27) (by decide) rfl rfl rfl
theorem pp_37 : z_put [9] 37 (z_up (pm o 28 h) (o + 29) (100, 2001, fun _ => zi 0), t) o (.ref (o + 29)) = some (pm o 29 h, t) := pm_put (f := 37) (k := 28) (by decide) rfl rfl rfl
theorem pp_38 : z_put [9] 38 (z_up (pm o 29 h) (o + 30) (101, 28, fun _ => zl 0), t) o (.ref (o + 30)) = some (pm o 30 h, t) := pm_put (f := 38) (k := 29) (by decide) rfl rfl rfl
theorem pp_39 : z_put [9] 39 (z_up (pm o 30 h) (o + 31) (100, 2003, fun _ => zi 0), t) o (.ref (o + 31)) = some (pm o 31 h, t) := pm_put (f := 39) (k := 30) (by decide) rfl rfl rfl
theorem pp_40 : z_put [9] 40 (z_up (pm o 31 h) (o + 32) (100, 2001, fun _ => zi 0), t) o (.ref (o + 32)) = some (pm o 32 h, t) := pm_put (f := 40) (k := 31) (by decide) rfl rfl rfl
theorem pp_41 : z_put [9] 41 (z_up (pm o 32 h) (o + 33) (102, 61, fun _ => zi 0), t) o (.ref (o + 33)) = some (pm o 33 h, t) := pm_put (f := 41) (k := 32) (by decide) rfl rfl rfl
theorem pm_0 : z_up h o (9, 42, fun k => defaultValue (zty 9 k)) = pm o 0 h := by
  funext a
  unfold z_up pm
  by_cases ha : a = o
  · rw [if_pos ha, if_pos ha]
    congr 3
    funext f
    by_cases hm : ((3 ≤ f ∧ f < 30) ∨ (36 ≤ f ∧ f < 42)) ∧ moff f ≤ 0
    · have := (mo_fo (f := f) hm.1).2.1
      omega
    · rw [if_neg hm]
  · rw [if_neg ha, if_neg ha, if_neg (by omega)]
theorem pm_33 : pm o 33 h = mj o (fun _ _ => 0) h := by
  funext a
  unfold pm mj
  by_cases ha : a = o
  · rw [if_pos ha, if_pos ha]
    congr 3
    funext f
    unfold mobj
    by_cases hm : (3 ≤ f ∧ f < 30) ∨ (36 ≤ f ∧ f < 42)
    · have := (mo_fo (f := f) hm).2.2
      rw [if_pos ⟨hm, by omega⟩, if_pos hm]
    · rw [if_neg (fun hh => hm hh.1), if_neg hm]
      by_cases h42 : f < 42
      · rw [if_pos h42]
        obtain rfl | rfl | rfl | rfl | rfl | rfl | rfl | rfl | rfl : f = 0 ∨ f = 1 ∨ f = 2 ∨ f = 30 ∨ f = 31 ∨ f = 32 ∨ f = 33 ∨ f = 34 ∨ f = 35 := by omega
        all_goals rfl
      · rw [if_neg h42]
  · rw [if_neg ha, if_neg ha]
set_option maxHeartbeats 4000000 in
theorem s94 : z_go zP 94 0 [some (.ref o)] [] (pm o 0 h, o + 1, u) Q ↔ Q (.inl none) (mj o (fun _ _ => 0) h, o + 34, u + 73651) := by
  rw [← pm_33]
  simp (disch := omega) only [g94_0, g94_1, g94_4, g94_5, g94_7, g94_9, g94_12, g94_13, g94_15, g94_17, g94_20, g94_21, g94_23, g94_25, g94_28, g94_29, g94_31, g94_33, g94_36, g94_37, g94_39, g94_41, g94_44, g94_45, g94_47, g94_49, g94_52, g94_53, g94_55, g94_57, g94_60, g94_61, g94_63, g94_65, g94_68, g94_69, g94_71, g94_73, g94_76, g94_77, g94_79, g94_81, g94_84, g94_85, g94_87, g94_89, g94_92, g94_93, g94_96, g94_98, g94_101, g94_102, g94_105, g94_107, g94_110, g94_111, g94_114, g94_116, g94_119, g94_120, g94_123, g94_125, g94_128, g94_129, g94_132, g94_134, g94_137, g94_138, g94_141, g94_143, g94_146, g94_147, g94_149, g94_151, g94_154, g94_155, g94_157, g94_159, g94_162, g94_163, g94_165, g94_167, g94_170, g94_171, g94_173, g94_175, g94_178, g94_179, g94_181, g94_183, g94_186, g94_187, g94_190, g94_192, g94_195, g94_196, g94_199, g94_201, g94_204, g94_205, g94_208, g94_210, g94_213, g94_214, g94_216, g94_218, g94_221, g94_222, g94_224, g94_226, g94_229, g94_230, g94_232, g94_234, g94_237, g94_238, g94_241, g94_243, g94_246, g94_247, g94_249, g94_251, g94_254, g94_255, g94_258, g94_260, g94_263, g94_264, g94_267, g94_269, g94_272, g94_273, g94_275, g94_277, g94_280, Option.some.injEq, exists_eq_left', zkl_i, zkl_l, zkl_n, zkl_r, zkl_0, zc_v, zc_n, zc_t, zd_v, zd_n, mj_tg, true_and, ↓reduceIte, not_true_eq_false, not_false_eq_true, ↓if_pos, ↓if_neg, Int.reduceLE, Int.reduceLT, Int.reduceEq, Int.reduceAdd, Int.reduceToNat, znw, Nat.add_assoc, Nat.reduceAdd, pp_3, pp_4, pp_5, pp_6, pp_7, pp_8, pp_9, pp_10, pp_11, pp_12, pp_13, pp_14, pp_15, pp_16, pp_17, pp_18, pp_19, pp_20, pp_21, pp_22, pp_23, pp_24, pp_25, pp_26, pp_27, pp_28, pp_29, pp_36, pp_37, pp_38, pp_39, pp_40, pp_41]
end
