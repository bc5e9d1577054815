/-! THE CLASS'S HEAP as a flat memory: tags, lengths, contents by address and place -/
def hj (T : Nat → Nat) (Ln : Nat → Int) (M : Nat → Int → Value) : zH := fun a => if T a < 200 then some (T a, (Ln a).toNat, fun j : Nat => M a j) else none
def mu (M : Nat → Int → Value) (a : Nat) (k : Int) (v : Value) : Nat → Int → Value := fun b j => if b = a ∧ j = k then v else M b j
def mn (M : Nat → Int → Value) (a : Nat) (f : Int → Value) : Nat → Int → Value := fun b j => if b = a then f j else M b j
def tu (T : Nat → Nat) (a c : Nat) : Nat → Nat := fun b => if b = a then c else T b
def lu (Ln : Nat → Int) (a : Nat) (n : Int) : Nat → Int := fun b => if b = a then n else Ln b
/-- what a new object holds -/
def dv (c : Nat) (j : Int) : Value := defaultValue (zty c j.toNat)
section
variable {T : Nat → Nat} {Ln : Nat → Int} {M : Nat → Int → Value} {a b c n u : Nat} {t : Nat × Nat} {e v k j : Int} {x y : Value} {tags : List Nat}
theorem mu_s : mu M a k x a k = x := by simp [mu]
theorem mu_n (h : ¬ b = a) : mu M a k x b j = M b j := by simp [mu, h]
theorem mu_j (h : ¬ j = k) : mu M a k x b j = M b j := by simp [mu, h]
theorem mu_e : mu M a k x a j = if j = k then x else M a j := by simp [mu]
theorem mn_s {f : Int → Value} : mn M a f a j = f j := by simp [mn]
theorem mn_n {f : Int → Value} (h : ¬ b = a) : mn M a f b j = M b j := by simp [mn, h]
theorem tu_s : tu T a c a = c := by simp [tu]
theorem tu_n (h : ¬ b = a) : tu T a c b = T b := by simp [tu, h]
theorem lu_s : lu Ln a e a = e := by simp [lu]
theorem lu_n (h : ¬ b = a) : lu Ln a e b = Ln b := by simp [lu, h]
theorem hj_s (h : T a < 200) : hj T Ln M a = some (T a, (Ln a).toNat, fun j : Nat => M a j) := if_pos h
theorem hj_c {c : Nat} (h : T a = c) (hc : c < 200) : hj T Ln M a = some (c, (Ln a).toNat, fun j : Nat => M a j) := by rw [hj_s (by omega), h]
theorem hj_u (h : T a < 200) (hk : 0 ≤ k) : z_up (hj T Ln M) a (T a, (Ln a).toNat, z_uf (fun j : Nat => M a j) k.toNat x) = hj T Ln (mu M a k x) := by
  funext b
  unfold z_up
  by_cases hb : b = a
  · subst hb
    rw [if_pos rfl, hj_s h]
    congr 3
    funext j
    unfold z_uf mu
    by_cases hj : j = k.toNat
    · have : (j : Int) = k := by omega
      rw [if_pos hj, if_pos ⟨rfl, this⟩]
    · have : ¬ (j : Int) = k := by omega
      rw [if_neg hj, if_neg (fun hh => this hh.2)]
  · rw [if_neg hb]
    unfold hj
    by_cases h2 : T b < 200
    · rw [if_pos h2, if_pos h2]
      congr 3
      funext j
      rw [mu_n hb]
    · rw [if_neg h2, if_neg h2]
theorem jtg {c : Nat} (hT : T a = c) (hc : c < 200) : (z_tg (hj T Ln M) a = some c) ↔ True := by
  unfold z_tg
  rw [hj_c hT hc]
  simp
theorem jg (hT : T a = c) (hc : c < 200) (f : Nat) : z_get [c] f (hj T Ln M) a = some (M a (f : Int)) := by
  unfold z_get
  rw [hj_c hT hc]
  simp
theorem jg0 (hT : T a = 0 ∨ T a = 2 ∨ T a = 3 ∨ T a = 4 ∨ T a = 5 ∨ T a = 6) : z_get [0, 2, 3, 4, 5, 6] 0 (hj T Ln M) a = some (M a 0) := by
  unfold z_get
  rcases hT with h | h | h | h | h | h <;> (rw [hj_c h (by omega)]; simp)
theorem jpG (hT : T a = c) (hc : c < 200) (f : Nat) (hn : narrow (zty c f) x = x) (hf : fits (zty c f) x = true) : z_put [c] f (hj T Ln M, t) a x = some (hj T Ln (mu M a (f : Int) x), t) := by
  unfold z_put
  simp only [hj_c hT hc]
  rw [if_pos ⟨by simp, hn, hf⟩]
  have := hj_u (T := T) (Ln := Ln) (M := M) (a := a) (x := x) (k := (f : Int)) (by omega) (by omega)
  rw [hT] at this
  rw [← this]
  rfl
theorem jp0 (hT : T a = 0 ∨ T a = 2 ∨ T a = 3 ∨ T a = 4 ∨ T a = 5 ∨ T a = 6) : z_put [0, 2, 3, 4, 5, 6] 0 (hj T Ln M, t) a (zi v) = some (hj T Ln (mu M a 0 (zi v)), t) := by
  have h2 : T a < 200 := by omega
  unfold z_put
  simp only [hj_s h2]
  have hn : ∀ c, (c = 0 ∨ c = 2 ∨ c = 3 ∨ c = 4 ∨ c = 5 ∨ c = 6) → narrow (zty c 0) (zi v) = zi v ∧ fits (zty c 0) (zi v) = true := by
    intro c hc
    rcases hc with h | h | h | h | h | h <;> subst h <;> exact ⟨rfl, rfl⟩
  rw [if_pos ⟨by rcases hT with h | h | h | h | h | h <;> rw [h] <;> simp, hn _ hT⟩]
  have := hj_u (T := T) (Ln := Ln) (M := M) (a := a) (x := zi v) (k := 0) h2 (by omega)
  rw [← this]
  rfl
theorem jaG (hT : T a ∈ tags) (h2 : T a < 200) (h1 : 0 ≤ e) (h3 : e < Ln a) (h4 : e < 2147483648) : z_at tags (hj T Ln M) a (Int32.ofInt e) = some (M a e) := by
  unfold z_at
  rw [hj_s h2]
  simp only
  have e1 : ¬ (Int32.ofInt e < 0) := by rw [i_0, i_lt (by omega) (by omega) (by omega) (by omega)]; omega
  have e2 : (Int32.ofInt e).toNatClampNeg = e.toNat := i_nat (by omega) (by omega)
  rw [e2, if_pos ⟨hT, by rintro (h9 | h9); exact e1 h9; omega⟩]
  have : ((e.toNat : Nat) : Int) = e := by omega
  rw [this]
theorem jal (hT : T a = 101) (h1 : 0 ≤ e) (h3 : e < Ln a) (h4 : Ln a ≤ 60000) : z_at [101] (hj T Ln M) a (Int32.ofInt e) = some (M a e) := jaG (by rw [hT]; simp) (by omega) h1 h3 (by omega)
theorem jai (hT : T a = 100) (h1 : 0 ≤ e) (h3 : e < Ln a) (h4 : Ln a ≤ 60000) : z_at [99, 100] (hj T Ln M) a (Int32.ofInt e) = some (M a e) := jaG (by rw [hT]; simp) (by omega) h1 h3 (by omega)
theorem jas (hT : T a = 99) (h1 : 0 ≤ e) (h3 : e < Ln a) (h4 : Ln a ≤ 60000) : z_at [99, 100] (hj T Ln M) a (Int32.ofInt e) = some (M a e) := jaG (by rw [hT]; simp) (by omega) h1 h3 (by omega)
theorem jaa (hT : T a = 103 ∨ T a = 104) (h1 : 0 ≤ e) (h3 : e < Ln a) (h4 : Ln a ≤ 60000) : z_at [103, 104] (hj T Ln M) a (Int32.ofInt e) = some (M a e) := jaG (by rcases hT with h | h <;> rw [h] <;> simp) (by omega) h1 h3 (by omega)
theorem jsG (hT : T a = c) (hc : c < 200) (h1 : 0 ≤ e) (h3 : e < Ln a) (h4 : Ln a ≤ 60000) : z_st c (hj T Ln M, t) a (Int32.ofInt e) x = some (hj T Ln (mu M a e x), t) := by
  unfold z_st
  simp only [hj_c hT hc]
  have e1 : ¬ (Int32.ofInt e < 0) := by rw [i_0, i_lt (by omega) (by omega) (by omega) (by omega)]; omega
  have e2 : (Int32.ofInt e).toNatClampNeg = e.toNat := i_nat (by omega) (by omega)
  rw [e2, if_pos ⟨trivial, by rintro (h9 | h9); exact e1 h9; omega⟩]
  have := hj_u (T := T) (Ln := Ln) (M := M) (a := a) (x := x) (k := e) (by omega) h1
  rw [hT] at this
  rw [this]
theorem jsi (hT : T a = 100) (h1 : 0 ≤ e) (h3 : e < Ln a) (h4 : Ln a ≤ 60000) : z_st 100 (hj T Ln M, t) a (Int32.ofInt e) (zi v) = some (hj T Ln (mu M a e (zi v)), t) := jsG hT (by omega) h1 h3 h4
theorem jsl (hT : T a = 101) (h1 : 0 ≤ e) (h3 : e < Ln a) (h4 : Ln a ≤ 60000) : z_st 101 (hj T Ln M, t) a (Int32.ofInt e) (zl v) = some (hj T Ln (mu M a e (zl v)), t) := jsG hT (by omega) h1 h3 h4
theorem jsan (hT : T a = 103 ∨ T a = 104) (h1 : 0 ≤ e) (h3 : e < Ln a) (h4 : Ln a ≤ 60000) : z_ast (hj T Ln M, t) a (Int32.ofInt e) .null = some (hj T Ln (mu M a e .null), t) := by
  unfold z_ast
  simp only [hj_s (show T a < 200 by omega)]
  rw [if_pos ⟨by omega, rfl⟩]
  exact jsG rfl (by omega) h1 h3 h4
theorem jst (hT : T a = 103) (hb : T b = 0 ∨ T b = 2 ∨ T b = 3 ∨ T b = 4 ∨ T b = 5 ∨ T b = 6) (h1 : 0 ≤ e) (h3 : e < Ln a) (h4 : Ln a ≤ 60000) : z_ast (hj T Ln M, t) a (Int32.ofInt e) (.ref b) = some (hj T Ln (mu M a e (.ref b)), t) := by
  have hm : z_may 103 (hj T Ln M) (.ref b) = true := by
    unfold z_may
    simp only [hj_s (show T b < 200 by omega)]
    rcases hb with h | h | h | h | h | h <;> rw [h] <;> rfl
  unfold z_ast
  simp only [hj_c hT (by omega)]
  rw [if_pos ⟨by simp, hm⟩]
  exact jsG hT (by omega) h1 h3 h4
theorem jsw (hT : T a = 104) (hb : T b = 7) (h1 : 0 ≤ e) (h3 : e < Ln a) (h4 : Ln a ≤ 60000) : z_ast (hj T Ln M, t) a (Int32.ofInt e) (.ref b) = some (hj T Ln (mu M a e (.ref b)), t) := by
  have hm : z_may 104 (hj T Ln M) (.ref b) = true := by
    unfold z_may
    simp only [hj_c hb (by omega)]
    rfl
  unfold z_ast
  simp only [hj_c hT (by omega)]
  rw [if_pos ⟨by simp, hm⟩]
  exact jsG hT (by omega) h1 h3 h4
theorem jln (hT : 99 ≤ T a) (hT2 : T a ≤ 104) (h1 : 0 ≤ Ln a) : z_len (hj T Ln M) a = some (zi (Ln a)) := by
  unfold z_len
  rw [hj_s (by omega)]
  simp only
  rw [if_pos ⟨hT, hT2⟩]
  unfold zi
  have : (Ln a).toNat.toInt32 = Int32.ofInt (Ln a) := by
    show Int32.ofNat (Ln a).toNat = _
    rw [← Int32.ofInt_eq_ofNat]
    congr 1
    omega
  rw [this]
theorem jnw {f : Nat → Value} {g : Int → Value} (hc : c < 200) (hf : ∀ i : Nat, f i = g i) (m : Nat) : z_new c m f (hj T Ln M, n, u) = (hj (tu T n c) (lu Ln n m) (mn M n g), n + 1, u + m) := by
  unfold z_new
  congr 1
  funext b
  unfold z_up
  by_cases hb : b = n
  · subst hb
    rw [if_pos rfl, hj_c tu_s hc, lu_s]
    congr 3
    funext i
    rw [mn_s, hf]
  · rw [if_neg hb]
    show hj T Ln M b = _
    unfold hj
    rw [tu_n hb, lu_n hb]
    by_cases h2 : T b < 200
    · rw [if_pos h2, if_pos h2]
      congr 3
      funext i
      rw [mn_n hb]
    · rw [if_neg h2, if_neg h2]
theorem jnl (h1 : 0 ≤ e) (x : Value) (hc : c < 200) : z_new c e.toNat (fun _ => x) (hj T Ln M, n, u) = (hj (tu T n c) (lu Ln n e) (mn M n (fun _ => x)), n + 1, u + e.toNat) := by
  have := jnw (T := T) (Ln := Ln) (M := M) (n := n) (u := u) (f := fun _ => x) (g := fun _ => x) hc (fun _ => rfl) e.toNat
  rw [this]
  have e2 : ((e.toNat : Nat) : Int) = e := by omega
  rw [e2]
theorem jnk_0 (hc : c < 200) : z_new c 0 (fun _ => x) (hj T Ln M, n, u) = (hj (tu T n c) (lu Ln n 0) (mn M n (fun _ => x)), n + 1, u + 0) := jnw (f := fun _ => x) (g := fun _ => x) hc (fun _ => rfl) 0
theorem jnk_4 (hc : c < 200) : z_new c 4 (fun _ => x) (hj T Ln M, n, u) = (hj (tu T n c) (lu Ln n 4) (mn M n (fun _ => x)), n + 1, u + 4) := jnw (f := fun _ => x) (g := fun _ => x) hc (fun _ => rfl) 4
theorem jnk_16 (hc : c < 200) : z_new c 16 (fun _ => x) (hj T Ln M, n, u) = (hj (tu T n c) (lu Ln n 16) (mn M n (fun _ => x)), n + 1, u + 16) := jnw (f := fun _ => x) (g := fun _ => x) hc (fun _ => rfl) 16
theorem jnk_24 (hc : c < 200) : z_new c 24 (fun _ => x) (hj T Ln M, n, u) = (hj (tu T n c) (lu Ln n 24) (mn M n (fun _ => x)), n + 1, u + 24) := jnw (f := fun _ => x) (g := fun _ => x) hc (fun _ => rfl) 24
theorem jnk_28 (hc : c < 200) : z_new c 28 (fun _ => x) (hj T Ln M, n, u) = (hj (tu T n c) (lu Ln n 28) (mn M n (fun _ => x)), n + 1, u + 28) := jnw (f := fun _ => x) (g := fun _ => x) hc (fun _ => rfl) 28
theorem jnk_61 (hc : c < 200) : z_new c 61 (fun _ => x) (hj T Ln M, n, u) = (hj (tu T n c) (lu Ln n 61) (mn M n (fun _ => x)), n + 1, u + 61) := jnw (f := fun _ => x) (g := fun _ => x) hc (fun _ => rfl) 61
theorem jnk_2000 (hc : c < 200) : z_new c 2000 (fun _ => x) (hj T Ln M, n, u) = (hj (tu T n c) (lu Ln n 2000) (mn M n (fun _ => x)), n + 1, u + 2000) := jnw (f := fun _ => x) (g := fun _ => x) hc (fun _ => rfl) 2000
theorem jnk_4096 (hc : c < 200) : z_new c 4096 (fun _ => x) (hj T Ln M, n, u) = (hj (tu T n c) (lu Ln n 4096) (mn M n (fun _ => x)), n + 1, u + 4096) := jnw (f := fun _ => x) (g := fun _ => x) hc (fun _ => rfl) 4096
theorem jnk_56000 (hc : c < 200) : z_new c 56000 (fun _ => x) (hj T Ln M, n, u) = (hj (tu T n c) (lu Ln n 56000) (mn M n (fun _ => x)), n + 1, u + 56000) := jnw (f := fun _ => x) (g := fun _ => x) hc (fun _ => rfl) 56000
theorem jn_0 : z_new 0 6 (fun k => defaultValue (zty 0 k)) (hj T Ln M, n, u) = (hj (tu T n 0) (lu Ln n 6) (mn M n (dv 0)), n + 1, u + 6) := jnw (by omega) (fun i => by show _ = defaultValue (zty 0 ((i : Int)).toNat); rw [Int.toNat_natCast]) 6
theorem dv_0_0 : dv 0 0 = zi 0 := rfl
theorem dv_0_1 : dv 0 1 = .null := rfl
theorem jp_0_1 (hT : T a = 0) : z_put [0] 1 (hj T Ln M, t) a (.ref b) = some (hj T Ln (mu M a 1 (.ref b)), t) := jpG hT (by omega) 1 rfl rfl
theorem jg_0_1 (hT : T a = 0) : z_get [0] 1 (hj T Ln M) a = some (M a 1) := jg hT (by omega) 1
theorem dv_0_2 : dv 0 2 = zi 0 := rfl
theorem jp_0_2 (hT : T a = 0) : z_put [0] 2 (hj T Ln M, t) a (zi v) = some (hj T Ln (mu M a 2 (zi v)), t) := jpG hT (by omega) 2 rfl rfl
theorem jg_0_2 (hT : T a = 0) : z_get [0] 2 (hj T Ln M) a = some (M a 2) := jg hT (by omega) 2
theorem dv_0_3 : dv 0 3 = zi 0 := rfl
theorem jp_0_3 (hT : T a = 0) : z_put [0] 3 (hj T Ln M, t) a (zi v) = some (hj T Ln (mu M a 3 (zi v)), t) := jpG hT (by omega) 3 rfl rfl
theorem jg_0_3 (hT : T a = 0) : z_get [0] 3 (hj T Ln M) a = some (M a 3) := jg hT (by omega) 3
theorem dv_0_4 : dv 0 4 = zi 0 := rfl
theorem jp_0_4 (hT : T a = 0) : z_put [0] 4 (hj T Ln M, t) a (zi v) = some (hj T Ln (mu M a 4 (zi v)), t) := jpG hT (by omega) 4 rfl rfl
theorem jg_0_4 (hT : T a = 0) : z_get [0] 4 (hj T Ln M) a = some (M a 4) := jg hT (by omega) 4
theorem dv_0_5 : dv 0 5 = zi 0 := rfl
theorem jp_0_5 (hT : T a = 0) : z_put [0] 5 (hj T Ln M, t) a (zi v) = some (hj T Ln (mu M a 5 (zi v)), t) := jpG hT (by omega) 5 rfl rfl
theorem jg_0_5 (hT : T a = 0) : z_get [0] 5 (hj T Ln M) a = some (M a 5) := jg hT (by omega) 5
theorem jn_1 : z_new 1 10 (fun k => defaultValue (zty 1 k)) (hj T Ln M, n, u) = (hj (tu T n 1) (lu Ln n 10) (mn M n (dv 1)), n + 1, u + 10) := jnw (by omega) (fun i => by show _ = defaultValue (zty 1 ((i : Int)).toNat); rw [Int.toNat_natCast]) 10
theorem dv_1_0 : dv 1 0 = .null := rfl
theorem jp_1_0 (hT : T a = 1) : z_put [1] 0 (hj T Ln M, t) a (.ref b) = some (hj T Ln (mu M a 0 (.ref b)), t) := jpG hT (by omega) 0 rfl rfl
theorem jg_1_0 (hT : T a = 1) : z_get [1] 0 (hj T Ln M) a = some (M a 0) := jg hT (by omega) 0
theorem dv_1_1 : dv 1 1 = .null := rfl
theorem jp_1_1 (hT : T a = 1) : z_put [1] 1 (hj T Ln M, t) a (.ref b) = some (hj T Ln (mu M a 1 (.ref b)), t) := jpG hT (by omega) 1 rfl rfl
theorem jg_1_1 (hT : T a = 1) : z_get [1] 1 (hj T Ln M) a = some (M a 1) := jg hT (by omega) 1
theorem dv_1_2 : dv 1 2 = .null := rfl
theorem jp_1_2 (hT : T a = 1) : z_put [1] 2 (hj T Ln M, t) a (.ref b) = some (hj T Ln (mu M a 2 (.ref b)), t) := jpG hT (by omega) 2 rfl rfl
theorem jg_1_2 (hT : T a = 1) : z_get [1] 2 (hj T Ln M) a = some (M a 2) := jg hT (by omega) 2
theorem dv_1_3 : dv 1 3 = .null := rfl
theorem jp_1_3 (hT : T a = 1) : z_put [1] 3 (hj T Ln M, t) a (.ref b) = some (hj T Ln (mu M a 3 (.ref b)), t) := jpG hT (by omega) 3 rfl rfl
theorem jg_1_3 (hT : T a = 1) : z_get [1] 3 (hj T Ln M) a = some (M a 3) := jg hT (by omega) 3
theorem dv_1_4 : dv 1 4 = .null := rfl
theorem jp_1_4 (hT : T a = 1) : z_put [1] 4 (hj T Ln M, t) a (.ref b) = some (hj T Ln (mu M a 4 (.ref b)), t) := jpG hT (by omega) 4 rfl rfl
theorem jg_1_4 (hT : T a = 1) : z_get [1] 4 (hj T Ln M) a = some (M a 4) := jg hT (by omega) 4
theorem dv_1_5 : dv 1 5 = .null := rfl
theorem jp_1_5 (hT : T a = 1) : z_put [1] 5 (hj T Ln M, t) a (.ref b) = some (hj T Ln (mu M a 5 (.ref b)), t) := jpG hT (by omega) 5 rfl rfl
theorem jg_1_5 (hT : T a = 1) : z_get [1] 5 (hj T Ln M) a = some (M a 5) := jg hT (by omega) 5
theorem dv_1_6 : dv 1 6 = zi 0 := rfl
theorem jp_1_6 (hT : T a = 1) : z_put [1] 6 (hj T Ln M, t) a (zi v) = some (hj T Ln (mu M a 6 (zi v)), t) := jpG hT (by omega) 6 rfl rfl
theorem jg_1_6 (hT : T a = 1) : z_get [1] 6 (hj T Ln M) a = some (M a 6) := jg hT (by omega) 6
theorem dv_1_7 : dv 1 7 = zi 0 := rfl
theorem jp_1_7 (hT : T a = 1) : z_put [1] 7 (hj T Ln M, t) a (zi v) = some (hj T Ln (mu M a 7 (zi v)), t) := jpG hT (by omega) 7 rfl rfl
theorem jg_1_7 (hT : T a = 1) : z_get [1] 7 (hj T Ln M) a = some (M a 7) := jg hT (by omega) 7
theorem dv_1_8 : dv 1 8 = zi 0 := rfl
theorem jp_1_8 (hT : T a = 1) : z_put [1] 8 (hj T Ln M, t) a (zi v) = some (hj T Ln (mu M a 8 (zi v)), t) := jpG hT (by omega) 8 rfl rfl
theorem jg_1_8 (hT : T a = 1) : z_get [1] 8 (hj T Ln M) a = some (M a 8) := jg hT (by omega) 8
theorem dv_1_9 : dv 1 9 = zi 0 := rfl
theorem jp_1_9 (hT : T a = 1) (hv : v = 0 ∨ v = 1) : z_put [1] 9 (hj T Ln M, t) a (zi v) = some (hj T Ln (mu M a 9 (zi v)), t) := jpG hT (by omega) 9 (by rcases hv with h | h <;> subst h <;> decide) (by rcases hv with h | h <;> subst h <;> decide)
theorem jg_1_9 (hT : T a = 1) : z_get [1] 9 (hj T Ln M) a = some (M a 9) := jg hT (by omega) 9
theorem jn_2 : z_new 2 3 (fun k => defaultValue (zty 2 k)) (hj T Ln M, n, u) = (hj (tu T n 2) (lu Ln n 3) (mn M n (dv 2)), n + 1, u + 3) := jnw (by omega) (fun i => by show _ = defaultValue (zty 2 ((i : Int)).toNat); rw [Int.toNat_natCast]) 3
theorem dv_2_0 : dv 2 0 = zi 0 := rfl
theorem dv_2_1 : dv 2 1 = zi 0 := rfl
theorem jp_2_1 (hT : T a = 2) : z_put [2] 1 (hj T Ln M, t) a (zi v) = some (hj T Ln (mu M a 1 (zi v)), t) := jpG hT (by omega) 1 rfl rfl
theorem jg_2_1 (hT : T a = 2) : z_get [2] 1 (hj T Ln M) a = some (M a 1) := jg hT (by omega) 1
theorem dv_2_2 : dv 2 2 = zl 0 := rfl
theorem jp_2_2 (hT : T a = 2) : z_put [2] 2 (hj T Ln M, t) a (zl v) = some (hj T Ln (mu M a 2 (zl v)), t) := jpG hT (by omega) 2 rfl rfl
theorem jg_2_2 (hT : T a = 2) : z_get [2] 2 (hj T Ln M) a = some (M a 2) := jg hT (by omega) 2
theorem jn_3 : z_new 3 10 (fun k => defaultValue (zty 3 k)) (hj T Ln M, n, u) = (hj (tu T n 3) (lu Ln n 10) (mn M n (dv 3)), n + 1, u + 10) := jnw (by omega) (fun i => by show _ = defaultValue (zty 3 ((i : Int)).toNat); rw [Int.toNat_natCast]) 10
theorem dv_3_0 : dv 3 0 = zi 0 := rfl
theorem dv_3_1 : dv 3 1 = .null := rfl
theorem jp_3_1 (hT : T a = 3) : z_put [3] 1 (hj T Ln M, t) a (.ref b) = some (hj T Ln (mu M a 1 (.ref b)), t) := jpG hT (by omega) 1 rfl rfl
theorem jg_3_1 (hT : T a = 3) : z_get [3] 1 (hj T Ln M) a = some (M a 1) := jg hT (by omega) 1
theorem dv_3_2 : dv 3 2 = .null := rfl
theorem jp_3_2 (hT : T a = 3) : z_put [3] 2 (hj T Ln M, t) a (.ref b) = some (hj T Ln (mu M a 2 (.ref b)), t) := jpG hT (by omega) 2 rfl rfl
theorem jg_3_2 (hT : T a = 3) : z_get [3] 2 (hj T Ln M) a = some (M a 2) := jg hT (by omega) 2
theorem dv_3_3 : dv 3 3 = zi 0 := rfl
theorem jp_3_3 (hT : T a = 3) (hv : v = 0 ∨ v = 1) : z_put [3] 3 (hj T Ln M, t) a (zi v) = some (hj T Ln (mu M a 3 (zi v)), t) := jpG hT (by omega) 3 (by rcases hv with h | h <;> subst h <;> decide) (by rcases hv with h | h <;> subst h <;> decide)
theorem jg_3_3 (hT : T a = 3) : z_get [3] 3 (hj T Ln M) a = some (M a 3) := jg hT (by omega) 3
theorem dv_3_4 : dv 3 4 = zi 0 := rfl
theorem jp_3_4 (hT : T a = 3) (hv : v = 0 ∨ v = 1) : z_put [3] 4 (hj T Ln M, t) a (zi v) = some (hj T Ln (mu M a 4 (zi v)), t) := jpG hT (by omega) 4 (by rcases hv with h | h <;> subst h <;> decide) (by rcases hv with h | h <;> subst h <;> decide)
theorem jg_3_4 (hT : T a = 3) : z_get [3] 4 (hj T Ln M) a = some (M a 4) := jg hT (by omega) 4
theorem dv_3_5 : dv 3 5 = zi 0 := rfl
theorem jp_3_5 (hT : T a = 3) (hv : v = 0 ∨ v = 1) : z_put [3] 5 (hj T Ln M, t) a (zi v) = some (hj T Ln (mu M a 5 (zi v)), t) := jpG hT (by omega) 5 (by rcases hv with h | h <;> subst h <;> decide) (by rcases hv with h | h <;> subst h <;> decide)
theorem jg_3_5 (hT : T a = 3) : z_get [3] 5 (hj T Ln M) a = some (M a 5) := jg hT (by omega) 5
theorem dv_3_6 : dv 3 6 = zi 0 := rfl
theorem jp_3_6 (hT : T a = 3) : z_put [3] 6 (hj T Ln M, t) a (zi v) = some (hj T Ln (mu M a 6 (zi v)), t) := jpG hT (by omega) 6 rfl rfl
theorem jg_3_6 (hT : T a = 3) : z_get [3] 6 (hj T Ln M) a = some (M a 6) := jg hT (by omega) 6
theorem dv_3_7 : dv 3 7 = zi 0 := rfl
theorem jp_3_7 (hT : T a = 3) : z_put [3] 7 (hj T Ln M, t) a (zi v) = some (hj T Ln (mu M a 7 (zi v)), t) := jpG hT (by omega) 7 rfl rfl
theorem jg_3_7 (hT : T a = 3) : z_get [3] 7 (hj T Ln M) a = some (M a 7) := jg hT (by omega) 7
theorem dv_3_8 : dv 3 8 = zi 0 := rfl
theorem jp_3_8 (hT : T a = 3) : z_put [3] 8 (hj T Ln M, t) a (zi v) = some (hj T Ln (mu M a 8 (zi v)), t) := jpG hT (by omega) 8 rfl rfl
theorem jg_3_8 (hT : T a = 3) : z_get [3] 8 (hj T Ln M) a = some (M a 8) := jg hT (by omega) 8
theorem dv_3_9 : dv 3 9 = .null := rfl
theorem jp_3_9 (hT : T a = 3) : z_put [3] 9 (hj T Ln M, t) a (.ref b) = some (hj T Ln (mu M a 9 (.ref b)), t) := jpG hT (by omega) 9 rfl rfl
theorem jg_3_9 (hT : T a = 3) : z_get [3] 9 (hj T Ln M) a = some (M a 9) := jg hT (by omega) 9
theorem jn_4 : z_new 4 4 (fun k => defaultValue (zty 4 k)) (hj T Ln M, n, u) = (hj (tu T n 4) (lu Ln n 4) (mn M n (dv 4)), n + 1, u + 4) := jnw (by omega) (fun i => by show _ = defaultValue (zty 4 ((i : Int)).toNat); rw [Int.toNat_natCast]) 4
theorem dv_4_0 : dv 4 0 = zi 0 := rfl
theorem dv_4_1 : dv 4 1 = .null := rfl
theorem jp_4_1 (hT : T a = 4) : z_put [4] 1 (hj T Ln M, t) a (.ref b) = some (hj T Ln (mu M a 1 (.ref b)), t) := jpG hT (by omega) 1 rfl rfl
theorem jg_4_1 (hT : T a = 4) : z_get [4] 1 (hj T Ln M) a = some (M a 1) := jg hT (by omega) 1
theorem dv_4_2 : dv 4 2 = .null := rfl
theorem jp_4_2 (hT : T a = 4) : z_put [4] 2 (hj T Ln M, t) a (.ref b) = some (hj T Ln (mu M a 2 (.ref b)), t) := jpG hT (by omega) 2 rfl rfl
theorem jg_4_2 (hT : T a = 4) : z_get [4] 2 (hj T Ln M) a = some (M a 2) := jg hT (by omega) 2
theorem dv_4_3 : dv 4 3 = zi 0 := rfl
theorem jp_4_3 (hT : T a = 4) : z_put [4] 3 (hj T Ln M, t) a (zi v) = some (hj T Ln (mu M a 3 (zi v)), t) := jpG hT (by omega) 3 rfl rfl
theorem jg_4_3 (hT : T a = 4) : z_get [4] 3 (hj T Ln M) a = some (M a 3) := jg hT (by omega) 3
theorem jn_5 : z_new 5 7 (fun k => defaultValue (zty 5 k)) (hj T Ln M, n, u) = (hj (tu T n 5) (lu Ln n 7) (mn M n (dv 5)), n + 1, u + 7) := jnw (by omega) (fun i => by show _ = defaultValue (zty 5 ((i : Int)).toNat); rw [Int.toNat_natCast]) 7
theorem dv_5_0 : dv 5 0 = zi 0 := rfl
theorem dv_5_1 : dv 5 1 = .null := rfl
theorem jp_5_1 (hT : T a = 5) : z_put [5] 1 (hj T Ln M, t) a (.ref b) = some (hj T Ln (mu M a 1 (.ref b)), t) := jpG hT (by omega) 1 rfl rfl
theorem jg_5_1 (hT : T a = 5) : z_get [5] 1 (hj T Ln M) a = some (M a 1) := jg hT (by omega) 1
theorem dv_5_2 : dv 5 2 = .null := rfl
theorem jp_5_2 (hT : T a = 5) : z_put [5] 2 (hj T Ln M, t) a (.ref b) = some (hj T Ln (mu M a 2 (.ref b)), t) := jpG hT (by omega) 2 rfl rfl
theorem jg_5_2 (hT : T a = 5) : z_get [5] 2 (hj T Ln M) a = some (M a 2) := jg hT (by omega) 2
theorem dv_5_3 : dv 5 3 = .null := rfl
theorem jp_5_3 (hT : T a = 5) : z_put [5] 3 (hj T Ln M, t) a (.ref b) = some (hj T Ln (mu M a 3 (.ref b)), t) := jpG hT (by omega) 3 rfl rfl
theorem jg_5_3 (hT : T a = 5) : z_get [5] 3 (hj T Ln M) a = some (M a 3) := jg hT (by omega) 3
theorem dv_5_4 : dv 5 4 = zi 0 := rfl
theorem jp_5_4 (hT : T a = 5) : z_put [5] 4 (hj T Ln M, t) a (zi v) = some (hj T Ln (mu M a 4 (zi v)), t) := jpG hT (by omega) 4 rfl rfl
theorem jg_5_4 (hT : T a = 5) : z_get [5] 4 (hj T Ln M) a = some (M a 4) := jg hT (by omega) 4
theorem dv_5_5 : dv 5 5 = zi 0 := rfl
theorem jp_5_5 (hT : T a = 5) : z_put [5] 5 (hj T Ln M, t) a (zi v) = some (hj T Ln (mu M a 5 (zi v)), t) := jpG hT (by omega) 5 rfl rfl
theorem jg_5_5 (hT : T a = 5) : z_get [5] 5 (hj T Ln M) a = some (M a 5) := jg hT (by omega) 5
theorem dv_5_6 : dv 5 6 = zi 0 := rfl
theorem jp_5_6 (hT : T a = 5) (hv : v = 0 ∨ v = 1) : z_put [5] 6 (hj T Ln M, t) a (zi v) = some (hj T Ln (mu M a 6 (zi v)), t) := jpG hT (by omega) 6 (by rcases hv with h | h <;> subst h <;> decide) (by rcases hv with h | h <;> subst h <;> decide)
theorem jg_5_6 (hT : T a = 5) : z_get [5] 6 (hj T Ln M) a = some (M a 6) := jg hT (by omega) 6
theorem jn_6 : z_new 6 11 (fun k => defaultValue (zty 6 k)) (hj T Ln M, n, u) = (hj (tu T n 6) (lu Ln n 11) (mn M n (dv 6)), n + 1, u + 11) := jnw (by omega) (fun i => by show _ = defaultValue (zty 6 ((i : Int)).toNat); rw [Int.toNat_natCast]) 11
theorem dv_6_0 : dv 6 0 = zi 0 := rfl
theorem dv_6_1 : dv 6 1 = .null := rfl
theorem jp_6_1 (hT : T a = 6) : z_put [6] 1 (hj T Ln M, t) a (.ref b) = some (hj T Ln (mu M a 1 (.ref b)), t) := jpG hT (by omega) 1 rfl rfl
theorem jg_6_1 (hT : T a = 6) : z_get [6] 1 (hj T Ln M) a = some (M a 1) := jg hT (by omega) 1
theorem dv_6_2 : dv 6 2 = .null := rfl
theorem jp_6_2 (hT : T a = 6) : z_put [6] 2 (hj T Ln M, t) a (.ref b) = some (hj T Ln (mu M a 2 (.ref b)), t) := jpG hT (by omega) 2 rfl rfl
theorem jg_6_2 (hT : T a = 6) : z_get [6] 2 (hj T Ln M) a = some (M a 2) := jg hT (by omega) 2
theorem dv_6_3 : dv 6 3 = .null := rfl
theorem jp_6_3 (hT : T a = 6) : z_put [6] 3 (hj T Ln M, t) a (.ref b) = some (hj T Ln (mu M a 3 (.ref b)), t) := jpG hT (by omega) 3 rfl rfl
theorem jg_6_3 (hT : T a = 6) : z_get [6] 3 (hj T Ln M) a = some (M a 3) := jg hT (by omega) 3
theorem dv_6_4 : dv 6 4 = zi 0 := rfl
theorem jp_6_4 (hT : T a = 6) : z_put [6] 4 (hj T Ln M, t) a (zi v) = some (hj T Ln (mu M a 4 (zi v)), t) := jpG hT (by omega) 4 rfl rfl
theorem jg_6_4 (hT : T a = 6) : z_get [6] 4 (hj T Ln M) a = some (M a 4) := jg hT (by omega) 4
theorem dv_6_5 : dv 6 5 = zi 0 := rfl
theorem jp_6_5 (hT : T a = 6) : z_put [6] 5 (hj T Ln M, t) a (zi v) = some (hj T Ln (mu M a 5 (zi v)), t) := jpG hT (by omega) 5 rfl rfl
theorem jg_6_5 (hT : T a = 6) : z_get [6] 5 (hj T Ln M) a = some (M a 5) := jg hT (by omega) 5
theorem dv_6_6 : dv 6 6 = zi 0 := rfl
theorem jp_6_6 (hT : T a = 6) : z_put [6] 6 (hj T Ln M, t) a (zi v) = some (hj T Ln (mu M a 6 (zi v)), t) := jpG hT (by omega) 6 rfl rfl
theorem jg_6_6 (hT : T a = 6) : z_get [6] 6 (hj T Ln M) a = some (M a 6) := jg hT (by omega) 6
theorem dv_6_7 : dv 6 7 = zi 0 := rfl
theorem jp_6_7 (hT : T a = 6) : z_put [6] 7 (hj T Ln M, t) a (zi v) = some (hj T Ln (mu M a 7 (zi v)), t) := jpG hT (by omega) 7 rfl rfl
theorem jg_6_7 (hT : T a = 6) : z_get [6] 7 (hj T Ln M) a = some (M a 7) := jg hT (by omega) 7
theorem dv_6_8 : dv 6 8 = zi 0 := rfl
theorem jp_6_8 (hT : T a = 6) : z_put [6] 8 (hj T Ln M, t) a (zi v) = some (hj T Ln (mu M a 8 (zi v)), t) := jpG hT (by omega) 8 rfl rfl
theorem jg_6_8 (hT : T a = 6) : z_get [6] 8 (hj T Ln M) a = some (M a 8) := jg hT (by omega) 8
theorem dv_6_9 : dv 6 9 = .null := rfl
theorem jp_6_9 (hT : T a = 6) : z_put [6] 9 (hj T Ln M, t) a (.ref b) = some (hj T Ln (mu M a 9 (.ref b)), t) := jpG hT (by omega) 9 rfl rfl
theorem jg_6_9 (hT : T a = 6) : z_get [6] 9 (hj T Ln M) a = some (M a 9) := jg hT (by omega) 9
theorem dv_6_10 : dv 6 10 = .null := rfl
theorem jp_6_10 (hT : T a = 6) : z_put [6] 10 (hj T Ln M, t) a (.ref b) = some (hj T Ln (mu M a 10 (.ref b)), t) := jpG hT (by omega) 10 rfl rfl
theorem jg_6_10 (hT : T a = 6) : z_get [6] 10 (hj T Ln M) a = some (M a 10) := jg hT (by omega) 10
theorem jn_7 : z_new 7 5 (fun k => defaultValue (zty 7 k)) (hj T Ln M, n, u) = (hj (tu T n 7) (lu Ln n 5) (mn M n (dv 7)), n + 1, u + 5) := jnw (by omega) (fun i => by show _ = defaultValue (zty 7 ((i : Int)).toNat); rw [Int.toNat_natCast]) 5
theorem dv_7_0 : dv 7 0 = zi 0 := rfl
theorem jp_7_0 (hT : T a = 7) : z_put [7] 0 (hj T Ln M, t) a (zi v) = some (hj T Ln (mu M a 0 (zi v)), t) := jpG hT (by omega) 0 rfl rfl
theorem jg_7_0 (hT : T a = 7) : z_get [7] 0 (hj T Ln M) a = some (M a 0) := jg hT (by omega) 0
theorem dv_7_1 : dv 7 1 = zi 0 := rfl
theorem jp_7_1 (hT : T a = 7) : z_put [7] 1 (hj T Ln M, t) a (zi v) = some (hj T Ln (mu M a 1 (zi v)), t) := jpG hT (by omega) 1 rfl rfl
theorem jg_7_1 (hT : T a = 7) : z_get [7] 1 (hj T Ln M) a = some (M a 1) := jg hT (by omega) 1
theorem dv_7_2 : dv 7 2 = zi 0 := rfl
theorem jp_7_2 (hT : T a = 7) : z_put [7] 2 (hj T Ln M, t) a (zi v) = some (hj T Ln (mu M a 2 (zi v)), t) := jpG hT (by omega) 2 rfl rfl
theorem jg_7_2 (hT : T a = 7) : z_get [7] 2 (hj T Ln M) a = some (M a 2) := jg hT (by omega) 2
theorem dv_7_3 : dv 7 3 = zi 0 := rfl
theorem jp_7_3 (hT : T a = 7) : z_put [7] 3 (hj T Ln M, t) a (zi v) = some (hj T Ln (mu M a 3 (zi v)), t) := jpG hT (by omega) 3 rfl rfl
theorem jg_7_3 (hT : T a = 7) : z_get [7] 3 (hj T Ln M) a = some (M a 3) := jg hT (by omega) 3
theorem dv_7_4 : dv 7 4 = zi 0 := rfl
theorem jp_7_4 (hT : T a = 7) : z_put [7] 4 (hj T Ln M, t) a (zi v) = some (hj T Ln (mu M a 4 (zi v)), t) := jpG hT (by omega) 4 rfl rfl
theorem jg_7_4 (hT : T a = 7) : z_get [7] 4 (hj T Ln M) a = some (M a 4) := jg hT (by omega) 4
theorem jn_8 : z_new 8 4 (fun k => defaultValue (zty 8 k)) (hj T Ln M, n, u) = (hj (tu T n 8) (lu Ln n 4) (mn M n (dv 8)), n + 1, u + 4) := jnw (by omega) (fun i => by show _ = defaultValue (zty 8 ((i : Int)).toNat); rw [Int.toNat_natCast]) 4
theorem dv_8_0 : dv 8 0 = .null := rfl
theorem jp_8_0 (hT : T a = 8) : z_put [8] 0 (hj T Ln M, t) a (.ref b) = some (hj T Ln (mu M a 0 (.ref b)), t) := jpG hT (by omega) 0 rfl rfl
theorem jg_8_0 (hT : T a = 8) : z_get [8] 0 (hj T Ln M) a = some (M a 0) := jg hT (by omega) 0
theorem dv_8_1 : dv 8 1 = zi 0 := rfl
theorem jp_8_1 (hT : T a = 8) : z_put [8] 1 (hj T Ln M, t) a (zi v) = some (hj T Ln (mu M a 1 (zi v)), t) := jpG hT (by omega) 1 rfl rfl
theorem jg_8_1 (hT : T a = 8) : z_get [8] 1 (hj T Ln M) a = some (M a 1) := jg hT (by omega) 1
theorem dv_8_2 : dv 8 2 = zi 0 := rfl
theorem jp_8_2 (hT : T a = 8) : z_put [8] 2 (hj T Ln M, t) a (zi v) = some (hj T Ln (mu M a 2 (zi v)), t) := jpG hT (by omega) 2 rfl rfl
theorem jg_8_2 (hT : T a = 8) : z_get [8] 2 (hj T Ln M) a = some (M a 2) := jg hT (by omega) 2
theorem dv_8_3 : dv 8 3 = .null := rfl
theorem jp_8_3 (hT : T a = 8) : z_put [8] 3 (hj T Ln M, t) a (.ref b) = some (hj T Ln (mu M a 3 (.ref b)), t) := jpG hT (by omega) 3 rfl rfl
theorem jg_8_3 (hT : T a = 8) : z_get [8] 3 (hj T Ln M) a = some (M a 3) := jg hT (by omega) 3
end
