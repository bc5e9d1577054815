/-! WHAT HOLDS BETWEEN THE CLASS AND THE MODEL -/
/-- a run's numbers, its place, whether it ended -/
abbrev RS : Type := (Int → Int) × Int × Int
def t_st (Y : zY) (p : Int) (s : RS) : RS := (r_nu s.1 (Y 14 (24 * p + s.2.1)) (Y 15 (24 * p + s.2.1)) (Y 16 (24 * p + s.2.1)) (Y 17 (24 * p + s.2.1)) (Y 18 (24 * p + s.2.1)) (Y 7 (Y 5 p)) (Y 8 (Y 5 p)), r_to s.1 (Y 14 (24 * p + s.2.1)) (Y 16 (24 * p + s.2.1)) (Y 18 (24 * p + s.2.1)) (Y 13 p) s.2.1, bI (Y 14 (24 * p + s.2.1) = 7))
def tr (Y : zY) (p : Int) : Nat → RS
  | 0 => (fun _ => 0, 0, 0)
  | n + 1 => t_st Y p (tr Y p n)
/-- the run in column c of program p -/
def RI (Y : zY) (c p : Int) : Prop := (∀ j, 0 ≤ j → j < 12 → Y 19 (12 * c + j) < p2 (Y 7 (Y 5 p))) ∧ (∀ j, 4 + Y 8 (Y 5 p) ≤ j → j < 12 → Y 19 (12 * c + j) = 0) ∧ Y 20 c < Y 13 p
/-- it stands where the program's words bring it -/
def RT (Y : zY) (c p : Int) : Prop := (∀ j, 0 ≤ j → j < 12 → Y 19 (12 * c + j) = (tr Y p (Y 21 c).toNat).1 j) ∧ Y 20 c = (tr Y p (Y 21 c).toNat).2.1 ∧ Y 22 c = (tr Y p (Y 21 c).toNat).2.2
def RN (T : Nat → Nat) (Ln : Nat → Int) (M : Nat → Int → Value) (A : Int → Nat) (Y : zY) (a : Nat) (c p : Int) : Prop := RnAt T Ln M a (A p) (Y 8 (Y 5 p)) (fun j => Y 19 (12 * c + j)) (Y 20 c) (Y 21 c) (Y 22 c)
def K1 (T : Nat → Nat) (M : Nat → Int → Value) (A : Int → Nat) (Ow : Nat → Int) (Y : zY) (k : Int) : Prop := MaAt T M (A k) (Y 7 k) (Y 8 k) ∧ Ow (A k) = k
def K2 (T : Nat → Nat) (Ln : Nat → Int) (M : Nat → Int → Value) (A : Int → Nat) (W : Int → Int → Nat) (Ow : Nat → Int) (Y : zY) (k : Int) : Prop := PrAt T Ln M (A k) (A (Y 5 k)) (W k) (Y 13 k) ∧ (Ow (A k) = k ∧ Ow (A k + 1) = k) ∧ ∀ j, 0 ≤ j → j < Y 13 k → WdAt T M (W k j) (Y 14 (24 * k + j)) (Y 15 (24 * k + j)) (Y 16 (24 * k + j)) (Y 17 (24 * k + j)) (Y 18 (24 * k + j)) ∧ Ow (W k j) = 102
def K3 (T : Nat → Nat) (Ln : Nat → Int) (M : Nat → Int → Value) (A : Int → Nat) (Ow : Nat → Int) (Y : zY) (k : Int) : Prop := RN T Ln M A Y (A k) k (Y 5 k) ∧ (Ow (A k) = k ∧ Ow (A k + 1) = k ∧ Ow (A k + 2) = k) ∧ RI Y k (Y 5 k)
def K4 (T : Nat → Nat) (M : Nat → Int → Value) (A : Int → Nat) (Ow : Nat → Int) (Y : zY) (k : Int) : Prop := (T (A k) = 0 ∧ Ow (A k) = k) ∧ M (A k) 0 = zi 4 ∧ M (A k) 1 = .ref (A (Y 5 k)) ∧ M (A k) 2 = zi (Y 9 k) ∧ M (A k) 3 = zi (Y 10 k) ∧ M (A k) 4 = zi (Y 11 k) ∧ M (A k) 5 = zi (Y 12 k)
def s_le (Y : zY) (k : Int) : Int := if Y 21 (61 + k) = 0 then 0 else Y 25 (16 * k + (Y 21 (61 + k) - 1) % 16)
def s_ba (Y : zY) (k : Int) : Int := if Y 21 (61 + k) = 0 then 0 else if Y 41 k = 0 then 0 else Y 12 (Y 5 k)
/-- the cycle in which word i entered -/
def s_en (Y : zY) (k i : Int) : Int := Y 25 (16 * k + i % 16)
/-- a sim between its cycles -/
def SI (Y : zY) (k : Int) : Prop := SV Y k ∧ (RI Y k (Y 6 k) ∧ RI Y (61 + k) (Y 6 k)) ∧ (RT Y k (Y 6 k) ∧ RT Y (61 + k) (Y 6 k)) ∧ (∀ i : Nat, (i : Int) < Y 21 (61 + k) → (tr Y (Y 6 k) i).2.2 = 0) ∧ (Y 22 (61 + k) = 0 → Y 23 k < Y 24 k ∧ Y 24 k = m_f2 Y k (m_f1 Y k (s_le Y k + 1 + s_ba Y k))) ∧ Y 21 k ≤ Y 21 (61 + k) ∧ (∀ i, Y 21 k ≤ i → i + 1 < Y 21 (61 + k) → s_en Y k i < s_en Y k (i + 1)) ∧ (Y 21 (61 + k) - Y 21 k ≤ 8) ∧ (Y 21 k < Y 21 (61 + k) → Y 23 k < s_en Y k (Y 21 k) + Y 9 (Y 5 k)) ∧ s_le Y k ≤ Y 23 k ∧ (1 ≤ Y 9 (Y 5 k)) ∧ (¬ Y 22 k = 0 → Y 23 k = s_en Y k (Y 21 k - 1) + Y 9 (Y 5 k)) ∧ (Y 21 (61 + k) = 0 → Y 24 k = 1)
def K5 (T : Nat → Nat) (Ln : Nat → Int) (M : Nat → Int → Value) (A : Int → Nat) (Ow : Nat → Int) (Y : zY) (k : Int) : Prop := (T (A k) = 6 ∧ T (A k + 1) = 100 ∧ T (A k + 2) = 100 ∧ Ln (A k + 1) = 4 ∧ Ln (A k + 2) = 16) ∧ (M (A k) 0 = zi 5 ∧ M (A k) 1 = .ref (A (Y 5 k)) ∧ M (A k) 2 = .ref (A k + 3) ∧ M (A k) 3 = .ref (A k + 6)) ∧ (M (A k) 4 = zi (Y 23 k) ∧ M (A k) 5 = zi (s_le Y k) ∧ M (A k) 6 = zi (s_ba Y k) ∧ M (A k) 7 = zi (Y 28 k) ∧ M (A k) 8 = zi (Y 29 k)) ∧ (M (A k) 9 = .ref (A k + 1) ∧ M (A k) 10 = .ref (A k + 2)) ∧ (∀ j, 0 ≤ j → j < 4 → M (A k + 1) j = zi (m_ra Y k j)) ∧ (∀ j, 0 ≤ j → j < 16 → ∃ v, M (A k + 2) j = zi v ∧ -2147483648 ≤ v ∧ v < 2147483648) ∧ (∀ i, Y 21 k ≤ i → i < Y 21 (61 + k) → M (A k + 2) (i % 16) = zi (s_en Y k i + Y 9 (Y 5 k))) ∧ RN T Ln M A Y (A k + 3) (61 + k) (Y 6 k) ∧ RN T Ln M A Y (A k + 6) k (Y 6 k) ∧ (∀ i : Nat, i < 9 → Ow (A k + i) = k) ∧ SI Y k
/-- the states of a pair, as rows of numbers -/
def sr (Y : zY) (f : Int → Int) : zY := fun g e => if g = 38 then f e else Y g e
abbrev eqv (f g : Int → Int) : Prop := ∀ e, 0 ≤ e → e < 28 → f e = g e
def Vd (Y : zY) (k : Int) (f : Int → Int) : Prop := VQ (sr Y f) k ∧ ∀ e, 0 ≤ e → e < 28 → 0 ≤ f e ∧ f e ≤ 4294967295
def mvv (Y : zY) (k w : Int) (f : Int → Int) : Int → Int := m_mv (sr Y f) k w 38
def Cl (Y : zY) (k : Int) (S : (Int → Int) → Prop) : Prop := (∀ f g, eqv f g → S f → S g) ∧ S (fun _ => 0) ∧ ∀ f w, 0 ≤ w → w ≤ 3 → S f → Vd Y k f → m_cm (sr Y f) k w → S (mvv Y k w f)
/-- n states, all that can be come to -/
def XS (Y : zY) (k n : Int) (S : Int → Int → Int) : Prop := (1 ≤ n ∧ n ≤ 2000) ∧ (∀ i j, 0 ≤ i → i < j → j < n → ¬ eqv (S i) (S j)) ∧ (∀ P, Cl Y k P → ∀ i, 0 ≤ i → i < n → P (S i)) ∧ Cl Y k (fun f => ∃ i, 0 ≤ i ∧ i < n ∧ eqv (S i) f)
/-- more than 2000 -/
def XT (Y : zY) (k : Int) : Prop := ∃ S : Int → Int → Int, (∀ i j, 0 ≤ i → i < j → j < 2001 → ¬ eqv (S i) (S j)) ∧ ∀ P, Cl Y k P → ∀ i, 0 ≤ i → i < 2001 → P (S i)
def EN (Y : zY) (k n : Int) (S : Int → Int → Int) (en : Int) (E : Int → Int) : Prop := (0 ≤ en ∧ en ≤ 2000) ∧ (∀ i, 0 ≤ i → i < en → (0 ≤ E i ∧ E i < n) ∧ m_ie (sr Y (S (E i))) k) ∧ (∀ i j, 0 ≤ i → i < j → j < en → m_bf (S (E i)) (S (E j)) 16 2 = 1) ∧ ∀ i, 0 ≤ i → i < n → m_ie (sr Y (S i)) k → ∃ j, 0 ≤ j ∧ j < en ∧ E j = i
def K6 (T : Nat → Nat) (Ln : Nat → Int) (M : Nat → Int → Value) (A : Int → Nat) (Ow : Nat → Int) (Y : zY) (k : Int) (x : Int) : Prop := (T (A k) = 3 ∧ Ow (A k) = k) ∧ (M (A k) 0 = zi 6 ∧ M (A k) 1 = .ref (A (Y 5 k)) ∧ M (A k) 2 = .ref (A (Y 6 k)) ∧ M (A k) 3 = zi (Y 12 k)) ∧ M (A k) 4 = zi x ∧ ((x = 0 ∧ (∃ b, M (A k) 9 = .ref b)) ∨ (x = 1 ∧ M (A k) 5 = zi 1 ∧ XT Y k) ∨ (x = 1 ∧ M (A k) 5 = zi 0 ∧ ∃ n S en E b, XS Y k n S ∧ EN Y k n S en E ∧ M (A k) 6 = zi n ∧ M (A k) 7 = zi en ∧ M (A k) 8 = zi 0 ∧ M (A k) 9 = .ref b ∧ (T b = 101 ∧ Ow b = 103 ∧ Ln b = en * (8 + Y 8 (Y 5 (Y 5 k)))) ∧ ∀ i w, 0 ≤ i → i < en → 0 ≤ w → w < 8 + Y 8 (Y 5 (Y 5 k)) → M b (i * (8 + Y 8 (Y 5 (Y 5 k))) + w) = zl (S (E i) (2 + w))))
/-- k's own reference to j, a thing of kind c -/
def rf (Y : zY) (k j c : Int) : Prop := (1 ≤ j ∧ j < k) ∧ Y 3 j = c ∧ (¬ Y 4 k = 0 → ¬ Y 4 j = 0)
def IV (Y : zY) : Prop := ∀ k, 1 ≤ k → k ≤ Y 2 0 → (1 ≤ Y 3 k ∧ Y 3 k ≤ 6) ∧ (Y 3 k = 1 → 1 ≤ Y 7 k ∧ 1 ≤ Y 8 k) ∧ (Y 3 k = 2 → rf Y k (Y 5 k) 1) ∧ (Y 3 k = 3 → rf Y k (Y 5 k) 2 ∧ 0 < Y 13 (Y 5 k)) ∧ (Y 3 k = 4 → rf Y k (Y 5 k) 1 ∧ 1 ≤ Y 9 k) ∧ (Y 3 k = 5 → rf Y k (Y 5 k) 4 ∧ rf Y k (Y 6 k) 2 ∧ 0 < Y 13 (Y 6 k) ∧ Y 5 (Y 5 k) = Y 5 (Y 6 k)) ∧ (Y 3 k = 6 → rf Y k (Y 5 k) 2 ∧ rf Y k (Y 6 k) 2 ∧ (0 < Y 13 (Y 5 k) ∧ 0 < Y 13 (Y 6 k)) ∧ Y 5 (Y 5 k) = Y 5 (Y 6 k) ∧ (Y 12 k = 0 ∨ Y 12 k = 1))
def TH (T : Nat → Nat) (Ln : Nat → Int) (M : Nat → Int → Value) (A : Int → Nat) (W : Int → Int → Nat) (Ow : Nat → Int) (X : Int → Int) (Y : zY) (k : Int) : Prop := (Y 3 k = 1 → K1 T M A Ow Y k) ∧ (Y 3 k = 2 → K2 T Ln M A W Ow Y k) ∧ (Y 3 k = 3 → K3 T Ln M A Ow Y k) ∧ (Y 3 k = 4 → K4 T M A Ow Y k) ∧ (Y 3 k = 5 → K5 T Ln M A Ow Y k) ∧ (Y 3 k = 6 → K6 T Ln M A Ow Y k (X k))
def tgo (Y : zY) (A : Int → Nat) (j : Int) : Option Nat := if m_th Y j then some (A j) else none
/-- the explorer's rows -/
def EX (T : Nat → Nat) (Ln : Nat → Int) (M : Nat → Int → Value) (Ow : Nat → Int) (a : Nat) : Prop := (T a = 1 ∧ T (a + 1) = 101 ∧ T (a + 2) = 100 ∧ T (a + 3) = 100 ∧ T (a + 4) = 101) ∧ (Ln (a + 1) = 56000 ∧ Ln (a + 2) = 4096 ∧ Ln (a + 3) = 2000 ∧ Ln (a + 4) = 28) ∧ (M a 0 = .ref (a + 1) ∧ M a 1 = .ref (a + 2) ∧ M a 2 = .ref (a + 3) ∧ M a 3 = .ref (a + 4)) ∧ (∀ j, 0 ≤ j → j < 56000 → ∃ v, M (a + 1) j = zl v) ∧ (∀ j, 0 ≤ j → j < 2000 → ∃ v, M (a + 3) j = zi v ∧ 0 ≤ v ∧ v < 2000) ∧ ∀ i : Nat, i < 5 → Ow (a + i) = 100
def HX (T : Nat → Nat) (Ln : Nat → Int) (M : Nat → Int → Value) (Ow : Nat → Int) (x : Nat) : Prop := M x 3 = .null ∨ ∃ a, M x 3 = .ref a ∧ EX T Ln M Ow a
/-- the model's explorer rows, if they speak of a living pair -/
def MX (Y : zY) : Prop := m_th Y (Y 32 0) → Y 3 (Y 32 0) = 6 → (2000 < Y 33 0 ∧ XT Y (Y 32 0)) ∨ (XS Y (Y 32 0) (Y 33 0) (fun i e => Y 36 (28 * i + e)) ∧ EN Y (Y 32 0) (Y 33 0) (fun i e => Y 36 (28 * i + e)) (Y 34 0) (fun i => Y 37 i) ∧ Y 35 0 = 0)
/-- no number of a call is larger than the calls allow -/
def TB (Y : zY) (c : Int) : Prop := ∀ e, Y 21 e ≤ 2000 * c ∧ Y 23 e ≤ 2000 * c
def RLX (T : Nat → Nat) (Ln : Nat → Int) (M : Nat → Int → Value) (n : Nat) (x : Nat) (A : Int → Nat) (W : Int → Int → Nat) (Ow : Nat → Int) (X : Int → Int) (Y : zY) (c : Int) : Prop := RG Y ∧ IV Y ∧ TB Y c ∧ HsAt T Ln M x (Y 2 0) (tgo Y A) ∧ M x 2 = zi (Y 1 0) ∧ HX T Ln M Ow x ∧ (∀ k, m_th Y k → TH T Ln M A W Ow X Y k) ∧ MX Y ∧ (Ow x = 0 ∧ Ow (x + 1) = 0 ∧ (∀ k, Y 2 0 < k → X k = 0) ∧ Y 32 0 ≤ Y 2 0) ∧ ∀ a, n ≤ a → Ow a = -5
