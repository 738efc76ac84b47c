/-! the pure part: numbers -/
def iI (a : Int) : Int32 := Int32.ofInt a
def Rg (a : Int) : Prop := -2147483648 ≤ a ∧ a ≤ 2147483647
theorem iI_toInt {a : Int} (h1 : -2147483648 ≤ a) (h2 : a ≤ 2147483647) : (iI a).toInt = a := by
  unfold iI
  rw [Int32.toInt_ofInt]
  have h : (Int32.size : Int) = 4294967296 := rfl
  exact Int.bmod_eq_of_le (by omega) (by omega)
theorem toInt_iI (x : Int32) : iI x.toInt = x := Int32.ofInt_toInt x
theorem toInt_rg (x : Int32) : -2147483648 ≤ x.toInt ∧ x.toInt ≤ 2147483647 := by
  have h1 := Int32.le_toInt x
  have h2 := Int32.toInt_lt x
  omega
theorem iI_add (a b : Int) : iI a + iI b = iI (a + b) := (Int32.ofInt_add a b).symm
theorem iI_sub (a b : Int) : iI a - iI b = iI (a - b) := (Int32.ofInt_sub a b).symm
theorem iI_mul (a b : Int) : iI a * iI b = iI (a * b) := (Int32.ofInt_mul a b).symm
theorem iI_neg (a : Int) : - iI a = iI (- a) := (Int32.ofInt_neg a).symm
theorem iI_le {a b : Int} (h1 : -2147483648 ≤ a) (h2 : a ≤ 2147483647) (h3 : -2147483648 ≤ b) (h4 : b ≤ 2147483647) : (iI a ≤ iI b) = (a ≤ b) := by
  apply propext
  rw [Int32.le_iff_toInt_le, iI_toInt h1 h2, iI_toInt h3 h4]
theorem iI_lt {a b : Int} (h1 : -2147483648 ≤ a) (h2 : a ≤ 2147483647) (h3 : -2147483648 ≤ b) (h4 : b ≤ 2147483647) : (iI a < iI b) = (a < b) := by
  apply propext
  rw [Int32.lt_iff_toInt_lt, iI_toInt h1 h2, iI_toInt h3 h4]
theorem iI_eq {a b : Int} (h1 : -2147483648 ≤ a) (h2 : a ≤ 2147483647) (h3 : -2147483648 ≤ b) (h4 : b ≤ 2147483647) : (iI a = iI b) = (a = b) := by
  apply propext
  rw [← Int32.toInt_inj, iI_toInt h1 h2, iI_toInt h3 h4]
theorem iI_clamp {a : Int} (h2 : a ≤ 2147483647) (h1 : -2147483648 ≤ a) : (iI a).toNatClampNeg = a.toNat := by
  show (iI a).toInt.toNat = _
  rw [iI_toInt h1 h2]
theorem lit_nI (n : Nat) : nI n = iI n := by
  unfold nI iI
  exact (Int32.ofInt_eq_ofNat (n := n)).symm
theorem pl0 : (0 : Int32) = iI 0 := rfl
theorem pl1 : (1 : Int32) = iI 1 := rfl
theorem pl2 : (2 : Int32) = iI 2 := rfl
theorem pl3 : (3 : Int32) = iI 3 := rfl
theorem pl4 : (4 : Int32) = iI 4 := rfl
theorem pl5 : (5 : Int32) = iI 5 := rfl
theorem pl6 : (6 : Int32) = iI 6 := rfl
theorem pl7 : (7 : Int32) = iI 7 := rfl
theorem pl8 : (8 : Int32) = iI 8 := rfl
theorem pl9 : (9 : Int32) = iI 9 := rfl
theorem pl10 : (10 : Int32) = iI 10 := rfl
theorem pl11 : (11 : Int32) = iI 11 := rfl
theorem pl12 : (12 : Int32) = iI 12 := rfl
theorem pl16 : (16 : Int32) = iI 16 := rfl
theorem pl19 : (19 : Int32) = iI 19 := rfl
theorem iI_max {a b : Int} (h1 : -2147483648 ≤ a) (h2 : a ≤ 2147483647) (h3 : -2147483648 ≤ b) (h4 : b ≤ 2147483647) : max32 (iI a) (iI b) = iI (max a b) := by
  unfold max32
  simp only [iI_lt h1 h2 h3 h4]
  by_cases h : a < b
  · rw [if_pos h]; congr 1; omega
  · rw [if_neg h]; congr 1; omega
theorem iI_min {a b : Int} (h1 : -2147483648 ≤ a) (h2 : a ≤ 2147483647) (h3 : -2147483648 ≤ b) (h4 : b ≤ 2147483647) : min32 (iI a) (iI b) = iI (min a b) := by
  unfold min32
  first
    | simp only [iI_lt h1 h2 h3 h4]; by_cases h : a < b; (rw [if_pos h]; congr 1; omega); (rw [if_neg h]; congr 1; omega)
    | simp only [iI_lt h3 h4 h1 h2]; by_cases h : b < a; (rw [if_pos h]; congr 1; omega); (rw [if_neg h]; congr 1; omega)
theorem iI_inb {a : Int} {z : Nat} (hz : z ≤ 4096) (h1 : -2147483648 ≤ a) (h2 : a ≤ 2147483647) : inb (iI a) z = (0 ≤ a ∧ a < z) := by
  unfold inb
  rw [pl0, lit_nI, iI_le (by omega) (by omega) h1 h2, iI_lt h1 h2 (by omega) (by omega)]
theorem iI_cell {a : Int} {z : Nat} {f : Nat → Int32} (hz : z ≤ 4096) (h1 : 0 ≤ a) (h2 : a < z) : cell32 z f (iI a) = f a.toNat := by
  unfold cell32
  rw [pl0, lit_nI]
  simp only [iI_lt (show -2147483648 ≤ a by omega) (show a ≤ 2147483647 by omega) (show (-2147483648 : Int) ≤ 0 by omega) (by omega), iI_le (show (-2147483648 : Int) ≤ z by omega) (by omega) (show -2147483648 ≤ a by omega) (by omega)]
  rw [if_neg (by omega), if_neg (by omega), iI_clamp (by omega) (by omega)]
theorem iI_cell0 {a : Int} {z : Nat} {f : Nat → Int32} (hz : z ≤ 4096) (h1 : -2147483648 ≤ a) (h2 : a ≤ 2147483647) (h : a < 0 ∨ (z : Int) ≤ a) : cell32 z f (iI a) = iI 0 := by
  unfold cell32
  rw [pl0, lit_nI]
  simp only [iI_lt h1 h2 (show (-2147483648 : Int) ≤ 0 by omega) (by omega), iI_le (show (-2147483648 : Int) ≤ z by omega) (by omega) h1 h2]
  by_cases h3 : a < 0
  · rw [if_pos h3]
  · rw [if_neg h3, if_pos (by omega)]
theorem iI_div {a b : Int} (h1 : 0 ≤ a) (h2 : a ≤ 2147483647) (h3 : 0 < b) (h4 : b ≤ 2147483647) : iI a / iI b = iI (a / b) := by
  apply Int32.toInt_inj.mp
  have hd : 0 ≤ a / b ∧ a / b ≤ a := ⟨Int.ediv_nonneg h1 (by omega), Int.ediv_le_self b h1⟩
  rw [lg_idiv_nonneg (by rw [iI_toInt (by omega) h2]; exact h1) (by rw [iI_toInt (by omega) h4]; exact h3), iI_toInt (by omega) h2, iI_toInt (by omega) h4, iI_toInt (by omega) (by omega)]
/-! loops -/
theorem lq1_for {A1 ρ : Type} {F : (A1 → Option ρ) → A1 → Option ρ} (X1 : Nat → A1) (N : Nat) (R : Option ρ) (hs : ∀ k j, j < N → F k (X1 j) = k (X1 (j + 1))) (he : ∀ k, F k (X1 N) = R) {n : Nat} (hn : N < n) : lq1 F n (X1 0) = R := by
  have key : ∀ m j, j + m = N → ∀ n, m < n → lq1 F n (X1 j) = R := by
    intro m
    induction m with
    | zero => intro j hj n hn; obtain ⟨n, rfl⟩ : ∃ k, n = k + 1 := ⟨n - 1, by omega⟩; obtain rfl : j = N := by omega
              exact he _
    | succ m ih => intro j hj n hn; obtain ⟨n, rfl⟩ : ∃ k, n = k + 1 := ⟨n - 1, by omega⟩
                   exact (hs _ j (by omega)).trans (ih (j + 1) (by omega) n (by omega))
  exact key N 0 (by omega) n hn
theorem lq2_for {A1 A2 ρ : Type} {F : (A1 → A2 → Option ρ) → A1 → A2 → Option ρ} (X1 : Nat → A1) (X2 : Nat → A2) (N : Nat) (R : Option ρ) (hs : ∀ k j, j < N → F k (X1 j) (X2 j) = k (X1 (j + 1)) (X2 (j + 1))) (he : ∀ k, F k (X1 N) (X2 N) = R) {n : Nat} (hn : N < n) : lq2 F n (X1 0) (X2 0) = R := by
  have key : ∀ m j, j + m = N → ∀ n, m < n → lq2 F n (X1 j) (X2 j) = R := by
    intro m
    induction m with
    | zero => intro j hj n hn; obtain ⟨n, rfl⟩ : ∃ k, n = k + 1 := ⟨n - 1, by omega⟩; obtain rfl : j = N := by omega
              exact he _
    | succ m ih => intro j hj n hn; obtain ⟨n, rfl⟩ : ∃ k, n = k + 1 := ⟨n - 1, by omega⟩
                   exact (hs _ j (by omega)).trans (ih (j + 1) (by omega) n (by omega))
  exact key N 0 (by omega) n hn
theorem lq3_for {A1 A2 A3 ρ : Type} {F : (A1 → A2 → A3 → Option ρ) → A1 → A2 → A3 → Option ρ} (X1 : Nat → A1) (X2 : Nat → A2) (X3 : Nat → A3) (N : Nat) (R : Option ρ) (hs : ∀ k j, j < N → F k (X1 j) (X2 j) (X3 j) = k (X1 (j + 1)) (X2 (j + 1)) (X3 (j + 1))) (he : ∀ k, F k (X1 N) (X2 N) (X3 N) = R) {n : Nat} (hn : N < n) : lq3 F n (X1 0) (X2 0) (X3 0) = R := by
  have key : ∀ m j, j + m = N → ∀ n, m < n → lq3 F n (X1 j) (X2 j) (X3 j) = R := by
    intro m
    induction m with
    | zero => intro j hj n hn; obtain ⟨n, rfl⟩ : ∃ k, n = k + 1 := ⟨n - 1, by omega⟩; obtain rfl : j = N := by omega
              exact he _
    | succ m ih => intro j hj n hn; obtain ⟨n, rfl⟩ : ∃ k, n = k + 1 := ⟨n - 1, by omega⟩
                   exact (hs _ j (by omega)).trans (ih (j + 1) (by omega) n (by omega))
  exact key N 0 (by omega) n hn
theorem lq4_for {A1 A2 A3 A4 ρ : Type} {F : (A1 → A2 → A3 → A4 → Option ρ) → A1 → A2 → A3 → A4 → Option ρ} (X1 : Nat → A1) (X2 : Nat → A2) (X3 : Nat → A3) (X4 : Nat → A4) (N : Nat) (R : Option ρ) (hs : ∀ k j, j < N → F k (X1 j) (X2 j) (X3 j) (X4 j) = k (X1 (j + 1)) (X2 (j + 1)) (X3 (j + 1)) (X4 (j + 1))) (he : ∀ k, F k (X1 N) (X2 N) (X3 N) (X4 N) = R) {n : Nat} (hn : N < n) : lq4 F n (X1 0) (X2 0) (X3 0) (X4 0) = R := by
  have key : ∀ m j, j + m = N → ∀ n, m < n → lq4 F n (X1 j) (X2 j) (X3 j) (X4 j) = R := by
    intro m
    induction m with
    | zero => intro j hj n hn; obtain ⟨n, rfl⟩ : ∃ k, n = k + 1 := ⟨n - 1, by omega⟩; obtain rfl : j = N := by omega
              exact he _
    | succ m ih => intro j hj n hn; obtain ⟨n, rfl⟩ : ∃ k, n = k + 1 := ⟨n - 1, by omega⟩
                   exact (hs _ j (by omega)).trans (ih (j + 1) (by omega) n (by omega))
  exact key N 0 (by omega) n hn
/-! sums -/
def sm (f : Nat → Int) : Nat → Int
  | 0 => 0
  | n + 1 => sm f n + f n
theorem sm_0 (f : Nat → Int) : sm f 0 = 0 := rfl
theorem sm_1 (f : Nat → Int) (n : Nat) : sm f (n + 1) = sm f n + f n := rfl
theorem sm_ext {f g : Nat → Int} {n : Nat} (h : ∀ i, i < n → f i = g i) : sm f n = sm g n := by
  induction n with
  | zero => rfl
  | succ n ih => rw [sm_1, sm_1, ih (fun i hi => h i (by omega)), h n (by omega)]
theorem sm_ge {f : Nat → Int} {n : Nat} {a : Int} (h : ∀ i, i < n → a ≤ f i) : a * n ≤ sm f n := by
  induction n with
  | zero => simp [sm_0]
  | succ n ih =>
    have h1 := ih (fun i hi => h i (by omega))
    have h2 := h n (by omega)
    have h3 : a * ((n : Int) + 1) = a * n + a := by rw [Int.mul_add, Int.mul_one]
    rw [sm_1]
    push_cast
    rw [h3]
    omega
theorem sm_le {f : Nat → Int} {n : Nat} {a : Int} (h : ∀ i, i < n → f i ≤ a) : sm f n ≤ a * n := by
  induction n with
  | zero => simp [sm_0]
  | succ n ih =>
    have h1 := ih (fun i hi => h i (by omega))
    have h2 := h n (by omega)
    have h3 : a * ((n : Int) + 1) = a * n + a := by rw [Int.mul_add, Int.mul_one]
    rw [sm_1]
    push_cast
    rw [h3]
    omega
theorem sm_zero {f : Nat → Int} {n : Nat} (h : ∀ i, i < n → f i = 0) : sm f n = 0 := by
  induction n with
  | zero => rfl
  | succ n ih => rw [sm_1, ih (fun i hi => h i (by omega)), h n (by omega)]; rfl
theorem sm_add (f g : Nat → Int) (n : Nat) : sm (fun i => f i + g i) n = sm f n + sm g n := by
  induction n with
  | zero => rfl
  | succ n ih => rw [sm_1, sm_1, sm_1, ih]; omega
theorem sm_swap (f : Nat → Nat → Int) (n m : Nat) : sm (fun i => sm (f i) m) n = sm (fun j => sm (fun i => f i j) n) m := by
  induction n with
  | zero => exact (sm_zero (fun _ _ => rfl)).symm
  | succ n ih => rw [sm_1, ih, ← sm_add]; rfl
theorem sm_mono {f : Nat → Int} {n : Nat} (h : ∀ i, i < n → 0 ≤ f i) : ∀ a b, a ≤ b → b ≤ n → sm f a ≤ sm f b := by
  intro a b hab hb
  obtain ⟨d, rfl⟩ : ∃ d, b = a + d := ⟨b - a, by omega⟩
  induction d with
  | zero => exact Int.le_refl _
  | succ d ih =>
    have h1 := ih (by omega) (by omega)
    have h2 := h (a + d) (by omega)
    rw [show a + (d + 1) = a + d + 1 from rfl, sm_1]
    omega
