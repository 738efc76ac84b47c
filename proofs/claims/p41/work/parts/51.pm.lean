/-! the print as one row of numbers (the reference's), and what holds of it -/
def sz (s : Nat → Int32) (i : Nat) : Int := (s (5 + i)).toInt
def ky (s : Nat → Int32) (t : Nat) : Int := (s (11 + 2 * t)).toInt
def lk (s : Nat → Int32) (t : Nat) : Int := (s (12 + 2 * t)).toInt
def tn (s : Nat → Int32) (j : Nat) : Int := (s (19 + 3 * j)).toInt
def ht (s : Nat → Int32) (j : Nat) : Int := (s (20 + 3 * j)).toInt
def ln (s : Nat → Int32) (j : Nat) : Int := (s (21 + 3 * j)).toInt
def nb (s : Nat → Int32) : Nat := (s 0).toInt.toNat
def ns (s : Nat → Int32) : Nat := (s 1).toInt.toNat
def lm (s : Nat → Int32) : Int := (s 2).toInt
def bB (s : Nat → Int32) (b : Nat) : Int := sm (sz s) b
def bS (s : Nat → Int32) (j : Nat) : Int := sm (ln s) j
theorem bB_1 (s : Nat → Int32) (b : Nat) : bB s (b + 1) = bB s b + sz s b := rfl
theorem bS_1 (s : Nat → Int32) (j : Nat) : bS s (j + 1) = bS s j + ln s j := rfl
def Inv (s : Nat → Int32) : Prop := s 0 = iI (nb s) ∧ nb s ≤ 6 ∧ s 1 = iI (ns s) ∧ ns s ≤ 16 ∧ (1 ≤ lm s ∧ lm s ≤ 11) ∧ (∀ i, i < nb s → 2 ≤ sz s i ∧ sz s i ≤ 8) ∧ (∀ t, t < 4 → 0 ≤ ky s t ∧ ky s t ≤ 11 ∧ 0 ≤ lk s t ∧ lk s t ≤ 3) ∧ (∀ j, j < ns s → 0 ≤ tn s j ∧ tn s j ≤ 3 ∧ -1 ≤ ht s j ∧ ht s j ≤ 9 ∧ 1 ≤ ln s j ∧ ln s j ≤ 8) ∧ bS s (ns s) ≤ bB s (nb s)
section INV
variable {s : Nat → Int32}
theorem Inv.b0 (h : Inv s) : s 0 = iI (nb s) := h.1
theorem Inv.s1 (h : Inv s) : s 1 = iI (ns s) := h.2.2.1
theorem Inv.nb6 (h : Inv s) : nb s ≤ 6 := h.2.1
theorem Inv.ns16 (h : Inv s) : ns s ≤ 16 := h.2.2.2.1
theorem Inv.sz (h : Inv s) {i : Nat} (hi : i < nb s) : 2 ≤ sz s i ∧ sz s i ≤ 8 := h.2.2.2.2.2.1 i hi
theorem Inv.ky (h : Inv s) {t : Nat} (ht : t < 4) : 0 ≤ ky s t ∧ ky s t ≤ 11 ∧ 0 ≤ lk s t ∧ lk s t ≤ 3 := h.2.2.2.2.2.2.1 t ht
theorem Inv.sd (h : Inv s) {j : Nat} (hj : j < ns s) : 0 ≤ tn s j ∧ tn s j ≤ 3 ∧ -1 ≤ ht s j ∧ ht s j ≤ 9 ∧ 1 ≤ ln s j ∧ ln s j ≤ 8 := h.2.2.2.2.2.2.2.1 j hj
theorem Inv.full (h : Inv s) : bS s (ns s) ≤ bB s (nb s) := h.2.2.2.2.2.2.2.2
theorem Inv.bBr (h : Inv s) {b : Nat} (hb : b ≤ nb s) : 2 * (b : Int) ≤ bB s b ∧ bB s b ≤ 8 * (b : Int) := ⟨sm_ge (fun i hi => (h.sz (by omega)).1), sm_le (fun i hi => (h.sz (by omega)).2)⟩
theorem Inv.bSr (h : Inv s) {j : Nat} (hj : j ≤ ns s) : (j : Int) ≤ bS s j ∧ bS s j ≤ 8 * (j : Int) := ⟨by have := sm_ge (f := ln s) (n := j) (a := 1) (fun i hi => (h.sd (by omega)).2.2.2.2.1); unfold bS; omega, sm_le (fun i hi => (h.sd (by omega)).2.2.2.2.2)⟩
theorem Inv.bBm (h : Inv s) {a b : Nat} (hab : a ≤ b) (hb : b ≤ nb s) : bB s a ≤ bB s b := sm_mono (n := nb s) (fun i hi => by have := h.sz hi; omega) a b hab hb
theorem Inv.bSm (h : Inv s) {a b : Nat} (hab : a ≤ b) (hb : b ≤ ns s) : bS s a ≤ bS s b := sm_mono (n := ns s) (fun i hi => by have := h.sd hi; omega) a b hab hb
end INV
/-- the pitch of a drop -/
def pt (s : Nat → Int32) (j : Nat) : Int := (ky s (tn s j).toNat + ht s j) % 12
/-- what a sound has in a bar -/
def ov (s : Nat → Int32) (j b : Nat) : Int := max 0 (min (bS s (j + 1)) (bB s (b + 1)) - max (bS s j) (bB s b))
section PM
variable {K : GT} {s : Nat → Int32}
end PM
/-- the last of the first n for which p holds, or -1 -/
def lst (p : Nat → Prop) [DecidablePred p] : Nat → Int
  | 0 => -1
  | n + 1 => if p n then n else lst p n
theorem lst_r (p : Nat → Prop) [DecidablePred p] (n : Nat) : (lst p n = -1 ∧ ∀ i, i < n → ¬ p i) ∨ ∃ i, i < n ∧ p i ∧ lst p n = i ∧ ∀ k, i < k → k < n → ¬ p k := by
  induction n with
  | zero => exact Or.inl ⟨rfl, fun i h => absurd h (Nat.not_lt_zero _)⟩
  | succ n ih =>
    by_cases h : p n
    · exact Or.inr ⟨n, by omega, h, by simp [lst, h], fun k h1 h2 => by omega⟩
    · rcases ih with ⟨h1, h2⟩ | ⟨i, h1, h2, h3, h4⟩
      · exact Or.inl ⟨by simp [lst, h, h1], fun i hi => by
          by_cases e : i = n
          · subst e; exact h
          · exact h2 i (by omega)⟩
      · exact Or.inr ⟨i, by omega, h2, by simp [lst, h, h3], fun k h5 h6 => by
          by_cases e : k = n
          · subst e; exact h
          · exact h4 k h5 (by omega)⟩
theorem lst_rg (p : Nat → Prop) [DecidablePred p] (n : Nat) : -1 ≤ lst p n ∧ lst p n < n := by
  rcases lst_r p n with ⟨h1, -⟩ | ⟨i, h1, -, h2, -⟩ <;> omega
/-- the first of the first n for which p holds, or n -/
def ff (p : Nat → Prop) [DecidablePred p] : Nat → Nat
  | 0 => 0
  | n + 1 => if ff p n < n then ff p n else if p n then n else n + 1
theorem ff_r (p : Nat → Prop) [DecidablePred p] (n : Nat) : ff p n ≤ n ∧ (∀ i, i < ff p n → ¬ p i) ∧ (ff p n < n → p (ff p n)) := by
  induction n with
  | zero => exact ⟨Nat.le_refl _, fun i h => absurd h (Nat.not_lt_zero _), fun h => absurd h (Nat.lt_irrefl _)⟩
  | succ n ih =>
    obtain ⟨h1, h2, h3⟩ := ih
    by_cases h : ff p n < n
    · have e : ff p (n + 1) = ff p n := by simp [ff, h]
      rw [e]
      exact ⟨by omega, h2, fun _ => h3 h⟩
    · have e0 : ff p n = n := by omega
      by_cases hp : p n
      · have e : ff p (n + 1) = n := by simp [ff, h, hp]
        rw [e]
        exact ⟨by omega, fun i hi => h2 i (by omega), fun _ => hp⟩
      · have e : ff p (n + 1) = n + 1 := by simp [ff, h, hp]
        rw [e]
        exact ⟨by omega, fun i hi => by
          by_cases e : i = n
          · subst e; exact hp
          · exact h2 i (by omega), fun h => by omega⟩
theorem ff_eq {p : Nat → Prop} [DecidablePred p] {n i : Nat} (hi : i < n) (hp : p i) (hn : ∀ k, k < i → ¬ p k) : ff p n = i := by
  obtain ⟨h1, h2, h3⟩ := ff_r p n
  by_cases h : ff p n < i
  · exact absurd (h3 (by omega)) (hn _ h)
  · by_cases h4 : i < ff p n
    · exact absurd hp (h2 i h4)
    · omega
section PN
variable {K : GT} {s : Nat → Int32}
theorem ov_r (hI : Inv s) {j b : Nat} (hj : j < ns s) (hb : b < nb s) : 0 ≤ ov s j b ∧ ov s j b ≤ 8 := by
  have h4 := hI.sd hj
  have h5 := bS_1 s j
  unfold ov
  omega
/-- how many of the first n sounds are drops -/
def dr (s : Nat → Int32) (n : Nat) : Int := sm (fun j => if ht s j < 0 then 0 else 1) n
end PN
