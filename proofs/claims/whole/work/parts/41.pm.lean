/-! the print as one row of numbers (the reference's), and what holds of it -/
def sz (s : Nat → Int32) (i : Nat) : Int := (s (5 + i)).toInt
def ky (s : Nat → Int32) (t : Nat) : Int := (s (11 + 2 * t)).toInt
def lk (s : Nat → Int32) (t : Nat) : Int := (s (12 + 2 * t)).toInt
def tn (s : Nat → Int32) (j : Nat) : Int := (s (19 + 3 * j)).toInt
def ht (s : Nat → Int32) (j : Nat) : Int := (s (20 + 3 * j)).toInt
def ln (s : Nat → Int32) (j : Nat) : Int := (s (21 + 3 * j)).toInt
def nb (s : Nat → Int32) : Nat := (s 0).toInt.toNat
def ns (s : Nat → Int32) : Nat := (s 1).toInt.toNat
def lm (s : Nat → Int32) : Int := (s 2).toInt
def bB (s : Nat → Int32) (b : Nat) : Int := sm (sz s) b
def bS (s : Nat → Int32) (j : Nat) : Int := sm (ln s) j
theorem bB_1 (s : Nat → Int32) (b : Nat) : bB s (b + 1) = bB s b + sz s b := rfl
theorem bS_1 (s : Nat → Int32) (j : Nat) : bS s (j + 1) = bS s j + ln s j := rfl
def Inv (s : Nat → Int32) : Prop := s 0 = iI (nb s) ∧ nb s ≤ 6 ∧ s 1 = iI (ns s) ∧ ns s ≤ 16 ∧ (1 ≤ lm s ∧ lm s ≤ 11) ∧ (∀ i, i < nb s → 2 ≤ sz s i ∧ sz s i ≤ 8) ∧ (∀ t, t < 4 → 0 ≤ ky s t ∧ ky s t ≤ 11 ∧ 0 ≤ lk s t ∧ lk s t ≤ 3) ∧ (∀ j, j < ns s → 0 ≤ tn s j ∧ tn s j ≤ 3 ∧ -1 ≤ ht s j ∧ ht s j ≤ 9 ∧ 1 ≤ ln s j ∧ ln s j ≤ 8) ∧ bS s (ns s) ≤ bB s (nb s)
section INV
variable {s : Nat → Int32}
theorem Inv.b0 (h : Inv s) : s 0 = iI (nb s) := h.1
theorem Inv.s1 (h : Inv s) : s 1 = iI (ns s) := h.2.2.1
theorem Inv.nb6 (h : Inv s) : nb s ≤ 6 := h.2.1
theorem Inv.ns16 (h : Inv s) : ns s ≤ 16 := h.2.2.2.1
theorem Inv.sz (h : Inv s) {i : Nat} (hi : i < nb s) : 2 ≤ sz s i ∧ sz s i ≤ 8 := h.2.2.2.2.2.1 i hi
theorem Inv.ky (h : Inv s) {t : Nat} (ht : t < 4) : 0 ≤ ky s t ∧ ky s t ≤ 11 ∧ 0 ≤ lk s t ∧ lk s t ≤ 3 := h.2.2.2.2.2.2.1 t ht
theorem Inv.sd (h : Inv s) {j : Nat} (hj : j < ns s) : 0 ≤ tn s j ∧ tn s j ≤ 3 ∧ -1 ≤ ht s j ∧ ht s j ≤ 9 ∧ 1 ≤ ln s j ∧ ln s j ≤ 8 := h.2.2.2.2.2.2.2.1 j hj
theorem Inv.full (h : Inv s) : bS s (ns s) ≤ bB s (nb s) := h.2.2.2.2.2.2.2.2
theorem Inv.bBr (h : Inv s) {b : Nat} (hb : b ≤ nb s) : 2 * (b : Int) ≤ bB s b ∧ bB s b ≤ 8 * (b : Int) := ⟨sm_ge (fun i hi => (h.sz (by omega)).1), sm_le (fun i hi => (h.sz (by omega)).2)⟩
theorem Inv.bSr (h : Inv s) {j : Nat} (hj : j ≤ ns s) : (j : Int) ≤ bS s j ∧ bS s j ≤ 8 * (j : Int) := ⟨by have := sm_ge (f := ln s) (n := j) (a := 1) (fun i hi => (h.sd (by omega)).2.2.2.2.1); unfold bS; omega, sm_le (fun i hi => (h.sd (by omega)).2.2.2.2.2)⟩
theorem Inv.bBm (h : Inv s) {a b : Nat} (hab : a ≤ b) (hb : b ≤ nb s) : bB s a ≤ bB s b := sm_mono (n := nb s) (fun i hi => by have := h.sz hi; omega) a b hab hb
theorem Inv.bSm (h : Inv s) {a b : Nat} (hab : a ≤ b) (hb : b ≤ ns s) : bS s a ≤ bS s b := sm_mono (n := ns s) (fun i hi => by have := h.sd hi; omega) a b hab hb
end INV
/-- the pitch of a drop -/
def pt (s : Nat → Int32) (j : Nat) : Int := (ky s (tn s j).toNat + ht s j) % 12
/-- what a sound has in a bar -/
def ov (s : Nat → Int32) (j b : Nat) : Int := max 0 (min (bS s (j + 1)) (bB s (b + 1)) - max (bS s j) (bB s b))
section PM
variable {K : GT} {s : Nat → Int32}
theorem m_of (hK : K 1 = s) {j w : Nat} (hj : j < 16) (hw : w < 3) : f_X10_of K (iI j) (iI w) = some (s (19 + 3 * j + w)) := by
  have e : (19 + 3 * (j : Int) + w).toNat = 19 + 3 * j + w := by omega
  unfold f_X10_of
  simp (disch := omega) only [pl0, pl1, pl2, pl3, pl4, pl5, pl6, pl7, pl8, pl9, pl10, pl11, pl12, pl16, pl19, lit_nI, iI_add, iI_sub, iI_mul, iI_neg, iI_le, iI_lt, iI_eq, iI_max, iI_min, Option.bind_some, Option.bind_eq_bind, iI_inb, iI_clamp, e]
  rw [if_pos (by omega), hK]
theorem m_of0 (hK : K 1 = s) {j : Nat} (hj : j < 16) : f_X10_of K (iI j) (iI 0) = some (iI (tn s j)) := by
  rw [show iI 0 = iI (0 : Nat) from rfl, m_of hK hj (by omega), tn, toInt_iI]; rfl
theorem m_of1 (hK : K 1 = s) {j : Nat} (hj : j < 16) : f_X10_of K (iI j) (iI 1) = some (iI (ht s j)) := by
  rw [show iI 1 = iI (1 : Nat) from rfl, m_of hK hj (by omega), ht, toInt_iI, show 19 + 3 * j + 1 = 20 + 3 * j by omega]
theorem m_of2 (hK : K 1 = s) {j : Nat} (hj : j < 16) : f_X10_of K (iI j) (iI 2) = some (iI (ln s j)) := by
  rw [show iI 2 = iI (2 : Nat) from rfl, m_of hK hj (by omega), ln, toInt_iI, show 19 + 3 * j + 2 = 21 + 3 * j by omega]
theorem m_begin (hK : K 1 = s) {j : Nat} (hj : j ≤ 16) : f_X10_begin K (iI j) = some (iI (bS s j)) := by
  unfold f_X10_begin f_X10_begin_4
  refine lq2_for (X1 := fun i => iI (bS s i)) (X2 := fun i => iI i) j _ (fun k i hi => ?_) (fun k => ?_) (by omega)
  · simp (disch := omega) only [pl0, pl1, pl2, pl3, pl4, pl5, pl6, pl7, pl8, pl9, pl10, pl11, pl12, pl16, pl19, lit_nI, iI_add, iI_sub, iI_mul, iI_neg, iI_le, iI_lt, iI_eq, iI_max, iI_min, Option.bind_some, Option.bind_eq_bind, m_of2 hK]
    rw [if_neg (by omega), bS_1]
    rfl
  · simp (disch := omega) only [pl0, pl1, pl2, pl3, pl4, pl5, pl6, pl7, pl8, pl9, pl10, pl11, pl12, pl16, pl19, lit_nI, iI_add, iI_sub, iI_mul, iI_neg, iI_le, iI_lt, iI_eq, iI_max, iI_min, Option.bind_some, Option.bind_eq_bind]
    rw [if_pos (by omega)]
theorem m_barBegin (hK : K 1 = s) {b : Nat} (hb : b ≤ 6) : f_X10_barBegin K (iI b) = some (iI (bB s b)) := by
  unfold f_X10_barBegin f_X10_barBegin_4
  refine lq2_for (X1 := fun i => iI (bB s i)) (X2 := fun i => iI i) b _ (fun k i hi => ?_) (fun k => ?_) (by omega)
  · have e : (5 + (i : Int)).toNat = 5 + i := by omega
    simp (disch := omega) only [pl0, pl1, pl2, pl3, pl4, pl5, pl6, pl7, pl8, pl9, pl10, pl11, pl12, pl16, pl19, lit_nI, iI_add, iI_sub, iI_mul, iI_neg, iI_le, iI_lt, iI_eq, iI_max, iI_min, Option.bind_some, Option.bind_eq_bind, iI_inb, iI_clamp, e]
    rw [if_neg (by omega), if_pos (by omega), bB_1, hK, sz, ← iI_add (bB s i), toInt_iI]
    rfl
  · simp (disch := omega) only [pl0, pl1, pl2, pl3, pl4, pl5, pl6, pl7, pl8, pl9, pl10, pl11, pl12, pl16, pl19, lit_nI, iI_add, iI_sub, iI_mul, iI_neg, iI_le, iI_lt, iI_eq, iI_max, iI_min, Option.bind_some, Option.bind_eq_bind]
    rw [if_pos (by omega)]
theorem m_isDrop (hK : K 1 = s) {j : Nat} (hj : j < 16) : f_X10_isDrop K (iI j) = some (iI (if ht s j < 0 then 0 else 1)) := by
  have h := toInt_rg (s (20 + 3 * j))
  unfold f_X10_isDrop
  simp (disch := omega) only [pl0, pl1, pl2, pl3, pl4, pl5, pl6, pl7, pl8, pl9, pl10, pl11, pl12, pl16, pl19, lit_nI, iI_add, iI_sub, iI_mul, iI_neg, iI_le, iI_lt, iI_eq, iI_max, iI_min, Option.bind_some, Option.bind_eq_bind, m_of1 hK]
  by_cases h1 : ht s j < 0
  · unfold ht at *
    simp (disch := omega) only [pl0, pl1, pl2, pl3, pl4, pl5, pl6, pl7, pl8, pl9, pl10, pl11, pl12, pl16, pl19, lit_nI, iI_add, iI_sub, iI_mul, iI_neg, iI_le, iI_lt, iI_eq, iI_max, iI_min, Option.bind_some, Option.bind_eq_bind]
    (repeat (first | rw [if_pos (by omega)] | rw [if_neg (by omega)]))
  · unfold ht at *
    simp (disch := omega) only [pl0, pl1, pl2, pl3, pl4, pl5, pl6, pl7, pl8, pl9, pl10, pl11, pl12, pl16, pl19, lit_nI, iI_add, iI_sub, iI_mul, iI_neg, iI_le, iI_lt, iI_eq, iI_max, iI_min, Option.bind_some, Option.bind_eq_bind]
    (repeat (first | rw [if_pos (by omega)] | rw [if_neg (by omega)]))
end PM
/-- the last of the first n for which p holds, or -1 -/
def lst (p : Nat → Prop) [DecidablePred p] : Nat → Int
  | 0 => -1
  | n + 1 => if p n then n else lst p n
theorem lst_r (p : Nat → Prop) [DecidablePred p] (n : Nat) : (lst p n = -1 ∧ ∀ i, i < n → ¬ p i) ∨ ∃ i, i < n ∧ p i ∧ lst p n = i ∧ ∀ k, i < k → k < n → ¬ p k := by
  induction n with
  | zero => exact Or.inl ⟨rfl, fun i h => absurd h (Nat.not_lt_zero _)⟩
  | succ n ih =>
    by_cases h : p n
    · exact Or.inr ⟨n, by omega, h, by simp [lst, h], fun k h1 h2 => by omega⟩
    · rcases ih with ⟨h1, h2⟩ | ⟨i, h1, h2, h3, h4⟩
      · exact Or.inl ⟨by simp [lst, h, h1], fun i hi => by
          by_cases e : i = n
          · subst e; exact h
          · exact h2 i (by omega)⟩
      · exact Or.inr ⟨i, by omega, h2, by simp [lst, h, h3], fun k h5 h6 => by
          by_cases e : k = n
          · subst e; exact h
          · exact h4 k h5 (by omega)⟩
theorem lst_rg (p : Nat → Prop) [DecidablePred p] (n : Nat) : -1 ≤ lst p n ∧ lst p n < n := by
  rcases lst_r p n with ⟨h1, -⟩ | ⟨i, h1, -, h2, -⟩ <;> omega
/-- the first of the first n for which p holds, or n -/
def ff (p : Nat → Prop) [DecidablePred p] : Nat → Nat
  | 0 => 0
  | n + 1 => if ff p n < n then ff p n else if p n then n else n + 1
theorem ff_r (p : Nat → Prop) [DecidablePred p] (n : Nat) : ff p n ≤ n ∧ (∀ i, i < ff p n → ¬ p i) ∧ (ff p n < n → p (ff p n)) := by
  induction n with
  | zero => exact ⟨Nat.le_refl _, fun i h => absurd h (Nat.not_lt_zero _), fun h => absurd h (Nat.lt_irrefl _)⟩
  | succ n ih =>
    obtain ⟨h1, h2, h3⟩ := ih
    by_cases h : ff p n < n
    · have e : ff p (n + 1) = ff p n := by simp [ff, h]
      rw [e]
      exact ⟨by omega, h2, fun _ => h3 h⟩
    · have e0 : ff p n = n := by omega
      by_cases hp : p n
      · have e : ff p (n + 1) = n := by simp [ff, h, hp]
        rw [e]
        exact ⟨by omega, fun i hi => h2 i (by omega), fun _ => hp⟩
      · have e : ff p (n + 1) = n + 1 := by simp [ff, h, hp]
        rw [e]
        exact ⟨by omega, fun i hi => by
          by_cases e : i = n
          · subst e; exact hp
          · exact h2 i (by omega), fun h => by omega⟩
theorem ff_eq {p : Nat → Prop} [DecidablePred p] {n i : Nat} (hi : i < n) (hp : p i) (hn : ∀ k, k < i → ¬ p k) : ff p n = i := by
  obtain ⟨h1, h2, h3⟩ := ff_r p n
  by_cases h : ff p n < i
  · exact absurd (h3 (by omega)) (hn _ h)
  · by_cases h4 : i < ff p n
    · exact absurd hp (h2 i h4)
    · omega
section PN
variable {K : GT} {s : Nat → Int32}
theorem m_pitch (hK : K 1 = s) (hI : Inv s) {j : Nat} (hj : j < ns s) (hd : 0 ≤ ht s j) : f_X10_pitch K (iI j) = some (iI (pt s j)) := by
  have h1 := hI.sd hj
  have h2 := hI.ns16
  have h3 := hI.ky (t := (tn s j).toNat) (by omega)
  have e : (11 + 2 * tn s j).toNat = 11 + 2 * (tn s j).toNat := by omega
  have e2 : K 1 (11 + 2 * (tn s j).toNat) = iI (ky s (tn s j).toNat) := by rw [hK, ky, toInt_iI]
  unfold f_X10_pitch
  simp (disch := omega) only [pl0, pl1, pl2, pl3, pl4, pl5, pl6, pl7, pl8, pl9, pl10, pl11, pl12, pl16, pl19, lit_nI, iI_add, iI_sub, iI_mul, iI_neg, iI_le, iI_lt, iI_eq, iI_max, iI_min, Option.bind_some, Option.bind_eq_bind, m_of0 hK, m_of1 hK, iI_inb, iI_clamp, e, e2, iI_div]
  rw [if_pos (by omega)]
  unfold pt
  congr 2
  omega
theorem m_beatsIn (hK : K 1 = s) (hI : Inv s) {j b : Nat} (hj : j < ns s) (hb : b < nb s) : f_X10_beatsIn K (iI j) (iI b) = some (iI (ov s j b)) := by
  have h2 := hI.ns16
  have h3 := hI.nb6
  have h4 := hI.bSr (j := j) (by omega)
  have h5 := hI.bSr (j := j + 1) (by omega)
  have h6 := hI.bBr (b := b) (by omega)
  have h7 := hI.bBr (b := b + 1) (by omega)
  have e1 : iI ((j : Int) + 1) = iI ((j + 1 : Nat) : Int) := by congr 1
  have e2 : iI ((b : Int) + 1) = iI ((b + 1 : Nat) : Int) := by congr 1
  unfold f_X10_beatsIn
  simp (disch := omega) only [pl0, pl1, pl2, pl3, pl4, pl5, pl6, pl7, pl8, pl9, pl10, pl11, pl12, pl16, pl19, lit_nI, iI_add, iI_sub, iI_mul, iI_neg, iI_le, iI_lt, iI_eq, iI_max, iI_min, Option.bind_some, Option.bind_eq_bind, m_begin hK, m_barBegin hK, e1, e2]
  rfl
theorem ov_r (hI : Inv s) {j b : Nat} (hj : j < ns s) (hb : b < nb s) : 0 ≤ ov s j b ∧ ov s j b ≤ 8 := by
  have h4 := hI.sd hj
  have h5 := bS_1 s j
  unfold ov
  omega
theorem m_parts (hK : K 1 = s) (hI : Inv s) {j : Nat} (hj : j < ns s) : f_X10_parts K (iI j) = some (iI (sm (fun b => if 0 < ov s j b then 1 else 0) (nb s))) := by
  have h3 := hI.nb6
  have hb0 : K 1 0 = iI (nb s) := by rw [hK]; exact hI.b0
  unfold f_X10_parts f_X10_parts_4
  refine lq2_for (X1 := fun i => iI (sm (fun b => if 0 < ov s j b then 1 else 0) i)) (X2 := fun i => iI i) (nb s) _ (fun k i hi => ?_) (fun k => ?_) (by omega)
  · have h := ov_r hI hj hi
    by_cases h1 : 0 < ov s j i <;> (simp (disch := omega) only [pl0, pl1, pl2, pl3, pl4, pl5, pl6, pl7, pl8, pl9, pl10, pl11, pl12, pl16, pl19, lit_nI, iI_add, iI_sub, iI_mul, iI_neg, iI_le, iI_lt, iI_eq, iI_max, iI_min, Option.bind_some, Option.bind_eq_bind, sm_1, hb0, m_beatsIn hK hI hj hi, f_X10_parts_29]; (repeat (first | rw [if_pos (by omega)] | rw [if_neg (by omega)])); (try simp (disch := omega) only [pl0, pl1, pl2, pl3, pl4, pl5, pl6, pl7, pl8, pl9, pl10, pl11, pl12, pl16, pl19, lit_nI, iI_add, iI_sub, iI_mul, iI_neg, iI_le, iI_lt, iI_eq, iI_max, iI_min, Option.bind_some, Option.bind_eq_bind]); (repeat (first | rw [if_pos (by omega)] | rw [if_neg (by omega)])); (try rfl))
  · simp (disch := omega) only [pl0, pl1, pl2, pl3, pl4, pl5, pl6, pl7, pl8, pl9, pl10, pl11, pl12, pl16, pl19, lit_nI, iI_add, iI_sub, iI_mul, iI_neg, iI_le, iI_lt, iI_eq, iI_max, iI_min, Option.bind_some, Option.bind_eq_bind, hb0]
    (repeat (first | rw [if_pos (by omega)] | rw [if_neg (by omega)]))
theorem m_partsIn (hK : K 1 = s) (hI : Inv s) {b : Nat} (hb : b < nb s) : f_X10_partsIn K (iI b) = some (iI (sm (fun j => if 0 < ov s j b then 1 else 0) (ns s))) := by
  have h3 := hI.ns16
  have hb0 : K 1 1 = iI (ns s) := by rw [hK]; exact hI.s1
  unfold f_X10_partsIn f_X10_partsIn_4
  refine lq2_for (X1 := fun i => iI (sm (fun j => if 0 < ov s j b then 1 else 0) i)) (X2 := fun i => iI i) (ns s) _ (fun k i hi => ?_) (fun k => ?_) (by omega)
  · have h := ov_r hI hi hb
    by_cases h1 : 0 < ov s i b <;> (simp (disch := omega) only [pl0, pl1, pl2, pl3, pl4, pl5, pl6, pl7, pl8, pl9, pl10, pl11, pl12, pl16, pl19, lit_nI, iI_add, iI_sub, iI_mul, iI_neg, iI_le, iI_lt, iI_eq, iI_max, iI_min, Option.bind_some, Option.bind_eq_bind, sm_1, hb0, m_beatsIn hK hI hi hb, f_X10_partsIn_29]; (repeat (first | rw [if_pos (by omega)] | rw [if_neg (by omega)])); (try simp (disch := omega) only [pl0, pl1, pl2, pl3, pl4, pl5, pl6, pl7, pl8, pl9, pl10, pl11, pl12, pl16, pl19, lit_nI, iI_add, iI_sub, iI_mul, iI_neg, iI_le, iI_lt, iI_eq, iI_max, iI_min, Option.bind_some, Option.bind_eq_bind]); (repeat (first | rw [if_pos (by omega)] | rw [if_neg (by omega)])); (try rfl))
  · simp (disch := omega) only [pl0, pl1, pl2, pl3, pl4, pl5, pl6, pl7, pl8, pl9, pl10, pl11, pl12, pl16, pl19, lit_nI, iI_add, iI_sub, iI_mul, iI_neg, iI_le, iI_lt, iI_eq, iI_max, iI_min, Option.bind_some, Option.bind_eq_bind, hb0]
    (repeat (first | rw [if_pos (by omega)] | rw [if_neg (by omega)]))
theorem m_filled (hK : K 1 = s) (hI : Inv s) {b : Nat} (hb : b < nb s) : f_X10_filled K (iI b) = some (iI (sm (fun j => ov s j b) (ns s))) := by
  have h3 := hI.ns16
  have hb0 : K 1 1 = iI (ns s) := by rw [hK]; exact hI.s1
  unfold f_X10_filled f_X10_filled_4
  refine lq2_for (X1 := fun i => iI (sm (fun j => ov s j b) i)) (X2 := fun i => iI i) (ns s) _ (fun k i hi => ?_) (fun k => ?_) (by omega)
  · have h := ov_r hI hi hb
    simp (disch := omega) only [pl0, pl1, pl2, pl3, pl4, pl5, pl6, pl7, pl8, pl9, pl10, pl11, pl12, pl16, pl19, lit_nI, iI_add, iI_sub, iI_mul, iI_neg, iI_le, iI_lt, iI_eq, iI_max, iI_min, Option.bind_some, Option.bind_eq_bind, sm_1, hb0, m_beatsIn hK hI hi hb]
    (repeat (first | rw [if_pos (by omega)] | rw [if_neg (by omega)]))
    rfl
  · simp (disch := omega) only [pl0, pl1, pl2, pl3, pl4, pl5, pl6, pl7, pl8, pl9, pl10, pl11, pl12, pl16, pl19, lit_nI, iI_add, iI_sub, iI_mul, iI_neg, iI_le, iI_lt, iI_eq, iI_max, iI_min, Option.bind_some, Option.bind_eq_bind, hb0]
    (repeat (first | rw [if_pos (by omega)] | rw [if_neg (by omega)]))
theorem m_free (hK : K 1 = s) (hI : Inv s) : f_X10_free K = some (iI (bB s (nb s) - bS s (ns s))) := by
  unfold f_X10_free
  rw [hK, hI.b0, hI.s1]
  simp (disch := omega) only [pl0, pl1, pl2, pl3, pl4, pl5, pl6, pl7, pl8, pl9, pl10, pl11, pl12, pl16, pl19, lit_nI, iI_add, iI_sub, iI_mul, iI_neg, iI_le, iI_lt, iI_eq, iI_max, iI_min, Option.bind_some, Option.bind_eq_bind, m_begin hK (show ns s ≤ 16 from hI.ns16), m_barBegin hK (show nb s ≤ 6 from hI.nb6)]
/-- how many of the first n sounds are drops -/
def dr (s : Nat → Int32) (n : Nat) : Int := sm (fun j => if ht s j < 0 then 0 else 1) n
theorem m_drops (hK : K 1 = s) (hI : Inv s) : f_X10_drops K = some (iI (dr s (ns s))) := by
  have h3 := hI.ns16
  have hb0 : K 1 1 = iI (ns s) := by rw [hK]; exact hI.s1
  unfold f_X10_drops f_X10_drops_4
  refine lq2_for (X1 := fun i => iI (dr s i)) (X2 := fun i => iI i) (ns s) _ (fun k i hi => ?_) (fun k => ?_) (by omega)
  · unfold dr
    by_cases h1 : ht s i < 0 <;> (simp (disch := omega) only [pl0, pl1, pl2, pl3, pl4, pl5, pl6, pl7, pl8, pl9, pl10, pl11, pl12, pl16, pl19, lit_nI, iI_add, iI_sub, iI_mul, iI_neg, iI_le, iI_lt, iI_eq, iI_max, iI_min, Option.bind_some, Option.bind_eq_bind, sm_1, hb0, m_isDrop hK (show i < 16 by omega), f_X10_drops_28]; (repeat (first | rw [if_pos (by omega)] | rw [if_neg (by omega)])); (try simp (disch := omega) only [pl0, pl1, pl2, pl3, pl4, pl5, pl6, pl7, pl8, pl9, pl10, pl11, pl12, pl16, pl19, lit_nI, iI_add, iI_sub, iI_mul, iI_neg, iI_le, iI_lt, iI_eq, iI_max, iI_min, Option.bind_some, Option.bind_eq_bind]); (repeat (first | rw [if_pos (by omega)] | rw [if_neg (by omega)])); (try rfl))
  · simp (disch := omega) only [pl0, pl1, pl2, pl3, pl4, pl5, pl6, pl7, pl8, pl9, pl10, pl11, pl12, pl16, pl19, lit_nI, iI_add, iI_sub, iI_mul, iI_neg, iI_le, iI_lt, iI_eq, iI_max, iI_min, Option.bind_some, Option.bind_eq_bind, hb0]
    (repeat (first | rw [if_pos (by omega)] | rw [if_neg (by omega)]))
theorem m_isTied (hK : K 1 = s) (hI : Inv s) {j b : Nat} (hj : j < ns s) (hb : b < nb s) : f_X10_isTied K (iI j) (iI b) = some (iI (if bS s j < bB s b then 1 else 0)) := by
  have h2 := hI.ns16
  have h3 := hI.nb6
  have h4 := hI.bSr (j := j) (by omega)
  have h6 := hI.bBr (b := b) (by omega)
  unfold f_X10_isTied
  by_cases h : bS s j < bB s b <;> (simp (disch := omega) only [pl0, pl1, pl2, pl3, pl4, pl5, pl6, pl7, pl8, pl9, pl10, pl11, pl12, pl16, pl19, lit_nI, iI_add, iI_sub, iI_mul, iI_neg, iI_le, iI_lt, iI_eq, iI_max, iI_min, Option.bind_some, Option.bind_eq_bind, m_begin hK, m_barBegin hK]; (repeat (first | rw [if_pos (by omega)] | rw [if_neg (by omega)])))
theorem m_dropAhead (hK : K 1 = s) {j : Nat} (hj : j ≤ 16) : f_X10_dropAhead K (iI j) = some (iI (lst (fun k => 0 ≤ ht s k) j)) := by
  unfold f_X10_dropAhead f_X10_dropAhead_4
  refine lq2_for (X1 := fun i => iI (lst (fun k => 0 ≤ ht s k) i)) (X2 := fun i => iI i) j _ (fun k i hi => ?_) (fun k => ?_) (by omega)
  · by_cases h1 : ht s i < 0 <;> (simp (disch := omega) only [pl0, pl1, pl2, pl3, pl4, pl5, pl6, pl7, pl8, pl9, pl10, pl11, pl12, pl16, pl19, lit_nI, iI_add, iI_sub, iI_mul, iI_neg, iI_le, iI_lt, iI_eq, iI_max, iI_min, Option.bind_some, Option.bind_eq_bind, hj, m_isDrop hK (show i < 16 by omega), f_X10_dropAhead_22, lst]; (repeat (first | rw [if_pos (by omega)] | rw [if_neg (by omega)])); (try simp (disch := omega) only [pl0, pl1, pl2, pl3, pl4, pl5, pl6, pl7, pl8, pl9, pl10, pl11, pl12, pl16, pl19, lit_nI, iI_add, iI_sub, iI_mul, iI_neg, iI_le, iI_lt, iI_eq, iI_max, iI_min, Option.bind_some, Option.bind_eq_bind]); (repeat (first | rw [if_pos (by omega)] | rw [if_neg (by omega)])); (try rfl))
  · simp (disch := omega) only [pl0, pl1, pl2, pl3, pl4, pl5, pl6, pl7, pl8, pl9, pl10, pl11, pl12, pl16, pl19, lit_nI, iI_add, iI_sub, iI_mul, iI_neg, iI_le, iI_lt, iI_eq, iI_max, iI_min, Option.bind_some, Option.bind_eq_bind]
    (repeat (first | rw [if_pos (by omega)] | rw [if_neg (by omega)]))
theorem m_soundAt (hK : K 1 = s) (hI : Inv s) {x : Int} (hx1 : -1000 ≤ x) (hx : x ≤ 1000) : f_X10_soundAt K (iI x) = some (iI (lst (fun j => bS s j ≤ x ∧ x < bS s (j + 1)) (ns s))) := by
  have h3 := hI.ns16
  have hb0 : K 1 1 = iI (ns s) := by rw [hK]; exact hI.s1
  unfold f_X10_soundAt f_X10_soundAt_4
  refine lq2_for (X1 := fun i => iI (lst (fun j => bS s j ≤ x ∧ x < bS s (j + 1)) i)) (X2 := fun i => iI i) (ns s) _ (fun k i hi => ?_) (fun k => ?_) (by omega)
  · have h4 := hI.bSr (j := i) (by omega)
    have h5 := hI.bSr (j := i + 1) (by omega)
    have e1 : iI ((i : Int) + 1) = iI ((i + 1 : Nat) : Int) := by congr 1
    by_cases h1 : bS s i ≤ x <;> by_cases h2 : x < bS s (i + 1) <;> (simp (disch := omega) only [pl0, pl1, pl2, pl3, pl4, pl5, pl6, pl7, pl8, pl9, pl10, pl11, pl12, pl16, pl19, lit_nI, iI_add, iI_sub, iI_mul, iI_neg, iI_le, iI_lt, iI_eq, iI_max, iI_min, Option.bind_some, Option.bind_eq_bind, hb0, m_begin hK, e1, f_X10_in, f_X10_soundAt_40, lst]; (repeat (first | rw [if_pos (by omega)] | rw [if_neg (by omega)])); (try simp (disch := omega) only [pl0, pl1, pl2, pl3, pl4, pl5, pl6, pl7, pl8, pl9, pl10, pl11, pl12, pl16, pl19, lit_nI, iI_add, iI_sub, iI_mul, iI_neg, iI_le, iI_lt, iI_eq, iI_max, iI_min, Option.bind_some, Option.bind_eq_bind]); (repeat (first | rw [if_pos (by omega)] | rw [if_neg (by omega)])); (try rfl))
  · simp (disch := omega) only [pl0, pl1, pl2, pl3, pl4, pl5, pl6, pl7, pl8, pl9, pl10, pl11, pl12, pl16, pl19, lit_nI, iI_add, iI_sub, iI_mul, iI_neg, iI_le, iI_lt, iI_eq, iI_max, iI_min, Option.bind_some, Option.bind_eq_bind, hb0]
    (repeat (first | rw [if_pos (by omega)] | rw [if_neg (by omega)]))
end PN
