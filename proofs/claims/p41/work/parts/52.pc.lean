/-! the class's print, as the row says it -/
def Pr (G : GT) (b : Nat) (s : Nat → Int32) : Prop := G b 6 = s 0 ∧ G b 7 = s 1 ∧ G b 8 = s 2 ∧ G b 9 = s 3 ∧ G b 10 = s 4 ∧ (∀ j, j < 6 → G (b + 1) j = s (5 + j)) ∧ (∀ t, t < 4 → G (b + 2) t = s (11 + 2 * t)) ∧ (∀ t, t < 4 → G (b + 3) t = s (12 + 2 * t)) ∧ (∀ j, j < 16 → G (b + 4) j = s (19 + 3 * j)) ∧ (∀ j, j < 16 → G (b + 5) j = s (20 + 3 * j)) ∧ (∀ j, j < 16 → G (b + 6) j = s (21 + 3 * j))
/-- the bar of a beat, the sound of a beat -/
def bi (s : Nat → Int32) (x : Int) : Nat := ff (fun i => x < bB s (i + 1)) (nb s)
def si (s : Nat → Int32) (x : Int) : Nat := ff (fun i => x < bS s (i + 1)) (ns s)
def bat (s : Nat → Int32) (x : Int) : Int := if 0 ≤ x ∧ x < bB s (nb s) then bi s x else -1
def sat (s : Nat → Int32) (x : Int) : Int := if 0 ≤ x ∧ x < bS s (ns s) then si s x else -1
section BI
variable {s : Nat → Int32}
theorem bi_r (hI : Inv s) {x : Int} (h1 : 0 ≤ x) (h2 : x < bB s (nb s)) : bi s x < nb s ∧ bB s (bi s x) ≤ x ∧ x < bB s (bi s x + 1) := by
  obtain ⟨g1, g2, g3⟩ := ff_r (fun i => x < bB s (i + 1)) (nb s)
  have hlt : bi s x < nb s := by
    refine Nat.lt_of_not_le fun h => ?_
    have e : bi s x = nb s := Nat.le_antisymm g1 h
    cases hn : nb s with
    | zero => rw [hn] at h2; have : bB s 0 = 0 := rfl; omega
    | succ n =>
      refine g2 n ?_ ?_
      · show n < bi s x
        omega
      · rw [hn] at h2; exact h2
  refine ⟨hlt, ?_, g3 hlt⟩
  cases hb : bi s x with
  | zero => exact h1
  | succ n => exact Int.not_lt.mp (g2 n (by show n < bi s x; omega))
theorem si_r (hI : Inv s) {x : Int} (h1 : 0 ≤ x) (h2 : x < bS s (ns s)) : si s x < ns s ∧ bS s (si s x) ≤ x ∧ x < bS s (si s x + 1) := by
  obtain ⟨g1, g2, g3⟩ := ff_r (fun i => x < bS s (i + 1)) (ns s)
  have hlt : si s x < ns s := by
    refine Nat.lt_of_not_le fun h => ?_
    have e : si s x = ns s := Nat.le_antisymm g1 h
    cases hn : ns s with
    | zero => rw [hn] at h2; have : bS s 0 = 0 := rfl; omega
    | succ n =>
      refine g2 n ?_ ?_
      · show n < si s x
        omega
      · rw [hn] at h2; exact h2
  refine ⟨hlt, ?_, g3 hlt⟩
  cases hb : si s x with
  | zero => exact h1
  | succ n => exact Int.not_lt.mp (g2 n (by show n < si s x; omega))
theorem bi_eq (hI : Inv s) {x : Int} {b : Nat} (hb : b < nb s) (h1 : bB s b ≤ x) (h2 : x < bB s (b + 1)) : bi s x = b := ff_eq hb h2 (fun k hk => by have := hI.bBm (a := k + 1) (b := b) (by omega) (by omega); omega)
theorem si_eq (hI : Inv s) {x : Int} {j : Nat} (hj : j < ns s) (h1 : bS s j ≤ x) (h2 : x < bS s (j + 1)) : si s x = j := ff_eq hj h2 (fun k hk => by have := hI.bSm (a := k + 1) (b := j) (by omega) (by omega); omega)
theorem bat_eq (hI : Inv s) {x : Int} {b : Nat} (hb : b < nb s) (h1 : bB s b ≤ x) (h2 : x < bB s (b + 1)) : bat s x = b := by
  have g := hI.bBr (b := b) (by omega)
  have g2 := hI.bBm (a := b + 1) (b := nb s) (by omega) (by omega)
  unfold bat
  rw [if_pos (by omega), bi_eq hI hb h1 h2]
theorem sat_eq (hI : Inv s) {x : Int} {j : Nat} (hj : j < ns s) (h1 : bS s j ≤ x) (h2 : x < bS s (j + 1)) : sat s x = j := by
  have g := hI.bSr (j := j) (by omega)
  have g2 := hI.bSm (a := j + 1) (b := ns s) (by omega) (by omega)
  unfold sat
  rw [if_pos (by omega), si_eq hI hj h1 h2]
theorem bat_r (hI : Inv s) (x : Int) : -1 ≤ bat s x ∧ bat s x < nb s := by
  unfold bat
  by_cases h : 0 ≤ x ∧ x < bB s (nb s)
  · have := bi_r hI h.1 h.2
    rw [if_pos h]; omega
  · rw [if_neg h]; omega
theorem sat_r (hI : Inv s) (x : Int) : -1 ≤ sat s x ∧ sat s x < ns s := by
  unfold sat
  by_cases h : 0 ≤ x ∧ x < bS s (ns s)
  · have := si_r hI h.1 h.2
    rw [if_pos h]; omega
  · rw [if_neg h]; omega
theorem lst_sat (hI : Inv s) (x : Int) : lst (fun j => bS s j ≤ x ∧ x < bS s (j + 1)) (ns s) = sat s x := by
  rcases lst_r (fun j => bS s j ≤ x ∧ x < bS s (j + 1)) (ns s) with ⟨h1, h2⟩ | ⟨i, h1, h2, h3, -⟩
  · rw [h1]
    unfold sat
    by_cases h : 0 ≤ x ∧ x < bS s (ns s)
    · have := si_r hI h.1 h.2
      exact absurd ⟨this.2.1, this.2.2⟩ (h2 _ this.1)
    · rw [if_neg h]
  · rw [h3, sat_eq hI h1 h2.1 h2.2]
end BI
section PC
variable {G : GT} {s : Nat → Int32}
theorem c_nb (hP : Pr G 0 s) (hI : Inv s) : G 0 6 = iI (nb s) := hP.1.trans hI.b0
theorem c_ns (hP : Pr G 0 s) (hI : Inv s) : G 0 7 = iI (ns s) := hP.2.1.trans hI.s1
theorem c_lm (hP : Pr G 0 s) : G 0 8 = iI (lm s) := hP.2.2.1.trans (toInt_iI _).symm
theorem c_sz (hP : Pr G 0 s) {i : Nat} (hi : i < 6) : cell32 6 (G 1) (iI i) = iI (sz s i) := by
  rw [iI_cell (by omega) (by omega) (by omega), Int.toNat_natCast, sz, toInt_iI]; exact hP.2.2.2.2.2.1 i hi
theorem c_ky (hP : Pr G 0 s) {t : Nat} (ht : t < 4) : cell32 4 (G 2) (iI t) = iI (ky s t) := by
  rw [iI_cell (by omega) (by omega) (by omega), Int.toNat_natCast, ky, toInt_iI]; exact hP.2.2.2.2.2.2.1 t ht
theorem c_lk (hP : Pr G 0 s) {t : Nat} (ht : t < 4) : cell32 4 (G 3) (iI t) = iI (lk s t) := by
  rw [iI_cell (by omega) (by omega) (by omega), Int.toNat_natCast, lk, toInt_iI]; exact hP.2.2.2.2.2.2.2.1 t ht
theorem c_tn (hP : Pr G 0 s) {j : Nat} (hj : j < 16) : cell32 16 (G 4) (iI j) = iI (tn s j) := by
  rw [iI_cell (by omega) (by omega) (by omega), Int.toNat_natCast, tn, toInt_iI]; exact hP.2.2.2.2.2.2.2.2.1 j hj
theorem c_ht (hP : Pr G 0 s) {j : Nat} (hj : j < 16) : cell32 16 (G 5) (iI j) = iI (ht s j) := by
  rw [iI_cell (by omega) (by omega) (by omega), Int.toNat_natCast, ht, toInt_iI]; exact hP.2.2.2.2.2.2.2.2.2.1 j hj
theorem c_ln (hP : Pr G 0 s) {j : Nat} (hj : j < 16) : cell32 16 (G 6) (iI j) = iI (ln s j) := by
  rw [iI_cell (by omega) (by omega) (by omega), Int.toNat_natCast, ln, toInt_iI]; exact hP.2.2.2.2.2.2.2.2.2.2 j hj
theorem c_startOfBar (hP : Pr G 0 s) {b : Nat} (hb : b ≤ 6) : f_X5_startOfBar G (iI b) = some (iI (bB s b)) := by
  unfold f_X5_startOfBar f_X5_startOfBar_4
  refine lq2_for (X1 := fun i => iI (bB s i)) (X2 := fun i => iI i) b _ (fun k i hi => ?_) (fun k => ?_) (by omega)
  · have e : G 1 i = iI (sz s i) := by rw [sz, toInt_iI]; exact hP.2.2.2.2.2.1 i (by omega)
    simp (disch := omega) only [pl0, pl1, pl2, pl3, pl4, pl5, pl6, pl7, pl8, pl9, pl10, pl11, pl12, pl16, pl19, lit_nI, iI_add, iI_sub, iI_mul, iI_neg, iI_le, iI_lt, iI_eq, iI_max, iI_min, Option.bind_some, Option.bind_eq_bind, iI_inb, iI_clamp, Int.toNat_natCast, e, bB_1]
    (repeat (first | rw [if_pos (by omega)] | rw [if_neg (by omega)]))
    rfl
  · simp (disch := omega) only [pl0, pl1, pl2, pl3, pl4, pl5, pl6, pl7, pl8, pl9, pl10, pl11, pl12, pl16, pl19, lit_nI, iI_add, iI_sub, iI_mul, iI_neg, iI_le, iI_lt, iI_eq, iI_max, iI_min, Option.bind_some, Option.bind_eq_bind]
    rw [if_pos (by omega)]
theorem c_startOfSound (hP : Pr G 0 s) {j : Nat} (hj : j ≤ 16) : f_X5_startOfSound G (iI j) = some (iI (bS s j)) := by
  unfold f_X5_startOfSound f_X5_startOfSound_4
  refine lq2_for (X1 := fun i => iI (bS s i)) (X2 := fun i => iI i) j _ (fun k i hi => ?_) (fun k => ?_) (by omega)
  · have e : G 6 i = iI (ln s i) := by rw [ln, toInt_iI]; exact hP.2.2.2.2.2.2.2.2.2.2 i (by omega)
    simp (disch := omega) only [pl0, pl1, pl2, pl3, pl4, pl5, pl6, pl7, pl8, pl9, pl10, pl11, pl12, pl16, pl19, lit_nI, iI_add, iI_sub, iI_mul, iI_neg, iI_le, iI_lt, iI_eq, iI_max, iI_min, Option.bind_some, Option.bind_eq_bind, iI_inb, iI_clamp, Int.toNat_natCast, e, bS_1]
    (repeat (first | rw [if_pos (by omega)] | rw [if_neg (by omega)]))
    rfl
  · simp (disch := omega) only [pl0, pl1, pl2, pl3, pl4, pl5, pl6, pl7, pl8, pl9, pl10, pl11, pl12, pl16, pl19, lit_nI, iI_add, iI_sub, iI_mul, iI_neg, iI_le, iI_lt, iI_eq, iI_max, iI_min, Option.bind_some, Option.bind_eq_bind]
    rw [if_pos (by omega)]
theorem c_allBeats (hP : Pr G 0 s) (hI : Inv s) : f_X5_allBeats G = some (iI (bB s (nb s))) := by
  unfold f_X5_allBeats
  rw [c_nb hP hI, c_startOfBar hP hI.nb6]
  rfl
theorem c_filledBeats (hP : Pr G 0 s) (hI : Inv s) : f_X5_filledBeats G = some (iI (bS s (ns s))) := by
  unfold f_X5_filledBeats
  rw [c_ns hP hI, c_startOfSound hP hI.ns16]
  rfl
theorem c_freeBeats (hP : Pr G 0 s) (hI : Inv s) : f_X5_freeBeats G = some (iI (bB s (nb s) - bS s (ns s))) := by
  unfold f_X5_freeBeats
  rw [c_nb hP hI, c_startOfBar hP hI.nb6, c_ns hP hI, Option.bind_some, c_startOfSound hP hI.ns16, Option.bind_some, iI_sub]
theorem c_overlap (hP : Pr G 0 s) (hI : Inv s) {j b : Nat} (hj : j < ns s) (hb : b < nb s) : f_X5_overlap G (iI j) (iI b) = some (iI (ov s j b)) := by
  have h2 := hI.ns16
  have h3 := hI.nb6
  have h4 := hI.bSr (j := j) (by omega)
  have h5 := hI.sd hj
  have h6 := hI.bBr (b := b) (by omega)
  have h7 := hI.sz hb
  unfold f_X5_overlap
  simp (disch := omega) only [pl0, pl1, pl2, pl3, pl4, pl5, pl6, pl7, pl8, pl9, pl10, pl11, pl12, pl16, pl19, lit_nI, iI_add, iI_sub, iI_mul, iI_neg, iI_le, iI_lt, iI_eq, iI_max, iI_min, Option.bind_some, Option.bind_eq_bind, c_startOfBar hP, c_startOfSound hP, c_sz hP (show b < 6 by omega), c_ln hP (show j < 16 by omega)]
  unfold ov
  rw [bS_1, bB_1, Int.min_comm, Int.max_comm (bB s b)]
theorem c_isTied (hP : Pr G 0 s) (hI : Inv s) {j b : Nat} (hj : j < ns s) (hb : b < nb s) : f_X5_isTied G (iI j) (iI b) = some (iI (if bS s j < bB s b then 1 else 0)) := by
  have h2 := hI.ns16
  have h3 := hI.nb6
  have h4 := hI.bSr (j := j) (by omega)
  have h6 := hI.bBr (b := b) (by omega)
  unfold f_X5_isTied
  by_cases h : bS s j < bB s b <;> (simp (disch := omega) only [pl0, pl1, pl2, pl3, pl4, pl5, pl6, pl7, pl8, pl9, pl10, pl11, pl12, pl16, pl19, lit_nI, iI_add, iI_sub, iI_mul, iI_neg, iI_le, iI_lt, iI_eq, iI_max, iI_min, Option.bind_some, Option.bind_eq_bind, c_startOfBar hP, c_startOfSound hP]; (repeat (first | rw [if_pos (by omega)] | rw [if_neg (by omega)])); (try simp (disch := omega) only [pl0, pl1, pl2, pl3, pl4, pl5, pl6, pl7, pl8, pl9, pl10, pl11, pl12, pl16, pl19, lit_nI, iI_add, iI_sub, iI_mul, iI_neg, iI_le, iI_lt, iI_eq, iI_max, iI_min, Option.bind_some, Option.bind_eq_bind]); (repeat (first | rw [if_pos (by omega)] | rw [if_neg (by omega)])); (try rfl))
theorem c_isRest (hP : Pr G 0 s) (hI : Inv s) {j : Nat} (hj : j < ns s) : f_X5_isRest G (iI j) = some (iI (if ht s j < 0 then 1 else 0)) := by
  have h2 := hI.ns16
  have h5 := hI.sd hj
  unfold f_X5_isRest
  by_cases h : ht s j < 0 <;> (simp (disch := omega) only [pl0, pl1, pl2, pl3, pl4, pl5, pl6, pl7, pl8, pl9, pl10, pl11, pl12, pl16, pl19, lit_nI, iI_add, iI_sub, iI_mul, iI_neg, iI_le, iI_lt, iI_eq, iI_max, iI_min, Option.bind_some, Option.bind_eq_bind, c_ht hP (show j < 16 by omega)]; (repeat (first | rw [if_pos (by omega)] | rw [if_neg (by omega)])); (try simp (disch := omega) only [pl0, pl1, pl2, pl3, pl4, pl5, pl6, pl7, pl8, pl9, pl10, pl11, pl12, pl16, pl19, lit_nI, iI_add, iI_sub, iI_mul, iI_neg, iI_le, iI_lt, iI_eq, iI_max, iI_min, Option.bind_some, Option.bind_eq_bind]); (repeat (first | rw [if_pos (by omega)] | rw [if_neg (by omega)])); (try rfl))
/-- a pitch, -1 for a rest -/
def pc (s : Nat → Int32) (j : Nat) : Int := if ht s j < 0 then -1 else pt s j
theorem pt_r (hI : Inv s) {j : Nat} (hj : j < ns s) : 0 ≤ pt s j ∧ pt s j < 12 := by
  unfold pt
  omega
theorem pc_r (hI : Inv s) {j : Nat} (hj : j < ns s) : -1 ≤ pc s j ∧ pc s j < 12 := by
  have := pt_r hI hj
  unfold pc
  by_cases h : ht s j < 0
  · rw [if_pos h]; omega
  · rw [if_neg h]; omega
theorem c_pitchOf (hP : Pr G 0 s) (hI : Inv s) {j : Nat} (hj : j < ns s) : f_X5_pitchOf G (iI j) = some (iI (pc s j)) := by
  have h2 := hI.ns16
  have h5 := hI.sd hj
  have h6 := hI.ky (t := (tn s j).toNat) (by omega)
  have e : cell32 4 (G 2) (iI (tn s j)) = iI (ky s (tn s j).toNat) := by
    have := c_ky hP (t := (tn s j).toNat) (by omega)
    rwa [Int.toNat_of_nonneg h5.1] at this
  unfold f_X5_pitchOf pc pt
  by_cases h : ht s j < 0
  · (simp (disch := omega) only [pl0, pl1, pl2, pl3, pl4, pl5, pl6, pl7, pl8, pl9, pl10, pl11, pl12, pl16, pl19, lit_nI, iI_add, iI_sub, iI_mul, iI_neg, iI_le, iI_lt, iI_eq, iI_max, iI_min, Option.bind_some, Option.bind_eq_bind, c_ht hP (show j < 16 by omega)]; (repeat (first | rw [if_pos (by omega)] | rw [if_neg (by omega)])); (try simp (disch := omega) only [pl0, pl1, pl2, pl3, pl4, pl5, pl6, pl7, pl8, pl9, pl10, pl11, pl12, pl16, pl19, lit_nI, iI_add, iI_sub, iI_mul, iI_neg, iI_le, iI_lt, iI_eq, iI_max, iI_min, Option.bind_some, Option.bind_eq_bind]); (repeat (first | rw [if_pos (by omega)] | rw [if_neg (by omega)])); (try rfl))
  · by_cases h7 : ky s (tn s j).toNat + ht s j < 12
    · have e2 : (ky s (tn s j).toNat + ht s j) % 12 = ky s (tn s j).toNat + ht s j := by omega
      (simp (disch := omega) only [pl0, pl1, pl2, pl3, pl4, pl5, pl6, pl7, pl8, pl9, pl10, pl11, pl12, pl16, pl19, lit_nI, iI_add, iI_sub, iI_mul, iI_neg, iI_le, iI_lt, iI_eq, iI_max, iI_min, Option.bind_some, Option.bind_eq_bind, c_ht hP (show j < 16 by omega), c_tn hP (show j < 16 by omega), e, e2]; (repeat (first | rw [if_pos (by omega)] | rw [if_neg (by omega)])); (try simp (disch := omega) only [pl0, pl1, pl2, pl3, pl4, pl5, pl6, pl7, pl8, pl9, pl10, pl11, pl12, pl16, pl19, lit_nI, iI_add, iI_sub, iI_mul, iI_neg, iI_le, iI_lt, iI_eq, iI_max, iI_min, Option.bind_some, Option.bind_eq_bind]); (repeat (first | rw [if_pos (by omega)] | rw [if_neg (by omega)])); (try rfl))
    · have e2 : (ky s (tn s j).toNat + ht s j) % 12 = ky s (tn s j).toNat + ht s j - 12 := by omega
      (simp (disch := omega) only [pl0, pl1, pl2, pl3, pl4, pl5, pl6, pl7, pl8, pl9, pl10, pl11, pl12, pl16, pl19, lit_nI, iI_add, iI_sub, iI_mul, iI_neg, iI_le, iI_lt, iI_eq, iI_max, iI_min, Option.bind_some, Option.bind_eq_bind, c_ht hP (show j < 16 by omega), c_tn hP (show j < 16 by omega), e, e2]; (repeat (first | rw [if_pos (by omega)] | rw [if_neg (by omega)])); (try simp (disch := omega) only [pl0, pl1, pl2, pl3, pl4, pl5, pl6, pl7, pl8, pl9, pl10, pl11, pl12, pl16, pl19, lit_nI, iI_add, iI_sub, iI_mul, iI_neg, iI_le, iI_lt, iI_eq, iI_max, iI_min, Option.bind_some, Option.bind_eq_bind]); (repeat (first | rw [if_pos (by omega)] | rw [if_neg (by omega)])); (try rfl))
theorem c_dropAhead (hP : Pr G 0 s) (hI : Inv s) {j : Nat} (hj : j ≤ ns s) : f_X5_dropAhead G (iI j) = some (iI (lst (fun k => 0 ≤ ht s k) j)) := by
  have h2 := hI.ns16
  unfold f_X5_dropAhead f_X5_dropAhead_4
  rw [pl1, iI_sub]
  have key : ∀ N, N ≤ j → (∀ i, i < N → ht s (j - 1 - i) < 0) → ((N < j ∧ 0 ≤ ht s (j - 1 - N) ∧ lst (fun k => 0 ≤ ht s k) j = ((j - 1 - N : Nat) : Int)) ∨ (N = j ∧ lst (fun k => 0 ≤ ht s k) j = -1)) → lq1 (fun (k4 : Int32 → Option Int32) (x2 : Int32) => (if x2 < 0 then some (-1 : Int32) else (if (cell32 16 (G 5) x2) = (-1 : Int32) then k4 (x2 + (-1)) else some x2))) 4096 (iI (j - 1)) = some (iI (lst (fun k => 0 ≤ ht s k) j)) := by
    intro N hN hr hx
    have := lq1_for (F := fun (k4 : Int32 → Option Int32) (x2 : Int32) => (if x2 < 0 then some (-1 : Int32) else (if (cell32 16 (G 5) x2) = (-1 : Int32) then k4 (x2 + (-1)) else some x2))) (X1 := fun i => iI ((j : Int) - 1 - i)) N (some (iI (lst (fun k => 0 ≤ ht s k) j))) (fun k i hi => ?_) (fun k => ?_) (n := 4096) (by omega)
    · have e0 : iI ((j : Int) - 1 - (0 : Nat)) = iI ((j : Int) - 1) := by congr 1; omega
      simp only [e0] at this
      exact this
    · have e : iI ((j : Int) - 1 - i) = iI ((j - 1 - i : Nat) : Int) := by congr 1; omega
      have h3 := hr i hi
      have h4 := hI.sd (j := j - 1 - i) (by omega)
      have e3 : iI ((j - 1 - i : Nat) + -1) = iI ((j : Int) - 1 - ((i + 1 : Nat) : Int)) := by congr 1; omega
      simp (disch := omega) only [pl0, pl1, pl2, pl3, pl4, pl5, pl6, pl7, pl8, pl9, pl10, pl11, pl12, pl16, pl19, lit_nI, iI_add, iI_sub, iI_mul, iI_neg, iI_le, iI_lt, iI_eq, iI_max, iI_min, Option.bind_some, Option.bind_eq_bind, e, c_ht hP (show j - 1 - i < 16 by omega), e3]
      (repeat (first | rw [if_pos (by omega)] | rw [if_neg (by omega)]))
    · rcases hx with ⟨h3, h4, h5⟩ | ⟨h3, h4⟩
      · have e : iI ((j : Int) - 1 - N) = iI ((j - 1 - N : Nat) : Int) := by congr 1; omega
        have h6 := hI.sd (j := j - 1 - N) (by omega)
        simp (disch := omega) only [pl0, pl1, pl2, pl3, pl4, pl5, pl6, pl7, pl8, pl9, pl10, pl11, pl12, pl16, pl19, lit_nI, iI_add, iI_sub, iI_mul, iI_neg, iI_le, iI_lt, iI_eq, iI_max, iI_min, Option.bind_some, Option.bind_eq_bind, e, h5, c_ht hP (show j - 1 - N < 16 by omega)]
        (repeat (first | rw [if_pos (by omega)] | rw [if_neg (by omega)]))
      · simp (disch := omega) only [pl0, pl1, pl2, pl3, pl4, pl5, pl6, pl7, pl8, pl9, pl10, pl11, pl12, pl16, pl19, lit_nI, iI_add, iI_sub, iI_mul, iI_neg, iI_le, iI_lt, iI_eq, iI_max, iI_min, Option.bind_some, Option.bind_eq_bind, h4]
        (repeat (first | rw [if_pos (by omega)] | rw [if_neg (by omega)]))
  rcases lst_r (fun k => 0 ≤ ht s k) j with ⟨h1, h3⟩ | ⟨i, h1, h3, h4, h5⟩
  · exact key j (Nat.le_refl _) (fun i hi => Int.not_le.mp (h3 _ (by omega))) (Or.inr ⟨rfl, h1⟩)
  · exact key (j - 1 - i) (by omega) (fun k hk => Int.not_le.mp (h5 _ (by omega) (by omega))) (Or.inl ⟨by omega, by rw [show j - 1 - (j - 1 - i) = i by omega]; exact h3, by rw [h4]; congr 1; omega⟩)
end PC
