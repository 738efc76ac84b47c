/-! tunes -/
def th (K : GT) (x : Int32) : GT := upR K 0 (upd (K 0) 6 x)
/-- how a tune goes to a sound -/
def rs (s : Nat → Int32) (j : Nat) : Int := if 0 ≤ ht s j ∧ 0 ≤ da s j then pt s j - pt s (dn s j) else 0
def wk (s : Nat → Int32) : Int := sm (fun j => ab (rs s j)) (ns s)
def up (s : Nat → Int32) : Int := sm (fun j => if 0 < rs s j then 1 else 0) (ns s)
def dw (s : Nat → Int32) : Int := sm (fun j => if rs s j < 0 then 1 else 0) (ns s)
def lo (s : Nat → Int32) : Nat → Int
  | 0 => 12
  | n + 1 => if ht s n < 0 then lo s n else min (lo s n) (pt s n)
def hq (s : Nat → Int32) : Nat → Int
  | 0 => -1
  | n + 1 => if ht s n < 0 then hq s n else max (hq s n) (pt s n)
def wd (s : Nat → Int32) : Int := if hq s (ns s) < 0 then 0 else hq s (ns s) - lo s (ns s)
def wp (s : Nat → Int32) (p : Int) : Int := sm (fun j => if pc s j = p then 1 else 0) (ns s)
def sp2 (s : Nat → Int32) : Int := sm (fun j => max 0 (pc s j)) (ns s)
section PI
variable {G K : GT} {s : Nat → Int32}
theorem th1 (K : GT) (x : Int32) : th K x 1 = K 1 := rfl
theorem th06 (K : GT) (x : Int32) : th K x 0 6 = x := rfl
theorem th_d (K : GT) (x : Int32) : upR K 0 (upd (K 0) 6 x) = th K x := rfl
theorem rs_r (hI : Inv s) {j : Nat} (hj : j < ns s) : -11 ≤ rs s j ∧ rs s j ≤ 11 := by
  unfold rs
  have h1 := pt_r hI hj
  rcases da_r s j with ⟨h2, -⟩ | ⟨h2, h3, h4, -⟩
  · rw [if_neg (by omega)]; omega
  · have h5 := pt_r hI (j := dn s j) (by omega)
    by_cases h : 0 ≤ ht s j ∧ 0 ≤ da s j
    · rw [if_pos h]; omega
    · rw [if_neg h]; omega
theorem ab_r {x : Int} (h : -11 ≤ x ∧ x ≤ 11) : 0 ≤ ab x ∧ ab x ≤ 11 := by unfold ab; omega
theorem c_riseTo (hP : Pr G 0 s) (hI : Inv s) {j : Nat} (hj : j < ns s) : f_X3_riseTo G (iI j) = some (iI (rs s j)) := by
  have h1 := pt_r hI hj
  have h16 := hI.ns16
  unfold f_X3_riseTo rs
  rcases da_r s j with ⟨h2, -⟩ | ⟨h2, h3, h4, -⟩
  · (simp (disch := omega) only [pl0, pl1, pl2, pl3, pl4, pl5, pl6, pl7, pl8, pl9, pl10, pl11, pl12, pl16, pl19, lit_nI, iI_add, iI_sub, iI_mul, iI_neg, iI_le, iI_lt, iI_eq, iI_max, iI_min, Option.bind_some, Option.bind_eq_bind, if_true, if_false, c_da hP hI (show j ≤ ns s by omega), h2]; (repeat (first | rw [if_pos (by omega)] | rw [if_neg (by omega)])); (try simp (disch := omega) only [pl0, pl1, pl2, pl3, pl4, pl5, pl6, pl7, pl8, pl9, pl10, pl11, pl12, pl16, pl19, lit_nI, iI_add, iI_sub, iI_mul, iI_neg, iI_le, iI_lt, iI_eq, iI_max, iI_min, Option.bind_some, Option.bind_eq_bind, if_true, if_false]); (repeat (first | rw [if_pos (by omega)] | rw [if_neg (by omega)])); (try rfl))
  · have h5 := pt_r hI (j := dn s j) (by omega)
    by_cases hd : ht s j < 0
    · (simp (disch := omega) only [pl0, pl1, pl2, pl3, pl4, pl5, pl6, pl7, pl8, pl9, pl10, pl11, pl12, pl16, pl19, lit_nI, iI_add, iI_sub, iI_mul, iI_neg, iI_le, iI_lt, iI_eq, iI_max, iI_min, Option.bind_some, Option.bind_eq_bind, if_true, if_false, c_da hP hI (show j ≤ ns s by omega), h2, c_isRest hP hI hj]; (repeat (first | rw [if_pos (by omega)] | rw [if_neg (by omega)])); (try simp (disch := omega) only [pl0, pl1, pl2, pl3, pl4, pl5, pl6, pl7, pl8, pl9, pl10, pl11, pl12, pl16, pl19, lit_nI, iI_add, iI_sub, iI_mul, iI_neg, iI_le, iI_lt, iI_eq, iI_max, iI_min, Option.bind_some, Option.bind_eq_bind, if_true, if_false]); (repeat (first | rw [if_pos (by omega)] | rw [if_neg (by omega)])); (try rfl))
    · (simp (disch := omega) only [pl0, pl1, pl2, pl3, pl4, pl5, pl6, pl7, pl8, pl9, pl10, pl11, pl12, pl16, pl19, lit_nI, iI_add, iI_sub, iI_mul, iI_neg, iI_le, iI_lt, iI_eq, iI_max, iI_min, Option.bind_some, Option.bind_eq_bind, if_true, if_false, c_da hP hI (show j ≤ ns s by omega), h2, c_isRest hP hI hj, c_pitchOf hP hI hj, c_pitchOf hP hI (show dn s j < ns s by omega), pc_d (Int.not_lt.mp hd), pc_d h4]; (repeat (first | rw [if_pos (by omega)] | rw [if_neg (by omega)])); (try simp (disch := omega) only [pl0, pl1, pl2, pl3, pl4, pl5, pl6, pl7, pl8, pl9, pl10, pl11, pl12, pl16, pl19, lit_nI, iI_add, iI_sub, iI_mul, iI_neg, iI_le, iI_lt, iI_eq, iI_max, iI_min, Option.bind_some, Option.bind_eq_bind, if_true, if_false]); (repeat (first | rw [if_pos (by omega)] | rw [if_neg (by omega)])); (try rfl))
theorem c_way (hP : Pr G 0 s) (hI : Inv s) : f_X3_way G = some (iI (wk s)) := by
  have h3 := hI.ns16
  have hb0 := c_ns hP hI
  unfold f_X3_way f_X3_way_4 f_X5_countOfSounds wk
  refine lq2_for (X1 := fun i => iI (sm (fun j => ab (rs s j)) i)) (X2 := fun i => iI i) (ns s) _ (fun k i hi => ?_) (fun k => ?_) (by omega)
  · have h := rs_r hI hi
    have h2 := ab_r h
    (simp (disch := omega) only [pl0, pl1, pl2, pl3, pl4, pl5, pl6, pl7, pl8, pl9, pl10, pl11, pl12, pl16, pl19, lit_nI, iI_add, iI_sub, iI_mul, iI_neg, iI_le, iI_lt, iI_eq, iI_max, iI_min, Option.bind_some, Option.bind_eq_bind, if_true, if_false, sm_1, hb0, c_riseTo hP hI hi, iI_abs]; (repeat (first | rw [if_pos (by omega)] | rw [if_neg (by omega)])); (try simp (disch := omega) only [pl0, pl1, pl2, pl3, pl4, pl5, pl6, pl7, pl8, pl9, pl10, pl11, pl12, pl16, pl19, lit_nI, iI_add, iI_sub, iI_mul, iI_neg, iI_le, iI_lt, iI_eq, iI_max, iI_min, Option.bind_some, Option.bind_eq_bind, if_true, if_false]); (repeat (first | rw [if_pos (by omega)] | rw [if_neg (by omega)])); (try rfl))
  · simp (disch := omega) only [pl0, pl1, pl2, pl3, pl4, pl5, pl6, pl7, pl8, pl9, pl10, pl11, pl12, pl16, pl19, lit_nI, iI_add, iI_sub, iI_mul, iI_neg, iI_le, iI_lt, iI_eq, iI_max, iI_min, Option.bind_some, Option.bind_eq_bind, if_true, if_false, hb0]
    (repeat (first | rw [if_pos (by omega)] | rw [if_neg (by omega)]))
theorem c_moves1 (hP : Pr G 0 s) (hI : Inv s) : f_X3_moves G (iI 1) = some (iI (up s)) := by
  have h3 := hI.ns16
  have hb0 := c_ns hP hI
  unfold f_X3_moves f_X3_moves_4 f_X5_countOfSounds up
  refine lq2_for (X1 := fun i => iI (sm (fun j => if 0 < rs s j then 1 else 0) i)) (X2 := fun i => iI i) (ns s) _ (fun k i hi => ?_) (fun k => ?_) (by omega)
  · have h := rs_r hI hi
    by_cases h1 : 0 < rs s i <;> (simp (disch := omega) only [pl0, pl1, pl2, pl3, pl4, pl5, pl6, pl7, pl8, pl9, pl10, pl11, pl12, pl16, pl19, lit_nI, iI_add, iI_sub, iI_mul, iI_neg, iI_le, iI_lt, iI_eq, iI_max, iI_min, Option.bind_some, Option.bind_eq_bind, if_true, if_false, sm_1, hb0, c_riseTo hP hI hi]; (repeat (first | rw [if_pos (by omega)] | rw [if_neg (by omega)])); (try simp only [f_X3_moves_40, f_X3_moves_44, f_X3_moves_45]); (try simp (disch := omega) only [pl0, pl1, pl2, pl3, pl4, pl5, pl6, pl7, pl8, pl9, pl10, pl11, pl12, pl16, pl19, lit_nI, iI_add, iI_sub, iI_mul, iI_neg, iI_le, iI_lt, iI_eq, iI_max, iI_min, Option.bind_some, Option.bind_eq_bind, if_true, if_false, sm_1, hb0, c_riseTo hP hI hi]); (repeat (first | rw [if_pos (by omega)] | rw [if_neg (by omega)])); (try simp only [f_X3_moves_40, f_X3_moves_44, f_X3_moves_45]); (try simp (disch := omega) only [pl0, pl1, pl2, pl3, pl4, pl5, pl6, pl7, pl8, pl9, pl10, pl11, pl12, pl16, pl19, lit_nI, iI_add, iI_sub, iI_mul, iI_neg, iI_le, iI_lt, iI_eq, iI_max, iI_min, Option.bind_some, Option.bind_eq_bind, if_true, if_false, sm_1, hb0, c_riseTo hP hI hi]); (repeat (first | rw [if_pos (by omega)] | rw [if_neg (by omega)])); (try simp only [f_X3_moves_40, f_X3_moves_44, f_X3_moves_45]); (try simp (disch := omega) only [pl0, pl1, pl2, pl3, pl4, pl5, pl6, pl7, pl8, pl9, pl10, pl11, pl12, pl16, pl19, lit_nI, iI_add, iI_sub, iI_mul, iI_neg, iI_le, iI_lt, iI_eq, iI_max, iI_min, Option.bind_some, Option.bind_eq_bind, if_true, if_false, sm_1, hb0, c_riseTo hP hI hi]); (repeat (first | rw [if_pos (by omega)] | rw [if_neg (by omega)])); (try simp only [f_X3_moves_40, f_X3_moves_44, f_X3_moves_45]); (try simp (disch := omega) only [pl0, pl1, pl2, pl3, pl4, pl5, pl6, pl7, pl8, pl9, pl10, pl11, pl12, pl16, pl19, lit_nI, iI_add, iI_sub, iI_mul, iI_neg, iI_le, iI_lt, iI_eq, iI_max, iI_min, Option.bind_some, Option.bind_eq_bind, if_true, if_false, sm_1, hb0, c_riseTo hP hI hi]); (repeat (first | rw [if_pos (by omega)] | rw [if_neg (by omega)])); (try rfl))
  · simp (disch := omega) only [pl0, pl1, pl2, pl3, pl4, pl5, pl6, pl7, pl8, pl9, pl10, pl11, pl12, pl16, pl19, lit_nI, iI_add, iI_sub, iI_mul, iI_neg, iI_le, iI_lt, iI_eq, iI_max, iI_min, Option.bind_some, Option.bind_eq_bind, if_true, if_false, hb0]
    (repeat (first | rw [if_pos (by omega)] | rw [if_neg (by omega)]))
theorem c_moves0 (hP : Pr G 0 s) (hI : Inv s) : f_X3_moves G (iI 0) = some (iI (dw s)) := by
  have h3 := hI.ns16
  have hb0 := c_ns hP hI
  unfold f_X3_moves f_X3_moves_4 f_X5_countOfSounds dw
  refine lq2_for (X1 := fun i => iI (sm (fun j => if rs s j < 0 then 1 else 0) i)) (X2 := fun i => iI i) (ns s) _ (fun k i hi => ?_) (fun k => ?_) (by omega)
  · have h := rs_r hI hi
    by_cases h1 : rs s i < 0 <;> (simp (disch := omega) only [pl0, pl1, pl2, pl3, pl4, pl5, pl6, pl7, pl8, pl9, pl10, pl11, pl12, pl16, pl19, lit_nI, iI_add, iI_sub, iI_mul, iI_neg, iI_le, iI_lt, iI_eq, iI_max, iI_min, Option.bind_some, Option.bind_eq_bind, if_true, if_false, sm_1, hb0, c_riseTo hP hI hi]; (repeat (first | rw [if_pos (by omega)] | rw [if_neg (by omega)])); (try simp only [f_X3_moves_40, f_X3_moves_44, f_X3_moves_45]); (try simp (disch := omega) only [pl0, pl1, pl2, pl3, pl4, pl5, pl6, pl7, pl8, pl9, pl10, pl11, pl12, pl16, pl19, lit_nI, iI_add, iI_sub, iI_mul, iI_neg, iI_le, iI_lt, iI_eq, iI_max, iI_min, Option.bind_some, Option.bind_eq_bind, if_true, if_false, sm_1, hb0, c_riseTo hP hI hi]); (repeat (first | rw [if_pos (by omega)] | rw [if_neg (by omega)])); (try simp only [f_X3_moves_40, f_X3_moves_44, f_X3_moves_45]); (try simp (disch := omega) only [pl0, pl1, pl2, pl3, pl4, pl5, pl6, pl7, pl8, pl9, pl10, pl11, pl12, pl16, pl19, lit_nI, iI_add, iI_sub, iI_mul, iI_neg, iI_le, iI_lt, iI_eq, iI_max, iI_min, Option.bind_some, Option.bind_eq_bind, if_true, if_false, sm_1, hb0, c_riseTo hP hI hi]); (repeat (first | rw [if_pos (by omega)] | rw [if_neg (by omega)])); (try simp only [f_X3_moves_40, f_X3_moves_44, f_X3_moves_45]); (try simp (disch := omega) only [pl0, pl1, pl2, pl3, pl4, pl5, pl6, pl7, pl8, pl9, pl10, pl11, pl12, pl16, pl19, lit_nI, iI_add, iI_sub, iI_mul, iI_neg, iI_le, iI_lt, iI_eq, iI_max, iI_min, Option.bind_some, Option.bind_eq_bind, if_true, if_false, sm_1, hb0, c_riseTo hP hI hi]); (repeat (first | rw [if_pos (by omega)] | rw [if_neg (by omega)])); (try simp only [f_X3_moves_40, f_X3_moves_44, f_X3_moves_45]); (try simp (disch := omega) only [pl0, pl1, pl2, pl3, pl4, pl5, pl6, pl7, pl8, pl9, pl10, pl11, pl12, pl16, pl19, lit_nI, iI_add, iI_sub, iI_mul, iI_neg, iI_le, iI_lt, iI_eq, iI_max, iI_min, Option.bind_some, Option.bind_eq_bind, if_true, if_false, sm_1, hb0, c_riseTo hP hI hi]); (repeat (first | rw [if_pos (by omega)] | rw [if_neg (by omega)])); (try rfl))
  · simp (disch := omega) only [pl0, pl1, pl2, pl3, pl4, pl5, pl6, pl7, pl8, pl9, pl10, pl11, pl12, pl16, pl19, lit_nI, iI_add, iI_sub, iI_mul, iI_neg, iI_le, iI_lt, iI_eq, iI_max, iI_min, Option.bind_some, Option.bind_eq_bind, if_true, if_false, hb0]
    (repeat (first | rw [if_pos (by omega)] | rw [if_neg (by omega)]))
theorem lohi_r (hI : Inv s) : ∀ n, n ≤ ns s → 0 ≤ lo s n ∧ lo s n ≤ 12 ∧ -1 ≤ hq s n ∧ hq s n ≤ 11 ∧ ((dr s n = 0 ∧ hq s n = -1) ∨ (0 < dr s n ∧ 0 ≤ hq s n)) := by
  intro n
  induction n with
  | zero =>
    intro _
    have e1 : lo s 0 = 12 := rfl
    have e2 : hq s 0 = -1 := rfl
    have e3 : dr s 0 = 0 := rfl
    omega
  | succ n ih =>
    intro hn
    obtain ⟨h1, h2, h3, h4, h5⟩ := ih (by omega)
    have h6 := pt_r hI (j := n) (by omega)
    have e : dr s (n + 1) = dr s n + (if ht s n < 0 then 0 else 1) := rfl
    have e1 : lo s (n + 1) = if ht s n < 0 then lo s n else min (lo s n) (pt s n) := rfl
    have e2 : hq s (n + 1) = if ht s n < 0 then hq s n else max (hq s n) (pt s n) := rfl
    by_cases hd : ht s n < 0
    · rw [if_pos hd] at e e1 e2
      rw [e, e1, e2]
      omega
    · rw [if_neg hd] at e e1 e2
      rw [e, e1, e2]
      omega
theorem c_width (hP : Pr G 0 s) (hI : Inv s) : f_X3_width G = some (iI (wd s)) := by
  have h3 := hI.ns16
  have hb0 := c_ns hP hI
  unfold f_X3_width f_X3_width_7 f_X5_countOfSounds
  refine lq3_for (X1 := fun i => iI (lo s i)) (X2 := fun i => iI (hq s i)) (X3 := fun i => iI i) (ns s) _ (fun k i hi => ?_) (fun k => ?_) (by omega)
  · obtain ⟨q1, q2, q3, q4, -⟩ := lohi_r hI i (by omega)
    have h1 := pt_r hI hi
    have h2 := pc_r hI hi
    by_cases hd : ht s i < 0
    · have e : pc s i = -1 := if_pos hd
      (simp (disch := omega) only [pl0, pl1, pl2, pl3, pl4, pl5, pl6, pl7, pl8, pl9, pl10, pl11, pl12, pl16, pl19, lit_nI, iI_add, iI_sub, iI_mul, iI_neg, iI_le, iI_lt, iI_eq, iI_max, iI_min, Option.bind_some, Option.bind_eq_bind, if_true, if_false, hb0, c_pitchOf hP hI hi, e, lo, hq]; (repeat (first | rw [if_pos (by omega)] | rw [if_neg (by omega)])); (try simp only [f_X3_width_48]); (try simp (disch := omega) only [pl0, pl1, pl2, pl3, pl4, pl5, pl6, pl7, pl8, pl9, pl10, pl11, pl12, pl16, pl19, lit_nI, iI_add, iI_sub, iI_mul, iI_neg, iI_le, iI_lt, iI_eq, iI_max, iI_min, Option.bind_some, Option.bind_eq_bind, if_true, if_false, hb0, c_pitchOf hP hI hi, e, lo, hq]); (repeat (first | rw [if_pos (by omega)] | rw [if_neg (by omega)])); (try simp only [f_X3_width_48]); (try simp (disch := omega) only [pl0, pl1, pl2, pl3, pl4, pl5, pl6, pl7, pl8, pl9, pl10, pl11, pl12, pl16, pl19, lit_nI, iI_add, iI_sub, iI_mul, iI_neg, iI_le, iI_lt, iI_eq, iI_max, iI_min, Option.bind_some, Option.bind_eq_bind, if_true, if_false, hb0, c_pitchOf hP hI hi, e, lo, hq]); (repeat (first | rw [if_pos (by omega)] | rw [if_neg (by omega)])); (try simp only [f_X3_width_48]); (try simp (disch := omega) only [pl0, pl1, pl2, pl3, pl4, pl5, pl6, pl7, pl8, pl9, pl10, pl11, pl12, pl16, pl19, lit_nI, iI_add, iI_sub, iI_mul, iI_neg, iI_le, iI_lt, iI_eq, iI_max, iI_min, Option.bind_some, Option.bind_eq_bind, if_true, if_false, hb0, c_pitchOf hP hI hi, e, lo, hq]); (repeat (first | rw [if_pos (by omega)] | rw [if_neg (by omega)])); (try simp only [f_X3_width_48]); (try simp (disch := omega) only [pl0, pl1, pl2, pl3, pl4, pl5, pl6, pl7, pl8, pl9, pl10, pl11, pl12, pl16, pl19, lit_nI, iI_add, iI_sub, iI_mul, iI_neg, iI_le, iI_lt, iI_eq, iI_max, iI_min, Option.bind_some, Option.bind_eq_bind, if_true, if_false, hb0, c_pitchOf hP hI hi, e, lo, hq]); (repeat (first | rw [if_pos (by omega)] | rw [if_neg (by omega)])); (try rfl))
    · have e : pc s i = pt s i := if_neg hd
      (simp (disch := omega) only [pl0, pl1, pl2, pl3, pl4, pl5, pl6, pl7, pl8, pl9, pl10, pl11, pl12, pl16, pl19, lit_nI, iI_add, iI_sub, iI_mul, iI_neg, iI_le, iI_lt, iI_eq, iI_max, iI_min, Option.bind_some, Option.bind_eq_bind, if_true, if_false, hb0, c_pitchOf hP hI hi, e, lo, hq]; (repeat (first | rw [if_pos (by omega)] | rw [if_neg (by omega)])); (try simp only [f_X3_width_48]); (try simp (disch := omega) only [pl0, pl1, pl2, pl3, pl4, pl5, pl6, pl7, pl8, pl9, pl10, pl11, pl12, pl16, pl19, lit_nI, iI_add, iI_sub, iI_mul, iI_neg, iI_le, iI_lt, iI_eq, iI_max, iI_min, Option.bind_some, Option.bind_eq_bind, if_true, if_false, hb0, c_pitchOf hP hI hi, e, lo, hq]); (repeat (first | rw [if_pos (by omega)] | rw [if_neg (by omega)])); (try simp only [f_X3_width_48]); (try simp (disch := omega) only [pl0, pl1, pl2, pl3, pl4, pl5, pl6, pl7, pl8, pl9, pl10, pl11, pl12, pl16, pl19, lit_nI, iI_add, iI_sub, iI_mul, iI_neg, iI_le, iI_lt, iI_eq, iI_max, iI_min, Option.bind_some, Option.bind_eq_bind, if_true, if_false, hb0, c_pitchOf hP hI hi, e, lo, hq]); (repeat (first | rw [if_pos (by omega)] | rw [if_neg (by omega)])); (try simp only [f_X3_width_48]); (try simp (disch := omega) only [pl0, pl1, pl2, pl3, pl4, pl5, pl6, pl7, pl8, pl9, pl10, pl11, pl12, pl16, pl19, lit_nI, iI_add, iI_sub, iI_mul, iI_neg, iI_le, iI_lt, iI_eq, iI_max, iI_min, Option.bind_some, Option.bind_eq_bind, if_true, if_false, hb0, c_pitchOf hP hI hi, e, lo, hq]); (repeat (first | rw [if_pos (by omega)] | rw [if_neg (by omega)])); (try simp only [f_X3_width_48]); (try simp (disch := omega) only [pl0, pl1, pl2, pl3, pl4, pl5, pl6, pl7, pl8, pl9, pl10, pl11, pl12, pl16, pl19, lit_nI, iI_add, iI_sub, iI_mul, iI_neg, iI_le, iI_lt, iI_eq, iI_max, iI_min, Option.bind_some, Option.bind_eq_bind, if_true, if_false, hb0, c_pitchOf hP hI hi, e, lo, hq]); (repeat (first | rw [if_pos (by omega)] | rw [if_neg (by omega)])); (try rfl))
  · obtain ⟨q1, q2, q3, q4, -⟩ := lohi_r hI (ns s) (Nat.le_refl _)
    unfold wd
    by_cases h : hq s (ns s) < 0 <;> (simp (disch := omega) only [pl0, pl1, pl2, pl3, pl4, pl5, pl6, pl7, pl8, pl9, pl10, pl11, pl12, pl16, pl19, lit_nI, iI_add, iI_sub, iI_mul, iI_neg, iI_le, iI_lt, iI_eq, iI_max, iI_min, Option.bind_some, Option.bind_eq_bind, if_true, if_false, hb0]; (repeat (first | rw [if_pos (by omega)] | rw [if_neg (by omega)])); (try simp (disch := omega) only [pl0, pl1, pl2, pl3, pl4, pl5, pl6, pl7, pl8, pl9, pl10, pl11, pl12, pl16, pl19, lit_nI, iI_add, iI_sub, iI_mul, iI_neg, iI_le, iI_lt, iI_eq, iI_max, iI_min, Option.bind_some, Option.bind_eq_bind, if_true, if_false]); (repeat (first | rw [if_pos (by omega)] | rw [if_neg (by omega)])); (try rfl))
theorem pc_p {j : Nat} {p : Int} (hp : 0 ≤ p) : (pc s j = p) = (0 ≤ ht s j ∧ pt s j = p) := by
  apply propext
  unfold pc
  by_cases h : ht s j < 0
  · rw [if_pos h]; omega
  · rw [if_neg h]; omega
theorem c_dropsAt (hP : Pr G 0 s) (hI : Inv s) {p : Int} (hp : 0 ≤ p ∧ p ≤ 11) : f_X3_dropsAt G (iI p) = some (iI (wp s p)) := by
  have h3 := hI.ns16
  have hb0 := c_ns hP hI
  unfold f_X3_dropsAt f_X3_dropsAt_4 f_X5_countOfSounds wp
  refine lq2_for (X1 := fun i => iI (sm (fun j => if pc s j = p then 1 else 0) i)) (X2 := fun i => iI i) (ns s) _ (fun k i hi => ?_) (fun k => ?_) (by omega)
  · have h := pc_r hI hi
    by_cases h1 : pc s i = p <;> (simp (disch := omega) only [pl0, pl1, pl2, pl3, pl4, pl5, pl6, pl7, pl8, pl9, pl10, pl11, pl12, pl16, pl19, lit_nI, iI_add, iI_sub, iI_mul, iI_neg, iI_le, iI_lt, iI_eq, iI_max, iI_min, Option.bind_some, Option.bind_eq_bind, if_true, if_false, sm_1, hb0, c_pitchOf hP hI hi]; (repeat (first | rw [if_pos (by omega)] | rw [if_neg (by omega)])); (try simp only [f_X3_dropsAt_33]); (try simp (disch := omega) only [pl0, pl1, pl2, pl3, pl4, pl5, pl6, pl7, pl8, pl9, pl10, pl11, pl12, pl16, pl19, lit_nI, iI_add, iI_sub, iI_mul, iI_neg, iI_le, iI_lt, iI_eq, iI_max, iI_min, Option.bind_some, Option.bind_eq_bind, if_true, if_false, sm_1, hb0, c_pitchOf hP hI hi]); (repeat (first | rw [if_pos (by omega)] | rw [if_neg (by omega)])); (try simp only [f_X3_dropsAt_33]); (try simp (disch := omega) only [pl0, pl1, pl2, pl3, pl4, pl5, pl6, pl7, pl8, pl9, pl10, pl11, pl12, pl16, pl19, lit_nI, iI_add, iI_sub, iI_mul, iI_neg, iI_le, iI_lt, iI_eq, iI_max, iI_min, Option.bind_some, Option.bind_eq_bind, if_true, if_false, sm_1, hb0, c_pitchOf hP hI hi]); (repeat (first | rw [if_pos (by omega)] | rw [if_neg (by omega)])); (try simp only [f_X3_dropsAt_33]); (try simp (disch := omega) only [pl0, pl1, pl2, pl3, pl4, pl5, pl6, pl7, pl8, pl9, pl10, pl11, pl12, pl16, pl19, lit_nI, iI_add, iI_sub, iI_mul, iI_neg, iI_le, iI_lt, iI_eq, iI_max, iI_min, Option.bind_some, Option.bind_eq_bind, if_true, if_false, sm_1, hb0, c_pitchOf hP hI hi]); (repeat (first | rw [if_pos (by omega)] | rw [if_neg (by omega)])); (try simp only [f_X3_dropsAt_33]); (try simp (disch := omega) only [pl0, pl1, pl2, pl3, pl4, pl5, pl6, pl7, pl8, pl9, pl10, pl11, pl12, pl16, pl19, lit_nI, iI_add, iI_sub, iI_mul, iI_neg, iI_le, iI_lt, iI_eq, iI_max, iI_min, Option.bind_some, Option.bind_eq_bind, if_true, if_false, sm_1, hb0, c_pitchOf hP hI hi]); (repeat (first | rw [if_pos (by omega)] | rw [if_neg (by omega)])); (try rfl))
  · simp (disch := omega) only [pl0, pl1, pl2, pl3, pl4, pl5, pl6, pl7, pl8, pl9, pl10, pl11, pl12, pl16, pl19, lit_nI, iI_add, iI_sub, iI_mul, iI_neg, iI_le, iI_lt, iI_eq, iI_max, iI_min, Option.bind_some, Option.bind_eq_bind, if_true, if_false, hb0]
    (repeat (first | rw [if_pos (by omega)] | rw [if_neg (by omega)]))
theorem dr_r (hI : Inv s) : 0 ≤ dr s (ns s) ∧ dr s (ns s) ≤ ns s := by
  have h1 := sm_le (f := fun j => if ht s j < 0 then 0 else 1) (n := ns s) (a := 1) (fun j _ => by by_cases h : ht s j < 0 <;> simp [h])
  have h2 := sm_ge (f := fun j => if ht s j < 0 then 0 else 1) (n := ns s) (a := 0) (fun j _ => by by_cases h : ht s j < 0 <;> simp [h])
  unfold dr
  omega
theorem c_countOfDrops (hP : Pr G 0 s) (hI : Inv s) : f_X3_countOfDrops G = some (iI (dr s (ns s))) := by
  have e : (ns s : Int) - ((ns s : Int) - dr s (ns s)) = dr s (ns s) := by omega
  unfold f_X3_countOfDrops f_X5_countOfSounds
  simp (disch := omega) only [pl0, pl1, pl2, pl3, pl4, pl5, pl6, pl7, pl8, pl9, pl10, pl11, pl12, pl16, pl19, lit_nI, iI_add, iI_sub, iI_mul, iI_neg, iI_le, iI_lt, iI_eq, iI_max, iI_min, Option.bind_some, Option.bind_eq_bind, if_true, if_false, c_countOfRests hP hI, c_ns hP hI, e]
theorem c_sumOfPitches (hP : Pr G 0 s) (hI : Inv s) : f_X3_sumOfPitches G = some (iI (sp2 s)) := by
  have h3 := hI.ns16
  have hb0 := c_ns hP hI
  unfold f_X3_sumOfPitches f_X3_sumOfPitches_4 f_X5_countOfSounds sp2
  refine lq2_for (X1 := fun i => iI (sm (fun j => max 0 (pc s j)) i)) (X2 := fun i => iI i) (ns s) _ (fun k i hi => ?_) (fun k => ?_) (by omega)
  · have h := pc_r hI hi
    (simp (disch := omega) only [pl0, pl1, pl2, pl3, pl4, pl5, pl6, pl7, pl8, pl9, pl10, pl11, pl12, pl16, pl19, lit_nI, iI_add, iI_sub, iI_mul, iI_neg, iI_le, iI_lt, iI_eq, iI_max, iI_min, Option.bind_some, Option.bind_eq_bind, if_true, if_false, sm_1, hb0, c_pitchOf hP hI hi]; (repeat (first | rw [if_pos (by omega)] | rw [if_neg (by omega)])); (try simp (disch := omega) only [pl0, pl1, pl2, pl3, pl4, pl5, pl6, pl7, pl8, pl9, pl10, pl11, pl12, pl16, pl19, lit_nI, iI_add, iI_sub, iI_mul, iI_neg, iI_le, iI_lt, iI_eq, iI_max, iI_min, Option.bind_some, Option.bind_eq_bind, if_true, if_false]); (repeat (first | rw [if_pos (by omega)] | rw [if_neg (by omega)])); (try rfl))
  · simp (disch := omega) only [pl0, pl1, pl2, pl3, pl4, pl5, pl6, pl7, pl8, pl9, pl10, pl11, pl12, pl16, pl19, lit_nI, iI_add, iI_sub, iI_mul, iI_neg, iI_le, iI_lt, iI_eq, iI_max, iI_min, Option.bind_some, Option.bind_eq_bind, if_true, if_false, hb0]
    (repeat (first | rw [if_pos (by omega)] | rw [if_neg (by omega)]))
/-- a step of the way that is gone over -/
def tv (s : Nat → Int32) (st : Int) (j : Nat) : Int := if 0 ≤ ht s j ∧ la s j ≠ -1 ∧ ((pt s j ≤ st ∧ st < la s j) ∨ (la s j ≤ st ∧ st < pt s j)) then 1 else 0
theorem c_timesOver (hP : Pr G 0 s) (hI : Inv s) {st : Nat} (hst : st < 11) : f_X3_timesOver G (iI st) = some (iI (sm (tv s st) (ns s))) := by
  have h3 := hI.ns16
  have hb0 := c_ns hP hI
  unfold f_X3_timesOver f_X3_timesOver_7 f_X5_countOfSounds
  refine lq3_fr (X1 := fun i => iI (sm (tv s st) i)) (X2 := fun i => iI (la s i)) (X3 := fun i => iI i) (ns s) _ rfl rfl rfl (fun k i hi => ?_) (fun k => ?_) (by omega)
  · have q1 := la_r hI (n := i) (by omega)
    have q3 := pt_r hI hi
    by_cases hd : ht s i < 0
    · obtain ⟨g1, -⟩ := la_1r hd
      have e : pc s i = -1 := if_pos hd
      have hv : tv s st i = 0 := if_neg (by omega)
      (simp (disch := omega) only [pl0, pl1, pl2, pl3, pl4, pl5, pl6, pl7, pl8, pl9, pl10, pl11, pl12, pl16, pl19, lit_nI, iI_add, iI_sub, iI_mul, iI_neg, iI_le, iI_lt, iI_eq, iI_max, iI_min, Option.bind_some, Option.bind_eq_bind, if_true, if_false, sm_1, hb0, c_pitchOf hP hI hi, e, g1, hv, Int.add_zero]; (repeat (first | rw [if_pos (by omega)] | rw [if_neg (by omega)])); (try simp only [f_X3_timesOver_79]); (try simp (disch := omega) only [pl0, pl1, pl2, pl3, pl4, pl5, pl6, pl7, pl8, pl9, pl10, pl11, pl12, pl16, pl19, lit_nI, iI_add, iI_sub, iI_mul, iI_neg, iI_le, iI_lt, iI_eq, iI_max, iI_min, Option.bind_some, Option.bind_eq_bind, if_true, if_false, sm_1, hb0, c_pitchOf hP hI hi, e, g1, hv, Int.add_zero]); (repeat (first | rw [if_pos (by omega)] | rw [if_neg (by omega)])); (try simp only [f_X3_timesOver_79]); (try simp (disch := omega) only [pl0, pl1, pl2, pl3, pl4, pl5, pl6, pl7, pl8, pl9, pl10, pl11, pl12, pl16, pl19, lit_nI, iI_add, iI_sub, iI_mul, iI_neg, iI_le, iI_lt, iI_eq, iI_max, iI_min, Option.bind_some, Option.bind_eq_bind, if_true, if_false, sm_1, hb0, c_pitchOf hP hI hi, e, g1, hv, Int.add_zero]); (repeat (first | rw [if_pos (by omega)] | rw [if_neg (by omega)])); (try simp only [f_X3_timesOver_79]); (try simp (disch := omega) only [pl0, pl1, pl2, pl3, pl4, pl5, pl6, pl7, pl8, pl9, pl10, pl11, pl12, pl16, pl19, lit_nI, iI_add, iI_sub, iI_mul, iI_neg, iI_le, iI_lt, iI_eq, iI_max, iI_min, Option.bind_some, Option.bind_eq_bind, if_true, if_false, sm_1, hb0, c_pitchOf hP hI hi, e, g1, hv, Int.add_zero]); (repeat (first | rw [if_pos (by omega)] | rw [if_neg (by omega)])); (try simp only [f_X3_timesOver_79]); (try simp (disch := omega) only [pl0, pl1, pl2, pl3, pl4, pl5, pl6, pl7, pl8, pl9, pl10, pl11, pl12, pl16, pl19, lit_nI, iI_add, iI_sub, iI_mul, iI_neg, iI_le, iI_lt, iI_eq, iI_max, iI_min, Option.bind_some, Option.bind_eq_bind, if_true, if_false, sm_1, hb0, c_pitchOf hP hI hi, e, g1, hv, Int.add_zero]); (repeat (first | rw [if_pos (by omega)] | rw [if_neg (by omega)])); (try rfl))
    · obtain ⟨g1, -⟩ := la_1d (Int.not_lt.mp hd)
      have e : pc s i = pt s i := if_neg hd
      by_cases c1 : la s i = -1
      · have hv : tv s st i = 0 := if_neg (by omega)
        (simp (disch := omega) only [pl0, pl1, pl2, pl3, pl4, pl5, pl6, pl7, pl8, pl9, pl10, pl11, pl12, pl16, pl19, lit_nI, iI_add, iI_sub, iI_mul, iI_neg, iI_le, iI_lt, iI_eq, iI_max, iI_min, Option.bind_some, Option.bind_eq_bind, if_true, if_false, sm_1, hb0, c_pitchOf hP hI hi, e, g1, hv]; (repeat (first | rw [if_pos (by omega)] | rw [if_neg (by omega)])); (try simp only [f_X3_timesOver_73, f_X3_timesOver_74, f_X3_timesOver_79]); (try simp (disch := omega) only [pl0, pl1, pl2, pl3, pl4, pl5, pl6, pl7, pl8, pl9, pl10, pl11, pl12, pl16, pl19, lit_nI, iI_add, iI_sub, iI_mul, iI_neg, iI_le, iI_lt, iI_eq, iI_max, iI_min, Option.bind_some, Option.bind_eq_bind, if_true, if_false, sm_1, hb0, c_pitchOf hP hI hi, e, g1, hv]); (repeat (first | rw [if_pos (by omega)] | rw [if_neg (by omega)])); (try simp only [f_X3_timesOver_73, f_X3_timesOver_74, f_X3_timesOver_79]); (try simp (disch := omega) only [pl0, pl1, pl2, pl3, pl4, pl5, pl6, pl7, pl8, pl9, pl10, pl11, pl12, pl16, pl19, lit_nI, iI_add, iI_sub, iI_mul, iI_neg, iI_le, iI_lt, iI_eq, iI_max, iI_min, Option.bind_some, Option.bind_eq_bind, if_true, if_false, sm_1, hb0, c_pitchOf hP hI hi, e, g1, hv]); (repeat (first | rw [if_pos (by omega)] | rw [if_neg (by omega)])); (try simp only [f_X3_timesOver_73, f_X3_timesOver_74, f_X3_timesOver_79]); (try simp (disch := omega) only [pl0, pl1, pl2, pl3, pl4, pl5, pl6, pl7, pl8, pl9, pl10, pl11, pl12, pl16, pl19, lit_nI, iI_add, iI_sub, iI_mul, iI_neg, iI_le, iI_lt, iI_eq, iI_max, iI_min, Option.bind_some, Option.bind_eq_bind, if_true, if_false, sm_1, hb0, c_pitchOf hP hI hi, e, g1, hv]); (repeat (first | rw [if_pos (by omega)] | rw [if_neg (by omega)])); (try simp only [f_X3_timesOver_73, f_X3_timesOver_74, f_X3_timesOver_79]); (try simp (disch := omega) only [pl0, pl1, pl2, pl3, pl4, pl5, pl6, pl7, pl8, pl9, pl10, pl11, pl12, pl16, pl19, lit_nI, iI_add, iI_sub, iI_mul, iI_neg, iI_le, iI_lt, iI_eq, iI_max, iI_min, Option.bind_some, Option.bind_eq_bind, if_true, if_false, sm_1, hb0, c_pitchOf hP hI hi, e, g1, hv]); (repeat (first | rw [if_pos (by omega)] | rw [if_neg (by omega)])); (try rfl))
      · by_cases c2 : pt s i ≤ st
        · by_cases c3 : la s i ≤ st
          · have hv : tv s st i = 0 := if_neg (by omega)
            (simp (disch := omega) only [pl0, pl1, pl2, pl3, pl4, pl5, pl6, pl7, pl8, pl9, pl10, pl11, pl12, pl16, pl19, lit_nI, iI_add, iI_sub, iI_mul, iI_neg, iI_le, iI_lt, iI_eq, iI_max, iI_min, Option.bind_some, Option.bind_eq_bind, if_true, if_false, sm_1, hb0, c_pitchOf hP hI hi, e, g1, hv]; (repeat (first | rw [if_pos (by omega)] | rw [if_neg (by omega)])); (try simp only [f_X3_timesOver_56, f_X3_timesOver_66, f_X3_timesOver_73, f_X3_timesOver_74, f_X3_timesOver_79]); (try simp (disch := omega) only [pl0, pl1, pl2, pl3, pl4, pl5, pl6, pl7, pl8, pl9, pl10, pl11, pl12, pl16, pl19, lit_nI, iI_add, iI_sub, iI_mul, iI_neg, iI_le, iI_lt, iI_eq, iI_max, iI_min, Option.bind_some, Option.bind_eq_bind, if_true, if_false, sm_1, hb0, c_pitchOf hP hI hi, e, g1, hv]); (repeat (first | rw [if_pos (by omega)] | rw [if_neg (by omega)])); (try simp only [f_X3_timesOver_56, f_X3_timesOver_66, f_X3_timesOver_73, f_X3_timesOver_74, f_X3_timesOver_79]); (try simp (disch := omega) only [pl0, pl1, pl2, pl3, pl4, pl5, pl6, pl7, pl8, pl9, pl10, pl11, pl12, pl16, pl19, lit_nI, iI_add, iI_sub, iI_mul, iI_neg, iI_le, iI_lt, iI_eq, iI_max, iI_min, Option.bind_some, Option.bind_eq_bind, if_true, if_false, sm_1, hb0, c_pitchOf hP hI hi, e, g1, hv]); (repeat (first | rw [if_pos (by omega)] | rw [if_neg (by omega)])); (try simp only [f_X3_timesOver_56, f_X3_timesOver_66, f_X3_timesOver_73, f_X3_timesOver_74, f_X3_timesOver_79]); (try simp (disch := omega) only [pl0, pl1, pl2, pl3, pl4, pl5, pl6, pl7, pl8, pl9, pl10, pl11, pl12, pl16, pl19, lit_nI, iI_add, iI_sub, iI_mul, iI_neg, iI_le, iI_lt, iI_eq, iI_max, iI_min, Option.bind_some, Option.bind_eq_bind, if_true, if_false, sm_1, hb0, c_pitchOf hP hI hi, e, g1, hv]); (repeat (first | rw [if_pos (by omega)] | rw [if_neg (by omega)])); (try simp only [f_X3_timesOver_56, f_X3_timesOver_66, f_X3_timesOver_73, f_X3_timesOver_74, f_X3_timesOver_79]); (try simp (disch := omega) only [pl0, pl1, pl2, pl3, pl4, pl5, pl6, pl7, pl8, pl9, pl10, pl11, pl12, pl16, pl19, lit_nI, iI_add, iI_sub, iI_mul, iI_neg, iI_le, iI_lt, iI_eq, iI_max, iI_min, Option.bind_some, Option.bind_eq_bind, if_true, if_false, sm_1, hb0, c_pitchOf hP hI hi, e, g1, hv]); (repeat (first | rw [if_pos (by omega)] | rw [if_neg (by omega)])); (try rfl))
          · have hv : tv s st i = 1 := if_pos (by omega)
            (simp (disch := omega) only [pl0, pl1, pl2, pl3, pl4, pl5, pl6, pl7, pl8, pl9, pl10, pl11, pl12, pl16, pl19, lit_nI, iI_add, iI_sub, iI_mul, iI_neg, iI_le, iI_lt, iI_eq, iI_max, iI_min, Option.bind_some, Option.bind_eq_bind, if_true, if_false, sm_1, hb0, c_pitchOf hP hI hi, e, g1, hv]; (repeat (first | rw [if_pos (by omega)] | rw [if_neg (by omega)])); (try simp only [f_X3_timesOver_56, f_X3_timesOver_66, f_X3_timesOver_73, f_X3_timesOver_74, f_X3_timesOver_79]); (try simp (disch := omega) only [pl0, pl1, pl2, pl3, pl4, pl5, pl6, pl7, pl8, pl9, pl10, pl11, pl12, pl16, pl19, lit_nI, iI_add, iI_sub, iI_mul, iI_neg, iI_le, iI_lt, iI_eq, iI_max, iI_min, Option.bind_some, Option.bind_eq_bind, if_true, if_false, sm_1, hb0, c_pitchOf hP hI hi, e, g1, hv]); (repeat (first | rw [if_pos (by omega)] | rw [if_neg (by omega)])); (try simp only [f_X3_timesOver_56, f_X3_timesOver_66, f_X3_timesOver_73, f_X3_timesOver_74, f_X3_timesOver_79]); (try simp (disch := omega) only [pl0, pl1, pl2, pl3, pl4, pl5, pl6, pl7, pl8, pl9, pl10, pl11, pl12, pl16, pl19, lit_nI, iI_add, iI_sub, iI_mul, iI_neg, iI_le, iI_lt, iI_eq, iI_max, iI_min, Option.bind_some, Option.bind_eq_bind, if_true, if_false, sm_1, hb0, c_pitchOf hP hI hi, e, g1, hv]); (repeat (first | rw [if_pos (by omega)] | rw [if_neg (by omega)])); (try simp only [f_X3_timesOver_56, f_X3_timesOver_66, f_X3_timesOver_73, f_X3_timesOver_74, f_X3_timesOver_79]); (try simp (disch := omega) only [pl0, pl1, pl2, pl3, pl4, pl5, pl6, pl7, pl8, pl9, pl10, pl11, pl12, pl16, pl19, lit_nI, iI_add, iI_sub, iI_mul, iI_neg, iI_le, iI_lt, iI_eq, iI_max, iI_min, Option.bind_some, Option.bind_eq_bind, if_true, if_false, sm_1, hb0, c_pitchOf hP hI hi, e, g1, hv]); (repeat (first | rw [if_pos (by omega)] | rw [if_neg (by omega)])); (try simp only [f_X3_timesOver_56, f_X3_timesOver_66, f_X3_timesOver_73, f_X3_timesOver_74, f_X3_timesOver_79]); (try simp (disch := omega) only [pl0, pl1, pl2, pl3, pl4, pl5, pl6, pl7, pl8, pl9, pl10, pl11, pl12, pl16, pl19, lit_nI, iI_add, iI_sub, iI_mul, iI_neg, iI_le, iI_lt, iI_eq, iI_max, iI_min, Option.bind_some, Option.bind_eq_bind, if_true, if_false, sm_1, hb0, c_pitchOf hP hI hi, e, g1, hv]); (repeat (first | rw [if_pos (by omega)] | rw [if_neg (by omega)])); (try rfl))
        · by_cases c3 : la s i ≤ st
          · have hv : tv s st i = 1 := if_pos (by omega)
            (simp (disch := omega) only [pl0, pl1, pl2, pl3, pl4, pl5, pl6, pl7, pl8, pl9, pl10, pl11, pl12, pl16, pl19, lit_nI, iI_add, iI_sub, iI_mul, iI_neg, iI_le, iI_lt, iI_eq, iI_max, iI_min, Option.bind_some, Option.bind_eq_bind, if_true, if_false, sm_1, hb0, c_pitchOf hP hI hi, e, g1, hv]; (repeat (first | rw [if_pos (by omega)] | rw [if_neg (by omega)])); (try simp only [f_X3_timesOver_56, f_X3_timesOver_66, f_X3_timesOver_73, f_X3_timesOver_74, f_X3_timesOver_79]); (try simp (disch := omega) only [pl0, pl1, pl2, pl3, pl4, pl5, pl6, pl7, pl8, pl9, pl10, pl11, pl12, pl16, pl19, lit_nI, iI_add, iI_sub, iI_mul, iI_neg, iI_le, iI_lt, iI_eq, iI_max, iI_min, Option.bind_some, Option.bind_eq_bind, if_true, if_false, sm_1, hb0, c_pitchOf hP hI hi, e, g1, hv]); (repeat (first | rw [if_pos (by omega)] | rw [if_neg (by omega)])); (try simp only [f_X3_timesOver_56, f_X3_timesOver_66, f_X3_timesOver_73, f_X3_timesOver_74, f_X3_timesOver_79]); (try simp (disch := omega) only [pl0, pl1, pl2, pl3, pl4, pl5, pl6, pl7, pl8, pl9, pl10, pl11, pl12, pl16, pl19, lit_nI, iI_add, iI_sub, iI_mul, iI_neg, iI_le, iI_lt, iI_eq, iI_max, iI_min, Option.bind_some, Option.bind_eq_bind, if_true, if_false, sm_1, hb0, c_pitchOf hP hI hi, e, g1, hv]); (repeat (first | rw [if_pos (by omega)] | rw [if_neg (by omega)])); (try simp only [f_X3_timesOver_56, f_X3_timesOver_66, f_X3_timesOver_73, f_X3_timesOver_74, f_X3_timesOver_79]); (try simp (disch := omega) only [pl0, pl1, pl2, pl3, pl4, pl5, pl6, pl7, pl8, pl9, pl10, pl11, pl12, pl16, pl19, lit_nI, iI_add, iI_sub, iI_mul, iI_neg, iI_le, iI_lt, iI_eq, iI_max, iI_min, Option.bind_some, Option.bind_eq_bind, if_true, if_false, sm_1, hb0, c_pitchOf hP hI hi, e, g1, hv]); (repeat (first | rw [if_pos (by omega)] | rw [if_neg (by omega)])); (try simp only [f_X3_timesOver_56, f_X3_timesOver_66, f_X3_timesOver_73, f_X3_timesOver_74, f_X3_timesOver_79]); (try simp (disch := omega) only [pl0, pl1, pl2, pl3, pl4, pl5, pl6, pl7, pl8, pl9, pl10, pl11, pl12, pl16, pl19, lit_nI, iI_add, iI_sub, iI_mul, iI_neg, iI_le, iI_lt, iI_eq, iI_max, iI_min, Option.bind_some, Option.bind_eq_bind, if_true, if_false, sm_1, hb0, c_pitchOf hP hI hi, e, g1, hv]); (repeat (first | rw [if_pos (by omega)] | rw [if_neg (by omega)])); (try rfl))
          · have hv : tv s st i = 0 := if_neg (by omega)
            (simp (disch := omega) only [pl0, pl1, pl2, pl3, pl4, pl5, pl6, pl7, pl8, pl9, pl10, pl11, pl12, pl16, pl19, lit_nI, iI_add, iI_sub, iI_mul, iI_neg, iI_le, iI_lt, iI_eq, iI_max, iI_min, Option.bind_some, Option.bind_eq_bind, if_true, if_false, sm_1, hb0, c_pitchOf hP hI hi, e, g1, hv]; (repeat (first | rw [if_pos (by omega)] | rw [if_neg (by omega)])); (try simp only [f_X3_timesOver_56, f_X3_timesOver_66, f_X3_timesOver_73, f_X3_timesOver_74, f_X3_timesOver_79]); (try simp (disch := omega) only [pl0, pl1, pl2, pl3, pl4, pl5, pl6, pl7, pl8, pl9, pl10, pl11, pl12, pl16, pl19, lit_nI, iI_add, iI_sub, iI_mul, iI_neg, iI_le, iI_lt, iI_eq, iI_max, iI_min, Option.bind_some, Option.bind_eq_bind, if_true, if_false, sm_1, hb0, c_pitchOf hP hI hi, e, g1, hv]); (repeat (first | rw [if_pos (by omega)] | rw [if_neg (by omega)])); (try simp only [f_X3_timesOver_56, f_X3_timesOver_66, f_X3_timesOver_73, f_X3_timesOver_74, f_X3_timesOver_79]); (try simp (disch := omega) only [pl0, pl1, pl2, pl3, pl4, pl5, pl6, pl7, pl8, pl9, pl10, pl11, pl12, pl16, pl19, lit_nI, iI_add, iI_sub, iI_mul, iI_neg, iI_le, iI_lt, iI_eq, iI_max, iI_min, Option.bind_some, Option.bind_eq_bind, if_true, if_false, sm_1, hb0, c_pitchOf hP hI hi, e, g1, hv]); (repeat (first | rw [if_pos (by omega)] | rw [if_neg (by omega)])); (try simp only [f_X3_timesOver_56, f_X3_timesOver_66, f_X3_timesOver_73, f_X3_timesOver_74, f_X3_timesOver_79]); (try simp (disch := omega) only [pl0, pl1, pl2, pl3, pl4, pl5, pl6, pl7, pl8, pl9, pl10, pl11, pl12, pl16, pl19, lit_nI, iI_add, iI_sub, iI_mul, iI_neg, iI_le, iI_lt, iI_eq, iI_max, iI_min, Option.bind_some, Option.bind_eq_bind, if_true, if_false, sm_1, hb0, c_pitchOf hP hI hi, e, g1, hv]); (repeat (first | rw [if_pos (by omega)] | rw [if_neg (by omega)])); (try simp only [f_X3_timesOver_56, f_X3_timesOver_66, f_X3_timesOver_73, f_X3_timesOver_74, f_X3_timesOver_79]); (try simp (disch := omega) only [pl0, pl1, pl2, pl3, pl4, pl5, pl6, pl7, pl8, pl9, pl10, pl11, pl12, pl16, pl19, lit_nI, iI_add, iI_sub, iI_mul, iI_neg, iI_le, iI_lt, iI_eq, iI_max, iI_min, Option.bind_some, Option.bind_eq_bind, if_true, if_false, sm_1, hb0, c_pitchOf hP hI hi, e, g1, hv]); (repeat (first | rw [if_pos (by omega)] | rw [if_neg (by omega)])); (try rfl))
  · simp (disch := omega) only [pl0, pl1, pl2, pl3, pl4, pl5, pl6, pl7, pl8, pl9, pl10, pl11, pl12, pl16, pl19, lit_nI, iI_add, iI_sub, iI_mul, iI_neg, iI_le, iI_lt, iI_eq, iI_max, iI_min, Option.bind_some, Option.bind_eq_bind, if_true, if_false, hb0]
    (repeat (first | rw [if_pos (by omega)] | rw [if_neg (by omega)]))
theorem tv_sum (hI : Inv s) {j : Nat} (hj : j < ns s) : sm (fun st : Nat => tv s st j) 11 = ab (rs s j) := by
  have q3 := pt_r hI hj
  have e : rs s j = if 0 ≤ ht s j ∧ la s j ≠ -1 then pt s j - la s j else 0 := by
    unfold rs la
    rcases da_r s j with ⟨h1, -⟩ | ⟨h1, h3, h4, -⟩
    · rw [if_neg (by omega), if_pos (show da s j < 0 by omega), if_neg (by omega)]
    · have := pt_r hI (j := dn s j) (by omega)
      rw [if_neg (show ¬ da s j < 0 by omega)]
      by_cases h : 0 ≤ ht s j
      · rw [if_pos (by omega), if_pos (by omega)]
      · rw [if_neg (by omega), if_neg (by omega)]
  have q1 := la_r hI (n := j) (by omega)
  by_cases h : 0 ≤ ht s j ∧ la s j ≠ -1
  · rw [e, if_pos h]
    have hb := sm_block (min (pt s j) (la s j)) (max (pt s j) (la s j) - 1) 11 (by omega) (by omega) (by omega)
    have h2 : sm (fun st : Nat => tv s st j) 11 = sm (fun b : Nat => if min (pt s j) (la s j) ≤ (b : Int) ∧ (b : Int) ≤ max (pt s j) (la s j) - 1 then 1 else 0) 11 := by
      refine sm_ext fun i _ => ?_
      unfold tv
      by_cases c : min (pt s j) (la s j) ≤ (i : Int) ∧ (i : Int) ≤ max (pt s j) (la s j) - 1
      · rw [if_pos c, if_pos (by omega)]
      · rw [if_neg c, if_neg (by omega)]
    rw [h2, hb]
    unfold ab
    omega
  · rw [e, if_neg h]
    exact sm_zero fun i _ => if_neg (by omega)
theorem c_wayBySteps (hP : Pr G 0 s) (hI : Inv s) : f_X3_wayBySteps G = some (iI (wk s)) := by
  have e : wk s = sm (fun st : Nat => sm (tv s st) (ns s)) 11 := by
    unfold wk
    rw [sm_swap (fun (st j : Nat) => tv s st j) 11 (ns s)]
    exact sm_ext fun j hj => (tv_sum hI hj).symm
  rw [e]
  unfold f_X3_wayBySteps f_X3_wayBySteps_4
  refine lq2_for (X1 := fun i => iI (sm (fun st : Nat => sm (tv s st) (ns s)) i)) (X2 := fun i => iI i) 11 _ (fun k i hi => ?_) (fun k => ?_) (by omega)
  · (simp (disch := omega) only [pl0, pl1, pl2, pl3, pl4, pl5, pl6, pl7, pl8, pl9, pl10, pl11, pl12, pl16, pl19, lit_nI, iI_add, iI_sub, iI_mul, iI_neg, iI_le, iI_lt, iI_eq, iI_max, iI_min, Option.bind_some, Option.bind_eq_bind, if_true, if_false, sm_1, c_timesOver hP hI hi]; (repeat (first | rw [if_pos (by omega)] | rw [if_neg (by omega)])); (try simp (disch := omega) only [pl0, pl1, pl2, pl3, pl4, pl5, pl6, pl7, pl8, pl9, pl10, pl11, pl12, pl16, pl19, lit_nI, iI_add, iI_sub, iI_mul, iI_neg, iI_le, iI_lt, iI_eq, iI_max, iI_min, Option.bind_some, Option.bind_eq_bind, if_true, if_false]); (repeat (first | rw [if_pos (by omega)] | rw [if_neg (by omega)])); (try rfl))
  · simp (disch := omega) only [pl0, pl1, pl2, pl3, pl4, pl5, pl6, pl7, pl8, pl9, pl10, pl11, pl12, pl16, pl19, lit_nI, iI_add, iI_sub, iI_mul, iI_neg, iI_le, iI_lt, iI_eq, iI_max, iI_min, Option.bind_some, Option.bind_eq_bind, if_true, if_false]
    (repeat (first | rw [if_pos (by omega)] | rw [if_neg (by omega)]))
theorem c_arePartsWhole (hP : Pr G 0 s) (hI : Inv s) : f_X5_arePartsWhole G = some (iI 1) := by
  have h16 := hI.ns16
  have h6 := hI.nb6
  have hb0 := c_ns hP hI
  have hb1 := c_nb hP hI
  unfold f_X5_arePartsWhole f_X5_arePartsWhole_2
  refine lq1_for (X1 := fun i => iI i) (ns s) _ (fun k i hi => ?_) (fun k => ?_) (by omega)
  · have hd := hI.sd hi
    have hin : f_X5_arePartsWhole_14 G k (iI i) 4096 (iI 0) (iI 0) = k (iI ((i : Int) + 1)) := by
      unfold f_X5_arePartsWhole_14
      refine lq2_for (X1 := fun b => iI (sm (fun b => ov s i b) b)) (X2 := fun b => iI b) (nb s) _ (fun k b hb => ?_) (fun k => ?_) (by omega)
      · (simp (disch := omega) only [pl0, pl1, pl2, pl3, pl4, pl5, pl6, pl7, pl8, pl9, pl10, pl11, pl12, pl16, pl19, lit_nI, iI_add, iI_sub, iI_mul, iI_neg, iI_le, iI_lt, iI_eq, iI_max, iI_min, Option.bind_some, Option.bind_eq_bind, if_true, if_false, sm_1, hb1, c_overlap hP hI hi hb]; (repeat (first | rw [if_pos (by omega)] | rw [if_neg (by omega)])); (try simp (disch := omega) only [pl0, pl1, pl2, pl3, pl4, pl5, pl6, pl7, pl8, pl9, pl10, pl11, pl12, pl16, pl19, lit_nI, iI_add, iI_sub, iI_mul, iI_neg, iI_le, iI_lt, iI_eq, iI_max, iI_min, Option.bind_some, Option.bind_eq_bind, if_true, if_false]); (repeat (first | rw [if_pos (by omega)] | rw [if_neg (by omega)])); (try rfl))
      · (simp (disch := omega) only [pl0, pl1, pl2, pl3, pl4, pl5, pl6, pl7, pl8, pl9, pl10, pl11, pl12, pl16, pl19, lit_nI, iI_add, iI_sub, iI_mul, iI_neg, iI_le, iI_lt, iI_eq, iI_max, iI_min, Option.bind_some, Option.bind_eq_bind, if_true, if_false, hb1, whole_eq hI hi, c_ln hP (show i < 16 by omega)]; (repeat (first | rw [if_pos (by omega)] | rw [if_neg (by omega)])); (try simp (disch := omega) only [pl0, pl1, pl2, pl3, pl4, pl5, pl6, pl7, pl8, pl9, pl10, pl11, pl12, pl16, pl19, lit_nI, iI_add, iI_sub, iI_mul, iI_neg, iI_le, iI_lt, iI_eq, iI_max, iI_min, Option.bind_some, Option.bind_eq_bind, if_true, if_false]); (repeat (first | rw [if_pos (by omega)] | rw [if_neg (by omega)])); (try rfl))
    (simp (disch := omega) only [pl0, pl1, pl2, pl3, pl4, pl5, pl6, pl7, pl8, pl9, pl10, pl11, pl12, pl16, pl19, lit_nI, iI_add, iI_sub, iI_mul, iI_neg, iI_le, iI_lt, iI_eq, iI_max, iI_min, Option.bind_some, Option.bind_eq_bind, if_true, if_false, hb0, hin]; (repeat (first | rw [if_pos (by omega)] | rw [if_neg (by omega)])); (try simp (disch := omega) only [pl0, pl1, pl2, pl3, pl4, pl5, pl6, pl7, pl8, pl9, pl10, pl11, pl12, pl16, pl19, lit_nI, iI_add, iI_sub, iI_mul, iI_neg, iI_le, iI_lt, iI_eq, iI_max, iI_min, Option.bind_some, Option.bind_eq_bind, if_true, if_false]); (repeat (first | rw [if_pos (by omega)] | rw [if_neg (by omega)])); (try rfl))
  · simp (disch := omega) only [pl0, pl1, pl2, pl3, pl4, pl5, pl6, pl7, pl8, pl9, pl10, pl11, pl12, pl16, pl19, lit_nI, iI_add, iI_sub, iI_mul, iI_neg, iI_le, iI_lt, iI_eq, iI_max, iI_min, Option.bind_some, Option.bind_eq_bind, if_true, if_false, hb0]
    (repeat (first | rw [if_pos (by omega)] | rw [if_neg (by omega)]))
theorem c_areBarsInBounds (hP : Pr G 0 s) (hI : Inv s) : f_X5_areBarsInBounds G = some (iI 1) := by
  have h16 := hI.ns16
  have h6 := hI.nb6
  have hb0 := c_ns hP hI
  have hb1 := c_nb hP hI
  unfold f_X5_areBarsInBounds f_X5_areBarsInBounds_2
  refine lq1_for (X1 := fun i => iI i) (nb s) _ (fun k i hi => ?_) (fun k => ?_) (by omega)
  · have hd := hI.sz hi
    have hin : f_X5_areBarsInBounds_14 G k (iI i) 4096 (iI 0) (iI 0) = k (iI ((i : Int) + 1)) := by
      unfold f_X5_areBarsInBounds_14
      refine lq2_for (X1 := fun j => iI (sm (fun j => ov s j i) j)) (X2 := fun j => iI j) (ns s) _ (fun k j hj => ?_) (fun k => ?_) (by omega)
      · (simp (disch := omega) only [pl0, pl1, pl2, pl3, pl4, pl5, pl6, pl7, pl8, pl9, pl10, pl11, pl12, pl16, pl19, lit_nI, iI_add, iI_sub, iI_mul, iI_neg, iI_le, iI_lt, iI_eq, iI_max, iI_min, Option.bind_some, Option.bind_eq_bind, if_true, if_false, sm_1, hb0, c_overlap hP hI hj hi]; (repeat (first | rw [if_pos (by omega)] | rw [if_neg (by omega)])); (try simp (disch := omega) only [pl0, pl1, pl2, pl3, pl4, pl5, pl6, pl7, pl8, pl9, pl10, pl11, pl12, pl16, pl19, lit_nI, iI_add, iI_sub, iI_mul, iI_neg, iI_le, iI_lt, iI_eq, iI_max, iI_min, Option.bind_some, Option.bind_eq_bind, if_true, if_false]); (repeat (first | rw [if_pos (by omega)] | rw [if_neg (by omega)])); (try rfl))
      · have hz := hI.bSr (j := ns s) (by omega)
        have hz2 := hI.bBr (b := i) (by omega)
        simp (disch := omega) only [pl0, pl1, pl2, pl3, pl4, pl5, pl6, pl7, pl8, pl9, pl10, pl11, pl12, pl16, pl19, lit_nI, iI_add, iI_sub, iI_mul, iI_neg, iI_le, iI_lt, iI_eq, iI_max, iI_min, Option.bind_some, Option.bind_eq_bind, if_true, if_false, hb0, fill_eq hI hi, c_sz hP (show i < 6 by omega)]
        (repeat (first | rw [if_pos (by omega)] | rw [if_neg (by omega)]))
    (simp (disch := omega) only [pl0, pl1, pl2, pl3, pl4, pl5, pl6, pl7, pl8, pl9, pl10, pl11, pl12, pl16, pl19, lit_nI, iI_add, iI_sub, iI_mul, iI_neg, iI_le, iI_lt, iI_eq, iI_max, iI_min, Option.bind_some, Option.bind_eq_bind, if_true, if_false, hb1, hin]; (repeat (first | rw [if_pos (by omega)] | rw [if_neg (by omega)])); (try simp (disch := omega) only [pl0, pl1, pl2, pl3, pl4, pl5, pl6, pl7, pl8, pl9, pl10, pl11, pl12, pl16, pl19, lit_nI, iI_add, iI_sub, iI_mul, iI_neg, iI_le, iI_lt, iI_eq, iI_max, iI_min, Option.bind_some, Option.bind_eq_bind, if_true, if_false]); (repeat (first | rw [if_pos (by omega)] | rw [if_neg (by omega)])); (try rfl))
  · simp (disch := omega) only [pl0, pl1, pl2, pl3, pl4, pl5, pl6, pl7, pl8, pl9, pl10, pl11, pl12, pl16, pl19, lit_nI, iI_add, iI_sub, iI_mul, iI_neg, iI_le, iI_lt, iI_eq, iI_max, iI_min, Option.bind_some, Option.bind_eq_bind, if_true, if_false, hb1]
    (repeat (first | rw [if_pos (by omega)] | rw [if_neg (by omega)]))
end PI
