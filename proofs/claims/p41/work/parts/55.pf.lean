/-! faults -/
def ab (x : Int) : Int := max x (- x)
theorem iI_abs {a : Int} (h1 : -2147483647 ≤ a) (h2 : a ≤ 2147483647) : abs32 (iI a) = iI (ab a) := by
  unfold abs32 ab
  by_cases h : 0 ≤ a
  · simp (disch := omega) only [pl0, pl1, pl2, pl3, pl4, pl5, pl6, pl7, pl8, pl9, pl10, pl11, pl12, pl16, pl19, lit_nI, iI_add, iI_sub, iI_mul, iI_neg, iI_le, iI_lt, iI_eq, iI_max, iI_min, Option.bind_some, Option.bind_eq_bind, if_true, if_false]
    rw [if_pos (by omega)]
    congr 1
    omega
  · simp (disch := omega) only [pl0, pl1, pl2, pl3, pl4, pl5, pl6, pl7, pl8, pl9, pl10, pl11, pl12, pl16, pl19, lit_nI, iI_add, iI_sub, iI_mul, iI_neg, iI_le, iI_lt, iI_eq, iI_max, iI_min, Option.bind_some, Option.bind_eq_bind, if_true, if_false]
    rw [if_neg (by omega)]
    congr 1
    omega
/-- the drop ahead -/
def da (s : Nat → Int32) (j : Nat) : Int := lst (fun k => 0 ≤ ht s k) j
def dn (s : Nat → Int32) (j : Nat) : Nat := (da s j).toNat
theorem da_r (s : Nat → Int32) (j : Nat) : (da s j = -1 ∧ ∀ i, i < j → ht s i < 0) ∨ (da s j = dn s j ∧ dn s j < j ∧ 0 ≤ ht s (dn s j) ∧ ∀ k, dn s j < k → k < j → ht s k < 0) := by
  unfold dn da
  rcases lst_r (fun k => 0 ≤ ht s k) j with ⟨h1, h2⟩ | ⟨i, h1, h2, h3, h4⟩
  · exact Or.inl ⟨h1, fun i hi => Int.not_le.mp (h2 i hi)⟩
  · rw [h3, Int.toNat_natCast]
    exact Or.inr ⟨rfl, h1, h2, fun k a b => Int.not_le.mp (h4 k a b)⟩
def v1 (s : Nat → Int32) (j : Nat) : Int := if 0 ≤ ht s j ∧ 0 ≤ da s j ∧ lm s < ab (pt s j - pt s (dn s j)) then 1 else 0
def v2 (s : Nat → Int32) (j : Nat) : Int := if 0 ≤ ht s j ∧ 0 ≤ da s j ∧ 0 ≤ da s (dn s j) ∧ pt s j = pt s (dn s j) ∧ pt s j = pt s (dn s (dn s j)) then 1 else 0
def v3 (s : Nat → Int32) (b : Nat) : Int := if 0 ≤ sat s (bB s b) ∧ ht s (sat s (bB s b)).toNat < 0 then 1 else 0
def v4 (s : Nat → Int32) (j : Nat) : Int := if (if ht s j < 0 then 1 else 2) < pj s j then 1 else 0
section PF
variable {G K : GT} {s : Nat → Int32}
theorem pj_r (hI : Inv s) {j : Nat} (hj : j < ns s) : 0 ≤ pj s j ∧ pj s j ≤ 6 := by
  have h3 := hI.nb6
  have h1 := sm_ge (f := fun b => if 0 < ov s j b then 1 else 0) (n := nb s) (a := 0) (fun i hi => it_ge (by omega))
  have h2 := sm_le (f := fun b => if 0 < ov s j b then 1 else 0) (n := nb s) (a := 1) (fun i hi => it_le (by omega) (by omega))
  unfold pj
  omega
theorem pc_d {j : Nat} (h : 0 ≤ ht s j) : pc s j = pt s j := by unfold pc; rw [if_neg (by omega)]
theorem c_da (hP : Pr G 0 s) (hI : Inv s) {j : Nat} (hj : j ≤ ns s) : f_X5_dropAhead G (iI j) = some (iI (da s j)) := c_dropAhead hP hI hj
theorem c_isSame (hP : Pr G 0 s) (hI : Inv s) {j : Nat} (hj : j < ns s) (hd : 0 ≤ ht s j) : f_X6_isSame G (iI j) = some (iI (if 0 ≤ da s j ∧ pt s j = pt s (dn s j) then 1 else 0)) := by
  have h2 := pt_r hI hj
  have h16 := hI.ns16
  unfold f_X6_isSame
  rcases da_r s j with ⟨h1, -⟩ | ⟨h1, h3, h4, -⟩
  · (simp (disch := omega) only [pl0, pl1, pl2, pl3, pl4, pl5, pl6, pl7, pl8, pl9, pl10, pl11, pl12, pl16, pl19, lit_nI, iI_add, iI_sub, iI_mul, iI_neg, iI_le, iI_lt, iI_eq, iI_max, iI_min, Option.bind_some, Option.bind_eq_bind, if_true, if_false, c_da hP hI (show j ≤ ns s by omega), h1]; (repeat (first | rw [if_pos (by omega)] | rw [if_neg (by omega)])); (try simp (disch := omega) only [pl0, pl1, pl2, pl3, pl4, pl5, pl6, pl7, pl8, pl9, pl10, pl11, pl12, pl16, pl19, lit_nI, iI_add, iI_sub, iI_mul, iI_neg, iI_le, iI_lt, iI_eq, iI_max, iI_min, Option.bind_some, Option.bind_eq_bind, if_true, if_false]); (repeat (first | rw [if_pos (by omega)] | rw [if_neg (by omega)])); (try rfl))
  · have h5 := pt_r hI (show dn s j < ns s by omega)
    by_cases h6 : pt s j = pt s (dn s j) <;> (simp (disch := omega) only [pl0, pl1, pl2, pl3, pl4, pl5, pl6, pl7, pl8, pl9, pl10, pl11, pl12, pl16, pl19, lit_nI, iI_add, iI_sub, iI_mul, iI_neg, iI_le, iI_lt, iI_eq, iI_max, iI_min, Option.bind_some, Option.bind_eq_bind, if_true, if_false, c_da hP hI (show j ≤ ns s by omega), h1, c_pitchOf hP hI hj, c_pitchOf hP hI (show dn s j < ns s by omega), pc_d hd, pc_d h4]; (repeat (first | rw [if_pos (by omega)] | rw [if_neg (by omega)])); (try simp (disch := omega) only [pl0, pl1, pl2, pl3, pl4, pl5, pl6, pl7, pl8, pl9, pl10, pl11, pl12, pl16, pl19, lit_nI, iI_add, iI_sub, iI_mul, iI_neg, iI_le, iI_lt, iI_eq, iI_max, iI_min, Option.bind_some, Option.bind_eq_bind, if_true, if_false]); (repeat (first | rw [if_pos (by omega)] | rw [if_neg (by omega)])); (try rfl))
theorem c_isFar (hP : Pr G 0 s) (hI : Inv s) {j : Nat} (hj : j < ns s) (hd : 0 ≤ ht s j) : f_X6_isFar G (iI j) = some (iI (if 0 ≤ da s j ∧ lm s < ab (pt s j - pt s (dn s j)) then 1 else 0)) := by
  have h2 := pt_r hI hj
  have hl := hI.2.2.2.2.1
  have h16 := hI.ns16
  unfold f_X6_isFar f_X5_limitNow
  rcases da_r s j with ⟨h1, -⟩ | ⟨h1, h3, h4, -⟩
  · (simp (disch := omega) only [pl0, pl1, pl2, pl3, pl4, pl5, pl6, pl7, pl8, pl9, pl10, pl11, pl12, pl16, pl19, lit_nI, iI_add, iI_sub, iI_mul, iI_neg, iI_le, iI_lt, iI_eq, iI_max, iI_min, Option.bind_some, Option.bind_eq_bind, if_true, if_false, c_da hP hI (show j ≤ ns s by omega), h1]; (repeat (first | rw [if_pos (by omega)] | rw [if_neg (by omega)])); (try simp (disch := omega) only [pl0, pl1, pl2, pl3, pl4, pl5, pl6, pl7, pl8, pl9, pl10, pl11, pl12, pl16, pl19, lit_nI, iI_add, iI_sub, iI_mul, iI_neg, iI_le, iI_lt, iI_eq, iI_max, iI_min, Option.bind_some, Option.bind_eq_bind, if_true, if_false]); (repeat (first | rw [if_pos (by omega)] | rw [if_neg (by omega)])); (try rfl))
  · have h5 := pt_r hI (show dn s j < ns s by omega)
    have h7 : -12 ≤ ab (pt s j - pt s (dn s j)) ∧ ab (pt s j - pt s (dn s j)) ≤ 12 := by unfold ab; omega
    by_cases h6 : lm s < ab (pt s j - pt s (dn s j)) <;> (simp (disch := omega) only [pl0, pl1, pl2, pl3, pl4, pl5, pl6, pl7, pl8, pl9, pl10, pl11, pl12, pl16, pl19, lit_nI, iI_add, iI_sub, iI_mul, iI_neg, iI_le, iI_lt, iI_eq, iI_max, iI_min, Option.bind_some, Option.bind_eq_bind, if_true, if_false, c_da hP hI (show j ≤ ns s by omega), h1, c_pitchOf hP hI hj, c_pitchOf hP hI (show dn s j < ns s by omega), pc_d hd, pc_d h4, iI_abs, c_lm hP]; (repeat (first | rw [if_pos (by omega)] | rw [if_neg (by omega)])); (try simp (disch := omega) only [pl0, pl1, pl2, pl3, pl4, pl5, pl6, pl7, pl8, pl9, pl10, pl11, pl12, pl16, pl19, lit_nI, iI_add, iI_sub, iI_mul, iI_neg, iI_le, iI_lt, iI_eq, iI_max, iI_min, Option.bind_some, Option.bind_eq_bind, if_true, if_false]); (repeat (first | rw [if_pos (by omega)] | rw [if_neg (by omega)])); (try rfl))
theorem c_isFault1 (hP : Pr G 0 s) (hI : Inv s) {j : Nat} (hj : j < ns s) : f_X6_isFault G (iI 1) (iI j) = some (iI (v1 s j)) := by
  unfold f_X6_isFault v1
  by_cases hd : 0 ≤ ht s j
  · by_cases h1 : 0 ≤ da s j ∧ lm s < ab (pt s j - pt s (dn s j)) <;> (simp (disch := omega) only [pl0, pl1, pl2, pl3, pl4, pl5, pl6, pl7, pl8, pl9, pl10, pl11, pl12, pl16, pl19, lit_nI, iI_add, iI_sub, iI_mul, iI_neg, iI_le, iI_lt, iI_eq, iI_max, iI_min, Option.bind_some, Option.bind_eq_bind, if_true, if_false, c_isRest hP hI hj, c_isFar hP hI hj hd]; (repeat (first | rw [if_pos (by omega)] | rw [if_neg (by omega)])); (try simp (disch := omega) only [pl0, pl1, pl2, pl3, pl4, pl5, pl6, pl7, pl8, pl9, pl10, pl11, pl12, pl16, pl19, lit_nI, iI_add, iI_sub, iI_mul, iI_neg, iI_le, iI_lt, iI_eq, iI_max, iI_min, Option.bind_some, Option.bind_eq_bind, if_true, if_false]); (repeat (first | rw [if_pos (by omega)] | rw [if_neg (by omega)])); (try rfl))
  · (simp (disch := omega) only [pl0, pl1, pl2, pl3, pl4, pl5, pl6, pl7, pl8, pl9, pl10, pl11, pl12, pl16, pl19, lit_nI, iI_add, iI_sub, iI_mul, iI_neg, iI_le, iI_lt, iI_eq, iI_max, iI_min, Option.bind_some, Option.bind_eq_bind, if_true, if_false, c_isRest hP hI hj]; (repeat (first | rw [if_pos (by omega)] | rw [if_neg (by omega)])); (try simp (disch := omega) only [pl0, pl1, pl2, pl3, pl4, pl5, pl6, pl7, pl8, pl9, pl10, pl11, pl12, pl16, pl19, lit_nI, iI_add, iI_sub, iI_mul, iI_neg, iI_le, iI_lt, iI_eq, iI_max, iI_min, Option.bind_some, Option.bind_eq_bind, if_true, if_false]); (repeat (first | rw [if_pos (by omega)] | rw [if_neg (by omega)])); (try rfl))
theorem c_isFault2 (hP : Pr G 0 s) (hI : Inv s) {j : Nat} (hj : j < ns s) : f_X6_isFault G (iI 2) (iI j) = some (iI (v2 s j)) := by
  unfold f_X6_isFault v2
  by_cases hd : 0 ≤ ht s j
  · by_cases h1 : 0 ≤ da s j ∧ pt s j = pt s (dn s j)
    · rcases da_r s j with ⟨h2, -⟩ | ⟨h2, h3, h4, -⟩
      · omega
      · by_cases h5 : 0 ≤ da s (dn s j) ∧ pt s (dn s j) = pt s (dn s (dn s j)) <;> (simp (disch := omega) only [pl0, pl1, pl2, pl3, pl4, pl5, pl6, pl7, pl8, pl9, pl10, pl11, pl12, pl16, pl19, lit_nI, iI_add, iI_sub, iI_mul, iI_neg, iI_le, iI_lt, iI_eq, iI_max, iI_min, Option.bind_some, Option.bind_eq_bind, if_true, if_false, c_isRest hP hI hj, c_isSame hP hI hj hd, c_da hP hI (show j ≤ ns s by omega), h2, c_isSame hP hI (show dn s j < ns s by omega) h4]; (repeat (first | rw [if_pos (by omega)] | rw [if_neg (by omega)])); (try simp (disch := omega) only [pl0, pl1, pl2, pl3, pl4, pl5, pl6, pl7, pl8, pl9, pl10, pl11, pl12, pl16, pl19, lit_nI, iI_add, iI_sub, iI_mul, iI_neg, iI_le, iI_lt, iI_eq, iI_max, iI_min, Option.bind_some, Option.bind_eq_bind, if_true, if_false]); (repeat (first | rw [if_pos (by omega)] | rw [if_neg (by omega)])); (try rfl))
    · (simp (disch := omega) only [pl0, pl1, pl2, pl3, pl4, pl5, pl6, pl7, pl8, pl9, pl10, pl11, pl12, pl16, pl19, lit_nI, iI_add, iI_sub, iI_mul, iI_neg, iI_le, iI_lt, iI_eq, iI_max, iI_min, Option.bind_some, Option.bind_eq_bind, if_true, if_false, c_isRest hP hI hj, c_isSame hP hI hj hd]; (repeat (first | rw [if_pos (by omega)] | rw [if_neg (by omega)])); (try simp (disch := omega) only [pl0, pl1, pl2, pl3, pl4, pl5, pl6, pl7, pl8, pl9, pl10, pl11, pl12, pl16, pl19, lit_nI, iI_add, iI_sub, iI_mul, iI_neg, iI_le, iI_lt, iI_eq, iI_max, iI_min, Option.bind_some, Option.bind_eq_bind, if_true, if_false]); (repeat (first | rw [if_pos (by omega)] | rw [if_neg (by omega)])); (try rfl))
  · (simp (disch := omega) only [pl0, pl1, pl2, pl3, pl4, pl5, pl6, pl7, pl8, pl9, pl10, pl11, pl12, pl16, pl19, lit_nI, iI_add, iI_sub, iI_mul, iI_neg, iI_le, iI_lt, iI_eq, iI_max, iI_min, Option.bind_some, Option.bind_eq_bind, if_true, if_false, c_isRest hP hI hj]; (repeat (first | rw [if_pos (by omega)] | rw [if_neg (by omega)])); (try simp (disch := omega) only [pl0, pl1, pl2, pl3, pl4, pl5, pl6, pl7, pl8, pl9, pl10, pl11, pl12, pl16, pl19, lit_nI, iI_add, iI_sub, iI_mul, iI_neg, iI_le, iI_lt, iI_eq, iI_max, iI_min, Option.bind_some, Option.bind_eq_bind, if_true, if_false]); (repeat (first | rw [if_pos (by omega)] | rw [if_neg (by omega)])); (try rfl))
theorem c_isFault3 (hP : Pr G 0 s) (hI : Inv s) {b : Nat} (hb : b < nb s) : f_X6_isFault G (iI 3) (iI b) = some (iI (v3 s b)) := by
  have h6 := hI.nb6
  have h7 := hI.ns16
  have h0 := hI.bBr (b := b) (by omega)
  have h1 := sat_r hI (bB s b)
  unfold f_X6_isFault v3
  by_cases h2 : 0 ≤ sat s (bB s b)
  · have e : iI (sat s (bB s b)) = iI ((sat s (bB s b)).toNat : Int) := by rw [Int.toNat_of_nonneg h2]
    by_cases h3 : ht s (sat s (bB s b)).toNat < 0 <;> (simp (disch := omega) only [pl0, pl1, pl2, pl3, pl4, pl5, pl6, pl7, pl8, pl9, pl10, pl11, pl12, pl16, pl19, lit_nI, iI_add, iI_sub, iI_mul, iI_neg, iI_le, iI_lt, iI_eq, iI_max, iI_min, Option.bind_some, Option.bind_eq_bind, if_true, if_false, c_startOfBar hP (show b ≤ 6 by omega), c_soundAt hP hI, e, c_isRest hP hI (show (sat s (bB s b)).toNat < ns s by omega)]; (repeat (first | rw [if_pos (by omega)] | rw [if_neg (by omega)])); (try simp (disch := omega) only [pl0, pl1, pl2, pl3, pl4, pl5, pl6, pl7, pl8, pl9, pl10, pl11, pl12, pl16, pl19, lit_nI, iI_add, iI_sub, iI_mul, iI_neg, iI_le, iI_lt, iI_eq, iI_max, iI_min, Option.bind_some, Option.bind_eq_bind, if_true, if_false]); (repeat (first | rw [if_pos (by omega)] | rw [if_neg (by omega)])); (try rfl))
  · have e : sat s (bB s b) = -1 := by omega
    (simp (disch := omega) only [pl0, pl1, pl2, pl3, pl4, pl5, pl6, pl7, pl8, pl9, pl10, pl11, pl12, pl16, pl19, lit_nI, iI_add, iI_sub, iI_mul, iI_neg, iI_le, iI_lt, iI_eq, iI_max, iI_min, Option.bind_some, Option.bind_eq_bind, if_true, if_false, c_startOfBar hP (show b ≤ 6 by omega), c_soundAt hP hI, e]; (repeat (first | rw [if_pos (by omega)] | rw [if_neg (by omega)])); (try simp (disch := omega) only [pl0, pl1, pl2, pl3, pl4, pl5, pl6, pl7, pl8, pl9, pl10, pl11, pl12, pl16, pl19, lit_nI, iI_add, iI_sub, iI_mul, iI_neg, iI_le, iI_lt, iI_eq, iI_max, iI_min, Option.bind_some, Option.bind_eq_bind, if_true, if_false]); (repeat (first | rw [if_pos (by omega)] | rw [if_neg (by omega)])); (try rfl))
theorem c_isFault4 (hP : Pr G 0 s) (hI : Inv s) {j : Nat} (hj : j < ns s) : f_X6_isFault G (iI 4) (iI j) = some (iI (v4 s j)) := by
  have h := pj_r hI hj
  unfold f_X6_isFault v4 f_X6_mostParts
  by_cases hd : ht s j < 0
  · by_cases h1 : 1 < pj s j <;> (simp (disch := omega) only [pl0, pl1, pl2, pl3, pl4, pl5, pl6, pl7, pl8, pl9, pl10, pl11, pl12, pl16, pl19, lit_nI, iI_add, iI_sub, iI_mul, iI_neg, iI_le, iI_lt, iI_eq, iI_max, iI_min, Option.bind_some, Option.bind_eq_bind, if_true, if_false, c_isRest hP hI hj, c_partsOfSound hP hI hj]; (repeat (first | rw [if_pos (by omega)] | rw [if_neg (by omega)])); (try simp (disch := omega) only [pl0, pl1, pl2, pl3, pl4, pl5, pl6, pl7, pl8, pl9, pl10, pl11, pl12, pl16, pl19, lit_nI, iI_add, iI_sub, iI_mul, iI_neg, iI_le, iI_lt, iI_eq, iI_max, iI_min, Option.bind_some, Option.bind_eq_bind, if_true, if_false]); (repeat (first | rw [if_pos (by omega)] | rw [if_neg (by omega)])); (try rfl))
  · by_cases h1 : 2 < pj s j <;> (simp (disch := omega) only [pl0, pl1, pl2, pl3, pl4, pl5, pl6, pl7, pl8, pl9, pl10, pl11, pl12, pl16, pl19, lit_nI, iI_add, iI_sub, iI_mul, iI_neg, iI_le, iI_lt, iI_eq, iI_max, iI_min, Option.bind_some, Option.bind_eq_bind, if_true, if_false, c_isRest hP hI hj, c_partsOfSound hP hI hj]; (repeat (first | rw [if_pos (by omega)] | rw [if_neg (by omega)])); (try simp (disch := omega) only [pl0, pl1, pl2, pl3, pl4, pl5, pl6, pl7, pl8, pl9, pl10, pl11, pl12, pl16, pl19, lit_nI, iI_add, iI_sub, iI_mul, iI_neg, iI_le, iI_lt, iI_eq, iI_max, iI_min, Option.bind_some, Option.bind_eq_bind, if_true, if_false]); (repeat (first | rw [if_pos (by omega)] | rw [if_neg (by omega)])); (try rfl))
end PF
