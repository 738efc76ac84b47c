/-! calls that read, further -/
section PT
variable {G K : GT} {s : Nat → Int32}
theorem fs_r (hI : Inv s) (r : Nat) : -1 ≤ fs s r ∧ fs s r ≤ 16 := by
  have h := pl_r hI r
  obtain ⟨g1, -, -⟩ := ff_r (fun j => vv s r j = 1) (pl s r)
  unfold fs
  by_cases h : ff (fun j => vv s r j = 1) (pl s r) < pl s r
  · rw [if_pos h]; omega
  · rw [if_neg h]; omega
theorem c_isWell (hP : Pr G 0 s) (hI : Inv s) : f_X9_isWell G = some (iI 1) := by
  unfold f_X9_isWell
  rw [c_isToldAlike hP hI, Option.bind_some, if_neg ne10, c_way hP hI, Option.bind_some, c_wayBySteps hP hI, Option.bind_some, if_pos rfl, c_arePartsWhole hP hI, Option.bind_some, if_neg ne10, c_areBarsInBounds hP hI, Option.bind_some, if_neg ne10]
  rfl
theorem acc0 (G : GT) : f_X9_account G 0 = ((f_X5_countOfBars G).bind fun r => some (.inr r, G)) := by
  unfold f_X9_account f_X9_isWithin
  rw [if_neg (by decide), if_neg (by decide), Option.bind_some, if_neg (by decide), if_pos rfl]
theorem acc1 (G : GT) : f_X9_account G 1 = ((f_X5_allBeats G).bind fun r => some (.inr r, G)) := by
  unfold f_X9_account f_X9_isWithin
  rw [if_neg (by decide), if_neg (by decide), Option.bind_some, if_neg (by decide), if_neg (show ¬ ((1 : Int32) = 0) by decide), if_pos rfl]
theorem acc2 (G : GT) : f_X9_account G 2 = ((f_X5_filledBeats G).bind fun r => some (.inr r, G)) := by
  unfold f_X9_account f_X9_isWithin
  rw [if_neg (by decide), if_neg (by decide), Option.bind_some, if_neg (by decide), if_neg (show ¬ ((2 : Int32) = 0) by decide), if_neg (show ¬ ((2 : Int32) = 1) by decide), if_pos rfl]
theorem acc3 (G : GT) : f_X9_account G 3 = ((f_X5_countOfSounds G).bind fun r => some (.inr r, G)) := by
  unfold f_X9_account f_X9_isWithin
  rw [if_neg (by decide), if_neg (by decide), Option.bind_some, if_neg (by decide), if_neg (show ¬ ((3 : Int32) = 0) by decide), if_neg (show ¬ ((3 : Int32) = 1) by decide), if_neg (show ¬ ((3 : Int32) = 2) by decide), if_pos rfl]
theorem acc4 (G : GT) : f_X9_account G 4 = ((f_X5_countOfSounds G).bind fun r12 => (f_X5_countOfRests G).bind fun r13 => some (.inr (r12 - r13), G)) := by
  unfold f_X9_account f_X9_isWithin
  rw [if_neg (by decide), if_neg (by decide), Option.bind_some, if_neg (by decide), if_neg (show ¬ ((4 : Int32) = 0) by decide), if_neg (show ¬ ((4 : Int32) = 1) by decide), if_neg (show ¬ ((4 : Int32) = 2) by decide), if_neg (show ¬ ((4 : Int32) = 3) by decide), if_pos rfl]
theorem acc5 (G : GT) : f_X9_account G 5 = ((f_X5_countOfRests G).bind fun r => some (.inr r, G)) := by
  unfold f_X9_account f_X9_isWithin
  rw [if_neg (by decide), if_neg (by decide), Option.bind_some, if_neg (by decide), if_neg (show ¬ ((5 : Int32) = 0) by decide), if_neg (show ¬ ((5 : Int32) = 1) by decide), if_neg (show ¬ ((5 : Int32) = 2) by decide), if_neg (show ¬ ((5 : Int32) = 3) by decide), if_neg (show ¬ ((5 : Int32) = 4) by decide), if_pos rfl]
theorem acc6 (G : GT) : f_X9_account G 6 = ((f_X5_allParts G).bind fun r => some (.inr r, G)) := by
  unfold f_X9_account f_X9_isWithin
  rw [if_neg (by decide), if_neg (by decide), Option.bind_some, if_neg (by decide), if_neg (show ¬ ((6 : Int32) = 0) by decide), if_neg (show ¬ ((6 : Int32) = 1) by decide), if_neg (show ¬ ((6 : Int32) = 2) by decide), if_neg (show ¬ ((6 : Int32) = 3) by decide), if_neg (show ¬ ((6 : Int32) = 4) by decide), if_neg (show ¬ ((6 : Int32) = 5) by decide), if_pos rfl]
theorem acc7 (G : GT) : f_X9_account G 7 = ((f_X5_limitNow G).bind fun r => some (.inr r, G)) := by
  unfold f_X9_account f_X9_isWithin
  rw [if_neg (by decide), if_neg (by decide), Option.bind_some, if_neg (by decide), if_neg (show ¬ ((7 : Int32) = 0) by decide), if_neg (show ¬ ((7 : Int32) = 1) by decide), if_neg (show ¬ ((7 : Int32) = 2) by decide), if_neg (show ¬ ((7 : Int32) = 3) by decide), if_neg (show ¬ ((7 : Int32) = 4) by decide), if_neg (show ¬ ((7 : Int32) = 5) by decide), if_neg (show ¬ ((7 : Int32) = 6) by decide), if_pos rfl]
theorem acc8 (G : GT) : f_X9_account G 8 = ((f_X5_setSoFar G).bind fun r => some (.inr r, G)) := by
  unfold f_X9_account f_X9_isWithin
  rw [if_neg (by decide), if_neg (by decide), Option.bind_some, if_neg (by decide), if_neg (show ¬ ((8 : Int32) = 0) by decide), if_neg (show ¬ ((8 : Int32) = 1) by decide), if_neg (show ¬ ((8 : Int32) = 2) by decide), if_neg (show ¬ ((8 : Int32) = 3) by decide), if_neg (show ¬ ((8 : Int32) = 4) by decide), if_neg (show ¬ ((8 : Int32) = 5) by decide), if_neg (show ¬ ((8 : Int32) = 6) by decide), if_neg (show ¬ ((8 : Int32) = 7) by decide), if_pos rfl]
theorem acc9 (G : GT) : f_X9_account G 9 = ((f_X5_takenSoFar G).bind fun r => some (.inr r, G)) := by
  unfold f_X9_account f_X9_isWithin
  rw [if_neg (by decide), if_neg (by decide), Option.bind_some, if_neg (by decide), if_neg (show ¬ ((9 : Int32) = 0) by decide), if_neg (show ¬ ((9 : Int32) = 1) by decide), if_neg (show ¬ ((9 : Int32) = 2) by decide), if_neg (show ¬ ((9 : Int32) = 3) by decide), if_neg (show ¬ ((9 : Int32) = 4) by decide), if_neg (show ¬ ((9 : Int32) = 5) by decide), if_neg (show ¬ ((9 : Int32) = 6) by decide), if_neg (show ¬ ((9 : Int32) = 7) by decide), if_neg (show ¬ ((9 : Int32) = 8) by decide), if_pos rfl]
theorem acc10 (G : GT) : f_X9_account G 10 = ((f_X8_countOfSigns G).bind fun r => some (.inr r, G)) := by
  unfold f_X9_account f_X9_isWithin
  rw [if_neg (by decide), if_neg (by decide), Option.bind_some, if_neg (by decide), if_neg (show ¬ ((10 : Int32) = 0) by decide), if_neg (show ¬ ((10 : Int32) = 1) by decide), if_neg (show ¬ ((10 : Int32) = 2) by decide), if_neg (show ¬ ((10 : Int32) = 3) by decide), if_neg (show ¬ ((10 : Int32) = 4) by decide), if_neg (show ¬ ((10 : Int32) = 5) by decide), if_neg (show ¬ ((10 : Int32) = 6) by decide), if_neg (show ¬ ((10 : Int32) = 7) by decide), if_neg (show ¬ ((10 : Int32) = 8) by decide), if_neg (show ¬ ((10 : Int32) = 9) by decide), if_pos rfl]
theorem acc11 (G : GT) : f_X9_account G 11 = ((f_X0_countOfChanges G).bind fun r => some (.inr r, G)) := by
  unfold f_X9_account f_X9_isWithin
  rw [if_neg (by decide), if_neg (by decide), Option.bind_some, if_neg (by decide), if_neg (show ¬ ((11 : Int32) = 0) by decide), if_neg (show ¬ ((11 : Int32) = 1) by decide), if_neg (show ¬ ((11 : Int32) = 2) by decide), if_neg (show ¬ ((11 : Int32) = 3) by decide), if_neg (show ¬ ((11 : Int32) = 4) by decide), if_neg (show ¬ ((11 : Int32) = 5) by decide), if_neg (show ¬ ((11 : Int32) = 6) by decide), if_neg (show ¬ ((11 : Int32) = 7) by decide), if_neg (show ¬ ((11 : Int32) = 8) by decide), if_neg (show ¬ ((11 : Int32) = 9) by decide), if_neg (show ¬ ((11 : Int32) = 10) by decide)]
end PT
