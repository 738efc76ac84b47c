/-! faults counted -/
def vv (s : Nat → Int32) (r j : Nat) : Int := if r = 1 then v1 s j else if r = 2 then v2 s j else if r = 3 then v3 s j else v4 s j
def pl (s : Nat → Int32) (r : Nat) : Nat := if r = 3 then nb s else ns s
def fm (s : Nat → Int32) (r : Nat) : Int := sm (vv s r) (pl s r)
def ft (s : Nat → Int32) : Int := fm s 1 + fm s 2 + fm s 3 + fm s 4
def fs (s : Nat → Int32) (r : Nat) : Int := if ff (fun j => vv s r j = 1) (pl s r) < pl s r then ff (fun j => vv s r j = 1) (pl s r) else -1
theorem i01 {c : Prop} [Decidable c] : (if c then (1 : Int) else 0) = 0 ∨ (if c then (1 : Int) else 0) = 1 := by
  by_cases h : c
  · exact Or.inr (if_pos h)
  · exact Or.inl (if_neg h)
theorem vv_01 (s : Nat → Int32) (r j : Nat) : vv s r j = 0 ∨ vv s r j = 1 := by
  unfold vv
  by_cases h1 : r = 1
  · rw [if_pos h1]; exact i01
  · by_cases h2 : r = 2
    · rw [if_neg h1, if_pos h2]; exact i01
    · by_cases h3 : r = 3
      · rw [if_neg h1, if_neg h2, if_pos h3]; exact i01
      · rw [if_neg h1, if_neg h2, if_neg h3]; exact i01
section PG
variable {G K : GT} {s : Nat → Int32}
theorem pl_r (hI : Inv s) (r : Nat) : pl s r ≤ 16 := by
  have h1 := hI.nb6
  have h2 := hI.ns16
  unfold pl
  by_cases h : r = 3
  · rw [if_pos h]; omega
  · rw [if_neg h]; omega
theorem fm_r (hI : Inv s) (r : Nat) : 0 ≤ fm s r ∧ fm s r ≤ 16 := by
  have h := pl_r hI r
  have h1 := sm_ge (f := vv s r) (n := pl s r) (a := 0) (fun i _ => by have := vv_01 s r i; omega)
  have h2 := sm_le (f := vv s r) (n := pl s r) (a := 1) (fun i _ => by have := vv_01 s r i; omega)
  unfold fm
  omega
theorem c_isFault (hP : Pr G 0 s) (hI : Inv s) {r j : Nat} (hr : 1 ≤ r ∧ r ≤ 4) (hj : j < pl s r) : f_X6_isFault G (iI r) (iI j) = some (iI (vv s r j)) := by
  obtain rfl | rfl | rfl | rfl : r = 1 ∨ r = 2 ∨ r = 3 ∨ r = 4 := by omega
  · exact c_isFault1 hP hI hj
  · exact c_isFault2 hP hI hj
  · exact c_isFault3 hP hI hj
  · exact c_isFault4 hP hI hj
theorem c_places (hP : Pr G 0 s) (hI : Inv s) {r : Nat} (hr : 1 ≤ r ∧ r ≤ 4) : f_X6_places G (iI r) = some (iI (pl s r)) := by
  unfold f_X6_places pl f_X5_countOfBars f_X5_countOfSounds
  by_cases h : r = 3 <;> (simp (disch := omega) only [pl0, pl1, pl2, pl3, pl4, pl5, pl6, pl7, pl8, pl9, pl10, pl11, pl12, pl16, pl19, lit_nI, iI_add, iI_sub, iI_mul, iI_neg, iI_le, iI_lt, iI_eq, iI_max, iI_min, Option.bind_some, Option.bind_eq_bind, if_true, if_false, c_nb hP hI, c_ns hP hI]; (repeat (first | rw [if_pos (by omega)] | rw [if_neg (by omega)])); (try simp (disch := omega) only [pl0, pl1, pl2, pl3, pl4, pl5, pl6, pl7, pl8, pl9, pl10, pl11, pl12, pl16, pl19, lit_nI, iI_add, iI_sub, iI_mul, iI_neg, iI_le, iI_lt, iI_eq, iI_max, iI_min, Option.bind_some, Option.bind_eq_bind, if_true, if_false]); (repeat (first | rw [if_pos (by omega)] | rw [if_neg (by omega)])); (try rfl))
theorem c_count (hP : Pr G 0 s) (hI : Inv s) {r : Nat} (hr : 1 ≤ r ∧ r ≤ 4) : f_X6_count G (iI r) = some (iI (fm s r)) := by
  have h3 := pl_r hI r
  unfold f_X6_count f_X6_count_11 fm
  rw [c_places hP hI hr, Option.bind_some]
  refine lq2_for (X1 := fun i => iI (sm (vv s r) i)) (X2 := fun i => iI i) (pl s r) _ (fun k i hi => ?_) (fun k => ?_) (by omega)
  · rcases vv_01 s r i with h | h <;> (simp (disch := omega) only [pl0, pl1, pl2, pl3, pl4, pl5, pl6, pl7, pl8, pl9, pl10, pl11, pl12, pl16, pl19, lit_nI, iI_add, iI_sub, iI_mul, iI_neg, iI_le, iI_lt, iI_eq, iI_max, iI_min, Option.bind_some, Option.bind_eq_bind, if_true, if_false, sm_1, c_isFault hP hI hr hi, f_X6_count_33, h]; (repeat (first | rw [if_pos (by omega)] | rw [if_neg (by omega)])); (try simp (disch := omega) only [pl0, pl1, pl2, pl3, pl4, pl5, pl6, pl7, pl8, pl9, pl10, pl11, pl12, pl16, pl19, lit_nI, iI_add, iI_sub, iI_mul, iI_neg, iI_le, iI_lt, iI_eq, iI_max, iI_min, Option.bind_some, Option.bind_eq_bind, if_true, if_false]); (repeat (first | rw [if_pos (by omega)] | rw [if_neg (by omega)])); (try rfl))
  · simp (disch := omega) only [pl0, pl1, pl2, pl3, pl4, pl5, pl6, pl7, pl8, pl9, pl10, pl11, pl12, pl16, pl19, lit_nI, iI_add, iI_sub, iI_mul, iI_neg, iI_le, iI_lt, iI_eq, iI_max, iI_min, Option.bind_some, Option.bind_eq_bind, if_true, if_false]
    (repeat (first | rw [if_pos (by omega)] | rw [if_neg (by omega)]))
theorem c_first (hP : Pr G 0 s) (hI : Inv s) {r : Nat} (hr : 1 ≤ r ∧ r ≤ 4) : f_X6_first G (iI r) = some (iI (fs s r)) := by
  have h3 := pl_r hI r
  obtain ⟨g1, g2, g3⟩ := ff_r (fun j => vv s r j = 1) (pl s r)
  unfold f_X6_first f_X6_first_8 fs
  rw [c_places hP hI hr, Option.bind_some]
  generalize ff (fun j => vv s r j = 1) (pl s r) = N at g1 g2 g3 ⊢
  refine lq1_for (X1 := fun i => iI i) N _ (fun k i hi => ?_) (fun k => ?_) (by omega)
  · have h : ¬ vv s r i = 1 := g2 i hi
    have h0 : vv s r i = 0 := by have := vv_01 s r i; omega
    (simp (disch := omega) only [pl0, pl1, pl2, pl3, pl4, pl5, pl6, pl7, pl8, pl9, pl10, pl11, pl12, pl16, pl19, lit_nI, iI_add, iI_sub, iI_mul, iI_neg, iI_le, iI_lt, iI_eq, iI_max, iI_min, Option.bind_some, Option.bind_eq_bind, if_true, if_false, c_isFault hP hI hr (show i < pl s r by omega), h0]; (repeat (first | rw [if_pos (by omega)] | rw [if_neg (by omega)])); (try simp (disch := omega) only [pl0, pl1, pl2, pl3, pl4, pl5, pl6, pl7, pl8, pl9, pl10, pl11, pl12, pl16, pl19, lit_nI, iI_add, iI_sub, iI_mul, iI_neg, iI_le, iI_lt, iI_eq, iI_max, iI_min, Option.bind_some, Option.bind_eq_bind, if_true, if_false]); (repeat (first | rw [if_pos (by omega)] | rw [if_neg (by omega)])); (try rfl))
  · by_cases h : N < pl s r
    · have h1 : vv s r N = 1 := g3 h
      (simp (disch := omega) only [pl0, pl1, pl2, pl3, pl4, pl5, pl6, pl7, pl8, pl9, pl10, pl11, pl12, pl16, pl19, lit_nI, iI_add, iI_sub, iI_mul, iI_neg, iI_le, iI_lt, iI_eq, iI_max, iI_min, Option.bind_some, Option.bind_eq_bind, if_true, if_false, c_isFault hP hI hr h, h1]; (repeat (first | rw [if_pos (by omega)] | rw [if_neg (by omega)])); (try simp (disch := omega) only [pl0, pl1, pl2, pl3, pl4, pl5, pl6, pl7, pl8, pl9, pl10, pl11, pl12, pl16, pl19, lit_nI, iI_add, iI_sub, iI_mul, iI_neg, iI_le, iI_lt, iI_eq, iI_max, iI_min, Option.bind_some, Option.bind_eq_bind, if_true, if_false]); (repeat (first | rw [if_pos (by omega)] | rw [if_neg (by omega)])); (try rfl))
    · (simp (disch := omega) only [pl0, pl1, pl2, pl3, pl4, pl5, pl6, pl7, pl8, pl9, pl10, pl11, pl12, pl16, pl19, lit_nI, iI_add, iI_sub, iI_mul, iI_neg, iI_le, iI_lt, iI_eq, iI_max, iI_min, Option.bind_some, Option.bind_eq_bind, if_true, if_false]; (repeat (first | rw [if_pos (by omega)] | rw [if_neg (by omega)])); (try simp (disch := omega) only [pl0, pl1, pl2, pl3, pl4, pl5, pl6, pl7, pl8, pl9, pl10, pl11, pl12, pl16, pl19, lit_nI, iI_add, iI_sub, iI_mul, iI_neg, iI_le, iI_lt, iI_eq, iI_max, iI_min, Option.bind_some, Option.bind_eq_bind, if_true, if_false]); (repeat (first | rw [if_pos (by omega)] | rw [if_neg (by omega)])); (try rfl))
theorem c_countAll (hP : Pr G 0 s) (hI : Inv s) : f_X6_countAll G = some (iI (ft s)) := by
  unfold f_X6_countAll f_X6_countAll_4
  have e : ft s = sm (fun q => fm s (q + 1)) 4 := by
    have e : sm (fun q => fm s (q + 1)) 4 = 0 + fm s 1 + fm s 2 + fm s 3 + fm s 4 := rfl
    rw [e]
    unfold ft
    omega
  rw [e]
  refine lq2_for (X1 := fun i => iI (sm (fun q => fm s (q + 1)) i)) (X2 := fun i => iI ((i + 1 : Nat) : Int)) 4 _ (fun k i hi => ?_) (fun k => ?_) (by omega)
  · (simp (disch := omega) only [pl0, pl1, pl2, pl3, pl4, pl5, pl6, pl7, pl8, pl9, pl10, pl11, pl12, pl16, pl19, lit_nI, iI_add, iI_sub, iI_mul, iI_neg, iI_le, iI_lt, iI_eq, iI_max, iI_min, Option.bind_some, Option.bind_eq_bind, if_true, if_false, sm_1, c_count hP hI (show 1 ≤ i + 1 ∧ i + 1 ≤ 4 by omega)]; (repeat (first | rw [if_pos (by omega)] | rw [if_neg (by omega)])); (try simp (disch := omega) only [pl0, pl1, pl2, pl3, pl4, pl5, pl6, pl7, pl8, pl9, pl10, pl11, pl12, pl16, pl19, lit_nI, iI_add, iI_sub, iI_mul, iI_neg, iI_le, iI_lt, iI_eq, iI_max, iI_min, Option.bind_some, Option.bind_eq_bind, if_true, if_false]); (repeat (first | rw [if_pos (by omega)] | rw [if_neg (by omega)])); (try rfl))
  · simp (disch := omega) only [pl0, pl1, pl2, pl3, pl4, pl5, pl6, pl7, pl8, pl9, pl10, pl11, pl12, pl16, pl19, lit_nI, iI_add, iI_sub, iI_mul, iI_neg, iI_le, iI_lt, iI_eq, iI_max, iI_min, Option.bind_some, Option.bind_eq_bind, if_true, if_false]
    (repeat (first | rw [if_pos (by omega)] | rw [if_neg (by omega)]))
end PG
