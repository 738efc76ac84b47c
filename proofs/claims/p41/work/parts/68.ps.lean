/-! calls that read -/
section PS
variable {G K : GT} {s : Nat → Int32}
theorem c_soundAtR (hP : Pr G 0 s) (hI : Inv s) {x : Int} (hx : R32 x) : f_X5_soundAt G (iI x) = some (iI (sat s x)) := by
  unfold R32 at hx
  have h6 := hI.ns16
  have hb0 := c_ns hP hI
  obtain ⟨g1, g2, g3⟩ := ff_r (fun i => 0 ≤ x ∧ x < bS s (i + 1)) (ns s)
  generalize hN : ff (fun i => 0 ≤ x ∧ x < bS s (i + 1)) (ns s) = N at g1 g2 g3
  unfold f_X5_soundAt f_X5_soundAt_4
  refine lq2_for (X1 := fun i => iI (bS s i)) (X2 := fun i => iI i) N _ (fun k i hi => ?_) (fun k => ?_) (by omega)
  · have h1 := hI.bSr (j := i + 1) (by omega)
    have h2 := g2 i hi
    have h3 := bS_1 s i
    rw [h3] at h1 h2
    simp (disch := omega) only [pl0, pl1, pl2, pl3, pl4, pl5, pl6, pl7, pl8, pl9, pl10, pl11, pl12, pl16, pl19, lit_nI, iI_add, iI_sub, iI_mul, iI_neg, iI_le, iI_lt, iI_eq, iI_max, iI_min, Option.bind_some, Option.bind_eq_bind, if_true, if_false, hb0, c_ln hP (show i < 16 by omega), f_X5_soundAt_34, bS_1]
    by_cases h4 : x < 0
    · (repeat (first | rw [if_pos (by omega)] | rw [if_neg (by omega)]))
      rfl
    · (repeat (first | rw [if_pos (by omega)] | rw [if_neg (by omega)]))
      rfl
  · by_cases h : N < ns s
    · have h1 := hI.bSr (j := N + 1) (by omega)
      have h0 := hI.bSr (j := N) (by omega)
      have h2 := g3 h
      have h3 := bS_1 s N
      have h5 : bS s N ≤ x := by
        cases N with
        | zero => have : bS s 0 = 0 := rfl; omega
        | succ n => have := g2 n (by omega); omega
      rw [sat_eq hI h h5 h2.2]
      rw [h3] at h1 h2
      simp (disch := omega) only [pl0, pl1, pl2, pl3, pl4, pl5, pl6, pl7, pl8, pl9, pl10, pl11, pl12, pl16, pl19, lit_nI, iI_add, iI_sub, iI_mul, iI_neg, iI_le, iI_lt, iI_eq, iI_max, iI_min, Option.bind_some, Option.bind_eq_bind, if_true, if_false, hb0, c_ln hP (show N < 16 by omega), f_X5_soundAt_34, bS_1]
      (repeat (first | rw [if_pos (by omega)] | rw [if_neg (by omega)]))
    · have e : N = ns s := by omega
      subst e
      have e2 : sat s x = -1 := by
        unfold sat
        refine if_neg fun h3 => ?_
        have := si_r hI h3.1 h3.2
        exact g2 _ (by omega) ⟨h3.1, this.2.2⟩
      simp (disch := omega) only [pl0, pl1, pl2, pl3, pl4, pl5, pl6, pl7, pl8, pl9, pl10, pl11, pl12, pl16, pl19, lit_nI, iI_add, iI_sub, iI_mul, iI_neg, iI_le, iI_lt, iI_eq, iI_max, iI_min, Option.bind_some, Option.bind_eq_bind, if_true, if_false, hb0, e2]
      (repeat (first | rw [if_pos (by omega)] | rw [if_neg (by omega)]))
theorem sp_val (hI : Inv s) {b : Nat} (hb : b < nb s) {x : Int} (h0 : 0 ≤ x) (h1 : x < pb s b (ns s)) : ∃ j : Nat, j < ns s ∧ sp s b x = j := by
  obtain ⟨i, a1, a2, a3⟩ := sp_in hI hb h0 h1
  unfold sp
  rcases lst_r (fun j => 0 < ov s j b ∧ pb s b j = x) (ns s) with ⟨-, h3⟩ | ⟨j, h3, -, h5, -⟩
  · exact absurd ⟨a2, a3⟩ (h3 i a1)
  · exact ⟨j, h3, h5⟩
end PS
