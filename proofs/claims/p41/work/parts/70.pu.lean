/-! another height, means, undo and snapshot -/
section PU
variable {G K : GT} {s : Nat → Int32}
theorem upd_upd (f : Nat → Int32) (i : Nat) (x y : Int32) : upd (upd f i x) i y = upd f i y := by
  funext j
  by_cases h : j = i
  · rw [h, upd_at, upd_at]
  · rw [upd_ne _ _ h, upd_ne _ _ h, upd_ne _ _ h]
theorem upd_self (f : Nat → Int32) (i : Nat) : upd f i (f i) = f := by
  funext j
  by_cases h : j = i
  · rw [h, upd_at]
  · rw [upd_ne _ _ h]
/-- the faults with another height -/
def wf (s : Nat → Int32) (j : Nat) (h : Int) : Int := ft (upd s (20 + 3 * j) (iI h))
theorem ft_r (hI : Inv s) : 0 ≤ ft s ∧ ft s ≤ 64 := by
  have h1 := fm_r hI 1
  have h2 := fm_r hI 2
  have h3 := fm_r hI 3
  have h4 := fm_r hI 4
  unfold ft
  omega
theorem Inv7n (hI : Inv s) {j : Nat} {b : Int} (h1 : j < ns s) (h2 : 0 ≤ b ∧ b ≤ 9) : Inv (upd s (20 + 3 * j) (iI b)) := by
  have := Inv7 hI (a := j) (b := b) (by omega) h2
  rwa [Int.toNat_natCast] at this
theorem wf_r (hI : Inv s) {j : Nat} {b : Int} (h1 : j < ns s) (h2 : 0 ≤ b ∧ b ≤ 9) : 0 ≤ wf s j b ∧ wf s j b ≤ 64 := ft_r (Inv7n hI h1 h2)
theorem c_setH (hP : Pr G 0 s) {j : Nat} (b : Int) (hj : j < 16) : f_X5_setHeight G (iI j) (iI b) = some (iI (ht s j), upR G 5 (upd (G 5) j (iI b))) := by
  unfold f_X5_setHeight
  rw [c_ht hP hj, iI_put (by omega) (by omega) (by omega), Option.bind_some, Int.toNat_natCast]
theorem Pr_setH (hP : Pr G 0 s) (hI : Inv s) {j : Nat} (b : Int) (hj : j < 16) : Pr (upR G 5 (upd (G 5) j (iI b))) 0 (upd s (20 + 3 * j) (iI b)) := by
  obtain ⟨G', h1, h2, -⟩ := C_do7 hP hI (a := j) (b := b) (by omega)
  rw [c_setH hP b hj] at h1
  cases h1
  rwa [Int.toNat_natCast] at h2
theorem c_countWith (hP : Pr G 0 s) (hI : Inv s) {j : Nat} {b : Int} (hj : j < ns s) (hb : 0 ≤ b ∧ b ≤ 9) : f_X6_countWith G (iI j) (iI b) = some (iI (wf s j b), G) := by
  have h16 := hI.ns16
  have hP2 := Pr_setH hP hI b (show j < 16 by omega)
  have hg : G 5 j = iI (ht s j) := by rw [ht, toInt_iI]; exact hP.2.2.2.2.2.2.2.2.2.1 j (by omega)
  have hback : upR (upR G 5 (upd (G 5) j (iI b))) 5 (upd (upR G 5 (upd (G 5) j (iI b)) 5) j (iI (ht s j))) = G := by
    rw [upR_upR, upR_at, upd_upd, ← hg, upd_self, upR_self]
  unfold f_X6_countWith
  rw [c_setH hP b (by omega), b2s, c_countAll hP2 (Inv7n hI hj hb), Option.bind_some, c_setH hP2 _ (by omega), b2s, hback]
  rfl
theorem c_dropI (hP : Pr G 0 s) (hI : Inv s) {j : Nat} (hj : j < ns s) (hd : 0 ≤ ht s j) : f_X5_isRest G (iI j) = some (iI 0) := by
  rw [c_isRest hP hI hj, if_neg (by omega)]
theorem c_restJ (hP : Pr G 0 s) (hI : Inv s) {j : Nat} (hj : j < ns s) (hd : ¬ 0 ≤ ht s j) : f_X5_isRest G (iI j) = some (iI 1) := by
  rw [c_isRest hP hI hj, if_pos (by omega)]
/-- the best of the first heights -/
def bh (s : Nat → Int32) (j : Nat) : Nat → Int
  | 0 => 0
  | n + 1 => if wf s j ((n + 1 : Nat) : Int) < wf s j (bh s j n) then ((n + 1 : Nat) : Int) else bh s j n
theorem bh_r (s : Nat → Int32) (j : Nat) : ∀ n, n ≤ 9 → 0 ≤ bh s j n ∧ bh s j n ≤ 9 := by
  intro n
  induction n with
  | zero => intro _; exact ⟨Int.le_refl 0, by show (0 : Int) ≤ 9; omega⟩
  | succ n ih =>
    intro hn
    have h := ih (by omega)
    have e : bh s j (n + 1) = if wf s j ((n + 1 : Nat) : Int) < wf s j (bh s j n) then ((n + 1 : Nat) : Int) else bh s j n := rfl
    rw [e]
    by_cases h1 : wf s j ((n + 1 : Nat) : Int) < wf s j (bh s j n)
    · rw [if_pos h1]; omega
    · rw [if_neg h1]; exact h
theorem c_best (hP : Pr G 0 s) (hI : Inv s) {j : Nat} (hj : j < ns s) : f_X9_bestHeight_27 G (iI j) (iI 1) = some (.inr (iI (bh s j 9)), G) := by
  unfold f_X9_bestHeight_27
  rw [if_neg ne10, pl0, c_countWith hP hI hj (b := 0) (by omega), b2s]
  unfold f_X9_bestHeight_45
  refine lq4_fr (X1 := fun _ => G) (X2 := fun i => iI (bh s j i)) (X3 := fun i => iI (wf s j (bh s j i))) (X4 := fun i => iI ((i + 1 : Nat) : Int)) 9 _ rfl rfl rfl rfl (fun k i hi => ?_) (fun k => ?_) (by omega)
  · have h1 := bh_r s j i (by omega)
    have h2 := wf_r hI hj h1
    have h3 := wf_r hI hj (b := ((i + 1 : Nat) : Int)) (by omega)
    have e : bh s j (i + 1) = if wf s j ((i + 1 : Nat) : Int) < wf s j (bh s j i) then ((i + 1 : Nat) : Int) else bh s j i := rfl
    by_cases h4 : wf s j ((i + 1 : Nat) : Int) < wf s j (bh s j i)
    · rw [if_pos h4] at e
      (simp (disch := omega) only [pl0, pl1, pl2, pl3, pl4, pl5, pl6, pl7, pl8, pl9, pl10, pl11, pl12, pl16, pl19, lit_nI, iI_add, iI_sub, iI_mul, iI_neg, iI_le, iI_lt, iI_eq, iI_max, iI_min, Option.bind_some, Option.bind_eq_bind, if_true, if_false, c_countWith hP hI hj (show 0 ≤ ((i + 1 : Nat) : Int) ∧ ((i + 1 : Nat) : Int) ≤ 9 by omega), b2s, e]; (repeat (first | rw [if_pos (by omega)] | rw [if_neg (by omega)])); (try simp (disch := omega) only [pl0, pl1, pl2, pl3, pl4, pl5, pl6, pl7, pl8, pl9, pl10, pl11, pl12, pl16, pl19, lit_nI, iI_add, iI_sub, iI_mul, iI_neg, iI_le, iI_lt, iI_eq, iI_max, iI_min, Option.bind_some, Option.bind_eq_bind, if_true, if_false]); (repeat (first | rw [if_pos (by omega)] | rw [if_neg (by omega)])); (try simp only [f_X9_bestHeight_76]); (try simp (disch := omega) only [pl0, pl1, pl2, pl3, pl4, pl5, pl6, pl7, pl8, pl9, pl10, pl11, pl12, pl16, pl19, lit_nI, iI_add, iI_sub, iI_mul, iI_neg, iI_le, iI_lt, iI_eq, iI_max, iI_min, Option.bind_some, Option.bind_eq_bind, if_true, if_false]); (repeat (first | rw [if_pos (by omega)] | rw [if_neg (by omega)])); (try simp (disch := omega) only [pl0, pl1, pl2, pl3, pl4, pl5, pl6, pl7, pl8, pl9, pl10, pl11, pl12, pl16, pl19, lit_nI, iI_add, iI_sub, iI_mul, iI_neg, iI_le, iI_lt, iI_eq, iI_max, iI_min, Option.bind_some, Option.bind_eq_bind, if_true, if_false, c_countWith hP hI hj (show 0 ≤ ((i + 1 : Nat) : Int) ∧ ((i + 1 : Nat) : Int) ≤ 9 by omega), b2s, e]); (repeat (first | rw [if_pos (by omega)] | rw [if_neg (by omega)])); (try simp only [f_X9_bestHeight_76]); (try simp (disch := omega) only [pl0, pl1, pl2, pl3, pl4, pl5, pl6, pl7, pl8, pl9, pl10, pl11, pl12, pl16, pl19, lit_nI, iI_add, iI_sub, iI_mul, iI_neg, iI_le, iI_lt, iI_eq, iI_max, iI_min, Option.bind_some, Option.bind_eq_bind, if_true, if_false]); (repeat (first | rw [if_pos (by omega)] | rw [if_neg (by omega)])); (try simp (disch := omega) only [pl0, pl1, pl2, pl3, pl4, pl5, pl6, pl7, pl8, pl9, pl10, pl11, pl12, pl16, pl19, lit_nI, iI_add, iI_sub, iI_mul, iI_neg, iI_le, iI_lt, iI_eq, iI_max, iI_min, Option.bind_some, Option.bind_eq_bind, if_true, if_false, c_countWith hP hI hj (show 0 ≤ ((i + 1 : Nat) : Int) ∧ ((i + 1 : Nat) : Int) ≤ 9 by omega), b2s, e]); (repeat (first | rw [if_pos (by omega)] | rw [if_neg (by omega)])); (try simp only [f_X9_bestHeight_76]); (try simp (disch := omega) only [pl0, pl1, pl2, pl3, pl4, pl5, pl6, pl7, pl8, pl9, pl10, pl11, pl12, pl16, pl19, lit_nI, iI_add, iI_sub, iI_mul, iI_neg, iI_le, iI_lt, iI_eq, iI_max, iI_min, Option.bind_some, Option.bind_eq_bind, if_true, if_false]); (repeat (first | rw [if_pos (by omega)] | rw [if_neg (by omega)])); (try simp (disch := omega) only [pl0, pl1, pl2, pl3, pl4, pl5, pl6, pl7, pl8, pl9, pl10, pl11, pl12, pl16, pl19, lit_nI, iI_add, iI_sub, iI_mul, iI_neg, iI_le, iI_lt, iI_eq, iI_max, iI_min, Option.bind_some, Option.bind_eq_bind, if_true, if_false, c_countWith hP hI hj (show 0 ≤ ((i + 1 : Nat) : Int) ∧ ((i + 1 : Nat) : Int) ≤ 9 by omega), b2s, e]); (repeat (first | rw [if_pos (by omega)] | rw [if_neg (by omega)])); (try simp only [f_X9_bestHeight_76]); (try simp (disch := omega) only [pl0, pl1, pl2, pl3, pl4, pl5, pl6, pl7, pl8, pl9, pl10, pl11, pl12, pl16, pl19, lit_nI, iI_add, iI_sub, iI_mul, iI_neg, iI_le, iI_lt, iI_eq, iI_max, iI_min, Option.bind_some, Option.bind_eq_bind, if_true, if_false]); (repeat (first | rw [if_pos (by omega)] | rw [if_neg (by omega)])); (try simp (disch := omega) only [pl0, pl1, pl2, pl3, pl4, pl5, pl6, pl7, pl8, pl9, pl10, pl11, pl12, pl16, pl19, lit_nI, iI_add, iI_sub, iI_mul, iI_neg, iI_le, iI_lt, iI_eq, iI_max, iI_min, Option.bind_some, Option.bind_eq_bind, if_true, if_false, c_countWith hP hI hj (show 0 ≤ ((i + 1 : Nat) : Int) ∧ ((i + 1 : Nat) : Int) ≤ 9 by omega), b2s, e]); (repeat (first | rw [if_pos (by omega)] | rw [if_neg (by omega)])); (try simp only [f_X9_bestHeight_76]); (try simp (disch := omega) only [pl0, pl1, pl2, pl3, pl4, pl5, pl6, pl7, pl8, pl9, pl10, pl11, pl12, pl16, pl19, lit_nI, iI_add, iI_sub, iI_mul, iI_neg, iI_le, iI_lt, iI_eq, iI_max, iI_min, Option.bind_some, Option.bind_eq_bind, if_true, if_false]); (repeat (first | rw [if_pos (by omega)] | rw [if_neg (by omega)])); (try simp (disch := omega) only [pl0, pl1, pl2, pl3, pl4, pl5, pl6, pl7, pl8, pl9, pl10, pl11, pl12, pl16, pl19, lit_nI, iI_add, iI_sub, iI_mul, iI_neg, iI_le, iI_lt, iI_eq, iI_max, iI_min, Option.bind_some, Option.bind_eq_bind, if_true, if_false, c_countWith hP hI hj (show 0 ≤ ((i + 1 : Nat) : Int) ∧ ((i + 1 : Nat) : Int) ≤ 9 by omega), b2s, e]); (repeat (first | rw [if_pos (by omega)] | rw [if_neg (by omega)])); (try rfl))
    · rw [if_neg h4] at e
      (simp (disch := omega) only [pl0, pl1, pl2, pl3, pl4, pl5, pl6, pl7, pl8, pl9, pl10, pl11, pl12, pl16, pl19, lit_nI, iI_add, iI_sub, iI_mul, iI_neg, iI_le, iI_lt, iI_eq, iI_max, iI_min, Option.bind_some, Option.bind_eq_bind, if_true, if_false, c_countWith hP hI hj (show 0 ≤ ((i + 1 : Nat) : Int) ∧ ((i + 1 : Nat) : Int) ≤ 9 by omega), b2s, e]; (repeat (first | rw [if_pos (by omega)] | rw [if_neg (by omega)])); (try simp (disch := omega) only [pl0, pl1, pl2, pl3, pl4, pl5, pl6, pl7, pl8, pl9, pl10, pl11, pl12, pl16, pl19, lit_nI, iI_add, iI_sub, iI_mul, iI_neg, iI_le, iI_lt, iI_eq, iI_max, iI_min, Option.bind_some, Option.bind_eq_bind, if_true, if_false]); (repeat (first | rw [if_pos (by omega)] | rw [if_neg (by omega)])); (try simp only [f_X9_bestHeight_76]); (try simp (disch := omega) only [pl0, pl1, pl2, pl3, pl4, pl5, pl6, pl7, pl8, pl9, pl10, pl11, pl12, pl16, pl19, lit_nI, iI_add, iI_sub, iI_mul, iI_neg, iI_le, iI_lt, iI_eq, iI_max, iI_min, Option.bind_some, Option.bind_eq_bind, if_true, if_false]); (repeat (first | rw [if_pos (by omega)] | rw [if_neg (by omega)])); (try simp (disch := omega) only [pl0, pl1, pl2, pl3, pl4, pl5, pl6, pl7, pl8, pl9, pl10, pl11, pl12, pl16, pl19, lit_nI, iI_add, iI_sub, iI_mul, iI_neg, iI_le, iI_lt, iI_eq, iI_max, iI_min, Option.bind_some, Option.bind_eq_bind, if_true, if_false, c_countWith hP hI hj (show 0 ≤ ((i + 1 : Nat) : Int) ∧ ((i + 1 : Nat) : Int) ≤ 9 by omega), b2s, e]); (repeat (first | rw [if_pos (by omega)] | rw [if_neg (by omega)])); (try simp only [f_X9_bestHeight_76]); (try simp (disch := omega) only [pl0, pl1, pl2, pl3, pl4, pl5, pl6, pl7, pl8, pl9, pl10, pl11, pl12, pl16, pl19, lit_nI, iI_add, iI_sub, iI_mul, iI_neg, iI_le, iI_lt, iI_eq, iI_max, iI_min, Option.bind_some, Option.bind_eq_bind, if_true, if_false]); (repeat (first | rw [if_pos (by omega)] | rw [if_neg (by omega)])); (try simp (disch := omega) only [pl0, pl1, pl2, pl3, pl4, pl5, pl6, pl7, pl8, pl9, pl10, pl11, pl12, pl16, pl19, lit_nI, iI_add, iI_sub, iI_mul, iI_neg, iI_le, iI_lt, iI_eq, iI_max, iI_min, Option.bind_some, Option.bind_eq_bind, if_true, if_false, c_countWith hP hI hj (show 0 ≤ ((i + 1 : Nat) : Int) ∧ ((i + 1 : Nat) : Int) ≤ 9 by omega), b2s, e]); (repeat (first | rw [if_pos (by omega)] | rw [if_neg (by omega)])); (try simp only [f_X9_bestHeight_76]); (try simp (disch := omega) only [pl0, pl1, pl2, pl3, pl4, pl5, pl6, pl7, pl8, pl9, pl10, pl11, pl12, pl16, pl19, lit_nI, iI_add, iI_sub, iI_mul, iI_neg, iI_le, iI_lt, iI_eq, iI_max, iI_min, Option.bind_some, Option.bind_eq_bind, if_true, if_false]); (repeat (first | rw [if_pos (by omega)] | rw [if_neg (by omega)])); (try simp (disch := omega) only [pl0, pl1, pl2, pl3, pl4, pl5, pl6, pl7, pl8, pl9, pl10, pl11, pl12, pl16, pl19, lit_nI, iI_add, iI_sub, iI_mul, iI_neg, iI_le, iI_lt, iI_eq, iI_max, iI_min, Option.bind_some, Option.bind_eq_bind, if_true, if_false, c_countWith hP hI hj (show 0 ≤ ((i + 1 : Nat) : Int) ∧ ((i + 1 : Nat) : Int) ≤ 9 by omega), b2s, e]); (repeat (first | rw [if_pos (by omega)] | rw [if_neg (by omega)])); (try simp only [f_X9_bestHeight_76]); (try simp (disch := omega) only [pl0, pl1, pl2, pl3, pl4, pl5, pl6, pl7, pl8, pl9, pl10, pl11, pl12, pl16, pl19, lit_nI, iI_add, iI_sub, iI_mul, iI_neg, iI_le, iI_lt, iI_eq, iI_max, iI_min, Option.bind_some, Option.bind_eq_bind, if_true, if_false]); (repeat (first | rw [if_pos (by omega)] | rw [if_neg (by omega)])); (try simp (disch := omega) only [pl0, pl1, pl2, pl3, pl4, pl5, pl6, pl7, pl8, pl9, pl10, pl11, pl12, pl16, pl19, lit_nI, iI_add, iI_sub, iI_mul, iI_neg, iI_le, iI_lt, iI_eq, iI_max, iI_min, Option.bind_some, Option.bind_eq_bind, if_true, if_false, c_countWith hP hI hj (show 0 ≤ ((i + 1 : Nat) : Int) ∧ ((i + 1 : Nat) : Int) ≤ 9 by omega), b2s, e]); (repeat (first | rw [if_pos (by omega)] | rw [if_neg (by omega)])); (try simp only [f_X9_bestHeight_76]); (try simp (disch := omega) only [pl0, pl1, pl2, pl3, pl4, pl5, pl6, pl7, pl8, pl9, pl10, pl11, pl12, pl16, pl19, lit_nI, iI_add, iI_sub, iI_mul, iI_neg, iI_le, iI_lt, iI_eq, iI_max, iI_min, Option.bind_some, Option.bind_eq_bind, if_true, if_false]); (repeat (first | rw [if_pos (by omega)] | rw [if_neg (by omega)])); (try simp (disch := omega) only [pl0, pl1, pl2, pl3, pl4, pl5, pl6, pl7, pl8, pl9, pl10, pl11, pl12, pl16, pl19, lit_nI, iI_add, iI_sub, iI_mul, iI_neg, iI_le, iI_lt, iI_eq, iI_max, iI_min, Option.bind_some, Option.bind_eq_bind, if_true, if_false, c_countWith hP hI hj (show 0 ≤ ((i + 1 : Nat) : Int) ∧ ((i + 1 : Nat) : Int) ≤ 9 by omega), b2s, e]); (repeat (first | rw [if_pos (by omega)] | rw [if_neg (by omega)])); (try rfl))
  · simp (disch := omega) only [pl0, pl1, pl2, pl3, pl4, pl5, pl6, pl7, pl8, pl9, pl10, pl11, pl12, pl16, pl19, lit_nI, iI_add, iI_sub, iI_mul, iI_neg, iI_le, iI_lt, iI_eq, iI_max, iI_min, Option.bind_some, Option.bind_eq_bind, if_true, if_false]
    (repeat (first | rw [if_pos (by omega)] | rw [if_neg (by omega)]))
theorem sp2_r (hI : Inv s) : 0 ≤ sp2 s ∧ sp2 s ≤ 176 := by
  have h16 := hI.ns16
  have h1 := sm_ge (f := fun j => max 0 (pc s j)) (n := ns s) (a := 0) (fun i _ => by omega)
  have h2 := sm_le (f := fun j => max 0 (pc s j)) (n := ns s) (a := 11) (fun i hi => by have := pc_r hI hi; omega)
  unfold sp2
  omega
/-! undo and snapshot -/
end PU
