/-! tins, parts of bars -/
/-- drops, rests, beats of a tin among the first n sounds -/
def cd (s : Nat → Int32) (t : Int) (n : Nat) : Int := sm (fun j => if tn s j = t ∧ 0 ≤ ht s j then 1 else 0) n
def cr (s : Nat → Int32) (t : Int) (n : Nat) : Int := sm (fun j => if tn s j = t ∧ ht s j < 0 then 1 else 0) n
def bt (s : Nat → Int32) (t : Int) (n : Nat) : Int := sm (fun j => if tn s j = t then ln s j else 0) n
section PE
variable {G K : GT} {s : Nat → Int32}
theorem c_countOfTin0 (hP : Pr G 0 s) (hI : Inv s) {t : Nat} (ht0 : t < 4) : f_X5_countOfTin G (iI t) (iI 0) = some (iI (cd s t (ns s))) := by
  have h3 := hI.ns16
  have hb0 := c_ns hP hI
  unfold f_X5_countOfTin f_X5_countOfTin_5
  refine lq2_for (X1 := fun i => iI (cd s t i)) (X2 := fun i => iI i) (ns s) _ (fun k i hi => ?_) (fun k => ?_) (by omega)
  · have h := hI.sd hi
    unfold cd
    by_cases h1 : tn s i = t <;> by_cases h2 : ht s i < 0 <;> (simp (disch := omega) only [pl0, pl1, pl2, pl3, pl4, pl5, pl6, pl7, pl8, pl9, pl10, pl11, pl12, pl16, pl19, lit_nI, iI_add, iI_sub, iI_mul, iI_neg, iI_le, iI_lt, iI_eq, iI_max, iI_min, Option.bind_some, Option.bind_eq_bind, if_true, if_false, sm_1, hb0, c_tn hP (show i < 16 by omega), c_isRest hP hI hi]; (repeat (first | rw [if_pos (by omega)] | rw [if_neg (by omega)])); (try simp only [f_X5_countOfTin_43, f_X5_countOfTin_42]); (try simp (disch := omega) only [pl0, pl1, pl2, pl3, pl4, pl5, pl6, pl7, pl8, pl9, pl10, pl11, pl12, pl16, pl19, lit_nI, iI_add, iI_sub, iI_mul, iI_neg, iI_le, iI_lt, iI_eq, iI_max, iI_min, Option.bind_some, Option.bind_eq_bind, if_true, if_false, sm_1, hb0, c_tn hP (show i < 16 by omega), c_isRest hP hI hi]); (repeat (first | rw [if_pos (by omega)] | rw [if_neg (by omega)])); (try simp only [f_X5_countOfTin_43, f_X5_countOfTin_42]); (try simp (disch := omega) only [pl0, pl1, pl2, pl3, pl4, pl5, pl6, pl7, pl8, pl9, pl10, pl11, pl12, pl16, pl19, lit_nI, iI_add, iI_sub, iI_mul, iI_neg, iI_le, iI_lt, iI_eq, iI_max, iI_min, Option.bind_some, Option.bind_eq_bind, if_true, if_false, sm_1, hb0, c_tn hP (show i < 16 by omega), c_isRest hP hI hi]); (repeat (first | rw [if_pos (by omega)] | rw [if_neg (by omega)])); (try simp only [f_X5_countOfTin_43, f_X5_countOfTin_42]); (try simp (disch := omega) only [pl0, pl1, pl2, pl3, pl4, pl5, pl6, pl7, pl8, pl9, pl10, pl11, pl12, pl16, pl19, lit_nI, iI_add, iI_sub, iI_mul, iI_neg, iI_le, iI_lt, iI_eq, iI_max, iI_min, Option.bind_some, Option.bind_eq_bind, if_true, if_false, sm_1, hb0, c_tn hP (show i < 16 by omega), c_isRest hP hI hi]); (repeat (first | rw [if_pos (by omega)] | rw [if_neg (by omega)])); (try simp only [f_X5_countOfTin_43, f_X5_countOfTin_42]); (try simp (disch := omega) only [pl0, pl1, pl2, pl3, pl4, pl5, pl6, pl7, pl8, pl9, pl10, pl11, pl12, pl16, pl19, lit_nI, iI_add, iI_sub, iI_mul, iI_neg, iI_le, iI_lt, iI_eq, iI_max, iI_min, Option.bind_some, Option.bind_eq_bind, if_true, if_false, sm_1, hb0, c_tn hP (show i < 16 by omega), c_isRest hP hI hi]); (repeat (first | rw [if_pos (by omega)] | rw [if_neg (by omega)])); (try rfl))
  · simp (disch := omega) only [pl0, pl1, pl2, pl3, pl4, pl5, pl6, pl7, pl8, pl9, pl10, pl11, pl12, pl16, pl19, lit_nI, iI_add, iI_sub, iI_mul, iI_neg, iI_le, iI_lt, iI_eq, iI_max, iI_min, Option.bind_some, Option.bind_eq_bind, if_true, if_false, hb0]
    (repeat (first | rw [if_pos (by omega)] | rw [if_neg (by omega)]))
theorem c_countOfTin1 (hP : Pr G 0 s) (hI : Inv s) {t : Nat} (ht0 : t < 4) : f_X5_countOfTin G (iI t) (iI 1) = some (iI (cr s t (ns s))) := by
  have h3 := hI.ns16
  have hb0 := c_ns hP hI
  unfold f_X5_countOfTin f_X5_countOfTin_5
  refine lq2_for (X1 := fun i => iI (cr s t i)) (X2 := fun i => iI i) (ns s) _ (fun k i hi => ?_) (fun k => ?_) (by omega)
  · have h := hI.sd hi
    unfold cr
    by_cases h1 : tn s i = t <;> by_cases h2 : ht s i < 0 <;> (simp (disch := omega) only [pl0, pl1, pl2, pl3, pl4, pl5, pl6, pl7, pl8, pl9, pl10, pl11, pl12, pl16, pl19, lit_nI, iI_add, iI_sub, iI_mul, iI_neg, iI_le, iI_lt, iI_eq, iI_max, iI_min, Option.bind_some, Option.bind_eq_bind, if_true, if_false, sm_1, hb0, c_tn hP (show i < 16 by omega), c_isRest hP hI hi]; (repeat (first | rw [if_pos (by omega)] | rw [if_neg (by omega)])); (try simp only [f_X5_countOfTin_43, f_X5_countOfTin_42]); (try simp (disch := omega) only [pl0, pl1, pl2, pl3, pl4, pl5, pl6, pl7, pl8, pl9, pl10, pl11, pl12, pl16, pl19, lit_nI, iI_add, iI_sub, iI_mul, iI_neg, iI_le, iI_lt, iI_eq, iI_max, iI_min, Option.bind_some, Option.bind_eq_bind, if_true, if_false, sm_1, hb0, c_tn hP (show i < 16 by omega), c_isRest hP hI hi]); (repeat (first | rw [if_pos (by omega)] | rw [if_neg (by omega)])); (try simp only [f_X5_countOfTin_43, f_X5_countOfTin_42]); (try simp (disch := omega) only [pl0, pl1, pl2, pl3, pl4, pl5, pl6, pl7, pl8, pl9, pl10, pl11, pl12, pl16, pl19, lit_nI, iI_add, iI_sub, iI_mul, iI_neg, iI_le, iI_lt, iI_eq, iI_max, iI_min, Option.bind_some, Option.bind_eq_bind, if_true, if_false, sm_1, hb0, c_tn hP (show i < 16 by omega), c_isRest hP hI hi]); (repeat (first | rw [if_pos (by omega)] | rw [if_neg (by omega)])); (try simp only [f_X5_countOfTin_43, f_X5_countOfTin_42]); (try simp (disch := omega) only [pl0, pl1, pl2, pl3, pl4, pl5, pl6, pl7, pl8, pl9, pl10, pl11, pl12, pl16, pl19, lit_nI, iI_add, iI_sub, iI_mul, iI_neg, iI_le, iI_lt, iI_eq, iI_max, iI_min, Option.bind_some, Option.bind_eq_bind, if_true, if_false, sm_1, hb0, c_tn hP (show i < 16 by omega), c_isRest hP hI hi]); (repeat (first | rw [if_pos (by omega)] | rw [if_neg (by omega)])); (try simp only [f_X5_countOfTin_43, f_X5_countOfTin_42]); (try simp (disch := omega) only [pl0, pl1, pl2, pl3, pl4, pl5, pl6, pl7, pl8, pl9, pl10, pl11, pl12, pl16, pl19, lit_nI, iI_add, iI_sub, iI_mul, iI_neg, iI_le, iI_lt, iI_eq, iI_max, iI_min, Option.bind_some, Option.bind_eq_bind, if_true, if_false, sm_1, hb0, c_tn hP (show i < 16 by omega), c_isRest hP hI hi]); (repeat (first | rw [if_pos (by omega)] | rw [if_neg (by omega)])); (try rfl))
  · simp (disch := omega) only [pl0, pl1, pl2, pl3, pl4, pl5, pl6, pl7, pl8, pl9, pl10, pl11, pl12, pl16, pl19, lit_nI, iI_add, iI_sub, iI_mul, iI_neg, iI_le, iI_lt, iI_eq, iI_max, iI_min, Option.bind_some, Option.bind_eq_bind, if_true, if_false, hb0]
    (repeat (first | rw [if_pos (by omega)] | rw [if_neg (by omega)]))
theorem c_beatsOfTin (hP : Pr G 0 s) (hI : Inv s) {t : Nat} (ht0 : t < 4) : f_X5_beatsOfTin G (iI t) = some (iI (bt s t (ns s))) := by
  have h3 := hI.ns16
  have hb0 := c_ns hP hI
  unfold f_X5_beatsOfTin f_X5_beatsOfTin_4
  refine lq2_for (X1 := fun i => iI (bt s t i)) (X2 := fun i => iI i) (ns s) _ (fun k i hi => ?_) (fun k => ?_) (by omega)
  · have h := hI.sd hi
    unfold bt
    by_cases h1 : tn s i = t <;> (simp (disch := omega) only [pl0, pl1, pl2, pl3, pl4, pl5, pl6, pl7, pl8, pl9, pl10, pl11, pl12, pl16, pl19, lit_nI, iI_add, iI_sub, iI_mul, iI_neg, iI_le, iI_lt, iI_eq, iI_max, iI_min, Option.bind_some, Option.bind_eq_bind, if_true, if_false, sm_1, hb0, c_tn hP (show i < 16 by omega), c_ln hP (show i < 16 by omega), f_X5_beatsOfTin_37]; (repeat (first | rw [if_pos (by omega)] | rw [if_neg (by omega)])); (try simp (disch := omega) only [pl0, pl1, pl2, pl3, pl4, pl5, pl6, pl7, pl8, pl9, pl10, pl11, pl12, pl16, pl19, lit_nI, iI_add, iI_sub, iI_mul, iI_neg, iI_le, iI_lt, iI_eq, iI_max, iI_min, Option.bind_some, Option.bind_eq_bind, if_true, if_false]); (repeat (first | rw [if_pos (by omega)] | rw [if_neg (by omega)])); (try rfl))
  · simp (disch := omega) only [pl0, pl1, pl2, pl3, pl4, pl5, pl6, pl7, pl8, pl9, pl10, pl11, pl12, pl16, pl19, lit_nI, iI_add, iI_sub, iI_mul, iI_neg, iI_le, iI_lt, iI_eq, iI_max, iI_min, Option.bind_some, Option.bind_eq_bind, if_true, if_false, hb0]
    (repeat (first | rw [if_pos (by omega)] | rw [if_neg (by omega)]))
theorem it_ge {c : Prop} [Decidable c] {x : Int} (h : 0 ≤ x) : 0 ≤ if c then x else 0 := by
  by_cases hc : c
  · rw [if_pos hc]; exact h
  · rw [if_neg hc]; exact Int.le_refl _
theorem it_le {c : Prop} [Decidable c] {x m : Int} (h : x ≤ m) (h0 : 0 ≤ m) : (if c then x else 0) ≤ m := by
  by_cases hc : c
  · rw [if_pos hc]; exact h
  · rw [if_neg hc]; exact h0
theorem bt_r (hI : Inv s) (t : Int) : 0 ≤ bt s t (ns s) ∧ bt s t (ns s) ≤ 128 := by
  have h3 := hI.ns16
  have h1 := sm_ge (f := fun j => if tn s j = t then ln s j else 0) (n := ns s) (a := 0) (fun i hi => it_ge (by have := hI.sd hi; omega))
  have h2 := sm_le (f := fun j => if tn s j = t then ln s j else 0) (n := ns s) (a := 8) (fun i hi => it_le (by have := hI.sd hi; omega) (by omega))
  unfold bt
  omega
/-! the sound of a part -/
theorem pb_r (hI : Inv s) {b : Nat} (hb : b < nb s) : ∀ n, n ≤ ns s → 0 ≤ pb s b n ∧ pb s b n ≤ n := by
  intro n hn
  have h1 := sm_ge (f := fun j => if 0 < ov s j b then 1 else 0) (n := n) (a := 0) (fun i hi => it_ge (by omega))
  have h2 := sm_le (f := fun j => if 0 < ov s j b then 1 else 0) (n := n) (a := 1) (fun i hi => it_le (by omega) (by omega))
  unfold pb
  omega
theorem pb_m {b : Nat} : ∀ i j, i < j → 0 < ov s i b → pb s b i + 1 ≤ pb s b j := by
  intro i j hij hi
  have h := sm_mono (f := fun j => if 0 < ov s j b then 1 else 0) (n := j) (fun i _ => it_ge (by omega)) (i + 1) j (by omega) (by omega)
  rw [sm_1, if_pos hi] at h
  exact h
/-- the sound of a part of a bar, or -1 -/
def sp (s : Nat → Int32) (b : Nat) (x : Int) : Int := lst (fun j => 0 < ov s j b ∧ pb s b j = x) (ns s)
theorem sp_in (hI : Inv s) {b : Nat} (hb : b < nb s) {x : Int} (h0 : 0 ≤ x) (h1 : x < pb s b (ns s)) : ∃ j, j < ns s ∧ 0 < ov s j b ∧ pb s b j = x := by
  have key : ∀ n, n ≤ ns s → x < pb s b n → ∃ j, j < n ∧ 0 < ov s j b ∧ pb s b j = x := by
    intro n
    induction n with
    | zero => intro _ h; have : pb s b 0 = 0 := rfl; omega
    | succ n ih =>
      intro hn h
      by_cases h2 : x < pb s b n
      · obtain ⟨j, a1, a2, a3⟩ := ih (by omega) h2
        exact ⟨j, by omega, a2, a3⟩
      · have e : pb s b (n + 1) = pb s b n + (if 0 < ov s n b then 1 else 0) := rfl
        by_cases h3 : 0 < ov s n b
        · rw [if_pos h3] at e
          exact ⟨n, by omega, h3, by omega⟩
        · rw [if_neg h3] at e; omega
  exact key _ (Nat.le_refl _) h1
theorem sp_out (hI : Inv s) {b : Nat} (hb : b < nb s) {x : Int} (h : x < 0 ∨ pb s b (ns s) ≤ x) : sp s b x = -1 := by
  unfold sp
  rcases lst_r (fun j => 0 < ov s j b ∧ pb s b j = x) (ns s) with ⟨h1, -⟩ | ⟨i, h1, ⟨h2, h3⟩, h4, -⟩
  · exact h1
  · have := pb_m i (ns s) h1 h2
    have h5 := pb_r hI hb i (by omega)
    omega
theorem c_soundOfPart (hP : Pr G 0 s) (hI : Inv s) {b : Nat} (hb : b < nb s) (p : Int32) : f_X5_soundOfPart G (iI b) p = some (iI (sp s b p.toInt)) := by
  have h3 := hI.ns16
  have hb0 := c_ns hP hI
  have hp := toInt_rg p
  have ep : p = iI p.toInt := (toInt_iI p).symm
  generalize p.toInt = x at ep hp
  subst ep
  obtain ⟨g1, g2, g3⟩ := ff_r (fun j => 0 < ov s j b ∧ pb s b j = x) (ns s)
  have hsp : sp s b x = if ff (fun j => 0 < ov s j b ∧ pb s b j = x) (ns s) < ns s then (ff (fun j => 0 < ov s j b ∧ pb s b j = x) (ns s) : Int) else -1 := by
    unfold sp
    rcases lst_r (fun j => 0 < ov s j b ∧ pb s b j = x) (ns s) with ⟨h1, h2⟩ | ⟨i, h1, ⟨h2, h4⟩, h5, -⟩
    · rw [h1, if_neg fun h => h2 _ h (g3 h)]
    · have e := ff_eq (p := fun j => 0 < ov s j b ∧ pb s b j = x) h1 ⟨h2, h4⟩ (fun k hk ⟨a1, a2⟩ => by have := pb_m k i hk a1; omega)
      rw [e, if_pos h1, h5]
  rw [hsp]
  generalize ff (fun j => 0 < ov s j b ∧ pb s b j = x) (ns s) = N at g1 g2 g3
  unfold f_X5_soundOfPart f_X5_soundOfPart_5
  refine lq2_for (X1 := fun i => iI (pb s b i)) (X2 := fun i => iI i) N _ (fun k i hi => ?_) (fun k => ?_) (by omega)
  · have h := ov_r hI (show i < ns s by omega) hb
    have h5 := pb_r hI hb i (by omega)
    have h6 := g2 i hi
    have e : pb s b (i + 1) = pb s b i + (if 0 < ov s i b then 1 else 0) := rfl
    by_cases h1 : 0 < ov s i b
    · have h7 : ¬ pb s b i = x := fun h8 => h6 ⟨h1, h8⟩
      rw [if_pos h1] at e
      (simp (disch := omega) only [pl0, pl1, pl2, pl3, pl4, pl5, pl6, pl7, pl8, pl9, pl10, pl11, pl12, pl16, pl19, lit_nI, iI_add, iI_sub, iI_mul, iI_neg, iI_le, iI_lt, iI_eq, iI_max, iI_min, Option.bind_some, Option.bind_eq_bind, if_true, if_false, e, hb0, c_overlap hP hI (show i < ns s by omega) hb, f_X5_soundOfPart_35]; (repeat (first | rw [if_pos (by omega)] | rw [if_neg (by omega)])); (try simp (disch := omega) only [pl0, pl1, pl2, pl3, pl4, pl5, pl6, pl7, pl8, pl9, pl10, pl11, pl12, pl16, pl19, lit_nI, iI_add, iI_sub, iI_mul, iI_neg, iI_le, iI_lt, iI_eq, iI_max, iI_min, Option.bind_some, Option.bind_eq_bind, if_true, if_false]); (repeat (first | rw [if_pos (by omega)] | rw [if_neg (by omega)])); (try rfl))
    · rw [if_neg h1, Int.add_zero] at e
      (simp (disch := omega) only [pl0, pl1, pl2, pl3, pl4, pl5, pl6, pl7, pl8, pl9, pl10, pl11, pl12, pl16, pl19, lit_nI, iI_add, iI_sub, iI_mul, iI_neg, iI_le, iI_lt, iI_eq, iI_max, iI_min, Option.bind_some, Option.bind_eq_bind, if_true, if_false, e, hb0, c_overlap hP hI (show i < ns s by omega) hb, f_X5_soundOfPart_35]; (repeat (first | rw [if_pos (by omega)] | rw [if_neg (by omega)])); (try simp (disch := omega) only [pl0, pl1, pl2, pl3, pl4, pl5, pl6, pl7, pl8, pl9, pl10, pl11, pl12, pl16, pl19, lit_nI, iI_add, iI_sub, iI_mul, iI_neg, iI_le, iI_lt, iI_eq, iI_max, iI_min, Option.bind_some, Option.bind_eq_bind, if_true, if_false]); (repeat (first | rw [if_pos (by omega)] | rw [if_neg (by omega)])); (try rfl))
  · by_cases h : N < ns s
    · have h1 := g3 h
      have h2 := ov_r hI h hb
      have h5 := pb_r hI hb N (by omega)
      (simp (disch := omega) only [pl0, pl1, pl2, pl3, pl4, pl5, pl6, pl7, pl8, pl9, pl10, pl11, pl12, pl16, pl19, lit_nI, iI_add, iI_sub, iI_mul, iI_neg, iI_le, iI_lt, iI_eq, iI_max, iI_min, Option.bind_some, Option.bind_eq_bind, if_true, if_false, hb0, c_overlap hP hI h hb]; (repeat (first | rw [if_pos (by omega)] | rw [if_neg (by omega)])); (try simp (disch := omega) only [pl0, pl1, pl2, pl3, pl4, pl5, pl6, pl7, pl8, pl9, pl10, pl11, pl12, pl16, pl19, lit_nI, iI_add, iI_sub, iI_mul, iI_neg, iI_le, iI_lt, iI_eq, iI_max, iI_min, Option.bind_some, Option.bind_eq_bind, if_true, if_false]); (repeat (first | rw [if_pos (by omega)] | rw [if_neg (by omega)])); (try rfl))
    · have e : N = ns s := by omega
      subst e
      (simp (disch := omega) only [pl0, pl1, pl2, pl3, pl4, pl5, pl6, pl7, pl8, pl9, pl10, pl11, pl12, pl16, pl19, lit_nI, iI_add, iI_sub, iI_mul, iI_neg, iI_le, iI_lt, iI_eq, iI_max, iI_min, Option.bind_some, Option.bind_eq_bind, if_true, if_false, hb0]; (repeat (first | rw [if_pos (by omega)] | rw [if_neg (by omega)])); (try simp (disch := omega) only [pl0, pl1, pl2, pl3, pl4, pl5, pl6, pl7, pl8, pl9, pl10, pl11, pl12, pl16, pl19, lit_nI, iI_add, iI_sub, iI_mul, iI_neg, iI_le, iI_lt, iI_eq, iI_max, iI_min, Option.bind_some, Option.bind_eq_bind, if_true, if_false]); (repeat (first | rw [if_pos (by omega)] | rw [if_neg (by omega)])); (try rfl))
end PE
