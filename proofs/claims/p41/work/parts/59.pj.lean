/-! orders of tins and drops -/
abbrev Ah (u w : Nat → Int) (i j : Nat) : Prop := u j < u i ∨ (u i = u j ∧ (w j < w i ∨ (w i = w j ∧ i < j)))
def rk (q u w : Nat → Int) (n j : Nat) : Int := sm (fun i => if 0 ≤ q i ∧ Ah u w i j then 1 else 0) n
def cn (q : Nat → Int) (n : Nat) : Int := sm (fun i => if 0 ≤ q i then 1 else 0) n
theorem cn_1 (q : Nat → Int) (n : Nat) : cn q (n + 1) = cn q n + (if 0 ≤ q n then 1 else 0) := rfl
theorem phg (q : Nat → Int) : ∀ (n : Nat) (d : Int) (f : Nat → Int), 0 ≤ d → (∀ i, i < n → 0 ≤ q i → 0 ≤ f i ∧ f i < d) → (∀ i j, i < n → j < n → 0 ≤ q i → 0 ≤ q j → f i = f j → i = j) → cn q n ≤ d := by
  intro n
  induction n with
  | zero => intro d f hd _ _; exact hd
  | succ n ih =>
    intro d f hd h1 h2
    rw [cn_1]
    by_cases hq : 0 ≤ q n
    · rw [if_pos hq]
      have h3 := h1 n (by omega) hq
      have := ih (d - 1) (fun i => if f i = d - 1 then f n else f i) (by omega) (fun i hi hqi => ?_) (fun i j hi hj hqi hqj h => ?_)
      · omega
      · have h4 := h1 i (by omega) hqi
        have h5 : f i ≠ f n := fun h6 => by
          have := h2 i n (by omega) (by omega) hqi hq h6
          omega
        show 0 ≤ (if f i = d - 1 then f n else f i) ∧ (if f i = d - 1 then f n else f i) < d - 1
        by_cases h6 : f i = d - 1
        · rw [if_pos h6]; omega
        · rw [if_neg h6]; omega
      · have h : (if f i = d - 1 then f n else f i) = (if f j = d - 1 then f n else f j) := h
        have h4 : f i ≠ f n := fun h6 => by
          have := h2 i n (by omega) (by omega) hqi hq h6
          omega
        have h5 : f j ≠ f n := fun h6 => by
          have := h2 j n (by omega) (by omega) hqj hq h6
          omega
        refine h2 i j (by omega) (by omega) hqi hqj ?_
        by_cases h6 : f i = d - 1
        · by_cases h7 : f j = d - 1
          · omega
          · rw [if_pos h6, if_neg h7] at h; omega
        · by_cases h7 : f j = d - 1
          · rw [if_neg h6, if_pos h7] at h; omega
          · rw [if_neg h6, if_neg h7] at h; exact h
    · rw [if_neg hq]
      have := ih d f hd (fun i hi => h1 i (by omega)) (fun i j hi hj => h2 i j (by omega) (by omega))
      omega
theorem sm_lt {f g : Nat → Int} {n k : Nat} (h : ∀ i, i < n → f i ≤ g i) (hk : k < n) (hk2 : f k < g k) : sm f n < sm g n := by
  induction n with
  | zero => omega
  | succ n ih =>
    rw [sm_1, sm_1]
    have h1 := h n (by omega)
    by_cases e : k = n
    · subst e
      have : sm f k ≤ sm g k := by
        clear ih hk hk2 h1
        have : ∀ m, m ≤ k → sm f m ≤ sm g m := by
          intro m
          induction m with
          | zero => intro _; exact Int.le_refl _
          | succ m ih => intro hm; rw [sm_1, sm_1]; have := ih (by omega); have := h m (by omega); omega
        exact this k (Nat.le_refl _)
      omega
    · have := ih (fun i hi => h i (by omega)) (by omega)
      omega
theorem rk_r (q u w : Nat → Int) (n j : Nat) : 0 ≤ rk q u w n j ∧ rk q u w n j ≤ n := by
  have h1 := sm_ge (f := fun i => if 0 ≤ q i ∧ Ah u w i j then 1 else 0) (n := n) (a := 0) (fun i _ => it_ge (by omega))
  have h2 := sm_le (f := fun i => if 0 ≤ q i ∧ Ah u w i j then 1 else 0) (n := n) (a := 1) (fun i _ => it_le (by omega) (by omega))
  unfold rk
  omega
theorem rk_lt {q u w : Nat → Int} {n i j : Nat} (hi : i < n) (hq : 0 ≤ q i) (h : Ah u w i j) : rk q u w n i < rk q u w n j := by
  refine sm_lt (k := i) (fun k _ => ?_) hi ?_
  · show (if 0 ≤ q k ∧ Ah u w k i then (1 : Int) else 0) ≤ (if 0 ≤ q k ∧ Ah u w k j then 1 else 0)
    by_cases h1 : 0 ≤ q k ∧ Ah u w k i
    · rw [if_pos h1, if_pos ⟨h1.1, by have := h1.2; unfold Ah at *; omega⟩]
      omega
    · rw [if_neg h1]
      exact it_ge (by omega)
  · show (if 0 ≤ q i ∧ Ah u w i i then (1 : Int) else 0) < (if 0 ≤ q i ∧ Ah u w i j then 1 else 0)
    rw [if_neg (by unfold Ah; omega), if_pos ⟨hq, h⟩]
    omega
theorem rk_inj {q u w : Nat → Int} {n i j : Nat} (hi : i < n) (hj : j < n) (hqi : 0 ≤ q i) (hqj : 0 ≤ q j) (h : rk q u w n i = rk q u w n j) : i = j := by
  by_cases h1 : Ah u w i j
  · have := rk_lt hi hqi h1; omega
  · by_cases h2 : Ah u w j i
    · have := rk_lt hj hqj h2; omega
    · unfold Ah at *; omega
theorem rk_cn {q u w : Nat → Int} {n j : Nat} (hj : j < n) (hq : 0 ≤ q j) : rk q u w n j < cn q n := by
  refine sm_lt (k := j) (fun k _ => ?_) hj ?_
  · show (if 0 ≤ q k ∧ Ah u w k j then (1 : Int) else 0) ≤ (if 0 ≤ q k then 1 else 0)
    by_cases h1 : 0 ≤ q k ∧ Ah u w k j
    · rw [if_pos h1, if_pos h1.1]
      omega
    · rw [if_neg h1]
      exact it_ge (by omega)
  · show (if 0 ≤ q j ∧ Ah u w j j then (1 : Int) else 0) < (if 0 ≤ q j then 1 else 0)
    rw [if_neg (by unfold Ah; omega), if_pos hq]
    omega
theorem rk_sur {q u w : Nat → Int} {n : Nat} {p : Int} (h0 : 0 ≤ p) (h1 : p < cn q n) : ∃ j, j < n ∧ 0 ≤ q j ∧ rk q u w n j = p := by
  refine Classical.byContradiction fun hc => ?_
  have hc' : ∀ j, j < n → 0 ≤ q j → rk q u w n j ≠ p := fun j hj hq h => hc ⟨j, hj, hq, h⟩
  have := phg q n (cn q n - 1) (fun i => if rk q u w n i = cn q n - 1 then p else rk q u w n i) (by omega) (fun i hi hq => ?_) (fun i j hi hj hqi hqj h => ?_)
  · omega
  · have h2 := rk_cn (u := u) (w := w) hi hq
    have h3 := rk_r q u w n i
    have h4 := hc' i hi hq
    show 0 ≤ (if rk q u w n i = cn q n - 1 then p else rk q u w n i) ∧ (if rk q u w n i = cn q n - 1 then p else rk q u w n i) < cn q n - 1
    by_cases h5 : rk q u w n i = cn q n - 1
    · rw [if_pos h5]; omega
    · rw [if_neg h5]; omega
  · have h : (if rk q u w n i = cn q n - 1 then p else rk q u w n i) = (if rk q u w n j = cn q n - 1 then p else rk q u w n j) := h
    have h2 := hc' i hi hqi
    have h3 := hc' j hj hqj
    refine rk_inj hi hj hqi hqj (u := u) (w := w) ?_
    by_cases h6 : rk q u w n i = cn q n - 1
    · by_cases h7 : rk q u w n j = cn q n - 1
      · omega
      · rw [if_pos h6, if_neg h7] at h; omega
    · by_cases h7 : rk q u w n j = cn q n - 1
      · rw [if_neg h6, if_pos h7] at h; omega
      · rw [if_neg h6, if_neg h7] at h; exact h
/-- who stands at a place, or -1 -/
def wh (q u w : Nat → Int) (n : Nat) (p : Int) : Int := lst (fun j => 0 ≤ q j ∧ rk q u w n j = p) n
theorem wh_in {q u w : Nat → Int} {n : Nat} {p : Int} (h0 : 0 ≤ p) (h1 : p < cn q n) : 0 ≤ wh q u w n p ∧ wh q u w n p < n := by
  obtain ⟨j, hj, hq, hr⟩ := rk_sur (u := u) (w := w) h0 h1
  unfold wh
  rcases lst_r (fun j => 0 ≤ q j ∧ rk q u w n j = p) n with ⟨-, h3⟩ | ⟨i, h3, -, h5, -⟩
  · exact absurd ⟨hq, hr⟩ (h3 j hj)
  · omega
theorem wh_out {q u w : Nat → Int} {n : Nat} {p : Int} (h : p < 0 ∨ cn q n ≤ p) : wh q u w n p = -1 := by
  unfold wh
  rcases lst_r (fun j => 0 ≤ q j ∧ rk q u w n j = p) n with ⟨h2, -⟩ | ⟨i, h3, h4, h5, -⟩
  · exact h2
  · have h4 : 0 ≤ q i ∧ rk q u w n i = p := h4
    have h6 := rk_cn (u := u) (w := w) h3 h4.1
    have h7 := rk_r q u w n i
    omega
theorem wh_ff (q u w : Nat → Int) (n : Nat) (p : Int) : wh q u w n p = if ff (fun j => 0 ≤ q j ∧ rk q u w n j = p) n < n then (ff (fun j => 0 ≤ q j ∧ rk q u w n j = p) n : Int) else -1 := by
  obtain ⟨g1, g2, g3⟩ := ff_r (fun j => 0 ≤ q j ∧ rk q u w n j = p) n
  unfold wh
  rcases lst_r (fun j => 0 ≤ q j ∧ rk q u w n j = p) n with ⟨h1, h2⟩ | ⟨i, h1, h2, h5, -⟩
  · rw [h1, if_neg fun h => h2 _ h (g3 h)]
  · have h2' : 0 ≤ q i ∧ rk q u w n i = p := h2
    have e := ff_eq (p := fun j => 0 ≤ q j ∧ rk q u w n j = p) h1 h2 (fun k hk hk2 => by
      have hk2' : 0 ≤ q k ∧ rk q u w n k = p := hk2
      have := rk_inj (u := u) (w := w) (show k < n by omega) h1 hk2'.1 h2'.1 (by omega)
      omega)
    rw [e, if_pos h1, h5]
section PJ
variable {G K : GT} {s : Nat → Int32}
/-- tins: by beats, then by keys; drops: by pitches, then by beats -/
def ut (s : Nat → Int32) (t : Nat) : Int := bt s t (ns s)
def qt : Nat → Int := fun _ => 0
theorem ut_r (hI : Inv s) (t : Nat) : 0 ≤ ut s t ∧ ut s t ≤ 128 := bt_r hI t
theorem c_isTinAhead (hP : Pr G 0 s) (hI : Inv s) {i j : Nat} (hi : i < 4) (hj : j < 4) : f_X7_isTinAhead G (iI i) (iI j) = some (iI (if Ah (ut s) (ky s) i j then 1 else 0)) := by
  have h1 := ut_r hI i
  have h2 := ut_r hI j
  have h3 := hI.ky hi
  have h4 := hI.ky hj
  have e1 : f_X5_beatsOfTin G (iI i) = some (iI (ut s i)) := c_beatsOfTin hP hI hi
  have e2 : f_X5_beatsOfTin G (iI j) = some (iI (ut s j)) := c_beatsOfTin hP hI hj
  unfold f_X7_isTinAhead f_X5_keyOf
  rcases Int.lt_trichotomy (ut s i) (ut s j) with c1 | c1 | c1
  · (simp (disch := omega) only [pl0, pl1, pl2, pl3, pl4, pl5, pl6, pl7, pl8, pl9, pl10, pl11, pl12, pl16, pl19, lit_nI, iI_add, iI_sub, iI_mul, iI_neg, iI_le, iI_lt, iI_eq, iI_max, iI_min, Option.bind_some, Option.bind_eq_bind, if_true, if_false, e1, e2]; (repeat (first | rw [if_pos (by omega)] | rw [if_neg (by omega)])); (try simp (disch := omega) only [pl0, pl1, pl2, pl3, pl4, pl5, pl6, pl7, pl8, pl9, pl10, pl11, pl12, pl16, pl19, lit_nI, iI_add, iI_sub, iI_mul, iI_neg, iI_le, iI_lt, iI_eq, iI_max, iI_min, Option.bind_some, Option.bind_eq_bind, if_true, if_false]); (repeat (first | rw [if_pos (by omega)] | rw [if_neg (by omega)])); (try rfl))
  · rcases Int.lt_trichotomy (ky s i) (ky s j) with c2 | c2 | c2
    · (simp (disch := omega) only [pl0, pl1, pl2, pl3, pl4, pl5, pl6, pl7, pl8, pl9, pl10, pl11, pl12, pl16, pl19, lit_nI, iI_add, iI_sub, iI_mul, iI_neg, iI_le, iI_lt, iI_eq, iI_max, iI_min, Option.bind_some, Option.bind_eq_bind, if_true, if_false, e1, e2, c_ky hP hi, c_ky hP hj]; (repeat (first | rw [if_pos (by omega)] | rw [if_neg (by omega)])); (try simp (disch := omega) only [pl0, pl1, pl2, pl3, pl4, pl5, pl6, pl7, pl8, pl9, pl10, pl11, pl12, pl16, pl19, lit_nI, iI_add, iI_sub, iI_mul, iI_neg, iI_le, iI_lt, iI_eq, iI_max, iI_min, Option.bind_some, Option.bind_eq_bind, if_true, if_false]); (repeat (first | rw [if_pos (by omega)] | rw [if_neg (by omega)])); (try rfl))
    · by_cases c3 : i < j <;> (simp (disch := omega) only [pl0, pl1, pl2, pl3, pl4, pl5, pl6, pl7, pl8, pl9, pl10, pl11, pl12, pl16, pl19, lit_nI, iI_add, iI_sub, iI_mul, iI_neg, iI_le, iI_lt, iI_eq, iI_max, iI_min, Option.bind_some, Option.bind_eq_bind, if_true, if_false, e1, e2, c_ky hP hi, c_ky hP hj]; (repeat (first | rw [if_pos (by omega)] | rw [if_neg (by omega)])); (try simp (disch := omega) only [pl0, pl1, pl2, pl3, pl4, pl5, pl6, pl7, pl8, pl9, pl10, pl11, pl12, pl16, pl19, lit_nI, iI_add, iI_sub, iI_mul, iI_neg, iI_le, iI_lt, iI_eq, iI_max, iI_min, Option.bind_some, Option.bind_eq_bind, if_true, if_false]); (repeat (first | rw [if_pos (by omega)] | rw [if_neg (by omega)])); (try rfl))
    · (simp (disch := omega) only [pl0, pl1, pl2, pl3, pl4, pl5, pl6, pl7, pl8, pl9, pl10, pl11, pl12, pl16, pl19, lit_nI, iI_add, iI_sub, iI_mul, iI_neg, iI_le, iI_lt, iI_eq, iI_max, iI_min, Option.bind_some, Option.bind_eq_bind, if_true, if_false, e1, e2, c_ky hP hi, c_ky hP hj]; (repeat (first | rw [if_pos (by omega)] | rw [if_neg (by omega)])); (try simp (disch := omega) only [pl0, pl1, pl2, pl3, pl4, pl5, pl6, pl7, pl8, pl9, pl10, pl11, pl12, pl16, pl19, lit_nI, iI_add, iI_sub, iI_mul, iI_neg, iI_le, iI_lt, iI_eq, iI_max, iI_min, Option.bind_some, Option.bind_eq_bind, if_true, if_false]); (repeat (first | rw [if_pos (by omega)] | rw [if_neg (by omega)])); (try rfl))
  · (simp (disch := omega) only [pl0, pl1, pl2, pl3, pl4, pl5, pl6, pl7, pl8, pl9, pl10, pl11, pl12, pl16, pl19, lit_nI, iI_add, iI_sub, iI_mul, iI_neg, iI_le, iI_lt, iI_eq, iI_max, iI_min, Option.bind_some, Option.bind_eq_bind, if_true, if_false, e1, e2]; (repeat (first | rw [if_pos (by omega)] | rw [if_neg (by omega)])); (try simp (disch := omega) only [pl0, pl1, pl2, pl3, pl4, pl5, pl6, pl7, pl8, pl9, pl10, pl11, pl12, pl16, pl19, lit_nI, iI_add, iI_sub, iI_mul, iI_neg, iI_le, iI_lt, iI_eq, iI_max, iI_min, Option.bind_some, Option.bind_eq_bind, if_true, if_false]); (repeat (first | rw [if_pos (by omega)] | rw [if_neg (by omega)])); (try rfl))
theorem c_placeOfTin (hP : Pr G 0 s) (hI : Inv s) {j : Nat} (hj : j < 4) : f_X7_placeOfTin G (iI j) = some (iI (rk qt (ut s) (ky s) 4 j)) := by
  unfold f_X7_placeOfTin f_X7_placeOfTin_4 rk
  refine lq2_for (X1 := fun i => iI (sm (fun i => if 0 ≤ qt i ∧ Ah (ut s) (ky s) i j then 1 else 0) i)) (X2 := fun i => iI i) 4 _ (fun k i hi => ?_) (fun k => ?_) (by omega)
  · have h := c_isTinAhead hP hI hi hj
    by_cases c : Ah (ut s) (ky s) i j
    · rw [if_pos c] at h
      have e : (if 0 ≤ qt i ∧ Ah (ut s) (ky s) i j then (1 : Int) else 0) = 1 := if_pos ⟨Int.le_refl _, c⟩
      (simp (disch := omega) only [pl0, pl1, pl2, pl3, pl4, pl5, pl6, pl7, pl8, pl9, pl10, pl11, pl12, pl16, pl19, lit_nI, iI_add, iI_sub, iI_mul, iI_neg, iI_le, iI_lt, iI_eq, iI_max, iI_min, Option.bind_some, Option.bind_eq_bind, if_true, if_false, sm_1, h, e]; (repeat (first | rw [if_pos (by omega)] | rw [if_neg (by omega)])); (try simp only [f_X7_placeOfTin_24]); (try simp (disch := omega) only [pl0, pl1, pl2, pl3, pl4, pl5, pl6, pl7, pl8, pl9, pl10, pl11, pl12, pl16, pl19, lit_nI, iI_add, iI_sub, iI_mul, iI_neg, iI_le, iI_lt, iI_eq, iI_max, iI_min, Option.bind_some, Option.bind_eq_bind, if_true, if_false, sm_1, h, e]); (repeat (first | rw [if_pos (by omega)] | rw [if_neg (by omega)])); (try simp only [f_X7_placeOfTin_24]); (try simp (disch := omega) only [pl0, pl1, pl2, pl3, pl4, pl5, pl6, pl7, pl8, pl9, pl10, pl11, pl12, pl16, pl19, lit_nI, iI_add, iI_sub, iI_mul, iI_neg, iI_le, iI_lt, iI_eq, iI_max, iI_min, Option.bind_some, Option.bind_eq_bind, if_true, if_false, sm_1, h, e]); (repeat (first | rw [if_pos (by omega)] | rw [if_neg (by omega)])); (try simp only [f_X7_placeOfTin_24]); (try simp (disch := omega) only [pl0, pl1, pl2, pl3, pl4, pl5, pl6, pl7, pl8, pl9, pl10, pl11, pl12, pl16, pl19, lit_nI, iI_add, iI_sub, iI_mul, iI_neg, iI_le, iI_lt, iI_eq, iI_max, iI_min, Option.bind_some, Option.bind_eq_bind, if_true, if_false, sm_1, h, e]); (repeat (first | rw [if_pos (by omega)] | rw [if_neg (by omega)])); (try simp only [f_X7_placeOfTin_24]); (try simp (disch := omega) only [pl0, pl1, pl2, pl3, pl4, pl5, pl6, pl7, pl8, pl9, pl10, pl11, pl12, pl16, pl19, lit_nI, iI_add, iI_sub, iI_mul, iI_neg, iI_le, iI_lt, iI_eq, iI_max, iI_min, Option.bind_some, Option.bind_eq_bind, if_true, if_false, sm_1, h, e]); (repeat (first | rw [if_pos (by omega)] | rw [if_neg (by omega)])); (try rfl))
    · rw [if_neg c] at h
      have e : (if 0 ≤ qt i ∧ Ah (ut s) (ky s) i j then (1 : Int) else 0) = 0 := if_neg fun h => c h.2
      (simp (disch := omega) only [pl0, pl1, pl2, pl3, pl4, pl5, pl6, pl7, pl8, pl9, pl10, pl11, pl12, pl16, pl19, lit_nI, iI_add, iI_sub, iI_mul, iI_neg, iI_le, iI_lt, iI_eq, iI_max, iI_min, Option.bind_some, Option.bind_eq_bind, if_true, if_false, sm_1, h, e]; (repeat (first | rw [if_pos (by omega)] | rw [if_neg (by omega)])); (try simp only [f_X7_placeOfTin_24]); (try simp (disch := omega) only [pl0, pl1, pl2, pl3, pl4, pl5, pl6, pl7, pl8, pl9, pl10, pl11, pl12, pl16, pl19, lit_nI, iI_add, iI_sub, iI_mul, iI_neg, iI_le, iI_lt, iI_eq, iI_max, iI_min, Option.bind_some, Option.bind_eq_bind, if_true, if_false, sm_1, h, e]); (repeat (first | rw [if_pos (by omega)] | rw [if_neg (by omega)])); (try simp only [f_X7_placeOfTin_24]); (try simp (disch := omega) only [pl0, pl1, pl2, pl3, pl4, pl5, pl6, pl7, pl8, pl9, pl10, pl11, pl12, pl16, pl19, lit_nI, iI_add, iI_sub, iI_mul, iI_neg, iI_le, iI_lt, iI_eq, iI_max, iI_min, Option.bind_some, Option.bind_eq_bind, if_true, if_false, sm_1, h, e]); (repeat (first | rw [if_pos (by omega)] | rw [if_neg (by omega)])); (try simp only [f_X7_placeOfTin_24]); (try simp (disch := omega) only [pl0, pl1, pl2, pl3, pl4, pl5, pl6, pl7, pl8, pl9, pl10, pl11, pl12, pl16, pl19, lit_nI, iI_add, iI_sub, iI_mul, iI_neg, iI_le, iI_lt, iI_eq, iI_max, iI_min, Option.bind_some, Option.bind_eq_bind, if_true, if_false, sm_1, h, e]); (repeat (first | rw [if_pos (by omega)] | rw [if_neg (by omega)])); (try simp only [f_X7_placeOfTin_24]); (try simp (disch := omega) only [pl0, pl1, pl2, pl3, pl4, pl5, pl6, pl7, pl8, pl9, pl10, pl11, pl12, pl16, pl19, lit_nI, iI_add, iI_sub, iI_mul, iI_neg, iI_le, iI_lt, iI_eq, iI_max, iI_min, Option.bind_some, Option.bind_eq_bind, if_true, if_false, sm_1, h, e]); (repeat (first | rw [if_pos (by omega)] | rw [if_neg (by omega)])); (try rfl))
  · simp (disch := omega) only [pl0, pl1, pl2, pl3, pl4, pl5, pl6, pl7, pl8, pl9, pl10, pl11, pl12, pl16, pl19, lit_nI, iI_add, iI_sub, iI_mul, iI_neg, iI_le, iI_lt, iI_eq, iI_max, iI_min, Option.bind_some, Option.bind_eq_bind, if_true, if_false]
    (repeat (first | rw [if_pos (by omega)] | rw [if_neg (by omega)]))
theorem c_tinAt (hP : Pr G 0 s) (hI : Inv s) {p : Int} (hp : -2147483648 ≤ p ∧ p ≤ 2147483647) : f_X7_tinAt G (iI p) = some (iI (wh qt (ut s) (ky s) 4 p)) := by
  rw [wh_ff]
  obtain ⟨g1, g2, g3⟩ := ff_r (fun j => 0 ≤ qt j ∧ rk qt (ut s) (ky s) 4 j = p) 4
  generalize ff (fun j => 0 ≤ qt j ∧ rk qt (ut s) (ky s) 4 j = p) 4 = N at g1 g2 g3 ⊢
  unfold f_X7_tinAt f_X7_tinAt_2
  refine lq1_for (X1 := fun i => iI i) N _ (fun k i hi => ?_) (fun k => ?_) (by omega)
  · have h : ¬ rk qt (ut s) (ky s) 4 i = p := fun h => g2 i hi ⟨Int.le_refl _, h⟩
    have hr := rk_r qt (ut s) (ky s) 4 i
    (simp (disch := omega) only [pl0, pl1, pl2, pl3, pl4, pl5, pl6, pl7, pl8, pl9, pl10, pl11, pl12, pl16, pl19, lit_nI, iI_add, iI_sub, iI_mul, iI_neg, iI_le, iI_lt, iI_eq, iI_max, iI_min, Option.bind_some, Option.bind_eq_bind, if_true, if_false, c_placeOfTin hP hI (show i < 4 by omega)]; (repeat (first | rw [if_pos (by omega)] | rw [if_neg (by omega)])); (try simp (disch := omega) only [pl0, pl1, pl2, pl3, pl4, pl5, pl6, pl7, pl8, pl9, pl10, pl11, pl12, pl16, pl19, lit_nI, iI_add, iI_sub, iI_mul, iI_neg, iI_le, iI_lt, iI_eq, iI_max, iI_min, Option.bind_some, Option.bind_eq_bind, if_true, if_false]); (repeat (first | rw [if_pos (by omega)] | rw [if_neg (by omega)])); (try rfl))
  · by_cases h : N < 4
    · have h1 : 0 ≤ qt N ∧ rk qt (ut s) (ky s) 4 N = p := g3 h
      have h2 := h1.2
      have hr := rk_r qt (ut s) (ky s) 4 N
      (simp (disch := omega) only [pl0, pl1, pl2, pl3, pl4, pl5, pl6, pl7, pl8, pl9, pl10, pl11, pl12, pl16, pl19, lit_nI, iI_add, iI_sub, iI_mul, iI_neg, iI_le, iI_lt, iI_eq, iI_max, iI_min, Option.bind_some, Option.bind_eq_bind, if_true, if_false, c_placeOfTin hP hI h, h2]; (repeat (first | rw [if_pos (by omega)] | rw [if_neg (by omega)])); (try simp (disch := omega) only [pl0, pl1, pl2, pl3, pl4, pl5, pl6, pl7, pl8, pl9, pl10, pl11, pl12, pl16, pl19, lit_nI, iI_add, iI_sub, iI_mul, iI_neg, iI_le, iI_lt, iI_eq, iI_max, iI_min, Option.bind_some, Option.bind_eq_bind, if_true, if_false]); (repeat (first | rw [if_pos (by omega)] | rw [if_neg (by omega)])); (try rfl))
    · (simp (disch := omega) only [pl0, pl1, pl2, pl3, pl4, pl5, pl6, pl7, pl8, pl9, pl10, pl11, pl12, pl16, pl19, lit_nI, iI_add, iI_sub, iI_mul, iI_neg, iI_le, iI_lt, iI_eq, iI_max, iI_min, Option.bind_some, Option.bind_eq_bind, if_true, if_false]; (repeat (first | rw [if_pos (by omega)] | rw [if_neg (by omega)])); (try simp (disch := omega) only [pl0, pl1, pl2, pl3, pl4, pl5, pl6, pl7, pl8, pl9, pl10, pl11, pl12, pl16, pl19, lit_nI, iI_add, iI_sub, iI_mul, iI_neg, iI_le, iI_lt, iI_eq, iI_max, iI_min, Option.bind_some, Option.bind_eq_bind, if_true, if_false]); (repeat (first | rw [if_pos (by omega)] | rw [if_neg (by omega)])); (try rfl))
/-! drops -/
theorem cn_dr (s : Nat → Int32) (n : Nat) : cn (ht s) n = dr s n := sm_ext fun i _ => by
  by_cases h : ht s i < 0
  · rw [if_pos h, if_neg (by omega)]
  · rw [if_neg h, if_pos (by omega)]
theorem c_isDropAhead (hP : Pr G 0 s) (hI : Inv s) {i j : Nat} (hi : i < ns s) (hj : j < ns s) (hdi : 0 ≤ ht s i) (hdj : 0 ≤ ht s j) : f_X7_isDropAhead G (iI i) (iI j) = some (iI (if Ah (pt s) (ln s) i j then 1 else 0)) := by
  have h0 := hI.ns16
  have h1 := pt_r hI hi
  have h2 := pt_r hI hj
  have h3 := hI.sd hi
  have h4 := hI.sd hj
  unfold f_X7_isDropAhead f_X5_beatsOf
  rcases Int.lt_trichotomy (pt s i) (pt s j) with c1 | c1 | c1
  · (simp (disch := omega) only [pl0, pl1, pl2, pl3, pl4, pl5, pl6, pl7, pl8, pl9, pl10, pl11, pl12, pl16, pl19, lit_nI, iI_add, iI_sub, iI_mul, iI_neg, iI_le, iI_lt, iI_eq, iI_max, iI_min, Option.bind_some, Option.bind_eq_bind, if_true, if_false, c_pitchOf hP hI hi, c_pitchOf hP hI hj, pc_d hdi, pc_d hdj]; (repeat (first | rw [if_pos (by omega)] | rw [if_neg (by omega)])); (try simp (disch := omega) only [pl0, pl1, pl2, pl3, pl4, pl5, pl6, pl7, pl8, pl9, pl10, pl11, pl12, pl16, pl19, lit_nI, iI_add, iI_sub, iI_mul, iI_neg, iI_le, iI_lt, iI_eq, iI_max, iI_min, Option.bind_some, Option.bind_eq_bind, if_true, if_false]); (repeat (first | rw [if_pos (by omega)] | rw [if_neg (by omega)])); (try rfl))
  · rcases Int.lt_trichotomy (ln s i) (ln s j) with c2 | c2 | c2
    · (simp (disch := omega) only [pl0, pl1, pl2, pl3, pl4, pl5, pl6, pl7, pl8, pl9, pl10, pl11, pl12, pl16, pl19, lit_nI, iI_add, iI_sub, iI_mul, iI_neg, iI_le, iI_lt, iI_eq, iI_max, iI_min, Option.bind_some, Option.bind_eq_bind, if_true, if_false, c_pitchOf hP hI hi, c_pitchOf hP hI hj, pc_d hdi, pc_d hdj, c_ln hP (show i < 16 by omega), c_ln hP (show j < 16 by omega)]; (repeat (first | rw [if_pos (by omega)] | rw [if_neg (by omega)])); (try simp (disch := omega) only [pl0, pl1, pl2, pl3, pl4, pl5, pl6, pl7, pl8, pl9, pl10, pl11, pl12, pl16, pl19, lit_nI, iI_add, iI_sub, iI_mul, iI_neg, iI_le, iI_lt, iI_eq, iI_max, iI_min, Option.bind_some, Option.bind_eq_bind, if_true, if_false]); (repeat (first | rw [if_pos (by omega)] | rw [if_neg (by omega)])); (try rfl))
    · by_cases c3 : i < j <;> (simp (disch := omega) only [pl0, pl1, pl2, pl3, pl4, pl5, pl6, pl7, pl8, pl9, pl10, pl11, pl12, pl16, pl19, lit_nI, iI_add, iI_sub, iI_mul, iI_neg, iI_le, iI_lt, iI_eq, iI_max, iI_min, Option.bind_some, Option.bind_eq_bind, if_true, if_false, c_pitchOf hP hI hi, c_pitchOf hP hI hj, pc_d hdi, pc_d hdj, c_ln hP (show i < 16 by omega), c_ln hP (show j < 16 by omega)]; (repeat (first | rw [if_pos (by omega)] | rw [if_neg (by omega)])); (try simp (disch := omega) only [pl0, pl1, pl2, pl3, pl4, pl5, pl6, pl7, pl8, pl9, pl10, pl11, pl12, pl16, pl19, lit_nI, iI_add, iI_sub, iI_mul, iI_neg, iI_le, iI_lt, iI_eq, iI_max, iI_min, Option.bind_some, Option.bind_eq_bind, if_true, if_false]); (repeat (first | rw [if_pos (by omega)] | rw [if_neg (by omega)])); (try rfl))
    · (simp (disch := omega) only [pl0, pl1, pl2, pl3, pl4, pl5, pl6, pl7, pl8, pl9, pl10, pl11, pl12, pl16, pl19, lit_nI, iI_add, iI_sub, iI_mul, iI_neg, iI_le, iI_lt, iI_eq, iI_max, iI_min, Option.bind_some, Option.bind_eq_bind, if_true, if_false, c_pitchOf hP hI hi, c_pitchOf hP hI hj, pc_d hdi, pc_d hdj, c_ln hP (show i < 16 by omega), c_ln hP (show j < 16 by omega)]; (repeat (first | rw [if_pos (by omega)] | rw [if_neg (by omega)])); (try simp (disch := omega) only [pl0, pl1, pl2, pl3, pl4, pl5, pl6, pl7, pl8, pl9, pl10, pl11, pl12, pl16, pl19, lit_nI, iI_add, iI_sub, iI_mul, iI_neg, iI_le, iI_lt, iI_eq, iI_max, iI_min, Option.bind_some, Option.bind_eq_bind, if_true, if_false]); (repeat (first | rw [if_pos (by omega)] | rw [if_neg (by omega)])); (try rfl))
  · (simp (disch := omega) only [pl0, pl1, pl2, pl3, pl4, pl5, pl6, pl7, pl8, pl9, pl10, pl11, pl12, pl16, pl19, lit_nI, iI_add, iI_sub, iI_mul, iI_neg, iI_le, iI_lt, iI_eq, iI_max, iI_min, Option.bind_some, Option.bind_eq_bind, if_true, if_false, c_pitchOf hP hI hi, c_pitchOf hP hI hj, pc_d hdi, pc_d hdj]; (repeat (first | rw [if_pos (by omega)] | rw [if_neg (by omega)])); (try simp (disch := omega) only [pl0, pl1, pl2, pl3, pl4, pl5, pl6, pl7, pl8, pl9, pl10, pl11, pl12, pl16, pl19, lit_nI, iI_add, iI_sub, iI_mul, iI_neg, iI_le, iI_lt, iI_eq, iI_max, iI_min, Option.bind_some, Option.bind_eq_bind, if_true, if_false]); (repeat (first | rw [if_pos (by omega)] | rw [if_neg (by omega)])); (try rfl))
theorem c_placeOfDrop (hP : Pr G 0 s) (hI : Inv s) {j : Nat} (hj : j < ns s) (hdj : 0 ≤ ht s j) : f_X7_placeOfDrop G (iI j) = some (iI (rk (ht s) (pt s) (ln s) (ns s) j)) := by
  have h16 := hI.ns16
  have hb0 := c_ns hP hI
  unfold f_X7_placeOfDrop f_X7_placeOfDrop_4 f_X5_countOfSounds rk
  refine lq2_for (X1 := fun i => iI (sm (fun i => if 0 ≤ ht s i ∧ Ah (pt s) (ln s) i j then 1 else 0) i)) (X2 := fun i => iI i) (ns s) _ (fun k i hi => ?_) (fun k => ?_) (by omega)
  · by_cases hd : ht s i < 0
    · have e : (if 0 ≤ ht s i ∧ Ah (pt s) (ln s) i j then (1 : Int) else 0) = 0 := if_neg (by omega)
      (simp (disch := omega) only [pl0, pl1, pl2, pl3, pl4, pl5, pl6, pl7, pl8, pl9, pl10, pl11, pl12, pl16, pl19, lit_nI, iI_add, iI_sub, iI_mul, iI_neg, iI_le, iI_lt, iI_eq, iI_max, iI_min, Option.bind_some, Option.bind_eq_bind, if_true, if_false, sm_1, hb0, e, c_isRest hP hI hi]; (repeat (first | rw [if_pos (by omega)] | rw [if_neg (by omega)])); (try simp only [f_X7_placeOfDrop_40, f_X7_placeOfDrop_41]); (try simp (disch := omega) only [pl0, pl1, pl2, pl3, pl4, pl5, pl6, pl7, pl8, pl9, pl10, pl11, pl12, pl16, pl19, lit_nI, iI_add, iI_sub, iI_mul, iI_neg, iI_le, iI_lt, iI_eq, iI_max, iI_min, Option.bind_some, Option.bind_eq_bind, if_true, if_false, sm_1, hb0, e, c_isRest hP hI hi]); (repeat (first | rw [if_pos (by omega)] | rw [if_neg (by omega)])); (try simp only [f_X7_placeOfDrop_40, f_X7_placeOfDrop_41]); (try simp (disch := omega) only [pl0, pl1, pl2, pl3, pl4, pl5, pl6, pl7, pl8, pl9, pl10, pl11, pl12, pl16, pl19, lit_nI, iI_add, iI_sub, iI_mul, iI_neg, iI_le, iI_lt, iI_eq, iI_max, iI_min, Option.bind_some, Option.bind_eq_bind, if_true, if_false, sm_1, hb0, e, c_isRest hP hI hi]); (repeat (first | rw [if_pos (by omega)] | rw [if_neg (by omega)])); (try simp only [f_X7_placeOfDrop_40, f_X7_placeOfDrop_41]); (try simp (disch := omega) only [pl0, pl1, pl2, pl3, pl4, pl5, pl6, pl7, pl8, pl9, pl10, pl11, pl12, pl16, pl19, lit_nI, iI_add, iI_sub, iI_mul, iI_neg, iI_le, iI_lt, iI_eq, iI_max, iI_min, Option.bind_some, Option.bind_eq_bind, if_true, if_false, sm_1, hb0, e, c_isRest hP hI hi]); (repeat (first | rw [if_pos (by omega)] | rw [if_neg (by omega)])); (try simp only [f_X7_placeOfDrop_40, f_X7_placeOfDrop_41]); (try simp (disch := omega) only [pl0, pl1, pl2, pl3, pl4, pl5, pl6, pl7, pl8, pl9, pl10, pl11, pl12, pl16, pl19, lit_nI, iI_add, iI_sub, iI_mul, iI_neg, iI_le, iI_lt, iI_eq, iI_max, iI_min, Option.bind_some, Option.bind_eq_bind, if_true, if_false, sm_1, hb0, e, c_isRest hP hI hi]); (repeat (first | rw [if_pos (by omega)] | rw [if_neg (by omega)])); (try rfl))
    · have h := c_isDropAhead hP hI hi hj (Int.not_lt.mp hd) hdj
      by_cases c : Ah (pt s) (ln s) i j
      · rw [if_pos c] at h
        have e : (if 0 ≤ ht s i ∧ Ah (pt s) (ln s) i j then (1 : Int) else 0) = 1 := if_pos ⟨Int.not_lt.mp hd, c⟩
        (simp (disch := omega) only [pl0, pl1, pl2, pl3, pl4, pl5, pl6, pl7, pl8, pl9, pl10, pl11, pl12, pl16, pl19, lit_nI, iI_add, iI_sub, iI_mul, iI_neg, iI_le, iI_lt, iI_eq, iI_max, iI_min, Option.bind_some, Option.bind_eq_bind, if_true, if_false, sm_1, hb0, h, e, c_isRest hP hI hi]; (repeat (first | rw [if_pos (by omega)] | rw [if_neg (by omega)])); (try simp only [f_X7_placeOfDrop_40, f_X7_placeOfDrop_41]); (try simp (disch := omega) only [pl0, pl1, pl2, pl3, pl4, pl5, pl6, pl7, pl8, pl9, pl10, pl11, pl12, pl16, pl19, lit_nI, iI_add, iI_sub, iI_mul, iI_neg, iI_le, iI_lt, iI_eq, iI_max, iI_min, Option.bind_some, Option.bind_eq_bind, if_true, if_false, sm_1, hb0, h, e, c_isRest hP hI hi]); (repeat (first | rw [if_pos (by omega)] | rw [if_neg (by omega)])); (try simp only [f_X7_placeOfDrop_40, f_X7_placeOfDrop_41]); (try simp (disch := omega) only [pl0, pl1, pl2, pl3, pl4, pl5, pl6, pl7, pl8, pl9, pl10, pl11, pl12, pl16, pl19, lit_nI, iI_add, iI_sub, iI_mul, iI_neg, iI_le, iI_lt, iI_eq, iI_max, iI_min, Option.bind_some, Option.bind_eq_bind, if_true, if_false, sm_1, hb0, h, e, c_isRest hP hI hi]); (repeat (first | rw [if_pos (by omega)] | rw [if_neg (by omega)])); (try simp only [f_X7_placeOfDrop_40, f_X7_placeOfDrop_41]); (try simp (disch := omega) only [pl0, pl1, pl2, pl3, pl4, pl5, pl6, pl7, pl8, pl9, pl10, pl11, pl12, pl16, pl19, lit_nI, iI_add, iI_sub, iI_mul, iI_neg, iI_le, iI_lt, iI_eq, iI_max, iI_min, Option.bind_some, Option.bind_eq_bind, if_true, if_false, sm_1, hb0, h, e, c_isRest hP hI hi]); (repeat (first | rw [if_pos (by omega)] | rw [if_neg (by omega)])); (try simp only [f_X7_placeOfDrop_40, f_X7_placeOfDrop_41]); (try simp (disch := omega) only [pl0, pl1, pl2, pl3, pl4, pl5, pl6, pl7, pl8, pl9, pl10, pl11, pl12, pl16, pl19, lit_nI, iI_add, iI_sub, iI_mul, iI_neg, iI_le, iI_lt, iI_eq, iI_max, iI_min, Option.bind_some, Option.bind_eq_bind, if_true, if_false, sm_1, hb0, h, e, c_isRest hP hI hi]); (repeat (first | rw [if_pos (by omega)] | rw [if_neg (by omega)])); (try rfl))
      · rw [if_neg c] at h
        have e : (if 0 ≤ ht s i ∧ Ah (pt s) (ln s) i j then (1 : Int) else 0) = 0 := if_neg fun h => c h.2
        (simp (disch := omega) only [pl0, pl1, pl2, pl3, pl4, pl5, pl6, pl7, pl8, pl9, pl10, pl11, pl12, pl16, pl19, lit_nI, iI_add, iI_sub, iI_mul, iI_neg, iI_le, iI_lt, iI_eq, iI_max, iI_min, Option.bind_some, Option.bind_eq_bind, if_true, if_false, sm_1, hb0, h, e, c_isRest hP hI hi]; (repeat (first | rw [if_pos (by omega)] | rw [if_neg (by omega)])); (try simp only [f_X7_placeOfDrop_40, f_X7_placeOfDrop_41]); (try simp (disch := omega) only [pl0, pl1, pl2, pl3, pl4, pl5, pl6, pl7, pl8, pl9, pl10, pl11, pl12, pl16, pl19, lit_nI, iI_add, iI_sub, iI_mul, iI_neg, iI_le, iI_lt, iI_eq, iI_max, iI_min, Option.bind_some, Option.bind_eq_bind, if_true, if_false, sm_1, hb0, h, e, c_isRest hP hI hi]); (repeat (first | rw [if_pos (by omega)] | rw [if_neg (by omega)])); (try simp only [f_X7_placeOfDrop_40, f_X7_placeOfDrop_41]); (try simp (disch := omega) only [pl0, pl1, pl2, pl3, pl4, pl5, pl6, pl7, pl8, pl9, pl10, pl11, pl12, pl16, pl19, lit_nI, iI_add, iI_sub, iI_mul, iI_neg, iI_le, iI_lt, iI_eq, iI_max, iI_min, Option.bind_some, Option.bind_eq_bind, if_true, if_false, sm_1, hb0, h, e, c_isRest hP hI hi]); (repeat (first | rw [if_pos (by omega)] | rw [if_neg (by omega)])); (try simp only [f_X7_placeOfDrop_40, f_X7_placeOfDrop_41]); (try simp (disch := omega) only [pl0, pl1, pl2, pl3, pl4, pl5, pl6, pl7, pl8, pl9, pl10, pl11, pl12, pl16, pl19, lit_nI, iI_add, iI_sub, iI_mul, iI_neg, iI_le, iI_lt, iI_eq, iI_max, iI_min, Option.bind_some, Option.bind_eq_bind, if_true, if_false, sm_1, hb0, h, e, c_isRest hP hI hi]); (repeat (first | rw [if_pos (by omega)] | rw [if_neg (by omega)])); (try simp only [f_X7_placeOfDrop_40, f_X7_placeOfDrop_41]); (try simp (disch := omega) only [pl0, pl1, pl2, pl3, pl4, pl5, pl6, pl7, pl8, pl9, pl10, pl11, pl12, pl16, pl19, lit_nI, iI_add, iI_sub, iI_mul, iI_neg, iI_le, iI_lt, iI_eq, iI_max, iI_min, Option.bind_some, Option.bind_eq_bind, if_true, if_false, sm_1, hb0, h, e, c_isRest hP hI hi]); (repeat (first | rw [if_pos (by omega)] | rw [if_neg (by omega)])); (try rfl))
  · simp (disch := omega) only [pl0, pl1, pl2, pl3, pl4, pl5, pl6, pl7, pl8, pl9, pl10, pl11, pl12, pl16, pl19, lit_nI, iI_add, iI_sub, iI_mul, iI_neg, iI_le, iI_lt, iI_eq, iI_max, iI_min, Option.bind_some, Option.bind_eq_bind, if_true, if_false, hb0]
    (repeat (first | rw [if_pos (by omega)] | rw [if_neg (by omega)]))
theorem c_dropAt (hP : Pr G 0 s) (hI : Inv s) {p : Int} (hp : -2147483648 ≤ p ∧ p ≤ 2147483647) : f_X7_dropAt G (iI p) = some (iI (wh (ht s) (pt s) (ln s) (ns s) p)) := by
  have h16 := hI.ns16
  have hb0 := c_ns hP hI
  rw [wh_ff]
  obtain ⟨g1, g2, g3⟩ := ff_r (fun j => 0 ≤ ht s j ∧ rk (ht s) (pt s) (ln s) (ns s) j = p) (ns s)
  generalize ff (fun j => 0 ≤ ht s j ∧ rk (ht s) (pt s) (ln s) (ns s) j = p) (ns s) = N at g1 g2 g3 ⊢
  unfold f_X7_dropAt f_X7_dropAt_2 f_X5_countOfSounds
  refine lq1_for (X1 := fun i => iI i) N _ (fun k i hi => ?_) (fun k => ?_) (by omega)
  · have h : ¬ (0 ≤ ht s i ∧ rk (ht s) (pt s) (ln s) (ns s) i = p) := g2 i hi
    have hr := rk_r (ht s) (pt s) (ln s) (ns s) i
    by_cases hd : ht s i < 0
    · (simp (disch := omega) only [pl0, pl1, pl2, pl3, pl4, pl5, pl6, pl7, pl8, pl9, pl10, pl11, pl12, pl16, pl19, lit_nI, iI_add, iI_sub, iI_mul, iI_neg, iI_le, iI_lt, iI_eq, iI_max, iI_min, Option.bind_some, Option.bind_eq_bind, if_true, if_false, hb0, c_isRest hP hI (show i < ns s by omega)]; (repeat (first | rw [if_pos (by omega)] | rw [if_neg (by omega)])); (try simp only [f_X7_dropAt_35]); (try simp (disch := omega) only [pl0, pl1, pl2, pl3, pl4, pl5, pl6, pl7, pl8, pl9, pl10, pl11, pl12, pl16, pl19, lit_nI, iI_add, iI_sub, iI_mul, iI_neg, iI_le, iI_lt, iI_eq, iI_max, iI_min, Option.bind_some, Option.bind_eq_bind, if_true, if_false, hb0, c_isRest hP hI (show i < ns s by omega)]); (repeat (first | rw [if_pos (by omega)] | rw [if_neg (by omega)])); (try simp only [f_X7_dropAt_35]); (try simp (disch := omega) only [pl0, pl1, pl2, pl3, pl4, pl5, pl6, pl7, pl8, pl9, pl10, pl11, pl12, pl16, pl19, lit_nI, iI_add, iI_sub, iI_mul, iI_neg, iI_le, iI_lt, iI_eq, iI_max, iI_min, Option.bind_some, Option.bind_eq_bind, if_true, if_false, hb0, c_isRest hP hI (show i < ns s by omega)]); (repeat (first | rw [if_pos (by omega)] | rw [if_neg (by omega)])); (try simp only [f_X7_dropAt_35]); (try simp (disch := omega) only [pl0, pl1, pl2, pl3, pl4, pl5, pl6, pl7, pl8, pl9, pl10, pl11, pl12, pl16, pl19, lit_nI, iI_add, iI_sub, iI_mul, iI_neg, iI_le, iI_lt, iI_eq, iI_max, iI_min, Option.bind_some, Option.bind_eq_bind, if_true, if_false, hb0, c_isRest hP hI (show i < ns s by omega)]); (repeat (first | rw [if_pos (by omega)] | rw [if_neg (by omega)])); (try simp only [f_X7_dropAt_35]); (try simp (disch := omega) only [pl0, pl1, pl2, pl3, pl4, pl5, pl6, pl7, pl8, pl9, pl10, pl11, pl12, pl16, pl19, lit_nI, iI_add, iI_sub, iI_mul, iI_neg, iI_le, iI_lt, iI_eq, iI_max, iI_min, Option.bind_some, Option.bind_eq_bind, if_true, if_false, hb0, c_isRest hP hI (show i < ns s by omega)]); (repeat (first | rw [if_pos (by omega)] | rw [if_neg (by omega)])); (try rfl))
    · have h : ¬ rk (ht s) (pt s) (ln s) (ns s) i = p := fun h2 => h ⟨Int.not_lt.mp hd, h2⟩
      (simp (disch := omega) only [pl0, pl1, pl2, pl3, pl4, pl5, pl6, pl7, pl8, pl9, pl10, pl11, pl12, pl16, pl19, lit_nI, iI_add, iI_sub, iI_mul, iI_neg, iI_le, iI_lt, iI_eq, iI_max, iI_min, Option.bind_some, Option.bind_eq_bind, if_true, if_false, hb0, c_isRest hP hI (show i < ns s by omega), c_placeOfDrop hP hI (show i < ns s by omega) (Int.not_lt.mp hd)]; (repeat (first | rw [if_pos (by omega)] | rw [if_neg (by omega)])); (try simp only [f_X7_dropAt_35]); (try simp (disch := omega) only [pl0, pl1, pl2, pl3, pl4, pl5, pl6, pl7, pl8, pl9, pl10, pl11, pl12, pl16, pl19, lit_nI, iI_add, iI_sub, iI_mul, iI_neg, iI_le, iI_lt, iI_eq, iI_max, iI_min, Option.bind_some, Option.bind_eq_bind, if_true, if_false, hb0, c_isRest hP hI (show i < ns s by omega), c_placeOfDrop hP hI (show i < ns s by omega) (Int.not_lt.mp hd)]); (repeat (first | rw [if_pos (by omega)] | rw [if_neg (by omega)])); (try simp only [f_X7_dropAt_35]); (try simp (disch := omega) only [pl0, pl1, pl2, pl3, pl4, pl5, pl6, pl7, pl8, pl9, pl10, pl11, pl12, pl16, pl19, lit_nI, iI_add, iI_sub, iI_mul, iI_neg, iI_le, iI_lt, iI_eq, iI_max, iI_min, Option.bind_some, Option.bind_eq_bind, if_true, if_false, hb0, c_isRest hP hI (show i < ns s by omega), c_placeOfDrop hP hI (show i < ns s by omega) (Int.not_lt.mp hd)]); (repeat (first | rw [if_pos (by omega)] | rw [if_neg (by omega)])); (try simp only [f_X7_dropAt_35]); (try simp (disch := omega) only [pl0, pl1, pl2, pl3, pl4, pl5, pl6, pl7, pl8, pl9, pl10, pl11, pl12, pl16, pl19, lit_nI, iI_add, iI_sub, iI_mul, iI_neg, iI_le, iI_lt, iI_eq, iI_max, iI_min, Option.bind_some, Option.bind_eq_bind, if_true, if_false, hb0, c_isRest hP hI (show i < ns s by omega), c_placeOfDrop hP hI (show i < ns s by omega) (Int.not_lt.mp hd)]); (repeat (first | rw [if_pos (by omega)] | rw [if_neg (by omega)])); (try simp only [f_X7_dropAt_35]); (try simp (disch := omega) only [pl0, pl1, pl2, pl3, pl4, pl5, pl6, pl7, pl8, pl9, pl10, pl11, pl12, pl16, pl19, lit_nI, iI_add, iI_sub, iI_mul, iI_neg, iI_le, iI_lt, iI_eq, iI_max, iI_min, Option.bind_some, Option.bind_eq_bind, if_true, if_false, hb0, c_isRest hP hI (show i < ns s by omega), c_placeOfDrop hP hI (show i < ns s by omega) (Int.not_lt.mp hd)]); (repeat (first | rw [if_pos (by omega)] | rw [if_neg (by omega)])); (try rfl))
  · by_cases h : N < ns s
    · have h1 : 0 ≤ ht s N ∧ rk (ht s) (pt s) (ln s) (ns s) N = p := g3 h
      have h2 := h1.2
      have hr := rk_r (ht s) (pt s) (ln s) (ns s) N
      (simp (disch := omega) only [pl0, pl1, pl2, pl3, pl4, pl5, pl6, pl7, pl8, pl9, pl10, pl11, pl12, pl16, pl19, lit_nI, iI_add, iI_sub, iI_mul, iI_neg, iI_le, iI_lt, iI_eq, iI_max, iI_min, Option.bind_some, Option.bind_eq_bind, if_true, if_false, hb0, c_isRest hP hI h, c_placeOfDrop hP hI h h1.1, h2]; (repeat (first | rw [if_pos (by omega)] | rw [if_neg (by omega)])); (try simp (disch := omega) only [pl0, pl1, pl2, pl3, pl4, pl5, pl6, pl7, pl8, pl9, pl10, pl11, pl12, pl16, pl19, lit_nI, iI_add, iI_sub, iI_mul, iI_neg, iI_le, iI_lt, iI_eq, iI_max, iI_min, Option.bind_some, Option.bind_eq_bind, if_true, if_false]); (repeat (first | rw [if_pos (by omega)] | rw [if_neg (by omega)])); (try rfl))
    · (simp (disch := omega) only [pl0, pl1, pl2, pl3, pl4, pl5, pl6, pl7, pl8, pl9, pl10, pl11, pl12, pl16, pl19, lit_nI, iI_add, iI_sub, iI_mul, iI_neg, iI_le, iI_lt, iI_eq, iI_max, iI_min, Option.bind_some, Option.bind_eq_bind, if_true, if_false, hb0]; (repeat (first | rw [if_pos (by omega)] | rw [if_neg (by omega)])); (try simp (disch := omega) only [pl0, pl1, pl2, pl3, pl4, pl5, pl6, pl7, pl8, pl9, pl10, pl11, pl12, pl16, pl19, lit_nI, iI_add, iI_sub, iI_mul, iI_neg, iI_le, iI_lt, iI_eq, iI_max, iI_min, Option.bind_some, Option.bind_eq_bind, if_true, if_false]); (repeat (first | rw [if_pos (by omega)] | rw [if_neg (by omega)])); (try rfl))
end PJ
