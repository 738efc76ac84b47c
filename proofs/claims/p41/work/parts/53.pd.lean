/-! more that both sides reckon -/
theorem sm_tele (S : Nat → Int) (a e : Int) (n : Nat) (h0 : S 0 ≤ a) (hm : ∀ i, i < n → S i ≤ S (i + 1)) : sm (fun j => max 0 (min (S (j + 1)) e - max (S j) a)) n = max 0 (min (S n) e - a) := by
  induction n with
  | zero => rw [sm_0]; omega
  | succ n ih =>
    rw [sm_1, ih (fun i hi => hm i (by omega))]
    have := hm n (by omega)
    have h2 : S 0 ≤ S n := by
      clear ih this
      have : ∀ k, k ≤ n → S 0 ≤ S k := by
        intro k
        induction k with
        | zero => intro _; exact Int.le_refl _
        | succ k ih => intro hk; exact Int.le_trans (ih (by omega)) (hm k (by omega))
      exact this n (Nat.le_refl _)
    omega
theorem sm_block (lo hi : Int) (n : Nat) (h1 : 0 ≤ lo) (h2 : lo ≤ hi + 1) (h3 : hi < n) : sm (fun b => if lo ≤ b ∧ b ≤ hi then 1 else 0) n = hi - lo + 1 := by
  have key : ∀ n : Nat, sm (fun b => if lo ≤ (b : Int) ∧ (b : Int) ≤ hi then 1 else 0) n = max 0 (min (n : Int) (hi + 1) - lo) := by
    intro n
    induction n with
    | zero => rw [sm_0]; omega
    | succ n ih =>
      rw [sm_1, ih]
      by_cases h : lo ≤ (n : Int) ∧ (n : Int) ≤ hi
      · rw [if_pos h]; omega
      · rw [if_neg h]; omega
  rw [key]; omega
section PD
variable {G K : GT} {s : Nat → Int32}
theorem fill_eq (hI : Inv s) {b : Nat} (hb : b < nb s) : sm (fun j => ov s j b) (ns s) = max 0 (min (bS s (ns s) - bB s b) (sz s b)) := by
  have g := hI.bBr (b := b) (by omega)
  have h := sm_tele (bS s) (bB s b) (bB s (b + 1)) (ns s) (by have : bS s 0 = 0 := rfl; omega) (fun i hi => hI.bSm (by omega) (by omega))
  have e : sm (fun j => ov s j b) (ns s) = _ := h
  rw [e, bB_1]
  omega
theorem whole_eq (hI : Inv s) {j : Nat} (hj : j < ns s) : sm (fun b => ov s j b) (nb s) = ln s j := by
  have g := hI.bSr (j := j) (by omega)
  have h := sm_tele (bB s) (bS s j) (bS s (j + 1)) (nb s) (by have : bB s 0 = 0 := rfl; omega) (fun i hi => hI.bBm (by omega) (by omega))
  have e : sm (fun b => ov s j b) (nb s) = sm (fun b => max 0 (min (bB s (b + 1)) (bS s (j + 1)) - max (bB s b) (bS s j))) (nb s) := sm_ext (fun b _ => by unfold ov; omega)
  rw [e, h]
  have h1 := hI.full
  have h2 := hI.bSm (a := j + 1) (b := ns s) (by omega) (by omega)
  have h3 := hI.sd hj
  have h4 := bS_1 s j
  omega
/-- the parts of a sound -/
def pj (s : Nat → Int32) (j : Nat) : Int := sm (fun b => if 0 < ov s j b then 1 else 0) (nb s)
theorem snd_in (hI : Inv s) {j : Nat} (hj : j < ns s) : 0 ≤ bS s j ∧ bS s j < bS s (j + 1) ∧ bS s (j + 1) ≤ bB s (nb s) ∧ bS s (j + 1) ≤ bS s (ns s) := by
  have h1 := hI.full
  have h2 := hI.bSm (a := j + 1) (b := ns s) (by omega) (by omega)
  have h3 := hI.sd hj
  have h4 := bS_1 s j
  have h5 := hI.bSr (j := j) (by omega)
  omega
theorem pj_eq (hI : Inv s) {j : Nat} (hj : j < ns s) : pj s j = bat s (bS s (j + 1) - 1) - bat s (bS s j) + 1 := by
  have h := snd_in hI hj
  have a := bi_r hI (x := bS s j) (by omega) (by omega)
  have b := bi_r hI (x := bS s (j + 1) - 1) (by omega) (by omega)
  have hab : bi s (bS s j) ≤ bi s (bS s (j + 1) - 1) := by
    refine Nat.le_of_not_lt fun h2 => ?_
    have := hI.bBm (a := bi s (bS s (j + 1) - 1) + 1) (b := bi s (bS s j)) (by omega) (by omega)
    omega
  have e1 : bat s (bS s j) = bi s (bS s j) := by unfold bat; rw [if_pos (by omega)]
  have e2 : bat s (bS s (j + 1) - 1) = bi s (bS s (j + 1) - 1) := by unfold bat; rw [if_pos (by omega)]
  rw [e1, e2, ← sm_block (bi s (bS s j)) (bi s (bS s (j + 1) - 1)) (nb s) (by omega) (by omega) (by omega)]
  refine sm_ext fun k hk => ?_
  have hk2 := bB_1 s k
  have hk3 := hI.sz hk
  by_cases h1 : k < bi s (bS s j)
  · have := hI.bBm (a := k + 1) (b := bi s (bS s j)) (by omega) (by omega)
    rw [if_neg (by unfold ov; omega), if_neg (by omega)]
  · by_cases h3 : bi s (bS s (j + 1) - 1) < k
    · have := hI.bBm (a := bi s (bS s (j + 1) - 1) + 1) (b := k) (by omega) (by omega)
      rw [if_neg (by unfold ov; omega), if_neg (by omega)]
    · have g1 := hI.bBm (a := bi s (bS s j) + 1) (b := k + 1) (by omega) (by omega)
      have g2 := hI.bBm (a := k) (b := bi s (bS s (j + 1) - 1)) (by omega) (by omega)
      rw [if_pos (by unfold ov; omega), if_pos (by omega)]
theorem c_barAt (hP : Pr G 0 s) (hI : Inv s) {x : Int} (hx1 : -1000 ≤ x) (hx2 : x ≤ 1000) : f_X5_barAt G (iI x) = some (iI (bat s x)) := by
  have h6 := hI.nb6
  have hb0 := c_nb hP hI
  obtain ⟨g1, g2, g3⟩ := ff_r (fun i => 0 ≤ x ∧ x < bB s (i + 1)) (nb s)
  generalize hN : ff (fun i => 0 ≤ x ∧ x < bB s (i + 1)) (nb s) = N at g1 g2 g3
  unfold f_X5_barAt f_X5_barAt_4
  refine lq2_for (X1 := fun i => iI (bB s i)) (X2 := fun i => iI i) N _ (fun k i hi => ?_) (fun k => ?_) (by omega)
  · have h1 := hI.bBr (b := i + 1) (by omega)
    have h2 := g2 i hi
    have h3 := bB_1 s i
    rw [h3] at h1 h2
    simp (disch := omega) only [pl0, pl1, pl2, pl3, pl4, pl5, pl6, pl7, pl8, pl9, pl10, pl11, pl12, pl16, pl19, lit_nI, iI_add, iI_sub, iI_mul, iI_neg, iI_le, iI_lt, iI_eq, iI_max, iI_min, Option.bind_some, Option.bind_eq_bind, if_true, if_false, hb0, c_sz hP (show i < 6 by omega), f_X5_barAt_34, bB_1]
    by_cases h4 : x < 0
    · (repeat (first | rw [if_pos (by omega)] | rw [if_neg (by omega)]))
      rfl
    · (repeat (first | rw [if_pos (by omega)] | rw [if_neg (by omega)]))
      rfl
  · by_cases h : N < nb s
    · have h1 := hI.bBr (b := N + 1) (by omega)
      have h0 := hI.bBr (b := N) (by omega)
      have h2 := g3 h
      have h3 := bB_1 s N
      have h5 : bB s N ≤ x := by
        cases N with
        | zero => have : bB s 0 = 0 := rfl; omega
        | succ n => have := g2 n (by omega); omega
      rw [bat_eq hI h h5 h2.2]
      rw [h3] at h1 h2
      simp (disch := omega) only [pl0, pl1, pl2, pl3, pl4, pl5, pl6, pl7, pl8, pl9, pl10, pl11, pl12, pl16, pl19, lit_nI, iI_add, iI_sub, iI_mul, iI_neg, iI_le, iI_lt, iI_eq, iI_max, iI_min, Option.bind_some, Option.bind_eq_bind, if_true, if_false, hb0, c_sz hP (show N < 6 by omega), f_X5_barAt_34, bB_1]
      (repeat (first | rw [if_pos (by omega)] | rw [if_neg (by omega)]))
    · have e : N = nb s := by omega
      subst e
      have e2 : bat s x = -1 := by
        unfold bat
        refine if_neg fun h3 => ?_
        have := bi_r hI h3.1 h3.2
        exact g2 _ (by omega) ⟨h3.1, this.2.2⟩
      simp (disch := omega) only [pl0, pl1, pl2, pl3, pl4, pl5, pl6, pl7, pl8, pl9, pl10, pl11, pl12, pl16, pl19, lit_nI, iI_add, iI_sub, iI_mul, iI_neg, iI_le, iI_lt, iI_eq, iI_max, iI_min, Option.bind_some, Option.bind_eq_bind, if_true, if_false, hb0, e2]
      (repeat (first | rw [if_pos (by omega)] | rw [if_neg (by omega)]))
theorem c_soundAt (hP : Pr G 0 s) (hI : Inv s) {x : Int} (hx1 : -1000 ≤ x) (hx2 : x ≤ 2147483647) : f_X5_soundAt G (iI x) = some (iI (sat s x)) := by
  have h6 := hI.ns16
  have hb0 := c_ns hP hI
  obtain ⟨g1, g2, g3⟩ := ff_r (fun i => 0 ≤ x ∧ x < bS s (i + 1)) (ns s)
  generalize hN : ff (fun i => 0 ≤ x ∧ x < bS s (i + 1)) (ns s) = N at g1 g2 g3
  unfold f_X5_soundAt f_X5_soundAt_4
  refine lq2_for (X1 := fun i => iI (bS s i)) (X2 := fun i => iI i) N _ (fun k i hi => ?_) (fun k => ?_) (by omega)
  · have h1 := hI.bSr (j := i + 1) (by omega)
    have h2 := g2 i hi
    have h3 := bS_1 s i
    rw [h3] at h1 h2
    simp (disch := omega) only [pl0, pl1, pl2, pl3, pl4, pl5, pl6, pl7, pl8, pl9, pl10, pl11, pl12, pl16, pl19, lit_nI, iI_add, iI_sub, iI_mul, iI_neg, iI_le, iI_lt, iI_eq, iI_max, iI_min, Option.bind_some, Option.bind_eq_bind, if_true, if_false, hb0, c_ln hP (show i < 16 by omega), f_X5_soundAt_34, bS_1]
    by_cases h4 : x < 0
    · (repeat (first | rw [if_pos (by omega)] | rw [if_neg (by omega)]))
      rfl
    · (repeat (first | rw [if_pos (by omega)] | rw [if_neg (by omega)]))
      rfl
  · by_cases h : N < ns s
    · have h1 := hI.bSr (j := N + 1) (by omega)
      have h0 := hI.bSr (j := N) (by omega)
      have h2 := g3 h
      have h3 := bS_1 s N
      have h5 : bS s N ≤ x := by
        cases N with
        | zero => have : bS s 0 = 0 := rfl; omega
        | succ n => have := g2 n (by omega); omega
      rw [sat_eq hI h h5 h2.2]
      rw [h3] at h1 h2
      simp (disch := omega) only [pl0, pl1, pl2, pl3, pl4, pl5, pl6, pl7, pl8, pl9, pl10, pl11, pl12, pl16, pl19, lit_nI, iI_add, iI_sub, iI_mul, iI_neg, iI_le, iI_lt, iI_eq, iI_max, iI_min, Option.bind_some, Option.bind_eq_bind, if_true, if_false, hb0, c_ln hP (show N < 16 by omega), f_X5_soundAt_34, bS_1]
      (repeat (first | rw [if_pos (by omega)] | rw [if_neg (by omega)]))
    · have e : N = ns s := by omega
      subst e
      have e2 : sat s x = -1 := by
        unfold sat
        refine if_neg fun h3 => ?_
        have := si_r hI h3.1 h3.2
        exact g2 _ (by omega) ⟨h3.1, this.2.2⟩
      simp (disch := omega) only [pl0, pl1, pl2, pl3, pl4, pl5, pl6, pl7, pl8, pl9, pl10, pl11, pl12, pl16, pl19, lit_nI, iI_add, iI_sub, iI_mul, iI_neg, iI_le, iI_lt, iI_eq, iI_max, iI_min, Option.bind_some, Option.bind_eq_bind, if_true, if_false, hb0, e2]
      (repeat (first | rw [if_pos (by omega)] | rw [if_neg (by omega)]))
theorem c_partsOfSound (hP : Pr G 0 s) (hI : Inv s) {j : Nat} (hj : j < ns s) : f_X5_partsOfSound G (iI j) = some (iI (pj s j)) := by
  have h2 := hI.ns16
  have h := snd_in hI hj
  have h3 := hI.bSr (j := j + 1) (by omega)
  have e : bS s j + ln s j - 1 = bS s (j + 1) - 1 := by rw [bS_1]
  unfold f_X5_partsOfSound
  simp (disch := omega) only [pl0, pl1, pl2, pl3, pl4, pl5, pl6, pl7, pl8, pl9, pl10, pl11, pl12, pl16, pl19, lit_nI, iI_add, iI_sub, iI_mul, iI_neg, iI_le, iI_lt, iI_eq, iI_max, iI_min, Option.bind_some, Option.bind_eq_bind, if_true, if_false, c_startOfSound hP, c_ln hP (show j < 16 by omega), e, c_barAt hP hI]
  rw [pj_eq hI hj]
/-- the parts in a bar among the first n sounds -/
def pb (s : Nat → Int32) (b n : Nat) : Int := sm (fun j => if 0 < ov s j b then 1 else 0) n
theorem c_partsOfBar (hP : Pr G 0 s) (hI : Inv s) {b : Nat} (hb : b < nb s) : f_X5_partsOfBar G (iI b) = some (iI (pb s b (ns s))) := by
  have h3 := hI.ns16
  have hb0 := c_ns hP hI
  unfold f_X5_partsOfBar f_X5_partsOfBar_4
  refine lq2_for (X1 := fun i => iI (pb s b i)) (X2 := fun i => iI i) (ns s) _ (fun k i hi => ?_) (fun k => ?_) (by omega)
  · have h := ov_r hI hi hb
    unfold pb
    by_cases h1 : 0 < ov s i b <;> (simp (disch := omega) only [pl0, pl1, pl2, pl3, pl4, pl5, pl6, pl7, pl8, pl9, pl10, pl11, pl12, pl16, pl19, lit_nI, iI_add, iI_sub, iI_mul, iI_neg, iI_le, iI_lt, iI_eq, iI_max, iI_min, Option.bind_some, Option.bind_eq_bind, if_true, if_false, sm_1, hb0, c_overlap hP hI hi hb, f_X5_partsOfBar_27]; (repeat (first | rw [if_pos (by omega)] | rw [if_neg (by omega)])); (try simp (disch := omega) only [pl0, pl1, pl2, pl3, pl4, pl5, pl6, pl7, pl8, pl9, pl10, pl11, pl12, pl16, pl19, lit_nI, iI_add, iI_sub, iI_mul, iI_neg, iI_le, iI_lt, iI_eq, iI_max, iI_min, Option.bind_some, Option.bind_eq_bind, if_true, if_false]); (repeat (first | rw [if_pos (by omega)] | rw [if_neg (by omega)])); (try rfl))
  · simp (disch := omega) only [pl0, pl1, pl2, pl3, pl4, pl5, pl6, pl7, pl8, pl9, pl10, pl11, pl12, pl16, pl19, lit_nI, iI_add, iI_sub, iI_mul, iI_neg, iI_le, iI_lt, iI_eq, iI_max, iI_min, Option.bind_some, Option.bind_eq_bind, if_true, if_false, hb0]
    (repeat (first | rw [if_pos (by omega)] | rw [if_neg (by omega)]))
theorem c_allParts (hP : Pr G 0 s) (hI : Inv s) : f_X5_allParts G = some (iI (sm (fun b => pb s b (ns s)) (nb s))) := by
  have h3 := hI.nb6
  have hb0 := c_nb hP hI
  unfold f_X5_allParts f_X5_allParts_4
  refine lq2_for (X1 := fun i => iI (sm (fun b => pb s b (ns s)) i)) (X2 := fun i => iI i) (nb s) _ (fun k i hi => ?_) (fun k => ?_) (by omega)
  · (simp (disch := omega) only [pl0, pl1, pl2, pl3, pl4, pl5, pl6, pl7, pl8, pl9, pl10, pl11, pl12, pl16, pl19, lit_nI, iI_add, iI_sub, iI_mul, iI_neg, iI_le, iI_lt, iI_eq, iI_max, iI_min, Option.bind_some, Option.bind_eq_bind, if_true, if_false, sm_1, hb0, c_partsOfBar hP hI hi]; (repeat (first | rw [if_pos (by omega)] | rw [if_neg (by omega)])); (try simp (disch := omega) only [pl0, pl1, pl2, pl3, pl4, pl5, pl6, pl7, pl8, pl9, pl10, pl11, pl12, pl16, pl19, lit_nI, iI_add, iI_sub, iI_mul, iI_neg, iI_le, iI_lt, iI_eq, iI_max, iI_min, Option.bind_some, Option.bind_eq_bind, if_true, if_false]); (repeat (first | rw [if_pos (by omega)] | rw [if_neg (by omega)])); (try rfl))
  · simp (disch := omega) only [pl0, pl1, pl2, pl3, pl4, pl5, pl6, pl7, pl8, pl9, pl10, pl11, pl12, pl16, pl19, lit_nI, iI_add, iI_sub, iI_mul, iI_neg, iI_le, iI_lt, iI_eq, iI_max, iI_min, Option.bind_some, Option.bind_eq_bind, if_true, if_false, hb0]
    (repeat (first | rw [if_pos (by omega)] | rw [if_neg (by omega)]))
/-- how many sounds begin in a bar -/
def gn (s : Nat → Int32) (b n : Nat) : Int := sm (fun j => if bat s (bS s j) = b then 1 else 0) n
theorem c_beginningsIn (hP : Pr G 0 s) (hI : Inv s) {b : Nat} (hb : b < nb s) : f_X5_beginningsIn G (iI b) = some (iI (gn s b (ns s))) := by
  have h3 := hI.ns16
  have h4 := hI.nb6
  have hb0 := c_ns hP hI
  unfold f_X5_beginningsIn f_X5_beginningsIn_4
  refine lq2_for (X1 := fun i => iI (gn s b i)) (X2 := fun i => iI i) (ns s) _ (fun k i hi => ?_) (fun k => ?_) (by omega)
  · have h := snd_in hI hi
    have h5 := hI.bBr (b := nb s) (by omega)
    have h6 := bat_r hI (bS s i)
    unfold gn
    by_cases h1 : bat s (bS s i) = b <;> (simp (disch := omega) only [pl0, pl1, pl2, pl3, pl4, pl5, pl6, pl7, pl8, pl9, pl10, pl11, pl12, pl16, pl19, lit_nI, iI_add, iI_sub, iI_mul, iI_neg, iI_le, iI_lt, iI_eq, iI_max, iI_min, Option.bind_some, Option.bind_eq_bind, if_true, if_false, sm_1, hb0, c_startOfSound hP (show i ≤ 16 by omega), c_barAt hP hI, f_X5_beginningsIn_31]; (repeat (first | rw [if_pos (by omega)] | rw [if_neg (by omega)])); (try simp (disch := omega) only [pl0, pl1, pl2, pl3, pl4, pl5, pl6, pl7, pl8, pl9, pl10, pl11, pl12, pl16, pl19, lit_nI, iI_add, iI_sub, iI_mul, iI_neg, iI_le, iI_lt, iI_eq, iI_max, iI_min, Option.bind_some, Option.bind_eq_bind, if_true, if_false]); (repeat (first | rw [if_pos (by omega)] | rw [if_neg (by omega)])); (try rfl))
  · simp (disch := omega) only [pl0, pl1, pl2, pl3, pl4, pl5, pl6, pl7, pl8, pl9, pl10, pl11, pl12, pl16, pl19, lit_nI, iI_add, iI_sub, iI_mul, iI_neg, iI_le, iI_lt, iI_eq, iI_max, iI_min, Option.bind_some, Option.bind_eq_bind, if_true, if_false, hb0]
    (repeat (first | rw [if_pos (by omega)] | rw [if_neg (by omega)]))
theorem c_filledOfBar (hP : Pr G 0 s) (hI : Inv s) {b : Nat} (hb : b < nb s) : f_X5_filledOfBar G (iI b) = some (iI (sm (fun j => ov s j b) (ns s))) := by
  have h3 := hI.nb6
  have h4 := hI.bBr (b := b) (by omega)
  have h5 := hI.ns16
  have h6 := hI.bSr (j := ns s) (by omega)
  have h7 := hI.sz hb
  unfold f_X5_filledOfBar
  simp (disch := omega) only [pl0, pl1, pl2, pl3, pl4, pl5, pl6, pl7, pl8, pl9, pl10, pl11, pl12, pl16, pl19, lit_nI, iI_add, iI_sub, iI_mul, iI_neg, iI_le, iI_lt, iI_eq, iI_max, iI_min, Option.bind_some, Option.bind_eq_bind, if_true, if_false, c_filledBeats hP hI, c_startOfBar hP (show b ≤ 6 by omega), c_sz hP (show b < 6 by omega)]
  rw [fill_eq hI hb]
theorem c_countOfRests (hP : Pr G 0 s) (hI : Inv s) : f_X5_countOfRests G = some (iI (ns s - dr s (ns s))) := by
  have h3 := hI.ns16
  have hb0 := c_ns hP hI
  unfold f_X5_countOfRests f_X5_countOfRests_4
  refine lq2_for (X1 := fun i => iI (i - dr s i)) (X2 := fun i => iI i) (ns s) _ (fun k i hi => ?_) (fun k => ?_) (by omega)
  · unfold dr
    by_cases h1 : ht s i < 0
    · have e : ((i + 1 : Nat) : Int) - (sm (fun j => if ht s j < 0 then 0 else 1) i + 0) = (i : Int) - sm (fun j => if ht s j < 0 then 0 else 1) i + 1 := by omega
      simp (disch := omega) only [pl0, pl1, pl2, pl3, pl4, pl5, pl6, pl7, pl8, pl9, pl10, pl11, pl12, pl16, pl19, lit_nI, iI_add, iI_sub, iI_mul, iI_neg, iI_le, iI_lt, iI_eq, iI_max, iI_min, Option.bind_some, Option.bind_eq_bind, if_true, if_false, sm_1, hb0, c_isRest hP hI hi, f_X5_countOfRests_26]
      (repeat (first | rw [if_pos (by omega)] | rw [if_neg (by omega)]))
      rw [e]
      rfl
    · have e : ((i + 1 : Nat) : Int) - (sm (fun j => if ht s j < 0 then 0 else 1) i + 1) = (i : Int) - sm (fun j => if ht s j < 0 then 0 else 1) i + 0 := by omega
      simp (disch := omega) only [pl0, pl1, pl2, pl3, pl4, pl5, pl6, pl7, pl8, pl9, pl10, pl11, pl12, pl16, pl19, lit_nI, iI_add, iI_sub, iI_mul, iI_neg, iI_le, iI_lt, iI_eq, iI_max, iI_min, Option.bind_some, Option.bind_eq_bind, if_true, if_false, sm_1, hb0, c_isRest hP hI hi, f_X5_countOfRests_26]
      (repeat (first | rw [if_pos (by omega)] | rw [if_neg (by omega)]))
      rw [e]
      rfl
  · simp (disch := omega) only [pl0, pl1, pl2, pl3, pl4, pl5, pl6, pl7, pl8, pl9, pl10, pl11, pl12, pl16, pl19, lit_nI, iI_add, iI_sub, iI_mul, iI_neg, iI_le, iI_lt, iI_eq, iI_max, iI_min, Option.bind_some, Option.bind_eq_bind, if_true, if_false, hb0]
    (repeat (first | rw [if_pos (by omega)] | rw [if_neg (by omega)]))
end PD
