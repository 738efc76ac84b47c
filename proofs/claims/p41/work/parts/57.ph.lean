/-! the counts by beats -/
theorem lq2_fr {A1 A2 ρ : Type} {F : (A1 → A2 → Option ρ) → A1 → A2 → Option ρ} (X1 : Nat → A1) (X2 : Nat → A2) (N : Nat) (R : Option ρ) {a1 : A1} {a2 : A2} (e1 : a1 = X1 0) (e2 : a2 = X2 0) (hs : ∀ k j, j < N → F k (X1 j) (X2 j) = k (X1 (j + 1)) (X2 (j + 1))) (he : ∀ k, F k (X1 N) (X2 N) = R) {n : Nat} (hn : N < n) : lq2 F n a1 a2 = R := by
  rw [e1, e2]; exact lq2_for X1 X2 N R hs he hn
theorem lq3_fr {A1 A2 A3 ρ : Type} {F : (A1 → A2 → A3 → Option ρ) → A1 → A2 → A3 → Option ρ} (X1 : Nat → A1) (X2 : Nat → A2) (X3 : Nat → A3) (N : Nat) (R : Option ρ) {a1 : A1} {a2 : A2} {a3 : A3} (e1 : a1 = X1 0) (e2 : a2 = X2 0) (e3 : a3 = X3 0) (hs : ∀ k j, j < N → F k (X1 j) (X2 j) (X3 j) = k (X1 (j + 1)) (X2 (j + 1)) (X3 (j + 1))) (he : ∀ k, F k (X1 N) (X2 N) (X3 N) = R) {n : Nat} (hn : N < n) : lq3 F n a1 a2 a3 = R := by
  rw [e1, e2, e3]; exact lq3_for X1 X2 X3 N R hs he hn
theorem lq4_fr {A1 A2 A3 A4 ρ : Type} {F : (A1 → A2 → A3 → A4 → Option ρ) → A1 → A2 → A3 → A4 → Option ρ} (X1 : Nat → A1) (X2 : Nat → A2) (X3 : Nat → A3) (X4 : Nat → A4) (N : Nat) (R : Option ρ) {a1 : A1} {a2 : A2} {a3 : A3} {a4 : A4} (e1 : a1 = X1 0) (e2 : a2 = X2 0) (e3 : a3 = X3 0) (e4 : a4 = X4 0) (hs : ∀ k j, j < N → F k (X1 j) (X2 j) (X3 j) (X4 j) = k (X1 (j + 1)) (X2 (j + 1)) (X3 (j + 1)) (X4 (j + 1))) (he : ∀ k, F k (X1 N) (X2 N) (X3 N) (X4 N) = R) {n : Nat} (hn : N < n) : lq4 F n a1 a2 a3 a4 = R := by
  rw [e1, e2, e3, e4]; exact lq4_for X1 X2 X3 X4 N R hs he hn
theorem sm_tail {f : Nat → Int} {m n : Nat} (h : m ≤ n) (h0 : ∀ i, m ≤ i → i < n → f i = 0) : sm f n = sm f m := by
  obtain ⟨d, rfl⟩ : ∃ d, n = m + d := ⟨n - m, by omega⟩
  clear h
  induction d with
  | zero => rfl
  | succ d ih =>
    have h1 := ih (fun i h1 h2 => h0 i h1 (by omega))
    have h2 := h0 (m + d) (by omega) (by omega)
    rw [show m + (d + 1) = m + d + 1 from rfl, sm_1]
    omega
/-- how many sounds, bars begin before a beat -/
def nj (s : Nat → Int32) : Nat → Nat
  | 0 => 0
  | x + 1 => (sat s x + 1).toNat
def mb (s : Nat → Int32) : Nat → Nat
  | 0 => 0
  | x + 1 => (bat s x + 1).toNat
/-- the pitch ahead of a sound, and that ahead of it -/
def la (s : Nat → Int32) (n : Nat) : Int := if da s n < 0 then -1 else pt s (dn s n)
def lf (s : Nat → Int32) (n : Nat) : Int := if da s n < 0 then -1 else la s (dn s n)
section PH
variable {G K : GT} {s : Nat → Int32}
theorem sat_neg (s : Nat → Int32) {x : Int} (h : x < 0) : sat s x = -1 := by
  unfold sat
  exact if_neg (by omega)
theorem bat_neg (s : Nat → Int32) {x : Int} (h : x < 0) : bat s x = -1 := by
  unfold bat
  exact if_neg (by omega)
theorem sat_adj (hI : Inv s) {x : Nat} (h : (x : Int) < bS s (ns s)) : ∃ k : Nat, k < ns s ∧ sat s x = k ∧ bS s k ≤ x ∧ x < bS s (k + 1) ∧ nj s (x + 1) = k + 1 ∧ ((sat s ((x : Int) - 1) = k ∧ bS s k < x ∧ nj s x = k + 1) ∨ (sat s ((x : Int) - 1) = (k : Int) - 1 ∧ bS s k = x ∧ nj s x = k)) := by
  obtain ⟨h1, h2, h3⟩ := si_r hI (x := x) (by omega) h
  generalize si s x = k at h1 h2 h3
  have e := sat_eq hI h1 h2 h3
  refine ⟨k, h1, e, h2, h3, by show (sat s x + 1).toNat = _; omega, ?_⟩
  have hb := hI.bSr (j := k) (by omega)
  cases x with
  | zero =>
    have := sat_neg s (x := ((0 : Nat) : Int) - 1) (by omega)
    have e0 : nj s 0 = 0 := rfl
    exact Or.inr ⟨by omega, by omega, by omega⟩
  | succ y =>
    have ey : (((y + 1 : Nat) : Int)) - 1 = (y : Int) := by omega
    rw [ey]
    have en : nj s (y + 1) = (sat s y + 1).toNat := rfl
    by_cases h4 : bS s k < (y + 1 : Nat)
    · have := sat_eq hI (x := y) h1 (by omega) (by omega)
      exact Or.inl ⟨this, h4, by omega⟩
    · cases k with
      | zero => have : bS s 0 = 0 := rfl; omega
      | succ k =>
        have h5 := hI.sd (j := k) (by omega)
        have h6 := bS_1 s k
        have := sat_eq hI (x := y) (j := k) (by omega) (by omega) (by omega)
        exact Or.inr ⟨by omega, by omega, by omega⟩
theorem bat_adj (hI : Inv s) {x : Nat} (h : (x : Int) < bB s (nb s)) : ∃ k : Nat, k < nb s ∧ bat s x = k ∧ bB s k ≤ x ∧ x < bB s (k + 1) ∧ mb s (x + 1) = k + 1 ∧ ((bat s ((x : Int) - 1) = k ∧ bB s k < x ∧ mb s x = k + 1) ∨ (bat s ((x : Int) - 1) = (k : Int) - 1 ∧ bB s k = x ∧ mb s x = k)) := by
  obtain ⟨h1, h2, h3⟩ := bi_r hI (x := x) (by omega) h
  generalize bi s x = k at h1 h2 h3
  have e := bat_eq hI h1 h2 h3
  refine ⟨k, h1, e, h2, h3, by show (bat s x + 1).toNat = _; omega, ?_⟩
  have hb := hI.bBr (b := k) (by omega)
  cases x with
  | zero =>
    have := bat_neg s (x := ((0 : Nat) : Int) - 1) (by omega)
    have e0 : mb s 0 = 0 := rfl
    exact Or.inr ⟨by omega, by omega, by omega⟩
  | succ y =>
    have ey : (((y + 1 : Nat) : Int)) - 1 = (y : Int) := by omega
    rw [ey]
    have en : mb s (y + 1) = (bat s y + 1).toNat := rfl
    by_cases h4 : bB s k < (y + 1 : Nat)
    · have := bat_eq hI (x := y) h1 (by omega) (by omega)
      exact Or.inl ⟨this, h4, by omega⟩
    · cases k with
      | zero => have : bB s 0 = 0 := rfl; omega
      | succ k =>
        have h5 := hI.sz (i := k) (by omega)
        have h6 := bB_1 s k
        have := bat_eq hI (x := y) (b := k) (by omega) (by omega) (by omega)
        exact Or.inr ⟨by omega, by omega, by omega⟩
/-- all beats that are filled -/
theorem nj_end (hI : Inv s) {E : Nat} (hE : (E : Int) = bS s (ns s)) : nj s E = ns s := by
  have hb := hI.bSr (j := ns s) (by omega)
  cases E with
  | zero => have : nj s 0 = 0 := rfl; omega
  | succ y =>
    obtain ⟨k, h1, h2, h3, h4, h5, -⟩ := sat_adj hI (x := y) (by omega)
    have : ¬ k + 1 < ns s := fun h => by
      have h7 := hI.bSm (a := k + 1 + 1) (b := ns s) (by omega) (by omega)
      have h8 := hI.sd (j := k + 1) (by omega)
      have h9 := bS_1 s (k + 1)
      omega
    omega
theorem da_1d {n : Nat} (h : 0 ≤ ht s n) : da s (n + 1) = n ∧ dn s (n + 1) = n := by
  have e : da s (n + 1) = n := if_pos h
  refine ⟨e, ?_⟩
  unfold dn
  rw [e]; rfl
theorem da_1r {n : Nat} (h : ht s n < 0) : da s (n + 1) = da s n ∧ dn s (n + 1) = dn s n := by
  have e : da s (n + 1) = da s n := if_neg (by omega)
  refine ⟨e, ?_⟩
  unfold dn
  rw [e]
theorem la_1d {n : Nat} (h : 0 ≤ ht s n) : la s (n + 1) = pt s n ∧ lf s (n + 1) = la s n := by
  obtain ⟨h1, h2⟩ := da_1d h
  unfold lf
  constructor
  · unfold la
    rw [h1, h2, if_neg (by omega)]
  · rw [h1, h2, if_neg (by omega)]
theorem la_1r {n : Nat} (h : ht s n < 0) : la s (n + 1) = la s n ∧ lf s (n + 1) = lf s n := by
  obtain ⟨h1, h2⟩ := da_1r h
  unfold lf
  constructor
  · unfold la
    rw [h1, h2]
  · rw [h1, h2]
theorem la_r (hI : Inv s) {n : Nat} (hn : n ≤ ns s) : -1 ≤ la s n ∧ la s n ≤ 11 := by
  unfold la
  rcases da_r s n with ⟨h1, -⟩ | ⟨h1, h3, h4, -⟩
  · rw [if_pos (by omega)]; omega
  · have := pt_r hI (j := dn s n) (by omega)
    rw [if_neg (by omega)]; omega
theorem lf_r (hI : Inv s) {n : Nat} (hn : n ≤ ns s) : -1 ≤ lf s n ∧ lf s n ≤ 11 := by
  unfold lf
  rcases da_r s n with ⟨h1, -⟩ | ⟨h1, h3, h4, -⟩
  · rw [if_pos (by omega)]; omega
  · have := la_r hI (n := dn s n) (by omega)
    rw [if_neg (by omega)]; omega
theorem v1_la (hI : Inv s) {n : Nat} (hn : n < ns s) (hd : 0 ≤ ht s n) : v1 s n = if la s n ≠ -1 ∧ lm s < ab (pt s n - la s n) then 1 else 0 := by
  unfold v1
  rcases da_r s n with ⟨h1, -⟩ | ⟨h1, h3, h4, -⟩
  · have e : la s n = -1 := if_pos (by omega)
    rw [e, if_neg (by omega), if_neg (by omega)]
  · have := pt_r hI (j := dn s n) (by omega)
    have e : la s n = pt s (dn s n) := if_neg (by omega)
    rw [e]
    by_cases h : lm s < ab (pt s n - pt s (dn s n))
    · rw [if_pos (by omega), if_pos (by omega)]
    · rw [if_neg (by omega), if_neg (by omega)]
theorem v2_la (hI : Inv s) {n : Nat} (hn : n < ns s) (hd : 0 ≤ ht s n) : v2 s n = if pt s n = la s n ∧ pt s n = lf s n then 1 else 0 := by
  have hp := pt_r hI hn
  unfold v2
  rcases da_r s n with ⟨h1, -⟩ | ⟨h1, h3, h4, -⟩
  · have e : la s n = -1 := if_pos (by omega)
    rw [e, if_neg (by omega), if_neg (by omega)]
  · have e : la s n = pt s (dn s n) := if_neg (by omega)
    have e2 : lf s n = la s (dn s n) := if_neg (by omega)
    rw [e, e2]
    rcases da_r s (dn s n) with ⟨g1, -⟩ | ⟨g1, g3, g4, -⟩
    · have e3 : la s (dn s n) = -1 := if_pos (by omega)
      rw [e3, if_neg (by omega), if_neg (by omega)]
    · have e3 : la s (dn s n) = pt s (dn s (dn s n)) := if_neg (by omega)
      rw [e3]
      by_cases h : pt s n = pt s (dn s n) ∧ pt s n = pt s (dn s (dn s n))
      · rw [if_pos (by omega), if_pos (by omega)]
      · rw [if_neg (by omega), if_neg (by omega)]
theorem v1_r {n : Nat} (hd : ht s n < 0) : v1 s n = 0 := by
  unfold v1; exact if_neg (by omega)
theorem v2_r {n : Nat} (hd : ht s n < 0) : v2 s n = 0 := by
  unfold v2; exact if_neg (by omega)
theorem c_pitchesByBeats1 (hP : Pr G 0 s) (hI : Inv s) : f_X6_pitchesByBeats G (iI 1) = some (iI (sm (v1 s) (ns s))) := by
  have h16 := hI.ns16
  have hz := hI.bSr (j := ns s) (by omega)
  have hl := hI.2.2.2.2.1
  obtain ⟨E, hE⟩ : ∃ E : Nat, (E : Int) = bS s (ns s) := ⟨(bS s (ns s)).toNat, by omega⟩
  unfold f_X6_pitchesByBeats f_X6_pitchesByBeats_19
  rw [c_filledBeats hP hI, Option.bind_some, ← hE]
  refine lq4_fr (X1 := fun x => iI (sm (v1 s) (nj s x))) (X2 := fun x => iI (la s (nj s x))) (X3 := fun x => iI (lf s (nj s x))) (X4 := fun x => iI x) E _ rfl rfl rfl rfl (fun k x hx => ?_) (fun k => ?_) (by omega)
  · obtain ⟨j, hj, e1, h1, h2, e2, ⟨e3, h3, e4⟩ | ⟨e3, h3, e4⟩⟩ := sat_adj hI (x := x) (by omega)
    · simp (disch := omega) only [pl0, pl1, pl2, pl3, pl4, pl5, pl6, pl7, pl8, pl9, pl10, pl11, pl12, pl16, pl19, lit_nI, iI_add, iI_sub, iI_mul, iI_neg, iI_le, iI_lt, iI_eq, iI_max, iI_min, Option.bind_some, Option.bind_eq_bind, if_true, if_false, c_soundAt hP hI, e1, e3, e2, e4, f_X6_pitchesByBeats_160]
      (repeat (first | rw [if_pos (by omega)] | rw [if_neg (by omega)]))
      rfl
    · by_cases hd : ht s j < 0
      · obtain ⟨g1, g2⟩ := la_1r hd
        simp (disch := omega) only [pl0, pl1, pl2, pl3, pl4, pl5, pl6, pl7, pl8, pl9, pl10, pl11, pl12, pl16, pl19, lit_nI, iI_add, iI_sub, iI_mul, iI_neg, iI_le, iI_lt, iI_eq, iI_max, iI_min, Option.bind_some, Option.bind_eq_bind, if_true, if_false, c_soundAt hP hI, e1, e3, e2, e4, f_X6_pitchesByBeats_160, sm_1, g1, g2, v1_r hd, c_isRest hP hI hj, Int.add_zero]
        (repeat (first | rw [if_pos (by omega)] | rw [if_neg (by omega)]))
        (try simp (disch := omega) only [pl0, pl1, pl2, pl3, pl4, pl5, pl6, pl7, pl8, pl9, pl10, pl11, pl12, pl16, pl19, lit_nI, iI_add, iI_sub, iI_mul, iI_neg, iI_le, iI_lt, iI_eq, iI_max, iI_min, Option.bind_some, Option.bind_eq_bind, if_true, if_false])
        (repeat (first | rw [if_pos (by omega)] | rw [if_neg (by omega)]))
        rfl
      · obtain ⟨g1, g2⟩ := la_1d (Int.not_lt.mp hd)
        have q1 := la_r hI (n := j) (by omega)
        have q2 := lf_r hI (n := j) (by omega)
        have q3 := pt_r hI hj
        have h7 : -12 ≤ ab (pt s j - la s j) ∧ ab (pt s j - la s j) ≤ 12 := by unfold ab; omega
        have hv := v1_la hI hj (Int.not_lt.mp hd)
        have hp : pc s j = pt s j := pc_d (Int.not_lt.mp hd)
        by_cases c1 : la s j = -1
        · rw [if_neg (by omega)] at hv
          (simp (disch := omega) only [pl0, pl1, pl2, pl3, pl4, pl5, pl6, pl7, pl8, pl9, pl10, pl11, pl12, pl16, pl19, lit_nI, iI_add, iI_sub, iI_mul, iI_neg, iI_le, iI_lt, iI_eq, iI_max, iI_min, Option.bind_some, Option.bind_eq_bind, if_true, if_false, c_soundAt hP hI, e1, e3, e2, e4, sm_1, g1, g2, hv, c_isRest hP hI hj, c_pitchOf hP hI hj, hp]; (repeat (first | rw [if_pos (by omega)] | rw [if_neg (by omega)])); (try simp only [f_X6_pitchesByBeats_160, f_X6_pitchesByBeats_152, f_X6_pitchesByBeats_151, f_X6_pitchesByBeats_126, f_X6_pitchesByBeats_125, f_X6_pitchesByBeats_106, f_X6_pitchesByBeats_105]); (try simp (disch := omega) only [pl0, pl1, pl2, pl3, pl4, pl5, pl6, pl7, pl8, pl9, pl10, pl11, pl12, pl16, pl19, lit_nI, iI_add, iI_sub, iI_mul, iI_neg, iI_le, iI_lt, iI_eq, iI_max, iI_min, Option.bind_some, Option.bind_eq_bind, if_true, if_false, c_soundAt hP hI, e1, e3, e2, e4, sm_1, g1, g2, hv, c_isRest hP hI hj, c_pitchOf hP hI hj, hp]); (repeat (first | rw [if_pos (by omega)] | rw [if_neg (by omega)])); (try simp only [f_X6_pitchesByBeats_160, f_X6_pitchesByBeats_152, f_X6_pitchesByBeats_151, f_X6_pitchesByBeats_126, f_X6_pitchesByBeats_125, f_X6_pitchesByBeats_106, f_X6_pitchesByBeats_105]); (try simp (disch := omega) only [pl0, pl1, pl2, pl3, pl4, pl5, pl6, pl7, pl8, pl9, pl10, pl11, pl12, pl16, pl19, lit_nI, iI_add, iI_sub, iI_mul, iI_neg, iI_le, iI_lt, iI_eq, iI_max, iI_min, Option.bind_some, Option.bind_eq_bind, if_true, if_false, c_soundAt hP hI, e1, e3, e2, e4, sm_1, g1, g2, hv, c_isRest hP hI hj, c_pitchOf hP hI hj, hp]); (repeat (first | rw [if_pos (by omega)] | rw [if_neg (by omega)])); (try simp only [f_X6_pitchesByBeats_160, f_X6_pitchesByBeats_152, f_X6_pitchesByBeats_151, f_X6_pitchesByBeats_126, f_X6_pitchesByBeats_125, f_X6_pitchesByBeats_106, f_X6_pitchesByBeats_105]); (try simp (disch := omega) only [pl0, pl1, pl2, pl3, pl4, pl5, pl6, pl7, pl8, pl9, pl10, pl11, pl12, pl16, pl19, lit_nI, iI_add, iI_sub, iI_mul, iI_neg, iI_le, iI_lt, iI_eq, iI_max, iI_min, Option.bind_some, Option.bind_eq_bind, if_true, if_false, c_soundAt hP hI, e1, e3, e2, e4, sm_1, g1, g2, hv, c_isRest hP hI hj, c_pitchOf hP hI hj, hp]); (repeat (first | rw [if_pos (by omega)] | rw [if_neg (by omega)])); (try simp only [f_X6_pitchesByBeats_160, f_X6_pitchesByBeats_152, f_X6_pitchesByBeats_151, f_X6_pitchesByBeats_126, f_X6_pitchesByBeats_125, f_X6_pitchesByBeats_106, f_X6_pitchesByBeats_105]); (try simp (disch := omega) only [pl0, pl1, pl2, pl3, pl4, pl5, pl6, pl7, pl8, pl9, pl10, pl11, pl12, pl16, pl19, lit_nI, iI_add, iI_sub, iI_mul, iI_neg, iI_le, iI_lt, iI_eq, iI_max, iI_min, Option.bind_some, Option.bind_eq_bind, if_true, if_false, c_soundAt hP hI, e1, e3, e2, e4, sm_1, g1, g2, hv, c_isRest hP hI hj, c_pitchOf hP hI hj, hp]); (repeat (first | rw [if_pos (by omega)] | rw [if_neg (by omega)])); (try rfl))
        · by_cases c2 : lm s < ab (pt s j - la s j)
          · rw [if_pos (by omega)] at hv
            by_cases c3 : pt s j = la s j <;> by_cases c4 : pt s j = lf s j <;> (simp (disch := omega) only [pl0, pl1, pl2, pl3, pl4, pl5, pl6, pl7, pl8, pl9, pl10, pl11, pl12, pl16, pl19, lit_nI, iI_add, iI_sub, iI_mul, iI_neg, iI_le, iI_lt, iI_eq, iI_max, iI_min, Option.bind_some, Option.bind_eq_bind, if_true, if_false, c_soundAt hP hI, e1, e3, e2, e4, sm_1, g1, g2, hv, c_isRest hP hI hj, c_pitchOf hP hI hj, hp, c_lm hP, iI_abs, f_X5_limitNow]; (repeat (first | rw [if_pos (by omega)] | rw [if_neg (by omega)])); (try simp only [f_X6_pitchesByBeats_160, f_X6_pitchesByBeats_152, f_X6_pitchesByBeats_151, f_X6_pitchesByBeats_147, f_X6_pitchesByBeats_126, f_X6_pitchesByBeats_125, f_X6_pitchesByBeats_106, f_X6_pitchesByBeats_105]); (try simp (disch := omega) only [pl0, pl1, pl2, pl3, pl4, pl5, pl6, pl7, pl8, pl9, pl10, pl11, pl12, pl16, pl19, lit_nI, iI_add, iI_sub, iI_mul, iI_neg, iI_le, iI_lt, iI_eq, iI_max, iI_min, Option.bind_some, Option.bind_eq_bind, if_true, if_false, c_soundAt hP hI, e1, e3, e2, e4, sm_1, g1, g2, hv, c_isRest hP hI hj, c_pitchOf hP hI hj, hp, c_lm hP, iI_abs, f_X5_limitNow]); (repeat (first | rw [if_pos (by omega)] | rw [if_neg (by omega)])); (try simp only [f_X6_pitchesByBeats_160, f_X6_pitchesByBeats_152, f_X6_pitchesByBeats_151, f_X6_pitchesByBeats_147, f_X6_pitchesByBeats_126, f_X6_pitchesByBeats_125, f_X6_pitchesByBeats_106, f_X6_pitchesByBeats_105]); (try simp (disch := omega) only [pl0, pl1, pl2, pl3, pl4, pl5, pl6, pl7, pl8, pl9, pl10, pl11, pl12, pl16, pl19, lit_nI, iI_add, iI_sub, iI_mul, iI_neg, iI_le, iI_lt, iI_eq, iI_max, iI_min, Option.bind_some, Option.bind_eq_bind, if_true, if_false, c_soundAt hP hI, e1, e3, e2, e4, sm_1, g1, g2, hv, c_isRest hP hI hj, c_pitchOf hP hI hj, hp, c_lm hP, iI_abs, f_X5_limitNow]); (repeat (first | rw [if_pos (by omega)] | rw [if_neg (by omega)])); (try simp only [f_X6_pitchesByBeats_160, f_X6_pitchesByBeats_152, f_X6_pitchesByBeats_151, f_X6_pitchesByBeats_147, f_X6_pitchesByBeats_126, f_X6_pitchesByBeats_125, f_X6_pitchesByBeats_106, f_X6_pitchesByBeats_105]); (try simp (disch := omega) only [pl0, pl1, pl2, pl3, pl4, pl5, pl6, pl7, pl8, pl9, pl10, pl11, pl12, pl16, pl19, lit_nI, iI_add, iI_sub, iI_mul, iI_neg, iI_le, iI_lt, iI_eq, iI_max, iI_min, Option.bind_some, Option.bind_eq_bind, if_true, if_false, c_soundAt hP hI, e1, e3, e2, e4, sm_1, g1, g2, hv, c_isRest hP hI hj, c_pitchOf hP hI hj, hp, c_lm hP, iI_abs, f_X5_limitNow]); (repeat (first | rw [if_pos (by omega)] | rw [if_neg (by omega)])); (try simp only [f_X6_pitchesByBeats_160, f_X6_pitchesByBeats_152, f_X6_pitchesByBeats_151, f_X6_pitchesByBeats_147, f_X6_pitchesByBeats_126, f_X6_pitchesByBeats_125, f_X6_pitchesByBeats_106, f_X6_pitchesByBeats_105]); (try simp (disch := omega) only [pl0, pl1, pl2, pl3, pl4, pl5, pl6, pl7, pl8, pl9, pl10, pl11, pl12, pl16, pl19, lit_nI, iI_add, iI_sub, iI_mul, iI_neg, iI_le, iI_lt, iI_eq, iI_max, iI_min, Option.bind_some, Option.bind_eq_bind, if_true, if_false, c_soundAt hP hI, e1, e3, e2, e4, sm_1, g1, g2, hv, c_isRest hP hI hj, c_pitchOf hP hI hj, hp, c_lm hP, iI_abs, f_X5_limitNow]); (repeat (first | rw [if_pos (by omega)] | rw [if_neg (by omega)])); (try rfl))
          · rw [if_neg (by omega)] at hv
            by_cases c3 : pt s j = la s j <;> by_cases c4 : pt s j = lf s j <;> (simp (disch := omega) only [pl0, pl1, pl2, pl3, pl4, pl5, pl6, pl7, pl8, pl9, pl10, pl11, pl12, pl16, pl19, lit_nI, iI_add, iI_sub, iI_mul, iI_neg, iI_le, iI_lt, iI_eq, iI_max, iI_min, Option.bind_some, Option.bind_eq_bind, if_true, if_false, c_soundAt hP hI, e1, e3, e2, e4, sm_1, g1, g2, hv, c_isRest hP hI hj, c_pitchOf hP hI hj, hp, c_lm hP, iI_abs, f_X5_limitNow]; (repeat (first | rw [if_pos (by omega)] | rw [if_neg (by omega)])); (try simp only [f_X6_pitchesByBeats_160, f_X6_pitchesByBeats_152, f_X6_pitchesByBeats_151, f_X6_pitchesByBeats_147, f_X6_pitchesByBeats_126, f_X6_pitchesByBeats_125, f_X6_pitchesByBeats_106, f_X6_pitchesByBeats_105]); (try simp (disch := omega) only [pl0, pl1, pl2, pl3, pl4, pl5, pl6, pl7, pl8, pl9, pl10, pl11, pl12, pl16, pl19, lit_nI, iI_add, iI_sub, iI_mul, iI_neg, iI_le, iI_lt, iI_eq, iI_max, iI_min, Option.bind_some, Option.bind_eq_bind, if_true, if_false, c_soundAt hP hI, e1, e3, e2, e4, sm_1, g1, g2, hv, c_isRest hP hI hj, c_pitchOf hP hI hj, hp, c_lm hP, iI_abs, f_X5_limitNow]); (repeat (first | rw [if_pos (by omega)] | rw [if_neg (by omega)])); (try simp only [f_X6_pitchesByBeats_160, f_X6_pitchesByBeats_152, f_X6_pitchesByBeats_151, f_X6_pitchesByBeats_147, f_X6_pitchesByBeats_126, f_X6_pitchesByBeats_125, f_X6_pitchesByBeats_106, f_X6_pitchesByBeats_105]); (try simp (disch := omega) only [pl0, pl1, pl2, pl3, pl4, pl5, pl6, pl7, pl8, pl9, pl10, pl11, pl12, pl16, pl19, lit_nI, iI_add, iI_sub, iI_mul, iI_neg, iI_le, iI_lt, iI_eq, iI_max, iI_min, Option.bind_some, Option.bind_eq_bind, if_true, if_false, c_soundAt hP hI, e1, e3, e2, e4, sm_1, g1, g2, hv, c_isRest hP hI hj, c_pitchOf hP hI hj, hp, c_lm hP, iI_abs, f_X5_limitNow]); (repeat (first | rw [if_pos (by omega)] | rw [if_neg (by omega)])); (try simp only [f_X6_pitchesByBeats_160, f_X6_pitchesByBeats_152, f_X6_pitchesByBeats_151, f_X6_pitchesByBeats_147, f_X6_pitchesByBeats_126, f_X6_pitchesByBeats_125, f_X6_pitchesByBeats_106, f_X6_pitchesByBeats_105]); (try simp (disch := omega) only [pl0, pl1, pl2, pl3, pl4, pl5, pl6, pl7, pl8, pl9, pl10, pl11, pl12, pl16, pl19, lit_nI, iI_add, iI_sub, iI_mul, iI_neg, iI_le, iI_lt, iI_eq, iI_max, iI_min, Option.bind_some, Option.bind_eq_bind, if_true, if_false, c_soundAt hP hI, e1, e3, e2, e4, sm_1, g1, g2, hv, c_isRest hP hI hj, c_pitchOf hP hI hj, hp, c_lm hP, iI_abs, f_X5_limitNow]); (repeat (first | rw [if_pos (by omega)] | rw [if_neg (by omega)])); (try simp only [f_X6_pitchesByBeats_160, f_X6_pitchesByBeats_152, f_X6_pitchesByBeats_151, f_X6_pitchesByBeats_147, f_X6_pitchesByBeats_126, f_X6_pitchesByBeats_125, f_X6_pitchesByBeats_106, f_X6_pitchesByBeats_105]); (try simp (disch := omega) only [pl0, pl1, pl2, pl3, pl4, pl5, pl6, pl7, pl8, pl9, pl10, pl11, pl12, pl16, pl19, lit_nI, iI_add, iI_sub, iI_mul, iI_neg, iI_le, iI_lt, iI_eq, iI_max, iI_min, Option.bind_some, Option.bind_eq_bind, if_true, if_false, c_soundAt hP hI, e1, e3, e2, e4, sm_1, g1, g2, hv, c_isRest hP hI hj, c_pitchOf hP hI hj, hp, c_lm hP, iI_abs, f_X5_limitNow]); (repeat (first | rw [if_pos (by omega)] | rw [if_neg (by omega)])); (try rfl))
  · simp (disch := omega) only [pl0, pl1, pl2, pl3, pl4, pl5, pl6, pl7, pl8, pl9, pl10, pl11, pl12, pl16, pl19, lit_nI, iI_add, iI_sub, iI_mul, iI_neg, iI_le, iI_lt, iI_eq, iI_max, iI_min, Option.bind_some, Option.bind_eq_bind, if_true, if_false, nj_end hI hE]
    (repeat (first | rw [if_pos (by omega)] | rw [if_neg (by omega)]))
theorem c_pitchesByBeats2 (hP : Pr G 0 s) (hI : Inv s) : f_X6_pitchesByBeats G (iI 2) = some (iI (sm (v2 s) (ns s))) := by
  have h16 := hI.ns16
  have hz := hI.bSr (j := ns s) (by omega)
  have hl := hI.2.2.2.2.1
  obtain ⟨E, hE⟩ : ∃ E : Nat, (E : Int) = bS s (ns s) := ⟨(bS s (ns s)).toNat, by omega⟩
  unfold f_X6_pitchesByBeats f_X6_pitchesByBeats_19
  rw [c_filledBeats hP hI, Option.bind_some, ← hE]
  refine lq4_fr (X1 := fun x => iI (sm (v2 s) (nj s x))) (X2 := fun x => iI (la s (nj s x))) (X3 := fun x => iI (lf s (nj s x))) (X4 := fun x => iI x) E _ rfl rfl rfl rfl (fun k x hx => ?_) (fun k => ?_) (by omega)
  · obtain ⟨j, hj, e1, h1, h2, e2, ⟨e3, h3, e4⟩ | ⟨e3, h3, e4⟩⟩ := sat_adj hI (x := x) (by omega)
    · simp (disch := omega) only [pl0, pl1, pl2, pl3, pl4, pl5, pl6, pl7, pl8, pl9, pl10, pl11, pl12, pl16, pl19, lit_nI, iI_add, iI_sub, iI_mul, iI_neg, iI_le, iI_lt, iI_eq, iI_max, iI_min, Option.bind_some, Option.bind_eq_bind, if_true, if_false, c_soundAt hP hI, e1, e3, e2, e4, f_X6_pitchesByBeats_160]
      (repeat (first | rw [if_pos (by omega)] | rw [if_neg (by omega)]))
      rfl
    · by_cases hd : ht s j < 0
      · obtain ⟨g1, g2⟩ := la_1r hd
        simp (disch := omega) only [pl0, pl1, pl2, pl3, pl4, pl5, pl6, pl7, pl8, pl9, pl10, pl11, pl12, pl16, pl19, lit_nI, iI_add, iI_sub, iI_mul, iI_neg, iI_le, iI_lt, iI_eq, iI_max, iI_min, Option.bind_some, Option.bind_eq_bind, if_true, if_false, c_soundAt hP hI, e1, e3, e2, e4, f_X6_pitchesByBeats_160, sm_1, g1, g2, v2_r hd, c_isRest hP hI hj, Int.add_zero]
        (repeat (first | rw [if_pos (by omega)] | rw [if_neg (by omega)]))
        (try simp (disch := omega) only [pl0, pl1, pl2, pl3, pl4, pl5, pl6, pl7, pl8, pl9, pl10, pl11, pl12, pl16, pl19, lit_nI, iI_add, iI_sub, iI_mul, iI_neg, iI_le, iI_lt, iI_eq, iI_max, iI_min, Option.bind_some, Option.bind_eq_bind, if_true, if_false])
        (repeat (first | rw [if_pos (by omega)] | rw [if_neg (by omega)]))
        rfl
      · obtain ⟨g1, g2⟩ := la_1d (Int.not_lt.mp hd)
        have q1 := la_r hI (n := j) (by omega)
        have q2 := lf_r hI (n := j) (by omega)
        have q3 := pt_r hI hj
        have h7 : -12 ≤ ab (pt s j - la s j) ∧ ab (pt s j - la s j) ≤ 12 := by unfold ab; omega
        have hv := v2_la hI hj (Int.not_lt.mp hd)
        have hp : pc s j = pt s j := pc_d (Int.not_lt.mp hd)
        by_cases c1 : la s j = -1
        · rw [if_neg (by omega)] at hv
          (simp (disch := omega) only [pl0, pl1, pl2, pl3, pl4, pl5, pl6, pl7, pl8, pl9, pl10, pl11, pl12, pl16, pl19, lit_nI, iI_add, iI_sub, iI_mul, iI_neg, iI_le, iI_lt, iI_eq, iI_max, iI_min, Option.bind_some, Option.bind_eq_bind, if_true, if_false, c_soundAt hP hI, e1, e3, e2, e4, sm_1, g1, g2, hv, c_isRest hP hI hj, c_pitchOf hP hI hj, hp]; (repeat (first | rw [if_pos (by omega)] | rw [if_neg (by omega)])); (try simp only [f_X6_pitchesByBeats_160, f_X6_pitchesByBeats_152, f_X6_pitchesByBeats_151, f_X6_pitchesByBeats_126, f_X6_pitchesByBeats_125, f_X6_pitchesByBeats_106, f_X6_pitchesByBeats_105]); (try simp (disch := omega) only [pl0, pl1, pl2, pl3, pl4, pl5, pl6, pl7, pl8, pl9, pl10, pl11, pl12, pl16, pl19, lit_nI, iI_add, iI_sub, iI_mul, iI_neg, iI_le, iI_lt, iI_eq, iI_max, iI_min, Option.bind_some, Option.bind_eq_bind, if_true, if_false, c_soundAt hP hI, e1, e3, e2, e4, sm_1, g1, g2, hv, c_isRest hP hI hj, c_pitchOf hP hI hj, hp]); (repeat (first | rw [if_pos (by omega)] | rw [if_neg (by omega)])); (try simp only [f_X6_pitchesByBeats_160, f_X6_pitchesByBeats_152, f_X6_pitchesByBeats_151, f_X6_pitchesByBeats_126, f_X6_pitchesByBeats_125, f_X6_pitchesByBeats_106, f_X6_pitchesByBeats_105]); (try simp (disch := omega) only [pl0, pl1, pl2, pl3, pl4, pl5, pl6, pl7, pl8, pl9, pl10, pl11, pl12, pl16, pl19, lit_nI, iI_add, iI_sub, iI_mul, iI_neg, iI_le, iI_lt, iI_eq, iI_max, iI_min, Option.bind_some, Option.bind_eq_bind, if_true, if_false, c_soundAt hP hI, e1, e3, e2, e4, sm_1, g1, g2, hv, c_isRest hP hI hj, c_pitchOf hP hI hj, hp]); (repeat (first | rw [if_pos (by omega)] | rw [if_neg (by omega)])); (try simp only [f_X6_pitchesByBeats_160, f_X6_pitchesByBeats_152, f_X6_pitchesByBeats_151, f_X6_pitchesByBeats_126, f_X6_pitchesByBeats_125, f_X6_pitchesByBeats_106, f_X6_pitchesByBeats_105]); (try simp (disch := omega) only [pl0, pl1, pl2, pl3, pl4, pl5, pl6, pl7, pl8, pl9, pl10, pl11, pl12, pl16, pl19, lit_nI, iI_add, iI_sub, iI_mul, iI_neg, iI_le, iI_lt, iI_eq, iI_max, iI_min, Option.bind_some, Option.bind_eq_bind, if_true, if_false, c_soundAt hP hI, e1, e3, e2, e4, sm_1, g1, g2, hv, c_isRest hP hI hj, c_pitchOf hP hI hj, hp]); (repeat (first | rw [if_pos (by omega)] | rw [if_neg (by omega)])); (try simp only [f_X6_pitchesByBeats_160, f_X6_pitchesByBeats_152, f_X6_pitchesByBeats_151, f_X6_pitchesByBeats_126, f_X6_pitchesByBeats_125, f_X6_pitchesByBeats_106, f_X6_pitchesByBeats_105]); (try simp (disch := omega) only [pl0, pl1, pl2, pl3, pl4, pl5, pl6, pl7, pl8, pl9, pl10, pl11, pl12, pl16, pl19, lit_nI, iI_add, iI_sub, iI_mul, iI_neg, iI_le, iI_lt, iI_eq, iI_max, iI_min, Option.bind_some, Option.bind_eq_bind, if_true, if_false, c_soundAt hP hI, e1, e3, e2, e4, sm_1, g1, g2, hv, c_isRest hP hI hj, c_pitchOf hP hI hj, hp]); (repeat (first | rw [if_pos (by omega)] | rw [if_neg (by omega)])); (try rfl))
        · by_cases c2 : pt s j = la s j ∧ pt s j = lf s j
          · rw [if_pos c2] at hv
            by_cases c3 : lm s < ab (pt s j - la s j) <;> (simp (disch := omega) only [pl0, pl1, pl2, pl3, pl4, pl5, pl6, pl7, pl8, pl9, pl10, pl11, pl12, pl16, pl19, lit_nI, iI_add, iI_sub, iI_mul, iI_neg, iI_le, iI_lt, iI_eq, iI_max, iI_min, Option.bind_some, Option.bind_eq_bind, if_true, if_false, c_soundAt hP hI, e1, e3, e2, e4, sm_1, g1, g2, hv, c_isRest hP hI hj, c_pitchOf hP hI hj, hp, c_lm hP, iI_abs, f_X5_limitNow]; (repeat (first | rw [if_pos (by omega)] | rw [if_neg (by omega)])); (try simp only [f_X6_pitchesByBeats_160, f_X6_pitchesByBeats_152, f_X6_pitchesByBeats_151, f_X6_pitchesByBeats_147, f_X6_pitchesByBeats_126, f_X6_pitchesByBeats_125, f_X6_pitchesByBeats_106, f_X6_pitchesByBeats_105]); (try simp (disch := omega) only [pl0, pl1, pl2, pl3, pl4, pl5, pl6, pl7, pl8, pl9, pl10, pl11, pl12, pl16, pl19, lit_nI, iI_add, iI_sub, iI_mul, iI_neg, iI_le, iI_lt, iI_eq, iI_max, iI_min, Option.bind_some, Option.bind_eq_bind, if_true, if_false, c_soundAt hP hI, e1, e3, e2, e4, sm_1, g1, g2, hv, c_isRest hP hI hj, c_pitchOf hP hI hj, hp, c_lm hP, iI_abs, f_X5_limitNow]); (repeat (first | rw [if_pos (by omega)] | rw [if_neg (by omega)])); (try simp only [f_X6_pitchesByBeats_160, f_X6_pitchesByBeats_152, f_X6_pitchesByBeats_151, f_X6_pitchesByBeats_147, f_X6_pitchesByBeats_126, f_X6_pitchesByBeats_125, f_X6_pitchesByBeats_106, f_X6_pitchesByBeats_105]); (try simp (disch := omega) only [pl0, pl1, pl2, pl3, pl4, pl5, pl6, pl7, pl8, pl9, pl10, pl11, pl12, pl16, pl19, lit_nI, iI_add, iI_sub, iI_mul, iI_neg, iI_le, iI_lt, iI_eq, iI_max, iI_min, Option.bind_some, Option.bind_eq_bind, if_true, if_false, c_soundAt hP hI, e1, e3, e2, e4, sm_1, g1, g2, hv, c_isRest hP hI hj, c_pitchOf hP hI hj, hp, c_lm hP, iI_abs, f_X5_limitNow]); (repeat (first | rw [if_pos (by omega)] | rw [if_neg (by omega)])); (try simp only [f_X6_pitchesByBeats_160, f_X6_pitchesByBeats_152, f_X6_pitchesByBeats_151, f_X6_pitchesByBeats_147, f_X6_pitchesByBeats_126, f_X6_pitchesByBeats_125, f_X6_pitchesByBeats_106, f_X6_pitchesByBeats_105]); (try simp (disch := omega) only [pl0, pl1, pl2, pl3, pl4, pl5, pl6, pl7, pl8, pl9, pl10, pl11, pl12, pl16, pl19, lit_nI, iI_add, iI_sub, iI_mul, iI_neg, iI_le, iI_lt, iI_eq, iI_max, iI_min, Option.bind_some, Option.bind_eq_bind, if_true, if_false, c_soundAt hP hI, e1, e3, e2, e4, sm_1, g1, g2, hv, c_isRest hP hI hj, c_pitchOf hP hI hj, hp, c_lm hP, iI_abs, f_X5_limitNow]); (repeat (first | rw [if_pos (by omega)] | rw [if_neg (by omega)])); (try simp only [f_X6_pitchesByBeats_160, f_X6_pitchesByBeats_152, f_X6_pitchesByBeats_151, f_X6_pitchesByBeats_147, f_X6_pitchesByBeats_126, f_X6_pitchesByBeats_125, f_X6_pitchesByBeats_106, f_X6_pitchesByBeats_105]); (try simp (disch := omega) only [pl0, pl1, pl2, pl3, pl4, pl5, pl6, pl7, pl8, pl9, pl10, pl11, pl12, pl16, pl19, lit_nI, iI_add, iI_sub, iI_mul, iI_neg, iI_le, iI_lt, iI_eq, iI_max, iI_min, Option.bind_some, Option.bind_eq_bind, if_true, if_false, c_soundAt hP hI, e1, e3, e2, e4, sm_1, g1, g2, hv, c_isRest hP hI hj, c_pitchOf hP hI hj, hp, c_lm hP, iI_abs, f_X5_limitNow]); (repeat (first | rw [if_pos (by omega)] | rw [if_neg (by omega)])); (try rfl))
          · rw [if_neg c2] at hv
            by_cases c3 : lm s < ab (pt s j - la s j) <;> by_cases c4 : pt s j = la s j <;> (simp (disch := omega) only [pl0, pl1, pl2, pl3, pl4, pl5, pl6, pl7, pl8, pl9, pl10, pl11, pl12, pl16, pl19, lit_nI, iI_add, iI_sub, iI_mul, iI_neg, iI_le, iI_lt, iI_eq, iI_max, iI_min, Option.bind_some, Option.bind_eq_bind, if_true, if_false, c_soundAt hP hI, e1, e3, e2, e4, sm_1, g1, g2, hv, c_isRest hP hI hj, c_pitchOf hP hI hj, hp, c_lm hP, iI_abs, f_X5_limitNow]; (repeat (first | rw [if_pos (by omega)] | rw [if_neg (by omega)])); (try simp only [f_X6_pitchesByBeats_160, f_X6_pitchesByBeats_152, f_X6_pitchesByBeats_151, f_X6_pitchesByBeats_147, f_X6_pitchesByBeats_126, f_X6_pitchesByBeats_125, f_X6_pitchesByBeats_106, f_X6_pitchesByBeats_105]); (try simp (disch := omega) only [pl0, pl1, pl2, pl3, pl4, pl5, pl6, pl7, pl8, pl9, pl10, pl11, pl12, pl16, pl19, lit_nI, iI_add, iI_sub, iI_mul, iI_neg, iI_le, iI_lt, iI_eq, iI_max, iI_min, Option.bind_some, Option.bind_eq_bind, if_true, if_false, c_soundAt hP hI, e1, e3, e2, e4, sm_1, g1, g2, hv, c_isRest hP hI hj, c_pitchOf hP hI hj, hp, c_lm hP, iI_abs, f_X5_limitNow]); (repeat (first | rw [if_pos (by omega)] | rw [if_neg (by omega)])); (try simp only [f_X6_pitchesByBeats_160, f_X6_pitchesByBeats_152, f_X6_pitchesByBeats_151, f_X6_pitchesByBeats_147, f_X6_pitchesByBeats_126, f_X6_pitchesByBeats_125, f_X6_pitchesByBeats_106, f_X6_pitchesByBeats_105]); (try simp (disch := omega) only [pl0, pl1, pl2, pl3, pl4, pl5, pl6, pl7, pl8, pl9, pl10, pl11, pl12, pl16, pl19, lit_nI, iI_add, iI_sub, iI_mul, iI_neg, iI_le, iI_lt, iI_eq, iI_max, iI_min, Option.bind_some, Option.bind_eq_bind, if_true, if_false, c_soundAt hP hI, e1, e3, e2, e4, sm_1, g1, g2, hv, c_isRest hP hI hj, c_pitchOf hP hI hj, hp, c_lm hP, iI_abs, f_X5_limitNow]); (repeat (first | rw [if_pos (by omega)] | rw [if_neg (by omega)])); (try simp only [f_X6_pitchesByBeats_160, f_X6_pitchesByBeats_152, f_X6_pitchesByBeats_151, f_X6_pitchesByBeats_147, f_X6_pitchesByBeats_126, f_X6_pitchesByBeats_125, f_X6_pitchesByBeats_106, f_X6_pitchesByBeats_105]); (try simp (disch := omega) only [pl0, pl1, pl2, pl3, pl4, pl5, pl6, pl7, pl8, pl9, pl10, pl11, pl12, pl16, pl19, lit_nI, iI_add, iI_sub, iI_mul, iI_neg, iI_le, iI_lt, iI_eq, iI_max, iI_min, Option.bind_some, Option.bind_eq_bind, if_true, if_false, c_soundAt hP hI, e1, e3, e2, e4, sm_1, g1, g2, hv, c_isRest hP hI hj, c_pitchOf hP hI hj, hp, c_lm hP, iI_abs, f_X5_limitNow]); (repeat (first | rw [if_pos (by omega)] | rw [if_neg (by omega)])); (try simp only [f_X6_pitchesByBeats_160, f_X6_pitchesByBeats_152, f_X6_pitchesByBeats_151, f_X6_pitchesByBeats_147, f_X6_pitchesByBeats_126, f_X6_pitchesByBeats_125, f_X6_pitchesByBeats_106, f_X6_pitchesByBeats_105]); (try simp (disch := omega) only [pl0, pl1, pl2, pl3, pl4, pl5, pl6, pl7, pl8, pl9, pl10, pl11, pl12, pl16, pl19, lit_nI, iI_add, iI_sub, iI_mul, iI_neg, iI_le, iI_lt, iI_eq, iI_max, iI_min, Option.bind_some, Option.bind_eq_bind, if_true, if_false, c_soundAt hP hI, e1, e3, e2, e4, sm_1, g1, g2, hv, c_isRest hP hI hj, c_pitchOf hP hI hj, hp, c_lm hP, iI_abs, f_X5_limitNow]); (repeat (first | rw [if_pos (by omega)] | rw [if_neg (by omega)])); (try rfl))
  · simp (disch := omega) only [pl0, pl1, pl2, pl3, pl4, pl5, pl6, pl7, pl8, pl9, pl10, pl11, pl12, pl16, pl19, lit_nI, iI_add, iI_sub, iI_mul, iI_neg, iI_le, iI_lt, iI_eq, iI_max, iI_min, Option.bind_some, Option.bind_eq_bind, if_true, if_false, nj_end hI hE]
    (repeat (first | rw [if_pos (by omega)] | rw [if_neg (by omega)]))
theorem c_restsAtBars (hP : Pr G 0 s) (hI : Inv s) : f_X6_restsAtBars G = some (iI (sm (v3 s) (nb s))) := by
  have h16 := hI.ns16
  have h6 := hI.nb6
  have hz := hI.bSr (j := ns s) (by omega)
  have hf := hI.full
  obtain ⟨E, hE⟩ : ∃ E : Nat, (E : Int) = bS s (ns s) := ⟨(bS s (ns s)).toNat, by omega⟩
  have htl : sm (v3 s) (nb s) = sm (v3 s) (mb s E) := by
    have hle : mb s E ≤ nb s := by
      cases E with
      | zero => exact Nat.zero_le _
      | succ y =>
        obtain ⟨b, b1, -, -, -, b5, -⟩ := bat_adj hI (x := y) (by omega)
        omega
    refine sm_tail hle fun i h1 h2 => ?_
    unfold v3
    refine if_neg fun h => ?_
    have h4 : ¬ (0 ≤ bB s i ∧ bB s i < bS s (ns s)) := fun h5 => by
      cases E with
      | zero => omega
      | succ y =>
        obtain ⟨b, b1, -, b3, b4, b5, -⟩ := bat_adj hI (x := y) (by omega)
        have := hI.bBm (a := b + 1) (b := i) (by omega) (by omega)
        omega
    unfold sat at h
    rw [if_neg h4] at h
    omega
  rw [htl]
  unfold f_X6_restsAtBars f_X6_restsAtBars_12
  rw [c_filledBeats hP hI, Option.bind_some, ← hE]
  refine lq2_fr (X1 := fun x => iI (sm (v3 s) (mb s x))) (X2 := fun x => iI x) E _ rfl rfl (fun k x hx => ?_) (fun k => ?_) (by omega)
  · obtain ⟨b, b1, b2, b3, b4, b5, hb⟩ := bat_adj hI (x := x) (by omega)
    obtain ⟨j, hj, e1, -⟩ := sat_adj hI (x := x) (by omega)
    rcases hb with ⟨b6, b7, b8⟩ | ⟨b6, b7, b8⟩
    · (simp (disch := omega) only [pl0, pl1, pl2, pl3, pl4, pl5, pl6, pl7, pl8, pl9, pl10, pl11, pl12, pl16, pl19, lit_nI, iI_add, iI_sub, iI_mul, iI_neg, iI_le, iI_lt, iI_eq, iI_max, iI_min, Option.bind_some, Option.bind_eq_bind, if_true, if_false, c_barAt hP hI, b2, b6, b5, b8, Int.add_zero]; (repeat (first | rw [if_pos (by omega)] | rw [if_neg (by omega)])); (try simp only [f_X6_restsAtBars_43, f_X6_restsAtBars_73, f_X6_restsAtBars_74]); (try simp (disch := omega) only [pl0, pl1, pl2, pl3, pl4, pl5, pl6, pl7, pl8, pl9, pl10, pl11, pl12, pl16, pl19, lit_nI, iI_add, iI_sub, iI_mul, iI_neg, iI_le, iI_lt, iI_eq, iI_max, iI_min, Option.bind_some, Option.bind_eq_bind, if_true, if_false, c_barAt hP hI, b2, b6, b5, b8, Int.add_zero]); (repeat (first | rw [if_pos (by omega)] | rw [if_neg (by omega)])); (try simp only [f_X6_restsAtBars_43, f_X6_restsAtBars_73, f_X6_restsAtBars_74]); (try simp (disch := omega) only [pl0, pl1, pl2, pl3, pl4, pl5, pl6, pl7, pl8, pl9, pl10, pl11, pl12, pl16, pl19, lit_nI, iI_add, iI_sub, iI_mul, iI_neg, iI_le, iI_lt, iI_eq, iI_max, iI_min, Option.bind_some, Option.bind_eq_bind, if_true, if_false, c_barAt hP hI, b2, b6, b5, b8, Int.add_zero]); (repeat (first | rw [if_pos (by omega)] | rw [if_neg (by omega)])); (try simp only [f_X6_restsAtBars_43, f_X6_restsAtBars_73, f_X6_restsAtBars_74]); (try simp (disch := omega) only [pl0, pl1, pl2, pl3, pl4, pl5, pl6, pl7, pl8, pl9, pl10, pl11, pl12, pl16, pl19, lit_nI, iI_add, iI_sub, iI_mul, iI_neg, iI_le, iI_lt, iI_eq, iI_max, iI_min, Option.bind_some, Option.bind_eq_bind, if_true, if_false, c_barAt hP hI, b2, b6, b5, b8, Int.add_zero]); (repeat (first | rw [if_pos (by omega)] | rw [if_neg (by omega)])); (try simp only [f_X6_restsAtBars_43, f_X6_restsAtBars_73, f_X6_restsAtBars_74]); (try simp (disch := omega) only [pl0, pl1, pl2, pl3, pl4, pl5, pl6, pl7, pl8, pl9, pl10, pl11, pl12, pl16, pl19, lit_nI, iI_add, iI_sub, iI_mul, iI_neg, iI_le, iI_lt, iI_eq, iI_max, iI_min, Option.bind_some, Option.bind_eq_bind, if_true, if_false, c_barAt hP hI, b2, b6, b5, b8, Int.add_zero]); (repeat (first | rw [if_pos (by omega)] | rw [if_neg (by omega)])); (try rfl))
    · have hv : v3 s b = if ht s j < 0 then 1 else 0 := by
        unfold v3
        rw [b7, e1, Int.toNat_natCast]
        by_cases c : ht s j < 0
        · rw [if_pos (by omega), if_pos c]
        · rw [if_neg (by omega), if_neg c]
      by_cases hd : ht s j < 0
      · rw [if_pos hd] at hv
        (simp (disch := omega) only [pl0, pl1, pl2, pl3, pl4, pl5, pl6, pl7, pl8, pl9, pl10, pl11, pl12, pl16, pl19, lit_nI, iI_add, iI_sub, iI_mul, iI_neg, iI_le, iI_lt, iI_eq, iI_max, iI_min, Option.bind_some, Option.bind_eq_bind, if_true, if_false, c_barAt hP hI, b2, b6, b5, b8, sm_1, hv, c_soundAt hP hI, e1, c_isRest hP hI hj]; (repeat (first | rw [if_pos (by omega)] | rw [if_neg (by omega)])); (try simp only [f_X6_restsAtBars_43, f_X6_restsAtBars_73, f_X6_restsAtBars_74]); (try simp (disch := omega) only [pl0, pl1, pl2, pl3, pl4, pl5, pl6, pl7, pl8, pl9, pl10, pl11, pl12, pl16, pl19, lit_nI, iI_add, iI_sub, iI_mul, iI_neg, iI_le, iI_lt, iI_eq, iI_max, iI_min, Option.bind_some, Option.bind_eq_bind, if_true, if_false, c_barAt hP hI, b2, b6, b5, b8, sm_1, hv, c_soundAt hP hI, e1, c_isRest hP hI hj]); (repeat (first | rw [if_pos (by omega)] | rw [if_neg (by omega)])); (try simp only [f_X6_restsAtBars_43, f_X6_restsAtBars_73, f_X6_restsAtBars_74]); (try simp (disch := omega) only [pl0, pl1, pl2, pl3, pl4, pl5, pl6, pl7, pl8, pl9, pl10, pl11, pl12, pl16, pl19, lit_nI, iI_add, iI_sub, iI_mul, iI_neg, iI_le, iI_lt, iI_eq, iI_max, iI_min, Option.bind_some, Option.bind_eq_bind, if_true, if_false, c_barAt hP hI, b2, b6, b5, b8, sm_1, hv, c_soundAt hP hI, e1, c_isRest hP hI hj]); (repeat (first | rw [if_pos (by omega)] | rw [if_neg (by omega)])); (try simp only [f_X6_restsAtBars_43, f_X6_restsAtBars_73, f_X6_restsAtBars_74]); (try simp (disch := omega) only [pl0, pl1, pl2, pl3, pl4, pl5, pl6, pl7, pl8, pl9, pl10, pl11, pl12, pl16, pl19, lit_nI, iI_add, iI_sub, iI_mul, iI_neg, iI_le, iI_lt, iI_eq, iI_max, iI_min, Option.bind_some, Option.bind_eq_bind, if_true, if_false, c_barAt hP hI, b2, b6, b5, b8, sm_1, hv, c_soundAt hP hI, e1, c_isRest hP hI hj]); (repeat (first | rw [if_pos (by omega)] | rw [if_neg (by omega)])); (try simp only [f_X6_restsAtBars_43, f_X6_restsAtBars_73, f_X6_restsAtBars_74]); (try simp (disch := omega) only [pl0, pl1, pl2, pl3, pl4, pl5, pl6, pl7, pl8, pl9, pl10, pl11, pl12, pl16, pl19, lit_nI, iI_add, iI_sub, iI_mul, iI_neg, iI_le, iI_lt, iI_eq, iI_max, iI_min, Option.bind_some, Option.bind_eq_bind, if_true, if_false, c_barAt hP hI, b2, b6, b5, b8, sm_1, hv, c_soundAt hP hI, e1, c_isRest hP hI hj]); (repeat (first | rw [if_pos (by omega)] | rw [if_neg (by omega)])); (try rfl))
      · rw [if_neg hd] at hv
        (simp (disch := omega) only [pl0, pl1, pl2, pl3, pl4, pl5, pl6, pl7, pl8, pl9, pl10, pl11, pl12, pl16, pl19, lit_nI, iI_add, iI_sub, iI_mul, iI_neg, iI_le, iI_lt, iI_eq, iI_max, iI_min, Option.bind_some, Option.bind_eq_bind, if_true, if_false, c_barAt hP hI, b2, b6, b5, b8, sm_1, hv, c_soundAt hP hI, e1, c_isRest hP hI hj]; (repeat (first | rw [if_pos (by omega)] | rw [if_neg (by omega)])); (try simp only [f_X6_restsAtBars_43, f_X6_restsAtBars_73, f_X6_restsAtBars_74]); (try simp (disch := omega) only [pl0, pl1, pl2, pl3, pl4, pl5, pl6, pl7, pl8, pl9, pl10, pl11, pl12, pl16, pl19, lit_nI, iI_add, iI_sub, iI_mul, iI_neg, iI_le, iI_lt, iI_eq, iI_max, iI_min, Option.bind_some, Option.bind_eq_bind, if_true, if_false, c_barAt hP hI, b2, b6, b5, b8, sm_1, hv, c_soundAt hP hI, e1, c_isRest hP hI hj]); (repeat (first | rw [if_pos (by omega)] | rw [if_neg (by omega)])); (try simp only [f_X6_restsAtBars_43, f_X6_restsAtBars_73, f_X6_restsAtBars_74]); (try simp (disch := omega) only [pl0, pl1, pl2, pl3, pl4, pl5, pl6, pl7, pl8, pl9, pl10, pl11, pl12, pl16, pl19, lit_nI, iI_add, iI_sub, iI_mul, iI_neg, iI_le, iI_lt, iI_eq, iI_max, iI_min, Option.bind_some, Option.bind_eq_bind, if_true, if_false, c_barAt hP hI, b2, b6, b5, b8, sm_1, hv, c_soundAt hP hI, e1, c_isRest hP hI hj]); (repeat (first | rw [if_pos (by omega)] | rw [if_neg (by omega)])); (try simp only [f_X6_restsAtBars_43, f_X6_restsAtBars_73, f_X6_restsAtBars_74]); (try simp (disch := omega) only [pl0, pl1, pl2, pl3, pl4, pl5, pl6, pl7, pl8, pl9, pl10, pl11, pl12, pl16, pl19, lit_nI, iI_add, iI_sub, iI_mul, iI_neg, iI_le, iI_lt, iI_eq, iI_max, iI_min, Option.bind_some, Option.bind_eq_bind, if_true, if_false, c_barAt hP hI, b2, b6, b5, b8, sm_1, hv, c_soundAt hP hI, e1, c_isRest hP hI hj]); (repeat (first | rw [if_pos (by omega)] | rw [if_neg (by omega)])); (try simp only [f_X6_restsAtBars_43, f_X6_restsAtBars_73, f_X6_restsAtBars_74]); (try simp (disch := omega) only [pl0, pl1, pl2, pl3, pl4, pl5, pl6, pl7, pl8, pl9, pl10, pl11, pl12, pl16, pl19, lit_nI, iI_add, iI_sub, iI_mul, iI_neg, iI_le, iI_lt, iI_eq, iI_max, iI_min, Option.bind_some, Option.bind_eq_bind, if_true, if_false, c_barAt hP hI, b2, b6, b5, b8, sm_1, hv, c_soundAt hP hI, e1, c_isRest hP hI hj]); (repeat (first | rw [if_pos (by omega)] | rw [if_neg (by omega)])); (try rfl))
  · simp (disch := omega) only [pl0, pl1, pl2, pl3, pl4, pl5, pl6, pl7, pl8, pl9, pl10, pl11, pl12, pl16, pl19, lit_nI, iI_add, iI_sub, iI_mul, iI_neg, iI_le, iI_lt, iI_eq, iI_max, iI_min, Option.bind_some, Option.bind_eq_bind, if_true, if_false]
    (repeat (first | rw [if_pos (by omega)] | rw [if_neg (by omega)]))
/-- the most parts that a sound may have -/
def mp (s : Nat → Int32) (j : Nat) : Int := if ht s j < 0 then 1 else 2
/-- parts so far of the sound of the last beat, and what is counted -/
def px (s : Nat → Int32) (x : Nat) : Int := if nj s x = 0 then 0 else bat s ((x : Int) - 1) - bat s (bS s (nj s x - 1)) + 1
def cx (s : Nat → Int32) (x : Nat) : Int := if nj s x = 0 then 0 else sm (v4 s) (nj s x - 1) + (if mp s (nj s x - 1) < px s x then 1 else 0)
theorem px_pj (hI : Inv s) {k x : Nat} (hk : k < ns s) (h1 : nj s x = k + 1) (h2 : bS s (k + 1) = x) : px s x = pj s k := by
  unfold px
  rw [if_neg (by omega), pj_eq hI hk, h1, h2, Nat.add_sub_cancel]
theorem cx_full (hI : Inv s) {k x : Nat} (hk : k ≤ ns s) (h1 : nj s x = k) (h2 : bS s k = x) : cx s x = sm (v4 s) k := by
  unfold cx
  cases k with
  | zero => rw [if_pos h1]; rfl
  | succ k =>
    rw [if_neg (by omega), px_pj hI (by omega) h1 h2, h1, Nat.add_sub_cancel, sm_1]
    rfl
theorem cx_r (hI : Inv s) {x : Nat} (hx : nj s x ≤ ns s) : 0 ≤ cx s x ∧ cx s x ≤ 16 := by
  have h16 := hI.ns16
  have h1 := sm_ge (f := v4 s) (n := nj s x - 1) (a := 0) (fun i _ => by have := i01 (c := (if ht s i < 0 then 1 else 2) < pj s i); unfold v4; omega)
  have h2 := sm_le (f := v4 s) (n := nj s x - 1) (a := 1) (fun i _ => by have := i01 (c := (if ht s i < 0 then 1 else 2) < pj s i); unfold v4; omega)
  have h3 := i01 (c := mp s (nj s x - 1) < px s x)
  unfold cx
  by_cases h : nj s x = 0
  · rw [if_pos h]; omega
  · rw [if_neg h]; omega
theorem px_r (hI : Inv s) (x : Nat) : -7 ≤ px s x ∧ px s x ≤ 8 := by
  have h6 := hI.nb6
  have h1 := bat_r hI ((x : Int) - 1)
  have h2 := bat_r hI (bS s (nj s x - 1))
  unfold px
  by_cases h : nj s x = 0
  · rw [if_pos h]; omega
  · rw [if_neg h]; omega
theorem c_mp (hP : Pr G 0 s) (hI : Inv s) {j : Nat} (hj : j < ns s) : ((f_X5_isRest G (iI j)).bind fun r1 => f_X6_mostParts G r1) = some (iI (mp s j)) := by
  unfold f_X6_mostParts mp
  by_cases h : ht s j < 0 <;> (simp (disch := omega) only [pl0, pl1, pl2, pl3, pl4, pl5, pl6, pl7, pl8, pl9, pl10, pl11, pl12, pl16, pl19, lit_nI, iI_add, iI_sub, iI_mul, iI_neg, iI_le, iI_lt, iI_eq, iI_max, iI_min, Option.bind_some, Option.bind_eq_bind, if_true, if_false, c_isRest hP hI hj]; (repeat (first | rw [if_pos (by omega)] | rw [if_neg (by omega)])); (try simp (disch := omega) only [pl0, pl1, pl2, pl3, pl4, pl5, pl6, pl7, pl8, pl9, pl10, pl11, pl12, pl16, pl19, lit_nI, iI_add, iI_sub, iI_mul, iI_neg, iI_le, iI_lt, iI_eq, iI_max, iI_min, Option.bind_some, Option.bind_eq_bind, if_true, if_false]); (repeat (first | rw [if_pos (by omega)] | rw [if_neg (by omega)])); (try rfl))
theorem c_tiesByBeats (hP : Pr G 0 s) (hI : Inv s) : f_X6_tiesByBeats G = some (iI (sm (v4 s) (ns s))) := by
  have h16 := hI.ns16
  have h6 := hI.nb6
  have hz := hI.bSr (j := ns s) (by omega)
  have hf := hI.full
  obtain ⟨E, hE⟩ : ∃ E : Nat, (E : Int) = bS s (ns s) := ⟨(bS s (ns s)).toNat, by omega⟩
  rw [← cx_full hI (Nat.le_refl _) (nj_end hI hE) hE.symm]
  unfold f_X6_tiesByBeats f_X6_tiesByBeats_15
  rw [c_filledBeats hP hI, Option.bind_some, ← hE]
  refine lq3_fr (X1 := fun x => iI (cx s x)) (X2 := fun x => iI (px s x)) (X3 := fun x => iI x) E _ rfl rfl rfl (fun k x hx => ?_) (fun k => ?_) (by omega)
  · obtain ⟨j, hj, e1, h1, h2, e2, hc⟩ := sat_adj hI (x := x) (by omega)
    obtain ⟨b, b1, b2, b3, b4, b5, hb⟩ := bat_adj hI (x := x) (by omega)
    have hm := c_mp hP hI hj
    have hmr : 1 ≤ mp s j ∧ mp s j ≤ 2 := by
      unfold mp
      by_cases h : ht s j < 0
      · rw [if_pos h]; omega
      · rw [if_neg h]; omega
    have p1 := px_r hI x
    have p2 := cx_r hI (x := x) (by omega)
    have ex : ((x + 1 : Nat) : Int) - 1 = x := by omega
    have hpx : px s (x + 1) = bat s x - bat s (bS s j) + 1 := by
      unfold px
      rw [if_neg (by omega), e2, Nat.add_sub_cancel, ex]
    have hcx : cx s (x + 1) = sm (v4 s) j + (if mp s j < px s (x + 1) then 1 else 0) := by
      unfold cx
      rw [if_neg (by omega), e2, Nat.add_sub_cancel]
    rcases hc with ⟨e3, h3, e4⟩ | ⟨e3, h3, e4⟩
    · have hp0 : px s x = bat s ((x : Int) - 1) - bat s (bS s j) + 1 := by
        unfold px
        rw [if_neg (by omega), e4, Nat.add_sub_cancel]
      have hc0 : cx s x = sm (v4 s) j + (if mp s j < px s x then 1 else 0) := by
        unfold cx
        rw [if_neg (by omega), e4, Nat.add_sub_cancel]
      rcases hb with ⟨b6, b7, b8⟩ | ⟨b6, b7, b8⟩
      · have q1 : px s (x + 1) = px s x := by omega
        have q2 : cx s (x + 1) = cx s x := by rw [hcx, hc0, q1]
        (simp (disch := omega) only [pl0, pl1, pl2, pl3, pl4, pl5, pl6, pl7, pl8, pl9, pl10, pl11, pl12, pl16, pl19, lit_nI, iI_add, iI_sub, iI_mul, iI_neg, iI_le, iI_lt, iI_eq, iI_max, iI_min, Option.bind_some, Option.bind_eq_bind, if_true, if_false, c_soundAt hP hI, e1, e3, c_barAt hP hI, b2, b6, q1, q2]; (repeat (first | rw [if_pos (by omega)] | rw [if_neg (by omega)])); (try simp only [f_X6_tiesByBeats_53, f_X6_tiesByBeats_125]); (try simp (disch := omega) only [pl0, pl1, pl2, pl3, pl4, pl5, pl6, pl7, pl8, pl9, pl10, pl11, pl12, pl16, pl19, lit_nI, iI_add, iI_sub, iI_mul, iI_neg, iI_le, iI_lt, iI_eq, iI_max, iI_min, Option.bind_some, Option.bind_eq_bind, if_true, if_false, c_soundAt hP hI, e1, e3, c_barAt hP hI, b2, b6, q1, q2]); (repeat (first | rw [if_pos (by omega)] | rw [if_neg (by omega)])); (try simp only [f_X6_tiesByBeats_53, f_X6_tiesByBeats_125]); (try simp (disch := omega) only [pl0, pl1, pl2, pl3, pl4, pl5, pl6, pl7, pl8, pl9, pl10, pl11, pl12, pl16, pl19, lit_nI, iI_add, iI_sub, iI_mul, iI_neg, iI_le, iI_lt, iI_eq, iI_max, iI_min, Option.bind_some, Option.bind_eq_bind, if_true, if_false, c_soundAt hP hI, e1, e3, c_barAt hP hI, b2, b6, q1, q2]); (repeat (first | rw [if_pos (by omega)] | rw [if_neg (by omega)])); (try simp only [f_X6_tiesByBeats_53, f_X6_tiesByBeats_125]); (try simp (disch := omega) only [pl0, pl1, pl2, pl3, pl4, pl5, pl6, pl7, pl8, pl9, pl10, pl11, pl12, pl16, pl19, lit_nI, iI_add, iI_sub, iI_mul, iI_neg, iI_le, iI_lt, iI_eq, iI_max, iI_min, Option.bind_some, Option.bind_eq_bind, if_true, if_false, c_soundAt hP hI, e1, e3, c_barAt hP hI, b2, b6, q1, q2]); (repeat (first | rw [if_pos (by omega)] | rw [if_neg (by omega)])); (try simp only [f_X6_tiesByBeats_53, f_X6_tiesByBeats_125]); (try simp (disch := omega) only [pl0, pl1, pl2, pl3, pl4, pl5, pl6, pl7, pl8, pl9, pl10, pl11, pl12, pl16, pl19, lit_nI, iI_add, iI_sub, iI_mul, iI_neg, iI_le, iI_lt, iI_eq, iI_max, iI_min, Option.bind_some, Option.bind_eq_bind, if_true, if_false, c_soundAt hP hI, e1, e3, c_barAt hP hI, b2, b6, q1, q2]); (repeat (first | rw [if_pos (by omega)] | rw [if_neg (by omega)])); (try rfl))
      · have q1 : px s (x + 1) = px s x + 1 := by omega
        rw [q1] at hcx
        by_cases c1 : px s x = mp s j
        · have q2 : cx s (x + 1) = cx s x + 1 := by
            rw [hcx, hc0, if_pos (by omega), if_neg (by omega)]
            omega
          by_cases hd : ht s j < 0
          · have hm2 : mp s j = 1 := if_pos hd
            (simp (disch := omega) only [pl0, pl1, pl2, pl3, pl4, pl5, pl6, pl7, pl8, pl9, pl10, pl11, pl12, pl16, pl19, lit_nI, iI_add, iI_sub, iI_mul, iI_neg, iI_le, iI_lt, iI_eq, iI_max, iI_min, Option.bind_some, Option.bind_eq_bind, if_true, if_false, c_soundAt hP hI, e1, e3, c_barAt hP hI, b2, b6, q1, q2, c_isRest hP hI hj]; (repeat (first | rw [if_pos (by omega)] | rw [if_neg (by omega)])); (try simp only [f_X6_tiesByBeats_53, f_X6_tiesByBeats_86, f_X6_tiesByBeats_98, f_X6_mostParts, f_X6_tiesByBeats_123, f_X6_tiesByBeats_125]); (try simp (disch := omega) only [pl0, pl1, pl2, pl3, pl4, pl5, pl6, pl7, pl8, pl9, pl10, pl11, pl12, pl16, pl19, lit_nI, iI_add, iI_sub, iI_mul, iI_neg, iI_le, iI_lt, iI_eq, iI_max, iI_min, Option.bind_some, Option.bind_eq_bind, if_true, if_false, c_soundAt hP hI, e1, e3, c_barAt hP hI, b2, b6, q1, q2, c_isRest hP hI hj]); (repeat (first | rw [if_pos (by omega)] | rw [if_neg (by omega)])); (try simp only [f_X6_tiesByBeats_53, f_X6_tiesByBeats_86, f_X6_tiesByBeats_98, f_X6_mostParts, f_X6_tiesByBeats_123, f_X6_tiesByBeats_125]); (try simp (disch := omega) only [pl0, pl1, pl2, pl3, pl4, pl5, pl6, pl7, pl8, pl9, pl10, pl11, pl12, pl16, pl19, lit_nI, iI_add, iI_sub, iI_mul, iI_neg, iI_le, iI_lt, iI_eq, iI_max, iI_min, Option.bind_some, Option.bind_eq_bind, if_true, if_false, c_soundAt hP hI, e1, e3, c_barAt hP hI, b2, b6, q1, q2, c_isRest hP hI hj]); (repeat (first | rw [if_pos (by omega)] | rw [if_neg (by omega)])); (try simp only [f_X6_tiesByBeats_53, f_X6_tiesByBeats_86, f_X6_tiesByBeats_98, f_X6_mostParts, f_X6_tiesByBeats_123, f_X6_tiesByBeats_125]); (try simp (disch := omega) only [pl0, pl1, pl2, pl3, pl4, pl5, pl6, pl7, pl8, pl9, pl10, pl11, pl12, pl16, pl19, lit_nI, iI_add, iI_sub, iI_mul, iI_neg, iI_le, iI_lt, iI_eq, iI_max, iI_min, Option.bind_some, Option.bind_eq_bind, if_true, if_false, c_soundAt hP hI, e1, e3, c_barAt hP hI, b2, b6, q1, q2, c_isRest hP hI hj]); (repeat (first | rw [if_pos (by omega)] | rw [if_neg (by omega)])); (try simp only [f_X6_tiesByBeats_53, f_X6_tiesByBeats_86, f_X6_tiesByBeats_98, f_X6_mostParts, f_X6_tiesByBeats_123, f_X6_tiesByBeats_125]); (try simp (disch := omega) only [pl0, pl1, pl2, pl3, pl4, pl5, pl6, pl7, pl8, pl9, pl10, pl11, pl12, pl16, pl19, lit_nI, iI_add, iI_sub, iI_mul, iI_neg, iI_le, iI_lt, iI_eq, iI_max, iI_min, Option.bind_some, Option.bind_eq_bind, if_true, if_false, c_soundAt hP hI, e1, e3, c_barAt hP hI, b2, b6, q1, q2, c_isRest hP hI hj]); (repeat (first | rw [if_pos (by omega)] | rw [if_neg (by omega)])); (try rfl))
          · have hm2 : mp s j = 2 := if_neg hd
            (simp (disch := omega) only [pl0, pl1, pl2, pl3, pl4, pl5, pl6, pl7, pl8, pl9, pl10, pl11, pl12, pl16, pl19, lit_nI, iI_add, iI_sub, iI_mul, iI_neg, iI_le, iI_lt, iI_eq, iI_max, iI_min, Option.bind_some, Option.bind_eq_bind, if_true, if_false, c_soundAt hP hI, e1, e3, c_barAt hP hI, b2, b6, q1, q2, c_isRest hP hI hj]; (repeat (first | rw [if_pos (by omega)] | rw [if_neg (by omega)])); (try simp only [f_X6_tiesByBeats_53, f_X6_tiesByBeats_86, f_X6_tiesByBeats_98, f_X6_mostParts, f_X6_tiesByBeats_123, f_X6_tiesByBeats_125]); (try simp (disch := omega) only [pl0, pl1, pl2, pl3, pl4, pl5, pl6, pl7, pl8, pl9, pl10, pl11, pl12, pl16, pl19, lit_nI, iI_add, iI_sub, iI_mul, iI_neg, iI_le, iI_lt, iI_eq, iI_max, iI_min, Option.bind_some, Option.bind_eq_bind, if_true, if_false, c_soundAt hP hI, e1, e3, c_barAt hP hI, b2, b6, q1, q2, c_isRest hP hI hj]); (repeat (first | rw [if_pos (by omega)] | rw [if_neg (by omega)])); (try simp only [f_X6_tiesByBeats_53, f_X6_tiesByBeats_86, f_X6_tiesByBeats_98, f_X6_mostParts, f_X6_tiesByBeats_123, f_X6_tiesByBeats_125]); (try simp (disch := omega) only [pl0, pl1, pl2, pl3, pl4, pl5, pl6, pl7, pl8, pl9, pl10, pl11, pl12, pl16, pl19, lit_nI, iI_add, iI_sub, iI_mul, iI_neg, iI_le, iI_lt, iI_eq, iI_max, iI_min, Option.bind_some, Option.bind_eq_bind, if_true, if_false, c_soundAt hP hI, e1, e3, c_barAt hP hI, b2, b6, q1, q2, c_isRest hP hI hj]); (repeat (first | rw [if_pos (by omega)] | rw [if_neg (by omega)])); (try simp only [f_X6_tiesByBeats_53, f_X6_tiesByBeats_86, f_X6_tiesByBeats_98, f_X6_mostParts, f_X6_tiesByBeats_123, f_X6_tiesByBeats_125]); (try simp (disch := omega) only [pl0, pl1, pl2, pl3, pl4, pl5, pl6, pl7, pl8, pl9, pl10, pl11, pl12, pl16, pl19, lit_nI, iI_add, iI_sub, iI_mul, iI_neg, iI_le, iI_lt, iI_eq, iI_max, iI_min, Option.bind_some, Option.bind_eq_bind, if_true, if_false, c_soundAt hP hI, e1, e3, c_barAt hP hI, b2, b6, q1, q2, c_isRest hP hI hj]); (repeat (first | rw [if_pos (by omega)] | rw [if_neg (by omega)])); (try simp only [f_X6_tiesByBeats_53, f_X6_tiesByBeats_86, f_X6_tiesByBeats_98, f_X6_mostParts, f_X6_tiesByBeats_123, f_X6_tiesByBeats_125]); (try simp (disch := omega) only [pl0, pl1, pl2, pl3, pl4, pl5, pl6, pl7, pl8, pl9, pl10, pl11, pl12, pl16, pl19, lit_nI, iI_add, iI_sub, iI_mul, iI_neg, iI_le, iI_lt, iI_eq, iI_max, iI_min, Option.bind_some, Option.bind_eq_bind, if_true, if_false, c_soundAt hP hI, e1, e3, c_barAt hP hI, b2, b6, q1, q2, c_isRest hP hI hj]); (repeat (first | rw [if_pos (by omega)] | rw [if_neg (by omega)])); (try rfl))
        · have q2 : cx s (x + 1) = cx s x + 0 := by
            rw [hcx, hc0]
            by_cases c2 : mp s j < px s x
            · rw [if_pos (by omega), if_pos (by omega)]; omega
            · rw [if_neg (by omega), if_neg (by omega)]; omega
          by_cases hd : ht s j < 0
          · have hm2 : mp s j = 1 := if_pos hd
            (simp (disch := omega) only [pl0, pl1, pl2, pl3, pl4, pl5, pl6, pl7, pl8, pl9, pl10, pl11, pl12, pl16, pl19, lit_nI, iI_add, iI_sub, iI_mul, iI_neg, iI_le, iI_lt, iI_eq, iI_max, iI_min, Option.bind_some, Option.bind_eq_bind, if_true, if_false, c_soundAt hP hI, e1, e3, c_barAt hP hI, b2, b6, q1, q2, c_isRest hP hI hj]; (repeat (first | rw [if_pos (by omega)] | rw [if_neg (by omega)])); (try simp only [f_X6_tiesByBeats_53, f_X6_tiesByBeats_86, f_X6_tiesByBeats_98, f_X6_mostParts, f_X6_tiesByBeats_123, f_X6_tiesByBeats_125]); (try simp (disch := omega) only [pl0, pl1, pl2, pl3, pl4, pl5, pl6, pl7, pl8, pl9, pl10, pl11, pl12, pl16, pl19, lit_nI, iI_add, iI_sub, iI_mul, iI_neg, iI_le, iI_lt, iI_eq, iI_max, iI_min, Option.bind_some, Option.bind_eq_bind, if_true, if_false, c_soundAt hP hI, e1, e3, c_barAt hP hI, b2, b6, q1, q2, c_isRest hP hI hj]); (repeat (first | rw [if_pos (by omega)] | rw [if_neg (by omega)])); (try simp only [f_X6_tiesByBeats_53, f_X6_tiesByBeats_86, f_X6_tiesByBeats_98, f_X6_mostParts, f_X6_tiesByBeats_123, f_X6_tiesByBeats_125]); (try simp (disch := omega) only [pl0, pl1, pl2, pl3, pl4, pl5, pl6, pl7, pl8, pl9, pl10, pl11, pl12, pl16, pl19, lit_nI, iI_add, iI_sub, iI_mul, iI_neg, iI_le, iI_lt, iI_eq, iI_max, iI_min, Option.bind_some, Option.bind_eq_bind, if_true, if_false, c_soundAt hP hI, e1, e3, c_barAt hP hI, b2, b6, q1, q2, c_isRest hP hI hj]); (repeat (first | rw [if_pos (by omega)] | rw [if_neg (by omega)])); (try simp only [f_X6_tiesByBeats_53, f_X6_tiesByBeats_86, f_X6_tiesByBeats_98, f_X6_mostParts, f_X6_tiesByBeats_123, f_X6_tiesByBeats_125]); (try simp (disch := omega) only [pl0, pl1, pl2, pl3, pl4, pl5, pl6, pl7, pl8, pl9, pl10, pl11, pl12, pl16, pl19, lit_nI, iI_add, iI_sub, iI_mul, iI_neg, iI_le, iI_lt, iI_eq, iI_max, iI_min, Option.bind_some, Option.bind_eq_bind, if_true, if_false, c_soundAt hP hI, e1, e3, c_barAt hP hI, b2, b6, q1, q2, c_isRest hP hI hj]); (repeat (first | rw [if_pos (by omega)] | rw [if_neg (by omega)])); (try simp only [f_X6_tiesByBeats_53, f_X6_tiesByBeats_86, f_X6_tiesByBeats_98, f_X6_mostParts, f_X6_tiesByBeats_123, f_X6_tiesByBeats_125]); (try simp (disch := omega) only [pl0, pl1, pl2, pl3, pl4, pl5, pl6, pl7, pl8, pl9, pl10, pl11, pl12, pl16, pl19, lit_nI, iI_add, iI_sub, iI_mul, iI_neg, iI_le, iI_lt, iI_eq, iI_max, iI_min, Option.bind_some, Option.bind_eq_bind, if_true, if_false, c_soundAt hP hI, e1, e3, c_barAt hP hI, b2, b6, q1, q2, c_isRest hP hI hj]); (repeat (first | rw [if_pos (by omega)] | rw [if_neg (by omega)])); (try rfl))
          · have hm2 : mp s j = 2 := if_neg hd
            (simp (disch := omega) only [pl0, pl1, pl2, pl3, pl4, pl5, pl6, pl7, pl8, pl9, pl10, pl11, pl12, pl16, pl19, lit_nI, iI_add, iI_sub, iI_mul, iI_neg, iI_le, iI_lt, iI_eq, iI_max, iI_min, Option.bind_some, Option.bind_eq_bind, if_true, if_false, c_soundAt hP hI, e1, e3, c_barAt hP hI, b2, b6, q1, q2, c_isRest hP hI hj]; (repeat (first | rw [if_pos (by omega)] | rw [if_neg (by omega)])); (try simp only [f_X6_tiesByBeats_53, f_X6_tiesByBeats_86, f_X6_tiesByBeats_98, f_X6_mostParts, f_X6_tiesByBeats_123, f_X6_tiesByBeats_125]); (try simp (disch := omega) only [pl0, pl1, pl2, pl3, pl4, pl5, pl6, pl7, pl8, pl9, pl10, pl11, pl12, pl16, pl19, lit_nI, iI_add, iI_sub, iI_mul, iI_neg, iI_le, iI_lt, iI_eq, iI_max, iI_min, Option.bind_some, Option.bind_eq_bind, if_true, if_false, c_soundAt hP hI, e1, e3, c_barAt hP hI, b2, b6, q1, q2, c_isRest hP hI hj]); (repeat (first | rw [if_pos (by omega)] | rw [if_neg (by omega)])); (try simp only [f_X6_tiesByBeats_53, f_X6_tiesByBeats_86, f_X6_tiesByBeats_98, f_X6_mostParts, f_X6_tiesByBeats_123, f_X6_tiesByBeats_125]); (try simp (disch := omega) only [pl0, pl1, pl2, pl3, pl4, pl5, pl6, pl7, pl8, pl9, pl10, pl11, pl12, pl16, pl19, lit_nI, iI_add, iI_sub, iI_mul, iI_neg, iI_le, iI_lt, iI_eq, iI_max, iI_min, Option.bind_some, Option.bind_eq_bind, if_true, if_false, c_soundAt hP hI, e1, e3, c_barAt hP hI, b2, b6, q1, q2, c_isRest hP hI hj]); (repeat (first | rw [if_pos (by omega)] | rw [if_neg (by omega)])); (try simp only [f_X6_tiesByBeats_53, f_X6_tiesByBeats_86, f_X6_tiesByBeats_98, f_X6_mostParts, f_X6_tiesByBeats_123, f_X6_tiesByBeats_125]); (try simp (disch := omega) only [pl0, pl1, pl2, pl3, pl4, pl5, pl6, pl7, pl8, pl9, pl10, pl11, pl12, pl16, pl19, lit_nI, iI_add, iI_sub, iI_mul, iI_neg, iI_le, iI_lt, iI_eq, iI_max, iI_min, Option.bind_some, Option.bind_eq_bind, if_true, if_false, c_soundAt hP hI, e1, e3, c_barAt hP hI, b2, b6, q1, q2, c_isRest hP hI hj]); (repeat (first | rw [if_pos (by omega)] | rw [if_neg (by omega)])); (try simp only [f_X6_tiesByBeats_53, f_X6_tiesByBeats_86, f_X6_tiesByBeats_98, f_X6_mostParts, f_X6_tiesByBeats_123, f_X6_tiesByBeats_125]); (try simp (disch := omega) only [pl0, pl1, pl2, pl3, pl4, pl5, pl6, pl7, pl8, pl9, pl10, pl11, pl12, pl16, pl19, lit_nI, iI_add, iI_sub, iI_mul, iI_neg, iI_le, iI_lt, iI_eq, iI_max, iI_min, Option.bind_some, Option.bind_eq_bind, if_true, if_false, c_soundAt hP hI, e1, e3, c_barAt hP hI, b2, b6, q1, q2, c_isRest hP hI hj]); (repeat (first | rw [if_pos (by omega)] | rw [if_neg (by omega)])); (try rfl))
    · have hc0 : cx s x = sm (v4 s) j := cx_full hI (by omega) e4 h3
      have q1 : px s (x + 1) = 1 := by
        rw [hpx, h3]; omega
      have q2 : cx s (x + 1) = cx s x + 0 := by
        rw [hcx, hc0, if_neg (by omega)]
      by_cases hd : ht s j < 0
      · have hm2 : mp s j = 1 := if_pos hd
        (simp (disch := omega) only [pl0, pl1, pl2, pl3, pl4, pl5, pl6, pl7, pl8, pl9, pl10, pl11, pl12, pl16, pl19, lit_nI, iI_add, iI_sub, iI_mul, iI_neg, iI_le, iI_lt, iI_eq, iI_max, iI_min, Option.bind_some, Option.bind_eq_bind, if_true, if_false, c_soundAt hP hI, e1, e3, q1, q2, c_isRest hP hI hj]; (repeat (first | rw [if_pos (by omega)] | rw [if_neg (by omega)])); (try simp only [f_X6_tiesByBeats_53, f_X6_tiesByBeats_86, f_X6_tiesByBeats_98, f_X6_mostParts, f_X6_tiesByBeats_123, f_X6_tiesByBeats_125]); (try simp (disch := omega) only [pl0, pl1, pl2, pl3, pl4, pl5, pl6, pl7, pl8, pl9, pl10, pl11, pl12, pl16, pl19, lit_nI, iI_add, iI_sub, iI_mul, iI_neg, iI_le, iI_lt, iI_eq, iI_max, iI_min, Option.bind_some, Option.bind_eq_bind, if_true, if_false, c_soundAt hP hI, e1, e3, q1, q2, c_isRest hP hI hj]); (repeat (first | rw [if_pos (by omega)] | rw [if_neg (by omega)])); (try simp only [f_X6_tiesByBeats_53, f_X6_tiesByBeats_86, f_X6_tiesByBeats_98, f_X6_mostParts, f_X6_tiesByBeats_123, f_X6_tiesByBeats_125]); (try simp (disch := omega) only [pl0, pl1, pl2, pl3, pl4, pl5, pl6, pl7, pl8, pl9, pl10, pl11, pl12, pl16, pl19, lit_nI, iI_add, iI_sub, iI_mul, iI_neg, iI_le, iI_lt, iI_eq, iI_max, iI_min, Option.bind_some, Option.bind_eq_bind, if_true, if_false, c_soundAt hP hI, e1, e3, q1, q2, c_isRest hP hI hj]); (repeat (first | rw [if_pos (by omega)] | rw [if_neg (by omega)])); (try simp only [f_X6_tiesByBeats_53, f_X6_tiesByBeats_86, f_X6_tiesByBeats_98, f_X6_mostParts, f_X6_tiesByBeats_123, f_X6_tiesByBeats_125]); (try simp (disch := omega) only [pl0, pl1, pl2, pl3, pl4, pl5, pl6, pl7, pl8, pl9, pl10, pl11, pl12, pl16, pl19, lit_nI, iI_add, iI_sub, iI_mul, iI_neg, iI_le, iI_lt, iI_eq, iI_max, iI_min, Option.bind_some, Option.bind_eq_bind, if_true, if_false, c_soundAt hP hI, e1, e3, q1, q2, c_isRest hP hI hj]); (repeat (first | rw [if_pos (by omega)] | rw [if_neg (by omega)])); (try simp only [f_X6_tiesByBeats_53, f_X6_tiesByBeats_86, f_X6_tiesByBeats_98, f_X6_mostParts, f_X6_tiesByBeats_123, f_X6_tiesByBeats_125]); (try simp (disch := omega) only [pl0, pl1, pl2, pl3, pl4, pl5, pl6, pl7, pl8, pl9, pl10, pl11, pl12, pl16, pl19, lit_nI, iI_add, iI_sub, iI_mul, iI_neg, iI_le, iI_lt, iI_eq, iI_max, iI_min, Option.bind_some, Option.bind_eq_bind, if_true, if_false, c_soundAt hP hI, e1, e3, q1, q2, c_isRest hP hI hj]); (repeat (first | rw [if_pos (by omega)] | rw [if_neg (by omega)])); (try rfl))
      · have hm2 : mp s j = 2 := if_neg hd
        (simp (disch := omega) only [pl0, pl1, pl2, pl3, pl4, pl5, pl6, pl7, pl8, pl9, pl10, pl11, pl12, pl16, pl19, lit_nI, iI_add, iI_sub, iI_mul, iI_neg, iI_le, iI_lt, iI_eq, iI_max, iI_min, Option.bind_some, Option.bind_eq_bind, if_true, if_false, c_soundAt hP hI, e1, e3, q1, q2, c_isRest hP hI hj]; (repeat (first | rw [if_pos (by omega)] | rw [if_neg (by omega)])); (try simp only [f_X6_tiesByBeats_53, f_X6_tiesByBeats_86, f_X6_tiesByBeats_98, f_X6_mostParts, f_X6_tiesByBeats_123, f_X6_tiesByBeats_125]); (try simp (disch := omega) only [pl0, pl1, pl2, pl3, pl4, pl5, pl6, pl7, pl8, pl9, pl10, pl11, pl12, pl16, pl19, lit_nI, iI_add, iI_sub, iI_mul, iI_neg, iI_le, iI_lt, iI_eq, iI_max, iI_min, Option.bind_some, Option.bind_eq_bind, if_true, if_false, c_soundAt hP hI, e1, e3, q1, q2, c_isRest hP hI hj]); (repeat (first | rw [if_pos (by omega)] | rw [if_neg (by omega)])); (try simp only [f_X6_tiesByBeats_53, f_X6_tiesByBeats_86, f_X6_tiesByBeats_98, f_X6_mostParts, f_X6_tiesByBeats_123, f_X6_tiesByBeats_125]); (try simp (disch := omega) only [pl0, pl1, pl2, pl3, pl4, pl5, pl6, pl7, pl8, pl9, pl10, pl11, pl12, pl16, pl19, lit_nI, iI_add, iI_sub, iI_mul, iI_neg, iI_le, iI_lt, iI_eq, iI_max, iI_min, Option.bind_some, Option.bind_eq_bind, if_true, if_false, c_soundAt hP hI, e1, e3, q1, q2, c_isRest hP hI hj]); (repeat (first | rw [if_pos (by omega)] | rw [if_neg (by omega)])); (try simp only [f_X6_tiesByBeats_53, f_X6_tiesByBeats_86, f_X6_tiesByBeats_98, f_X6_mostParts, f_X6_tiesByBeats_123, f_X6_tiesByBeats_125]); (try simp (disch := omega) only [pl0, pl1, pl2, pl3, pl4, pl5, pl6, pl7, pl8, pl9, pl10, pl11, pl12, pl16, pl19, lit_nI, iI_add, iI_sub, iI_mul, iI_neg, iI_le, iI_lt, iI_eq, iI_max, iI_min, Option.bind_some, Option.bind_eq_bind, if_true, if_false, c_soundAt hP hI, e1, e3, q1, q2, c_isRest hP hI hj]); (repeat (first | rw [if_pos (by omega)] | rw [if_neg (by omega)])); (try simp only [f_X6_tiesByBeats_53, f_X6_tiesByBeats_86, f_X6_tiesByBeats_98, f_X6_mostParts, f_X6_tiesByBeats_123, f_X6_tiesByBeats_125]); (try simp (disch := omega) only [pl0, pl1, pl2, pl3, pl4, pl5, pl6, pl7, pl8, pl9, pl10, pl11, pl12, pl16, pl19, lit_nI, iI_add, iI_sub, iI_mul, iI_neg, iI_le, iI_lt, iI_eq, iI_max, iI_min, Option.bind_some, Option.bind_eq_bind, if_true, if_false, c_soundAt hP hI, e1, e3, q1, q2, c_isRest hP hI hj]); (repeat (first | rw [if_pos (by omega)] | rw [if_neg (by omega)])); (try rfl))
  · simp (disch := omega) only [pl0, pl1, pl2, pl3, pl4, pl5, pl6, pl7, pl8, pl9, pl10, pl11, pl12, pl16, pl19, lit_nI, iI_add, iI_sub, iI_mul, iI_neg, iI_le, iI_lt, iI_eq, iI_max, iI_min, Option.bind_some, Option.bind_eq_bind, if_true, if_false]
    (repeat (first | rw [if_pos (by omega)] | rw [if_neg (by omega)]))
theorem c_countByBeats (hP : Pr G 0 s) (hI : Inv s) {r : Nat} (hr : 1 ≤ r ∧ r ≤ 4) : f_X6_countByBeats G (iI r) = some (iI (fm s r)) := by
  unfold f_X6_countByBeats fm
  obtain rfl | rfl | rfl | rfl : r = 1 ∨ r = 2 ∨ r = 3 ∨ r = 4 := by omega
  · rw [show ((1 : Nat) : Int) = 1 from rfl]
    have e : sm (vv s 1) (pl s 1) = sm (v1 s) (ns s) := rfl
    (simp (disch := omega) only [pl0, pl1, pl2, pl3, pl4, pl5, pl6, pl7, pl8, pl9, pl10, pl11, pl12, pl16, pl19, lit_nI, iI_add, iI_sub, iI_mul, iI_neg, iI_le, iI_lt, iI_eq, iI_max, iI_min, Option.bind_some, Option.bind_eq_bind, if_true, if_false, c_pitchesByBeats1 hP hI, f_X6_countByBeats_20, e]; (repeat (first | rw [if_pos (by omega)] | rw [if_neg (by omega)])); (try simp (disch := omega) only [pl0, pl1, pl2, pl3, pl4, pl5, pl6, pl7, pl8, pl9, pl10, pl11, pl12, pl16, pl19, lit_nI, iI_add, iI_sub, iI_mul, iI_neg, iI_le, iI_lt, iI_eq, iI_max, iI_min, Option.bind_some, Option.bind_eq_bind, if_true, if_false]); (repeat (first | rw [if_pos (by omega)] | rw [if_neg (by omega)])); (try rfl))
  · rw [show ((2 : Nat) : Int) = 2 from rfl]
    have e : sm (vv s 2) (pl s 2) = sm (v2 s) (ns s) := rfl
    (simp (disch := omega) only [pl0, pl1, pl2, pl3, pl4, pl5, pl6, pl7, pl8, pl9, pl10, pl11, pl12, pl16, pl19, lit_nI, iI_add, iI_sub, iI_mul, iI_neg, iI_le, iI_lt, iI_eq, iI_max, iI_min, Option.bind_some, Option.bind_eq_bind, if_true, if_false, c_pitchesByBeats2 hP hI, f_X6_countByBeats_20, e]; (repeat (first | rw [if_pos (by omega)] | rw [if_neg (by omega)])); (try simp (disch := omega) only [pl0, pl1, pl2, pl3, pl4, pl5, pl6, pl7, pl8, pl9, pl10, pl11, pl12, pl16, pl19, lit_nI, iI_add, iI_sub, iI_mul, iI_neg, iI_le, iI_lt, iI_eq, iI_max, iI_min, Option.bind_some, Option.bind_eq_bind, if_true, if_false]); (repeat (first | rw [if_pos (by omega)] | rw [if_neg (by omega)])); (try rfl))
  · rw [show ((3 : Nat) : Int) = 3 from rfl]
    have e : sm (vv s 3) (pl s 3) = sm (v3 s) (nb s) := rfl
    (simp (disch := omega) only [pl0, pl1, pl2, pl3, pl4, pl5, pl6, pl7, pl8, pl9, pl10, pl11, pl12, pl16, pl19, lit_nI, iI_add, iI_sub, iI_mul, iI_neg, iI_le, iI_lt, iI_eq, iI_max, iI_min, Option.bind_some, Option.bind_eq_bind, if_true, if_false, c_restsAtBars hP hI, e]; (repeat (first | rw [if_pos (by omega)] | rw [if_neg (by omega)])); (try simp (disch := omega) only [pl0, pl1, pl2, pl3, pl4, pl5, pl6, pl7, pl8, pl9, pl10, pl11, pl12, pl16, pl19, lit_nI, iI_add, iI_sub, iI_mul, iI_neg, iI_le, iI_lt, iI_eq, iI_max, iI_min, Option.bind_some, Option.bind_eq_bind, if_true, if_false]); (repeat (first | rw [if_pos (by omega)] | rw [if_neg (by omega)])); (try rfl))
  · rw [show ((4 : Nat) : Int) = 4 from rfl]
    have e : sm (vv s 4) (pl s 4) = sm (v4 s) (ns s) := rfl
    (simp (disch := omega) only [pl0, pl1, pl2, pl3, pl4, pl5, pl6, pl7, pl8, pl9, pl10, pl11, pl12, pl16, pl19, lit_nI, iI_add, iI_sub, iI_mul, iI_neg, iI_le, iI_lt, iI_eq, iI_max, iI_min, Option.bind_some, Option.bind_eq_bind, if_true, if_false, c_tiesByBeats hP hI, e]; (repeat (first | rw [if_pos (by omega)] | rw [if_neg (by omega)])); (try simp (disch := omega) only [pl0, pl1, pl2, pl3, pl4, pl5, pl6, pl7, pl8, pl9, pl10, pl11, pl12, pl16, pl19, lit_nI, iI_add, iI_sub, iI_mul, iI_neg, iI_le, iI_lt, iI_eq, iI_max, iI_min, Option.bind_some, Option.bind_eq_bind, if_true, if_false]); (repeat (first | rw [if_pos (by omega)] | rw [if_neg (by omega)])); (try rfl))
theorem c_isToldAlike (hP : Pr G 0 s) (hI : Inv s) : f_X6_isToldAlike G = some (iI 1) := by
  unfold f_X6_isToldAlike f_X6_isToldAlike_2
  refine lq1_for (X1 := fun i => iI ((i + 1 : Nat) : Int)) 4 _ (fun k i hi => ?_) (fun k => ?_) (by omega)
  · have h := fm_r hI (i + 1)
    (simp (disch := omega) only [pl0, pl1, pl2, pl3, pl4, pl5, pl6, pl7, pl8, pl9, pl10, pl11, pl12, pl16, pl19, lit_nI, iI_add, iI_sub, iI_mul, iI_neg, iI_le, iI_lt, iI_eq, iI_max, iI_min, Option.bind_some, Option.bind_eq_bind, if_true, if_false, c_count hP hI (show 1 ≤ i + 1 ∧ i + 1 ≤ 4 by omega), c_countByBeats hP hI (show 1 ≤ i + 1 ∧ i + 1 ≤ 4 by omega)]; (repeat (first | rw [if_pos (by omega)] | rw [if_neg (by omega)])); (try simp (disch := omega) only [pl0, pl1, pl2, pl3, pl4, pl5, pl6, pl7, pl8, pl9, pl10, pl11, pl12, pl16, pl19, lit_nI, iI_add, iI_sub, iI_mul, iI_neg, iI_le, iI_lt, iI_eq, iI_max, iI_min, Option.bind_some, Option.bind_eq_bind, if_true, if_false]); (repeat (first | rw [if_pos (by omega)] | rw [if_neg (by omega)])); (try rfl))
  · simp (disch := omega) only [pl0, pl1, pl2, pl3, pl4, pl5, pl6, pl7, pl8, pl9, pl10, pl11, pl12, pl16, pl19, lit_nI, iI_add, iI_sub, iI_mul, iI_neg, iI_le, iI_lt, iI_eq, iI_max, iI_min, Option.bind_some, Option.bind_eq_bind, if_true, if_false]
    (repeat (first | rw [if_pos (by omega)] | rw [if_neg (by omega)]))
end PH
