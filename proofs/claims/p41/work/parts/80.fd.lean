/-! faults as the rows tell them -/
section FD
variable {G : GT} {s r : Nat → Int32} {S : Nat → Nat → Int32}
theorem ah_s (a : Int32) (n : Nat) (S : Nat → Nat → Int32) (f : Nat) (G : GT) (W : Nat → Int32) (x3 x4 : Int32) : f_L_ahead_19 a n S (f + 1) G W x3 x4 = (if x4 < 0 then some (W, G) else (if (2 : Int32) ≤ x3 then some (W, G) else (if inb x4 n then (if (S (x4.toNatClampNeg) 3) < 0 then f_L_ahead_50 a n S (f_L_ahead_19 a n S f) W x3 x4 G else (if inb x4 n then (if inb x3 2 then ((some (upd W (x3.toNatClampNeg) (S (x4.toNatClampNeg) 3))).bind fun W9 => f_L_ahead_50 a n S (f_L_ahead_19 a n S f) W9 (x3 + 1) x4 G) else none) else none)) else none))) := rfl
/-- the virtual row r over the print s -/
def Vr (s r : Nat → Int32) (S : Nat → Nat → Int32) : Prop := Inv r ∧ ns r = ns s ∧ nb r = nb s ∧ lm r = lm s ∧ (∀ i, i < nb r → sz r i = sz s i) ∧ RW r (ns r) S
theorem L_ah2 (a : Int32) (n : Nat) (W : Nat → Int32) {m : Nat} (hm : m ≤ 16) {f : Nat} (hf : 0 < f) : f_L_ahead_19 a n S f G W (iI 2) (iI ((m : Int) - 1)) = some (W, G) := by
  obtain ⟨f, rfl⟩ : ∃ g, f = g + 1 := ⟨f - 1, by omega⟩
  rw [ah_s]
  by_cases h : (m : Int) - 1 < 0
  · simp (disch := omega) only [pl0, pl1, pl2, pl3, pl4, pl5, pl6, pl7, pl8, pl9, pl10, pl11, pl12, pl16, pl19, lit_nI, iI_add, iI_sub, iI_mul, iI_neg, iI_le, iI_lt, iI_eq, iI_max, iI_min, Option.bind_some, Option.bind_eq_bind, if_true, if_false]
    (repeat (first | rw [if_pos (by omega)] | rw [if_neg (by omega)]))
  · simp (disch := omega) only [pl0, pl1, pl2, pl3, pl4, pl5, pl6, pl7, pl8, pl9, pl10, pl11, pl12, pl16, pl19, lit_nI, iI_add, iI_sub, iI_mul, iI_neg, iI_le, iI_lt, iI_eq, iI_max, iI_min, Option.bind_some, Option.bind_eq_bind, if_true, if_false]
    (repeat (first | rw [if_pos (by omega)] | rw [if_neg (by omega)]))
theorem L_ah1 (hI : Inv r) (hW : RW r (ns r) S) (a : Int32) : ∀ (m : Nat), m ≤ ns r → ∀ (f : Nat), m < f → ∀ W : Nat → Int32, W 1 = iI (-1) → ∃ W', f_L_ahead_19 a (ns r) S f G W (iI 1) (iI ((m : Int) - 1)) = some (W', G) ∧ W' 0 = W 0 ∧ W' 1 = iI (la r m) := by
  have h16 := hI.ns16
  intro m
  induction m with
  | zero =>
    intro _ f hf W h1
    obtain ⟨f, rfl⟩ : ∃ g, f = g + 1 := ⟨f - 1, by omega⟩
    refine ⟨W, ?_, rfl, h1⟩
    rw [ah_s]
    simp (disch := omega) only [pl0, pl1, pl2, pl3, pl4, pl5, pl6, pl7, pl8, pl9, pl10, pl11, pl12, pl16, pl19, lit_nI, iI_add, iI_sub, iI_mul, iI_neg, iI_le, iI_lt, iI_eq, iI_max, iI_min, Option.bind_some, Option.bind_eq_bind, if_true, if_false]
    (repeat (first | rw [if_pos (by omega)] | rw [if_neg (by omega)]))
  | succ m ih =>
    intro hm f hf W h1
    obtain ⟨f, rfl⟩ : ∃ g, f = g + 1 := ⟨f - 1, by omega⟩
    have hp := pc_r hI (j := m) (by omega)
    have h3 := (hW m (by omega)).2.2.1
    have em : (((m + 1 : Nat) : Int) - 1) = m := by omega
    have en : (m : Int) + -1 = (m : Int) - 1 := by omega
    by_cases hd : ht r m < 0
    · obtain ⟨W', b1, b2, b3⟩ := ih (by omega) f (by omega) W h1
      refine ⟨W', ?_, b2, by rw [(la_1r hd).1]; exact b3⟩
      have hpc : pc r m < 0 := by unfold pc; rw [if_pos hd]; omega
      rw [ah_s, em]
      simp (disch := omega) only [pl0, pl1, pl2, pl3, pl4, pl5, pl6, pl7, pl8, pl9, pl10, pl11, pl12, pl16, pl19, lit_nI, iI_add, iI_sub, iI_mul, iI_neg, iI_le, iI_lt, iI_eq, iI_max, iI_min, Option.bind_some, Option.bind_eq_bind, if_true, if_false, iI_inb, iI_clamp, Int.toNat_natCast, h3, f_L_ahead_50, en]
      (repeat (first | rw [if_pos (by omega)] | rw [if_neg (by omega)]))
      rw [b1]
    · have hpc : pc r m = pt r m := by unfold pc; rw [if_neg hd]
      have hpt := pt_r hI (j := m) (by omega)
      refine ⟨upd W 1 (iI (pc r m)), ?_, rfl, by rw [upd_at, hpc, (la_1d (by omega)).1]⟩
      rw [ah_s, em]
      simp (disch := omega) only [pl0, pl1, pl2, pl3, pl4, pl5, pl6, pl7, pl8, pl9, pl10, pl11, pl12, pl16, pl19, lit_nI, iI_add, iI_sub, iI_mul, iI_neg, iI_le, iI_lt, iI_eq, iI_max, iI_min, Option.bind_some, Option.bind_eq_bind, if_true, if_false, iI_inb, iI_clamp, Int.toNat_natCast, h3, f_L_ahead_50, en, tN1]
      (repeat (first | rw [if_pos (by omega)] | rw [if_neg (by omega)]))
      exact L_ah2 a _ _ (by omega) (by omega)
theorem L_ah0 (hI : Inv r) (hW : RW r (ns r) S) (a : Int32) : ∀ (m : Nat), m ≤ ns r → ∀ (f : Nat), m < f → ∀ W : Nat → Int32, W 0 = iI (-1) → W 1 = iI (-1) → ∃ W', f_L_ahead_19 a (ns r) S f G W (iI 0) (iI ((m : Int) - 1)) = some (W', G) ∧ W' 0 = iI (la r m) ∧ W' 1 = iI (lf r m) := by
  have h16 := hI.ns16
  intro m
  induction m with
  | zero =>
    intro _ f hf W h1 h2
    obtain ⟨f, rfl⟩ : ∃ g, f = g + 1 := ⟨f - 1, by omega⟩
    refine ⟨W, ?_, h1, h2⟩
    rw [ah_s]
    simp (disch := omega) only [pl0, pl1, pl2, pl3, pl4, pl5, pl6, pl7, pl8, pl9, pl10, pl11, pl12, pl16, pl19, lit_nI, iI_add, iI_sub, iI_mul, iI_neg, iI_le, iI_lt, iI_eq, iI_max, iI_min, Option.bind_some, Option.bind_eq_bind, if_true, if_false]
    (repeat (first | rw [if_pos (by omega)] | rw [if_neg (by omega)]))
  | succ m ih =>
    intro hm f hf W h1 h2
    obtain ⟨f, rfl⟩ : ∃ g, f = g + 1 := ⟨f - 1, by omega⟩
    have hp := pc_r hI (j := m) (by omega)
    have h3 := (hW m (by omega)).2.2.1
    have em : (((m + 1 : Nat) : Int) - 1) = m := by omega
    have en : (m : Int) + -1 = (m : Int) - 1 := by omega
    by_cases hd : ht r m < 0
    · obtain ⟨W', b1, b2, b3⟩ := ih (by omega) f (by omega) W h1 h2
      refine ⟨W', ?_, by rw [(la_1r hd).1]; exact b2, by rw [(la_1r hd).2]; exact b3⟩
      have hpc : pc r m < 0 := by unfold pc; rw [if_pos hd]; omega
      rw [ah_s, em]
      simp (disch := omega) only [pl0, pl1, pl2, pl3, pl4, pl5, pl6, pl7, pl8, pl9, pl10, pl11, pl12, pl16, pl19, lit_nI, iI_add, iI_sub, iI_mul, iI_neg, iI_le, iI_lt, iI_eq, iI_max, iI_min, Option.bind_some, Option.bind_eq_bind, if_true, if_false, iI_inb, iI_clamp, Int.toNat_natCast, h3, f_L_ahead_50, en]
      (repeat (first | rw [if_pos (by omega)] | rw [if_neg (by omega)]))
      rw [b1]
    · have hpc : pc r m = pt r m := by unfold pc; rw [if_neg hd]
      have hpt := pt_r hI (j := m) (by omega)
      obtain ⟨W', b1, b2, b3⟩ := L_ah1 (G := G) hI hW a m (by omega) f (by omega) (upd W 0 (iI (pc r m))) h2
      refine ⟨W', ?_, by rw [b2, upd_at, hpc, (la_1d (by omega)).1], by rw [b3, (la_1d (by omega)).2]⟩
      rw [ah_s, em]
      simp (disch := omega) only [pl0, pl1, pl2, pl3, pl4, pl5, pl6, pl7, pl8, pl9, pl10, pl11, pl12, pl16, pl19, lit_nI, iI_add, iI_sub, iI_mul, iI_neg, iI_le, iI_lt, iI_eq, iI_max, iI_min, Option.bind_some, Option.bind_eq_bind, if_true, if_false, iI_inb, iI_clamp, Int.toNat_natCast, h3, f_L_ahead_50, en, tN0]
      (repeat (first | rw [if_pos (by omega)] | rw [if_neg (by omega)]))
      exact b1
theorem L_ahead (hI : Inv r) (hW : RW r (ns r) S) {j : Nat} (hj : j < ns r) : ∃ W, f_L_ahead G (ns r) S (iI j) = some (W, G) ∧ W 0 = iI (la r j) ∧ W 1 = iI (lf r j) := by
  have h16 := hI.ns16
  obtain ⟨W', b1, b2, b3⟩ := L_ah0 (G := G) hI hW (iI j) j (by omega) 18 (by omega) (upd (upd (fun _ => 0) 0 (iI (-1))) 1 (iI (-1))) rfl rfl
  refine ⟨W', ?_, b2, b3⟩
  rw [← b1]
  unfold f_L_ahead
  simp (disch := omega) only [pl0, pl1, pl2, pl3, pl4, pl5, pl6, pl7, pl8, pl9, pl10, pl11, pl12, pl16, pl19, lit_nI, iI_add, iI_sub, iI_mul, iI_neg, iI_le, iI_lt, iI_eq, iI_max, iI_min, Option.bind_some, Option.bind_eq_bind, if_true, if_false, iI_clamp, tN0, tN1]
theorem L_187 (hP : Pr G 0 s) (hI : Inv s) (hV : Vr s r S) {q j : Nat} (hq : q = 1 ∨ q = 2) (hj : j < ns r) (hd : 0 ≤ ht r j) (hl : 0 ≤ la r j) {W : Nat → Int32} (b2 : W 0 = iI (la r j)) (b3 : W 1 = iI (lf r j)) : f_L_isFault_187 (iI q) (iI j) (ns r) S W j (iI 1) G = some (iI (vv r q j), G) := by
  obtain ⟨hJ, e1, e2, e3, e4, hW⟩ := hV
  have h16 := hJ.ns16
  have hm := hI.2.2.2.2.1
  have hl2 := la_r hJ (n := j) (by omega)
  have hl3 := lf_r hJ (n := j) (by omega)
  have hpt := pt_r hJ (j := j) (by omega)
  have hpc : pc r j = pt r j := by unfold pc; rw [if_neg (by omega)]
  have h3 := (hW j hj).2.2.1
  rw [hpc] at h3
  have hab : 0 ≤ ab (pt r j - la r j) ∧ ab (pt r j - la r j) ≤ 11 := by unfold ab; omega
  obtain rfl | rfl := hq
  · have e : vv r 1 j = v1 r j := rfl
    rw [e, v1_la hJ hj hd, e3]
    unfold f_L_isFault_187
    by_cases h4 : ab (pt r j - la r j) ≤ lm s
    · rw [if_neg (show ¬ (la r j ≠ -1 ∧ lm s < ab (pt r j - la r j)) by omega)]
      simp (disch := omega) only [pl0, pl1, pl2, pl3, pl4, pl5, pl6, pl7, pl8, pl9, pl10, pl11, pl12, pl16, pl19, lit_nI, iI_add, iI_sub, iI_mul, iI_neg, iI_le, iI_lt, iI_eq, iI_max, iI_min, Option.bind_some, Option.bind_eq_bind, if_true, if_false, r_acc7 hP hI, bR_i, h3, b2, iI_abs]
      (repeat (first | rw [if_pos (by omega)] | rw [if_neg (by omega)]))
    · rw [if_pos (show la r j ≠ -1 ∧ lm s < ab (pt r j - la r j) by omega)]
      simp (disch := omega) only [pl0, pl1, pl2, pl3, pl4, pl5, pl6, pl7, pl8, pl9, pl10, pl11, pl12, pl16, pl19, lit_nI, iI_add, iI_sub, iI_mul, iI_neg, iI_le, iI_lt, iI_eq, iI_max, iI_min, Option.bind_some, Option.bind_eq_bind, if_true, if_false, r_acc7 hP hI, bR_i, h3, b2, iI_abs, f_L_isFault_245]
      (repeat (first | rw [if_pos (by omega)] | rw [if_neg (by omega)]))
  · have e : vv r 2 j = v2 r j := rfl
    rw [e, v2_la hJ hj hd]
    unfold f_L_isFault_187
    by_cases h4 : lf r j = pt r j
    · by_cases h5 : la r j = pt r j
      · rw [if_pos (show pt r j = la r j ∧ pt r j = lf r j by omega)]
        simp (disch := omega) only [pl0, pl1, pl2, pl3, pl4, pl5, pl6, pl7, pl8, pl9, pl10, pl11, pl12, pl16, pl19, lit_nI, iI_add, iI_sub, iI_mul, iI_neg, iI_le, iI_lt, iI_eq, iI_max, iI_min, Option.bind_some, Option.bind_eq_bind, if_true, if_false, h3, b2, b3, f_L_isFault_245]
        (repeat (first | rw [if_pos (by omega)] | rw [if_neg (by omega)]))
      · rw [if_neg (show ¬ (pt r j = la r j ∧ pt r j = lf r j) by omega)]
        simp (disch := omega) only [pl0, pl1, pl2, pl3, pl4, pl5, pl6, pl7, pl8, pl9, pl10, pl11, pl12, pl16, pl19, lit_nI, iI_add, iI_sub, iI_mul, iI_neg, iI_le, iI_lt, iI_eq, iI_max, iI_min, Option.bind_some, Option.bind_eq_bind, if_true, if_false, h3, b2, b3, f_L_isFault_245]
        (repeat (first | rw [if_pos (by omega)] | rw [if_neg (by omega)]))
    · rw [if_neg (show ¬ (pt r j = la r j ∧ pt r j = lf r j) by omega)]
      simp (disch := omega) only [pl0, pl1, pl2, pl3, pl4, pl5, pl6, pl7, pl8, pl9, pl10, pl11, pl12, pl16, pl19, lit_nI, iI_add, iI_sub, iI_mul, iI_neg, iI_le, iI_lt, iI_eq, iI_max, iI_min, Option.bind_some, Option.bind_eq_bind, if_true, if_false, h3, b2, b3, f_L_isFault_245]
      (repeat (first | rw [if_pos (by omega)] | rw [if_neg (by omega)]))
theorem vv_12 (hJ : Inv r) {q j : Nat} (hq : q = 1 ∨ q = 2) (hj : j < ns r) (hd : ht r j < 0 ∨ la r j < 0) : vv r q j = 0 := by
  have hl2 := la_r hJ (n := j) (by omega)
  by_cases h1 : ht r j < 0
  · obtain rfl | rfl := hq
    · exact v1_r h1
    · exact v2_r h1
  · have hpt := pt_r hJ (j := j) (by omega)
    obtain rfl | rfl := hq
    · have e : vv r 1 j = v1 r j := rfl
      rw [e, v1_la hJ hj (by omega), if_neg (by omega)]
    · have e : vv r 2 j = v2 r j := rfl
      rw [e, v2_la hJ hj (by omega), if_neg (by omega)]
theorem sat_iff (hI : Inv r) {x : Int} {i : Nat} (hi : i < ns r) : (bS r i ≤ x ∧ x < bS r i + ln r i) = (sat r x = i) := by
  have h1 := bS_1 r i
  have h2 := hI.bSr (j := i) (by omega)
  apply propext
  constructor
  · rintro ⟨h3, h4⟩
    exact sat_eq hI hi h3 (by omega)
  · intro h
    unfold sat at h
    by_cases h3 : 0 ≤ x ∧ x < bS r (ns r)
    · rw [if_pos h3] at h
      have h4 := si_r hI h3.1 h3.2
      have h5 : si r x = i := by omega
      rw [h5] at h4
      omega
    · rw [if_neg h3] at h; omega
theorem L_49 (hV : Vr s r S) {b : Nat} (hb : b < nb r) (a3 : Int32) : f_L_isFault_49 (iI 3) a3 (ns r) S (iI (bB r b)) (iI (ns r)) 17 G (iI 0) (iI 0) = some (iI (v3 r b), G) := by
  obtain ⟨hJ, e1, e2, e3, e4, hW⟩ := hV
  have h16 := hJ.ns16
  have h6 := hJ.nb6
  have hbb := hJ.bBr (b := b) (by omega)
  have hsr := sat_r hJ (bB r b)
  unfold f_L_isFault_49
  refine lq3_fr (X1 := fun _ => G) (X2 := fun n => iI (if 0 ≤ sat r (bB r b) ∧ sat r (bB r b) < n ∧ ht r (sat r (bB r b)).toNat < 0 then 1 else 0)) (X3 := fun n => iI n) (ns r) _ rfl ?_ rfl (fun k i hi => ?_) (fun k => ?_) (by omega)
  · rw [if_neg (by omega)]
  · obtain ⟨-, w2, w3, w4, -⟩ := hW i hi
    have hd := hJ.sd hi
    have hpc := pc_r hJ hi
    have hsn := snd_in hJ hi
    have hbs := hJ.bSr (j := i) (by omega)
    have hst := sat_iff hJ (x := bB r b) hi
    have hpd : (pc r i < 0) = (ht r i < 0) := by
      unfold pc
      have := pt_r hJ hi
      by_cases h : ht r i < 0
      · rw [if_pos h]; apply propext; omega
      · rw [if_neg h]; apply propext; omega
    by_cases h1 : 0 ≤ sat r (bB r b) ∧ sat r (bB r b) < i ∧ ht r (sat r (bB r b)).toNat < 0
    · have h2 : 0 ≤ sat r (bB r b) ∧ sat r (bB r b) < ((i + 1 : Nat) : Int) ∧ ht r (sat r (bB r b)).toNat < 0 := ⟨h1.1, by omega, h1.2.2⟩
      simp (disch := omega) only [pl0, pl1, pl2, pl3, pl4, pl5, pl6, pl7, pl8, pl9, pl10, pl11, pl12, pl16, pl19, lit_nI, iI_add, iI_sub, iI_mul, iI_neg, iI_le, iI_lt, iI_eq, iI_max, iI_min, Option.bind_some, Option.bind_eq_bind, if_true, if_false, iI_inb, iI_clamp, Int.toNat_natCast, h1, h2, f_L_isFault_98, f_L_isFault_103]
      (repeat (first | rw [if_pos (by omega)] | rw [if_neg (by omega)]))
      rfl
    · have hz : ¬ (pc r i < 0 ∧ bS r i ≤ bB r b ∧ bB r b < bS r i + ln r i) → ¬ (0 ≤ sat r (bB r b) ∧ sat r (bB r b) < ((i + 1 : Nat) : Int) ∧ ht r (sat r (bB r b)).toNat < 0) := by
        intro h3 h4
        have h5 : sat r (bB r b) = i := by
          by_cases h6 : sat r (bB r b) < i
          · exact absurd ⟨h4.1, h6, h4.2.2⟩ h1
          · omega
        have h6 := h4.2.2
        rw [h5, Int.toNat_natCast] at h6
        exact h3 ⟨by rw [hpd]; exact h6, by rw [hst]; exact h5⟩
      by_cases h2 : 0 ≤ pc r i
      · have h3 := hz (by omega)
        simp (disch := omega) only [pl0, pl1, pl2, pl3, pl4, pl5, pl6, pl7, pl8, pl9, pl10, pl11, pl12, pl16, pl19, lit_nI, iI_add, iI_sub, iI_mul, iI_neg, iI_le, iI_lt, iI_eq, iI_max, iI_min, Option.bind_some, Option.bind_eq_bind, if_true, if_false, iI_inb, iI_clamp, Int.toNat_natCast, w2, w3, w4, h1, h3, f_L_isFault_102, f_L_isFault_103]
        (repeat (first | rw [if_pos (by omega)] | rw [if_neg (by omega)]))
        rfl
      · by_cases h4 : bB r b < bS r i
        · have h3 := hz (by omega)
          simp (disch := omega) only [pl0, pl1, pl2, pl3, pl4, pl5, pl6, pl7, pl8, pl9, pl10, pl11, pl12, pl16, pl19, lit_nI, iI_add, iI_sub, iI_mul, iI_neg, iI_le, iI_lt, iI_eq, iI_max, iI_min, Option.bind_some, Option.bind_eq_bind, if_true, if_false, iI_inb, iI_clamp, Int.toNat_natCast, w2, w3, w4, h1, h3, f_L_isFault_102, f_L_isFault_103]
          (repeat (first | rw [if_pos (by omega)] | rw [if_neg (by omega)]))
          rfl
        · by_cases h5 : bS r i + ln r i ≤ bB r b
          · have h3 := hz (by omega)
            simp (disch := omega) only [pl0, pl1, pl2, pl3, pl4, pl5, pl6, pl7, pl8, pl9, pl10, pl11, pl12, pl16, pl19, lit_nI, iI_add, iI_sub, iI_mul, iI_neg, iI_le, iI_lt, iI_eq, iI_max, iI_min, Option.bind_some, Option.bind_eq_bind, if_true, if_false, iI_inb, iI_clamp, Int.toNat_natCast, w2, w3, w4, h1, h3, f_L_isFault_102, f_L_isFault_103]
            (repeat (first | rw [if_pos (by omega)] | rw [if_neg (by omega)]))
            rfl
          · have h6 : sat r (bB r b) = i := by rw [← hst]; omega
            have h7 : ht r i < 0 := by rw [← hpd]; omega
            have h3 : 0 ≤ sat r (bB r b) ∧ sat r (bB r b) < ((i + 1 : Nat) : Int) ∧ ht r (sat r (bB r b)).toNat < 0 := ⟨by omega, by omega, by rw [h6, Int.toNat_natCast]; exact h7⟩
            simp (disch := omega) only [pl0, pl1, pl2, pl3, pl4, pl5, pl6, pl7, pl8, pl9, pl10, pl11, pl12, pl16, pl19, lit_nI, iI_add, iI_sub, iI_mul, iI_neg, iI_le, iI_lt, iI_eq, iI_max, iI_min, Option.bind_some, Option.bind_eq_bind, if_true, if_false, iI_inb, iI_clamp, Int.toNat_natCast, w2, w3, w4, h1, h3, f_L_isFault_98, f_L_isFault_103]
            (repeat (first | rw [if_pos (by omega)] | rw [if_neg (by omega)]))
            rfl
  · have e : (0 ≤ sat r (bB r b) ∧ sat r (bB r b) < (ns r : Int) ∧ ht r (sat r (bB r b)).toNat < 0) = (0 ≤ sat r (bB r b) ∧ ht r (sat r (bB r b)).toNat < 0) := propext ⟨fun h => ⟨h.1, h.2.2⟩, fun h => ⟨h.1, hsr.2, h.2⟩⟩
    unfold v3
    simp only [e]
    by_cases h1 : 0 ≤ sat r (bB r b) ∧ ht r (sat r (bB r b)).toNat < 0
    · rw [if_pos h1, if_pos (Int32.le_refl _)]
      exact if_pos (by decide)
    · rw [if_neg h1, if_pos (Int32.le_refl _)]
      exact if_pos (by decide)
end FD
