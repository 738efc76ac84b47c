/-! faults counted by the law -/
section FE
variable {G : GT} {s r : Nat → Int32} {S : Nat → Nat → Int32}
theorem Vr_0 (hI : Inv s) : Vr s s (SS s (ns s)) := ⟨hI, rfl, rfl, rfl, fun _ _ => rfl, RW_SS s (ns s)⟩
theorem L_isF (hP : Pr G 0 s) (hI : Inv s) (hV : Vr s r S) {q j : Nat} (hq : 1 ≤ q ∧ q ≤ 4) (hj : j < pl r q) : f_L_isFault G (ns r) S (iI q) (iI j) = some (iI (vv r q j), G) := by
  have hV2 := hV
  obtain ⟨hJ, e1, e2, e3, e4, hW⟩ := hV2
  have h16 := hJ.ns16
  have h6 := hJ.nb6
  by_cases h3 : q = 3
  · subst h3
    have hj : j < nb r := hj
    have hbb := hJ.bBr (b := j) (by omega)
    have e : vv r 3 j = v3 r j := rfl
    rw [e]
    unfold f_L_isFault
    rw [if_pos (show iI ((3 : Nat) : Int) = (3 : Int32) from rfl)]
    unfold f_L_isFault_11
    refine lq3_fr (X1 := fun _ => G) (X2 := fun b => iI (bB r b)) (X3 := fun b => iI b) j _ rfl rfl rfl (fun k b hb => ?_) (fun k => ?_) (by omega)
    · have hzb := hJ.sz (show b < nb r by omega)
      have hb2 := hJ.bBr (b := b) (by omega)
      have e5 := r_barOf0 hP hI (b := b) (by omega)
      rw [← e4 b (by omega)] at e5
      have e6 := bB_1 r b
      (simp (disch := omega) only [pl0, pl1, pl2, pl3, pl4, pl5, pl6, pl7, pl8, pl9, pl10, pl11, pl12, pl16, pl19, lit_nI, iI_add, iI_sub, iI_mul, iI_neg, iI_le, iI_lt, iI_eq, iI_max, iI_min, Option.bind_some, Option.bind_eq_bind, if_true, if_false, e5, b2s, e6]; (repeat (first | rw [if_pos (by omega)] | rw [if_neg (by omega)])); (try simp (disch := omega) only [pl0, pl1, pl2, pl3, pl4, pl5, pl6, pl7, pl8, pl9, pl10, pl11, pl12, pl16, pl19, lit_nI, iI_add, iI_sub, iI_mul, iI_neg, iI_le, iI_lt, iI_eq, iI_max, iI_min, Option.bind_some, Option.bind_eq_bind, if_true, if_false]); (repeat (first | rw [if_pos (by omega)] | rw [if_neg (by omega)])); (try rfl))
    · rw [if_pos (Int32.le_refl _), lit_nI]
      exact L_49 hV hj _
  · have hj : j < ns r := by unfold pl at hj; rw [if_neg h3] at hj; exact hj
    have hn3 : ¬ (iI (q : Int) = (3 : Int32)) := by rw [pl3, iI_eq (by omega) (by omega) (by omega) (by omega)]; omega
    have hin : inb (iI (j : Int)) (ns r) := by rw [iI_inb (by omega) (by omega) (by omega)]; omega
    obtain ⟨W, b1, b2, b3⟩ := L_ahead (G := G) hJ hW hj
    have ec : (iI (j : Int)).toNatClampNeg = j := by rw [iI_clamp (by omega) (by omega), Int.toNat_natCast]
    unfold f_L_isFault
    rw [if_neg hn3, if_pos hin, b1, b2s, ec]
    have hpc := pc_r hJ hj
    have hpj := pj_r hJ hj
    obtain ⟨-, -, w3, -, w5⟩ := hW j hj
    have hl := la_r hJ (n := j) (by omega)
    have hpd : (pc r j < 0) = (ht r j < 0) := by
      unfold pc
      have := pt_r hJ hj
      by_cases h : ht r j < 0
      · rw [if_pos h]; apply propext; omega
      · rw [if_neg h]; apply propext; omega
    by_cases h4 : q = 4
    · subst h4
      have e : vv r 4 j = v4 r j := rfl
      rw [if_pos (show iI ((4 : Nat) : Int) = (4 : Int32) from rfl), e]
      unfold v4
      by_cases hd : ht r j < 0
      · have hd2 := hpd.mpr hd
        rw [if_pos hd]
        by_cases h5 : pj r j ≤ 1
        · rw [if_neg (show ¬ ((1 : Int) < pj r j) by omega)]
          simp (disch := omega) only [pl0, pl1, pl2, pl3, pl4, pl5, pl6, pl7, pl8, pl9, pl10, pl11, pl12, pl16, pl19, lit_nI, iI_add, iI_sub, iI_mul, iI_neg, iI_le, iI_lt, iI_eq, iI_max, iI_min, Option.bind_some, Option.bind_eq_bind, if_true, if_false, w3, w5]
          (repeat (first | rw [if_pos (by omega)] | rw [if_neg (by omega)]))
        · rw [if_pos (show (1 : Int) < pj r j by omega)]
          simp (disch := omega) only [pl0, pl1, pl2, pl3, pl4, pl5, pl6, pl7, pl8, pl9, pl10, pl11, pl12, pl16, pl19, lit_nI, iI_add, iI_sub, iI_mul, iI_neg, iI_le, iI_lt, iI_eq, iI_max, iI_min, Option.bind_some, Option.bind_eq_bind, if_true, if_false, w3, w5]
          (repeat (first | rw [if_pos (by omega)] | rw [if_neg (by omega)]))
      · have hd2 : ¬ pc r j < 0 := fun h => hd (hpd.mp h)
        rw [if_neg hd]
        by_cases h5 : pj r j ≤ 2
        · rw [if_neg (show ¬ ((2 : Int) < pj r j) by omega)]
          simp (disch := omega) only [pl0, pl1, pl2, pl3, pl4, pl5, pl6, pl7, pl8, pl9, pl10, pl11, pl12, pl16, pl19, lit_nI, iI_add, iI_sub, iI_mul, iI_neg, iI_le, iI_lt, iI_eq, iI_max, iI_min, Option.bind_some, Option.bind_eq_bind, if_true, if_false, w3, w5]
          (repeat (first | rw [if_pos (by omega)] | rw [if_neg (by omega)]))
        · rw [if_pos (show (2 : Int) < pj r j by omega)]
          simp (disch := omega) only [pl0, pl1, pl2, pl3, pl4, pl5, pl6, pl7, pl8, pl9, pl10, pl11, pl12, pl16, pl19, lit_nI, iI_add, iI_sub, iI_mul, iI_neg, iI_le, iI_lt, iI_eq, iI_max, iI_min, Option.bind_some, Option.bind_eq_bind, if_true, if_false, w3, w5]
          (repeat (first | rw [if_pos (by omega)] | rw [if_neg (by omega)]))
    · have hq2 : q = 1 ∨ q = 2 := by omega
      have hn4 : ¬ (iI (q : Int) = (4 : Int32)) := by rw [pl4, iI_eq (by omega) (by omega) (by omega) (by omega)]; omega
      rw [if_neg hn4]
      by_cases hd : ht r j < 0
      · have hd2 := hpd.mpr hd
        rw [vv_12 hJ hq2 hj (Or.inl hd), if_pos (by rw [w3, pl0, iI_lt (by omega) (by omega) (by omega) (by omega)]; exact hd2)]
        rfl
      · have hd2 : ¬ pc r j < 0 := fun h => hd (hpd.mp h)
        rw [if_neg (by rw [w3, pl0, iI_lt (by omega) (by omega) (by omega) (by omega)]; exact hd2)]
        by_cases h5 : la r j < 0
        · rw [vv_12 hJ hq2 hj (Or.inr h5), if_pos (by rw [b2, pl0, iI_lt (by omega) (by omega) (by omega) (by omega)]; exact h5)]
          rfl
        · rw [if_neg (by rw [b2, pl0, iI_lt (by omega) (by omega) (by omega) (by omega)]; exact h5)]
          exact L_187 hP hI hV hq2 hj (by omega) (by omega) b2 b3
theorem L_fOf (hP : Pr G 0 s) (hI : Inv s) (hV : Vr s r S) {q : Nat} (hq : 1 ≤ q ∧ q ≤ 4) : f_L_faultsOf G (ns r) S (iI q) = some (iI (fm r q), G) := by
  have hV2 := hV
  obtain ⟨hJ, e1, e2, e3, e4, hW⟩ := hV2
  have h16 := hJ.ns16
  have h6 := hJ.nb6
  have hpl := pl_r hJ q
  unfold f_L_faultsOf f_L_faultsOf_5 fm
  have hcnt : ∀ n, n ≤ 16 → 0 ≤ sm (vv r q) n ∧ sm (vv r q) n ≤ 16 := by
    intro n hn
    have h1 := sm_ge (f := vv r q) (n := n) (a := 0) (fun i _ => by have := vv_01 r q i; omega)
    have h2 := sm_le (f := vv r q) (n := n) (a := 1) (fun i _ => by have := vv_01 r q i; omega)
    omega
  refine lq3_fr (X1 := fun _ => G) (X2 := fun n => iI (sm (vv r q) n)) (X3 := fun n => iI n) (pl r q) _ rfl rfl rfl (fun k j hj => ?_) (fun k => ?_) (by omega)
  · have hf := L_isF hP hI hV hq hj
    have hc := hcnt j (by omega)
    have hin : f_L_faultsOf_22 (iI q) (ns r) S k (iI (sm (vv r q) j)) (iI j) (iI (pl r q)) (iI j) G = k G (iI (sm (vv r q) (j + 1))) (iI ((j + 1 : Nat) : Int)) := by
      rcases vv_01 r q j with h0 | h0
      · (simp (disch := omega) only [pl0, pl1, pl2, pl3, pl4, pl5, pl6, pl7, pl8, pl9, pl10, pl11, pl12, pl16, pl19, lit_nI, iI_add, iI_sub, iI_mul, iI_neg, iI_le, iI_lt, iI_eq, iI_max, iI_min, Option.bind_some, Option.bind_eq_bind, if_true, if_false, f_L_faultsOf_22, f_L_faultsOf_42, hf, b2s, sm_1, h0]; (repeat (first | rw [if_pos (by omega)] | rw [if_neg (by omega)])); (try simp (disch := omega) only [pl0, pl1, pl2, pl3, pl4, pl5, pl6, pl7, pl8, pl9, pl10, pl11, pl12, pl16, pl19, lit_nI, iI_add, iI_sub, iI_mul, iI_neg, iI_le, iI_lt, iI_eq, iI_max, iI_min, Option.bind_some, Option.bind_eq_bind, if_true, if_false]); (repeat (first | rw [if_pos (by omega)] | rw [if_neg (by omega)])); (try rfl))
      · (simp (disch := omega) only [pl0, pl1, pl2, pl3, pl4, pl5, pl6, pl7, pl8, pl9, pl10, pl11, pl12, pl16, pl19, lit_nI, iI_add, iI_sub, iI_mul, iI_neg, iI_le, iI_lt, iI_eq, iI_max, iI_min, Option.bind_some, Option.bind_eq_bind, if_true, if_false, f_L_faultsOf_22, f_L_faultsOf_42, hf, b2s, sm_1, h0]; (repeat (first | rw [if_pos (by omega)] | rw [if_neg (by omega)])); (try simp (disch := omega) only [pl0, pl1, pl2, pl3, pl4, pl5, pl6, pl7, pl8, pl9, pl10, pl11, pl12, pl16, pl19, lit_nI, iI_add, iI_sub, iI_mul, iI_neg, iI_le, iI_lt, iI_eq, iI_max, iI_min, Option.bind_some, Option.bind_eq_bind, if_true, if_false]); (repeat (first | rw [if_pos (by omega)] | rw [if_neg (by omega)])); (try rfl))
    by_cases h3 : q = 3
    · subst h3
      rw [if_pos (show iI ((3 : Nat) : Int) = (3 : Int32) from rfl), ← hin, pl0, r_acc0 hP hI, bR_i, ← e2]
      rfl
    · rw [if_neg (by rw [pl3, iI_eq (by omega) (by omega) (by omega) (by omega)]; omega), ← hin, lit_nI]
      unfold pl
      rw [if_neg h3]
  · by_cases h3 : q = 3
    · subst h3
      rw [if_pos (show iI ((3 : Nat) : Int) = (3 : Int32) from rfl), pl0, r_acc0 hP hI, bR_i, ← e2]
      unfold f_L_faultsOf_22
      exact if_pos (Int32.le_refl _)
    · rw [if_neg (by rw [pl3, iI_eq (by omega) (by omega) (by omega) (by omega)]; omega), lit_nI]
      unfold f_L_faultsOf_22 pl
      rw [if_neg h3]
      exact if_pos (Int32.le_refl _)
theorem L_allF (hP : Pr G 0 s) (hI : Inv s) (hV : Vr s r S) : f_L_allFaults G (ns r) S = some (iI (ft r), G) := by
  unfold f_L_allFaults
  have e1 := L_fOf hP hI hV (q := 1) (by omega)
  have e2 := L_fOf hP hI hV (q := 2) (by omega)
  have e3 := L_fOf hP hI hV (q := 3) (by omega)
  have e4 := L_fOf hP hI hV (q := 4) (by omega)
  have f1 : iI ((1 : Nat) : Int) = iI 1 := rfl
  have f2 : iI ((2 : Nat) : Int) = iI 2 := rfl
  have f3 : iI ((3 : Nat) : Int) = iI 3 := rfl
  have f4 : iI ((4 : Nat) : Int) = iI 4 := rfl
  rw [f1] at e1
  rw [f2] at e2
  rw [f3] at e3
  rw [f4] at e4
  rw [pl1, pl2, pl3, pl4, e1, b2s, e2, b2s, e3, b2s, e4, b2s, iI_add, iI_add, iI_add]
  rfl
end FE
