/-! pages -/
theorem pl67 : (67 : Int32) = iI 67 := rfl
theorem upR_at (G : GT) (i : Nat) (f : Nat → Int32) : upR G i f i = f := if_pos rfl
theorem upR_ne (G : GT) {i j : Nat} (f : Nat → Int32) (h : j ≠ i) : upR G i f j = G j := if_neg h
theorem upR_upR (G : GT) (i : Nat) (f g : Nat → Int32) : upR (upR G i f) i g = upR G i g := by
  funext j
  by_cases h : j = i
  · rw [h, upR_at, upR_at]
  · rw [upR_ne _ _ h, upR_ne _ _ h, upR_ne _ _ h]
theorem upR_self (G : GT) (i : Nat) : upR G i (G i) = G := by
  funext j
  by_cases h : j = i
  · rw [h, upR_at]
  · rw [upR_ne _ _ h]
theorem upd_at (f : Nat → Int32) (i : Nat) (x : Int32) : upd f i x i = x := if_pos rfl
theorem upd_ne (f : Nat → Int32) {i j : Nat} (x : Int32) (h : j ≠ i) : upd f i x j = f j := if_neg h
theorem iI_put {a : Int} {z : Nat} {f : Nat → Int32} {v : Int32} (hz : z ≤ 4096) (h1 : 0 ≤ a) (h2 : a < z) : put32 z f (iI a) v = upd f a.toNat v := by
  unfold put32
  rw [pl0, lit_nI]
  simp only [iI_lt (show -2147483648 ≤ a by omega) (show a ≤ 2147483647 by omega) (show (-2147483648 : Int) ≤ 0 by omega) (by omega), iI_le (show (-2147483648 : Int) ≤ z by omega) (by omega) (show -2147483648 ≤ a by omega) (by omega)]
  rw [if_neg (by omega), if_neg (by omega), iI_clamp (by omega) (by omega)]
theorem Pr_ext {G : GT} {b : Nat} {s t : Nat → Int32} (h : ∀ i, i < 67 → s i = t i) (hP : Pr G b s) : Pr G b t := by
  obtain ⟨h0, h1, h2, h3, h4, h5, h6, h7, h8, h9, h10⟩ := hP
  exact ⟨h0.trans (h _ (by omega)), h1.trans (h _ (by omega)), h2.trans (h _ (by omega)), h3.trans (h _ (by omega)), h4.trans (h _ (by omega)), fun j hj => (h5 j hj).trans (h _ (by omega)), fun j hj => (h6 j hj).trans (h _ (by omega)), fun j hj => (h7 j hj).trans (h _ (by omega)), fun j hj => (h8 j hj).trans (h _ (by omega)), fun j hj => (h9 j hj).trans (h _ (by omega)), fun j hj => (h10 j hj).trans (h _ (by omega))⟩
/-- only the seven cells of a print matter -/
theorem Pr_frame {G G' : GT} {b : Nat} {s : Nat → Int32} (h : ∀ i, b ≤ i → i < b + 7 → G' i = G i) (hP : Pr G b s) : Pr G' b s := by
  unfold Pr at *
  rw [h b (by omega) (by omega), h (b + 1) (by omega) (by omega), h (b + 2) (by omega) (by omega), h (b + 3) (by omega) (by omega), h (b + 4) (by omega) (by omega), h (b + 5) (by omega) (by omega), h (b + 6) (by omega) (by omega)]
  exact hP
theorem Inv_ext {s t : Nat → Int32} (h : ∀ i, i < 67 → s i = t i) (hI : Inv s) : Inv t := by
  have e0 : nb t = nb s := by unfold nb; rw [h 0 (by omega)]
  have e1 : ns t = ns s := by unfold ns; rw [h 1 (by omega)]
  have h6 := hI.nb6
  have h16 := hI.ns16
  have ez : ∀ i, i < 6 → sz t i = sz s i := fun i hi => by unfold sz; rw [h (5 + i) (by omega)]
  have ek : ∀ i, i < 4 → ky t i = ky s i := fun i hi => by unfold ky; rw [h (11 + 2 * i) (by omega)]
  have el : ∀ i, i < 4 → lk t i = lk s i := fun i hi => by unfold lk; rw [h (12 + 2 * i) (by omega)]
  have et : ∀ i, i < 16 → tn t i = tn s i := fun i hi => by unfold tn; rw [h (19 + 3 * i) (by omega)]
  have eh : ∀ i, i < 16 → ht t i = ht s i := fun i hi => by unfold ht; rw [h (20 + 3 * i) (by omega)]
  have en : ∀ i, i < 16 → ln t i = ln s i := fun i hi => by unfold ln; rw [h (21 + 3 * i) (by omega)]
  have em : lm t = lm s := by unfold lm; rw [h 2 (by omega)]
  refine ⟨by rw [e0, ← h 0 (by omega)]; exact hI.b0, by omega, by rw [e1, ← h 1 (by omega)]; exact hI.s1, by omega, by rw [em]; exact hI.2.2.2.2.1, fun i hi => ?_, fun i hi => ?_, fun i hi => ?_, ?_⟩
  · rw [ez i (by omega)]; exact hI.sz (by omega)
  · rw [ek i hi, el i hi]; exact hI.ky hi
  · rw [et i (by omega), eh i (by omega), en i (by omega)]; exact hI.sd (by omega)
  · have a1 : bS t (ns t) = bS s (ns s) := by rw [e1]; exact sm_ext fun i hi => en i (by omega)
    have a2 : bB t (nb t) = bB s (nb s) := by rw [e0]; exact sm_ext fun i hi => ez i (by omega)
    rw [a1, a2]; exact hI.full
theorem cpL_ok (G : GT) {i1 i2 z : Nat} (hne : i1 ≠ i2) (hz : z ≤ 16) : ∃ G', f_cpL i1 z i2 z 4096 G 0 = some G' ∧ (∀ j, j < z → G' i2 j = G i1 j) ∧ (∀ i, i ≠ i2 → G' i = G i) := by
  refine ⟨upR G i2 (fun j => if j < z then G i1 j else G i2 j), ?_, fun j hj => ?_, fun i hi => upR_ne _ _ hi⟩
  · unfold f_cpL
    refine lq2_fr (X1 := fun n => upR G i2 (fun j => if j < n then G i1 j else G i2 j)) (X2 := fun n => iI n) z _ ?_ rfl (fun k n hn => ?_) (fun k => ?_) (by omega)
    · have e : (fun j => if j < 0 then G i1 j else G i2 j) = G i2 := by
        funext j; exact if_neg (Nat.not_lt_zero j)
      show G = upR G i2 (fun j => if j < 0 then G i1 j else G i2 j)
      rw [e, upR_self]
    · simp only [upR_at, upR_upR, upR_ne G _ hne]
      rw [iI_cell (by omega) (by omega) (by omega), iI_put (by omega) (by omega) (by omega), Int.toNat_natCast]
      have e : upd (fun j => if j < n then G i1 j else G i2 j) n (G i1 n) = fun j => if j < n + 1 then G i1 j else G i2 j := by
        funext j
        by_cases h : j = n
        · rw [h, upd_at, if_pos (by omega)]
        · rw [upd_ne _ _ h]
          by_cases h2 : j < n
          · rw [if_pos h2, if_pos (by omega)]
          · rw [if_neg h2, if_neg (by omega)]
      rw [e]
      simp (disch := omega) only [pl0, pl1, pl2, pl3, pl4, pl5, pl6, pl7, pl8, pl9, pl10, pl11, pl12, pl16, pl19, lit_nI, iI_add, iI_sub, iI_mul, iI_neg, iI_le, iI_lt, iI_eq, iI_max, iI_min, Option.bind_some, Option.bind_eq_bind, if_true, if_false]
      (repeat (first | rw [if_pos (by omega)] | rw [if_neg (by omega)]))
      rfl
    · simp (disch := omega) only [pl0, pl1, pl2, pl3, pl4, pl5, pl6, pl7, pl8, pl9, pl10, pl11, pl12, pl16, pl19, lit_nI, iI_add, iI_sub, iI_mul, iI_neg, iI_le, iI_lt, iI_eq, iI_max, iI_min, Option.bind_some, Option.bind_eq_bind, if_true, if_false]
      (repeat (first | rw [if_pos (by omega)] | rw [if_neg (by omega)]))
  · rw [upR_at, if_pos hj]
theorem become_ok (G : GT) {u0 u1 : Nat} (hne : u1 ≠ u0) : ∃ G', f_X5_become G u0 u1 = some G' ∧ (∀ s, Pr G (7 * u1) s → Pr G' (7 * u0) s) ∧ (∀ i, (i < 7 * u0 ∨ 7 * u0 + 7 ≤ i) → G' i = G i) := by
  obtain ⟨G1, a1, b1, c1⟩ := cpL_ok G (i1 := 7 * u1 + 1) (i2 := 7 * u0 + 1) (z := 6) (by omega) (by omega)
  obtain ⟨G2, a2, b2, c2⟩ := cpL_ok G1 (i1 := 7 * u1 + 2) (i2 := 7 * u0 + 2) (z := 4) (by omega) (by omega)
  obtain ⟨G3, a3, b3, c3⟩ := cpL_ok G2 (i1 := 7 * u1 + 3) (i2 := 7 * u0 + 3) (z := 4) (by omega) (by omega)
  obtain ⟨G4, a4, b4, c4⟩ := cpL_ok G3 (i1 := 7 * u1 + 4) (i2 := 7 * u0 + 4) (z := 16) (by omega) (by omega)
  obtain ⟨G5, a5, b5, c5⟩ := cpL_ok G4 (i1 := 7 * u1 + 5) (i2 := 7 * u0 + 5) (z := 16) (by omega) (by omega)
  obtain ⟨G6, a6, b6, c6⟩ := cpL_ok G5 (i1 := 7 * u1 + 6) (i2 := 7 * u0 + 6) (z := 16) (by omega) (by omega)
  have hu : 7 * u1 ≠ 7 * u0 := by omega
  unfold f_X5_become
  rw [a1, Option.bind_some, a2, Option.bind_some, a3, Option.bind_some, a4, Option.bind_some, a5, Option.bind_some, a6, Option.bind_some]
  simp only [Option.bind_some, upR_at, upR_upR, upR_ne G6 _ hu]
  refine ⟨_, rfl, fun s hP => ?_, fun i hi => ?_⟩
  · obtain ⟨h0, h1, h2, h3, h4, h5, h6, h7, h8, h9, h10⟩ := hP
    have f1 : ∀ j, j < 6 → G6 (7 * u0 + 1) j = G (7 * u1 + 1) j := fun j hj => by
      rw [c6 _ (by omega), c5 _ (by omega), c4 _ (by omega), c3 _ (by omega), c2 _ (by omega)]; exact b1 j hj
    have f2 : ∀ j, j < 4 → G6 (7 * u0 + 2) j = G (7 * u1 + 2) j := fun j hj => by
      rw [c6 _ (by omega), c5 _ (by omega), c4 _ (by omega), c3 _ (by omega), b2 j hj, c1 _ (by omega)]
    have f3 : ∀ j, j < 4 → G6 (7 * u0 + 3) j = G (7 * u1 + 3) j := fun j hj => by
      rw [c6 _ (by omega), c5 _ (by omega), c4 _ (by omega), b3 j hj, c2 _ (by omega), c1 _ (by omega)]
    have f4 : ∀ j, j < 16 → G6 (7 * u0 + 4) j = G (7 * u1 + 4) j := fun j hj => by
      rw [c6 _ (by omega), c5 _ (by omega), b4 j hj, c3 _ (by omega), c2 _ (by omega), c1 _ (by omega)]
    have f5 : ∀ j, j < 16 → G6 (7 * u0 + 5) j = G (7 * u1 + 5) j := fun j hj => by
      rw [c6 _ (by omega), b5 j hj, c4 _ (by omega), c3 _ (by omega), c2 _ (by omega), c1 _ (by omega)]
    have f6 : ∀ j, j < 16 → G6 (7 * u0 + 6) j = G (7 * u1 + 6) j := fun j hj => by
      rw [b6 j hj, c5 _ (by omega), c4 _ (by omega), c3 _ (by omega), c2 _ (by omega), c1 _ (by omega)]
    have f0 : G6 (7 * u1) = G (7 * u1) := by
      rw [c6 _ (by omega), c5 _ (by omega), c4 _ (by omega), c3 _ (by omega), c2 _ (by omega), c1 _ (by omega)]
    refine ⟨?_, ?_, ?_, ?_, ?_, fun j hj => ?_, fun j hj => ?_, fun j hj => ?_, fun j hj => ?_, fun j hj => ?_, fun j hj => ?_⟩
    · rw [upR_at, ← h0, f0]; rfl
    · rw [upR_at, ← h1, f0]; rfl
    · rw [upR_at, ← h2, f0]; rfl
    · rw [upR_at, ← h3, f0]; rfl
    · rw [upR_at, ← h4, f0]; rfl
    · rw [upR_ne _ _ (by omega), f1 j hj]; exact h5 j hj
    · rw [upR_ne _ _ (by omega), f2 j hj]; exact h6 j hj
    · rw [upR_ne _ _ (by omega), f3 j hj]; exact h7 j hj
    · rw [upR_ne _ _ (by omega), f4 j hj]; exact h8 j hj
    · rw [upR_ne _ _ (by omega), f5 j hj]; exact h9 j hj
    · rw [upR_ne _ _ (by omega), f6 j hj]; exact h10 j hj
  · rw [upR_ne _ _ (by omega), c6 _ (by omega), c5 _ (by omega), c4 _ (by omega), c3 _ (by omega), c2 _ (by omega), c1 _ (by omega)]
theorem iI_mod8 {a : Int} (h1 : 0 ≤ a) (h2 : a ≤ 1000) : iI a - iI a / iI 8 * iI 8 = iI (a % 8) := by
  rw [iI_div h1 (by omega) (by omega) (by omega), iI_mul, iI_sub]
  congr 1
  omega
theorem keep_ok (G : GT) {nx c u1 : Nat} (hn : G 88 1 = iI nx) (hc : G 88 2 = iI c) (hnx : nx < 8) (hc8 : c ≤ 8) (hu : u1 < 3) : ∃ G', f_X0_keep G u1 = some G' ∧ (∀ s, Pr G (7 * u1) s → Pr G' (7 * (3 + nx)) s) ∧ (∀ i, i ≠ 88 → (i < 7 * (3 + nx) ∨ 7 * (3 + nx) + 7 ≤ i) → G' i = G i) ∧ G' 88 1 = iI (((nx + 1) % 8 : Nat) : Int) ∧ G' 88 2 = iI ((min (c + 1) 8 : Nat) : Int) := by
  obtain ⟨G1, a1, b1, c1⟩ := become_ok G (u0 := 3 + nx) (u1 := u1) (by omega)
  have hq : G1 88 = G 88 := c1 88 (by omega)
  have e1 : ((nx : Int)).toNat = nx := Int.toNat_natCast nx
  unfold f_X0_keep
  rw [hn, iI_clamp (by omega) (by omega), e1, a1]
  simp only [Option.bind_some, upR_at, upR_upR, hq]
  rw [if_pos (by rw [iI_inb (by omega) (by omega) (by omega)]; omega)]
  refine ⟨_, rfl, fun s hs => Pr_frame (fun i h1 h2 => upR_ne _ _ (by omega)) (b1 s hs), fun i h1 h2 => ?_, ?_, ?_⟩
  · rw [upR_ne _ _ h1, c1 _ h2]
  · rw [upR_at, upd_ne _ _ (by decide), upd_at, hn, pl1, pl8, iI_add, iI_mod8 (by omega) (by omega)]
    congr 1
  · rw [upR_at, upd_at, upd_ne _ _ (by decide), hc, pl1, pl8, iI_add, iI_min (by omega) (by omega) (by omega) (by omega)]
    congr 1
    omega
theorem back_ok (G : GT) {nx c : Nat} (hn : G 88 1 = iI nx) (hc : G 88 2 = iI c) (hnx : nx < 8) (hc8 : 0 < c ∧ c ≤ 8) : ∃ G', f_X0_takeBack G 0 = some G' ∧ (∀ s, Pr G (7 * (3 + (nx + 7) % 8)) s → Pr G' 0 s) ∧ (∀ i, i ≠ 88 → 7 ≤ i → G' i = G i) ∧ G' 88 1 = iI (((nx + 7) % 8 : Nat) : Int) ∧ G' 88 2 = iI ((c - 1 : Nat) : Int) := by
  obtain ⟨G1, a1, b1, c1⟩ := become_ok G (u0 := 0) (u1 := 3 + (nx + 7) % 8) (by omega)
  have hq : G1 88 = G 88 := c1 88 (by omega)
  have e0 : (G 88 1 + 8 - 1) - (G 88 1 + 8 - 1) / 8 * 8 = iI (((nx + 7) % 8 : Nat) : Int) := by
    rw [hn, pl1, pl8, iI_add, iI_sub, iI_mod8 (by omega) (by omega)]
    congr 1
    omega
  have e1 : ((((nx + 7) % 8 : Nat) : Int)).toNat = (nx + 7) % 8 := Int.toNat_natCast _
  unfold f_X0_takeBack
  rw [e0, iI_clamp (by omega) (by omega), e1, a1]
  simp only [Option.bind_some, upR_at, upR_upR, hq]
  rw [if_pos (by rw [iI_inb (by omega) (by omega) (by omega)]; omega)]
  refine ⟨_, rfl, fun s hs => Pr_frame (fun i h1 h2 => upR_ne _ _ (by omega)) (b1 s hs), fun i h1 h2 => ?_, ?_, ?_⟩
  · rw [upR_ne _ _ h1, c1 _ (by omega)]
  · rw [upR_at, upd_ne _ _ (by decide), upd_at]
  · rw [upR_at, upd_at, upd_ne _ _ (by decide), hc, pl1, iI_sub]
    congr 1
    omega
/-! the reference's rows -/
theorem cpy_in {f g : Nat → Int32} {sp dp n k : Nat} (h1 : dp ≤ k) (h2 : k < dp + n) : va_cpy f g sp dp n k = f (sp + (k - dp)) := if_pos ⟨h1, h2⟩
theorem cpy_out {f g : Nat → Int32} {sp dp n k : Nat} (h : k < dp ∨ dp + n ≤ k) : va_cpy f g sp dp n k = g k := if_neg (by omega)
theorem cl0 : (0 : Int32).toNatClampNeg = 0 := by decide
theorem cl67 : (67 : Int32).toNatClampNeg = 67 := by decide
theorem cl469 : (469 : Int32).toNatClampNeg = 469 := by decide
def kp (K : GT) : GT := upR (th K 0) 2 (va_cpy (K 1) (K 2) 0 0 67)
theorem kp_2 (K : GT) {j : Nat} (hj : j < 67) : kp K 2 j = K 1 j := by
  unfold kp
  rw [upR_at, cpy_in (by omega) (by omega), Nat.zero_add, Nat.sub_zero]
