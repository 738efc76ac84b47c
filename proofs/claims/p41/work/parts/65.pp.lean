/-! orders: what the class does -/
section PP2
variable {G K : GT} {s : Nat → Int32}
theorem Pr_of {t : Nat → Int32} {F : Nat → Int32} {A1 A2 A3 A4 A5 A6 : Nat → Int32} {G' : GT} (g0 : G' 0 = F) (g1 : G' 1 = A1) (g2 : G' 2 = A2) (g3 : G' 3 = A3) (g4 : G' 4 = A4) (g5 : G' 5 = A5) (g6 : G' 6 = A6) (f0 : F 6 = t 0) (f1 : F 7 = t 1) (f2 : F 8 = t 2) (f3 : F 9 = t 3) (f4 : F 10 = t 4) (a1 : ∀ j, j < 6 → A1 j = t (5 + j)) (a2 : ∀ j, j < 4 → A2 j = t (11 + 2 * j)) (a3 : ∀ j, j < 4 → A3 j = t (12 + 2 * j)) (a4 : ∀ j, j < 16 → A4 j = t (19 + 3 * j)) (a5 : ∀ j, j < 16 → A5 j = t (20 + 3 * j)) (a6 : ∀ j, j < 16 → A6 j = t (21 + 3 * j)) : Pr G' 0 t := by
  unfold Pr
  rw [g0, show 0 + 1 = 1 from rfl, show 0 + 2 = 2 from rfl, show 0 + 3 = 3 from rfl, show 0 + 4 = 4 from rfl, show 0 + 5 = 5 from rfl, show 0 + 6 = 6 from rfl, g1, g2, g3, g4, g5, g6]
  exact ⟨f0, f1, f2, f3, f4, a1, a2, a3, a4, a5, a6⟩
theorem C_do0 (hP : Pr G 0 s) (hI : Inv s) {a : Int} (h2 : nb s < 6) : ∃ G', f_X5_addBar G (iI a) = some (iI (nb s), G') ∧ Pr G' 0 (upd (upd s (5 + nb s) (iI a)) 0 (iI ((nb s + 1 : Nat) : Int))) ∧ ∀ i, 7 ≤ i → G' i = G i := by
  have hPr := hP
  obtain ⟨p0, p1, p2, p3, p4, p5, p6, p7, p8, p9, p10⟩ := hP
  refine ⟨upR (upR G 1 (upd (G 1) (nb s) (iI a))) 0 (upd (G 0) 6 (iI ((nb s + 1 : Nat) : Int))), ?_, ?_, fun i hi => ?_⟩
  · unfold f_X5_addBar
    simp only [Option.bind_some, upR_at, upR_upR, upR_ne _ _ (show 0 ≠ 1 by decide), upd_at]
    have e : iI (nb s) + 1 - 1 = iI (nb s) := by rw [pl1, iI_add, iI_sub]; congr 1; omega
    have e2 : ((nb s : Int)).toNat = nb s := Int.toNat_natCast _
    have e3 : iI (nb s) + 1 = iI ((nb s + 1 : Nat) : Int) := by rw [pl1, iI_add]; rfl
    rw [c_nb hPr hI, iI_put (by omega) (by omega) (by omega), e, e2, e3]
  · have q : ∀ i, i ≠ 0 → i ≠ 5 + nb s → (upd (upd s (5 + nb s) (iI a)) 0 (iI ((nb s + 1 : Nat) : Int))) i = s i := fun i e0 e1 => by
      rw [upd_ne _ _ e0, upd_ne _ _ e1]
    refine Pr_of (upR_at _ _ _) (by rw [upR_ne _ _ (by decide), upR_at]) (by rw [upR_ne _ _ (by decide), upR_ne _ _ (by decide)]) (by rw [upR_ne _ _ (by decide), upR_ne _ _ (by decide)]) (by rw [upR_ne _ _ (by decide), upR_ne _ _ (by decide)]) (by rw [upR_ne _ _ (by decide), upR_ne _ _ (by decide)]) (by rw [upR_ne _ _ (by decide), upR_ne _ _ (by decide)]) (by rw [upd_at, upd_at]) (by rw [q _ (by omega) (by omega)]; rw [upd_ne _ _ (by decide)]; exact p1) (by rw [q _ (by omega) (by omega)]; rw [upd_ne _ _ (by decide)]; exact p2) (by rw [q _ (by omega) (by omega)]; rw [upd_ne _ _ (by decide)]; exact p3) (by rw [q _ (by omega) (by omega)]; rw [upd_ne _ _ (by decide)]; exact p4) (fun j hj => by
      by_cases e : j = nb s
      · rw [e, upd_at, upd_ne _ _ (by omega), upd_at]
      · rw [upd_ne _ _ e, q _ (by omega) (by omega)]; exact p5 j hj) (fun j hj => by rw [q _ (by omega) (by omega)]; exact p6 j hj) (fun j hj => by rw [q _ (by omega) (by omega)]; exact p7 j hj) (fun j hj => by rw [q _ (by omega) (by omega)]; exact p8 j hj) (fun j hj => by rw [q _ (by omega) (by omega)]; exact p9 j hj) (fun j hj => by rw [q _ (by omega) (by omega)]; exact p10 j hj)
  · rw [upR_ne _ _ (by omega), upR_ne _ _ (by omega)]
theorem C_do1 (hP : Pr G 0 s) (hI : Inv s) {a b : Int} (h : 0 ≤ a ∧ a ≤ 3) : ∃ G', f_X5_setKey G (iI a) (iI b) = some (iI (ky s a.toNat), G') ∧ Pr G' 0 (upd s (11 + 2 * a.toNat) (iI b)) ∧ ∀ i, 7 ≤ i → G' i = G i := by
  have hPr := hP
  obtain ⟨p0, p1, p2, p3, p4, p5, p6, p7, p8, p9, p10⟩ := hP
  refine ⟨upR G 2 (upd (G 2) a.toNat (iI b)), ?_, ?_, fun i hi => ?_⟩
  · unfold f_X5_setKey
    rw [c_kyI hPr h, iI_put (by omega) (by omega) (by omega), Option.bind_some]
  · have q : ∀ i, i ≠ 11 + 2 * a.toNat → (upd s (11 + 2 * a.toNat) (iI b)) i = s i := fun i e0 => by
      rw [upd_ne _ _ e0]
    refine Pr_of (upR_ne _ _ (by decide)) (upR_ne _ _ (by decide)) (upR_at _ _ _) (upR_ne _ _ (by decide)) (upR_ne _ _ (by decide)) (upR_ne _ _ (by decide)) (upR_ne _ _ (by decide)) (by rw [q _ (by omega)]; exact p0) (by rw [q _ (by omega)]; exact p1) (by rw [q _ (by omega)]; exact p2) (by rw [q _ (by omega)]; exact p3) (by rw [q _ (by omega)]; exact p4) (fun j hj => by rw [q _ (by omega)]; exact p5 j hj) (fun j hj => by
      by_cases e : j = a.toNat
      · rw [e, upd_at, upd_at]
      · rw [upd_ne _ _ e, q _ (by omega)]; exact p6 j hj) (fun j hj => by rw [q _ (by omega)]; exact p7 j hj) (fun j hj => by rw [q _ (by omega)]; exact p8 j hj) (fun j hj => by rw [q _ (by omega)]; exact p9 j hj) (fun j hj => by rw [q _ (by omega)]; exact p10 j hj)
  · rw [upR_ne _ _ (by omega)]
theorem C_do2 (hP : Pr G 0 s) (hI : Inv s) {a b : Int} (h : 0 ≤ a ∧ a ≤ 3) : ∃ G', f_X5_setLeak G (iI a) (iI b) = some (iI (lk s a.toNat), G') ∧ Pr G' 0 (upd s (12 + 2 * a.toNat) (iI b)) ∧ ∀ i, 7 ≤ i → G' i = G i := by
  have hPr := hP
  obtain ⟨p0, p1, p2, p3, p4, p5, p6, p7, p8, p9, p10⟩ := hP
  refine ⟨upR G 3 (upd (G 3) a.toNat (iI b)), ?_, ?_, fun i hi => ?_⟩
  · unfold f_X5_setLeak
    rw [c_lkI hPr h, iI_put (by omega) (by omega) (by omega), Option.bind_some]
  · have q : ∀ i, i ≠ 12 + 2 * a.toNat → (upd s (12 + 2 * a.toNat) (iI b)) i = s i := fun i e0 => by
      rw [upd_ne _ _ e0]
    refine Pr_of (upR_ne _ _ (by decide)) (upR_ne _ _ (by decide)) (upR_ne _ _ (by decide)) (upR_at _ _ _) (upR_ne _ _ (by decide)) (upR_ne _ _ (by decide)) (upR_ne _ _ (by decide)) (by rw [q _ (by omega)]; exact p0) (by rw [q _ (by omega)]; exact p1) (by rw [q _ (by omega)]; exact p2) (by rw [q _ (by omega)]; exact p3) (by rw [q _ (by omega)]; exact p4) (fun j hj => by rw [q _ (by omega)]; exact p5 j hj) (fun j hj => by rw [q _ (by omega)]; exact p6 j hj) (fun j hj => by
      by_cases e : j = a.toNat
      · rw [e, upd_at, upd_at]
      · rw [upd_ne _ _ e, q _ (by omega)]; exact p7 j hj) (fun j hj => by rw [q _ (by omega)]; exact p8 j hj) (fun j hj => by rw [q _ (by omega)]; exact p9 j hj) (fun j hj => by rw [q _ (by omega)]; exact p10 j hj)
  · rw [upR_ne _ _ (by omega)]
theorem C_do7 (hP : Pr G 0 s) (hI : Inv s) {a b : Int} (h : 0 ≤ a ∧ a < 16) : ∃ G', f_X5_setHeight G (iI a) (iI b) = some (iI (ht s a.toNat), G') ∧ Pr G' 0 (upd s (20 + 3 * a.toNat) (iI b)) ∧ ∀ i, 7 ≤ i → G' i = G i := by
  have hPr := hP
  obtain ⟨p0, p1, p2, p3, p4, p5, p6, p7, p8, p9, p10⟩ := hP
  refine ⟨upR G 5 (upd (G 5) a.toNat (iI b)), ?_, ?_, fun i hi => ?_⟩
  · unfold f_X5_setHeight
    rw [c_htI hPr h, iI_put (by omega) (by omega) (by omega), Option.bind_some]
  · have q : ∀ i, i ≠ 20 + 3 * a.toNat → (upd s (20 + 3 * a.toNat) (iI b)) i = s i := fun i e0 => by
      rw [upd_ne _ _ e0]
    refine Pr_of (upR_ne _ _ (by decide)) (upR_ne _ _ (by decide)) (upR_ne _ _ (by decide)) (upR_ne _ _ (by decide)) (upR_ne _ _ (by decide)) (upR_at _ _ _) (upR_ne _ _ (by decide)) (by rw [q _ (by omega)]; exact p0) (by rw [q _ (by omega)]; exact p1) (by rw [q _ (by omega)]; exact p2) (by rw [q _ (by omega)]; exact p3) (by rw [q _ (by omega)]; exact p4) (fun j hj => by rw [q _ (by omega)]; exact p5 j hj) (fun j hj => by rw [q _ (by omega)]; exact p6 j hj) (fun j hj => by rw [q _ (by omega)]; exact p7 j hj) (fun j hj => by rw [q _ (by omega)]; exact p8 j hj) (fun j hj => by
      by_cases e : j = a.toNat
      · rw [e, upd_at, upd_at]
      · rw [upd_ne _ _ e, q _ (by omega)]; exact p9 j hj) (fun j hj => by rw [q _ (by omega)]; exact p10 j hj)
  · rw [upR_ne _ _ (by omega)]
theorem C_do6 (hP : Pr G 0 s) (hI : Inv s) {a : Int} : ∃ G', f_X5_setFarthest G (iI a) = some (iI (lm s), G') ∧ Pr G' 0 (upd s 2 (iI a)) ∧ ∀ i, 7 ≤ i → G' i = G i := by
  have hPr := hP
  obtain ⟨p0, p1, p2, p3, p4, p5, p6, p7, p8, p9, p10⟩ := hP
  refine ⟨upR G 0 (upd (G 0) 8 (iI a)), ?_, ?_, fun i hi => ?_⟩
  · unfold f_X5_setFarthest
    rw [c_lm hPr, Option.bind_some]
  · have q : ∀ i, i ≠ 2 → (upd s 2 (iI a)) i = s i := fun i e0 => by
      rw [upd_ne _ _ e0]
    refine Pr_of (upR_at _ _ _) (upR_ne _ _ (by decide)) (upR_ne _ _ (by decide)) (upR_ne _ _ (by decide)) (upR_ne _ _ (by decide)) (upR_ne _ _ (by decide)) (upR_ne _ _ (by decide)) (by rw [q _ (by omega)]; rw [upd_ne _ _ (by decide)]; exact p0) (by rw [q _ (by omega)]; rw [upd_ne _ _ (by decide)]; exact p1) (by rw [upd_at, upd_at]) (by rw [q _ (by omega)]; rw [upd_ne _ _ (by decide)]; exact p3) (by rw [q _ (by omega)]; rw [upd_ne _ _ (by decide)]; exact p4) (fun j hj => by rw [q _ (by omega)]; exact p5 j hj) (fun j hj => by rw [q _ (by omega)]; exact p6 j hj) (fun j hj => by rw [q _ (by omega)]; exact p7 j hj) (fun j hj => by rw [q _ (by omega)]; exact p8 j hj) (fun j hj => by rw [q _ (by omega)]; exact p9 j hj) (fun j hj => by rw [q _ (by omega)]; exact p10 j hj)
  · rw [upR_ne _ _ (by omega)]
theorem C_do5 (hP : Pr G 0 s) (hI : Inv s) (h1 : 0 < ns s) : ∃ G', f_X5_takeLast G = some (iI (ln s (ns s - 1)), G') ∧ Pr G' 0 (upd (upd s 1 (iI ((ns s - 1 : Nat) : Int))) 4 (s 4 + iI 1)) ∧ ∀ i, 7 ≤ i → G' i = G i := by
  have hPr := hP
  obtain ⟨p0, p1, p2, p3, p4, p5, p6, p7, p8, p9, p10⟩ := hP
  refine ⟨upR G 0 (upd (upd (G 0) 7 (iI ((ns s - 1 : Nat) : Int))) 10 (s 4 + iI 1)), ?_, ?_, fun i hi => ?_⟩
  · have h16 := hI.ns16
    have e : iI (ns s) - 1 = iI ((ns s - 1 : Nat) : Int) := by rw [pl1, iI_sub]; congr 1; omega
    have e2 : cell32 16 (G 6) (iI ((ns s - 1 : Nat) : Int)) = iI (ln s (ns s - 1)) := c_ln hPr (by omega)
    unfold f_X5_takeLast
    simp only [Option.bind_some, upR_at, upR_upR, upR_ne _ _ (show 6 ≠ 0 by decide), upd_ne _ _ (show 10 ≠ 7 by decide), upd_ne _ _ (show 7 ≠ 10 by decide), upd_at]
    rw [c_ns hPr hI, e, e2, p4]
    rfl
  · have q : ∀ i, i ≠ 1 → i ≠ 4 → (upd (upd s 1 (iI ((ns s - 1 : Nat) : Int))) 4 (s 4 + iI 1)) i = s i := fun i e0 e1 => by
      rw [upd_ne _ _ e1, upd_ne _ _ e0]
    refine Pr_of (upR_at _ _ _) (upR_ne _ _ (by decide)) (upR_ne _ _ (by decide)) (upR_ne _ _ (by decide)) (upR_ne _ _ (by decide)) (upR_ne _ _ (by decide)) (upR_ne _ _ (by decide)) (by rw [q _ (by omega) (by omega)]; rw [upd_ne _ _ (by decide), upd_ne _ _ (by decide)]; exact p0) (by rw [upd_ne _ _ (by decide), upd_at, upd_ne _ _ (by decide), upd_at]) (by rw [q _ (by omega) (by omega)]; rw [upd_ne _ _ (by decide), upd_ne _ _ (by decide)]; exact p2) (by rw [q _ (by omega) (by omega)]; rw [upd_ne _ _ (by decide), upd_ne _ _ (by decide)]; exact p3) (by rw [upd_at, upd_at]) (fun j hj => by rw [q _ (by omega) (by omega)]; exact p5 j hj) (fun j hj => by rw [q _ (by omega) (by omega)]; exact p6 j hj) (fun j hj => by rw [q _ (by omega) (by omega)]; exact p7 j hj) (fun j hj => by rw [q _ (by omega) (by omega)]; exact p8 j hj) (fun j hj => by rw [q _ (by omega) (by omega)]; exact p9 j hj) (fun j hj => by rw [q _ (by omega) (by omega)]; exact p10 j hj)
  · rw [upR_ne _ _ (by omega)]
theorem C_do3 (hP : Pr G 0 s) (hI : Inv s) {a b c : Int} (h4 : ns s < 16) : ∃ G', f_X5_addSound G (iI a) (iI b) (iI c) = some (iI (ns s), G') ∧ Pr G' 0 (st1 s a b c) ∧ ∀ i, 7 ≤ i → G' i = G i := by
  have hPr := hP
  obtain ⟨p0, p1, p2, p3, p4, p5, p6, p7, p8, p9, p10⟩ := hP
  refine ⟨upR (upR (upR (upR G 4 (upd (G 4) (ns s) (iI a))) 5 (upd (G 5) (ns s) (iI b))) 6 (upd (G 6) (ns s) (iI c))) 0 (upd (upd (G 0) 7 (iI ((ns s + 1 : Nat) : Int))) 9 (s 3 + iI 1)), ?_, ?_, fun i hi => ?_⟩
  · have e : iI (ns s) + 1 - 1 = iI (ns s) := by rw [pl1, iI_add, iI_sub]; congr 1; omega
    have e2 : ((ns s : Int)).toNat = ns s := Int.toNat_natCast _
    have d : ∀ f : Nat → Int32, put32 16 f (iI (ns s)) = fun v => upd f (ns s) v := fun f => by
      funext v
      rw [iI_put (by omega) (by omega) (by omega), e2]
    have e3 : iI (ns s) + 1 = iI ((ns s + 1 : Nat) : Int) := by rw [pl1, iI_add]; rfl
    have n0 := c_ns hPr hI
    unfold f_X5_addSound
    simp only [Option.bind_some, upR_at, upR_upR, upR_ne _ _ (show 0 ≠ 4 by decide), upR_ne _ _ (show 0 ≠ 5 by decide), upR_ne _ _ (show 0 ≠ 6 by decide), upR_ne _ _ (show 5 ≠ 4 by decide), upR_ne _ _ (show 6 ≠ 4 by decide), upR_ne _ _ (show 6 ≠ 5 by decide), upd_ne _ _ (show 9 ≠ 7 by decide), upd_ne _ _ (show 7 ≠ 9 by decide), upd_at, n0, d, e, p3]
    rw [e3]
    rfl
  · have q : ∀ i, i ≠ 19 + 3 * ns s → i ≠ 20 + 3 * ns s → i ≠ 21 + 3 * ns s → i ≠ 1 → i ≠ 3 → (st1 s a b c) i = s i := fun i e0 e1 e2 e3 e4 => by
      unfold st1
      rw [upd_ne _ _ e4, upd_ne _ _ e3, upd_ne _ _ e2, upd_ne _ _ e1, upd_ne _ _ e0]
    have q1 : st1 s a b c 1 = iI ((ns s + 1 : Nat) : Int) := by unfold st1; rw [upd_ne _ _ (by omega), upd_at]
    have q5 : st1 s a b c 3 = s 3 + iI 1 := by unfold st1; rw [upd_at]
    have q2 : st1 s a b c (19 + 3 * ns s) = iI a := by
      unfold st1
      rw [upd_ne _ _ (by omega), upd_ne _ _ (by omega), upd_ne _ _ (by omega), upd_ne _ _ (by omega), upd_at]
    have q3 : st1 s a b c (20 + 3 * ns s) = iI b := by
      unfold st1
      rw [upd_ne _ _ (by omega), upd_ne _ _ (by omega), upd_ne _ _ (by omega), upd_at]
    have q4 : st1 s a b c (21 + 3 * ns s) = iI c := by
      unfold st1
      rw [upd_ne _ _ (by omega), upd_ne _ _ (by omega), upd_at]
    refine Pr_of (upR_at _ _ _) (by rw [upR_ne _ _ (by decide), upR_ne _ _ (by decide), upR_ne _ _ (by decide), upR_ne _ _ (by decide)]) (by rw [upR_ne _ _ (by decide), upR_ne _ _ (by decide), upR_ne _ _ (by decide), upR_ne _ _ (by decide)]) (by rw [upR_ne _ _ (by decide), upR_ne _ _ (by decide), upR_ne _ _ (by decide), upR_ne _ _ (by decide)]) (by rw [upR_ne _ _ (by decide), upR_ne _ _ (by decide), upR_ne _ _ (by decide), upR_at]) (by rw [upR_ne _ _ (by decide), upR_ne _ _ (by decide), upR_at]) (by rw [upR_ne _ _ (by decide), upR_at]) (by rw [q _ (by omega) (by omega) (by omega) (by omega) (by omega)]; rw [upd_ne _ _ (by decide), upd_ne _ _ (by decide)]; exact p0) (by rw [upd_ne _ _ (by decide), upd_at, q1]) (by rw [q _ (by omega) (by omega) (by omega) (by omega) (by omega)]; rw [upd_ne _ _ (by decide), upd_ne _ _ (by decide)]; exact p2) (by rw [upd_at, q5]) (by rw [q _ (by omega) (by omega) (by omega) (by omega) (by omega)]; rw [upd_ne _ _ (by decide), upd_ne _ _ (by decide)]; exact p4) (fun j hj => by rw [q _ (by omega) (by omega) (by omega) (by omega) (by omega)]; exact p5 j hj) (fun j hj => by rw [q _ (by omega) (by omega) (by omega) (by omega) (by omega)]; exact p6 j hj) (fun j hj => by rw [q _ (by omega) (by omega) (by omega) (by omega) (by omega)]; exact p7 j hj) (fun j hj => by
      by_cases e : j = ns s
      · rw [e, upd_at, q2]
      · rw [upd_ne _ _ e, q _ (by omega) (by omega) (by omega) (by omega) (by omega)]; exact p8 j hj) (fun j hj => by
      by_cases e : j = ns s
      · rw [e, upd_at, q3]
      · rw [upd_ne _ _ e, q _ (by omega) (by omega) (by omega) (by omega) (by omega)]; exact p9 j hj) (fun j hj => by
      by_cases e : j = ns s
      · rw [e, upd_at, q4]
      · rw [upd_ne _ _ e, q _ (by omega) (by omega) (by omega) (by omega) (by omega)]; exact p10 j hj)
  · rw [upR_ne _ _ (by omega), upR_ne _ _ (by omega), upR_ne _ _ (by omega), upR_ne _ _ (by omega)]
theorem car0 (G : GT) (a2 a3 a4 : Int32) : f_X1_carryOut G 0 a2 a3 a4 = (bind2 (f_X5_addBar G a2) fun r G => some (r, G)) := by
  unfold f_X1_carryOut
  rw [if_pos rfl]
theorem car1 (G : GT) (a2 a3 a4 : Int32) : f_X1_carryOut G 1 a2 a3 a4 = (bind2 (f_X5_setKey G a2 a3) fun r G => some (r, G)) := by
  unfold f_X1_carryOut
  rw [if_neg (by decide), if_pos rfl]
theorem car2 (G : GT) (a2 a3 a4 : Int32) : f_X1_carryOut G 2 a2 a3 a4 = (bind2 (f_X5_setLeak G a2 a3) fun r G => some (r, G)) := by
  unfold f_X1_carryOut
  rw [if_neg (by decide), if_neg (by decide), if_pos rfl]
theorem car3 (G : GT) (a2 a3 a4 : Int32) : f_X1_carryOut G 3 a2 a3 a4 = (bind2 (f_X5_addSound G a2 a3 a4) fun r G => some (r, G)) := by
  unfold f_X1_carryOut
  rw [if_neg (by decide), if_neg (by decide), if_neg (by decide), if_pos rfl]
theorem car4 (G : GT) (a2 a3 a4 : Int32) : f_X1_carryOut G 4 a2 a3 a4 = ((f_X5_leakOf G a2).bind fun r11 => bind2 (f_X5_addSound G a2 (-1) r11) fun r G => some (r, G)) := by
  unfold f_X1_carryOut
  rw [if_neg (by decide), if_neg (by decide), if_neg (by decide), if_neg (by decide), if_pos rfl]
theorem car5 (G : GT) (a2 a3 a4 : Int32) : f_X1_carryOut G 5 a2 a3 a4 = (bind2 (f_X5_takeLast G) fun r G => some (r, G)) := by
  unfold f_X1_carryOut
  rw [if_neg (by decide), if_neg (by decide), if_neg (by decide), if_neg (by decide), if_neg (by decide), if_pos rfl]
theorem car6 (G : GT) (a2 a3 a4 : Int32) : f_X1_carryOut G 6 a2 a3 a4 = (bind2 (f_X5_setFarthest G a2) fun r G => some (r, G)) := by
  unfold f_X1_carryOut
  rw [if_neg (by decide), if_neg (by decide), if_neg (by decide), if_neg (by decide), if_neg (by decide), if_neg (by decide), if_pos rfl]
theorem car7 (G : GT) (a2 a3 a4 : Int32) : f_X1_carryOut G 7 a2 a3 a4 = (bind2 (f_X5_setHeight G a2 a3) fun r G => some (r, G)) := by
  unfold f_X1_carryOut
  rw [if_neg (by decide), if_neg (by decide), if_neg (by decide), if_neg (by decide), if_neg (by decide), if_neg (by decide), if_neg (by decide)]
theorem an0 (s : Nat → Int32) (a : Int) : an s 0 a = (nb s : Int) := by
  unfold an
  rw [if_pos rfl]
theorem an1 (s : Nat → Int32) (a : Int) : an s 1 a = ky s a.toNat := by
  unfold an
  rw [if_neg (by decide), if_pos rfl]
theorem an2 (s : Nat → Int32) (a : Int) : an s 2 a = lk s a.toNat := by
  unfold an
  rw [if_neg (by decide), if_neg (by decide), if_pos rfl]
theorem an3 (s : Nat → Int32) (a : Int) : an s 3 a = (ns s : Int) := by
  unfold an
  rw [if_neg (by decide), if_neg (by decide), if_neg (by decide), if_pos rfl]
theorem an4 (s : Nat → Int32) (a : Int) : an s 4 a = (ns s : Int) := by
  unfold an
  rw [if_neg (by decide), if_neg (by decide), if_neg (by decide), if_neg (by decide), if_pos rfl]
theorem an5 (s : Nat → Int32) (a : Int) : an s 5 a = ln s (ns s - 1) := by
  unfold an
  rw [if_neg (by decide), if_neg (by decide), if_neg (by decide), if_neg (by decide), if_neg (by decide), if_pos rfl]
theorem an6 (s : Nat → Int32) (a : Int) : an s 6 a = lm s := by
  unfold an
  rw [if_neg (by decide), if_neg (by decide), if_neg (by decide), if_neg (by decide), if_neg (by decide), if_neg (by decide), if_pos rfl]
theorem an7 (s : Nat → Int32) (a : Int) : an s 7 a = ht s a.toNat := by
  unfold an
  rw [if_neg (by decide), if_neg (by decide), if_neg (by decide), if_neg (by decide), if_neg (by decide), if_neg (by decide), if_neg (by decide)]
theorem C_do (hP : Pr G 0 s) (hI : Inv s) {o : Nat} {a b c : Int} (ho : o < 8) (h : (vd s o a b c).1 = 0) : ∃ G', f_X1_carryOut G o (iI a) (iI b) (iI c) = some (iI (an s o a), G') ∧ Pr G' 0 (nw s o a b c) ∧ ∀ i, 7 ≤ i → G' i = G i := by
  obtain rfl | rfl | rfl | rfl | rfl | rfl | rfl | rfl : o = 0 ∨ o = 1 ∨ o = 2 ∨ o = 3 ∨ o = 4 ∨ o = 5 ∨ o = 6 ∨ o = 7 := by omega
  · rw [nw0, car0, an0, b2id]; exact C_do0 hP hI (ok0 h).2
  · have e : vd s 1 a b c = vt a b (ky s a.toNat) 11 := rfl
    rw [e] at h
    rw [nw1, car1, an1, b2id]; exact C_do1 hP hI (vt_ok h).1
  · have e : vd s 2 a b c = vt a b (lk s a.toNat) 3 := rfl
    rw [e] at h
    rw [nw2, car2, an2, b2id]; exact C_do2 hP hI (vt_ok h).1
  · rw [nw3, car3, an3, b2id]; exact C_do3 hP hI (ok3 h).2.2.2.1
  · obtain ⟨h1, h2, h4, h5⟩ := ok4 h
    have hl : f_X5_leakOf G (iI a) = some (iI (lk s a.toNat)) := congrArg some (c_lkI hP h1)
    rw [nw4, car4, an4, hl, Option.bind_some, b2id, show (-1 : Int32) = iI (-1) from rfl]; exact C_do3 (b := -1) hP hI h4
  · rw [nw5, car5, an5, b2id]; exact C_do5 hP hI (ok5 h)
  · rw [nw6, car6, an6, b2id]; exact C_do6 hP hI
  · have h16 := hI.ns16
    have := (ok7 h).1
    rw [nw7, car7, an7, b2id]; exact C_do7 hP hI (by omega)
end PP2
