/-! changes, history -/
def Hg (G : GT) (L : List (Nat → Int32)) : Prop := ∃ nx c : Nat, nx < 8 ∧ c ≤ 8 ∧ G 88 1 = iI nx ∧ G 88 2 = iI c ∧ L.length ≤ c ∧ ∀ (i : Nat) (h : i < L.length), Pr G (7 * (3 + (nx + 7 - i) % 8)) L[i] ∧ Inv L[i]
def Tg (G : GT) : Prop := ∃ n : Nat, n ≤ 60 ∧ G 84 3 = iI n ∧ ∀ j, j < n → okC (G 85 j)
/-- a print s, what can be undone, newest first, and the text that was appended -/
def Cs (G : GT) (s : Nat → Int32) (L : List (Nat → Int32)) : Prop := Pr G 0 s ∧ Inv s ∧ Hg G L ∧ Tg G
section FL
variable {G G' : GT} {s : Nat → Int32} {L : List (Nat → Int32)}
theorem Hg_frame (h : Hg G L) (h1 : ∀ i, 21 ≤ i → i < 77 → G' i = G i) (h2 : G' 88 = G 88) : Hg G' L := by
  obtain ⟨nx, c, a1, a2, a3, a4, a5, a6⟩ := h
  refine ⟨nx, c, a1, a2, by rw [h2]; exact a3, by rw [h2]; exact a4, a5, fun i hi => ⟨Pr_frame (fun j h3 h4 => h1 j (by omega) (by omega)) (a6 i hi).1, (a6 i hi).2⟩⟩
theorem Tg_frame (h : Tg G) (h1 : G' 84 = G 84) (h2 : G' 85 = G 85) : Tg G' := by
  obtain ⟨n, a1, a2, a3⟩ := h
  exact ⟨n, a1, by rw [h1]; exact a2, by rw [h2]; exact a3⟩
theorem Cs_frame (h : Cs G s L) (h0 : ∀ i, i < 77 → G' i = G i) (h2 : G' 88 = G 88) (h3 : G' 84 = G 84) (h4 : G' 85 = G 85) : Cs G' s L := ⟨Pr_frame (fun i _ h6 => h0 i (by omega)) h.1, h.2.1, Hg_frame h.2.2.1 (fun i _ h6 => h0 i h6) h2, Tg_frame h.2.2.2 h3 h4⟩
theorem Cs_jd (h : Cs G s L) (x y : Int) : Cs (jd G x y) s L := Cs_frame h (fun i hi => upR_ne _ _ (by omega)) (upR_ne _ _ (by decide)) (upR_ne _ _ (by decide)) (upR_ne _ _ (by decide))
/-- a page kept, then a change of the print alone -/
theorem Hg_keep {G2 G3 : GT} {nx c : Nat} (a1 : nx < 8) (a2 : c ≤ 8) (a5 : L.length ≤ c) (a6 : ∀ (i : Nat) (h : i < L.length), Pr G (7 * (3 + (nx + 7 - i) % 8)) L[i] ∧ Inv L[i]) (hI : Inv s) (g1 : Pr G2 (7 * (3 + nx)) s) (g2 : ∀ i, 21 ≤ i → i < 77 → (i < 7 * (3 + nx) ∨ 7 * (3 + nx) + 7 ≤ i) → G2 i = G i) (g3 : G2 88 1 = iI (((nx + 1) % 8 : Nat) : Int)) (g4 : G2 88 2 = iI ((min (c + 1) 8 : Nat) : Int)) (g5 : ∀ i, 7 ≤ i → G3 i = G2 i) : Hg G3 ((s :: L).take 8) := by
  refine ⟨(nx + 1) % 8, min (c + 1) 8, by omega, by omega, by rw [g5 88 (by omega)]; exact g3, by rw [g5 88 (by omega)]; exact g4, by rw [List.length_take, List.length_cons]; omega, fun i hi => ?_⟩
  rw [List.length_take, List.length_cons] at hi
  rw [List.getElem_take]
  cases i with
  | zero =>
    have e : ((nx + 1) % 8 + 7 - 0) % 8 = nx := by omega
    rw [e]
    exact ⟨Pr_frame (fun j h1 h2 => g5 j (by omega)) g1, hI⟩
  | succ i =>
    have e : ((nx + 1) % 8 + 7 - (i + 1)) % 8 = (nx + 7 - i) % 8 := by omega
    have h := a6 i (by omega)
    rw [e, List.getElem_cons_succ]
    refine ⟨Pr_frame (fun j h1 h2 => ?_) h.1, h.2⟩
    rw [g5 j (by omega), g2 j (by omega) (by omega) (by omega)]
/-- what a change answers and leaves -/
theorem ch_ok (hC : Cs G s L) {o : Nat} {a b c : Int} (ho : o < 8) (ha : R32 a) (hb : R32 b) (hc : R32 c) : ((vd s o a b c).1 = 0 ∧ ∃ G', f_X9_change G o (iI a) (iI b) (iI c) = some (.inr (iI (an s o a)), G') ∧ Cs G' (nw s o a b c) ((s :: L).take 8)) ∨ ((vd s o a b c).1 = 1 ∧ f_X9_change G o (iI a) (iI b) (iI c) = some (.inl 0, G)) ∨ ((vd s o a b c).1 = 2 ∧ f_X9_change G o (iI a) (iI b) (iI c) = some (.inl 1, G)) ∨ ((vd s o a b c).1 = 3 ∧ f_X9_change G o (iI a) (iI b) (iI c) = some (.inl 2, jd G (vd s o a b c).2.1 (vd s o a b c).2.2)) := by
  obtain ⟨hP, hI, hH, hT⟩ := hC
  have hv := C_vd hP hI ho ha hb hc
  obtain ⟨v, x, y, e, hal⟩ := vd_al s ho a b c
  rw [e] at hv ⊢
  have hv4 : v = 0 ∨ v = 1 ∨ v = 2 ∨ v = 3 := by unfold alw at hal; omega
  obtain rfl | rfl | rfl | rfl := hv4
  · refine Or.inl ⟨rfl, ?_⟩
    rw [vd2_0] at hv
    obtain ⟨nx, c2, a1, a2, a3, a4, a5, a6⟩ := hH
    obtain ⟨G2, k1, k2, k3, k4, k5⟩ := keep_ok G (u1 := 0) a3 a4 a1 a2 (by omega)
    have hP2 : Pr G2 0 s := Pr_frame (fun i h1 h2 => k3 i (by omega) (by omega)) hP
    obtain ⟨G3, d1, d2, d3⟩ := C_do hP2 hI (o := o) (a := a) (b := b) (c := c) ho (by rw [e])
    refine ⟨G3, ?_, d2, Inv_nw hI ho (by rw [e]), Hg_keep a1 a2 a5 a6 hI (k2 s hP) (fun i _ h7 h8 => k3 i (by omega) h8) k4 k5 d3, ?_⟩
    · rw [c_fine G hv, k1, Option.bind_some, d1, b2s]
    · refine Tg_frame hT ?_ ?_
      · rw [d3 84 (by omega), k3 84 (by omega) (by omega)]
      · rw [d3 85 (by omega), k3 85 (by omega) (by omega)]
  · exact Or.inr (Or.inl ⟨rfl, c_fail1 G hv⟩)
  · exact Or.inr (Or.inr (Or.inl ⟨rfl, c_fail2 G hv⟩))
  · exact Or.inr (Or.inr (Or.inr ⟨rfl, c_fail3 G hv⟩))
/-- undo, when there is something to undo -/
theorem un_ok {t : Nat → Int32} (hC : Cs G s (t :: L)) : ∃ (v : Int) (G' : GT), fw_undo G = some (iI v, G') ∧ 0 ≤ v ∧ v ≤ 8 ∧ Cs G' t L := by
  obtain ⟨hP, hI, ⟨nx, c, a1, a2, a3, a4, a5, a6⟩, hT⟩ := hC
  rw [List.length_cons] at a5
  obtain ⟨G2, k1, k2, k3, k4, k5⟩ := back_ok G a3 a4 a1 ⟨by omega, a2⟩
  have h0 := a6 0 (by rw [List.length_cons]; omega)
  have hP2 : Pr G2 0 t := k2 t h0.1
  have e : f_X9_undo G = some (.inr (iI ((c - 1 : Nat) : Int)), G2) := by
    unfold f_X9_undo f_X0_countOfChanges
    rw [a4, Option.bind_some, if_neg (by rw [pl0, iI_le (by omega) (by omega) (by omega) (by omega)]; omega)]
    unfold f_X9_undo_15
    rw [if_neg (by decide), k1, Option.bind_some]
    show some (Sum.inr (G2 88 2), G2) = _
    rw [k5]
  refine ⟨((c - 1 : Nat) : Int), G2, ?_, by omega, by omega, hP2, h0.2, ?_, Tg_frame hT (k3 84 (by decide) (by decide)) (k3 85 (by decide) (by decide))⟩
  · unfold fw_undo
    rw [e]
    rfl
  · refine ⟨(nx + 7) % 8, c - 1, by omega, by omega, k4, k5, by omega, fun i hi => ?_⟩
    have h := a6 (i + 1) (by rw [List.length_cons]; omega)
    have e2 : ((nx + 7) % 8 + 7 - i) % 8 = (nx + 7 - (i + 1)) % 8 := by omega
    rw [List.getElem_cons_succ] at h
    rw [e2]
    exact ⟨Pr_frame (fun j h1 h2 => k3 j (by omega) (by omega)) h.1, h.2⟩
end FL
