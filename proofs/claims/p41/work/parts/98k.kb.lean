/-! undone: the pure part -/
theorem f_L_undone_366_s (L_X0 : Nat) (xs_X0 : Nat → Int32) (W_j2 : Nat → Int64) (f : Nat) (G : GT) (x4 : Int32) : f_L_undone_366 L_X0 xs_X0 W_j2 (f + 1) G x4 = (if x4 < 0 then some ((1 : Int32), G) else (bind2 (fw_undo G ) fun r2 G2 => (if r2 < 0 then some ((0 : Int32), G2) else (bind2 (f_L_sum G2 ) fun r4 G4 => (if inb x4 9 then (if (lg_cmp r4 (W_j2 x4.toNatClampNeg)) = 0 then (f_L_undone_366 L_X0 xs_X0 W_j2 f) G4 (x4 + (-1)) else some ((0 : Int32), G4)) else none))))) := rfl
theorem f_L_undone_10_s (L_X0 : Nat) (xs_X0 : Nat → Int32) (f : Nat) (G : GT) (W_j2 : Nat → Int64) (x3 : Int32) (x4 : Int32) : f_L_undone_10 L_X0 xs_X0 (f + 1) G W_j2 x3 x4 = (if (7 : Int32) ≤ x4 then f_L_undone_366 L_X0 xs_X0 W_j2 8 G (x3 - (1 : Int32)) else (bind2 (f_L_cell G L_X0 xs_X0 ((18 : Int32) + x4)) fun r42 G42 => f_L_undone_36 L_X0 xs_X0 (f_L_undone_10 L_X0 xs_X0 f) W_j2 x3 x4 ((r42.toUInt32 >>> ((1 : Int32).toUInt32 &&& Int32.toUInt32 31)).toInt32) ((((r42.toUInt32 >>> ((1 : Int32).toUInt32 &&& Int32.toUInt32 31)).toInt32).toUInt32 >>> ((4 : Int32).toUInt32 &&& Int32.toUInt32 31)).toInt32) G42)) := rfl
section FU
variable {G : GT} {s : Nat → Int32} {L : List (Nat → Int32)}
theorem L_run {T : List Int32} (hC0 : Cs G s L) (hT : T.length ≤ 32) : Ch G s L (f_L_run G T) := by
  have e1 : nI T.length = iI (T.length : Int) := lit_nI _
  have key : ∀ (m i f : Nat) (G1 : GT), i + m = T.length → m < f → Cs G1 s L → Ch G s L (f_L_run_2 T f G1 (iI (i : Int))) := by
    intro m
    induction m with
    | zero =>
      intro i f G1 h1 h2 hC
      obtain ⟨f, rfl⟩ : ∃ g, f = g + 1 := ⟨f - 1, by omega⟩
      obtain ⟨v, G', a1, a2⟩ := L_runs hC
      rw [f_L_run_2_s, if_pos (by rw [e1, iI_le (by omega) (by omega) (by omega) (by omega)]; omega), a1, b2s]
      exact ⟨v, G', rfl, a2⟩
    | succ m ih =>
      intro i f G1 h1 h2 hC
      obtain ⟨f, rfl⟩ : ∃ g, f = g + 1 := ⟨f - 1, by omega⟩
      obtain ⟨v, G', a1, a2⟩ := L_app hC (chT T (iI (i : Int)))
      rw [f_L_run_2_s, if_neg (by rw [e1, iI_le (by omega) (by omega) (by omega) (by omega)]; omega), if_pos (by rw [iI_inb (by omega) (by omega) (by omega)]; omega), a1, b2s]
      by_cases hv : v = iI (i : Int) + (1 : Int32)
      · rw [if_pos hv, show iI (i : Int) + 1 = iI ((i + 1 : Nat) : Int) by rw [pl1, iI_add]; rfl]
        exact ih (i + 1) f G' (by omega) (by omega) a2
      · rw [if_neg hv]
        exact ⟨_, G', rfl, Or.inr ⟨by decide, a2⟩⟩
  exact key T.length 0 33 G (by omega) (by omega) hC0
def WS (W : Nat → Int64) : List (Nat → Int32) → Prop
  | [] => True
  | t :: L => W L.length = SU t ∧ WS W L
theorem WS_up {W : Nat → Int64} {x : Int64} {n : Nat} : ∀ {L : List (Nat → Int32)}, L.length ≤ n → WS W L → WS (va_up W n x) L := by
  intro L
  induction L with
  | nil => intro _ _; exact True.intro
  | cons t L ih =>
    intro h1 h2
    have h1 : L.length + 1 ≤ n := h1
    have h2 : W L.length = SU t ∧ WS W L := h2
    exact ⟨by rw [← h2.1]; show (if L.length = n then x else W L.length) = _; rw [if_neg (by omega)], ih (by omega) h2.2⟩
theorem cmp0 (x : Int64) : lg_cmp x x = 0 := (lg_cmp_eq x x).mpr rfl
theorem U366 (N : Nat) (xs : Nat → Int32) (W : Nat → Int64) : ∀ (L : List (Nat → Int32)) (s : Nat → Int32) (G : GT) (f : Nat), L.length < f → L.length ≤ 9 → Cs G s L → WS W L → ∃ G', f_L_undone_366 N xs W f G (iI ((L.length : Int) - 1)) = some (iI 1, G') := by
  intro L
  induction L with
  | nil =>
    intro s G f h1 _ hC _
    obtain ⟨f, rfl⟩ : ∃ g, f = g + 1 := ⟨f - 1, by have h1 : 0 < f := h1; omega⟩
    exact ⟨G, by rw [f_L_undone_366_s, if_pos (by decide)]; rfl⟩
  | cons t L ih =>
    intro s G f h1 h2 hC hW
    have h1 : L.length + 1 < f := h1
    have hW : W L.length = SU t ∧ WS W L := hW
    have h2 : L.length + 1 ≤ 9 := h2
    obtain ⟨f, rfl⟩ : ∃ g, f = g + 1 := ⟨f - 1, by omega⟩
    obtain ⟨v, G1, a1, a2, a3, a4⟩ := un_ok hC
    obtain ⟨G', b1⟩ := ih t G1 f (by omega) (by omega) a4 hW.2
    refine ⟨G', ?_⟩
    have el : (((t :: L).length : Nat) : Int) - 1 = (L.length : Int) := by show ((L.length + 1 : Nat) : Int) - 1 = _; omega
    rw [el, f_L_undone_366_s, if_neg (by rw [pl0, iI_lt (by omega) (by omega) (by omega) (by omega)]; omega), a1, b2s, if_neg (by rw [pl0, iI_lt (by omega) (by omega) (by omega) (by omega)]; omega), L_sum a4.1 a4.2.1, b2s, if_pos (by rw [iI_inb (by omega) (by omega) (by omega)]; omega), cln (by omega), hW.1, cmp0, if_pos rfl]
    have e9 : iI (L.length : Int) + (-1) = iI ((L.length : Int) - 1) := by
      rw [show (-1 : Int32) = iI (-1) from rfl, iI_add]
      rfl
    rw [e9]
    exact b1
def Cv (s : Nat → Int32) (L : List (Nat → Int32)) (v : Int32) (G' : GT) : Prop := (¬ v < 0 ∧ ∃ s', Cs G' s' ((s :: L).take 8)) ∨ (v < 0 ∧ Cs G' s L)
theorem st_l : (stB 12).length = 11 ∧ (stB 13).length = 4 ∧ (stB 14).length = 6 ∧ (stB 15).length = 2 ∧ (stB 16).length = 5 ∧ (stB 6).length = 0 := by decide
theorem U307 (N : Nat) (xs : Nat → Int32) (k : GT → (Nat → Int64) → Int32 → Int32 → Option (Int32 × GT)) (W : Nat → Int64) (x3 x4 : Int32) (hC : Cs G s L) {T0 T1 : List Int32} (hT : T1.length + T0.length ≤ 27) : ∃ v G', f_L_undone_307 N xs k W x3 x4 T0 T1 G = f_L_undone_324 N xs k W x3 x4 v G' ∧ Cv s L v G' := by
  have h5 := st_l.2.2.2.2.1
  have hl : (T1 ++ T0).length ≤ 27 := by rw [List.length_append]; exact hT
  obtain ⟨v, G', a1, a2⟩ := L_run hC (T := (T1 ++ T0) ++ stB 16) (by rw [List.length_append]; omega)
  refine ⟨v, G', ?_, a2⟩
  unfold f_L_undone_307
  rw [if_pos (by omega), if_pos (by omega), a1, b2s]
theorem U36 {N : Nat} (xs : Nat → Int32) (k : GT → (Nat → Int64) → Int32 → Int32 → Option (Int32 × GT)) (W : Nat → Int64) {d : Nat} (hd : d ≤ 7) (x4 x5 : Int32) {e : Int} (he : 0 ≤ e ∧ e ≤ 2147483647) (hC : Cs G s L) : ∃ v G', f_L_undone_36 N xs k W (iI (d : Int)) x4 x5 (iI e) G = f_L_undone_324 N xs k (va_up W d (SU s)) (iI (d : Int)) x4 v G' ∧ Cv s L v G' := by
  have hgo : ∀ {x : Option (Int32 × GT)}, Ch G s L x → ∃ v G', (bind2 x fun r G' => f_L_undone_324 N xs k (va_up W d (SU s)) (iI (d : Int)) x4 r G') = f_L_undone_324 N xs k (va_up W d (SU s)) (iI (d : Int)) x4 v G' ∧ Cv s L v G' := by
    intro x ⟨v, G', h1, h2⟩
    exact ⟨v, G', by rw [h1, b2s], h2⟩
  unfold f_L_undone_36
  rw [L_sum hC.1 hC.2.1, b2s, if_pos (by rw [iI_inb (by omega) (by omega) (by omega)]; omega), cln (by omega), Option.bind_some]
  by_cases c0 : x5 - x5 / (9 : Int32) * (9 : Int32) = 0
  · rw [if_pos c0]
    exact hgo (Ch_bar hC _)
  rw [if_neg c0]
  by_cases c1 : x5 - x5 / (9 : Int32) * (9 : Int32) = 1
  · rw [if_pos c1]
    exact hgo (Ch_key hC _ _)
  rw [if_neg c1]
  by_cases c2 : x5 - x5 / (9 : Int32) * (9 : Int32) = 2
  · rw [if_pos c2]
    exact hgo (Ch_leak hC _ _)
  rw [if_neg c2]
  by_cases c3 : x5 - x5 / (9 : Int32) * (9 : Int32) = 3
  · rw [if_pos c3]
    exact hgo (Ch_drop hC _ _ _)
  rw [if_neg c3]
  by_cases c4 : x5 - x5 / (9 : Int32) * (9 : Int32) = 4
  · rw [if_pos c4]
    exact hgo (Ch_rest hC _)
  rw [if_neg c4]
  by_cases c5 : x5 - x5 / (9 : Int32) * (9 : Int32) = 5
  · rw [if_pos c5]
    exact hgo (Ch_lift hC)
  rw [if_neg c5]
  by_cases c6 : x5 - x5 / (9 : Int32) * (9 : Int32) = 6
  · rw [if_pos c6]
    exact hgo (Ch_limit hC _)
  rw [if_neg c6]
  by_cases c7 : x5 - x5 / (9 : Int32) * (9 : Int32) = 7
  · rw [if_pos c7]
    exact hgo (Ch_tune hC _ _)
  rw [if_neg c7]
  have m4 : iI e - iI e / (4 : Int32) * (4 : Int32) = iI (e % 4) := modI he (m := 4) (by omega)
  have m16 : iI e - iI e / (16 : Int32) * (16 : Int32) = iI (e % 16) := modI he (m := 16) (by omega)
  have r4 := mod_r (a := e) (m := 4) (by omega)
  have r16 := mod_r (a := e) (m := 16) (by omega)
  obtain ⟨l12, l13, l14, l15, l16, l6⟩ := st_l
  rw [m4, m16]
  obtain ⟨a, ha⟩ : ∃ a : Nat, e % 4 = a := ⟨(e % 4).toNat, by omega⟩
  obtain ⟨b, hb⟩ : ∃ a : Nat, e % 16 = a := ⟨(e % 16).toNat, by omega⟩
  rw [ha, hb, cln (by omega), cln (by omega)]
  have n1 := dgs_len a
  have n2 := dgs_len b
  rw [if_pos (by rw [List.length_nil]; omega), if_pos ⟨by rw [iI_inb (by omega) (by omega) (by omega)]; omega, by rw [List.nil_append]; omega⟩, if_pos (by rw [List.nil_append, List.length_append]; omega)]
  have t1 : (((([] : List Int32) ++ stB 12) ++ dgs a) ++ stB 13).length ≤ 17 := by
    rw [List.nil_append, List.length_append, List.length_append]; omega
  by_cases c8 : (9 : Int32) ≤ x5 - x5 / (18 : Int32) * (18 : Int32)
  · rw [if_pos c8, if_pos (by rw [List.length_nil]; omega), if_pos ⟨by rw [iI_inb (by omega) (by omega) (by omega)]; omega, by rw [List.nil_append]; omega⟩, if_pos (by rw [List.nil_append, List.length_append]; omega)]
    have t2 : (((([] : List Int32) ++ stB 14) ++ dgs b) ++ stB 15).length ≤ 10 := by
      rw [List.nil_append, List.length_append, List.length_append]; omega
    exact U307 N xs k _ _ x4 hC (by omega)
  · rw [if_neg c8]
    exact U307 N xs k _ _ x4 hC (by omega)
theorem U324 {N : Nat} (xs : Nat → Int32) (k : GT → (Nat → Int64) → Int32 → Int32 → Option (Int32 × GT)) {W : Nat → Int64} {d i : Nat} (hd : d ≤ 7) {v : Int32} {G' : GT} (hW : W d = SU s) (h : Cv s L v G') : f_L_undone_324 N xs k W (iI (d : Int)) (iI (i : Int)) v G' = if v < 0 then k G' W (iI (d : Int)) (iI ((i + 1 : Nat) : Int)) else k G' W (iI ((d + 1 : Nat) : Int)) (iI ((i + 1 : Nat) : Int)) := by
  have e9 : iI (i : Int) + 1 = iI ((i + 1 : Nat) : Int) := by rw [pl1, iI_add]; rfl
  have e8 : iI (d : Int) + 1 = iI ((d + 1 : Nat) : Int) := by rw [pl1, iI_add]; rfl
  have e7 : iI (d : Int) + 0 = iI (d : Int) := by rw [pl0, iI_add, Int.add_zero]
  rcases h with ⟨h1, -⟩ | ⟨h1, h2⟩
  · have h3 : (0 : Int32) ≤ v := Int32.not_lt.mp h1
    rw [if_neg h1]
    unfold f_L_undone_324
    rw [if_pos h3]
    unfold f_L_undone_342
    rw [if_pos h3]
    unfold f_L_undone_353
    rw [e9, e8]
  · have h3 : ¬ (0 : Int32) ≤ v := Int32.not_le.mpr h1
    rw [if_pos h1]
    unfold f_L_undone_324
    rw [if_neg h3, L_sum h2.1 h2.2.1, b2s, if_pos (by rw [iI_inb (by omega) (by omega) (by omega)]; omega), cln (by omega), hW, cmp0, if_pos rfl]
    unfold f_L_undone_342
    rw [if_neg h3]
    unfold f_L_undone_353
    rw [e9, e7]
theorem U10 {N : Nat} (hN : N ≤ 260) (xs : Nat → Int32) : ∀ (m i f : Nat) (G : GT) (s : Nat → Int32) (L : List (Nat → Int32)) (W : Nat → Int64), i + m = 7 → m < f → L.length ≤ i → Cs G s L → WS W L → ∃ G', f_L_undone_10 N xs f G W (iI (L.length : Int)) (iI (i : Int)) = some (iI 1, G') := by
  intro m
  induction m with
  | zero =>
    intro i f G s L W h1 h2 h3 hC hW
    obtain ⟨f, rfl⟩ : ∃ g, f = g + 1 := ⟨f - 1, by omega⟩
    obtain ⟨G', a1⟩ := U366 N xs W L s G 8 (by omega) (by omega) hC hW
    refine ⟨G', ?_⟩
    rw [f_L_undone_10_s, if_pos (by rw [pl7, iI_le (by omega) (by omega) (by omega) (by omega)]; omega), pl1, iI_sub]
    exact a1
  | succ m ih =>
    intro i f G s L W h1 h2 h3 hC hW
    obtain ⟨f, rfl⟩ : ∃ g, f = g + 1 := ⟨f - 1, by omega⟩
    obtain ⟨v, a1⟩ := d_cell G xs (a := 18 + (i : Int)) (N := N) (by omega) hN
    have e18 : (18 : Int32) + iI (i : Int) = iI (18 + (i : Int)) := by rw [show (18 : Int32) = iI 18 from rfl, iI_add]
    obtain ⟨c, b1, b2⟩ := shr1 v
    obtain ⟨e, c1, c2⟩ := shrn b2 ((4 : Int32).toUInt32 &&& Int32.toUInt32 31)
    rw [f_L_undone_10_s, if_neg (by rw [pl7, iI_le (by omega) (by omega) (by omega) (by omega)]; omega), e18, a1, b2s, b1, c1]
    obtain ⟨r, G1, d1, d2⟩ := U36 (N := N) xs (f_L_undone_10 N xs f) W (d := L.length) (by omega) (iI (i : Int)) (iI c) c2 hC
    have hWd : (va_up W L.length (SU s)) L.length = SU s := by show (if L.length = L.length then _ else _) = _; rw [if_pos rfl]
    rw [d1, U324 xs _ (by omega) hWd d2]
    rcases d2 with ⟨g1, s', g2⟩ | ⟨g1, g2⟩
    · rw [if_neg g1]
      have et : (s :: L).take 8 = s :: L := List.take_of_length_le (by show L.length + 1 ≤ 8; omega)
      rw [et] at g2
      exact ih (i + 1) f G1 s' (s :: L) _ (by omega) (by omega) (by show L.length + 1 ≤ i + 1; omega) g2 ⟨hWd, WS_up (Nat.le_refl _) hW⟩
    · rw [if_pos g1]
      exact ih (i + 1) f G1 s L _ (by omega) (by omega) (by omega) g2 (WS_up (Nat.le_refl _) hW)
theorem Cs_nil (hC : Cs G s L) : Cs G s [] := by
  obtain ⟨h1, h2, ⟨nx, c, a1, a2, a3, a4, -, -⟩, h4⟩ := hC
  exact ⟨h1, h2, ⟨nx, c, a1, a2, a3, a4, Nat.zero_le _, fun i h => by cases h⟩, h4⟩
theorem L_undone {N : Nat} (hN : N ≤ 260) (xs : Nat → Int32) (hC : Cs G s L) : ∃ G', f_L_undone G N xs = some (iI 1, G') := U10 hN xs 7 0 8 G s [] _ (by omega) (by omega) (Nat.le_refl _) (Cs_nil hC) True.intro
end FU
