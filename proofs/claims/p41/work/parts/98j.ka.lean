/-! lines: the pure part -/
theorem f_L_run_2_s (T_S1 : List Int32) (f : Nat) (G : GT) (x2 : Int32) : f_L_run_2 T_S1 (f + 1) G x2 = (if (nI T_S1.length) ≤ x2 then (bind2 (fw_runs G ) fun r2 G2 => some (r2, G2)) else (if inb x2 T_S1.length then (bind2 (fw_append G (chT T_S1 x2)) fun r4 G4 => (if r4 = (x2 + (1 : Int32)) then (f_L_run_2 T_S1 f) G4 (x2 + 1) else some ((-9 : Int32), G4))) else none)) := rfl
theorem f_L_spells_17_s (a1 : Int32) (T_S2 : List Int32) (f : Nat) (G : GT) (x3 : Int32) (x4 : Int32) : f_L_spells_17 a1 T_S2 (f + 1) G x3 x4 = (if (nI T_S2.length) ≤ x4 then f_L_spells_57 a1 T_S2 x3 G else (if x3 = 0 then f_L_spells_57 a1 T_S2 x3 G else (bind2 (fw_character G x4) fun r6 G6 => (if inb x4 T_S2.length then (if r6 = (chT T_S2 x4) then f_L_spells_50 a1 T_S2 (f_L_spells_17 a1 T_S2 f) x4 (1 : Int32) G6 else f_L_spells_50 a1 T_S2 (f_L_spells_17 a1 T_S2 f) x4 (0 : Int32) G6) else none)))) := rfl
theorem f_L_lines_178_s (f : Nat) (G : GT) (x1 : Int32) : f_L_lines_178  (f + 1) G x1 = (if (4 : Int32) ≤ x1 then (bindR (f_X9_account G (0 : Int32)) fun r2 G2 => (bind2 (fw_line G2 r2) fun r3 G3 => (if r3 = (-11 : Int32) then (bind2 (fw_tinLine G3 (4 : Int32)) fun r5 G5 => (if r5 = (-11 : Int32) then some ((1 : Int32), G5) else some ((0 : Int32), G5))) else some ((0 : Int32), G3)))) else (bind2 (fw_tinLine G x1) fun r7 G7 => (bind2 (fw_tinOf G7 x1 (0 : Int32)) fun r8 G8 => (if inb r8 100 ∧ ([] : List Int32).length + (dgs r8.toNatClampNeg).length ≤ 64 then (if (([] : List Int32) ++ dgs r8.toNatClampNeg).length + (stB 11).length ≤ 64 then (bind2 (fw_tinOf G8 x1 (1 : Int32)) fun r11 G11 => (if inb r11 100 ∧ ((([] : List Int32) ++ dgs r8.toNatClampNeg) ++ (stB 11)).length + (dgs r11.toNatClampNeg).length ≤ 64 then (bind2 (f_L_spells G11 (((([] : List Int32) ++ dgs r8.toNatClampNeg) ++ (stB 11)) ++ dgs r11.toNatClampNeg) r7) fun r13 G13 => (if r13 = 0 then some ((0 : Int32), G13) else (f_L_lines_178  f) G13 (x1 + 1))) else none)) else none) else none)))) := rfl
theorem f_L_lines_17_s (k2 : GT → Int32 → Option (Int32 × GT)) (x1 : Int32) (f : Nat) (G : GT) (x3 : Int32) (T_l2 : List Int32) : f_L_lines_17 k2 x1 (f + 1) G x3 T_l2 = (bind2 (fw_barOf G x1 (2 : Int32)) fun r21 G21 => (if r21 ≤ x3 then (bind2 (fw_line G21 x1) fun r23 G23 => (if ([] : List Int32).length + T_l2.length ≤ 64 then (if (([] : List Int32) ++ T_l2).length + (stB 10).length ≤ 64 then (bind2 (fw_barOf G23 x1 (0 : Int32)) fun r26 G26 => (bind2 (fw_barOf G26 x1 (1 : Int32)) fun r27 G27 => (if inb (r26 - r27) 100 ∧ ((([] : List Int32) ++ T_l2) ++ (stB 10)).length + (dgs (r26 - r27).toNatClampNeg).length ≤ 64 then (bind2 (f_L_spells G27 (((([] : List Int32) ++ T_l2) ++ (stB 10)) ++ dgs (r26 - r27).toNatClampNeg) r23) fun r29 G29 => (if r29 = 0 then some ((0 : Int32), G29) else k2 G29 (x1 + 1))) else none))) else none) else none)) else (bind2 (fw_part G21 x1 x3 (0 : Int32)) fun r31 G31 => (bind2 (fw_of G31 r31 (3 : Int32)) fun r32 G32 => (if ([] : List Int32).length + T_l2.length ≤ 64 then (bind2 (fw_part G32 x1 x3 (2 : Int32)) fun r34 G34 => (if r34 = (1 : Int32) then f_L_lines_72 k2 (f_L_lines_17 k2 x1 f) x1 x3 r32 (stB 7) (([] : List Int32) ++ T_l2) G34 else f_L_lines_72 k2 (f_L_lines_17 k2 x1 f) x1 x3 r32 (stB 6) (([] : List Int32) ++ T_l2) G34)) else none))))) := rfl
theorem f_L_lines_2_s (f : Nat) (G : GT) (x1 : Int32) : f_L_lines_2  (f + 1) G x1 = (bindR (f_X9_account G (0 : Int32)) fun r36 G36 => (if r36 ≤ x1 then f_L_lines_178 5 G36 (0 : Int32) else f_L_lines_17 (f_L_lines_2  f) x1 9 G36 (0 : Int32) (stB 6))) := rfl
section FR
variable {G : GT} {s : Nat → Int32} {L : List (Nat → Int32)}
def okch (c : Int32) : Prop := ((c &&& 255).toUInt32 % 65536).toInt32 = vp_nar .char c
theorem dgs_ch : ∀ k, k < 100 → ∀ c ∈ dgs k, okch c := by unfold okch; decide +kernel
theorem st_ch : ∀ i, i < 33 → ∀ c ∈ stB i, okch c := by unfold okch; decide +kernel
theorem pch_ok : ∀ k : Nat, k < 12 → inb (pch k) 128 ∧ okch (pch k) := by unfold okch; decide +kernel
theorem dg_dgs : ∀ k : Nat, k < 10 → dgs k = [dg k] := by decide +kernel
theorem dgs_1x : dgs 10 = [dg 1, dg (10 : Nat)] ∧ dgs 11 = [dg 1, dg (11 : Nat)] := by decide +kernel
theorem dgs_nl (l : List Int32) {k : Nat} (h : k < 12) : l ++ dgs k = nl l k := by
  unfold nl
  by_cases h10 : k < 10
  · rw [if_pos (by omega), dg_dgs k h10]
  · rw [if_neg (by omega)]
    obtain rfl | rfl : k = 10 ∨ k = 11 := by omega
    · rw [dgs_1x.1, List.append_assoc]
      rfl
    · rw [dgs_1x.2, List.append_assoc]
      rfl
theorem okch_app {a b : List Int32} (ha : ∀ c ∈ a, okch c) (hb : ∀ c ∈ b, okch c) : ∀ c ∈ a ++ b, okch c := fun c hc => by
  rcases List.mem_append.mp hc with h | h
  · exact ha c h
  · exact hb c h
theorem chT_ok {l : List Int32} (hc : ∀ c ∈ l, okch c) {k : Nat} (hk : k < l.length) (h1 : k ≤ 100000) : vp_nar .char (l.getD k 0) = chT l (iI (k : Int)) := by
  unfold chT
  rw [cln h1]
  have e : l.getD k 0 = l[k] := by simp [List.getD, hk]
  rw [e]
  exact (hc _ (List.getElem_mem hk)).symm
theorem L_spl (G : GT) {l : List Int32} (hl : l.length ≤ 32) (hc : ∀ c ∈ l, okch c) : f_L_spells (wl G l) l (iI l.length) = some (iI 1, wl G l) := by
  have e1 : nI l.length = iI (l.length : Int) := lit_nI _
  have key : ∀ (m i f : Nat), i + m = l.length → m < f → f_L_spells_17 (iI l.length) l f (wl G l) (iI 1) (iI (i : Int)) = some (iI 1, wl G l) := by
    intro m
    induction m with
    | zero =>
      intro i f h1 h2
      obtain ⟨f, rfl⟩ : ∃ g, f = g + 1 := ⟨f - 1, by omega⟩
      rw [f_L_spells_17_s, if_pos (by rw [e1, iI_le (by omega) (by omega) (by omega) (by omega)]; omega)]
      unfold f_L_spells_57
      rw [if_neg ne10, r_charx G hl, b2s, if_pos (by decide)]
      rfl
    | succ m ih =>
      intro i f h1 h2
      obtain ⟨f, rfl⟩ : ∃ g, f = g + 1 := ⟨f - 1, by omega⟩
      rw [f_L_spells_17_s, if_neg (by rw [e1, iI_le (by omega) (by omega) (by omega) (by omega)]; omega), if_neg ne10, r_char G hl (k := i) (by omega), b2s, if_pos (by rw [iI_inb (by omega) (by omega) (by omega)]; omega), if_pos (chT_ok hc (by omega) (by omega))]
      unfold f_L_spells_50
      rw [show iI (i : Int) + 1 = iI ((i + 1 : Nat) : Int) by rw [pl1, iI_add]; rfl]
      exact ih (i + 1) f (by omega) (by omega)
  unfold f_L_spells
  rw [if_pos e1.symm]
  unfold f_L_spells_13
  exact key l.length 0 34 (by omega) (by omega)
/-! texts of bars -/
theorem lc_same {b j : Nat} : ∀ d, pb s b (j + d) = pb s b j → lc s b (j + d) = lc s b j := by
  intro d
  induction d with
  | zero => intro _; rfl
  | succ d ih =>
    intro h
    have h1 : pb s b (j + (d + 1)) = pb s b (j + d) + (if 0 < ov s (j + d) b then 1 else 0) := rfl
    have h2 : pb s b j ≤ pb s b (j + d) := sm_mono (f := fun j => if 0 < ov s j b then 1 else 0) (n := j + d) (fun i _ => it_ge (by omega)) j (j + d) (by omega) (by omega)
    have h3 : lc s b (j + (d + 1)) = if 0 < ov s (j + d) b then ((ltd s b (j + d) (lc s b (j + d)) ++ [lch s (j + d)]) ++ [dg (ov s (j + d) b)]) ++ [32] else lc s b (j + d) := rfl
    by_cases ho : 0 < ov s (j + d) b
    · rw [if_pos ho] at h1
      omega
    · rw [if_neg ho] at h1
      rw [h3, if_neg ho]
      exact ih (by omega)
theorem lc_eq {b j1 j2 : Nat} (h : pb s b j1 = pb s b j2) : lc s b j1 = lc s b j2 := by
  rcases Nat.le_total j1 j2 with h1 | h1
  · obtain ⟨d, rfl⟩ := Nat.exists_eq_add_of_le h1
    exact (lc_same d h.symm).symm
  · obtain ⟨d, rfl⟩ := Nat.exists_eq_add_of_le h1
    exact lc_same d h
theorem sum_r (hI : Inv s) {b : Nat} (hb : b < nb s) : 0 ≤ sm (fun j => ov s j b) (ns s) ∧ sm (fun j => ov s j b) (ns s) ≤ sz s b := by
  have h2 := fill_eq hI hb
  have h3 := hI.sz hb
  omega
theorem pb_8 (hI : Inv s) {b : Nat} (hb : b < nb s) : pb s b (ns s) ≤ 8 := by
  have key : ∀ n, n ≤ ns s → pb s b n ≤ sm (fun j => ov s j b) n := by
    intro n
    induction n with
    | zero => intro _; exact Int.le_refl _
    | succ n ih =>
      intro hn
      have h1 : pb s b (n + 1) = pb s b n + (if 0 < ov s n b then 1 else 0) := rfl
      have h2 : sm (fun j => ov s j b) (n + 1) = sm (fun j => ov s j b) n + ov s n b := rfl
      have h3 := ov_r hI (show n < ns s by omega) hb
      have h4 := ih (by omega)
      by_cases ho : 0 < ov s n b
      · rw [if_pos ho] at h1
        omega
      · rw [if_neg ho] at h1
        omega
  have h1 := key (ns s) (Nat.le_refl _)
  have h2 := sum_r hI hb
  have h3 := hI.sz hb
  omega
theorem lch_ok (hI : Inv s) {j : Nat} (hj : j < ns s) : inb (lch s j) 128 ∧ okch (lch s j) := by
  unfold lch
  by_cases h : ht s j < 0
  · rw [if_pos h]
    exact ⟨by decide, by unfold okch; decide +kernel⟩
  · rw [if_neg h]
    have h1 := pt_r hI hj
    obtain ⟨k, hk⟩ : ∃ k : Nat, pt s j = k := ⟨(pt s j).toNat, by omega⟩
    rw [hk]
    exact pch_ok k (by omega)
theorem ch1 {c : Int32} (h : okch c) : ∀ x ∈ [c], okch x := fun x hx => by
  rw [List.mem_singleton] at hx
  rw [hx]
  exact h
theorem dg_ch {v : Int} (h : 0 ≤ v ∧ v < 10) : okch (dg v) := by
  obtain ⟨k, rfl⟩ : ∃ k : Nat, v = k := ⟨v.toNat, by omega⟩
  have h1 := dgs_ch k (by omega)
  rw [dg_dgs k (by omega)] at h1
  exact h1 _ List.mem_cons_self
theorem lc_ch (hI : Inv s) {b : Nat} (hb : b < nb s) : ∀ n, n ≤ ns s → ∀ c ∈ lc s b n, okch c := by
  intro n
  induction n with
  | zero => intro _ c hc; exact absurd hc List.not_mem_nil
  | succ n ih =>
    intro hn
    have h3 : lc s b (n + 1) = if 0 < ov s n b then ((ltd s b n (lc s b n) ++ [lch s n]) ++ [dg (ov s n b)]) ++ [32] else lc s b n := rfl
    rw [h3]
    by_cases ho : 0 < ov s n b
    · rw [if_pos ho]
      have h4 := ov_r hI (show n < ns s by omega) hb
      refine okch_app (okch_app (okch_app ?_ (ch1 (lch_ok hI (by omega)).2)) (ch1 (dg_ch (by omega)))) (ch1 (by unfold okch; decide +kernel))
      unfold ltd
      by_cases hc : bS s n < bB s b
      · rw [if_pos hc]
        exact okch_app (ih (by omega)) (ch1 (by unfold okch; decide +kernel))
      · rw [if_neg hc]
        exact ih (by omega)
    · rw [if_neg ho]
      exact ih (by omega)
theorem lB_ch (hI : Inv s) {b : Nat} (hb : b < nb s) : ∀ c ∈ lB s b, okch c := by
  have h1 := sum_r hI hb
  have h3 := hI.sz hb
  unfold lB
  exact okch_app (okch_app (lc_ch hI hb _ (Nat.le_refl _)) (ch1 (by unfold okch; decide +kernel))) (ch1 (dg_ch (by omega)))
theorem lB_len (hI : Inv s) {b : Nat} (hb : b < nb s) : (lB s b).length ≤ 32 := by
  have h1 := lc_25 hI hb (Nat.le_refl (ns s))
  unfold lB
  rw [List.length_append, List.length_append]
  show (lc s b (ns s)).length + 1 + 1 ≤ 32
  omega
theorem lT_eq (hI : Inv s) {t : Nat} (ht : t < 4) : ((([] : List Int32) ++ dgs (iI (ky s t)).toNatClampNeg) ++ stB 11) ++ dgs (iI (lk s t)).toNatClampNeg = lT s t := by
  have hk := hI.ky ht
  obtain ⟨a, ha⟩ : ∃ k : Nat, ky s t = k := ⟨(ky s t).toNat, by omega⟩
  obtain ⟨c, hc⟩ : ∃ k : Nat, lk s t = k := ⟨(lk s t).toNat, by omega⟩
  unfold lT
  rw [ha, hc, cln (by omega), cln (by omega), dgs_nl _ (by omega), dgs_nl _ (by omega)]
  rfl
theorem lT_ch (hI : Inv s) {t : Nat} (ht : t < 4) : ∀ c ∈ lT s t, okch c := by
  have hk := hI.ky ht
  obtain ⟨a, ha⟩ : ∃ k : Nat, ky s t = k := ⟨(ky s t).toNat, by omega⟩
  obtain ⟨c, hc⟩ : ∃ k : Nat, lk s t = k := ⟨(lk s t).toNat, by omega⟩
  rw [← lT_eq hI ht, ha, hc, cln (by omega), cln (by omega)]
  exact okch_app (okch_app (okch_app (fun c h => by cases h) (dgs_ch a (by omega))) (st_ch 11 (by decide))) (dgs_ch c (by omega))
/-! the law's walk -/
theorem L_l91 (hP : Pr G 0 s) (hI : Inv s) {b j : Nat} (hb : b < nb s) (hj : j < ns s) (ho : 0 < ov s j b) (k2 : GT → Int32 → Option (Int32 × GT)) (k17 : GT → Int32 → List Int32 → Option (Int32 × GT)) {T : List Int32} (hT : T.length ≤ 40) : f_L_lines_91 k2 k17 (iI b) (iI (pb s b j)) (lch s j) T G = k17 G (iI (pb s b j) + 1) (((T ++ [lch s j]) ++ [dg (ov s j b)]) ++ [32]) := by
  have h4 := ov_r hI hj hb
  have h5 := pb_r hI hb j (by omega)
  have h6 := hI.ns16
  obtain ⟨k, hk⟩ : ∃ k : Nat, ov s j b = k := ⟨(ov s j b).toNat, by omega⟩
  have e1 : fw_part G (iI b) (iI (pb s b j)) (1 : Int32) = some (iI (ov s j b), G) := r_part1 hP hI hb hj (p := pb s b j) (by unfold R32; omega) (sp_eq hj ho)
  unfold f_L_lines_91
  rw [if_pos ⟨(lch_ok hI hj).1, by omega⟩, e1, b2s, hk, cln (by omega), dg_dgs k (by omega)]
  rw [if_pos ⟨by rw [iI_inb (by omega) (by omega) (by omega)]; omega, by rw [List.length_append]; show T.length + 1 + 1 ≤ 64; omega⟩, if_pos (by rw [List.length_append, List.length_append]; show T.length + 1 + 1 + 1 ≤ 64; omega)]
  rfl
theorem L_l72 (hP : Pr G 0 s) (hI : Inv s) {b j : Nat} (hb : b < nb s) (hj : j < ns s) (ho : 0 < ov s j b) (k2 : GT → Int32 → Option (Int32 × GT)) (k17 : GT → Int32 → List Int32 → Option (Int32 × GT)) {T0 T1 : List Int32} (hT : T1.length + T0.length ≤ 40) : f_L_lines_72 k2 k17 (iI b) (iI (pb s b j)) (iI (pc s j)) T0 T1 G = k17 G (iI (pb s b j) + 1) ((((T1 ++ T0) ++ [lch s j]) ++ [dg (ov s j b)]) ++ [32]) := by
  have h1 := pt_r hI hj
  have hl : (T1 ++ T0).length ≤ 40 := by rw [List.length_append]; exact hT
  have h2 := L_l91 hP hI hb hj ho k2 k17 hl
  unfold f_L_lines_72
  rw [if_pos (by omega)]
  by_cases h : ht s j < 0
  · have e1 : pc s j = -1 := if_pos h
    have e2 : lch s j = 46 := if_pos h
    rw [e2] at h2 ⊢
    rw [e1, if_neg (by decide), h2]
  · have e1 : pc s j = pt s j := if_neg h
    have e2 : lch s j = pch (pt s j) := if_neg h
    rw [e2] at h2 ⊢
    rw [e1, if_pos (by rw [pl0, iI_le (by omega) (by omega) (by omega) (by omega)]; omega)]
    exact h2
theorem L_place (hP : Pr G 0 s) (hI : Inv s) {b j : Nat} (hb : b < nb s) (hj : j < ns s) (ho : 0 < ov s j b) (k2 : GT → Int32 → Option (Int32 × GT)) (f : Nat) : f_L_lines_17 k2 (iI b) (f + 1) G (iI (pb s b j)) (lc s b j) = f_L_lines_17 k2 (iI b) f G (iI (pb s b (j + 1))) (lc s b (j + 1)) := by
  have h5 := pb_r hI hb j (by omega)
  have h7 := pb_r hI hb (ns s) (Nat.le_refl _)
  have h6 := hI.ns16
  have h8 : pb s b (j + 1) = pb s b j + 1 := by
    have : pb s b (j + 1) = pb s b j + (if 0 < ov s j b then 1 else 0) := rfl
    rw [this, if_pos ho]
  have h9 : pb s b (j + 1) ≤ pb s b (ns s) := sm_mono (f := fun j => if 0 < ov s j b then 1 else 0) (n := ns s) (fun i _ => it_ge (by omega)) (j + 1) (ns s) (by omega) (by omega)
  have h3 : lc s b (j + 1) = ((ltd s b j (lc s b j) ++ [lch s j]) ++ [dg (ov s j b)]) ++ [32] := if_pos ho
  have hl := lc_25 hI hb (show j ≤ ns s by omega)
  have hR : R32 (pb s b j) := by unfold R32; omega
  have a1 : fw_barOf G (iI b) (2 : Int32) = some (iI (pb s b (ns s)), G) := r_barOf2 hP hI hb
  have a2 : fw_part G (iI b) (iI (pb s b j)) (0 : Int32) = some (iI j, G) := r_part0 hP hI hb hj hR (sp_eq hj ho)
  have a3 : fw_of G (iI j) (3 : Int32) = some (iI (pc s j), G) := r_of3 hP hI hj
  have a4 : fw_part G (iI b) (iI (pb s b j)) (2 : Int32) = some (iI (if bS s j < bB s b then 1 else 0), G) := r_part2 hP hI hb hj hR (sp_eq hj ho)
  rw [f_L_lines_17_s, a1, b2s, if_neg (by rw [iI_le (by omega) (by omega) (by omega) (by omega)]; omega), a2, b2s, a3, b2s, if_pos (by show 0 + (lc s b j).length ≤ 64; omega), a4, b2s, h8, h3]
  have e9 : iI (pb s b j + 1) = iI (pb s b j) + 1 := by rw [pl1, iI_add]
  rw [e9]
  by_cases hc : bS s j < bB s b
  · rw [if_pos hc, if_pos (by decide), L_l72 hP hI hb hj ho _ _ (T0 := stB 7) (T1 := [] ++ lc s b j) (by show (lc s b j).length + 1 ≤ 40; omega)]
    unfold ltd
    rw [if_pos hc]
    rfl
  · rw [if_neg hc, if_neg (by decide), L_l72 hP hI hb hj ho _ _ (T0 := stB 6) (T1 := [] ++ lc s b j) (by show (lc s b j).length + 0 ≤ 40; omega)]
    unfold ltd
    rw [if_neg hc]
    rw [show ([] ++ lc s b j) ++ stB 6 = lc s b j from List.append_nil _]
theorem L_l17 (hC : Cs G s L) {b : Nat} (hb : b < nb s) (k2 : GT → Int32 → Option (Int32 × GT)) : ∀ (m f j : Nat), j ≤ ns s → pb s b j + m = pb s b (ns s) → m < f → f_L_lines_17 k2 (iI b) f G (iI (pb s b j)) (lc s b j) = k2 (wl G (lB s b)) (iI b + 1) := by
  have hP := hC.1
  have hI := hC.2.1
  have h7 := pb_r hI hb (ns s) (Nat.le_refl _)
  have h6 := hI.ns16
  intro m
  induction m with
  | zero =>
    intro f j hj h1 h2
    obtain ⟨f, rfl⟩ : ∃ g, f = g + 1 := ⟨f - 1, by omega⟩
    have hr := sum_r hI hb
    have hz := hI.sz hb
    have hl := lc_25 hI hb (Nat.le_refl (ns s))
    have hPw := Pr_wl (lB s b) hP
    have a1 : fw_barOf G (iI b) (2 : Int32) = some (iI (pb s b (ns s)), G) := r_barOf2 hP hI hb
    have a2 : fw_barOf (wl G (lB s b)) (iI b) (0 : Int32) = some (iI (sz s b), wl G (lB s b)) := r_barOf0 hPw hI hb
    have a3 : fw_barOf (wl G (lB s b)) (iI b) (1 : Int32) = some (iI (sm (fun i => ov s i b) (ns s)), wl G (lB s b)) := r_barOf1 hPw hI hb
    have h3 := pb_r hI hb j hj
    obtain ⟨k, hk⟩ : ∃ k : Nat, sz s b - sm (fun i => ov s i b) (ns s) = k := ⟨(sz s b - sm (fun i => ov s i b) (ns s)).toNat, by omega⟩
    rw [f_L_lines_17_s, a1, b2s, if_pos (by rw [iI_le (by omega) (by omega) (by omega) (by omega)]; omega), r_line hP hI hb, b2s, lc_eq (s := s) (b := b) (j1 := j) (j2 := ns s) (by omega), if_pos (by show 0 + (lc s b (ns s)).length ≤ 64; omega), if_pos (by rw [List.nil_append]; show (lc s b (ns s)).length + 1 ≤ 64; omega), a2, b2s, a3, b2s, iI_sub, hk, cln (by omega), dg_dgs k (by omega), if_pos ⟨by rw [iI_inb (by omega) (by omega) (by omega)]; omega, by rw [List.nil_append, List.length_append]; show (lc s b (ns s)).length + 1 + 1 ≤ 64; omega⟩]
    have e : ((([] : List Int32) ++ lc s b (ns s)) ++ stB 10) ++ [dg (k : Int)] = lB s b := by
      unfold lB
      rw [hk]
      rfl
    rw [e, L_spl G (lB_len hI hb) (lB_ch hI hb), b2s, if_neg ne10]
  | succ m ih =>
    intro f j hj h1 h2
    obtain ⟨f, rfl⟩ : ∃ g, f = g + 1 := ⟨f - 1, by omega⟩
    have h3 := pb_r hI hb j hj
    obtain ⟨j1, g1, g2, g3⟩ := sp_in hI hb (x := pb s b j) h3.1 (by omega)
    have h8 : pb s b (j1 + 1) = pb s b j1 + 1 := by
      have : pb s b (j1 + 1) = pb s b j1 + (if 0 < ov s j1 b then 1 else 0) := rfl
      rw [this, if_pos g2]
    rw [← lc_eq g3, ← g3, L_place hP hI hb g1 g2]
    exact ih f (j1 + 1) (by omega) (by omega) (by omega)
theorem L_l178 : ∀ (m i f : Nat) (G : GT), i + m = 4 → m < f → Cs G s L → ∃ G', f_L_lines_178 f G (iI (i : Int)) = some (iI 1, G') ∧ Cs G' s L := by
  intro m
  induction m with
  | zero =>
    intro i f G h1 h2 hC
    obtain ⟨f, rfl⟩ : ∃ g, f = g + 1 := ⟨f - 1, by omega⟩
    have hP := hC.1
    have hI := hC.2.1
    have a0 : f_X9_account G (0 : Int32) = some (.inr (iI (nb s)), G) := r_acc0 hP hI
    have a1 : fw_tinLine G (4 : Int32) = some (iI (-11), G) := r_tinLinex G
    refine ⟨G, ?_, hC⟩
    rw [f_L_lines_178_s, if_pos (by rw [pl4, iI_le (by omega) (by omega) (by omega) (by omega)]; omega), a0, bR_i, r_linex hP hI, b2s, if_pos (by decide), a1, b2s, if_pos (by decide)]
    rfl
  | succ m ih =>
    intro i f G h1 h2 hC
    obtain ⟨f, rfl⟩ : ∃ g, f = g + 1 := ⟨f - 1, by omega⟩
    have hP := hC.1
    have hI := hC.2.1
    have ht : i < 4 := by omega
    have hk := hI.ky ht
    have hPw := Pr_wl (lT s i) hP
    have n1 := dgs_len (iI (ky s i)).toNatClampNeg
    have n2 := dgs_len (iI (lk s i)).toNatClampNeg
    have a2 : fw_tinOf (wl G (lT s i)) (iI i) (0 : Int32) = some (iI (ky s i), wl G (lT s i)) := r_tinOf0 hPw hI ht
    have a3 : fw_tinOf (wl G (lT s i)) (iI i) (1 : Int32) = some (iI (lk s i), wl G (lT s i)) := r_tinOf1 hPw hI ht
    have e9 : iI (i : Int) + 1 = iI ((i + 1 : Nat) : Int) := by rw [pl1, iI_add]; rfl
    obtain ⟨G', b1, b2⟩ := ih (i + 1) f (wl G (lT s i)) (by omega) (by omega) (Cs_wl hC _)
    refine ⟨G', ?_, b2⟩
    rw [f_L_lines_178_s, if_neg (by rw [pl4, iI_le (by omega) (by omega) (by omega) (by omega)]; omega), r_tinLine hP hI ht, b2s, a2, b2s, if_pos ⟨by rw [iI_inb (by omega) (by omega) (by omega)]; omega, by rw [List.length_nil]; omega⟩, if_pos (by rw [List.nil_append]; show (dgs _).length + 1 ≤ 64; omega), a3, b2s, if_pos ⟨by rw [iI_inb (by omega) (by omega) (by omega)]; omega, by rw [List.nil_append, List.length_append]; show (dgs _).length + 1 + _ ≤ 64; omega⟩, lT_eq hI ht, L_spl G (by have := lT_len s i; omega) (lT_ch hI ht), b2s, if_neg ne10, e9]
    exact b1
theorem L_lines (hC0 : Cs G s L) : ∃ G', f_L_lines G = some (iI 1, G') ∧ Cs G' s L := by
  have h6 := hC0.2.1.nb6
  have key : ∀ (m i f : Nat) (G : GT), i + m = nb s → m < f → Cs G s L → ∃ G', f_L_lines_2 f G (iI (i : Int)) = some (iI 1, G') ∧ Cs G' s L := by
    intro m
    induction m with
    | zero =>
      intro i f G h1 h2 hC
      obtain ⟨f, rfl⟩ : ∃ g, f = g + 1 := ⟨f - 1, by omega⟩
      have a0 : f_X9_account G (0 : Int32) = some (.inr (iI (nb s)), G) := r_acc0 hC.1 hC.2.1
      obtain ⟨G', b1, b2⟩ := L_l178 4 0 5 G (by omega) (by omega) hC
      refine ⟨G', ?_, b2⟩
      rw [f_L_lines_2_s, a0, bR_i, if_pos (by rw [iI_le (by omega) (by omega) (by omega) (by omega)]; omega)]
      exact b1
    | succ m ih =>
      intro i f G h1 h2 hC
      obtain ⟨f, rfl⟩ : ∃ g, f = g + 1 := ⟨f - 1, by omega⟩
      have a0 : f_X9_account G (0 : Int32) = some (.inr (iI (nb s)), G) := r_acc0 hC.1 hC.2.1
      have hb : i < nb s := by omega
      have e9 : iI (i : Int) + 1 = iI ((i + 1 : Nat) : Int) := by rw [pl1, iI_add]; rfl
      obtain ⟨G', b1, b2⟩ := ih (i + 1) f (wl G (lB s i)) (by omega) (by omega) (Cs_wl hC _)
      have h7 := pb_r hC.2.1 hb (ns s) (Nat.le_refl _)
      have h8 := pb_8 hC.2.1 hb
      have h9 := L_l17 hC hb (f_L_lines_2 f) (pb s i (ns s)).toNat 9 0 (by omega) (by show (0 : Int) + _ = _; omega) (by omega)
      refine ⟨G', ?_, b2⟩
      rw [f_L_lines_2_s, a0, bR_i, if_neg (by rw [iI_le (by omega) (by omega) (by omega) (by omega)]; omega)]
      rw [e9] at h9
      exact h9.trans b1
  exact key (nb s) 0 7 G (by omega) (by omega) hC0
end FR
