/-! a drawn print, its loops -/
section FN
variable {G : GT} {s : Nat → Int32} {L : List (Nat → Int32)}
theorem D139e {N : Nat} (xs : Nat → Int32) {c : Int} (hc : 0 ≤ c ∧ c ≤ 2147483647) (f : Nat) (hC : Cs G s L) {i : Nat} (hi : i = 12) : ∃ G' s' L', f_L_drawn_139 N xs (iI c) (f + 1) G (iI i) = some (1, G') ∧ Cs G' s' L' ∧ nb s' = nb s := by
  obtain ⟨b, eb, hb⟩ := shrn hc ((20 : Int32).toUInt32 &&& Int32.toUInt32 31)
  have mb := mod_r (a := b) (m := 11) (by omega)
  have hlm := hC.2.1.2.2.2.2.1
  have e0 : f_L_drawn_139 N xs (iI c) (f + 1) G (iI i) = (if (12 : Int32) ≤ iI i then _ else _) := rfl
  rw [if_pos (by rw [pl12, iI_le (by omega) (by omega) (by omega) (by omega)]; omega), eb, pl11, modI hb (by omega), pl1, iI_add] at e0
  generalize hl : (1 : Int) + b % 11 = l at e0
  have hR : R32 l := by unfold R32; omega
  have e6 : vd s 6 l 0 0 = if 1 ≤ l ∧ l ≤ 11 then (if l = lm s then (3, 2, l) else (0, 0, 0)) else (2, 0, 0) := rfl
  rw [if_pos (by omega)] at e6
  rw [e0]
  by_cases h : l = lm s
  · rw [if_pos h] at e6
    have h1 := ch_3 hC (o := 6) (by omega) hR (R32_k (w := 0) (by omega)) (R32_k (w := 0) (by omega)) (by rw [e6])
    rw [e6] at h1
    have e : fw_limit G (iI l) = some (-3, jd G 2 l) := by
      show catT _ (bindX (f_X9_change G 6 (iI l) (iI 0) (iI 0)) _) = _
      rw [h1]
      rfl
    refine ⟨jd G 2 l, s, L, ?_, Cs_jd hC 2 l, rfl⟩
    rw [e, b2s, if_neg (by decide), r_refusal G (by omega), b2s, if_pos pl2.symm]
    rfl
  · rw [if_neg h] at e6
    obtain ⟨G', h1, h2⟩ := ch_0 hC (o := 6) (by omega) hR (R32_k (w := 0) (by omega)) (R32_k (w := 0) (by omega)) (by rw [e6])
    have e : fw_limit G (iI l) = some (iI (lm s), G') := by
      show catT _ (bindX (f_X9_change G 6 (iI l) (iI 0) (iI 0)) _) = _
      rw [h1]
      rfl
    refine ⟨G', _, _, ?_, h2, by rw [nw6]; exact nb_of (upd_ne _ _ (by omega))⟩
    rw [e, b2s, if_pos (by rw [pl0, iI_le (by omega) (by omega) (by omega) (by omega)]; omega)]
    rfl
theorem D139 {N : Nat} (hN : N ≤ 260) (xs : Nat → Int32) {c : Int} (hc : 0 ≤ c ∧ c ≤ 2147483647) : ∀ (m i f : Nat) (G : GT) (s : Nat → Int32) (L : List (Nat → Int32)), i + m = 12 → m < f → Cs G s L → ns s ≤ i → ∃ G' s' L', f_L_drawn_139 N xs (iI c) f G (iI i) = some (1, G') ∧ Cs G' s' L' ∧ nb s' = nb s := by
  intro m
  induction m with
  | zero =>
    intro i f G s L h1 h2 hC hn
    obtain ⟨f, rfl⟩ : ∃ g, f = g + 1 := ⟨f - 1, by omega⟩
    exact D139e xs hc f hC (by omega)
  | succ m ih =>
    intro i f G s L h1 h2 hC hn
    obtain ⟨f, rfl⟩ : ∃ g, f = g + 1 := ⟨f - 1, by omega⟩
    obtain ⟨G1, s1, L1, a1, a2, a3, a4⟩ := D139s hN xs (iI c) f hC (i := i) (by omega) hn
    obtain ⟨G2, s2, L2, b1, b2, b3⟩ := ih (i + 1) f G1 s1 L1 (by omega) (by omega) a2 a3
    exact ⟨G2, s2, L2, a1.trans b1, b2, b3.trans a4⟩
/-- tins from t on are as at the start -/
def Z4 (s : Nat → Int32) (t : Nat) : Prop := ns s = 0 ∧ ∀ i, t ≤ i → i < 4 → ky s i = 0 ∧ lk s i = 0
theorem D104 {N : Nat} (xs : Nat → Int32) (k : GT → Int32 → Option (Int32 × GT)) (x2 : Int32) {a : Int} (ha : 0 ≤ a ∧ a ≤ 2147483647) {t : Nat} (ht : t < 4) (hC : Cs G s L) (hz : ns s = 0) (hl : lk s t = 0) (hz2 : ∀ i, t < i → i < 4 → ky s i = 0 ∧ lk s i = 0) : ∃ G' s' L', f_L_drawn_104 N xs k x2 (iI t) (iI a) G = k G' (iI ((t + 1 : Nat) : Int)) ∧ Cs G' s' L' ∧ nb s' = nb s ∧ Z4 s' (t + 1) := by
  obtain ⟨b, eb, hb⟩ := shrn ha ((4 : Int32).toUInt32 &&& Int32.toUInt32 31)
  have mb := mod_r (a := b) (m := 4) (by omega)
  have h130 : ∀ G', f_L_drawn_130 N xs k x2 (iI t) G' = k G' (iI ((t + 1 : Nat) : Int)) := fun G' => by
    unfold f_L_drawn_130
    rw [pl1, iI_add]
    rfl
  unfold f_L_drawn_104
  rw [eb, pl4, modI hb (by omega)]
  generalize b % 4 = l at mb ⊢
  by_cases h0 : l ≤ 0
  · rw [if_pos (by rw [pl0, iI_le (by omega) (by omega) (by omega) (by omega)]; exact h0), h130]
    exact ⟨G, s, L, rfl, hC, rfl, hz, fun i h1 h2 => hz2 i (by omega) h2⟩
  · have hR : R32 l := by unfold R32; omega
    have hR2 : R32 (t : Int) := by unfold R32; omega
    have e2 : vd s 2 t l 0 = vt t l (lk s t) 3 := rfl
    have h3 : vd s 2 t l 0 = (0, 0, 0) := by rw [e2]; exact vt_0 (by omega) (by omega) (by omega)
    obtain ⟨G', h1, h2⟩ := ch_0 hC (o := 2) (by omega) hR2 hR (R32_k (w := 0) (by omega)) (by rw [h3])
    have e4 : an s 2 t = 0 := hl
    rw [e4] at h1
    have e : fw_leak G (iI t) (iI l) = some (iI 0, G') := by
      show catT _ (bindX (f_X9_change G 2 (iI t) (iI l) (iI 0)) _) = _
      rw [h1]
      rfl
    rw [if_neg (by rw [pl0, iI_le (by omega) (by omega) (by omega) (by omega)]; exact h0), e, b2s, if_pos p00, h130]
    have en : nw s 2 t l 0 = upd s (12 + 2 * t) (iI l) := by rw [nw2, Int.toNat_natCast]
    refine ⟨G', _, _, rfl, h2, by rw [en]; exact nb_of (upd_ne _ _ (by omega)), by rw [en]; exact (ns_of (upd_ne _ _ (by omega))).trans hz, fun i h5 h6 => ?_⟩
    rw [en, row_ky (s := s) (upd_ne _ _ (by omega)), row_lk (s := s) (upd_ne _ _ (by omega))]
    exact hz2 i (by omega) h6
theorem D64s {N : Nat} (hN : N ≤ 260) (xs : Nat → Int32) (x2 : Int32) (f : Nat) (hC : Cs G s L) {t : Nat} (ht : t < 4) (hz : Z4 s t) : ∃ G' s' L', f_L_drawn_64 N xs x2 (f + 1) G (iI t) = f_L_drawn_64 N xs x2 f G' (iI ((t + 1 : Nat) : Int)) ∧ Cs G' s' L' ∧ nb s' = nb s ∧ Z4 s' (t + 1) := by
  obtain ⟨v, hv⟩ := d_cell G (N := N) xs (a := 1 + (t : Int)) (by omega) hN
  obtain ⟨a, ea, ha⟩ := shr1 v
  have ma := mod_r (a := a) (m := 12) (by omega)
  have ex : (1 : Int32) + iI (t : Int) = iI (1 + (t : Int)) := by rw [pl1, iI_add]
  have e0 : f_L_drawn_64 N xs x2 (f + 1) G (iI t) = (if (4 : Int32) ≤ iI t then _ else _) := rfl
  rw [if_neg (by rw [pl4, iI_le (by omega) (by omega) (by omega) (by omega)]; omega), ex, hv, b2s, ea, pl12, modI ha (by omega)] at e0
  generalize a % 12 = d at ma e0
  rw [e0]
  obtain ⟨z0, z1⟩ := hz
  have z2 := z1 t (by omega) ht
  by_cases h0 : d ≤ 0
  · rw [if_pos (by rw [pl0, iI_le (by omega) (by omega) (by omega) (by omega)]; exact h0)]
    exact D104 xs _ x2 ha ht hC z0 z2.2 fun i h1 h2 => z1 i (by omega) h2
  · have hR : R32 d := by unfold R32; omega
    have hR2 : R32 (t : Int) := by unfold R32; omega
    have e2 : vd s 1 t d 0 = vt t d (ky s t) 11 := rfl
    have h3 : vd s 1 t d 0 = (0, 0, 0) := by rw [e2]; exact vt_0 (by omega) (by omega) (by omega)
    obtain ⟨G', h1, h2⟩ := ch_0 hC (o := 1) (by omega) hR2 hR (R32_k (w := 0) (by omega)) (by rw [h3])
    have e4 : an s 1 t = 0 := z2.1
    rw [e4] at h1
    have e : fw_key G (iI t) (iI d) = some (iI 0, G') := by
      show catT _ (bindX (f_X9_change G 1 (iI t) (iI d) (iI 0)) _) = _
      rw [h1]
      rfl
    have en : nw s 1 t d 0 = upd s (11 + 2 * t) (iI d) := by rw [nw1, Int.toNat_natCast]
    rw [if_neg (by rw [pl0, iI_le (by omega) (by omega) (by omega) (by omega)]; exact h0), e, b2s, if_pos p00]
    rw [en] at h2
    obtain ⟨G2, s2, L2, b1, b2, b3, b4⟩ := D104 (N := N) xs (lq2 _ f) x2 ha ht h2 ((ns_of (upd_ne _ _ (by omega))).trans z0) ((row_lk (upd_ne _ _ (by omega))).trans z2.2) (fun i h5 h6 => by
      rw [row_ky (s := s) (upd_ne _ _ (by omega)), row_lk (s := s) (upd_ne _ _ (by omega))]
      exact z1 i (by omega) h6)
    exact ⟨G2, s2, L2, b1, b2, b3.trans (nb_of (upd_ne _ _ (by omega))), b4⟩
theorem D64 {N : Nat} (hN : N ≤ 260) (xs : Nat → Int32) {c : Int} (hc : 0 ≤ c ∧ c ≤ 2147483647) : ∀ (m i f : Nat) (G : GT) (s : Nat → Int32) (L : List (Nat → Int32)), i + m = 4 → m < f → Cs G s L → Z4 s i → ∃ G' s' L', f_L_drawn_64 N xs (iI c) f G (iI i) = some (1, G') ∧ Cs G' s' L' ∧ nb s' = nb s := by
  intro m
  induction m with
  | zero =>
    intro i f G s L h1 h2 hC hz
    obtain ⟨f, rfl⟩ : ∃ g, f = g + 1 := ⟨f - 1, by omega⟩
    have e0 : f_L_drawn_64 N xs (iI c) (f + 1) G (iI i) = (if (4 : Int32) ≤ iI i then _ else _) := rfl
    rw [if_pos (by rw [pl4, iI_le (by omega) (by omega) (by omega) (by omega)]; omega)] at e0
    rw [e0]
    exact D139 hN xs hc 12 0 13 G s L (by omega) (by omega) hC (by rw [hz.1]; exact Nat.le_refl 0)
  | succ m ih =>
    intro i f G s L h1 h2 hC hz
    obtain ⟨f, rfl⟩ : ∃ g, f = g + 1 := ⟨f - 1, by omega⟩
    obtain ⟨G1, s1, L1, a1, a2, a3, a4⟩ := D64s hN xs (iI c) f hC (t := i) (by omega) hz
    obtain ⟨G2, s2, L2, b1, b2, b3⟩ := ih (i + 1) f G1 s1 L1 (by omega) (by omega) a2 a4
    exact ⟨G2, s2, L2, a1.trans b1, b2, b3.trans a3⟩
theorem D25s {N : Nat} (xs : Nat → Int32) {c : Int} (hc : 0 ≤ c ∧ c ≤ 2147483647) (f : Nat) (hC : Cs G s L) {i n : Nat} (hi : i < n) (hn : n ≤ 6) (hb : nb s = i) (hz : Z4 s 0) : ∃ G' s' L', f_L_drawn_25 N xs (iI c) (iI n) (f + 1) G (iI i) = f_L_drawn_25 N xs (iI c) (iI n) f G' (iI ((i + 1 : Nat) : Int)) ∧ Cs G' s' L' ∧ nb s' = i + 1 ∧ Z4 s' 0 := by
  obtain ⟨b, eb, hb2⟩ := shrn hc (((3 : Int32) + ((3 : Int32) * iI i)).toUInt32 &&& Int32.toUInt32 31)
  have mb := mod_r (a := b) (m := 7) (by omega)
  have e0 : f_L_drawn_25 N xs (iI c) (iI n) (f + 1) G (iI i) = (if iI n ≤ iI i then _ else _) := rfl
  rw [if_neg (by rw [iI_le (by omega) (by omega) (by omega) (by omega)]; omega), eb, pl7, modI hb2 (by omega), pl2, iI_add] at e0
  generalize hd : (2 : Int) + b % 7 = d at e0
  have hR : R32 d := by unfold R32; omega
  have e2 : vd s 0 d 0 0 = if 2 ≤ d ∧ d ≤ 8 then (if nb s < 6 then (0, 0, 0) else (3, 1, 6)) else (2, 0, 0) := rfl
  rw [if_pos (by omega), if_pos (by omega)] at e2
  obtain ⟨G', h1, h2⟩ := ch_0 hC (o := 0) (by omega) hR (R32_k (w := 0) (by omega)) (R32_k (w := 0) (by omega)) (by rw [e2])
  have e4 : an s 0 d = i := by rw [an0, hb]
  rw [e4] at h1
  have e : fw_bar G (iI d) = some (iI i, G') := by
    show catT _ (bindX (f_X9_change G 0 (iI d) (iI 0) (iI 0)) _) = _
    rw [h1]
    rfl
  rw [e0, e, b2s, if_pos rfl]
  rw [nw0] at h2
  have z0 := hz.1
  refine ⟨G', _, _, ?_, h2, ?_, ?_, fun t h5 h6 => ?_⟩
  · rw [pl1, iI_add]
    rfl
  · show (upd (upd s (5 + nb s) (iI d)) 0 (iI ((nb s + 1 : Nat) : Int)) 0).toInt.toNat = _
    rw [upd_at, iI_toInt (by omega) (by omega), Int.toNat_natCast, hb]
  · exact (ns_of ((upd_ne _ _ (by omega)).trans (upd_ne _ _ (by omega)))).trans z0
  · rw [row_ky (s := s) ((upd_ne _ _ (by omega)).trans (upd_ne _ _ (by omega))), row_lk (s := s) ((upd_ne _ _ (by omega)).trans (upd_ne _ _ (by omega)))]
    exact hz.2 t (by omega) h6
theorem D25 {N : Nat} (hN : N ≤ 260) (xs : Nat → Int32) {c : Int} (hc : 0 ≤ c ∧ c ≤ 2147483647) {n : Nat} (hn : 2 ≤ n ∧ n ≤ 6) : ∀ (m i f : Nat) (G : GT) (s : Nat → Int32) (L : List (Nat → Int32)), i + m = n → m < f → Cs G s L → nb s = i → Z4 s 0 → ∃ G' s' L', f_L_drawn_25 N xs (iI c) (iI n) f G (iI i) = some (1, G') ∧ Cs G' s' L' ∧ 2 ≤ nb s' := by
  intro m
  induction m with
  | zero =>
    intro i f G s L h1 h2 hC hb hz
    obtain ⟨f, rfl⟩ : ∃ g, f = g + 1 := ⟨f - 1, by omega⟩
    obtain rfl : i = n := by omega
    have e0 : f_L_drawn_25 N xs (iI c) (iI i) (f + 1) G (iI i) = (if iI i ≤ iI i then _ else _) := rfl
    rw [if_pos (Int32.le_refl _)] at e0
    obtain ⟨G2, s2, L2, b1, b2, b3⟩ := D64 hN xs hc 4 0 5 G s L (by omega) (by omega) hC hz
    exact ⟨G2, s2, L2, e0.trans b1, b2, by omega⟩
  | succ m ih =>
    intro i f G s L h1 h2 hC hb hz
    obtain ⟨f, rfl⟩ : ∃ g, f = g + 1 := ⟨f - 1, by omega⟩
    obtain ⟨G1, s1, L1, a1, a2, a3, a4⟩ := D25s (N := N) xs hc f hC (i := i) (n := n) (by omega) (by omega) hb hz
    obtain ⟨G2, s2, L2, b1, b2, b3⟩ := ih (i + 1) f G1 s1 L1 (by omega) (by omega) a2 a3 a4
    exact ⟨G2, s2, L2, a1.trans b1, b2, b3⟩
def s00 : Nat → Int32 := fun j => if j = 2 then 4 else 0
theorem s00_ne {j : Nat} (h : j ≠ 2) : s00 j = 0 := if_neg h
theorem i0 : (0 : Int32).toInt = 0 := rfl
theorem Cs_00 : Cs G0 s00 [] := by
  have g : ∀ i, i < 77 → i % 7 ≠ 0 → G0 i = fun _ => 0 := fun i h1 h2 => by
    unfold G0
    rw [if_neg (by omega), if_neg (by omega)]
  have e0 : G0 0 = fun j => if j = 8 then 4 else 0 := by
    unfold G0
    rw [if_pos (by omega)]
  have k1 : ∀ j, j ≠ 2 → s00 j = iI 0 := fun j hj => s00_ne hj
  have n0 : nb s00 = 0 := by unfold nb; rw [k1 0 (by decide)]; rfl
  have n1 : ns s00 = 0 := by unfold ns; rw [k1 1 (by decide)]; rfl
  refine ⟨?_, ?_, ⟨0, 0, by omega, by omega, rfl, rfl, Nat.le_refl _, fun i hi => absurd hi (Nat.not_lt_zero _)⟩, ⟨0, by omega, rfl, fun j hj => by omega⟩⟩
  · unfold Pr
    rw [e0, g (0 + 1) (by omega) (by omega), g (0 + 2) (by omega) (by omega), g (0 + 3) (by omega) (by omega), g (0 + 4) (by omega) (by omega), g (0 + 5) (by omega) (by omega), g (0 + 6) (by omega) (by omega)]
    exact ⟨rfl, rfl, rfl, rfl, rfl, fun j hj => (k1 _ (by omega)).symm, fun j hj => (k1 _ (by omega)).symm, fun j hj => (k1 _ (by omega)).symm, fun j hj => (k1 _ (by omega)).symm, fun j hj => (k1 _ (by omega)).symm, fun j hj => (k1 _ (by omega)).symm⟩
  · refine ⟨by rw [n0]; exact k1 0 (by decide), by omega, by rw [n1]; exact k1 1 (by decide), by omega, by decide, fun i hi => by omega, fun t ht => ?_, fun i hi => by omega, by rw [n0, n1]; decide⟩
    have a1 : ky s00 t = 0 := by unfold ky; rw [k1 _ (by omega)]; rfl
    have a2 : lk s00 t = 0 := by unfold lk; rw [k1 _ (by omega)]; rfl
    omega
theorem L_drawn {N : Nat} (hN : N ≤ 260) (xs : Nat → Int32) : ∃ G s L, f_L_drawn N xs = some (1, G) ∧ Cs G s L ∧ 2 ≤ nb s := by
  obtain ⟨v, hv⟩ := d_cell G0 (N := N) xs (a := 0) (by omega) hN
  obtain ⟨a, ea, ha⟩ := shr1 v
  have ma := mod_r (a := a) (m := 5) (by omega)
  have hz : Z4 s00 0 := ⟨rfl, fun i h1 h2 => ⟨by unfold ky; rw [s00_ne (by omega)]; rfl, by unfold lk; rw [s00_ne (by omega)]; rfl⟩⟩
  obtain ⟨G, s, L, b1, b2, b3⟩ := D25 hN xs ha (n := (2 + a % 5).toNat) (by omega) (2 + a % 5).toNat 0 7 G0 s00 [] (by omega) (by omega) Cs_00 rfl hz
  refine ⟨G, s, L, ?_, b2, b3⟩
  have e1 : (((2 + a % 5).toNat : Nat) : Int) = 2 + a % 5 := by omega
  rw [e1] at b1
  unfold f_L_drawn
  rw [(show f_L_cell G0 N xs (0 : Int32) = some (v, G0) from hv), b2s, ea, pl5, modI ha (by omega), pl2, iI_add]
  exact b1
end FN
