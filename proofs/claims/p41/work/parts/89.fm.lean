/-! a drawn print -/
section FM
variable {G : GT} {s : Nat → Int32} {L : List (Nat → Int32)}
theorem u2i {u : UInt32} (h : u.toNat ≤ 2147483647) : u.toInt32 = iI (u.toNat : Int) := by
  have h1 : u.toInt32.toInt = (u.toNat : Int) := by
    show (u.toInt32.toBitVec).toInt = _
    have e : u.toInt32.toBitVec.toNat = u.toNat := rfl
    rw [BitVec.toInt_eq_toNat_of_lt (by rw [e]; omega), e]
  rw [← toInt_iI u.toInt32, h1]
theorem iI_u {a : Int} (h : 0 ≤ a ∧ a ≤ 2147483647) : (iI a).toUInt32.toNat = a.toNat := by
  have h1 : (iI a).toInt = a := iI_toInt (by omega) (by omega)
  have h2 : (iI a).toInt = (iI a).toBitVec.toInt := rfl
  have h3 := BitVec.toInt_eq_toNat_cond (iI a).toBitVec
  have h4 : (iI a).toUInt32.toNat = (iI a).toBitVec.toNat := rfl
  have h5 := (iI a).toBitVec.isLt
  rw [← h2, h1] at h3
  rw [h4]
  split at h3 <;> omega
theorem shr1 (x : Int32) : ∃ a : Int, ((x.toUInt32 >>> ((1 : Int32).toUInt32 &&& Int32.toUInt32 31)).toInt32) = iI a ∧ 0 ≤ a ∧ a ≤ 2147483647 := by
  have h := x.toUInt32.toNat_lt
  have e1 : ((1 : Int32).toUInt32 &&& Int32.toUInt32 31).toNat % 32 = 1 := by decide
  have e : (x.toUInt32 >>> ((1 : Int32).toUInt32 &&& Int32.toUInt32 31)).toNat = x.toUInt32.toNat / 2 := by
    rw [UInt32.toNat_shiftRight, e1, Nat.shiftRight_eq_div_pow]
  exact ⟨_, u2i (by rw [e]; omega), by omega, by rw [e]; omega⟩
theorem shrn {a : Int} (h : 0 ≤ a ∧ a ≤ 2147483647) (n : UInt32) : ∃ b : Int, (((iI a).toUInt32 >>> n).toInt32) = iI b ∧ 0 ≤ b ∧ b ≤ 2147483647 := by
  have e : ((iI a).toUInt32 >>> n).toNat ≤ a.toNat := by
    rw [UInt32.toNat_shiftRight, iI_u h, Nat.shiftRight_eq_div_pow]
    exact Nat.div_le_self _ _
  exact ⟨_, u2i (by omega), by omega, by omega⟩
theorem modI {a m : Int} (h : 0 ≤ a ∧ a ≤ 2147483647) (hm : 0 < m ∧ m ≤ 1000) : iI a - iI a / iI m * iI m = iI (a % m) := by
  rw [iI_div (by omega) (by omega) (by omega) (by omega), iI_mul, iI_sub]
  congr 1
  have := Int.emod_add_mul_ediv a m
  rw [Int.mul_comm] at this
  omega
theorem mod_r {a m : Int} (hm : 0 < m) : 0 ≤ a % m ∧ a % m < m := ⟨Int.emod_nonneg _ (by omega), Int.emod_lt_of_pos _ hm⟩
theorem d_cell (G : GT) {N : Nat} (xs : Nat → Int32) {a : Int} (ha : 0 ≤ a ∧ a ≤ 100) (hN : N ≤ 260) : ∃ v, f_L_cell G N xs (iI a) = some (v, G) := by
  unfold f_L_cell
  by_cases h : (N : Int) ≤ a
  · rw [if_pos (by rw [lit_nI, iI_le (by omega) (by omega) (by omega) (by omega)]; exact h)]
    exact ⟨_, rfl⟩
  · rw [if_neg (by rw [lit_nI, iI_le (by omega) (by omega) (by omega) (by omega)]; exact h), if_pos (by rw [iI_inb (by omega) (by omega) (by omega)]; omega)]
    exact ⟨_, rfl⟩
theorem ch_0 (hC : Cs G s L) {o : Nat} {a b c : Int} (ho : o < 8) (ha : R32 a) (hb : R32 b) (hc : R32 c) (h : (vd s o a b c).1 = 0) : ∃ G', f_X9_change G o (iI a) (iI b) (iI c) = some (.inr (iI (an s o a)), G') ∧ Cs G' (nw s o a b c) ((s :: L).take 8) := by
  rcases ch_ok hC ho ha hb hc with h1 | h1 | h1 | h1
  · exact h1.2
  · have := h1.1; omega
  · have := h1.1; omega
  · have := h1.1; omega
theorem ch_3 (hC : Cs G s L) {o : Nat} {a b c : Int} (ho : o < 8) (ha : R32 a) (hb : R32 b) (hc : R32 c) (h : (vd s o a b c).1 = 3) : f_X9_change G o (iI a) (iI b) (iI c) = some (.inl 2, jd G (vd s o a b c).2.1 (vd s o a b c).2.2) := by
  rcases ch_ok hC ho ha hb hc with h1 | h1 | h1 | h1
  · have := h1.1; omega
  · have := h1.1; omega
  · have := h1.1; omega
  · exact h1.2
theorem r_refusal (G : GT) {x y : Int} (hx : 1 ≤ x ∧ x ≤ 100) : fw_refusal (jd G x y) (0 : Int32) = some (iI x, jd G x y) := by
  have e1 : jd G x y 78 1 = iI x := rfl
  have e : f_X9_refusal (jd G x y) (0 : Int32) = some (.inr (iI x), jd G x y) := by
    unfold f_X9_refusal f_X1_hasRefused f_X1_latestReason
    rw [e1, if_neg (by rw [pl0, iI_eq (by omega) (by omega) (by omega) (by omega)]; omega), Option.bind_some, if_neg (by decide), if_pos rfl]
    rfl
  unfold fw_refusal
  rw [e]
  rfl
theorem nb_of {t : Nat → Int32} (h : t 0 = s 0) : nb t = nb s := by unfold nb; rw [h]
theorem ns_of {t : Nat → Int32} (h : t 1 = s 1) : ns t = ns s := by unfold ns; rw [h]
theorem nb_st1 (t h l : Int) : nb (st1 s t h l) = nb s := by
  refine nb_of ?_
  unfold st1
  rw [upd_ne _ _ (by omega), upd_ne _ _ (by omega), upd_ne _ _ (by omega), upd_ne _ _ (by omega), upd_ne _ _ (by omega)]
theorem ns_st1 (h16 : ns s < 16) (t h l : Int) : ns (st1 s t h l) = ns s + 1 := by
  have e : st1 s t h l 1 = iI ((ns s + 1 : Nat) : Int) := by
    unfold st1
    rw [upd_ne _ _ (by omega), upd_at]
  have e2 : (iI ((ns s + 1 : Nat) : Int)).toInt = ((ns s + 1 : Nat) : Int) := iI_toInt (by omega) (by omega)
  show (st1 s t h l 1).toInt.toNat = _
  rw [e, e2, Int.toNat_natCast]
theorem D225a (N : Nat) (xs : Nat → Int32) (k : GT → Int32 → Option (Int32 × GT)) (x2 x4 : Int32) (G : GT) {x y : Int} (hx : x = 3 ∨ x = 4) : f_L_drawn_225 N xs k x2 x4 (-3) (jd G x y) = k (jd G x y) (x4 + 1) := by
  unfold f_L_drawn_225
  rw [if_pos rfl, r_refusal G (by omega), b2s, if_neg (by rw [pl3, iI_lt (by omega) (by omega) (by omega) (by omega)]; omega), r_refusal G (by omega), b2s, if_pos (by rw [pl4, iI_le (by omega) (by omega) (by omega) (by omega)]; omega)]
  rfl
theorem D225b (N : Nat) (xs : Nat → Int32) (k : GT → Int32 → Option (Int32 × GT)) (x2 x4 : Int32) (hC : Cs G s L) {n : Nat} (hn : ns s = n + 1) : f_L_drawn_225 N xs k x2 x4 (iI n) G = k G (x4 + 1) := by
  have h16 := hC.2.1.ns16
  unfold f_L_drawn_225
  rw [if_neg (by rw [show (-3 : Int32) = iI (-3) from rfl, iI_eq (by omega) (by omega) (by omega) (by omega)]; omega), pl3, r_acc3 hC.1 hC.2.1, bR_i, pl1, iI_sub, if_pos (by congr 1; omega)]
  rfl
theorem rm_cases (hn : ns s < 16) (c : Int) : rm s c = (0, 0, 0) ∨ rm s c = (3, 3, fre s) := by
  by_cases h : c ≤ fre s
  · exact Or.inl (rm_0 hn h)
  · exact Or.inr (rm_f hn h)
theorem D_rest (N : Nat) (xs : Nat → Int32) (k : GT → Int32 → Option (Int32 × GT)) (x2 x4 : Int32) (hC : Cs G s L) (hn : ns s < 16) {t : Int} (ht : 0 ≤ t ∧ t ≤ 3) : ∃ G' s' L', (bind2 (fw_rest G (iI t)) fun r17 G17 => f_L_drawn_225 N xs k x2 x4 r17 G17) = k G' (x4 + 1) ∧ Cs G' s' L' ∧ ns s' ≤ ns s + 1 ∧ nb s' = nb s := by
  have hR : R32 t := by unfold R32; omega
  have hv : (vd s 4 t 0 0) = (0, 0, 0) ∨ ∃ x y, vd s 4 t 0 0 = (3, x, y) ∧ (x = 3 ∨ x = 4) := by
    rw [C_e4, if_pos ht]
    by_cases h1 : lk s t.toNat = 0
    · rw [if_pos h1]; exact Or.inr ⟨_, _, rfl, Or.inr rfl⟩
    · rw [if_neg h1]
      rcases rm_cases hn (lk s t.toNat) with h | h
      · exact Or.inl h
      · exact Or.inr ⟨_, _, h, Or.inl rfl⟩
  rcases hv with hv | ⟨x, y, hv, hx⟩
  · obtain ⟨G', h1, h2⟩ := ch_0 hC (o := 4) (by omega) hR (R32_k (w := 0) (by omega)) (R32_k (w := 0) (by omega)) (by rw [hv])
    have e : fw_rest G (iI t) = some (iI (ns s), G') := by
      show catT _ (bindX (f_X9_change G 4 (iI t) (iI 0) (iI 0)) _) = _
      rw [h1]
      rfl
    have hk := ok4 (s := s) (a := t) (b := 0) (c := 0) (by rw [hv])
    have hns : ns (nw s 4 t 0 0) = ns s + 1 := by rw [nw4]; exact ns_st1 hn _ _ _
    refine ⟨G', _, _, ?_, h2, by omega, by rw [nw4]; exact nb_st1 _ _ _⟩
    rw [e, b2s]
    exact D225b N xs k x2 x4 h2 hns
  · have h1 := ch_3 hC (o := 4) (by omega) hR (R32_k (w := 0) (by omega)) (R32_k (w := 0) (by omega)) (by rw [hv])
    rw [hv] at h1
    have e : fw_rest G (iI t) = some (-3, jd G x y) := by
      show catT _ (bindX (f_X9_change G 4 (iI t) (iI 0) (iI 0)) _) = _
      rw [h1]
      rfl
    refine ⟨jd G x y, s, L, ?_, Cs_jd hC x y, by omega, rfl⟩
    rw [e, b2s]
    exact D225a N xs k x2 x4 G hx
theorem D_drop (N : Nat) (xs : Nat → Int32) (k : GT → Int32 → Option (Int32 × GT)) (x2 x4 : Int32) (hC : Cs G s L) (hn : ns s < 16) {t h c : Int} (ht : 0 ≤ t ∧ t ≤ 3) (hh : 0 ≤ h ∧ h ≤ 9) (hc : 1 ≤ c ∧ c ≤ 8) : ∃ G' s' L', f_L_drawn_222 N xs k x2 x4 (iI c) (iI h) (iI t) G = k G' (x4 + 1) ∧ Cs G' s' L' ∧ ns s' ≤ ns s + 1 ∧ nb s' = nb s := by
  have hR : R32 t := by unfold R32; omega
  have hR2 : R32 h := by unfold R32; omega
  have hR3 : R32 c := by unfold R32; omega
  have hv : (vd s 3 t h c) = (0, 0, 0) ∨ ∃ x y, vd s 3 t h c = (3, x, y) ∧ (x = 3 ∨ x = 4) := by
    have e : vd s 3 t h c = if 0 ≤ t ∧ t ≤ 3 then (if (0 ≤ h ∧ h ≤ 9) ∧ 1 ≤ c ∧ c ≤ 8 then rm s c else (2, 0, 0)) else (1, 0, 0) := rfl
    rw [e, if_pos ht, if_pos ⟨hh, hc⟩]
    rcases rm_cases hn c with h | h
    · exact Or.inl h
    · exact Or.inr ⟨_, _, h, Or.inl rfl⟩
  unfold f_L_drawn_222
  rcases hv with hv | ⟨x, y, hv, hx⟩
  · obtain ⟨G', h1, h2⟩ := ch_0 hC (o := 3) (by omega) hR hR2 hR3 (by rw [hv])
    have e : fw_drop G (iI t) (iI h) (iI c) = some (iI (ns s), G') := by
      show catT _ (bindX (f_X9_change G 3 (iI t) (iI h) (iI c)) _) = _
      rw [h1]
      rfl
    have hns : ns (nw s 3 t h c) = ns s + 1 := by rw [nw3]; exact ns_st1 hn _ _ _
    refine ⟨G', _, _, ?_, h2, by omega, by rw [nw3]; exact nb_st1 _ _ _⟩
    rw [e, b2s]
    exact D225b N xs k x2 x4 h2 hns
  · have h1 := ch_3 hC (o := 3) (by omega) hR hR2 hR3 (by rw [hv])
    rw [hv] at h1
    have e : fw_drop G (iI t) (iI h) (iI c) = some (-3, jd G x y) := by
      show catT _ (bindX (f_X9_change G 3 (iI t) (iI h) (iI c)) _) = _
      rw [h1]
      rfl
    refine ⟨jd G x y, s, L, ?_, Cs_jd hC x y, by omega, rfl⟩
    rw [e, b2s]
    exact D225a N xs k x2 x4 G hx
theorem D139s {N : Nat} (hN : N ≤ 260) (xs : Nat → Int32) (x2 : Int32) (f : Nat) (hC : Cs G s L) {i : Nat} (hi : i < 12) (hn : ns s ≤ i) : ∃ G' s' L', f_L_drawn_139 N xs x2 (f + 1) G (iI i) = f_L_drawn_139 N xs x2 f G' (iI ((i + 1 : Nat) : Int)) ∧ Cs G' s' L' ∧ ns s' ≤ i + 1 ∧ nb s' = nb s := by
  obtain ⟨v, hv⟩ := d_cell G (N := N) xs (a := 5 + (i : Int)) (by omega) hN
  obtain ⟨a, ea, ha⟩ := shr1 v
  obtain ⟨b2, e2, hb2⟩ := shrn ha ((2 : Int32).toUInt32 &&& Int32.toUInt32 31)
  obtain ⟨b4, e4, hb4⟩ := shrn ha ((4 : Int32).toUInt32 &&& Int32.toUInt32 31)
  obtain ⟨b8, e8, hb8⟩ := shrn ha ((8 : Int32).toUInt32 &&& Int32.toUInt32 31)
  have m4 := mod_r (a := a) (m := 4) (by omega)
  have m7 := mod_r (a := a) (m := 7) (by omega)
  have mt := mod_r (a := b2) (m := 4) (by omega)
  have mh := mod_r (a := b4) (m := 10) (by omega)
  have m8 := mod_r (a := b8) (m := 8) (by omega)
  have m3 := mod_r (a := b8) (m := 3) (by omega)
  have hx : iI (i : Int) + 1 = iI ((i + 1 : Nat) : Int) := by rw [pl1, iI_add]; rfl
  have key : ∀ R, (∃ G' s' L', R = f_L_drawn_139 N xs x2 f G' (iI (i : Int) + 1) ∧ Cs G' s' L' ∧ ns s' ≤ ns s + 1 ∧ nb s' = nb s) → f_L_drawn_139 N xs x2 (f + 1) G (iI i) = R → ∃ G' s' L', f_L_drawn_139 N xs x2 (f + 1) G (iI i) = f_L_drawn_139 N xs x2 f G' (iI ((i + 1 : Nat) : Int)) ∧ Cs G' s' L' ∧ ns s' ≤ i + 1 ∧ nb s' = nb s := by
    rintro R ⟨G', s', L', h1, h2, h3, h4⟩ h5
    refine ⟨G', s', L', ?_, h2, by omega, h4⟩
    rw [h5, h1, hx]
  have e0 : f_L_drawn_139 N xs x2 (f + 1) G (iI i) = (if (12 : Int32) ≤ iI i then _ else _) := rfl
  rw [if_neg (by rw [pl12, iI_le (by omega) (by omega) (by omega) (by omega)]; omega), pl5, iI_add, hv, b2s, ea, e2, e4, e8, pl4, modI ha (by omega), modI hb2 (by omega)] at e0
  by_cases h0 : a % 4 = 0
  · rw [h0, if_pos p00] at e0
    exact key _ (D_rest N xs _ x2 _ hC (by omega) (by omega)) e0
  · rw [if_neg (by rw [pl0, iI_eq (by omega) (by omega) (by omega) (by omega)]; exact h0), pl7, modI ha (by omega), pl8, modI hb8 (by omega), pl10, modI hb4 (by omega), pl3, modI hb8 (by omega), pl1, iI_add, iI_add] at e0
    by_cases h7 : a % 7 = 0
    · rw [h7, if_pos p00] at e0
      exact key _ (D_drop N xs _ x2 _ hC (by omega) (by omega) (by omega) (by omega)) e0
    · rw [if_neg (by rw [pl0, iI_eq (by omega) (by omega) (by omega) (by omega)]; exact h7)] at e0
      exact key _ (D_drop N xs _ x2 _ hC (by omega) (by omega) (by omega) (by omega)) e0
end FM
