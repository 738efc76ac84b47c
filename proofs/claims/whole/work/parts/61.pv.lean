/-! lines -/
theorem nar_ok (x : Int32) : okC (vp_nar .char x) := by
  rw [vp_nar_char]
  generalize x.toUInt32.toUInt16 = y
  have hy := y.toNat_lt
  have h : y.toUInt32.toInt32.toInt = (y.toNat : Int) := by
    show (y.toUInt32.toBitVec).toInt = _
    have h1 : y.toUInt32.toBitVec.toNat = y.toNat := by simp
    rw [BitVec.toInt_eq_toNat_of_lt (by rw [h1]; omega), h1]
  constructor
  · rw [Int32.le_iff_toInt_le, h]
    show (0 : Int) ≤ _
    omega
  · rw [Int32.lt_iff_toInt_lt, h, nI_toInt (by omega)]
    omega
def wl (G : GT) (l : List Int32) : GT := upR (upR G 83 (fun j => ((l.map (vp_nar .char))[j]?).getD (G 83 j))) 82 (upd (G 82) 2 (iI l.length))
def wm (K : GT) (l : List Int32) : GT := upR (upR K 5 (fun j => ((l.map (vp_nar .char))[j]?).getD (K 5 j))) 0 (upd (K 0) 11 (iI l.length))
theorem add_eq (f : Int32 → Int32) (g : Nat → Int32) (l : List Int32) (c : Int32) : upd (fun j => ((l.map f)[j]?).getD (g j)) l.length (f c) = fun j => (((l ++ [c]).map f)[j]?).getD (g j) := by
  funext j
  rw [List.map_append, List.getElem?_append, List.length_map]
  by_cases h : j = l.length
  · rw [h, upd_at, if_neg (by omega), Nat.sub_self]
    rfl
  · rw [upd_ne _ _ h]
    by_cases h2 : j < l.length
    · rw [if_pos h2]
    · rw [if_neg h2]
      have e1 : (l.map f)[j]? = none := List.getElem?_eq_none (by rw [List.length_map]; omega)
      have e2 : ([c].map f)[j - l.length]? = none := List.getElem?_eq_none (by simp; omega)
      rw [e1, e2]
section PV
variable {G K : GT} {s : Nat → Int32}
theorem c_add {l : List Int32} (hl : l.length < 32) (c : Int32) : f_X2_addSign (wl G l) c = some (wl G (l ++ [c])) := by
  have e : wl G l 82 2 = iI l.length := rfl
  have e1 : (iI (l.length : Int)).toNatClampNeg = l.length := by rw [iI_clamp (by omega) (by omega), Int.toNat_natCast]
  unfold f_X2_addSign
  rw [e, e1]
  rw [if_neg (by rw [pl0, iI_lt (by omega) (by omega) (by omega) (by omega)]; omega), if_neg (by rw [lit_nI, iI_le (by omega) (by omega) (by omega) (by omega)]; omega), if_pos (by rw [iI_inb (by omega) (by omega) (by omega)]; omega)]
  rw [Option.bind_some, Option.bind_some]
  congr 1
  have e2 : wl G l 83 = fun j => ((l.map (vp_nar .char))[j]?).getD (G 83 j) := by
    unfold wl
    rw [upR_ne _ _ (by decide), upR_at]
  have e3 : wl G l 82 = upd (G 82) 2 (iI l.length) := by unfold wl; rw [upR_at]
  funext i
  by_cases h82 : i = 82
  · rw [h82, upR_at, upR_ne _ _ (by decide), e3, upd_at, upd_upd]
    unfold wl
    rw [upR_at, List.length_append, pl1, iI_add]
    rfl
  · rw [upR_ne _ _ h82]
    by_cases h83 : i = 83
    · rw [h83, upR_at, e2, add_eq]
      unfold wl
      rw [upR_ne _ _ (by decide), upR_at]
    · rw [upR_ne _ _ h83]
      unfold wl
      rw [upR_ne _ _ h82, upR_ne _ _ h83, upR_ne _ _ h82, upR_ne _ _ h83]
theorem m_says {l : List Int32} (hl : l.length < 60) (c : Int32) : f_X10_says (wm K l) c = some (wm K (l ++ [c])) := by
  have e : wm K l 0 11 = iI l.length := rfl
  have e1 : (iI (l.length : Int)).toNatClampNeg = l.length := by rw [iI_clamp (by omega) (by omega), Int.toNat_natCast]
  unfold f_X10_says
  rw [e, e1]
  rw [if_pos (by rw [iI_inb (by omega) (by omega) (by omega)]; omega)]
  rw [Option.bind_some, Option.bind_some]
  congr 1
  have e2 : wm K l 5 = fun j => ((l.map (vp_nar .char))[j]?).getD (K 5 j) := by
    unfold wm
    rw [upR_ne _ _ (by decide), upR_at]
  have e3 : wm K l 0 = upd (K 0) 11 (iI l.length) := by unfold wm; rw [upR_at]
  funext i
  by_cases h82 : i = 0
  · rw [h82, upR_at, upR_ne _ _ (by decide), e3, upd_at, upd_upd]
    unfold wm
    rw [upR_at, List.length_append, pl1, iI_add]
    rfl
  · rw [upR_ne _ _ h82]
    by_cases h83 : i = 5
    · rw [h83, upR_at, e2, add_eq]
      unfold wm
      rw [upR_ne _ _ (by decide), upR_at]
    · rw [upR_ne _ _ h83]
      unfold wm
      rw [upR_ne _ _ h82, upR_ne _ _ h83, upR_ne _ _ h82, upR_ne _ _ h83]
theorem wl_i (l : List Int32) {i : Nat} (h1 : i ≠ 82) (h2 : i ≠ 83) : wl G l i = G i := by
  unfold wl
  rw [upR_ne _ _ h1, upR_ne _ _ h2]
theorem wm_i (l : List Int32) {i : Nat} (h1 : i ≠ 0) (h2 : i ≠ 5) : wm K l i = K i := by
  unfold wm
  rw [upR_ne _ _ h1, upR_ne _ _ h2]
theorem wm_j (l : List Int32) {j : Nat} (h1 : j ≠ 11) : wm K l 0 j = K 0 j := by
  unfold wm
  rw [upR_at, upd_ne _ _ h1]
theorem wl_0 : upR G 82 (upd (G 82) 2 (iI 0)) = wl G [] := by
  unfold wl
  have e : (fun j => (((([] : List Int32).map (vp_nar .char))[j]?).getD (G 83 j))) = G 83 := rfl
  rw [e, upR_self]
  rfl
theorem wm_0 : upR K 0 (upd (K 0) 11 (iI 0)) = wm K [] := by
  unfold wm
  have e : (fun j => (((([] : List Int32).map (vp_nar .char))[j]?).getD (K 5 j))) = K 5 := rfl
  rw [e, upR_self]
  rfl
theorem wm_0z : upR K 0 (upd (K 0) 11 0) = wm K [] := wm_0
theorem Pr_wl (l : List Int32) (hP : Pr G 0 s) : Pr (wl G l) 0 s := Pr_frame (fun i h1 h2 => wl_i l (by omega) (by omega)) hP
theorem Rel_wl (hR : Rel G K) {l : List Int32} (hl : l.length ≤ 32) (x : Int32) : Rel (wl G l) (wm (th K x) l) := by
  obtain ⟨⟨hP, hI⟩, a2, a3, a4, a5, a6⟩ := hR
  have g : ∀ i, i ≠ 82 → i ≠ 83 → wl G l i = G i := fun i h1 h2 => wl_i l h1 h2
  have z0 : ∀ j, j ≠ 6 → j ≠ 11 → wm (th K x) l 0 j = K 0 j := fun j h1 h2 => by
    rw [wm_j l h2]
    unfold th
    rw [upR_at, upd_ne _ _ h1]
  have z1 : ∀ i, i ≠ 0 → i ≠ 5 → wm (th K x) l i = K i := fun i h1 h2 => by
    rw [wm_i l h1 h2]
    exact upR_ne _ _ h1
  refine ⟨⟨by rw [z1 1 (by decide) (by decide)]; exact Pr_wl l hP, by rw [z1 1 (by decide) (by decide)]; exact hI⟩, Rv_frame a2 (fun i h1 h2 => g i (by omega) (by omega)) (g 77 (by decide) (by decide)) (z0 3 (by decide) (by decide)) (z1 3 (by decide) (by decide)), Rj_frame a3 (g 78 (by decide) (by decide)) (z0 7 (by decide) (by decide)) (z0 8 (by decide) (by decide)), ⟨l.length, hl, rfl, rfl, fun j hj => ?_⟩, Rt_frame a5 (by rw [g 84 (by decide) (by decide)]) (by rw [g 84 (by decide) (by decide)]) (g 85 (by decide) (by decide)) (z0 13 (by decide) (by decide)) (z0 16 (by decide) (by decide)) (z1 6 (by decide) (by decide)), Hs_frame a6 (fun i h1 h2 => g i (by omega) (by omega)) (g 88 (by decide) (by decide)) (z0 5 (by decide) (by decide)) (z1 4 (by decide) (by decide))⟩
  have e : (l.map (vp_nar .char))[j]? = some (vp_nar .char l[j]) := by
    rw [List.getElem?_map, List.getElem?_eq_getElem hj]
    rfl
  have e1 : wl G l 83 j = vp_nar .char l[j] := by
    unfold wl
    rw [upR_ne _ _ (by decide), upR_at, e]
    rfl
  have e2 : wm (th K x) l 5 j = vp_nar .char l[j] := by
    unfold wm
    rw [upR_ne _ _ (by decide), upR_at, e]
    rfl
  rw [e1, e2]
  exact ⟨rfl, nar_ok _⟩
/-- the sign of a digit, of a pitch -/
def dg (v : Int) : Int32 := (((48 : Int32) + (iI v - iI v / 10 * 10)).toUInt32 % 65536).toInt32
def pch (v : Int) : Int32 := (((97 : Int32) + iI v).toUInt32 % 65536).toInt32
theorem c_num {l : List Int32} {v : Int} (hl : l.length < 32) (hv : 0 ≤ v ∧ v ≤ 9) : f_X2_addNumber (wl G l) (iI v) = some (wl G (l ++ [dg v])) := by
  unfold f_X2_addNumber
  rw [if_pos (by rw [pl10, iI_lt (by omega) (by omega) (by omega) (by omega)]; omega)]
  unfold f_X2_addNumber_18
  have := c_add (G := G) hl (dg v)
  unfold dg at this ⊢
  rw [this]
  rfl
theorem m_num {l : List Int32} {v : Int} (hl : l.length < 60) (hv : 0 ≤ v ∧ v ≤ 9) : f_X10_saysNumber (wm K l) (iI v) = some (wm K (l ++ [dg v])) := by
  unfold f_X10_saysNumber
  rw [if_pos (by rw [pl9, iI_le (by omega) (by omega) (by omega) (by omega)]; omega)]
  unfold f_X10_saysNumber_14
  have := m_says (K := K) hl (dg v)
  unfold dg at this ⊢
  rw [this]
  rfl
/-- signs of a number up to 99 -/
def nl (l : List Int32) (v : Int) : List Int32 := if v < 10 then l ++ [dg v] else (l ++ [dg 1]) ++ [dg v]
theorem nl_len (l : List Int32) (v : Int) : (nl l v).length ≤ l.length + 2 := by
  unfold nl
  by_cases h : v < 10
  · rw [if_pos h, List.length_append]; simp
  · rw [if_neg h, List.length_append, List.length_append]; simp
theorem c_num2 {l : List Int32} {v : Int} (hl : l.length < 31) (hv : 0 ≤ v ∧ v ≤ 11) : f_X2_addNumber (wl G l) (iI v) = some (wl G (nl l v)) := by
  unfold nl
  by_cases h : v < 10
  · rw [if_pos h]; exact c_num (by omega) (by omega)
  · rw [if_neg h]
    unfold f_X2_addNumber
    rw [if_neg (by rw [pl10, iI_lt (by omega) (by omega) (by omega) (by omega)]; omega)]
    have e : iI v / 10 = iI 1 := by
      rw [pl10, iI_div (by omega) (by omega) (by omega) (by omega)]
      congr 1
      omega
    have e2 : (((48 : Int32) + iI 1).toUInt32 % 65536).toInt32 = dg 1 := rfl
    rw [e, e2, c_add (by omega), Option.bind_some]
    unfold f_X2_addNumber_18
    have := c_add (G := G) (l := l ++ [dg 1]) (by rw [List.length_append]; simp; omega) (dg v)
    unfold dg at this ⊢
    rw [this]
    rfl
theorem m_num2 {l : List Int32} {v : Int} (hl : l.length < 31) (hv : 0 ≤ v ∧ v ≤ 11) : f_X10_saysNumber (wm K l) (iI v) = some (wm K (nl l v)) := by
  unfold nl
  by_cases h : v < 10
  · rw [if_pos h]; exact m_num (by omega) (by omega)
  · rw [if_neg h]
    unfold f_X10_saysNumber
    rw [if_neg (by rw [pl9, iI_le (by omega) (by omega) (by omega) (by omega)]; omega)]
    have e : iI v / 10 = iI 1 := by
      rw [pl10, iI_div (by omega) (by omega) (by omega) (by omega)]
      congr 1
      omega
    have e2 : f_X10_saysNumber0 (wm K l) (iI 1) = some (wm K (l ++ [dg 1])) := by
      unfold f_X10_saysNumber0
      rw [if_pos (by decide)]
      unfold f_X10_saysNumber0_14
      have := m_says (K := K) (l := l) (by omega) (dg 1)
      unfold dg at this ⊢
      rw [this]
      rfl
    rw [e, e2, Option.bind_some]
    unfold f_X10_saysNumber_14
    have := m_says (K := K) (l := l ++ [dg 1]) (by rw [List.length_append]; simp; omega) (dg v)
    unfold dg at this ⊢
    rw [this]
    rfl
/-- the signs of a bar's line for its first sounds -/
def ltd (s : Nat → Int32) (b j : Nat) (l : List Int32) : List Int32 := if bS s j < bB s b then l ++ [126] else l
def lch (s : Nat → Int32) (j : Nat) : Int32 := if ht s j < 0 then 46 else pch (pt s j)
def lc (s : Nat → Int32) (b : Nat) : Nat → List Int32
  | 0 => []
  | j + 1 => if 0 < ov s j b then ((ltd s b j (lc s b j) ++ [lch s j]) ++ [dg (ov s j b)]) ++ [32] else lc s b j
theorem lc_len (hI : Inv s) {b : Nat} (hb : b < nb s) : ∀ n, n ≤ ns s → ((lc s b n).length : Int) ≤ 3 * sm (fun j => ov s j b) n + (if bB s b < bS s n then 1 else 0) := by
  intro n
  induction n with
  | zero =>
    intro _
    have h := hI.bBr (b := b) (by omega)
    have e : bS s 0 = 0 := rfl
    have e2 : (lc s b 0).length = 0 := rfl
    rw [e, e2, if_neg (by omega), sm_0]
    decide
  | succ n ih =>
    intro hn
    have h1 := ih (by omega)
    have h2 := ov_r hI (show n < ns s by omega) hb
    have h3 := bS_1 s n
    have h4 := hI.sd (show n < ns s by omega)
    have e : lc s b (n + 1) = if 0 < ov s n b then ((ltd s b n (lc s b n) ++ [lch s n]) ++ [dg (ov s n b)]) ++ [32] else lc s b n := rfl
    rw [sm_1, e]
    by_cases h5 : 0 < ov s n b
    · rw [if_pos h5]
      have h6 : bB s b < bS s (n + 1) := by
        unfold ov at h5
        omega
      rw [if_pos h6]
      simp only [List.length_append, List.length_cons, List.length_nil]
      unfold ltd
      by_cases h7 : bS s n < bB s b
      · rw [if_pos h7]
        rw [if_neg (by omega)] at h1
        simp only [List.length_append, List.length_cons, List.length_nil]
        omega
      · rw [if_neg h7]
        have h8 : (if bB s b < bS s n then (1 : Int) else 0) ≤ 1 := it_le (by omega) (by omega)
        omega
    · rw [if_neg h5]
      by_cases h7 : bB s b < bS s n
      · rw [if_pos h7] at h1
        rw [if_pos (by omega)]
        omega
      · rw [if_neg h7] at h1
        have h8 : 0 ≤ (if bB s b < bS s (n + 1) then (1 : Int) else 0) := it_ge (by omega)
        omega
theorem lc_25 (hI : Inv s) {b n : Nat} (hb : b < nb s) (hn : n ≤ ns s) : (lc s b n).length ≤ 25 := by
  have h1 := lc_len hI hb n hn
  have h2 := fill_eq hI hb
  have h3 := hI.sz hb
  have h4 := sm_mono (f := fun j => ov s j b) (n := ns s) (fun i hi => (ov_r hI hi hb).1) n (ns s) hn (Nat.le_refl _)
  have h8 : (if bB s b < bS s n then (1 : Int) else 0) ≤ 1 := it_le (by omega) (by omega)
  omega
theorem ltd_len (b j : Nat) (l : List Int32) : (ltd s b j l).length ≤ l.length + 1 := by
  unfold ltd
  by_cases h : bS s j < bB s b
  · rw [if_pos h]; simp
  · rw [if_neg h]; omega
theorem c_part (hP : Pr G 0 s) (hI : Inv s) {j b : Nat} (hj : j < ns s) (hb : b < nb s) {l : List Int32} (hl : l.length ≤ 25) (hv : 0 < ov s j b) : f_X2_addPart (wl G l) (iI j) (iI b) = some (wl G ((ltd s b j l ++ [lch s j]) ++ [dg (ov s j b)])) := by
  have hov := ov_r hI hj hb
  have h47 : ∀ l2 : List Int32, l2.length ≤ 26 → ∀ c, f_X2_addPart_47 (wl G l2) (iI j) (iI b) c = some (wl G ((l2 ++ [c]) ++ [dg (ov s j b)])) := by
    intro l2 h2 c
    unfold f_X2_addPart_47
    rw [c_add (by omega), Option.bind_some, c_overlap (Pr_wl _ hP) hI hj hb, Option.bind_some, c_num (by simp; omega) (by omega)]
    rfl
  have h18 : ∀ l2 : List Int32, l2.length ≤ 26 → f_X2_addPart_18 (wl G l2) (iI j) (iI b) = some (wl G ((l2 ++ [lch s j]) ++ [dg (ov s j b)])) := by
    intro l2 h2
    unfold f_X2_addPart_18 lch
    by_cases hd : ht s j < 0
    · rw [c_restJ (Pr_wl _ hP) hI hj (by omega), Option.bind_some, if_neg ne10, h47 _ h2, if_pos hd]
    · rw [c_dropI (Pr_wl _ hP) hI hj (by omega), Option.bind_some, if_pos (show iI 0 = (0 : Int32) from rfl), c_pitchOf (Pr_wl _ hP) hI hj, Option.bind_some, h47 _ h2, if_neg hd, pc_d (by omega)]
      rfl
  unfold f_X2_addPart ltd
  rw [c_isTied (Pr_wl _ hP) hI hj hb, Option.bind_some]
  by_cases ht : bS s j < bB s b
  · rw [if_pos ht, if_pos ht, if_neg ne10, c_add (by omega), Option.bind_some, h18 _ (by simp; omega)]
  · rw [if_neg ht, if_neg ht, if_pos (show iI 0 = (0 : Int32) from rfl), h18 _ (by omega)]
theorem c_writeBar (hP : Pr G 0 s) (hI : Inv s) {b : Nat} (hb : b < nb s) : f_X2_writeBar G (iI b) = some (iI ((lc s b (ns s) ++ [95]) ++ [dg (sz s b - sm (fun j => ov s j b) (ns s))]).length, wl G ((lc s b (ns s) ++ [95]) ++ [dg (sz s b - sm (fun j => ov s j b) (ns s))])) := by
  have h16 := hI.ns16
  have h6 := hI.nb6
  have hz := hI.sz hb
  have hf := fill_eq hI hb
  unfold f_X2_writeBar
  rw [Option.bind_some, pl0, wl_0]
  unfold f_X2_writeBar_7
  refine lq2_fr (X1 := fun i => wl G (lc s b i)) (X2 := fun i => iI i) (ns s) _ rfl rfl (fun k i hi => ?_) (fun k => ?_) (by omega)
  · have hn : f_X5_countOfSounds (wl G (lc s b i)) = some (iI (ns s)) := congrArg some (c_ns (Pr_wl _ hP) hI)
    have ho := c_overlap (Pr_wl (lc s b i) hP) hI hi hb
    have hr := ov_r hI hi hb
    have h25 := lc_25 hI hb (n := i) (by omega)
    have e : lc s b (i + 1) = if 0 < ov s i b then ((ltd s b i (lc s b i) ++ [lch s i]) ++ [dg (ov s i b)]) ++ [32] else lc s b i := rfl
    rw [hn, Option.bind_some, if_neg (by rw [iI_le (by omega) (by omega) (by omega) (by omega)]; omega), ho, Option.bind_some, e]
    by_cases h : 0 < ov s i b
    · have hl := ltd_len (s := s) b i (lc s b i)
      rw [if_neg (by rw [pl0, iI_le (by omega) (by omega) (by omega) (by omega)]; omega), c_part hP hI hi hb h25 h, Option.bind_some, c_add (by simp; omega), Option.bind_some, if_pos h]
      unfold f_X2_writeBar_42
      rw [pl1, iI_add]
      rfl
    · rw [if_pos (by rw [pl0, iI_le (by omega) (by omega) (by omega) (by omega)]; omega), if_neg h]
      unfold f_X2_writeBar_42
      rw [pl1, iI_add]
      rfl
  · have hn : f_X5_countOfSounds (wl G (lc s b (ns s))) = some (iI (ns s)) := congrArg some (c_ns (Pr_wl _ hP) hI)
    have h25 := lc_25 hI hb (n := ns s) (by omega)
    have hs : f_X5_sizeOf (wl G (lc s b (ns s) ++ [95])) (iI b) = some (iI (sz s b)) := congrArg some (c_sz (Pr_wl _ hP) (by omega))
    rw [hn, Option.bind_some, if_pos (by rw [iI_le (by omega) (by omega) (by omega) (by omega)]; omega), c_add (by omega), Option.bind_some, hs, Option.bind_some, c_filledOfBar (Pr_wl _ hP) hI hb, Option.bind_some, iI_sub, c_num (by simp; omega) (by omega)]
    rfl
theorem m_line (hK : K 1 = s) (hI : Inv s) {b : Nat} (hb : b < nb s) : f_X10_line_14 K (iI b) (iI 0) = some (iI ((lc s b (ns s) ++ [95]) ++ [dg (sz s b - sm (fun j => ov s j b) (ns s))]).length, wm (th K (iI 0)) ((lc s b (ns s) ++ [95]) ++ [dg (sz s b - sm (fun j => ov s j b) (ns s))])) := by
  have h16 := hI.ns16
  have h6 := hI.nb6
  have hz := hI.sz hb
  have hf := fill_eq hI hb
  have w1 : ∀ l, wm (th K (iI 0)) l 1 = s := fun l => hK
  unfold f_X10_line_14
  rw [Option.bind_some, th_d, th06, if_pos (by decide), Option.bind_some, pl0, wm_0]
  unfold f_X10_line_33
  refine lq2_fr (X1 := fun i => wm (th K (iI 0)) (lc s b i)) (X2 := fun i => iI i) (ns s) _ rfl rfl (fun k i hi => ?_) (fun k => ?_) (by omega)
  · have hr := ov_r hI hi hb
    have h25 := lc_25 hI hb (n := i) (by omega)
    have hl := ltd_len (s := s) b i (lc s b i)
    have e : lc s b (i + 1) = if 0 < ov s i b then ((ltd s b i (lc s b i) ++ [lch s i]) ++ [dg (ov s i b)]) ++ [32] else lc s b i := rfl
    have hq : wm (th K (iI 0)) (lc s b i) 1 1 = iI (ns s) := by rw [w1]; exact hI.s1
    rw [hq, if_neg (by rw [iI_le (by omega) (by omega) (by omega) (by omega)]; omega), m_beatsIn (w1 _) hI hi hb, Option.bind_some, e]
    have h90 : ∀ l2 : List Int32, l2.length ≤ 26 → ∀ c, f_X10_line_90 (wm (th K (iI 0)) l2) (iI b) k (iI i) c = k (wm (th K (iI 0)) (((l2 ++ [c]) ++ [dg (ov s i b)]) ++ [32])) (iI ((i + 1 : Nat) : Int)) := by
      intro l2 h2 c
      unfold f_X10_line_90
      rw [m_says (by omega), Option.bind_some, m_beatsIn (w1 _) hI hi hb, Option.bind_some, m_num (by simp; omega) (by omega), Option.bind_some, m_says (by simp; omega), Option.bind_some]
      unfold f_X10_line_109
      rw [pl1, iI_add]
      rfl
    have h67 : ∀ l2 : List Int32, l2.length ≤ 26 → f_X10_line_67 (wm (th K (iI 0)) l2) (iI b) k (iI i) = k (wm (th K (iI 0)) (((l2 ++ [lch s i]) ++ [dg (ov s i b)]) ++ [32])) (iI ((i + 1 : Nat) : Int)) := by
      intro l2 h2
      unfold f_X10_line_67 lch
      rw [m_isDrop (w1 _) (show i < 16 by omega), Option.bind_some]
      by_cases hd : ht s i < 0
      · rw [if_pos hd, if_pos (show iI 0 = (0 : Int32) from rfl), h90 _ h2, if_pos hd]
      · rw [if_neg hd, if_neg ne10, m_pitch (w1 _) hI hi (by omega), Option.bind_some, h90 _ h2, if_neg hd]
        rfl
    by_cases h : 0 < ov s i b
    · rw [if_neg (by rw [pl0, iI_le (by omega) (by omega) (by omega) (by omega)]; omega), m_isTied (w1 _) hI hi hb, Option.bind_some, if_pos h]
      unfold ltd
      by_cases ht : bS s i < bB s b
      · rw [if_pos ht, if_pos ht, if_neg ne10, m_says (by omega), Option.bind_some, h67 _ (by simp; omega)]
      · rw [if_neg ht, if_neg ht, if_pos (show iI 0 = (0 : Int32) from rfl), h67 _ (by omega)]
    · rw [if_pos (by rw [pl0, iI_le (by omega) (by omega) (by omega) (by omega)]; omega), if_neg h]
      unfold f_X10_line_109
      rw [pl1, iI_add]
      rfl
  · have h25 := lc_25 hI hb (n := ns s) (by omega)
    have hq : wm (th K (iI 0)) (lc s b (ns s)) 1 1 = iI (ns s) := by rw [w1]; exact hI.s1
    have hfl : f_X10_filled (wm (th K (iI 0)) (lc s b (ns s) ++ [95])) (iI b) = some (iI (sm (fun j => ov s j b) (ns s))) := m_filled (w1 _) hI hb
    have hb5 : (5 : Int32) + iI (b : Int) = iI (5 + (b : Int)) := by rw [pl5, iI_add]
    have hi5 : (5 + (b : Int)).toNat = 5 + b := by omega
    have hsz : wm (th K (iI 0)) (lc s b (ns s) ++ [95]) 1 (5 + b) = iI (sz s b) := by rw [w1, sz, toInt_iI]
    rw [hq, if_pos (by rw [iI_le (by omega) (by omega) (by omega) (by omega)]; omega), m_says (by omega), Option.bind_some, hb5, if_pos (by rw [iI_inb (by omega) (by omega) (by omega)]; omega), hfl, Option.bind_some, iI_clamp (by omega) (by omega), hi5, hsz, iI_sub, m_num (by simp; omega) (by omega)]
    rfl
theorem t_line : St_line Rel := by
  intro G K hR p1
  obtain ⟨⟨hP, hI⟩, -⟩ := id hR
  have h16 := hI.ns16
  have h6 := hI.nb6
  have hc0 := c_nb hP hI
  have hm0 := hI.b0
  obtain ⟨a, rfl, ha⟩ := exI p1
  unfold R32 at ha
  by_cases h1 : 0 ≤ a ∧ a < nb (K 1)
  · obtain ⟨b, rfl⟩ : ∃ b : Nat, a = b := ⟨a.toNat, by omega⟩
    have hb : b < nb (K 1) := by omega
    have h25 := lc_25 hI hb (n := ns (K 1)) (by omega)
    have e1 : f_X5_hasBar G (iI b) = some (iI 1) := by
      unfold f_X5_hasBar f_X9_isWithin
      (simp (disch := omega) only [pl0, pl1, pl2, pl3, pl4, pl5, pl6, pl7, pl8, pl9, pl10, pl11, pl12, pl16, pl19, lit_nI, iI_add, iI_sub, iI_mul, iI_neg, iI_le, iI_lt, iI_eq, iI_max, iI_min, Option.bind_some, Option.bind_eq_bind, if_true, if_false, hc0]; (repeat (first | rw [if_pos (by omega)] | rw [if_neg (by omega)])); (try simp (disch := omega) only [pl0, pl1, pl2, pl3, pl4, pl5, pl6, pl7, pl8, pl9, pl10, pl11, pl12, pl16, pl19, lit_nI, iI_add, iI_sub, iI_mul, iI_neg, iI_le, iI_lt, iI_eq, iI_max, iI_min, Option.bind_some, Option.bind_eq_bind, if_true, if_false]); (repeat (first | rw [if_pos (by omega)] | rw [if_neg (by omega)])); (try rfl))
    have e2 : f_X10_isBar K (iI b) = some (iI 1) := by
      unfold f_X10_isBar f_X10_in
      (simp (disch := omega) only [pl0, pl1, pl2, pl3, pl4, pl5, pl6, pl7, pl8, pl9, pl10, pl11, pl12, pl16, pl19, lit_nI, iI_add, iI_sub, iI_mul, iI_neg, iI_le, iI_lt, iI_eq, iI_max, iI_min, Option.bind_some, Option.bind_eq_bind, if_true, if_false, hm0]; (repeat (first | rw [if_pos (by omega)] | rw [if_neg (by omega)])); (try simp (disch := omega) only [pl0, pl1, pl2, pl3, pl4, pl5, pl6, pl7, pl8, pl9, pl10, pl11, pl12, pl16, pl19, lit_nI, iI_add, iI_sub, iI_mul, iI_neg, iI_le, iI_lt, iI_eq, iI_max, iI_min, Option.bind_some, Option.bind_eq_bind, if_true, if_false]); (repeat (first | rw [if_pos (by omega)] | rw [if_neg (by omega)])); (try rfl))
    refine ⟨.inr (iI ((lc (K 1) b (ns (K 1)) ++ [95]) ++ [dg (sz (K 1) b - sm (fun j => ov (K 1) j b) (ns (K 1)))]).length), _, iI ((lc (K 1) b (ns (K 1)) ++ [95]) ++ [dg (sz (K 1) b - sm (fun j => ov (K 1) j b) (ns (K 1)))]).length, _, ?_, ?_, rfl, fun k hk => (nomatch hk), fun v hv => by cases hv; rfl, Rel_wl hR (l := (lc (K 1) b (ns (K 1)) ++ [95]) ++ [dg (sz (K 1) b - sm (fun j => ov (K 1) j b) (ns (K 1)))]) (by simp; omega) (iI 0)⟩
    · unfold f_X9_line
      rw [e1, Option.bind_some, if_neg ne10, c_writeBar hP hI hb]
      rfl
    · unfold f_X10_line
      rw [e2, Option.bind_some, if_neg ne10, pl0, m_line (K := K) rfl hI hb]
  · have e1 : f_X5_hasBar G (iI a) = some (iI 0) := by
      unfold f_X5_hasBar f_X9_isWithin
      rcases (show a < 0 ∨ nb (K 1) ≤ a by omega) with h3 | h3 <;> (simp (disch := omega) only [pl0, pl1, pl2, pl3, pl4, pl5, pl6, pl7, pl8, pl9, pl10, pl11, pl12, pl16, pl19, lit_nI, iI_add, iI_sub, iI_mul, iI_neg, iI_le, iI_lt, iI_eq, iI_max, iI_min, Option.bind_some, Option.bind_eq_bind, if_true, if_false, hc0]; (repeat (first | rw [if_pos (by omega)] | rw [if_neg (by omega)])); (try simp (disch := omega) only [pl0, pl1, pl2, pl3, pl4, pl5, pl6, pl7, pl8, pl9, pl10, pl11, pl12, pl16, pl19, lit_nI, iI_add, iI_sub, iI_mul, iI_neg, iI_le, iI_lt, iI_eq, iI_max, iI_min, Option.bind_some, Option.bind_eq_bind, if_true, if_false]); (repeat (first | rw [if_pos (by omega)] | rw [if_neg (by omega)])); (try rfl))
    have e2 : f_X10_isBar K (iI a) = some (iI 0) := by
      unfold f_X10_isBar f_X10_in
      rcases (show a < 0 ∨ nb (K 1) ≤ a by omega) with h3 | h3 <;> (simp (disch := omega) only [pl0, pl1, pl2, pl3, pl4, pl5, pl6, pl7, pl8, pl9, pl10, pl11, pl12, pl16, pl19, lit_nI, iI_add, iI_sub, iI_mul, iI_neg, iI_le, iI_lt, iI_eq, iI_max, iI_min, Option.bind_some, Option.bind_eq_bind, if_true, if_false, hm0]; (repeat (first | rw [if_pos (by omega)] | rw [if_neg (by omega)])); (try simp (disch := omega) only [pl0, pl1, pl2, pl3, pl4, pl5, pl6, pl7, pl8, pl9, pl10, pl11, pl12, pl16, pl19, lit_nI, iI_add, iI_sub, iI_mul, iI_neg, iI_le, iI_lt, iI_eq, iI_max, iI_min, Option.bind_some, Option.bind_eq_bind, if_true, if_false]); (repeat (first | rw [if_pos (by omega)] | rw [if_neg (by omega)])); (try rfl))
    refine rd_no hR [0] (k := 0) (p := iI 1) (w := iI 0) (by decide) rfl ?_ ?_
    · unfold f_X9_line
      rw [e1]
      rfl
    · unfold f_X10_line
      rw [e2]
      rfl
theorem t_tinLine : St_tinLine Rel := by
  intro G K hR p1
  obtain ⟨⟨hP, hI⟩, -⟩ := id hR
  obtain ⟨a, rfl, ha⟩ := exI p1
  unfold R32 at ha
  by_cases h1 : 0 ≤ a ∧ a ≤ 3
  · obtain ⟨t, rfl⟩ : ∃ t : Nat, a = t := ⟨a.toNat, by omega⟩
    have ht : t < 4 := by omega
    have hk := hI.ky ht
    have n1 := nl_len [] (ky (K 1) t)
    have n0 : ([] : List Int32).length = 0 := rfl
    have n2 := nl_len (nl [] (ky (K 1) t) ++ [47]) (lk (K 1) t)
    have n3 : (nl [] (ky (K 1) t) ++ [47]).length = (nl [] (ky (K 1) t)).length + 1 := by simp
    have e1 : f_X9_isTin G (iI t) = some (iI 1) := C_t4 (by omega)
    have e2 : f_X10_isTin K (iI t) = some (iI 1) := by
      unfold f_X10_isTin f_X10_in
      (simp (disch := omega) only [pl0, pl1, pl2, pl3, pl4, pl5, pl6, pl7, pl8, pl9, pl10, pl11, pl12, pl16, pl19, lit_nI, iI_add, iI_sub, iI_mul, iI_neg, iI_le, iI_lt, iI_eq, iI_max, iI_min, Option.bind_some, Option.bind_eq_bind, if_true, if_false]; (repeat (first | rw [if_pos (by omega)] | rw [if_neg (by omega)])); (try simp (disch := omega) only [pl0, pl1, pl2, pl3, pl4, pl5, pl6, pl7, pl8, pl9, pl10, pl11, pl12, pl16, pl19, lit_nI, iI_add, iI_sub, iI_mul, iI_neg, iI_le, iI_lt, iI_eq, iI_max, iI_min, Option.bind_some, Option.bind_eq_bind, if_true, if_false]); (repeat (first | rw [if_pos (by omega)] | rw [if_neg (by omega)])); (try rfl))
    have w1 : ∀ l, wm (th K (iI 0)) l 1 = K 1 := fun l => rfl
    refine ⟨.inr (iI (nl (nl [] (ky (K 1) t) ++ [47]) (lk (K 1) t)).length), _, iI (nl (nl [] (ky (K 1) t) ++ [47]) (lk (K 1) t)).length, _, ?_, ?_, rfl, fun k hk => (nomatch hk), fun v hv => by cases hv; rfl, Rel_wl hR (l := nl (nl [] (ky (K 1) t) ++ [47]) (lk (K 1) t)) (by omega) (iI 0)⟩
    · have k1 : f_X5_keyOf (wl G []) (iI t) = some (iI (ky (K 1) t)) := congrArg some (c_ky (Pr_wl _ hP) ht)
      have k2 : ∀ l, f_X5_leakOf (wl G l) (iI t) = some (iI (lk (K 1) t)) := fun l => congrArg some (c_lk (Pr_wl _ hP) ht)
      unfold f_X9_tinLine
      rw [e1, Option.bind_some, if_neg ne10]
      unfold f_X2_writeTin
      rw [Option.bind_some, pl0, wl_0, k1, Option.bind_some, c_num2 (by omega) (by omega), Option.bind_some, c_add (by omega), Option.bind_some, k2, Option.bind_some, c_num2 (by omega) (by omega)]
      rfl
    · have hb5 : (11 : Int32) + 2 * iI (t : Int) = iI (11 + 2 * (t : Int)) := by rw [pl11, pl2, iI_mul, iI_add]
      have hb6 : iI (11 + 2 * (t : Int)) + 1 = iI (12 + 2 * (t : Int)) := by
        rw [pl1, iI_add]
        congr 1
        omega
      have hi5 : (11 + 2 * (t : Int)).toNat = 11 + 2 * t := by omega
      have hi6 : (12 + 2 * (t : Int)).toNat = 12 + 2 * t := by omega
      have q0 : ∀ l, wm (th K (iI 0)) l 1 (11 + 2 * t) = iI (ky (K 1) t) := fun l => by rw [w1, ky, toInt_iI]
      have q1 : ∀ l, wm (th K (iI 0)) l 1 (12 + 2 * t) = iI (lk (K 1) t) := fun l => by rw [w1, lk, toInt_iI]
      unfold f_X10_tinLine
      rw [e2, Option.bind_some, if_neg ne10, pl0]
      unfold f_X10_tinLine_13
      rw [Option.bind_some, th_d, th06, if_pos (by decide), Option.bind_some, wm_0z, hb5, if_pos (by rw [iI_inb (by omega) (by omega) (by omega)]; omega), iI_clamp (by omega) (by omega), hi5, q0, m_num2 (by omega) (by omega), Option.bind_some, m_says (by omega), Option.bind_some, hb6, if_pos (by rw [iI_inb (by omega) (by omega) (by omega)]; omega), iI_clamp (by omega) (by omega), hi6, q1, m_num2 (by omega) (by omega)]
      rfl
  · have e2 : f_X10_isTin K (iI a) = some (iI 0) := by
      unfold f_X10_isTin f_X10_in
      rcases (show a < 0 ∨ 3 < a by omega) with h3 | h3 <;> (simp (disch := omega) only [pl0, pl1, pl2, pl3, pl4, pl5, pl6, pl7, pl8, pl9, pl10, pl11, pl12, pl16, pl19, lit_nI, iI_add, iI_sub, iI_mul, iI_neg, iI_le, iI_lt, iI_eq, iI_max, iI_min, Option.bind_some, Option.bind_eq_bind, if_true, if_false]; (repeat (first | rw [if_pos (by omega)] | rw [if_neg (by omega)])); (try simp (disch := omega) only [pl0, pl1, pl2, pl3, pl4, pl5, pl6, pl7, pl8, pl9, pl10, pl11, pl12, pl16, pl19, lit_nI, iI_add, iI_sub, iI_mul, iI_neg, iI_le, iI_lt, iI_eq, iI_max, iI_min, Option.bind_some, Option.bind_eq_bind, if_true, if_false]); (repeat (first | rw [if_pos (by omega)] | rw [if_neg (by omega)])); (try rfl))
    refine rd_no hR [0] (k := 0) (p := iI 1) (w := iI 0) (by decide) rfl ?_ ?_
    · unfold f_X9_tinLine
      rw [C_t5 ha h1]
      rfl
    · unfold f_X10_tinLine
      rw [e2]
      rfl
theorem t_character : St_character Rel := by
  intro G K hR p1
  obtain ⟨a, rfl, ha⟩ := exI p1
  obtain ⟨-, -, -, ⟨n, h32, e1, e2, e3⟩, -⟩ := id hR
  unfold R32 at ha
  by_cases h1 : 0 ≤ a ∧ a < n
  · obtain ⟨j, rfl⟩ : ∃ j : Nat, a = j := ⟨a.toNat, by omega⟩
    obtain ⟨q1, q2⟩ := e3 j (by omega)
    have c1 : f_X2_hasSign G (iI j) = some (iI 1) := by
      unfold f_X2_hasSign f_X9_isWithin
      (simp (disch := omega) only [pl0, pl1, pl2, pl3, pl4, pl5, pl6, pl7, pl8, pl9, pl10, pl11, pl12, pl16, pl19, lit_nI, iI_add, iI_sub, iI_mul, iI_neg, iI_le, iI_lt, iI_eq, iI_max, iI_min, Option.bind_some, Option.bind_eq_bind, if_true, if_false, e1]; (repeat (first | rw [if_pos (by omega)] | rw [if_neg (by omega)])); (try simp (disch := omega) only [pl0, pl1, pl2, pl3, pl4, pl5, pl6, pl7, pl8, pl9, pl10, pl11, pl12, pl16, pl19, lit_nI, iI_add, iI_sub, iI_mul, iI_neg, iI_le, iI_lt, iI_eq, iI_max, iI_min, Option.bind_some, Option.bind_eq_bind, if_true, if_false]); (repeat (first | rw [if_pos (by omega)] | rw [if_neg (by omega)])); (try rfl))
    have c2 : f_X10_in K (iI j) 0 (K 0 11 - 1) = some (iI 1) := by
      unfold f_X10_in
      (simp (disch := omega) only [pl0, pl1, pl2, pl3, pl4, pl5, pl6, pl7, pl8, pl9, pl10, pl11, pl12, pl16, pl19, lit_nI, iI_add, iI_sub, iI_mul, iI_neg, iI_le, iI_lt, iI_eq, iI_max, iI_min, Option.bind_some, Option.bind_eq_bind, if_true, if_false, e2]; (repeat (first | rw [if_pos (by omega)] | rw [if_neg (by omega)])); (try simp (disch := omega) only [pl0, pl1, pl2, pl3, pl4, pl5, pl6, pl7, pl8, pl9, pl10, pl11, pl12, pl16, pl19, lit_nI, iI_add, iI_sub, iI_mul, iI_neg, iI_le, iI_lt, iI_eq, iI_max, iI_min, Option.bind_some, Option.bind_eq_bind, if_true, if_false]); (repeat (first | rw [if_pos (by omega)] | rw [if_neg (by omega)])); (try rfl))
    have cj : (iI (j : Int)).toNatClampNeg = j := by rw [iI_clamp (by omega) (by omega), Int.toNat_natCast]
    refine rd_ok hR [0] (v := K 5 j) ?_ ?_
    · unfold f_X9_character
      rw [c1, Option.bind_some, if_neg ne10]
      unfold f_X2_signAt
      rw [if_neg (by rw [pl0, iI_lt (by omega) (by omega) (by omega) (by omega)]; omega), if_neg (by rw [lit_nI, iI_le (by omega) (by omega) (by omega) (by omega)]; omega), if_pos (by rw [iI_inb (by omega) (by omega) (by omega)]; omega), cj, q1, if_pos q2]
      rfl
    · unfold f_X10_character
      rw [c2, Option.bind_some, if_neg ne10]
      unfold f_X10_character_20
      rw [Option.bind_some, th_d, th06, if_pos (by decide), if_pos (by rw [iI_inb (by omega) (by omega) (by omega)]; omega), cj]
      have e5 : th K 0 5 j = K 5 j := rfl
      rw [e5, if_pos q2]
      rfl
  · have c1 : f_X2_hasSign G (iI a) = some (iI 0) := by
      unfold f_X2_hasSign f_X9_isWithin
      rcases (show a < 0 ∨ n ≤ a by omega) with h3 | h3 <;> (simp (disch := omega) only [pl0, pl1, pl2, pl3, pl4, pl5, pl6, pl7, pl8, pl9, pl10, pl11, pl12, pl16, pl19, lit_nI, iI_add, iI_sub, iI_mul, iI_neg, iI_le, iI_lt, iI_eq, iI_max, iI_min, Option.bind_some, Option.bind_eq_bind, if_true, if_false, e1]; (repeat (first | rw [if_pos (by omega)] | rw [if_neg (by omega)])); (try simp (disch := omega) only [pl0, pl1, pl2, pl3, pl4, pl5, pl6, pl7, pl8, pl9, pl10, pl11, pl12, pl16, pl19, lit_nI, iI_add, iI_sub, iI_mul, iI_neg, iI_le, iI_lt, iI_eq, iI_max, iI_min, Option.bind_some, Option.bind_eq_bind, if_true, if_false]); (repeat (first | rw [if_pos (by omega)] | rw [if_neg (by omega)])); (try rfl))
    have c2 : f_X10_in K (iI a) 0 (K 0 11 - 1) = some (iI 0) := by
      unfold f_X10_in
      rcases (show a < 0 ∨ n ≤ a by omega) with h3 | h3 <;> (simp (disch := omega) only [pl0, pl1, pl2, pl3, pl4, pl5, pl6, pl7, pl8, pl9, pl10, pl11, pl12, pl16, pl19, lit_nI, iI_add, iI_sub, iI_mul, iI_neg, iI_le, iI_lt, iI_eq, iI_max, iI_min, Option.bind_some, Option.bind_eq_bind, if_true, if_false, e2]; (repeat (first | rw [if_pos (by omega)] | rw [if_neg (by omega)])); (try simp (disch := omega) only [pl0, pl1, pl2, pl3, pl4, pl5, pl6, pl7, pl8, pl9, pl10, pl11, pl12, pl16, pl19, lit_nI, iI_add, iI_sub, iI_mul, iI_neg, iI_le, iI_lt, iI_eq, iI_max, iI_min, Option.bind_some, Option.bind_eq_bind, if_true, if_false]); (repeat (first | rw [if_pos (by omega)] | rw [if_neg (by omega)])); (try rfl))
    refine rd_no hR [0] (k := 0) (p := iI 1) (w := 32) (by decide) rfl ?_ ?_
    · unfold f_X9_character
      rw [c1]
      rfl
    · unfold f_X10_character
      rw [c2]
      rfl
end PV
