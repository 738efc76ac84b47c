/-! lines -/
theorem nar_ok (x : Int32) : okC (vp_nar .char x) := by
  rw [vp_nar_char]
  generalize x.toUInt32.toUInt16 = y
  have hy := y.toNat_lt
  have h : y.toUInt32.toInt32.toInt = (y.toNat : Int) := by
    show (y.toUInt32.toBitVec).toInt = _
    have h1 : y.toUInt32.toBitVec.toNat = y.toNat := by simp
    rw [BitVec.toInt_eq_toNat_of_lt (by rw [h1]; omega), h1]
  constructor
  · rw [Int32.le_iff_toInt_le, h]
    show (0 : Int) ≤ _
    omega
  · rw [Int32.lt_iff_toInt_lt, h, nI_toInt (by omega)]
    omega
def wl (G : GT) (l : List Int32) : GT := upR (upR G 83 (fun j => ((l.map (vp_nar .char))[j]?).getD (G 83 j))) 82 (upd (G 82) 2 (iI l.length))
def wm (K : GT) (l : List Int32) : GT := upR (upR K 5 (fun j => ((l.map (vp_nar .char))[j]?).getD (K 5 j))) 0 (upd (K 0) 11 (iI l.length))
theorem add_eq (f : Int32 → Int32) (g : Nat → Int32) (l : List Int32) (c : Int32) : upd (fun j => ((l.map f)[j]?).getD (g j)) l.length (f c) = fun j => (((l ++ [c]).map f)[j]?).getD (g j) := by
  funext j
  rw [List.map_append, List.getElem?_append, List.length_map]
  by_cases h : j = l.length
  · rw [h, upd_at, if_neg (by omega), Nat.sub_self]
    rfl
  · rw [upd_ne _ _ h]
    by_cases h2 : j < l.length
    · rw [if_pos h2]
    · rw [if_neg h2]
      have e1 : (l.map f)[j]? = none := List.getElem?_eq_none (by rw [List.length_map]; omega)
      have e2 : ([c].map f)[j - l.length]? = none := List.getElem?_eq_none (by simp; omega)
      rw [e1, e2]
section PV
variable {G K : GT} {s : Nat → Int32}
theorem c_add {l : List Int32} (hl : l.length < 32) (c : Int32) : f_X2_addSign (wl G l) c = some (wl G (l ++ [c])) := by
  have e : wl G l 82 2 = iI l.length := rfl
  have e1 : (iI (l.length : Int)).toNatClampNeg = l.length := by rw [iI_clamp (by omega) (by omega), Int.toNat_natCast]
  unfold f_X2_addSign
  rw [e, e1]
  rw [if_neg (by rw [pl0, iI_lt (by omega) (by omega) (by omega) (by omega)]; omega), if_neg (by rw [lit_nI, iI_le (by omega) (by omega) (by omega) (by omega)]; omega), if_pos (by rw [iI_inb (by omega) (by omega) (by omega)]; omega)]
  rw [Option.bind_some, Option.bind_some]
  congr 1
  have e2 : wl G l 83 = fun j => ((l.map (vp_nar .char))[j]?).getD (G 83 j) := by
    unfold wl
    rw [upR_ne _ _ (by decide), upR_at]
  have e3 : wl G l 82 = upd (G 82) 2 (iI l.length) := by unfold wl; rw [upR_at]
  funext i
  by_cases h82 : i = 82
  · rw [h82, upR_at, upR_ne _ _ (by decide), e3, upd_at, upd_upd]
    unfold wl
    rw [upR_at, List.length_append, pl1, iI_add]
    rfl
  · rw [upR_ne _ _ h82]
    by_cases h83 : i = 83
    · rw [h83, upR_at, e2, add_eq]
      unfold wl
      rw [upR_ne _ _ (by decide), upR_at]
    · rw [upR_ne _ _ h83]
      unfold wl
      rw [upR_ne _ _ h82, upR_ne _ _ h83, upR_ne _ _ h82, upR_ne _ _ h83]
theorem wl_i (l : List Int32) {i : Nat} (h1 : i ≠ 82) (h2 : i ≠ 83) : wl G l i = G i := by
  unfold wl
  rw [upR_ne _ _ h1, upR_ne _ _ h2]
theorem wm_i (l : List Int32) {i : Nat} (h1 : i ≠ 0) (h2 : i ≠ 5) : wm K l i = K i := by
  unfold wm
  rw [upR_ne _ _ h1, upR_ne _ _ h2]
theorem wm_j (l : List Int32) {j : Nat} (h1 : j ≠ 11) : wm K l 0 j = K 0 j := by
  unfold wm
  rw [upR_at, upd_ne _ _ h1]
theorem wl_0 : upR G 82 (upd (G 82) 2 (iI 0)) = wl G [] := by
  unfold wl
  have e : (fun j => (((([] : List Int32).map (vp_nar .char))[j]?).getD (G 83 j))) = G 83 := rfl
  rw [e, upR_self]
  rfl
theorem wm_0 : upR K 0 (upd (K 0) 11 (iI 0)) = wm K [] := by
  unfold wm
  have e : (fun j => (((([] : List Int32).map (vp_nar .char))[j]?).getD (K 5 j))) = K 5 := rfl
  rw [e, upR_self]
  rfl
theorem wm_0z : upR K 0 (upd (K 0) 11 0) = wm K [] := wm_0
theorem Pr_wl (l : List Int32) (hP : Pr G 0 s) : Pr (wl G l) 0 s := Pr_frame (fun i h1 h2 => wl_i l (by omega) (by omega)) hP
theorem Rel_wl (hR : Rel G K) {l : List Int32} (hl : l.length ≤ 32) (x : Int32) : Rel (wl G l) (wm (th K x) l) := by
  obtain ⟨⟨hP, hI⟩, a2, a3, a4, a5, a6⟩ := hR
  have g : ∀ i, i ≠ 82 → i ≠ 83 → wl G l i = G i := fun i h1 h2 => wl_i l h1 h2
  have z0 : ∀ j, j ≠ 6 → j ≠ 11 → wm (th K x) l 0 j = K 0 j := fun j h1 h2 => by
    rw [wm_j l h2]
    unfold th
    rw [upR_at, upd_ne _ _ h1]
  have z1 : ∀ i, i ≠ 0 → i ≠ 5 → wm (th K x) l i = K i := fun i h1 h2 => by
    rw [wm_i l h1 h2]
    exact upR_ne _ _ h1
  refine ⟨⟨by rw [z1 1 (by decide) (by decide)]; exact Pr_wl l hP, by rw [z1 1 (by decide) (by decide)]; exact hI⟩, Rv_frame a2 (fun i h1 h2 => g i (by omega) (by omega)) (g 77 (by decide) (by decide)) (z0 3 (by decide) (by decide)) (z1 3 (by decide) (by decide)), Rj_frame a3 (g 78 (by decide) (by decide)) (z0 7 (by decide) (by decide)) (z0 8 (by decide) (by decide)), ⟨l.length, hl, rfl, rfl, fun j hj => ?_⟩, Rt_frame a5 (by rw [g 84 (by decide) (by decide)]) (by rw [g 84 (by decide) (by decide)]) (g 85 (by decide) (by decide)) (z0 13 (by decide) (by decide)) (z0 16 (by decide) (by decide)) (z1 6 (by decide) (by decide)), Hs_frame a6 (fun i h1 h2 => g i (by omega) (by omega)) (g 88 (by decide) (by decide)) (z0 5 (by decide) (by decide)) (z1 4 (by decide) (by decide))⟩
  have e : (l.map (vp_nar .char))[j]? = some (vp_nar .char l[j]) := by
    rw [List.getElem?_map, List.getElem?_eq_getElem hj]
    rfl
  have e1 : wl G l 83 j = vp_nar .char l[j] := by
    unfold wl
    rw [upR_ne _ _ (by decide), upR_at, e]
    rfl
  have e2 : wm (th K x) l 5 j = vp_nar .char l[j] := by
    unfold wm
    rw [upR_ne _ _ (by decide), upR_at, e]
    rfl
  rw [e1, e2]
  exact ⟨rfl, nar_ok _⟩
/-- the sign of a digit, of a pitch -/
def dg (v : Int) : Int32 := (((48 : Int32) + (iI v - iI v / 10 * 10)).toUInt32 % 65536).toInt32
def pch (v : Int) : Int32 := (((97 : Int32) + iI v).toUInt32 % 65536).toInt32
theorem c_num {l : List Int32} {v : Int} (hl : l.length < 32) (hv : 0 ≤ v ∧ v ≤ 9) : f_X2_addNumber (wl G l) (iI v) = some (wl G (l ++ [dg v])) := by
  unfold f_X2_addNumber
  rw [if_pos (by rw [pl10, iI_lt (by omega) (by omega) (by omega) (by omega)]; omega)]
  unfold f_X2_addNumber_18
  have := c_add (G := G) hl (dg v)
  unfold dg at this ⊢
  rw [this]
  rfl
/-- signs of a number up to 99 -/
def nl (l : List Int32) (v : Int) : List Int32 := if v < 10 then l ++ [dg v] else (l ++ [dg 1]) ++ [dg v]
theorem nl_len (l : List Int32) (v : Int) : (nl l v).length ≤ l.length + 2 := by
  unfold nl
  by_cases h : v < 10
  · rw [if_pos h, List.length_append]; simp
  · rw [if_neg h, List.length_append, List.length_append]; simp
theorem c_num2 {l : List Int32} {v : Int} (hl : l.length < 31) (hv : 0 ≤ v ∧ v ≤ 11) : f_X2_addNumber (wl G l) (iI v) = some (wl G (nl l v)) := by
  unfold nl
  by_cases h : v < 10
  · rw [if_pos h]; exact c_num (by omega) (by omega)
  · rw [if_neg h]
    unfold f_X2_addNumber
    rw [if_neg (by rw [pl10, iI_lt (by omega) (by omega) (by omega) (by omega)]; omega)]
    have e : iI v / 10 = iI 1 := by
      rw [pl10, iI_div (by omega) (by omega) (by omega) (by omega)]
      congr 1
      omega
    have e2 : (((48 : Int32) + iI 1).toUInt32 % 65536).toInt32 = dg 1 := rfl
    rw [e, e2, c_add (by omega), Option.bind_some]
    unfold f_X2_addNumber_18
    have := c_add (G := G) (l := l ++ [dg 1]) (by rw [List.length_append]; simp; omega) (dg v)
    unfold dg at this ⊢
    rw [this]
    rfl
/-- the signs of a bar's line for its first sounds -/
def ltd (s : Nat → Int32) (b j : Nat) (l : List Int32) : List Int32 := if bS s j < bB s b then l ++ [126] else l
def lch (s : Nat → Int32) (j : Nat) : Int32 := if ht s j < 0 then 46 else pch (pt s j)
def lc (s : Nat → Int32) (b : Nat) : Nat → List Int32
  | 0 => []
  | j + 1 => if 0 < ov s j b then ((ltd s b j (lc s b j) ++ [lch s j]) ++ [dg (ov s j b)]) ++ [32] else lc s b j
theorem lc_len (hI : Inv s) {b : Nat} (hb : b < nb s) : ∀ n, n ≤ ns s → ((lc s b n).length : Int) ≤ 3 * sm (fun j => ov s j b) n + (if bB s b < bS s n then 1 else 0) := by
  intro n
  induction n with
  | zero =>
    intro _
    have h := hI.bBr (b := b) (by omega)
    have e : bS s 0 = 0 := rfl
    have e2 : (lc s b 0).length = 0 := rfl
    rw [e, e2, if_neg (by omega), sm_0]
    decide
  | succ n ih =>
    intro hn
    have h1 := ih (by omega)
    have h2 := ov_r hI (show n < ns s by omega) hb
    have h3 := bS_1 s n
    have h4 := hI.sd (show n < ns s by omega)
    have e : lc s b (n + 1) = if 0 < ov s n b then ((ltd s b n (lc s b n) ++ [lch s n]) ++ [dg (ov s n b)]) ++ [32] else lc s b n := rfl
    rw [sm_1, e]
    by_cases h5 : 0 < ov s n b
    · rw [if_pos h5]
      have h6 : bB s b < bS s (n + 1) := by
        unfold ov at h5
        omega
      rw [if_pos h6]
      simp only [List.length_append, List.length_cons, List.length_nil]
      unfold ltd
      by_cases h7 : bS s n < bB s b
      · rw [if_pos h7]
        rw [if_neg (by omega)] at h1
        simp only [List.length_append, List.length_cons, List.length_nil]
        omega
      · rw [if_neg h7]
        have h8 : (if bB s b < bS s n then (1 : Int) else 0) ≤ 1 := it_le (by omega) (by omega)
        omega
    · rw [if_neg h5]
      by_cases h7 : bB s b < bS s n
      · rw [if_pos h7] at h1
        rw [if_pos (by omega)]
        omega
      · rw [if_neg h7] at h1
        have h8 : 0 ≤ (if bB s b < bS s (n + 1) then (1 : Int) else 0) := it_ge (by omega)
        omega
theorem lc_25 (hI : Inv s) {b n : Nat} (hb : b < nb s) (hn : n ≤ ns s) : (lc s b n).length ≤ 25 := by
  have h1 := lc_len hI hb n hn
  have h2 := fill_eq hI hb
  have h3 := hI.sz hb
  have h4 := sm_mono (f := fun j => ov s j b) (n := ns s) (fun i hi => (ov_r hI hi hb).1) n (ns s) hn (Nat.le_refl _)
  have h8 : (if bB s b < bS s n then (1 : Int) else 0) ≤ 1 := it_le (by omega) (by omega)
  omega
theorem ltd_len (b j : Nat) (l : List Int32) : (ltd s b j l).length ≤ l.length + 1 := by
  unfold ltd
  by_cases h : bS s j < bB s b
  · rw [if_pos h]; simp
  · rw [if_neg h]; omega
theorem c_part (hP : Pr G 0 s) (hI : Inv s) {j b : Nat} (hj : j < ns s) (hb : b < nb s) {l : List Int32} (hl : l.length ≤ 25) (hv : 0 < ov s j b) : f_X2_addPart (wl G l) (iI j) (iI b) = some (wl G ((ltd s b j l ++ [lch s j]) ++ [dg (ov s j b)])) := by
  have hov := ov_r hI hj hb
  have h47 : ∀ l2 : List Int32, l2.length ≤ 26 → ∀ c, f_X2_addPart_47 (wl G l2) (iI j) (iI b) c = some (wl G ((l2 ++ [c]) ++ [dg (ov s j b)])) := by
    intro l2 h2 c
    unfold f_X2_addPart_47
    rw [c_add (by omega), Option.bind_some, c_overlap (Pr_wl _ hP) hI hj hb, Option.bind_some, c_num (by simp; omega) (by omega)]
    rfl
  have h18 : ∀ l2 : List Int32, l2.length ≤ 26 → f_X2_addPart_18 (wl G l2) (iI j) (iI b) = some (wl G ((l2 ++ [lch s j]) ++ [dg (ov s j b)])) := by
    intro l2 h2
    unfold f_X2_addPart_18 lch
    by_cases hd : ht s j < 0
    · rw [c_restJ (Pr_wl _ hP) hI hj (by omega), Option.bind_some, if_neg ne10, h47 _ h2, if_pos hd]
    · rw [c_dropI (Pr_wl _ hP) hI hj (by omega), Option.bind_some, if_pos (show iI 0 = (0 : Int32) from rfl), c_pitchOf (Pr_wl _ hP) hI hj, Option.bind_some, h47 _ h2, if_neg hd, pc_d (by omega)]
      rfl
  unfold f_X2_addPart ltd
  rw [c_isTied (Pr_wl _ hP) hI hj hb, Option.bind_some]
  by_cases ht : bS s j < bB s b
  · rw [if_pos ht, if_pos ht, if_neg ne10, c_add (by omega), Option.bind_some, h18 _ (by simp; omega)]
  · rw [if_neg ht, if_neg ht, if_pos (show iI 0 = (0 : Int32) from rfl), h18 _ (by omega)]
theorem c_writeBar (hP : Pr G 0 s) (hI : Inv s) {b : Nat} (hb : b < nb s) : f_X2_writeBar G (iI b) = some (iI ((lc s b (ns s) ++ [95]) ++ [dg (sz s b - sm (fun j => ov s j b) (ns s))]).length, wl G ((lc s b (ns s) ++ [95]) ++ [dg (sz s b - sm (fun j => ov s j b) (ns s))])) := by
  have h16 := hI.ns16
  have h6 := hI.nb6
  have hz := hI.sz hb
  have hf := fill_eq hI hb
  unfold f_X2_writeBar
  rw [Option.bind_some, pl0, wl_0]
  unfold f_X2_writeBar_7
  refine lq2_fr (X1 := fun i => wl G (lc s b i)) (X2 := fun i => iI i) (ns s) _ rfl rfl (fun k i hi => ?_) (fun k => ?_) (by omega)
  · have hn : f_X5_countOfSounds (wl G (lc s b i)) = some (iI (ns s)) := congrArg some (c_ns (Pr_wl _ hP) hI)
    have ho := c_overlap (Pr_wl (lc s b i) hP) hI hi hb
    have hr := ov_r hI hi hb
    have h25 := lc_25 hI hb (n := i) (by omega)
    have e : lc s b (i + 1) = if 0 < ov s i b then ((ltd s b i (lc s b i) ++ [lch s i]) ++ [dg (ov s i b)]) ++ [32] else lc s b i := rfl
    rw [hn, Option.bind_some, if_neg (by rw [iI_le (by omega) (by omega) (by omega) (by omega)]; omega), ho, Option.bind_some, e]
    by_cases h : 0 < ov s i b
    · have hl := ltd_len (s := s) b i (lc s b i)
      rw [if_neg (by rw [pl0, iI_le (by omega) (by omega) (by omega) (by omega)]; omega), c_part hP hI hi hb h25 h, Option.bind_some, c_add (by simp; omega), Option.bind_some, if_pos h]
      unfold f_X2_writeBar_42
      rw [pl1, iI_add]
      rfl
    · rw [if_pos (by rw [pl0, iI_le (by omega) (by omega) (by omega) (by omega)]; omega), if_neg h]
      unfold f_X2_writeBar_42
      rw [pl1, iI_add]
      rfl
  · have hn : f_X5_countOfSounds (wl G (lc s b (ns s))) = some (iI (ns s)) := congrArg some (c_ns (Pr_wl _ hP) hI)
    have h25 := lc_25 hI hb (n := ns s) (by omega)
    have hs : f_X5_sizeOf (wl G (lc s b (ns s) ++ [95])) (iI b) = some (iI (sz s b)) := congrArg some (c_sz (Pr_wl _ hP) (by omega))
    rw [hn, Option.bind_some, if_pos (by rw [iI_le (by omega) (by omega) (by omega) (by omega)]; omega), c_add (by omega), Option.bind_some, hs, Option.bind_some, c_filledOfBar (Pr_wl _ hP) hI hb, Option.bind_some, iI_sub, c_num (by simp; omega) (by omega)]
    rfl
end PV
