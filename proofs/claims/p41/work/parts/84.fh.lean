/-! parts -/
section FH
variable {G : GT} {s : Nat → Int32}
theorem inj_ (s : Nat → Int32) (hI : Inv s) {j : Nat} (hj : j < ns s) : inb (iI (j : Int)) (ns s) ∧ (iI (j : Int)).toNatClampNeg = j := by
  have h16 := hI.ns16
  exact ⟨by rw [iI_inb (by omega) (by omega) (by omega)]; omega, by rw [iI_clamp (by omega) (by omega), Int.toNat_natCast]⟩
theorem L_p474 (hP : Pr G 0 s) (hI : Inv s) {j : Nat} (hj : j < ns s) (k334 : GT → Int32 → Option (Int32 × GT)) (x2 x3 x4 : Int32) : f_L_parts_474 k334 (ns s) (SS s (ns s)) x2 x3 x4 (iI j) 9 G (iI (bS s j)) = k334 G (iI ((j + 1 : Nat) : Int)) := by
  have h16 := hI.ns16
  have hd := hI.sd hj
  have hs := snd_in hI hj
  have hz := hI.bBr (b := nb s) (by omega)
  have h6 := hI.nb6
  have hb1 := bS_1 s j
  obtain ⟨hin, ec⟩ := inj_ s hI hj
  obtain ⟨w0, w2, w3, w4, w5⟩ := RW_SS s (ns s) j hj
  unfold f_L_parts_474
  refine lq2_fr (X1 := fun _ => G) (X2 := fun b => iI (bS s j + b)) (ln s j).toNat _ rfl ?_ (fun k b hb => ?_) (fun k => ?_) (by omega)
  · show iI _ = iI _
    congr 1
    omega
  · show (if _ then _ else _) = k G (iI (bS s j + ((b + 1 : Nat) : Int)))
    have hsat : sat s (bS s j + b) = j := sat_eq hI hj (by omega) (by omega)
    rw [if_pos hin, if_pos hin, ec, w4, w2, iI_add, if_neg (by rw [iI_le (by omega) (by omega) (by omega) (by omega)]; omega), r_at hP hI (by omega) (by omega) (by omega) (by omega), hsat, b2s, if_pos rfl, pl1, iI_add]
    congr 2
    omega
  · show (if _ then _ else _) = _
    rw [if_pos hin, if_pos hin, ec, w4, w2, iI_add, if_pos (by rw [iI_le (by omega) (by omega) (by omega) (by omega)]; omega), pl1, iI_add]
    rfl
theorem L_p396 (hP : Pr G 0 s) (hI : Inv s) {j : Nat} (hj : j < ns s) (k334 : GT → Int32 → Option (Int32 × GT)) (x2 x3 x4 : Int32) : f_L_parts_396 k334 (ns s) (SS s (ns s)) x2 x3 x4 (iI j) (iI 1) G = k334 G (iI ((j + 1 : Nat) : Int)) := by
  obtain ⟨hin, ec⟩ := inj_ s hI hj
  obtain ⟨w0, w2, w3, w4, w5⟩ := RW_SS s (ns s) j hj
  unfold f_L_parts_396
  rw [pl3, r_of3 hP hI hj, b2s, if_pos hin, ec, w3, if_pos rfl, pl4, r_of4 hP hI hj, b2s, if_pos hin, w5, if_pos rfl, pl5, r_of5 hP hI hj, b2s, if_pos hin, w4, if_pos rfl, if_neg (by decide), pl7, r_ofx hP hI hj, b2s, if_pos pm12, if_pos hin]
  exact L_p474 hP hI hj k334 x2 x3 x4
theorem sat_end (s : Nat → Int32) : sat s (bS s (ns s)) = -1 := by
  unfold sat
  exact if_neg (by omega)
theorem bat_in (hI : Inv s) {x : Int} (h1 : 0 ≤ x) (h2 : x < bB s (nb s)) : ∃ b : Nat, b < nb s ∧ bat s x = b ∧ bB s b ≤ x ∧ x < bB s b + sz s b := by
  have h3 := bi_r hI h1 h2
  exact ⟨bi s x, h3.1, if_pos ⟨h1, h2⟩, h3.2.1, h3.2.2⟩
theorem L_p334 (hP : Pr G 0 s) (hI : Inv s) : f_L_parts_334 (ns s) (SS s (ns s)) (iI (bB s (nb s))) (iI (sm (fun b => pb s b (ns s)) (nb s))) (iI (bS s (ns s))) 17 G (iI 0) = some (iI 1, G) := by
  have h16 := hI.ns16
  have h6 := hI.nb6
  have hz := hI.bBr (b := nb s) (by omega)
  have hzs := hI.bSr (j := ns s) (by omega)
  unfold f_L_parts_334
  refine lq2_fr (X1 := fun _ => G) (X2 := fun j => iI j) (ns s) _ rfl rfl (fun k j hj => ?_) (fun k => ?_) (by omega)
  · have hd := hI.sd hj
    have hs := snd_in hI hj
    obtain ⟨hin, ec⟩ := inj_ s hI hj
    obtain ⟨w0, w2, w3, w4, w5⟩ := RW_SS s (ns s) j hj
    obtain ⟨b, b1, b2, b3, b4⟩ := bat_in hI (x := bS s j) (by omega) (by omega)
    have hbb := hI.bBr (b := b) (by omega)
    have hzb := hI.sz b1
    show (if _ then _ else _) = k G (iI ((j + 1 : Nat) : Int))
    rw [if_neg (by rw [lit_nI, iI_le (by omega) (by omega) (by omega) (by omega)]; omega), pl6, r_of6 hP hI hj, b2s, b2, pl4, r_barOf4 hP hI b1, b2s, if_pos hin, ec, w4, if_neg (by rw [iI_lt (by omega) (by omega) (by omega) (by omega)]; omega), r_barOf4 hP hI b1, b2s, (show fw_barOf G (iI (b : Int)) 0 = some (iI (sz s b), G) from r_barOf0 hP hI b1), b2s, if_pos hin, iI_add, if_neg (by rw [iI_le (by omega) (by omega) (by omega) (by omega)]; omega), pl1]
    exact L_p396 hP hI hj k _ _ _
  · show (if _ then _ else _) = _
    rw [if_pos (by rw [lit_nI]; exact Int32.le_refl _), pl1, r_acc1 hP hI, bR_i, if_pos rfl, pl2, r_acc2 hP hI, bR_i, if_pos rfl, pl6, r_acc6 hP hI, bR_i, if_pos rfl, r_atx hP hI (by omega) (by omega) (sat_end s), b2s, if_pos pm13, iI_neg, r_atx hP hI (by omega) (by omega) (sat_neg s (by omega)), b2s, if_pos pm13, pl0, r_acc0 hP hI, bR_i, pl9, r_barOfy hP hI, b2s, if_pos pm11, lit_nI, r_ofy hP hI, b2s, if_pos pm11, r_partz hP hI, b2s, if_pos pm11]
theorem sp_eq {b j : Nat} (hj : j < ns s) (ho : 0 < ov s j b) : sp s b (pb s b j) = j := by
  unfold sp
  rcases lst_r (fun k => 0 < ov s k b ∧ pb s b k = pb s b j) (ns s) with ⟨-, h⟩ | ⟨i, a1, a2, a3, a4⟩
  · exact absurd ⟨ho, rfl⟩ (h j hj)
  · rw [a3]
    have h1 : ¬ i < j := fun h => by have := pb_m (s := s) (b := b) i j h a2.1; have := a2.2; omega
    have h2 : ¬ j < i := fun h => by have := pb_m (s := s) (b := b) j i h ho; have := a2.2; omega
    omega
theorem gn_1 (hI : Inv s) {b i : Nat} (hb : b < nb s) (hi : i < ns s) : gn s b (i + 1) = gn s b i + (if bB s b ≤ bS s i ∧ bS s i < bB s b + sz s b then 1 else 0) := by
  have hs := snd_in hI hi
  have e : (bat s (bS s i) = b) = (bB s b ≤ bS s i ∧ bS s i < bB s b + sz s b) := by
    apply propext
    constructor
    · intro h
      obtain ⟨c, c1, c2, c3, c4⟩ := bat_in hI (x := bS s i) (by omega) (by omega)
      have hc : c = b := by omega
      subst hc
      exact ⟨c3, c4⟩
    · intro h
      exact bat_eq hI hb h.1 h.2
  unfold gn
  rw [sm_1]
  congr 1
  by_cases h : bB s b ≤ bS s i ∧ bS s i < bB s b + sz s b
  · rw [if_pos h, if_pos (e.mpr h)]
  · rw [if_neg h, if_neg (fun h2 => h (e.mp h2))]
theorem L_p117 (hP : Pr G 0 s) (hI : Inv s) {b i : Nat} (hb : b < nb s) (hi : i < ns s) (k15 k46 : GT → Int32 → Int32 → Int32 → Int32 → Option (Int32 × GT)) (x3 x4 x6 : Int32) (u v : Int) : f_L_parts_117 k15 k46 (ns s) (SS s (ns s)) (iI (bB s b)) x3 x4 (iI b) x6 (iI (pb s b i)) (iI (sm (fun j => ov s j b) i)) (iI i) (iI (max (bB s b) (bS s i))) (iI (min (bB s b + sz s b) (bS s i + ln s i))) (iI u) (iI v) G = k46 G (iI (pb s b (i + 1))) (iI (sm (fun j => ov s j b) (i + 1))) (iI (v + u)) (iI ((i + 1 : Nat) : Int)) := by
  have h16 := hI.ns16
  have h6 := hI.nb6
  have hd := hI.sd hi
  have hs := snd_in hI hi
  have hz := hI.bBr (b := nb s) (by omega)
  have hbb := hI.bBr (b := b) (by omega)
  have hzb := hI.sz hb
  have hb1 := bS_1 s i
  have hB1 := bB_1 s b
  have hov := ov_r hI hi hb
  have hpb := pb_r hI hb i (by omega)
  obtain ⟨hin, ec⟩ := inj_ s hI hi
  obtain ⟨w0, w2, w3, w4, w5⟩ := RW_SS s (ns s) i hi
  have eo : ov s i b = max 0 (min (bB s b + sz s b) (bS s i + ln s i) - max (bB s b) (bS s i)) := by unfold ov; rw [hb1, hB1]; omega
  have ep : pb s b (i + 1) = pb s b i + (if 0 < ov s i b then 1 else 0) := rfl
  unfold f_L_parts_117
  by_cases h : min (bB s b + sz s b) (bS s i + ln s i) ≤ max (bB s b) (bS s i)
  · have h0 : ov s i b = 0 := by omega
    rw [if_neg (by omega)] at ep
    rw [if_pos (by rw [iI_le (by omega) (by omega) (by omega) (by omega)]; exact h), ep, sm_1]
    show f_L_parts_226 _ _ _ _ _ _ _ _ _ _ _ _ _ _ = k46 G _ (iI (sm (fun j => ov s j b) i + ov s i b)) _ _
    unfold f_L_parts_226
    rw [h0, iI_add, pl1, iI_add, Int.add_zero, Int.add_zero]
    rfl
  · have h0 : min (bB s b + sz s b) (bS s i + ln s i) - max (bB s b) (bS s i) = ov s i b := by omega
    have hpos : 0 < ov s i b := by omega
    have hsp := sp_eq (s := s) hi hpos
    have hR : R32 (pb s b i) := by unfold R32; omega
    have h226 : f_L_parts_226 k15 k46 (ns s) (SS s (ns s)) (iI (bB s b)) x3 x4 (iI b) x6 (iI (pb s b i) + 1) (iI (sm (fun j => ov s j b) i) + iI (ov s i b)) (iI v + iI u) (iI i) G = k46 G (iI (pb s b (i + 1))) (iI (sm (fun j => ov s j b) (i + 1))) (iI (v + u)) (iI ((i + 1 : Nat) : Int)) := by
      rw [if_pos hpos] at ep
      unfold f_L_parts_226
      rw [ep, sm_1, pl1, iI_add, iI_add, iI_add, iI_add]
      rfl
    have h182 : ∀ w : Int32, f_L_parts_182 k15 k46 (ns s) (SS s (ns s)) (iI (bB s b)) x3 x4 (iI b) x6 (iI (pb s b i)) (iI (sm (fun j => ov s j b) i)) (iI v + iI u) (iI i) (iI (max (bB s b) (bS s i))) (iI (min (bB s b + sz s b) (bS s i + ln s i))) w w G = k46 G (iI (pb s b (i + 1))) (iI (sm (fun j => ov s j b) (i + 1))) (iI (v + u)) (iI ((i + 1 : Nat) : Int)) := fun w => by
      unfold f_L_parts_182
      rw [if_pos rfl, pl3, r_part3 hP hI hb hi hR hsp, b2s, if_pos pm12]
      unfold f_L_parts_204
      rw [if_neg (by decide), iI_sub, h0]
      exact h226
    rw [if_neg (by rw [iI_le (by omega) (by omega) (by omega) (by omega)]; exact h), (show fw_part G (iI (b : Int)) (iI (pb s b i)) 0 = some (iI (i : Int), G) from r_part0 hP hI hb hi hR hsp), b2s, if_pos rfl, pl1, r_part1 hP hI hb hi hR hsp, b2s, iI_sub, h0, if_pos rfl, pl2, r_part2 hP hI hb hi hR hsp, b2s, if_pos hin, ec, w4]
    by_cases ht : bS s i < bB s b
    · rw [if_neg (by rw [iI_le (by omega) (by omega) (by omega) (by omega)]; omega), if_pos ht]
      exact h182 _
    · rw [if_pos (by rw [iI_le (by omega) (by omega) (by omega) (by omega)]; omega), if_neg ht]
      exact h182 _
theorem L_p46 (hP : Pr G 0 s) (hI : Inv s) {b : Nat} (hb : b < nb s) (k15 : GT → Int32 → Int32 → Int32 → Int32 → Option (Int32 × GT)) (x3 x4 : Int) : f_L_parts_46 k15 (ns s) (SS s (ns s)) (iI (bB s b)) (iI x3) (iI x4) (iI b) (iI (sz s b)) 17 G (iI 0) (iI 0) (iI 0) (iI 0) = k15 G (iI (bB s (b + 1))) (iI (x3 + pb s b (ns s))) (iI (x4 + sm (fun j => ov s j b) (ns s))) (iI ((b + 1 : Nat) : Int)) := by
  have h16 := hI.ns16
  have h6 := hI.nb6
  have hz := hI.bBr (b := nb s) (by omega)
  have hbb := hI.bBr (b := b) (by omega)
  have hzb := hI.sz hb
  have hB1 := bB_1 s b
  unfold f_L_parts_46
  refine lq5_fr (X1 := fun _ => G) (X2 := fun i => iI (pb s b i)) (X3 := fun i => iI (sm (fun j => ov s j b) i)) (X4 := fun i => iI (gn s b i)) (X5 := fun i => iI i) (ns s) _ rfl rfl rfl rfl rfl (fun k i hi => ?_) (fun k => ?_) (by omega)
  · have hd := hI.sd hi
    have hs := snd_in hI hi
    have hb1 := bS_1 s i
    obtain ⟨hin, ec⟩ := inj_ s hI hi
    obtain ⟨w0, w2, w3, w4, w5⟩ := RW_SS s (ns s) i hi
    have eg := gn_1 hI hb hi
    show (if _ then _ else _) = k G (iI (pb s b (i + 1))) (iI (sm (fun j => ov s j b) (i + 1))) (iI (gn s b (i + 1))) (iI ((i + 1 : Nat) : Int))
    rw [if_neg (by rw [lit_nI, iI_le (by omega) (by omega) (by omega) (by omega)]; omega), if_pos hin, if_pos hin, if_pos hin, if_pos hin, ec, w4, w2, iI_add, iI_add, iI_max (by omega) (by omega) (by omega) (by omega), iI_min (by omega) (by omega) (by omega) (by omega), eg]
    by_cases h1 : bS s i < bB s b
    · rw [if_pos (by rw [iI_lt (by omega) (by omega) (by omega) (by omega)]; exact h1), if_neg (by omega)]
      exact L_p117 hP hI hb hi k15 k _ _ _ 0 _
    · rw [if_neg (by rw [iI_lt (by omega) (by omega) (by omega) (by omega)]; exact h1), if_pos hin]
      by_cases h2 : bB s b + sz s b ≤ bS s i
      · rw [if_pos (by rw [iI_le (by omega) (by omega) (by omega) (by omega)]; exact h2), if_neg (by omega)]
        exact L_p117 hP hI hb hi k15 k _ _ _ 0 _
      · rw [if_neg (by rw [iI_le (by omega) (by omega) (by omega) (by omega)]; exact h2), if_pos (by omega)]
        exact L_p117 hP hI hb hi k15 k _ _ _ 1 _
  · have hpb := pb_r hI hb (ns s) (by omega)
    have hR : R32 (pb s b (ns s)) := by unfold R32; omega
    have hsp := sp_out hI hb (x := pb s b (ns s)) (Or.inr (Int.le_refl _))
    show (if _ then _ else _) = _
    rw [if_pos (by rw [lit_nI]; exact Int32.le_refl _), pl1, r_barOf1 hP hI hb, b2s, if_pos rfl, pl2, r_barOf2 hP hI hb, b2s, if_pos rfl, pl3, r_barOf3 hP hI hb, b2s, if_pos rfl, pl4, r_barOf4 hP hI hb, b2s, if_pos rfl, pl5, r_barOfx hP hI hb, b2s, if_pos pm12, pl9, r_party hP hI hb hR hsp, b2s, if_pos pm11, iI_add, iI_add, iI_add, iI_add]
    rfl
theorem fill_all (hI : Inv s) : sm (fun b => sm (fun j => ov s j b) (ns s)) (nb s) = bS s (ns s) := by
  rw [← sm_swap (fun j b => ov s j b) (ns s) (nb s)]
  exact sm_ext fun i hi => whole_eq hI hi
theorem L_parts (hP : Pr G 0 s) (hI : Inv s) : f_L_parts G = some (iI 1, G) := by
  have h16 := hI.ns16
  have h6 := hI.nb6
  unfold f_L_parts
  rw [L_sounds hP hI, b3s]
  unfold f_L_parts_15
  refine lq5_fr (X1 := fun _ => G) (X2 := fun b => iI (bB s b)) (X3 := fun b => iI (sm (fun b => pb s b (ns s)) b)) (X4 := fun b => iI (sm (fun b => sm (fun j => ov s j b) (ns s)) b)) (X5 := fun b => iI b) (nb s) _ rfl rfl rfl rfl rfl (fun k b hb => ?_) (fun k => ?_) (by omega)
  · show bindR _ _ = _
    rw [pl0, r_acc0 hP hI, bR_i, if_neg (by rw [iI_le (by omega) (by omega) (by omega) (by omega)]; omega), r_barOf0 hP hI hb, b2s]
    exact L_p46 hP hI hb k _ _
  · show bindR _ _ = _
    rw [pl0, r_acc0 hP hI, bR_i, if_pos (Int32.le_refl _), fill_all hI]
    exact L_p334 hP hI
end FH
