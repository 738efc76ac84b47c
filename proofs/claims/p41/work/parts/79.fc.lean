/-! the sounds as rows -/
section FC
variable {G : GT} {s : Nat → Int32}
def rowv (s : Nat → Int32) (j : Nat) : Nat → Int32 := upd (upd (upd (upd (upd (upd (fun _ => 0) 0 (iI (tn s j))) 1 (iI (ht s j))) 2 (iI (ln s j))) 3 (iI (pc s j))) 4 (iI (bS s j))) 5 (iI (pj s j))
def SS (s : Nat → Int32) : Nat → Nat → Nat → Int32
  | 0 => fun _ _ => 0
  | j + 1 => upS (SS s j) j (rowv s j)
theorem SS_1 (s : Nat → Int32) (j : Nat) : SS s (j + 1) = upS (SS s j) j (rowv s j) := rfl
theorem SS_at (s : Nat → Int32) {i : Nat} : ∀ j, i < j → SS s j i = rowv s i := by
  intro j
  induction j with
  | zero => intro h; omega
  | succ j ih =>
    intro h
    rw [SS_1]
    unfold upS
    by_cases h1 : i = j
    · rw [if_pos h1, h1]
    · rw [if_neg h1]; exact ih (by omega)
def RW (s : Nat → Int32) (n : Nat) (S : Nat → Nat → Int32) : Prop := ∀ j, j < n → S j 0 = iI (tn s j) ∧ S j 2 = iI (ln s j) ∧ S j 3 = iI (pc s j) ∧ S j 4 = iI (bS s j) ∧ S j 5 = iI (pj s j)
theorem RW_SS (s : Nat → Int32) (n : Nat) : RW s n (SS s n) := fun j hj => by
  rw [SS_at s n hj]
  exact ⟨rfl, rfl, rfl, rfl, rfl⟩
theorem tN5 : (5 : Int).toNat = 5 := rfl
theorem ov_pos (hI : Inv s) {j b : Nat} (hj : j < ns s) (hb : b < nb s) : (0 < ov s j b) = (bS s j < bB s b + sz s b ∧ bB s b < bS s j + ln s j) := by
  have h1 := hI.sd hj
  have h2 := hI.sz hb
  have h3 := bB_1 s b
  have h4 := bS_1 s j
  unfold ov
  apply propext
  omega
theorem r_tinI (hP : Pr G 0 s) (hI : Inv s) {j : Nat} (hj : j < ns s) : fw_tinOf G (iI (tn s j)) (iI 0) = some (iI (ky s (tn s j).toNat), G) := by
  have h1 := hI.sd hj
  have h := r_tinOf0 hP hI (t := (tn s j).toNat) (by omega)
  rwa [Int.toNat_of_nonneg (by omega)] at h
theorem cnt_r (p : Nat → Prop) [DecidablePred p] (n : Nat) : 0 ≤ sm (fun i => if p i then 1 else 0) n ∧ sm (fun i => if p i then 1 else 0) n ≤ n := by
  have h1 := sm_ge (f := fun i => if p i then (1 : Int) else 0) (n := n) (a := 0) (fun i _ => it_ge (by omega))
  have h2 := sm_le (f := fun i => if p i then (1 : Int) else 0) (n := n) (a := 1) (fun i _ => it_le (by omega) (by omega))
  omega
theorem L_snd73 (hP : Pr G 0 s) (hI : Inv s) {j : Nat} (hj : j < ns s) (k : GT → (Nat → Nat → Int32) → Int32 → Int32 → Option (Nat × (Nat → Nat → Int32) × GT)) (S : Nat → Nat → Int32) : f_L_sounds_73 k (ns s) (iI (ns s)) S (iI (bS s j)) (iI j) (iI (tn s j)) (iI (ht s j)) (iI (ln s j)) (iI (ky s (tn s j).toNat + ht s j)) 7 G (iI 0) (iI 0) (iI 0) = k G (upS S j (rowv s j)) (iI (bS s (j + 1))) (iI ((j + 1 : Nat) : Int)) := by
  have h16 := hI.ns16
  have h6 := hI.nb6
  have hs := snd_in hI hj
  have hd := hI.sd hj
  have hz := hI.bBr (b := nb s) (by omega)
  have hk := hI.ky (t := (tn s j).toNat) (by omega)
  have hb1 := bS_1 s j
  unfold f_L_sounds_73
  refine lq4_fr (X1 := fun _ => G) (X2 := fun b => iI (sm (fun i => if 0 < ov s j i then 1 else 0) b)) (X3 := fun b => iI (bB s b)) (X4 := fun b => iI b) (nb s) _ rfl rfl rfl rfl (fun k2 b hb => ?_) (fun k2 => ?_) (by omega)
  · have hc := cnt_r (fun i => 0 < ov s j i) b
    have hzb := hI.sz hb
    have hbb := hI.bBr (b := b) (by omega)
    have e1 := ov_pos hI hj hb
    have e2 := bB_1 s b
    by_cases h1 : bB s b + sz s b ≤ bS s j
    · have h3 : ¬ 0 < ov s j b := by rw [e1]; omega
      (simp (disch := omega) only [pl0, pl1, pl2, pl3, pl4, pl5, pl6, pl7, pl8, pl9, pl10, pl11, pl12, pl16, pl19, lit_nI, iI_add, iI_sub, iI_mul, iI_neg, iI_le, iI_lt, iI_eq, iI_max, iI_min, Option.bind_some, Option.bind_eq_bind, if_true, if_false, r_acc0 hP hI, bR_i, r_barOf0 hP hI hb, b2s, sm_1, e2, h3, f_L_sounds_116, f_L_sounds_117]; (repeat (first | rw [if_pos (by omega)] | rw [if_neg (by omega)])); (try simp (disch := omega) only [pl0, pl1, pl2, pl3, pl4, pl5, pl6, pl7, pl8, pl9, pl10, pl11, pl12, pl16, pl19, lit_nI, iI_add, iI_sub, iI_mul, iI_neg, iI_le, iI_lt, iI_eq, iI_max, iI_min, Option.bind_some, Option.bind_eq_bind, if_true, if_false]); (repeat (first | rw [if_pos (by omega)] | rw [if_neg (by omega)])); (try rfl))
    · by_cases h2 : bS s j + ln s j ≤ bB s b
      · have h3 : ¬ 0 < ov s j b := by rw [e1]; omega
        (simp (disch := omega) only [pl0, pl1, pl2, pl3, pl4, pl5, pl6, pl7, pl8, pl9, pl10, pl11, pl12, pl16, pl19, lit_nI, iI_add, iI_sub, iI_mul, iI_neg, iI_le, iI_lt, iI_eq, iI_max, iI_min, Option.bind_some, Option.bind_eq_bind, if_true, if_false, r_acc0 hP hI, bR_i, r_barOf0 hP hI hb, b2s, sm_1, e2, h3, f_L_sounds_116, f_L_sounds_117]; (repeat (first | rw [if_pos (by omega)] | rw [if_neg (by omega)])); (try simp (disch := omega) only [pl0, pl1, pl2, pl3, pl4, pl5, pl6, pl7, pl8, pl9, pl10, pl11, pl12, pl16, pl19, lit_nI, iI_add, iI_sub, iI_mul, iI_neg, iI_le, iI_lt, iI_eq, iI_max, iI_min, Option.bind_some, Option.bind_eq_bind, if_true, if_false]); (repeat (first | rw [if_pos (by omega)] | rw [if_neg (by omega)])); (try rfl))
      · have h3 : 0 < ov s j b := by rw [e1]; omega
        (simp (disch := omega) only [pl0, pl1, pl2, pl3, pl4, pl5, pl6, pl7, pl8, pl9, pl10, pl11, pl12, pl16, pl19, lit_nI, iI_add, iI_sub, iI_mul, iI_neg, iI_le, iI_lt, iI_eq, iI_max, iI_min, Option.bind_some, Option.bind_eq_bind, if_true, if_false, r_acc0 hP hI, bR_i, r_barOf0 hP hI hb, b2s, sm_1, e2, h3, f_L_sounds_116, f_L_sounds_117]; (repeat (first | rw [if_pos (by omega)] | rw [if_neg (by omega)])); (try simp (disch := omega) only [pl0, pl1, pl2, pl3, pl4, pl5, pl6, pl7, pl8, pl9, pl10, pl11, pl12, pl16, pl19, lit_nI, iI_add, iI_sub, iI_mul, iI_neg, iI_le, iI_lt, iI_eq, iI_max, iI_min, Option.bind_some, Option.bind_eq_bind, if_true, if_false]); (repeat (first | rw [if_pos (by omega)] | rw [if_neg (by omega)])); (try rfl))
  · by_cases h1 : ht s j < 0
    · have e : pc s j = -1 := by unfold pc; rw [if_pos h1]
      (simp (disch := omega) only [pl0, pl1, pl2, pl3, pl4, pl5, pl6, pl7, pl8, pl9, pl10, pl11, pl12, pl16, pl19, lit_nI, iI_add, iI_sub, iI_mul, iI_neg, iI_le, iI_lt, iI_eq, iI_max, iI_min, Option.bind_some, Option.bind_eq_bind, if_true, if_false, r_acc0 hP hI, bR_i, f_L_sounds_177, iI_inb, iI_clamp, Int.toNat_natCast, tN0, tN1, tN2, tN3, tN4, tN5, hb1]; (repeat (first | rw [if_pos (by omega)] | rw [if_neg (by omega)])); (try simp (disch := omega) only [pl0, pl1, pl2, pl3, pl4, pl5, pl6, pl7, pl8, pl9, pl10, pl11, pl12, pl16, pl19, lit_nI, iI_add, iI_sub, iI_mul, iI_neg, iI_le, iI_lt, iI_eq, iI_max, iI_min, Option.bind_some, Option.bind_eq_bind, if_true, if_false]); (repeat (first | rw [if_pos (by omega)] | rw [if_neg (by omega)])); (try rfl))
      unfold rowv
      rw [e]
      rfl
    · by_cases h2 : ky s (tn s j).toNat + ht s j ≤ 11
      · have e : pc s j = ky s (tn s j).toNat + ht s j := by unfold pc pt; rw [if_neg h1]; omega
        (simp (disch := omega) only [pl0, pl1, pl2, pl3, pl4, pl5, pl6, pl7, pl8, pl9, pl10, pl11, pl12, pl16, pl19, lit_nI, iI_add, iI_sub, iI_mul, iI_neg, iI_le, iI_lt, iI_eq, iI_max, iI_min, Option.bind_some, Option.bind_eq_bind, if_true, if_false, r_acc0 hP hI, bR_i, f_L_sounds_177, iI_inb, iI_clamp, Int.toNat_natCast, tN0, tN1, tN2, tN3, tN4, tN5, hb1]; (repeat (first | rw [if_pos (by omega)] | rw [if_neg (by omega)])); (try simp (disch := omega) only [pl0, pl1, pl2, pl3, pl4, pl5, pl6, pl7, pl8, pl9, pl10, pl11, pl12, pl16, pl19, lit_nI, iI_add, iI_sub, iI_mul, iI_neg, iI_le, iI_lt, iI_eq, iI_max, iI_min, Option.bind_some, Option.bind_eq_bind, if_true, if_false]); (repeat (first | rw [if_pos (by omega)] | rw [if_neg (by omega)])); (try rfl))
        unfold rowv
        rw [e]
        rfl
      · have e : pc s j = ky s (tn s j).toNat + ht s j - 12 := by unfold pc pt; rw [if_neg h1]; omega
        (simp (disch := omega) only [pl0, pl1, pl2, pl3, pl4, pl5, pl6, pl7, pl8, pl9, pl10, pl11, pl12, pl16, pl19, lit_nI, iI_add, iI_sub, iI_mul, iI_neg, iI_le, iI_lt, iI_eq, iI_max, iI_min, Option.bind_some, Option.bind_eq_bind, if_true, if_false, r_acc0 hP hI, bR_i, f_L_sounds_177, iI_inb, iI_clamp, Int.toNat_natCast, tN0, tN1, tN2, tN3, tN4, tN5, hb1]; (repeat (first | rw [if_pos (by omega)] | rw [if_neg (by omega)])); (try simp (disch := omega) only [pl0, pl1, pl2, pl3, pl4, pl5, pl6, pl7, pl8, pl9, pl10, pl11, pl12, pl16, pl19, lit_nI, iI_add, iI_sub, iI_mul, iI_neg, iI_le, iI_lt, iI_eq, iI_max, iI_min, Option.bind_some, Option.bind_eq_bind, if_true, if_false]); (repeat (first | rw [if_pos (by omega)] | rw [if_neg (by omega)])); (try rfl))
        unfold rowv
        rw [e]
        rfl
theorem L_sounds (hP : Pr G 0 s) (hI : Inv s) : f_L_sounds G = some (ns s, SS s (ns s), G) := by
  have h16 := hI.ns16
  unfold f_L_sounds
  simp (disch := omega) only [pl0, pl1, pl2, pl3, pl4, pl5, pl6, pl7, pl8, pl9, pl10, pl11, pl12, pl16, pl19, lit_nI, iI_add, iI_sub, iI_mul, iI_neg, iI_le, iI_lt, iI_eq, iI_max, iI_min, Option.bind_some, Option.bind_eq_bind, if_true, if_false, r_acc3 hP hI, bR_i, iI_inb, iI_clamp, Int.toNat_natCast]
  (repeat (first | rw [if_pos (by omega)] | rw [if_neg (by omega)]))
  unfold f_L_sounds_19
  refine lq4_fr (X1 := fun _ => G) (X2 := fun j => SS s j) (X3 := fun j => iI (bS s j)) (X4 := fun j => iI j) (ns s) _ rfl rfl rfl rfl (fun k j hj => ?_) (fun k => ?_) (by omega)
  · have hd := hI.sd hj
    have hk := hI.ky (t := (tn s j).toNat) (by omega)
    simp (disch := omega) only [pl0, pl1, pl2, pl3, pl4, pl5, pl6, pl7, pl8, pl9, pl10, pl11, pl12, pl16, pl19, lit_nI, iI_add, iI_sub, iI_mul, iI_neg, iI_le, iI_lt, iI_eq, iI_max, iI_min, Option.bind_some, Option.bind_eq_bind, if_true, if_false, r_of0 hP hI hj, r_of1 hP hI hj, r_of2 hP hI hj, b2s, r_tinI hP hI hj]
    (repeat (first | rw [if_pos (by omega)] | rw [if_neg (by omega)]))
    exact L_snd73 hP hI hj k _
  · simp (disch := omega) only [pl0, pl1, pl2, pl3, pl4, pl5, pl6, pl7, pl8, pl9, pl10, pl11, pl12, pl16, pl19, lit_nI, iI_add, iI_sub, iI_mul, iI_neg, iI_le, iI_lt, iI_eq, iI_max, iI_min, Option.bind_some, Option.bind_eq_bind, if_true, if_false]
    (repeat (first | rw [if_pos (by omega)] | rw [if_neg (by omega)]))
end FC
