/-! tunes -/
theorem fp_mean2 : ∀ a : Nat, a < 177 → ∀ b : Nat, b < 16 → Op.cmpValue (FP.dcmp (FP.ddiv (FP.i2d (iI (a : Int))) (FP.i2d (iI ((b + 1 : Nat) : Int)))) (FP.ddiv (FP.i2d (iI (a : Int))) (FP.i2d (iI ((b + 1 : Nat) : Int))))) CmpOp.l = 0 := by decide +kernel
theorem fp_share2 : ∀ a : Nat, a < 49 → ∀ b : Nat, b < 48 → Op.cmpValue (FP.fcmp (FP.fdiv (FP.i2f (iI (a : Int))) (FP.i2f (iI ((b + 1 : Nat) : Int)))) (FP.fdiv (FP.i2f (iI (a : Int))) (FP.i2f (iI ((b + 1 : Nat) : Int))))) CmpOp.l = 0 := by decide +kernel
section FI
variable {G : GT} {s : Nat → Int32}
def WT (s : Nat → Int32) : Nat → Nat → Int32
  | 0 => fun _ => 0
  | j + 1 => if ht s j < 0 then WT s j else upd (WT s j) (pt s j).toNat (WT s j (pt s j).toNat + 1)
theorem WT_eq (hI : Inv s) (p : Nat) : ∀ j, j ≤ ns s → WT s j p = iI (sm (fun i => if pc s i = p then 1 else 0) j) := by
  intro j
  induction j with
  | zero => intro _; rfl
  | succ j ih =>
    intro hj
    have h := ih (by omega)
    have hpt := pt_r hI (j := j) (by omega)
    have e : WT s (j + 1) = if ht s j < 0 then WT s j else upd (WT s j) (pt s j).toNat (WT s j (pt s j).toNat + 1) := rfl
    rw [e, sm_1]
    by_cases hd : ht s j < 0
    · have e1 : pc s j = -1 := by unfold pc; rw [if_pos hd]
      rw [if_pos hd, h, e1, if_neg (by omega), Int.add_zero]
    · have e1 : pc s j = pt s j := by unfold pc; rw [if_neg hd]
      rw [if_neg hd, e1]
      by_cases hp : p = (pt s j).toNat
      · rw [if_pos (by omega), hp, upd_at, ← hp, h, pl1, iI_add]
      · rw [if_neg (by omega), upd_ne _ _ hp, h, Int.add_zero]
theorem rs_la (hI : Inv s) {j : Nat} (hj : j < ns s) (hd : 0 ≤ ht s j) : rs s j = if la s j < 0 then 0 else pt s j - la s j := by
  unfold rs la
  rcases da_r s j with ⟨h2, -⟩ | ⟨h2, h3, h4, -⟩
  · rw [if_neg (by omega), if_pos (show da s j < 0 by omega), if_pos (by omega)]
  · have := pt_r hI (j := dn s j) (by omega)
    rw [if_pos (by omega), if_neg (show ¬ da s j < 0 by omega), if_neg (by omega)]
theorem rs_r0 {j : Nat} (hd : ht s j < 0) : rs s j = 0 := by
  unfold rs
  exact if_neg (by omega)
theorem L_t285 (hP : Pr G 0 s) (hI : Inv s) (hb : 0 < nb s) : f_L_tunes_285 (WT s (ns s)) 13 G (iI 1) (iI 0) = some (iI 1, G) := by
  have h6 := hI.nb6
  have hz := hI.bBr (b := nb s) (by omega)
  have hzs := hI.bSr (j := ns s) (by omega)
  have hf := hI.full
  unfold f_L_tunes_285
  refine lq3_fr (X1 := fun _ => G) (X2 := fun _ => iI 1) (X3 := fun p => iI p) 12 _ rfl rfl rfl (fun k p hp => ?_) (fun k => ?_) (by omega)
  · have hw : WT s (ns s) p = iI (wp s p) := WT_eq hI p (ns s) (Nat.le_refl _)
    have ec : (iI (p : Int)).toNatClampNeg = p := by rw [iI_clamp (by omega) (by omega), Int.toNat_natCast]
    show (if _ then _ else _) = _
    rw [if_neg (by rw [pl12, iI_le (by omega) (by omega) (by omega) (by omega)]; omega), if_neg (by decide), r_with hP hI (by omega), b2s, if_pos (by rw [iI_inb (by omega) (by omega) (by omega)]; omega), ec, hw, if_pos rfl]
    unfold f_L_tunes_316
    rw [pl1, iI_add]
    rfl
  · obtain ⟨e1, e2⟩ := r_share hP hI hb
    have h3 := fp_share2 (bS s (ns s)).toNat (by omega) ((bB s (nb s)).toNat - 1) (by omega)
    have f1 : (((bS s (ns s)).toNat : Nat) : Int) = bS s (ns s) := by omega
    have f2 : ((((bB s (nb s)).toNat - 1) + 1 : Nat) : Int) = bB s (nb s) := by omega
    rw [f1, f2] at h3
    show (if _ then _ else _) = _
    rw [if_pos (by decide), if_neg (by decide), pl12, r_withx, b2s, if_pos (show iI (-12) = -iI 12 from rfl), pl1, iI_neg, r_withy, b2s, if_pos (show iI (-12) = -iI 12 from rfl), e1, bR_i, pl2, r_acc2 hP hI, bR_i, r_acc1 hP hI, bR_i, if_pos e2, if_pos h3]
theorem L_t226 (hP : Pr G 0 s) (hI : Inv s) (hb : 0 < nb s) (v : Int32) : f_L_tunes_226 (WT s (ns s)) (iI (sp2 s)) (iI (dr s (ns s))) v v G = some (iI 1, G) := by
  have h16 := hI.ns16
  have hdr := dr_r hI
  have hsp := sp2_r hI
  have h275 : f_L_tunes_275 (WT s (ns s)) G = some (iI 1, G) := by
    unfold f_L_tunes_275 f_L_tunes_280
    exact L_t285 hP hI hb
  unfold f_L_tunes_226
  rw [if_pos rfl, pl4, r_acc4 hP hI, bR_i, if_pos rfl, pl5, r_acc5 hP hI, bR_i, pl3, r_acc3 hP hI, bR_i, iI_sub, if_pos rfl]
  by_cases h0 : dr s (ns s) = 0
  · rw [if_pos (by rw [h0]; rfl)]
    exact h275
  · obtain ⟨e1, e2⟩ := r_mean hP hI (by omega)
    have h3 := fp_mean2 (sp2 s).toNat (by omega) ((dr s (ns s)).toNat - 1) (by omega)
    have f1 : (((sp2 s).toNat : Nat) : Int) = sp2 s := by omega
    have f2 : ((((dr s (ns s)).toNat - 1) + 1 : Nat) : Int) = dr s (ns s) := by omega
    rw [f1, f2] at h3
    rw [if_neg (by rw [pl0, iI_eq (by omega) (by omega) (by omega) (by omega)]; exact h0), e1, bR_i, if_pos e2, if_pos h3]
    exact h275
theorem L_tunes (hP : Pr G 0 s) (hI : Inv s) (hb : 0 < nb s) : f_L_tunes G = some (iI 1, G) := by
  have h16 := hI.ns16
  unfold f_L_tunes
  rw [L_sounds hP hI, b3s]
  unfold f_L_tunes_42
  refine lq11_fr (X1 := fun _ => G) (X2 := fun j => WT s j) (X3 := fun j => iI (sm (fun j => ab (rs s j)) j)) (X4 := fun j => iI (sm (fun j => if 0 < rs s j then 1 else 0) j)) (X5 := fun j => iI (sm (fun j => if rs s j < 0 then 1 else 0) j)) (X6 := fun j => iI (lo s j)) (X7 := fun j => iI (hq s j)) (X8 := fun j => iI (la s j)) (X9 := fun j => iI (sm (fun j => max 0 (pc s j)) j)) (X10 := fun j => iI (dr s j)) (X11 := fun j => iI j) (ns s) _ rfl rfl rfl rfl rfl rfl rfl rfl rfl rfl rfl (fun k j hj => ?_) (fun k => ?_) (by omega)
  · obtain ⟨hin, ec⟩ := inj_ s hI hj
    obtain ⟨w0, w2, w3, w4, w5⟩ := RW_SS s (ns s) j hj
    have hpt := pt_r hI hj
    have hlo := lohi_r hI j (by omega)
    have hla := la_r hI (n := j) (by omega)
    have hrs := rs_r hI hj
    have e4 : lo s (j + 1) = if ht s j < 0 then lo s j else min (lo s j) (pt s j) := rfl
    have e5 : hq s (j + 1) = if ht s j < 0 then hq s j else max (hq s j) (pt s j) := rfl
    have e9 : dr s (j + 1) = dr s j + (if ht s j < 0 then 0 else 1) := rfl
    have eW : WT s (j + 1) = if ht s j < 0 then WT s j else upd (WT s j) (pt s j).toNat (WT s j (pt s j).toNat + 1) := rfl
    show (if _ then _ else _) = k G (WT s (j + 1)) (iI (sm (fun j => ab (rs s j)) (j + 1))) (iI (sm (fun j => if 0 < rs s j then 1 else 0) (j + 1))) (iI (sm (fun j => if rs s j < 0 then 1 else 0) (j + 1))) (iI (lo s (j + 1))) (iI (hq s (j + 1))) (iI (la s (j + 1))) (iI (sm (fun j => max 0 (pc s j)) (j + 1))) (iI (dr s (j + 1))) (iI ((j + 1 : Nat) : Int))
    rw [if_neg (by rw [lit_nI, iI_le (by omega) (by omega) (by omega) (by omega)]; omega), if_pos hin, ec, w3, e4, e5, e9, eW, sm_1, sm_1, sm_1, sm_1]
    by_cases hd : ht s j < 0
    · have e1 : pc s j = -1 := by unfold pc; rw [if_pos hd]
      have e2 := rs_r0 (s := s) hd
      have e3 := (la_1r hd).1
      rw [if_pos hd, if_pos hd, if_pos hd, if_pos hd, e1, e2, e3, if_pos (by decide)]
      unfold f_L_tunes_166
      rw [pl1, iI_add, show ab 0 = 0 from rfl, show max (0 : Int) (-1) = 0 from rfl, if_neg (by decide), Int.add_zero, Int.add_zero, Int.add_zero, Int.add_zero, Int.add_zero]
      rfl
    · have e1 : pc s j = pt s j := by unfold pc; rw [if_neg hd]
      have e2 := rs_la hI hj (by omega)
      have e3 := (la_1d (s := s) (n := j) (by omega)).1
      have hin12 : inb (iI (pt s j)) 12 := by rw [iI_inb (by omega) (by omega) (by omega)]; omega
      have ec2 : (iI (pt s j)).toNatClampNeg = (pt s j).toNat := by rw [iI_clamp (by omega) (by omega)]
      have hab := ab_r hrs
      rw [if_neg hd, if_neg hd, if_neg hd, if_neg hd, e1, e3, if_neg (by rw [pl0, iI_lt (by omega) (by omega) (by omega) (by omega)]; omega)]
      have hmax : max (0 : Int) (pt s j) = pt s j := by omega
      have h113 : ∀ (u1 u2 u3 : Int) (v : Int), f_L_tunes_113 k (ns s) (SS s (ns s)) (iI (ns s)) (WT s j) (iI u1) (iI u2) (iI (lo s j)) (iI (hq s j)) (iI (sm (fun j => max 0 (pc s j)) j)) (iI (dr s j)) (iI j) j (iI v) (iI u3) G = k G (upd (WT s j) (pt s j).toNat (WT s j (pt s j).toNat + 1)) (iI u1) (iI u2) (iI (u3 + v)) (iI (min (lo s j) (pt s j))) (iI (max (hq s j) (pt s j))) (iI (pt s j)) (iI (sm (fun j => max 0 (pc s j)) j + pt s j)) (iI (dr s j + 1)) (iI ((j + 1 : Nat) : Int)) := by
        intro u1 u2 u3 v
        unfold f_L_tunes_113
        rw [w3, e1, if_pos hin12, if_pos hin12, ec2, Option.bind_some]
        unfold f_L_tunes_166
        rw [iI_min (by omega) (by omega) (by omega) (by omega), iI_max (by omega) (by omega) (by omega) (by omega), pl1, iI_add, iI_add, iI_add, iI_add]
        rfl
      have h79 : ∀ d : Int, d = rs s j → f_L_tunes_79 k (ns s) (SS s (ns s)) (iI (ns s)) (WT s j) (iI (sm (fun j => ab (rs s j)) j)) (iI (sm (fun j => if 0 < rs s j then 1 else 0) j)) (iI (sm (fun j => if rs s j < 0 then 1 else 0) j)) (iI (lo s j)) (iI (hq s j)) (iI (sm (fun j => max 0 (pc s j)) j)) (iI (dr s j)) (iI j) j (iI d) G = k G (upd (WT s j) (pt s j).toNat (WT s j (pt s j).toNat + 1)) (iI (sm (fun j => ab (rs s j)) j + ab (rs s j))) (iI (sm (fun j => if 0 < rs s j then 1 else 0) j + (if 0 < rs s j then 1 else 0))) (iI (sm (fun j => if rs s j < 0 then 1 else 0) j + (if rs s j < 0 then 1 else 0))) (iI (min (lo s j) (pt s j))) (iI (max (hq s j) (pt s j))) (iI (pt s j)) (iI (sm (fun j => max 0 (pc s j)) j + pt s j)) (iI (dr s j + 1)) (iI ((j + 1 : Nat) : Int)) := by
        intro d hdd
        unfold f_L_tunes_79 f_L_tunes_100
        rw [iI_abs (by omega) (by omega), iI_add]
        rw [← hdd]
        by_cases h1 : d ≤ 0
        · rw [if_pos (by rw [pl0, iI_le (by omega) (by omega) (by omega) (by omega)]; exact h1), if_neg (show ¬ 0 < d by omega), pl0, iI_add]
          by_cases h2 : 0 ≤ d
          · rw [if_pos (by rw [iI_le (by omega) (by omega) (by omega) (by omega)]; exact h2), if_neg (show ¬ d < 0 by omega)]
            exact h113 _ _ _ 0
          · rw [if_neg (by rw [iI_le (by omega) (by omega) (by omega) (by omega)]; exact h2), if_pos (show d < 0 by omega)]
            exact h113 _ _ _ 1
        · rw [if_neg (by rw [pl0, iI_le (by omega) (by omega) (by omega) (by omega)]; exact h1), if_pos (show 0 < d by omega), pl1, iI_add, if_pos (by rw [pl0, iI_le (by omega) (by omega) (by omega) (by omega)]; omega), if_neg (show ¬ d < 0 by omega)]
          exact h113 _ _ _ 0
      rw [hmax]
      by_cases h1 : la s j < 0
      · rw [if_pos h1] at e2
        rw [if_neg (by rw [pl0, iI_le (by omega) (by omega) (by omega) (by omega)]; omega), pl0]
        exact h79 0 e2.symm
      · rw [if_neg h1] at e2
        rw [if_pos (by rw [pl0, iI_le (by omega) (by omega) (by omega) (by omega)]; omega), iI_sub]
        exact h79 _ e2.symm
  · have hlo := lohi_r hI (ns s) (Nat.le_refl _)
    have hdr := dr_r hI
    show (if _ then _ else _) = _
    rw [if_pos (by rw [lit_nI]; exact Int32.le_refl _), (show f_X9_walk G 0 = some (iI (sm (fun j => ab (rs s j)) (ns s))) from r_walk0 hP hI), Option.bind_some, if_pos rfl, (show f_X9_walk G 1 = some (iI (sm (fun j => ab (rs s j)) (ns s))) from r_walk1 hP hI), Option.bind_some, if_pos rfl, (show f_X9_goes G 1 = some (iI (sm (fun j => if 0 < rs s j then 1 else 0) (ns s))) from r_goes1 hP hI), Option.bind_some, if_pos rfl, (show f_X9_goes G 0 = some (iI (sm (fun j => if rs s j < 0 then 1 else 0) (ns s))) from r_goes0 hP hI), Option.bind_some, if_pos rfl, r_span hP hI, Option.bind_some]
    by_cases h0 : dr s (ns s) = 0
    · have e : wd s = 0 := if_pos (by omega)
      rw [if_pos (by rw [h0]; rfl), e]
      exact L_t226 hP hI hb _
    · have e : wd s = hq s (ns s) - lo s (ns s) := if_neg (by omega)
      rw [if_neg (by rw [pl0, iI_eq (by omega) (by omega) (by omega) (by omega)]; exact h0), e, iI_sub]
      exact L_t226 hP hI hb _
end FI
