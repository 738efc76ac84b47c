/-! the sum of a print -/
def sA (f : Nat → Int32) (m h : Int64) : Nat → Int64
  | 0 => h
  | n + 1 => m * sA f m h n + (f n).toInt64
section FK
variable {G : GT} {s : Nat → Int32}
def ac (s : Nat → Int32) (w : Nat) : Int32 := if w = 0 then iI (nb s) else if w = 1 then iI (bB s (nb s)) else if w = 2 then iI (bS s (ns s)) else if w = 3 then iI (ns s) else if w = 4 then iI (dr s (ns s)) else if w = 5 then iI (ns s - dr s (ns s)) else if w = 6 then iI (sm (fun b => pb s b (ns s)) (nb s)) else if w = 7 then iI (lm s) else if w = 8 then s 3 else s 4
def so3 (s : Nat → Int32) (k : Nat) : Int32 := if k % 3 = 0 then iI (tn s (k / 3)) else if k % 3 = 1 then iI (ht s (k / 3)) else iI (ln s (k / 3))
def ti2 (s : Nat → Int32) (k : Nat) : Int32 := if k % 2 = 0 then iI (ky s (k / 2)) else iI (lk s (k / 2))
def SU (s : Nat → Int32) : Int64 := sA (fun b => iI (sz s b)) 43 (sA (ti2 s) 41 (sA (so3 s) 37 (sA (ac s) 31 7 10) (3 * ns s)) 8) (nb s)
theorem r_ac (hP : Pr G 0 s) (hI : Inv s) {w : Nat} (hw : w < 10) : f_X9_account G (iI w) = some (.inr (ac s w), G) := by
  obtain rfl | rfl | rfl | rfl | rfl | rfl | rfl | rfl | rfl | rfl : w = 0 ∨ w = 1 ∨ w = 2 ∨ w = 3 ∨ w = 4 ∨ w = 5 ∨ w = 6 ∨ w = 7 ∨ w = 8 ∨ w = 9 := by omega
  · exact r_acc0 hP hI
  · exact r_acc1 hP hI
  · exact r_acc2 hP hI
  · exact r_acc3 hP hI
  · exact r_acc4 hP hI
  · exact r_acc5 hP hI
  · exact r_acc6 hP hI
  · exact r_acc7 hP hI
  · exact r_acc8 hP hI
  · exact r_acc9 hP hI
theorem L_sum (hP : Pr G 0 s) (hI : Inv s) : f_L_sum G = some (SU s, G) := by
  have h16 := hI.ns16
  have h6 := hI.nb6
  unfold f_L_sum f_L_sum_6 SU
  refine lq3_fr (X1 := fun _ => G) (X2 := fun w => sA (ac s) 31 7 w) (X3 := fun w => iI w) 10 _ rfl rfl rfl (fun k w hw => ?_) (fun k => ?_) (by omega)
  · show (if _ then _ else _) = _
    rw [if_neg (by rw [pl10, iI_le (by omega) (by omega) (by omega) (by omega)]; omega), r_ac hP hI hw, bR_i, pl1, iI_add]
    rfl
  · show (if _ then _ else _) = _
    rw [if_pos (by decide)]
    unfold f_L_sum_33
    refine lq3_fr (X1 := fun _ => G) (X2 := fun w => sA (so3 s) 37 (sA (ac s) 31 7 10) w) (X3 := fun w => iI w) (3 * ns s) _ rfl rfl rfl (fun k w hw => ?_) (fun k => ?_) (by omega)
    · have e1 : iI (w : Int) / iI 3 = iI ((w / 3 : Nat) : Int) := by rw [iI_div (by omega) (by omega) (by omega) (by omega)]; congr 1
      have e2 : (w : Int) - ((w / 3 : Nat) : Int) * 3 = ((w % 3 : Nat) : Int) := by omega
      have hj : w / 3 < ns s := by omega
      have h : fw_of G (iI ((w / 3 : Nat) : Int)) (iI ((w % 3 : Nat) : Int)) = some (so3 s w, G) := by
        unfold so3
        obtain h | h | h : w % 3 = 0 ∨ w % 3 = 1 ∨ w % 3 = 2 := by omega
        · rw [h, if_pos rfl]; exact r_of0 hP hI hj
        · rw [h, if_neg (by omega), if_pos rfl]; exact r_of1 hP hI hj
        · rw [h, if_neg (by omega), if_neg (by omega)]; exact r_of2 hP hI hj
      show bindR _ _ = _
      rw [pl3, r_acc3 hP hI, bR_i, iI_mul, if_neg (by rw [iI_le (by omega) (by omega) (by omega) (by omega)]; omega), e1, iI_mul, iI_sub, e2, h, b2s, pl1, iI_add]
      rfl
    · show bindR _ _ = _
      rw [pl3, r_acc3 hP hI, bR_i, iI_mul, if_pos (by rw [iI_le (by omega) (by omega) (by omega) (by omega)]; omega)]
      unfold f_L_sum_70
      refine lq3_fr (X1 := fun _ => G) (X2 := fun w => sA (ti2 s) 41 (sA (so3 s) 37 (sA (ac s) 31 7 10) (3 * ns s)) w) (X3 := fun w => iI w) 8 _ rfl rfl rfl (fun k w hw => ?_) (fun k => ?_) (by omega)
      · have e1 : iI (w : Int) / iI 2 = iI ((w / 2 : Nat) : Int) := by rw [iI_div (by omega) (by omega) (by omega) (by omega)]; congr 1
        have e2 : (w : Int) - ((w / 2 : Nat) : Int) * 2 = ((w % 2 : Nat) : Int) := by omega
        have hj : w / 2 < 4 := by omega
        have h : fw_tinOf G (iI ((w / 2 : Nat) : Int)) (iI ((w % 2 : Nat) : Int)) = some (ti2 s w, G) := by
          unfold ti2
          obtain h | h : w % 2 = 0 ∨ w % 2 = 1 := by omega
          · rw [h, if_pos rfl]; exact r_tinOf0 hP hI hj
          · rw [h, if_neg (by omega)]; exact r_tinOf1 hP hI hj
        show (if _ then _ else _) = _
        rw [if_neg (by rw [pl8, iI_le (by omega) (by omega) (by omega) (by omega)]; omega), pl2, e1, iI_mul, iI_sub, e2, h, b2s, pl1, iI_add]
        rfl
      · show (if _ then _ else _) = _
        rw [if_pos (by decide)]
        unfold f_L_sum_102
        refine lq3_fr (X1 := fun _ => G) (X2 := fun w => sA (fun b => iI (sz s b)) 43 (sA (ti2 s) 41 (sA (so3 s) 37 (sA (ac s) 31 7 10) (3 * ns s)) 8) w) (X3 := fun w => iI w) (nb s) _ rfl rfl rfl (fun k b hb => ?_) (fun k => ?_) (by omega)
        · show bindR _ _ = _
          rw [pl0, r_acc0 hP hI, bR_i, if_neg (by rw [iI_le (by omega) (by omega) (by omega) (by omega)]; omega), r_barOf0 hP hI hb, b2s, pl1, iI_add]
          rfl
        · show bindR _ _ = _
          rw [pl0, r_acc0 hP hI, bR_i, if_pos (Int32.le_refl _)]
end FK
