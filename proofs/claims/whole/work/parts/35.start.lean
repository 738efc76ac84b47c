/-! where the start's new cells stand -/
def pos (i : Nat) : Nat := if i < 21 then i + 1 else if i < 77 then i + 13 else if i = 77 then 0 else i - 56
def adS (n0 : Nat) (kd : Nat → Nat) (i : Nat) : Nat := if i < 90 then n0 + pos i else kd i
def amS (n0 : Nat) (i : Nat) : Nat := n0 + (90 + i)
def G0 : GT := fun i => if i < 77 ∧ i % 7 = 0 then (fun j => if j = 8 then 4 else 0) else if i = 84 then (fun j => if j = 6 then -1 else 0) else fun _ => 0
def K0 : GT := fun i => if i = 0 then (fun j => if j = 16 then -1 else 0) else if i = 1 then upd (fun _ => 0) 2 4 else fun _ => 0
def ALL0 (Y : Nat → ClassId) (n0 : Nat) : List va_E := ((([] ++ e_X9 (n0 + 1) :: n_X9 Y (n0 + 1)) ++ e_X10 (n0 + 91) :: n_X10 Y (n0 + 91)) ++ [oL Y (fun _ => 0)]) ++ [oD Y (fun _ => 0)]
theorem arrV_ext {c : ClassId} {n : Nat} {f g : Nat → Value} (h : ∀ j, j < n → f j = g j) : arrV c n f = arrV c n g := by
  unfold arrV
  congr 2
  funext j
  exact h j.val j.isLt
theorem at_q {D : va_G} {a n : Nat} {c : ClassId} {f g : Nat → Option Nat} {H : Heap} (h : va_at D vwCl (a, .inl (c, n, .inr (.inr (.inr (.inr f))))) H) (e : ∀ j, j < n → f j = g j) : va_at D vwCl (a, .inl (c, n, .inr (.inr (.inr (.inr g))))) H := by
  have h : H[a]? = some (vp_cell _ _) := h
  show H[a]? = some (vp_cell _ _)
  rw [h, vp_cell_q, vp_cell_q]
  congr 1
  exact arrV_ext (fun j hj => by rw [e j hj])
section ST0
variable {D : va_G} {Y : Nat → ClassId} {n0 : Nat} {kd : Nat → Nat} {H : Heap}
theorem w0_0 (h : Hp D n0 (ALL0 Y n0) H) : va_at D vwCl (adS n0 kd 0, kC Y (adS n0 kd) 0 (G0 0)) H := h.2 1 _ rfl
theorem w0_1 (h : Hp D n0 (ALL0 Y n0) H) : va_at D vwCl (adS n0 kd 1, kC Y (adS n0 kd) 1 (G0 1)) H := h.2 2 _ rfl
theorem w0_2 (h : Hp D n0 (ALL0 Y n0) H) : va_at D vwCl (adS n0 kd 2, kC Y (adS n0 kd) 2 (G0 2)) H := h.2 3 _ rfl
theorem w0_3 (h : Hp D n0 (ALL0 Y n0) H) : va_at D vwCl (adS n0 kd 3, kC Y (adS n0 kd) 3 (G0 3)) H := h.2 4 _ rfl
theorem w0_4 (h : Hp D n0 (ALL0 Y n0) H) : va_at D vwCl (adS n0 kd 4, kC Y (adS n0 kd) 4 (G0 4)) H := h.2 5 _ rfl
theorem w0_5 (h : Hp D n0 (ALL0 Y n0) H) : va_at D vwCl (adS n0 kd 5, kC Y (adS n0 kd) 5 (G0 5)) H := h.2 6 _ rfl
theorem w0_6 (h : Hp D n0 (ALL0 Y n0) H) : va_at D vwCl (adS n0 kd 6, kC Y (adS n0 kd) 6 (G0 6)) H := h.2 7 _ rfl
theorem w0_7 (h : Hp D n0 (ALL0 Y n0) H) : va_at D vwCl (adS n0 kd 7, kC Y (adS n0 kd) 7 (G0 7)) H := h.2 8 _ rfl
theorem w0_8 (h : Hp D n0 (ALL0 Y n0) H) : va_at D vwCl (adS n0 kd 8, kC Y (adS n0 kd) 8 (G0 8)) H := h.2 9 _ rfl
theorem w0_9 (h : Hp D n0 (ALL0 Y n0) H) : va_at D vwCl (adS n0 kd 9, kC Y (adS n0 kd) 9 (G0 9)) H := h.2 10 _ rfl
theorem w0_10 (h : Hp D n0 (ALL0 Y n0) H) : va_at D vwCl (adS n0 kd 10, kC Y (adS n0 kd) 10 (G0 10)) H := h.2 11 _ rfl
theorem w0_11 (h : Hp D n0 (ALL0 Y n0) H) : va_at D vwCl (adS n0 kd 11, kC Y (adS n0 kd) 11 (G0 11)) H := h.2 12 _ rfl
theorem w0_12 (h : Hp D n0 (ALL0 Y n0) H) : va_at D vwCl (adS n0 kd 12, kC Y (adS n0 kd) 12 (G0 12)) H := h.2 13 _ rfl
theorem w0_13 (h : Hp D n0 (ALL0 Y n0) H) : va_at D vwCl (adS n0 kd 13, kC Y (adS n0 kd) 13 (G0 13)) H := h.2 14 _ rfl
theorem w0_14 (h : Hp D n0 (ALL0 Y n0) H) : va_at D vwCl (adS n0 kd 14, kC Y (adS n0 kd) 14 (G0 14)) H := h.2 15 _ rfl
theorem w0_15 (h : Hp D n0 (ALL0 Y n0) H) : va_at D vwCl (adS n0 kd 15, kC Y (adS n0 kd) 15 (G0 15)) H := h.2 16 _ rfl
theorem w0_16 (h : Hp D n0 (ALL0 Y n0) H) : va_at D vwCl (adS n0 kd 16, kC Y (adS n0 kd) 16 (G0 16)) H := h.2 17 _ rfl
theorem w0_17 (h : Hp D n0 (ALL0 Y n0) H) : va_at D vwCl (adS n0 kd 17, kC Y (adS n0 kd) 17 (G0 17)) H := h.2 18 _ rfl
theorem w0_18 (h : Hp D n0 (ALL0 Y n0) H) : va_at D vwCl (adS n0 kd 18, kC Y (adS n0 kd) 18 (G0 18)) H := h.2 19 _ rfl
theorem w0_19 (h : Hp D n0 (ALL0 Y n0) H) : va_at D vwCl (adS n0 kd 19, kC Y (adS n0 kd) 19 (G0 19)) H := h.2 20 _ rfl
theorem w0_20 (h : Hp D n0 (ALL0 Y n0) H) : va_at D vwCl (adS n0 kd 20, kC Y (adS n0 kd) 20 (G0 20)) H := h.2 21 _ rfl
theorem w0_21 (h : Hp D n0 (ALL0 Y n0) H) : va_at D vwCl (adS n0 kd 21, kC Y (adS n0 kd) 21 (G0 21)) H := h.2 34 _ rfl
theorem w0_22 (h : Hp D n0 (ALL0 Y n0) H) : va_at D vwCl (adS n0 kd 22, kC Y (adS n0 kd) 22 (G0 22)) H := h.2 35 _ rfl
theorem w0_23 (h : Hp D n0 (ALL0 Y n0) H) : va_at D vwCl (adS n0 kd 23, kC Y (adS n0 kd) 23 (G0 23)) H := h.2 36 _ rfl
theorem w0_24 (h : Hp D n0 (ALL0 Y n0) H) : va_at D vwCl (adS n0 kd 24, kC Y (adS n0 kd) 24 (G0 24)) H := h.2 37 _ rfl
theorem w0_25 (h : Hp D n0 (ALL0 Y n0) H) : va_at D vwCl (adS n0 kd 25, kC Y (adS n0 kd) 25 (G0 25)) H := h.2 38 _ rfl
theorem w0_26 (h : Hp D n0 (ALL0 Y n0) H) : va_at D vwCl (adS n0 kd 26, kC Y (adS n0 kd) 26 (G0 26)) H := h.2 39 _ rfl
theorem w0_27 (h : Hp D n0 (ALL0 Y n0) H) : va_at D vwCl (adS n0 kd 27, kC Y (adS n0 kd) 27 (G0 27)) H := h.2 40 _ rfl
theorem w0_28 (h : Hp D n0 (ALL0 Y n0) H) : va_at D vwCl (adS n0 kd 28, kC Y (adS n0 kd) 28 (G0 28)) H := h.2 41 _ rfl
theorem w0_29 (h : Hp D n0 (ALL0 Y n0) H) : va_at D vwCl (adS n0 kd 29, kC Y (adS n0 kd) 29 (G0 29)) H := h.2 42 _ rfl
theorem w0_30 (h : Hp D n0 (ALL0 Y n0) H) : va_at D vwCl (adS n0 kd 30, kC Y (adS n0 kd) 30 (G0 30)) H := h.2 43 _ rfl
theorem w0_31 (h : Hp D n0 (ALL0 Y n0) H) : va_at D vwCl (adS n0 kd 31, kC Y (adS n0 kd) 31 (G0 31)) H := h.2 44 _ rfl
theorem w0_32 (h : Hp D n0 (ALL0 Y n0) H) : va_at D vwCl (adS n0 kd 32, kC Y (adS n0 kd) 32 (G0 32)) H := h.2 45 _ rfl
theorem w0_33 (h : Hp D n0 (ALL0 Y n0) H) : va_at D vwCl (adS n0 kd 33, kC Y (adS n0 kd) 33 (G0 33)) H := h.2 46 _ rfl
theorem w0_34 (h : Hp D n0 (ALL0 Y n0) H) : va_at D vwCl (adS n0 kd 34, kC Y (adS n0 kd) 34 (G0 34)) H := h.2 47 _ rfl
theorem w0_35 (h : Hp D n0 (ALL0 Y n0) H) : va_at D vwCl (adS n0 kd 35, kC Y (adS n0 kd) 35 (G0 35)) H := h.2 48 _ rfl
theorem w0_36 (h : Hp D n0 (ALL0 Y n0) H) : va_at D vwCl (adS n0 kd 36, kC Y (adS n0 kd) 36 (G0 36)) H := h.2 49 _ rfl
theorem w0_37 (h : Hp D n0 (ALL0 Y n0) H) : va_at D vwCl (adS n0 kd 37, kC Y (adS n0 kd) 37 (G0 37)) H := h.2 50 _ rfl
theorem w0_38 (h : Hp D n0 (ALL0 Y n0) H) : va_at D vwCl (adS n0 kd 38, kC Y (adS n0 kd) 38 (G0 38)) H := h.2 51 _ rfl
theorem w0_39 (h : Hp D n0 (ALL0 Y n0) H) : va_at D vwCl (adS n0 kd 39, kC Y (adS n0 kd) 39 (G0 39)) H := h.2 52 _ rfl
theorem w0_40 (h : Hp D n0 (ALL0 Y n0) H) : va_at D vwCl (adS n0 kd 40, kC Y (adS n0 kd) 40 (G0 40)) H := h.2 53 _ rfl
theorem w0_41 (h : Hp D n0 (ALL0 Y n0) H) : va_at D vwCl (adS n0 kd 41, kC Y (adS n0 kd) 41 (G0 41)) H := h.2 54 _ rfl
theorem w0_42 (h : Hp D n0 (ALL0 Y n0) H) : va_at D vwCl (adS n0 kd 42, kC Y (adS n0 kd) 42 (G0 42)) H := h.2 55 _ rfl
theorem w0_43 (h : Hp D n0 (ALL0 Y n0) H) : va_at D vwCl (adS n0 kd 43, kC Y (adS n0 kd) 43 (G0 43)) H := h.2 56 _ rfl
theorem w0_44 (h : Hp D n0 (ALL0 Y n0) H) : va_at D vwCl (adS n0 kd 44, kC Y (adS n0 kd) 44 (G0 44)) H := h.2 57 _ rfl
theorem w0_45 (h : Hp D n0 (ALL0 Y n0) H) : va_at D vwCl (adS n0 kd 45, kC Y (adS n0 kd) 45 (G0 45)) H := h.2 58 _ rfl
theorem w0_46 (h : Hp D n0 (ALL0 Y n0) H) : va_at D vwCl (adS n0 kd 46, kC Y (adS n0 kd) 46 (G0 46)) H := h.2 59 _ rfl
theorem w0_47 (h : Hp D n0 (ALL0 Y n0) H) : va_at D vwCl (adS n0 kd 47, kC Y (adS n0 kd) 47 (G0 47)) H := h.2 60 _ rfl
theorem w0_48 (h : Hp D n0 (ALL0 Y n0) H) : va_at D vwCl (adS n0 kd 48, kC Y (adS n0 kd) 48 (G0 48)) H := h.2 61 _ rfl
theorem w0_49 (h : Hp D n0 (ALL0 Y n0) H) : va_at D vwCl (adS n0 kd 49, kC Y (adS n0 kd) 49 (G0 49)) H := h.2 62 _ rfl
theorem w0_50 (h : Hp D n0 (ALL0 Y n0) H) : va_at D vwCl (adS n0 kd 50, kC Y (adS n0 kd) 50 (G0 50)) H := h.2 63 _ rfl
theorem w0_51 (h : Hp D n0 (ALL0 Y n0) H) : va_at D vwCl (adS n0 kd 51, kC Y (adS n0 kd) 51 (G0 51)) H := h.2 64 _ rfl
theorem w0_52 (h : Hp D n0 (ALL0 Y n0) H) : va_at D vwCl (adS n0 kd 52, kC Y (adS n0 kd) 52 (G0 52)) H := h.2 65 _ rfl
theorem w0_53 (h : Hp D n0 (ALL0 Y n0) H) : va_at D vwCl (adS n0 kd 53, kC Y (adS n0 kd) 53 (G0 53)) H := h.2 66 _ rfl
theorem w0_54 (h : Hp D n0 (ALL0 Y n0) H) : va_at D vwCl (adS n0 kd 54, kC Y (adS n0 kd) 54 (G0 54)) H := h.2 67 _ rfl
theorem w0_55 (h : Hp D n0 (ALL0 Y n0) H) : va_at D vwCl (adS n0 kd 55, kC Y (adS n0 kd) 55 (G0 55)) H := h.2 68 _ rfl
theorem w0_56 (h : Hp D n0 (ALL0 Y n0) H) : va_at D vwCl (adS n0 kd 56, kC Y (adS n0 kd) 56 (G0 56)) H := h.2 69 _ rfl
theorem w0_57 (h : Hp D n0 (ALL0 Y n0) H) : va_at D vwCl (adS n0 kd 57, kC Y (adS n0 kd) 57 (G0 57)) H := h.2 70 _ rfl
theorem w0_58 (h : Hp D n0 (ALL0 Y n0) H) : va_at D vwCl (adS n0 kd 58, kC Y (adS n0 kd) 58 (G0 58)) H := h.2 71 _ rfl
theorem w0_59 (h : Hp D n0 (ALL0 Y n0) H) : va_at D vwCl (adS n0 kd 59, kC Y (adS n0 kd) 59 (G0 59)) H := h.2 72 _ rfl
theorem w0_60 (h : Hp D n0 (ALL0 Y n0) H) : va_at D vwCl (adS n0 kd 60, kC Y (adS n0 kd) 60 (G0 60)) H := h.2 73 _ rfl
theorem w0_61 (h : Hp D n0 (ALL0 Y n0) H) : va_at D vwCl (adS n0 kd 61, kC Y (adS n0 kd) 61 (G0 61)) H := h.2 74 _ rfl
theorem w0_62 (h : Hp D n0 (ALL0 Y n0) H) : va_at D vwCl (adS n0 kd 62, kC Y (adS n0 kd) 62 (G0 62)) H := h.2 75 _ rfl
theorem w0_63 (h : Hp D n0 (ALL0 Y n0) H) : va_at D vwCl (adS n0 kd 63, kC Y (adS n0 kd) 63 (G0 63)) H := h.2 76 _ rfl
theorem w0_64 (h : Hp D n0 (ALL0 Y n0) H) : va_at D vwCl (adS n0 kd 64, kC Y (adS n0 kd) 64 (G0 64)) H := h.2 77 _ rfl
theorem w0_65 (h : Hp D n0 (ALL0 Y n0) H) : va_at D vwCl (adS n0 kd 65, kC Y (adS n0 kd) 65 (G0 65)) H := h.2 78 _ rfl
theorem w0_66 (h : Hp D n0 (ALL0 Y n0) H) : va_at D vwCl (adS n0 kd 66, kC Y (adS n0 kd) 66 (G0 66)) H := h.2 79 _ rfl
theorem w0_67 (h : Hp D n0 (ALL0 Y n0) H) : va_at D vwCl (adS n0 kd 67, kC Y (adS n0 kd) 67 (G0 67)) H := h.2 80 _ rfl
theorem w0_68 (h : Hp D n0 (ALL0 Y n0) H) : va_at D vwCl (adS n0 kd 68, kC Y (adS n0 kd) 68 (G0 68)) H := h.2 81 _ rfl
theorem w0_69 (h : Hp D n0 (ALL0 Y n0) H) : va_at D vwCl (adS n0 kd 69, kC Y (adS n0 kd) 69 (G0 69)) H := h.2 82 _ rfl
theorem w0_70 (h : Hp D n0 (ALL0 Y n0) H) : va_at D vwCl (adS n0 kd 70, kC Y (adS n0 kd) 70 (G0 70)) H := h.2 83 _ rfl
theorem w0_71 (h : Hp D n0 (ALL0 Y n0) H) : va_at D vwCl (adS n0 kd 71, kC Y (adS n0 kd) 71 (G0 71)) H := h.2 84 _ rfl
theorem w0_72 (h : Hp D n0 (ALL0 Y n0) H) : va_at D vwCl (adS n0 kd 72, kC Y (adS n0 kd) 72 (G0 72)) H := h.2 85 _ rfl
theorem w0_73 (h : Hp D n0 (ALL0 Y n0) H) : va_at D vwCl (adS n0 kd 73, kC Y (adS n0 kd) 73 (G0 73)) H := h.2 86 _ rfl
theorem w0_74 (h : Hp D n0 (ALL0 Y n0) H) : va_at D vwCl (adS n0 kd 74, kC Y (adS n0 kd) 74 (G0 74)) H := h.2 87 _ rfl
theorem w0_75 (h : Hp D n0 (ALL0 Y n0) H) : va_at D vwCl (adS n0 kd 75, kC Y (adS n0 kd) 75 (G0 75)) H := h.2 88 _ rfl
theorem w0_76 (h : Hp D n0 (ALL0 Y n0) H) : va_at D vwCl (adS n0 kd 76, kC Y (adS n0 kd) 76 (G0 76)) H := h.2 89 _ rfl
theorem w0_77 (h : Hp D n0 (ALL0 Y n0) H) : va_at D vwCl (adS n0 kd 77, kC Y (adS n0 kd) 77 (G0 77)) H := h.2 0 _ rfl
theorem w0_78 (h : Hp D n0 (ALL0 Y n0) H) : va_at D vwCl (adS n0 kd 78, kC Y (adS n0 kd) 78 (G0 78)) H := h.2 22 _ rfl
theorem w0_79 (h : Hp D n0 (ALL0 Y n0) H) : va_at D vwCl (adS n0 kd 79, kC Y (adS n0 kd) 79 (G0 79)) H := h.2 23 _ rfl
theorem w0_80 (h : Hp D n0 (ALL0 Y n0) H) : va_at D vwCl (adS n0 kd 80, kC Y (adS n0 kd) 80 (G0 80)) H := h.2 24 _ rfl
theorem w0_81 (h : Hp D n0 (ALL0 Y n0) H) : va_at D vwCl (adS n0 kd 81, kC Y (adS n0 kd) 81 (G0 81)) H := h.2 25 _ rfl
theorem w0_82 (h : Hp D n0 (ALL0 Y n0) H) : va_at D vwCl (adS n0 kd 82, kC Y (adS n0 kd) 82 (G0 82)) H := h.2 26 _ rfl
theorem w0_83 (h : Hp D n0 (ALL0 Y n0) H) : va_at D vwCl (adS n0 kd 83, kC Y (adS n0 kd) 83 (G0 83)) H := h.2 27 _ rfl
theorem w0_84 (h : Hp D n0 (ALL0 Y n0) H) : va_at D vwCl (adS n0 kd 84, kC Y (adS n0 kd) 84 (G0 84)) H := h.2 28 _ rfl
theorem w0_85 (h : Hp D n0 (ALL0 Y n0) H) : va_at D vwCl (adS n0 kd 85, kC Y (adS n0 kd) 85 (G0 85)) H := h.2 29 _ rfl
theorem w0_86 (h : Hp D n0 (ALL0 Y n0) H) : va_at D vwCl (adS n0 kd 86, kC Y (adS n0 kd) 86 (G0 86)) H := h.2 30 _ rfl
theorem w0_87 (h : Hp D n0 (ALL0 Y n0) H) : va_at D vwCl (adS n0 kd 87, kC Y (adS n0 kd) 87 (G0 87)) H := h.2 31 _ rfl
theorem w0_88 (h : Hp D n0 (ALL0 Y n0) H) : va_at D vwCl (adS n0 kd 88, kC Y (adS n0 kd) 88 (G0 88)) H := h.2 32 _ rfl
theorem w0_89 (h : Hp D n0 (ALL0 Y n0) H) : va_at D vwCl (adS n0 kd 89, kC Y (adS n0 kd) 89 (G0 89)) H := by
  have h1 : va_at D vwCl (n0 + 33, hA Y (n0 + 33) 8) H := h.2 33 _ rfl
  refine at_q (f := fun j => if j < 8 then some (n0 + 33 + (1 + 7 * j)) else none) h1 (fun j hj => ?_)
  rw [if_pos hj]
  show some (n0 + 33 + (1 + 7 * j)) = some (adS n0 kd (7 * (3 + j)))
  unfold adS pos
  rw [if_pos (by omega), if_neg (by omega), if_pos (by omega)]
  congr 1
  omega
theorem w1_0 (h : Hp D n0 (ALL0 Y n0) H) : va_at D vwCl (amS n0 0, kM Y (amS n0) 0 (K0 0)) H := h.2 90 _ rfl
theorem w1_1 (h : Hp D n0 (ALL0 Y n0) H) : va_at D vwCl (amS n0 1, kM Y (amS n0) 1 (K0 1)) H := h.2 91 _ rfl
theorem w1_2 (h : Hp D n0 (ALL0 Y n0) H) : va_at D vwCl (amS n0 2, kM Y (amS n0) 2 (K0 2)) H := h.2 92 _ rfl
theorem w1_3 (h : Hp D n0 (ALL0 Y n0) H) : va_at D vwCl (amS n0 3, kM Y (amS n0) 3 (K0 3)) H := h.2 93 _ rfl
theorem w1_4 (h : Hp D n0 (ALL0 Y n0) H) : va_at D vwCl (amS n0 4, kM Y (amS n0) 4 (K0 4)) H := h.2 94 _ rfl
theorem w1_5 (h : Hp D n0 (ALL0 Y n0) H) : va_at D vwCl (amS n0 5, kM Y (amS n0) 5 (K0 5)) H := h.2 95 _ rfl
theorem w1_6 (h : Hp D n0 (ALL0 Y n0) H) : va_at D vwCl (amS n0 6, kM Y (amS n0) 6 (K0 6)) H := h.2 96 _ rfl
theorem w1_7 (h : Hp D n0 (ALL0 Y n0) H) : va_at D vwCl (amS n0 7, kM Y (amS n0) 7 (K0 7)) H := h.2 97 _ rfl
theorem w0C (h : Hp D n0 (ALL0 Y n0) H) : va_P D vwCl (wsC Y (adS n0 kd) G0) H := fun k q hk => by
  by_cases hn : k < 90
  · rw [wsW_get k hn] at hk
    cases hk
    match k, hn with
    | 0, _ => exact w0_0 h
    | 1, _ => exact w0_1 h
    | 2, _ => exact w0_2 h
    | 3, _ => exact w0_3 h
    | 4, _ => exact w0_4 h
    | 5, _ => exact w0_5 h
    | 6, _ => exact w0_6 h
    | 7, _ => exact w0_7 h
    | 8, _ => exact w0_8 h
    | 9, _ => exact w0_9 h
    | 10, _ => exact w0_10 h
    | 11, _ => exact w0_11 h
    | 12, _ => exact w0_12 h
    | 13, _ => exact w0_13 h
    | 14, _ => exact w0_14 h
    | 15, _ => exact w0_15 h
    | 16, _ => exact w0_16 h
    | 17, _ => exact w0_17 h
    | 18, _ => exact w0_18 h
    | 19, _ => exact w0_19 h
    | 20, _ => exact w0_20 h
    | 21, _ => exact w0_21 h
    | 22, _ => exact w0_22 h
    | 23, _ => exact w0_23 h
    | 24, _ => exact w0_24 h
    | 25, _ => exact w0_25 h
    | 26, _ => exact w0_26 h
    | 27, _ => exact w0_27 h
    | 28, _ => exact w0_28 h
    | 29, _ => exact w0_29 h
    | 30, _ => exact w0_30 h
    | 31, _ => exact w0_31 h
    | 32, _ => exact w0_32 h
    | 33, _ => exact w0_33 h
    | 34, _ => exact w0_34 h
    | 35, _ => exact w0_35 h
    | 36, _ => exact w0_36 h
    | 37, _ => exact w0_37 h
    | 38, _ => exact w0_38 h
    | 39, _ => exact w0_39 h
    | 40, _ => exact w0_40 h
    | 41, _ => exact w0_41 h
    | 42, _ => exact w0_42 h
    | 43, _ => exact w0_43 h
    | 44, _ => exact w0_44 h
    | 45, _ => exact w0_45 h
    | 46, _ => exact w0_46 h
    | 47, _ => exact w0_47 h
    | 48, _ => exact w0_48 h
    | 49, _ => exact w0_49 h
    | 50, _ => exact w0_50 h
    | 51, _ => exact w0_51 h
    | 52, _ => exact w0_52 h
    | 53, _ => exact w0_53 h
    | 54, _ => exact w0_54 h
    | 55, _ => exact w0_55 h
    | 56, _ => exact w0_56 h
    | 57, _ => exact w0_57 h
    | 58, _ => exact w0_58 h
    | 59, _ => exact w0_59 h
    | 60, _ => exact w0_60 h
    | 61, _ => exact w0_61 h
    | 62, _ => exact w0_62 h
    | 63, _ => exact w0_63 h
    | 64, _ => exact w0_64 h
    | 65, _ => exact w0_65 h
    | 66, _ => exact w0_66 h
    | 67, _ => exact w0_67 h
    | 68, _ => exact w0_68 h
    | 69, _ => exact w0_69 h
    | 70, _ => exact w0_70 h
    | 71, _ => exact w0_71 h
    | 72, _ => exact w0_72 h
    | 73, _ => exact w0_73 h
    | 74, _ => exact w0_74 h
    | 75, _ => exact w0_75 h
    | 76, _ => exact w0_76 h
    | 77, _ => exact w0_77 h
    | 78, _ => exact w0_78 h
    | 79, _ => exact w0_79 h
    | 80, _ => exact w0_80 h
    | 81, _ => exact w0_81 h
    | 82, _ => exact w0_82 h
    | 83, _ => exact w0_83 h
    | 84, _ => exact w0_84 h
    | 85, _ => exact w0_85 h
    | 86, _ => exact w0_86 h
    | 87, _ => exact w0_87 h
    | 88, _ => exact w0_88 h
    | 89, _ => exact w0_89 h
    | k + 90, hk => exact absurd hk (by omega)
  · simp [wsW, hn] at hk
theorem w0M (h : Hp D n0 (ALL0 Y n0) H) : va_P D vwCl (wsM Y (amS n0) K0) H := fun k q hk => by
  by_cases hn : k < 8
  · rw [wsW_get k hn] at hk
    cases hk
    match k, hn with
    | 0, _ => exact w1_0 h
    | 1, _ => exact w1_1 h
    | 2, _ => exact w1_2 h
    | 3, _ => exact w1_3 h
    | 4, _ => exact w1_4 h
    | 5, _ => exact w1_5 h
    | 6, _ => exact w1_6 h
    | 7, _ => exact w1_7 h
    | k + 8, hk => exact absurd hk (by omega)
  · simp [wsW, hn] at hk
theorem pos_lt : ∀ i, i < 90 → pos i < 90 := by decide +kernel
theorem pos_inj : ∀ i, i < 90 → ∀ j, j < 90 → pos i = pos j → i = j := by decide +kernel
theorem adS_lo {i : Nat} (h : i < 90) : adS n0 kd i = n0 + pos i := by unfold adS; rw [if_pos h]
theorem Dj0 : Dj (adS n0 kd) (amS n0) (n0 + 98) (n0 + 99) n0 := by
  have hA : ∀ x, 90 ≤ x → ¬ AW 90 (adS n0 kd) (n0 + x) := fun x hx ⟨i, hi, h⟩ => by
    rw [adS_lo hi] at h
    have := pos_lt i hi
    omega
  have hM : ∀ x, 98 ≤ x → ¬ AW 8 (amS n0) (n0 + x) := fun x hx ⟨i, hi, h⟩ => by
    unfold amS at h
    omega
  refine ⟨fun i j hi hj h => ?_, fun i j hi hj h => ?_, fun i hi => ?_, fun i hi => ?_, by omega, by omega, fun i j hi hj h => ?_, hA 98 (by omega), hA 99 (by omega), hM 98 (by omega), hM 99 (by omega), by omega⟩
  · rw [adS_lo hi, adS_lo hj] at h
    exact pos_inj i hi j hj (by omega)
  · unfold amS at h
    omega
  · rw [adS_lo hi]; omega
  · unfold amS; omega
  · rw [adS_lo hi] at h
    unfold amS at h
    have := pos_lt i hi
    omega
theorem W0 (h : Hp D n0 (ALL0 Y n0) H) : LWd D Y (adS n0 kd) (amS n0) (n0 + 98) (n0 + 99) G0 K0 H := ⟨w0C h, w0M h, ⟨_, h.2 98 _ rfl⟩, _, h.2 99 _ rfl⟩
end ST0
set_option maxRecDepth 100000 in
set_option maxHeartbeats 4000000 in
theorem law_run {p : Program} {l : Launch} {ev : Env} {R : Room} {s : State} {m : MethodId} {args : Array Value} {below : List Frame} {meth : Method} {c : Code} {Q : State → Prop} {D : va_G} {Y : Nat → ClassId} {n0 b L : Nat} {xs : Nat → Int32} {kd : Nat → Nat} {Rel : GT → GT → Prop} {ls : Array Slot} (hst : l.stackTraces = false) (F : Fx p c cL_law 9 s m args RL D Y) (hO : AOs s) (hz : s.heap.size = n0) (hK : Ks kd (LA n0) s s.heap) (hNc : Ncs s) (hX : va_X b L xs s s.heap) (hb0 : b < n0) (hL : L ≤ 2048) (hR : R.frames = 2048 ∧ R.locals = 94400 ∧ 9000 ≤ R.cells ∧ 60000 ≤ R.slots) (hst1 : StA Rel) (hr0 : Rel G0 K0) (hl : lv_has ls 9 [(0, .ref b)])
    (hend : ∀ (H1 : Heap) (L1 : List Loc) (ls1 : Array Slot) (cells slots : Nat), cells ≤ 9000 → slots ≤ 60000 → va_S (LA n0) s.heap H1 L1 → W p l ev R s m args below meth c H1 L1 cells slots Q (F0 m 2251 ls1 [.int 1])) : W p l ev R s m args below meth c s.heap [] 0 0 Q (F0 m 0 ls []) := by
  have hx := F.1.1
  have hb := F.1.2.1
  have hN : Hp D n0 [] s.heap := ⟨hz, fun j x hx => by cases hx⟩
  have hS : va_S (AC n0 n0) s.heap s.heap [] := va_S.rf
  obtain ⟨r1, r2, r3, r4⟩ := hR
  refine c_new (TT := fun _ => True) (ci := 10) (k := 0) F i_X9 tyX9 tyX9_ok mw_29 mw_30 mw_1 rfl df_X9 (fun _ _ => trivial) hN rfl hS (by omega) (by omega) dL_law_0 ?_
  intro H1 _ hN hS
  refine lv_dup hx hb dL_law_3 rfl ?_
  refine c_call (TT := fun _ => True) (j := 0) (rest := [.ref (n0 + 0)]) F hO ki_X9 mw_31 (fun _ _ => trivial) hN rfl hS hz (q_X9_init l D Y (n0 + 0) (n0 + 1)) rfl hl.1 ⟨by rw [r1]; exact Nat.le_of_ble_eq_true rfl, by rw [r2]; exact Nat.le_of_ble_eq_true rfl⟩ rfl (Nat.le_of_ble_eq_true rfl) ⟨by omega, by omega⟩ dL_law_4 ?_
  intro H1 L1 _ hN hS
  refine lv_astore_n (lv' := [(1, .ref (n0 + 0)), (0, .ref b)]) hx hb dL_law_7 rfl hl (by decide) rfl (fun ls hl => ?_)
  refine c_new (TT := fun _ => True) (ci := 11) (k := 90) F i_X10 tyX10 tyX10_ok mw_1292 mw_1293 mw_10 rfl df_X10 (fun _ _ => trivial) hN rfl hS (by omega) (by omega) dL_law_8 ?_
  intro H1 _ hN hS
  refine lv_dup hx hb dL_law_11 rfl ?_
  refine c_call (TT := fun _ => True) (j := 90) (rest := [.ref (n0 + 90)]) F hO ki_X10 mw_1294 (fun _ _ => trivial) hN rfl hS hz (q_X10_init l D Y (n0 + 90) (n0 + 91)) rfl hl.1 ⟨by rw [r1]; exact Nat.le_of_ble_eq_true rfl, by rw [r2]; exact Nat.le_of_ble_eq_true rfl⟩ rfl (Nat.le_of_ble_eq_true rfl) ⟨by omega, by omega⟩ dL_law_12 ?_
  intro H1 L1 _ hN hS
  refine lv_astore_n (lv' := [(2, .ref (n0 + 90)), (1, .ref (n0 + 0)), (0, .ref b)]) hx hb dL_law_15 rfl hl (by decide) rfl (fun ls hl => ?_)
  refine lv_iconst (v := 1) hx hb dL_law_16 (by decide) ?_
  refine c_newL (TT := fun _ => True) (k := 98) (N := 1) F (fun _ _ => trivial) hN rfl hS (by decide) (by decide) (by decide) (by omega) (by omega) dL_law_17 ?_
  intro H1 _ hN hS
  refine lv_astore_n (lv' := [(3, .ref (n0 + 98)), (2, .ref (n0 + 90)), (1, .ref (n0 + 0)), (0, .ref b)]) hx hb dL_law_19 rfl hl (by decide) rfl (fun ls hl => ?_)
  refine lv_iconst (v := 1) hx hb dL_law_20 (by decide) ?_
  refine c_newD (TT := fun _ => True) (k := 99) (N := 1) F (fun _ _ => trivial) hN rfl hS (by decide) (by decide) (by decide) (by omega) (by omega) dL_law_21 ?_
  intro H1 _ hN hS
  refine lv_astore (lv' := [(4, .ref (n0 + 99)), (3, .ref (n0 + 98)), (2, .ref (n0 + 90)), (1, .ref (n0 + 0)), (0, .ref b)]) hx hb dL_law_23 hl (by decide) rfl (fun ls hl => ?_)
  refine lv_iconst (v := 0) hx hb dL_law_25 (by decide) ?_
  refine lv_istore (lv' := [(5, .int 0), (4, .ref (n0 + 99)), (3, .ref (n0 + 98)), (2, .ref (n0 + 90)), (1, .ref (n0 + 0)), (0, .ref b)]) hx hb dL_law_26 hl (by decide) rfl (fun ls hl => ?_)
  have hW := W0 (kd := kd) hN
  have hS2 : va_S (LA n0) s.heap H1 L1 := ⟨hS.1, fun q h1 h2 => hS.2.1 q h1 (fun h => h2 (by rcases h with h | h; exact Nat.le_of_eq h.symm; exact h)), fun z hz => by
    rcases hS.2.2 z hz with h | h
    · exact Nat.le_of_eq h.symm
    · exact h⟩
  have hK2 : Ks (adS n0 kd) (LA n0) s s.heap := by
    obtain ⟨k1, k2, k3, k4, k5, k6⟩ := hK
    have e : ∀ i, 100 ≤ i → adS n0 kd i = kd i := fun i hi => by unfold adS; rw [if_neg (by omega)]
    refine ⟨fun k hk => ?_, fun i j hi hj h => ?_, fun i hi => ?_, ?_, k5, fun i hi => ?_⟩
    · rw [e _ (by omega), e _ (by omega), e _ (by omega)]; exact k1 k hk
    · rw [e _ (by omega), e _ (by omega)] at h; exact k2 i j hi hj h
    · rw [e _ (by omega), e _ (by omega)]; exact k3 i hi
    · refine ⟨?_, ?_⟩
      · rw [e _ (by omega)]; exact k4.1
      · have := k4.2
        rw [e _ (by omega)]
        rw [show (fun j => Value.ref (adS n0 kd (100 + j))) = fun j => Value.ref (kd (100 + j)) from funext fun j => by rw [e _ (by omega)]]
        exact this
    · rw [e _ (by omega)]; exact k6 i hi
  have E : LEn s (adS n0 kd) (amS n0) (n0 + 98) (n0 + 99) n0 b L xs := ⟨hz, Dj0, hK2, hNc, hX, hb0⟩
  refine W.widen (k := 100 + 16 * 0) (n := 2100 + 96 * 0) (by omega) (by omega) ?_
  exact law_loop hst F E hL ⟨r1, r2, by omega, by omega⟩ hst1 (fun H1 L1 ls1 cells slots h1 h2 h3 => hend H1 L1 ls1 cells slots (by omega) (by omega) h3) 512 0 rfl H1 L1 ls G0 K0 hr0 hW hS2 (lv_sub hl [5, 4, 3, 2, 1, 0] rfl)
