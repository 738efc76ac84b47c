/-! where the object's cells stand -/
def pos (i : Nat) : Nat := if i < 21 then i + 1 else if i < 77 then i + 13 else if i = 77 then 0 else i - 56
def adS (n0 : Nat) (kd : Nat → Nat) (i : Nat) : Nat := if i < 90 then n0 + pos i else kd i
def G0 : GT := fun i => if i < 77 ∧ i % 7 = 0 then (fun j => if j = 8 then 4 else 0) else if i = 84 then (fun j => if j = 6 then -1 else 0) else fun _ => 0
def ALL0 (Y : Nat → ClassId) (n0 : Nat) : List va_E := [] ++ e_X9 (n0 + 1) :: n_X9 Y (n0 + 1)
theorem arrV_ext {c : ClassId} {n : Nat} {f g : Nat → Value} (h : ∀ j, j < n → f j = g j) : arrV c n f = arrV c n g := by
  unfold arrV
  congr 2
  funext j
  exact h j.val j.isLt
theorem at_q {D : va_G} {a n : Nat} {c : ClassId} {f g : Nat → Option Nat} {H : Heap} (h : va_at D vwCl (a, .inl (c, n, .inr (.inr (.inr (.inr f))))) H) (e : ∀ j, j < n → f j = g j) : va_at D vwCl (a, .inl (c, n, .inr (.inr (.inr (.inr g))))) H := by
  have h : H[a]? = some (vp_cell _ _) := h
  show H[a]? = some (vp_cell _ _)
  rw [h, vp_cell_q, vp_cell_q]
  congr 1
  exact arrV_ext (fun j hj => by rw [e j hj])
section ST0
variable {D : va_G} {Y : Nat → ClassId} {n0 : Nat} {kd : Nat → Nat} {H : Heap}
theorem w0_0 (h : Hp D n0 (ALL0 Y n0) H) : va_at D vwCl (adS n0 kd 0, kC Y (adS n0 kd) 0 (G0 0)) H := h.2 1 _ rfl
theorem w0_1 (h : Hp D n0 (ALL0 Y n0) H) : va_at D vwCl (adS n0 kd 1, kC Y (adS n0 kd) 1 (G0 1)) H := h.2 2 _ rfl
theorem w0_2 (h : Hp D n0 (ALL0 Y n0) H) : va_at D vwCl (adS n0 kd 2, kC Y (adS n0 kd) 2 (G0 2)) H := h.2 3 _ rfl
theorem w0_3 (h : Hp D n0 (ALL0 Y n0) H) : va_at D vwCl (adS n0 kd 3, kC Y (adS n0 kd) 3 (G0 3)) H := h.2 4 _ rfl
theorem w0_4 (h : Hp D n0 (ALL0 Y n0) H) : va_at D vwCl (adS n0 kd 4, kC Y (adS n0 kd) 4 (G0 4)) H := h.2 5 _ rfl
theorem w0_5 (h : Hp D n0 (ALL0 Y n0) H) : va_at D vwCl (adS n0 kd 5, kC Y (adS n0 kd) 5 (G0 5)) H := h.2 6 _ rfl
theorem w0_6 (h : Hp D n0 (ALL0 Y n0) H) : va_at D vwCl (adS n0 kd 6, kC Y (adS n0 kd) 6 (G0 6)) H := h.2 7 _ rfl
theorem w0_7 (h : Hp D n0 (ALL0 Y n0) H) : va_at D vwCl (adS n0 kd 7, kC Y (adS n0 kd) 7 (G0 7)) H := h.2 8 _ rfl
theorem w0_8 (h : Hp D n0 (ALL0 Y n0) H) : va_at D vwCl (adS n0 kd 8, kC Y (adS n0 kd) 8 (G0 8)) H := h.2 9 _ rfl
theorem w0_9 (h : Hp D n0 (ALL0 Y n0) H) : va_at D vwCl (adS n0 kd 9, kC Y (adS n0 kd) 9 (G0 9)) H := h.2 10 _ rfl
theorem w0_10 (h : Hp D n0 (ALL0 Y n0) H) : va_at D vwCl (adS n0 kd 10, kC Y (adS n0 kd) 10 (G0 10)) H := h.2 11 _ rfl
theorem w0_11 (h : Hp D n0 (ALL0 Y n0) H) : va_at D vwCl (adS n0 kd 11, kC Y (adS n0 kd) 11 (G0 11)) H := h.2 12 _ rfl
theorem w0_12 (h : Hp D n0 (ALL0 Y n0) H) : va_at D vwCl (adS n0 kd 12, kC Y (adS n0 kd) 12 (G0 12)) H := h.2 13 _ rfl
theorem w0_13 (h : Hp D n0 (ALL0 Y n0) H) : va_at D vwCl (adS n0 kd 13, kC Y (adS n0 kd) 13 (G0 13)) H := h.2 14 _ rfl
theorem w0_14 (h : Hp D n0 (ALL0 Y n0) H) : va_at D vwCl (adS n0 kd 14, kC Y (adS n0 kd) 14 (G0 14)) H := h.2 15 _ rfl
theorem w0_15 (h : Hp D n0 (ALL0 Y n0) H) : va_at D vwCl (adS n0 kd 15, kC Y (adS n0 kd) 15 (G0 15)) H := h.2 16 _ rfl
theorem w0_16 (h : Hp D n0 (ALL0 Y n0) H) : va_at D vwCl (adS n0 kd 16, kC Y (adS n0 kd) 16 (G0 16)) H := h.2 17 _ rfl
theorem w0_17 (h : Hp D n0 (ALL0 Y n0) H) : va_at D vwCl (adS n0 kd 17, kC Y (adS n0 kd) 17 (G0 17)) H := h.2 18 _ rfl
theorem w0_18 (h : Hp D n0 (ALL0 Y n0) H) : va_at D vwCl (adS n0 kd 18, kC Y (adS n0 kd) 18 (G0 18)) H := h.2 19 _ rfl
theorem w0_19 (h : Hp D n0 (ALL0 Y n0) H) : va_at D vwCl (adS n0 kd 19, kC Y (adS n0 kd) 19 (G0 19)) H := h.2 20 _ rfl
theorem w0_20 (h : Hp D n0 (ALL0 Y n0) H) : va_at D vwCl (adS n0 kd 20, kC Y (adS n0 kd) 20 (G0 20)) H := h.2 21 _ rfl
theorem w0_21 (h : Hp D n0 (ALL0 Y n0) H) : va_at D vwCl (adS n0 kd 21, kC Y (adS n0 kd) 21 (G0 21)) H := h.2 34 _ rfl
theorem w0_22 (h : Hp D n0 (ALL0 Y n0) H) : va_at D vwCl (adS n0 kd 22, kC Y (adS n0 kd) 22 (G0 22)) H := h.2 35 _ rfl
theorem w0_23 (h : Hp D n0 (ALL0 Y n0) H) : va_at D vwCl (adS n0 kd 23, kC Y (adS n0 kd) 23 (G0 23)) H := h.2 36 _ rfl
theorem w0_24 (h : Hp D n0 (ALL0 Y n0) H) : va_at D vwCl (adS n0 kd 24, kC Y (adS n0 kd) 24 (G0 24)) H := h.2 37 _ rfl
theorem w0_25 (h : Hp D n0 (ALL0 Y n0) H) : va_at D vwCl (adS n0 kd 25, kC Y (adS n0 kd) 25 (G0 25)) H := h.2 38 _ rfl
theorem w0_26 (h : Hp D n0 (ALL0 Y n0) H) : va_at D vwCl (adS n0 kd 26, kC Y (adS n0 kd) 26 (G0 26)) H := h.2 39 _ rfl
theorem w0_27 (h : Hp D n0 (ALL0 Y n0) H) : va_at D vwCl (adS n0 kd 27, kC Y (adS n0 kd) 27 (G0 27)) H := h.2 40 _ rfl
theorem w0_28 (h : Hp D n0 (ALL0 Y n0) H) : va_at D vwCl (adS n0 kd 28, kC Y (adS n0 kd) 28 (G0 28)) H := h.2 41 _ rfl
theorem w0_29 (h : Hp D n0 (ALL0 Y n0) H) : va_at D vwCl (adS n0 kd 29, kC Y (adS n0 kd) 29 (G0 29)) H := h.2 42 _ rfl
theorem w0_30 (h : Hp D n0 (ALL0 Y n0) H) : va_at D vwCl (adS n0 kd 30, kC Y (adS n0 kd) 30 (G0 30)) H := h.2 43 _ rfl
theorem w0_31 (h : Hp D n0 (ALL0 Y n0) H) : va_at D vwCl (adS n0 kd 31, kC Y (adS n0 kd) 31 (G0 31)) H := h.2 44 _ rfl
theorem w0_32 (h : Hp D n0 (ALL0 Y n0) H) : va_at D vwCl (adS n0 kd 32, kC Y (adS n0 kd) 32 (G0 32)) H := h.2 45 _ rfl
theorem w0_33 (h : Hp D n0 (ALL0 Y n0) H) : va_at D vwCl (adS n0 kd 33, kC Y (adS n0 kd) 33 (G0 33)) H := h.2 46 _ rfl
theorem w0_34 (h : Hp D n0 (ALL0 Y n0) H) : va_at D vwCl (adS n0 kd 34, kC Y (adS n0 kd) 34 (G0 34)) H := h.2 47 _ rfl
theorem w0_35 (h : Hp D n0 (ALL0 Y n0) H) : va_at D vwCl (adS n0 kd 35, kC Y (adS n0 kd) 35 (G0 35)) H := h.2 48 _ rfl
theorem w0_36 (h : Hp D n0 (ALL0 Y n0) H) : va_at D vwCl (adS n0 kd 36, kC Y (adS n0 kd) 36 (G0 36)) H := h.2 49 _ rfl
theorem w0_37 (h : Hp D n0 (ALL0 Y n0) H) : va_at D vwCl (adS n0 kd 37, kC Y (adS n0 kd) 37 (G0 37)) H := h.2 50 _ rfl
theorem w0_38 (h : Hp D n0 (ALL0 Y n0) H) : va_at D vwCl (adS n0 kd 38, kC Y (adS n0 kd) 38 (G0 38)) H := h.2 51 _ rfl
theorem w0_39 (h : Hp D n0 (ALL0 Y n0) H) : va_at D vwCl (adS n0 kd 39, kC Y (adS n0 kd) 39 (G0 39)) H := h.2 52 _ rfl
theorem w0_40 (h : Hp D n0 (ALL0 Y n0) H) : va_at D vwCl (adS n0 kd 40, kC Y (adS n0 kd) 40 (G0 40)) H := h.2 53 _ rfl
theorem w0_41 (h : Hp D n0 (ALL0 Y n0) H) : va_at D vwCl (adS n0 kd 41, kC Y (adS n0 kd) 41 (G0 41)) H := h.2 54 _ rfl
theorem w0_42 (h : Hp D n0 (ALL0 Y n0) H) : va_at D vwCl (adS n0 kd 42, kC Y (adS n0 kd) 42 (G0 42)) H := h.2 55 _ rfl
theorem w0_43 (h : Hp D n0 (ALL0 Y n0) H) : va_at D vwCl (adS n0 kd 43, kC Y (adS n0 kd) 43 (G0 43)) H := h.2 56 _ rfl
theorem w0_44 (h : Hp D n0 (ALL0 Y n0) H) : va_at D vwCl (adS n0 kd 44, kC Y (adS n0 kd) 44 (G0 44)) H := h.2 57 _ rfl
theorem w0_45 (h : Hp D n0 (ALL0 Y n0) H) : va_at D vwCl (adS n0 kd 45, kC Y (adS n0 kd) 45 (G0 45)) H := h.2 58 _ rfl
theorem w0_46 (h : Hp D n0 (ALL0 Y n0) H) : va_at D vwCl (adS n0 kd 46, kC Y (adS n0 kd) 46 (G0 46)) H := h.2 59 _ rfl
theorem w0_47 (h : Hp D n0 (ALL0 Y n0) H) : va_at D vwCl (adS n0 kd 47, kC Y (adS n0 kd) 47 (G0 47)) H := h.2 60 _ rfl
theorem w0_48 (h : Hp D n0 (ALL0 Y n0) H) : va_at D vwCl (adS n0 kd 48, kC Y (adS n0 kd) 48 (G0 48)) H := h.2 61 _ rfl
theorem w0_49 (h : Hp D n0 (ALL0 Y n0) H) : va_at D vwCl (adS n0 kd 49, kC Y (adS n0 kd) 49 (G0 49)) H := h.2 62 _ rfl
theorem w0_50 (h : Hp D n0 (ALL0 Y n0) H) : va_at D vwCl (adS n0 kd 50, kC Y (adS n0 kd) 50 (G0 50)) H := h.2 63 _ rfl
theorem w0_51 (h : Hp D n0 (ALL0 Y n0) H) : va_at D vwCl (adS n0 kd 51, kC Y (adS n0 kd) 51 (G0 51)) H := h.2 64 _ rfl
theorem w0_52 (h : Hp D n0 (ALL0 Y n0) H) : va_at D vwCl (adS n0 kd 52, kC Y (adS n0 kd) 52 (G0 52)) H := h.2 65 _ rfl
theorem w0_53 (h : Hp D n0 (ALL0 Y n0) H) : va_at D vwCl (adS n0 kd 53, kC Y (adS n0 kd) 53 (G0 53)) H := h.2 66 _ rfl
theorem w0_54 (h : Hp D n0 (ALL0 Y n0) H) : va_at D vwCl (adS n0 kd 54, kC Y (adS n0 kd) 54 (G0 54)) H := h.2 67 _ rfl
theorem w0_55 (h : Hp D n0 (ALL0 Y n0) H) : va_at D vwCl (adS n0 kd 55, kC Y (adS n0 kd) 55 (G0 55)) H := h.2 68 _ rfl
theorem w0_56 (h : Hp D n0 (ALL0 Y n0) H) : va_at D vwCl (adS n0 kd 56, kC Y (adS n0 kd) 56 (G0 56)) H := h.2 69 _ rfl
theorem w0_57 (h : Hp D n0 (ALL0 Y n0) H) : va_at D vwCl (adS n0 kd 57, kC Y (adS n0 kd) 57 (G0 57)) H := h.2 70 _ rfl
theorem w0_58 (h : Hp D n0 (ALL0 Y n0) H) : va_at D vwCl (adS n0 kd 58, kC Y (adS n0 kd) 58 (G0 58)) H := h.2 71 _ rfl
theorem w0_59 (h : Hp D n0 (ALL0 Y n0) H) : va_at D vwCl (adS n0 kd 59, kC Y (adS n0 kd) 59 (G0 59)) H := h.2 72 _ rfl
theorem w0_60 (h : Hp D n0 (ALL0 Y n0) H) : va_at D vwCl (adS n0 kd 60, kC Y (adS n0 kd) 60 (G0 60)) H := h.2 73 _ rfl
theorem w0_61 (h : Hp D n0 (ALL0 Y n0) H) : va_at D vwCl (adS n0 kd 61, kC Y (adS n0 kd) 61 (G0 61)) H := h.2 74 _ rfl
theorem w0_62 (h : Hp D n0 (ALL0 Y n0) H) : va_at D vwCl (adS n0 kd 62, kC Y (adS n0 kd) 62 (G0 62)) H := h.2 75 _ rfl
theorem w0_63 (h : Hp D n0 (ALL0 Y n0) H) : va_at D vwCl (adS n0 kd 63, kC Y (adS n0 kd) 63 (G0 63)) H := h.2 76 _ rfl
theorem w0_64 (h : Hp D n0 (ALL0 Y n0) H) : va_at D vwCl (adS n0 kd 64, kC Y (adS n0 kd) 64 (G0 64)) H := h.2 77 _ rfl
theorem w0_65 (h : Hp D n0 (ALL0 Y n0) H) : va_at D vwCl (adS n0 kd 65, kC Y (adS n0 kd) 65 (G0 65)) H := h.2 78 _ rfl
theorem w0_66 (h : Hp D n0 (ALL0 Y n0) H) : va_at D vwCl (adS n0 kd 66, kC Y (adS n0 kd) 66 (G0 66)) H := h.2 79 _ rfl
theorem w0_67 (h : Hp D n0 (ALL0 Y n0) H) : va_at D vwCl (adS n0 kd 67, kC Y (adS n0 kd) 67 (G0 67)) H := h.2 80 _ rfl
theorem w0_68 (h : Hp D n0 (ALL0 Y n0) H) : va_at D vwCl (adS n0 kd 68, kC Y (adS n0 kd) 68 (G0 68)) H := h.2 81 _ rfl
theorem w0_69 (h : Hp D n0 (ALL0 Y n0) H) : va_at D vwCl (adS n0 kd 69, kC Y (adS n0 kd) 69 (G0 69)) H := h.2 82 _ rfl
theorem w0_70 (h : Hp D n0 (ALL0 Y n0) H) : va_at D vwCl (adS n0 kd 70, kC Y (adS n0 kd) 70 (G0 70)) H := h.2 83 _ rfl
theorem w0_71 (h : Hp D n0 (ALL0 Y n0) H) : va_at D vwCl (adS n0 kd 71, kC Y (adS n0 kd) 71 (G0 71)) H := h.2 84 _ rfl
theorem w0_72 (h : Hp D n0 (ALL0 Y n0) H) : va_at D vwCl (adS n0 kd 72, kC Y (adS n0 kd) 72 (G0 72)) H := h.2 85 _ rfl
theorem w0_73 (h : Hp D n0 (ALL0 Y n0) H) : va_at D vwCl (adS n0 kd 73, kC Y (adS n0 kd) 73 (G0 73)) H := h.2 86 _ rfl
theorem w0_74 (h : Hp D n0 (ALL0 Y n0) H) : va_at D vwCl (adS n0 kd 74, kC Y (adS n0 kd) 74 (G0 74)) H := h.2 87 _ rfl
theorem w0_75 (h : Hp D n0 (ALL0 Y n0) H) : va_at D vwCl (adS n0 kd 75, kC Y (adS n0 kd) 75 (G0 75)) H := h.2 88 _ rfl
theorem w0_76 (h : Hp D n0 (ALL0 Y n0) H) : va_at D vwCl (adS n0 kd 76, kC Y (adS n0 kd) 76 (G0 76)) H := h.2 89 _ rfl
theorem w0_77 (h : Hp D n0 (ALL0 Y n0) H) : va_at D vwCl (adS n0 kd 77, kC Y (adS n0 kd) 77 (G0 77)) H := h.2 0 _ rfl
theorem w0_78 (h : Hp D n0 (ALL0 Y n0) H) : va_at D vwCl (adS n0 kd 78, kC Y (adS n0 kd) 78 (G0 78)) H := h.2 22 _ rfl
theorem w0_79 (h : Hp D n0 (ALL0 Y n0) H) : va_at D vwCl (adS n0 kd 79, kC Y (adS n0 kd) 79 (G0 79)) H := h.2 23 _ rfl
theorem w0_80 (h : Hp D n0 (ALL0 Y n0) H) : va_at D vwCl (adS n0 kd 80, kC Y (adS n0 kd) 80 (G0 80)) H := h.2 24 _ rfl
theorem w0_81 (h : Hp D n0 (ALL0 Y n0) H) : va_at D vwCl (adS n0 kd 81, kC Y (adS n0 kd) 81 (G0 81)) H := h.2 25 _ rfl
theorem w0_82 (h : Hp D n0 (ALL0 Y n0) H) : va_at D vwCl (adS n0 kd 82, kC Y (adS n0 kd) 82 (G0 82)) H := h.2 26 _ rfl
theorem w0_83 (h : Hp D n0 (ALL0 Y n0) H) : va_at D vwCl (adS n0 kd 83, kC Y (adS n0 kd) 83 (G0 83)) H := h.2 27 _ rfl
theorem w0_84 (h : Hp D n0 (ALL0 Y n0) H) : va_at D vwCl (adS n0 kd 84, kC Y (adS n0 kd) 84 (G0 84)) H := h.2 28 _ rfl
theorem w0_85 (h : Hp D n0 (ALL0 Y n0) H) : va_at D vwCl (adS n0 kd 85, kC Y (adS n0 kd) 85 (G0 85)) H := h.2 29 _ rfl
theorem w0_86 (h : Hp D n0 (ALL0 Y n0) H) : va_at D vwCl (adS n0 kd 86, kC Y (adS n0 kd) 86 (G0 86)) H := h.2 30 _ rfl
theorem w0_87 (h : Hp D n0 (ALL0 Y n0) H) : va_at D vwCl (adS n0 kd 87, kC Y (adS n0 kd) 87 (G0 87)) H := h.2 31 _ rfl
theorem w0_88 (h : Hp D n0 (ALL0 Y n0) H) : va_at D vwCl (adS n0 kd 88, kC Y (adS n0 kd) 88 (G0 88)) H := h.2 32 _ rfl
theorem w0_89 (h : Hp D n0 (ALL0 Y n0) H) : va_at D vwCl (adS n0 kd 89, kC Y (adS n0 kd) 89 (G0 89)) H := by
  have h1 : va_at D vwCl (n0 + 33, hA Y (n0 + 33) 8) H := h.2 33 _ rfl
  refine at_q (f := fun j => if j < 8 then some (n0 + 33 + (1 + 7 * j)) else none) h1 (fun j hj => ?_)
  rw [if_pos hj]
  show some (n0 + 33 + (1 + 7 * j)) = some (adS n0 kd (7 * (3 + j)))
  unfold adS pos
  rw [if_pos (by omega), if_neg (by omega), if_pos (by omega)]
  congr 1
  omega
theorem w0C (h : Hp D n0 (ALL0 Y n0) H) : va_P D vwCl (wsC Y (adS n0 kd) G0) H := fun k q hk => by
  by_cases hn : k < 90
  · rw [wsW_get k hn] at hk
    cases hk
    match k, hn with
    | 0, _ => exact w0_0 h
    | 1, _ => exact w0_1 h
    | 2, _ => exact w0_2 h
    | 3, _ => exact w0_3 h
    | 4, _ => exact w0_4 h
    | 5, _ => exact w0_5 h
    | 6, _ => exact w0_6 h
    | 7, _ => exact w0_7 h
    | 8, _ => exact w0_8 h
    | 9, _ => exact w0_9 h
    | 10, _ => exact w0_10 h
    | 11, _ => exact w0_11 h
    | 12, _ => exact w0_12 h
    | 13, _ => exact w0_13 h
    | 14, _ => exact w0_14 h
    | 15, _ => exact w0_15 h
    | 16, _ => exact w0_16 h
    | 17, _ => exact w0_17 h
    | 18, _ => exact w0_18 h
    | 19, _ => exact w0_19 h
    | 20, _ => exact w0_20 h
    | 21, _ => exact w0_21 h
    | 22, _ => exact w0_22 h
    | 23, _ => exact w0_23 h
    | 24, _ => exact w0_24 h
    | 25, _ => exact w0_25 h
    | 26, _ => exact w0_26 h
    | 27, _ => exact w0_27 h
    | 28, _ => exact w0_28 h
    | 29, _ => exact w0_29 h
    | 30, _ => exact w0_30 h
    | 31, _ => exact w0_31 h
    | 32, _ => exact w0_32 h
    | 33, _ => exact w0_33 h
    | 34, _ => exact w0_34 h
    | 35, _ => exact w0_35 h
    | 36, _ => exact w0_36 h
    | 37, _ => exact w0_37 h
    | 38, _ => exact w0_38 h
    | 39, _ => exact w0_39 h
    | 40, _ => exact w0_40 h
    | 41, _ => exact w0_41 h
    | 42, _ => exact w0_42 h
    | 43, _ => exact w0_43 h
    | 44, _ => exact w0_44 h
    | 45, _ => exact w0_45 h
    | 46, _ => exact w0_46 h
    | 47, _ => exact w0_47 h
    | 48, _ => exact w0_48 h
    | 49, _ => exact w0_49 h
    | 50, _ => exact w0_50 h
    | 51, _ => exact w0_51 h
    | 52, _ => exact w0_52 h
    | 53, _ => exact w0_53 h
    | 54, _ => exact w0_54 h
    | 55, _ => exact w0_55 h
    | 56, _ => exact w0_56 h
    | 57, _ => exact w0_57 h
    | 58, _ => exact w0_58 h
    | 59, _ => exact w0_59 h
    | 60, _ => exact w0_60 h
    | 61, _ => exact w0_61 h
    | 62, _ => exact w0_62 h
    | 63, _ => exact w0_63 h
    | 64, _ => exact w0_64 h
    | 65, _ => exact w0_65 h
    | 66, _ => exact w0_66 h
    | 67, _ => exact w0_67 h
    | 68, _ => exact w0_68 h
    | 69, _ => exact w0_69 h
    | 70, _ => exact w0_70 h
    | 71, _ => exact w0_71 h
    | 72, _ => exact w0_72 h
    | 73, _ => exact w0_73 h
    | 74, _ => exact w0_74 h
    | 75, _ => exact w0_75 h
    | 76, _ => exact w0_76 h
    | 77, _ => exact w0_77 h
    | 78, _ => exact w0_78 h
    | 79, _ => exact w0_79 h
    | 80, _ => exact w0_80 h
    | 81, _ => exact w0_81 h
    | 82, _ => exact w0_82 h
    | 83, _ => exact w0_83 h
    | 84, _ => exact w0_84 h
    | 85, _ => exact w0_85 h
    | 86, _ => exact w0_86 h
    | 87, _ => exact w0_87 h
    | 88, _ => exact w0_88 h
    | 89, _ => exact w0_89 h
    | k + 90, hk => exact absurd hk (by omega)
  · simp [wsW, hn] at hk
theorem pos_lt : ∀ i, i < 90 → pos i < 90 := by decide +kernel
theorem pos_inj : ∀ i, i < 90 → ∀ j, j < 90 → pos i = pos j → i = j := by decide +kernel
theorem adS_lo {i : Nat} (h : i < 90) : adS n0 kd i = n0 + pos i := by unfold adS; rw [if_pos h]
theorem adS_I : Inj 90 (adS n0 kd) := fun i j hi hj h => by
  rw [adS_lo hi, adS_lo hj] at h
  exact pos_inj i hi j hj (by omega)
theorem adS_A {q : Nat} (h : AW 90 (adS n0 kd) q) : n0 ≤ q := by
  obtain ⟨i, hi, h⟩ := h
  rw [adS_lo hi] at h
  omega
theorem adS_K {A : Nat → Prop} {s : State} {H : Heap} (hK : Ks kd A s H) : Ks (adS n0 kd) A s H := by
  obtain ⟨k1, k2, k3, k4, k5, k6⟩ := hK
  have e : ∀ i, 100 ≤ i → adS n0 kd i = kd i := fun i hi => by unfold adS; rw [if_neg (by omega)]
  refine ⟨fun k hk => ?_, fun i j hi hj h => ?_, fun i hi => ?_, ?_, k5, fun i hi => ?_⟩
  · rw [e _ (by omega), e _ (by omega), e _ (by omega)]; exact k1 k hk
  · rw [e _ (by omega), e _ (by omega)] at h; exact k2 i j hi hj h
  · rw [e _ (by omega), e _ (by omega)]; exact k3 i hi
  · refine ⟨?_, ?_⟩
    · rw [e _ (by omega)]; exact k4.1
    · have := k4.2
      rw [e _ (by omega)]
      rw [show (fun j => Value.ref (adS n0 kd (100 + j))) = fun j => Value.ref (kd (100 + j)) from funext fun j => by rw [e _ (by omega)]]
      exact this
  · rw [e _ (by omega)]; exact k6 i hi
end ST0
def LA (n0 : Nat) : Nat → Prop := fun q => n0 ≤ q
/-- what drawn finds -/
def BD (D : va_G) (Y : Nat → ClassId) (kd : Nat → Nat) (n0 b L : Nat) (xs : Nat → Int32) : State → Prop := fun U => Ev D Y U ∧ Le U ∧ Ks kd (LA n0) U U.heap ∧ va_X b L xs U U.heap ∧ b < n0 ∧ U.heap.size = n0 ∧ L ≤ 260
theorem BD.blind {D : va_G} {Y : Nat → ClassId} {kd : Nat → Nat} {n0 b L : Nat} {xs : Nat → Int32} {As : List Value} : FrameBlind (va_Pc As (BD D Y kd n0 b L xs)) := fun _ U g mk h => ⟨h.1, Ev.call h.2.1, Le.call h.2.2.1, Ks.call h.2.2.2.1, va_X.moved (Vm.Alike.refl _) h.2.2.2.2.1, h.2.2.2.2.2⟩
def PD (r : Int32) (D : va_G) (Y : Nat → ClassId) (ad : Nat → Nat) (G' : GT) : Value → State → State → Prop := fun v _ t => (r = 0 ∧ v = .null) ∨ (r = 1 ∧ v = .ref (ad 77) ∧ va_P D vwCl (wsC Y ad G') t.heap)
section DRW
variable {p : Program} {l : Launch} {ev : Env} {R : Room} {s : State} {m : MethodId} {args : Array Value} {below : List Frame} {meth : Method} {c : Code} {H : Heap} {locs : List Loc} {cells slots mc B B' : Nat} {Q : State → Prop}
variable {cc : ByteArray} {pc nL idx dd : Nat} {ls : Array Slot} {rest st0 : List Value} {own : String} {D : va_G} {Y : Nat → ClassId} {ad : Nat → Nat} {G G' : GT}
theorem dr_S (hS : va_S (AW 90 ad) s.heap H locs) (hn : ∀ q, AW 90 ad q → s.heap.size ≤ q) : va_S (fun _ => False) s.heap H [] := ⟨hS.1, fun q h1 _ => hS.2.1 q h1 (fun h => Nat.not_le_of_lt h1 (hn q h)), fun q h => by cases h⟩
theorem dr_end0 {r : Int32} {nm : String} (F : Fx p c cc nL s m args own D Y) (hS : va_S (AW 90 ad) s.heap H locs) (hn : ∀ q, AW 90 ad q → s.heap.size ≤ q) (hB : Bg mc cells slots B) (hr : meth.sig.returnType = some (.object nm)) (hk : meth.locks = false) (h : some ((0 : Int32), G) = some (r, G')) (hdg : decode cc pc = .ok (.areturn, 1)) : W p l ev (rmD dd mc (16 * mc)) s m args below meth c H locs cells slots (MQ below (LQ (PD r D Y ad G') (fun _ => False)) args s mc (16 * mc) (fun _ => False)) (F0 m pc ls [.null]) := by
  cases h
  refine W.widen (k := mc) (n := 16 * mc) (hB.hc (d := dd)).1 (hB.hc (d := dd)).2 (va_forget (fun z hz => hn _ (hS.2.2 z hz)) ?_)
  exact W.aret F.1.1 F.1.2.1 hr (Or.inl ⟨_, rfl⟩) (Or.inl rfl) (fun t ht _ => ⟨_, rfl, Or.inl ⟨rfl, rfl⟩, (dr_S hS hn).F ht⟩) (fun q hq => by cases hq) hdg hk
theorem dr_end1 {r : Int32} {nm : String} (F : Fx p c cc nL s m args own D Y) (hP : va_P D vwCl (wsC Y ad G) H) (hS : va_S (AW 90 ad) s.heap H locs) (hn : ∀ q, AW 90 ad q → s.heap.size ≤ q) (hB : Bg mc cells slots B) (hr : meth.sig.returnType = some (.object nm)) (hk : meth.locks = false) (h : some ((1 : Int32), G) = some (r, G')) (hdg : decode cc pc = .ok (.areturn, 1)) : W p l ev (rmD dd mc (16 * mc)) s m args below meth c H locs cells slots (MQ below (LQ (PD r D Y ad G') (fun _ => False)) args s mc (16 * mc) (fun _ => False)) (F0 m pc ls [.ref (ad 77)]) := by
  cases h
  refine W.widen (k := mc) (n := 16 * mc) (hB.hc (d := dd)).1 (hB.hc (d := dd)).2 (va_forget (fun z hz => hn _ (hS.2.2 z hz)) ?_)
  exact W.aret F.1.1 F.1.2.1 hr (Or.inl ⟨_, rfl⟩) (Or.inr ⟨_, rfl⟩) (fun t ht _ => ⟨_, rfl, Or.inr ⟨rfl, rfl, by rw [ht]; exact hP⟩, (dr_S hS hn).F ht⟩) (fun q hq => by cases hq) hdg hk
end DRW
def f_L_drawn_269 (L_X0 : Nat) (xs_X0 : Nat → Int32) (k139 : GT → Int32 → Option (Int32 × GT)) (x2 : Int32) (x4 : Int32) (G : GT) : Option (Int32 × GT) := k139 G (x4 + 1)
def f_L_drawn_225 (L_X0 : Nat) (xs_X0 : Nat → Int32) (k139 : GT → Int32 → Option (Int32 × GT)) (x2 : Int32) (x4 : Int32) (s225_0 : Int32) (G : GT) : Option (Int32 × GT) := (if s225_0 = (-3 : Int32) then (bind2 (fw_refusal G (0 : Int32)) fun r4 G4 => (if r4 < (3 : Int32) then some ((0 : Int32), G4) else (bind2 (fw_refusal G4 (0 : Int32)) fun r6 G6 => (if r6 ≤ (4 : Int32) then f_L_drawn_269 L_X0 xs_X0 k139 x2 x4 G6 else some ((0 : Int32), G6))))) else (bindR (f_X9_account G (3 : Int32)) fun r2 G2 => (if s225_0 = (r2 - (1 : Int32)) then f_L_drawn_269 L_X0 xs_X0 k139 x2 x4 G2 else some ((0 : Int32), G2))))
def f_L_drawn_222 (L_X0 : Nat) (xs_X0 : Nat → Int32) (k139 : GT → Int32 → Option (Int32 × GT)) (x2 : Int32) (x4 : Int32) (s222_0 : Int32) (s222_1 : Int32) (s222_2 : Int32) (G : GT) : Option (Int32 × GT) := (bind2 (fw_drop G s222_2 s222_1 s222_0) fun r8 G8 => f_L_drawn_225 L_X0 xs_X0 k139 x2 x4 r8 G8)
def f_L_drawn_139 (L_X0 : Nat) (xs_X0 : Nat → Int32) (x2 : Int32) (n : Nat) (G : GT) (y_x4 : Int32) : Option (Int32 × GT) := lq2 (fun (k139 : GT → Int32 → Option (Int32 × GT)) (G : GT) (x4 : Int32) => (if (12 : Int32) ≤ x4 then (bind2 (fw_limit G ((1 : Int32) + (((x2.toUInt32 >>> ((20 : Int32).toUInt32 &&& Int32.toUInt32 31)).toInt32) - ((x2.toUInt32 >>> ((20 : Int32).toUInt32 &&& Int32.toUInt32 31)).toInt32) / (11 : Int32) * (11 : Int32)))) fun r10 G10 => (if 0 ≤ r10 then some ((1 : Int32), G10) else (bind2 (fw_refusal G10 (0 : Int32)) fun r12 G12 => (if r12 = (2 : Int32) then some ((1 : Int32), G12) else some ((0 : Int32), G12))))) else (bind2 (f_L_cell G L_X0 xs_X0 ((5 : Int32) + x4)) fun r14 G14 => (if (((r14.toUInt32 >>> ((1 : Int32).toUInt32 &&& Int32.toUInt32 31)).toInt32) - ((r14.toUInt32 >>> ((1 : Int32).toUInt32 &&& Int32.toUInt32 31)).toInt32) / (4 : Int32) * (4 : Int32)) = 0 then (bind2 (fw_rest G14 (((((r14.toUInt32 >>> ((1 : Int32).toUInt32 &&& Int32.toUInt32 31)).toInt32).toUInt32 >>> ((2 : Int32).toUInt32 &&& Int32.toUInt32 31)).toInt32) - ((((r14.toUInt32 >>> ((1 : Int32).toUInt32 &&& Int32.toUInt32 31)).toInt32).toUInt32 >>> ((2 : Int32).toUInt32 &&& Int32.toUInt32 31)).toInt32) / (4 : Int32) * (4 : Int32))) fun r17 G17 => f_L_drawn_225 L_X0 xs_X0 k139 x2 x4 r17 G17) else (if (((r14.toUInt32 >>> ((1 : Int32).toUInt32 &&& Int32.toUInt32 31)).toInt32) - ((r14.toUInt32 >>> ((1 : Int32).toUInt32 &&& Int32.toUInt32 31)).toInt32) / (7 : Int32) * (7 : Int32)) = 0 then f_L_drawn_222 L_X0 xs_X0 k139 x2 x4 ((1 : Int32) + (((((r14.toUInt32 >>> ((1 : Int32).toUInt32 &&& Int32.toUInt32 31)).toInt32).toUInt32 >>> ((8 : Int32).toUInt32 &&& Int32.toUInt32 31)).toInt32) - ((((r14.toUInt32 >>> ((1 : Int32).toUInt32 &&& Int32.toUInt32 31)).toInt32).toUInt32 >>> ((8 : Int32).toUInt32 &&& Int32.toUInt32 31)).toInt32) / (8 : Int32) * (8 : Int32))) (((((r14.toUInt32 >>> ((1 : Int32).toUInt32 &&& Int32.toUInt32 31)).toInt32).toUInt32 >>> ((4 : Int32).toUInt32 &&& Int32.toUInt32 31)).toInt32) - ((((r14.toUInt32 >>> ((1 : Int32).toUInt32 &&& Int32.toUInt32 31)).toInt32).toUInt32 >>> ((4 : Int32).toUInt32 &&& Int32.toUInt32 31)).toInt32) / (10 : Int32) * (10 : Int32)) (((((r14.toUInt32 >>> ((1 : Int32).toUInt32 &&& Int32.toUInt32 31)).toInt32).toUInt32 >>> ((2 : Int32).toUInt32 &&& Int32.toUInt32 31)).toInt32) - ((((r14.toUInt32 >>> ((1 : Int32).toUInt32 &&& Int32.toUInt32 31)).toInt32).toUInt32 >>> ((2 : Int32).toUInt32 &&& Int32.toUInt32 31)).toInt32) / (4 : Int32) * (4 : Int32)) G14 else f_L_drawn_222 L_X0 xs_X0 k139 x2 x4 ((1 : Int32) + (((((r14.toUInt32 >>> ((1 : Int32).toUInt32 &&& Int32.toUInt32 31)).toInt32).toUInt32 >>> ((8 : Int32).toUInt32 &&& Int32.toUInt32 31)).toInt32) - ((((r14.toUInt32 >>> ((1 : Int32).toUInt32 &&& Int32.toUInt32 31)).toInt32).toUInt32 >>> ((8 : Int32).toUInt32 &&& Int32.toUInt32 31)).toInt32) / (3 : Int32) * (3 : Int32))) (((((r14.toUInt32 >>> ((1 : Int32).toUInt32 &&& Int32.toUInt32 31)).toInt32).toUInt32 >>> ((4 : Int32).toUInt32 &&& Int32.toUInt32 31)).toInt32) - ((((r14.toUInt32 >>> ((1 : Int32).toUInt32 &&& Int32.toUInt32 31)).toInt32).toUInt32 >>> ((4 : Int32).toUInt32 &&& Int32.toUInt32 31)).toInt32) / (10 : Int32) * (10 : Int32)) (((((r14.toUInt32 >>> ((1 : Int32).toUInt32 &&& Int32.toUInt32 31)).toInt32).toUInt32 >>> ((2 : Int32).toUInt32 &&& Int32.toUInt32 31)).toInt32) - ((((r14.toUInt32 >>> ((1 : Int32).toUInt32 &&& Int32.toUInt32 31)).toInt32).toUInt32 >>> ((2 : Int32).toUInt32 &&& Int32.toUInt32 31)).toInt32) / (4 : Int32) * (4 : Int32)) G14))))) n G y_x4
def f_L_drawn_130 (L_X0 : Nat) (xs_X0 : Nat → Int32) (k64 : GT → Int32 → Option (Int32 × GT)) (x2 : Int32) (x4 : Int32) (G : GT) : Option (Int32 × GT) := k64 G (x4 + 1)
def f_L_drawn_104 (L_X0 : Nat) (xs_X0 : Nat → Int32) (k64 : GT → Int32 → Option (Int32 × GT)) (x2 : Int32) (x4 : Int32) (x5 : Int32) (G : GT) : Option (Int32 × GT) := (if (((x5.toUInt32 >>> ((4 : Int32).toUInt32 &&& Int32.toUInt32 31)).toInt32) - ((x5.toUInt32 >>> ((4 : Int32).toUInt32 &&& Int32.toUInt32 31)).toInt32) / (4 : Int32) * (4 : Int32)) ≤ 0 then f_L_drawn_130 L_X0 xs_X0 k64 x2 x4 G else (bind2 (fw_leak G x4 (((x5.toUInt32 >>> ((4 : Int32).toUInt32 &&& Int32.toUInt32 31)).toInt32) - ((x5.toUInt32 >>> ((4 : Int32).toUInt32 &&& Int32.toUInt32 31)).toInt32) / (4 : Int32) * (4 : Int32))) fun r19 G19 => (if r19 = 0 then f_L_drawn_130 L_X0 xs_X0 k64 x2 x4 G19 else some ((0 : Int32), G19))))
def f_L_drawn_64 (L_X0 : Nat) (xs_X0 : Nat → Int32) (x2 : Int32) (n : Nat) (G : GT) (y_x4 : Int32) : Option (Int32 × GT) := lq2 (fun (k64 : GT → Int32 → Option (Int32 × GT)) (G : GT) (x4 : Int32) => (if (4 : Int32) ≤ x4 then f_L_drawn_139 L_X0 xs_X0 x2 13 G (0 : Int32) else (bind2 (f_L_cell G L_X0 xs_X0 ((1 : Int32) + x4)) fun r22 G22 => (if (((r22.toUInt32 >>> ((1 : Int32).toUInt32 &&& Int32.toUInt32 31)).toInt32) - ((r22.toUInt32 >>> ((1 : Int32).toUInt32 &&& Int32.toUInt32 31)).toInt32) / (12 : Int32) * (12 : Int32)) ≤ 0 then f_L_drawn_104 L_X0 xs_X0 k64 x2 x4 ((r22.toUInt32 >>> ((1 : Int32).toUInt32 &&& Int32.toUInt32 31)).toInt32) G22 else (bind2 (fw_key G22 x4 (((r22.toUInt32 >>> ((1 : Int32).toUInt32 &&& Int32.toUInt32 31)).toInt32) - ((r22.toUInt32 >>> ((1 : Int32).toUInt32 &&& Int32.toUInt32 31)).toInt32) / (12 : Int32) * (12 : Int32))) fun r24 G24 => (if r24 = 0 then f_L_drawn_104 L_X0 xs_X0 k64 x2 x4 ((r22.toUInt32 >>> ((1 : Int32).toUInt32 &&& Int32.toUInt32 31)).toInt32) G24 else some ((0 : Int32), G24))))))) n G y_x4
def f_L_drawn_25 (L_X0 : Nat) (xs_X0 : Nat → Int32) (x2 : Int32) (x3 : Int32) (n : Nat) (G : GT) (y_x4 : Int32) : Option (Int32 × GT) := lq2 (fun (k25 : GT → Int32 → Option (Int32 × GT)) (G : GT) (x4 : Int32) => (if x3 ≤ x4 then f_L_drawn_64 L_X0 xs_X0 x2 5 G (0 : Int32) else (bind2 (fw_bar G ((2 : Int32) + (((x2.toUInt32 >>> (((3 : Int32) + ((3 : Int32) * x4)).toUInt32 &&& Int32.toUInt32 31)).toInt32) - ((x2.toUInt32 >>> (((3 : Int32) + ((3 : Int32) * x4)).toUInt32 &&& Int32.toUInt32 31)).toInt32) / (7 : Int32) * (7 : Int32)))) fun r27 G27 => (if r27 = x4 then k25 G27 (x4 + 1) else some ((0 : Int32), G27))))) n G y_x4
def f_L_drawn (L_X0 : Nat) (xs_X0 : Nat → Int32) : Option (Int32 × GT) := (bind2 (f_L_cell G0 L_X0 xs_X0 (0 : Int32)) fun r29 G29 => f_L_drawn_25 L_X0 xs_X0 ((r29.toUInt32 >>> ((1 : Int32).toUInt32 &&& Int32.toUInt32 31)).toInt32) ((2 : Int32) + (((r29.toUInt32 >>> ((1 : Int32).toUInt32 &&& Int32.toUInt32 31)).toInt32) - ((r29.toUInt32 >>> ((1 : Int32).toUInt32 &&& Int32.toUInt32 31)).toInt32) / (5 : Int32) * (5 : Int32))) 7 G29 (0 : Int32))
set_option maxRecDepth 100000 in
set_option maxHeartbeats 8000000 in
theorem q_L_drawn (l : Launch) (hst : l.stackTraces = false) (D : va_G) (Y : Nat → ClassId) (kd : Nat → Nat) (n0 b_X0 L_X0 : Nat) (xs_X0 : Nat → Int32) (r : Int32) (G' : GT) (h : f_L_drawn L_X0 xs_X0 = some (r, G')) : Met l yL_drawn (wc yL_drawn cL_drawn 7 (some (.object "TinRoofScore"))) (rmD 12 210 (16 * 210)) (va_Pc [.ref b_X0] (BD D Y kd n0 b_X0 L_X0 xs_X0)) (LQ (PD r D Y (adS n0 kd) G') (fun _ => False)) 210 (16 * 210) (fun _ => False) := by
  refine Met.ofW (cc := cL_drawn) (maxL := 7) (ret := (some (.object "TinRoofScore"))) (by decide) rfl ?_
  intro p ev s m args below meth c s₁ B hml hv
  obtain ⟨rfl, hEv, hE, hKd, hXs, hb0, hz, hL⟩ := hv
  have hts0 := atoms_spec (ws := wc yL_drawn cL_drawn 7 (some (.object "TinRoofScore"))) B.pre
  have hl := lv_entry [.ref b_X0] (n := 7) (Nat.le_of_ble_eq_true rfl)
  rw [lg_entry_eq]
  generalize (lg_sl ([.ref b_X0]) ++ List.replicate (7 - (lg_sl ([.ref b_X0])).length) Slot.unset).toArray = ls at hl ⊢
  have hl : lv_has ls 7 [(0, .ref b_X0)] := hl
  have F : Fx p c cL_drawn 7 s m _ RL D Y := ⟨⟨B.exec, B.bytes, hml, findClass_of_methodNamed B.named, fun w hw => hts0 w (List.mem_cons_of_mem _ hw)⟩, hEv⟩
  have hx := F.1.1
  have hb := F.1.2.1
  have hts := F.1.2.2.2.2
  have hown := F.1.2.2.2.1
  have hr := B.returns
  have hk := B.notSynchronized
  have hN : Hp D n0 [] s.heap := ⟨hz, fun j x hx => by cases hx⟩
  have hS : va_S (AC n0 n0) s.heap s.heap [] := va_S.rf
  refine c_new (R := rmD 12 210 (16 * 210)) (TT := fun _ => True) (ci := 10) (k := 0) F i_X9 tyX9 tyX9_ok mw_37 mw_38 mw_1 rfl df_X9 (fun _ _ => trivial) hN rfl hS (by decide) (by decide) dL_drawn_0 ?_
  intro H1 _ hN hS
  refine lv_dup hx hb dL_drawn_3 rfl ?_
  refine c_call (R := rmD 12 210 (16 * 210)) (TT := fun _ => True) (j := 0) (rest := [.ref (n0 + 0)]) F hE.2.1 ki_X9 mw_39 (fun _ _ => trivial) hN rfl hS hz (q_X9_init l D Y (n0 + 0) (n0 + 1)) rfl hl.1 ⟨Nat.le_of_ble_eq_true rfl, Nat.le_of_ble_eq_true rfl⟩ rfl (Nat.le_of_ble_eq_true rfl) ⟨Nat.le_of_ble_eq_true rfl, Nat.le_of_ble_eq_true rfl⟩ dL_drawn_4 ?_
  intro H locs _ hN hS
  obtain ⟨ad, had⟩ : ∃ ad, ad = adS n0 kd := ⟨_, rfl⟩
  rw [← had]
  have hP : va_P D vwCl (wsC Y ad G0) H := by rw [had]; exact w0C hN
  have hI : Inj 90 ad := by rw [had]; exact adS_I
  have hn : ∀ q, AW 90 ad q → s.heap.size ≤ q := fun q h => by rw [had] at h; rw [hz]; exact adS_A h
  have hK : Ks ad (AW 90 ad) s s.heap := by rw [had]; exact (adS_K hKd).narrow (fun q h => adS_A h)
  refine va_forget (fun z hz2 => by rcases hS.2.2 z hz2 with h | h <;> omega) ?_
  have hS : va_S (AW 90 ad) s.heap H [] := ⟨hS.1, fun q h1 _ => hS.2.1 q h1 (fun h => by rcases h with h | h <;> omega), fun q h => by cases h⟩
  have e77 : n0 + 0 = ad 77 := by rw [had]; rfl
  rw [e77]
  have hX_X0 : PhX ad b_X0 L_X0 xs_X0 s := ⟨hXs, by omega, fun h => by have := hn _ h; omega, hL⟩
  have hB : Bg 210 (0 + 1 + 89) (0 + 11 + 970) 120 := by unfold Bg; omega
  refine lv_astore_n (lv' := [(1, .ref (ad 77)), (0, .ref b_X0)]) hx hb dL_drawn_7 rfl hl (by decide) rfl (fun ls hl => ?_)
  have key139 : ∀ (x2 : Int32) (n : Nat) (G : GT) (x4 : Int32) (H : Heap) (locs : List Loc) (cells slots : Nat), va_P D vwCl (wsC Y ad G) H → va_S (AW 90 ad) s.heap H locs → Bg 210 cells slots (n * 5 + 4) → ∀ ls : Array Slot, lv_has ls 7 [(0, .ref b_X0), (1, .ref (ad 77)), (2, .int x2), (4, .int x4)] → f_L_drawn_139 L_X0 xs_X0  x2 n G x4 = some (r, G') → W p l ev (rmD 12 210 (16 * 210)) s m ([.ref b_X0] : List Value).toArray below meth c H locs cells slots (MQ below (LQ (PD r D Y ad G') (fun _ => False)) ([.ref b_X0] : List Value).toArray s 210 (16 * 210) (fun _ => False)) (F0 m 139 ls []) := by
    intro x2
    intro n
    induction n with
    | zero => intro G x4  H locs cells slots  hP hS  hB ls hl h; exact lqZ2 h
    | succ n139 ih139 =>
      have key269 : ∀ (x4 : Int32) (G : GT) (H : Heap) (locs : List Loc) (cells slots : Nat), va_P D vwCl (wsC Y ad G) H → va_S (AW 90 ad) s.heap H locs → Bg 210 cells slots (n139 * 5 + 4) → ∀ ls : Array Slot, lv_has ls 7 [(0, .ref b_X0), (1, .ref (ad 77)), (2, .int x2), (4, .int x4)] → f_L_drawn_269 L_X0 xs_X0 (f_L_drawn_139 L_X0 xs_X0  x2 n139) x2 x4 G = some (r, G') → W p l ev (rmD 12 210 (16 * 210)) s m ([.ref b_X0] : List Value).toArray below meth c H locs cells slots (MQ below (LQ (PD r D Y ad G') (fun _ => False)) ([.ref b_X0] : List Value).toArray s 210 (16 * 210) (fun _ => False)) (F0 m 269 ls []) := by
        intro x4 G  H locs cells slots  hP hS  hB ls hl h
        refine lv_iinc (v := (x4 + 1)) (lv' := [(4, .int (x4 + 1)), (0, .ref b_X0), (1, .ref (ad 77)), (2, .int x2)]) hx hb dL_drawn_269 hl (k := 3) rfl rfl (by decide) rfl (fun ls hl => ?_)
        refine lv_goto (tgt := 139) hx hb dL_drawn_272 (by decide) ?_
        exact ih139 G (x4 + 1)  _ _ _ _  hP hS  (hB.le (by omega)) ls (lv_sub hl [1, 2, 3, 0] rfl) h
      have key225 : ∀ (x4 : Int32) (s225_0 : Int32) (G : GT) (H : Heap) (locs : List Loc) (cells slots : Nat), va_P D vwCl (wsC Y ad G) H → va_S (AW 90 ad) s.heap H locs → Bg 210 cells slots (n139 * 5 + 6) → ∀ ls : Array Slot, lv_has ls 7 [(0, .ref b_X0), (1, .ref (ad 77)), (2, .int x2), (4, .int x4)] → f_L_drawn_225 L_X0 xs_X0 (f_L_drawn_139 L_X0 xs_X0  x2 n139) x2 x4 s225_0 G = some (r, G') → W p l ev (rmD 12 210 (16 * 210)) s m ([.ref b_X0] : List Value).toArray below meth c H locs cells slots (MQ below (LQ (PD r D Y ad G') (fun _ => False)) ([.ref b_X0] : List Value).toArray s 210 (16 * 210) (fun _ => False)) (F0 m 225 ls [.int s225_0]) := by
        intro x4 s225_0 G  H locs cells slots  hP hS  hB ls hl h
        refine lv_istore (lv' := [(6, .int s225_0), (0, .ref b_X0), (1, .ref (ad 77)), (2, .int x2), (4, .int x4)]) hx hb dL_drawn_225 hl (by decide) rfl (fun ls hl => ?_)
        refine lv_iload hx hb dL_drawn_227 (lv_at hl 0 rfl) ?_
        refine lv_bipush (v := (-3)) hx hb dL_drawn_229 (by decide) ?_
        refine lv_icmp_ne (tgt := 255) hx hb dL_drawn_231 (by decide) (fun c1 => ?_) (fun c1 => ?_)
        · have h := ifF h c1
          refine lv_iload hx hb dL_drawn_255 (lv_at hl 0 rfl) ?_
          refine lv_aload_n hx hb dL_drawn_257 rfl (lv_at hl 2 rfl) ?_
          refine lv_iconst (v := 3) hx hb dL_drawn_258 (by decide) ?_
          obtain ⟨r2, G2, e2, h⟩ := bR h
          refine lx_V (B' := (n139 * 5 + 5)) F hP hK hS hB k_X9_account mw_621 rfl (q_X9_account l hst D Y ad hI G (3 : Int32) (.inr r2) G2 e2) rfl hl.1 ⟨Nat.le_of_ble_eq_true rfl, Nat.le_of_ble_eq_true rfl⟩ (rest := [.int s225_0]) rfl (Nat.le_of_ble_eq_true rfl) (by omega) dL_drawn_259 (fun H locs cells slots o2 hP hS hkp hB => ?_)
          refine lv_iconst (v := 1) hx hb dL_drawn_262 (by decide) ?_
          refine lv_isub hx hb dL_drawn_263 ?_
          refine lv_icmp_eq (tgt := 269) hx hb dL_drawn_264 (by decide) (fun c3 => ?_) (fun c3 => ?_)
          · have h := ifT h c3
            exact key269 x4 G2  _ _ _ _  hP hS  (hB.le (by omega)) ls (lv_sub hl [1, 2, 3, 4] rfl) h
          · have h := ifF h c3
            refine lv_null hx hb dL_drawn_267 ?_
            exact dr_end0 F hS hn hB hr hk h dL_drawn_268
        · have h := ifT h c1
          refine lv_aload_n hx hb dL_drawn_234 rfl (lv_at hl 2 rfl) ?_
          refine lv_iconst (v := 0) hx hb dL_drawn_235 (by decide) ?_
          obtain ⟨r4, G4, e4, h⟩ := bsome2 h
          refine lh_i (B' := (n139 * 5 + 5)) F hP hK hE hS hB kl_refusal mw_582 (ql_refusal l hst D Y ad hI G (0 : Int32) r4 G4 e4) rfl hl.1 ⟨Nat.le_of_ble_eq_true rfl, Nat.le_of_ble_eq_true rfl⟩ (rest := []) rfl (Nat.le_of_ble_eq_true rfl) (by omega) dL_drawn_236 (fun H locs cells slots hP hS hkp hB => ?_)
          refine lv_iconst (v := 3) hx hb dL_drawn_239 (by decide) ?_
          refine lv_icmp_lt (tgt := 267) hx hb dL_drawn_240 (by decide) (fun c5 => ?_) (fun c5 => ?_)
          · have h := ifT h c5
            refine lv_null hx hb dL_drawn_267 ?_
            exact dr_end0 F hS hn hB hr hk h dL_drawn_268
          · have h := ifF h c5
            refine lv_aload_n hx hb dL_drawn_243 rfl (lv_at hl 2 rfl) ?_
            refine lv_iconst (v := 0) hx hb dL_drawn_244 (by decide) ?_
            obtain ⟨r6, G6, e6, h⟩ := bsome2 h
            refine lh_i (B' := (n139 * 5 + 4)) F hP hK hE hS hB kl_refusal mw_582 (ql_refusal l hst D Y ad hI G4 (0 : Int32) r6 G6 e6) rfl hl.1 ⟨Nat.le_of_ble_eq_true rfl, Nat.le_of_ble_eq_true rfl⟩ (rest := []) rfl (Nat.le_of_ble_eq_true rfl) (by omega) dL_drawn_245 (fun H locs cells slots hP hS hkp hB => ?_)
            refine lv_iconst (v := 4) hx hb dL_drawn_248 (by decide) ?_
            refine lv_icmp_le (tgt := 269) hx hb dL_drawn_249 (by decide) (fun c7 => ?_) (fun c7 => ?_)
            · have h := ifT h c7
              exact key269 x4 G6  _ _ _ _  hP hS  (hB.le (by omega)) ls (lv_sub hl [1, 2, 3, 4] rfl) h
            · have h := ifF h c7
              refine lv_goto (tgt := 267) hx hb dL_drawn_252 (by decide) ?_
              refine lv_null hx hb dL_drawn_267 ?_
              exact dr_end0 F hS hn hB hr hk h dL_drawn_268
      have key222 : ∀ (x4 : Int32) (s222_0 : Int32) (s222_1 : Int32) (s222_2 : Int32) (G : GT) (H : Heap) (locs : List Loc) (cells slots : Nat), va_P D vwCl (wsC Y ad G) H → va_S (AW 90 ad) s.heap H locs → Bg 210 cells slots (n139 * 5 + 9) → ∀ ls : Array Slot, lv_has ls 7 [(0, .ref b_X0), (1, .ref (ad 77)), (2, .int x2), (4, .int x4)] → f_L_drawn_222 L_X0 xs_X0 (f_L_drawn_139 L_X0 xs_X0  x2 n139) x2 x4 s222_0 s222_1 s222_2 G = some (r, G') → W p l ev (rmD 12 210 (16 * 210)) s m ([.ref b_X0] : List Value).toArray below meth c H locs cells slots (MQ below (LQ (PD r D Y ad G') (fun _ => False)) ([.ref b_X0] : List Value).toArray s 210 (16 * 210) (fun _ => False)) (F0 m 222 ls [.int s222_0, .int s222_1, .int s222_2, .ref (ad 77)]) := by
        intro x4 s222_0 s222_1 s222_2 G  H locs cells slots  hP hS  hB ls hl h
        obtain ⟨r8, G8, e8, h⟩ := bsome2 h
        refine lh_i (B' := (n139 * 5 + 6)) F hP hK hE hS hB kl_drop mw_574 (ql_drop l hst D Y ad hI G s222_2 s222_1 s222_0 r8 G8 e8) rfl hl.1 ⟨Nat.le_of_ble_eq_true rfl, Nat.le_of_ble_eq_true rfl⟩ (rest := []) rfl (Nat.le_of_ble_eq_true rfl) (by omega) dL_drawn_222 (fun H locs cells slots hP hS hkp hB => ?_)
        exact key225 x4 r8 G8  _ _ _ _  hP hS  (hB.le (by omega)) ls (lv_sub hl [0, 1, 2, 3] rfl) h
      intro G x4  H locs cells slots  hP hS  hB ls hl h
      have h := lqS2 h
      refine lv_iload hx hb dL_drawn_139 (lv_at hl 3 rfl) ?_
      refine lv_bipush (v := 12) hx hb dL_drawn_141 (by decide) ?_
      refine lv_icmp_ge (tgt := 275) hx hb dL_drawn_143 (by decide) (fun c9 => ?_) (fun c9 => ?_)
      · have h := ifT h c9
        refine lv_aload_n hx hb dL_drawn_275 rfl (lv_at hl 1 rfl) ?_
        refine lv_iconst (v := 1) hx hb dL_drawn_276 (by decide) ?_
        refine lv_iload_n hx hb dL_drawn_277 rfl (lv_at hl 2 rfl) ?_
        refine lv_bipush (v := 20) hx hb dL_drawn_278 (by decide) ?_
        refine lv_iushr hx hb dL_drawn_280 rfl ?_
        refine lv_bipush (v := 11) hx hb dL_drawn_281 (by decide) ?_
        refine lv_irem hx hb dL_drawn_283 (by decide) ?_
        refine lv_iadd hx hb dL_drawn_284 ?_
        obtain ⟨r10, G10, e10, h⟩ := bsome2 h
        refine lh_i (B' := (n139 * 5 + 6)) F hP hK hE hS hB kl_limit mw_673 (ql_limit l hst D Y ad hI G ((1 : Int32) + (((x2.toUInt32 >>> ((20 : Int32).toUInt32 &&& Int32.toUInt32 31)).toInt32) - ((x2.toUInt32 >>> ((20 : Int32).toUInt32 &&& Int32.toUInt32 31)).toInt32) / (11 : Int32) * (11 : Int32))) r10 G10 e10) rfl hl.1 ⟨Nat.le_of_ble_eq_true rfl, Nat.le_of_ble_eq_true rfl⟩ (rest := []) rfl (Nat.le_of_ble_eq_true rfl) (by omega) dL_drawn_285 (fun H locs cells slots hP hS hkp hB => ?_)
        refine lv_if_ge (tgt := 304) hx hb dL_drawn_288 (by decide) (fun c11 => ?_) (fun c11 => ?_)
        · have h := ifT h c11
          refine lv_aload_n hx hb dL_drawn_304 rfl (lv_at hl 1 rfl) ?_
          exact dr_end1 F hP hS hn hB hr hk h dL_drawn_305
        · have h := ifF h c11
          refine lv_aload_n hx hb dL_drawn_291 rfl (lv_at hl 1 rfl) ?_
          refine lv_iconst (v := 0) hx hb dL_drawn_292 (by decide) ?_
          obtain ⟨r12, G12, e12, h⟩ := bsome2 h
          refine lh_i (B' := (n139 * 5 + 5)) F hP hK hE hS hB kl_refusal mw_582 (ql_refusal l hst D Y ad hI G10 (0 : Int32) r12 G12 e12) rfl hl.1 ⟨Nat.le_of_ble_eq_true rfl, Nat.le_of_ble_eq_true rfl⟩ (rest := []) rfl (Nat.le_of_ble_eq_true rfl) (by omega) dL_drawn_293 (fun H locs cells slots hP hS hkp hB => ?_)
          refine lv_iconst (v := 2) hx hb dL_drawn_296 (by decide) ?_
          refine lv_icmp_eq (tgt := 304) hx hb dL_drawn_297 (by decide) (fun c13 => ?_) (fun c13 => ?_)
          · have h := ifT h c13
            refine lv_aload_n hx hb dL_drawn_304 rfl (lv_at hl 1 rfl) ?_
            exact dr_end1 F hP hS hn hB hr hk h dL_drawn_305
          · have h := ifF h c13
            refine lv_null hx hb dL_drawn_300 ?_
            refine lv_goto (tgt := 305) hx hb dL_drawn_301 (by decide) ?_
            exact dr_end0 F hS hn hB hr hk h dL_drawn_305
      · have h := ifF h c9
        refine lv_aload_n hx hb dL_drawn_146 rfl (lv_at hl 0 rfl) ?_
        refine lv_iconst (v := 5) hx hb dL_drawn_147 (by decide) ?_
        refine lv_iload hx hb dL_drawn_148 (lv_at hl 3 rfl) ?_
        refine lv_iadd hx hb dL_drawn_150 ?_
        obtain ⟨r14, G14, e14, h⟩ := bsome2 h
        refine lm_i (B' := (n139 * 5 + 9)) F hP hK hE hS hB phX_b (phX_o hX_X0 hS) k_L_cell mw_232 (q_L_cell l hst D Y ad hI G L_X0 xs_X0 b_X0 ((5 : Int32) + x4) r14 G14 e14) rfl hl.1 ⟨Nat.le_of_ble_eq_true rfl, Nat.le_of_ble_eq_true rfl⟩ (rest := []) rfl (Nat.le_of_ble_eq_true rfl) (by omega) dL_drawn_151 (fun H locs cells slots o14 hP hS hkp hB => ?_)
        refine lv_iconst (v := 1) hx hb dL_drawn_154 (by decide) ?_
        refine lv_iushr hx hb dL_drawn_155 rfl ?_
        refine lv_istore (lv' := [(5, .int ((r14.toUInt32 >>> ((1 : Int32).toUInt32 &&& Int32.toUInt32 31)).toInt32)), (0, .ref b_X0), (1, .ref (ad 77)), (2, .int x2), (4, .int x4)]) hx hb dL_drawn_156 hl (by decide) rfl (fun ls hl => ?_)
        refine lv_iload hx hb dL_drawn_158 (lv_at hl 0 rfl) ?_
        refine lv_iconst (v := 4) hx hb dL_drawn_160 (by decide) ?_
        refine lv_irem hx hb dL_drawn_161 (by decide) ?_
        refine lv_if_ne (tgt := 178) hx hb dL_drawn_162 (by decide) (fun c15 => ?_) (fun c15 => ?_)
        · have h := ifF h c15
          refine lv_aload_n hx hb dL_drawn_178 rfl (lv_at hl 2 rfl) ?_
          refine lv_iload hx hb dL_drawn_179 (lv_at hl 0 rfl) ?_
          refine lv_iconst (v := 2) hx hb dL_drawn_181 (by decide) ?_
          refine lv_iushr hx hb dL_drawn_182 rfl ?_
          refine lv_iconst (v := 4) hx hb dL_drawn_183 (by decide) ?_
          refine lv_irem hx hb dL_drawn_184 (by decide) ?_
          refine lv_iload hx hb dL_drawn_185 (lv_at hl 0 rfl) ?_
          refine lv_iconst (v := 4) hx hb dL_drawn_187 (by decide) ?_
          refine lv_iushr hx hb dL_drawn_188 rfl ?_
          refine lv_bipush (v := 10) hx hb dL_drawn_189 (by decide) ?_
          refine lv_irem hx hb dL_drawn_191 (by decide) ?_
          refine lv_iload hx hb dL_drawn_192 (lv_at hl 0 rfl) ?_
          refine lv_bipush (v := 7) hx hb dL_drawn_194 (by decide) ?_
          refine lv_irem hx hb dL_drawn_196 (by decide) ?_
          refine lv_if_ne (tgt := 213) hx hb dL_drawn_197 (by decide) (fun c16 => ?_) (fun c16 => ?_)
          · have h := ifF h c16
            refine lv_iconst (v := 1) hx hb dL_drawn_213 (by decide) ?_
            refine lv_iload hx hb dL_drawn_214 (lv_at hl 0 rfl) ?_
            refine lv_bipush (v := 8) hx hb dL_drawn_216 (by decide) ?_
            refine lv_iushr hx hb dL_drawn_218 rfl ?_
            refine lv_iconst (v := 3) hx hb dL_drawn_219 (by decide) ?_
            refine lv_irem hx hb dL_drawn_220 (by decide) ?_
            refine lv_iadd hx hb dL_drawn_221 ?_
            exact key222 x4 ((1 : Int32) + (((((r14.toUInt32 >>> ((1 : Int32).toUInt32 &&& Int32.toUInt32 31)).toInt32).toUInt32 >>> ((8 : Int32).toUInt32 &&& Int32.toUInt32 31)).toInt32) - ((((r14.toUInt32 >>> ((1 : Int32).toUInt32 &&& Int32.toUInt32 31)).toInt32).toUInt32 >>> ((8 : Int32).toUInt32 &&& Int32.toUInt32 31)).toInt32) / (3 : Int32) * (3 : Int32))) (((((r14.toUInt32 >>> ((1 : Int32).toUInt32 &&& Int32.toUInt32 31)).toInt32).toUInt32 >>> ((4 : Int32).toUInt32 &&& Int32.toUInt32 31)).toInt32) - ((((r14.toUInt32 >>> ((1 : Int32).toUInt32 &&& Int32.toUInt32 31)).toInt32).toUInt32 >>> ((4 : Int32).toUInt32 &&& Int32.toUInt32 31)).toInt32) / (10 : Int32) * (10 : Int32)) (((((r14.toUInt32 >>> ((1 : Int32).toUInt32 &&& Int32.toUInt32 31)).toInt32).toUInt32 >>> ((2 : Int32).toUInt32 &&& Int32.toUInt32 31)).toInt32) - ((((r14.toUInt32 >>> ((1 : Int32).toUInt32 &&& Int32.toUInt32 31)).toInt32).toUInt32 >>> ((2 : Int32).toUInt32 &&& Int32.toUInt32 31)).toInt32) / (4 : Int32) * (4 : Int32)) G14  _ _ _ _  hP hS  (hB.le (by omega)) ls (lv_sub hl [1, 2, 3, 4] rfl) h
          · have h := ifT h c16
            refine lv_iconst (v := 1) hx hb dL_drawn_200 (by decide) ?_
            refine lv_iload hx hb dL_drawn_201 (lv_at hl 0 rfl) ?_
            refine lv_bipush (v := 8) hx hb dL_drawn_203 (by decide) ?_
            refine lv_iushr hx hb dL_drawn_205 rfl ?_
            refine lv_bipush (v := 8) hx hb dL_drawn_206 (by decide) ?_
            refine lv_irem hx hb dL_drawn_208 (by decide) ?_
            refine lv_iadd hx hb dL_drawn_209 ?_
            refine lv_goto (tgt := 222) hx hb dL_drawn_210 (by decide) ?_
            exact key222 x4 ((1 : Int32) + (((((r14.toUInt32 >>> ((1 : Int32).toUInt32 &&& Int32.toUInt32 31)).toInt32).toUInt32 >>> ((8 : Int32).toUInt32 &&& Int32.toUInt32 31)).toInt32) - ((((r14.toUInt32 >>> ((1 : Int32).toUInt32 &&& Int32.toUInt32 31)).toInt32).toUInt32 >>> ((8 : Int32).toUInt32 &&& Int32.toUInt32 31)).toInt32) / (8 : Int32) * (8 : Int32))) (((((r14.toUInt32 >>> ((1 : Int32).toUInt32 &&& Int32.toUInt32 31)).toInt32).toUInt32 >>> ((4 : Int32).toUInt32 &&& Int32.toUInt32 31)).toInt32) - ((((r14.toUInt32 >>> ((1 : Int32).toUInt32 &&& Int32.toUInt32 31)).toInt32).toUInt32 >>> ((4 : Int32).toUInt32 &&& Int32.toUInt32 31)).toInt32) / (10 : Int32) * (10 : Int32)) (((((r14.toUInt32 >>> ((1 : Int32).toUInt32 &&& Int32.toUInt32 31)).toInt32).toUInt32 >>> ((2 : Int32).toUInt32 &&& Int32.toUInt32 31)).toInt32) - ((((r14.toUInt32 >>> ((1 : Int32).toUInt32 &&& Int32.toUInt32 31)).toInt32).toUInt32 >>> ((2 : Int32).toUInt32 &&& Int32.toUInt32 31)).toInt32) / (4 : Int32) * (4 : Int32)) G14  _ _ _ _  hP hS  (hB.le (by omega)) ls (lv_sub hl [1, 2, 3, 4] rfl) h
        · have h := ifT h c15
          refine lv_aload_n hx hb dL_drawn_165 rfl (lv_at hl 2 rfl) ?_
          refine lv_iload hx hb dL_drawn_166 (lv_at hl 0 rfl) ?_
          refine lv_iconst (v := 2) hx hb dL_drawn_168 (by decide) ?_
          refine lv_iushr hx hb dL_drawn_169 rfl ?_
          refine lv_iconst (v := 4) hx hb dL_drawn_170 (by decide) ?_
          refine lv_irem hx hb dL_drawn_171 (by decide) ?_
          obtain ⟨r17, G17, e17, h⟩ := bsome2 h
          refine lh_i (B' := (n139 * 5 + 6)) F hP hK hE hS hB kl_rest mw_566 (ql_rest l hst D Y ad hI G14 (((((r14.toUInt32 >>> ((1 : Int32).toUInt32 &&& Int32.toUInt32 31)).toInt32).toUInt32 >>> ((2 : Int32).toUInt32 &&& Int32.toUInt32 31)).toInt32) - ((((r14.toUInt32 >>> ((1 : Int32).toUInt32 &&& Int32.toUInt32 31)).toInt32).toUInt32 >>> ((2 : Int32).toUInt32 &&& Int32.toUInt32 31)).toInt32) / (4 : Int32) * (4 : Int32)) r17 G17 e17) rfl hl.1 ⟨Nat.le_of_ble_eq_true rfl, Nat.le_of_ble_eq_true rfl⟩ (rest := []) rfl (Nat.le_of_ble_eq_true rfl) (by omega) dL_drawn_172 (fun H locs cells slots hP hS hkp hB => ?_)
          refine lv_goto (tgt := 225) hx hb dL_drawn_175 (by decide) ?_
          exact key225 x4 r17 G17  _ _ _ _  hP hS  (hB.le (by omega)) ls (lv_sub hl [1, 2, 3, 4] rfl) h
  have key64 : ∀ (x2 : Int32) (n : Nat) (G : GT) (x4 : Int32) (H : Heap) (locs : List Loc) (cells slots : Nat), va_P D vwCl (wsC Y ad G) H → va_S (AW 90 ad) s.heap H locs → Bg 210 cells slots (n * 6 + 69) → ∀ ls : Array Slot, lv_has ls 7 [(0, .ref b_X0), (1, .ref (ad 77)), (2, .int x2), (4, .int x4)] → f_L_drawn_64 L_X0 xs_X0  x2 n G x4 = some (r, G') → W p l ev (rmD 12 210 (16 * 210)) s m ([.ref b_X0] : List Value).toArray below meth c H locs cells slots (MQ below (LQ (PD r D Y ad G') (fun _ => False)) ([.ref b_X0] : List Value).toArray s 210 (16 * 210) (fun _ => False)) (F0 m 64 ls []) := by
    intro x2
    intro n
    induction n with
    | zero => intro G x4  H locs cells slots  hP hS  hB ls hl h; exact lqZ2 h
    | succ n64 ih64 =>
      have key130 : ∀ (x4 : Int32) (G : GT) (H : Heap) (locs : List Loc) (cells slots : Nat), va_P D vwCl (wsC Y ad G) H → va_S (AW 90 ad) s.heap H locs → Bg 210 cells slots (n64 * 6 + 69) → ∀ ls : Array Slot, lv_has ls 7 [(0, .ref b_X0), (1, .ref (ad 77)), (2, .int x2), (4, .int x4)] → f_L_drawn_130 L_X0 xs_X0 (f_L_drawn_64 L_X0 xs_X0  x2 n64) x2 x4 G = some (r, G') → W p l ev (rmD 12 210 (16 * 210)) s m ([.ref b_X0] : List Value).toArray below meth c H locs cells slots (MQ below (LQ (PD r D Y ad G') (fun _ => False)) ([.ref b_X0] : List Value).toArray s 210 (16 * 210) (fun _ => False)) (F0 m 130 ls []) := by
        intro x4 G  H locs cells slots  hP hS  hB ls hl h
        refine lv_iinc (v := (x4 + 1)) (lv' := [(4, .int (x4 + 1)), (0, .ref b_X0), (1, .ref (ad 77)), (2, .int x2)]) hx hb dL_drawn_130 hl (k := 3) rfl rfl (by decide) rfl (fun ls hl => ?_)
        refine lv_goto (tgt := 64) hx hb dL_drawn_133 (by decide) ?_
        exact ih64 G (x4 + 1)  _ _ _ _  hP hS  (hB.le (by omega)) ls (lv_sub hl [1, 2, 3, 0] rfl) h
      have key104 : ∀ (x4 : Int32) (x5 : Int32) (G : GT) (H : Heap) (locs : List Loc) (cells slots : Nat), va_P D vwCl (wsC Y ad G) H → va_S (AW 90 ad) s.heap H locs → Bg 210 cells slots (n64 * 6 + 72) → ∀ ls : Array Slot, lv_has ls 7 [(0, .ref b_X0), (1, .ref (ad 77)), (2, .int x2), (4, .int x4), (5, .int x5)] → f_L_drawn_104 L_X0 xs_X0 (f_L_drawn_64 L_X0 xs_X0  x2 n64) x2 x4 x5 G = some (r, G') → W p l ev (rmD 12 210 (16 * 210)) s m ([.ref b_X0] : List Value).toArray below meth c H locs cells slots (MQ below (LQ (PD r D Y ad G') (fun _ => False)) ([.ref b_X0] : List Value).toArray s 210 (16 * 210) (fun _ => False)) (F0 m 104 ls []) := by
        intro x4 x5 G  H locs cells slots  hP hS  hB ls hl h
        refine lv_iload hx hb dL_drawn_104 (lv_at hl 4 rfl) ?_
        refine lv_iconst (v := 4) hx hb dL_drawn_106 (by decide) ?_
        refine lv_iushr hx hb dL_drawn_107 rfl ?_
        refine lv_iconst (v := 4) hx hb dL_drawn_108 (by decide) ?_
        refine lv_irem hx hb dL_drawn_109 (by decide) ?_
        refine lv_if_le (tgt := 130) hx hb dL_drawn_110 (by decide) (fun c18 => ?_) (fun c18 => ?_)
        · have h := ifT h c18
          exact key130 x4 G  _ _ _ _  hP hS  (hB.le (by omega)) ls (lv_sub hl [0, 1, 2, 3] rfl) h
        · have h := ifF h c18
          refine lv_aload_n hx hb dL_drawn_113 rfl (lv_at hl 1 rfl) ?_
          refine lv_iload hx hb dL_drawn_114 (lv_at hl 3 rfl) ?_
          refine lv_iload hx hb dL_drawn_116 (lv_at hl 4 rfl) ?_
          refine lv_iconst (v := 4) hx hb dL_drawn_118 (by decide) ?_
          refine lv_iushr hx hb dL_drawn_119 rfl ?_
          refine lv_iconst (v := 4) hx hb dL_drawn_120 (by decide) ?_
          refine lv_irem hx hb dL_drawn_121 (by decide) ?_
          obtain ⟨r19, G19, e19, h⟩ := bsome2 h
          refine lh_i (B' := (n64 * 6 + 69)) F hP hK hE hS hB kl_leak mw_558 (ql_leak l hst D Y ad hI G x4 (((x5.toUInt32 >>> ((4 : Int32).toUInt32 &&& Int32.toUInt32 31)).toInt32) - ((x5.toUInt32 >>> ((4 : Int32).toUInt32 &&& Int32.toUInt32 31)).toInt32) / (4 : Int32) * (4 : Int32)) r19 G19 e19) rfl hl.1 ⟨Nat.le_of_ble_eq_true rfl, Nat.le_of_ble_eq_true rfl⟩ (rest := []) rfl (Nat.le_of_ble_eq_true rfl) (by omega) dL_drawn_122 (fun H locs cells slots hP hS hkp hB => ?_)
          refine lv_if_eq (tgt := 130) hx hb dL_drawn_125 (by decide) (fun c20 => ?_) (fun c20 => ?_)
          · have h := ifT h c20
            exact key130 x4 G19  _ _ _ _  hP hS  (hB.le (by omega)) ls (lv_sub hl [0, 1, 2, 3] rfl) h
          · have h := ifF h c20
            refine lv_null hx hb dL_drawn_128 ?_
            exact dr_end0 F hS hn hB hr hk h dL_drawn_129
      intro G x4  H locs cells slots  hP hS  hB ls hl h
      have h := lqS2 h
      refine lv_iload hx hb dL_drawn_64 (lv_at hl 3 rfl) ?_
      refine lv_iconst (v := 4) hx hb dL_drawn_66 (by decide) ?_
      refine lv_icmp_ge (tgt := 136) hx hb dL_drawn_67 (by decide) (fun c21 => ?_) (fun c21 => ?_)
      · have h := ifT h c21
        refine lv_iconst (v := 0) hx hb dL_drawn_136 (by decide) ?_
        refine lv_istore (lv' := [(4, .int (0 : Int32)), (0, .ref b_X0), (1, .ref (ad 77)), (2, .int x2)]) hx hb dL_drawn_137 hl (by decide) rfl (fun ls hl => ?_)
        exact key139 x2 13 G (0 : Int32)  _ _ _ _  hP hS  (hB.le (by omega)) ls (lv_sub hl [1, 2, 3, 0] rfl) h
      · have h := ifF h c21
        refine lv_aload_n hx hb dL_drawn_70 rfl (lv_at hl 0 rfl) ?_
        refine lv_iconst (v := 1) hx hb dL_drawn_71 (by decide) ?_
        refine lv_iload hx hb dL_drawn_72 (lv_at hl 3 rfl) ?_
        refine lv_iadd hx hb dL_drawn_74 ?_
        obtain ⟨r22, G22, e22, h⟩ := bsome2 h
        refine lm_i (B' := (n64 * 6 + 75)) F hP hK hE hS hB phX_b (phX_o hX_X0 hS) k_L_cell mw_232 (q_L_cell l hst D Y ad hI G L_X0 xs_X0 b_X0 ((1 : Int32) + x4) r22 G22 e22) rfl hl.1 ⟨Nat.le_of_ble_eq_true rfl, Nat.le_of_ble_eq_true rfl⟩ (rest := []) rfl (Nat.le_of_ble_eq_true rfl) (by omega) dL_drawn_75 (fun H locs cells slots o22 hP hS hkp hB => ?_)
        refine lv_iconst (v := 1) hx hb dL_drawn_78 (by decide) ?_
        refine lv_iushr hx hb dL_drawn_79 rfl ?_
        refine lv_istore (lv' := [(5, .int ((r22.toUInt32 >>> ((1 : Int32).toUInt32 &&& Int32.toUInt32 31)).toInt32)), (0, .ref b_X0), (1, .ref (ad 77)), (2, .int x2), (4, .int x4)]) hx hb dL_drawn_80 hl (by decide) rfl (fun ls hl => ?_)
        refine lv_iload hx hb dL_drawn_82 (lv_at hl 0 rfl) ?_
        refine lv_bipush (v := 12) hx hb dL_drawn_84 (by decide) ?_
        refine lv_irem hx hb dL_drawn_86 (by decide) ?_
        refine lv_if_le (tgt := 104) hx hb dL_drawn_87 (by decide) (fun c23 => ?_) (fun c23 => ?_)
        · have h := ifT h c23
          exact key104 x4 ((r22.toUInt32 >>> ((1 : Int32).toUInt32 &&& Int32.toUInt32 31)).toInt32) G22  _ _ _ _  hP hS  (hB.le (by omega)) ls (lv_sub hl [1, 2, 3, 4, 0] rfl) h
        · have h := ifF h c23
          refine lv_aload_n hx hb dL_drawn_90 rfl (lv_at hl 2 rfl) ?_
          refine lv_iload hx hb dL_drawn_91 (lv_at hl 4 rfl) ?_
          refine lv_iload hx hb dL_drawn_93 (lv_at hl 0 rfl) ?_
          refine lv_bipush (v := 12) hx hb dL_drawn_95 (by decide) ?_
          refine lv_irem hx hb dL_drawn_97 (by decide) ?_
          obtain ⟨r24, G24, e24, h⟩ := bsome2 h
          refine lh_i (B' := (n64 * 6 + 72)) F hP hK hE hS hB kl_key mw_529 (ql_key l hst D Y ad hI G22 x4 (((r22.toUInt32 >>> ((1 : Int32).toUInt32 &&& Int32.toUInt32 31)).toInt32) - ((r22.toUInt32 >>> ((1 : Int32).toUInt32 &&& Int32.toUInt32 31)).toInt32) / (12 : Int32) * (12 : Int32)) r24 G24 e24) rfl hl.1 ⟨Nat.le_of_ble_eq_true rfl, Nat.le_of_ble_eq_true rfl⟩ (rest := []) rfl (Nat.le_of_ble_eq_true rfl) (by omega) dL_drawn_98 (fun H locs cells slots hP hS hkp hB => ?_)
          refine lv_if_ne (tgt := 128) hx hb dL_drawn_101 (by decide) (fun c25 => ?_) (fun c25 => ?_)
          · have h := ifF h c25
            refine lv_null hx hb dL_drawn_128 ?_
            exact dr_end0 F hS hn hB hr hk h dL_drawn_129
          · have h := ifT h c25
            exact key104 x4 ((r22.toUInt32 >>> ((1 : Int32).toUInt32 &&& Int32.toUInt32 31)).toInt32) G24  _ _ _ _  hP hS  (hB.le (by omega)) ls (lv_sub hl [1, 2, 3, 4, 0] rfl) h
  have key25 : ∀ (x2 : Int32) (x3 : Int32) (n : Nat) (G : GT) (x4 : Int32) (H : Heap) (locs : List Loc) (cells slots : Nat), va_P D vwCl (wsC Y ad G) H → va_S (AW 90 ad) s.heap H locs → Bg 210 cells slots (n * 3 + 99) → ∀ ls : Array Slot, lv_has ls 7 [(0, .ref b_X0), (1, .ref (ad 77)), (2, .int x2), (3, .int x3), (4, .int x4)] → f_L_drawn_25 L_X0 xs_X0  x2 x3 n G x4 = some (r, G') → W p l ev (rmD 12 210 (16 * 210)) s m ([.ref b_X0] : List Value).toArray below meth c H locs cells slots (MQ below (LQ (PD r D Y ad G') (fun _ => False)) ([.ref b_X0] : List Value).toArray s 210 (16 * 210) (fun _ => False)) (F0 m 25 ls []) := by
    intro x2 x3
    intro n
    induction n with
    | zero => intro G x4  H locs cells slots  hP hS  hB ls hl h; exact lqZ2 h
    | succ n25 ih25 =>
      intro G x4  H locs cells slots  hP hS  hB ls hl h
      have h := lqS2 h
      refine lv_iload hx hb dL_drawn_25 (lv_at hl 4 rfl) ?_
      refine lv_iload_n hx hb dL_drawn_27 rfl (lv_at hl 3 rfl) ?_
      refine lv_icmp_ge (tgt := 61) hx hb dL_drawn_28 (by decide) (fun c26 => ?_) (fun c26 => ?_)
      · have h := ifT h c26
        refine lv_iconst (v := 0) hx hb dL_drawn_61 (by decide) ?_
        refine lv_istore (lv' := [(4, .int (0 : Int32)), (0, .ref b_X0), (1, .ref (ad 77)), (2, .int x2), (3, .int x3)]) hx hb dL_drawn_62 hl (by decide) rfl (fun ls hl => ?_)
        exact key64 x2 5 G (0 : Int32)  _ _ _ _  hP hS  (hB.le (by omega)) ls (lv_sub hl [1, 2, 3, 0] rfl) h
      · have h := ifF h c26
        refine lv_aload_n hx hb dL_drawn_31 rfl (lv_at hl 1 rfl) ?_
        refine lv_iconst (v := 2) hx hb dL_drawn_32 (by decide) ?_
        refine lv_iload_n hx hb dL_drawn_33 rfl (lv_at hl 2 rfl) ?_
        refine lv_iconst (v := 3) hx hb dL_drawn_34 (by decide) ?_
        refine lv_iconst (v := 3) hx hb dL_drawn_35 (by decide) ?_
        refine lv_iload hx hb dL_drawn_36 (lv_at hl 4 rfl) ?_
        refine lv_imul hx hb dL_drawn_38 ?_
        refine lv_iadd hx hb dL_drawn_39 ?_
        refine lv_iushr hx hb dL_drawn_40 rfl ?_
        refine lv_bipush (v := 7) hx hb dL_drawn_41 (by decide) ?_
        refine lv_irem hx hb dL_drawn_43 (by decide) ?_
        refine lv_iadd hx hb dL_drawn_44 ?_
        obtain ⟨r27, G27, e27, h⟩ := bsome2 h
        refine lh_i (B' := (n25 * 3 + 99)) F hP hK hE hS hB kl_bar mw_236 (ql_bar l hst D Y ad hI G ((2 : Int32) + (((x2.toUInt32 >>> (((3 : Int32) + ((3 : Int32) * x4)).toUInt32 &&& Int32.toUInt32 31)).toInt32) - ((x2.toUInt32 >>> (((3 : Int32) + ((3 : Int32) * x4)).toUInt32 &&& Int32.toUInt32 31)).toInt32) / (7 : Int32) * (7 : Int32))) r27 G27 e27) rfl hl.1 ⟨Nat.le_of_ble_eq_true rfl, Nat.le_of_ble_eq_true rfl⟩ (rest := []) rfl (Nat.le_of_ble_eq_true rfl) (by omega) dL_drawn_45 (fun H locs cells slots hP hS hkp hB => ?_)
        refine lv_iload hx hb dL_drawn_48 (lv_at hl 4 rfl) ?_
        refine lv_icmp_eq (tgt := 55) hx hb dL_drawn_50 (by decide) (fun c28 => ?_) (fun c28 => ?_)
        · have h := ifT h c28
          refine lv_iinc (v := (x4 + 1)) (lv' := [(4, .int (x4 + 1)), (0, .ref b_X0), (1, .ref (ad 77)), (2, .int x2), (3, .int x3)]) hx hb dL_drawn_55 hl (k := 4) rfl rfl (by decide) rfl (fun ls hl => ?_)
          refine lv_goto (tgt := 25) hx hb dL_drawn_58 (by decide) ?_
          exact ih25 G27 (x4 + 1)  _ _ _ _  hP hS  (hB.le (by omega)) ls (lv_sub hl [1, 2, 3, 4, 0] rfl) h
        · have h := ifF h c28
          refine lv_null hx hb dL_drawn_53 ?_
          exact dr_end0 F hS hn hB hr hk h dL_drawn_54
  refine lv_aload_n hx hb dL_drawn_8 rfl (lv_at hl 1 rfl) ?_
  refine lv_iconst (v := 0) hx hb dL_drawn_9 (by decide) ?_
  obtain ⟨r29, G29, e29, h⟩ := bsome2 h
  refine lm_i (B' := (120)) F hP hK hE hS hB phX_b (phX_o hX_X0 hS) k_L_cell mw_232 (q_L_cell l hst D Y ad hI G0 L_X0 xs_X0 b_X0 (0 : Int32) r29 G29 e29) rfl hl.1 ⟨Nat.le_of_ble_eq_true rfl, Nat.le_of_ble_eq_true rfl⟩ (rest := []) rfl (Nat.le_of_ble_eq_true rfl) (by omega) dL_drawn_10 (fun H locs cells slots o29 hP hS hkp hB => ?_)
  refine lv_iconst (v := 1) hx hb dL_drawn_13 (by decide) ?_
  refine lv_iushr hx hb dL_drawn_14 rfl ?_
  refine lv_istore_n (lv' := [(2, .int ((r29.toUInt32 >>> ((1 : Int32).toUInt32 &&& Int32.toUInt32 31)).toInt32)), (1, .ref (ad 77)), (0, .ref b_X0)]) hx hb dL_drawn_15 rfl hl (by decide) rfl (fun ls hl => ?_)
  refine lv_iconst (v := 2) hx hb dL_drawn_16 (by decide) ?_
  refine lv_iload_n hx hb dL_drawn_17 rfl (lv_at hl 0 rfl) ?_
  refine lv_iconst (v := 5) hx hb dL_drawn_18 (by decide) ?_
  refine lv_irem hx hb dL_drawn_19 (by decide) ?_
  refine lv_iadd hx hb dL_drawn_20 ?_
  refine lv_istore_n (lv' := [(3, .int ((2 : Int32) + (((r29.toUInt32 >>> ((1 : Int32).toUInt32 &&& Int32.toUInt32 31)).toInt32) - ((r29.toUInt32 >>> ((1 : Int32).toUInt32 &&& Int32.toUInt32 31)).toInt32) / (5 : Int32) * (5 : Int32)))), (2, .int ((r29.toUInt32 >>> ((1 : Int32).toUInt32 &&& Int32.toUInt32 31)).toInt32)), (1, .ref (ad 77)), (0, .ref b_X0)]) hx hb dL_drawn_21 rfl hl (by decide) rfl (fun ls hl => ?_)
  refine lv_iconst (v := 0) hx hb dL_drawn_22 (by decide) ?_
  refine lv_istore (lv' := [(4, .int (0 : Int32)), (3, .int ((2 : Int32) + (((r29.toUInt32 >>> ((1 : Int32).toUInt32 &&& Int32.toUInt32 31)).toInt32) - ((r29.toUInt32 >>> ((1 : Int32).toUInt32 &&& Int32.toUInt32 31)).toInt32) / (5 : Int32) * (5 : Int32)))), (2, .int ((r29.toUInt32 >>> ((1 : Int32).toUInt32 &&& Int32.toUInt32 31)).toInt32)), (1, .ref (ad 77)), (0, .ref b_X0)]) hx hb dL_drawn_23 hl (by decide) rfl (fun ls hl => ?_)
  exact key25 ((r29.toUInt32 >>> ((1 : Int32).toUInt32 &&& Int32.toUInt32 31)).toInt32) ((2 : Int32) + (((r29.toUInt32 >>> ((1 : Int32).toUInt32 &&& Int32.toUInt32 31)).toInt32) - ((r29.toUInt32 >>> ((1 : Int32).toUInt32 &&& Int32.toUInt32 31)).toInt32) / (5 : Int32) * (5 : Int32))) 7 G29 (0 : Int32)  _ _ _ _  hP hS  (hB.le (by omega)) ls (lv_sub hl [4, 3, 2, 1, 0] rfl) h
