/-! the constants, out of what the Statement gives of the start -/
def NFl : List Cond := flatC (Jvm.Cond.and given_1 narrow_1)
def stM (i : Nat) : Term := .string (stO i) (stK i)
def enM (i : Nat) : Term := .static RO' (nmO i) "LTinRoofScore$Order;"
def stV (i : Nat) : Term := .field (stM i) RS' "value" "[B"
def arM : Term := .static "TinRoofScore" "ORDERS" "[LTinRoofScore$Order;"
set_option maxRecDepth 100000 in
theorem n_ex : ∀ i, i < 33 → Cond.exactly (stM i) RS' ∈ NFl := by decide +kernel
set_option maxRecDepth 100000 in
theorem n_co : ∀ i, i < 33 → Cond.eq (.field (stM i) RS' "coder" "B") (.int 0) ∈ NFl := by decide +kernel
set_option maxRecDepth 100000 in
theorem n_ar : ∀ i, i < 33 → Cond.arrayOf (stV i) .byte ∈ NFl := by decide +kernel
set_option maxRecDepth 100000 in
theorem n_le : ∀ i, i < 33 → Cond.eq (.length (stV i)) (.int (Int32.ofNat (stB i).length)) ∈ NFl := by decide +kernel
set_option maxRecDepth 100000 in
theorem n_el_0 : ∀ j, j < (stB 0).length → Cond.eq (.elem (stV 0) (.int (Int32.ofNat j))) (.int ((stB 0).getD j 0)) ∈ NFl := fun j hj => va_run (N := 22) (p := 421) (f := fun j => Cond.eq (.elem (stV 0) (.int (Int32.ofNat j))) (.int ((stB 0).getD j 0))) (by decide +kernel) j hj
set_option maxRecDepth 100000 in
theorem n_el_1 : ∀ j, j < (stB 1).length → Cond.eq (.elem (stV 1) (.int (Int32.ofNat j))) (.int ((stB 1).getD j 0)) ∈ NFl := fun j hj => va_run (N := 39) (p := 447) (f := fun j => Cond.eq (.elem (stV 1) (.int (Int32.ofNat j))) (.int ((stB 1).getD j 0))) (by decide +kernel) j hj
set_option maxRecDepth 100000 in
theorem n_el_2 : ∀ j, j < (stB 2).length → Cond.eq (.elem (stV 2) (.int (Int32.ofNat j))) (.int ((stB 2).getD j 0)) ∈ NFl := fun j hj => va_run (N := 15) (p := 490) (f := fun j => Cond.eq (.elem (stV 2) (.int (Int32.ofNat j))) (.int ((stB 2).getD j 0))) (by decide +kernel) j hj
set_option maxRecDepth 100000 in
theorem n_el_3 : ∀ j, j < (stB 3).length → Cond.eq (.elem (stV 3) (.int (Int32.ofNat j))) (.int ((stB 3).getD j 0)) ∈ NFl := fun j hj => va_run (N := 13) (p := 509) (f := fun j => Cond.eq (.elem (stV 3) (.int (Int32.ofNat j))) (.int ((stB 3).getD j 0))) (by decide +kernel) j hj
set_option maxRecDepth 100000 in
theorem n_el_4 : ∀ j, j < (stB 4).length → Cond.eq (.elem (stV 4) (.int (Int32.ofNat j))) (.int ((stB 4).getD j 0)) ∈ NFl := fun j hj => va_run (N := 18) (p := 526) (f := fun j => Cond.eq (.elem (stV 4) (.int (Int32.ofNat j))) (.int ((stB 4).getD j 0))) (by decide +kernel) j hj
set_option maxRecDepth 100000 in
theorem n_el_5 : ∀ j, j < (stB 5).length → Cond.eq (.elem (stV 5) (.int (Int32.ofNat j))) (.int ((stB 5).getD j 0)) ∈ NFl := fun j hj => va_run (N := 17) (p := 548) (f := fun j => Cond.eq (.elem (stV 5) (.int (Int32.ofNat j))) (.int ((stB 5).getD j 0))) (by decide +kernel) j hj
set_option maxRecDepth 100000 in
theorem n_el_6 : ∀ j, j < (stB 6).length → Cond.eq (.elem (stV 6) (.int (Int32.ofNat j))) (.int ((stB 6).getD j 0)) ∈ NFl := fun j hj => absurd hj (Nat.not_lt_zero _)
set_option maxRecDepth 100000 in
theorem n_el_7 : ∀ j, j < (stB 7).length → Cond.eq (.elem (stV 7) (.int (Int32.ofNat j))) (.int ((stB 7).getD j 0)) ∈ NFl := fun j hj => va_run (N := 1) (p := 573) (f := fun j => Cond.eq (.elem (stV 7) (.int (Int32.ofNat j))) (.int ((stB 7).getD j 0))) (by decide +kernel) j hj
set_option maxRecDepth 100000 in
theorem n_el_8 : ∀ j, j < (stB 8).length → Cond.eq (.elem (stV 8) (.int (Int32.ofNat j))) (.int ((stB 8).getD j 0)) ∈ NFl := fun j hj => va_run (N := 1) (p := 578) (f := fun j => Cond.eq (.elem (stV 8) (.int (Int32.ofNat j))) (.int ((stB 8).getD j 0))) (by decide +kernel) j hj
set_option maxRecDepth 100000 in
theorem n_el_9 : ∀ j, j < (stB 9).length → Cond.eq (.elem (stV 9) (.int (Int32.ofNat j))) (.int ((stB 9).getD j 0)) ∈ NFl := fun j hj => va_run (N := 3) (p := 583) (f := fun j => Cond.eq (.elem (stV 9) (.int (Int32.ofNat j))) (.int ((stB 9).getD j 0))) (by decide +kernel) j hj
set_option maxRecDepth 100000 in
theorem n_el_10 : ∀ j, j < (stB 10).length → Cond.eq (.elem (stV 10) (.int (Int32.ofNat j))) (.int ((stB 10).getD j 0)) ∈ NFl := fun j hj => va_run (N := 1) (p := 590) (f := fun j => Cond.eq (.elem (stV 10) (.int (Int32.ofNat j))) (.int ((stB 10).getD j 0))) (by decide +kernel) j hj
set_option maxRecDepth 100000 in
theorem n_el_11 : ∀ j, j < (stB 11).length → Cond.eq (.elem (stV 11) (.int (Int32.ofNat j))) (.int ((stB 11).getD j 0)) ∈ NFl := fun j hj => va_run (N := 1) (p := 595) (f := fun j => Cond.eq (.elem (stV 11) (.int (Int32.ofNat j))) (.int ((stB 11).getD j 0))) (by decide +kernel) j hj
set_option maxRecDepth 100000 in
theorem n_el_12 : ∀ j, j < (stB 12).length → Cond.eq (.elem (stV 12) (.int (Int32.ofNat j))) (.int ((stB 12).getD j 0)) ∈ NFl := fun j hj => va_run (N := 11) (p := 600) (f := fun j => Cond.eq (.elem (stV 12) (.int (Int32.ofNat j))) (.int ((stB 12).getD j 0))) (by decide +kernel) j hj
set_option maxRecDepth 100000 in
theorem n_el_13 : ∀ j, j < (stB 13).length → Cond.eq (.elem (stV 13) (.int (Int32.ofNat j))) (.int ((stB 13).getD j 0)) ∈ NFl := fun j hj => va_run (N := 4) (p := 615) (f := fun j => Cond.eq (.elem (stV 13) (.int (Int32.ofNat j))) (.int ((stB 13).getD j 0))) (by decide +kernel) j hj
set_option maxRecDepth 100000 in
theorem n_el_14 : ∀ j, j < (stB 14).length → Cond.eq (.elem (stV 14) (.int (Int32.ofNat j))) (.int ((stB 14).getD j 0)) ∈ NFl := fun j hj => va_run (N := 6) (p := 623) (f := fun j => Cond.eq (.elem (stV 14) (.int (Int32.ofNat j))) (.int ((stB 14).getD j 0))) (by decide +kernel) j hj
set_option maxRecDepth 100000 in
theorem n_el_15 : ∀ j, j < (stB 15).length → Cond.eq (.elem (stV 15) (.int (Int32.ofNat j))) (.int ((stB 15).getD j 0)) ∈ NFl := fun j hj => va_run (N := 2) (p := 633) (f := fun j => Cond.eq (.elem (stV 15) (.int (Int32.ofNat j))) (.int ((stB 15).getD j 0))) (by decide +kernel) j hj
set_option maxRecDepth 100000 in
theorem n_el_16 : ∀ j, j < (stB 16).length → Cond.eq (.elem (stV 16) (.int (Int32.ofNat j))) (.int ((stB 16).getD j 0)) ∈ NFl := fun j hj => va_run (N := 5) (p := 639) (f := fun j => Cond.eq (.elem (stV 16) (.int (Int32.ofNat j))) (.int ((stB 16).getD j 0))) (by decide +kernel) j hj
set_option maxRecDepth 100000 in
theorem n_el_17 : ∀ j, j < (stB 17).length → Cond.eq (.elem (stV 17) (.int (Int32.ofNat j))) (.int ((stB 17).getD j 0)) ∈ NFl := fun j hj => va_run (N := 23) (p := 648) (f := fun j => Cond.eq (.elem (stV 17) (.int (Int32.ofNat j))) (.int ((stB 17).getD j 0))) (by decide +kernel) j hj
set_option maxRecDepth 100000 in
theorem n_el_18 : ∀ j, j < (stB 18).length → Cond.eq (.elem (stV 18) (.int (Int32.ofNat j))) (.int ((stB 18).getD j 0)) ∈ NFl := fun j hj => va_run (N := 3) (p := 675) (f := fun j => Cond.eq (.elem (stV 18) (.int (Int32.ofNat j))) (.int ((stB 18).getD j 0))) (by decide +kernel) j hj
set_option maxRecDepth 100000 in
theorem n_el_19 : ∀ j, j < (stB 19).length → Cond.eq (.elem (stV 19) (.int (Int32.ofNat j))) (.int ((stB 19).getD j 0)) ∈ NFl := fun j hj => va_run (N := 1) (p := 682) (f := fun j => Cond.eq (.elem (stV 19) (.int (Int32.ofNat j))) (.int ((stB 19).getD j 0))) (by decide +kernel) j hj
set_option maxRecDepth 100000 in
theorem n_el_20 : ∀ j, j < (stB 20).length → Cond.eq (.elem (stV 20) (.int (Int32.ofNat j))) (.int ((stB 20).getD j 0)) ∈ NFl := fun j hj => va_run (N := 3) (p := 687) (f := fun j => Cond.eq (.elem (stV 20) (.int (Int32.ofNat j))) (.int ((stB 20).getD j 0))) (by decide +kernel) j hj
set_option maxRecDepth 100000 in
theorem n_el_21 : ∀ j, j < (stB 21).length → Cond.eq (.elem (stV 21) (.int (Int32.ofNat j))) (.int ((stB 21).getD j 0)) ∈ NFl := fun j hj => va_run (N := 2) (p := 694) (f := fun j => Cond.eq (.elem (stV 21) (.int (Int32.ofNat j))) (.int ((stB 21).getD j 0))) (by decide +kernel) j hj
set_option maxRecDepth 100000 in
theorem n_el_22 : ∀ j, j < (stB 22).length → Cond.eq (.elem (stV 22) (.int (Int32.ofNat j))) (.int ((stB 22).getD j 0)) ∈ NFl := fun j hj => va_run (N := 4) (p := 700) (f := fun j => Cond.eq (.elem (stV 22) (.int (Int32.ofNat j))) (.int ((stB 22).getD j 0))) (by decide +kernel) j hj
set_option maxRecDepth 100000 in
theorem n_el_23 : ∀ j, j < (stB 23).length → Cond.eq (.elem (stV 23) (.int (Int32.ofNat j))) (.int ((stB 23).getD j 0)) ∈ NFl := fun j hj => va_run (N := 2) (p := 708) (f := fun j => Cond.eq (.elem (stV 23) (.int (Int32.ofNat j))) (.int ((stB 23).getD j 0))) (by decide +kernel) j hj
set_option maxRecDepth 100000 in
theorem n_el_24 : ∀ j, j < (stB 24).length → Cond.eq (.elem (stV 24) (.int (Int32.ofNat j))) (.int ((stB 24).getD j 0)) ∈ NFl := fun j hj => va_run (N := 4) (p := 714) (f := fun j => Cond.eq (.elem (stV 24) (.int (Int32.ofNat j))) (.int ((stB 24).getD j 0))) (by decide +kernel) j hj
set_option maxRecDepth 100000 in
theorem n_el_25 : ∀ j, j < (stB 25).length → Cond.eq (.elem (stV 25) (.int (Int32.ofNat j))) (.int ((stB 25).getD j 0)) ∈ NFl := fun j hj => va_run (N := 3) (p := 722) (f := fun j => Cond.eq (.elem (stV 25) (.int (Int32.ofNat j))) (.int ((stB 25).getD j 0))) (by decide +kernel) j hj
set_option maxRecDepth 100000 in
theorem n_el_26 : ∀ j, j < (stB 26).length → Cond.eq (.elem (stV 26) (.int (Int32.ofNat j))) (.int ((stB 26).getD j 0)) ∈ NFl := fun j hj => va_run (N := 4) (p := 729) (f := fun j => Cond.eq (.elem (stV 26) (.int (Int32.ofNat j))) (.int ((stB 26).getD j 0))) (by decide +kernel) j hj
set_option maxRecDepth 100000 in
theorem n_el_27 : ∀ j, j < (stB 27).length → Cond.eq (.elem (stV 27) (.int (Int32.ofNat j))) (.int ((stB 27).getD j 0)) ∈ NFl := fun j hj => va_run (N := 4) (p := 737) (f := fun j => Cond.eq (.elem (stV 27) (.int (Int32.ofNat j))) (.int ((stB 27).getD j 0))) (by decide +kernel) j hj
set_option maxRecDepth 100000 in
theorem n_el_28 : ∀ j, j < (stB 28).length → Cond.eq (.elem (stV 28) (.int (Int32.ofNat j))) (.int ((stB 28).getD j 0)) ∈ NFl := fun j hj => absurd hj (Nat.not_lt_zero _)
set_option maxRecDepth 100000 in
theorem n_el_29 : ∀ j, j < (stB 29).length → Cond.eq (.elem (stV 29) (.int (Int32.ofNat j))) (.int ((stB 29).getD j 0)) ∈ NFl := fun j hj => va_run (N := 5) (p := 750) (f := fun j => Cond.eq (.elem (stV 29) (.int (Int32.ofNat j))) (.int ((stB 29).getD j 0))) (by decide +kernel) j hj
set_option maxRecDepth 100000 in
theorem n_el_30 : ∀ j, j < (stB 30).length → Cond.eq (.elem (stV 30) (.int (Int32.ofNat j))) (.int ((stB 30).getD j 0)) ∈ NFl := fun j hj => va_run (N := 1) (p := 759) (f := fun j => Cond.eq (.elem (stV 30) (.int (Int32.ofNat j))) (.int ((stB 30).getD j 0))) (by decide +kernel) j hj
set_option maxRecDepth 100000 in
theorem n_el_31 : ∀ j, j < (stB 31).length → Cond.eq (.elem (stV 31) (.int (Int32.ofNat j))) (.int ((stB 31).getD j 0)) ∈ NFl := fun j hj => va_run (N := 4) (p := 764) (f := fun j => Cond.eq (.elem (stV 31) (.int (Int32.ofNat j))) (.int ((stB 31).getD j 0))) (by decide +kernel) j hj
set_option maxRecDepth 100000 in
theorem n_el_32 : ∀ j, j < (stB 32).length → Cond.eq (.elem (stV 32) (.int (Int32.ofNat j))) (.int ((stB 32).getD j 0)) ∈ NFl := fun j hj => va_run (N := 2) (p := 772) (f := fun j => Cond.eq (.elem (stV 32) (.int (Int32.ofNat j))) (.int ((stB 32).getD j 0))) (by decide +kernel) j hj
theorem n_el : ∀ i, i < 33 → ∀ j, j < (stB i).length → Cond.eq (.elem (stV i) (.int (Int32.ofNat j))) (.int ((stB i).getD j 0)) ∈ NFl := fun i hi => by
  match i, hi with
  | 0, _ => exact n_el_0
  | 1, _ => exact n_el_1
  | 2, _ => exact n_el_2
  | 3, _ => exact n_el_3
  | 4, _ => exact n_el_4
  | 5, _ => exact n_el_5
  | 6, _ => exact n_el_6
  | 7, _ => exact n_el_7
  | 8, _ => exact n_el_8
  | 9, _ => exact n_el_9
  | 10, _ => exact n_el_10
  | 11, _ => exact n_el_11
  | 12, _ => exact n_el_12
  | 13, _ => exact n_el_13
  | 14, _ => exact n_el_14
  | 15, _ => exact n_el_15
  | 16, _ => exact n_el_16
  | 17, _ => exact n_el_17
  | 18, _ => exact n_el_18
  | 19, _ => exact n_el_19
  | 20, _ => exact n_el_20
  | 21, _ => exact n_el_21
  | 22, _ => exact n_el_22
  | 23, _ => exact n_el_23
  | 24, _ => exact n_el_24
  | 25, _ => exact n_el_25
  | 26, _ => exact n_el_26
  | 27, _ => exact n_el_27
  | 28, _ => exact n_el_28
  | 29, _ => exact n_el_29
  | 30, _ => exact n_el_30
  | 31, _ => exact n_el_31
  | 32, _ => exact n_el_32
  | k + 33, hk => exact absurd hk (by omega)
set_option maxRecDepth 100000 in
theorem n_en : ∀ i, i < 8 → Cond.exactly (enM i) RO' ∈ NFl := by decide +kernel
set_option maxRecDepth 100000 in
theorem n_wo : ∀ i, i < 8 → Cond.eq (.field (enM i) RO' "word" "Ljava/lang/String;") (stM (woO i)) ∈ NFl := by decide +kernel
set_option maxRecDepth 100000 in
theorem n_di : ∀ i, i < 8 → Cond.eq (.field (enM i) RO' "digits" "Ljava/lang/String;") (stM (diO i)) ∈ NFl := by decide +kernel
set_option maxRecDepth 100000 in
theorem n_ne : ∀ i, i < 8 → ∀ j, j < 8 → i ≠ j → Cond.not (.eq (enM i) (enM j)) ∈ NFl ∨ Cond.not (.eq (enM j) (enM i)) ∈ NFl := by decide +kernel
set_option maxRecDepth 100000 in
theorem n_or : Cond.arrayOf arM (.object RO') ∈ NFl ∧ Cond.eq (.length arM) (.int 8) ∈ NFl ∧ (∀ j, j < 8 → Cond.eq (.elem arM (.int (Int32.ofNat j))) (enM j) ∈ NFl) ∧ Cond.eq (.static RS' "COMPACT_STRINGS" "Z") (.int 1) ∈ NFl ∧ Cond.isRef (.static "jdk/internal/util/Preconditions" "SIOOBE_FORMATTER" "Ljava/util/function/BiFunction;") ∈ NFl ∧ Cond.isRef (.static Bundle.tN "UNASSIGNED_STACK" Bundle.steD) ∈ NFl ∧ Cond.isRef (.static Bundle.tN "SUPPRESSED_SENTINEL" Bundle.listD) ∈ NFl := by decide +kernel
set_option maxRecDepth 100000 in
theorem n_nc : ∀ i, i < 6 → ∀ j, j < 5 → i ≠ j → Cond.not (.castable (exN i) (exN j)) ∈ NFl := by decide +kernel
set_option maxRecDepth 100000 in
theorem t_en : ∀ i, i < 8 → Cond.laysStatic RO' (nmO i) "LTinRoofScore$Order;" ∈ lw_tbl := by decide +kernel
set_option maxRecDepth 100000 in
theorem t_ls : Cond.laysStatic "TinRoofScore" "ORDERS" "[LTinRoofScore$Order;" ∈ lw_tbl ∧ Cond.laysStatic RS' "COMPACT_STRINGS" "Z" ∈ lw_tbl ∧ Cond.laysStatic "jdk/internal/util/Preconditions" "SIOOBE_FORMATTER" "Ljava/util/function/BiFunction;" ∈ lw_tbl ∧ Cond.laysStatic Bundle.tN "UNASSIGNED_STACK" Bundle.steD ∈ lw_tbl ∧ Cond.laysStatic Bundle.tN "SUPPRESSED_SENTINEL" Bundle.listD ∈ lw_tbl := by decide +kernel
set_option maxRecDepth 100000 in
theorem t_in : Cond.initialized RO' ∈ lw_tbl ∧ Cond.initialized "TinRoofScore" ∈ lw_tbl ∧ Cond.initialized RS' ∈ lw_tbl ∧ Cond.initialized "jdk/internal/util/Preconditions" ∈ lw_tbl ∧ Cond.initialized Bundle.tN ∈ lw_tbl := by decide +kernel
set_option maxRecDepth 100000 in
theorem t_sr : ∀ i, i < 18 → Cond.stringRef (stO i) (stK i) (stT i) ∈ lw_tbl := by decide +kernel
set_option maxRecDepth 100000 in
theorem t_ao : Cond.arrayOver (.object "TinRoofScore$Order") ∈ lw_tbl ∧ Cond.arrayOver (.object "TinRoofScore$Print") ∈ lw_tbl := by decide +kernel
set_option maxRecDepth 100000 in
theorem t_aoi : Cond.arrayOver (.array .int) ∈ lw_tbl := by decide +kernel
def dM (i : Nat) : Term := .static "java/lang/Integer" (if i = 0 then "DigitOnes" else "DigitTens") "[B"
set_option maxRecDepth 100000 in
theorem n_dg0 : Cond.arrayOf (dM 0) .byte ∈ NFl ∧ Cond.eq (.length (dM 0)) (.int 100) ∈ NFl := by decide +kernel
set_option maxRecDepth 100000 in
theorem n_de0 : ∀ j, j < 100 → Cond.eq (.elem (dM 0) (.int (Int32.ofNat j))) (.int (nI (48 + j % 10))) ∈ NFl := fun j hj => va_run (N := 100) (p := 74) (f := fun j => Cond.eq (.elem (dM 0) (.int (Int32.ofNat j))) (.int (nI (48 + j % 10)))) (by decide +kernel) j hj
set_option maxRecDepth 100000 in
theorem n_dg1 : Cond.arrayOf (dM 1) .byte ∈ NFl ∧ Cond.eq (.length (dM 1)) (.int 100) ∈ NFl := by decide +kernel
set_option maxRecDepth 100000 in
theorem n_de1 : ∀ j, j < 100 → Cond.eq (.elem (dM 1) (.int (Int32.ofNat j))) (.int (nI (48 + j / 10))) ∈ NFl := fun j hj => va_run (N := 100) (p := 177) (f := fun j => Cond.eq (.elem (dM 1) (.int (Int32.ofNat j))) (.int (nI (48 + j / 10)))) (by decide +kernel) j hj
set_option maxRecDepth 100000 in
theorem t_dg : Cond.laysStatic "java/lang/Integer" "DigitOnes" "[B" ∈ lw_tbl ∧ Cond.laysStatic "java/lang/Integer" "DigitTens" "[B" ∈ lw_tbl ∧ Cond.initialized "java/lang/Integer" ∈ lw_tbl := by decide +kernel
set_option maxRecDepth 100000 in
theorem t_pm : ∀ y ∈ pv4, Cond.privateMethod y ∈ lw_tbl ∧ Cond.instanceMethod y ∈ lw_tbl := by decide +kernel
