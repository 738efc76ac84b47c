def f_X10_skip_2 (i1 : Nat) (n : Nat) (G : GT) (y2 : Int32) : Option (GT) := lq2 (fun (k2 : GT → Int32 → Option (GT)) (G : GT) (x2 : Int32) => (if (nI (stB i1).length) ≤ x2 then some G else (if (G 0 15) = 0 then (if inb x2 (stB i1).length then (if inb x2 (stB i1).length then (bind2 (f_X10_sign G (chB (stB i1) x2) (chB (stB i1) x2)) fun r5 G5 => k2 G5 (x2 + 1)) else none) else none) else some G))) n G y2
def f_X10_skip (G : GT) (i1 : Nat) : Option (GT) := f_X10_skip_2 i1 4096 G (0 : Int32)
set_option maxRecDepth 100000 in
set_option maxHeartbeats 4000000 in
theorem q_X10_skip (l : Launch) (D : va_G) (Y : Nat → ClassId) (ad : Nat → Nat) (kd : Nat → Nat) (hI : Inj 8 ad) (G : GT) (i1 : Nat) (hi1 : i1 < 31) (G' : GT) (h : f_X10_skip G i1 = some G') : WKv l yX10_skip cX10_skip 4 4 D Y 8 ad (kM Y ad) kd G [.ref (ad 0), .ref (kd (200 + i1))] G' := by
  refine RK_of (ret := none) (by decide) (Nat.le_of_ble_eq_true rfl) (lv := [(0, .ref (ad 0)), (1, .ref (kd (200 + i1)))]) rfl ?_
  intro p e s m below meth c ls F hP hK hS hr hk hl
  have F : Fx p c cX10_skip 4 s m _ RX10 D Y := F
  have hx := F.1.1
  have hb := F.1.2.1
  have hts := F.1.2.2.2.2
  have hown := F.1.2.2.2.1
  have key2 : ∀ (n : Nat) (G : GT) (x2 : Int32) (H : Heap) (locs : List Loc), va_P D vwCl (wsM Y ad G) H → va_S (AW 8 ad) s.heap H locs → ∀ ls : Array Slot, lv_has ls 4 [(0, .ref (ad 0)), (1, .ref (kd (200 + i1))), (2, .int x2)] → f_X10_skip_2 i1  n G x2 = some G' → WW p l e 4 s m ([.ref (ad 0), .ref (kd (200 + i1))] : List Value).toArray below meth c H locs (WQv D (wsM Y ad G') (AW 8 ad)) (AW 8 ad) (F0 m 2 ls []) := by
    intro  n
    induction n with
    | zero => intro G x2 H locs hP hS ls hl h; exact lqZ2 h
    | succ n2 ih2 =>
      intro G x2 H locs hP hS ls hl h
      have h := lqS2 h
      refine lv_iload_n hx hb dX10_skip_2 rfl (lv_at hl 2 rfl) ?_
      refine lv_aload_n hx hb dX10_skip_3 rfl (lv_at hl 1 rfl) ?_
      refine rk_V F hP hK hS k_J0_length_8abf5 mw_1672 (strRec hK hS hi1) (q_length l D Y _ kd _ i1 hi1) rfl hl.1 ⟨Nat.le_of_ble_eq_true rfl, Nat.le_of_ble_eq_true rfl⟩ (rest := [.int x2]) rfl (Nat.le_of_ble_eq_true rfl) ⟨Nat.le_of_ble_eq_true rfl, Nat.le_of_ble_eq_true rfl⟩ dX10_skip_4 (fun _ => ?_)
      refine lv_icmp_ge (tgt := 38) hx hb dX10_skip_7 (by decide) (fun c1 => ?_) (fun c1 => ?_)
      · have h := ifT h c1
        exact wv_end F hP hS hr hk h dX10_skip_38
      · have h := ifF h c1
        refine lv_aload_n hx hb dX10_skip_10 rfl (lv_at hl 0 rfl) ?_
        refine rM_0_15 F hP dX10_skip_11 ?_
        refine lv_if_ne (tgt := 38) hx hb dX10_skip_14 (by decide) (fun c2 => ?_) (fun c2 => ?_)
        · have h := ifF h c2
          exact wv_end F hP hS hr hk h dX10_skip_38
        · have h := ifT h c2
          refine lv_aload_n hx hb dX10_skip_17 rfl (lv_at hl 0 rfl) ?_
          refine lv_aload_n hx hb dX10_skip_18 rfl (lv_at hl 1 rfl) ?_
          refine lv_iload_n hx hb dX10_skip_19 rfl (lv_at hl 2 rfl) ?_
          obtain ⟨b3, h⟩ := ckS h
          refine rk_V F hP hK hS k_J0_charAt_5068e mw_1673 (strRec hK hS hi1) (q_charAt l D Y _ kd _ i1 hi1 x2 (Int32.not_lt.mpr b3.1) b3.2) rfl hl.1 ⟨Nat.le_of_ble_eq_true rfl, Nat.le_of_ble_eq_true rfl⟩ (rest := [.ref (ad 0)]) rfl (Nat.le_of_ble_eq_true rfl) ⟨Nat.le_of_ble_eq_true rfl, Nat.le_of_ble_eq_true rfl⟩ dX10_skip_20 (fun _ => ?_)
          refine lv_aload_n hx hb dX10_skip_23 rfl (lv_at hl 1 rfl) ?_
          refine lv_iload_n hx hb dX10_skip_24 rfl (lv_at hl 2 rfl) ?_
          obtain ⟨b4, h⟩ := ckS h
          refine rk_V F hP hK hS k_J0_charAt_5068e mw_1673 (strRec hK hS hi1) (q_charAt l D Y _ kd _ i1 hi1 x2 (Int32.not_lt.mpr b4.1) b4.2) rfl hl.1 ⟨Nat.le_of_ble_eq_true rfl, Nat.le_of_ble_eq_true rfl⟩ (rest := [.int ((chB (stB i1) x2)), .ref (ad 0)]) rfl (Nat.le_of_ble_eq_true rfl) ⟨Nat.le_of_ble_eq_true rfl, Nat.le_of_ble_eq_true rfl⟩ dX10_skip_25 (fun _ => ?_)
          obtain ⟨r5, G5, e5, h⟩ := bsome2 h
          refine wr_V F hP hS k_X10_sign mw_1674 0 11 rfl (wsW_get 0 (by decide)) (q_X10_sign l D Y ad hI G (chB (stB i1) x2) (chB (stB i1) x2) r5 G5 e5) rfl hl.1 ⟨Nat.le_of_ble_eq_true rfl, Nat.le_of_ble_eq_true rfl⟩ (rest := []) rfl (Nat.le_of_ble_eq_true rfl) ⟨Nat.le_of_ble_eq_true rfl, Nat.le_of_ble_eq_true rfl⟩ dX10_skip_28 (fun H locs o5 hP hS => ?_)
          refine lv_istore_n (lv' := [(3, .int r5), (0, .ref (ad 0)), (1, .ref (kd (200 + i1))), (2, .int x2)]) hx hb dX10_skip_31 rfl hl (by decide) rfl (fun ls hl => ?_)
          refine lv_iinc (v := (x2 + 1)) (lv' := [(2, .int ((x2 + 1))), (3, .int r5), (0, .ref (ad 0)), (1, .ref (kd (200 + i1)))]) hx hb dX10_skip_32 hl (k := 3) rfl rfl (by decide) rfl (fun ls hl => ?_)
          refine lv_goto (tgt := 2) hx hb dX10_skip_35 (by decide) ?_
          exact ih2 G5 (x2 + 1) _ _ hP hS ls (lv_sub hl [2, 3, 0] rfl) h
  refine lv_iconst (v := 0) hx hb dX10_skip_0 (by decide) ?_
  refine lv_istore_n (lv' := [(2, .int ((0 : Int32))), (0, .ref (ad 0)), (1, .ref (kd (200 + i1)))]) hx hb dX10_skip_1 rfl hl (by decide) rfl (fun ls hl => ?_)
  exact key2 4096 G (0 : Int32) _ _ hP hS ls (lv_sub hl [1, 2, 0] rfl) h
def f_X10_number (G : GT) (a1 : Int32) : Option (Int32 × GT) := ((f_X10_skip G 15).bind fun G1 => (bind2 (f_X10_sign G1 (48 : Int32) (57 : Int32)) fun r2 G2 => (if a1 = 0 then some (r2, G2) else ((f_X10_isHere G2 (48 : Int32) (57 : Int32)).bind fun r4 => (if r4 = 0 then some (r2, G2) else (bind2 (f_X10_sign G2 (48 : Int32) (57 : Int32)) fun r6 G6 => some ((((10 : Int32) * r2) + r6), G6)))))))
set_option maxRecDepth 100000 in
set_option maxHeartbeats 4000000 in
theorem q_X10_number (l : Launch) (D : va_G) (Y : Nat → ClassId) (ad : Nat → Nat) (kd : Nat → Nat) (hI : Inj 8 ad) (G : GT) (a1 : Int32) (r : Int32) (G' : GT) (h : f_X10_number G a1 = some (r, G')) : WKi l yX10_number cX10_number 3 (some .int) 5 D Y 8 ad (kM Y ad) kd G [.ref (ad 0), .int a1] r G' := by
  refine RK_of (ret := (some .int)) (by decide) (Nat.le_of_ble_eq_true rfl) (lv := [(0, .ref (ad 0)), (1, .int a1)]) rfl ?_
  intro p e s m below meth c ls F hP hK hS hr hk hl
  have F : Fx p c cX10_number 3 s m _ RX10 D Y := F
  have hx := F.1.1
  have hb := F.1.2.1
  have hts := F.1.2.2.2.2
  have hown := F.1.2.2.2.1
  refine lv_aload_n hx hb dX10_number_0 rfl (lv_at hl 0 rfl) ?_
  refine va_ldcS hx hb hown (hK.2.2.2.2.2 15 (by decide)) dX10_number_1 ?_
  obtain ⟨G1, e1, h⟩ := bsome h
  refine wkv_V F hP hK hS k_X10_skip mw_1668 0 11 rfl (wsW_get 0 (by decide)) (q_X10_skip l D Y ad kd hI G 15 (by decide) G1 e1) rfl hl.1 ⟨Nat.le_of_ble_eq_true rfl, Nat.le_of_ble_eq_true rfl⟩ (rest := []) rfl (Nat.le_of_ble_eq_true rfl) ⟨Nat.le_of_ble_eq_true rfl, Nat.le_of_ble_eq_true rfl⟩ dX10_number_3 (fun H locs hP hS => ?_)
  refine lv_aload_n hx hb dX10_number_6 rfl (lv_at hl 0 rfl) ?_
  refine lv_bipush (v := 48) hx hb dX10_number_7 (by decide) ?_
  refine lv_bipush (v := 57) hx hb dX10_number_9 (by decide) ?_
  obtain ⟨r2, G2, e2, h⟩ := bsome2 h
  refine wr_V F hP hS k_X10_sign mw_1674 0 11 rfl (wsW_get 0 (by decide)) (q_X10_sign l D Y ad hI G1 (48 : Int32) (57 : Int32) r2 G2 e2) rfl hl.1 ⟨Nat.le_of_ble_eq_true rfl, Nat.le_of_ble_eq_true rfl⟩ (rest := []) rfl (Nat.le_of_ble_eq_true rfl) ⟨Nat.le_of_ble_eq_true rfl, Nat.le_of_ble_eq_true rfl⟩ dX10_number_11 (fun H locs o2 hP hS => ?_)
  refine lv_istore_n (lv' := [(2, .int r2), (0, .ref (ad 0)), (1, .int a1)]) hx hb dX10_number_14 rfl hl (by decide) rfl (fun ls hl => ?_)
  refine lv_iload_n hx hb dX10_number_15 rfl (lv_at hl 2 rfl) ?_
  refine lv_if_eq (tgt := 46) hx hb dX10_number_16 (by decide) (fun c3 => ?_) (fun c3 => ?_)
  · have h := ifT h c3
    refine lv_iload_n hx hb dX10_number_46 rfl (lv_at hl 0 rfl) ?_
    exact wr_end F hP hS hr hk rfl h dX10_number_47
  · have h := ifF h c3
    refine lv_aload_n hx hb dX10_number_19 rfl (lv_at hl 1 rfl) ?_
    refine lv_bipush (v := 48) hx hb dX10_number_20 (by decide) ?_
    refine lv_bipush (v := 57) hx hb dX10_number_22 (by decide) ?_
    obtain ⟨r4, e4, h⟩ := bsome h
    refine rd_V F hP k_X10_isHere mw_1678 0 11 rfl (wsW_get 0 (by decide)) (q_X10_isHere l D Y ad G2 (48 : Int32) (57 : Int32) r4 e4) rfl hl.1 ⟨Nat.le_of_ble_eq_true rfl, Nat.le_of_ble_eq_true rfl⟩ (rest := []) rfl (Nat.le_of_ble_eq_true rfl) ⟨Nat.le_of_ble_eq_true rfl, Nat.le_of_ble_eq_true rfl⟩ dX10_number_24 (fun o4 => ?_)
    refine lv_if_eq (tgt := 46) hx hb dX10_number_27 (by decide) (fun c5 => ?_) (fun c5 => ?_)
    · have h := ifT h c5
      refine lv_iload_n hx hb dX10_number_46 rfl (lv_at hl 0 rfl) ?_
      exact wr_end F hP hS hr hk rfl h dX10_number_47
    · have h := ifF h c5
      refine lv_bipush (v := 10) hx hb dX10_number_30 (by decide) ?_
      refine lv_iload_n hx hb dX10_number_32 rfl (lv_at hl 0 rfl) ?_
      refine lv_imul hx hb dX10_number_33 ?_
      refine lv_aload_n hx hb dX10_number_34 rfl (lv_at hl 1 rfl) ?_
      refine lv_bipush (v := 48) hx hb dX10_number_35 (by decide) ?_
      refine lv_bipush (v := 57) hx hb dX10_number_37 (by decide) ?_
      obtain ⟨r6, G6, e6, h⟩ := bsome2 h
      refine wr_V F hP hS k_X10_sign mw_1674 0 11 rfl (wsW_get 0 (by decide)) (q_X10_sign l D Y ad hI G2 (48 : Int32) (57 : Int32) r6 G6 e6) rfl hl.1 ⟨Nat.le_of_ble_eq_true rfl, Nat.le_of_ble_eq_true rfl⟩ (rest := [.int (((10 : Int32) * r2))]) rfl (Nat.le_of_ble_eq_true rfl) ⟨Nat.le_of_ble_eq_true rfl, Nat.le_of_ble_eq_true rfl⟩ dX10_number_39 (fun H locs o6 hP hS => ?_)
      refine lv_iadd hx hb dX10_number_42 ?_
      refine lv_goto (tgt := 47) hx hb dX10_number_43 (by decide) ?_
      exact wr_end F hP hS hr hk rfl h dX10_number_47
