def f_X10_skip_2 (i1 : Nat) (n : Nat) (G : GT) (y2 : Int32) : Option (GT) := lq2 (fun (k2 : GT → Int32 → Option (GT)) (G : GT) (x2 : Int32) => (if (nI (stB i1).length) ≤ x2 then some G else (if (G 0 15) = 0 then (if inb x2 (stB i1).length then (if inb x2 (stB i1).length then (bind2 (f_X10_sign G (chB (stB i1) x2) (chB (stB i1) x2)) fun r5 G5 => k2 G5 (x2 + 1)) else none) else none) else some G))) n G y2
def f_X10_skip (G : GT) (i1 : Nat) : Option (GT) := f_X10_skip_2 i1 4096 G (0 : Int32)
set_option maxRecDepth 100000 in
set_option maxHeartbeats 4000000 in
theorem q_X10_skip (l : Launch) (D : va_G) (Y : Nat → ClassId) (ad : Nat → Nat) (kd : Nat → Nat) (hI : Inj 8 ad) (G : GT) (i1 : Nat) (hi1 : i1 < 31) (G' : GT) (h : f_X10_skip G i1 = some G') : WKv l yX10_skip cX10_skip 4 4 D Y 8 ad (kM Y ad) kd G [.ref (ad 0), .ref (kd (200 + i1))] G' := by
  refine RK_of (ret := none) (by decide) (Nat.le_of_ble_eq_true rfl) (lv := [(0, .ref (ad 0)), (1, .ref (kd (200 + i1)))]) rfl ?_
  intro p e s m below meth c ls F hP hK hS hr hk hl
  have F : Fx p c cX10_skip 4 s m _ RX10 D Y := F
  have hx := F.1.1
  have hb := F.1.2.1
  have hts := F.1.2.2.2.2
  have hown := F.1.2.2.2.1
  have key2 : ∀ (n : Nat) (G : GT) (x2 : Int32) (H : Heap) (locs : List Loc), va_P D vwCl (wsM Y ad G) H → va_S (AW 8 ad) s.heap H locs → ∀ ls : Array Slot, lv_has ls 4 [(0, .ref (ad 0)), (1, .ref (kd (200 + i1))), (2, .int x2)] → f_X10_skip_2 i1  n G x2 = some G' → WW p l e 4 s m ([.ref (ad 0), .ref (kd (200 + i1))] : List Value).toArray below meth c H locs (WQv D (wsM Y ad G') (AW 8 ad)) (AW 8 ad) (F0 m 2 ls []) := by
    intro  n
    induction n with
    | zero => intro G x2 H locs hP hS ls hl h; exact lqZ2 h
    | succ n2 ih2 =>
      intro G x2 H locs hP hS ls hl h
      have h := lqS2 h
      refine lv_iload_n hx hb dX10_skip_2 rfl (lv_at hl 2 rfl) ?_
      refine lv_aload_n hx hb dX10_skip_3 rfl (lv_at hl 1 rfl) ?_
      refine rk_V F hP hK hS k_J0_length_8abf5 mw_1672 (strRec hK hS hi1) (q_length l D Y _ kd _ i1 hi1) rfl hl.1 ⟨Nat.le_of_ble_eq_true rfl, Nat.le_of_ble_eq_true rfl⟩ (rest := [.int x2]) rfl (Nat.le_of_ble_eq_true rfl) ⟨Nat.le_of_ble_eq_true rfl, Nat.le_of_ble_eq_true rfl⟩ dX10_skip_4 (fun _ => ?_)
      refine lv_icmp_ge (tgt := 38) hx hb dX10_skip_7 (by decide) (fun c1 => ?_) (fun c1 => ?_)
      · have h := ifT h c1
        exact wv_end F hP hS hr hk h dX10_skip_38
      · have h := ifF h c1
        refine lv_aload_n hx hb dX10_skip_10 rfl (lv_at hl 0 rfl) ?_
        refine rM_0_15 F hP dX10_skip_11 ?_
        refine lv_if_ne (tgt := 38) hx hb dX10_skip_14 (by decide) (fun c2 => ?_) (fun c2 => ?_)
        · have h := ifF h c2
          exact wv_end F hP hS hr hk h dX10_skip_38
        · have h := ifT h c2
          refine lv_aload_n hx hb dX10_skip_17 rfl (lv_at hl 0 rfl) ?_
          refine lv_aload_n hx hb dX10_skip_18 rfl (lv_at hl 1 rfl) ?_
          refine lv_iload_n hx hb dX10_skip_19 rfl (lv_at hl 2 rfl) ?_
          obtain ⟨b3, h⟩ := ckS h
          refine rk_V F hP hK hS k_J0_charAt_5068e mw_1673 (strRec hK hS hi1) (q_charAt l D Y _ kd _ i1 hi1 x2 (Int32.not_lt.mpr b3.1) b3.2) rfl hl.1 ⟨Nat.le_of_ble_eq_true rfl, Nat.le_of_ble_eq_true rfl⟩ (rest := [.ref (ad 0)]) rfl (Nat.le_of_ble_eq_true rfl) ⟨Nat.le_of_ble_eq_true rfl, Nat.le_of_ble_eq_true rfl⟩ dX10_skip_20 (fun _ => ?_)
          refine lv_aload_n hx hb dX10_skip_23 rfl (lv_at hl 1 rfl) ?_
          refine lv_iload_n hx hb dX10_skip_24 rfl (lv_at hl 2 rfl) ?_
          obtain ⟨b4, h⟩ := ckS h
          refine rk_V F hP hK hS k_J0_charAt_5068e mw_1673 (strRec hK hS hi1) (q_charAt l D Y _ kd _ i1 hi1 x2 (Int32.not_lt.mpr b4.1) b4.2) rfl hl.1 ⟨Nat.le_of_ble_eq_true rfl, Nat.le_of_ble_eq_true rfl⟩ (rest := [.int ((chB (stB i1) x2)), .ref (ad 0)]) rfl (Nat.le_of_ble_eq_true rfl) ⟨Nat.le_of_ble_eq_true rfl, Nat.le_of_ble_eq_true rfl⟩ dX10_skip_25 (fun _ => ?_)
          obtain ⟨r5, G5, e5, h⟩ := bsome2 h
          refine wr_V F hP hS k_X10_sign mw_1674 0 11 rfl (wsW_get 0 (by decide)) (q_X10_sign l D Y ad hI G (chB (stB i1) x2) (chB (stB i1) x2) r5 G5 e5) rfl hl.1 ⟨Nat.le_of_ble_eq_true rfl, Nat.le_of_ble_eq_true rfl⟩ (rest := []) rfl (Nat.le_of_ble_eq_true rfl) ⟨Nat.le_of_ble_eq_true rfl, Nat.le_of_ble_eq_true rfl⟩ dX10_skip_28 (fun H locs o5 hP hS => ?_)
          refine lv_istore_n (lv' := [(3, .int r5), (0, .ref (ad 0)), (1, .ref (kd (200 + i1))), (2, .int x2)]) hx hb dX10_skip_31 rfl hl (by decide) rfl (fun ls hl => ?_)
          refine lv_iinc (v := (x2 + 1)) (lv' := [(2, .int ((x2 + 1))), (3, .int r5), (0, .ref (ad 0)), (1, .ref (kd (200 + i1)))]) hx hb dX10_skip_32 hl (k := 3) rfl rfl (by decide) rfl (fun ls hl => ?_)
          refine lv_goto (tgt := 2) hx hb dX10_skip_35 (by decide) ?_
          exact ih2 G5 (x2 + 1) _ _ hP hS ls (lv_sub hl [2, 3, 0] rfl) h
  refine lv_iconst (v := 0) hx hb dX10_skip_0 (by decide) ?_
  refine lv_istore_n (lv' := [(2, .int ((0 : Int32))), (0, .ref (ad 0)), (1, .ref (kd (200 + i1)))]) hx hb dX10_skip_1 rfl hl (by decide) rfl (fun ls hl => ?_)
  exact key2 4096 G (0 : Int32) _ _ hP hS ls (lv_sub hl [1, 2, 0] rfl) h
def f_X10_number (G : GT) (a1 : Int32) : Option (Int32 × GT) := ((f_X10_skip G 15).bind fun G1 => (bind2 (f_X10_sign G1 (48 : Int32) (57 : Int32)) fun r2 G2 => (if a1 = 0 then some (r2, G2) else ((f_X10_isHere G2 (48 : Int32) (57 : Int32)).bind fun r4 => (if r4 = 0 then some (r2, G2) else (bind2 (f_X10_sign G2 (48 : Int32) (57 : Int32)) fun r6 G6 => some ((((10 : Int32) * r2) + r6), G6)))))))
set_option maxRecDepth 100000 in
set_option maxHeartbeats 4000000 in
theorem q_X10_number (l : Launch) (D : va_G) (Y : Nat → ClassId) (ad : Nat → Nat) (kd : Nat → Nat) (hI : Inj 8 ad) (G : GT) (a1 : Int32) (r : Int32) (G' : GT) (h : f_X10_number G a1 = some (r, G')) : WKi l yX10_number cX10_number 3 (some .int) 5 D Y 8 ad (kM Y ad) kd G [.ref (ad 0), .int a1] r G' := by
  refine RK_of (ret := (some .int)) (by decide) (Nat.le_of_ble_eq_true rfl) (lv := [(0, .ref (ad 0)), (1, .int a1)]) rfl ?_
  intro p e s m below meth c ls F hP hK hS hr hk hl
  have F : Fx p c cX10_number 3 s m _ RX10 D Y := F
  have hx := F.1.1
  have hb := F.1.2.1
  have hts := F.1.2.2.2.2
  have hown := F.1.2.2.2.1
  refine lv_aload_n hx hb dX10_number_0 rfl (lv_at hl 0 rfl) ?_
  refine va_ldcS hx hb hown (hK.2.2.2.2.2 15 (by decide)) dX10_number_1 ?_
  obtain ⟨G1, e1, h⟩ := bsome h
  refine wkv_V F hP hK hS k_X10_skip mw_1668 0 11 rfl (wsW_get 0 (by decide)) (q_X10_skip l D Y ad kd hI G 15 (by decide) G1 e1) rfl hl.1 ⟨Nat.le_of_ble_eq_true rfl, Nat.le_of_ble_eq_true rfl⟩ (rest := []) rfl (Nat.le_of_ble_eq_true rfl) ⟨Nat.le_of_ble_eq_true rfl, Nat.le_of_ble_eq_true rfl⟩ dX10_number_3 (fun H locs hP hS => ?_)
  refine lv_aload_n hx hb dX10_number_6 rfl (lv_at hl 0 rfl) ?_
  refine lv_bipush (v := 48) hx hb dX10_number_7 (by decide) ?_
  refine lv_bipush (v := 57) hx hb dX10_number_9 (by decide) ?_
  obtain ⟨r2, G2, e2, h⟩ := bsome2 h
  refine wr_V F hP hS k_X10_sign mw_1674 0 11 rfl (wsW_get 0 (by decide)) (q_X10_sign l D Y ad hI G1 (48 : Int32) (57 : Int32) r2 G2 e2) rfl hl.1 ⟨Nat.le_of_ble_eq_true rfl, Nat.le_of_ble_eq_true rfl⟩ (rest := []) rfl (Nat.le_of_ble_eq_true rfl) ⟨Nat.le_of_ble_eq_true rfl, Nat.le_of_ble_eq_true rfl⟩ dX10_number_11 (fun H locs o2 hP hS => ?_)
  refine lv_istore_n (lv' := [(2, .int r2), (0, .ref (ad 0)), (1, .int a1)]) hx hb dX10_number_14 rfl hl (by decide) rfl (fun ls hl => ?_)
  refine lv_iload_n hx hb dX10_number_15 rfl (lv_at hl 2 rfl) ?_
  refine lv_if_eq (tgt := 46) hx hb dX10_number_16 (by decide) (fun c3 => ?_) (fun c3 => ?_)
  · have h := ifT h c3
    refine lv_iload_n hx hb dX10_number_46 rfl (lv_at hl 0 rfl) ?_
    exact wr_end F hP hS hr hk rfl h dX10_number_47
  · have h := ifF h c3
    refine lv_aload_n hx hb dX10_number_19 rfl (lv_at hl 1 rfl) ?_
    refine lv_bipush (v := 48) hx hb dX10_number_20 (by decide) ?_
    refine lv_bipush (v := 57) hx hb dX10_number_22 (by decide) ?_
    obtain ⟨r4, e4, h⟩ := bsome h
    refine rd_V F hP k_X10_isHere mw_1678 0 11 rfl (wsW_get 0 (by decide)) (q_X10_isHere l D Y ad G2 (48 : Int32) (57 : Int32) r4 e4) rfl hl.1 ⟨Nat.le_of_ble_eq_true rfl, Nat.le_of_ble_eq_true rfl⟩ (rest := []) rfl (Nat.le_of_ble_eq_true rfl) ⟨Nat.le_of_ble_eq_true rfl, Nat.le_of_ble_eq_true rfl⟩ dX10_number_24 (fun o4 => ?_)
    refine lv_if_eq (tgt := 46) hx hb dX10_number_27 (by decide) (fun c5 => ?_) (fun c5 => ?_)
    · have h := ifT h c5
      refine lv_iload_n hx hb dX10_number_46 rfl (lv_at hl 0 rfl) ?_
      exact wr_end F hP hS hr hk rfl h dX10_number_47
    · have h := ifF h c5
      refine lv_bipush (v := 10) hx hb dX10_number_30 (by decide) ?_
      refine lv_iload_n hx hb dX10_number_32 rfl (lv_at hl 0 rfl) ?_
      refine lv_imul hx hb dX10_number_33 ?_
      refine lv_aload_n hx hb dX10_number_34 rfl (lv_at hl 1 rfl) ?_
      refine lv_bipush (v := 48) hx hb dX10_number_35 (by decide) ?_
      refine lv_bipush (v := 57) hx hb dX10_number_37 (by decide) ?_
      obtain ⟨r6, G6, e6, h⟩ := bsome2 h
      refine wr_V F hP hS k_X10_sign mw_1674 0 11 rfl (wsW_get 0 (by decide)) (q_X10_sign l D Y ad hI G2 (48 : Int32) (57 : Int32) r6 G6 e6) rfl hl.1 ⟨Nat.le_of_ble_eq_true rfl, Nat.le_of_ble_eq_true rfl⟩ (rest := [.int (((10 : Int32) * r2))]) rfl (Nat.le_of_ble_eq_true rfl) ⟨Nat.le_of_ble_eq_true rfl, Nat.le_of_ble_eq_true rfl⟩ dX10_number_39 (fun H locs o6 hP hS => ?_)
      refine lv_iadd hx hb dX10_number_42 ?_
      refine lv_goto (tgt := 47) hx hb dX10_number_43 (by decide) ?_
      exact wr_end F hP hS hr hk rfl h dX10_number_47
def f_X10_readOrder_258 (G : GT) (x1 : Int32) (x3 : Int32) : Option (GT) := (if x3 = (100 : Int32) then (bind2 (f_X10_number G (0 : Int32)) fun r2 G2 => (if inb (x1 + (3 : Int32)) 240 then ((some (upR G2 7 (upd (G2 7) (x1 + (3 : Int32)).toNatClampNeg r2))).bind fun G4 => some G4) else none)) else some G)
def f_X10_readOrder_254 (G : GT) (x1 : Int32) (x3 : Int32) (s254_0 : Int32) (s254_2 : Int32) : Option (GT) := (bind2 (f_X10_number G s254_0) fun r5 G5 => (if inb s254_2 240 then ((some (upR G5 7 (upd (G5 7) s254_2.toNatClampNeg r5))).bind fun G7 => f_X10_readOrder_258 G7 x1 x3) else none))
def f_X10_readOrder_235 (G : GT) (x1 : Int32) (x3 : Int32) : Option (GT) := (if x3 = (107 : Int32) then f_X10_readOrder_254 G x1 x3 (1 : Int32) (x1 + (2 : Int32)) else f_X10_readOrder_254 G x1 x3 (0 : Int32) (x1 + (2 : Int32)))
def f_X10_readOrder_207 (G : GT) (x1 : Int32) (x3 : Int32) (s207_0 : Int32) (s207_2 : Int32) : Option (GT) := (bind2 (f_X10_number G s207_0) fun r9 G9 => (if inb s207_2 240 then ((some (upR G9 7 (upd (G9 7) s207_2.toNatClampNeg r9))).bind fun G11 => (if x3 = (107 : Int32) then f_X10_readOrder_235 G11 x1 x3 else (if x3 = (108 : Int32) then f_X10_readOrder_235 G11 x1 x3 else (if x3 = (100 : Int32) then f_X10_readOrder_235 G11 x1 x3 else (if x3 = (116 : Int32) then f_X10_readOrder_235 G11 x1 x3 else f_X10_readOrder_258 G11 x1 x3))))) else none))
def f_X10_readOrder_202 (G : GT) (x1 : Int32) (x3 : Int32) (s202_1 : Int32) : Option (GT) := f_X10_readOrder_207 G x1 x3 (1 : Int32) s202_1
def f_X10_readOrder_165 (G : GT) (x1 : Int32) (x3 : Int32) (s165_0 : Nat) : Option (GT) := ((f_X10_skip G s165_0).bind fun G16 => (if x3 = (76 : Int32) then some G16 else (if (G16 0 15) = 0 then (if x3 = (109 : Int32) then f_X10_readOrder_202 G16 x1 x3 (x1 + (1 : Int32)) else (if x3 = (116 : Int32) then f_X10_readOrder_202 G16 x1 x3 (x1 + (1 : Int32)) else f_X10_readOrder_207 G16 x1 x3 (0 : Int32) (x1 + (1 : Int32)))) else some G16)))
def f_X10_readOrder_162 (G : GT) (x1 : Int32) (x3 : Int32) : Option (GT) := f_X10_readOrder_165 G x1 x3 14
def f_X10_readOrder_68 (G : GT) (x1 : Int32) (x2 : Int32) (s68_0 : Int32) : Option (GT) := (if inb x1 240 then ((some (upR G 7 (upd (G 7) x1.toNatClampNeg s68_0))).bind fun G22 => (if s68_0 = (98 : Int32) then f_X10_readOrder_165 G22 x1 s68_0 7 else (if s68_0 = (107 : Int32) then f_X10_readOrder_165 G22 x1 s68_0 8 else (if s68_0 = (100 : Int32) then f_X10_readOrder_165 G22 x1 s68_0 9 else (if s68_0 = (114 : Int32) then f_X10_readOrder_165 G22 x1 s68_0 10 else (if s68_0 = (116 : Int32) then f_X10_readOrder_165 G22 x1 s68_0 11 else (if s68_0 = (108 : Int32) then f_X10_readOrder_165 G22 x1 s68_0 12 else (if x2 = (108 : Int32) then (if s68_0 = (109 : Int32) then f_X10_readOrder_165 G22 x1 s68_0 13 else f_X10_readOrder_162 G22 x1 s68_0) else f_X10_readOrder_162 G22 x1 s68_0)))))))) else none)
def f_X10_readOrder_47 (G : GT) (x1 : Int32) (x2 : Int32) : Option (GT) := f_X10_readOrder_68 G x1 x2 x2
def f_X10_readOrder (G : GT) : Option (GT) := (if (G 0 15) = 0 then ((some (upR G 0 (upd (G 0) 18 ((G 0 18) + (1 : Int32))))).bind fun G32 => ((f_X10_behind G32 (0 : Int32)).bind fun r33 => (if r33 = (108 : Int32) then ((f_X10_behind G32 (1 : Int32)).bind fun r35 => (if r35 = (101 : Int32) then f_X10_readOrder_47 G32 ((4 : Int32) * (G 0 18)) r33 else ((f_X10_behind G32 (2 : Int32)).bind fun r37 => (if r37 = (109 : Int32) then f_X10_readOrder_68 G32 ((4 : Int32) * (G 0 18)) r33 (109 : Int32) else f_X10_readOrder_68 G32 ((4 : Int32) * (G 0 18)) r33 (76 : Int32))))) else f_X10_readOrder_47 G32 ((4 : Int32) * (G 0 18)) r33))) else some G)
set_option maxRecDepth 100000 in
set_option maxHeartbeats 4000000 in
theorem q_X10_readOrder (l : Launch) (D : va_G) (Y : Nat → ClassId) (ad : Nat → Nat) (kd : Nat → Nat) (hI : Inj 8 ad) (G : GT) (G' : GT) (h : f_X10_readOrder G  = some G') : WKv l yX10_readOrder cX10_readOrder 4 6 D Y 8 ad (kM Y ad) kd G [.ref (ad 0)] G' := by
  refine RK_of (ret := none) (by decide) (Nat.le_of_ble_eq_true rfl) (lv := [(0, .ref (ad 0))]) rfl ?_
  intro p e s m below meth c ls F hP hK hS hr hk hl
  have F : Fx p c cX10_readOrder 4 s m _ RX10 D Y := F
  have hx := F.1.1
  have hb := F.1.2.1
  have hts := F.1.2.2.2.2
  have hown := F.1.2.2.2.1
  have key258 : ∀ (x1 : Int32) (x3 : Int32) (G : GT) (H : Heap) (locs : List Loc), va_P D vwCl (wsM Y ad G) H → va_S (AW 8 ad) s.heap H locs → ∀ ls : Array Slot, lv_has ls 4 [(0, .ref (ad 0)), (1, .int x1), (3, .int x3)] → f_X10_readOrder_258 G   x1 x3 = some G' → WW p l e 6 s m ([.ref (ad 0)] : List Value).toArray below meth c H locs (WQv D (wsM Y ad G') (AW 8 ad)) (AW 8 ad) (F0 m 258 ls []) := by
    intro x1 x3 G  H locs hP hS ls hl h
    refine lv_iload_n hx hb dX10_readOrder_258 rfl (lv_at hl 2 rfl) ?_
    refine lv_bipush (v := 100) hx hb dX10_readOrder_259 (by decide) ?_
    refine lv_icmp_ne (tgt := 277) hx hb dX10_readOrder_261 (by decide) (fun c1 => ?_) (fun c1 => ?_)
    · have h := ifF h c1
      exact wv_end F hP hS hr hk h dX10_readOrder_277
    · have h := ifT h c1
      refine lv_aload_n hx hb dX10_readOrder_264 rfl (lv_at hl 0 rfl) ?_
      refine rM_0_17 F hP dX10_readOrder_265 ?_
      refine lv_iload_n hx hb dX10_readOrder_268 rfl (lv_at hl 1 rfl) ?_
      refine lv_iconst (v := 3) hx hb dX10_readOrder_269 (by decide) ?_
      refine lv_iadd hx hb dX10_readOrder_270 ?_
      refine lv_aload_n hx hb dX10_readOrder_271 rfl (lv_at hl 0 rfl) ?_
      refine lv_iconst (v := 0) hx hb dX10_readOrder_272 (by decide) ?_
      obtain ⟨r2, G2, e2, h⟩ := bsome2 h
      refine wk_V F hP hK hS k_X10_number mw_1682 0 11 rfl (wsW_get 0 (by decide)) (q_X10_number l D Y ad kd hI G (0 : Int32)  r2 G2 e2) rfl hl.1 ⟨Nat.le_of_ble_eq_true rfl, Nat.le_of_ble_eq_true rfl⟩ (rest := [.int ((x1 + (3 : Int32))), .ref (ad 7)]) rfl (Nat.le_of_ble_eq_true rfl) ⟨Nat.le_of_ble_eq_true rfl, Nat.le_of_ble_eq_true rfl⟩ dX10_readOrder_273 (fun H locs o2 hP hS => ?_)
      obtain ⟨b3, h⟩ := ckS h
      obtain ⟨G4, e4, h⟩ := bsome h
      refine ast F hI hP hS (fun i h => ⟨i, h, rfl⟩) 7 (by decide) (fun _ => rfl) (inbV b3 (by decide)) dX10_readOrder_276 (fun H locs hP hS => ?_)
      have hP := cvP e4 hP
      exact wv_end F hP hS hr hk h dX10_readOrder_277
  have key254 : ∀ (x1 : Int32) (x3 : Int32) (s254_0 : Int32) (s254_2 : Int32) (G : GT) (H : Heap) (locs : List Loc), va_P D vwCl (wsM Y ad G) H → va_S (AW 8 ad) s.heap H locs → ∀ ls : Array Slot, lv_has ls 4 [(0, .ref (ad 0)), (1, .int x1), (3, .int x3)] → f_X10_readOrder_254 G   x1 x3 s254_0 s254_2 = some G' → WW p l e 6 s m ([.ref (ad 0)] : List Value).toArray below meth c H locs (WQv D (wsM Y ad G') (AW 8 ad)) (AW 8 ad) (F0 m 254 ls [.int s254_0, .ref (ad 0), .int s254_2, .ref (ad 7)]) := by
    intro x1 x3 s254_0 s254_2 G  H locs hP hS ls hl h
    obtain ⟨r5, G5, e5, h⟩ := bsome2 h
    refine wk_V F hP hK hS k_X10_number mw_1682 0 11 rfl (wsW_get 0 (by decide)) (q_X10_number l D Y ad kd hI G s254_0  r5 G5 e5) rfl hl.1 ⟨Nat.le_of_ble_eq_true rfl, Nat.le_of_ble_eq_true rfl⟩ (rest := [.int s254_2, .ref (ad 7)]) rfl (Nat.le_of_ble_eq_true rfl) ⟨Nat.le_of_ble_eq_true rfl, Nat.le_of_ble_eq_true rfl⟩ dX10_readOrder_254 (fun H locs o5 hP hS => ?_)
    obtain ⟨b6, h⟩ := ckS h
    obtain ⟨G7, e7, h⟩ := bsome h
    refine ast F hI hP hS (fun i h => ⟨i, h, rfl⟩) 7 (by decide) (fun _ => rfl) (inbV b6 (by decide)) dX10_readOrder_257 (fun H locs hP hS => ?_)
    have hP := cvP e7 hP
    exact key258 x1 x3 G7 _ _ hP hS ls (lv_sub hl [0, 1, 2] rfl) h
  have key235 : ∀ (x1 : Int32) (x3 : Int32) (G : GT) (H : Heap) (locs : List Loc), va_P D vwCl (wsM Y ad G) H → va_S (AW 8 ad) s.heap H locs → ∀ ls : Array Slot, lv_has ls 4 [(0, .ref (ad 0)), (1, .int x1), (3, .int x3)] → f_X10_readOrder_235 G   x1 x3 = some G' → WW p l e 6 s m ([.ref (ad 0)] : List Value).toArray below meth c H locs (WQv D (wsM Y ad G') (AW 8 ad)) (AW 8 ad) (F0 m 235 ls []) := by
    intro x1 x3 G  H locs hP hS ls hl h
    refine lv_aload_n hx hb dX10_readOrder_235 rfl (lv_at hl 0 rfl) ?_
    refine rM_0_17 F hP dX10_readOrder_236 ?_
    refine lv_iload_n hx hb dX10_readOrder_239 rfl (lv_at hl 1 rfl) ?_
    refine lv_iconst (v := 2) hx hb dX10_readOrder_240 (by decide) ?_
    refine lv_iadd hx hb dX10_readOrder_241 ?_
    refine lv_aload_n hx hb dX10_readOrder_242 rfl (lv_at hl 0 rfl) ?_
    refine lv_iload_n hx hb dX10_readOrder_243 rfl (lv_at hl 2 rfl) ?_
    refine lv_bipush (v := 107) hx hb dX10_readOrder_244 (by decide) ?_
    refine lv_icmp_ne (tgt := 253) hx hb dX10_readOrder_246 (by decide) (fun c8 => ?_) (fun c8 => ?_)
    · have h := ifF h c8
      refine lv_iconst (v := 0) hx hb dX10_readOrder_253 (by decide) ?_
      exact key254 x1 x3 (0 : Int32) (x1 + (2 : Int32)) G _ _ hP hS ls (lv_sub hl [0, 1, 2] rfl) h
    · have h := ifT h c8
      refine lv_iconst (v := 1) hx hb dX10_readOrder_249 (by decide) ?_
      refine lv_goto (tgt := 254) hx hb dX10_readOrder_250 (by decide) ?_
      exact key254 x1 x3 (1 : Int32) (x1 + (2 : Int32)) G _ _ hP hS ls (lv_sub hl [0, 1, 2] rfl) h
  have key207 : ∀ (x1 : Int32) (x3 : Int32) (s207_0 : Int32) (s207_2 : Int32) (G : GT) (H : Heap) (locs : List Loc), va_P D vwCl (wsM Y ad G) H → va_S (AW 8 ad) s.heap H locs → ∀ ls : Array Slot, lv_has ls 4 [(0, .ref (ad 0)), (1, .int x1), (3, .int x3)] → f_X10_readOrder_207 G   x1 x3 s207_0 s207_2 = some G' → WW p l e 6 s m ([.ref (ad 0)] : List Value).toArray below meth c H locs (WQv D (wsM Y ad G') (AW 8 ad)) (AW 8 ad) (F0 m 207 ls [.int s207_0, .ref (ad 0), .int s207_2, .ref (ad 7)]) := by
    intro x1 x3 s207_0 s207_2 G  H locs hP hS ls hl h
    obtain ⟨r9, G9, e9, h⟩ := bsome2 h
    refine wk_V F hP hK hS k_X10_number mw_1682 0 11 rfl (wsW_get 0 (by decide)) (q_X10_number l D Y ad kd hI G s207_0  r9 G9 e9) rfl hl.1 ⟨Nat.le_of_ble_eq_true rfl, Nat.le_of_ble_eq_true rfl⟩ (rest := [.int s207_2, .ref (ad 7)]) rfl (Nat.le_of_ble_eq_true rfl) ⟨Nat.le_of_ble_eq_true rfl, Nat.le_of_ble_eq_true rfl⟩ dX10_readOrder_207 (fun H locs o9 hP hS => ?_)
    obtain ⟨b10, h⟩ := ckS h
    obtain ⟨G11, e11, h⟩ := bsome h
    refine ast F hI hP hS (fun i h => ⟨i, h, rfl⟩) 7 (by decide) (fun _ => rfl) (inbV b10 (by decide)) dX10_readOrder_210 (fun H locs hP hS => ?_)
    have hP := cvP e11 hP
    refine lv_iload_n hx hb dX10_readOrder_211 rfl (lv_at hl 2 rfl) ?_
    refine lv_bipush (v := 107) hx hb dX10_readOrder_212 (by decide) ?_
    refine lv_icmp_eq (tgt := 235) hx hb dX10_readOrder_214 (by decide) (fun c12 => ?_) (fun c12 => ?_)
    · have h := ifT h c12
      exact key235 x1 x3 G11 _ _ hP hS ls (lv_sub hl [0, 1, 2] rfl) h
    · have h := ifF h c12
      refine lv_iload_n hx hb dX10_readOrder_217 rfl (lv_at hl 2 rfl) ?_
      refine lv_bipush (v := 108) hx hb dX10_readOrder_218 (by decide) ?_
      refine lv_icmp_eq (tgt := 235) hx hb dX10_readOrder_220 (by decide) (fun c13 => ?_) (fun c13 => ?_)
      · have h := ifT h c13
        exact key235 x1 x3 G11 _ _ hP hS ls (lv_sub hl [0, 1, 2] rfl) h
      · have h := ifF h c13
        refine lv_iload_n hx hb dX10_readOrder_223 rfl (lv_at hl 2 rfl) ?_
        refine lv_bipush (v := 100) hx hb dX10_readOrder_224 (by decide) ?_
        refine lv_icmp_eq (tgt := 235) hx hb dX10_readOrder_226 (by decide) (fun c14 => ?_) (fun c14 => ?_)
        · have h := ifT h c14
          exact key235 x1 x3 G11 _ _ hP hS ls (lv_sub hl [0, 1, 2] rfl) h
        · have h := ifF h c14
          refine lv_iload_n hx hb dX10_readOrder_229 rfl (lv_at hl 2 rfl) ?_
          refine lv_bipush (v := 116) hx hb dX10_readOrder_230 (by decide) ?_
          refine lv_icmp_ne (tgt := 258) hx hb dX10_readOrder_232 (by decide) (fun c15 => ?_) (fun c15 => ?_)
          · have h := ifF h c15
            exact key258 x1 x3 G11 _ _ hP hS ls (lv_sub hl [0, 1, 2] rfl) h
          · have h := ifT h c15
            exact key235 x1 x3 G11 _ _ hP hS ls (lv_sub hl [0, 1, 2] rfl) h
  have key202 : ∀ (x1 : Int32) (x3 : Int32) (s202_1 : Int32) (G : GT) (H : Heap) (locs : List Loc), va_P D vwCl (wsM Y ad G) H → va_S (AW 8 ad) s.heap H locs → ∀ ls : Array Slot, lv_has ls 4 [(0, .ref (ad 0)), (1, .int x1), (3, .int x3)] → f_X10_readOrder_202 G   x1 x3 s202_1 = some G' → WW p l e 6 s m ([.ref (ad 0)] : List Value).toArray below meth c H locs (WQv D (wsM Y ad G') (AW 8 ad)) (AW 8 ad) (F0 m 202 ls [.ref (ad 0), .int s202_1, .ref (ad 7)]) := by
    intro x1 x3 s202_1 G  H locs hP hS ls hl h
    refine lv_iconst (v := 1) hx hb dX10_readOrder_202 (by decide) ?_
    refine lv_goto (tgt := 207) hx hb dX10_readOrder_203 (by decide) ?_
    exact key207 x1 x3 (1 : Int32) s202_1 G _ _ hP hS ls (lv_sub hl [0, 1, 2] rfl) h
  have key165 : ∀ (x1 : Int32) (x3 : Int32) (s165_0 : Nat) (G : GT) (hs165_0 : s165_0 < 31) (H : Heap) (locs : List Loc), va_P D vwCl (wsM Y ad G) H → va_S (AW 8 ad) s.heap H locs → ∀ ls : Array Slot, lv_has ls 4 [(0, .ref (ad 0)), (1, .int x1), (3, .int x3)] → f_X10_readOrder_165 G   x1 x3 s165_0 = some G' → WW p l e 6 s m ([.ref (ad 0)] : List Value).toArray below meth c H locs (WQv D (wsM Y ad G') (AW 8 ad)) (AW 8 ad) (F0 m 165 ls [.ref (kd (200 + s165_0)), .ref (ad 0)]) := by
    intro x1 x3 s165_0 G hs165_0 H locs hP hS ls hl h
    obtain ⟨G16, e16, h⟩ := bsome h
    refine wkv_V F hP hK hS k_X10_skip mw_1668 0 11 rfl (wsW_get 0 (by decide)) (q_X10_skip l D Y ad kd hI G s165_0 hs165_0 G16 e16) rfl hl.1 ⟨Nat.le_of_ble_eq_true rfl, Nat.le_of_ble_eq_true rfl⟩ (rest := []) rfl (Nat.le_of_ble_eq_true rfl) ⟨Nat.le_of_ble_eq_true rfl, Nat.le_of_ble_eq_true rfl⟩ dX10_readOrder_165 (fun H locs hP hS => ?_)
    refine lv_iload_n hx hb dX10_readOrder_168 rfl (lv_at hl 2 rfl) ?_
    refine lv_bipush (v := 76) hx hb dX10_readOrder_169 (by decide) ?_
    refine lv_icmp_eq (tgt := 181) hx hb dX10_readOrder_171 (by decide) (fun c17 => ?_) (fun c17 => ?_)
    · have h := ifT h c17
      exact wv_end F hP hS hr hk h dX10_readOrder_181
    · have h := ifF h c17
      refine lv_aload_n hx hb dX10_readOrder_174 rfl (lv_at hl 0 rfl) ?_
      refine rM_0_15 F hP dX10_readOrder_175 ?_
      refine lv_if_eq (tgt := 182) hx hb dX10_readOrder_178 (by decide) (fun c18 => ?_) (fun c18 => ?_)
      · have h := ifT h c18
        refine lv_aload_n hx hb dX10_readOrder_182 rfl (lv_at hl 0 rfl) ?_
        refine rM_0_17 F hP dX10_readOrder_183 ?_
        refine lv_iload_n hx hb dX10_readOrder_186 rfl (lv_at hl 1 rfl) ?_
        refine lv_iconst (v := 1) hx hb dX10_readOrder_187 (by decide) ?_
        refine lv_iadd hx hb dX10_readOrder_188 ?_
        refine lv_aload_n hx hb dX10_readOrder_189 rfl (lv_at hl 0 rfl) ?_
        refine lv_iload_n hx hb dX10_readOrder_190 rfl (lv_at hl 2 rfl) ?_
        refine lv_bipush (v := 109) hx hb dX10_readOrder_191 (by decide) ?_
        refine lv_icmp_eq (tgt := 202) hx hb dX10_readOrder_193 (by decide) (fun c19 => ?_) (fun c19 => ?_)
        · have h := ifT h c19
          exact key202 x1 x3 (x1 + (1 : Int32)) G16 _ _ hP hS ls (lv_sub hl [0, 1, 2] rfl) h
        · have h := ifF h c19
          refine lv_iload_n hx hb dX10_readOrder_196 rfl (lv_at hl 2 rfl) ?_
          refine lv_bipush (v := 116) hx hb dX10_readOrder_197 (by decide) ?_
          refine lv_icmp_ne (tgt := 206) hx hb dX10_readOrder_199 (by decide) (fun c20 => ?_) (fun c20 => ?_)
          · have h := ifF h c20
            refine lv_iconst (v := 0) hx hb dX10_readOrder_206 (by decide) ?_
            exact key207 x1 x3 (0 : Int32) (x1 + (1 : Int32)) G16 _ _ hP hS ls (lv_sub hl [0, 1, 2] rfl) h
          · have h := ifT h c20
            exact key202 x1 x3 (x1 + (1 : Int32)) G16 _ _ hP hS ls (lv_sub hl [0, 1, 2] rfl) h
      · have h := ifF h c18
        exact wv_end F hP hS hr hk h dX10_readOrder_181
  have key162 : ∀ (x1 : Int32) (x3 : Int32) (G : GT) (H : Heap) (locs : List Loc), va_P D vwCl (wsM Y ad G) H → va_S (AW 8 ad) s.heap H locs → ∀ ls : Array Slot, lv_has ls 4 [(0, .ref (ad 0)), (1, .int x1), (3, .int x3)] → f_X10_readOrder_162 G   x1 x3 = some G' → WW p l e 6 s m ([.ref (ad 0)] : List Value).toArray below meth c H locs (WQv D (wsM Y ad G') (AW 8 ad)) (AW 8 ad) (F0 m 162 ls [.ref (ad 0)]) := by
    intro x1 x3 G  H locs hP hS ls hl h
    refine ldcSW hx hb hown (hK.2.2.2.2.2 14 (by decide)) dX10_readOrder_162 ?_
    exact key165 x1 x3 14 G (by decide) _ _ hP hS ls (lv_sub hl [0, 1, 2] rfl) h
  have key68 : ∀ (x1 : Int32) (x2 : Int32) (s68_0 : Int32) (G : GT) (H : Heap) (locs : List Loc), va_P D vwCl (wsM Y ad G) H → va_S (AW 8 ad) s.heap H locs → ∀ ls : Array Slot, lv_has ls 4 [(0, .ref (ad 0)), (1, .int x1), (2, .int x2)] → f_X10_readOrder_68 G   x1 x2 s68_0 = some G' → WW p l e 6 s m ([.ref (ad 0)] : List Value).toArray below meth c H locs (WQv D (wsM Y ad G') (AW 8 ad)) (AW 8 ad) (F0 m 68 ls [.int s68_0]) := by
    intro x1 x2 s68_0 G  H locs hP hS ls hl h
    refine lv_istore_n (lv' := [(3, .int s68_0), (0, .ref (ad 0)), (1, .int x1), (2, .int x2)]) hx hb dX10_readOrder_68 rfl hl (by decide) rfl (fun ls hl => ?_)
    refine lv_aload_n hx hb dX10_readOrder_69 rfl (lv_at hl 1 rfl) ?_
    refine rM_0_17 F hP dX10_readOrder_70 ?_
    refine lv_iload_n hx hb dX10_readOrder_73 rfl (lv_at hl 2 rfl) ?_
    refine lv_iload_n hx hb dX10_readOrder_74 rfl (lv_at hl 0 rfl) ?_
    obtain ⟨b21, h⟩ := ckS h
    obtain ⟨G22, e22, h⟩ := bsome h
    refine ast F hI hP hS (fun i h => ⟨i, h, rfl⟩) 7 (by decide) (fun _ => rfl) (inbV b21 (by decide)) dX10_readOrder_75 (fun H locs hP hS => ?_)
    have hP := cvP e22 hP
    refine lv_aload_n hx hb dX10_readOrder_76 rfl (lv_at hl 1 rfl) ?_
    refine lv_iload_n hx hb dX10_readOrder_77 rfl (lv_at hl 0 rfl) ?_
    refine lv_bipush (v := 98) hx hb dX10_readOrder_78 (by decide) ?_
    refine lv_icmp_ne (tgt := 88) hx hb dX10_readOrder_80 (by decide) (fun c23 => ?_) (fun c23 => ?_)
    · have h := ifF h c23
      refine lv_iload_n hx hb dX10_readOrder_88 rfl (lv_at hl 0 rfl) ?_
      refine lv_bipush (v := 107) hx hb dX10_readOrder_89 (by decide) ?_
      refine lv_icmp_ne (tgt := 99) hx hb dX10_readOrder_91 (by decide) (fun c24 => ?_) (fun c24 => ?_)
      · have h := ifF h c24
        refine lv_iload_n hx hb dX10_readOrder_99 rfl (lv_at hl 0 rfl) ?_
        refine lv_bipush (v := 100) hx hb dX10_readOrder_100 (by decide) ?_
        refine lv_icmp_ne (tgt := 110) hx hb dX10_readOrder_102 (by decide) (fun c25 => ?_) (fun c25 => ?_)
        · have h := ifF h c25
          refine lv_iload_n hx hb dX10_readOrder_110 rfl (lv_at hl 0 rfl) ?_
          refine lv_bipush (v := 114) hx hb dX10_readOrder_111 (by decide) ?_
          refine lv_icmp_ne (tgt := 121) hx hb dX10_readOrder_113 (by decide) (fun c26 => ?_) (fun c26 => ?_)
          · have h := ifF h c26
            refine lv_iload_n hx hb dX10_readOrder_121 rfl (lv_at hl 0 rfl) ?_
            refine lv_bipush (v := 116) hx hb dX10_readOrder_122 (by decide) ?_
            refine lv_icmp_ne (tgt := 132) hx hb dX10_readOrder_124 (by decide) (fun c27 => ?_) (fun c27 => ?_)
            · have h := ifF h c27
              refine lv_iload_n hx hb dX10_readOrder_132 rfl (lv_at hl 0 rfl) ?_
              refine lv_bipush (v := 108) hx hb dX10_readOrder_133 (by decide) ?_
              refine lv_icmp_ne (tgt := 144) hx hb dX10_readOrder_135 (by decide) (fun c28 => ?_) (fun c28 => ?_)
              · have h := ifF h c28
                refine lv_iload_n hx hb dX10_readOrder_144 rfl (lv_at hl 3 rfl) ?_
                refine lv_bipush (v := 108) hx hb dX10_readOrder_145 (by decide) ?_
                refine lv_icmp_ne (tgt := 162) hx hb dX10_readOrder_147 (by decide) (fun c29 => ?_) (fun c29 => ?_)
                · have h := ifF h c29
                  exact key162 x1 s68_0 G22 _ _ hP hS ls (lv_sub hl [1, 2, 0] rfl) h
                · have h := ifT h c29
                  refine lv_iload_n hx hb dX10_readOrder_150 rfl (lv_at hl 0 rfl) ?_
                  refine lv_bipush (v := 109) hx hb dX10_readOrder_151 (by decide) ?_
                  refine lv_icmp_ne (tgt := 162) hx hb dX10_readOrder_153 (by decide) (fun c30 => ?_) (fun c30 => ?_)
                  · have h := ifF h c30
                    exact key162 x1 s68_0 G22 _ _ hP hS ls (lv_sub hl [1, 2, 0] rfl) h
                  · have h := ifT h c30
                    refine ldcSW hx hb hown (hK.2.2.2.2.2 13 (by decide)) dX10_readOrder_156 ?_
                    refine lv_goto (tgt := 165) hx hb dX10_readOrder_159 (by decide) ?_
                    exact key165 x1 s68_0 13 G22 (by decide) _ _ hP hS ls (lv_sub hl [1, 2, 0] rfl) h
              · have h := ifT h c28
                refine ldcSW hx hb hown (hK.2.2.2.2.2 12 (by decide)) dX10_readOrder_138 ?_
                refine lv_goto (tgt := 165) hx hb dX10_readOrder_141 (by decide) ?_
                exact key165 x1 s68_0 12 G22 (by decide) _ _ hP hS ls (lv_sub hl [1, 2, 0] rfl) h
            · have h := ifT h c27
              refine va_ldcS hx hb hown (hK.2.2.2.2.2 11 (by decide)) dX10_readOrder_127 ?_
              refine lv_goto (tgt := 165) hx hb dX10_readOrder_129 (by decide) ?_
              exact key165 x1 s68_0 11 G22 (by decide) _ _ hP hS ls (lv_sub hl [1, 2, 0] rfl) h
          · have h := ifT h c26
            refine va_ldcS hx hb hown (hK.2.2.2.2.2 10 (by decide)) dX10_readOrder_116 ?_
            refine lv_goto (tgt := 165) hx hb dX10_readOrder_118 (by decide) ?_
            exact key165 x1 s68_0 10 G22 (by decide) _ _ hP hS ls (lv_sub hl [1, 2, 0] rfl) h
        · have h := ifT h c25
          refine va_ldcS hx hb hown (hK.2.2.2.2.2 9 (by decide)) dX10_readOrder_105 ?_
          refine lv_goto (tgt := 165) hx hb dX10_readOrder_107 (by decide) ?_
          exact key165 x1 s68_0 9 G22 (by decide) _ _ hP hS ls (lv_sub hl [1, 2, 0] rfl) h
      · have h := ifT h c24
        refine va_ldcS hx hb hown (hK.2.2.2.2.2 8 (by decide)) dX10_readOrder_94 ?_
        refine lv_goto (tgt := 165) hx hb dX10_readOrder_96 (by decide) ?_
        exact key165 x1 s68_0 8 G22 (by decide) _ _ hP hS ls (lv_sub hl [1, 2, 0] rfl) h
    · have h := ifT h c23
      refine va_ldcS hx hb hown (hK.2.2.2.2.2 7 (by decide)) dX10_readOrder_83 ?_
      refine lv_goto (tgt := 165) hx hb dX10_readOrder_85 (by decide) ?_
      exact key165 x1 s68_0 7 G22 (by decide) _ _ hP hS ls (lv_sub hl [1, 2, 0] rfl) h
  have key47 : ∀ (x1 : Int32) (x2 : Int32) (G : GT) (H : Heap) (locs : List Loc), va_P D vwCl (wsM Y ad G) H → va_S (AW 8 ad) s.heap H locs → ∀ ls : Array Slot, lv_has ls 4 [(0, .ref (ad 0)), (1, .int x1), (2, .int x2)] → f_X10_readOrder_47 G   x1 x2 = some G' → WW p l e 6 s m ([.ref (ad 0)] : List Value).toArray below meth c H locs (WQv D (wsM Y ad G') (AW 8 ad)) (AW 8 ad) (F0 m 47 ls []) := by
    intro x1 x2 G  H locs hP hS ls hl h
    refine lv_iload_n hx hb dX10_readOrder_47 rfl (lv_at hl 2 rfl) ?_
    refine lv_goto (tgt := 68) hx hb dX10_readOrder_48 (by decide) ?_
    exact key68 x1 x2 x2 G _ _ hP hS ls (lv_sub hl [0, 1, 2] rfl) h
  refine lv_aload_n hx hb dX10_readOrder_0 rfl (lv_at hl 0 rfl) ?_
  refine rM_0_15 F hP dX10_readOrder_1 ?_
  refine lv_if_eq (tgt := 8) hx hb dX10_readOrder_4 (by decide) (fun c31 => ?_) (fun c31 => ?_)
  · have h := ifT h c31
    refine lv_iconst (v := 4) hx hb dX10_readOrder_8 (by decide) ?_
    refine lv_aload_n hx hb dX10_readOrder_9 rfl (lv_at hl 0 rfl) ?_
    refine rM_0_18 F hP dX10_readOrder_10 ?_
    refine lv_imul hx hb dX10_readOrder_13 ?_
    refine lv_istore_n (lv' := [(1, .int (((4 : Int32) * (G 0 18)))), (0, .ref (ad 0))]) hx hb dX10_readOrder_14 rfl hl (by decide) rfl (fun ls hl => ?_)
    refine lv_aload_n hx hb dX10_readOrder_15 rfl (lv_at hl 1 rfl) ?_
    refine lv_dup hx hb dX10_readOrder_16 rfl ?_
    refine rM_0_18 F hP dX10_readOrder_17 ?_
    refine lv_iconst (v := 1) hx hb dX10_readOrder_20 (by decide) ?_
    refine lv_iadd hx hb dX10_readOrder_21 ?_
    obtain ⟨G32, e32, h⟩ := bsome h
    refine pM_0_18 F hI hP hS dX10_readOrder_22 (fun H locs hP hS => ?_)
    have hP := cvP e32 hP
    refine lv_aload_n hx hb dX10_readOrder_25 rfl (lv_at hl 1 rfl) ?_
    refine lv_iconst (v := 0) hx hb dX10_readOrder_26 (by decide) ?_
    obtain ⟨r33, e33, h⟩ := bsome h
    refine rd_V F hP k_X10_behind mw_1656 0 11 rfl (wsW_get 0 (by decide)) (q_X10_behind l D Y ad G32 (0 : Int32) r33 e33) rfl hl.1 ⟨Nat.le_of_ble_eq_true rfl, Nat.le_of_ble_eq_true rfl⟩ (rest := []) rfl (Nat.le_of_ble_eq_true rfl) ⟨Nat.le_of_ble_eq_true rfl, Nat.le_of_ble_eq_true rfl⟩ dX10_readOrder_27 (fun o33 => ?_)
    refine lv_istore_n (lv' := [(2, .int r33), (1, .int (((4 : Int32) * (G 0 18)))), (0, .ref (ad 0))]) hx hb dX10_readOrder_30 rfl hl (by decide) rfl (fun ls hl => ?_)
    refine lv_iload_n hx hb dX10_readOrder_31 rfl (lv_at hl 0 rfl) ?_
    refine lv_bipush (v := 108) hx hb dX10_readOrder_32 (by decide) ?_
    refine lv_icmp_ne (tgt := 47) hx hb dX10_readOrder_34 (by decide) (fun c34 => ?_) (fun c34 => ?_)
    · have h := ifF h c34
      exact key47 ((4 : Int32) * (G 0 18)) r33 G32 _ _ hP hS ls (lv_sub hl [2, 1, 0] rfl) h
    · have h := ifT h c34
      refine lv_aload_n hx hb dX10_readOrder_37 rfl (lv_at hl 2 rfl) ?_
      refine lv_iconst (v := 1) hx hb dX10_readOrder_38 (by decide) ?_
      obtain ⟨r35, e35, h⟩ := bsome h
      refine rd_V F hP k_X10_behind mw_1656 0 11 rfl (wsW_get 0 (by decide)) (q_X10_behind l D Y ad G32 (1 : Int32) r35 e35) rfl hl.1 ⟨Nat.le_of_ble_eq_true rfl, Nat.le_of_ble_eq_true rfl⟩ (rest := []) rfl (Nat.le_of_ble_eq_true rfl) ⟨Nat.le_of_ble_eq_true rfl, Nat.le_of_ble_eq_true rfl⟩ dX10_readOrder_39 (fun o35 => ?_)
      refine lv_bipush (v := 101) hx hb dX10_readOrder_42 (by decide) ?_
      refine lv_icmp_ne (tgt := 51) hx hb dX10_readOrder_44 (by decide) (fun c36 => ?_) (fun c36 => ?_)
      · have h := ifF h c36
        refine lv_aload_n hx hb dX10_readOrder_51 rfl (lv_at hl 2 rfl) ?_
        refine lv_iconst (v := 2) hx hb dX10_readOrder_52 (by decide) ?_
        obtain ⟨r37, e37, h⟩ := bsome h
        refine rd_V F hP k_X10_behind mw_1656 0 11 rfl (wsW_get 0 (by decide)) (q_X10_behind l D Y ad G32 (2 : Int32) r37 e37) rfl hl.1 ⟨Nat.le_of_ble_eq_true rfl, Nat.le_of_ble_eq_true rfl⟩ (rest := []) rfl (Nat.le_of_ble_eq_true rfl) ⟨Nat.le_of_ble_eq_true rfl, Nat.le_of_ble_eq_true rfl⟩ dX10_readOrder_53 (fun o37 => ?_)
        refine lv_bipush (v := 109) hx hb dX10_readOrder_56 (by decide) ?_
        refine lv_icmp_ne (tgt := 66) hx hb dX10_readOrder_58 (by decide) (fun c38 => ?_) (fun c38 => ?_)
        · have h := ifF h c38
          refine lv_bipush (v := 76) hx hb dX10_readOrder_66 (by decide) ?_
          exact key68 ((4 : Int32) * (G 0 18)) r33 (76 : Int32) G32 _ _ hP hS ls (lv_sub hl [2, 1, 0] rfl) h
        · have h := ifT h c38
          refine lv_bipush (v := 109) hx hb dX10_readOrder_61 (by decide) ?_
          refine lv_goto (tgt := 68) hx hb dX10_readOrder_63 (by decide) ?_
          exact key68 ((4 : Int32) * (G 0 18)) r33 (109 : Int32) G32 _ _ hP hS ls (lv_sub hl [2, 1, 0] rfl) h
      · have h := ifT h c36
        exact key47 ((4 : Int32) * (G 0 18)) r33 G32 _ _ hP hS ls (lv_sub hl [2, 1, 0] rfl) h
  · have h := ifF h c31
    exact wv_end F hP hS hr hk h dX10_readOrder_7
def f_X10_saysNumber0_14 (G : GT) (a1 : Int32) : Option (GT) := ((f_X10_says G ((((48 : Int32) + (a1 - a1 / (10 : Int32) * (10 : Int32))).toUInt32 % 65536).toInt32)).bind fun G1 => some G1)
def f_X10_saysNumber0 (G : GT) (a1 : Int32) : Option (GT) := (if a1 ≤ (9 : Int32) then f_X10_saysNumber0_14 G a1 else none)
set_option maxRecDepth 100000 in
set_option maxHeartbeats 4000000 in
theorem q_X10_saysNumber0 (l : Launch) (D : va_G) (Y : Nat → ClassId) (ad : Nat → Nat) (hI : Inj 8 ad) (G : GT) (a1 : Int32) (G' : GT) (h : f_X10_saysNumber0 G a1 = some G') : WV l yX10_saysNumber cX10_saysNumber 2 1 D Y 8 ad (kM Y ad) G [.ref (ad 0), .int a1] G' := by
  refine W_of (ret := none) (by decide) (Nat.le_of_ble_eq_true rfl) (lv := [(0, .ref (ad 0)), (1, .int a1)]) rfl ?_
  intro p e s m below meth c ls F hP hS hr hk hl
  have F : Fx p c cX10_saysNumber 2 s m _ RX10 D Y := F
  have hx := F.1.1
  have hb := F.1.2.1
  have key14 : ∀ (G : GT) (H : Heap) (locs : List Loc), va_P D vwCl (wsM Y ad G) H → va_S (AW 8 ad) s.heap H locs → ∀ ls : Array Slot, lv_has ls 2 [(0, .ref (ad 0)), (1, .int a1)] → f_X10_saysNumber0_14 G a1   = some G' → WW p l e 1 s m ([.ref (ad 0), .int a1] : List Value).toArray below meth c H locs (WQv D (wsM Y ad G') (AW 8 ad)) (AW 8 ad) (F0 m 14 ls []) := by
    intro  G H locs hP hS ls hl h
    refine lv_aload_n hx hb dX10_saysNumber_14 rfl (lv_at hl 0 rfl) ?_
    refine lv_bipush (v := 48) hx hb dX10_saysNumber_15 (by decide) ?_
    refine lv_iload_n hx hb dX10_saysNumber_17 rfl (lv_at hl 1 rfl) ?_
    refine lv_bipush (v := 10) hx hb dX10_saysNumber_18 (by decide) ?_
    refine lv_irem hx hb dX10_saysNumber_20 (by decide) ?_
    refine lv_iadd hx hb dX10_saysNumber_21 ?_
    refine lv_i2c hx hb dX10_saysNumber_22 rfl ?_
    obtain ⟨G1, e1, h⟩ := bsome h
    refine wv_V F hP hS k_X10_says mw_1628 0 11 rfl (wsW_get 0 (by decide)) (q_X10_says l D Y ad hI G ((((48 : Int32) + (a1 - a1 / (10 : Int32) * (10 : Int32))).toUInt32 % 65536).toInt32) G1 e1) rfl hl.1 ⟨Nat.le_of_ble_eq_true rfl, Nat.le_of_ble_eq_true rfl⟩ (rest := []) rfl (Nat.le_of_ble_eq_true rfl) ⟨Nat.le_of_ble_eq_true rfl, Nat.le_of_ble_eq_true rfl⟩ dX10_saysNumber_23 (fun H locs hP hS => ?_)
    exact wv_end F hP hS hr hk h dX10_saysNumber_26
  refine lv_iload_n hx hb dX10_saysNumber_0 rfl (lv_at hl 1 rfl) ?_
  refine lv_bipush (v := 9) hx hb dX10_saysNumber_1 (by decide) ?_
  refine lv_icmp_le (tgt := 14) hx hb dX10_saysNumber_3 (by decide) (fun c2 => ?_) (fun c2 => ?_)
  · have h := ifT h c2
    exact key14 G _ _ hP hS ls (lv_sub hl [0, 1] rfl) h
  · have h := ifF h c2
    refine lv_aload_n hx hb dX10_saysNumber_6 rfl (lv_at hl 0 rfl) ?_
    refine lv_iload_n hx hb dX10_saysNumber_7 rfl (lv_at hl 1 rfl) ?_
    refine lv_bipush (v := 10) hx hb dX10_saysNumber_8 (by decide) ?_
    refine lv_idiv hx hb dX10_saysNumber_10 (by decide) ?_
    exact nomatch h
def f_X10_saysNumber_14 (G : GT) (a1 : Int32) : Option (GT) := ((f_X10_says G ((((48 : Int32) + (a1 - a1 / (10 : Int32) * (10 : Int32))).toUInt32 % 65536).toInt32)).bind fun G1 => some G1)
def f_X10_saysNumber (G : GT) (a1 : Int32) : Option (GT) := (if a1 ≤ (9 : Int32) then f_X10_saysNumber_14 G a1 else ((f_X10_saysNumber0 G (a1 / (10 : Int32))).bind fun G3 => f_X10_saysNumber_14 G3 a1))
set_option maxRecDepth 100000 in
set_option maxHeartbeats 4000000 in
theorem q_X10_saysNumber (l : Launch) (D : va_G) (Y : Nat → ClassId) (ad : Nat → Nat) (hI : Inj 8 ad) (G : GT) (a1 : Int32) (G' : GT) (h : f_X10_saysNumber G a1 = some G') : WV l yX10_saysNumber cX10_saysNumber 2 2 D Y 8 ad (kM Y ad) G [.ref (ad 0), .int a1] G' := by
  refine W_of (ret := none) (by decide) (Nat.le_of_ble_eq_true rfl) (lv := [(0, .ref (ad 0)), (1, .int a1)]) rfl ?_
  intro p e s m below meth c ls F hP hS hr hk hl
  have F : Fx p c cX10_saysNumber 2 s m _ RX10 D Y := F
  have hx := F.1.1
  have hb := F.1.2.1
  have key14 : ∀ (G : GT) (H : Heap) (locs : List Loc), va_P D vwCl (wsM Y ad G) H → va_S (AW 8 ad) s.heap H locs → ∀ ls : Array Slot, lv_has ls 2 [(0, .ref (ad 0)), (1, .int a1)] → f_X10_saysNumber_14 G a1   = some G' → WW p l e 2 s m ([.ref (ad 0), .int a1] : List Value).toArray below meth c H locs (WQv D (wsM Y ad G') (AW 8 ad)) (AW 8 ad) (F0 m 14 ls []) := by
    intro  G H locs hP hS ls hl h
    refine lv_aload_n hx hb dX10_saysNumber_14 rfl (lv_at hl 0 rfl) ?_
    refine lv_bipush (v := 48) hx hb dX10_saysNumber_15 (by decide) ?_
    refine lv_iload_n hx hb dX10_saysNumber_17 rfl (lv_at hl 1 rfl) ?_
    refine lv_bipush (v := 10) hx hb dX10_saysNumber_18 (by decide) ?_
    refine lv_irem hx hb dX10_saysNumber_20 (by decide) ?_
    refine lv_iadd hx hb dX10_saysNumber_21 ?_
    refine lv_i2c hx hb dX10_saysNumber_22 rfl ?_
    obtain ⟨G1, e1, h⟩ := bsome h
    refine wv_V F hP hS k_X10_says mw_1628 0 11 rfl (wsW_get 0 (by decide)) (q_X10_says l D Y ad hI G ((((48 : Int32) + (a1 - a1 / (10 : Int32) * (10 : Int32))).toUInt32 % 65536).toInt32) G1 e1) rfl hl.1 ⟨Nat.le_of_ble_eq_true rfl, Nat.le_of_ble_eq_true rfl⟩ (rest := []) rfl (Nat.le_of_ble_eq_true rfl) ⟨Nat.le_of_ble_eq_true rfl, Nat.le_of_ble_eq_true rfl⟩ dX10_saysNumber_23 (fun H locs hP hS => ?_)
    exact wv_end F hP hS hr hk h dX10_saysNumber_26
  refine lv_iload_n hx hb dX10_saysNumber_0 rfl (lv_at hl 1 rfl) ?_
  refine lv_bipush (v := 9) hx hb dX10_saysNumber_1 (by decide) ?_
  refine lv_icmp_le (tgt := 14) hx hb dX10_saysNumber_3 (by decide) (fun c2 => ?_) (fun c2 => ?_)
  · have h := ifT h c2
    exact key14 G _ _ hP hS ls (lv_sub hl [0, 1] rfl) h
  · have h := ifF h c2
    refine lv_aload_n hx hb dX10_saysNumber_6 rfl (lv_at hl 0 rfl) ?_
    refine lv_iload_n hx hb dX10_saysNumber_7 rfl (lv_at hl 1 rfl) ?_
    refine lv_bipush (v := 10) hx hb dX10_saysNumber_8 (by decide) ?_
    refine lv_idiv hx hb dX10_saysNumber_10 (by decide) ?_
    obtain ⟨G3, e3, h⟩ := bsome h
    refine wv_V F hP hS k_X10_saysNumber mw_1632 0 11 rfl (wsW_get 0 (by decide)) (q_X10_saysNumber0 l D Y ad hI G (a1 / (10 : Int32)) G3 e3) rfl hl.1 ⟨Nat.le_of_ble_eq_true rfl, Nat.le_of_ble_eq_true rfl⟩ (rest := []) rfl (Nat.le_of_ble_eq_true rfl) ⟨Nat.le_of_ble_eq_true rfl, Nat.le_of_ble_eq_true rfl⟩ dX10_saysNumber_11 (fun H locs hP hS => ?_)
    exact key14 G3 _ _ hP hS ls (lv_sub hl [0, 1] rfl) h
def f_X10_line_109 (G : GT) (a1 : Int32) (k33 : GT → Int32 → Option (Int32 × GT)) (x2 : Int32) : Option (Int32 × GT) := k33 G (x2 + 1)
def f_X10_line_90 (G : GT) (a1 : Int32) (k33 : GT → Int32 → Option (Int32 × GT)) (x2 : Int32) (s90_0 : Int32) : Option (Int32 × GT) := ((f_X10_says G s90_0).bind fun G1 => ((f_X10_beatsIn G1 x2 a1).bind fun r2 => ((f_X10_saysNumber G1 r2).bind fun G3 => ((f_X10_says G3 (32 : Int32)).bind fun G4 => f_X10_line_109 G4 a1 k33 x2))))
def f_X10_line_67 (G : GT) (a1 : Int32) (k33 : GT → Int32 → Option (Int32 × GT)) (x2 : Int32) : Option (Int32 × GT) := ((f_X10_isDrop G x2).bind fun r5 => (if r5 = 0 then f_X10_line_90 G a1 k33 x2 (46 : Int32) else ((f_X10_pitch G x2).bind fun r7 => f_X10_line_90 G a1 k33 x2 ((((97 : Int32) + r7).toUInt32 % 65536).toInt32))))
def f_X10_line_33 (a1 : Int32) (n : Nat) (G : GT) (y2 : Int32) : Option (Int32 × GT) := lq2 (fun (k33 : GT → Int32 → Option (Int32 × GT)) (G : GT) (x2 : Int32) => (if (G 1 1) ≤ x2 then ((f_X10_says G (95 : Int32)).bind fun G9 => (if inb ((5 : Int32) + a1) 67 then ((f_X10_filled G9 a1).bind fun r11 => ((f_X10_saysNumber G9 ((G9 1 ((5 : Int32) + a1).toNatClampNeg) - r11)).bind fun G12 => some ((G12 0 11), G12))) else none)) else ((f_X10_beatsIn G x2 a1).bind fun r13 => (if r13 ≤ 0 then f_X10_line_109 G a1 k33 x2 else ((f_X10_isTied G x2 a1).bind fun r15 => (if r15 = 0 then f_X10_line_67 G a1 k33 x2 else ((f_X10_says G (126 : Int32)).bind fun G17 => f_X10_line_67 G17 a1 k33 x2))))))) n G y2
def f_X10_line_14 (G : GT) (a1 : Int32) (s14_0 : Int32) : Option (Int32 × GT) := ((some (upR G 0 (upd (G 0) 6 s14_0))).bind fun G18 => (if (G18 0 6) ≤ 0 then ((some (upR G18 0 (upd (G18 0) 11 (0 : Int32)))).bind fun G20 => f_X10_line_33 a1 4096 G20 (0 : Int32)) else some ((0 : Int32), G18)))
def f_X10_line (G : GT) (a1 : Int32) : Option (Int32 × GT) := ((f_X10_isBar G a1).bind fun r21 => (if r21 = 0 then f_X10_line_14 G a1 (1 : Int32) else f_X10_line_14 G a1 (0 : Int32)))
set_option maxRecDepth 100000 in
set_option maxHeartbeats 4000000 in
theorem q_X10_line (l : Launch) (D : va_G) (Y : Nat → ClassId) (ad : Nat → Nat) (hI : Inj 8 ad) (G : GT) (a1 : Int32) (r : Int32) (G' : GT) (h : f_X10_line G a1 = some (r, G')) : WR l yX10_line cX10_line 3 (some .int) 4 D Y 8 ad (kM Y ad) G [.ref (ad 0), .int a1] r G' := by
  refine W_of (ret := (some .int)) (by decide) (Nat.le_of_ble_eq_true rfl) (lv := [(0, .ref (ad 0)), (1, .int a1)]) rfl ?_
  intro p e s m below meth c ls F hP hS hr hk hl
  have F : Fx p c cX10_line 3 s m _ RX10 D Y := F
  have hx := F.1.1
  have hb := F.1.2.1
  have key33 : ∀ (n : Nat) (G : GT) (x2 : Int32) (H : Heap) (locs : List Loc), va_P D vwCl (wsM Y ad G) H → va_S (AW 8 ad) s.heap H locs → ∀ ls : Array Slot, lv_has ls 3 [(0, .ref (ad 0)), (1, .int a1), (2, .int x2)] → f_X10_line_33 a1  n G x2 = some (r, G') → WW p l e 4 s m ([.ref (ad 0), .int a1] : List Value).toArray below meth c H locs (WQi (some .int) r D (wsM Y ad G') (AW 8 ad)) (AW 8 ad) (F0 m 33 ls []) := by
    intro  n
    induction n with
    | zero => intro G x2 H locs hP hS ls hl h; exact lqZ2 h
    | succ n33 ih33 =>
      have key109 : ∀ (x2 : Int32) (G : GT) (H : Heap) (locs : List Loc), va_P D vwCl (wsM Y ad G) H → va_S (AW 8 ad) s.heap H locs → ∀ ls : Array Slot, lv_has ls 3 [(0, .ref (ad 0)), (1, .int a1), (2, .int x2)] → f_X10_line_109 G a1 (f_X10_line_33 a1   n33) x2 = some (r, G') → WW p l e 4 s m ([.ref (ad 0), .int a1] : List Value).toArray below meth c H locs (WQi (some .int) r D (wsM Y ad G') (AW 8 ad)) (AW 8 ad) (F0 m 109 ls []) := by
        intro x2 G H locs hP hS ls hl h
        refine lv_iinc (v := (x2 + 1)) (lv' := [(2, .int ((x2 + 1))), (0, .ref (ad 0)), (1, .int a1)]) hx hb dX10_line_109 hl (k := 2) rfl rfl (by decide) rfl (fun ls hl => ?_)
        refine lv_goto (tgt := 33) hx hb dX10_line_112 (by decide) ?_
        exact ih33 G (x2 + 1) _ _ hP hS ls (lv_sub hl [1, 2, 0] rfl) h
      have key90 : ∀ (x2 : Int32) (s90_0 : Int32) (G : GT) (H : Heap) (locs : List Loc), va_P D vwCl (wsM Y ad G) H → va_S (AW 8 ad) s.heap H locs → ∀ ls : Array Slot, lv_has ls 3 [(0, .ref (ad 0)), (1, .int a1), (2, .int x2)] → f_X10_line_90 G a1 (f_X10_line_33 a1   n33) x2 s90_0 = some (r, G') → WW p l e 4 s m ([.ref (ad 0), .int a1] : List Value).toArray below meth c H locs (WQi (some .int) r D (wsM Y ad G') (AW 8 ad)) (AW 8 ad) (F0 m 90 ls [.int s90_0, .ref (ad 0)]) := by
        intro x2 s90_0 G H locs hP hS ls hl h
        obtain ⟨G1, e1, h⟩ := bsome h
        refine wv_V F hP hS k_X10_says mw_1628 0 11 rfl (wsW_get 0 (by decide)) (q_X10_says l D Y ad hI G s90_0 G1 e1) rfl hl.1 ⟨Nat.le_of_ble_eq_true rfl, Nat.le_of_ble_eq_true rfl⟩ (rest := []) rfl (Nat.le_of_ble_eq_true rfl) ⟨Nat.le_of_ble_eq_true rfl, Nat.le_of_ble_eq_true rfl⟩ dX10_line_90 (fun H locs hP hS => ?_)
        refine lv_aload_n hx hb dX10_line_93 rfl (lv_at hl 0 rfl) ?_
        refine lv_aload_n hx hb dX10_line_94 rfl (lv_at hl 0 rfl) ?_
        refine lv_iload_n hx hb dX10_line_95 rfl (lv_at hl 2 rfl) ?_
        refine lv_iload_n hx hb dX10_line_96 rfl (lv_at hl 1 rfl) ?_
        obtain ⟨r2, e2, h⟩ := bsome h
        refine rd_V F hP k_X10_beatsIn mw_1497 0 11 rfl (wsW_get 0 (by decide)) (q_X10_beatsIn l D Y ad G1 x2 a1 r2 e2) rfl hl.1 ⟨Nat.le_of_ble_eq_true rfl, Nat.le_of_ble_eq_true rfl⟩ (rest := [.ref (ad 0)]) rfl (Nat.le_of_ble_eq_true rfl) ⟨Nat.le_of_ble_eq_true rfl, Nat.le_of_ble_eq_true rfl⟩ dX10_line_97 (fun o2 => ?_)
        obtain ⟨G3, e3, h⟩ := bsome h
        refine wv_V F hP hS k_X10_saysNumber mw_1632 0 11 rfl (wsW_get 0 (by decide)) (q_X10_saysNumber l D Y ad hI G1 r2 G3 e3) rfl hl.1 ⟨Nat.le_of_ble_eq_true rfl, Nat.le_of_ble_eq_true rfl⟩ (rest := []) rfl (Nat.le_of_ble_eq_true rfl) ⟨Nat.le_of_ble_eq_true rfl, Nat.le_of_ble_eq_true rfl⟩ dX10_line_100 (fun H locs hP hS => ?_)
        refine lv_aload_n hx hb dX10_line_103 rfl (lv_at hl 0 rfl) ?_
        refine lv_bipush (v := 32) hx hb dX10_line_104 (by decide) ?_
        obtain ⟨G4, e4, h⟩ := bsome h
        refine wv_V F hP hS k_X10_says mw_1628 0 11 rfl (wsW_get 0 (by decide)) (q_X10_says l D Y ad hI G3 (32 : Int32) G4 e4) rfl hl.1 ⟨Nat.le_of_ble_eq_true rfl, Nat.le_of_ble_eq_true rfl⟩ (rest := []) rfl (Nat.le_of_ble_eq_true rfl) ⟨Nat.le_of_ble_eq_true rfl, Nat.le_of_ble_eq_true rfl⟩ dX10_line_106 (fun H locs hP hS => ?_)
        exact key109 x2 G4 _ _ hP hS ls (lv_sub hl [0, 1, 2] rfl) h
      have key67 : ∀ (x2 : Int32) (G : GT) (H : Heap) (locs : List Loc), va_P D vwCl (wsM Y ad G) H → va_S (AW 8 ad) s.heap H locs → ∀ ls : Array Slot, lv_has ls 3 [(0, .ref (ad 0)), (1, .int a1), (2, .int x2)] → f_X10_line_67 G a1 (f_X10_line_33 a1   n33) x2 = some (r, G') → WW p l e 4 s m ([.ref (ad 0), .int a1] : List Value).toArray below meth c H locs (WQi (some .int) r D (wsM Y ad G') (AW 8 ad)) (AW 8 ad) (F0 m 67 ls []) := by
        intro x2 G H locs hP hS ls hl h
        refine lv_aload_n hx hb dX10_line_67 rfl (lv_at hl 0 rfl) ?_
        refine lv_aload_n hx hb dX10_line_68 rfl (lv_at hl 0 rfl) ?_
        refine lv_iload_n hx hb dX10_line_69 rfl (lv_at hl 2 rfl) ?_
        obtain ⟨r5, e5, h⟩ := bsome h
        refine rd_V F hP k_X10_isDrop mw_1481 0 11 rfl (wsW_get 0 (by decide)) (q_X10_isDrop l D Y ad G x2 r5 e5) rfl hl.1 ⟨Nat.le_of_ble_eq_true rfl, Nat.le_of_ble_eq_true rfl⟩ (rest := [.ref (ad 0)]) rfl (Nat.le_of_ble_eq_true rfl) ⟨Nat.le_of_ble_eq_true rfl, Nat.le_of_ble_eq_true rfl⟩ dX10_line_70 (fun o5 => ?_)
        refine lv_if_eq (tgt := 88) hx hb dX10_line_73 (by decide) (fun c6 => ?_) (fun c6 => ?_)
        · have h := ifT h c6
          refine lv_bipush (v := 46) hx hb dX10_line_88 (by decide) ?_
          exact key90 x2 (46 : Int32) G _ _ hP hS ls (lv_sub hl [0, 1, 2] rfl) h
        · have h := ifF h c6
          refine lv_bipush (v := 97) hx hb dX10_line_76 (by decide) ?_
          refine lv_aload_n hx hb dX10_line_78 rfl (lv_at hl 0 rfl) ?_
          refine lv_iload_n hx hb dX10_line_79 rfl (lv_at hl 2 rfl) ?_
          obtain ⟨r7, e7, h⟩ := bsome h
          refine rd_V F hP k_X10_pitch mw_1489 0 11 rfl (wsW_get 0 (by decide)) (q_X10_pitch l D Y ad G x2 r7 e7) rfl hl.1 ⟨Nat.le_of_ble_eq_true rfl, Nat.le_of_ble_eq_true rfl⟩ (rest := [.int ((97 : Int32)), .ref (ad 0)]) rfl (Nat.le_of_ble_eq_true rfl) ⟨Nat.le_of_ble_eq_true rfl, Nat.le_of_ble_eq_true rfl⟩ dX10_line_80 (fun o7 => ?_)
          refine lv_iadd hx hb dX10_line_83 ?_
          refine lv_i2c hx hb dX10_line_84 rfl ?_
          refine lv_goto (tgt := 90) hx hb dX10_line_85 (by decide) ?_
          exact key90 x2 ((((97 : Int32) + r7).toUInt32 % 65536).toInt32) G _ _ hP hS ls (lv_sub hl [0, 1, 2] rfl) h
      intro G x2 H locs hP hS ls hl h
      have h := lqS2 h
      refine lv_iload_n hx hb dX10_line_33 rfl (lv_at hl 2 rfl) ?_
      refine lv_aload_n hx hb dX10_line_34 rfl (lv_at hl 0 rfl) ?_
      refine rM_0_0 F hP dX10_line_35 ?_
      refine lv_iconst (v := 1) hx hb dX10_line_38 (by decide) ?_
      refine alk F hP 1 (wsW_get 1 (by decide)) (k := 1) (by decide) (inbV (by decide) (by decide)) dX10_line_39 ?_
      refine lv_icmp_ge (tgt := 115) hx hb dX10_line_40 (by decide) (fun c8 => ?_) (fun c8 => ?_)
      · have h := ifT h c8
        refine lv_aload_n hx hb dX10_line_115 rfl (lv_at hl 0 rfl) ?_
        refine lv_bipush (v := 95) hx hb dX10_line_116 (by decide) ?_
        obtain ⟨G9, e9, h⟩ := bsome h
        refine wv_V F hP hS k_X10_says mw_1628 0 11 rfl (wsW_get 0 (by decide)) (q_X10_says l D Y ad hI G (95 : Int32) G9 e9) rfl hl.1 ⟨Nat.le_of_ble_eq_true rfl, Nat.le_of_ble_eq_true rfl⟩ (rest := []) rfl (Nat.le_of_ble_eq_true rfl) ⟨Nat.le_of_ble_eq_true rfl, Nat.le_of_ble_eq_true rfl⟩ dX10_line_118 (fun H locs hP hS => ?_)
        refine lv_aload_n hx hb dX10_line_121 rfl (lv_at hl 0 rfl) ?_
        refine lv_aload_n hx hb dX10_line_122 rfl (lv_at hl 0 rfl) ?_
        refine rM_0_0 F hP dX10_line_123 ?_
        refine lv_iconst (v := 5) hx hb dX10_line_126 (by decide) ?_
        refine lv_iload_n hx hb dX10_line_127 rfl (lv_at hl 1 rfl) ?_
        refine lv_iadd hx hb dX10_line_128 ?_
        obtain ⟨b10, h⟩ := ckS h
        refine al F hP 1 (wsW_get 1 (by decide)) (inbV b10 (by decide)) dX10_line_129 ?_
        refine lv_aload_n hx hb dX10_line_130 rfl (lv_at hl 0 rfl) ?_
        refine lv_iload_n hx hb dX10_line_131 rfl (lv_at hl 1 rfl) ?_
        obtain ⟨r11, e11, h⟩ := bsome h
        refine rd_V F hP k_X10_filled mw_1515 0 11 rfl (wsW_get 0 (by decide)) (q_X10_filled l D Y ad G9 a1 r11 e11) rfl hl.1 ⟨Nat.le_of_ble_eq_true rfl, Nat.le_of_ble_eq_true rfl⟩ (rest := [.int ((G9 1 ((5 : Int32) + a1).toNatClampNeg)), .ref (ad 0)]) rfl (Nat.le_of_ble_eq_true rfl) ⟨Nat.le_of_ble_eq_true rfl, Nat.le_of_ble_eq_true rfl⟩ dX10_line_132 (fun o11 => ?_)
        refine lv_isub hx hb dX10_line_135 ?_
        obtain ⟨G12, e12, h⟩ := bsome h
        refine wv_V F hP hS k_X10_saysNumber mw_1632 0 11 rfl (wsW_get 0 (by decide)) (q_X10_saysNumber l D Y ad hI G9 ((G9 1 ((5 : Int32) + a1).toNatClampNeg) - r11) G12 e12) rfl hl.1 ⟨Nat.le_of_ble_eq_true rfl, Nat.le_of_ble_eq_true rfl⟩ (rest := []) rfl (Nat.le_of_ble_eq_true rfl) ⟨Nat.le_of_ble_eq_true rfl, Nat.le_of_ble_eq_true rfl⟩ dX10_line_136 (fun H locs hP hS => ?_)
        refine lv_aload_n hx hb dX10_line_139 rfl (lv_at hl 0 rfl) ?_
        refine rM_0_11 F hP dX10_line_140 ?_
        exact wr_end F hP hS hr hk rfl h dX10_line_143
      · have h := ifF h c8
        refine lv_aload_n hx hb dX10_line_43 rfl (lv_at hl 0 rfl) ?_
        refine lv_iload_n hx hb dX10_line_44 rfl (lv_at hl 2 rfl) ?_
        refine lv_iload_n hx hb dX10_line_45 rfl (lv_at hl 1 rfl) ?_
        obtain ⟨r13, e13, h⟩ := bsome h
        refine rd_V F hP k_X10_beatsIn mw_1497 0 11 rfl (wsW_get 0 (by decide)) (q_X10_beatsIn l D Y ad G x2 a1 r13 e13) rfl hl.1 ⟨Nat.le_of_ble_eq_true rfl, Nat.le_of_ble_eq_true rfl⟩ (rest := []) rfl (Nat.le_of_ble_eq_true rfl) ⟨Nat.le_of_ble_eq_true rfl, Nat.le_of_ble_eq_true rfl⟩ dX10_line_46 (fun o13 => ?_)
        refine lv_if_le (tgt := 109) hx hb dX10_line_49 (by decide) (fun c14 => ?_) (fun c14 => ?_)
        · have h := ifT h c14
          exact key109 x2 G _ _ hP hS ls (lv_sub hl [0, 1, 2] rfl) h
        · have h := ifF h c14
          refine lv_aload_n hx hb dX10_line_52 rfl (lv_at hl 0 rfl) ?_
          refine lv_iload_n hx hb dX10_line_53 rfl (lv_at hl 2 rfl) ?_
          refine lv_iload_n hx hb dX10_line_54 rfl (lv_at hl 1 rfl) ?_
          obtain ⟨r15, e15, h⟩ := bsome h
          refine rd_V F hP k_X10_isTied mw_1535 0 11 rfl (wsW_get 0 (by decide)) (q_X10_isTied l D Y ad G x2 a1 r15 e15) rfl hl.1 ⟨Nat.le_of_ble_eq_true rfl, Nat.le_of_ble_eq_true rfl⟩ (rest := []) rfl (Nat.le_of_ble_eq_true rfl) ⟨Nat.le_of_ble_eq_true rfl, Nat.le_of_ble_eq_true rfl⟩ dX10_line_55 (fun o15 => ?_)
          refine lv_if_eq (tgt := 67) hx hb dX10_line_58 (by decide) (fun c16 => ?_) (fun c16 => ?_)
          · have h := ifT h c16
            exact key67 x2 G _ _ hP hS ls (lv_sub hl [0, 1, 2] rfl) h
          · have h := ifF h c16
            refine lv_aload_n hx hb dX10_line_61 rfl (lv_at hl 0 rfl) ?_
            refine lv_bipush (v := 126) hx hb dX10_line_62 (by decide) ?_
            obtain ⟨G17, e17, h⟩ := bsome h
            refine wv_V F hP hS k_X10_says mw_1628 0 11 rfl (wsW_get 0 (by decide)) (q_X10_says l D Y ad hI G (126 : Int32) G17 e17) rfl hl.1 ⟨Nat.le_of_ble_eq_true rfl, Nat.le_of_ble_eq_true rfl⟩ (rest := []) rfl (Nat.le_of_ble_eq_true rfl) ⟨Nat.le_of_ble_eq_true rfl, Nat.le_of_ble_eq_true rfl⟩ dX10_line_64 (fun H locs hP hS => ?_)
            exact key67 x2 G17 _ _ hP hS ls (lv_sub hl [0, 1, 2] rfl) h
  have key14 : ∀ (s14_0 : Int32) (G : GT) (H : Heap) (locs : List Loc), va_P D vwCl (wsM Y ad G) H → va_S (AW 8 ad) s.heap H locs → ∀ ls : Array Slot, lv_has ls 3 [(0, .ref (ad 0)), (1, .int a1)] → f_X10_line_14 G a1  s14_0 = some (r, G') → WW p l e 4 s m ([.ref (ad 0), .int a1] : List Value).toArray below meth c H locs (WQi (some .int) r D (wsM Y ad G') (AW 8 ad)) (AW 8 ad) (F0 m 14 ls [.int s14_0, .ref (ad 0)]) := by
    intro s14_0 G H locs hP hS ls hl h
    obtain ⟨G18, e18, h⟩ := bsome h
    refine pM_0_6 F hI hP hS dX10_line_14 (fun H locs hP hS => ?_)
    have hP := cvP e18 hP
    refine lv_aload_n hx hb dX10_line_17 rfl (lv_at hl 0 rfl) ?_
    refine rM_0_6 F hP dX10_line_18 ?_
    refine lv_if_le (tgt := 26) hx hb dX10_line_21 (by decide) (fun c19 => ?_) (fun c19 => ?_)
    · have h := ifT h c19
      refine lv_aload_n hx hb dX10_line_26 rfl (lv_at hl 0 rfl) ?_
      refine lv_iconst (v := 0) hx hb dX10_line_27 (by decide) ?_
      obtain ⟨G20, e20, h⟩ := bsome h
      refine pM_0_11 F hI hP hS dX10_line_28 (fun H locs hP hS => ?_)
      have hP := cvP e20 hP
      refine lv_iconst (v := 0) hx hb dX10_line_31 (by decide) ?_
      refine lv_istore_n (lv' := [(2, .int ((0 : Int32))), (0, .ref (ad 0)), (1, .int a1)]) hx hb dX10_line_32 rfl hl (by decide) rfl (fun ls hl => ?_)
      exact key33 4096 G20 (0 : Int32) _ _ hP hS ls (lv_sub hl [1, 2, 0] rfl) h
    · have h := ifF h c19
      refine lv_iconst (v := 0) hx hb dX10_line_24 (by decide) ?_
      exact wr_end F hP hS hr hk rfl h dX10_line_25
  refine lv_aload_n hx hb dX10_line_0 rfl (lv_at hl 0 rfl) ?_
  refine lv_aload_n hx hb dX10_line_1 rfl (lv_at hl 0 rfl) ?_
  refine lv_iload_n hx hb dX10_line_2 rfl (lv_at hl 1 rfl) ?_
  obtain ⟨r21, e21, h⟩ := bsome h
  refine rd_V F hP k_X10_isBar mw_1511 0 11 rfl (wsW_get 0 (by decide)) (q_X10_isBar l D Y ad G a1 r21 e21) rfl hl.1 ⟨Nat.le_of_ble_eq_true rfl, Nat.le_of_ble_eq_true rfl⟩ (rest := [.ref (ad 0)]) rfl (Nat.le_of_ble_eq_true rfl) ⟨Nat.le_of_ble_eq_true rfl, Nat.le_of_ble_eq_true rfl⟩ dX10_line_3 (fun o21 => ?_)
  refine lv_if_eq (tgt := 13) hx hb dX10_line_6 (by decide) (fun c22 => ?_) (fun c22 => ?_)
  · have h := ifT h c22
    refine lv_iconst (v := 1) hx hb dX10_line_13 (by decide) ?_
    exact key14 (1 : Int32) G _ _ hP hS ls (lv_sub hl [0, 1] rfl) h
  · have h := ifF h c22
    refine lv_iconst (v := 0) hx hb dX10_line_9 (by decide) ?_
    refine lv_goto (tgt := 14) hx hb dX10_line_10 (by decide) ?_
    exact key14 (0 : Int32) G _ _ hP hS ls (lv_sub hl [0, 1] rfl) h
def f_X10_tinLine_13 (G : GT) (a1 : Int32) (s13_0 : Int32) : Option (Int32 × GT) := ((some (upR G 0 (upd (G 0) 6 s13_0))).bind fun G1 => (if (G1 0 6) ≤ 0 then ((some (upR G1 0 (upd (G1 0) 11 (0 : Int32)))).bind fun G3 => (if inb ((11 : Int32) + ((2 : Int32) * a1)) 67 then ((f_X10_saysNumber G3 (G3 1 ((11 : Int32) + ((2 : Int32) * a1)).toNatClampNeg)).bind fun G5 => ((f_X10_says G5 (47 : Int32)).bind fun G6 => (if inb (((11 : Int32) + ((2 : Int32) * a1)) + (1 : Int32)) 67 then ((f_X10_saysNumber G6 (G6 1 (((11 : Int32) + ((2 : Int32) * a1)) + (1 : Int32)).toNatClampNeg)).bind fun G8 => some ((G8 0 11), G8)) else none))) else none)) else some ((0 : Int32), G1)))
def f_X10_tinLine (G : GT) (a1 : Int32) : Option (Int32 × GT) := ((f_X10_isTin G a1).bind fun r9 => (if r9 = 0 then f_X10_tinLine_13 G a1 (1 : Int32) else f_X10_tinLine_13 G a1 (0 : Int32)))
set_option maxRecDepth 100000 in
set_option maxHeartbeats 4000000 in
theorem q_X10_tinLine (l : Launch) (D : va_G) (Y : Nat → ClassId) (ad : Nat → Nat) (hI : Inj 8 ad) (G : GT) (a1 : Int32) (r : Int32) (G' : GT) (h : f_X10_tinLine G a1 = some (r, G')) : WR l yX10_tinLine cX10_tinLine 2 (some .int) 3 D Y 8 ad (kM Y ad) G [.ref (ad 0), .int a1] r G' := by
  refine W_of (ret := (some .int)) (by decide) (Nat.le_of_ble_eq_true rfl) (lv := [(0, .ref (ad 0)), (1, .int a1)]) rfl ?_
  intro p e s m below meth c ls F hP hS hr hk hl
  have F : Fx p c cX10_tinLine 2 s m _ RX10 D Y := F
  have hx := F.1.1
  have hb := F.1.2.1
  have key13 : ∀ (s13_0 : Int32) (G : GT) (H : Heap) (locs : List Loc), va_P D vwCl (wsM Y ad G) H → va_S (AW 8 ad) s.heap H locs → ∀ ls : Array Slot, lv_has ls 2 [(0, .ref (ad 0)), (1, .int a1)] → f_X10_tinLine_13 G a1  s13_0 = some (r, G') → WW p l e 3 s m ([.ref (ad 0), .int a1] : List Value).toArray below meth c H locs (WQi (some .int) r D (wsM Y ad G') (AW 8 ad)) (AW 8 ad) (F0 m 13 ls [.int s13_0, .ref (ad 0)]) := by
    intro s13_0 G H locs hP hS ls hl h
    obtain ⟨G1, e1, h⟩ := bsome h
    refine pM_0_6 F hI hP hS dX10_tinLine_13 (fun H locs hP hS => ?_)
    have hP := cvP e1 hP
    refine lv_aload_n hx hb dX10_tinLine_16 rfl (lv_at hl 0 rfl) ?_
    refine rM_0_6 F hP dX10_tinLine_17 ?_
    refine lv_if_le (tgt := 25) hx hb dX10_tinLine_20 (by decide) (fun c2 => ?_) (fun c2 => ?_)
    · have h := ifT h c2
      refine lv_aload_n hx hb dX10_tinLine_25 rfl (lv_at hl 0 rfl) ?_
      refine lv_iconst (v := 0) hx hb dX10_tinLine_26 (by decide) ?_
      obtain ⟨G3, e3, h⟩ := bsome h
      refine pM_0_11 F hI hP hS dX10_tinLine_27 (fun H locs hP hS => ?_)
      have hP := cvP e3 hP
      refine lv_aload_n hx hb dX10_tinLine_30 rfl (lv_at hl 0 rfl) ?_
      refine lv_aload_n hx hb dX10_tinLine_31 rfl (lv_at hl 0 rfl) ?_
      refine rM_0_0 F hP dX10_tinLine_32 ?_
      refine lv_bipush (v := 11) hx hb dX10_tinLine_35 (by decide) ?_
      refine lv_iconst (v := 2) hx hb dX10_tinLine_37 (by decide) ?_
      refine lv_iload_n hx hb dX10_tinLine_38 rfl (lv_at hl 1 rfl) ?_
      refine lv_imul hx hb dX10_tinLine_39 ?_
      refine lv_iadd hx hb dX10_tinLine_40 ?_
      obtain ⟨b4, h⟩ := ckS h
      refine al F hP 1 (wsW_get 1 (by decide)) (inbV b4 (by decide)) dX10_tinLine_41 ?_
      obtain ⟨G5, e5, h⟩ := bsome h
      refine wv_V F hP hS k_X10_saysNumber mw_1632 0 11 rfl (wsW_get 0 (by decide)) (q_X10_saysNumber l D Y ad hI G3 (G3 1 ((11 : Int32) + ((2 : Int32) * a1)).toNatClampNeg) G5 e5) rfl hl.1 ⟨Nat.le_of_ble_eq_true rfl, Nat.le_of_ble_eq_true rfl⟩ (rest := []) rfl (Nat.le_of_ble_eq_true rfl) ⟨Nat.le_of_ble_eq_true rfl, Nat.le_of_ble_eq_true rfl⟩ dX10_tinLine_42 (fun H locs hP hS => ?_)
      refine lv_aload_n hx hb dX10_tinLine_45 rfl (lv_at hl 0 rfl) ?_
      refine lv_bipush (v := 47) hx hb dX10_tinLine_46 (by decide) ?_
      obtain ⟨G6, e6, h⟩ := bsome h
      refine wv_V F hP hS k_X10_says mw_1628 0 11 rfl (wsW_get 0 (by decide)) (q_X10_says l D Y ad hI G5 (47 : Int32) G6 e6) rfl hl.1 ⟨Nat.le_of_ble_eq_true rfl, Nat.le_of_ble_eq_true rfl⟩ (rest := []) rfl (Nat.le_of_ble_eq_true rfl) ⟨Nat.le_of_ble_eq_true rfl, Nat.le_of_ble_eq_true rfl⟩ dX10_tinLine_48 (fun H locs hP hS => ?_)
      refine lv_aload_n hx hb dX10_tinLine_51 rfl (lv_at hl 0 rfl) ?_
      refine lv_aload_n hx hb dX10_tinLine_52 rfl (lv_at hl 0 rfl) ?_
      refine rM_0_0 F hP dX10_tinLine_53 ?_
      refine lv_bipush (v := 11) hx hb dX10_tinLine_56 (by decide) ?_
      refine lv_iconst (v := 2) hx hb dX10_tinLine_58 (by decide) ?_
      refine lv_iload_n hx hb dX10_tinLine_59 rfl (lv_at hl 1 rfl) ?_
      refine lv_imul hx hb dX10_tinLine_60 ?_
      refine lv_iadd hx hb dX10_tinLine_61 ?_
      refine lv_iconst (v := 1) hx hb dX10_tinLine_62 (by decide) ?_
      refine lv_iadd hx hb dX10_tinLine_63 ?_
      obtain ⟨b7, h⟩ := ckS h
      refine al F hP 1 (wsW_get 1 (by decide)) (inbV b7 (by decide)) dX10_tinLine_64 ?_
      obtain ⟨G8, e8, h⟩ := bsome h
      refine wv_V F hP hS k_X10_saysNumber mw_1632 0 11 rfl (wsW_get 0 (by decide)) (q_X10_saysNumber l D Y ad hI G6 (G6 1 (((11 : Int32) + ((2 : Int32) * a1)) + (1 : Int32)).toNatClampNeg) G8 e8) rfl hl.1 ⟨Nat.le_of_ble_eq_true rfl, Nat.le_of_ble_eq_true rfl⟩ (rest := []) rfl (Nat.le_of_ble_eq_true rfl) ⟨Nat.le_of_ble_eq_true rfl, Nat.le_of_ble_eq_true rfl⟩ dX10_tinLine_65 (fun H locs hP hS => ?_)
      refine lv_aload_n hx hb dX10_tinLine_68 rfl (lv_at hl 0 rfl) ?_
      refine rM_0_11 F hP dX10_tinLine_69 ?_
      exact wr_end F hP hS hr hk rfl h dX10_tinLine_72
    · have h := ifF h c2
      refine lv_iconst (v := 0) hx hb dX10_tinLine_23 (by decide) ?_
      exact wr_end F hP hS hr hk rfl h dX10_tinLine_24
  refine lv_aload_n hx hb dX10_tinLine_0 rfl (lv_at hl 0 rfl) ?_
  refine lv_iload_n hx hb dX10_tinLine_1 rfl (lv_at hl 1 rfl) ?_
  obtain ⟨r9, e9, h⟩ := bsome h
  refine rd_S F hP k_X10_isTin mw_1402 (q_X10_isTin l D Y ad G a1 r9 e9) rfl hl.1 ⟨Nat.le_of_ble_eq_true rfl, Nat.le_of_ble_eq_true rfl⟩ (rest := [.ref (ad 0)]) rfl (Nat.le_of_ble_eq_true rfl) ⟨Nat.le_of_ble_eq_true rfl, Nat.le_of_ble_eq_true rfl⟩ dX10_tinLine_2 (fun o9 => ?_)
  refine lv_if_eq (tgt := 12) hx hb dX10_tinLine_5 (by decide) (fun c10 => ?_) (fun c10 => ?_)
  · have h := ifT h c10
    refine lv_iconst (v := 1) hx hb dX10_tinLine_12 (by decide) ?_
    exact key13 (1 : Int32) G _ _ hP hS ls (lv_sub hl [0, 1] rfl) h
  · have h := ifF h c10
    refine lv_iconst (v := 0) hx hb dX10_tinLine_8 (by decide) ?_
    refine lv_goto (tgt := 13) hx hb dX10_tinLine_9 (by decide) ?_
    exact key13 (0 : Int32) G _ _ hP hS ls (lv_sub hl [0, 1] rfl) h
def f_X10_does_151 (G : GT) (a1 : Int32) (s151_0 : Int32) (s151_1 : Int32) (s151_2 : Int32) : Option (GT) := (bind2 (f_X10_doTin G s151_2 s151_1 s151_0) fun r1 G1 => some G1)
def f_X10_does (G : GT) (a1 : Int32) : Option (GT) := (if inb (((4 : Int32) * a1) + (1 : Int32)) 240 then (if inb (((4 : Int32) * a1) + (2 : Int32)) 240 then (if inb ((4 : Int32) * a1) 240 then (if (G 7 ((4 : Int32) * a1).toNatClampNeg) = 98 then (bind2 (f_X10_doBar G (G 7 (((4 : Int32) * a1) + (1 : Int32)).toNatClampNeg)) fun r6 G6 => some G6) else (if (G 7 ((4 : Int32) * a1).toNatClampNeg) = 100 then (if inb (((4 : Int32) * a1) + (3 : Int32)) 240 then (bind2 (f_X10_doDrop G (G 7 (((4 : Int32) * a1) + (1 : Int32)).toNatClampNeg) (G 7 (((4 : Int32) * a1) + (2 : Int32)).toNatClampNeg) (G 7 (((4 : Int32) * a1) + (3 : Int32)).toNatClampNeg)) fun r9 G9 => some G9) else none) else (if (G 7 ((4 : Int32) * a1).toNatClampNeg) = 107 then (if inb ((4 : Int32) * a1) 240 then (if (G 7 ((4 : Int32) * a1).toNatClampNeg) = (107 : Int32) then f_X10_does_151 G a1 (1 : Int32) (G 7 (((4 : Int32) * a1) + (2 : Int32)).toNatClampNeg) (G 7 (((4 : Int32) * a1) + (1 : Int32)).toNatClampNeg) else f_X10_does_151 G a1 (0 : Int32) (G 7 (((4 : Int32) * a1) + (2 : Int32)).toNatClampNeg) (G 7 (((4 : Int32) * a1) + (1 : Int32)).toNatClampNeg)) else none) else (if (G 7 ((4 : Int32) * a1).toNatClampNeg) = 108 then (if inb ((4 : Int32) * a1) 240 then (if (G 7 ((4 : Int32) * a1).toNatClampNeg) = (107 : Int32) then f_X10_does_151 G a1 (1 : Int32) (G 7 (((4 : Int32) * a1) + (2 : Int32)).toNatClampNeg) (G 7 (((4 : Int32) * a1) + (1 : Int32)).toNatClampNeg) else f_X10_does_151 G a1 (0 : Int32) (G 7 (((4 : Int32) * a1) + (2 : Int32)).toNatClampNeg) (G 7 (((4 : Int32) * a1) + (1 : Int32)).toNatClampNeg)) else none) else (if (G 7 ((4 : Int32) * a1).toNatClampNeg) = 109 then (bind2 (f_X10_doLimit G (G 7 (((4 : Int32) * a1) + (1 : Int32)).toNatClampNeg)) fun r17 G17 => some G17) else (if (G 7 ((4 : Int32) * a1).toNatClampNeg) = 114 then (bind2 (f_X10_doRest G (G 7 (((4 : Int32) * a1) + (1 : Int32)).toNatClampNeg)) fun r19 G19 => some G19) else (if (G 7 ((4 : Int32) * a1).toNatClampNeg) = 116 then (bind2 (f_X10_doTune G (G 7 (((4 : Int32) * a1) + (1 : Int32)).toNatClampNeg) (G 7 (((4 : Int32) * a1) + (2 : Int32)).toNatClampNeg)) fun r21 G21 => some G21) else (bind2 (f_X10_doLift G ) fun r22 G22 => some G22)))))))) else none) else none) else none)
set_option maxRecDepth 100000 in
set_option maxHeartbeats 4000000 in
theorem q_X10_does (l : Launch) (D : va_G) (Y : Nat → ClassId) (ad : Nat → Nat) (hI : Inj 8 ad) (G : GT) (a1 : Int32) (G' : GT) (h : f_X10_does G a1 = some G') : WV l yX10_does cX10_does 5 5 D Y 8 ad (kM Y ad) G [.ref (ad 0), .int a1] G' := by
  refine W_of (ret := none) (by decide) (Nat.le_of_ble_eq_true rfl) (lv := [(0, .ref (ad 0)), (1, .int a1)]) rfl ?_
  intro p e s m below meth c ls F hP hS hr hk hl
  have F : Fx p c cX10_does 5 s m _ RX10 D Y := F
  have hx := F.1.1
  have hb := F.1.2.1
  have key151 : ∀ (s151_0 : Int32) (s151_1 : Int32) (s151_2 : Int32) (G : GT) (H : Heap) (locs : List Loc), va_P D vwCl (wsM Y ad G) H → va_S (AW 8 ad) s.heap H locs → ∀ ls : Array Slot, lv_has ls 5 [] → f_X10_does_151 G a1  s151_0 s151_1 s151_2 = some G' → WW p l e 5 s m ([.ref (ad 0), .int a1] : List Value).toArray below meth c H locs (WQv D (wsM Y ad G') (AW 8 ad)) (AW 8 ad) (F0 m 151 ls [.int s151_0, .int s151_1, .int s151_2, .ref (ad 0)]) := by
    intro s151_0 s151_1 s151_2 G H locs hP hS ls hl h
    obtain ⟨r1, G1, e1, h⟩ := bsome2 h
    refine wr_V F hP hS k_X10_doTin mw_1398 0 11 rfl (wsW_get 0 (by decide)) (q_X10_doTin l D Y ad hI G s151_2 s151_1 s151_0 r1 G1 e1) rfl hl.1 ⟨Nat.le_of_ble_eq_true rfl, Nat.le_of_ble_eq_true rfl⟩ (rest := []) rfl (Nat.le_of_ble_eq_true rfl) ⟨Nat.le_of_ble_eq_true rfl, Nat.le_of_ble_eq_true rfl⟩ dX10_does_151 (fun H locs o1 hP hS => ?_)
    refine lv_istore (lv' := [(4, .int r1)]) hx hb dX10_does_154 hl (by decide) rfl (fun ls hl => ?_)
    refine lv_goto (tgt := 217) hx hb dX10_does_156 (by decide) ?_
    exact wv_end F hP hS hr hk h dX10_does_217
  refine lv_aload_n hx hb dX10_does_0 rfl (lv_at hl 0 rfl) ?_
  refine rM_0_17 F hP dX10_does_1 ?_
  refine lv_iconst (v := 4) hx hb dX10_does_4 (by decide) ?_
  refine lv_iload_n hx hb dX10_does_5 rfl (lv_at hl 1 rfl) ?_
  refine lv_imul hx hb dX10_does_6 ?_
  refine lv_iconst (v := 1) hx hb dX10_does_7 (by decide) ?_
  refine lv_iadd hx hb dX10_does_8 ?_
  obtain ⟨b2, h⟩ := ckS h
  refine al F hP 7 (wsW_get 7 (by decide)) (inbV b2 (by decide)) dX10_does_9 ?_
  refine lv_istore_n (lv' := [(2, .int ((G 7 (((4 : Int32) * a1) + (1 : Int32)).toNatClampNeg))), (0, .ref (ad 0)), (1, .int a1)]) hx hb dX10_does_10 rfl hl (by decide) rfl (fun ls hl => ?_)
  refine lv_aload_n hx hb dX10_does_11 rfl (lv_at hl 1 rfl) ?_
  refine rM_0_17 F hP dX10_does_12 ?_
  refine lv_iconst (v := 4) hx hb dX10_does_15 (by decide) ?_
  refine lv_iload_n hx hb dX10_does_16 rfl (lv_at hl 2 rfl) ?_
  refine lv_imul hx hb dX10_does_17 ?_
  refine lv_iconst (v := 2) hx hb dX10_does_18 (by decide) ?_
  refine lv_iadd hx hb dX10_does_19 ?_
  obtain ⟨b3, h⟩ := ckS h
  refine al F hP 7 (wsW_get 7 (by decide)) (inbV b3 (by decide)) dX10_does_20 ?_
  refine lv_istore_n (lv' := [(3, .int ((G 7 (((4 : Int32) * a1) + (2 : Int32)).toNatClampNeg))), (2, .int ((G 7 (((4 : Int32) * a1) + (1 : Int32)).toNatClampNeg))), (0, .ref (ad 0)), (1, .int a1)]) hx hb dX10_does_21 rfl hl (by decide) rfl (fun ls hl => ?_)
  refine lv_aload_n hx hb dX10_does_22 rfl (lv_at hl 2 rfl) ?_
  refine rM_0_17 F hP dX10_does_23 ?_
  refine lv_iconst (v := 4) hx hb dX10_does_26 (by decide) ?_
  refine lv_iload_n hx hb dX10_does_27 rfl (lv_at hl 3 rfl) ?_
  refine lv_imul hx hb dX10_does_28 ?_
  obtain ⟨b4, h⟩ := ckS h
  refine al F hP 7 (wsW_get 7 (by decide)) (inbV b4 (by decide)) dX10_does_29 ?_
  by_cases c5 : (G 7 ((4 : Int32) * a1).toNatClampNeg) = 98
  · have h := ifT h c5
    refine lv_tableIn (off := 90) (tgt := 120) hx hb dX10_does_30 (by rw [c5]; decide) (by rw [c5]; decide) (by rw [c5]; rfl) (by decide) ?_
    refine lv_aload_n hx hb dX10_does_120 rfl (lv_at hl 2 rfl) ?_
    refine lv_iload_n hx hb dX10_does_121 rfl (lv_at hl 1 rfl) ?_
    obtain ⟨r6, G6, e6, h⟩ := bsome2 h
    refine wr_V F hP hS k_X10_doBar mw_1375 0 11 rfl (wsW_get 0 (by decide)) (q_X10_doBar l D Y ad hI G (G 7 (((4 : Int32) * a1) + (1 : Int32)).toNatClampNeg) r6 G6 e6) rfl hl.1 ⟨Nat.le_of_ble_eq_true rfl, Nat.le_of_ble_eq_true rfl⟩ (rest := []) rfl (Nat.le_of_ble_eq_true rfl) ⟨Nat.le_of_ble_eq_true rfl, Nat.le_of_ble_eq_true rfl⟩ dX10_does_122 (fun H locs o6 hP hS => ?_)
    refine lv_istore (lv' := [(4, .int r6), (3, .int ((G 7 (((4 : Int32) * a1) + (2 : Int32)).toNatClampNeg))), (2, .int ((G 7 (((4 : Int32) * a1) + (1 : Int32)).toNatClampNeg))), (0, .ref (ad 0)), (1, .int a1)]) hx hb dX10_does_125 hl (by decide) rfl (fun ls hl => ?_)
    refine lv_goto (tgt := 217) hx hb dX10_does_127 (by decide) ?_
    exact wv_end F hP hS hr hk h dX10_does_217
  have h := ifF h c5
  by_cases c7 : (G 7 ((4 : Int32) * a1).toNatClampNeg) = 100
  · have h := ifT h c7
    refine lv_tableIn (off := 129) (tgt := 159) hx hb dX10_does_30 (by rw [c7]; decide) (by rw [c7]; decide) (by rw [c7]; rfl) (by decide) ?_
    refine lv_aload_n hx hb dX10_does_159 rfl (lv_at hl 2 rfl) ?_
    refine lv_iload_n hx hb dX10_does_160 rfl (lv_at hl 1 rfl) ?_
    refine lv_iload_n hx hb dX10_does_161 rfl (lv_at hl 0 rfl) ?_
    refine lv_aload_n hx hb dX10_does_162 rfl (lv_at hl 2 rfl) ?_
    refine rM_0_17 F hP dX10_does_163 ?_
    refine lv_iconst (v := 4) hx hb dX10_does_166 (by decide) ?_
    refine lv_iload_n hx hb dX10_does_167 rfl (lv_at hl 3 rfl) ?_
    refine lv_imul hx hb dX10_does_168 ?_
    refine lv_iconst (v := 3) hx hb dX10_does_169 (by decide) ?_
    refine lv_iadd hx hb dX10_does_170 ?_
    obtain ⟨b8, h⟩ := ckS h
    refine al F hP 7 (wsW_get 7 (by decide)) (inbV b8 (by decide)) dX10_does_171 ?_
    obtain ⟨r9, G9, e9, h⟩ := bsome2 h
    refine wr_V F hP hS k_X10_doDrop mw_1413 0 11 rfl (wsW_get 0 (by decide)) (q_X10_doDrop l D Y ad hI G (G 7 (((4 : Int32) * a1) + (1 : Int32)).toNatClampNeg) (G 7 (((4 : Int32) * a1) + (2 : Int32)).toNatClampNeg) (G 7 (((4 : Int32) * a1) + (3 : Int32)).toNatClampNeg) r9 G9 e9) rfl hl.1 ⟨Nat.le_of_ble_eq_true rfl, Nat.le_of_ble_eq_true rfl⟩ (rest := []) rfl (Nat.le_of_ble_eq_true rfl) ⟨Nat.le_of_ble_eq_true rfl, Nat.le_of_ble_eq_true rfl⟩ dX10_does_172 (fun H locs o9 hP hS => ?_)
    refine lv_istore (lv' := [(4, .int r9), (3, .int ((G 7 (((4 : Int32) * a1) + (2 : Int32)).toNatClampNeg))), (2, .int ((G 7 (((4 : Int32) * a1) + (1 : Int32)).toNatClampNeg))), (0, .ref (ad 0)), (1, .int a1)]) hx hb dX10_does_175 hl (by decide) rfl (fun ls hl => ?_)
    refine lv_goto (tgt := 217) hx hb dX10_does_177 (by decide) ?_
    exact wv_end F hP hS hr hk h dX10_does_217
  have h := ifF h c7
  by_cases c10 : (G 7 ((4 : Int32) * a1).toNatClampNeg) = 107
  · have h := ifT h c10
    refine lv_tableIn (off := 100) (tgt := 130) hx hb dX10_does_30 (by rw [c10]; decide) (by rw [c10]; decide) (by rw [c10]; rfl) (by decide) ?_
    refine lv_aload_n hx hb dX10_does_130 rfl (lv_at hl 2 rfl) ?_
    refine lv_iload_n hx hb dX10_does_131 rfl (lv_at hl 1 rfl) ?_
    refine lv_iload_n hx hb dX10_does_132 rfl (lv_at hl 0 rfl) ?_
    refine lv_aload_n hx hb dX10_does_133 rfl (lv_at hl 2 rfl) ?_
    refine rM_0_17 F hP dX10_does_134 ?_
    refine lv_iconst (v := 4) hx hb dX10_does_137 (by decide) ?_
    refine lv_iload_n hx hb dX10_does_138 rfl (lv_at hl 3 rfl) ?_
    refine lv_imul hx hb dX10_does_139 ?_
    obtain ⟨b11, h⟩ := ckS h
    refine al F hP 7 (wsW_get 7 (by decide)) (inbV b11 (by decide)) dX10_does_140 ?_
    refine lv_bipush (v := 107) hx hb dX10_does_141 (by decide) ?_
    refine lv_icmp_ne (tgt := 150) hx hb dX10_does_143 (by decide) (fun c12 => ?_) (fun c12 => ?_)
    · have h := ifF h c12
      refine lv_iconst (v := 0) hx hb dX10_does_150 (by decide) ?_
      exact key151 (0 : Int32) (G 7 (((4 : Int32) * a1) + (2 : Int32)).toNatClampNeg) (G 7 (((4 : Int32) * a1) + (1 : Int32)).toNatClampNeg) G _ _ hP hS ls (lv_sub hl [] rfl) h
    · have h := ifT h c12
      refine lv_iconst (v := 1) hx hb dX10_does_146 (by decide) ?_
      refine lv_goto (tgt := 151) hx hb dX10_does_147 (by decide) ?_
      exact key151 (1 : Int32) (G 7 (((4 : Int32) * a1) + (2 : Int32)).toNatClampNeg) (G 7 (((4 : Int32) * a1) + (1 : Int32)).toNatClampNeg) G _ _ hP hS ls (lv_sub hl [] rfl) h
  have h := ifF h c10
  by_cases c13 : (G 7 ((4 : Int32) * a1).toNatClampNeg) = 108
  · have h := ifT h c13
    refine lv_tableIn (off := 100) (tgt := 130) hx hb dX10_does_30 (by rw [c13]; decide) (by rw [c13]; decide) (by rw [c13]; rfl) (by decide) ?_
    refine lv_aload_n hx hb dX10_does_130 rfl (lv_at hl 2 rfl) ?_
    refine lv_iload_n hx hb dX10_does_131 rfl (lv_at hl 1 rfl) ?_
    refine lv_iload_n hx hb dX10_does_132 rfl (lv_at hl 0 rfl) ?_
    refine lv_aload_n hx hb dX10_does_133 rfl (lv_at hl 2 rfl) ?_
    refine rM_0_17 F hP dX10_does_134 ?_
    refine lv_iconst (v := 4) hx hb dX10_does_137 (by decide) ?_
    refine lv_iload_n hx hb dX10_does_138 rfl (lv_at hl 3 rfl) ?_
    refine lv_imul hx hb dX10_does_139 ?_
    obtain ⟨b14, h⟩ := ckS h
    refine al F hP 7 (wsW_get 7 (by decide)) (inbV b14 (by decide)) dX10_does_140 ?_
    refine lv_bipush (v := 107) hx hb dX10_does_141 (by decide) ?_
    refine lv_icmp_ne (tgt := 150) hx hb dX10_does_143 (by decide) (fun c15 => ?_) (fun c15 => ?_)
    · have h := ifF h c15
      refine lv_iconst (v := 0) hx hb dX10_does_150 (by decide) ?_
      exact key151 (0 : Int32) (G 7 (((4 : Int32) * a1) + (2 : Int32)).toNatClampNeg) (G 7 (((4 : Int32) * a1) + (1 : Int32)).toNatClampNeg) G _ _ hP hS ls (lv_sub hl [] rfl) h
    · have h := ifT h c15
      refine lv_iconst (v := 1) hx hb dX10_does_146 (by decide) ?_
      refine lv_goto (tgt := 151) hx hb dX10_does_147 (by decide) ?_
      exact key151 (1 : Int32) (G 7 (((4 : Int32) * a1) + (2 : Int32)).toNatClampNeg) (G 7 (((4 : Int32) * a1) + (1 : Int32)).toNatClampNeg) G _ _ hP hS ls (lv_sub hl [] rfl) h
  have h := ifF h c13
  by_cases c16 : (G 7 ((4 : Int32) * a1).toNatClampNeg) = 109
  · have h := ifT h c16
    refine lv_tableIn (off := 171) (tgt := 201) hx hb dX10_does_30 (by rw [c16]; decide) (by rw [c16]; decide) (by rw [c16]; rfl) (by decide) ?_
    refine lv_aload_n hx hb dX10_does_201 rfl (lv_at hl 2 rfl) ?_
    refine lv_iload_n hx hb dX10_does_202 rfl (lv_at hl 1 rfl) ?_
    obtain ⟨r17, G17, e17, h⟩ := bsome2 h
    refine wr_V F hP hS k_X10_doLimit mw_1457 0 11 rfl (wsW_get 0 (by decide)) (q_X10_doLimit l D Y ad hI G (G 7 (((4 : Int32) * a1) + (1 : Int32)).toNatClampNeg) r17 G17 e17) rfl hl.1 ⟨Nat.le_of_ble_eq_true rfl, Nat.le_of_ble_eq_true rfl⟩ (rest := []) rfl (Nat.le_of_ble_eq_true rfl) ⟨Nat.le_of_ble_eq_true rfl, Nat.le_of_ble_eq_true rfl⟩ dX10_does_203 (fun H locs o17 hP hS => ?_)
    refine lv_istore (lv' := [(4, .int r17), (3, .int ((G 7 (((4 : Int32) * a1) + (2 : Int32)).toNatClampNeg))), (2, .int ((G 7 (((4 : Int32) * a1) + (1 : Int32)).toNatClampNeg))), (0, .ref (ad 0)), (1, .int a1)]) hx hb dX10_does_206 hl (by decide) rfl (fun ls hl => ?_)
    refine lv_goto (tgt := 217) hx hb dX10_does_208 (by decide) ?_
    exact wv_end F hP hS hr hk h dX10_does_217
  have h := ifF h c16
  by_cases c18 : (G 7 ((4 : Int32) * a1).toNatClampNeg) = 114
  · have h := ifT h c18
    refine lv_tableIn (off := 150) (tgt := 180) hx hb dX10_does_30 (by rw [c18]; decide) (by rw [c18]; decide) (by rw [c18]; rfl) (by decide) ?_
    refine lv_aload_n hx hb dX10_does_180 rfl (lv_at hl 2 rfl) ?_
    refine lv_iload_n hx hb dX10_does_181 rfl (lv_at hl 1 rfl) ?_
    obtain ⟨r19, G19, e19, h⟩ := bsome2 h
    refine wr_V F hP hS k_X10_doRest mw_1441 0 11 rfl (wsW_get 0 (by decide)) (q_X10_doRest l D Y ad hI G (G 7 (((4 : Int32) * a1) + (1 : Int32)).toNatClampNeg) r19 G19 e19) rfl hl.1 ⟨Nat.le_of_ble_eq_true rfl, Nat.le_of_ble_eq_true rfl⟩ (rest := []) rfl (Nat.le_of_ble_eq_true rfl) ⟨Nat.le_of_ble_eq_true rfl, Nat.le_of_ble_eq_true rfl⟩ dX10_does_182 (fun H locs o19 hP hS => ?_)
    refine lv_istore (lv' := [(4, .int r19), (3, .int ((G 7 (((4 : Int32) * a1) + (2 : Int32)).toNatClampNeg))), (2, .int ((G 7 (((4 : Int32) * a1) + (1 : Int32)).toNatClampNeg))), (0, .ref (ad 0)), (1, .int a1)]) hx hb dX10_does_185 hl (by decide) rfl (fun ls hl => ?_)
    refine lv_goto (tgt := 217) hx hb dX10_does_187 (by decide) ?_
    exact wv_end F hP hS hr hk h dX10_does_217
  have h := ifF h c18
  by_cases c20 : (G 7 ((4 : Int32) * a1).toNatClampNeg) = 116
  · have h := ifT h c20
    refine lv_tableIn (off := 160) (tgt := 190) hx hb dX10_does_30 (by rw [c20]; decide) (by rw [c20]; decide) (by rw [c20]; rfl) (by decide) ?_
    refine lv_aload_n hx hb dX10_does_190 rfl (lv_at hl 2 rfl) ?_
    refine lv_iload_n hx hb dX10_does_191 rfl (lv_at hl 1 rfl) ?_
    refine lv_iload_n hx hb dX10_does_192 rfl (lv_at hl 0 rfl) ?_
    obtain ⟨r21, G21, e21, h⟩ := bsome2 h
    refine wr_V F hP hS k_X10_doTune mw_1465 0 11 rfl (wsW_get 0 (by decide)) (q_X10_doTune l D Y ad hI G (G 7 (((4 : Int32) * a1) + (1 : Int32)).toNatClampNeg) (G 7 (((4 : Int32) * a1) + (2 : Int32)).toNatClampNeg) r21 G21 e21) rfl hl.1 ⟨Nat.le_of_ble_eq_true rfl, Nat.le_of_ble_eq_true rfl⟩ (rest := []) rfl (Nat.le_of_ble_eq_true rfl) ⟨Nat.le_of_ble_eq_true rfl, Nat.le_of_ble_eq_true rfl⟩ dX10_does_193 (fun H locs o21 hP hS => ?_)
    refine lv_istore (lv' := [(4, .int r21), (3, .int ((G 7 (((4 : Int32) * a1) + (2 : Int32)).toNatClampNeg))), (2, .int ((G 7 (((4 : Int32) * a1) + (1 : Int32)).toNatClampNeg))), (0, .ref (ad 0)), (1, .int a1)]) hx hb dX10_does_196 hl (by decide) rfl (fun ls hl => ?_)
    refine lv_goto (tgt := 217) hx hb dX10_does_198 (by decide) ?_
    exact wv_end F hP hS hr hk h dX10_does_217
  have h := ifF h c20
  have dflt : ∀ (_u : Unit), WW p l e 5 s m ([.ref (ad 0), .int a1] : List Value).toArray below meth c s.heap [] (WQv D (wsM Y ad G') (AW 8 ad)) (AW 8 ad) (F0 m 211 ls []) := fun _ => by
    refine lv_aload_n hx hb dX10_does_211 rfl (lv_at hl 2 rfl) ?_
    obtain ⟨r22, G22, e22, h⟩ := bsome2 h
    refine wr_V F hP hS k_X10_doLift mw_1449 0 11 rfl (wsW_get 0 (by decide)) (q_X10_doLift l D Y ad hI G  r22 G22 e22) rfl hl.1 ⟨Nat.le_of_ble_eq_true rfl, Nat.le_of_ble_eq_true rfl⟩ (rest := []) rfl (Nat.le_of_ble_eq_true rfl) ⟨Nat.le_of_ble_eq_true rfl, Nat.le_of_ble_eq_true rfl⟩ dX10_does_212 (fun H locs o22 hP hS => ?_)
    refine lv_istore (lv' := [(4, .int r22), (3, .int ((G 7 (((4 : Int32) * a1) + (2 : Int32)).toNatClampNeg))), (2, .int ((G 7 (((4 : Int32) * a1) + (1 : Int32)).toNatClampNeg))), (0, .ref (ad 0)), (1, .int a1)]) hx hb dX10_does_215 hl (by decide) rfl (fun ls hl => ?_)
    exact wv_end F hP hS hr hk h dX10_does_217
  by_cases c23 : (G 7 ((4 : Int32) * a1).toNatClampNeg) = 99
  · refine lv_tableIn (off := 181) (tgt := 211) hx hb dX10_does_30 (by rw [c23]; decide) (by rw [c23]; decide) (by rw [c23]; rfl) (by decide) ?_
    exact dflt ()
  by_cases c24 : (G 7 ((4 : Int32) * a1).toNatClampNeg) = 101
  · refine lv_tableIn (off := 181) (tgt := 211) hx hb dX10_does_30 (by rw [c24]; decide) (by rw [c24]; decide) (by rw [c24]; rfl) (by decide) ?_
    exact dflt ()
  by_cases c25 : (G 7 ((4 : Int32) * a1).toNatClampNeg) = 102
  · refine lv_tableIn (off := 181) (tgt := 211) hx hb dX10_does_30 (by rw [c25]; decide) (by rw [c25]; decide) (by rw [c25]; rfl) (by decide) ?_
    exact dflt ()
  by_cases c26 : (G 7 ((4 : Int32) * a1).toNatClampNeg) = 103
  · refine lv_tableIn (off := 181) (tgt := 211) hx hb dX10_does_30 (by rw [c26]; decide) (by rw [c26]; decide) (by rw [c26]; rfl) (by decide) ?_
    exact dflt ()
  by_cases c27 : (G 7 ((4 : Int32) * a1).toNatClampNeg) = 104
  · refine lv_tableIn (off := 181) (tgt := 211) hx hb dX10_does_30 (by rw [c27]; decide) (by rw [c27]; decide) (by rw [c27]; rfl) (by decide) ?_
    exact dflt ()
  by_cases c28 : (G 7 ((4 : Int32) * a1).toNatClampNeg) = 105
  · refine lv_tableIn (off := 181) (tgt := 211) hx hb dX10_does_30 (by rw [c28]; decide) (by rw [c28]; decide) (by rw [c28]; rfl) (by decide) ?_
    exact dflt ()
  by_cases c29 : (G 7 ((4 : Int32) * a1).toNatClampNeg) = 106
  · refine lv_tableIn (off := 181) (tgt := 211) hx hb dX10_does_30 (by rw [c29]; decide) (by rw [c29]; decide) (by rw [c29]; rfl) (by decide) ?_
    exact dflt ()
  by_cases c30 : (G 7 ((4 : Int32) * a1).toNatClampNeg) = 110
  · refine lv_tableIn (off := 181) (tgt := 211) hx hb dX10_does_30 (by rw [c30]; decide) (by rw [c30]; decide) (by rw [c30]; rfl) (by decide) ?_
    exact dflt ()
  by_cases c31 : (G 7 ((4 : Int32) * a1).toNatClampNeg) = 111
  · refine lv_tableIn (off := 181) (tgt := 211) hx hb dX10_does_30 (by rw [c31]; decide) (by rw [c31]; decide) (by rw [c31]; rfl) (by decide) ?_
    exact dflt ()
  by_cases c32 : (G 7 ((4 : Int32) * a1).toNatClampNeg) = 112
  · refine lv_tableIn (off := 181) (tgt := 211) hx hb dX10_does_30 (by rw [c32]; decide) (by rw [c32]; decide) (by rw [c32]; rfl) (by decide) ?_
    exact dflt ()
  by_cases c33 : (G 7 ((4 : Int32) * a1).toNatClampNeg) = 113
  · refine lv_tableIn (off := 181) (tgt := 211) hx hb dX10_does_30 (by rw [c33]; decide) (by rw [c33]; decide) (by rw [c33]; rfl) (by decide) ?_
    exact dflt ()
  by_cases c34 : (G 7 ((4 : Int32) * a1).toNatClampNeg) = 115
  · refine lv_tableIn (off := 181) (tgt := 211) hx hb dX10_does_30 (by rw [c34]; decide) (by rw [c34]; decide) (by rw [c34]; rfl) (by decide) ?_
    exact dflt ()
  refine lv_tableOut (tgt := 211) hx hb dX10_does_30 (by have nc5 := lv_neT c5 (a := 98) (by decide); have nc7 := lv_neT c7 (a := 100) (by decide); have nc10 := lv_neT c10 (a := 107) (by decide); have nc13 := lv_neT c13 (a := 108) (by decide); have nc16 := lv_neT c16 (a := 109) (by decide); have nc18 := lv_neT c18 (a := 114) (by decide); have nc20 := lv_neT c20 (a := 116) (by decide); have nc23 := lv_neT c23 (a := 99) (by decide); have nc24 := lv_neT c24 (a := 101) (by decide); have nc25 := lv_neT c25 (a := 102) (by decide); have nc26 := lv_neT c26 (a := 103) (by decide); have nc27 := lv_neT c27 (a := 104) (by decide); have nc28 := lv_neT c28 (a := 105) (by decide); have nc29 := lv_neT c29 (a := 106) (by decide); have nc30 := lv_neT c30 (a := 110) (by decide); have nc31 := lv_neT c31 (a := 111) (by decide); have nc32 := lv_neT c32 (a := 112) (by decide); have nc33 := lv_neT c33 (a := 113) (by decide); have nc34 := lv_neT c34 (a := 115) (by decide); omega) (by decide) ?_
  exact dflt ()
def f_X10_run_156 (G : GT) (s156_0 : Int32) : Option (Int32 × GT) := (bind2 (f_X10_fails G s156_0) fun r1 G1 => (bind2 (f_X10_ends G1 r1) fun r2 G2 => some (r2, G2)))
def f_X10_run_117 (n : Nat) (G : GT) (y1 : Int32) : Option (Int32 × GT) := lq2 (fun (k117 : GT → Int32 → Option (Int32 × GT)) (G : GT) (x1 : Int32) => (if (G 0 18) ≤ x1 then (bind2 (f_X10_ends G (G 0 18)) fun r4 G4 => some (r4, G4)) else ((some (upR G 0 (upd (G 0) 9 (0 : Int32)))).bind fun G5 => ((f_X10_does G5 x1).bind fun G6 => (if (G6 0 6) ≤ 0 then k117 G6 (x1 + 1) else (if (G6 0 9) = 0 then f_X10_run_156 G6 (1 : Int32) else f_X10_run_156 G6 (2 : Int32))))))) n G y1
def f_X10_run_90 (G : GT) (s90_0 : Int32) : Option (Int32 × GT) := ((some (upR G 0 (upd (G 0) 16 s90_0))).bind fun G9 => ((some (upR G9 0 (upd (G9 0) 13 (0 : Int32)))).bind fun G10 => (if (G10 0 15) = 0 then ((f_X10_keep G10 ).bind fun G12 => f_X10_run_117 4096 G12 (0 : Int32)) else (bind2 (f_X10_fails G10 (1 : Int32)) fun r13 G13 => some (r13, G13)))))
def f_X10_run_71 (G : GT) (s71_0 : Int32) : Option (Int32 × GT) := (if okB s71_0 then ((some (upR G 0 (upd (G 0) 15 s71_0))).bind fun G15 => (if (G15 0 15) = 0 then f_X10_run_90 G15 (-1 : Int32) else f_X10_run_90 G15 (G15 0 14))) else none)
def f_X10_run_66 (G : GT) : Option (Int32 × GT) := f_X10_run_71 G (1 : Int32)
def f_X10_run_19 (n : Nat) (G : GT) : Option (Int32 × GT) := lq1 (fun (k19 : GT → Option (Int32 × GT)) (G : GT) => ((f_X10_isHere G (59 : Int32) (59 : Int32)).bind fun r17 => (if r17 = 0 then (if (G 0 15) = 0 then (if (G 0 13) ≤ (G 0 14) then f_X10_run_71 G (0 : Int32) else f_X10_run_66 G) else f_X10_run_66 G) else ((some (upR G 0 (upd (G 0) 14 ((G 0 14) + (1 : Int32))))).bind fun G21 => ((f_X10_readOrder G21 ).bind fun G22 => k19 G22))))) n G 
def f_X10_run (G : GT) : Option (Int32 × GT) := ((some (upR G 0 (upd (G 0) 14 (0 : Int32)))).bind fun G23 => ((some (upR G23 0 (upd (G23 0) 15 (0 : Int32)))).bind fun G24 => ((some (upR G24 0 (upd (G24 0) 18 (0 : Int32)))).bind fun G25 => ((f_X10_readOrder G25 ).bind fun G26 => f_X10_run_19 4096 G26))))
set_option maxRecDepth 100000 in
set_option maxHeartbeats 4000000 in
theorem q_X10_run (l : Launch) (D : va_G) (Y : Nat → ClassId) (ad : Nat → Nat) (kd : Nat → Nat) (hI : Inj 8 ad) (G : GT) (r : Int32) (G' : GT) (h : f_X10_run G  = some (r, G')) : WKi l yX10_run cX10_run 2 (some .int) 7 D Y 8 ad (kM Y ad) kd G [.ref (ad 0)] r G' := by
  refine RK_of (ret := (some .int)) (by decide) (Nat.le_of_ble_eq_true rfl) (lv := [(0, .ref (ad 0))]) rfl ?_
  intro p e s m below meth c ls F hP hK hS hr hk hl
  have F : Fx p c cX10_run 2 s m _ RX10 D Y := F
  have hx := F.1.1
  have hb := F.1.2.1
  have hts := F.1.2.2.2.2
  have hown := F.1.2.2.2.1
  have key156 : ∀ (s156_0 : Int32) (G : GT) (H : Heap) (locs : List Loc), va_P D vwCl (wsM Y ad G) H → va_S (AW 8 ad) s.heap H locs → ∀ ls : Array Slot, lv_has ls 2 [] → f_X10_run_156 G   s156_0 = some (r, G') → WW p l e 7 s m ([.ref (ad 0)] : List Value).toArray below meth c H locs (WQi (some .int) r D (wsM Y ad G') (AW 8 ad)) (AW 8 ad) (F0 m 156 ls [.int s156_0, .ref (ad 0), .ref (ad 0)]) := by
    intro s156_0 G  H locs hP hS ls hl h
    obtain ⟨r1, G1, e1, h⟩ := bsome2 h
    refine wr_V F hP hS k_X10_fails mw_1382 0 11 rfl (wsW_get 0 (by decide)) (q_X10_fails l D Y ad hI G s156_0 r1 G1 e1) rfl hl.1 ⟨Nat.le_of_ble_eq_true rfl, Nat.le_of_ble_eq_true rfl⟩ (rest := [.ref (ad 0)]) rfl (Nat.le_of_ble_eq_true rfl) ⟨Nat.le_of_ble_eq_true rfl, Nat.le_of_ble_eq_true rfl⟩ dX10_run_156 (fun H locs o1 hP hS => ?_)
    obtain ⟨r2, G2, e2, h⟩ := bsome2 h
    refine wr_V F hP hS k_X10_ends mw_1390 0 11 rfl (wsW_get 0 (by decide)) (q_X10_ends l D Y ad hI G1 r1 r2 G2 e2) rfl hl.1 ⟨Nat.le_of_ble_eq_true rfl, Nat.le_of_ble_eq_true rfl⟩ (rest := []) rfl (Nat.le_of_ble_eq_true rfl) ⟨Nat.le_of_ble_eq_true rfl, Nat.le_of_ble_eq_true rfl⟩ dX10_run_159 (fun H locs o2 hP hS => ?_)
    exact wr_end F hP hS hr hk rfl h dX10_run_162
  have key117 : ∀ (n : Nat) (G : GT) (x1 : Int32) (H : Heap) (locs : List Loc), va_P D vwCl (wsM Y ad G) H → va_S (AW 8 ad) s.heap H locs → ∀ ls : Array Slot, lv_has ls 2 [(0, .ref (ad 0)), (1, .int x1)] → f_X10_run_117   n G x1 = some (r, G') → WW p l e 7 s m ([.ref (ad 0)] : List Value).toArray below meth c H locs (WQi (some .int) r D (wsM Y ad G') (AW 8 ad)) (AW 8 ad) (F0 m 117 ls []) := by
    intro  n
    induction n with
    | zero => intro G x1 H locs hP hS ls hl h; exact lqZ2 h
    | succ n117 ih117 =>
      intro G x1 H locs hP hS ls hl h
      have h := lqS2 h
      refine lv_iload_n hx hb dX10_run_117 rfl (lv_at hl 1 rfl) ?_
      refine lv_aload_n hx hb dX10_run_118 rfl (lv_at hl 0 rfl) ?_
      refine rM_0_18 F hP dX10_run_119 ?_
      refine lv_icmp_ge (tgt := 169) hx hb dX10_run_122 (by decide) (fun c3 => ?_) (fun c3 => ?_)
      · have h := ifT h c3
        refine lv_aload_n hx hb dX10_run_169 rfl (lv_at hl 0 rfl) ?_
        refine lv_aload_n hx hb dX10_run_170 rfl (lv_at hl 0 rfl) ?_
        refine rM_0_18 F hP dX10_run_171 ?_
        obtain ⟨r4, G4, e4, h⟩ := bsome2 h
        refine wr_V F hP hS k_X10_ends mw_1390 0 11 rfl (wsW_get 0 (by decide)) (q_X10_ends l D Y ad hI G (G 0 18) r4 G4 e4) rfl hl.1 ⟨Nat.le_of_ble_eq_true rfl, Nat.le_of_ble_eq_true rfl⟩ (rest := []) rfl (Nat.le_of_ble_eq_true rfl) ⟨Nat.le_of_ble_eq_true rfl, Nat.le_of_ble_eq_true rfl⟩ dX10_run_174 (fun H locs o4 hP hS => ?_)
        exact wr_end F hP hS hr hk rfl h dX10_run_177
      · have h := ifF h c3
        refine lv_aload_n hx hb dX10_run_125 rfl (lv_at hl 0 rfl) ?_
        refine lv_iconst (v := 0) hx hb dX10_run_126 (by decide) ?_
        obtain ⟨G5, e5, h⟩ := bsome h
        refine pM_0_9 rfl rfl F hI hP hS dX10_run_127 (fun H locs hP hS => ?_)
        have hP := cvP e5 hP
        refine lv_aload_n hx hb dX10_run_130 rfl (lv_at hl 0 rfl) ?_
        refine lv_iload_n hx hb dX10_run_131 rfl (lv_at hl 1 rfl) ?_
        obtain ⟨G6, e6, h⟩ := bsome h
        refine wv_V F hP hS k_X10_does mw_1687 0 11 rfl (wsW_get 0 (by decide)) (q_X10_does l D Y ad hI G5 x1 G6 e6) rfl hl.1 ⟨Nat.le_of_ble_eq_true rfl, Nat.le_of_ble_eq_true rfl⟩ (rest := []) rfl (Nat.le_of_ble_eq_true rfl) ⟨Nat.le_of_ble_eq_true rfl, Nat.le_of_ble_eq_true rfl⟩ dX10_run_132 (fun H locs hP hS => ?_)
        refine lv_aload_n hx hb dX10_run_135 rfl (lv_at hl 0 rfl) ?_
        refine rM_0_6 F hP dX10_run_136 ?_
        refine lv_if_le (tgt := 163) hx hb dX10_run_139 (by decide) (fun c7 => ?_) (fun c7 => ?_)
        · have h := ifT h c7
          refine lv_iinc (v := (x1 + 1)) (lv' := [(1, .int ((x1 + 1))), (0, .ref (ad 0))]) hx hb dX10_run_163 hl (k := 1) rfl rfl (by decide) rfl (fun ls hl => ?_)
          refine lv_goto (tgt := 117) hx hb dX10_run_166 (by decide) ?_
          exact ih117 G6 (x1 + 1) _ _ hP hS ls (lv_sub hl [1, 0] rfl) h
        · have h := ifF h c7
          refine lv_aload_n hx hb dX10_run_142 rfl (lv_at hl 0 rfl) ?_
          refine lv_aload_n hx hb dX10_run_143 rfl (lv_at hl 0 rfl) ?_
          refine lv_aload_n hx hb dX10_run_144 rfl (lv_at hl 0 rfl) ?_
          refine rM_0_9 F hP dX10_run_145 ?_
          refine lv_if_eq (tgt := 155) hx hb dX10_run_148 (by decide) (fun c8 => ?_) (fun c8 => ?_)
          · have h := ifT h c8
            refine lv_iconst (v := 1) hx hb dX10_run_155 (by decide) ?_
            exact key156 (1 : Int32) G6 _ _ hP hS ls (lv_sub hl [] rfl) h
          · have h := ifF h c8
            refine lv_iconst (v := 2) hx hb dX10_run_151 (by decide) ?_
            refine lv_goto (tgt := 156) hx hb dX10_run_152 (by decide) ?_
            exact key156 (2 : Int32) G6 _ _ hP hS ls (lv_sub hl [] rfl) h
  have key90 : ∀ (s90_0 : Int32) (G : GT) (H : Heap) (locs : List Loc), va_P D vwCl (wsM Y ad G) H → va_S (AW 8 ad) s.heap H locs → ∀ ls : Array Slot, lv_has ls 2 [(0, .ref (ad 0))] → f_X10_run_90 G   s90_0 = some (r, G') → WW p l e 7 s m ([.ref (ad 0)] : List Value).toArray below meth c H locs (WQi (some .int) r D (wsM Y ad G') (AW 8 ad)) (AW 8 ad) (F0 m 90 ls [.int s90_0, .ref (ad 0)]) := by
    intro s90_0 G  H locs hP hS ls hl h
    obtain ⟨G9, e9, h⟩ := bsome h
    refine pM_0_16 F hI hP hS dX10_run_90 (fun H locs hP hS => ?_)
    have hP := cvP e9 hP
    refine lv_aload_n hx hb dX10_run_93 rfl (lv_at hl 0 rfl) ?_
    refine lv_iconst (v := 0) hx hb dX10_run_94 (by decide) ?_
    obtain ⟨G10, e10, h⟩ := bsome h
    refine pM_0_13 F hI hP hS dX10_run_95 (fun H locs hP hS => ?_)
    have hP := cvP e10 hP
    refine lv_aload_n hx hb dX10_run_98 rfl (lv_at hl 0 rfl) ?_
    refine rM_0_15 F hP dX10_run_99 ?_
    refine lv_if_eq (tgt := 111) hx hb dX10_run_102 (by decide) (fun c11 => ?_) (fun c11 => ?_)
    · have h := ifT h c11
      refine lv_aload_n hx hb dX10_run_111 rfl (lv_at hl 0 rfl) ?_
      obtain ⟨G12, e12, h⟩ := bsome h
      refine wv_V F hP hS k_X10_keep mw_1368 0 11 rfl (wsW_get 0 (by decide)) (q_X10_keep l D Y ad hI G10  G12 e12) rfl hl.1 ⟨Nat.le_of_ble_eq_true rfl, Nat.le_of_ble_eq_true rfl⟩ (rest := []) rfl (Nat.le_of_ble_eq_true rfl) ⟨Nat.le_of_ble_eq_true rfl, Nat.le_of_ble_eq_true rfl⟩ dX10_run_112 (fun H locs hP hS => ?_)
      refine lv_iconst (v := 0) hx hb dX10_run_115 (by decide) ?_
      refine lv_istore_n (lv' := [(1, .int ((0 : Int32))), (0, .ref (ad 0))]) hx hb dX10_run_116 rfl hl (by decide) rfl (fun ls hl => ?_)
      exact key117 4096 G12 (0 : Int32) _ _ hP hS ls (lv_sub hl [1, 0] rfl) h
    · have h := ifF h c11
      refine lv_aload_n hx hb dX10_run_105 rfl (lv_at hl 0 rfl) ?_
      refine lv_iconst (v := 1) hx hb dX10_run_106 (by decide) ?_
      obtain ⟨r13, G13, e13, h⟩ := bsome2 h
      refine wr_V F hP hS k_X10_fails mw_1382 0 11 rfl (wsW_get 0 (by decide)) (q_X10_fails l D Y ad hI G10 (1 : Int32) r13 G13 e13) rfl hl.1 ⟨Nat.le_of_ble_eq_true rfl, Nat.le_of_ble_eq_true rfl⟩ (rest := []) rfl (Nat.le_of_ble_eq_true rfl) ⟨Nat.le_of_ble_eq_true rfl, Nat.le_of_ble_eq_true rfl⟩ dX10_run_107 (fun H locs o13 hP hS => ?_)
      exact wr_end F hP hS hr hk rfl h dX10_run_110
  have key71 : ∀ (s71_0 : Int32) (G : GT) (H : Heap) (locs : List Loc), va_P D vwCl (wsM Y ad G) H → va_S (AW 8 ad) s.heap H locs → ∀ ls : Array Slot, lv_has ls 2 [(0, .ref (ad 0))] → f_X10_run_71 G   s71_0 = some (r, G') → WW p l e 7 s m ([.ref (ad 0)] : List Value).toArray below meth c H locs (WQi (some .int) r D (wsM Y ad G') (AW 8 ad)) (AW 8 ad) (F0 m 71 ls [.int s71_0, .ref (ad 0)]) := by
    intro s71_0 G  H locs hP hS ls hl h
    obtain ⟨b14, h⟩ := ckS h
    obtain ⟨G15, e15, h⟩ := bsome h
    refine pM_0_15 (okB_n b14) (okB_f b14) F hI hP hS dX10_run_71 (fun H locs hP hS => ?_)
    have hP := cvP e15 hP
    refine lv_aload_n hx hb dX10_run_74 rfl (lv_at hl 0 rfl) ?_
    refine lv_aload_n hx hb dX10_run_75 rfl (lv_at hl 0 rfl) ?_
    refine rM_0_15 F hP dX10_run_76 ?_
    refine lv_if_eq (tgt := 89) hx hb dX10_run_79 (by decide) (fun c16 => ?_) (fun c16 => ?_)
    · have h := ifT h c16
      refine lv_iconst (v := -1) hx hb dX10_run_89 (by decide) ?_
      exact key90 (-1 : Int32) G15 _ _ hP hS ls (lv_sub hl [0] rfl) h
    · have h := ifF h c16
      refine lv_aload_n hx hb dX10_run_82 rfl (lv_at hl 0 rfl) ?_
      refine rM_0_14 F hP dX10_run_83 ?_
      refine lv_goto (tgt := 90) hx hb dX10_run_86 (by decide) ?_
      exact key90 (G15 0 14) G15 _ _ hP hS ls (lv_sub hl [0] rfl) h
  have key66 : ∀ (G : GT) (H : Heap) (locs : List Loc), va_P D vwCl (wsM Y ad G) H → va_S (AW 8 ad) s.heap H locs → ∀ ls : Array Slot, lv_has ls 2 [(0, .ref (ad 0))] → f_X10_run_66 G    = some (r, G') → WW p l e 7 s m ([.ref (ad 0)] : List Value).toArray below meth c H locs (WQi (some .int) r D (wsM Y ad G') (AW 8 ad)) (AW 8 ad) (F0 m 66 ls [.ref (ad 0)]) := by
    intro  G  H locs hP hS ls hl h
    refine lv_iconst (v := 1) hx hb dX10_run_66 (by decide) ?_
    refine lv_goto (tgt := 71) hx hb dX10_run_67 (by decide) ?_
    exact key71 (1 : Int32) G _ _ hP hS ls (lv_sub hl [0] rfl) h
  have key19 : ∀ (n : Nat) (G : GT) (H : Heap) (locs : List Loc), va_P D vwCl (wsM Y ad G) H → va_S (AW 8 ad) s.heap H locs → ∀ ls : Array Slot, lv_has ls 2 [(0, .ref (ad 0))] → f_X10_run_19   n G = some (r, G') → WW p l e 7 s m ([.ref (ad 0)] : List Value).toArray below meth c H locs (WQi (some .int) r D (wsM Y ad G') (AW 8 ad)) (AW 8 ad) (F0 m 19 ls []) := by
    intro  n
    induction n with
    | zero => intro G  H locs hP hS ls hl h; exact lqZ1 h
    | succ n19 ih19 =>
      intro G  H locs hP hS ls hl h
      have h := lqS1 h
      refine lv_aload_n hx hb dX10_run_19 rfl (lv_at hl 0 rfl) ?_
      refine lv_bipush (v := 59) hx hb dX10_run_20 (by decide) ?_
      refine lv_bipush (v := 59) hx hb dX10_run_22 (by decide) ?_
      obtain ⟨r17, e17, h⟩ := bsome h
      refine rd_V F hP k_X10_isHere mw_1678 0 11 rfl (wsW_get 0 (by decide)) (q_X10_isHere l D Y ad G (59 : Int32) (59 : Int32) r17 e17) rfl hl.1 ⟨Nat.le_of_ble_eq_true rfl, Nat.le_of_ble_eq_true rfl⟩ (rest := []) rfl (Nat.le_of_ble_eq_true rfl) ⟨Nat.le_of_ble_eq_true rfl, Nat.le_of_ble_eq_true rfl⟩ dX10_run_24 (fun o17 => ?_)
      refine lv_if_eq (tgt := 47) hx hb dX10_run_27 (by decide) (fun c18 => ?_) (fun c18 => ?_)
      · have h := ifT h c18
        refine lv_aload_n hx hb dX10_run_47 rfl (lv_at hl 0 rfl) ?_
        refine lv_aload_n hx hb dX10_run_48 rfl (lv_at hl 0 rfl) ?_
        refine rM_0_15 F hP dX10_run_49 ?_
        refine lv_if_ne (tgt := 66) hx hb dX10_run_52 (by decide) (fun c19 => ?_) (fun c19 => ?_)
        · have h := ifF h c19
          exact key66 G _ _ hP hS ls (lv_sub hl [0] rfl) h
        · have h := ifT h c19
          refine lv_aload_n hx hb dX10_run_55 rfl (lv_at hl 0 rfl) ?_
          refine rM_0_14 F hP dX10_run_56 ?_
          refine lv_aload_n hx hb dX10_run_59 rfl (lv_at hl 0 rfl) ?_
          refine rM_0_13 F hP dX10_run_60 ?_
          refine lv_icmp_ge (tgt := 70) hx hb dX10_run_63 (by decide) (fun c20 => ?_) (fun c20 => ?_)
          · have h := ifT h c20
            refine lv_iconst (v := 0) hx hb dX10_run_70 (by decide) ?_
            exact key71 (0 : Int32) G _ _ hP hS ls (lv_sub hl [0] rfl) h
          · have h := ifF h c20
            exact key66 G _ _ hP hS ls (lv_sub hl [0] rfl) h
      · have h := ifF h c18
        refine lv_aload_n hx hb dX10_run_30 rfl (lv_at hl 0 rfl) ?_
        refine lv_dup hx hb dX10_run_31 rfl ?_
        refine rM_0_14 F hP dX10_run_32 ?_
        refine lv_iconst (v := 1) hx hb dX10_run_35 (by decide) ?_
        refine lv_iadd hx hb dX10_run_36 ?_
        obtain ⟨G21, e21, h⟩ := bsome h
        refine pM_0_14 F hI hP hS dX10_run_37 (fun H locs hP hS => ?_)
        have hP := cvP e21 hP
        refine lv_aload_n hx hb dX10_run_40 rfl (lv_at hl 0 rfl) ?_
        obtain ⟨G22, e22, h⟩ := bsome h
        refine wkv_V F hP hK hS k_X10_readOrder mw_1652 0 11 rfl (wsW_get 0 (by decide)) (q_X10_readOrder l D Y ad kd hI G21   G22 e22) rfl hl.1 ⟨Nat.le_of_ble_eq_true rfl, Nat.le_of_ble_eq_true rfl⟩ (rest := []) rfl (Nat.le_of_ble_eq_true rfl) ⟨Nat.le_of_ble_eq_true rfl, Nat.le_of_ble_eq_true rfl⟩ dX10_run_41 (fun H locs hP hS => ?_)
        refine lv_goto (tgt := 19) hx hb dX10_run_44 (by decide) ?_
        exact ih19 G22 _ _ hP hS ls (lv_sub hl [0] rfl) h
  refine lv_aload_n hx hb dX10_run_0 rfl (lv_at hl 0 rfl) ?_
  refine lv_iconst (v := 0) hx hb dX10_run_1 (by decide) ?_
  obtain ⟨G23, e23, h⟩ := bsome h
  refine pM_0_14 F hI hP hS dX10_run_2 (fun H locs hP hS => ?_)
  have hP := cvP e23 hP
  refine lv_aload_n hx hb dX10_run_5 rfl (lv_at hl 0 rfl) ?_
  refine lv_iconst (v := 0) hx hb dX10_run_6 (by decide) ?_
  obtain ⟨G24, e24, h⟩ := bsome h
  refine pM_0_15 rfl rfl F hI hP hS dX10_run_7 (fun H locs hP hS => ?_)
  have hP := cvP e24 hP
  refine lv_aload_n hx hb dX10_run_10 rfl (lv_at hl 0 rfl) ?_
  refine lv_iconst (v := 0) hx hb dX10_run_11 (by decide) ?_
  obtain ⟨G25, e25, h⟩ := bsome h
  refine pM_0_18 F hI hP hS dX10_run_12 (fun H locs hP hS => ?_)
  have hP := cvP e25 hP
  refine lv_aload_n hx hb dX10_run_15 rfl (lv_at hl 0 rfl) ?_
  obtain ⟨G26, e26, h⟩ := bsome h
  refine wkv_V F hP hK hS k_X10_readOrder mw_1652 0 11 rfl (wsW_get 0 (by decide)) (q_X10_readOrder l D Y ad kd hI G25   G26 e26) rfl hl.1 ⟨Nat.le_of_ble_eq_true rfl, Nat.le_of_ble_eq_true rfl⟩ (rest := []) rfl (Nat.le_of_ble_eq_true rfl) ⟨Nat.le_of_ble_eq_true rfl, Nat.le_of_ble_eq_true rfl⟩ dX10_run_16 (fun H locs hP hS => ?_)
  exact key19 4096 G26 _ _ hP hS ls (lv_sub hl [0] rfl) h
