def f_X10_tinOf_26 (G : GT) (a1 : Int32) (a2 : Int32) (s26_0 : Int32) : Option (Int32 × GT) := ((some (upR G 0 (upd (G 0) 6 s26_0))).bind fun G1 => (if (G1 0 6) ≤ 0 then (if (2 : Int32) ≤ a2 then ((f_X10_soundsOf G1 a1 a2).bind fun r4 => some (r4, G1)) else (if inb (((11 : Int32) + ((2 : Int32) * a1)) + a2) 67 then some ((G1 1 (((11 : Int32) + ((2 : Int32) * a1)) + a2).toNatClampNeg), G1) else none)) else some ((0 : Int32), G1)))
def f_X10_tinOf (G : GT) (a1 : Int32) (a2 : Int32) : Option (Int32 × GT) := ((f_X10_isTin G a1).bind fun r6 => (if r6 = 0 then f_X10_tinOf_26 G a1 a2 (1 : Int32) else ((f_X10_in G a2 (0 : Int32) (4 : Int32)).bind fun r8 => (if r8 = 0 then f_X10_tinOf_26 G a1 a2 (2 : Int32) else f_X10_tinOf_26 G a1 a2 (0 : Int32)))))
set_option maxRecDepth 100000 in
set_option maxHeartbeats 4000000 in
theorem q_X10_tinOf (l : Launch) (D : va_G) (Y : Nat → ClassId) (ad : Nat → Nat) (hI : Inj 8 ad) (G : GT) (a1 : Int32) (a2 : Int32) (r : Int32) (G' : GT) (h : f_X10_tinOf G a1 a2 = some (r, G')) : WR l yX10_tinOf cX10_tinOf 3 (some .int) 3 D Y 8 ad (kM Y ad) G [.ref (ad 0), .int a1, .int a2] r G' := by
  refine W_of (ret := (some .int)) (by decide) (Nat.le_of_ble_eq_true rfl) (lv := [(0, .ref (ad 0)), (1, .int a1), (2, .int a2)]) rfl ?_
  intro p e s m below meth c ls F hP hS hr hk hl
  have F : Fx p c cX10_tinOf 3 s m _ RX10 D Y := F
  have hx := F.1.1
  have hb := F.1.2.1
  have key26 : ∀ (s26_0 : Int32) (G : GT) (H : Heap) (locs : List Loc), va_P D vwCl (wsM Y ad G) H → va_S (AW 8 ad) s.heap H locs → ∀ ls : Array Slot, lv_has ls 3 [(0, .ref (ad 0)), (1, .int a1), (2, .int a2)] → f_X10_tinOf_26 G a1 a2  s26_0 = some (r, G') → WW p l e 3 s m ([.ref (ad 0), .int a1, .int a2] : List Value).toArray below meth c H locs (WQi (some .int) r D (wsM Y ad G') (AW 8 ad)) (AW 8 ad) (F0 m 26 ls [.int s26_0, .ref (ad 0)]) := by
    intro s26_0 G H locs hP hS ls hl h
    obtain ⟨G1, e1, h⟩ := bsome h
    refine pM_0_6 F hI hP hS dX10_tinOf_26 (fun H locs hP hS => ?_)
    have hP := cvP e1 hP
    refine lv_aload_n hx hb dX10_tinOf_29 rfl (lv_at hl 0 rfl) ?_
    refine rM_0_6 F hP dX10_tinOf_30 ?_
    refine lv_if_le (tgt := 40) hx hb dX10_tinOf_33 (by decide) (fun c2 => ?_) (fun c2 => ?_)
    · have h := ifT h c2
      refine lv_iload_n hx hb dX10_tinOf_40 rfl (lv_at hl 2 rfl) ?_
      refine lv_iconst (v := 2) hx hb dX10_tinOf_41 (by decide) ?_
      refine lv_icmp_ge (tgt := 61) hx hb dX10_tinOf_42 (by decide) (fun c3 => ?_) (fun c3 => ?_)
      · have h := ifT h c3
        refine lv_aload_n hx hb dX10_tinOf_61 rfl (lv_at hl 0 rfl) ?_
        refine lv_iload_n hx hb dX10_tinOf_62 rfl (lv_at hl 1 rfl) ?_
        refine lv_iload_n hx hb dX10_tinOf_63 rfl (lv_at hl 2 rfl) ?_
        obtain ⟨r4, e4, h⟩ := bsome h
        refine rd_V F hP k_X10_soundsOf mw_1477 0 11 rfl (wsW_get 0 (by decide)) (q_X10_soundsOf l D Y ad G1 a1 a2 r4 e4) rfl hl.1 ⟨Nat.le_of_ble_eq_true rfl, Nat.le_of_ble_eq_true rfl⟩ (rest := []) rfl (Nat.le_of_ble_eq_true rfl) ⟨Nat.le_of_ble_eq_true rfl, Nat.le_of_ble_eq_true rfl⟩ dX10_tinOf_64 (fun o4 => ?_)
        exact wr_end F hP hS hr hk rfl h dX10_tinOf_67
      · have h := ifF h c3
        refine lv_aload_n hx hb dX10_tinOf_45 rfl (lv_at hl 0 rfl) ?_
        refine rM_0_0 F hP dX10_tinOf_46 ?_
        refine lv_bipush (v := 11) hx hb dX10_tinOf_49 (by decide) ?_
        refine lv_iconst (v := 2) hx hb dX10_tinOf_51 (by decide) ?_
        refine lv_iload_n hx hb dX10_tinOf_52 rfl (lv_at hl 1 rfl) ?_
        refine lv_imul hx hb dX10_tinOf_53 ?_
        refine lv_iadd hx hb dX10_tinOf_54 ?_
        refine lv_iload_n hx hb dX10_tinOf_55 rfl (lv_at hl 2 rfl) ?_
        refine lv_iadd hx hb dX10_tinOf_56 ?_
        obtain ⟨b5, h⟩ := ckS h
        refine al F hP 1 (wsW_get 1 (by decide)) (inbV b5 (by decide)) dX10_tinOf_57 ?_
        refine lv_goto (tgt := 67) hx hb dX10_tinOf_58 (by decide) ?_
        exact wr_end F hP hS hr hk rfl h dX10_tinOf_67
    · have h := ifF h c2
      refine lv_iconst (v := 0) hx hb dX10_tinOf_36 (by decide) ?_
      refine lv_goto (tgt := 67) hx hb dX10_tinOf_37 (by decide) ?_
      exact wr_end F hP hS hr hk rfl h dX10_tinOf_67
  refine lv_aload_n hx hb dX10_tinOf_0 rfl (lv_at hl 0 rfl) ?_
  refine lv_iload_n hx hb dX10_tinOf_1 rfl (lv_at hl 1 rfl) ?_
  obtain ⟨r6, e6, h⟩ := bsome h
  refine rd_S F hP k_X10_isTin mw_1402 (q_X10_isTin l D Y ad G a1 r6 e6) rfl hl.1 ⟨Nat.le_of_ble_eq_true rfl, Nat.le_of_ble_eq_true rfl⟩ (rest := [.ref (ad 0)]) rfl (Nat.le_of_ble_eq_true rfl) ⟨Nat.le_of_ble_eq_true rfl, Nat.le_of_ble_eq_true rfl⟩ dX10_tinOf_2 (fun o6 => ?_)
  refine lv_if_ne (tgt := 12) hx hb dX10_tinOf_5 (by decide) (fun c7 => ?_) (fun c7 => ?_)
  · have h := ifF h c7
    refine lv_iload_n hx hb dX10_tinOf_12 rfl (lv_at hl 2 rfl) ?_
    refine lv_iconst (v := 0) hx hb dX10_tinOf_13 (by decide) ?_
    refine lv_iconst (v := 4) hx hb dX10_tinOf_14 (by decide) ?_
    obtain ⟨r8, e8, h⟩ := bsome h
    refine rd_S F hP k_X10_in mw_1379 (q_X10_in l D Y ad G a2 (0 : Int32) (4 : Int32) r8 e8) rfl hl.1 ⟨Nat.le_of_ble_eq_true rfl, Nat.le_of_ble_eq_true rfl⟩ (rest := [.ref (ad 0)]) rfl (Nat.le_of_ble_eq_true rfl) ⟨Nat.le_of_ble_eq_true rfl, Nat.le_of_ble_eq_true rfl⟩ dX10_tinOf_15 (fun o8 => ?_)
    refine lv_if_ne (tgt := 25) hx hb dX10_tinOf_18 (by decide) (fun c9 => ?_) (fun c9 => ?_)
    · have h := ifF h c9
      refine lv_iconst (v := 0) hx hb dX10_tinOf_25 (by decide) ?_
      exact key26 (0 : Int32) G _ _ hP hS ls (lv_sub hl [0, 1, 2] rfl) h
    · have h := ifT h c9
      refine lv_iconst (v := 2) hx hb dX10_tinOf_21 (by decide) ?_
      refine lv_goto (tgt := 26) hx hb dX10_tinOf_22 (by decide) ?_
      exact key26 (2 : Int32) G _ _ hP hS ls (lv_sub hl [0, 1, 2] rfl) h
  · have h := ifT h c7
    refine lv_iconst (v := 1) hx hb dX10_tinOf_8 (by decide) ?_
    refine lv_goto (tgt := 26) hx hb dX10_tinOf_9 (by decide) ?_
    exact key26 (1 : Int32) G _ _ hP hS ls (lv_sub hl [0, 1, 2] rfl) h
def f_X10_soundOf_28 (G : GT) (a1 : Int32) (a2 : Int32) (s28_0 : Int32) : Option (Int32 × GT) := ((some (upR G 0 (upd (G 0) 6 s28_0))).bind fun G1 => (if (G1 0 6) ≤ 0 then (if a2 = 3 then ((f_X10_isDrop G1 a1).bind fun r4 => (if r4 = 0 then some ((-1 : Int32), G1) else ((f_X10_pitch G1 a1).bind fun r6 => some (r6, G1)))) else (if a2 = 4 then ((f_X10_parts G1 a1).bind fun r8 => some (r8, G1)) else (if a2 = 5 then ((f_X10_begin G1 a1).bind fun r10 => some (r10, G1)) else (if a2 = 6 then ((f_X10_begin G1 a1).bind fun r12 => ((f_X10_barAt G1 r12).bind fun r13 => some (r13, G1))) else ((f_X10_of G1 a1 a2).bind fun r14 => some (r14, G1)))))) else some ((0 : Int32), G1)))
def f_X10_soundOf (G : GT) (a1 : Int32) (a2 : Int32) : Option (Int32 × GT) := ((f_X10_isSound G a1).bind fun r15 => (if r15 = 0 then f_X10_soundOf_28 G a1 a2 (1 : Int32) else ((f_X10_in G a2 (0 : Int32) (6 : Int32)).bind fun r17 => (if r17 = 0 then f_X10_soundOf_28 G a1 a2 (2 : Int32) else f_X10_soundOf_28 G a1 a2 (0 : Int32)))))
set_option maxRecDepth 100000 in
set_option maxHeartbeats 4000000 in
theorem q_X10_soundOf (l : Launch) (D : va_G) (Y : Nat → ClassId) (ad : Nat → Nat) (hI : Inj 8 ad) (G : GT) (a1 : Int32) (a2 : Int32) (r : Int32) (G' : GT) (h : f_X10_soundOf G a1 a2 = some (r, G')) : WR l yX10_soundOf cX10_soundOf 3 (some .int) 4 D Y 8 ad (kM Y ad) G [.ref (ad 0), .int a1, .int a2] r G' := by
  refine W_of (ret := (some .int)) (by decide) (Nat.le_of_ble_eq_true rfl) (lv := [(0, .ref (ad 0)), (1, .int a1), (2, .int a2)]) rfl ?_
  intro p e s m below meth c ls F hP hS hr hk hl
  have F : Fx p c cX10_soundOf 3 s m _ RX10 D Y := F
  have hx := F.1.1
  have hb := F.1.2.1
  have key28 : ∀ (s28_0 : Int32) (G : GT) (H : Heap) (locs : List Loc), va_P D vwCl (wsM Y ad G) H → va_S (AW 8 ad) s.heap H locs → ∀ ls : Array Slot, lv_has ls 3 [(0, .ref (ad 0)), (1, .int a1), (2, .int a2)] → f_X10_soundOf_28 G a1 a2  s28_0 = some (r, G') → WW p l e 4 s m ([.ref (ad 0), .int a1, .int a2] : List Value).toArray below meth c H locs (WQi (some .int) r D (wsM Y ad G') (AW 8 ad)) (AW 8 ad) (F0 m 28 ls [.int s28_0, .ref (ad 0)]) := by
    intro s28_0 G H locs hP hS ls hl h
    obtain ⟨G1, e1, h⟩ := bsome h
    refine pM_0_6 F hI hP hS dX10_soundOf_28 (fun H locs hP hS => ?_)
    have hP := cvP e1 hP
    refine lv_aload_n hx hb dX10_soundOf_31 rfl (lv_at hl 0 rfl) ?_
    refine rM_0_6 F hP dX10_soundOf_32 ?_
    refine lv_if_le (tgt := 40) hx hb dX10_soundOf_35 (by decide) (fun c2 => ?_) (fun c2 => ?_)
    · have h := ifT h c2
      refine lv_iload_n hx hb dX10_soundOf_40 rfl (lv_at hl 2 rfl) ?_
      by_cases c3 : a2 = 3
      · have h := ifT h c3
        refine lv_tableIn (off := 31) (tgt := 72) hx hb dX10_soundOf_41 (by rw [c3]; decide) (by rw [c3]; decide) (by rw [c3]; rfl) (by decide) ?_
        refine lv_aload_n hx hb dX10_soundOf_72 rfl (lv_at hl 0 rfl) ?_
        refine lv_iload_n hx hb dX10_soundOf_73 rfl (lv_at hl 1 rfl) ?_
        obtain ⟨r4, e4, h⟩ := bsome h
        refine rd_V F hP k_X10_isDrop mw_1481 0 11 rfl (wsW_get 0 (by decide)) (q_X10_isDrop l D Y ad G1 a1 r4 e4) rfl hl.1 ⟨Nat.le_of_ble_eq_true rfl, Nat.le_of_ble_eq_true rfl⟩ (rest := []) rfl (Nat.le_of_ble_eq_true rfl) ⟨Nat.le_of_ble_eq_true rfl, Nat.le_of_ble_eq_true rfl⟩ dX10_soundOf_74 (fun o4 => ?_)
        refine lv_if_eq (tgt := 88) hx hb dX10_soundOf_77 (by decide) (fun c5 => ?_) (fun c5 => ?_)
        · have h := ifT h c5
          refine lv_iconst (v := -1) hx hb dX10_soundOf_88 (by decide) ?_
          exact wr_end F hP hS hr hk rfl h dX10_soundOf_89
        · have h := ifF h c5
          refine lv_aload_n hx hb dX10_soundOf_80 rfl (lv_at hl 0 rfl) ?_
          refine lv_iload_n hx hb dX10_soundOf_81 rfl (lv_at hl 1 rfl) ?_
          obtain ⟨r6, e6, h⟩ := bsome h
          refine rd_V F hP k_X10_pitch mw_1489 0 11 rfl (wsW_get 0 (by decide)) (q_X10_pitch l D Y ad G1 a1 r6 e6) rfl hl.1 ⟨Nat.le_of_ble_eq_true rfl, Nat.le_of_ble_eq_true rfl⟩ (rest := []) rfl (Nat.le_of_ble_eq_true rfl) ⟨Nat.le_of_ble_eq_true rfl, Nat.le_of_ble_eq_true rfl⟩ dX10_soundOf_82 (fun o6 => ?_)
          refine lv_goto (tgt := 89) hx hb dX10_soundOf_85 (by decide) ?_
          exact wr_end F hP hS hr hk rfl h dX10_soundOf_89
      have h := ifF h c3
      by_cases c7 : a2 = 4
      · have h := ifT h c7
        refine lv_tableIn (off := 49) (tgt := 90) hx hb dX10_soundOf_41 (by rw [c7]; decide) (by rw [c7]; decide) (by rw [c7]; rfl) (by decide) ?_
        refine lv_aload_n hx hb dX10_soundOf_90 rfl (lv_at hl 0 rfl) ?_
        refine lv_iload_n hx hb dX10_soundOf_91 rfl (lv_at hl 1 rfl) ?_
        obtain ⟨r8, e8, h⟩ := bsome h
        refine rd_V F hP k_X10_parts mw_1493 0 11 rfl (wsW_get 0 (by decide)) (q_X10_parts l D Y ad G1 a1 r8 e8) rfl hl.1 ⟨Nat.le_of_ble_eq_true rfl, Nat.le_of_ble_eq_true rfl⟩ (rest := []) rfl (Nat.le_of_ble_eq_true rfl) ⟨Nat.le_of_ble_eq_true rfl, Nat.le_of_ble_eq_true rfl⟩ dX10_soundOf_92 (fun o8 => ?_)
        exact wr_end F hP hS hr hk rfl h dX10_soundOf_95
      have h := ifF h c7
      by_cases c9 : a2 = 5
      · have h := ifT h c9
        refine lv_tableIn (off := 55) (tgt := 96) hx hb dX10_soundOf_41 (by rw [c9]; decide) (by rw [c9]; decide) (by rw [c9]; rfl) (by decide) ?_
        refine lv_aload_n hx hb dX10_soundOf_96 rfl (lv_at hl 0 rfl) ?_
        refine lv_iload_n hx hb dX10_soundOf_97 rfl (lv_at hl 1 rfl) ?_
        obtain ⟨r10, e10, h⟩ := bsome h
        refine rd_V F hP k_X10_begin mw_1429 0 11 rfl (wsW_get 0 (by decide)) (q_X10_begin l D Y ad G1 a1 r10 e10) rfl hl.1 ⟨Nat.le_of_ble_eq_true rfl, Nat.le_of_ble_eq_true rfl⟩ (rest := []) rfl (Nat.le_of_ble_eq_true rfl) ⟨Nat.le_of_ble_eq_true rfl, Nat.le_of_ble_eq_true rfl⟩ dX10_soundOf_98 (fun o10 => ?_)
        exact wr_end F hP hS hr hk rfl h dX10_soundOf_101
      have h := ifF h c9
      by_cases c11 : a2 = 6
      · have h := ifT h c11
        refine lv_tableIn (off := 61) (tgt := 102) hx hb dX10_soundOf_41 (by rw [c11]; decide) (by rw [c11]; decide) (by rw [c11]; rfl) (by decide) ?_
        refine lv_aload_n hx hb dX10_soundOf_102 rfl (lv_at hl 0 rfl) ?_
        refine lv_aload_n hx hb dX10_soundOf_103 rfl (lv_at hl 0 rfl) ?_
        refine lv_iload_n hx hb dX10_soundOf_104 rfl (lv_at hl 1 rfl) ?_
        obtain ⟨r12, e12, h⟩ := bsome h
        refine rd_V F hP k_X10_begin mw_1429 0 11 rfl (wsW_get 0 (by decide)) (q_X10_begin l D Y ad G1 a1 r12 e12) rfl hl.1 ⟨Nat.le_of_ble_eq_true rfl, Nat.le_of_ble_eq_true rfl⟩ (rest := [.ref (ad 0)]) rfl (Nat.le_of_ble_eq_true rfl) ⟨Nat.le_of_ble_eq_true rfl, Nat.le_of_ble_eq_true rfl⟩ dX10_soundOf_105 (fun o12 => ?_)
        obtain ⟨r13, e13, h⟩ := bsome h
        refine rd_V F hP k_X10_barAt mw_1503 0 11 rfl (wsW_get 0 (by decide)) (q_X10_barAt l D Y ad G1 r12 r13 e13) rfl hl.1 ⟨Nat.le_of_ble_eq_true rfl, Nat.le_of_ble_eq_true rfl⟩ (rest := []) rfl (Nat.le_of_ble_eq_true rfl) ⟨Nat.le_of_ble_eq_true rfl, Nat.le_of_ble_eq_true rfl⟩ dX10_soundOf_108 (fun o13 => ?_)
        exact wr_end F hP hS hr hk rfl h dX10_soundOf_111
      have h := ifF h c11
      refine lv_tableOut (tgt := 112) hx hb dX10_soundOf_41 (by have nc3 := lv_neT c3 (a := 3) (by decide); have nc7 := lv_neT c7 (a := 4) (by decide); have nc9 := lv_neT c9 (a := 5) (by decide); have nc11 := lv_neT c11 (a := 6) (by decide); omega) (by decide) ?_
      refine lv_aload_n hx hb dX10_soundOf_112 rfl (lv_at hl 0 rfl) ?_
      refine lv_iload_n hx hb dX10_soundOf_113 rfl (lv_at hl 1 rfl) ?_
      refine lv_iload_n hx hb dX10_soundOf_114 rfl (lv_at hl 2 rfl) ?_
      obtain ⟨r14, e14, h⟩ := bsome h
      refine rd_V F hP k_X10_of mw_1433 0 11 rfl (wsW_get 0 (by decide)) (q_X10_of l D Y ad G1 a1 a2 r14 e14) rfl hl.1 ⟨Nat.le_of_ble_eq_true rfl, Nat.le_of_ble_eq_true rfl⟩ (rest := []) rfl (Nat.le_of_ble_eq_true rfl) ⟨Nat.le_of_ble_eq_true rfl, Nat.le_of_ble_eq_true rfl⟩ dX10_soundOf_115 (fun o14 => ?_)
      exact wr_end F hP hS hr hk rfl h dX10_soundOf_118
    · have h := ifF h c2
      refine lv_iconst (v := 0) hx hb dX10_soundOf_38 (by decide) ?_
      exact wr_end F hP hS hr hk rfl h dX10_soundOf_39
  refine lv_aload_n hx hb dX10_soundOf_0 rfl (lv_at hl 0 rfl) ?_
  refine lv_aload_n hx hb dX10_soundOf_1 rfl (lv_at hl 0 rfl) ?_
  refine lv_iload_n hx hb dX10_soundOf_2 rfl (lv_at hl 1 rfl) ?_
  obtain ⟨r15, e15, h⟩ := bsome h
  refine rd_V F hP k_X10_isSound mw_1469 0 11 rfl (wsW_get 0 (by decide)) (q_X10_isSound l D Y ad G a1 r15 e15) rfl hl.1 ⟨Nat.le_of_ble_eq_true rfl, Nat.le_of_ble_eq_true rfl⟩ (rest := [.ref (ad 0)]) rfl (Nat.le_of_ble_eq_true rfl) ⟨Nat.le_of_ble_eq_true rfl, Nat.le_of_ble_eq_true rfl⟩ dX10_soundOf_3 (fun o15 => ?_)
  refine lv_if_ne (tgt := 13) hx hb dX10_soundOf_6 (by decide) (fun c16 => ?_) (fun c16 => ?_)
  · have h := ifF h c16
    refine lv_iload_n hx hb dX10_soundOf_13 rfl (lv_at hl 2 rfl) ?_
    refine lv_iconst (v := 0) hx hb dX10_soundOf_14 (by decide) ?_
    refine lv_bipush (v := 6) hx hb dX10_soundOf_15 (by decide) ?_
    obtain ⟨r17, e17, h⟩ := bsome h
    refine rd_S F hP k_X10_in mw_1379 (q_X10_in l D Y ad G a2 (0 : Int32) (6 : Int32) r17 e17) rfl hl.1 ⟨Nat.le_of_ble_eq_true rfl, Nat.le_of_ble_eq_true rfl⟩ (rest := [.ref (ad 0)]) rfl (Nat.le_of_ble_eq_true rfl) ⟨Nat.le_of_ble_eq_true rfl, Nat.le_of_ble_eq_true rfl⟩ dX10_soundOf_17 (fun o17 => ?_)
    refine lv_if_ne (tgt := 27) hx hb dX10_soundOf_20 (by decide) (fun c18 => ?_) (fun c18 => ?_)
    · have h := ifF h c18
      refine lv_iconst (v := 0) hx hb dX10_soundOf_27 (by decide) ?_
      exact key28 (0 : Int32) G _ _ hP hS ls (lv_sub hl [0, 1, 2] rfl) h
    · have h := ifT h c18
      refine lv_iconst (v := 2) hx hb dX10_soundOf_23 (by decide) ?_
      refine lv_goto (tgt := 28) hx hb dX10_soundOf_24 (by decide) ?_
      exact key28 (2 : Int32) G _ _ hP hS ls (lv_sub hl [0, 1, 2] rfl) h
  · have h := ifT h c16
    refine lv_iconst (v := 1) hx hb dX10_soundOf_9 (by decide) ?_
    refine lv_goto (tgt := 28) hx hb dX10_soundOf_10 (by decide) ?_
    exact key28 (1 : Int32) G _ _ hP hS ls (lv_sub hl [0, 1, 2] rfl) h
def f_X10_barOf_27 (G : GT) (a1 : Int32) (a2 : Int32) (s27_0 : Int32) : Option (Int32 × GT) := ((some (upR G 0 (upd (G 0) 6 s27_0))).bind fun G1 => (if (G1 0 6) ≤ 0 then (if a2 = 0 then (if inb ((5 : Int32) + a1) 67 then some ((G1 1 ((5 : Int32) + a1).toNatClampNeg), G1) else none) else (if a2 = 1 then ((f_X10_filled G1 a1).bind fun r6 => some (r6, G1)) else (if a2 = 2 then ((f_X10_partsIn G1 a1).bind fun r8 => some (r8, G1)) else (if a2 = 3 then ((f_X10_begunIn G1 a1).bind fun r10 => some (r10, G1)) else ((f_X10_barBegin G1 a1).bind fun r11 => some (r11, G1)))))) else some ((0 : Int32), G1)))
def f_X10_barOf (G : GT) (a1 : Int32) (a2 : Int32) : Option (Int32 × GT) := ((f_X10_isBar G a1).bind fun r12 => (if r12 = 0 then f_X10_barOf_27 G a1 a2 (1 : Int32) else ((f_X10_in G a2 (0 : Int32) (4 : Int32)).bind fun r14 => (if r14 = 0 then f_X10_barOf_27 G a1 a2 (2 : Int32) else f_X10_barOf_27 G a1 a2 (0 : Int32)))))
set_option maxRecDepth 100000 in
set_option maxHeartbeats 4000000 in
theorem q_X10_barOf (l : Launch) (D : va_G) (Y : Nat → ClassId) (ad : Nat → Nat) (hI : Inj 8 ad) (G : GT) (a1 : Int32) (a2 : Int32) (r : Int32) (G' : GT) (h : f_X10_barOf G a1 a2 = some (r, G')) : WR l yX10_barOf cX10_barOf 3 (some .int) 4 D Y 8 ad (kM Y ad) G [.ref (ad 0), .int a1, .int a2] r G' := by
  refine W_of (ret := (some .int)) (by decide) (Nat.le_of_ble_eq_true rfl) (lv := [(0, .ref (ad 0)), (1, .int a1), (2, .int a2)]) rfl ?_
  intro p e s m below meth c ls F hP hS hr hk hl
  have F : Fx p c cX10_barOf 3 s m _ RX10 D Y := F
  have hx := F.1.1
  have hb := F.1.2.1
  have key27 : ∀ (s27_0 : Int32) (G : GT) (H : Heap) (locs : List Loc), va_P D vwCl (wsM Y ad G) H → va_S (AW 8 ad) s.heap H locs → ∀ ls : Array Slot, lv_has ls 3 [(0, .ref (ad 0)), (1, .int a1), (2, .int a2)] → f_X10_barOf_27 G a1 a2  s27_0 = some (r, G') → WW p l e 4 s m ([.ref (ad 0), .int a1, .int a2] : List Value).toArray below meth c H locs (WQi (some .int) r D (wsM Y ad G') (AW 8 ad)) (AW 8 ad) (F0 m 27 ls [.int s27_0, .ref (ad 0)]) := by
    intro s27_0 G H locs hP hS ls hl h
    obtain ⟨G1, e1, h⟩ := bsome h
    refine pM_0_6 F hI hP hS dX10_barOf_27 (fun H locs hP hS => ?_)
    have hP := cvP e1 hP
    refine lv_aload_n hx hb dX10_barOf_30 rfl (lv_at hl 0 rfl) ?_
    refine rM_0_6 F hP dX10_barOf_31 ?_
    refine lv_if_le (tgt := 39) hx hb dX10_barOf_34 (by decide) (fun c2 => ?_) (fun c2 => ?_)
    · have h := ifT h c2
      refine lv_iload_n hx hb dX10_barOf_39 rfl (lv_at hl 2 rfl) ?_
      by_cases c3 : a2 = 0
      · have h := ifT h c3
        refine lv_tableIn (off := 32) (tgt := 72) hx hb dX10_barOf_40 (by rw [c3]; decide) (by rw [c3]; decide) (by rw [c3]; rfl) (by decide) ?_
        refine lv_aload_n hx hb dX10_barOf_72 rfl (lv_at hl 0 rfl) ?_
        refine rM_0_0 F hP dX10_barOf_73 ?_
        refine lv_iconst (v := 5) hx hb dX10_barOf_76 (by decide) ?_
        refine lv_iload_n hx hb dX10_barOf_77 rfl (lv_at hl 1 rfl) ?_
        refine lv_iadd hx hb dX10_barOf_78 ?_
        obtain ⟨b4, h⟩ := ckS h
        refine al F hP 1 (wsW_get 1 (by decide)) (inbV b4 (by decide)) dX10_barOf_79 ?_
        exact wr_end F hP hS hr hk rfl h dX10_barOf_80
      have h := ifF h c3
      by_cases c5 : a2 = 1
      · have h := ifT h c5
        refine lv_tableIn (off := 41) (tgt := 81) hx hb dX10_barOf_40 (by rw [c5]; decide) (by rw [c5]; decide) (by rw [c5]; rfl) (by decide) ?_
        refine lv_aload_n hx hb dX10_barOf_81 rfl (lv_at hl 0 rfl) ?_
        refine lv_iload_n hx hb dX10_barOf_82 rfl (lv_at hl 1 rfl) ?_
        obtain ⟨r6, e6, h⟩ := bsome h
        refine rd_V F hP k_X10_filled mw_1515 0 11 rfl (wsW_get 0 (by decide)) (q_X10_filled l D Y ad G1 a1 r6 e6) rfl hl.1 ⟨Nat.le_of_ble_eq_true rfl, Nat.le_of_ble_eq_true rfl⟩ (rest := []) rfl (Nat.le_of_ble_eq_true rfl) ⟨Nat.le_of_ble_eq_true rfl, Nat.le_of_ble_eq_true rfl⟩ dX10_barOf_83 (fun o6 => ?_)
        exact wr_end F hP hS hr hk rfl h dX10_barOf_86
      have h := ifF h c5
      by_cases c7 : a2 = 2
      · have h := ifT h c7
        refine lv_tableIn (off := 47) (tgt := 87) hx hb dX10_barOf_40 (by rw [c7]; decide) (by rw [c7]; decide) (by rw [c7]; rfl) (by decide) ?_
        refine lv_aload_n hx hb dX10_barOf_87 rfl (lv_at hl 0 rfl) ?_
        refine lv_iload_n hx hb dX10_barOf_88 rfl (lv_at hl 1 rfl) ?_
        obtain ⟨r8, e8, h⟩ := bsome h
        refine rd_V F hP k_X10_partsIn mw_1519 0 11 rfl (wsW_get 0 (by decide)) (q_X10_partsIn l D Y ad G1 a1 r8 e8) rfl hl.1 ⟨Nat.le_of_ble_eq_true rfl, Nat.le_of_ble_eq_true rfl⟩ (rest := []) rfl (Nat.le_of_ble_eq_true rfl) ⟨Nat.le_of_ble_eq_true rfl, Nat.le_of_ble_eq_true rfl⟩ dX10_barOf_89 (fun o8 => ?_)
        exact wr_end F hP hS hr hk rfl h dX10_barOf_92
      have h := ifF h c7
      by_cases c9 : a2 = 3
      · have h := ifT h c9
        refine lv_tableIn (off := 53) (tgt := 93) hx hb dX10_barOf_40 (by rw [c9]; decide) (by rw [c9]; decide) (by rw [c9]; rfl) (by decide) ?_
        refine lv_aload_n hx hb dX10_barOf_93 rfl (lv_at hl 0 rfl) ?_
        refine lv_iload_n hx hb dX10_barOf_94 rfl (lv_at hl 1 rfl) ?_
        obtain ⟨r10, e10, h⟩ := bsome h
        refine rd_V F hP k_X10_begunIn mw_1523 0 11 rfl (wsW_get 0 (by decide)) (q_X10_begunIn l D Y ad G1 a1 r10 e10) rfl hl.1 ⟨Nat.le_of_ble_eq_true rfl, Nat.le_of_ble_eq_true rfl⟩ (rest := []) rfl (Nat.le_of_ble_eq_true rfl) ⟨Nat.le_of_ble_eq_true rfl, Nat.le_of_ble_eq_true rfl⟩ dX10_barOf_95 (fun o10 => ?_)
        exact wr_end F hP hS hr hk rfl h dX10_barOf_98
      have h := ifF h c9
      refine lv_tableOut (tgt := 99) hx hb dX10_barOf_40 (by have nc3 := lv_neT c3 (a := 0) (by decide); have nc5 := lv_neT c5 (a := 1) (by decide); have nc7 := lv_neT c7 (a := 2) (by decide); have nc9 := lv_neT c9 (a := 3) (by decide); omega) (by decide) ?_
      refine lv_aload_n hx hb dX10_barOf_99 rfl (lv_at hl 0 rfl) ?_
      refine lv_iload_n hx hb dX10_barOf_100 rfl (lv_at hl 1 rfl) ?_
      obtain ⟨r11, e11, h⟩ := bsome h
      refine rd_V F hP k_X10_barBegin mw_1425 0 11 rfl (wsW_get 0 (by decide)) (q_X10_barBegin l D Y ad G1 a1 r11 e11) rfl hl.1 ⟨Nat.le_of_ble_eq_true rfl, Nat.le_of_ble_eq_true rfl⟩ (rest := []) rfl (Nat.le_of_ble_eq_true rfl) ⟨Nat.le_of_ble_eq_true rfl, Nat.le_of_ble_eq_true rfl⟩ dX10_barOf_101 (fun o11 => ?_)
      exact wr_end F hP hS hr hk rfl h dX10_barOf_104
    · have h := ifF h c2
      refine lv_iconst (v := 0) hx hb dX10_barOf_37 (by decide) ?_
      exact wr_end F hP hS hr hk rfl h dX10_barOf_38
  refine lv_aload_n hx hb dX10_barOf_0 rfl (lv_at hl 0 rfl) ?_
  refine lv_aload_n hx hb dX10_barOf_1 rfl (lv_at hl 0 rfl) ?_
  refine lv_iload_n hx hb dX10_barOf_2 rfl (lv_at hl 1 rfl) ?_
  obtain ⟨r12, e12, h⟩ := bsome h
  refine rd_V F hP k_X10_isBar mw_1511 0 11 rfl (wsW_get 0 (by decide)) (q_X10_isBar l D Y ad G a1 r12 e12) rfl hl.1 ⟨Nat.le_of_ble_eq_true rfl, Nat.le_of_ble_eq_true rfl⟩ (rest := [.ref (ad 0)]) rfl (Nat.le_of_ble_eq_true rfl) ⟨Nat.le_of_ble_eq_true rfl, Nat.le_of_ble_eq_true rfl⟩ dX10_barOf_3 (fun o12 => ?_)
  refine lv_if_ne (tgt := 13) hx hb dX10_barOf_6 (by decide) (fun c13 => ?_) (fun c13 => ?_)
  · have h := ifF h c13
    refine lv_iload_n hx hb dX10_barOf_13 rfl (lv_at hl 2 rfl) ?_
    refine lv_iconst (v := 0) hx hb dX10_barOf_14 (by decide) ?_
    refine lv_iconst (v := 4) hx hb dX10_barOf_15 (by decide) ?_
    obtain ⟨r14, e14, h⟩ := bsome h
    refine rd_S F hP k_X10_in mw_1379 (q_X10_in l D Y ad G a2 (0 : Int32) (4 : Int32) r14 e14) rfl hl.1 ⟨Nat.le_of_ble_eq_true rfl, Nat.le_of_ble_eq_true rfl⟩ (rest := [.ref (ad 0)]) rfl (Nat.le_of_ble_eq_true rfl) ⟨Nat.le_of_ble_eq_true rfl, Nat.le_of_ble_eq_true rfl⟩ dX10_barOf_16 (fun o14 => ?_)
    refine lv_if_ne (tgt := 26) hx hb dX10_barOf_19 (by decide) (fun c15 => ?_) (fun c15 => ?_)
    · have h := ifF h c15
      refine lv_iconst (v := 0) hx hb dX10_barOf_26 (by decide) ?_
      exact key27 (0 : Int32) G _ _ hP hS ls (lv_sub hl [0, 1, 2] rfl) h
    · have h := ifT h c15
      refine lv_iconst (v := 2) hx hb dX10_barOf_22 (by decide) ?_
      refine lv_goto (tgt := 27) hx hb dX10_barOf_23 (by decide) ?_
      exact key27 (2 : Int32) G _ _ hP hS ls (lv_sub hl [0, 1, 2] rfl) h
  · have h := ifT h c13
    refine lv_iconst (v := 1) hx hb dX10_barOf_9 (by decide) ?_
    refine lv_goto (tgt := 27) hx hb dX10_barOf_10 (by decide) ?_
    exact key27 (1 : Int32) G _ _ hP hS ls (lv_sub hl [0, 1, 2] rfl) h
def f_X10_partOf_42 (G : GT) (a1 : Int32) (a2 : Int32) (a3 : Int32) (s42_0 : Int32) : Option (Int32 × GT) := ((some (upR G 0 (upd (G 0) 6 s42_0))).bind fun G1 => (if (G1 0 6) ≤ 0 then ((f_X10_partAt G1 a1 a2).bind fun r3 => (if a3 = 0 then some (r3, G1) else (if a3 = (1 : Int32) then ((f_X10_beatsIn G1 r3 a1).bind fun r8 => some (r8, G1)) else ((f_X10_isTied G1 r3 a1).bind fun r6 => (if r6 = 0 then some ((0 : Int32), G1) else some ((1 : Int32), G1)))))) else some ((0 : Int32), G1)))
def f_X10_partOf_24 (G : GT) (a1 : Int32) (a2 : Int32) (a3 : Int32) : Option (Int32 × GT) := f_X10_partOf_42 G a1 a2 a3 (1 : Int32)
def f_X10_partOf (G : GT) (a1 : Int32) (a2 : Int32) (a3 : Int32) : Option (Int32 × GT) := ((f_X10_isBar G a1).bind fun r9 => (if r9 = 0 then f_X10_partOf_24 G a1 a2 a3 else ((f_X10_partsIn G a1).bind fun r11 => ((f_X10_in G a2 (0 : Int32) (r11 - (1 : Int32))).bind fun r12 => (if r12 = 0 then f_X10_partOf_24 G a1 a2 a3 else ((f_X10_in G a3 (0 : Int32) (2 : Int32)).bind fun r14 => (if r14 = 0 then f_X10_partOf_42 G a1 a2 a3 (2 : Int32) else f_X10_partOf_42 G a1 a2 a3 (0 : Int32))))))))
set_option maxRecDepth 100000 in
set_option maxHeartbeats 4000000 in
theorem q_X10_partOf (l : Launch) (D : va_G) (Y : Nat → ClassId) (ad : Nat → Nat) (hI : Inj 8 ad) (G : GT) (a1 : Int32) (a2 : Int32) (a3 : Int32) (r : Int32) (G' : GT) (h : f_X10_partOf G a1 a2 a3 = some (r, G')) : WR l yX10_partOf cX10_partOf 5 (some .int) 4 D Y 8 ad (kM Y ad) G [.ref (ad 0), .int a1, .int a2, .int a3] r G' := by
  refine W_of (ret := (some .int)) (by decide) (Nat.le_of_ble_eq_true rfl) (lv := [(0, .ref (ad 0)), (1, .int a1), (2, .int a2), (3, .int a3)]) rfl ?_
  intro p e s m below meth c ls F hP hS hr hk hl
  have F : Fx p c cX10_partOf 5 s m _ RX10 D Y := F
  have hx := F.1.1
  have hb := F.1.2.1
  have key42 : ∀ (s42_0 : Int32) (G : GT) (H : Heap) (locs : List Loc), va_P D vwCl (wsM Y ad G) H → va_S (AW 8 ad) s.heap H locs → ∀ ls : Array Slot, lv_has ls 5 [(0, .ref (ad 0)), (1, .int a1), (2, .int a2), (3, .int a3)] → f_X10_partOf_42 G a1 a2 a3  s42_0 = some (r, G') → WW p l e 4 s m ([.ref (ad 0), .int a1, .int a2, .int a3] : List Value).toArray below meth c H locs (WQi (some .int) r D (wsM Y ad G') (AW 8 ad)) (AW 8 ad) (F0 m 42 ls [.int s42_0, .ref (ad 0)]) := by
    intro s42_0 G H locs hP hS ls hl h
    obtain ⟨G1, e1, h⟩ := bsome h
    refine pM_0_6 F hI hP hS dX10_partOf_42 (fun H locs hP hS => ?_)
    have hP := cvP e1 hP
    refine lv_aload_n hx hb dX10_partOf_45 rfl (lv_at hl 0 rfl) ?_
    refine rM_0_6 F hP dX10_partOf_46 ?_
    refine lv_if_le (tgt := 54) hx hb dX10_partOf_49 (by decide) (fun c2 => ?_) (fun c2 => ?_)
    · have h := ifT h c2
      refine lv_aload_n hx hb dX10_partOf_54 rfl (lv_at hl 0 rfl) ?_
      refine lv_iload_n hx hb dX10_partOf_55 rfl (lv_at hl 1 rfl) ?_
      refine lv_iload_n hx hb dX10_partOf_56 rfl (lv_at hl 2 rfl) ?_
      obtain ⟨r3, e3, h⟩ := bsome h
      refine rd_V F hP k_X10_partAt mw_1531 0 11 rfl (wsW_get 0 (by decide)) (q_X10_partAt l D Y ad G1 a1 a2 r3 e3) rfl hl.1 ⟨Nat.le_of_ble_eq_true rfl, Nat.le_of_ble_eq_true rfl⟩ (rest := []) rfl (Nat.le_of_ble_eq_true rfl) ⟨Nat.le_of_ble_eq_true rfl, Nat.le_of_ble_eq_true rfl⟩ dX10_partOf_57 (fun o3 => ?_)
      refine lv_istore (lv' := [(4, .int r3), (0, .ref (ad 0)), (1, .int a1), (2, .int a2), (3, .int a3)]) hx hb dX10_partOf_60 hl (by decide) rfl (fun ls hl => ?_)
      refine lv_iload_n hx hb dX10_partOf_62 rfl (lv_at hl 4 rfl) ?_
      refine lv_if_ne (tgt := 71) hx hb dX10_partOf_63 (by decide) (fun c4 => ?_) (fun c4 => ?_)
      · have h := ifF h c4
        refine lv_iload_n hx hb dX10_partOf_71 rfl (lv_at hl 4 rfl) ?_
        refine lv_iconst (v := 1) hx hb dX10_partOf_72 (by decide) ?_
        refine lv_icmp_ne (tgt := 86) hx hb dX10_partOf_73 (by decide) (fun c5 => ?_) (fun c5 => ?_)
        · have h := ifF h c5
          refine lv_aload_n hx hb dX10_partOf_86 rfl (lv_at hl 1 rfl) ?_
          refine lv_iload hx hb dX10_partOf_87 (lv_at hl 0 rfl) ?_
          refine lv_iload_n hx hb dX10_partOf_89 rfl (lv_at hl 2 rfl) ?_
          obtain ⟨r6, e6, h⟩ := bsome h
          refine rd_V F hP k_X10_isTied mw_1535 0 11 rfl (wsW_get 0 (by decide)) (q_X10_isTied l D Y ad G1 r3 a1 r6 e6) rfl hl.1 ⟨Nat.le_of_ble_eq_true rfl, Nat.le_of_ble_eq_true rfl⟩ (rest := []) rfl (Nat.le_of_ble_eq_true rfl) ⟨Nat.le_of_ble_eq_true rfl, Nat.le_of_ble_eq_true rfl⟩ dX10_partOf_90 (fun o6 => ?_)
          refine lv_if_eq (tgt := 100) hx hb dX10_partOf_93 (by decide) (fun c7 => ?_) (fun c7 => ?_)
          · have h := ifT h c7
            refine lv_iconst (v := 0) hx hb dX10_partOf_100 (by decide) ?_
            exact wr_end F hP hS hr hk rfl h dX10_partOf_101
          · have h := ifF h c7
            refine lv_iconst (v := 1) hx hb dX10_partOf_96 (by decide) ?_
            refine lv_goto (tgt := 101) hx hb dX10_partOf_97 (by decide) ?_
            exact wr_end F hP hS hr hk rfl h dX10_partOf_101
        · have h := ifT h c5
          refine lv_aload_n hx hb dX10_partOf_76 rfl (lv_at hl 1 rfl) ?_
          refine lv_iload hx hb dX10_partOf_77 (lv_at hl 0 rfl) ?_
          refine lv_iload_n hx hb dX10_partOf_79 rfl (lv_at hl 2 rfl) ?_
          obtain ⟨r8, e8, h⟩ := bsome h
          refine rd_V F hP k_X10_beatsIn mw_1497 0 11 rfl (wsW_get 0 (by decide)) (q_X10_beatsIn l D Y ad G1 r3 a1 r8 e8) rfl hl.1 ⟨Nat.le_of_ble_eq_true rfl, Nat.le_of_ble_eq_true rfl⟩ (rest := []) rfl (Nat.le_of_ble_eq_true rfl) ⟨Nat.le_of_ble_eq_true rfl, Nat.le_of_ble_eq_true rfl⟩ dX10_partOf_80 (fun o8 => ?_)
          refine lv_goto (tgt := 101) hx hb dX10_partOf_83 (by decide) ?_
          exact wr_end F hP hS hr hk rfl h dX10_partOf_101
      · have h := ifT h c4
        refine lv_iload hx hb dX10_partOf_66 (lv_at hl 0 rfl) ?_
        refine lv_goto (tgt := 101) hx hb dX10_partOf_68 (by decide) ?_
        exact wr_end F hP hS hr hk rfl h dX10_partOf_101
    · have h := ifF h c2
      refine lv_iconst (v := 0) hx hb dX10_partOf_52 (by decide) ?_
      exact wr_end F hP hS hr hk rfl h dX10_partOf_53
  have key24 : ∀ (G : GT) (H : Heap) (locs : List Loc), va_P D vwCl (wsM Y ad G) H → va_S (AW 8 ad) s.heap H locs → ∀ ls : Array Slot, lv_has ls 5 [(0, .ref (ad 0)), (1, .int a1), (2, .int a2), (3, .int a3)] → f_X10_partOf_24 G a1 a2 a3   = some (r, G') → WW p l e 4 s m ([.ref (ad 0), .int a1, .int a2, .int a3] : List Value).toArray below meth c H locs (WQi (some .int) r D (wsM Y ad G') (AW 8 ad)) (AW 8 ad) (F0 m 24 ls [.ref (ad 0)]) := by
    intro  G H locs hP hS ls hl h
    refine lv_iconst (v := 1) hx hb dX10_partOf_24 (by decide) ?_
    refine lv_goto (tgt := 42) hx hb dX10_partOf_25 (by decide) ?_
    exact key42 (1 : Int32) G _ _ hP hS ls (lv_sub hl [0, 1, 2, 3] rfl) h
  refine lv_aload_n hx hb dX10_partOf_0 rfl (lv_at hl 0 rfl) ?_
  refine lv_aload_n hx hb dX10_partOf_1 rfl (lv_at hl 0 rfl) ?_
  refine lv_iload_n hx hb dX10_partOf_2 rfl (lv_at hl 1 rfl) ?_
  obtain ⟨r9, e9, h⟩ := bsome h
  refine rd_V F hP k_X10_isBar mw_1511 0 11 rfl (wsW_get 0 (by decide)) (q_X10_isBar l D Y ad G a1 r9 e9) rfl hl.1 ⟨Nat.le_of_ble_eq_true rfl, Nat.le_of_ble_eq_true rfl⟩ (rest := [.ref (ad 0)]) rfl (Nat.le_of_ble_eq_true rfl) ⟨Nat.le_of_ble_eq_true rfl, Nat.le_of_ble_eq_true rfl⟩ dX10_partOf_3 (fun o9 => ?_)
  refine lv_if_eq (tgt := 24) hx hb dX10_partOf_6 (by decide) (fun c10 => ?_) (fun c10 => ?_)
  · have h := ifT h c10
    exact key24 G _ _ hP hS ls (lv_sub hl [0, 1, 2, 3] rfl) h
  · have h := ifF h c10
    refine lv_iload_n hx hb dX10_partOf_9 rfl (lv_at hl 2 rfl) ?_
    refine lv_iconst (v := 0) hx hb dX10_partOf_10 (by decide) ?_
    refine lv_aload_n hx hb dX10_partOf_11 rfl (lv_at hl 0 rfl) ?_
    refine lv_iload_n hx hb dX10_partOf_12 rfl (lv_at hl 1 rfl) ?_
    obtain ⟨r11, e11, h⟩ := bsome h
    refine rd_V F hP k_X10_partsIn mw_1519 0 11 rfl (wsW_get 0 (by decide)) (q_X10_partsIn l D Y ad G a1 r11 e11) rfl hl.1 ⟨Nat.le_of_ble_eq_true rfl, Nat.le_of_ble_eq_true rfl⟩ (rest := [.int ((0 : Int32)), .int a2, .ref (ad 0)]) rfl (Nat.le_of_ble_eq_true rfl) ⟨Nat.le_of_ble_eq_true rfl, Nat.le_of_ble_eq_true rfl⟩ dX10_partOf_13 (fun o11 => ?_)
    refine lv_iconst (v := 1) hx hb dX10_partOf_16 (by decide) ?_
    refine lv_isub hx hb dX10_partOf_17 ?_
    obtain ⟨r12, e12, h⟩ := bsome h
    refine rd_S F hP k_X10_in mw_1379 (q_X10_in l D Y ad G a2 (0 : Int32) (r11 - (1 : Int32)) r12 e12) rfl hl.1 ⟨Nat.le_of_ble_eq_true rfl, Nat.le_of_ble_eq_true rfl⟩ (rest := [.ref (ad 0)]) rfl (Nat.le_of_ble_eq_true rfl) ⟨Nat.le_of_ble_eq_true rfl, Nat.le_of_ble_eq_true rfl⟩ dX10_partOf_18 (fun o12 => ?_)
    refine lv_if_ne (tgt := 28) hx hb dX10_partOf_21 (by decide) (fun c13 => ?_) (fun c13 => ?_)
    · have h := ifF h c13
      refine lv_iload_n hx hb dX10_partOf_28 rfl (lv_at hl 3 rfl) ?_
      refine lv_iconst (v := 0) hx hb dX10_partOf_29 (by decide) ?_
      refine lv_iconst (v := 2) hx hb dX10_partOf_30 (by decide) ?_
      obtain ⟨r14, e14, h⟩ := bsome h
      refine rd_S F hP k_X10_in mw_1379 (q_X10_in l D Y ad G a3 (0 : Int32) (2 : Int32) r14 e14) rfl hl.1 ⟨Nat.le_of_ble_eq_true rfl, Nat.le_of_ble_eq_true rfl⟩ (rest := [.ref (ad 0)]) rfl (Nat.le_of_ble_eq_true rfl) ⟨Nat.le_of_ble_eq_true rfl, Nat.le_of_ble_eq_true rfl⟩ dX10_partOf_31 (fun o14 => ?_)
      refine lv_if_ne (tgt := 41) hx hb dX10_partOf_34 (by decide) (fun c15 => ?_) (fun c15 => ?_)
      · have h := ifF h c15
        refine lv_iconst (v := 0) hx hb dX10_partOf_41 (by decide) ?_
        exact key42 (0 : Int32) G _ _ hP hS ls (lv_sub hl [0, 1, 2, 3] rfl) h
      · have h := ifT h c15
        refine lv_iconst (v := 2) hx hb dX10_partOf_37 (by decide) ?_
        refine lv_goto (tgt := 42) hx hb dX10_partOf_38 (by decide) ?_
        exact key42 (2 : Int32) G _ _ hP hS ls (lv_sub hl [0, 1, 2, 3] rfl) h
    · have h := ifT h c13
      exact key24 G _ _ hP hS ls (lv_sub hl [0, 1, 2, 3] rfl) h
def f_X10_at_16 (G : GT) (a1 : Int32) (x2 : Int32) (s16_0 : Int32) : Option (Int32 × GT) := ((some (upR G 0 (upd (G 0) 6 s16_0))).bind fun G1 => (if (G1 0 6) ≤ 0 then some (x2, G1) else some ((0 : Int32), G1)))
def f_X10_at (G : GT) (a1 : Int32) : Option (Int32 × GT) := ((f_X10_soundAt G a1).bind fun r3 => (if 0 ≤ r3 then f_X10_at_16 G a1 r3 (0 : Int32) else f_X10_at_16 G a1 r3 (1 : Int32)))
set_option maxRecDepth 100000 in
set_option maxHeartbeats 4000000 in
theorem q_X10_at (l : Launch) (D : va_G) (Y : Nat → ClassId) (ad : Nat → Nat) (hI : Inj 8 ad) (G : GT) (a1 : Int32) (r : Int32) (G' : GT) (h : f_X10_at G a1 = some (r, G')) : WR l yX10_at cX10_at 3 (some .int) 3 D Y 8 ad (kM Y ad) G [.ref (ad 0), .int a1] r G' := by
  refine W_of (ret := (some .int)) (by decide) (Nat.le_of_ble_eq_true rfl) (lv := [(0, .ref (ad 0)), (1, .int a1)]) rfl ?_
  intro p e s m below meth c ls F hP hS hr hk hl
  have F : Fx p c cX10_at 3 s m _ RX10 D Y := F
  have hx := F.1.1
  have hb := F.1.2.1
  have key16 : ∀ (x2 : Int32) (s16_0 : Int32) (G : GT) (H : Heap) (locs : List Loc), va_P D vwCl (wsM Y ad G) H → va_S (AW 8 ad) s.heap H locs → ∀ ls : Array Slot, lv_has ls 3 [(0, .ref (ad 0)), (2, .int x2)] → f_X10_at_16 G a1  x2 s16_0 = some (r, G') → WW p l e 3 s m ([.ref (ad 0), .int a1] : List Value).toArray below meth c H locs (WQi (some .int) r D (wsM Y ad G') (AW 8 ad)) (AW 8 ad) (F0 m 16 ls [.int s16_0, .ref (ad 0)]) := by
    intro x2 s16_0 G H locs hP hS ls hl h
    obtain ⟨G1, e1, h⟩ := bsome h
    refine pM_0_6 F hI hP hS dX10_at_16 (fun H locs hP hS => ?_)
    have hP := cvP e1 hP
    refine lv_aload_n hx hb dX10_at_19 rfl (lv_at hl 0 rfl) ?_
    refine rM_0_6 F hP dX10_at_20 ?_
    refine lv_if_le (tgt := 30) hx hb dX10_at_23 (by decide) (fun c2 => ?_) (fun c2 => ?_)
    · have h := ifT h c2
      refine lv_iload_n hx hb dX10_at_30 rfl (lv_at hl 1 rfl) ?_
      exact wr_end F hP hS hr hk rfl h dX10_at_31
    · have h := ifF h c2
      refine lv_iconst (v := 0) hx hb dX10_at_26 (by decide) ?_
      refine lv_goto (tgt := 31) hx hb dX10_at_27 (by decide) ?_
      exact wr_end F hP hS hr hk rfl h dX10_at_31
  refine lv_aload_n hx hb dX10_at_0 rfl (lv_at hl 0 rfl) ?_
  refine lv_iload_n hx hb dX10_at_1 rfl (lv_at hl 1 rfl) ?_
  obtain ⟨r3, e3, h⟩ := bsome h
  refine rd_V F hP k_X10_soundAt mw_1543 0 11 rfl (wsW_get 0 (by decide)) (q_X10_soundAt l D Y ad G a1 r3 e3) rfl hl.1 ⟨Nat.le_of_ble_eq_true rfl, Nat.le_of_ble_eq_true rfl⟩ (rest := []) rfl (Nat.le_of_ble_eq_true rfl) ⟨Nat.le_of_ble_eq_true rfl, Nat.le_of_ble_eq_true rfl⟩ dX10_at_2 (fun o3 => ?_)
  refine lv_istore_n (lv' := [(2, .int r3), (0, .ref (ad 0)), (1, .int a1)]) hx hb dX10_at_5 rfl hl (by decide) rfl (fun ls hl => ?_)
  refine lv_aload_n hx hb dX10_at_6 rfl (lv_at hl 1 rfl) ?_
  refine lv_iload_n hx hb dX10_at_7 rfl (lv_at hl 0 rfl) ?_
  refine lv_if_ge (tgt := 15) hx hb dX10_at_8 (by decide) (fun c4 => ?_) (fun c4 => ?_)
  · have h := ifT h c4
    refine lv_iconst (v := 0) hx hb dX10_at_15 (by decide) ?_
    exact key16 r3 (0 : Int32) G _ _ hP hS ls (lv_sub hl [1, 0] rfl) h
  · have h := ifF h c4
    refine lv_iconst (v := 1) hx hb dX10_at_11 (by decide) ?_
    refine lv_goto (tgt := 16) hx hb dX10_at_12 (by decide) ?_
    exact key16 r3 (1 : Int32) G _ _ hP hS ls (lv_sub hl [1, 0] rfl) h
def f_X10_faults_15 (G : GT) (a1 : Int32) (a2 : Int32) (s15_0 : Int32) : Option (Int32 × GT) := ((some (upR G 0 (upd (G 0) 6 s15_0))).bind fun G1 => (if (G1 0 6) ≤ 0 then ((f_X10_faultMany G1 a1).bind fun r3 => some (r3, G1)) else some ((0 : Int32), G1)))
def f_X10_faults (G : GT) (a1 : Int32) (a2 : Int32) : Option (Int32 × GT) := ((f_X10_in G a1 (1 : Int32) (4 : Int32)).bind fun r4 => (if r4 = 0 then f_X10_faults_15 G a1 a2 (1 : Int32) else f_X10_faults_15 G a1 a2 (0 : Int32)))
set_option maxRecDepth 100000 in
set_option maxHeartbeats 4000000 in
theorem q_X10_faults (l : Launch) (D : va_G) (Y : Nat → ClassId) (ad : Nat → Nat) (hI : Inj 8 ad) (G : GT) (a1 : Int32) (a2 : Int32) (r : Int32) (G' : GT) (h : f_X10_faults G a1 a2 = some (r, G')) : WR l yX10_faults cX10_faults 3 (some .int) 6 D Y 8 ad (kM Y ad) G [.ref (ad 0), .int a1, .int a2] r G' := by
  refine W_of (ret := (some .int)) (by decide) (Nat.le_of_ble_eq_true rfl) (lv := [(0, .ref (ad 0)), (1, .int a1), (2, .int a2)]) rfl ?_
  intro p e s m below meth c ls F hP hS hr hk hl
  have F : Fx p c cX10_faults 3 s m _ RX10 D Y := F
  have hx := F.1.1
  have hb := F.1.2.1
  have key15 : ∀ (s15_0 : Int32) (G : GT) (H : Heap) (locs : List Loc), va_P D vwCl (wsM Y ad G) H → va_S (AW 8 ad) s.heap H locs → ∀ ls : Array Slot, lv_has ls 3 [(0, .ref (ad 0)), (1, .int a1)] → f_X10_faults_15 G a1 a2  s15_0 = some (r, G') → WW p l e 6 s m ([.ref (ad 0), .int a1, .int a2] : List Value).toArray below meth c H locs (WQi (some .int) r D (wsM Y ad G') (AW 8 ad)) (AW 8 ad) (F0 m 15 ls [.int s15_0, .ref (ad 0)]) := by
    intro s15_0 G H locs hP hS ls hl h
    obtain ⟨G1, e1, h⟩ := bsome h
    refine pM_0_6 F hI hP hS dX10_faults_15 (fun H locs hP hS => ?_)
    have hP := cvP e1 hP
    refine lv_aload_n hx hb dX10_faults_18 rfl (lv_at hl 0 rfl) ?_
    refine rM_0_6 F hP dX10_faults_19 ?_
    refine lv_if_le (tgt := 29) hx hb dX10_faults_22 (by decide) (fun c2 => ?_) (fun c2 => ?_)
    · have h := ifT h c2
      refine lv_aload_n hx hb dX10_faults_29 rfl (lv_at hl 0 rfl) ?_
      refine lv_iload_n hx hb dX10_faults_30 rfl (lv_at hl 1 rfl) ?_
      obtain ⟨r3, e3, h⟩ := bsome h
      refine rd_V F hP k_X10_faultMany mw_1551 0 11 rfl (wsW_get 0 (by decide)) (q_X10_faultMany l D Y ad G1 a1 r3 e3) rfl hl.1 ⟨Nat.le_of_ble_eq_true rfl, Nat.le_of_ble_eq_true rfl⟩ (rest := []) rfl (Nat.le_of_ble_eq_true rfl) ⟨Nat.le_of_ble_eq_true rfl, Nat.le_of_ble_eq_true rfl⟩ dX10_faults_31 (fun o3 => ?_)
      exact wr_end F hP hS hr hk rfl h dX10_faults_34
    · have h := ifF h c2
      refine lv_iconst (v := 0) hx hb dX10_faults_25 (by decide) ?_
      refine lv_goto (tgt := 34) hx hb dX10_faults_26 (by decide) ?_
      exact wr_end F hP hS hr hk rfl h dX10_faults_34
  refine lv_aload_n hx hb dX10_faults_0 rfl (lv_at hl 0 rfl) ?_
  refine lv_iload_n hx hb dX10_faults_1 rfl (lv_at hl 1 rfl) ?_
  refine lv_iconst (v := 1) hx hb dX10_faults_2 (by decide) ?_
  refine lv_iconst (v := 4) hx hb dX10_faults_3 (by decide) ?_
  obtain ⟨r4, e4, h⟩ := bsome h
  refine rd_S F hP k_X10_in mw_1379 (q_X10_in l D Y ad G a1 (1 : Int32) (4 : Int32) r4 e4) rfl hl.1 ⟨Nat.le_of_ble_eq_true rfl, Nat.le_of_ble_eq_true rfl⟩ (rest := [.ref (ad 0)]) rfl (Nat.le_of_ble_eq_true rfl) ⟨Nat.le_of_ble_eq_true rfl, Nat.le_of_ble_eq_true rfl⟩ dX10_faults_4 (fun o4 => ?_)
  refine lv_if_eq (tgt := 14) hx hb dX10_faults_7 (by decide) (fun c5 => ?_) (fun c5 => ?_)
  · have h := ifT h c5
    refine lv_iconst (v := 1) hx hb dX10_faults_14 (by decide) ?_
    exact key15 (1 : Int32) G _ _ hP hS ls (lv_sub hl [0, 1] rfl) h
  · have h := ifF h c5
    refine lv_iconst (v := 0) hx hb dX10_faults_10 (by decide) ?_
    refine lv_goto (tgt := 15) hx hb dX10_faults_11 (by decide) ?_
    exact key15 (0 : Int32) G _ _ hP hS ls (lv_sub hl [0, 1] rfl) h
def f_X10_firstFault_38 (G : GT) (a1 : Int32) (k17 : GT → Int32 → Option (Int32 × GT)) (x2 : Int32) (s38_0 : Int32) (s38_1 : Int32) : Option (Int32 × GT) := (if s38_0 ≤ s38_1 then (bind2 (f_X10_fails G (2 : Int32)) fun r2 G2 => some (r2, G2)) else ((f_X10_isFault G a1 x2).bind fun r3 => (if r3 = 0 then k17 G (x2 + 1) else ((some (upR G 0 (upd (G 0) 6 (0 : Int32)))).bind fun G5 => some (x2, G5)))))
def f_X10_firstFault_17 (a1 : Int32) (n : Nat) (G : GT) (y2 : Int32) : Option (Int32 × GT) := lq2 (fun (k17 : GT → Int32 → Option (Int32 × GT)) (G : GT) (x2 : Int32) => (if a1 = (3 : Int32) then f_X10_firstFault_38 G a1 k17 x2 (G 1 0) x2 else f_X10_firstFault_38 G a1 k17 x2 (G 1 1) x2)) n G y2
def f_X10_firstFault (G : GT) (a1 : Int32) : Option (Int32 × GT) := ((f_X10_in G a1 (1 : Int32) (4 : Int32)).bind fun r7 => (if r7 = 0 then (bind2 (f_X10_fails G (1 : Int32)) fun r9 G9 => some (r9, G9)) else f_X10_firstFault_17 a1 4096 G (0 : Int32)))
set_option maxRecDepth 100000 in
set_option maxHeartbeats 4000000 in
theorem q_X10_firstFault (l : Launch) (D : va_G) (Y : Nat → ClassId) (ad : Nat → Nat) (hI : Inj 8 ad) (G : GT) (a1 : Int32) (r : Int32) (G' : GT) (h : f_X10_firstFault G a1 = some (r, G')) : WR l yX10_firstFault cX10_firstFault 3 (some .int) 5 D Y 8 ad (kM Y ad) G [.ref (ad 0), .int a1] r G' := by
  refine W_of (ret := (some .int)) (by decide) (Nat.le_of_ble_eq_true rfl) (lv := [(0, .ref (ad 0)), (1, .int a1)]) rfl ?_
  intro p e s m below meth c ls F hP hS hr hk hl
  have F : Fx p c cX10_firstFault 3 s m _ RX10 D Y := F
  have hx := F.1.1
  have hb := F.1.2.1
  have key17 : ∀ (n : Nat) (G : GT) (x2 : Int32) (H : Heap) (locs : List Loc), va_P D vwCl (wsM Y ad G) H → va_S (AW 8 ad) s.heap H locs → ∀ ls : Array Slot, lv_has ls 3 [(0, .ref (ad 0)), (1, .int a1), (2, .int x2)] → f_X10_firstFault_17 a1  n G x2 = some (r, G') → WW p l e 5 s m ([.ref (ad 0), .int a1] : List Value).toArray below meth c H locs (WQi (some .int) r D (wsM Y ad G') (AW 8 ad)) (AW 8 ad) (F0 m 17 ls []) := by
    intro  n
    induction n with
    | zero => intro G x2 H locs hP hS ls hl h; exact lqZ2 h
    | succ n17 ih17 =>
      have key38 : ∀ (x2 : Int32) (s38_0 : Int32) (s38_1 : Int32) (G : GT) (H : Heap) (locs : List Loc), va_P D vwCl (wsM Y ad G) H → va_S (AW 8 ad) s.heap H locs → ∀ ls : Array Slot, lv_has ls 3 [(0, .ref (ad 0)), (1, .int a1), (2, .int x2)] → f_X10_firstFault_38 G a1 (f_X10_firstFault_17 a1   n17) x2 s38_0 s38_1 = some (r, G') → WW p l e 5 s m ([.ref (ad 0), .int a1] : List Value).toArray below meth c H locs (WQi (some .int) r D (wsM Y ad G') (AW 8 ad)) (AW 8 ad) (F0 m 38 ls [.int s38_0, .int s38_1]) := by
        intro x2 s38_0 s38_1 G H locs hP hS ls hl h
        refine lv_icmp_ge (tgt := 63) hx hb dX10_firstFault_38 (by decide) (fun c1 => ?_) (fun c1 => ?_)
        · have h := ifT h c1
          refine lv_aload_n hx hb dX10_firstFault_63 rfl (lv_at hl 0 rfl) ?_
          refine lv_iconst (v := 2) hx hb dX10_firstFault_64 (by decide) ?_
          obtain ⟨r2, G2, e2, h⟩ := bsome2 h
          refine wr_V F hP hS k_X10_fails mw_1382 0 11 rfl (wsW_get 0 (by decide)) (q_X10_fails l D Y ad hI G (2 : Int32) r2 G2 e2) rfl hl.1 ⟨Nat.le_of_ble_eq_true rfl, Nat.le_of_ble_eq_true rfl⟩ (rest := []) rfl (Nat.le_of_ble_eq_true rfl) ⟨Nat.le_of_ble_eq_true rfl, Nat.le_of_ble_eq_true rfl⟩ dX10_firstFault_65 (fun H locs o2 hP hS => ?_)
          exact wr_end F hP hS hr hk rfl h dX10_firstFault_68
        · have h := ifF h c1
          refine lv_aload_n hx hb dX10_firstFault_41 rfl (lv_at hl 0 rfl) ?_
          refine lv_iload_n hx hb dX10_firstFault_42 rfl (lv_at hl 1 rfl) ?_
          refine lv_iload_n hx hb dX10_firstFault_43 rfl (lv_at hl 2 rfl) ?_
          obtain ⟨r3, e3, h⟩ := bsome h
          refine rd_V F hP k_X10_isFault mw_1555 0 11 rfl (wsW_get 0 (by decide)) (q_X10_isFault l D Y ad G a1 x2 r3 e3) rfl hl.1 ⟨Nat.le_of_ble_eq_true rfl, Nat.le_of_ble_eq_true rfl⟩ (rest := []) rfl (Nat.le_of_ble_eq_true rfl) ⟨Nat.le_of_ble_eq_true rfl, Nat.le_of_ble_eq_true rfl⟩ dX10_firstFault_44 (fun o3 => ?_)
          refine lv_if_eq (tgt := 57) hx hb dX10_firstFault_47 (by decide) (fun c4 => ?_) (fun c4 => ?_)
          · have h := ifT h c4
            refine lv_iinc (v := (x2 + 1)) (lv' := [(2, .int ((x2 + 1))), (0, .ref (ad 0)), (1, .int a1)]) hx hb dX10_firstFault_57 hl (k := 2) rfl rfl (by decide) rfl (fun ls hl => ?_)
            refine lv_goto (tgt := 17) hx hb dX10_firstFault_60 (by decide) ?_
            exact ih17 G (x2 + 1) _ _ hP hS ls (lv_sub hl [1, 2, 0] rfl) h
          · have h := ifF h c4
            refine lv_aload_n hx hb dX10_firstFault_50 rfl (lv_at hl 0 rfl) ?_
            refine lv_iconst (v := 0) hx hb dX10_firstFault_51 (by decide) ?_
            obtain ⟨G5, e5, h⟩ := bsome h
            refine pM_0_6 F hI hP hS dX10_firstFault_52 (fun H locs hP hS => ?_)
            have hP := cvP e5 hP
            refine lv_iload_n hx hb dX10_firstFault_55 rfl (lv_at hl 2 rfl) ?_
            exact wr_end F hP hS hr hk rfl h dX10_firstFault_56
      intro G x2 H locs hP hS ls hl h
      have h := lqS2 h
      refine lv_iload_n hx hb dX10_firstFault_17 rfl (lv_at hl 2 rfl) ?_
      refine lv_iload_n hx hb dX10_firstFault_18 rfl (lv_at hl 1 rfl) ?_
      refine lv_iconst (v := 3) hx hb dX10_firstFault_19 (by decide) ?_
      refine lv_icmp_ne (tgt := 32) hx hb dX10_firstFault_20 (by decide) (fun c6 => ?_) (fun c6 => ?_)
      · have h := ifF h c6
        refine lv_aload_n hx hb dX10_firstFault_32 rfl (lv_at hl 0 rfl) ?_
        refine rM_0_0 F hP dX10_firstFault_33 ?_
        refine lv_iconst (v := 1) hx hb dX10_firstFault_36 (by decide) ?_
        refine alk F hP 1 (wsW_get 1 (by decide)) (k := 1) (by decide) (inbV (by decide) (by decide)) dX10_firstFault_37 ?_
        exact key38 x2 (G 1 1) x2 G _ _ hP hS ls (lv_sub hl [0, 1, 2] rfl) h
      · have h := ifT h c6
        refine lv_aload_n hx hb dX10_firstFault_23 rfl (lv_at hl 0 rfl) ?_
        refine rM_0_0 F hP dX10_firstFault_24 ?_
        refine lv_iconst (v := 0) hx hb dX10_firstFault_27 (by decide) ?_
        refine alk F hP 1 (wsW_get 1 (by decide)) (k := 0) (by decide) (inbV (by decide) (by decide)) dX10_firstFault_28 ?_
        refine lv_goto (tgt := 38) hx hb dX10_firstFault_29 (by decide) ?_
        exact key38 x2 (G 1 0) x2 G _ _ hP hS ls (lv_sub hl [0, 1, 2] rfl) h
  refine lv_iload_n hx hb dX10_firstFault_0 rfl (lv_at hl 1 rfl) ?_
  refine lv_iconst (v := 1) hx hb dX10_firstFault_1 (by decide) ?_
  refine lv_iconst (v := 4) hx hb dX10_firstFault_2 (by decide) ?_
  obtain ⟨r7, e7, h⟩ := bsome h
  refine rd_S F hP k_X10_in mw_1379 (q_X10_in l D Y ad G a1 (1 : Int32) (4 : Int32) r7 e7) rfl hl.1 ⟨Nat.le_of_ble_eq_true rfl, Nat.le_of_ble_eq_true rfl⟩ (rest := []) rfl (Nat.le_of_ble_eq_true rfl) ⟨Nat.le_of_ble_eq_true rfl, Nat.le_of_ble_eq_true rfl⟩ dX10_firstFault_3 (fun o7 => ?_)
  refine lv_if_ne (tgt := 15) hx hb dX10_firstFault_6 (by decide) (fun c8 => ?_) (fun c8 => ?_)
  · have h := ifF h c8
    refine lv_iconst (v := 0) hx hb dX10_firstFault_15 (by decide) ?_
    refine lv_istore_n (lv' := [(2, .int ((0 : Int32))), (0, .ref (ad 0)), (1, .int a1)]) hx hb dX10_firstFault_16 rfl hl (by decide) rfl (fun ls hl => ?_)
    exact key17 4096 G (0 : Int32) _ _ hP hS ls (lv_sub hl [1, 2, 0] rfl) h
  · have h := ifT h c8
    refine lv_aload_n hx hb dX10_firstFault_9 rfl (lv_at hl 0 rfl) ?_
    refine lv_iconst (v := 1) hx hb dX10_firstFault_10 (by decide) ?_
    obtain ⟨r9, G9, e9, h⟩ := bsome2 h
    refine wr_V F hP hS k_X10_fails mw_1382 0 11 rfl (wsW_get 0 (by decide)) (q_X10_fails l D Y ad hI G (1 : Int32) r9 G9 e9) rfl hl.1 ⟨Nat.le_of_ble_eq_true rfl, Nat.le_of_ble_eq_true rfl⟩ (rest := []) rfl (Nat.le_of_ble_eq_true rfl) ⟨Nat.le_of_ble_eq_true rfl, Nat.le_of_ble_eq_true rfl⟩ dX10_firstFault_11 (fun H locs o9 hP hS => ?_)
    exact wr_end F hP hS hr hk rfl h dX10_firstFault_14
def f_X10_isClean (G : GT) : Option (Int32 × GT) := ((some (upR G 0 (upd (G 0) 6 (0 : Int32)))).bind fun G1 => ((f_X10_allFaults G1 ).bind fun r2 => (if r2 = 0 then some ((1 : Int32), G1) else some ((0 : Int32), G1))))
set_option maxRecDepth 100000 in
set_option maxHeartbeats 4000000 in
theorem q_X10_isClean (l : Launch) (D : va_G) (Y : Nat → ClassId) (ad : Nat → Nat) (hI : Inj 8 ad) (G : GT) (r : Int32) (G' : GT) (h : f_X10_isClean G  = some (r, G')) : WR l yX10_isClean cX10_isClean 1 (some .boolean) 7 D Y 8 ad (kM Y ad) G [.ref (ad 0)] r G' := by
  refine W_of (ret := (some .boolean)) (by decide) (Nat.le_of_ble_eq_true rfl) (lv := [(0, .ref (ad 0))]) rfl ?_
  intro p e s m below meth c ls F hP hS hr hk hl
  have F : Fx p c cX10_isClean 1 s m _ RX10 D Y := F
  have hx := F.1.1
  have hb := F.1.2.1
  refine lv_aload_n hx hb dX10_isClean_0 rfl (lv_at hl 0 rfl) ?_
  refine lv_iconst (v := 0) hx hb dX10_isClean_1 (by decide) ?_
  obtain ⟨G1, e1, h⟩ := bsome h
  refine pM_0_6 F hI hP hS dX10_isClean_2 (fun H locs hP hS => ?_)
  have hP := cvP e1 hP
  refine lv_aload_n hx hb dX10_isClean_5 rfl (lv_at hl 0 rfl) ?_
  obtain ⟨r2, e2, h⟩ := bsome h
  refine rd_V F hP k_X10_allFaults mw_1572 0 11 rfl (wsW_get 0 (by decide)) (q_X10_allFaults l D Y ad G1  r2 e2) rfl hl.1 ⟨Nat.le_of_ble_eq_true rfl, Nat.le_of_ble_eq_true rfl⟩ (rest := []) rfl (Nat.le_of_ble_eq_true rfl) ⟨Nat.le_of_ble_eq_true rfl, Nat.le_of_ble_eq_true rfl⟩ dX10_isClean_6 (fun o2 => ?_)
  refine lv_if_ne (tgt := 16) hx hb dX10_isClean_9 (by decide) (fun c3 => ?_) (fun c3 => ?_)
  · have h := ifF h c3
    refine lv_iconst (v := 0) hx hb dX10_isClean_16 (by decide) ?_
    exact wr_end F hP hS hr hk rfl h dX10_isClean_17
  · have h := ifT h c3
    refine lv_iconst (v := 1) hx hb dX10_isClean_12 (by decide) ?_
    refine lv_goto (tgt := 17) hx hb dX10_isClean_13 (by decide) ?_
    exact wr_end F hP hS hr hk rfl h dX10_isClean_17
def f_X10_faultsWith (G : GT) (a1 : Int32) (a2 : Int32) : Option (Int32 × GT) := (if inb (((19 : Int32) + ((3 : Int32) * a1)) + (1 : Int32)) 67 then (if inb (((19 : Int32) + ((3 : Int32) * a1)) + (1 : Int32)) 67 then ((some (upR G 1 (upd (G 1) (((19 : Int32) + ((3 : Int32) * a1)) + (1 : Int32)).toNatClampNeg a2))).bind fun G3 => ((f_X10_allFaults G3 ).bind fun r4 => (if inb (((19 : Int32) + ((3 : Int32) * a1)) + (1 : Int32)) 67 then ((some (upR G3 1 (upd (G3 1) (((19 : Int32) + ((3 : Int32) * a1)) + (1 : Int32)).toNatClampNeg (G 1 (((19 : Int32) + ((3 : Int32) * a1)) + (1 : Int32)).toNatClampNeg)))).bind fun G6 => some (r4, G6)) else none))) else none) else none)
set_option maxRecDepth 100000 in
set_option maxHeartbeats 4000000 in
theorem q_X10_faultsWith (l : Launch) (D : va_G) (Y : Nat → ClassId) (ad : Nat → Nat) (hI : Inj 8 ad) (G : GT) (a1 : Int32) (a2 : Int32) (r : Int32) (G' : GT) (h : f_X10_faultsWith G a1 a2 = some (r, G')) : WR l yX10_faultsWith cX10_faultsWith 6 (some .int) 7 D Y 8 ad (kM Y ad) G [.ref (ad 0), .int a1, .int a2] r G' := by
  refine W_of (ret := (some .int)) (by decide) (Nat.le_of_ble_eq_true rfl) (lv := [(0, .ref (ad 0)), (1, .int a1), (2, .int a2)]) rfl ?_
  intro p e s m below meth c ls F hP hS hr hk hl
  have F : Fx p c cX10_faultsWith 6 s m _ RX10 D Y := F
  have hx := F.1.1
  have hb := F.1.2.1
  refine lv_bipush (v := 19) hx hb dX10_faultsWith_0 (by decide) ?_
  refine lv_iconst (v := 3) hx hb dX10_faultsWith_2 (by decide) ?_
  refine lv_iload_n hx hb dX10_faultsWith_3 rfl (lv_at hl 1 rfl) ?_
  refine lv_imul hx hb dX10_faultsWith_4 ?_
  refine lv_iadd hx hb dX10_faultsWith_5 ?_
  refine lv_iconst (v := 1) hx hb dX10_faultsWith_6 (by decide) ?_
  refine lv_iadd hx hb dX10_faultsWith_7 ?_
  refine lv_istore_n (lv' := [(3, .int ((((19 : Int32) + ((3 : Int32) * a1)) + (1 : Int32)))), (0, .ref (ad 0)), (1, .int a1), (2, .int a2)]) hx hb dX10_faultsWith_8 rfl hl (by decide) rfl (fun ls hl => ?_)
  refine lv_aload_n hx hb dX10_faultsWith_9 rfl (lv_at hl 1 rfl) ?_
  refine rM_0_0 F hP dX10_faultsWith_10 ?_
  refine lv_iload_n hx hb dX10_faultsWith_13 rfl (lv_at hl 0 rfl) ?_
  obtain ⟨b1, h⟩ := ckS h
  refine al F hP 1 (wsW_get 1 (by decide)) (inbV b1 (by decide)) dX10_faultsWith_14 ?_
  refine lv_istore (lv' := [(4, .int ((G 1 (((19 : Int32) + ((3 : Int32) * a1)) + (1 : Int32)).toNatClampNeg))), (3, .int ((((19 : Int32) + ((3 : Int32) * a1)) + (1 : Int32)))), (0, .ref (ad 0)), (1, .int a1), (2, .int a2)]) hx hb dX10_faultsWith_15 hl (by decide) rfl (fun ls hl => ?_)
  refine lv_aload_n hx hb dX10_faultsWith_17 rfl (lv_at hl 2 rfl) ?_
  refine rM_0_0 F hP dX10_faultsWith_18 ?_
  refine lv_iload_n hx hb dX10_faultsWith_21 rfl (lv_at hl 1 rfl) ?_
  refine lv_iload_n hx hb dX10_faultsWith_22 rfl (lv_at hl 4 rfl) ?_
  obtain ⟨b2, h⟩ := ckS h
  obtain ⟨G3, e3, h⟩ := bsome h
  refine ast F hI hP hS (fun i h => ⟨i, h, rfl⟩) 1 (by decide) (fun _ => rfl) (inbV b2 (by decide)) dX10_faultsWith_23 (fun H locs hP hS => ?_)
  have hP := cvP e3 hP
  refine lv_aload_n hx hb dX10_faultsWith_24 rfl (lv_at hl 2 rfl) ?_
  obtain ⟨r4, e4, h⟩ := bsome h
  refine rd_V F hP k_X10_allFaults mw_1572 0 11 rfl (wsW_get 0 (by decide)) (q_X10_allFaults l D Y ad G3  r4 e4) rfl hl.1 ⟨Nat.le_of_ble_eq_true rfl, Nat.le_of_ble_eq_true rfl⟩ (rest := []) rfl (Nat.le_of_ble_eq_true rfl) ⟨Nat.le_of_ble_eq_true rfl, Nat.le_of_ble_eq_true rfl⟩ dX10_faultsWith_25 (fun o4 => ?_)
  refine lv_istore (lv' := [(5, .int r4), (4, .int ((G 1 (((19 : Int32) + ((3 : Int32) * a1)) + (1 : Int32)).toNatClampNeg))), (3, .int ((((19 : Int32) + ((3 : Int32) * a1)) + (1 : Int32)))), (0, .ref (ad 0)), (1, .int a1), (2, .int a2)]) hx hb dX10_faultsWith_28 hl (by decide) rfl (fun ls hl => ?_)
  refine lv_aload_n hx hb dX10_faultsWith_30 rfl (lv_at hl 3 rfl) ?_
  refine rM_0_0 F hP dX10_faultsWith_31 ?_
  refine lv_iload_n hx hb dX10_faultsWith_34 rfl (lv_at hl 2 rfl) ?_
  refine lv_iload hx hb dX10_faultsWith_35 (lv_at hl 1 rfl) ?_
  obtain ⟨b5, h⟩ := ckS h
  obtain ⟨G6, e6, h⟩ := bsome h
  refine ast F hI hP hS (fun i h => ⟨i, h, rfl⟩) 1 (by decide) (fun _ => rfl) (inbV b5 (by decide)) dX10_faultsWith_37 (fun H locs hP hS => ?_)
  have hP := cvP e6 hP
  refine lv_iload hx hb dX10_faultsWith_38 (lv_at hl 0 rfl) ?_
  exact wr_end F hP hS hr hk rfl h dX10_faultsWith_40
def f_X10_wouldFault_40 (G : GT) (a1 : Int32) (a2 : Int32) (s40_0 : Int32) : Option (Int32 × GT) := ((some (upR G 0 (upd (G 0) 6 s40_0))).bind fun G1 => (if (G1 0 6) ≤ 0 then (bind2 (f_X10_faultsWith G1 a1 a2) fun r3 G3 => some (r3, G3)) else some ((0 : Int32), G1)))
def f_X10_wouldFault (G : GT) (a1 : Int32) (a2 : Int32) : Option (Int32 × GT) := ((f_X10_isSound G a1).bind fun r4 => (if r4 = 0 then f_X10_wouldFault_40 G a1 a2 (1 : Int32) else ((f_X10_in G a2 (0 : Int32) (9 : Int32)).bind fun r6 => (if r6 = 0 then f_X10_wouldFault_40 G a1 a2 (2 : Int32) else ((f_X10_isDrop G a1).bind fun r8 => (if r8 = 0 then f_X10_wouldFault_40 G a1 a2 (3 : Int32) else f_X10_wouldFault_40 G a1 a2 (0 : Int32)))))))
set_option maxRecDepth 100000 in
set_option maxHeartbeats 4000000 in
theorem q_X10_wouldFault (l : Launch) (D : va_G) (Y : Nat → ClassId) (ad : Nat → Nat) (hI : Inj 8 ad) (G : GT) (a1 : Int32) (a2 : Int32) (r : Int32) (G' : GT) (h : f_X10_wouldFault G a1 a2 = some (r, G')) : WR l yX10_wouldFault cX10_wouldFault 3 (some .int) 8 D Y 8 ad (kM Y ad) G [.ref (ad 0), .int a1, .int a2] r G' := by
  refine W_of (ret := (some .int)) (by decide) (Nat.le_of_ble_eq_true rfl) (lv := [(0, .ref (ad 0)), (1, .int a1), (2, .int a2)]) rfl ?_
  intro p e s m below meth c ls F hP hS hr hk hl
  have F : Fx p c cX10_wouldFault 3 s m _ RX10 D Y := F
  have hx := F.1.1
  have hb := F.1.2.1
  have key40 : ∀ (s40_0 : Int32) (G : GT) (H : Heap) (locs : List Loc), va_P D vwCl (wsM Y ad G) H → va_S (AW 8 ad) s.heap H locs → ∀ ls : Array Slot, lv_has ls 3 [(0, .ref (ad 0)), (1, .int a1), (2, .int a2)] → f_X10_wouldFault_40 G a1 a2  s40_0 = some (r, G') → WW p l e 8 s m ([.ref (ad 0), .int a1, .int a2] : List Value).toArray below meth c H locs (WQi (some .int) r D (wsM Y ad G') (AW 8 ad)) (AW 8 ad) (F0 m 40 ls [.int s40_0, .ref (ad 0)]) := by
    intro s40_0 G H locs hP hS ls hl h
    obtain ⟨G1, e1, h⟩ := bsome h
    refine pM_0_6 F hI hP hS dX10_wouldFault_40 (fun H locs hP hS => ?_)
    have hP := cvP e1 hP
    refine lv_aload_n hx hb dX10_wouldFault_43 rfl (lv_at hl 0 rfl) ?_
    refine rM_0_6 F hP dX10_wouldFault_44 ?_
    refine lv_if_le (tgt := 54) hx hb dX10_wouldFault_47 (by decide) (fun c2 => ?_) (fun c2 => ?_)
    · have h := ifT h c2
      refine lv_aload_n hx hb dX10_wouldFault_54 rfl (lv_at hl 0 rfl) ?_
      refine lv_iload_n hx hb dX10_wouldFault_55 rfl (lv_at hl 1 rfl) ?_
      refine lv_iload_n hx hb dX10_wouldFault_56 rfl (lv_at hl 2 rfl) ?_
      obtain ⟨r3, G3, e3, h⟩ := bsome2 h
      refine wr_V F hP hS k_X10_faultsWith mw_1580 0 11 rfl (wsW_get 0 (by decide)) (q_X10_faultsWith l D Y ad hI G1 a1 a2 r3 G3 e3) rfl hl.1 ⟨Nat.le_of_ble_eq_true rfl, Nat.le_of_ble_eq_true rfl⟩ (rest := []) rfl (Nat.le_of_ble_eq_true rfl) ⟨Nat.le_of_ble_eq_true rfl, Nat.le_of_ble_eq_true rfl⟩ dX10_wouldFault_57 (fun H locs o3 hP hS => ?_)
      exact wr_end F hP hS hr hk rfl h dX10_wouldFault_60
    · have h := ifF h c2
      refine lv_iconst (v := 0) hx hb dX10_wouldFault_50 (by decide) ?_
      refine lv_goto (tgt := 60) hx hb dX10_wouldFault_51 (by decide) ?_
      exact wr_end F hP hS hr hk rfl h dX10_wouldFault_60
  refine lv_aload_n hx hb dX10_wouldFault_0 rfl (lv_at hl 0 rfl) ?_
  refine lv_aload_n hx hb dX10_wouldFault_1 rfl (lv_at hl 0 rfl) ?_
  refine lv_iload_n hx hb dX10_wouldFault_2 rfl (lv_at hl 1 rfl) ?_
  obtain ⟨r4, e4, h⟩ := bsome h
  refine rd_V F hP k_X10_isSound mw_1469 0 11 rfl (wsW_get 0 (by decide)) (q_X10_isSound l D Y ad G a1 r4 e4) rfl hl.1 ⟨Nat.le_of_ble_eq_true rfl, Nat.le_of_ble_eq_true rfl⟩ (rest := [.ref (ad 0)]) rfl (Nat.le_of_ble_eq_true rfl) ⟨Nat.le_of_ble_eq_true rfl, Nat.le_of_ble_eq_true rfl⟩ dX10_wouldFault_3 (fun o4 => ?_)
  refine lv_if_ne (tgt := 13) hx hb dX10_wouldFault_6 (by decide) (fun c5 => ?_) (fun c5 => ?_)
  · have h := ifF h c5
    refine lv_iload_n hx hb dX10_wouldFault_13 rfl (lv_at hl 2 rfl) ?_
    refine lv_iconst (v := 0) hx hb dX10_wouldFault_14 (by decide) ?_
    refine lv_bipush (v := 9) hx hb dX10_wouldFault_15 (by decide) ?_
    obtain ⟨r6, e6, h⟩ := bsome h
    refine rd_S F hP k_X10_in mw_1379 (q_X10_in l D Y ad G a2 (0 : Int32) (9 : Int32) r6 e6) rfl hl.1 ⟨Nat.le_of_ble_eq_true rfl, Nat.le_of_ble_eq_true rfl⟩ (rest := [.ref (ad 0)]) rfl (Nat.le_of_ble_eq_true rfl) ⟨Nat.le_of_ble_eq_true rfl, Nat.le_of_ble_eq_true rfl⟩ dX10_wouldFault_17 (fun o6 => ?_)
    refine lv_if_ne (tgt := 27) hx hb dX10_wouldFault_20 (by decide) (fun c7 => ?_) (fun c7 => ?_)
    · have h := ifF h c7
      refine lv_aload_n hx hb dX10_wouldFault_27 rfl (lv_at hl 0 rfl) ?_
      refine lv_iload_n hx hb dX10_wouldFault_28 rfl (lv_at hl 1 rfl) ?_
      obtain ⟨r8, e8, h⟩ := bsome h
      refine rd_V F hP k_X10_isDrop mw_1481 0 11 rfl (wsW_get 0 (by decide)) (q_X10_isDrop l D Y ad G a1 r8 e8) rfl hl.1 ⟨Nat.le_of_ble_eq_true rfl, Nat.le_of_ble_eq_true rfl⟩ (rest := [.ref (ad 0)]) rfl (Nat.le_of_ble_eq_true rfl) ⟨Nat.le_of_ble_eq_true rfl, Nat.le_of_ble_eq_true rfl⟩ dX10_wouldFault_29 (fun o8 => ?_)
      refine lv_if_ne (tgt := 39) hx hb dX10_wouldFault_32 (by decide) (fun c9 => ?_) (fun c9 => ?_)
      · have h := ifF h c9
        refine lv_iconst (v := 0) hx hb dX10_wouldFault_39 (by decide) ?_
        exact key40 (0 : Int32) G _ _ hP hS ls (lv_sub hl [0, 1, 2] rfl) h
      · have h := ifT h c9
        refine lv_iconst (v := 3) hx hb dX10_wouldFault_35 (by decide) ?_
        refine lv_goto (tgt := 40) hx hb dX10_wouldFault_36 (by decide) ?_
        exact key40 (3 : Int32) G _ _ hP hS ls (lv_sub hl [0, 1, 2] rfl) h
    · have h := ifT h c7
      refine lv_iconst (v := 2) hx hb dX10_wouldFault_23 (by decide) ?_
      refine lv_goto (tgt := 40) hx hb dX10_wouldFault_24 (by decide) ?_
      exact key40 (2 : Int32) G _ _ hP hS ls (lv_sub hl [0, 1, 2] rfl) h
  · have h := ifT h c5
    refine lv_iconst (v := 1) hx hb dX10_wouldFault_9 (by decide) ?_
    refine lv_goto (tgt := 40) hx hb dX10_wouldFault_10 (by decide) ?_
    exact key40 (1 : Int32) G _ _ hP hS ls (lv_sub hl [0, 1, 2] rfl) h
def f_X10_bestHeight_66 (G : GT) (a1 : Int32) (k33 : GT → Int32 → Int32 → Option (Int32 × GT)) (x3 : Int32) (s66_0 : Int32) : Option (Int32 × GT) := k33 G s66_0 (x3 + 1)
def f_X10_bestHeight_33 (a1 : Int32) (n : Nat) (G : GT) (y2 : Int32) (y3 : Int32) : Option (Int32 × GT) := lq3 (fun (k33 : GT → Int32 → Int32 → Option (Int32 × GT)) (G : GT) (x2 : Int32) (x3 : Int32) => (if (9 : Int32) < x3 then some (x2, G) else (if (G 0 6) = 0 then (bind2 (f_X10_faultsWith G a1 x3) fun r3 G3 => (bind2 (f_X10_faultsWith G3 a1 x2) fun r4 G4 => (if r4 ≤ r3 then f_X10_bestHeight_66 G4 a1 k33 x3 x2 else f_X10_bestHeight_66 G4 a1 k33 x3 x3))) else some (x2, G)))) n G y2 y3
def f_X10_bestHeight_26 (G : GT) (a1 : Int32) (s26_0 : Int32) : Option (Int32 × GT) := ((some (upR G 0 (upd (G 0) 6 s26_0))).bind fun G6 => f_X10_bestHeight_33 a1 4096 G6 (0 : Int32) (1 : Int32))
def f_X10_bestHeight (G : GT) (a1 : Int32) : Option (Int32 × GT) := ((f_X10_isSound G a1).bind fun r7 => (if r7 = 0 then f_X10_bestHeight_26 G a1 (1 : Int32) else ((f_X10_isDrop G a1).bind fun r9 => (if r9 = 0 then f_X10_bestHeight_26 G a1 (2 : Int32) else f_X10_bestHeight_26 G a1 (0 : Int32)))))
set_option maxRecDepth 100000 in
set_option maxHeartbeats 4000000 in
theorem q_X10_bestHeight (l : Launch) (D : va_G) (Y : Nat → ClassId) (ad : Nat → Nat) (hI : Inj 8 ad) (G : GT) (a1 : Int32) (r : Int32) (G' : GT) (h : f_X10_bestHeight G a1 = some (r, G')) : WR l yX10_bestHeight cX10_bestHeight 4 (some .int) 8 D Y 8 ad (kM Y ad) G [.ref (ad 0), .int a1] r G' := by
  refine W_of (ret := (some .int)) (by decide) (Nat.le_of_ble_eq_true rfl) (lv := [(0, .ref (ad 0)), (1, .int a1)]) rfl ?_
  intro p e s m below meth c ls F hP hS hr hk hl
  have F : Fx p c cX10_bestHeight 4 s m _ RX10 D Y := F
  have hx := F.1.1
  have hb := F.1.2.1
  have key33 : ∀ (n : Nat) (G : GT) (x2 : Int32) (x3 : Int32) (H : Heap) (locs : List Loc), va_P D vwCl (wsM Y ad G) H → va_S (AW 8 ad) s.heap H locs → ∀ ls : Array Slot, lv_has ls 4 [(0, .ref (ad 0)), (1, .int a1), (2, .int x2), (3, .int x3)] → f_X10_bestHeight_33 a1  n G x2 x3 = some (r, G') → WW p l e 8 s m ([.ref (ad 0), .int a1] : List Value).toArray below meth c H locs (WQi (some .int) r D (wsM Y ad G') (AW 8 ad)) (AW 8 ad) (F0 m 33 ls []) := by
    intro  n
    induction n with
    | zero => intro G x2 x3 H locs hP hS ls hl h; exact lqZ3 h
    | succ n33 ih33 =>
      have key66 : ∀ (x3 : Int32) (s66_0 : Int32) (G : GT) (H : Heap) (locs : List Loc), va_P D vwCl (wsM Y ad G) H → va_S (AW 8 ad) s.heap H locs → ∀ ls : Array Slot, lv_has ls 4 [(0, .ref (ad 0)), (1, .int a1), (3, .int x3)] → f_X10_bestHeight_66 G a1 (f_X10_bestHeight_33 a1   n33) x3 s66_0 = some (r, G') → WW p l e 8 s m ([.ref (ad 0), .int a1] : List Value).toArray below meth c H locs (WQi (some .int) r D (wsM Y ad G') (AW 8 ad)) (AW 8 ad) (F0 m 66 ls [.int s66_0]) := by
        intro x3 s66_0 G H locs hP hS ls hl h
        refine lv_istore_n (lv' := [(2, .int s66_0), (0, .ref (ad 0)), (1, .int a1), (3, .int x3)]) hx hb dX10_bestHeight_66 rfl hl (by decide) rfl (fun ls hl => ?_)
        refine lv_iinc (v := (x3 + 1)) (lv' := [(3, .int ((x3 + 1))), (2, .int s66_0), (0, .ref (ad 0)), (1, .int a1)]) hx hb dX10_bestHeight_67 hl (k := 3) rfl rfl (by decide) rfl (fun ls hl => ?_)
        refine lv_goto (tgt := 33) hx hb dX10_bestHeight_70 (by decide) ?_
        exact ih33 G s66_0 (x3 + 1) _ _ hP hS ls (lv_sub hl [2, 3, 1, 0] rfl) h
      intro G x2 x3 H locs hP hS ls hl h
      have h := lqS3 h
      refine lv_iload_n hx hb dX10_bestHeight_33 rfl (lv_at hl 3 rfl) ?_
      refine lv_bipush (v := 9) hx hb dX10_bestHeight_34 (by decide) ?_
      refine lv_icmp_gt (tgt := 73) hx hb dX10_bestHeight_36 (by decide) (fun c1 => ?_) (fun c1 => ?_)
      · have h := ifT h c1
        refine lv_iload_n hx hb dX10_bestHeight_73 rfl (lv_at hl 2 rfl) ?_
        exact wr_end F hP hS hr hk rfl h dX10_bestHeight_74
      · have h := ifF h c1
        refine lv_aload_n hx hb dX10_bestHeight_39 rfl (lv_at hl 0 rfl) ?_
        refine rM_0_6 F hP dX10_bestHeight_40 ?_
        refine lv_if_ne (tgt := 73) hx hb dX10_bestHeight_43 (by decide) (fun c2 => ?_) (fun c2 => ?_)
        · have h := ifF h c2
          refine lv_iload_n hx hb dX10_bestHeight_73 rfl (lv_at hl 2 rfl) ?_
          exact wr_end F hP hS hr hk rfl h dX10_bestHeight_74
        · have h := ifT h c2
          refine lv_aload_n hx hb dX10_bestHeight_46 rfl (lv_at hl 0 rfl) ?_
          refine lv_iload_n hx hb dX10_bestHeight_47 rfl (lv_at hl 1 rfl) ?_
          refine lv_iload_n hx hb dX10_bestHeight_48 rfl (lv_at hl 3 rfl) ?_
          obtain ⟨r3, G3, e3, h⟩ := bsome2 h
          refine wr_V F hP hS k_X10_faultsWith mw_1580 0 11 rfl (wsW_get 0 (by decide)) (q_X10_faultsWith l D Y ad hI G a1 x3 r3 G3 e3) rfl hl.1 ⟨Nat.le_of_ble_eq_true rfl, Nat.le_of_ble_eq_true rfl⟩ (rest := []) rfl (Nat.le_of_ble_eq_true rfl) ⟨Nat.le_of_ble_eq_true rfl, Nat.le_of_ble_eq_true rfl⟩ dX10_bestHeight_49 (fun H locs o3 hP hS => ?_)
          refine lv_aload_n hx hb dX10_bestHeight_52 rfl (lv_at hl 0 rfl) ?_
          refine lv_iload_n hx hb dX10_bestHeight_53 rfl (lv_at hl 1 rfl) ?_
          refine lv_iload_n hx hb dX10_bestHeight_54 rfl (lv_at hl 2 rfl) ?_
          obtain ⟨r4, G4, e4, h⟩ := bsome2 h
          refine wr_V F hP hS k_X10_faultsWith mw_1580 0 11 rfl (wsW_get 0 (by decide)) (q_X10_faultsWith l D Y ad hI G3 a1 x2 r4 G4 e4) rfl hl.1 ⟨Nat.le_of_ble_eq_true rfl, Nat.le_of_ble_eq_true rfl⟩ (rest := [.int r3]) rfl (Nat.le_of_ble_eq_true rfl) ⟨Nat.le_of_ble_eq_true rfl, Nat.le_of_ble_eq_true rfl⟩ dX10_bestHeight_55 (fun H locs o4 hP hS => ?_)
          refine lv_icmp_ge (tgt := 65) hx hb dX10_bestHeight_58 (by decide) (fun c5 => ?_) (fun c5 => ?_)
          · have h := ifT h c5
            refine lv_iload_n hx hb dX10_bestHeight_65 rfl (lv_at hl 2 rfl) ?_
            exact key66 x3 x2 G4 _ _ hP hS ls (lv_sub hl [0, 1, 3] rfl) h
          · have h := ifF h c5
            refine lv_iload_n hx hb dX10_bestHeight_61 rfl (lv_at hl 3 rfl) ?_
            refine lv_goto (tgt := 66) hx hb dX10_bestHeight_62 (by decide) ?_
            exact key66 x3 x3 G4 _ _ hP hS ls (lv_sub hl [0, 1, 3] rfl) h
  have key26 : ∀ (s26_0 : Int32) (G : GT) (H : Heap) (locs : List Loc), va_P D vwCl (wsM Y ad G) H → va_S (AW 8 ad) s.heap H locs → ∀ ls : Array Slot, lv_has ls 4 [(0, .ref (ad 0)), (1, .int a1)] → f_X10_bestHeight_26 G a1  s26_0 = some (r, G') → WW p l e 8 s m ([.ref (ad 0), .int a1] : List Value).toArray below meth c H locs (WQi (some .int) r D (wsM Y ad G') (AW 8 ad)) (AW 8 ad) (F0 m 26 ls [.int s26_0, .ref (ad 0)]) := by
    intro s26_0 G H locs hP hS ls hl h
    obtain ⟨G6, e6, h⟩ := bsome h
    refine pM_0_6 F hI hP hS dX10_bestHeight_26 (fun H locs hP hS => ?_)
    have hP := cvP e6 hP
    refine lv_iconst (v := 0) hx hb dX10_bestHeight_29 (by decide) ?_
    refine lv_istore_n (lv' := [(2, .int ((0 : Int32))), (0, .ref (ad 0)), (1, .int a1)]) hx hb dX10_bestHeight_30 rfl hl (by decide) rfl (fun ls hl => ?_)
    refine lv_iconst (v := 1) hx hb dX10_bestHeight_31 (by decide) ?_
    refine lv_istore_n (lv' := [(3, .int ((1 : Int32))), (2, .int ((0 : Int32))), (0, .ref (ad 0)), (1, .int a1)]) hx hb dX10_bestHeight_32 rfl hl (by decide) rfl (fun ls hl => ?_)
    exact key33 4096 G6 (0 : Int32) (1 : Int32) _ _ hP hS ls (lv_sub hl [2, 3, 1, 0] rfl) h
  refine lv_aload_n hx hb dX10_bestHeight_0 rfl (lv_at hl 0 rfl) ?_
  refine lv_aload_n hx hb dX10_bestHeight_1 rfl (lv_at hl 0 rfl) ?_
  refine lv_iload_n hx hb dX10_bestHeight_2 rfl (lv_at hl 1 rfl) ?_
  obtain ⟨r7, e7, h⟩ := bsome h
  refine rd_V F hP k_X10_isSound mw_1469 0 11 rfl (wsW_get 0 (by decide)) (q_X10_isSound l D Y ad G a1 r7 e7) rfl hl.1 ⟨Nat.le_of_ble_eq_true rfl, Nat.le_of_ble_eq_true rfl⟩ (rest := [.ref (ad 0)]) rfl (Nat.le_of_ble_eq_true rfl) ⟨Nat.le_of_ble_eq_true rfl, Nat.le_of_ble_eq_true rfl⟩ dX10_bestHeight_3 (fun o7 => ?_)
  refine lv_if_ne (tgt := 13) hx hb dX10_bestHeight_6 (by decide) (fun c8 => ?_) (fun c8 => ?_)
  · have h := ifF h c8
    refine lv_aload_n hx hb dX10_bestHeight_13 rfl (lv_at hl 0 rfl) ?_
    refine lv_iload_n hx hb dX10_bestHeight_14 rfl (lv_at hl 1 rfl) ?_
    obtain ⟨r9, e9, h⟩ := bsome h
    refine rd_V F hP k_X10_isDrop mw_1481 0 11 rfl (wsW_get 0 (by decide)) (q_X10_isDrop l D Y ad G a1 r9 e9) rfl hl.1 ⟨Nat.le_of_ble_eq_true rfl, Nat.le_of_ble_eq_true rfl⟩ (rest := [.ref (ad 0)]) rfl (Nat.le_of_ble_eq_true rfl) ⟨Nat.le_of_ble_eq_true rfl, Nat.le_of_ble_eq_true rfl⟩ dX10_bestHeight_15 (fun o9 => ?_)
    refine lv_if_ne (tgt := 25) hx hb dX10_bestHeight_18 (by decide) (fun c10 => ?_) (fun c10 => ?_)
    · have h := ifF h c10
      refine lv_iconst (v := 0) hx hb dX10_bestHeight_25 (by decide) ?_
      exact key26 (0 : Int32) G _ _ hP hS ls (lv_sub hl [0, 1] rfl) h
    · have h := ifT h c10
      refine lv_iconst (v := 2) hx hb dX10_bestHeight_21 (by decide) ?_
      refine lv_goto (tgt := 26) hx hb dX10_bestHeight_22 (by decide) ?_
      exact key26 (2 : Int32) G _ _ hP hS ls (lv_sub hl [0, 1] rfl) h
  · have h := ifT h c8
    refine lv_iconst (v := 1) hx hb dX10_bestHeight_9 (by decide) ?_
    refine lv_goto (tgt := 26) hx hb dX10_bestHeight_10 (by decide) ?_
    exact key26 (1 : Int32) G _ _ hP hS ls (lv_sub hl [0, 1] rfl) h
def f_X10_walk_63 (G : GT) (a1 : Int32) (k9 : GT → Int32 → Int32 → Option (Int32 × GT)) (x3 : Int32) (s63_0 : Int32) (s63_1 : Int32) : Option (Int32 × GT) := k9 G (s63_1 + s63_0) (x3 + 1)
def f_X10_walk_36 (G : GT) (a1 : Int32) (k9 : GT → Int32 → Int32 → Option (Int32 × GT)) (x2 : Int32) (x3 : Int32) (s36_0 : Int32) : Option (Int32 × GT) := (if 0 ≤ s36_0 then ((f_X10_pitch G x3).bind fun r2 => ((f_X10_pitch G s36_0).bind fun r3 => f_X10_walk_63 G a1 k9 x3 (abs32 (r2 - r3)) x2)) else f_X10_walk_63 G a1 k9 x3 (0 : Int32) x2)
def f_X10_walk_9 (a1 : Int32) (n : Nat) (G : GT) (y2 : Int32) (y3 : Int32) : Option (Int32 × GT) := lq3 (fun (k9 : GT → Int32 → Int32 → Option (Int32 × GT)) (G : GT) (x2 : Int32) (x3 : Int32) => (if (G 1 1) ≤ x3 then some (x2, G) else ((f_X10_isDrop G x3).bind fun r5 => (if r5 = 0 then f_X10_walk_36 G a1 k9 x2 x3 (-1 : Int32) else ((f_X10_dropAhead G x3).bind fun r7 => f_X10_walk_36 G a1 k9 x2 x3 r7))))) n G y2 y3
def f_X10_walk (G : GT) (a1 : Int32) : Option (Int32 × GT) := ((some (upR G 0 (upd (G 0) 6 (0 : Int32)))).bind fun G8 => f_X10_walk_9 a1 4096 G8 (0 : Int32) (0 : Int32))
set_option maxRecDepth 100000 in
set_option maxHeartbeats 4000000 in
theorem q_X10_walk (l : Launch) (D : va_G) (Y : Nat → ClassId) (ad : Nat → Nat) (hI : Inj 8 ad) (G : GT) (a1 : Int32) (r : Int32) (G' : GT) (h : f_X10_walk G a1 = some (r, G')) : WR l yX10_walk cX10_walk 5 (some .int) 3 D Y 8 ad (kM Y ad) G [.ref (ad 0), .int a1] r G' := by
  refine W_of (ret := (some .int)) (by decide) (Nat.le_of_ble_eq_true rfl) (lv := [(0, .ref (ad 0)), (1, .int a1)]) rfl ?_
  intro p e s m below meth c ls F hP hS hr hk hl
  have F : Fx p c cX10_walk 5 s m _ RX10 D Y := F
  have hx := F.1.1
  have hb := F.1.2.1
  have key9 : ∀ (n : Nat) (G : GT) (x2 : Int32) (x3 : Int32) (H : Heap) (locs : List Loc), va_P D vwCl (wsM Y ad G) H → va_S (AW 8 ad) s.heap H locs → ∀ ls : Array Slot, lv_has ls 5 [(0, .ref (ad 0)), (2, .int x2), (3, .int x3)] → f_X10_walk_9 a1  n G x2 x3 = some (r, G') → WW p l e 3 s m ([.ref (ad 0), .int a1] : List Value).toArray below meth c H locs (WQi (some .int) r D (wsM Y ad G') (AW 8 ad)) (AW 8 ad) (F0 m 9 ls []) := by
    intro  n
    induction n with
    | zero => intro G x2 x3 H locs hP hS ls hl h; exact lqZ3 h
    | succ n9 ih9 =>
      have key63 : ∀ (x3 : Int32) (s63_0 : Int32) (s63_1 : Int32) (G : GT) (H : Heap) (locs : List Loc), va_P D vwCl (wsM Y ad G) H → va_S (AW 8 ad) s.heap H locs → ∀ ls : Array Slot, lv_has ls 5 [(0, .ref (ad 0)), (3, .int x3)] → f_X10_walk_63 G a1 (f_X10_walk_9 a1   n9) x3 s63_0 s63_1 = some (r, G') → WW p l e 3 s m ([.ref (ad 0), .int a1] : List Value).toArray below meth c H locs (WQi (some .int) r D (wsM Y ad G') (AW 8 ad)) (AW 8 ad) (F0 m 63 ls [.int s63_0, .int s63_1]) := by
        intro x3 s63_0 s63_1 G H locs hP hS ls hl h
        refine lv_iadd hx hb dX10_walk_63 ?_
        refine lv_istore_n (lv' := [(2, .int ((s63_1 + s63_0))), (0, .ref (ad 0)), (3, .int x3)]) hx hb dX10_walk_64 rfl hl (by decide) rfl (fun ls hl => ?_)
        refine lv_iinc (v := (x3 + 1)) (lv' := [(3, .int ((x3 + 1))), (2, .int ((s63_1 + s63_0))), (0, .ref (ad 0))]) hx hb dX10_walk_65 hl (k := 2) rfl rfl (by decide) rfl (fun ls hl => ?_)
        refine lv_goto (tgt := 9) hx hb dX10_walk_68 (by decide) ?_
        exact ih9 G (s63_1 + s63_0) (x3 + 1) _ _ hP hS ls (lv_sub hl [2, 1, 0] rfl) h
      have key36 : ∀ (x2 : Int32) (x3 : Int32) (s36_0 : Int32) (G : GT) (H : Heap) (locs : List Loc), va_P D vwCl (wsM Y ad G) H → va_S (AW 8 ad) s.heap H locs → ∀ ls : Array Slot, lv_has ls 5 [(0, .ref (ad 0)), (2, .int x2), (3, .int x3)] → f_X10_walk_36 G a1 (f_X10_walk_9 a1   n9) x2 x3 s36_0 = some (r, G') → WW p l e 3 s m ([.ref (ad 0), .int a1] : List Value).toArray below meth c H locs (WQi (some .int) r D (wsM Y ad G') (AW 8 ad)) (AW 8 ad) (F0 m 36 ls [.int s36_0]) := by
        intro x2 x3 s36_0 G H locs hP hS ls hl h
        refine lv_istore (lv' := [(4, .int s36_0), (0, .ref (ad 0)), (2, .int x2), (3, .int x3)]) hx hb dX10_walk_36 hl (by decide) rfl (fun ls hl => ?_)
        refine lv_iload_n hx hb dX10_walk_38 rfl (lv_at hl 2 rfl) ?_
        refine lv_iload hx hb dX10_walk_39 (lv_at hl 0 rfl) ?_
        refine lv_if_ge (tgt := 48) hx hb dX10_walk_41 (by decide) (fun c1 => ?_) (fun c1 => ?_)
        · have h := ifT h c1
          refine lv_aload_n hx hb dX10_walk_48 rfl (lv_at hl 1 rfl) ?_
          refine lv_iload_n hx hb dX10_walk_49 rfl (lv_at hl 3 rfl) ?_
          obtain ⟨r2, e2, h⟩ := bsome h
          refine rd_V F hP k_X10_pitch mw_1489 0 11 rfl (wsW_get 0 (by decide)) (q_X10_pitch l D Y ad G x3 r2 e2) rfl hl.1 ⟨Nat.le_of_ble_eq_true rfl, Nat.le_of_ble_eq_true rfl⟩ (rest := [.int x2]) rfl (Nat.le_of_ble_eq_true rfl) ⟨Nat.le_of_ble_eq_true rfl, Nat.le_of_ble_eq_true rfl⟩ dX10_walk_50 (fun o2 => ?_)
          refine lv_aload_n hx hb dX10_walk_53 rfl (lv_at hl 1 rfl) ?_
          refine lv_iload hx hb dX10_walk_54 (lv_at hl 0 rfl) ?_
          obtain ⟨r3, e3, h⟩ := bsome h
          refine rd_V F hP k_X10_pitch mw_1489 0 11 rfl (wsW_get 0 (by decide)) (q_X10_pitch l D Y ad G s36_0 r3 e3) rfl hl.1 ⟨Nat.le_of_ble_eq_true rfl, Nat.le_of_ble_eq_true rfl⟩ (rest := [.int r2, .int x2]) rfl (Nat.le_of_ble_eq_true rfl) ⟨Nat.le_of_ble_eq_true rfl, Nat.le_of_ble_eq_true rfl⟩ dX10_walk_56 (fun o3 => ?_)
          refine lv_isub hx hb dX10_walk_59 ?_
          refine w_abs F hl mw_1563 ⟨Nat.le_of_ble_eq_true rfl, Nat.le_of_ble_eq_true rfl, Nat.le_of_ble_eq_true rfl, Nat.le_of_ble_eq_true rfl⟩ dX10_walk_60 ?_
          exact key63 x3 (abs32 (r2 - r3)) x2 G _ _ hP hS ls (lv_sub hl [1, 3] rfl) h
        · have h := ifF h c1
          refine lv_iconst (v := 0) hx hb dX10_walk_44 (by decide) ?_
          refine lv_goto (tgt := 63) hx hb dX10_walk_45 (by decide) ?_
          exact key63 x3 (0 : Int32) x2 G _ _ hP hS ls (lv_sub hl [1, 3] rfl) h
      intro G x2 x3 H locs hP hS ls hl h
      have h := lqS3 h
      refine lv_iload_n hx hb dX10_walk_9 rfl (lv_at hl 2 rfl) ?_
      refine lv_aload_n hx hb dX10_walk_10 rfl (lv_at hl 0 rfl) ?_
      refine rM_0_0 F hP dX10_walk_11 ?_
      refine lv_iconst (v := 1) hx hb dX10_walk_14 (by decide) ?_
      refine alk F hP 1 (wsW_get 1 (by decide)) (k := 1) (by decide) (inbV (by decide) (by decide)) dX10_walk_15 ?_
      refine lv_icmp_ge (tgt := 71) hx hb dX10_walk_16 (by decide) (fun c4 => ?_) (fun c4 => ?_)
      · have h := ifT h c4
        refine lv_iload_n hx hb dX10_walk_71 rfl (lv_at hl 1 rfl) ?_
        exact wr_end F hP hS hr hk rfl h dX10_walk_72
      · have h := ifF h c4
        refine lv_aload_n hx hb dX10_walk_19 rfl (lv_at hl 0 rfl) ?_
        refine lv_iload_n hx hb dX10_walk_20 rfl (lv_at hl 2 rfl) ?_
        obtain ⟨r5, e5, h⟩ := bsome h
        refine rd_V F hP k_X10_isDrop mw_1481 0 11 rfl (wsW_get 0 (by decide)) (q_X10_isDrop l D Y ad G x3 r5 e5) rfl hl.1 ⟨Nat.le_of_ble_eq_true rfl, Nat.le_of_ble_eq_true rfl⟩ (rest := []) rfl (Nat.le_of_ble_eq_true rfl) ⟨Nat.le_of_ble_eq_true rfl, Nat.le_of_ble_eq_true rfl⟩ dX10_walk_21 (fun o5 => ?_)
        refine lv_if_eq (tgt := 35) hx hb dX10_walk_24 (by decide) (fun c6 => ?_) (fun c6 => ?_)
        · have h := ifT h c6
          refine lv_iconst (v := -1) hx hb dX10_walk_35 (by decide) ?_
          exact key36 x2 x3 (-1 : Int32) G _ _ hP hS ls (lv_sub hl [0, 1, 2] rfl) h
        · have h := ifF h c6
          refine lv_aload_n hx hb dX10_walk_27 rfl (lv_at hl 0 rfl) ?_
          refine lv_iload_n hx hb dX10_walk_28 rfl (lv_at hl 2 rfl) ?_
          obtain ⟨r7, e7, h⟩ := bsome h
          refine rd_V F hP k_X10_dropAhead mw_1559 0 11 rfl (wsW_get 0 (by decide)) (q_X10_dropAhead l D Y ad G x3 r7 e7) rfl hl.1 ⟨Nat.le_of_ble_eq_true rfl, Nat.le_of_ble_eq_true rfl⟩ (rest := []) rfl (Nat.le_of_ble_eq_true rfl) ⟨Nat.le_of_ble_eq_true rfl, Nat.le_of_ble_eq_true rfl⟩ dX10_walk_29 (fun o7 => ?_)
          refine lv_goto (tgt := 36) hx hb dX10_walk_32 (by decide) ?_
          exact key36 x2 x3 r7 G _ _ hP hS ls (lv_sub hl [0, 1, 2] rfl) h
  refine lv_aload_n hx hb dX10_walk_0 rfl (lv_at hl 0 rfl) ?_
  refine lv_iconst (v := 0) hx hb dX10_walk_1 (by decide) ?_
  obtain ⟨G8, e8, h⟩ := bsome h
  refine pM_0_6 F hI hP hS dX10_walk_2 (fun H locs hP hS => ?_)
  have hP := cvP e8 hP
  refine lv_iconst (v := 0) hx hb dX10_walk_5 (by decide) ?_
  refine lv_istore_n (lv' := [(2, .int ((0 : Int32))), (0, .ref (ad 0)), (1, .int a1)]) hx hb dX10_walk_6 rfl hl (by decide) rfl (fun ls hl => ?_)
  refine lv_iconst (v := 0) hx hb dX10_walk_7 (by decide) ?_
  refine lv_istore_n (lv' := [(3, .int ((0 : Int32))), (2, .int ((0 : Int32))), (0, .ref (ad 0)), (1, .int a1)]) hx hb dX10_walk_8 rfl hl (by decide) rfl (fun ls hl => ?_)
  exact key9 4096 G8 (0 : Int32) (0 : Int32) _ _ hP hS ls (lv_sub hl [2, 1, 0] rfl) h
def f_X10_goes_85 (G : GT) (a1 : Int32) (k9 : GT → Int32 → Int32 → Option (Int32 × GT)) (x3 : Int32) (s85_0 : Int32) (s85_1 : Int32) : Option (Int32 × GT) := k9 G (s85_1 + s85_0) (x3 + 1)
def f_X10_goes_84 (G : GT) (a1 : Int32) (k9 : GT → Int32 → Int32 → Option (Int32 × GT)) (x3 : Int32) (s84_0 : Int32) : Option (Int32 × GT) := f_X10_goes_85 G a1 k9 x3 (0 : Int32) s84_0
def f_X10_goes_80 (G : GT) (a1 : Int32) (k9 : GT → Int32 → Int32 → Option (Int32 × GT)) (x3 : Int32) (s80_0 : Int32) : Option (Int32 × GT) := f_X10_goes_85 G a1 k9 x3 (1 : Int32) s80_0
def f_X10_goes_71 (G : GT) (a1 : Int32) (k9 : GT → Int32 → Int32 → Option (Int32 × GT)) (x3 : Int32) (x5 : Int32) (s71_0 : Int32) : Option (Int32 × GT) := (if a1 = 0 then (if 0 ≤ x5 then f_X10_goes_84 G a1 k9 x3 s71_0 else f_X10_goes_80 G a1 k9 x3 s71_0) else f_X10_goes_84 G a1 k9 x3 s71_0)
def f_X10_goes_59 (G : GT) (a1 : Int32) (k9 : GT → Int32 → Int32 → Option (Int32 × GT)) (x2 : Int32) (x3 : Int32) (s59_0 : Int32) : Option (Int32 × GT) := (if a1 = 0 then f_X10_goes_71 G a1 k9 x3 s59_0 x2 else (if 0 < s59_0 then f_X10_goes_80 G a1 k9 x3 x2 else f_X10_goes_71 G a1 k9 x3 s59_0 x2))
def f_X10_goes_36 (G : GT) (a1 : Int32) (k9 : GT → Int32 → Int32 → Option (Int32 × GT)) (x2 : Int32) (x3 : Int32) (s36_0 : Int32) : Option (Int32 × GT) := (if 0 ≤ s36_0 then ((f_X10_pitch G x3).bind fun r6 => ((f_X10_pitch G s36_0).bind fun r7 => f_X10_goes_59 G a1 k9 x2 x3 (r6 - r7))) else f_X10_goes_59 G a1 k9 x2 x3 (0 : Int32))
def f_X10_goes_9 (a1 : Int32) (n : Nat) (G : GT) (y2 : Int32) (y3 : Int32) : Option (Int32 × GT) := lq3 (fun (k9 : GT → Int32 → Int32 → Option (Int32 × GT)) (G : GT) (x2 : Int32) (x3 : Int32) => (if (G 1 1) ≤ x3 then some (x2, G) else ((f_X10_isDrop G x3).bind fun r9 => (if r9 = 0 then f_X10_goes_36 G a1 k9 x2 x3 (-1 : Int32) else ((f_X10_dropAhead G x3).bind fun r11 => f_X10_goes_36 G a1 k9 x2 x3 r11))))) n G y2 y3
def f_X10_goes (G : GT) (a1 : Int32) : Option (Int32 × GT) := ((some (upR G 0 (upd (G 0) 6 (0 : Int32)))).bind fun G12 => f_X10_goes_9 a1 4096 G12 (0 : Int32) (0 : Int32))
set_option maxRecDepth 100000 in
set_option maxHeartbeats 4000000 in
theorem q_X10_goes (l : Launch) (D : va_G) (Y : Nat → ClassId) (ad : Nat → Nat) (hI : Inj 8 ad) (G : GT) (a1 : Int32) (r : Int32) (G' : GT) (h : f_X10_goes G a1 = some (r, G')) : WR l yX10_goes cX10_goes 6 (some .int) 3 D Y 8 ad (kM Y ad) G [.ref (ad 0), .int a1] r G' := by
  refine W_of (ret := (some .int)) (by decide) (Nat.le_of_ble_eq_true rfl) (lv := [(0, .ref (ad 0)), (1, .int a1)]) rfl ?_
  intro p e s m below meth c ls F hP hS hr hk hl
  have F : Fx p c cX10_goes 6 s m _ RX10 D Y := F
  have hx := F.1.1
  have hb := F.1.2.1
  have key9 : ∀ (n : Nat) (G : GT) (x2 : Int32) (x3 : Int32) (H : Heap) (locs : List Loc), va_P D vwCl (wsM Y ad G) H → va_S (AW 8 ad) s.heap H locs → ∀ ls : Array Slot, lv_has ls 6 [(0, .ref (ad 0)), (1, .int a1), (2, .int x2), (3, .int x3)] → f_X10_goes_9 a1  n G x2 x3 = some (r, G') → WW p l e 3 s m ([.ref (ad 0), .int a1] : List Value).toArray below meth c H locs (WQi (some .int) r D (wsM Y ad G') (AW 8 ad)) (AW 8 ad) (F0 m 9 ls []) := by
    intro  n
    induction n with
    | zero => intro G x2 x3 H locs hP hS ls hl h; exact lqZ3 h
    | succ n9 ih9 =>
      have key85 : ∀ (x3 : Int32) (s85_0 : Int32) (s85_1 : Int32) (G : GT) (H : Heap) (locs : List Loc), va_P D vwCl (wsM Y ad G) H → va_S (AW 8 ad) s.heap H locs → ∀ ls : Array Slot, lv_has ls 6 [(0, .ref (ad 0)), (1, .int a1), (3, .int x3)] → f_X10_goes_85 G a1 (f_X10_goes_9 a1   n9) x3 s85_0 s85_1 = some (r, G') → WW p l e 3 s m ([.ref (ad 0), .int a1] : List Value).toArray below meth c H locs (WQi (some .int) r D (wsM Y ad G') (AW 8 ad)) (AW 8 ad) (F0 m 85 ls [.int s85_0, .int s85_1]) := by
        intro x3 s85_0 s85_1 G H locs hP hS ls hl h
        refine lv_iadd hx hb dX10_goes_85 ?_
        refine lv_istore_n (lv' := [(2, .int ((s85_1 + s85_0))), (0, .ref (ad 0)), (1, .int a1), (3, .int x3)]) hx hb dX10_goes_86 rfl hl (by decide) rfl (fun ls hl => ?_)
        refine lv_iinc (v := (x3 + 1)) (lv' := [(3, .int ((x3 + 1))), (2, .int ((s85_1 + s85_0))), (0, .ref (ad 0)), (1, .int a1)]) hx hb dX10_goes_87 hl (k := 3) rfl rfl (by decide) rfl (fun ls hl => ?_)
        refine lv_goto (tgt := 9) hx hb dX10_goes_90 (by decide) ?_
        exact ih9 G (s85_1 + s85_0) (x3 + 1) _ _ hP hS ls (lv_sub hl [2, 3, 1, 0] rfl) h
      have key84 : ∀ (x3 : Int32) (s84_0 : Int32) (G : GT) (H : Heap) (locs : List Loc), va_P D vwCl (wsM Y ad G) H → va_S (AW 8 ad) s.heap H locs → ∀ ls : Array Slot, lv_has ls 6 [(0, .ref (ad 0)), (1, .int a1), (3, .int x3)] → f_X10_goes_84 G a1 (f_X10_goes_9 a1   n9) x3 s84_0 = some (r, G') → WW p l e 3 s m ([.ref (ad 0), .int a1] : List Value).toArray below meth c H locs (WQi (some .int) r D (wsM Y ad G') (AW 8 ad)) (AW 8 ad) (F0 m 84 ls [.int s84_0]) := by
        intro x3 s84_0 G H locs hP hS ls hl h
        refine lv_iconst (v := 0) hx hb dX10_goes_84 (by decide) ?_
        exact key85 x3 (0 : Int32) s84_0 G _ _ hP hS ls (lv_sub hl [0, 1, 2] rfl) h
      have key80 : ∀ (x3 : Int32) (s80_0 : Int32) (G : GT) (H : Heap) (locs : List Loc), va_P D vwCl (wsM Y ad G) H → va_S (AW 8 ad) s.heap H locs → ∀ ls : Array Slot, lv_has ls 6 [(0, .ref (ad 0)), (1, .int a1), (3, .int x3)] → f_X10_goes_80 G a1 (f_X10_goes_9 a1   n9) x3 s80_0 = some (r, G') → WW p l e 3 s m ([.ref (ad 0), .int a1] : List Value).toArray below meth c H locs (WQi (some .int) r D (wsM Y ad G') (AW 8 ad)) (AW 8 ad) (F0 m 80 ls [.int s80_0]) := by
        intro x3 s80_0 G H locs hP hS ls hl h
        refine lv_iconst (v := 1) hx hb dX10_goes_80 (by decide) ?_
        refine lv_goto (tgt := 85) hx hb dX10_goes_81 (by decide) ?_
        exact key85 x3 (1 : Int32) s80_0 G _ _ hP hS ls (lv_sub hl [0, 1, 2] rfl) h
      have key71 : ∀ (x3 : Int32) (x5 : Int32) (s71_0 : Int32) (G : GT) (H : Heap) (locs : List Loc), va_P D vwCl (wsM Y ad G) H → va_S (AW 8 ad) s.heap H locs → ∀ ls : Array Slot, lv_has ls 6 [(0, .ref (ad 0)), (1, .int a1), (3, .int x3), (5, .int x5)] → f_X10_goes_71 G a1 (f_X10_goes_9 a1   n9) x3 x5 s71_0 = some (r, G') → WW p l e 3 s m ([.ref (ad 0), .int a1] : List Value).toArray below meth c H locs (WQi (some .int) r D (wsM Y ad G') (AW 8 ad)) (AW 8 ad) (F0 m 71 ls [.int s71_0]) := by
        intro x3 x5 s71_0 G H locs hP hS ls hl h
        refine lv_iload_n hx hb dX10_goes_71 rfl (lv_at hl 1 rfl) ?_
        refine lv_if_ne (tgt := 84) hx hb dX10_goes_72 (by decide) (fun c1 => ?_) (fun c1 => ?_)
        · have h := ifF h c1
          exact key84 x3 s71_0 G _ _ hP hS ls (lv_sub hl [0, 1, 2] rfl) h
        · have h := ifT h c1
          refine lv_iload hx hb dX10_goes_75 (lv_at hl 3 rfl) ?_
          refine lv_if_ge (tgt := 84) hx hb dX10_goes_77 (by decide) (fun c2 => ?_) (fun c2 => ?_)
          · have h := ifT h c2
            exact key84 x3 s71_0 G _ _ hP hS ls (lv_sub hl [0, 1, 2] rfl) h
          · have h := ifF h c2
            exact key80 x3 s71_0 G _ _ hP hS ls (lv_sub hl [0, 1, 2] rfl) h
      have key59 : ∀ (x2 : Int32) (x3 : Int32) (s59_0 : Int32) (G : GT) (H : Heap) (locs : List Loc), va_P D vwCl (wsM Y ad G) H → va_S (AW 8 ad) s.heap H locs → ∀ ls : Array Slot, lv_has ls 6 [(0, .ref (ad 0)), (1, .int a1), (2, .int x2), (3, .int x3)] → f_X10_goes_59 G a1 (f_X10_goes_9 a1   n9) x2 x3 s59_0 = some (r, G') → WW p l e 3 s m ([.ref (ad 0), .int a1] : List Value).toArray below meth c H locs (WQi (some .int) r D (wsM Y ad G') (AW 8 ad)) (AW 8 ad) (F0 m 59 ls [.int s59_0]) := by
        intro x2 x3 s59_0 G H locs hP hS ls hl h
        refine lv_istore (lv' := [(5, .int s59_0), (0, .ref (ad 0)), (1, .int a1), (2, .int x2), (3, .int x3)]) hx hb dX10_goes_59 hl (by decide) rfl (fun ls hl => ?_)
        refine lv_iload_n hx hb dX10_goes_61 rfl (lv_at hl 3 rfl) ?_
        refine lv_iload_n hx hb dX10_goes_62 rfl (lv_at hl 2 rfl) ?_
        refine lv_if_eq (tgt := 71) hx hb dX10_goes_63 (by decide) (fun c3 => ?_) (fun c3 => ?_)
        · have h := ifT h c3
          exact key71 x3 s59_0 x2 G _ _ hP hS ls (lv_sub hl [1, 2, 4, 0] rfl) h
        · have h := ifF h c3
          refine lv_iload hx hb dX10_goes_66 (lv_at hl 0 rfl) ?_
          refine lv_if_gt (tgt := 80) hx hb dX10_goes_68 (by decide) (fun c4 => ?_) (fun c4 => ?_)
          · have h := ifT h c4
            exact key80 x3 x2 G _ _ hP hS ls (lv_sub hl [1, 2, 4] rfl) h
          · have h := ifF h c4
            exact key71 x3 s59_0 x2 G _ _ hP hS ls (lv_sub hl [1, 2, 4, 0] rfl) h
      have key36 : ∀ (x2 : Int32) (x3 : Int32) (s36_0 : Int32) (G : GT) (H : Heap) (locs : List Loc), va_P D vwCl (wsM Y ad G) H → va_S (AW 8 ad) s.heap H locs → ∀ ls : Array Slot, lv_has ls 6 [(0, .ref (ad 0)), (1, .int a1), (2, .int x2), (3, .int x3)] → f_X10_goes_36 G a1 (f_X10_goes_9 a1   n9) x2 x3 s36_0 = some (r, G') → WW p l e 3 s m ([.ref (ad 0), .int a1] : List Value).toArray below meth c H locs (WQi (some .int) r D (wsM Y ad G') (AW 8 ad)) (AW 8 ad) (F0 m 36 ls [.int s36_0]) := by
        intro x2 x3 s36_0 G H locs hP hS ls hl h
        refine lv_istore (lv' := [(4, .int s36_0), (0, .ref (ad 0)), (1, .int a1), (2, .int x2), (3, .int x3)]) hx hb dX10_goes_36 hl (by decide) rfl (fun ls hl => ?_)
        refine lv_iload hx hb dX10_goes_38 (lv_at hl 0 rfl) ?_
        refine lv_if_ge (tgt := 47) hx hb dX10_goes_40 (by decide) (fun c5 => ?_) (fun c5 => ?_)
        · have h := ifT h c5
          refine lv_aload_n hx hb dX10_goes_47 rfl (lv_at hl 1 rfl) ?_
          refine lv_iload_n hx hb dX10_goes_48 rfl (lv_at hl 4 rfl) ?_
          obtain ⟨r6, e6, h⟩ := bsome h
          refine rd_V F hP k_X10_pitch mw_1489 0 11 rfl (wsW_get 0 (by decide)) (q_X10_pitch l D Y ad G x3 r6 e6) rfl hl.1 ⟨Nat.le_of_ble_eq_true rfl, Nat.le_of_ble_eq_true rfl⟩ (rest := []) rfl (Nat.le_of_ble_eq_true rfl) ⟨Nat.le_of_ble_eq_true rfl, Nat.le_of_ble_eq_true rfl⟩ dX10_goes_49 (fun o6 => ?_)
          refine lv_aload_n hx hb dX10_goes_52 rfl (lv_at hl 1 rfl) ?_
          refine lv_iload hx hb dX10_goes_53 (lv_at hl 0 rfl) ?_
          obtain ⟨r7, e7, h⟩ := bsome h
          refine rd_V F hP k_X10_pitch mw_1489 0 11 rfl (wsW_get 0 (by decide)) (q_X10_pitch l D Y ad G s36_0 r7 e7) rfl hl.1 ⟨Nat.le_of_ble_eq_true rfl, Nat.le_of_ble_eq_true rfl⟩ (rest := [.int r6]) rfl (Nat.le_of_ble_eq_true rfl) ⟨Nat.le_of_ble_eq_true rfl, Nat.le_of_ble_eq_true rfl⟩ dX10_goes_55 (fun o7 => ?_)
          refine lv_isub hx hb dX10_goes_58 ?_
          exact key59 x2 x3 (r6 - r7) G _ _ hP hS ls (lv_sub hl [1, 2, 3, 4] rfl) h
        · have h := ifF h c5
          refine lv_iconst (v := 0) hx hb dX10_goes_43 (by decide) ?_
          refine lv_goto (tgt := 59) hx hb dX10_goes_44 (by decide) ?_
          exact key59 x2 x3 (0 : Int32) G _ _ hP hS ls (lv_sub hl [1, 2, 3, 4] rfl) h
      intro G x2 x3 H locs hP hS ls hl h
      have h := lqS3 h
      refine lv_iload_n hx hb dX10_goes_9 rfl (lv_at hl 3 rfl) ?_
      refine lv_aload_n hx hb dX10_goes_10 rfl (lv_at hl 0 rfl) ?_
      refine rM_0_0 F hP dX10_goes_11 ?_
      refine lv_iconst (v := 1) hx hb dX10_goes_14 (by decide) ?_
      refine alk F hP 1 (wsW_get 1 (by decide)) (k := 1) (by decide) (inbV (by decide) (by decide)) dX10_goes_15 ?_
      refine lv_icmp_ge (tgt := 93) hx hb dX10_goes_16 (by decide) (fun c8 => ?_) (fun c8 => ?_)
      · have h := ifT h c8
        refine lv_iload_n hx hb dX10_goes_93 rfl (lv_at hl 2 rfl) ?_
        exact wr_end F hP hS hr hk rfl h dX10_goes_94
      · have h := ifF h c8
        refine lv_aload_n hx hb dX10_goes_19 rfl (lv_at hl 0 rfl) ?_
        refine lv_iload_n hx hb dX10_goes_20 rfl (lv_at hl 3 rfl) ?_
        obtain ⟨r9, e9, h⟩ := bsome h
        refine rd_V F hP k_X10_isDrop mw_1481 0 11 rfl (wsW_get 0 (by decide)) (q_X10_isDrop l D Y ad G x3 r9 e9) rfl hl.1 ⟨Nat.le_of_ble_eq_true rfl, Nat.le_of_ble_eq_true rfl⟩ (rest := []) rfl (Nat.le_of_ble_eq_true rfl) ⟨Nat.le_of_ble_eq_true rfl, Nat.le_of_ble_eq_true rfl⟩ dX10_goes_21 (fun o9 => ?_)
        refine lv_if_eq (tgt := 35) hx hb dX10_goes_24 (by decide) (fun c10 => ?_) (fun c10 => ?_)
        · have h := ifT h c10
          refine lv_iconst (v := -1) hx hb dX10_goes_35 (by decide) ?_
          exact key36 x2 x3 (-1 : Int32) G _ _ hP hS ls (lv_sub hl [0, 1, 2, 3] rfl) h
        · have h := ifF h c10
          refine lv_aload_n hx hb dX10_goes_27 rfl (lv_at hl 0 rfl) ?_
          refine lv_iload_n hx hb dX10_goes_28 rfl (lv_at hl 3 rfl) ?_
          obtain ⟨r11, e11, h⟩ := bsome h
          refine rd_V F hP k_X10_dropAhead mw_1559 0 11 rfl (wsW_get 0 (by decide)) (q_X10_dropAhead l D Y ad G x3 r11 e11) rfl hl.1 ⟨Nat.le_of_ble_eq_true rfl, Nat.le_of_ble_eq_true rfl⟩ (rest := []) rfl (Nat.le_of_ble_eq_true rfl) ⟨Nat.le_of_ble_eq_true rfl, Nat.le_of_ble_eq_true rfl⟩ dX10_goes_29 (fun o11 => ?_)
          refine lv_goto (tgt := 36) hx hb dX10_goes_32 (by decide) ?_
          exact key36 x2 x3 r11 G _ _ hP hS ls (lv_sub hl [0, 1, 2, 3] rfl) h
  refine lv_aload_n hx hb dX10_goes_0 rfl (lv_at hl 0 rfl) ?_
  refine lv_iconst (v := 0) hx hb dX10_goes_1 (by decide) ?_
  obtain ⟨G12, e12, h⟩ := bsome h
  refine pM_0_6 F hI hP hS dX10_goes_2 (fun H locs hP hS => ?_)
  have hP := cvP e12 hP
  refine lv_iconst (v := 0) hx hb dX10_goes_5 (by decide) ?_
  refine lv_istore_n (lv' := [(2, .int ((0 : Int32))), (0, .ref (ad 0)), (1, .int a1)]) hx hb dX10_goes_6 rfl hl (by decide) rfl (fun ls hl => ?_)
  refine lv_iconst (v := 0) hx hb dX10_goes_7 (by decide) ?_
  refine lv_istore_n (lv' := [(3, .int ((0 : Int32))), (2, .int ((0 : Int32))), (0, .ref (ad 0)), (1, .int a1)]) hx hb dX10_goes_8 rfl hl (by decide) rfl (fun ls hl => ?_)
  exact key9 4096 G12 (0 : Int32) (0 : Int32) _ _ hP hS ls (lv_sub hl [2, 3, 1, 0] rfl) h
def f_X10_span_65 (G : GT) (k12 : GT → Int32 → Int32 → Int32 → Option (Int32 × GT)) (x1 : Int32) (x3 : Int32) (s65_0 : Int32) : Option (Int32 × GT) := k12 G x1 s65_0 (x3 + 1)
def f_X10_span_43 (G : GT) (k12 : GT → Int32 → Int32 → Int32 → Option (Int32 × GT)) (x2 : Int32) (x3 : Int32) (s43_0 : Int32) : Option (Int32 × GT) := ((f_X10_isDrop G x3).bind fun r1 => (if r1 = 0 then f_X10_span_65 G k12 s43_0 x3 x2 else ((f_X10_pitch G x3).bind fun r3 => f_X10_span_65 G k12 s43_0 x3 (max32 x2 r3))))
def f_X10_span_12 (n : Nat) (G : GT) (y1 : Int32) (y2 : Int32) (y3 : Int32) : Option (Int32 × GT) := lq4 (fun (k12 : GT → Int32 → Int32 → Int32 → Option (Int32 × GT)) (G : GT) (x1 : Int32) (x2 : Int32) (x3 : Int32) => (if (G 1 1) ≤ x3 then ((f_X10_drops G ).bind fun r5 => (if r5 = 0 then some ((0 : Int32), G) else some ((x2 - x1), G))) else ((f_X10_isDrop G x3).bind fun r7 => (if r7 = 0 then f_X10_span_43 G k12 x2 x3 x1 else ((f_X10_pitch G x3).bind fun r9 => f_X10_span_43 G k12 x2 x3 (min32 x1 r9)))))) n G y1 y2 y3
def f_X10_span (G : GT) : Option (Int32 × GT) := ((some (upR G 0 (upd (G 0) 6 (0 : Int32)))).bind fun G10 => f_X10_span_12 4096 G10 (12 : Int32) (0 : Int32) (0 : Int32))
set_option maxRecDepth 100000 in
set_option maxHeartbeats 4000000 in
theorem q_X10_span (l : Launch) (D : va_G) (Y : Nat → ClassId) (ad : Nat → Nat) (hI : Inj 8 ad) (G : GT) (r : Int32) (G' : GT) (h : f_X10_span G  = some (r, G')) : WR l yX10_span cX10_span 4 (some .int) 3 D Y 8 ad (kM Y ad) G [.ref (ad 0)] r G' := by
  refine W_of (ret := (some .int)) (by decide) (Nat.le_of_ble_eq_true rfl) (lv := [(0, .ref (ad 0))]) rfl ?_
  intro p e s m below meth c ls F hP hS hr hk hl
  have F : Fx p c cX10_span 4 s m _ RX10 D Y := F
  have hx := F.1.1
  have hb := F.1.2.1
  have key12 : ∀ (n : Nat) (G : GT) (x1 : Int32) (x2 : Int32) (x3 : Int32) (H : Heap) (locs : List Loc), va_P D vwCl (wsM Y ad G) H → va_S (AW 8 ad) s.heap H locs → ∀ ls : Array Slot, lv_has ls 4 [(0, .ref (ad 0)), (1, .int x1), (2, .int x2), (3, .int x3)] → f_X10_span_12   n G x1 x2 x3 = some (r, G') → WW p l e 3 s m ([.ref (ad 0)] : List Value).toArray below meth c H locs (WQi (some .int) r D (wsM Y ad G') (AW 8 ad)) (AW 8 ad) (F0 m 12 ls []) := by
    intro  n
    induction n with
    | zero => intro G x1 x2 x3 H locs hP hS ls hl h; exact lqZ4 h
    | succ n12 ih12 =>
      have key65 : ∀ (x1 : Int32) (x3 : Int32) (s65_0 : Int32) (G : GT) (H : Heap) (locs : List Loc), va_P D vwCl (wsM Y ad G) H → va_S (AW 8 ad) s.heap H locs → ∀ ls : Array Slot, lv_has ls 4 [(0, .ref (ad 0)), (1, .int x1), (3, .int x3)] → f_X10_span_65 G  (f_X10_span_12    n12) x1 x3 s65_0 = some (r, G') → WW p l e 3 s m ([.ref (ad 0)] : List Value).toArray below meth c H locs (WQi (some .int) r D (wsM Y ad G') (AW 8 ad)) (AW 8 ad) (F0 m 65 ls [.int s65_0]) := by
        intro x1 x3 s65_0 G H locs hP hS ls hl h
        refine lv_istore_n (lv' := [(2, .int s65_0), (0, .ref (ad 0)), (1, .int x1), (3, .int x3)]) hx hb dX10_span_65 rfl hl (by decide) rfl (fun ls hl => ?_)
        refine lv_iinc (v := (x3 + 1)) (lv' := [(3, .int ((x3 + 1))), (2, .int s65_0), (0, .ref (ad 0)), (1, .int x1)]) hx hb dX10_span_66 hl (k := 3) rfl rfl (by decide) rfl (fun ls hl => ?_)
        refine lv_goto (tgt := 12) hx hb dX10_span_69 (by decide) ?_
        exact ih12 G x1 s65_0 (x3 + 1) _ _ hP hS ls (lv_sub hl [2, 3, 1, 0] rfl) h
      have key43 : ∀ (x2 : Int32) (x3 : Int32) (s43_0 : Int32) (G : GT) (H : Heap) (locs : List Loc), va_P D vwCl (wsM Y ad G) H → va_S (AW 8 ad) s.heap H locs → ∀ ls : Array Slot, lv_has ls 4 [(0, .ref (ad 0)), (2, .int x2), (3, .int x3)] → f_X10_span_43 G  (f_X10_span_12    n12) x2 x3 s43_0 = some (r, G') → WW p l e 3 s m ([.ref (ad 0)] : List Value).toArray below meth c H locs (WQi (some .int) r D (wsM Y ad G') (AW 8 ad)) (AW 8 ad) (F0 m 43 ls [.int s43_0]) := by
        intro x2 x3 s43_0 G H locs hP hS ls hl h
        refine lv_istore_n (lv' := [(1, .int s43_0), (0, .ref (ad 0)), (2, .int x2), (3, .int x3)]) hx hb dX10_span_43 rfl hl (by decide) rfl (fun ls hl => ?_)
        refine lv_aload_n hx hb dX10_span_44 rfl (lv_at hl 1 rfl) ?_
        refine lv_iload_n hx hb dX10_span_45 rfl (lv_at hl 3 rfl) ?_
        obtain ⟨r1, e1, h⟩ := bsome h
        refine rd_V F hP k_X10_isDrop mw_1481 0 11 rfl (wsW_get 0 (by decide)) (q_X10_isDrop l D Y ad G x3 r1 e1) rfl hl.1 ⟨Nat.le_of_ble_eq_true rfl, Nat.le_of_ble_eq_true rfl⟩ (rest := []) rfl (Nat.le_of_ble_eq_true rfl) ⟨Nat.le_of_ble_eq_true rfl, Nat.le_of_ble_eq_true rfl⟩ dX10_span_46 (fun o1 => ?_)
        refine lv_if_eq (tgt := 64) hx hb dX10_span_49 (by decide) (fun c2 => ?_) (fun c2 => ?_)
        · have h := ifT h c2
          refine lv_iload_n hx hb dX10_span_64 rfl (lv_at hl 2 rfl) ?_
          exact key65 s43_0 x3 x2 G _ _ hP hS ls (lv_sub hl [1, 0, 3] rfl) h
        · have h := ifF h c2
          refine lv_iload_n hx hb dX10_span_52 rfl (lv_at hl 2 rfl) ?_
          refine lv_aload_n hx hb dX10_span_53 rfl (lv_at hl 1 rfl) ?_
          refine lv_iload_n hx hb dX10_span_54 rfl (lv_at hl 3 rfl) ?_
          obtain ⟨r3, e3, h⟩ := bsome h
          refine rd_V F hP k_X10_pitch mw_1489 0 11 rfl (wsW_get 0 (by decide)) (q_X10_pitch l D Y ad G x3 r3 e3) rfl hl.1 ⟨Nat.le_of_ble_eq_true rfl, Nat.le_of_ble_eq_true rfl⟩ (rest := [.int x2]) rfl (Nat.le_of_ble_eq_true rfl) ⟨Nat.le_of_ble_eq_true rfl, Nat.le_of_ble_eq_true rfl⟩ dX10_span_55 (fun o3 => ?_)
          refine w_max F hl mw_1501 ⟨Nat.le_of_ble_eq_true rfl, Nat.le_of_ble_eq_true rfl, Nat.le_of_ble_eq_true rfl, Nat.le_of_ble_eq_true rfl⟩ dX10_span_58 ?_
          refine lv_goto (tgt := 65) hx hb dX10_span_61 (by decide) ?_
          exact key65 s43_0 x3 (max32 x2 r3) G _ _ hP hS ls (lv_sub hl [1, 0, 3] rfl) h
      intro G x1 x2 x3 H locs hP hS ls hl h
      have h := lqS4 h
      refine lv_iload_n hx hb dX10_span_12 rfl (lv_at hl 3 rfl) ?_
      refine lv_aload_n hx hb dX10_span_13 rfl (lv_at hl 0 rfl) ?_
      refine rM_0_0 F hP dX10_span_14 ?_
      refine lv_iconst (v := 1) hx hb dX10_span_17 (by decide) ?_
      refine alk F hP 1 (wsW_get 1 (by decide)) (k := 1) (by decide) (inbV (by decide) (by decide)) dX10_span_18 ?_
      refine lv_icmp_ge (tgt := 72) hx hb dX10_span_19 (by decide) (fun c4 => ?_) (fun c4 => ?_)
      · have h := ifT h c4
        refine lv_aload_n hx hb dX10_span_72 rfl (lv_at hl 0 rfl) ?_
        obtain ⟨r5, e5, h⟩ := bsome h
        refine rd_V F hP k_X10_drops mw_1600 0 11 rfl (wsW_get 0 (by decide)) (q_X10_drops l D Y ad G  r5 e5) rfl hl.1 ⟨Nat.le_of_ble_eq_true rfl, Nat.le_of_ble_eq_true rfl⟩ (rest := []) rfl (Nat.le_of_ble_eq_true rfl) ⟨Nat.le_of_ble_eq_true rfl, Nat.le_of_ble_eq_true rfl⟩ dX10_span_73 (fun o5 => ?_)
        refine lv_if_ne (tgt := 83) hx hb dX10_span_76 (by decide) (fun c6 => ?_) (fun c6 => ?_)
        · have h := ifF h c6
          refine lv_iload_n hx hb dX10_span_83 rfl (lv_at hl 2 rfl) ?_
          refine lv_iload_n hx hb dX10_span_84 rfl (lv_at hl 1 rfl) ?_
          refine lv_isub hx hb dX10_span_85 ?_
          exact wr_end F hP hS hr hk rfl h dX10_span_86
        · have h := ifT h c6
          refine lv_iconst (v := 0) hx hb dX10_span_79 (by decide) ?_
          refine lv_goto (tgt := 86) hx hb dX10_span_80 (by decide) ?_
          exact wr_end F hP hS hr hk rfl h dX10_span_86
      · have h := ifF h c4
        refine lv_aload_n hx hb dX10_span_22 rfl (lv_at hl 0 rfl) ?_
        refine lv_iload_n hx hb dX10_span_23 rfl (lv_at hl 3 rfl) ?_
        obtain ⟨r7, e7, h⟩ := bsome h
        refine rd_V F hP k_X10_isDrop mw_1481 0 11 rfl (wsW_get 0 (by decide)) (q_X10_isDrop l D Y ad G x3 r7 e7) rfl hl.1 ⟨Nat.le_of_ble_eq_true rfl, Nat.le_of_ble_eq_true rfl⟩ (rest := []) rfl (Nat.le_of_ble_eq_true rfl) ⟨Nat.le_of_ble_eq_true rfl, Nat.le_of_ble_eq_true rfl⟩ dX10_span_24 (fun o7 => ?_)
        refine lv_if_eq (tgt := 42) hx hb dX10_span_27 (by decide) (fun c8 => ?_) (fun c8 => ?_)
        · have h := ifT h c8
          refine lv_iload_n hx hb dX10_span_42 rfl (lv_at hl 1 rfl) ?_
          exact key43 x2 x3 x1 G _ _ hP hS ls (lv_sub hl [0, 2, 3] rfl) h
        · have h := ifF h c8
          refine lv_iload_n hx hb dX10_span_30 rfl (lv_at hl 1 rfl) ?_
          refine lv_aload_n hx hb dX10_span_31 rfl (lv_at hl 0 rfl) ?_
          refine lv_iload_n hx hb dX10_span_32 rfl (lv_at hl 3 rfl) ?_
          obtain ⟨r9, e9, h⟩ := bsome h
          refine rd_V F hP k_X10_pitch mw_1489 0 11 rfl (wsW_get 0 (by decide)) (q_X10_pitch l D Y ad G x3 r9 e9) rfl hl.1 ⟨Nat.le_of_ble_eq_true rfl, Nat.le_of_ble_eq_true rfl⟩ (rest := [.int x1]) rfl (Nat.le_of_ble_eq_true rfl) ⟨Nat.le_of_ble_eq_true rfl, Nat.le_of_ble_eq_true rfl⟩ dX10_span_33 (fun o9 => ?_)
          refine w_min F hl mw_1502 ⟨Nat.le_of_ble_eq_true rfl, Nat.le_of_ble_eq_true rfl, Nat.le_of_ble_eq_true rfl, Nat.le_of_ble_eq_true rfl⟩ dX10_span_36 ?_
          refine lv_goto (tgt := 43) hx hb dX10_span_39 (by decide) ?_
          exact key43 x2 x3 (min32 x1 r9) G _ _ hP hS ls (lv_sub hl [0, 2, 3] rfl) h
  refine lv_aload_n hx hb dX10_span_0 rfl (lv_at hl 0 rfl) ?_
  refine lv_iconst (v := 0) hx hb dX10_span_1 (by decide) ?_
  obtain ⟨G10, e10, h⟩ := bsome h
  refine pM_0_6 F hI hP hS dX10_span_2 (fun H locs hP hS => ?_)
  have hP := cvP e10 hP
  refine lv_bipush (v := 12) hx hb dX10_span_5 (by decide) ?_
  refine lv_istore_n (lv' := [(1, .int ((12 : Int32))), (0, .ref (ad 0))]) hx hb dX10_span_7 rfl hl (by decide) rfl (fun ls hl => ?_)
  refine lv_iconst (v := 0) hx hb dX10_span_8 (by decide) ?_
  refine lv_istore_n (lv' := [(2, .int ((0 : Int32))), (1, .int ((12 : Int32))), (0, .ref (ad 0))]) hx hb dX10_span_9 rfl hl (by decide) rfl (fun ls hl => ?_)
  refine lv_iconst (v := 0) hx hb dX10_span_10 (by decide) ?_
  refine lv_istore_n (lv' := [(3, .int ((0 : Int32))), (2, .int ((0 : Int32))), (1, .int ((12 : Int32))), (0, .ref (ad 0))]) hx hb dX10_span_11 rfl hl (by decide) rfl (fun ls hl => ?_)
  exact key12 4096 G10 (12 : Int32) (0 : Int32) (0 : Int32) _ _ hP hS ls (lv_sub hl [3, 2, 1, 0] rfl) h
def f_X10_withPitch_63 (G : GT) (a1 : Int32) (k23 : GT → Int32 → Int32 → Option (Int32 × GT)) (x3 : Int32) (s63_0 : Int32) (s63_1 : Int32) : Option (Int32 × GT) := k23 G (s63_1 + s63_0) (x3 + 1)
def f_X10_withPitch_62 (G : GT) (a1 : Int32) (k23 : GT → Int32 → Int32 → Option (Int32 × GT)) (x3 : Int32) (s62_0 : Int32) : Option (Int32 × GT) := f_X10_withPitch_63 G a1 k23 x3 (0 : Int32) s62_0
def f_X10_withPitch_23 (a1 : Int32) (n : Nat) (G : GT) (y2 : Int32) (y3 : Int32) : Option (Int32 × GT) := lq3 (fun (k23 : GT → Int32 → Int32 → Option (Int32 × GT)) (G : GT) (x2 : Int32) (x3 : Int32) => (if (G 1 1) ≤ x3 then some (x2, G) else (if (G 0 6) = 0 then ((f_X10_isDrop G x3).bind fun r3 => (if r3 = 0 then f_X10_withPitch_62 G a1 k23 x3 x2 else ((f_X10_pitch G x3).bind fun r5 => (if r5 = a1 then f_X10_withPitch_63 G a1 k23 x3 (1 : Int32) x2 else f_X10_withPitch_62 G a1 k23 x3 x2)))) else some (x2, G)))) n G y2 y3
def f_X10_withPitch_16 (G : GT) (a1 : Int32) (s16_0 : Int32) : Option (Int32 × GT) := ((some (upR G 0 (upd (G 0) 6 s16_0))).bind fun G7 => f_X10_withPitch_23 a1 4096 G7 (0 : Int32) (0 : Int32))
def f_X10_withPitch (G : GT) (a1 : Int32) : Option (Int32 × GT) := ((f_X10_in G a1 (0 : Int32) (11 : Int32)).bind fun r8 => (if r8 = 0 then f_X10_withPitch_16 G a1 (1 : Int32) else f_X10_withPitch_16 G a1 (0 : Int32)))
set_option maxRecDepth 100000 in
set_option maxHeartbeats 4000000 in
theorem q_X10_withPitch (l : Launch) (D : va_G) (Y : Nat → ClassId) (ad : Nat → Nat) (hI : Inj 8 ad) (G : GT) (a1 : Int32) (r : Int32) (G' : GT) (h : f_X10_withPitch G a1 = some (r, G')) : WR l yX10_withPitch cX10_withPitch 4 (some .int) 2 D Y 8 ad (kM Y ad) G [.ref (ad 0), .int a1] r G' := by
  refine W_of (ret := (some .int)) (by decide) (Nat.le_of_ble_eq_true rfl) (lv := [(0, .ref (ad 0)), (1, .int a1)]) rfl ?_
  intro p e s m below meth c ls F hP hS hr hk hl
  have F : Fx p c cX10_withPitch 4 s m _ RX10 D Y := F
  have hx := F.1.1
  have hb := F.1.2.1
  have key23 : ∀ (n : Nat) (G : GT) (x2 : Int32) (x3 : Int32) (H : Heap) (locs : List Loc), va_P D vwCl (wsM Y ad G) H → va_S (AW 8 ad) s.heap H locs → ∀ ls : Array Slot, lv_has ls 4 [(0, .ref (ad 0)), (1, .int a1), (2, .int x2), (3, .int x3)] → f_X10_withPitch_23 a1  n G x2 x3 = some (r, G') → WW p l e 2 s m ([.ref (ad 0), .int a1] : List Value).toArray below meth c H locs (WQi (some .int) r D (wsM Y ad G') (AW 8 ad)) (AW 8 ad) (F0 m 23 ls []) := by
    intro  n
    induction n with
    | zero => intro G x2 x3 H locs hP hS ls hl h; exact lqZ3 h
    | succ n23 ih23 =>
      have key63 : ∀ (x3 : Int32) (s63_0 : Int32) (s63_1 : Int32) (G : GT) (H : Heap) (locs : List Loc), va_P D vwCl (wsM Y ad G) H → va_S (AW 8 ad) s.heap H locs → ∀ ls : Array Slot, lv_has ls 4 [(0, .ref (ad 0)), (1, .int a1), (3, .int x3)] → f_X10_withPitch_63 G a1 (f_X10_withPitch_23 a1   n23) x3 s63_0 s63_1 = some (r, G') → WW p l e 2 s m ([.ref (ad 0), .int a1] : List Value).toArray below meth c H locs (WQi (some .int) r D (wsM Y ad G') (AW 8 ad)) (AW 8 ad) (F0 m 63 ls [.int s63_0, .int s63_1]) := by
        intro x3 s63_0 s63_1 G H locs hP hS ls hl h
        refine lv_iadd hx hb dX10_withPitch_63 ?_
        refine lv_istore_n (lv' := [(2, .int ((s63_1 + s63_0))), (0, .ref (ad 0)), (1, .int a1), (3, .int x3)]) hx hb dX10_withPitch_64 rfl hl (by decide) rfl (fun ls hl => ?_)
        refine lv_iinc (v := (x3 + 1)) (lv' := [(3, .int ((x3 + 1))), (2, .int ((s63_1 + s63_0))), (0, .ref (ad 0)), (1, .int a1)]) hx hb dX10_withPitch_65 hl (k := 3) rfl rfl (by decide) rfl (fun ls hl => ?_)
        refine lv_goto (tgt := 23) hx hb dX10_withPitch_68 (by decide) ?_
        exact ih23 G (s63_1 + s63_0) (x3 + 1) _ _ hP hS ls (lv_sub hl [2, 3, 1, 0] rfl) h
      have key62 : ∀ (x3 : Int32) (s62_0 : Int32) (G : GT) (H : Heap) (locs : List Loc), va_P D vwCl (wsM Y ad G) H → va_S (AW 8 ad) s.heap H locs → ∀ ls : Array Slot, lv_has ls 4 [(0, .ref (ad 0)), (1, .int a1), (3, .int x3)] → f_X10_withPitch_62 G a1 (f_X10_withPitch_23 a1   n23) x3 s62_0 = some (r, G') → WW p l e 2 s m ([.ref (ad 0), .int a1] : List Value).toArray below meth c H locs (WQi (some .int) r D (wsM Y ad G') (AW 8 ad)) (AW 8 ad) (F0 m 62 ls [.int s62_0]) := by
        intro x3 s62_0 G H locs hP hS ls hl h
        refine lv_iconst (v := 0) hx hb dX10_withPitch_62 (by decide) ?_
        exact key63 x3 (0 : Int32) s62_0 G _ _ hP hS ls (lv_sub hl [0, 1, 2] rfl) h
      intro G x2 x3 H locs hP hS ls hl h
      have h := lqS3 h
      refine lv_iload_n hx hb dX10_withPitch_23 rfl (lv_at hl 3 rfl) ?_
      refine lv_aload_n hx hb dX10_withPitch_24 rfl (lv_at hl 0 rfl) ?_
      refine rM_0_0 F hP dX10_withPitch_25 ?_
      refine lv_iconst (v := 1) hx hb dX10_withPitch_28 (by decide) ?_
      refine alk F hP 1 (wsW_get 1 (by decide)) (k := 1) (by decide) (inbV (by decide) (by decide)) dX10_withPitch_29 ?_
      refine lv_icmp_ge (tgt := 71) hx hb dX10_withPitch_30 (by decide) (fun c1 => ?_) (fun c1 => ?_)
      · have h := ifT h c1
        refine lv_iload_n hx hb dX10_withPitch_71 rfl (lv_at hl 2 rfl) ?_
        exact wr_end F hP hS hr hk rfl h dX10_withPitch_72
      · have h := ifF h c1
        refine lv_aload_n hx hb dX10_withPitch_33 rfl (lv_at hl 0 rfl) ?_
        refine rM_0_6 F hP dX10_withPitch_34 ?_
        refine lv_if_ne (tgt := 71) hx hb dX10_withPitch_37 (by decide) (fun c2 => ?_) (fun c2 => ?_)
        · have h := ifF h c2
          refine lv_iload_n hx hb dX10_withPitch_71 rfl (lv_at hl 2 rfl) ?_
          exact wr_end F hP hS hr hk rfl h dX10_withPitch_72
        · have h := ifT h c2
          refine lv_iload_n hx hb dX10_withPitch_40 rfl (lv_at hl 2 rfl) ?_
          refine lv_aload_n hx hb dX10_withPitch_41 rfl (lv_at hl 0 rfl) ?_
          refine lv_iload_n hx hb dX10_withPitch_42 rfl (lv_at hl 3 rfl) ?_
          obtain ⟨r3, e3, h⟩ := bsome h
          refine rd_V F hP k_X10_isDrop mw_1481 0 11 rfl (wsW_get 0 (by decide)) (q_X10_isDrop l D Y ad G x3 r3 e3) rfl hl.1 ⟨Nat.le_of_ble_eq_true rfl, Nat.le_of_ble_eq_true rfl⟩ (rest := [.int x2]) rfl (Nat.le_of_ble_eq_true rfl) ⟨Nat.le_of_ble_eq_true rfl, Nat.le_of_ble_eq_true rfl⟩ dX10_withPitch_43 (fun o3 => ?_)
          refine lv_if_eq (tgt := 62) hx hb dX10_withPitch_46 (by decide) (fun c4 => ?_) (fun c4 => ?_)
          · have h := ifT h c4
            exact key62 x3 x2 G _ _ hP hS ls (lv_sub hl [0, 1, 3] rfl) h
          · have h := ifF h c4
            refine lv_aload_n hx hb dX10_withPitch_49 rfl (lv_at hl 0 rfl) ?_
            refine lv_iload_n hx hb dX10_withPitch_50 rfl (lv_at hl 3 rfl) ?_
            obtain ⟨r5, e5, h⟩ := bsome h
            refine rd_V F hP k_X10_pitch mw_1489 0 11 rfl (wsW_get 0 (by decide)) (q_X10_pitch l D Y ad G x3 r5 e5) rfl hl.1 ⟨Nat.le_of_ble_eq_true rfl, Nat.le_of_ble_eq_true rfl⟩ (rest := [.int x2]) rfl (Nat.le_of_ble_eq_true rfl) ⟨Nat.le_of_ble_eq_true rfl, Nat.le_of_ble_eq_true rfl⟩ dX10_withPitch_51 (fun o5 => ?_)
            refine lv_iload_n hx hb dX10_withPitch_54 rfl (lv_at hl 1 rfl) ?_
            refine lv_icmp_ne (tgt := 62) hx hb dX10_withPitch_55 (by decide) (fun c6 => ?_) (fun c6 => ?_)
            · have h := ifF h c6
              exact key62 x3 x2 G _ _ hP hS ls (lv_sub hl [0, 1, 3] rfl) h
            · have h := ifT h c6
              refine lv_iconst (v := 1) hx hb dX10_withPitch_58 (by decide) ?_
              refine lv_goto (tgt := 63) hx hb dX10_withPitch_59 (by decide) ?_
              exact key63 x3 (1 : Int32) x2 G _ _ hP hS ls (lv_sub hl [0, 1, 3] rfl) h
  have key16 : ∀ (s16_0 : Int32) (G : GT) (H : Heap) (locs : List Loc), va_P D vwCl (wsM Y ad G) H → va_S (AW 8 ad) s.heap H locs → ∀ ls : Array Slot, lv_has ls 4 [(0, .ref (ad 0)), (1, .int a1)] → f_X10_withPitch_16 G a1  s16_0 = some (r, G') → WW p l e 2 s m ([.ref (ad 0), .int a1] : List Value).toArray below meth c H locs (WQi (some .int) r D (wsM Y ad G') (AW 8 ad)) (AW 8 ad) (F0 m 16 ls [.int s16_0, .ref (ad 0)]) := by
    intro s16_0 G H locs hP hS ls hl h
    obtain ⟨G7, e7, h⟩ := bsome h
    refine pM_0_6 F hI hP hS dX10_withPitch_16 (fun H locs hP hS => ?_)
    have hP := cvP e7 hP
    refine lv_iconst (v := 0) hx hb dX10_withPitch_19 (by decide) ?_
    refine lv_istore_n (lv' := [(2, .int ((0 : Int32))), (0, .ref (ad 0)), (1, .int a1)]) hx hb dX10_withPitch_20 rfl hl (by decide) rfl (fun ls hl => ?_)
    refine lv_iconst (v := 0) hx hb dX10_withPitch_21 (by decide) ?_
    refine lv_istore_n (lv' := [(3, .int ((0 : Int32))), (2, .int ((0 : Int32))), (0, .ref (ad 0)), (1, .int a1)]) hx hb dX10_withPitch_22 rfl hl (by decide) rfl (fun ls hl => ?_)
    exact key23 4096 G7 (0 : Int32) (0 : Int32) _ _ hP hS ls (lv_sub hl [2, 3, 1, 0] rfl) h
  refine lv_aload_n hx hb dX10_withPitch_0 rfl (lv_at hl 0 rfl) ?_
  refine lv_iload_n hx hb dX10_withPitch_1 rfl (lv_at hl 1 rfl) ?_
  refine lv_iconst (v := 0) hx hb dX10_withPitch_2 (by decide) ?_
  refine lv_bipush (v := 11) hx hb dX10_withPitch_3 (by decide) ?_
  obtain ⟨r8, e8, h⟩ := bsome h
  refine rd_S F hP k_X10_in mw_1379 (q_X10_in l D Y ad G a1 (0 : Int32) (11 : Int32) r8 e8) rfl hl.1 ⟨Nat.le_of_ble_eq_true rfl, Nat.le_of_ble_eq_true rfl⟩ (rest := [.ref (ad 0)]) rfl (Nat.le_of_ble_eq_true rfl) ⟨Nat.le_of_ble_eq_true rfl, Nat.le_of_ble_eq_true rfl⟩ dX10_withPitch_5 (fun o8 => ?_)
  refine lv_if_eq (tgt := 15) hx hb dX10_withPitch_8 (by decide) (fun c9 => ?_) (fun c9 => ?_)
  · have h := ifT h c9
    refine lv_iconst (v := 1) hx hb dX10_withPitch_15 (by decide) ?_
    exact key16 (1 : Int32) G _ _ hP hS ls (lv_sub hl [0, 1] rfl) h
  · have h := ifF h c9
    refine lv_iconst (v := 0) hx hb dX10_withPitch_11 (by decide) ?_
    refine lv_goto (tgt := 16) hx hb dX10_withPitch_12 (by decide) ?_
    exact key16 (0 : Int32) G _ _ hP hS ls (lv_sub hl [0, 1] rfl) h
def f_X10_loudest_13 (G : GT) (a1 : Int32) (s13_0 : Int32) : Option (Int32 × GT) := ((some (upR G 0 (upd (G 0) 6 s13_0))).bind fun G1 => (if (G1 0 6) ≤ 0 then ((f_X10_placed G1 a1 (4 : Int32) (1 : Int32)).bind fun r3 => some (r3, G1)) else some ((0 : Int32), G1)))
def f_X10_loudest (G : GT) (a1 : Int32) : Option (Int32 × GT) := ((f_X10_isTin G a1).bind fun r4 => (if r4 = 0 then f_X10_loudest_13 G a1 (1 : Int32) else f_X10_loudest_13 G a1 (0 : Int32)))
set_option maxRecDepth 100000 in
set_option maxHeartbeats 4000000 in
theorem q_X10_loudest (l : Launch) (D : va_G) (Y : Nat → ClassId) (ad : Nat → Nat) (hI : Inj 8 ad) (G : GT) (a1 : Int32) (r : Int32) (G' : GT) (h : f_X10_loudest G a1 = some (r, G')) : WR l yX10_loudest cX10_loudest 2 (some .int) 5 D Y 8 ad (kM Y ad) G [.ref (ad 0), .int a1] r G' := by
  refine W_of (ret := (some .int)) (by decide) (Nat.le_of_ble_eq_true rfl) (lv := [(0, .ref (ad 0)), (1, .int a1)]) rfl ?_
  intro p e s m below meth c ls F hP hS hr hk hl
  have F : Fx p c cX10_loudest 2 s m _ RX10 D Y := F
  have hx := F.1.1
  have hb := F.1.2.1
  have key13 : ∀ (s13_0 : Int32) (G : GT) (H : Heap) (locs : List Loc), va_P D vwCl (wsM Y ad G) H → va_S (AW 8 ad) s.heap H locs → ∀ ls : Array Slot, lv_has ls 2 [(0, .ref (ad 0)), (1, .int a1)] → f_X10_loudest_13 G a1  s13_0 = some (r, G') → WW p l e 5 s m ([.ref (ad 0), .int a1] : List Value).toArray below meth c H locs (WQi (some .int) r D (wsM Y ad G') (AW 8 ad)) (AW 8 ad) (F0 m 13 ls [.int s13_0, .ref (ad 0)]) := by
    intro s13_0 G H locs hP hS ls hl h
    obtain ⟨G1, e1, h⟩ := bsome h
    refine pM_0_6 F hI hP hS dX10_loudest_13 (fun H locs hP hS => ?_)
    have hP := cvP e1 hP
    refine lv_aload_n hx hb dX10_loudest_16 rfl (lv_at hl 0 rfl) ?_
    refine rM_0_6 F hP dX10_loudest_17 ?_
    refine lv_if_le (tgt := 27) hx hb dX10_loudest_20 (by decide) (fun c2 => ?_) (fun c2 => ?_)
    · have h := ifT h c2
      refine lv_aload_n hx hb dX10_loudest_27 rfl (lv_at hl 0 rfl) ?_
      refine lv_iload_n hx hb dX10_loudest_28 rfl (lv_at hl 1 rfl) ?_
      refine lv_iconst (v := 4) hx hb dX10_loudest_29 (by decide) ?_
      refine lv_iconst (v := 1) hx hb dX10_loudest_30 (by decide) ?_
      obtain ⟨r3, e3, h⟩ := bsome h
      refine rd_V F hP k_X10_placed mw_1612 0 11 rfl (wsW_get 0 (by decide)) (q_X10_placed l D Y ad G1 a1 (4 : Int32) (1 : Int32) r3 e3) rfl hl.1 ⟨Nat.le_of_ble_eq_true rfl, Nat.le_of_ble_eq_true rfl⟩ (rest := []) rfl (Nat.le_of_ble_eq_true rfl) ⟨Nat.le_of_ble_eq_true rfl, Nat.le_of_ble_eq_true rfl⟩ dX10_loudest_31 (fun o3 => ?_)
      exact wr_end F hP hS hr hk rfl h dX10_loudest_34
    · have h := ifF h c2
      refine lv_iconst (v := 0) hx hb dX10_loudest_23 (by decide) ?_
      refine lv_goto (tgt := 34) hx hb dX10_loudest_24 (by decide) ?_
      exact wr_end F hP hS hr hk rfl h dX10_loudest_34
  refine lv_aload_n hx hb dX10_loudest_0 rfl (lv_at hl 0 rfl) ?_
  refine lv_iload_n hx hb dX10_loudest_1 rfl (lv_at hl 1 rfl) ?_
  obtain ⟨r4, e4, h⟩ := bsome h
  refine rd_S F hP k_X10_isTin mw_1402 (q_X10_isTin l D Y ad G a1 r4 e4) rfl hl.1 ⟨Nat.le_of_ble_eq_true rfl, Nat.le_of_ble_eq_true rfl⟩ (rest := [.ref (ad 0)]) rfl (Nat.le_of_ble_eq_true rfl) ⟨Nat.le_of_ble_eq_true rfl, Nat.le_of_ble_eq_true rfl⟩ dX10_loudest_2 (fun o4 => ?_)
  refine lv_if_eq (tgt := 12) hx hb dX10_loudest_5 (by decide) (fun c5 => ?_) (fun c5 => ?_)
  · have h := ifT h c5
    refine lv_iconst (v := 1) hx hb dX10_loudest_12 (by decide) ?_
    exact key13 (1 : Int32) G _ _ hP hS ls (lv_sub hl [0, 1] rfl) h
  · have h := ifF h c5
    refine lv_iconst (v := 0) hx hb dX10_loudest_8 (by decide) ?_
    refine lv_goto (tgt := 13) hx hb dX10_loudest_9 (by decide) ?_
    exact key13 (0 : Int32) G _ _ hP hS ls (lv_sub hl [0, 1] rfl) h
def f_X10_highest_20 (G : GT) (a1 : Int32) (s20_0 : Int32) : Option (Int32 × GT) := ((some (upR G 0 (upd (G 0) 6 s20_0))).bind fun G1 => (if (G1 0 6) ≤ 0 then ((f_X10_placed G1 a1 (G1 1 1) (0 : Int32)).bind fun r3 => some (r3, G1)) else some ((0 : Int32), G1)))
def f_X10_highest (G : GT) (a1 : Int32) : Option (Int32 × GT) := ((f_X10_drops G ).bind fun r4 => ((f_X10_in G a1 (0 : Int32) (r4 - (1 : Int32))).bind fun r5 => (if r5 = 0 then f_X10_highest_20 G a1 (1 : Int32) else f_X10_highest_20 G a1 (0 : Int32))))
set_option maxRecDepth 100000 in
set_option maxHeartbeats 4000000 in
theorem q_X10_highest (l : Launch) (D : va_G) (Y : Nat → ClassId) (ad : Nat → Nat) (hI : Inj 8 ad) (G : GT) (a1 : Int32) (r : Int32) (G' : GT) (h : f_X10_highest G a1 = some (r, G')) : WR l yX10_highest cX10_highest 2 (some .int) 5 D Y 8 ad (kM Y ad) G [.ref (ad 0), .int a1] r G' := by
  refine W_of (ret := (some .int)) (by decide) (Nat.le_of_ble_eq_true rfl) (lv := [(0, .ref (ad 0)), (1, .int a1)]) rfl ?_
  intro p e s m below meth c ls F hP hS hr hk hl
  have F : Fx p c cX10_highest 2 s m _ RX10 D Y := F
  have hx := F.1.1
  have hb := F.1.2.1
  have key20 : ∀ (s20_0 : Int32) (G : GT) (H : Heap) (locs : List Loc), va_P D vwCl (wsM Y ad G) H → va_S (AW 8 ad) s.heap H locs → ∀ ls : Array Slot, lv_has ls 2 [(0, .ref (ad 0)), (1, .int a1)] → f_X10_highest_20 G a1  s20_0 = some (r, G') → WW p l e 5 s m ([.ref (ad 0), .int a1] : List Value).toArray below meth c H locs (WQi (some .int) r D (wsM Y ad G') (AW 8 ad)) (AW 8 ad) (F0 m 20 ls [.int s20_0, .ref (ad 0)]) := by
    intro s20_0 G H locs hP hS ls hl h
    obtain ⟨G1, e1, h⟩ := bsome h
    refine pM_0_6 F hI hP hS dX10_highest_20 (fun H locs hP hS => ?_)
    have hP := cvP e1 hP
    refine lv_aload_n hx hb dX10_highest_23 rfl (lv_at hl 0 rfl) ?_
    refine rM_0_6 F hP dX10_highest_24 ?_
    refine lv_if_le (tgt := 34) hx hb dX10_highest_27 (by decide) (fun c2 => ?_) (fun c2 => ?_)
    · have h := ifT h c2
      refine lv_aload_n hx hb dX10_highest_34 rfl (lv_at hl 0 rfl) ?_
      refine lv_iload_n hx hb dX10_highest_35 rfl (lv_at hl 1 rfl) ?_
      refine lv_aload_n hx hb dX10_highest_36 rfl (lv_at hl 0 rfl) ?_
      refine rM_0_0 F hP dX10_highest_37 ?_
      refine lv_iconst (v := 1) hx hb dX10_highest_40 (by decide) ?_
      refine alk F hP 1 (wsW_get 1 (by decide)) (k := 1) (by decide) (inbV (by decide) (by decide)) dX10_highest_41 ?_
      refine lv_iconst (v := 0) hx hb dX10_highest_42 (by decide) ?_
      obtain ⟨r3, e3, h⟩ := bsome h
      refine rd_V F hP k_X10_placed mw_1612 0 11 rfl (wsW_get 0 (by decide)) (q_X10_placed l D Y ad G1 a1 (G1 1 1) (0 : Int32) r3 e3) rfl hl.1 ⟨Nat.le_of_ble_eq_true rfl, Nat.le_of_ble_eq_true rfl⟩ (rest := []) rfl (Nat.le_of_ble_eq_true rfl) ⟨Nat.le_of_ble_eq_true rfl, Nat.le_of_ble_eq_true rfl⟩ dX10_highest_43 (fun o3 => ?_)
      exact wr_end F hP hS hr hk rfl h dX10_highest_46
    · have h := ifF h c2
      refine lv_iconst (v := 0) hx hb dX10_highest_30 (by decide) ?_
      refine lv_goto (tgt := 46) hx hb dX10_highest_31 (by decide) ?_
      exact wr_end F hP hS hr hk rfl h dX10_highest_46
  refine lv_aload_n hx hb dX10_highest_0 rfl (lv_at hl 0 rfl) ?_
  refine lv_iload_n hx hb dX10_highest_1 rfl (lv_at hl 1 rfl) ?_
  refine lv_iconst (v := 0) hx hb dX10_highest_2 (by decide) ?_
  refine lv_aload_n hx hb dX10_highest_3 rfl (lv_at hl 0 rfl) ?_
  obtain ⟨r4, e4, h⟩ := bsome h
  refine rd_V F hP k_X10_drops mw_1600 0 11 rfl (wsW_get 0 (by decide)) (q_X10_drops l D Y ad G  r4 e4) rfl hl.1 ⟨Nat.le_of_ble_eq_true rfl, Nat.le_of_ble_eq_true rfl⟩ (rest := [.int ((0 : Int32)), .int a1, .ref (ad 0)]) rfl (Nat.le_of_ble_eq_true rfl) ⟨Nat.le_of_ble_eq_true rfl, Nat.le_of_ble_eq_true rfl⟩ dX10_highest_4 (fun o4 => ?_)
  refine lv_iconst (v := 1) hx hb dX10_highest_7 (by decide) ?_
  refine lv_isub hx hb dX10_highest_8 ?_
  obtain ⟨r5, e5, h⟩ := bsome h
  refine rd_S F hP k_X10_in mw_1379 (q_X10_in l D Y ad G a1 (0 : Int32) (r4 - (1 : Int32)) r5 e5) rfl hl.1 ⟨Nat.le_of_ble_eq_true rfl, Nat.le_of_ble_eq_true rfl⟩ (rest := [.ref (ad 0)]) rfl (Nat.le_of_ble_eq_true rfl) ⟨Nat.le_of_ble_eq_true rfl, Nat.le_of_ble_eq_true rfl⟩ dX10_highest_9 (fun o5 => ?_)
  refine lv_if_eq (tgt := 19) hx hb dX10_highest_12 (by decide) (fun c6 => ?_) (fun c6 => ?_)
  · have h := ifT h c6
    refine lv_iconst (v := 1) hx hb dX10_highest_19 (by decide) ?_
    exact key20 (1 : Int32) G _ _ hP hS ls (lv_sub hl [0, 1] rfl) h
  · have h := ifF h c6
    refine lv_iconst (v := 0) hx hb dX10_highest_15 (by decide) ?_
    refine lv_goto (tgt := 20) hx hb dX10_highest_16 (by decide) ?_
    exact key20 (0 : Int32) G _ _ hP hS ls (lv_sub hl [0, 1] rfl) h
