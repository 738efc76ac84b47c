def f_X10_meanPitch_50 (G : GT) (k22 : GT → Int32 → Int32 → Option (UInt64 × GT)) (x1 : Int32) (x3 : Int32) (s50_0 : Int32) (s50_1 : Int32) : Option (UInt64 × GT) := k22 G (s50_1 + s50_0) (x3 + 1)
def f_X10_meanPitch_22 (x1 : Int32) (n : Nat) (G : GT) (y2 : Int32) (y3 : Int32) : Option (UInt64 × GT) := lq3 (fun (k22 : GT → Int32 → Int32 → Option (UInt64 × GT)) (G : GT) (x2 : Int32) (x3 : Int32) => (if (G 1 1) ≤ x3 then (if (G 0 6) ≤ 0 then (if n64 (FP.ddiv (FP.i2d x2) (FP.i2d x1)) then some ((FP.ddiv (FP.i2d x2) (FP.i2d x1)), G) else none) else some ((FP.dconst0), G)) else ((f_X10_isDrop G x3).bind fun r4 => (if r4 = 0 then f_X10_meanPitch_50 G k22 x1 x3 (0 : Int32) x2 else ((f_X10_pitch G x3).bind fun r6 => f_X10_meanPitch_50 G k22 x1 x3 r6 x2))))) n G y2 y3
def f_X10_meanPitch_15 (G : GT) (x1 : Int32) (s15_0 : Int32) : Option (UInt64 × GT) := ((some (upR G 0 (upd (G 0) 6 s15_0))).bind fun G7 => f_X10_meanPitch_22 x1 4096 G7 (0 : Int32) (0 : Int32))
def f_X10_meanPitch (G : GT) : Option (UInt64 × GT) := ((f_X10_drops G ).bind fun r8 => (if r8 = 0 then f_X10_meanPitch_15 G r8 (1 : Int32) else f_X10_meanPitch_15 G r8 (0 : Int32)))
set_option maxRecDepth 100000 in
set_option maxHeartbeats 400000 in
theorem q_X10_meanPitch (l : Launch) (D : va_G) (Y : Nat → ClassId) (ad : Nat → Nat) (hI : Inj 8 ad) (G : GT) (r : UInt64) (G' : GT) (h : f_X10_meanPitch G  = some (r, G')) : WDb l yX10_meanPitch cX10_meanPitch 4 3 D Y 8 ad (kM Y ad) G [.ref (ad 0)] r G' := by
  refine W_of (ret := (some .double)) (by decide) (Nat.le_of_ble_eq_true rfl) (lv := [(0, .ref (ad 0))]) rfl ?_
  intro p e s m below meth c ls F hP hS hr hk hl
  have F : Fx p c cX10_meanPitch 4 s m _ RX10 D Y := F
  have hx := F.1.1
  have hb := F.1.2.1
  have key22 : ∀ (x1 : Int32) (n : Nat) (G : GT) (x2 : Int32) (x3 : Int32) (H : Heap) (locs : List Loc), va_P D vwCl (wsM Y ad G) H → va_S (AW 8 ad) s.heap H locs → ∀ ls : Array Slot, lv_has ls 4 [(0, .ref (ad 0)), (1, .int x1), (2, .int x2), (3, .int x3)] → f_X10_meanPitch_22   x1 n G x2 x3 = some (r, G') → WW p l e 3 s m ([.ref (ad 0)] : List Value).toArray below meth c H locs (WQd r D (wsM Y ad G') (AW 8 ad)) (AW 8 ad) (F0 m 22 ls []) := by
    intro x1 n
    induction n with
    | zero => intro G x2 x3 H locs hP hS ls hl h; exact lqZ3 h
    | succ n22 ih22 =>
      have key50 : ∀ (x3 : Int32) (s50_0 : Int32) (s50_1 : Int32) (G : GT) (H : Heap) (locs : List Loc), va_P D vwCl (wsM Y ad G) H → va_S (AW 8 ad) s.heap H locs → ∀ ls : Array Slot, lv_has ls 4 [(0, .ref (ad 0)), (1, .int x1), (3, .int x3)] → f_X10_meanPitch_50 G  (f_X10_meanPitch_22   x1 n22) x1 x3 s50_0 s50_1 = some (r, G') → WW p l e 3 s m ([.ref (ad 0)] : List Value).toArray below meth c H locs (WQd r D (wsM Y ad G') (AW 8 ad)) (AW 8 ad) (F0 m 50 ls [.int s50_0, .int s50_1]) := by
        intro x3 s50_0 s50_1 G H locs hP hS ls hl h
        refine lv_iadd hx hb dX10_meanPitch_50 ?_
        refine lv_istore_n (lv' := [(2, .int ((s50_1 + s50_0))), (0, .ref (ad 0)), (1, .int x1), (3, .int x3)]) hx hb dX10_meanPitch_51 rfl hl (by decide) rfl (fun ls hl => ?_)
        refine lv_iinc (v := (x3 + 1)) (lv' := [(3, .int ((x3 + 1))), (2, .int ((s50_1 + s50_0))), (0, .ref (ad 0)), (1, .int x1)]) hx hb dX10_meanPitch_52 hl (k := 3) rfl rfl (by decide) rfl (fun ls hl => ?_)
        refine lv_goto (tgt := 22) hx hb dX10_meanPitch_55 (by decide) ?_
        exact ih22 G (s50_1 + s50_0) (x3 + 1) _ _ hP hS ls (lv_sub hl [2, 3, 1, 0] rfl) h
      intro G x2 x3 H locs hP hS ls hl h
      have h := lqS3 h
      refine lv_iload_n hx hb dX10_meanPitch_22 rfl (lv_at hl 3 rfl) ?_
      refine lv_aload_n hx hb dX10_meanPitch_23 rfl (lv_at hl 0 rfl) ?_
      refine rM_0_0 F hP dX10_meanPitch_24 ?_
      refine lv_iconst (v := 1) hx hb dX10_meanPitch_27 (by decide) ?_
      refine alk F hP 1 (wsW_get 1 (by decide)) (k := 1) (by decide) (inbV (by decide) (by decide)) dX10_meanPitch_28 ?_
      refine lv_icmp_ge (tgt := 58) hx hb dX10_meanPitch_29 (by decide) (fun c1 => ?_) (fun c1 => ?_)
      · have h := ifT h c1
        refine lv_aload_n hx hb dX10_meanPitch_58 rfl (lv_at hl 0 rfl) ?_
        refine rM_0_6 F hP dX10_meanPitch_59 ?_
        refine lv_if_le (tgt := 69) hx hb dX10_meanPitch_62 (by decide) (fun c2 => ?_) (fun c2 => ?_)
        · have h := ifT h c2
          refine lv_iload_n hx hb dX10_meanPitch_69 rfl (lv_at hl 2 rfl) ?_
          refine lv_i2d hx hb dX10_meanPitch_70 ?_
          refine lv_iload_n hx hb dX10_meanPitch_71 rfl (lv_at hl 1 rfl) ?_
          refine lv_i2d hx hb dX10_meanPitch_72 ?_
          obtain ⟨b3, h⟩ := ckS h
          refine lv_ddiv hx hb dX10_meanPitch_73 b3 ?_
          exact wd_end F hP hS hr hk h dX10_meanPitch_74
        · have h := ifF h c2
          refine lv_dconst0 hx hb dX10_meanPitch_65 ?_
          refine lv_goto (tgt := 74) hx hb dX10_meanPitch_66 (by decide) ?_
          exact wd_end F hP hS hr hk h dX10_meanPitch_74
      · have h := ifF h c1
        refine lv_iload_n hx hb dX10_meanPitch_32 rfl (lv_at hl 2 rfl) ?_
        refine lv_aload_n hx hb dX10_meanPitch_33 rfl (lv_at hl 0 rfl) ?_
        refine lv_iload_n hx hb dX10_meanPitch_34 rfl (lv_at hl 3 rfl) ?_
        obtain ⟨r4, e4, h⟩ := bsome h
        refine rd_V F hP k_X10_isDrop mw_1481 0 11 rfl (wsW_get 0 (by decide)) (q_X10_isDrop l D Y ad G x3 r4 e4) rfl hl.1 ⟨Nat.le_of_ble_eq_true rfl, Nat.le_of_ble_eq_true rfl⟩ (rest := [.int x2]) rfl (Nat.le_of_ble_eq_true rfl) ⟨Nat.le_of_ble_eq_true rfl, Nat.le_of_ble_eq_true rfl⟩ dX10_meanPitch_35 (fun o4 => ?_)
        refine lv_if_eq (tgt := 49) hx hb dX10_meanPitch_38 (by decide) (fun c5 => ?_) (fun c5 => ?_)
        · have h := ifT h c5
          refine lv_iconst (v := 0) hx hb dX10_meanPitch_49 (by decide) ?_
          exact key50 x3 (0 : Int32) x2 G _ _ hP hS ls (lv_sub hl [0, 1, 3] rfl) h
        · have h := ifF h c5
          refine lv_aload_n hx hb dX10_meanPitch_41 rfl (lv_at hl 0 rfl) ?_
          refine lv_iload_n hx hb dX10_meanPitch_42 rfl (lv_at hl 3 rfl) ?_
          obtain ⟨r6, e6, h⟩ := bsome h
          refine rd_V F hP k_X10_pitch mw_1489 0 11 rfl (wsW_get 0 (by decide)) (q_X10_pitch l D Y ad G x3 r6 e6) rfl hl.1 ⟨Nat.le_of_ble_eq_true rfl, Nat.le_of_ble_eq_true rfl⟩ (rest := [.int x2]) rfl (Nat.le_of_ble_eq_true rfl) ⟨Nat.le_of_ble_eq_true rfl, Nat.le_of_ble_eq_true rfl⟩ dX10_meanPitch_43 (fun o6 => ?_)
          refine lv_goto (tgt := 50) hx hb dX10_meanPitch_46 (by decide) ?_
          exact key50 x3 r6 x2 G _ _ hP hS ls (lv_sub hl [0, 1, 3] rfl) h
  have key15 : ∀ (x1 : Int32) (s15_0 : Int32) (G : GT) (H : Heap) (locs : List Loc), va_P D vwCl (wsM Y ad G) H → va_S (AW 8 ad) s.heap H locs → ∀ ls : Array Slot, lv_has ls 4 [(0, .ref (ad 0)), (1, .int x1)] → f_X10_meanPitch_15 G   x1 s15_0 = some (r, G') → WW p l e 3 s m ([.ref (ad 0)] : List Value).toArray below meth c H locs (WQd r D (wsM Y ad G') (AW 8 ad)) (AW 8 ad) (F0 m 15 ls [.int s15_0, .ref (ad 0)]) := by
    intro x1 s15_0 G H locs hP hS ls hl h
    obtain ⟨G7, e7, h⟩ := bsome h
    refine pM_0_6 F hI hP hS dX10_meanPitch_15 (fun H locs hP hS => ?_)
    have hP := cvP e7 hP
    refine lv_iconst (v := 0) hx hb dX10_meanPitch_18 (by decide) ?_
    refine lv_istore_n (lv' := [(2, .int ((0 : Int32))), (0, .ref (ad 0)), (1, .int x1)]) hx hb dX10_meanPitch_19 rfl hl (by decide) rfl (fun ls hl => ?_)
    refine lv_iconst (v := 0) hx hb dX10_meanPitch_20 (by decide) ?_
    refine lv_istore_n (lv' := [(3, .int ((0 : Int32))), (2, .int ((0 : Int32))), (0, .ref (ad 0)), (1, .int x1)]) hx hb dX10_meanPitch_21 rfl hl (by decide) rfl (fun ls hl => ?_)
    exact key22 x1 4096 G7 (0 : Int32) (0 : Int32) _ _ hP hS ls (lv_sub hl [2, 3, 1, 0] rfl) h
  refine lv_aload_n hx hb dX10_meanPitch_0 rfl (lv_at hl 0 rfl) ?_
  obtain ⟨r8, e8, h⟩ := bsome h
  refine rd_V F hP k_X10_drops mw_1600 0 11 rfl (wsW_get 0 (by decide)) (q_X10_drops l D Y ad G  r8 e8) rfl hl.1 ⟨Nat.le_of_ble_eq_true rfl, Nat.le_of_ble_eq_true rfl⟩ (rest := []) rfl (Nat.le_of_ble_eq_true rfl) ⟨Nat.le_of_ble_eq_true rfl, Nat.le_of_ble_eq_true rfl⟩ dX10_meanPitch_1 (fun o8 => ?_)
  refine lv_istore_n (lv' := [(1, .int r8), (0, .ref (ad 0))]) hx hb dX10_meanPitch_4 rfl hl (by decide) rfl (fun ls hl => ?_)
  refine lv_aload_n hx hb dX10_meanPitch_5 rfl (lv_at hl 1 rfl) ?_
  refine lv_iload_n hx hb dX10_meanPitch_6 rfl (lv_at hl 0 rfl) ?_
  refine lv_if_ne (tgt := 14) hx hb dX10_meanPitch_7 (by decide) (fun c9 => ?_) (fun c9 => ?_)
  · have h := ifF h c9
    refine lv_iconst (v := 0) hx hb dX10_meanPitch_14 (by decide) ?_
    exact key15 r8 (0 : Int32) G _ _ hP hS ls (lv_sub hl [1, 0] rfl) h
  · have h := ifT h c9
    refine lv_iconst (v := 1) hx hb dX10_meanPitch_10 (by decide) ?_
    refine lv_goto (tgt := 15) hx hb dX10_meanPitch_11 (by decide) ?_
    exact key15 r8 (1 : Int32) G _ _ hP hS ls (lv_sub hl [1, 0] rfl) h
def f_X10_filledShare_21 (G : GT) (x1 : Int32) (s21_0 : Int32) : Option (UInt32 × GT) := ((some (upR G 0 (upd (G 0) 6 s21_0))).bind fun G1 => (if (G1 0 6) ≤ 0 then ((f_X10_begin G1 (G1 1 1)).bind fun r3 => (if n32 (FP.fdiv (FP.i2f r3) (FP.i2f x1)) then some ((FP.fdiv (FP.i2f r3) (FP.i2f x1)), G1) else none)) else some ((FP.fconst0), G1)))
def f_X10_filledShare (G : GT) : Option (UInt32 × GT) := ((f_X10_barBegin G (G 1 0)).bind fun r5 => (if r5 = 0 then f_X10_filledShare_21 G r5 (1 : Int32) else f_X10_filledShare_21 G r5 (0 : Int32)))
set_option maxRecDepth 100000 in
set_option maxHeartbeats 400000 in
theorem q_X10_filledShare (l : Launch) (D : va_G) (Y : Nat → ClassId) (ad : Nat → Nat) (hI : Inj 8 ad) (G : GT) (r : UInt32) (G' : GT) (h : f_X10_filledShare G  = some (r, G')) : WF l yX10_filledShare cX10_filledShare 2 2 D Y 8 ad (kM Y ad) G [.ref (ad 0)] r G' := by
  refine W_of (ret := (some .float)) (by decide) (Nat.le_of_ble_eq_true rfl) (lv := [(0, .ref (ad 0))]) rfl ?_
  intro p e s m below meth c ls F hP hS hr hk hl
  have F : Fx p c cX10_filledShare 2 s m _ RX10 D Y := F
  have hx := F.1.1
  have hb := F.1.2.1
  have key21 : ∀ (x1 : Int32) (s21_0 : Int32) (G : GT) (H : Heap) (locs : List Loc), va_P D vwCl (wsM Y ad G) H → va_S (AW 8 ad) s.heap H locs → ∀ ls : Array Slot, lv_has ls 2 [(0, .ref (ad 0)), (1, .int x1)] → f_X10_filledShare_21 G   x1 s21_0 = some (r, G') → WW p l e 2 s m ([.ref (ad 0)] : List Value).toArray below meth c H locs (WQf r D (wsM Y ad G') (AW 8 ad)) (AW 8 ad) (F0 m 21 ls [.int s21_0, .ref (ad 0)]) := by
    intro x1 s21_0 G H locs hP hS ls hl h
    obtain ⟨G1, e1, h⟩ := bsome h
    refine pM_0_6 F hI hP hS dX10_filledShare_21 (fun H locs hP hS => ?_)
    have hP := cvP e1 hP
    refine lv_aload_n hx hb dX10_filledShare_24 rfl (lv_at hl 0 rfl) ?_
    refine rM_0_6 F hP dX10_filledShare_25 ?_
    refine lv_if_le (tgt := 35) hx hb dX10_filledShare_28 (by decide) (fun c2 => ?_) (fun c2 => ?_)
    · have h := ifT h c2
      refine lv_aload_n hx hb dX10_filledShare_35 rfl (lv_at hl 0 rfl) ?_
      refine lv_aload_n hx hb dX10_filledShare_36 rfl (lv_at hl 0 rfl) ?_
      refine rM_0_0 F hP dX10_filledShare_37 ?_
      refine lv_iconst (v := 1) hx hb dX10_filledShare_40 (by decide) ?_
      refine alk F hP 1 (wsW_get 1 (by decide)) (k := 1) (by decide) (inbV (by decide) (by decide)) dX10_filledShare_41 ?_
      obtain ⟨r3, e3, h⟩ := bsome h
      refine rd_V F hP k_X10_begin mw_1429 0 11 rfl (wsW_get 0 (by decide)) (q_X10_begin l D Y ad G1 (G1 1 1) r3 e3) rfl hl.1 ⟨Nat.le_of_ble_eq_true rfl, Nat.le_of_ble_eq_true rfl⟩ (rest := []) rfl (Nat.le_of_ble_eq_true rfl) ⟨Nat.le_of_ble_eq_true rfl, Nat.le_of_ble_eq_true rfl⟩ dX10_filledShare_42 (fun o3 => ?_)
      refine lv_i2f hx hb dX10_filledShare_45 ?_
      refine lv_iload_n hx hb dX10_filledShare_46 rfl (lv_at hl 1 rfl) ?_
      refine lv_i2f hx hb dX10_filledShare_47 ?_
      obtain ⟨b4, h⟩ := ckS h
      refine lv_fdiv hx hb dX10_filledShare_48 b4 ?_
      exact wf_end F hP hS hr hk h dX10_filledShare_49
    · have h := ifF h c2
      refine lv_fconst0 hx hb dX10_filledShare_31 ?_
      refine lv_goto (tgt := 49) hx hb dX10_filledShare_32 (by decide) ?_
      exact wf_end F hP hS hr hk h dX10_filledShare_49
  refine lv_aload_n hx hb dX10_filledShare_0 rfl (lv_at hl 0 rfl) ?_
  refine lv_aload_n hx hb dX10_filledShare_1 rfl (lv_at hl 0 rfl) ?_
  refine rM_0_0 F hP dX10_filledShare_2 ?_
  refine lv_iconst (v := 0) hx hb dX10_filledShare_5 (by decide) ?_
  refine alk F hP 1 (wsW_get 1 (by decide)) (k := 0) (by decide) (inbV (by decide) (by decide)) dX10_filledShare_6 ?_
  obtain ⟨r5, e5, h⟩ := bsome h
  refine rd_V F hP k_X10_barBegin mw_1425 0 11 rfl (wsW_get 0 (by decide)) (q_X10_barBegin l D Y ad G (G 1 0) r5 e5) rfl hl.1 ⟨Nat.le_of_ble_eq_true rfl, Nat.le_of_ble_eq_true rfl⟩ (rest := []) rfl (Nat.le_of_ble_eq_true rfl) ⟨Nat.le_of_ble_eq_true rfl, Nat.le_of_ble_eq_true rfl⟩ dX10_filledShare_7 (fun o5 => ?_)
  refine lv_istore_n (lv' := [(1, .int r5), (0, .ref (ad 0))]) hx hb dX10_filledShare_10 rfl hl (by decide) rfl (fun ls hl => ?_)
  refine lv_aload_n hx hb dX10_filledShare_11 rfl (lv_at hl 1 rfl) ?_
  refine lv_iload_n hx hb dX10_filledShare_12 rfl (lv_at hl 0 rfl) ?_
  refine lv_if_ne (tgt := 20) hx hb dX10_filledShare_13 (by decide) (fun c6 => ?_) (fun c6 => ?_)
  · have h := ifF h c6
    refine lv_iconst (v := 0) hx hb dX10_filledShare_20 (by decide) ?_
    exact key21 r5 (0 : Int32) G _ _ hP hS ls (lv_sub hl [1, 0] rfl) h
  · have h := ifT h c6
    refine lv_iconst (v := 1) hx hb dX10_filledShare_16 (by decide) ?_
    refine lv_goto (tgt := 21) hx hb dX10_filledShare_17 (by decide) ?_
    exact key21 r5 (1 : Int32) G _ _ hP hS ls (lv_sub hl [1, 0] rfl) h
