def f_X2_signAt (G : Nat → Nat → Int32) (a1 : Int32) : Option Int32 := (if a1 < 0 then some (32 : Int32) else (if (nI 32) ≤ a1 then some (32 : Int32) else (if inb a1 32 then (if okC (G 83 a1.toNatClampNeg) then some (G 83 a1.toNatClampNeg) else none) else none)))
set_option maxRecDepth 100000 in
set_option maxHeartbeats 4000000 in
theorem q_X2_signAt (l : Launch) (D : va_G) (Y : Nat → ClassId) (ad : Nat → Nat) (G : Nat → Nat → Int32) (a1 : Int32) (r : Int32) (h : f_X2_signAt G a1 = some r) : RD l yX2_signAt cX2_signAt 2 (some .char) 0 D Y (wsC Y ad G) [.ref (ad 82), .int a1] r := by
  refine RD_of (by decide) (Nat.le_of_ble_eq_true rfl) (lv := [(0, .ref (ad 82)), (1, .int a1)]) rfl ?_
  intro p e s m below meth c ls F hP hr hk hl
  have F : Fx p c cX2_signAt 2 s m _ RX2 D Y := F
  have hx := F.1.1
  have hb := F.1.2.1
  refine lv_iload_n hx hb dX2_signAt_0 rfl (lv_at hl 1 rfl) ?_
  refine lv_if_lt (tgt := 22) hx hb dX2_signAt_1 (by decide) (fun c1 => ?_) (fun c1 => ?_)
  · have h := ifT h c1
    refine lv_bipush (v := 32) hx hb dX2_signAt_22 (by decide) ?_
    exact rd_end F hr hk rfl h dX2_signAt_24
  · have h := ifF h c1
    refine lv_iload_n hx hb dX2_signAt_4 rfl (lv_at hl 1 rfl) ?_
    refine lv_aload_n hx hb dX2_signAt_5 rfl (lv_at hl 0 rfl) ?_
    refine rC_82_1 F hP dX2_signAt_6 ?_
    refine alenc F hP 83 (wsW_get 83 (by decide)) dX2_signAt_9 ?_
    refine lv_icmp_ge (tgt := 22) hx hb dX2_signAt_10 (by decide) (fun c2 => ?_) (fun c2 => ?_)
    · have h := ifT h c2
      refine lv_bipush (v := 32) hx hb dX2_signAt_22 (by decide) ?_
      exact rd_end F hr hk rfl h dX2_signAt_24
    · have h := ifF h c2
      refine lv_aload_n hx hb dX2_signAt_13 rfl (lv_at hl 0 rfl) ?_
      refine rC_82_1 F hP dX2_signAt_14 ?_
      refine lv_iload_n hx hb dX2_signAt_17 rfl (lv_at hl 1 rfl) ?_
      obtain ⟨b3, h⟩ := ckS h
      refine alc F hP 83 (wsW_get 83 (by decide)) (inbV b3 (by decide)) dX2_signAt_18 ?_
      refine lv_goto (tgt := 24) hx hb dX2_signAt_19 (by decide) ?_
      obtain ⟨b4, h⟩ := ckS h
      exact rd_end F hr hk (okC_n b4) h dX2_signAt_24
def f_X9_walk (G : Nat → Nat → Int32) (a1 : Int32) : Option Int32 := (if a1 = 0 then ((f_X3_way G ).bind fun r2 => some r2) else ((f_X3_wayBySteps G ).bind fun r3 => some r3))
set_option maxRecDepth 100000 in
set_option maxHeartbeats 4000000 in
theorem q_X9_walk (l : Launch) (D : va_G) (Y : Nat → ClassId) (ad : Nat → Nat) (G : Nat → Nat → Int32) (a1 : Int32) (r : Int32) (h : f_X9_walk G a1 = some r) : RD l yX9_walk cX9_walk 2 (some .int) 5 D Y (wsC Y ad G) [.ref (ad 77), .int a1] r := by
  refine RD_of (by decide) (Nat.le_of_ble_eq_true rfl) (lv := [(0, .ref (ad 77)), (1, .int a1)]) rfl ?_
  intro p e s m below meth c ls F hP hr hk hl
  have F : Fx p c cX9_walk 2 s m _ RX9 D Y := F
  have hx := F.1.1
  have hb := F.1.2.1
  refine lv_iload_n hx hb dX9_walk_0 rfl (lv_at hl 1 rfl) ?_
  refine lv_if_eq (tgt := 14) hx hb dX9_walk_1 (by decide) (fun c1 => ?_) (fun c1 => ?_)
  · have h := ifT h c1
    refine lv_aload_n hx hb dX9_walk_14 rfl (lv_at hl 0 rfl) ?_
    refine rC_77_5 F hP dX9_walk_15 ?_
    obtain ⟨r2, e2, h⟩ := bsome h
    refine rd_VN F hP k_X3_way mw_922 80 5 rfl (wsW_get 80 (by decide)) (q_X3_way l D Y ad G  r2 e2) rfl hl.1 ⟨Nat.le_of_ble_eq_true rfl, Nat.le_of_ble_eq_true rfl⟩ (rest := []) rfl (Nat.le_of_ble_eq_true rfl) ⟨Nat.le_of_ble_eq_true rfl, Nat.le_of_ble_eq_true rfl⟩ dX9_walk_18 (fun o2 => ?_)
    exact rd_end F hr hk rfl h dX9_walk_21
  · have h := ifF h c1
    refine lv_aload_n hx hb dX9_walk_4 rfl (lv_at hl 0 rfl) ?_
    refine rC_77_5 F hP dX9_walk_5 ?_
    obtain ⟨r3, e3, h⟩ := bsome h
    refine rd_VN F hP k_X3_wayBySteps mw_935 80 5 rfl (wsW_get 80 (by decide)) (q_X3_wayBySteps l D Y ad G  r3 e3) rfl hl.1 ⟨Nat.le_of_ble_eq_true rfl, Nat.le_of_ble_eq_true rfl⟩ (rest := []) rfl (Nat.le_of_ble_eq_true rfl) ⟨Nat.le_of_ble_eq_true rfl, Nat.le_of_ble_eq_true rfl⟩ dX9_walk_8 (fun o3 => ?_)
    refine lv_goto (tgt := 21) hx hb dX9_walk_11 (by decide) ?_
    exact rd_end F hr hk rfl h dX9_walk_21
def f_X9_goes (G : Nat → Nat → Int32) (a1 : Int32) : Option Int32 := ((f_X3_moves G a1).bind fun r1 => some r1)
set_option maxRecDepth 100000 in
set_option maxHeartbeats 4000000 in
theorem q_X9_goes (l : Launch) (D : va_G) (Y : Nat → ClassId) (ad : Nat → Nat) (G : Nat → Nat → Int32) (a1 : Int32) (r : Int32) (h : f_X9_goes G a1 = some r) : RD l yX9_goes cX9_goes 2 (some .int) 5 D Y (wsC Y ad G) [.ref (ad 77), .int a1] r := by
  refine RD_of (by decide) (Nat.le_of_ble_eq_true rfl) (lv := [(0, .ref (ad 77)), (1, .int a1)]) rfl ?_
  intro p e s m below meth c ls F hP hr hk hl
  have F : Fx p c cX9_goes 2 s m _ RX9 D Y := F
  have hx := F.1.1
  have hb := F.1.2.1
  refine lv_aload_n hx hb dX9_goes_0 rfl (lv_at hl 0 rfl) ?_
  refine rC_77_5 F hP dX9_goes_1 ?_
  refine lv_iload_n hx hb dX9_goes_4 rfl (lv_at hl 1 rfl) ?_
  obtain ⟨r1, e1, h⟩ := bsome h
  refine rd_VN F hP k_X3_moves mw_962 80 5 rfl (wsW_get 80 (by decide)) (q_X3_moves l D Y ad G a1 r1 e1) rfl hl.1 ⟨Nat.le_of_ble_eq_true rfl, Nat.le_of_ble_eq_true rfl⟩ (rest := []) rfl (Nat.le_of_ble_eq_true rfl) ⟨Nat.le_of_ble_eq_true rfl, Nat.le_of_ble_eq_true rfl⟩ dX9_goes_5 (fun o1 => ?_)
  exact rd_end F hr hk rfl h dX9_goes_8
def f_X9_span (G : Nat → Nat → Int32) : Option Int32 := ((f_X3_width G ).bind fun r1 => some r1)
set_option maxRecDepth 100000 in
set_option maxHeartbeats 4000000 in
theorem q_X9_span (l : Launch) (D : va_G) (Y : Nat → ClassId) (ad : Nat → Nat) (G : Nat → Nat → Int32) (r : Int32) (h : f_X9_span G  = some r) : RD l yX9_span cX9_span 1 (some .int) 4 D Y (wsC Y ad G) [.ref (ad 77)] r := by
  refine RD_of (by decide) (Nat.le_of_ble_eq_true rfl) (lv := [(0, .ref (ad 77))]) rfl ?_
  intro p e s m below meth c ls F hP hr hk hl
  have F : Fx p c cX9_span 1 s m _ RX9 D Y := F
  have hx := F.1.1
  have hb := F.1.2.1
  refine lv_aload_n hx hb dX9_span_0 rfl (lv_at hl 0 rfl) ?_
  refine rC_77_5 F hP dX9_span_1 ?_
  obtain ⟨r1, e1, h⟩ := bsome h
  refine rd_VN F hP k_X3_width mw_970 80 5 rfl (wsW_get 80 (by decide)) (q_X3_width l D Y ad G  r1 e1) rfl hl.1 ⟨Nat.le_of_ble_eq_true rfl, Nat.le_of_ble_eq_true rfl⟩ (rest := []) rfl (Nat.le_of_ble_eq_true rfl) ⟨Nat.le_of_ble_eq_true rfl, Nat.le_of_ble_eq_true rfl⟩ dX9_span_4 (fun o1 => ?_)
  exact rd_end F hr hk rfl h dX9_span_7
def f_X9_isClean (G : Nat → Nat → Int32) : Option Int32 := ((f_X6_countAll G ).bind fun r1 => (if r1 = 0 then some (1 : Int32) else some (0 : Int32)))
set_option maxRecDepth 100000 in
set_option maxHeartbeats 4000000 in
theorem q_X9_isClean (l : Launch) (D : va_G) (Y : Nat → ClassId) (ad : Nat → Nat) (G : Nat → Nat → Int32) (r : Int32) (h : f_X9_isClean G  = some r) : RD l yX9_isClean cX9_isClean 1 (some .boolean) 7 D Y (wsC Y ad G) [.ref (ad 77)] r := by
  refine RD_of (by decide) (Nat.le_of_ble_eq_true rfl) (lv := [(0, .ref (ad 77))]) rfl ?_
  intro p e s m below meth c ls F hP hr hk hl
  have F : Fx p c cX9_isClean 1 s m _ RX9 D Y := F
  have hx := F.1.1
  have hb := F.1.2.1
  refine lv_aload_n hx hb dX9_isClean_0 rfl (lv_at hl 0 rfl) ?_
  refine rC_77_4 F hP dX9_isClean_1 ?_
  obtain ⟨r1, e1, h⟩ := bsome h
  refine rd_VN F hP k_X6_countAll mw_912 79 7 rfl (wsW_get 79 (by decide)) (q_X6_countAll l D Y ad G  r1 e1) rfl hl.1 ⟨Nat.le_of_ble_eq_true rfl, Nat.le_of_ble_eq_true rfl⟩ (rest := []) rfl (Nat.le_of_ble_eq_true rfl) ⟨Nat.le_of_ble_eq_true rfl, Nat.le_of_ble_eq_true rfl⟩ dX9_isClean_4 (fun o1 => ?_)
  refine lv_if_ne (tgt := 14) hx hb dX9_isClean_7 (by decide) (fun c2 => ?_) (fun c2 => ?_)
  · have h := ifF h c2
    refine lv_iconst (v := 0) hx hb dX9_isClean_14 (by decide) ?_
    exact rd_end F hr hk rfl h dX9_isClean_15
  · have h := ifT h c2
    refine lv_iconst (v := 1) hx hb dX9_isClean_10 (by decide) ?_
    refine lv_goto (tgt := 15) hx hb dX9_isClean_11 (by decide) ?_
    exact rd_end F hr hk rfl h dX9_isClean_15
def f_X9_isWell (G : Nat → Nat → Int32) : Option Int32 := ((f_X6_isToldAlike G ).bind fun r1 => (if r1 = 0 then some (0 : Int32) else ((f_X3_way G ).bind fun r3 => ((f_X3_wayBySteps G ).bind fun r4 => (if r3 = r4 then ((f_X5_arePartsWhole G ).bind fun r6 => (if r6 = 0 then some (0 : Int32) else ((f_X5_areBarsInBounds G ).bind fun r8 => (if r8 = 0 then some (0 : Int32) else some (1 : Int32))))) else some (0 : Int32))))))
set_option maxRecDepth 100000 in
set_option maxHeartbeats 4000000 in
theorem q_X9_isWell (l : Launch) (D : va_G) (Y : Nat → ClassId) (ad : Nat → Nat) (G : Nat → Nat → Int32) (r : Int32) (h : f_X9_isWell G  = some r) : RD l yX9_isWell cX9_isWell 1 (some .boolean) 7 D Y (wsC Y ad G) [.ref (ad 77)] r := by
  refine RD_of (by decide) (Nat.le_of_ble_eq_true rfl) (lv := [(0, .ref (ad 77))]) rfl ?_
  intro p e s m below meth c ls F hP hr hk hl
  have F : Fx p c cX9_isWell 1 s m _ RX9 D Y := F
  have hx := F.1.1
  have hb := F.1.2.1
  refine lv_aload_n hx hb dX9_isWell_0 rfl (lv_at hl 0 rfl) ?_
  refine rC_77_4 F hP dX9_isWell_1 ?_
  obtain ⟨r1, e1, h⟩ := bsome h
  refine rd_VN F hP k_X6_isToldAlike mw_917 79 7 rfl (wsW_get 79 (by decide)) (q_X6_isToldAlike l D Y ad G  r1 e1) rfl hl.1 ⟨Nat.le_of_ble_eq_true rfl, Nat.le_of_ble_eq_true rfl⟩ (rest := []) rfl (Nat.le_of_ble_eq_true rfl) ⟨Nat.le_of_ble_eq_true rfl, Nat.le_of_ble_eq_true rfl⟩ dX9_isWell_4 (fun o1 => ?_)
  refine lv_if_eq (tgt := 51) hx hb dX9_isWell_7 (by decide) (fun c2 => ?_) (fun c2 => ?_)
  · have h := ifT h c2
    refine lv_iconst (v := 0) hx hb dX9_isWell_51 (by decide) ?_
    exact rd_end F hr hk rfl h dX9_isWell_52
  · have h := ifF h c2
    refine lv_aload_n hx hb dX9_isWell_10 rfl (lv_at hl 0 rfl) ?_
    refine rC_77_5 F hP dX9_isWell_11 ?_
    obtain ⟨r3, e3, h⟩ := bsome h
    refine rd_VN F hP k_X3_way mw_922 80 5 rfl (wsW_get 80 (by decide)) (q_X3_way l D Y ad G  r3 e3) rfl hl.1 ⟨Nat.le_of_ble_eq_true rfl, Nat.le_of_ble_eq_true rfl⟩ (rest := []) rfl (Nat.le_of_ble_eq_true rfl) ⟨Nat.le_of_ble_eq_true rfl, Nat.le_of_ble_eq_true rfl⟩ dX9_isWell_14 (fun o3 => ?_)
    refine lv_aload_n hx hb dX9_isWell_17 rfl (lv_at hl 0 rfl) ?_
    refine rC_77_5 F hP dX9_isWell_18 ?_
    obtain ⟨r4, e4, h⟩ := bsome h
    refine rd_VN F hP k_X3_wayBySteps mw_935 80 5 rfl (wsW_get 80 (by decide)) (q_X3_wayBySteps l D Y ad G  r4 e4) rfl hl.1 ⟨Nat.le_of_ble_eq_true rfl, Nat.le_of_ble_eq_true rfl⟩ (rest := [.int r3]) rfl (Nat.le_of_ble_eq_true rfl) ⟨Nat.le_of_ble_eq_true rfl, Nat.le_of_ble_eq_true rfl⟩ dX9_isWell_21 (fun o4 => ?_)
    refine lv_icmp_ne (tgt := 51) hx hb dX9_isWell_24 (by decide) (fun c5 => ?_) (fun c5 => ?_)
    · have h := ifF h c5
      refine lv_iconst (v := 0) hx hb dX9_isWell_51 (by decide) ?_
      exact rd_end F hr hk rfl h dX9_isWell_52
    · have h := ifT h c5
      refine lv_aload_n hx hb dX9_isWell_27 rfl (lv_at hl 0 rfl) ?_
      refine rC_77_0 F hP dX9_isWell_28 ?_
      obtain ⟨r6, e6, h⟩ := bsome h
      refine rd_VN F hP k_X5_arePartsWhole mw_943 0 6 rfl (wsW_get 0 (by decide)) (q_X5_arePartsWhole l D Y ad G  r6 e6) rfl hl.1 ⟨Nat.le_of_ble_eq_true rfl, Nat.le_of_ble_eq_true rfl⟩ (rest := []) rfl (Nat.le_of_ble_eq_true rfl) ⟨Nat.le_of_ble_eq_true rfl, Nat.le_of_ble_eq_true rfl⟩ dX9_isWell_31 (fun o6 => ?_)
      refine lv_if_eq (tgt := 51) hx hb dX9_isWell_34 (by decide) (fun c7 => ?_) (fun c7 => ?_)
      · have h := ifT h c7
        refine lv_iconst (v := 0) hx hb dX9_isWell_51 (by decide) ?_
        exact rd_end F hr hk rfl h dX9_isWell_52
      · have h := ifF h c7
        refine lv_aload_n hx hb dX9_isWell_37 rfl (lv_at hl 0 rfl) ?_
        refine rC_77_0 F hP dX9_isWell_38 ?_
        obtain ⟨r8, e8, h⟩ := bsome h
        refine rd_VN F hP k_X5_areBarsInBounds mw_947 0 6 rfl (wsW_get 0 (by decide)) (q_X5_areBarsInBounds l D Y ad G  r8 e8) rfl hl.1 ⟨Nat.le_of_ble_eq_true rfl, Nat.le_of_ble_eq_true rfl⟩ (rest := []) rfl (Nat.le_of_ble_eq_true rfl) ⟨Nat.le_of_ble_eq_true rfl, Nat.le_of_ble_eq_true rfl⟩ dX9_isWell_41 (fun o8 => ?_)
        refine lv_if_eq (tgt := 51) hx hb dX9_isWell_44 (by decide) (fun c9 => ?_) (fun c9 => ?_)
        · have h := ifT h c9
          refine lv_iconst (v := 0) hx hb dX9_isWell_51 (by decide) ?_
          exact rd_end F hr hk rfl h dX9_isWell_52
        · have h := ifF h c9
          refine lv_iconst (v := 1) hx hb dX9_isWell_47 (by decide) ?_
          refine lv_goto (tgt := 52) hx hb dX9_isWell_48 (by decide) ?_
          exact rd_end F hr hk rfl h dX9_isWell_52
def f_X9_carryOutText_2 (n : Nat) (G : GT) (y1 : Int32) : Option (Int32 × GT) := lq2 (fun (k2 : GT → Int32 → Option (Int32 × GT)) (G : GT) (x1 : Int32) => ((f_X8_countOfOrders G ).bind fun r1 => (if r1 ≤ x1 then some ((0 : Int32), G) else (bind2 (f_X8_orderAt G x1) fun r3 G3 => (ncase r3 (((f_X8_numberAt G3 x1 (0 : Int32)).bind fun r6 => ((f_X8_numberAt G3 x1 (1 : Int32)).bind fun r7 => ((f_X8_numberAt G3 x1 (2 : Int32)).bind fun r8 => none)))) fun k4 => (if k4 < 8 then ((f_X8_numberAt G3 x1 (0 : Int32)).bind fun r9 => ((f_X8_numberAt G3 x1 (1 : Int32)).bind fun r10 => ((f_X8_numberAt G3 x1 (2 : Int32)).bind fun r11 => (bind2 (f_X1_verdict G3 k4 r9 r10 r11) fun r12 G12 => (if r12 = 0 then (bind2 (f_X1_carryOut G12 k4 r9 r10 r11) fun r14 G14 => k2 G14 (x1 + 1)) else some (r12, G12)))))) else none)))))) n G y1
def f_X9_carryOutText (G : GT) : Option (Int32 × GT) := f_X9_carryOutText_2 4096 G (0 : Int32)
set_option maxRecDepth 100000 in
set_option maxHeartbeats 4000000 in
theorem q_X9_carryOutText (l : Launch) (D : va_G) (Y : Nat → ClassId) (ad : Nat → Nat) (hI : Inj 90 ad) (G : GT) (r : Int32) (G' : GT) (h : f_X9_carryOutText G  = some (r, G')) : WKi l yX9_carryOutText cX9_carryOutText 7 (some .int) 5 D Y 90 ad (kC Y ad) ad G [.ref (ad 77)] r G' := by
  refine RK_of (ret := (some .int)) (by decide) (Nat.le_of_ble_eq_true rfl) (lv := [(0, .ref (ad 77))]) rfl ?_
  intro p e s m below meth c ls F hP hK hS hr hk hl
  have F : Fx p c cX9_carryOutText 7 s m _ RX9 D Y := F
  have hx := F.1.1
  have hb := F.1.2.1
  have hts := F.1.2.2.2.2
  have hown := F.1.2.2.2.1
  have key2 : ∀ (n : Nat) (G : GT) (x1 : Int32) (H : Heap) (locs : List Loc), va_P D vwCl (wsC Y ad G) H → va_S (AW 90 ad) s.heap H locs → ∀ ls : Array Slot, lv_has ls 7 [(0, .ref (ad 77)), (1, .int x1)] → f_X9_carryOutText_2   n G x1 = some (r, G') → WW p l e 5 s m ([.ref (ad 77)] : List Value).toArray below meth c H locs (WQi (some .int) r D (wsC Y ad G') (AW 90 ad)) (AW 90 ad) (F0 m 2 ls []) := by
    intro  n
    induction n with
    | zero => intro G x1 H locs hP hS ls hl h; exact lqZ2 h
    | succ n2 ih2 =>
      intro G x1 H locs hP hS ls hl h
      have h := lqS2 h
      refine lv_iload_n hx hb dX9_carryOutText_2 rfl (lv_at hl 1 rfl) ?_
      refine lv_aload_n hx hb dX9_carryOutText_3 rfl (lv_at hl 0 rfl) ?_
      refine rC_77_8 F hP dX9_carryOutText_4 ?_
      obtain ⟨r1, e1, h⟩ := bsome h
      refine rd_VN F hP k_X8_countOfOrders mw_1537 84 9 rfl (wsW_get 84 (by decide)) (q_X8_countOfOrders l D Y ad G  r1 e1) rfl hl.1 ⟨Nat.le_of_ble_eq_true rfl, Nat.le_of_ble_eq_true rfl⟩ (rest := [.int x1]) rfl (Nat.le_of_ble_eq_true rfl) ⟨Nat.le_of_ble_eq_true rfl, Nat.le_of_ble_eq_true rfl⟩ dX9_carryOutText_7 (fun o1 => ?_)
      refine lv_icmp_ge (tgt := 97) hx hb dX9_carryOutText_10 (by decide) (fun c2 => ?_) (fun c2 => ?_)
      · have h := ifT h c2
        refine lv_iconst (v := 0) hx hb dX9_carryOutText_97 (by decide) ?_
        exact wr_end F hP hS hr hk rfl h dX9_carryOutText_98
      · have h := ifF h c2
        refine lv_aload_n hx hb dX9_carryOutText_13 rfl (lv_at hl 0 rfl) ?_
        refine rC_77_8 F hP dX9_carryOutText_14 ?_
        refine lv_iload_n hx hb dX9_carryOutText_17 rfl (lv_at hl 1 rfl) ?_
        obtain ⟨r3, G3, e3, h⟩ := bsome2 h
        refine wkq_VN F hP hK hS (fun _ h => h) k_X8_orderAt mw_1541 84 9 rfl (wsW_get 84 (by decide)) (q_X8_orderAt l D Y ad hI G x1  r3 G3 e3) rfl hl.1 ⟨Nat.le_of_ble_eq_true rfl, Nat.le_of_ble_eq_true rfl⟩ (rest := []) rfl (Nat.le_of_ble_eq_true rfl) ⟨Nat.le_of_ble_eq_true rfl, Nat.le_of_ble_eq_true rfl⟩ dX9_carryOutText_18 (fun H locs hP hS => ?_)
        rcases r3 with _ | k4
        · have h := nc0 h
          refine lv_astore_nN (lv' := [(2, .null), (0, .ref (ad 77)), (1, .int x1)]) hx hb dX9_carryOutText_21 rfl hl (by decide) rfl (fun ls hl => ?_)
          refine lv_aload_n hx hb dX9_carryOutText_22 rfl (lv_at hl 1 rfl) ?_
          refine rC_77_8 F hP dX9_carryOutText_23 ?_
          refine lv_iload_n hx hb dX9_carryOutText_26 rfl (lv_at hl 2 rfl) ?_
          refine lv_iconst (v := 0) hx hb dX9_carryOutText_27 (by decide) ?_
          obtain ⟨r6, e6, h⟩ := bsome h
          refine rd_VN F hP k_X8_numberAt mw_1545 84 9 rfl (wsW_get 84 (by decide)) (q_X8_numberAt l D Y ad G3 x1 (0 : Int32) r6 e6) rfl hl.1 ⟨Nat.le_of_ble_eq_true rfl, Nat.le_of_ble_eq_true rfl⟩ (rest := []) rfl (Nat.le_of_ble_eq_true rfl) ⟨Nat.le_of_ble_eq_true rfl, Nat.le_of_ble_eq_true rfl⟩ dX9_carryOutText_28 (fun o6 => ?_)
          refine lv_istore_n (lv' := [(3, .int r6), (2, .null), (0, .ref (ad 77)), (1, .int x1)]) hx hb dX9_carryOutText_31 rfl hl (by decide) rfl (fun ls hl => ?_)
          refine lv_aload_n hx hb dX9_carryOutText_32 rfl (lv_at hl 2 rfl) ?_
          refine rC_77_8 F hP dX9_carryOutText_33 ?_
          refine lv_iload_n hx hb dX9_carryOutText_36 rfl (lv_at hl 3 rfl) ?_
          refine lv_iconst (v := 1) hx hb dX9_carryOutText_37 (by decide) ?_
          obtain ⟨r7, e7, h⟩ := bsome h
          refine rd_VN F hP k_X8_numberAt mw_1545 84 9 rfl (wsW_get 84 (by decide)) (q_X8_numberAt l D Y ad G3 x1 (1 : Int32) r7 e7) rfl hl.1 ⟨Nat.le_of_ble_eq_true rfl, Nat.le_of_ble_eq_true rfl⟩ (rest := []) rfl (Nat.le_of_ble_eq_true rfl) ⟨Nat.le_of_ble_eq_true rfl, Nat.le_of_ble_eq_true rfl⟩ dX9_carryOutText_38 (fun o7 => ?_)
          refine lv_istore (lv' := [(4, .int r7), (3, .int r6), (2, .null), (0, .ref (ad 77)), (1, .int x1)]) hx hb dX9_carryOutText_41 hl (by decide) rfl (fun ls hl => ?_)
          refine lv_aload_n hx hb dX9_carryOutText_43 rfl (lv_at hl 3 rfl) ?_
          refine rC_77_8 F hP dX9_carryOutText_44 ?_
          refine lv_iload_n hx hb dX9_carryOutText_47 rfl (lv_at hl 4 rfl) ?_
          refine lv_iconst (v := 2) hx hb dX9_carryOutText_48 (by decide) ?_
          obtain ⟨r8, e8, h⟩ := bsome h
          refine rd_VN F hP k_X8_numberAt mw_1545 84 9 rfl (wsW_get 84 (by decide)) (q_X8_numberAt l D Y ad G3 x1 (2 : Int32) r8 e8) rfl hl.1 ⟨Nat.le_of_ble_eq_true rfl, Nat.le_of_ble_eq_true rfl⟩ (rest := []) rfl (Nat.le_of_ble_eq_true rfl) ⟨Nat.le_of_ble_eq_true rfl, Nat.le_of_ble_eq_true rfl⟩ dX9_carryOutText_49 (fun o8 => ?_)
          refine lv_istore (lv' := [(5, .int r8), (4, .int r7), (3, .int r6), (2, .null), (0, .ref (ad 77)), (1, .int x1)]) hx hb dX9_carryOutText_52 hl (by decide) rfl (fun ls hl => ?_)
          refine lv_aload_n hx hb dX9_carryOutText_54 rfl (lv_at hl 4 rfl) ?_
          refine rC_77_3 F hP dX9_carryOutText_55 ?_
          refine lv_aload_nN hx hb dX9_carryOutText_58 rfl (lv_at hl 3 rfl) ?_
          refine lv_iload_n hx hb dX9_carryOutText_59 rfl (lv_at hl 2 rfl) ?_
          refine lv_iload hx hb dX9_carryOutText_60 (lv_at hl 1 rfl) ?_
          refine lv_iload hx hb dX9_carryOutText_62 (lv_at hl 0 rfl) ?_
          exact nomatch h
        · have h := ncS h
          obtain ⟨b5, h⟩ := ckS h
          refine lv_astore_n (lv' := [(2, .ref (ad (100 + k4))), (0, .ref (ad 77)), (1, .int x1)]) hx hb dX9_carryOutText_21 rfl hl (by decide) rfl (fun ls hl => ?_)
          refine lv_aload_n hx hb dX9_carryOutText_22 rfl (lv_at hl 1 rfl) ?_
          refine rC_77_8 F hP dX9_carryOutText_23 ?_
          refine lv_iload_n hx hb dX9_carryOutText_26 rfl (lv_at hl 2 rfl) ?_
          refine lv_iconst (v := 0) hx hb dX9_carryOutText_27 (by decide) ?_
          obtain ⟨r9, e9, h⟩ := bsome h
          refine rd_VN F hP k_X8_numberAt mw_1545 84 9 rfl (wsW_get 84 (by decide)) (q_X8_numberAt l D Y ad G3 x1 (0 : Int32) r9 e9) rfl hl.1 ⟨Nat.le_of_ble_eq_true rfl, Nat.le_of_ble_eq_true rfl⟩ (rest := []) rfl (Nat.le_of_ble_eq_true rfl) ⟨Nat.le_of_ble_eq_true rfl, Nat.le_of_ble_eq_true rfl⟩ dX9_carryOutText_28 (fun o9 => ?_)
          refine lv_istore_n (lv' := [(3, .int r9), (2, .ref (ad (100 + k4))), (0, .ref (ad 77)), (1, .int x1)]) hx hb dX9_carryOutText_31 rfl hl (by decide) rfl (fun ls hl => ?_)
          refine lv_aload_n hx hb dX9_carryOutText_32 rfl (lv_at hl 2 rfl) ?_
          refine rC_77_8 F hP dX9_carryOutText_33 ?_
          refine lv_iload_n hx hb dX9_carryOutText_36 rfl (lv_at hl 3 rfl) ?_
          refine lv_iconst (v := 1) hx hb dX9_carryOutText_37 (by decide) ?_
          obtain ⟨r10, e10, h⟩ := bsome h
          refine rd_VN F hP k_X8_numberAt mw_1545 84 9 rfl (wsW_get 84 (by decide)) (q_X8_numberAt l D Y ad G3 x1 (1 : Int32) r10 e10) rfl hl.1 ⟨Nat.le_of_ble_eq_true rfl, Nat.le_of_ble_eq_true rfl⟩ (rest := []) rfl (Nat.le_of_ble_eq_true rfl) ⟨Nat.le_of_ble_eq_true rfl, Nat.le_of_ble_eq_true rfl⟩ dX9_carryOutText_38 (fun o10 => ?_)
          refine lv_istore (lv' := [(4, .int r10), (3, .int r9), (2, .ref (ad (100 + k4))), (0, .ref (ad 77)), (1, .int x1)]) hx hb dX9_carryOutText_41 hl (by decide) rfl (fun ls hl => ?_)
          refine lv_aload_n hx hb dX9_carryOutText_43 rfl (lv_at hl 3 rfl) ?_
          refine rC_77_8 F hP dX9_carryOutText_44 ?_
          refine lv_iload_n hx hb dX9_carryOutText_47 rfl (lv_at hl 4 rfl) ?_
          refine lv_iconst (v := 2) hx hb dX9_carryOutText_48 (by decide) ?_
          obtain ⟨r11, e11, h⟩ := bsome h
          refine rd_VN F hP k_X8_numberAt mw_1545 84 9 rfl (wsW_get 84 (by decide)) (q_X8_numberAt l D Y ad G3 x1 (2 : Int32) r11 e11) rfl hl.1 ⟨Nat.le_of_ble_eq_true rfl, Nat.le_of_ble_eq_true rfl⟩ (rest := []) rfl (Nat.le_of_ble_eq_true rfl) ⟨Nat.le_of_ble_eq_true rfl, Nat.le_of_ble_eq_true rfl⟩ dX9_carryOutText_49 (fun o11 => ?_)
          refine lv_istore (lv' := [(5, .int r11), (4, .int r10), (3, .int r9), (2, .ref (ad (100 + k4))), (0, .ref (ad 77)), (1, .int x1)]) hx hb dX9_carryOutText_52 hl (by decide) rfl (fun ls hl => ?_)
          refine lv_aload_n hx hb dX9_carryOutText_54 rfl (lv_at hl 4 rfl) ?_
          refine rC_77_3 F hP dX9_carryOutText_55 ?_
          refine lv_aload_n hx hb dX9_carryOutText_58 rfl (lv_at hl 3 rfl) ?_
          refine lv_iload_n hx hb dX9_carryOutText_59 rfl (lv_at hl 2 rfl) ?_
          refine lv_iload hx hb dX9_carryOutText_60 (lv_at hl 1 rfl) ?_
          refine lv_iload hx hb dX9_carryOutText_62 (lv_at hl 0 rfl) ?_
          obtain ⟨r12, G12, e12, h⟩ := bsome2 h
          refine wk_VN F hP hK hS (fun _ h => h) k_X1_verdict mw_251 78 3 rfl (wsW_get 78 (by decide)) (q_X1_verdict l D Y ad hI G3 k4 r9 r10 r11 b5 r12 G12 e12) rfl hl.1 ⟨Nat.le_of_ble_eq_true rfl, Nat.le_of_ble_eq_true rfl⟩ (rest := []) rfl (Nat.le_of_ble_eq_true rfl) ⟨Nat.le_of_ble_eq_true rfl, Nat.le_of_ble_eq_true rfl⟩ dX9_carryOutText_64 (fun H locs o12 hP hS => ?_)
          refine lv_istore (lv' := [(6, .int r12), (5, .int r11), (4, .int r10), (3, .int r9), (2, .ref (ad (100 + k4))), (0, .ref (ad 77)), (1, .int x1)]) hx hb dX9_carryOutText_67 hl (by decide) rfl (fun ls hl => ?_)
          refine lv_iload hx hb dX9_carryOutText_69 (lv_at hl 0 rfl) ?_
          refine lv_if_eq (tgt := 77) hx hb dX9_carryOutText_71 (by decide) (fun c13 => ?_) (fun c13 => ?_)
          · have h := ifT h c13
            refine lv_aload_n hx hb dX9_carryOutText_77 rfl (lv_at hl 5 rfl) ?_
            refine rC_77_3 F hP dX9_carryOutText_78 ?_
            refine lv_aload_n hx hb dX9_carryOutText_81 rfl (lv_at hl 4 rfl) ?_
            refine lv_iload_n hx hb dX9_carryOutText_82 rfl (lv_at hl 3 rfl) ?_
            refine lv_iload hx hb dX9_carryOutText_83 (lv_at hl 2 rfl) ?_
            refine lv_iload hx hb dX9_carryOutText_85 (lv_at hl 1 rfl) ?_
            obtain ⟨r14, G14, e14, h⟩ := bsome2 h
            refine wk_VN F hP hK hS (fun _ h => h) k_X1_carryOut mw_496 78 3 rfl (wsW_get 78 (by decide)) (q_X1_carryOut l D Y ad hI G12 k4 r9 r10 r11 b5 r14 G14 e14) rfl hl.1 ⟨Nat.le_of_ble_eq_true rfl, Nat.le_of_ble_eq_true rfl⟩ (rest := []) rfl (Nat.le_of_ble_eq_true rfl) ⟨Nat.le_of_ble_eq_true rfl, Nat.le_of_ble_eq_true rfl⟩ dX9_carryOutText_87 (fun H locs o14 hP hS => ?_)
            refine lv_pop hx hb dX9_carryOutText_90 rfl ?_
            refine lv_iinc (v := (x1 + 1)) (lv' := [(1, .int ((x1 + 1))), (6, .int r12), (5, .int r11), (4, .int r10), (3, .int r9), (2, .ref (ad (100 + k4))), (0, .ref (ad 77))]) hx hb dX9_carryOutText_91 hl (k := 6) rfl rfl (by decide) rfl (fun ls hl => ?_)
            refine lv_goto (tgt := 2) hx hb dX9_carryOutText_94 (by decide) ?_
            exact ih2 G14 (x1 + 1) _ _ hP hS ls (lv_sub hl [6, 0] rfl) h
          · have h := ifF h c13
            refine lv_iload hx hb dX9_carryOutText_74 (lv_at hl 0 rfl) ?_
            exact wr_end F hP hS hr hk rfl h dX9_carryOutText_76
  refine lv_iconst (v := 0) hx hb dX9_carryOutText_0 (by decide) ?_
  refine lv_istore_n (lv' := [(1, .int ((0 : Int32))), (0, .ref (ad 77))]) hx hb dX9_carryOutText_1 rfl hl (by decide) rfl (fun ls hl => ?_)
  exact key2 4096 G (0 : Int32) _ _ hP hS ls (lv_sub hl [1, 0] rfl) h
