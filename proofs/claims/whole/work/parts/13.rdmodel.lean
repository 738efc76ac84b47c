def f_X10_in (G : Nat → Nat → Int32) (a0 : Int32) (a1 : Int32) (a2 : Int32) : Option Int32 := (if a0 < a1 then some (0 : Int32) else (if a2 < a0 then some (0 : Int32) else some (1 : Int32)))
set_option maxRecDepth 100000 in
set_option maxHeartbeats 4000000 in
theorem q_X10_in (l : Launch) (D : va_G) (Y : Nat → ClassId) (ad : Nat → Nat) (G : Nat → Nat → Int32) (a0 : Int32) (a1 : Int32) (a2 : Int32) (r : Int32) (h : f_X10_in G a0 a1 a2 = some r) : RD l yX10_in cX10_in 3 (some .boolean) 0 D Y (wsM Y ad G) [.int a0, .int a1, .int a2] r := by
  refine RD_of (by decide) (Nat.le_of_ble_eq_true rfl) (lv := [(0, .int a0), (1, .int a1), (2, .int a2)]) rfl ?_
  intro p e s m below meth c ls F hP hr hk hl
  have F : Fx p c cX10_in 3 s m _ RX10 D Y := F
  have hx := F.1.1
  have hb := F.1.2.1
  refine lv_iload_n hx hb dX10_in_0 rfl (lv_at hl 0 rfl) ?_
  refine lv_iload_n hx hb dX10_in_1 rfl (lv_at hl 1 rfl) ?_
  refine lv_icmp_lt (tgt := 14) hx hb dX10_in_2 (by decide) (fun c1 => ?_) (fun c1 => ?_)
  · have h := ifT h c1
    refine lv_iconst (v := 0) hx hb dX10_in_14 (by decide) ?_
    exact rd_end F hr hk rfl h dX10_in_15
  · have h := ifF h c1
    refine lv_iload_n hx hb dX10_in_5 rfl (lv_at hl 0 rfl) ?_
    refine lv_iload_n hx hb dX10_in_6 rfl (lv_at hl 2 rfl) ?_
    refine lv_icmp_gt (tgt := 14) hx hb dX10_in_7 (by decide) (fun c2 => ?_) (fun c2 => ?_)
    · have h := ifT h c2
      refine lv_iconst (v := 0) hx hb dX10_in_14 (by decide) ?_
      exact rd_end F hr hk rfl h dX10_in_15
    · have h := ifF h c2
      refine lv_iconst (v := 1) hx hb dX10_in_10 (by decide) ?_
      refine lv_goto (tgt := 15) hx hb dX10_in_11 (by decide) ?_
      exact rd_end F hr hk rfl h dX10_in_15
def f_X10_isBar (G : Nat → Nat → Int32) (a1 : Int32) : Option Int32 := ((f_X10_in G a1 (0 : Int32) ((G 1 0) - (1 : Int32))).bind fun r1 => some r1)
set_option maxRecDepth 100000 in
set_option maxHeartbeats 4000000 in
theorem q_X10_isBar (l : Launch) (D : va_G) (Y : Nat → ClassId) (ad : Nat → Nat) (G : Nat → Nat → Int32) (a1 : Int32) (r : Int32) (h : f_X10_isBar G a1 = some r) : RD l yX10_isBar cX10_isBar 2 (some .boolean) 1 D Y (wsM Y ad G) [.ref (ad 0), .int a1] r := by
  refine RD_of (by decide) (Nat.le_of_ble_eq_true rfl) (lv := [(0, .ref (ad 0)), (1, .int a1)]) rfl ?_
  intro p e s m below meth c ls F hP hr hk hl
  have F : Fx p c cX10_isBar 2 s m _ RX10 D Y := F
  have hx := F.1.1
  have hb := F.1.2.1
  refine lv_iload_n hx hb dX10_isBar_0 rfl (lv_at hl 1 rfl) ?_
  refine lv_iconst (v := 0) hx hb dX10_isBar_1 (by decide) ?_
  refine lv_aload_n hx hb dX10_isBar_2 rfl (lv_at hl 0 rfl) ?_
  refine rM_0_0 F hP dX10_isBar_3 ?_
  refine lv_iconst (v := 0) hx hb dX10_isBar_6 (by decide) ?_
  refine alk F hP 1 (wsW_get 1 (by decide)) (k := 0) (by decide) (inbV (by decide) (by decide)) dX10_isBar_7 ?_
  refine lv_iconst (v := 1) hx hb dX10_isBar_8 (by decide) ?_
  refine lv_isub hx hb dX10_isBar_9 ?_
  obtain ⟨r1, e1, h⟩ := bsome h
  refine rd_S F hP k_X10_in mw_1379 (q_X10_in l D Y ad G a1 (0 : Int32) ((G 1 0) - (1 : Int32)) r1 e1) rfl hl.1 ⟨Nat.le_of_ble_eq_true rfl, Nat.le_of_ble_eq_true rfl⟩ (rest := []) rfl (Nat.le_of_ble_eq_true rfl) ⟨Nat.le_of_ble_eq_true rfl, Nat.le_of_ble_eq_true rfl⟩ dX10_isBar_10 (fun o1 => ?_)
  exact rd_end F hr hk o1 h dX10_isBar_13
def f_X10_isTin (G : Nat → Nat → Int32) (a0 : Int32) : Option Int32 := ((f_X10_in G a0 (0 : Int32) (3 : Int32)).bind fun r1 => some r1)
set_option maxRecDepth 100000 in
set_option maxHeartbeats 4000000 in
theorem q_X10_isTin (l : Launch) (D : va_G) (Y : Nat → ClassId) (ad : Nat → Nat) (G : Nat → Nat → Int32) (a0 : Int32) (r : Int32) (h : f_X10_isTin G a0 = some r) : RD l yX10_isTin cX10_isTin 1 (some .boolean) 1 D Y (wsM Y ad G) [.int a0] r := by
  refine RD_of (by decide) (Nat.le_of_ble_eq_true rfl) (lv := [(0, .int a0)]) rfl ?_
  intro p e s m below meth c ls F hP hr hk hl
  have F : Fx p c cX10_isTin 1 s m _ RX10 D Y := F
  have hx := F.1.1
  have hb := F.1.2.1
  refine lv_iload_n hx hb dX10_isTin_0 rfl (lv_at hl 0 rfl) ?_
  refine lv_iconst (v := 0) hx hb dX10_isTin_1 (by decide) ?_
  refine lv_iconst (v := 3) hx hb dX10_isTin_2 (by decide) ?_
  obtain ⟨r1, e1, h⟩ := bsome h
  refine rd_S F hP k_X10_in mw_1379 (q_X10_in l D Y ad G a0 (0 : Int32) (3 : Int32) r1 e1) rfl hl.1 ⟨Nat.le_of_ble_eq_true rfl, Nat.le_of_ble_eq_true rfl⟩ (rest := []) rfl (Nat.le_of_ble_eq_true rfl) ⟨Nat.le_of_ble_eq_true rfl, Nat.le_of_ble_eq_true rfl⟩ dX10_isTin_3 (fun o1 => ?_)
  exact rd_end F hr hk o1 h dX10_isTin_6
def f_X10_isSound (G : Nat → Nat → Int32) (a1 : Int32) : Option Int32 := ((f_X10_in G a1 (0 : Int32) ((G 1 1) - (1 : Int32))).bind fun r1 => some r1)
set_option maxRecDepth 100000 in
set_option maxHeartbeats 4000000 in
theorem q_X10_isSound (l : Launch) (D : va_G) (Y : Nat → ClassId) (ad : Nat → Nat) (G : Nat → Nat → Int32) (a1 : Int32) (r : Int32) (h : f_X10_isSound G a1 = some r) : RD l yX10_isSound cX10_isSound 2 (some .boolean) 1 D Y (wsM Y ad G) [.ref (ad 0), .int a1] r := by
  refine RD_of (by decide) (Nat.le_of_ble_eq_true rfl) (lv := [(0, .ref (ad 0)), (1, .int a1)]) rfl ?_
  intro p e s m below meth c ls F hP hr hk hl
  have F : Fx p c cX10_isSound 2 s m _ RX10 D Y := F
  have hx := F.1.1
  have hb := F.1.2.1
  refine lv_iload_n hx hb dX10_isSound_0 rfl (lv_at hl 1 rfl) ?_
  refine lv_iconst (v := 0) hx hb dX10_isSound_1 (by decide) ?_
  refine lv_aload_n hx hb dX10_isSound_2 rfl (lv_at hl 0 rfl) ?_
  refine rM_0_0 F hP dX10_isSound_3 ?_
  refine lv_iconst (v := 1) hx hb dX10_isSound_6 (by decide) ?_
  refine alk F hP 1 (wsW_get 1 (by decide)) (k := 1) (by decide) (inbV (by decide) (by decide)) dX10_isSound_7 ?_
  refine lv_iconst (v := 1) hx hb dX10_isSound_8 (by decide) ?_
  refine lv_isub hx hb dX10_isSound_9 ?_
  obtain ⟨r1, e1, h⟩ := bsome h
  refine rd_S F hP k_X10_in mw_1379 (q_X10_in l D Y ad G a1 (0 : Int32) ((G 1 1) - (1 : Int32)) r1 e1) rfl hl.1 ⟨Nat.le_of_ble_eq_true rfl, Nat.le_of_ble_eq_true rfl⟩ (rest := []) rfl (Nat.le_of_ble_eq_true rfl) ⟨Nat.le_of_ble_eq_true rfl, Nat.le_of_ble_eq_true rfl⟩ dX10_isSound_10 (fun o1 => ?_)
  exact rd_end F hr hk o1 h dX10_isSound_13
def f_X10_of (G : Nat → Nat → Int32) (a1 : Int32) (a2 : Int32) : Option Int32 := (if inb (((19 : Int32) + ((3 : Int32) * a1)) + a2) 67 then some (G 1 (((19 : Int32) + ((3 : Int32) * a1)) + a2).toNatClampNeg) else none)
set_option maxRecDepth 100000 in
set_option maxHeartbeats 4000000 in
theorem q_X10_of (l : Launch) (D : va_G) (Y : Nat → ClassId) (ad : Nat → Nat) (G : Nat → Nat → Int32) (a1 : Int32) (a2 : Int32) (r : Int32) (h : f_X10_of G a1 a2 = some r) : RD l yX10_of cX10_of 3 (some .int) 0 D Y (wsM Y ad G) [.ref (ad 0), .int a1, .int a2] r := by
  refine RD_of (by decide) (Nat.le_of_ble_eq_true rfl) (lv := [(0, .ref (ad 0)), (1, .int a1), (2, .int a2)]) rfl ?_
  intro p e s m below meth c ls F hP hr hk hl
  have F : Fx p c cX10_of 3 s m _ RX10 D Y := F
  have hx := F.1.1
  have hb := F.1.2.1
  refine lv_aload_n hx hb dX10_of_0 rfl (lv_at hl 0 rfl) ?_
  refine rM_0_0 F hP dX10_of_1 ?_
  refine lv_bipush (v := 19) hx hb dX10_of_4 (by decide) ?_
  refine lv_iconst (v := 3) hx hb dX10_of_6 (by decide) ?_
  refine lv_iload_n hx hb dX10_of_7 rfl (lv_at hl 1 rfl) ?_
  refine lv_imul hx hb dX10_of_8 ?_
  refine lv_iadd hx hb dX10_of_9 ?_
  refine lv_iload_n hx hb dX10_of_10 rfl (lv_at hl 2 rfl) ?_
  refine lv_iadd hx hb dX10_of_11 ?_
  obtain ⟨b1, h⟩ := ckS h
  refine al F hP 1 (wsW_get 1 (by decide)) (inbV b1 (by decide)) dX10_of_12 ?_
  exact rd_end F hr hk rfl h dX10_of_13
def f_X10_isDrop (G : Nat → Nat → Int32) (a1 : Int32) : Option Int32 := ((f_X10_of G a1 (1 : Int32)).bind fun r1 => (if r1 < 0 then some (0 : Int32) else some (1 : Int32)))
set_option maxRecDepth 100000 in
set_option maxHeartbeats 4000000 in
theorem q_X10_isDrop (l : Launch) (D : va_G) (Y : Nat → ClassId) (ad : Nat → Nat) (G : Nat → Nat → Int32) (a1 : Int32) (r : Int32) (h : f_X10_isDrop G a1 = some r) : RD l yX10_isDrop cX10_isDrop 2 (some .boolean) 1 D Y (wsM Y ad G) [.ref (ad 0), .int a1] r := by
  refine RD_of (by decide) (Nat.le_of_ble_eq_true rfl) (lv := [(0, .ref (ad 0)), (1, .int a1)]) rfl ?_
  intro p e s m below meth c ls F hP hr hk hl
  have F : Fx p c cX10_isDrop 2 s m _ RX10 D Y := F
  have hx := F.1.1
  have hb := F.1.2.1
  refine lv_aload_n hx hb dX10_isDrop_0 rfl (lv_at hl 0 rfl) ?_
  refine lv_iload_n hx hb dX10_isDrop_1 rfl (lv_at hl 1 rfl) ?_
  refine lv_iconst (v := 1) hx hb dX10_isDrop_2 (by decide) ?_
  obtain ⟨r1, e1, h⟩ := bsome h
  refine rd_V F hP k_X10_of mw_1433 0 11 rfl (wsW_get 0 (by decide)) (q_X10_of l D Y ad G a1 (1 : Int32) r1 e1) rfl hl.1 ⟨Nat.le_of_ble_eq_true rfl, Nat.le_of_ble_eq_true rfl⟩ (rest := []) rfl (Nat.le_of_ble_eq_true rfl) ⟨Nat.le_of_ble_eq_true rfl, Nat.le_of_ble_eq_true rfl⟩ dX10_isDrop_3 (fun o1 => ?_)
  refine lv_if_lt (tgt := 13) hx hb dX10_isDrop_6 (by decide) (fun c2 => ?_) (fun c2 => ?_)
  · have h := ifT h c2
    refine lv_iconst (v := 0) hx hb dX10_isDrop_13 (by decide) ?_
    exact rd_end F hr hk rfl h dX10_isDrop_14
  · have h := ifF h c2
    refine lv_iconst (v := 1) hx hb dX10_isDrop_9 (by decide) ?_
    refine lv_goto (tgt := 14) hx hb dX10_isDrop_10 (by decide) ?_
    exact rd_end F hr hk rfl h dX10_isDrop_14
def f_X10_barBegin_4 (G : Nat → Nat → Int32) (a1 : Int32) (n : Nat) (y2 : Int32) (y3 : Int32) : Option Int32 := lq2 (fun (k4 : Int32 → Int32 → Option Int32) (x2 : Int32) (x3 : Int32) => (if a1 ≤ x3 then some x2 else (if inb ((5 : Int32) + x3) 67 then k4 (x2 + (G 1 ((5 : Int32) + x3).toNatClampNeg)) (x3 + 1) else none))) n y2 y3
def f_X10_barBegin (G : Nat → Nat → Int32) (a1 : Int32) : Option Int32 := f_X10_barBegin_4 G a1 4096 (0 : Int32) (0 : Int32)
set_option maxRecDepth 100000 in
set_option maxHeartbeats 4000000 in
theorem q_X10_barBegin (l : Launch) (D : va_G) (Y : Nat → ClassId) (ad : Nat → Nat) (G : Nat → Nat → Int32) (a1 : Int32) (r : Int32) (h : f_X10_barBegin G a1 = some r) : RD l yX10_barBegin cX10_barBegin 4 (some .int) 0 D Y (wsM Y ad G) [.ref (ad 0), .int a1] r := by
  refine RD_of (by decide) (Nat.le_of_ble_eq_true rfl) (lv := [(0, .ref (ad 0)), (1, .int a1)]) rfl ?_
  intro p e s m below meth c ls F hP hr hk hl
  have F : Fx p c cX10_barBegin 4 s m _ RX10 D Y := F
  have hx := F.1.1
  have hb := F.1.2.1
  have key4 : ∀ (n : Nat) (x2 : Int32) (x3 : Int32) (ls : Array Slot), lv_has ls 4 [(0, .ref (ad 0)), (1, .int a1), (2, .int x2), (3, .int x3)] → f_X10_barBegin_4 G a1  n x2 x3 = some r → WD p l e 0 s m ([.ref (ad 0), .int a1] : List Value).toArray below meth c s.heap (some .int) r (F0 m 4 ls []) := by
    intro  n
    induction n with
    | zero => intro x2 x3 ls hl h; exact lqZ2 h
    | succ n4 ih4 =>
      intro x2 x3 ls hl h
      have h := lqS2 h
      refine lv_iload_n hx hb dX10_barBegin_4 rfl (lv_at hl 3 rfl) ?_
      refine lv_iload_n hx hb dX10_barBegin_5 rfl (lv_at hl 1 rfl) ?_
      refine lv_icmp_ge (tgt := 26) hx hb dX10_barBegin_6 (by decide) (fun c1 => ?_) (fun c1 => ?_)
      · have h := ifT h c1
        refine lv_iload_n hx hb dX10_barBegin_26 rfl (lv_at hl 2 rfl) ?_
        exact rd_end F hr hk rfl h dX10_barBegin_27
      · have h := ifF h c1
        refine lv_iload_n hx hb dX10_barBegin_9 rfl (lv_at hl 2 rfl) ?_
        refine lv_aload_n hx hb dX10_barBegin_10 rfl (lv_at hl 0 rfl) ?_
        refine rM_0_0 F hP dX10_barBegin_11 ?_
        refine lv_iconst (v := 5) hx hb dX10_barBegin_14 (by decide) ?_
        refine lv_iload_n hx hb dX10_barBegin_15 rfl (lv_at hl 3 rfl) ?_
        refine lv_iadd hx hb dX10_barBegin_16 ?_
        obtain ⟨b2, h⟩ := ckS h
        refine al F hP 1 (wsW_get 1 (by decide)) (inbV b2 (by decide)) dX10_barBegin_17 ?_
        refine lv_iadd hx hb dX10_barBegin_18 ?_
        refine lv_istore_n (lv' := [(2, .int ((x2 + (G 1 ((5 : Int32) + x3).toNatClampNeg)))), (0, .ref (ad 0)), (1, .int a1), (3, .int x3)]) hx hb dX10_barBegin_19 rfl hl (by decide) rfl (fun ls hl => ?_)
        refine lv_iinc (v := (x3 + 1)) (lv' := [(3, .int ((x3 + 1))), (2, .int ((x2 + (G 1 ((5 : Int32) + x3).toNatClampNeg)))), (0, .ref (ad 0)), (1, .int a1)]) hx hb dX10_barBegin_20 hl (k := 3) rfl rfl (by decide) rfl (fun ls hl => ?_)
        refine lv_goto (tgt := 4) hx hb dX10_barBegin_23 (by decide) ?_
        exact ih4 (x2 + (G 1 ((5 : Int32) + x3).toNatClampNeg)) (x3 + 1) ls (lv_sub hl [2, 3, 1, 0] rfl) h
  refine lv_iconst (v := 0) hx hb dX10_barBegin_0 (by decide) ?_
  refine lv_istore_n (lv' := [(2, .int ((0 : Int32))), (0, .ref (ad 0)), (1, .int a1)]) hx hb dX10_barBegin_1 rfl hl (by decide) rfl (fun ls hl => ?_)
  refine lv_iconst (v := 0) hx hb dX10_barBegin_2 (by decide) ?_
  refine lv_istore_n (lv' := [(3, .int ((0 : Int32))), (2, .int ((0 : Int32))), (0, .ref (ad 0)), (1, .int a1)]) hx hb dX10_barBegin_3 rfl hl (by decide) rfl (fun ls hl => ?_)
  exact key4 4096 (0 : Int32) (0 : Int32) ls (lv_sub hl [2, 3, 1, 0] rfl) h
def f_X10_begin_4 (G : Nat → Nat → Int32) (a1 : Int32) (n : Nat) (y2 : Int32) (y3 : Int32) : Option Int32 := lq2 (fun (k4 : Int32 → Int32 → Option Int32) (x2 : Int32) (x3 : Int32) => (if a1 ≤ x3 then some x2 else ((f_X10_of G x3 (2 : Int32)).bind fun r2 => k4 (x2 + r2) (x3 + 1)))) n y2 y3
def f_X10_begin (G : Nat → Nat → Int32) (a1 : Int32) : Option Int32 := f_X10_begin_4 G a1 4096 (0 : Int32) (0 : Int32)
set_option maxRecDepth 100000 in
set_option maxHeartbeats 4000000 in
theorem q_X10_begin (l : Launch) (D : va_G) (Y : Nat → ClassId) (ad : Nat → Nat) (G : Nat → Nat → Int32) (a1 : Int32) (r : Int32) (h : f_X10_begin G a1 = some r) : RD l yX10_begin cX10_begin 4 (some .int) 1 D Y (wsM Y ad G) [.ref (ad 0), .int a1] r := by
  refine RD_of (by decide) (Nat.le_of_ble_eq_true rfl) (lv := [(0, .ref (ad 0)), (1, .int a1)]) rfl ?_
  intro p e s m below meth c ls F hP hr hk hl
  have F : Fx p c cX10_begin 4 s m _ RX10 D Y := F
  have hx := F.1.1
  have hb := F.1.2.1
  have key4 : ∀ (n : Nat) (x2 : Int32) (x3 : Int32) (ls : Array Slot), lv_has ls 4 [(0, .ref (ad 0)), (1, .int a1), (2, .int x2), (3, .int x3)] → f_X10_begin_4 G a1  n x2 x3 = some r → WD p l e 1 s m ([.ref (ad 0), .int a1] : List Value).toArray below meth c s.heap (some .int) r (F0 m 4 ls []) := by
    intro  n
    induction n with
    | zero => intro x2 x3 ls hl h; exact lqZ2 h
    | succ n4 ih4 =>
      intro x2 x3 ls hl h
      have h := lqS2 h
      refine lv_iload_n hx hb dX10_begin_4 rfl (lv_at hl 3 rfl) ?_
      refine lv_iload_n hx hb dX10_begin_5 rfl (lv_at hl 1 rfl) ?_
      refine lv_icmp_ge (tgt := 24) hx hb dX10_begin_6 (by decide) (fun c1 => ?_) (fun c1 => ?_)
      · have h := ifT h c1
        refine lv_iload_n hx hb dX10_begin_24 rfl (lv_at hl 2 rfl) ?_
        exact rd_end F hr hk rfl h dX10_begin_25
      · have h := ifF h c1
        refine lv_iload_n hx hb dX10_begin_9 rfl (lv_at hl 2 rfl) ?_
        refine lv_aload_n hx hb dX10_begin_10 rfl (lv_at hl 0 rfl) ?_
        refine lv_iload_n hx hb dX10_begin_11 rfl (lv_at hl 3 rfl) ?_
        refine lv_iconst (v := 2) hx hb dX10_begin_12 (by decide) ?_
        obtain ⟨r2, e2, h⟩ := bsome h
        refine rd_V F hP k_X10_of mw_1433 0 11 rfl (wsW_get 0 (by decide)) (q_X10_of l D Y ad G x3 (2 : Int32) r2 e2) rfl hl.1 ⟨Nat.le_of_ble_eq_true rfl, Nat.le_of_ble_eq_true rfl⟩ (rest := [.int x2]) rfl (Nat.le_of_ble_eq_true rfl) ⟨Nat.le_of_ble_eq_true rfl, Nat.le_of_ble_eq_true rfl⟩ dX10_begin_13 (fun o2 => ?_)
        refine lv_iadd hx hb dX10_begin_16 ?_
        refine lv_istore_n (lv' := [(2, .int ((x2 + r2))), (0, .ref (ad 0)), (1, .int a1), (3, .int x3)]) hx hb dX10_begin_17 rfl hl (by decide) rfl (fun ls hl => ?_)
        refine lv_iinc (v := (x3 + 1)) (lv' := [(3, .int ((x3 + 1))), (2, .int ((x2 + r2))), (0, .ref (ad 0)), (1, .int a1)]) hx hb dX10_begin_18 hl (k := 3) rfl rfl (by decide) rfl (fun ls hl => ?_)
        refine lv_goto (tgt := 4) hx hb dX10_begin_21 (by decide) ?_
        exact ih4 (x2 + r2) (x3 + 1) ls (lv_sub hl [2, 3, 1, 0] rfl) h
  refine lv_iconst (v := 0) hx hb dX10_begin_0 (by decide) ?_
  refine lv_istore_n (lv' := [(2, .int ((0 : Int32))), (0, .ref (ad 0)), (1, .int a1)]) hx hb dX10_begin_1 rfl hl (by decide) rfl (fun ls hl => ?_)
  refine lv_iconst (v := 0) hx hb dX10_begin_2 (by decide) ?_
  refine lv_istore_n (lv' := [(3, .int ((0 : Int32))), (2, .int ((0 : Int32))), (0, .ref (ad 0)), (1, .int a1)]) hx hb dX10_begin_3 rfl hl (by decide) rfl (fun ls hl => ?_)
  exact key4 4096 (0 : Int32) (0 : Int32) ls (lv_sub hl [2, 3, 1, 0] rfl) h
def f_X10_free (G : Nat → Nat → Int32) : Option Int32 := ((f_X10_barBegin G (G 1 0)).bind fun r1 => ((f_X10_begin G (G 1 1)).bind fun r2 => some (r1 - r2)))
set_option maxRecDepth 100000 in
set_option maxHeartbeats 4000000 in
theorem q_X10_free (l : Launch) (D : va_G) (Y : Nat → ClassId) (ad : Nat → Nat) (G : Nat → Nat → Int32) (r : Int32) (h : f_X10_free G  = some r) : RD l yX10_free cX10_free 1 (some .int) 2 D Y (wsM Y ad G) [.ref (ad 0)] r := by
  refine RD_of (by decide) (Nat.le_of_ble_eq_true rfl) (lv := [(0, .ref (ad 0))]) rfl ?_
  intro p e s m below meth c ls F hP hr hk hl
  have F : Fx p c cX10_free 1 s m _ RX10 D Y := F
  have hx := F.1.1
  have hb := F.1.2.1
  refine lv_aload_n hx hb dX10_free_0 rfl (lv_at hl 0 rfl) ?_
  refine lv_aload_n hx hb dX10_free_1 rfl (lv_at hl 0 rfl) ?_
  refine rM_0_0 F hP dX10_free_2 ?_
  refine lv_iconst (v := 0) hx hb dX10_free_5 (by decide) ?_
  refine alk F hP 1 (wsW_get 1 (by decide)) (k := 0) (by decide) (inbV (by decide) (by decide)) dX10_free_6 ?_
  obtain ⟨r1, e1, h⟩ := bsome h
  refine rd_V F hP k_X10_barBegin mw_1425 0 11 rfl (wsW_get 0 (by decide)) (q_X10_barBegin l D Y ad G (G 1 0) r1 e1) rfl hl.1 ⟨Nat.le_of_ble_eq_true rfl, Nat.le_of_ble_eq_true rfl⟩ (rest := []) rfl (Nat.le_of_ble_eq_true rfl) ⟨Nat.le_of_ble_eq_true rfl, Nat.le_of_ble_eq_true rfl⟩ dX10_free_7 (fun o1 => ?_)
  refine lv_aload_n hx hb dX10_free_10 rfl (lv_at hl 0 rfl) ?_
  refine lv_aload_n hx hb dX10_free_11 rfl (lv_at hl 0 rfl) ?_
  refine rM_0_0 F hP dX10_free_12 ?_
  refine lv_iconst (v := 1) hx hb dX10_free_15 (by decide) ?_
  refine alk F hP 1 (wsW_get 1 (by decide)) (k := 1) (by decide) (inbV (by decide) (by decide)) dX10_free_16 ?_
  obtain ⟨r2, e2, h⟩ := bsome h
  refine rd_V F hP k_X10_begin mw_1429 0 11 rfl (wsW_get 0 (by decide)) (q_X10_begin l D Y ad G (G 1 1) r2 e2) rfl hl.1 ⟨Nat.le_of_ble_eq_true rfl, Nat.le_of_ble_eq_true rfl⟩ (rest := [.int r1]) rfl (Nat.le_of_ble_eq_true rfl) ⟨Nat.le_of_ble_eq_true rfl, Nat.le_of_ble_eq_true rfl⟩ dX10_free_17 (fun o2 => ?_)
  refine lv_isub hx hb dX10_free_20 ?_
  exact rd_end F hr hk rfl h dX10_free_21
def f_X10_pitch (G : Nat → Nat → Int32) (a1 : Int32) : Option Int32 := ((f_X10_of G a1 (0 : Int32)).bind fun r1 => (if inb ((11 : Int32) + ((2 : Int32) * r1)) 67 then ((f_X10_of G a1 (1 : Int32)).bind fun r3 => some (((G 1 ((11 : Int32) + ((2 : Int32) * r1)).toNatClampNeg) + r3) - ((G 1 ((11 : Int32) + ((2 : Int32) * r1)).toNatClampNeg) + r3) / (12 : Int32) * (12 : Int32))) else none))
set_option maxRecDepth 100000 in
set_option maxHeartbeats 4000000 in
theorem q_X10_pitch (l : Launch) (D : va_G) (Y : Nat → ClassId) (ad : Nat → Nat) (G : Nat → Nat → Int32) (a1 : Int32) (r : Int32) (h : f_X10_pitch G a1 = some r) : RD l yX10_pitch cX10_pitch 2 (some .int) 1 D Y (wsM Y ad G) [.ref (ad 0), .int a1] r := by
  refine RD_of (by decide) (Nat.le_of_ble_eq_true rfl) (lv := [(0, .ref (ad 0)), (1, .int a1)]) rfl ?_
  intro p e s m below meth c ls F hP hr hk hl
  have F : Fx p c cX10_pitch 2 s m _ RX10 D Y := F
  have hx := F.1.1
  have hb := F.1.2.1
  refine lv_aload_n hx hb dX10_pitch_0 rfl (lv_at hl 0 rfl) ?_
  refine rM_0_0 F hP dX10_pitch_1 ?_
  refine lv_bipush (v := 11) hx hb dX10_pitch_4 (by decide) ?_
  refine lv_iconst (v := 2) hx hb dX10_pitch_6 (by decide) ?_
  refine lv_aload_n hx hb dX10_pitch_7 rfl (lv_at hl 0 rfl) ?_
  refine lv_iload_n hx hb dX10_pitch_8 rfl (lv_at hl 1 rfl) ?_
  refine lv_iconst (v := 0) hx hb dX10_pitch_9 (by decide) ?_
  obtain ⟨r1, e1, h⟩ := bsome h
  refine rd_V F hP k_X10_of mw_1433 0 11 rfl (wsW_get 0 (by decide)) (q_X10_of l D Y ad G a1 (0 : Int32) r1 e1) rfl hl.1 ⟨Nat.le_of_ble_eq_true rfl, Nat.le_of_ble_eq_true rfl⟩ (rest := [.int ((2 : Int32)), .int ((11 : Int32)), .ref (ad 1)]) rfl (Nat.le_of_ble_eq_true rfl) ⟨Nat.le_of_ble_eq_true rfl, Nat.le_of_ble_eq_true rfl⟩ dX10_pitch_10 (fun o1 => ?_)
  refine lv_imul hx hb dX10_pitch_13 ?_
  refine lv_iadd hx hb dX10_pitch_14 ?_
  obtain ⟨b2, h⟩ := ckS h
  refine al F hP 1 (wsW_get 1 (by decide)) (inbV b2 (by decide)) dX10_pitch_15 ?_
  refine lv_aload_n hx hb dX10_pitch_16 rfl (lv_at hl 0 rfl) ?_
  refine lv_iload_n hx hb dX10_pitch_17 rfl (lv_at hl 1 rfl) ?_
  refine lv_iconst (v := 1) hx hb dX10_pitch_18 (by decide) ?_
  obtain ⟨r3, e3, h⟩ := bsome h
  refine rd_V F hP k_X10_of mw_1433 0 11 rfl (wsW_get 0 (by decide)) (q_X10_of l D Y ad G a1 (1 : Int32) r3 e3) rfl hl.1 ⟨Nat.le_of_ble_eq_true rfl, Nat.le_of_ble_eq_true rfl⟩ (rest := [.int ((G 1 ((11 : Int32) + ((2 : Int32) * r1)).toNatClampNeg))]) rfl (Nat.le_of_ble_eq_true rfl) ⟨Nat.le_of_ble_eq_true rfl, Nat.le_of_ble_eq_true rfl⟩ dX10_pitch_19 (fun o3 => ?_)
  refine lv_iadd hx hb dX10_pitch_22 ?_
  refine lv_bipush (v := 12) hx hb dX10_pitch_23 (by decide) ?_
  refine lv_irem hx hb dX10_pitch_25 (by decide) ?_
  exact rd_end F hr hk rfl h dX10_pitch_26
def f_X10_beatsIn (G : Nat → Nat → Int32) (a1 : Int32) (a2 : Int32) : Option Int32 := ((f_X10_begin G a1).bind fun r1 => ((f_X10_barBegin G a2).bind fun r2 => ((f_X10_begin G (a1 + (1 : Int32))).bind fun r3 => ((f_X10_barBegin G (a2 + (1 : Int32))).bind fun r4 => some (max32 (0 : Int32) ((min32 r3 r4) - (max32 r1 r2)))))))
set_option maxRecDepth 100000 in
set_option maxHeartbeats 4000000 in
theorem q_X10_beatsIn (l : Launch) (D : va_G) (Y : Nat → ClassId) (ad : Nat → Nat) (G : Nat → Nat → Int32) (a1 : Int32) (a2 : Int32) (r : Int32) (h : f_X10_beatsIn G a1 a2 = some r) : RD l yX10_beatsIn cX10_beatsIn 5 (some .int) 2 D Y (wsM Y ad G) [.ref (ad 0), .int a1, .int a2] r := by
  refine RD_of (by decide) (Nat.le_of_ble_eq_true rfl) (lv := [(0, .ref (ad 0)), (1, .int a1), (2, .int a2)]) rfl ?_
  intro p e s m below meth c ls F hP hr hk hl
  have F : Fx p c cX10_beatsIn 5 s m _ RX10 D Y := F
  have hx := F.1.1
  have hb := F.1.2.1
  refine lv_aload_n hx hb dX10_beatsIn_0 rfl (lv_at hl 0 rfl) ?_
  refine lv_iload_n hx hb dX10_beatsIn_1 rfl (lv_at hl 1 rfl) ?_
  obtain ⟨r1, e1, h⟩ := bsome h
  refine rd_V F hP k_X10_begin mw_1429 0 11 rfl (wsW_get 0 (by decide)) (q_X10_begin l D Y ad G a1 r1 e1) rfl hl.1 ⟨Nat.le_of_ble_eq_true rfl, Nat.le_of_ble_eq_true rfl⟩ (rest := []) rfl (Nat.le_of_ble_eq_true rfl) ⟨Nat.le_of_ble_eq_true rfl, Nat.le_of_ble_eq_true rfl⟩ dX10_beatsIn_2 (fun o1 => ?_)
  refine lv_aload_n hx hb dX10_beatsIn_5 rfl (lv_at hl 0 rfl) ?_
  refine lv_iload_n hx hb dX10_beatsIn_6 rfl (lv_at hl 2 rfl) ?_
  obtain ⟨r2, e2, h⟩ := bsome h
  refine rd_V F hP k_X10_barBegin mw_1425 0 11 rfl (wsW_get 0 (by decide)) (q_X10_barBegin l D Y ad G a2 r2 e2) rfl hl.1 ⟨Nat.le_of_ble_eq_true rfl, Nat.le_of_ble_eq_true rfl⟩ (rest := [.int r1]) rfl (Nat.le_of_ble_eq_true rfl) ⟨Nat.le_of_ble_eq_true rfl, Nat.le_of_ble_eq_true rfl⟩ dX10_beatsIn_7 (fun o2 => ?_)
  refine w_max F hl mw_1501 ⟨Nat.le_of_ble_eq_true rfl, Nat.le_of_ble_eq_true rfl, Nat.le_of_ble_eq_true rfl, Nat.le_of_ble_eq_true rfl⟩ dX10_beatsIn_10 ?_
  refine lv_istore_n (lv' := [(3, .int ((max32 r1 r2))), (0, .ref (ad 0)), (1, .int a1), (2, .int a2)]) hx hb dX10_beatsIn_13 rfl hl (by decide) rfl (fun ls hl => ?_)
  refine lv_aload_n hx hb dX10_beatsIn_14 rfl (lv_at hl 1 rfl) ?_
  refine lv_iload_n hx hb dX10_beatsIn_15 rfl (lv_at hl 2 rfl) ?_
  refine lv_iconst (v := 1) hx hb dX10_beatsIn_16 (by decide) ?_
  refine lv_iadd hx hb dX10_beatsIn_17 ?_
  obtain ⟨r3, e3, h⟩ := bsome h
  refine rd_V F hP k_X10_begin mw_1429 0 11 rfl (wsW_get 0 (by decide)) (q_X10_begin l D Y ad G (a1 + (1 : Int32)) r3 e3) rfl hl.1 ⟨Nat.le_of_ble_eq_true rfl, Nat.le_of_ble_eq_true rfl⟩ (rest := []) rfl (Nat.le_of_ble_eq_true rfl) ⟨Nat.le_of_ble_eq_true rfl, Nat.le_of_ble_eq_true rfl⟩ dX10_beatsIn_18 (fun o3 => ?_)
  refine lv_aload_n hx hb dX10_beatsIn_21 rfl (lv_at hl 1 rfl) ?_
  refine lv_iload_n hx hb dX10_beatsIn_22 rfl (lv_at hl 3 rfl) ?_
  refine lv_iconst (v := 1) hx hb dX10_beatsIn_23 (by decide) ?_
  refine lv_iadd hx hb dX10_beatsIn_24 ?_
  obtain ⟨r4, e4, h⟩ := bsome h
  refine rd_V F hP k_X10_barBegin mw_1425 0 11 rfl (wsW_get 0 (by decide)) (q_X10_barBegin l D Y ad G (a2 + (1 : Int32)) r4 e4) rfl hl.1 ⟨Nat.le_of_ble_eq_true rfl, Nat.le_of_ble_eq_true rfl⟩ (rest := [.int r3]) rfl (Nat.le_of_ble_eq_true rfl) ⟨Nat.le_of_ble_eq_true rfl, Nat.le_of_ble_eq_true rfl⟩ dX10_beatsIn_25 (fun o4 => ?_)
  refine w_min F hl mw_1502 ⟨Nat.le_of_ble_eq_true rfl, Nat.le_of_ble_eq_true rfl, Nat.le_of_ble_eq_true rfl, Nat.le_of_ble_eq_true rfl⟩ dX10_beatsIn_28 ?_
  refine lv_istore (lv' := [(4, .int ((min32 r3 r4))), (3, .int ((max32 r1 r2))), (0, .ref (ad 0)), (1, .int a1), (2, .int a2)]) hx hb dX10_beatsIn_31 hl (by decide) rfl (fun ls hl => ?_)
  refine lv_iconst (v := 0) hx hb dX10_beatsIn_33 (by decide) ?_
  refine lv_iload hx hb dX10_beatsIn_34 (lv_at hl 0 rfl) ?_
  refine lv_iload_n hx hb dX10_beatsIn_36 rfl (lv_at hl 1 rfl) ?_
  refine lv_isub hx hb dX10_beatsIn_37 ?_
  refine w_max F hl mw_1501 ⟨Nat.le_of_ble_eq_true rfl, Nat.le_of_ble_eq_true rfl, Nat.le_of_ble_eq_true rfl, Nat.le_of_ble_eq_true rfl⟩ dX10_beatsIn_38 ?_
  exact rd_end F hr hk rfl h dX10_beatsIn_41
def f_X10_parts_29 (G : Nat → Nat → Int32) (a1 : Int32) (k4 : Int32 → Int32 → Option Int32) (x3 : Int32) (s29_0 : Int32) (s29_1 : Int32) : Option Int32 := k4 (s29_1 + s29_0) (x3 + 1)
def f_X10_parts_4 (G : Nat → Nat → Int32) (a1 : Int32) (n : Nat) (y2 : Int32) (y3 : Int32) : Option Int32 := lq2 (fun (k4 : Int32 → Int32 → Option Int32) (x2 : Int32) (x3 : Int32) => (if (G 1 0) ≤ x3 then some x2 else ((f_X10_beatsIn G a1 x3).bind fun r2 => (if r2 ≤ 0 then f_X10_parts_29 G a1 k4 x3 (0 : Int32) x2 else f_X10_parts_29 G a1 k4 x3 (1 : Int32) x2)))) n y2 y3
def f_X10_parts (G : Nat → Nat → Int32) (a1 : Int32) : Option Int32 := f_X10_parts_4 G a1 4096 (0 : Int32) (0 : Int32)
set_option maxRecDepth 100000 in
set_option maxHeartbeats 4000000 in
theorem q_X10_parts (l : Launch) (D : va_G) (Y : Nat → ClassId) (ad : Nat → Nat) (G : Nat → Nat → Int32) (a1 : Int32) (r : Int32) (h : f_X10_parts G a1 = some r) : RD l yX10_parts cX10_parts 4 (some .int) 3 D Y (wsM Y ad G) [.ref (ad 0), .int a1] r := by
  refine RD_of (by decide) (Nat.le_of_ble_eq_true rfl) (lv := [(0, .ref (ad 0)), (1, .int a1)]) rfl ?_
  intro p e s m below meth c ls F hP hr hk hl
  have F : Fx p c cX10_parts 4 s m _ RX10 D Y := F
  have hx := F.1.1
  have hb := F.1.2.1
  have key4 : ∀ (n : Nat) (x2 : Int32) (x3 : Int32) (ls : Array Slot), lv_has ls 4 [(0, .ref (ad 0)), (1, .int a1), (2, .int x2), (3, .int x3)] → f_X10_parts_4 G a1  n x2 x3 = some r → WD p l e 3 s m ([.ref (ad 0), .int a1] : List Value).toArray below meth c s.heap (some .int) r (F0 m 4 ls []) := by
    intro  n
    induction n with
    | zero => intro x2 x3 ls hl h; exact lqZ2 h
    | succ n4 ih4 =>
      have key29 : ∀ (x3 : Int32) (s29_0 : Int32) (s29_1 : Int32) (ls : Array Slot), lv_has ls 4 [(0, .ref (ad 0)), (1, .int a1), (3, .int x3)] → f_X10_parts_29 G a1 (f_X10_parts_4 G a1   n4) x3 s29_0 s29_1 = some r → WD p l e 3 s m ([.ref (ad 0), .int a1] : List Value).toArray below meth c s.heap (some .int) r (F0 m 29 ls [.int s29_0, .int s29_1]) := by
        intro x3 s29_0 s29_1 ls hl h
        refine lv_iadd hx hb dX10_parts_29 ?_
        refine lv_istore_n (lv' := [(2, .int ((s29_1 + s29_0))), (0, .ref (ad 0)), (1, .int a1), (3, .int x3)]) hx hb dX10_parts_30 rfl hl (by decide) rfl (fun ls hl => ?_)
        refine lv_iinc (v := (x3 + 1)) (lv' := [(3, .int ((x3 + 1))), (2, .int ((s29_1 + s29_0))), (0, .ref (ad 0)), (1, .int a1)]) hx hb dX10_parts_31 hl (k := 3) rfl rfl (by decide) rfl (fun ls hl => ?_)
        refine lv_goto (tgt := 4) hx hb dX10_parts_34 (by decide) ?_
        exact ih4 (s29_1 + s29_0) (x3 + 1) ls (lv_sub hl [2, 3, 1, 0] rfl) h
      intro x2 x3 ls hl h
      have h := lqS2 h
      refine lv_iload_n hx hb dX10_parts_4 rfl (lv_at hl 3 rfl) ?_
      refine lv_aload_n hx hb dX10_parts_5 rfl (lv_at hl 0 rfl) ?_
      refine rM_0_0 F hP dX10_parts_6 ?_
      refine lv_iconst (v := 0) hx hb dX10_parts_9 (by decide) ?_
      refine alk F hP 1 (wsW_get 1 (by decide)) (k := 0) (by decide) (inbV (by decide) (by decide)) dX10_parts_10 ?_
      refine lv_icmp_ge (tgt := 37) hx hb dX10_parts_11 (by decide) (fun c1 => ?_) (fun c1 => ?_)
      · have h := ifT h c1
        refine lv_iload_n hx hb dX10_parts_37 rfl (lv_at hl 2 rfl) ?_
        exact rd_end F hr hk rfl h dX10_parts_38
      · have h := ifF h c1
        refine lv_iload_n hx hb dX10_parts_14 rfl (lv_at hl 2 rfl) ?_
        refine lv_aload_n hx hb dX10_parts_15 rfl (lv_at hl 0 rfl) ?_
        refine lv_iload_n hx hb dX10_parts_16 rfl (lv_at hl 1 rfl) ?_
        refine lv_iload_n hx hb dX10_parts_17 rfl (lv_at hl 3 rfl) ?_
        obtain ⟨r2, e2, h⟩ := bsome h
        refine rd_V F hP k_X10_beatsIn mw_1497 0 11 rfl (wsW_get 0 (by decide)) (q_X10_beatsIn l D Y ad G a1 x3 r2 e2) rfl hl.1 ⟨Nat.le_of_ble_eq_true rfl, Nat.le_of_ble_eq_true rfl⟩ (rest := [.int x2]) rfl (Nat.le_of_ble_eq_true rfl) ⟨Nat.le_of_ble_eq_true rfl, Nat.le_of_ble_eq_true rfl⟩ dX10_parts_18 (fun o2 => ?_)
        refine lv_if_le (tgt := 28) hx hb dX10_parts_21 (by decide) (fun c3 => ?_) (fun c3 => ?_)
        · have h := ifT h c3
          refine lv_iconst (v := 0) hx hb dX10_parts_28 (by decide) ?_
          exact key29 x3 (0 : Int32) x2 ls (lv_sub hl [0, 1, 3] rfl) h
        · have h := ifF h c3
          refine lv_iconst (v := 1) hx hb dX10_parts_24 (by decide) ?_
          refine lv_goto (tgt := 29) hx hb dX10_parts_25 (by decide) ?_
          exact key29 x3 (1 : Int32) x2 ls (lv_sub hl [0, 1, 3] rfl) h
  refine lv_iconst (v := 0) hx hb dX10_parts_0 (by decide) ?_
  refine lv_istore_n (lv' := [(2, .int ((0 : Int32))), (0, .ref (ad 0)), (1, .int a1)]) hx hb dX10_parts_1 rfl hl (by decide) rfl (fun ls hl => ?_)
  refine lv_iconst (v := 0) hx hb dX10_parts_2 (by decide) ?_
  refine lv_istore_n (lv' := [(3, .int ((0 : Int32))), (2, .int ((0 : Int32))), (0, .ref (ad 0)), (1, .int a1)]) hx hb dX10_parts_3 rfl hl (by decide) rfl (fun ls hl => ?_)
  exact key4 4096 (0 : Int32) (0 : Int32) ls (lv_sub hl [2, 3, 1, 0] rfl) h
def f_X10_partsIn_29 (G : Nat → Nat → Int32) (a1 : Int32) (k4 : Int32 → Int32 → Option Int32) (x3 : Int32) (s29_0 : Int32) (s29_1 : Int32) : Option Int32 := k4 (s29_1 + s29_0) (x3 + 1)
def f_X10_partsIn_4 (G : Nat → Nat → Int32) (a1 : Int32) (n : Nat) (y2 : Int32) (y3 : Int32) : Option Int32 := lq2 (fun (k4 : Int32 → Int32 → Option Int32) (x2 : Int32) (x3 : Int32) => (if (G 1 1) ≤ x3 then some x2 else ((f_X10_beatsIn G x3 a1).bind fun r2 => (if r2 ≤ 0 then f_X10_partsIn_29 G a1 k4 x3 (0 : Int32) x2 else f_X10_partsIn_29 G a1 k4 x3 (1 : Int32) x2)))) n y2 y3
def f_X10_partsIn (G : Nat → Nat → Int32) (a1 : Int32) : Option Int32 := f_X10_partsIn_4 G a1 4096 (0 : Int32) (0 : Int32)
set_option maxRecDepth 100000 in
set_option maxHeartbeats 4000000 in
theorem q_X10_partsIn (l : Launch) (D : va_G) (Y : Nat → ClassId) (ad : Nat → Nat) (G : Nat → Nat → Int32) (a1 : Int32) (r : Int32) (h : f_X10_partsIn G a1 = some r) : RD l yX10_partsIn cX10_partsIn 4 (some .int) 3 D Y (wsM Y ad G) [.ref (ad 0), .int a1] r := by
  refine RD_of (by decide) (Nat.le_of_ble_eq_true rfl) (lv := [(0, .ref (ad 0)), (1, .int a1)]) rfl ?_
  intro p e s m below meth c ls F hP hr hk hl
  have F : Fx p c cX10_partsIn 4 s m _ RX10 D Y := F
  have hx := F.1.1
  have hb := F.1.2.1
  have key4 : ∀ (n : Nat) (x2 : Int32) (x3 : Int32) (ls : Array Slot), lv_has ls 4 [(0, .ref (ad 0)), (1, .int a1), (2, .int x2), (3, .int x3)] → f_X10_partsIn_4 G a1  n x2 x3 = some r → WD p l e 3 s m ([.ref (ad 0), .int a1] : List Value).toArray below meth c s.heap (some .int) r (F0 m 4 ls []) := by
    intro  n
    induction n with
    | zero => intro x2 x3 ls hl h; exact lqZ2 h
    | succ n4 ih4 =>
      have key29 : ∀ (x3 : Int32) (s29_0 : Int32) (s29_1 : Int32) (ls : Array Slot), lv_has ls 4 [(0, .ref (ad 0)), (1, .int a1), (3, .int x3)] → f_X10_partsIn_29 G a1 (f_X10_partsIn_4 G a1   n4) x3 s29_0 s29_1 = some r → WD p l e 3 s m ([.ref (ad 0), .int a1] : List Value).toArray below meth c s.heap (some .int) r (F0 m 29 ls [.int s29_0, .int s29_1]) := by
        intro x3 s29_0 s29_1 ls hl h
        refine lv_iadd hx hb dX10_partsIn_29 ?_
        refine lv_istore_n (lv' := [(2, .int ((s29_1 + s29_0))), (0, .ref (ad 0)), (1, .int a1), (3, .int x3)]) hx hb dX10_partsIn_30 rfl hl (by decide) rfl (fun ls hl => ?_)
        refine lv_iinc (v := (x3 + 1)) (lv' := [(3, .int ((x3 + 1))), (2, .int ((s29_1 + s29_0))), (0, .ref (ad 0)), (1, .int a1)]) hx hb dX10_partsIn_31 hl (k := 3) rfl rfl (by decide) rfl (fun ls hl => ?_)
        refine lv_goto (tgt := 4) hx hb dX10_partsIn_34 (by decide) ?_
        exact ih4 (s29_1 + s29_0) (x3 + 1) ls (lv_sub hl [2, 3, 1, 0] rfl) h
      intro x2 x3 ls hl h
      have h := lqS2 h
      refine lv_iload_n hx hb dX10_partsIn_4 rfl (lv_at hl 3 rfl) ?_
      refine lv_aload_n hx hb dX10_partsIn_5 rfl (lv_at hl 0 rfl) ?_
      refine rM_0_0 F hP dX10_partsIn_6 ?_
      refine lv_iconst (v := 1) hx hb dX10_partsIn_9 (by decide) ?_
      refine alk F hP 1 (wsW_get 1 (by decide)) (k := 1) (by decide) (inbV (by decide) (by decide)) dX10_partsIn_10 ?_
      refine lv_icmp_ge (tgt := 37) hx hb dX10_partsIn_11 (by decide) (fun c1 => ?_) (fun c1 => ?_)
      · have h := ifT h c1
        refine lv_iload_n hx hb dX10_partsIn_37 rfl (lv_at hl 2 rfl) ?_
        exact rd_end F hr hk rfl h dX10_partsIn_38
      · have h := ifF h c1
        refine lv_iload_n hx hb dX10_partsIn_14 rfl (lv_at hl 2 rfl) ?_
        refine lv_aload_n hx hb dX10_partsIn_15 rfl (lv_at hl 0 rfl) ?_
        refine lv_iload_n hx hb dX10_partsIn_16 rfl (lv_at hl 3 rfl) ?_
        refine lv_iload_n hx hb dX10_partsIn_17 rfl (lv_at hl 1 rfl) ?_
        obtain ⟨r2, e2, h⟩ := bsome h
        refine rd_V F hP k_X10_beatsIn mw_1497 0 11 rfl (wsW_get 0 (by decide)) (q_X10_beatsIn l D Y ad G x3 a1 r2 e2) rfl hl.1 ⟨Nat.le_of_ble_eq_true rfl, Nat.le_of_ble_eq_true rfl⟩ (rest := [.int x2]) rfl (Nat.le_of_ble_eq_true rfl) ⟨Nat.le_of_ble_eq_true rfl, Nat.le_of_ble_eq_true rfl⟩ dX10_partsIn_18 (fun o2 => ?_)
        refine lv_if_le (tgt := 28) hx hb dX10_partsIn_21 (by decide) (fun c3 => ?_) (fun c3 => ?_)
        · have h := ifT h c3
          refine lv_iconst (v := 0) hx hb dX10_partsIn_28 (by decide) ?_
          exact key29 x3 (0 : Int32) x2 ls (lv_sub hl [0, 1, 3] rfl) h
        · have h := ifF h c3
          refine lv_iconst (v := 1) hx hb dX10_partsIn_24 (by decide) ?_
          refine lv_goto (tgt := 29) hx hb dX10_partsIn_25 (by decide) ?_
          exact key29 x3 (1 : Int32) x2 ls (lv_sub hl [0, 1, 3] rfl) h
  refine lv_iconst (v := 0) hx hb dX10_partsIn_0 (by decide) ?_
  refine lv_istore_n (lv' := [(2, .int ((0 : Int32))), (0, .ref (ad 0)), (1, .int a1)]) hx hb dX10_partsIn_1 rfl hl (by decide) rfl (fun ls hl => ?_)
  refine lv_iconst (v := 0) hx hb dX10_partsIn_2 (by decide) ?_
  refine lv_istore_n (lv' := [(3, .int ((0 : Int32))), (2, .int ((0 : Int32))), (0, .ref (ad 0)), (1, .int a1)]) hx hb dX10_partsIn_3 rfl hl (by decide) rfl (fun ls hl => ?_)
  exact key4 4096 (0 : Int32) (0 : Int32) ls (lv_sub hl [2, 3, 1, 0] rfl) h
def f_X10_filled_4 (G : Nat → Nat → Int32) (a1 : Int32) (n : Nat) (y2 : Int32) (y3 : Int32) : Option Int32 := lq2 (fun (k4 : Int32 → Int32 → Option Int32) (x2 : Int32) (x3 : Int32) => (if (G 1 1) ≤ x3 then some x2 else ((f_X10_beatsIn G x3 a1).bind fun r2 => k4 (x2 + r2) (x3 + 1)))) n y2 y3
def f_X10_filled (G : Nat → Nat → Int32) (a1 : Int32) : Option Int32 := f_X10_filled_4 G a1 4096 (0 : Int32) (0 : Int32)
set_option maxRecDepth 100000 in
set_option maxHeartbeats 4000000 in
theorem q_X10_filled (l : Launch) (D : va_G) (Y : Nat → ClassId) (ad : Nat → Nat) (G : Nat → Nat → Int32) (a1 : Int32) (r : Int32) (h : f_X10_filled G a1 = some r) : RD l yX10_filled cX10_filled 4 (some .int) 3 D Y (wsM Y ad G) [.ref (ad 0), .int a1] r := by
  refine RD_of (by decide) (Nat.le_of_ble_eq_true rfl) (lv := [(0, .ref (ad 0)), (1, .int a1)]) rfl ?_
  intro p e s m below meth c ls F hP hr hk hl
  have F : Fx p c cX10_filled 4 s m _ RX10 D Y := F
  have hx := F.1.1
  have hb := F.1.2.1
  have key4 : ∀ (n : Nat) (x2 : Int32) (x3 : Int32) (ls : Array Slot), lv_has ls 4 [(0, .ref (ad 0)), (1, .int a1), (2, .int x2), (3, .int x3)] → f_X10_filled_4 G a1  n x2 x3 = some r → WD p l e 3 s m ([.ref (ad 0), .int a1] : List Value).toArray below meth c s.heap (some .int) r (F0 m 4 ls []) := by
    intro  n
    induction n with
    | zero => intro x2 x3 ls hl h; exact lqZ2 h
    | succ n4 ih4 =>
      intro x2 x3 ls hl h
      have h := lqS2 h
      refine lv_iload_n hx hb dX10_filled_4 rfl (lv_at hl 3 rfl) ?_
      refine lv_aload_n hx hb dX10_filled_5 rfl (lv_at hl 0 rfl) ?_
      refine rM_0_0 F hP dX10_filled_6 ?_
      refine lv_iconst (v := 1) hx hb dX10_filled_9 (by decide) ?_
      refine alk F hP 1 (wsW_get 1 (by decide)) (k := 1) (by decide) (inbV (by decide) (by decide)) dX10_filled_10 ?_
      refine lv_icmp_ge (tgt := 29) hx hb dX10_filled_11 (by decide) (fun c1 => ?_) (fun c1 => ?_)
      · have h := ifT h c1
        refine lv_iload_n hx hb dX10_filled_29 rfl (lv_at hl 2 rfl) ?_
        exact rd_end F hr hk rfl h dX10_filled_30
      · have h := ifF h c1
        refine lv_iload_n hx hb dX10_filled_14 rfl (lv_at hl 2 rfl) ?_
        refine lv_aload_n hx hb dX10_filled_15 rfl (lv_at hl 0 rfl) ?_
        refine lv_iload_n hx hb dX10_filled_16 rfl (lv_at hl 3 rfl) ?_
        refine lv_iload_n hx hb dX10_filled_17 rfl (lv_at hl 1 rfl) ?_
        obtain ⟨r2, e2, h⟩ := bsome h
        refine rd_V F hP k_X10_beatsIn mw_1497 0 11 rfl (wsW_get 0 (by decide)) (q_X10_beatsIn l D Y ad G x3 a1 r2 e2) rfl hl.1 ⟨Nat.le_of_ble_eq_true rfl, Nat.le_of_ble_eq_true rfl⟩ (rest := [.int x2]) rfl (Nat.le_of_ble_eq_true rfl) ⟨Nat.le_of_ble_eq_true rfl, Nat.le_of_ble_eq_true rfl⟩ dX10_filled_18 (fun o2 => ?_)
        refine lv_iadd hx hb dX10_filled_21 ?_
        refine lv_istore_n (lv' := [(2, .int ((x2 + r2))), (0, .ref (ad 0)), (1, .int a1), (3, .int x3)]) hx hb dX10_filled_22 rfl hl (by decide) rfl (fun ls hl => ?_)
        refine lv_iinc (v := (x3 + 1)) (lv' := [(3, .int ((x3 + 1))), (2, .int ((x2 + r2))), (0, .ref (ad 0)), (1, .int a1)]) hx hb dX10_filled_23 hl (k := 3) rfl rfl (by decide) rfl (fun ls hl => ?_)
        refine lv_goto (tgt := 4) hx hb dX10_filled_26 (by decide) ?_
        exact ih4 (x2 + r2) (x3 + 1) ls (lv_sub hl [2, 3, 1, 0] rfl) h
  refine lv_iconst (v := 0) hx hb dX10_filled_0 (by decide) ?_
  refine lv_istore_n (lv' := [(2, .int ((0 : Int32))), (0, .ref (ad 0)), (1, .int a1)]) hx hb dX10_filled_1 rfl hl (by decide) rfl (fun ls hl => ?_)
  refine lv_iconst (v := 0) hx hb dX10_filled_2 (by decide) ?_
  refine lv_istore_n (lv' := [(3, .int ((0 : Int32))), (2, .int ((0 : Int32))), (0, .ref (ad 0)), (1, .int a1)]) hx hb dX10_filled_3 rfl hl (by decide) rfl (fun ls hl => ?_)
  exact key4 4096 (0 : Int32) (0 : Int32) ls (lv_sub hl [2, 3, 1, 0] rfl) h
def f_X10_soundAt_40 (G : Nat → Nat → Int32) (a1 : Int32) (k4 : Int32 → Int32 → Option Int32) (x3 : Int32) (s40_0 : Int32) : Option Int32 := k4 s40_0 (x3 + 1)
def f_X10_soundAt_4 (G : Nat → Nat → Int32) (a1 : Int32) (n : Nat) (y2 : Int32) (y3 : Int32) : Option Int32 := lq2 (fun (k4 : Int32 → Int32 → Option Int32) (x2 : Int32) (x3 : Int32) => (if (G 1 1) ≤ x3 then some x2 else ((f_X10_begin G x3).bind fun r2 => ((f_X10_begin G (x3 + (1 : Int32))).bind fun r3 => ((f_X10_in G a1 r2 (r3 - (1 : Int32))).bind fun r4 => (if r4 = 0 then f_X10_soundAt_40 G a1 k4 x3 x2 else f_X10_soundAt_40 G a1 k4 x3 x3)))))) n y2 y3
def f_X10_soundAt (G : Nat → Nat → Int32) (a1 : Int32) : Option Int32 := f_X10_soundAt_4 G a1 4096 (-1 : Int32) (0 : Int32)
set_option maxRecDepth 100000 in
set_option maxHeartbeats 4000000 in
theorem q_X10_soundAt (l : Launch) (D : va_G) (Y : Nat → ClassId) (ad : Nat → Nat) (G : Nat → Nat → Int32) (a1 : Int32) (r : Int32) (h : f_X10_soundAt G a1 = some r) : RD l yX10_soundAt cX10_soundAt 4 (some .int) 2 D Y (wsM Y ad G) [.ref (ad 0), .int a1] r := by
  refine RD_of (by decide) (Nat.le_of_ble_eq_true rfl) (lv := [(0, .ref (ad 0)), (1, .int a1)]) rfl ?_
  intro p e s m below meth c ls F hP hr hk hl
  have F : Fx p c cX10_soundAt 4 s m _ RX10 D Y := F
  have hx := F.1.1
  have hb := F.1.2.1
  have key4 : ∀ (n : Nat) (x2 : Int32) (x3 : Int32) (ls : Array Slot), lv_has ls 4 [(0, .ref (ad 0)), (1, .int a1), (2, .int x2), (3, .int x3)] → f_X10_soundAt_4 G a1  n x2 x3 = some r → WD p l e 2 s m ([.ref (ad 0), .int a1] : List Value).toArray below meth c s.heap (some .int) r (F0 m 4 ls []) := by
    intro  n
    induction n with
    | zero => intro x2 x3 ls hl h; exact lqZ2 h
    | succ n4 ih4 =>
      have key40 : ∀ (x3 : Int32) (s40_0 : Int32) (ls : Array Slot), lv_has ls 4 [(0, .ref (ad 0)), (1, .int a1), (3, .int x3)] → f_X10_soundAt_40 G a1 (f_X10_soundAt_4 G a1   n4) x3 s40_0 = some r → WD p l e 2 s m ([.ref (ad 0), .int a1] : List Value).toArray below meth c s.heap (some .int) r (F0 m 40 ls [.int s40_0]) := by
        intro x3 s40_0 ls hl h
        refine lv_istore_n (lv' := [(2, .int s40_0), (0, .ref (ad 0)), (1, .int a1), (3, .int x3)]) hx hb dX10_soundAt_40 rfl hl (by decide) rfl (fun ls hl => ?_)
        refine lv_iinc (v := (x3 + 1)) (lv' := [(3, .int ((x3 + 1))), (2, .int s40_0), (0, .ref (ad 0)), (1, .int a1)]) hx hb dX10_soundAt_41 hl (k := 3) rfl rfl (by decide) rfl (fun ls hl => ?_)
        refine lv_goto (tgt := 4) hx hb dX10_soundAt_44 (by decide) ?_
        exact ih4 s40_0 (x3 + 1) ls (lv_sub hl [2, 3, 1, 0] rfl) h
      intro x2 x3 ls hl h
      have h := lqS2 h
      refine lv_iload_n hx hb dX10_soundAt_4 rfl (lv_at hl 3 rfl) ?_
      refine lv_aload_n hx hb dX10_soundAt_5 rfl (lv_at hl 0 rfl) ?_
      refine rM_0_0 F hP dX10_soundAt_6 ?_
      refine lv_iconst (v := 1) hx hb dX10_soundAt_9 (by decide) ?_
      refine alk F hP 1 (wsW_get 1 (by decide)) (k := 1) (by decide) (inbV (by decide) (by decide)) dX10_soundAt_10 ?_
      refine lv_icmp_ge (tgt := 47) hx hb dX10_soundAt_11 (by decide) (fun c1 => ?_) (fun c1 => ?_)
      · have h := ifT h c1
        refine lv_iload_n hx hb dX10_soundAt_47 rfl (lv_at hl 2 rfl) ?_
        exact rd_end F hr hk rfl h dX10_soundAt_48
      · have h := ifF h c1
        refine lv_iload_n hx hb dX10_soundAt_14 rfl (lv_at hl 1 rfl) ?_
        refine lv_aload_n hx hb dX10_soundAt_15 rfl (lv_at hl 0 rfl) ?_
        refine lv_iload_n hx hb dX10_soundAt_16 rfl (lv_at hl 3 rfl) ?_
        obtain ⟨r2, e2, h⟩ := bsome h
        refine rd_V F hP k_X10_begin mw_1429 0 11 rfl (wsW_get 0 (by decide)) (q_X10_begin l D Y ad G x3 r2 e2) rfl hl.1 ⟨Nat.le_of_ble_eq_true rfl, Nat.le_of_ble_eq_true rfl⟩ (rest := [.int a1]) rfl (Nat.le_of_ble_eq_true rfl) ⟨Nat.le_of_ble_eq_true rfl, Nat.le_of_ble_eq_true rfl⟩ dX10_soundAt_17 (fun o2 => ?_)
        refine lv_aload_n hx hb dX10_soundAt_20 rfl (lv_at hl 0 rfl) ?_
        refine lv_iload_n hx hb dX10_soundAt_21 rfl (lv_at hl 3 rfl) ?_
        refine lv_iconst (v := 1) hx hb dX10_soundAt_22 (by decide) ?_
        refine lv_iadd hx hb dX10_soundAt_23 ?_
        obtain ⟨r3, e3, h⟩ := bsome h
        refine rd_V F hP k_X10_begin mw_1429 0 11 rfl (wsW_get 0 (by decide)) (q_X10_begin l D Y ad G (x3 + (1 : Int32)) r3 e3) rfl hl.1 ⟨Nat.le_of_ble_eq_true rfl, Nat.le_of_ble_eq_true rfl⟩ (rest := [.int r2, .int a1]) rfl (Nat.le_of_ble_eq_true rfl) ⟨Nat.le_of_ble_eq_true rfl, Nat.le_of_ble_eq_true rfl⟩ dX10_soundAt_24 (fun o3 => ?_)
        refine lv_iconst (v := 1) hx hb dX10_soundAt_27 (by decide) ?_
        refine lv_isub hx hb dX10_soundAt_28 ?_
        obtain ⟨r4, e4, h⟩ := bsome h
        refine rd_S F hP k_X10_in mw_1379 (q_X10_in l D Y ad G a1 r2 (r3 - (1 : Int32)) r4 e4) rfl hl.1 ⟨Nat.le_of_ble_eq_true rfl, Nat.le_of_ble_eq_true rfl⟩ (rest := []) rfl (Nat.le_of_ble_eq_true rfl) ⟨Nat.le_of_ble_eq_true rfl, Nat.le_of_ble_eq_true rfl⟩ dX10_soundAt_29 (fun o4 => ?_)
        refine lv_if_eq (tgt := 39) hx hb dX10_soundAt_32 (by decide) (fun c5 => ?_) (fun c5 => ?_)
        · have h := ifT h c5
          refine lv_iload_n hx hb dX10_soundAt_39 rfl (lv_at hl 2 rfl) ?_
          exact key40 x3 x2 ls (lv_sub hl [0, 1, 3] rfl) h
        · have h := ifF h c5
          refine lv_iload_n hx hb dX10_soundAt_35 rfl (lv_at hl 3 rfl) ?_
          refine lv_goto (tgt := 40) hx hb dX10_soundAt_36 (by decide) ?_
          exact key40 x3 x3 ls (lv_sub hl [0, 1, 3] rfl) h
  refine lv_iconst (v := -1) hx hb dX10_soundAt_0 (by decide) ?_
  refine lv_istore_n (lv' := [(2, .int ((-1 : Int32))), (0, .ref (ad 0)), (1, .int a1)]) hx hb dX10_soundAt_1 rfl hl (by decide) rfl (fun ls hl => ?_)
  refine lv_iconst (v := 0) hx hb dX10_soundAt_2 (by decide) ?_
  refine lv_istore_n (lv' := [(3, .int ((0 : Int32))), (2, .int ((-1 : Int32))), (0, .ref (ad 0)), (1, .int a1)]) hx hb dX10_soundAt_3 rfl hl (by decide) rfl (fun ls hl => ?_)
  exact key4 4096 (-1 : Int32) (0 : Int32) ls (lv_sub hl [2, 3, 1, 0] rfl) h
def f_X10_dropAhead_22 (G : Nat → Nat → Int32) (a1 : Int32) (k4 : Int32 → Int32 → Option Int32) (x3 : Int32) (s22_0 : Int32) : Option Int32 := k4 s22_0 (x3 + 1)
def f_X10_dropAhead_4 (G : Nat → Nat → Int32) (a1 : Int32) (n : Nat) (y2 : Int32) (y3 : Int32) : Option Int32 := lq2 (fun (k4 : Int32 → Int32 → Option Int32) (x2 : Int32) (x3 : Int32) => (if a1 ≤ x3 then some x2 else ((f_X10_isDrop G x3).bind fun r2 => (if r2 = 0 then f_X10_dropAhead_22 G a1 k4 x3 x2 else f_X10_dropAhead_22 G a1 k4 x3 x3)))) n y2 y3
def f_X10_dropAhead (G : Nat → Nat → Int32) (a1 : Int32) : Option Int32 := f_X10_dropAhead_4 G a1 4096 (-1 : Int32) (0 : Int32)
set_option maxRecDepth 100000 in
set_option maxHeartbeats 4000000 in
theorem q_X10_dropAhead (l : Launch) (D : va_G) (Y : Nat → ClassId) (ad : Nat → Nat) (G : Nat → Nat → Int32) (a1 : Int32) (r : Int32) (h : f_X10_dropAhead G a1 = some r) : RD l yX10_dropAhead cX10_dropAhead 4 (some .int) 2 D Y (wsM Y ad G) [.ref (ad 0), .int a1] r := by
  refine RD_of (by decide) (Nat.le_of_ble_eq_true rfl) (lv := [(0, .ref (ad 0)), (1, .int a1)]) rfl ?_
  intro p e s m below meth c ls F hP hr hk hl
  have F : Fx p c cX10_dropAhead 4 s m _ RX10 D Y := F
  have hx := F.1.1
  have hb := F.1.2.1
  have key4 : ∀ (n : Nat) (x2 : Int32) (x3 : Int32) (ls : Array Slot), lv_has ls 4 [(0, .ref (ad 0)), (1, .int a1), (2, .int x2), (3, .int x3)] → f_X10_dropAhead_4 G a1  n x2 x3 = some r → WD p l e 2 s m ([.ref (ad 0), .int a1] : List Value).toArray below meth c s.heap (some .int) r (F0 m 4 ls []) := by
    intro  n
    induction n with
    | zero => intro x2 x3 ls hl h; exact lqZ2 h
    | succ n4 ih4 =>
      have key22 : ∀ (x3 : Int32) (s22_0 : Int32) (ls : Array Slot), lv_has ls 4 [(0, .ref (ad 0)), (1, .int a1), (3, .int x3)] → f_X10_dropAhead_22 G a1 (f_X10_dropAhead_4 G a1   n4) x3 s22_0 = some r → WD p l e 2 s m ([.ref (ad 0), .int a1] : List Value).toArray below meth c s.heap (some .int) r (F0 m 22 ls [.int s22_0]) := by
        intro x3 s22_0 ls hl h
        refine lv_istore_n (lv' := [(2, .int s22_0), (0, .ref (ad 0)), (1, .int a1), (3, .int x3)]) hx hb dX10_dropAhead_22 rfl hl (by decide) rfl (fun ls hl => ?_)
        refine lv_iinc (v := (x3 + 1)) (lv' := [(3, .int ((x3 + 1))), (2, .int s22_0), (0, .ref (ad 0)), (1, .int a1)]) hx hb dX10_dropAhead_23 hl (k := 3) rfl rfl (by decide) rfl (fun ls hl => ?_)
        refine lv_goto (tgt := 4) hx hb dX10_dropAhead_26 (by decide) ?_
        exact ih4 s22_0 (x3 + 1) ls (lv_sub hl [2, 3, 1, 0] rfl) h
      intro x2 x3 ls hl h
      have h := lqS2 h
      refine lv_iload_n hx hb dX10_dropAhead_4 rfl (lv_at hl 3 rfl) ?_
      refine lv_iload_n hx hb dX10_dropAhead_5 rfl (lv_at hl 1 rfl) ?_
      refine lv_icmp_ge (tgt := 29) hx hb dX10_dropAhead_6 (by decide) (fun c1 => ?_) (fun c1 => ?_)
      · have h := ifT h c1
        refine lv_iload_n hx hb dX10_dropAhead_29 rfl (lv_at hl 2 rfl) ?_
        exact rd_end F hr hk rfl h dX10_dropAhead_30
      · have h := ifF h c1
        refine lv_aload_n hx hb dX10_dropAhead_9 rfl (lv_at hl 0 rfl) ?_
        refine lv_iload_n hx hb dX10_dropAhead_10 rfl (lv_at hl 3 rfl) ?_
        obtain ⟨r2, e2, h⟩ := bsome h
        refine rd_V F hP k_X10_isDrop mw_1481 0 11 rfl (wsW_get 0 (by decide)) (q_X10_isDrop l D Y ad G x3 r2 e2) rfl hl.1 ⟨Nat.le_of_ble_eq_true rfl, Nat.le_of_ble_eq_true rfl⟩ (rest := []) rfl (Nat.le_of_ble_eq_true rfl) ⟨Nat.le_of_ble_eq_true rfl, Nat.le_of_ble_eq_true rfl⟩ dX10_dropAhead_11 (fun o2 => ?_)
        refine lv_if_eq (tgt := 21) hx hb dX10_dropAhead_14 (by decide) (fun c3 => ?_) (fun c3 => ?_)
        · have h := ifT h c3
          refine lv_iload_n hx hb dX10_dropAhead_21 rfl (lv_at hl 2 rfl) ?_
          exact key22 x3 x2 ls (lv_sub hl [0, 1, 3] rfl) h
        · have h := ifF h c3
          refine lv_iload_n hx hb dX10_dropAhead_17 rfl (lv_at hl 3 rfl) ?_
          refine lv_goto (tgt := 22) hx hb dX10_dropAhead_18 (by decide) ?_
          exact key22 x3 x3 ls (lv_sub hl [0, 1, 3] rfl) h
  refine lv_iconst (v := -1) hx hb dX10_dropAhead_0 (by decide) ?_
  refine lv_istore_n (lv' := [(2, .int ((-1 : Int32))), (0, .ref (ad 0)), (1, .int a1)]) hx hb dX10_dropAhead_1 rfl hl (by decide) rfl (fun ls hl => ?_)
  refine lv_iconst (v := 0) hx hb dX10_dropAhead_2 (by decide) ?_
  refine lv_istore_n (lv' := [(3, .int ((0 : Int32))), (2, .int ((-1 : Int32))), (0, .ref (ad 0)), (1, .int a1)]) hx hb dX10_dropAhead_3 rfl hl (by decide) rfl (fun ls hl => ?_)
  exact key4 4096 (-1 : Int32) (0 : Int32) ls (lv_sub hl [2, 3, 1, 0] rfl) h
def f_X10_soundsOf_84 (G : Nat → Nat → Int32) (a1 : Int32) (a2 : Int32) (k5 : Int32 → Int32 → Option Int32) (x4 : Int32) (s84_0 : Int32) (s84_1 : Int32) : Option Int32 := k5 (s84_1 + s84_0) (x4 + 1)
def f_X10_soundsOf_56 (G : Nat → Nat → Int32) (a1 : Int32) (a2 : Int32) (k5 : Int32 → Int32 → Option Int32) (x3 : Int32) (x4 : Int32) (s56_0 : Int32) : Option Int32 := (if s56_0 = 0 then f_X10_soundsOf_84 G a1 a2 k5 x4 (0 : Int32) x3 else (if a2 = (4 : Int32) then ((f_X10_of G x4 (2 : Int32)).bind fun r3 => f_X10_soundsOf_84 G a1 a2 k5 x4 r3 x3) else f_X10_soundsOf_84 G a1 a2 k5 x4 (1 : Int32) x3))
def f_X10_soundsOf_55 (G : Nat → Nat → Int32) (a1 : Int32) (a2 : Int32) (k5 : Int32 → Int32 → Option Int32) (x3 : Int32) (x4 : Int32) : Option Int32 := f_X10_soundsOf_56 G a1 a2 k5 x3 x4 (0 : Int32)
def f_X10_soundsOf_51 (G : Nat → Nat → Int32) (a1 : Int32) (a2 : Int32) (k5 : Int32 → Int32 → Option Int32) (x3 : Int32) (x4 : Int32) : Option Int32 := f_X10_soundsOf_56 G a1 a2 k5 x3 x4 (1 : Int32)
def f_X10_soundsOf_48 (G : Nat → Nat → Int32) (a1 : Int32) (a2 : Int32) (k5 : Int32 → Int32 → Option Int32) (x3 : Int32) (x4 : Int32) (s48_0 : Int32) (s48_1 : Int32) : Option Int32 := (if s48_1 = s48_0 then f_X10_soundsOf_51 G a1 a2 k5 x3 x4 else f_X10_soundsOf_55 G a1 a2 k5 x3 x4)
def f_X10_soundsOf_5 (G : Nat → Nat → Int32) (a1 : Int32) (a2 : Int32) (n : Nat) (y3 : Int32) (y4 : Int32) : Option Int32 := lq2 (fun (k5 : Int32 → Int32 → Option Int32) (x3 : Int32) (x4 : Int32) => (if (G 1 1) ≤ x4 then some x3 else ((f_X10_of G x4 (0 : Int32)).bind fun r6 => (if r6 = a1 then (if a2 = (4 : Int32) then f_X10_soundsOf_51 G a1 a2 k5 x3 x4 else ((f_X10_isDrop G x4).bind fun r9 => (if a2 = (2 : Int32) then f_X10_soundsOf_48 G a1 a2 k5 x3 x4 (1 : Int32) r9 else f_X10_soundsOf_48 G a1 a2 k5 x3 x4 (0 : Int32) r9))) else f_X10_soundsOf_55 G a1 a2 k5 x3 x4)))) n y3 y4
def f_X10_soundsOf (G : Nat → Nat → Int32) (a1 : Int32) (a2 : Int32) : Option Int32 := f_X10_soundsOf_5 G a1 a2 4096 (0 : Int32) (0 : Int32)
set_option maxRecDepth 100000 in
set_option maxHeartbeats 4000000 in
theorem q_X10_soundsOf (l : Launch) (D : va_G) (Y : Nat → ClassId) (ad : Nat → Nat) (G : Nat → Nat → Int32) (a1 : Int32) (a2 : Int32) (r : Int32) (h : f_X10_soundsOf G a1 a2 = some r) : RD l yX10_soundsOf cX10_soundsOf 6 (some .int) 2 D Y (wsM Y ad G) [.ref (ad 0), .int a1, .int a2] r := by
  refine RD_of (by decide) (Nat.le_of_ble_eq_true rfl) (lv := [(0, .ref (ad 0)), (1, .int a1), (2, .int a2)]) rfl ?_
  intro p e s m below meth c ls F hP hr hk hl
  have F : Fx p c cX10_soundsOf 6 s m _ RX10 D Y := F
  have hx := F.1.1
  have hb := F.1.2.1
  have key5 : ∀ (n : Nat) (x3 : Int32) (x4 : Int32) (ls : Array Slot), lv_has ls 6 [(0, .ref (ad 0)), (1, .int a1), (2, .int a2), (3, .int x3), (4, .int x4)] → f_X10_soundsOf_5 G a1 a2  n x3 x4 = some r → WD p l e 2 s m ([.ref (ad 0), .int a1, .int a2] : List Value).toArray below meth c s.heap (some .int) r (F0 m 5 ls []) := by
    intro  n
    induction n with
    | zero => intro x3 x4 ls hl h; exact lqZ2 h
    | succ n5 ih5 =>
      have key84 : ∀ (x4 : Int32) (s84_0 : Int32) (s84_1 : Int32) (ls : Array Slot), lv_has ls 6 [(0, .ref (ad 0)), (1, .int a1), (2, .int a2), (4, .int x4)] → f_X10_soundsOf_84 G a1 a2 (f_X10_soundsOf_5 G a1 a2   n5) x4 s84_0 s84_1 = some r → WD p l e 2 s m ([.ref (ad 0), .int a1, .int a2] : List Value).toArray below meth c s.heap (some .int) r (F0 m 84 ls [.int s84_0, .int s84_1]) := by
        intro x4 s84_0 s84_1 ls hl h
        refine lv_iadd hx hb dX10_soundsOf_84 ?_
        refine lv_istore_n (lv' := [(3, .int ((s84_1 + s84_0))), (0, .ref (ad 0)), (1, .int a1), (2, .int a2), (4, .int x4)]) hx hb dX10_soundsOf_85 rfl hl (by decide) rfl (fun ls hl => ?_)
        refine lv_iinc (v := (x4 + 1)) (lv' := [(4, .int ((x4 + 1))), (3, .int ((s84_1 + s84_0))), (0, .ref (ad 0)), (1, .int a1), (2, .int a2)]) hx hb dX10_soundsOf_86 hl (k := 4) rfl rfl (by decide) rfl (fun ls hl => ?_)
        refine lv_goto (tgt := 5) hx hb dX10_soundsOf_89 (by decide) ?_
        exact ih5 (s84_1 + s84_0) (x4 + 1) ls (lv_sub hl [2, 3, 4, 1, 0] rfl) h
      have key56 : ∀ (x3 : Int32) (x4 : Int32) (s56_0 : Int32) (ls : Array Slot), lv_has ls 6 [(0, .ref (ad 0)), (1, .int a1), (2, .int a2), (3, .int x3), (4, .int x4)] → f_X10_soundsOf_56 G a1 a2 (f_X10_soundsOf_5 G a1 a2   n5) x3 x4 s56_0 = some r → WD p l e 2 s m ([.ref (ad 0), .int a1, .int a2] : List Value).toArray below meth c s.heap (some .int) r (F0 m 56 ls [.int s56_0]) := by
        intro x3 x4 s56_0 ls hl h
        refine lv_istore (lv' := [(5, .int s56_0), (0, .ref (ad 0)), (1, .int a1), (2, .int a2), (3, .int x3), (4, .int x4)]) hx hb dX10_soundsOf_56 hl (by decide) rfl (fun ls hl => ?_)
        refine lv_iload_n hx hb dX10_soundsOf_58 rfl (lv_at hl 4 rfl) ?_
        refine lv_iload hx hb dX10_soundsOf_59 (lv_at hl 0 rfl) ?_
        refine lv_if_ne (tgt := 68) hx hb dX10_soundsOf_61 (by decide) (fun c1 => ?_) (fun c1 => ?_)
        · have h := ifF h c1
          refine lv_iload_n hx hb dX10_soundsOf_68 rfl (lv_at hl 3 rfl) ?_
          refine lv_iconst (v := 4) hx hb dX10_soundsOf_69 (by decide) ?_
          refine lv_icmp_ne (tgt := 83) hx hb dX10_soundsOf_70 (by decide) (fun c2 => ?_) (fun c2 => ?_)
          · have h := ifF h c2
            refine lv_iconst (v := 1) hx hb dX10_soundsOf_83 (by decide) ?_
            exact key84 x4 (1 : Int32) x3 ls (lv_sub hl [1, 2, 3, 5] rfl) h
          · have h := ifT h c2
            refine lv_aload_n hx hb dX10_soundsOf_73 rfl (lv_at hl 1 rfl) ?_
            refine lv_iload hx hb dX10_soundsOf_74 (lv_at hl 5 rfl) ?_
            refine lv_iconst (v := 2) hx hb dX10_soundsOf_76 (by decide) ?_
            obtain ⟨r3, e3, h⟩ := bsome h
            refine rd_V F hP k_X10_of mw_1433 0 11 rfl (wsW_get 0 (by decide)) (q_X10_of l D Y ad G x4 (2 : Int32) r3 e3) rfl hl.1 ⟨Nat.le_of_ble_eq_true rfl, Nat.le_of_ble_eq_true rfl⟩ (rest := [.int x3]) rfl (Nat.le_of_ble_eq_true rfl) ⟨Nat.le_of_ble_eq_true rfl, Nat.le_of_ble_eq_true rfl⟩ dX10_soundsOf_77 (fun o3 => ?_)
            refine lv_goto (tgt := 84) hx hb dX10_soundsOf_80 (by decide) ?_
            exact key84 x4 r3 x3 ls (lv_sub hl [1, 2, 3, 5] rfl) h
        · have h := ifT h c1
          refine lv_iconst (v := 0) hx hb dX10_soundsOf_64 (by decide) ?_
          refine lv_goto (tgt := 84) hx hb dX10_soundsOf_65 (by decide) ?_
          exact key84 x4 (0 : Int32) x3 ls (lv_sub hl [1, 2, 3, 5] rfl) h
      have key55 : ∀ (x3 : Int32) (x4 : Int32) (ls : Array Slot), lv_has ls 6 [(0, .ref (ad 0)), (1, .int a1), (2, .int a2), (3, .int x3), (4, .int x4)] → f_X10_soundsOf_55 G a1 a2 (f_X10_soundsOf_5 G a1 a2   n5) x3 x4 = some r → WD p l e 2 s m ([.ref (ad 0), .int a1, .int a2] : List Value).toArray below meth c s.heap (some .int) r (F0 m 55 ls []) := by
        intro x3 x4 ls hl h
        refine lv_iconst (v := 0) hx hb dX10_soundsOf_55 (by decide) ?_
        exact key56 x3 x4 (0 : Int32) ls (lv_sub hl [0, 1, 2, 3, 4] rfl) h
      have key51 : ∀ (x3 : Int32) (x4 : Int32) (ls : Array Slot), lv_has ls 6 [(0, .ref (ad 0)), (1, .int a1), (2, .int a2), (3, .int x3), (4, .int x4)] → f_X10_soundsOf_51 G a1 a2 (f_X10_soundsOf_5 G a1 a2   n5) x3 x4 = some r → WD p l e 2 s m ([.ref (ad 0), .int a1, .int a2] : List Value).toArray below meth c s.heap (some .int) r (F0 m 51 ls []) := by
        intro x3 x4 ls hl h
        refine lv_iconst (v := 1) hx hb dX10_soundsOf_51 (by decide) ?_
        refine lv_goto (tgt := 56) hx hb dX10_soundsOf_52 (by decide) ?_
        exact key56 x3 x4 (1 : Int32) ls (lv_sub hl [0, 1, 2, 3, 4] rfl) h
      have key48 : ∀ (x3 : Int32) (x4 : Int32) (s48_0 : Int32) (s48_1 : Int32) (ls : Array Slot), lv_has ls 6 [(0, .ref (ad 0)), (1, .int a1), (2, .int a2), (3, .int x3), (4, .int x4)] → f_X10_soundsOf_48 G a1 a2 (f_X10_soundsOf_5 G a1 a2   n5) x3 x4 s48_0 s48_1 = some r → WD p l e 2 s m ([.ref (ad 0), .int a1, .int a2] : List Value).toArray below meth c s.heap (some .int) r (F0 m 48 ls [.int s48_0, .int s48_1]) := by
        intro x3 x4 s48_0 s48_1 ls hl h
        refine lv_icmp_ne (tgt := 55) hx hb dX10_soundsOf_48 (by decide) (fun c4 => ?_) (fun c4 => ?_)
        · have h := ifF h c4
          exact key55 x3 x4 ls (lv_sub hl [0, 1, 2, 3, 4] rfl) h
        · have h := ifT h c4
          exact key51 x3 x4 ls (lv_sub hl [0, 1, 2, 3, 4] rfl) h
      intro x3 x4 ls hl h
      have h := lqS2 h
      refine lv_iload hx hb dX10_soundsOf_5 (lv_at hl 4 rfl) ?_
      refine lv_aload_n hx hb dX10_soundsOf_7 rfl (lv_at hl 0 rfl) ?_
      refine rM_0_0 F hP dX10_soundsOf_8 ?_
      refine lv_iconst (v := 1) hx hb dX10_soundsOf_11 (by decide) ?_
      refine alk F hP 1 (wsW_get 1 (by decide)) (k := 1) (by decide) (inbV (by decide) (by decide)) dX10_soundsOf_12 ?_
      refine lv_icmp_ge (tgt := 92) hx hb dX10_soundsOf_13 (by decide) (fun c5 => ?_) (fun c5 => ?_)
      · have h := ifT h c5
        refine lv_iload_n hx hb dX10_soundsOf_92 rfl (lv_at hl 3 rfl) ?_
        exact rd_end F hr hk rfl h dX10_soundsOf_93
      · have h := ifF h c5
        refine lv_aload_n hx hb dX10_soundsOf_16 rfl (lv_at hl 0 rfl) ?_
        refine lv_iload hx hb dX10_soundsOf_17 (lv_at hl 4 rfl) ?_
        refine lv_iconst (v := 0) hx hb dX10_soundsOf_19 (by decide) ?_
        obtain ⟨r6, e6, h⟩ := bsome h
        refine rd_V F hP k_X10_of mw_1433 0 11 rfl (wsW_get 0 (by decide)) (q_X10_of l D Y ad G x4 (0 : Int32) r6 e6) rfl hl.1 ⟨Nat.le_of_ble_eq_true rfl, Nat.le_of_ble_eq_true rfl⟩ (rest := []) rfl (Nat.le_of_ble_eq_true rfl) ⟨Nat.le_of_ble_eq_true rfl, Nat.le_of_ble_eq_true rfl⟩ dX10_soundsOf_20 (fun o6 => ?_)
        refine lv_iload_n hx hb dX10_soundsOf_23 rfl (lv_at hl 1 rfl) ?_
        refine lv_icmp_ne (tgt := 55) hx hb dX10_soundsOf_24 (by decide) (fun c7 => ?_) (fun c7 => ?_)
        · have h := ifF h c7
          exact key55 x3 x4 ls (lv_sub hl [0, 1, 2, 3, 4] rfl) h
        · have h := ifT h c7
          refine lv_iload_n hx hb dX10_soundsOf_27 rfl (lv_at hl 2 rfl) ?_
          refine lv_iconst (v := 4) hx hb dX10_soundsOf_28 (by decide) ?_
          refine lv_icmp_eq (tgt := 51) hx hb dX10_soundsOf_29 (by decide) (fun c8 => ?_) (fun c8 => ?_)
          · have h := ifT h c8
            exact key51 x3 x4 ls (lv_sub hl [0, 1, 2, 3, 4] rfl) h
          · have h := ifF h c8
            refine lv_aload_n hx hb dX10_soundsOf_32 rfl (lv_at hl 0 rfl) ?_
            refine lv_iload hx hb dX10_soundsOf_33 (lv_at hl 4 rfl) ?_
            obtain ⟨r9, e9, h⟩ := bsome h
            refine rd_V F hP k_X10_isDrop mw_1481 0 11 rfl (wsW_get 0 (by decide)) (q_X10_isDrop l D Y ad G x4 r9 e9) rfl hl.1 ⟨Nat.le_of_ble_eq_true rfl, Nat.le_of_ble_eq_true rfl⟩ (rest := []) rfl (Nat.le_of_ble_eq_true rfl) ⟨Nat.le_of_ble_eq_true rfl, Nat.le_of_ble_eq_true rfl⟩ dX10_soundsOf_35 (fun o9 => ?_)
            refine lv_iload_n hx hb dX10_soundsOf_38 rfl (lv_at hl 2 rfl) ?_
            refine lv_iconst (v := 2) hx hb dX10_soundsOf_39 (by decide) ?_
            refine lv_icmp_ne (tgt := 47) hx hb dX10_soundsOf_40 (by decide) (fun c10 => ?_) (fun c10 => ?_)
            · have h := ifF h c10
              refine lv_iconst (v := 0) hx hb dX10_soundsOf_47 (by decide) ?_
              exact key48 x3 x4 (0 : Int32) r9 ls (lv_sub hl [0, 1, 2, 3, 4] rfl) h
            · have h := ifT h c10
              refine lv_iconst (v := 1) hx hb dX10_soundsOf_43 (by decide) ?_
              refine lv_goto (tgt := 48) hx hb dX10_soundsOf_44 (by decide) ?_
              exact key48 x3 x4 (1 : Int32) r9 ls (lv_sub hl [0, 1, 2, 3, 4] rfl) h
  refine lv_iconst (v := 0) hx hb dX10_soundsOf_0 (by decide) ?_
  refine lv_istore_n (lv' := [(3, .int ((0 : Int32))), (0, .ref (ad 0)), (1, .int a1), (2, .int a2)]) hx hb dX10_soundsOf_1 rfl hl (by decide) rfl (fun ls hl => ?_)
  refine lv_iconst (v := 0) hx hb dX10_soundsOf_2 (by decide) ?_
  refine lv_istore (lv' := [(4, .int ((0 : Int32))), (3, .int ((0 : Int32))), (0, .ref (ad 0)), (1, .int a1), (2, .int a2)]) hx hb dX10_soundsOf_3 hl (by decide) rfl (fun ls hl => ?_)
  exact key5 4096 (0 : Int32) (0 : Int32) ls (lv_sub hl [2, 3, 4, 1, 0] rfl) h
def f_X10_barAt_2 (G : Nat → Nat → Int32) (a1 : Int32) (n : Nat) (y2 : Int32) : Option Int32 := lq1 (fun (k2 : Int32 → Option Int32) (x2 : Int32) => ((f_X10_barBegin G (x2 + (1 : Int32))).bind fun r1 => (if a1 < r1 then some x2 else k2 (x2 + 1)))) n y2
def f_X10_barAt (G : Nat → Nat → Int32) (a1 : Int32) : Option Int32 := f_X10_barAt_2 G a1 4096 (0 : Int32)
set_option maxRecDepth 100000 in
set_option maxHeartbeats 4000000 in
theorem q_X10_barAt (l : Launch) (D : va_G) (Y : Nat → ClassId) (ad : Nat → Nat) (G : Nat → Nat → Int32) (a1 : Int32) (r : Int32) (h : f_X10_barAt G a1 = some r) : RD l yX10_barAt cX10_barAt 3 (some .int) 1 D Y (wsM Y ad G) [.ref (ad 0), .int a1] r := by
  refine RD_of (by decide) (Nat.le_of_ble_eq_true rfl) (lv := [(0, .ref (ad 0)), (1, .int a1)]) rfl ?_
  intro p e s m below meth c ls F hP hr hk hl
  have F : Fx p c cX10_barAt 3 s m _ RX10 D Y := F
  have hx := F.1.1
  have hb := F.1.2.1
  have key2 : ∀ (n : Nat) (x2 : Int32) (ls : Array Slot), lv_has ls 3 [(0, .ref (ad 0)), (1, .int a1), (2, .int x2)] → f_X10_barAt_2 G a1  n x2 = some r → WD p l e 1 s m ([.ref (ad 0), .int a1] : List Value).toArray below meth c s.heap (some .int) r (F0 m 2 ls []) := by
    intro  n
    induction n with
    | zero => intro x2 ls hl h; exact lqZ1 h
    | succ n2 ih2 =>
      intro x2 ls hl h
      have h := lqS1 h
      refine lv_iload_n hx hb dX10_barAt_2 rfl (lv_at hl 1 rfl) ?_
      refine lv_aload_n hx hb dX10_barAt_3 rfl (lv_at hl 0 rfl) ?_
      refine lv_iload_n hx hb dX10_barAt_4 rfl (lv_at hl 2 rfl) ?_
      refine lv_iconst (v := 1) hx hb dX10_barAt_5 (by decide) ?_
      refine lv_iadd hx hb dX10_barAt_6 ?_
      obtain ⟨r1, e1, h⟩ := bsome h
      refine rd_V F hP k_X10_barBegin mw_1425 0 11 rfl (wsW_get 0 (by decide)) (q_X10_barBegin l D Y ad G (x2 + (1 : Int32)) r1 e1) rfl hl.1 ⟨Nat.le_of_ble_eq_true rfl, Nat.le_of_ble_eq_true rfl⟩ (rest := [.int a1]) rfl (Nat.le_of_ble_eq_true rfl) ⟨Nat.le_of_ble_eq_true rfl, Nat.le_of_ble_eq_true rfl⟩ dX10_barAt_7 (fun o1 => ?_)
      refine lv_icmp_lt (tgt := 19) hx hb dX10_barAt_10 (by decide) (fun c2 => ?_) (fun c2 => ?_)
      · have h := ifT h c2
        refine lv_iload_n hx hb dX10_barAt_19 rfl (lv_at hl 2 rfl) ?_
        exact rd_end F hr hk rfl h dX10_barAt_20
      · have h := ifF h c2
        refine lv_iinc (v := (x2 + 1)) (lv' := [(2, .int ((x2 + 1))), (0, .ref (ad 0)), (1, .int a1)]) hx hb dX10_barAt_13 hl (k := 2) rfl rfl (by decide) rfl (fun ls hl => ?_)
        refine lv_goto (tgt := 2) hx hb dX10_barAt_16 (by decide) ?_
        exact ih2 (x2 + 1) ls (lv_sub hl [1, 2, 0] rfl) h
  refine lv_iconst (v := 0) hx hb dX10_barAt_0 (by decide) ?_
  refine lv_istore_n (lv' := [(2, .int ((0 : Int32))), (0, .ref (ad 0)), (1, .int a1)]) hx hb dX10_barAt_1 rfl hl (by decide) rfl (fun ls hl => ?_)
  exact key2 4096 (0 : Int32) ls (lv_sub hl [1, 2, 0] rfl) h
def f_X10_begunIn_33 (G : Nat → Nat → Int32) (a1 : Int32) (k4 : Int32 → Int32 → Option Int32) (x3 : Int32) (s33_0 : Int32) (s33_1 : Int32) : Option Int32 := k4 (s33_1 + s33_0) (x3 + 1)
def f_X10_begunIn_4 (G : Nat → Nat → Int32) (a1 : Int32) (n : Nat) (y2 : Int32) (y3 : Int32) : Option Int32 := lq2 (fun (k4 : Int32 → Int32 → Option Int32) (x2 : Int32) (x3 : Int32) => (if (G 1 1) ≤ x3 then some x2 else ((f_X10_begin G x3).bind fun r2 => ((f_X10_barAt G r2).bind fun r3 => (if r3 = a1 then f_X10_begunIn_33 G a1 k4 x3 (1 : Int32) x2 else f_X10_begunIn_33 G a1 k4 x3 (0 : Int32) x2))))) n y2 y3
def f_X10_begunIn (G : Nat → Nat → Int32) (a1 : Int32) : Option Int32 := f_X10_begunIn_4 G a1 4096 (0 : Int32) (0 : Int32)
set_option maxRecDepth 100000 in
set_option maxHeartbeats 4000000 in
theorem q_X10_begunIn (l : Launch) (D : va_G) (Y : Nat → ClassId) (ad : Nat → Nat) (G : Nat → Nat → Int32) (a1 : Int32) (r : Int32) (h : f_X10_begunIn G a1 = some r) : RD l yX10_begunIn cX10_begunIn 4 (some .int) 2 D Y (wsM Y ad G) [.ref (ad 0), .int a1] r := by
  refine RD_of (by decide) (Nat.le_of_ble_eq_true rfl) (lv := [(0, .ref (ad 0)), (1, .int a1)]) rfl ?_
  intro p e s m below meth c ls F hP hr hk hl
  have F : Fx p c cX10_begunIn 4 s m _ RX10 D Y := F
  have hx := F.1.1
  have hb := F.1.2.1
  have key4 : ∀ (n : Nat) (x2 : Int32) (x3 : Int32) (ls : Array Slot), lv_has ls 4 [(0, .ref (ad 0)), (1, .int a1), (2, .int x2), (3, .int x3)] → f_X10_begunIn_4 G a1  n x2 x3 = some r → WD p l e 2 s m ([.ref (ad 0), .int a1] : List Value).toArray below meth c s.heap (some .int) r (F0 m 4 ls []) := by
    intro  n
    induction n with
    | zero => intro x2 x3 ls hl h; exact lqZ2 h
    | succ n4 ih4 =>
      have key33 : ∀ (x3 : Int32) (s33_0 : Int32) (s33_1 : Int32) (ls : Array Slot), lv_has ls 4 [(0, .ref (ad 0)), (1, .int a1), (3, .int x3)] → f_X10_begunIn_33 G a1 (f_X10_begunIn_4 G a1   n4) x3 s33_0 s33_1 = some r → WD p l e 2 s m ([.ref (ad 0), .int a1] : List Value).toArray below meth c s.heap (some .int) r (F0 m 33 ls [.int s33_0, .int s33_1]) := by
        intro x3 s33_0 s33_1 ls hl h
        refine lv_iadd hx hb dX10_begunIn_33 ?_
        refine lv_istore_n (lv' := [(2, .int ((s33_1 + s33_0))), (0, .ref (ad 0)), (1, .int a1), (3, .int x3)]) hx hb dX10_begunIn_34 rfl hl (by decide) rfl (fun ls hl => ?_)
        refine lv_iinc (v := (x3 + 1)) (lv' := [(3, .int ((x3 + 1))), (2, .int ((s33_1 + s33_0))), (0, .ref (ad 0)), (1, .int a1)]) hx hb dX10_begunIn_35 hl (k := 3) rfl rfl (by decide) rfl (fun ls hl => ?_)
        refine lv_goto (tgt := 4) hx hb dX10_begunIn_38 (by decide) ?_
        exact ih4 (s33_1 + s33_0) (x3 + 1) ls (lv_sub hl [2, 3, 1, 0] rfl) h
      intro x2 x3 ls hl h
      have h := lqS2 h
      refine lv_iload_n hx hb dX10_begunIn_4 rfl (lv_at hl 3 rfl) ?_
      refine lv_aload_n hx hb dX10_begunIn_5 rfl (lv_at hl 0 rfl) ?_
      refine rM_0_0 F hP dX10_begunIn_6 ?_
      refine lv_iconst (v := 1) hx hb dX10_begunIn_9 (by decide) ?_
      refine alk F hP 1 (wsW_get 1 (by decide)) (k := 1) (by decide) (inbV (by decide) (by decide)) dX10_begunIn_10 ?_
      refine lv_icmp_ge (tgt := 41) hx hb dX10_begunIn_11 (by decide) (fun c1 => ?_) (fun c1 => ?_)
      · have h := ifT h c1
        refine lv_iload_n hx hb dX10_begunIn_41 rfl (lv_at hl 2 rfl) ?_
        exact rd_end F hr hk rfl h dX10_begunIn_42
      · have h := ifF h c1
        refine lv_iload_n hx hb dX10_begunIn_14 rfl (lv_at hl 2 rfl) ?_
        refine lv_aload_n hx hb dX10_begunIn_15 rfl (lv_at hl 0 rfl) ?_
        refine lv_aload_n hx hb dX10_begunIn_16 rfl (lv_at hl 0 rfl) ?_
        refine lv_iload_n hx hb dX10_begunIn_17 rfl (lv_at hl 3 rfl) ?_
        obtain ⟨r2, e2, h⟩ := bsome h
        refine rd_V F hP k_X10_begin mw_1429 0 11 rfl (wsW_get 0 (by decide)) (q_X10_begin l D Y ad G x3 r2 e2) rfl hl.1 ⟨Nat.le_of_ble_eq_true rfl, Nat.le_of_ble_eq_true rfl⟩ (rest := [.ref (ad 0), .int x2]) rfl (Nat.le_of_ble_eq_true rfl) ⟨Nat.le_of_ble_eq_true rfl, Nat.le_of_ble_eq_true rfl⟩ dX10_begunIn_18 (fun o2 => ?_)
        obtain ⟨r3, e3, h⟩ := bsome h
        refine rd_V F hP k_X10_barAt mw_1503 0 11 rfl (wsW_get 0 (by decide)) (q_X10_barAt l D Y ad G r2 r3 e3) rfl hl.1 ⟨Nat.le_of_ble_eq_true rfl, Nat.le_of_ble_eq_true rfl⟩ (rest := [.int x2]) rfl (Nat.le_of_ble_eq_true rfl) ⟨Nat.le_of_ble_eq_true rfl, Nat.le_of_ble_eq_true rfl⟩ dX10_begunIn_21 (fun o3 => ?_)
        refine lv_iload_n hx hb dX10_begunIn_24 rfl (lv_at hl 1 rfl) ?_
        refine lv_icmp_ne (tgt := 32) hx hb dX10_begunIn_25 (by decide) (fun c4 => ?_) (fun c4 => ?_)
        · have h := ifF h c4
          refine lv_iconst (v := 0) hx hb dX10_begunIn_32 (by decide) ?_
          exact key33 x3 (0 : Int32) x2 ls (lv_sub hl [0, 1, 3] rfl) h
        · have h := ifT h c4
          refine lv_iconst (v := 1) hx hb dX10_begunIn_28 (by decide) ?_
          refine lv_goto (tgt := 33) hx hb dX10_begunIn_29 (by decide) ?_
          exact key33 x3 (1 : Int32) x2 ls (lv_sub hl [0, 1, 3] rfl) h
  refine lv_iconst (v := 0) hx hb dX10_begunIn_0 (by decide) ?_
  refine lv_istore_n (lv' := [(2, .int ((0 : Int32))), (0, .ref (ad 0)), (1, .int a1)]) hx hb dX10_begunIn_1 rfl hl (by decide) rfl (fun ls hl => ?_)
  refine lv_iconst (v := 0) hx hb dX10_begunIn_2 (by decide) ?_
  refine lv_istore_n (lv' := [(3, .int ((0 : Int32))), (2, .int ((0 : Int32))), (0, .ref (ad 0)), (1, .int a1)]) hx hb dX10_begunIn_3 rfl hl (by decide) rfl (fun ls hl => ?_)
  exact key4 4096 (0 : Int32) (0 : Int32) ls (lv_sub hl [2, 3, 1, 0] rfl) h
def f_X10_partAt_66 (G : Nat → Nat → Int32) (a1 : Int32) (a2 : Int32) (k8 : Int32 → Int32 → Int32 → Option Int32) (x3 : Int32) (x5 : Int32) (s66_0 : Int32) (s66_1 : Int32) : Option Int32 := k8 x3 (s66_1 + s66_0) (x5 + 1)
def f_X10_partAt_53 (G : Nat → Nat → Int32) (a1 : Int32) (a2 : Int32) (k8 : Int32 → Int32 → Int32 → Option Int32) (x4 : Int32) (x5 : Int32) (x6 : Int32) (s53_0 : Int32) : Option Int32 := (if x6 = 0 then f_X10_partAt_66 G a1 a2 k8 s53_0 x5 (0 : Int32) x4 else f_X10_partAt_66 G a1 a2 k8 s53_0 x5 (1 : Int32) x4)
def f_X10_partAt_52 (G : Nat → Nat → Int32) (a1 : Int32) (a2 : Int32) (k8 : Int32 → Int32 → Int32 → Option Int32) (x3 : Int32) (x4 : Int32) (x5 : Int32) (x6 : Int32) : Option Int32 := f_X10_partAt_53 G a1 a2 k8 x4 x5 x6 x3
def f_X10_partAt_34 (G : Nat → Nat → Int32) (a1 : Int32) (a2 : Int32) (k8 : Int32 → Int32 → Int32 → Option Int32) (x3 : Int32) (x4 : Int32) (x5 : Int32) (s34_0 : Int32) : Option Int32 := (if s34_0 = 0 then f_X10_partAt_52 G a1 a2 k8 x3 x4 x5 s34_0 else (if x4 = a2 then f_X10_partAt_53 G a1 a2 k8 x4 x5 s34_0 x5 else f_X10_partAt_52 G a1 a2 k8 x3 x4 x5 s34_0))
def f_X10_partAt_8 (G : Nat → Nat → Int32) (a1 : Int32) (a2 : Int32) (n : Nat) (y3 : Int32) (y4 : Int32) (y5 : Int32) : Option Int32 := lq3 (fun (k8 : Int32 → Int32 → Int32 → Option Int32) (x3 : Int32) (x4 : Int32) (x5 : Int32) => (if (G 1 1) ≤ x5 then some x3 else ((f_X10_beatsIn G x5 a1).bind fun r5 => (if r5 ≤ 0 then f_X10_partAt_34 G a1 a2 k8 x3 x4 x5 (0 : Int32) else f_X10_partAt_34 G a1 a2 k8 x3 x4 x5 (1 : Int32))))) n y3 y4 y5
def f_X10_partAt (G : Nat → Nat → Int32) (a1 : Int32) (a2 : Int32) : Option Int32 := f_X10_partAt_8 G a1 a2 4096 (-1 : Int32) (0 : Int32) (0 : Int32)
set_option maxRecDepth 100000 in
set_option maxHeartbeats 4000000 in
theorem q_X10_partAt (l : Launch) (D : va_G) (Y : Nat → ClassId) (ad : Nat → Nat) (G : Nat → Nat → Int32) (a1 : Int32) (a2 : Int32) (r : Int32) (h : f_X10_partAt G a1 a2 = some r) : RD l yX10_partAt cX10_partAt 7 (some .int) 3 D Y (wsM Y ad G) [.ref (ad 0), .int a1, .int a2] r := by
  refine RD_of (by decide) (Nat.le_of_ble_eq_true rfl) (lv := [(0, .ref (ad 0)), (1, .int a1), (2, .int a2)]) rfl ?_
  intro p e s m below meth c ls F hP hr hk hl
  have F : Fx p c cX10_partAt 7 s m _ RX10 D Y := F
  have hx := F.1.1
  have hb := F.1.2.1
  have key8 : ∀ (n : Nat) (x3 : Int32) (x4 : Int32) (x5 : Int32) (ls : Array Slot), lv_has ls 7 [(0, .ref (ad 0)), (1, .int a1), (2, .int a2), (3, .int x3), (4, .int x4), (5, .int x5)] → f_X10_partAt_8 G a1 a2  n x3 x4 x5 = some r → WD p l e 3 s m ([.ref (ad 0), .int a1, .int a2] : List Value).toArray below meth c s.heap (some .int) r (F0 m 8 ls []) := by
    intro  n
    induction n with
    | zero => intro x3 x4 x5 ls hl h; exact lqZ3 h
    | succ n8 ih8 =>
      have key66 : ∀ (x3 : Int32) (x5 : Int32) (s66_0 : Int32) (s66_1 : Int32) (ls : Array Slot), lv_has ls 7 [(0, .ref (ad 0)), (1, .int a1), (2, .int a2), (3, .int x3), (5, .int x5)] → f_X10_partAt_66 G a1 a2 (f_X10_partAt_8 G a1 a2   n8) x3 x5 s66_0 s66_1 = some r → WD p l e 3 s m ([.ref (ad 0), .int a1, .int a2] : List Value).toArray below meth c s.heap (some .int) r (F0 m 66 ls [.int s66_0, .int s66_1]) := by
        intro x3 x5 s66_0 s66_1 ls hl h
        refine lv_iadd hx hb dX10_partAt_66 ?_
        refine lv_istore (lv' := [(4, .int ((s66_1 + s66_0))), (0, .ref (ad 0)), (1, .int a1), (2, .int a2), (3, .int x3), (5, .int x5)]) hx hb dX10_partAt_67 hl (by decide) rfl (fun ls hl => ?_)
        refine lv_iinc (v := (x5 + 1)) (lv' := [(5, .int ((x5 + 1))), (4, .int ((s66_1 + s66_0))), (0, .ref (ad 0)), (1, .int a1), (2, .int a2), (3, .int x3)]) hx hb dX10_partAt_69 hl (k := 5) rfl rfl (by decide) rfl (fun ls hl => ?_)
        refine lv_goto (tgt := 8) hx hb dX10_partAt_72 (by decide) ?_
        exact ih8 x3 (s66_1 + s66_0) (x5 + 1) ls (lv_sub hl [2, 3, 4, 5, 1, 0] rfl) h
      have key53 : ∀ (x4 : Int32) (x5 : Int32) (x6 : Int32) (s53_0 : Int32) (ls : Array Slot), lv_has ls 7 [(0, .ref (ad 0)), (1, .int a1), (2, .int a2), (4, .int x4), (5, .int x5), (6, .int x6)] → f_X10_partAt_53 G a1 a2 (f_X10_partAt_8 G a1 a2   n8) x4 x5 x6 s53_0 = some r → WD p l e 3 s m ([.ref (ad 0), .int a1, .int a2] : List Value).toArray below meth c s.heap (some .int) r (F0 m 53 ls [.int s53_0]) := by
        intro x4 x5 x6 s53_0 ls hl h
        refine lv_istore_n (lv' := [(3, .int s53_0), (0, .ref (ad 0)), (1, .int a1), (2, .int a2), (4, .int x4), (5, .int x5), (6, .int x6)]) hx hb dX10_partAt_53 rfl hl (by decide) rfl (fun ls hl => ?_)
        refine lv_iload hx hb dX10_partAt_54 (lv_at hl 4 rfl) ?_
        refine lv_iload hx hb dX10_partAt_56 (lv_at hl 6 rfl) ?_
        refine lv_if_eq (tgt := 65) hx hb dX10_partAt_58 (by decide) (fun c1 => ?_) (fun c1 => ?_)
        · have h := ifT h c1
          refine lv_iconst (v := 0) hx hb dX10_partAt_65 (by decide) ?_
          exact key66 s53_0 x5 (0 : Int32) x4 ls (lv_sub hl [1, 2, 3, 0, 5] rfl) h
        · have h := ifF h c1
          refine lv_iconst (v := 1) hx hb dX10_partAt_61 (by decide) ?_
          refine lv_goto (tgt := 66) hx hb dX10_partAt_62 (by decide) ?_
          exact key66 s53_0 x5 (1 : Int32) x4 ls (lv_sub hl [1, 2, 3, 0, 5] rfl) h
      have key52 : ∀ (x3 : Int32) (x4 : Int32) (x5 : Int32) (x6 : Int32) (ls : Array Slot), lv_has ls 7 [(0, .ref (ad 0)), (1, .int a1), (2, .int a2), (3, .int x3), (4, .int x4), (5, .int x5), (6, .int x6)] → f_X10_partAt_52 G a1 a2 (f_X10_partAt_8 G a1 a2   n8) x3 x4 x5 x6 = some r → WD p l e 3 s m ([.ref (ad 0), .int a1, .int a2] : List Value).toArray below meth c s.heap (some .int) r (F0 m 52 ls []) := by
        intro x3 x4 x5 x6 ls hl h
        refine lv_iload_n hx hb dX10_partAt_52 rfl (lv_at hl 3 rfl) ?_
        exact key53 x4 x5 x6 x3 ls (lv_sub hl [0, 1, 2, 4, 5, 6] rfl) h
      have key34 : ∀ (x3 : Int32) (x4 : Int32) (x5 : Int32) (s34_0 : Int32) (ls : Array Slot), lv_has ls 7 [(0, .ref (ad 0)), (1, .int a1), (2, .int a2), (3, .int x3), (4, .int x4), (5, .int x5)] → f_X10_partAt_34 G a1 a2 (f_X10_partAt_8 G a1 a2   n8) x3 x4 x5 s34_0 = some r → WD p l e 3 s m ([.ref (ad 0), .int a1, .int a2] : List Value).toArray below meth c s.heap (some .int) r (F0 m 34 ls [.int s34_0]) := by
        intro x3 x4 x5 s34_0 ls hl h
        refine lv_istore (lv' := [(6, .int s34_0), (0, .ref (ad 0)), (1, .int a1), (2, .int a2), (3, .int x3), (4, .int x4), (5, .int x5)]) hx hb dX10_partAt_34 hl (by decide) rfl (fun ls hl => ?_)
        refine lv_iload hx hb dX10_partAt_36 (lv_at hl 0 rfl) ?_
        refine lv_if_eq (tgt := 52) hx hb dX10_partAt_38 (by decide) (fun c2 => ?_) (fun c2 => ?_)
        · have h := ifT h c2
          exact key52 x3 x4 x5 s34_0 ls (lv_sub hl [1, 2, 3, 4, 5, 6, 0] rfl) h
        · have h := ifF h c2
          refine lv_iload hx hb dX10_partAt_41 (lv_at hl 5 rfl) ?_
          refine lv_iload_n hx hb dX10_partAt_43 rfl (lv_at hl 3 rfl) ?_
          refine lv_icmp_ne (tgt := 52) hx hb dX10_partAt_44 (by decide) (fun c3 => ?_) (fun c3 => ?_)
          · have h := ifF h c3
            exact key52 x3 x4 x5 s34_0 ls (lv_sub hl [1, 2, 3, 4, 5, 6, 0] rfl) h
          · have h := ifT h c3
            refine lv_iload hx hb dX10_partAt_47 (lv_at hl 6 rfl) ?_
            refine lv_goto (tgt := 53) hx hb dX10_partAt_49 (by decide) ?_
            exact key53 x4 x5 s34_0 x5 ls (lv_sub hl [1, 2, 3, 5, 6, 0] rfl) h
      intro x3 x4 x5 ls hl h
      have h := lqS3 h
      refine lv_iload hx hb dX10_partAt_8 (lv_at hl 5 rfl) ?_
      refine lv_aload_n hx hb dX10_partAt_10 rfl (lv_at hl 0 rfl) ?_
      refine rM_0_0 F hP dX10_partAt_11 ?_
      refine lv_iconst (v := 1) hx hb dX10_partAt_14 (by decide) ?_
      refine alk F hP 1 (wsW_get 1 (by decide)) (k := 1) (by decide) (inbV (by decide) (by decide)) dX10_partAt_15 ?_
      refine lv_icmp_ge (tgt := 75) hx hb dX10_partAt_16 (by decide) (fun c4 => ?_) (fun c4 => ?_)
      · have h := ifT h c4
        refine lv_iload_n hx hb dX10_partAt_75 rfl (lv_at hl 3 rfl) ?_
        exact rd_end F hr hk rfl h dX10_partAt_76
      · have h := ifF h c4
        refine lv_aload_n hx hb dX10_partAt_19 rfl (lv_at hl 0 rfl) ?_
        refine lv_iload hx hb dX10_partAt_20 (lv_at hl 5 rfl) ?_
        refine lv_iload_n hx hb dX10_partAt_22 rfl (lv_at hl 1 rfl) ?_
        obtain ⟨r5, e5, h⟩ := bsome h
        refine rd_V F hP k_X10_beatsIn mw_1497 0 11 rfl (wsW_get 0 (by decide)) (q_X10_beatsIn l D Y ad G x5 a1 r5 e5) rfl hl.1 ⟨Nat.le_of_ble_eq_true rfl, Nat.le_of_ble_eq_true rfl⟩ (rest := []) rfl (Nat.le_of_ble_eq_true rfl) ⟨Nat.le_of_ble_eq_true rfl, Nat.le_of_ble_eq_true rfl⟩ dX10_partAt_23 (fun o5 => ?_)
        refine lv_if_le (tgt := 33) hx hb dX10_partAt_26 (by decide) (fun c6 => ?_) (fun c6 => ?_)
        · have h := ifT h c6
          refine lv_iconst (v := 0) hx hb dX10_partAt_33 (by decide) ?_
          exact key34 x3 x4 x5 (0 : Int32) ls (lv_sub hl [0, 1, 2, 3, 4, 5] rfl) h
        · have h := ifF h c6
          refine lv_iconst (v := 1) hx hb dX10_partAt_29 (by decide) ?_
          refine lv_goto (tgt := 34) hx hb dX10_partAt_30 (by decide) ?_
          exact key34 x3 x4 x5 (1 : Int32) ls (lv_sub hl [0, 1, 2, 3, 4, 5] rfl) h
  refine lv_iconst (v := -1) hx hb dX10_partAt_0 (by decide) ?_
  refine lv_istore_n (lv' := [(3, .int ((-1 : Int32))), (0, .ref (ad 0)), (1, .int a1), (2, .int a2)]) hx hb dX10_partAt_1 rfl hl (by decide) rfl (fun ls hl => ?_)
  refine lv_iconst (v := 0) hx hb dX10_partAt_2 (by decide) ?_
  refine lv_istore (lv' := [(4, .int ((0 : Int32))), (3, .int ((-1 : Int32))), (0, .ref (ad 0)), (1, .int a1), (2, .int a2)]) hx hb dX10_partAt_3 hl (by decide) rfl (fun ls hl => ?_)
  refine lv_iconst (v := 0) hx hb dX10_partAt_5 (by decide) ?_
  refine lv_istore (lv' := [(5, .int ((0 : Int32))), (4, .int ((0 : Int32))), (3, .int ((-1 : Int32))), (0, .ref (ad 0)), (1, .int a1), (2, .int a2)]) hx hb dX10_partAt_6 hl (by decide) rfl (fun ls hl => ?_)
  exact key8 4096 (-1 : Int32) (0 : Int32) (0 : Int32) ls (lv_sub hl [3, 4, 5, 2, 1, 0] rfl) h
def f_X10_isTied (G : Nat → Nat → Int32) (a1 : Int32) (a2 : Int32) : Option Int32 := ((f_X10_begin G a1).bind fun r1 => ((f_X10_barBegin G a2).bind fun r2 => (if r2 ≤ r1 then some (0 : Int32) else some (1 : Int32))))
set_option maxRecDepth 100000 in
set_option maxHeartbeats 4000000 in
theorem q_X10_isTied (l : Launch) (D : va_G) (Y : Nat → ClassId) (ad : Nat → Nat) (G : Nat → Nat → Int32) (a1 : Int32) (a2 : Int32) (r : Int32) (h : f_X10_isTied G a1 a2 = some r) : RD l yX10_isTied cX10_isTied 3 (some .boolean) 2 D Y (wsM Y ad G) [.ref (ad 0), .int a1, .int a2] r := by
  refine RD_of (by decide) (Nat.le_of_ble_eq_true rfl) (lv := [(0, .ref (ad 0)), (1, .int a1), (2, .int a2)]) rfl ?_
  intro p e s m below meth c ls F hP hr hk hl
  have F : Fx p c cX10_isTied 3 s m _ RX10 D Y := F
  have hx := F.1.1
  have hb := F.1.2.1
  refine lv_aload_n hx hb dX10_isTied_0 rfl (lv_at hl 0 rfl) ?_
  refine lv_iload_n hx hb dX10_isTied_1 rfl (lv_at hl 1 rfl) ?_
  obtain ⟨r1, e1, h⟩ := bsome h
  refine rd_V F hP k_X10_begin mw_1429 0 11 rfl (wsW_get 0 (by decide)) (q_X10_begin l D Y ad G a1 r1 e1) rfl hl.1 ⟨Nat.le_of_ble_eq_true rfl, Nat.le_of_ble_eq_true rfl⟩ (rest := []) rfl (Nat.le_of_ble_eq_true rfl) ⟨Nat.le_of_ble_eq_true rfl, Nat.le_of_ble_eq_true rfl⟩ dX10_isTied_2 (fun o1 => ?_)
  refine lv_aload_n hx hb dX10_isTied_5 rfl (lv_at hl 0 rfl) ?_
  refine lv_iload_n hx hb dX10_isTied_6 rfl (lv_at hl 2 rfl) ?_
  obtain ⟨r2, e2, h⟩ := bsome h
  refine rd_V F hP k_X10_barBegin mw_1425 0 11 rfl (wsW_get 0 (by decide)) (q_X10_barBegin l D Y ad G a2 r2 e2) rfl hl.1 ⟨Nat.le_of_ble_eq_true rfl, Nat.le_of_ble_eq_true rfl⟩ (rest := [.int r1]) rfl (Nat.le_of_ble_eq_true rfl) ⟨Nat.le_of_ble_eq_true rfl, Nat.le_of_ble_eq_true rfl⟩ dX10_isTied_7 (fun o2 => ?_)
  refine lv_icmp_ge (tgt := 17) hx hb dX10_isTied_10 (by decide) (fun c3 => ?_) (fun c3 => ?_)
  · have h := ifT h c3
    refine lv_iconst (v := 0) hx hb dX10_isTied_17 (by decide) ?_
    exact rd_end F hr hk rfl h dX10_isTied_18
  · have h := ifF h c3
    refine lv_iconst (v := 1) hx hb dX10_isTied_13 (by decide) ?_
    refine lv_goto (tgt := 18) hx hb dX10_isTied_14 (by decide) ?_
    exact rd_end F hr hk rfl h dX10_isTied_18
def f_X10_isFault_56 (G : Nat → Nat → Int32) (a1 : Int32) (a2 : Int32) (s56_0 : Int32) (s56_1 : Int32) : Option Int32 := (if s56_1 ≤ s56_0 then some (0 : Int32) else some (1 : Int32))
def f_X10_isFault (G : Nat → Nat → Int32) (a1 : Int32) (a2 : Int32) : Option Int32 := (if a1 = (3 : Int32) then ((f_X10_barBegin G a2).bind fun r23 => ((f_X10_soundAt G r23).bind fun r24 => (if r24 < 0 then some (0 : Int32) else ((f_X10_isDrop G r24).bind fun r26 => (if r26 = 0 then some (1 : Int32) else some (0 : Int32)))))) else (if a1 = (4 : Int32) then ((f_X10_parts G a2).bind fun r20 => ((f_X10_isDrop G a2).bind fun r21 => (if r21 = 0 then f_X10_isFault_56 G a1 a2 (1 : Int32) r20 else f_X10_isFault_56 G a1 a2 (2 : Int32) r20))) else ((f_X10_dropAhead G a2).bind fun r4 => ((f_X10_isDrop G a2).bind fun r5 => (if r5 = 0 then some (0 : Int32) else (if 0 ≤ r4 then (if a1 = (1 : Int32) then ((f_X10_pitch G a2).bind fun r17 => ((f_X10_pitch G r4).bind fun r18 => (if (abs32 (r17 - r18)) ≤ (G 1 2) then some (0 : Int32) else some (1 : Int32)))) else ((f_X10_dropAhead G r4).bind fun r9 => (if r9 < 0 then some (0 : Int32) else ((f_X10_pitch G a2).bind fun r11 => ((f_X10_pitch G r4).bind fun r12 => (if r11 = r12 then ((f_X10_pitch G a2).bind fun r14 => ((f_X10_pitch G r9).bind fun r15 => (if r14 = r15 then some (1 : Int32) else some (0 : Int32)))) else some (0 : Int32))))))) else some (0 : Int32)))))))
set_option maxRecDepth 100000 in
set_option maxHeartbeats 4000000 in
theorem q_X10_isFault (l : Launch) (D : va_G) (Y : Nat → ClassId) (ad : Nat → Nat) (G : Nat → Nat → Int32) (a1 : Int32) (a2 : Int32) (r : Int32) (h : f_X10_isFault G a1 a2 = some r) : RD l yX10_isFault cX10_isFault 5 (some .boolean) 4 D Y (wsM Y ad G) [.ref (ad 0), .int a1, .int a2] r := by
  refine RD_of (by decide) (Nat.le_of_ble_eq_true rfl) (lv := [(0, .ref (ad 0)), (1, .int a1), (2, .int a2)]) rfl ?_
  intro p e s m below meth c ls F hP hr hk hl
  have F : Fx p c cX10_isFault 5 s m _ RX10 D Y := F
  have hx := F.1.1
  have hb := F.1.2.1
  have key56 : ∀ (s56_0 : Int32) (s56_1 : Int32) (ls : Array Slot), lv_has ls 5 [] → f_X10_isFault_56 G a1 a2  s56_0 s56_1 = some r → WD p l e 4 s m ([.ref (ad 0), .int a1, .int a2] : List Value).toArray below meth c s.heap (some .boolean) r (F0 m 56 ls [.int s56_0, .int s56_1]) := by
    intro s56_0 s56_1 ls hl h
    refine lv_icmp_le (tgt := 63) hx hb dX10_isFault_56 (by decide) (fun c1 => ?_) (fun c1 => ?_)
    · have h := ifT h c1
      refine lv_iconst (v := 0) hx hb dX10_isFault_63 (by decide) ?_
      exact rd_end F hr hk rfl h dX10_isFault_64
    · have h := ifF h c1
      refine lv_iconst (v := 1) hx hb dX10_isFault_59 (by decide) ?_
      refine lv_goto (tgt := 64) hx hb dX10_isFault_60 (by decide) ?_
      exact rd_end F hr hk rfl h dX10_isFault_64
  refine lv_iload_n hx hb dX10_isFault_0 rfl (lv_at hl 1 rfl) ?_
  refine lv_iconst (v := 3) hx hb dX10_isFault_1 (by decide) ?_
  refine lv_icmp_ne (tgt := 33) hx hb dX10_isFault_2 (by decide) (fun c2 => ?_) (fun c2 => ?_)
  · have h := ifF h c2
    refine lv_iload_n hx hb dX10_isFault_33 rfl (lv_at hl 1 rfl) ?_
    refine lv_iconst (v := 4) hx hb dX10_isFault_34 (by decide) ?_
    refine lv_icmp_ne (tgt := 65) hx hb dX10_isFault_35 (by decide) (fun c3 => ?_) (fun c3 => ?_)
    · have h := ifF h c3
      refine lv_aload_n hx hb dX10_isFault_65 rfl (lv_at hl 0 rfl) ?_
      refine lv_iload_n hx hb dX10_isFault_66 rfl (lv_at hl 2 rfl) ?_
      obtain ⟨r4, e4, h⟩ := bsome h
      refine rd_V F hP k_X10_dropAhead mw_1559 0 11 rfl (wsW_get 0 (by decide)) (q_X10_dropAhead l D Y ad G a2 r4 e4) rfl hl.1 ⟨Nat.le_of_ble_eq_true rfl, Nat.le_of_ble_eq_true rfl⟩ (rest := []) rfl (Nat.le_of_ble_eq_true rfl) ⟨Nat.le_of_ble_eq_true rfl, Nat.le_of_ble_eq_true rfl⟩ dX10_isFault_67 (fun o4 => ?_)
      refine lv_istore_n (lv' := [(3, .int r4), (0, .ref (ad 0)), (1, .int a1), (2, .int a2)]) hx hb dX10_isFault_70 rfl hl (by decide) rfl (fun ls hl => ?_)
      refine lv_aload_n hx hb dX10_isFault_71 rfl (lv_at hl 1 rfl) ?_
      refine lv_iload_n hx hb dX10_isFault_72 rfl (lv_at hl 3 rfl) ?_
      obtain ⟨r5, e5, h⟩ := bsome h
      refine rd_V F hP k_X10_isDrop mw_1481 0 11 rfl (wsW_get 0 (by decide)) (q_X10_isDrop l D Y ad G a2 r5 e5) rfl hl.1 ⟨Nat.le_of_ble_eq_true rfl, Nat.le_of_ble_eq_true rfl⟩ (rest := []) rfl (Nat.le_of_ble_eq_true rfl) ⟨Nat.le_of_ble_eq_true rfl, Nat.le_of_ble_eq_true rfl⟩ dX10_isFault_73 (fun o5 => ?_)
      refine lv_if_eq (tgt := 83) hx hb dX10_isFault_76 (by decide) (fun c6 => ?_) (fun c6 => ?_)
      · have h := ifT h c6
        refine lv_iconst (v := 0) hx hb dX10_isFault_83 (by decide) ?_
        exact rd_end F hr hk rfl h dX10_isFault_84
      · have h := ifF h c6
        refine lv_iload_n hx hb dX10_isFault_79 rfl (lv_at hl 0 rfl) ?_
        refine lv_if_ge (tgt := 85) hx hb dX10_isFault_80 (by decide) (fun c7 => ?_) (fun c7 => ?_)
        · have h := ifT h c7
          refine lv_iload_n hx hb dX10_isFault_85 rfl (lv_at hl 2 rfl) ?_
          refine lv_iconst (v := 1) hx hb dX10_isFault_86 (by decide) ?_
          refine lv_icmp_ne (tgt := 119) hx hb dX10_isFault_87 (by decide) (fun c8 => ?_) (fun c8 => ?_)
          · have h := ifF h c8
            refine lv_aload_n hx hb dX10_isFault_119 rfl (lv_at hl 1 rfl) ?_
            refine lv_iload_n hx hb dX10_isFault_120 rfl (lv_at hl 0 rfl) ?_
            obtain ⟨r9, e9, h⟩ := bsome h
            refine rd_V F hP k_X10_dropAhead mw_1559 0 11 rfl (wsW_get 0 (by decide)) (q_X10_dropAhead l D Y ad G r4 r9 e9) rfl hl.1 ⟨Nat.le_of_ble_eq_true rfl, Nat.le_of_ble_eq_true rfl⟩ (rest := []) rfl (Nat.le_of_ble_eq_true rfl) ⟨Nat.le_of_ble_eq_true rfl, Nat.le_of_ble_eq_true rfl⟩ dX10_isFault_121 (fun o9 => ?_)
            refine lv_istore (lv' := [(4, .int r9), (3, .int r4), (0, .ref (ad 0)), (1, .int a1), (2, .int a2)]) hx hb dX10_isFault_124 hl (by decide) rfl (fun ls hl => ?_)
            refine lv_iload hx hb dX10_isFault_126 (lv_at hl 0 rfl) ?_
            refine lv_if_lt (tgt := 162) hx hb dX10_isFault_128 (by decide) (fun c10 => ?_) (fun c10 => ?_)
            · have h := ifT h c10
              refine lv_iconst (v := 0) hx hb dX10_isFault_162 (by decide) ?_
              exact rd_end F hr hk rfl h dX10_isFault_163
            · have h := ifF h c10
              refine lv_aload_n hx hb dX10_isFault_131 rfl (lv_at hl 2 rfl) ?_
              refine lv_iload_n hx hb dX10_isFault_132 rfl (lv_at hl 4 rfl) ?_
              obtain ⟨r11, e11, h⟩ := bsome h
              refine rd_V F hP k_X10_pitch mw_1489 0 11 rfl (wsW_get 0 (by decide)) (q_X10_pitch l D Y ad G a2 r11 e11) rfl hl.1 ⟨Nat.le_of_ble_eq_true rfl, Nat.le_of_ble_eq_true rfl⟩ (rest := []) rfl (Nat.le_of_ble_eq_true rfl) ⟨Nat.le_of_ble_eq_true rfl, Nat.le_of_ble_eq_true rfl⟩ dX10_isFault_133 (fun o11 => ?_)
              refine lv_aload_n hx hb dX10_isFault_136 rfl (lv_at hl 2 rfl) ?_
              refine lv_iload_n hx hb dX10_isFault_137 rfl (lv_at hl 1 rfl) ?_
              obtain ⟨r12, e12, h⟩ := bsome h
              refine rd_V F hP k_X10_pitch mw_1489 0 11 rfl (wsW_get 0 (by decide)) (q_X10_pitch l D Y ad G r4 r12 e12) rfl hl.1 ⟨Nat.le_of_ble_eq_true rfl, Nat.le_of_ble_eq_true rfl⟩ (rest := [.int r11]) rfl (Nat.le_of_ble_eq_true rfl) ⟨Nat.le_of_ble_eq_true rfl, Nat.le_of_ble_eq_true rfl⟩ dX10_isFault_138 (fun o12 => ?_)
              refine lv_icmp_ne (tgt := 162) hx hb dX10_isFault_141 (by decide) (fun c13 => ?_) (fun c13 => ?_)
              · have h := ifF h c13
                refine lv_iconst (v := 0) hx hb dX10_isFault_162 (by decide) ?_
                exact rd_end F hr hk rfl h dX10_isFault_163
              · have h := ifT h c13
                refine lv_aload_n hx hb dX10_isFault_144 rfl (lv_at hl 2 rfl) ?_
                refine lv_iload_n hx hb dX10_isFault_145 rfl (lv_at hl 4 rfl) ?_
                obtain ⟨r14, e14, h⟩ := bsome h
                refine rd_V F hP k_X10_pitch mw_1489 0 11 rfl (wsW_get 0 (by decide)) (q_X10_pitch l D Y ad G a2 r14 e14) rfl hl.1 ⟨Nat.le_of_ble_eq_true rfl, Nat.le_of_ble_eq_true rfl⟩ (rest := []) rfl (Nat.le_of_ble_eq_true rfl) ⟨Nat.le_of_ble_eq_true rfl, Nat.le_of_ble_eq_true rfl⟩ dX10_isFault_146 (fun o14 => ?_)
                refine lv_aload_n hx hb dX10_isFault_149 rfl (lv_at hl 2 rfl) ?_
                refine lv_iload hx hb dX10_isFault_150 (lv_at hl 0 rfl) ?_
                obtain ⟨r15, e15, h⟩ := bsome h
                refine rd_V F hP k_X10_pitch mw_1489 0 11 rfl (wsW_get 0 (by decide)) (q_X10_pitch l D Y ad G r9 r15 e15) rfl hl.1 ⟨Nat.le_of_ble_eq_true rfl, Nat.le_of_ble_eq_true rfl⟩ (rest := [.int r14]) rfl (Nat.le_of_ble_eq_true rfl) ⟨Nat.le_of_ble_eq_true rfl, Nat.le_of_ble_eq_true rfl⟩ dX10_isFault_152 (fun o15 => ?_)
                refine lv_icmp_ne (tgt := 162) hx hb dX10_isFault_155 (by decide) (fun c16 => ?_) (fun c16 => ?_)
                · have h := ifF h c16
                  refine lv_iconst (v := 0) hx hb dX10_isFault_162 (by decide) ?_
                  exact rd_end F hr hk rfl h dX10_isFault_163
                · have h := ifT h c16
                  refine lv_iconst (v := 1) hx hb dX10_isFault_158 (by decide) ?_
                  refine lv_goto (tgt := 163) hx hb dX10_isFault_159 (by decide) ?_
                  exact rd_end F hr hk rfl h dX10_isFault_163
          · have h := ifT h c8
            refine lv_aload_n hx hb dX10_isFault_90 rfl (lv_at hl 1 rfl) ?_
            refine lv_iload_n hx hb dX10_isFault_91 rfl (lv_at hl 3 rfl) ?_
            obtain ⟨r17, e17, h⟩ := bsome h
            refine rd_V F hP k_X10_pitch mw_1489 0 11 rfl (wsW_get 0 (by decide)) (q_X10_pitch l D Y ad G a2 r17 e17) rfl hl.1 ⟨Nat.le_of_ble_eq_true rfl, Nat.le_of_ble_eq_true rfl⟩ (rest := []) rfl (Nat.le_of_ble_eq_true rfl) ⟨Nat.le_of_ble_eq_true rfl, Nat.le_of_ble_eq_true rfl⟩ dX10_isFault_92 (fun o17 => ?_)
            refine lv_aload_n hx hb dX10_isFault_95 rfl (lv_at hl 1 rfl) ?_
            refine lv_iload_n hx hb dX10_isFault_96 rfl (lv_at hl 0 rfl) ?_
            obtain ⟨r18, e18, h⟩ := bsome h
            refine rd_V F hP k_X10_pitch mw_1489 0 11 rfl (wsW_get 0 (by decide)) (q_X10_pitch l D Y ad G r4 r18 e18) rfl hl.1 ⟨Nat.le_of_ble_eq_true rfl, Nat.le_of_ble_eq_true rfl⟩ (rest := [.int r17]) rfl (Nat.le_of_ble_eq_true rfl) ⟨Nat.le_of_ble_eq_true rfl, Nat.le_of_ble_eq_true rfl⟩ dX10_isFault_97 (fun o18 => ?_)
            refine lv_isub hx hb dX10_isFault_100 ?_
            refine w_abs F hl mw_1563 ⟨Nat.le_of_ble_eq_true rfl, Nat.le_of_ble_eq_true rfl, Nat.le_of_ble_eq_true rfl, Nat.le_of_ble_eq_true rfl⟩ dX10_isFault_101 ?_
            refine lv_aload_n hx hb dX10_isFault_104 rfl (lv_at hl 1 rfl) ?_
            refine rM_0_0 F hP dX10_isFault_105 ?_
            refine lv_iconst (v := 2) hx hb dX10_isFault_108 (by decide) ?_
            refine alk F hP 1 (wsW_get 1 (by decide)) (k := 2) (by decide) (inbV (by decide) (by decide)) dX10_isFault_109 ?_
            refine lv_icmp_le (tgt := 117) hx hb dX10_isFault_110 (by decide) (fun c19 => ?_) (fun c19 => ?_)
            · have h := ifT h c19
              refine lv_iconst (v := 0) hx hb dX10_isFault_117 (by decide) ?_
              exact rd_end F hr hk rfl h dX10_isFault_118
            · have h := ifF h c19
              refine lv_iconst (v := 1) hx hb dX10_isFault_113 (by decide) ?_
              refine lv_goto (tgt := 118) hx hb dX10_isFault_114 (by decide) ?_
              exact rd_end F hr hk rfl h dX10_isFault_118
        · have h := ifF h c7
          refine lv_iconst (v := 0) hx hb dX10_isFault_83 (by decide) ?_
          exact rd_end F hr hk rfl h dX10_isFault_84
    · have h := ifT h c3
      refine lv_aload_n hx hb dX10_isFault_38 rfl (lv_at hl 0 rfl) ?_
      refine lv_iload_n hx hb dX10_isFault_39 rfl (lv_at hl 2 rfl) ?_
      obtain ⟨r20, e20, h⟩ := bsome h
      refine rd_V F hP k_X10_parts mw_1493 0 11 rfl (wsW_get 0 (by decide)) (q_X10_parts l D Y ad G a2 r20 e20) rfl hl.1 ⟨Nat.le_of_ble_eq_true rfl, Nat.le_of_ble_eq_true rfl⟩ (rest := []) rfl (Nat.le_of_ble_eq_true rfl) ⟨Nat.le_of_ble_eq_true rfl, Nat.le_of_ble_eq_true rfl⟩ dX10_isFault_40 (fun o20 => ?_)
      refine lv_aload_n hx hb dX10_isFault_43 rfl (lv_at hl 0 rfl) ?_
      refine lv_iload_n hx hb dX10_isFault_44 rfl (lv_at hl 2 rfl) ?_
      obtain ⟨r21, e21, h⟩ := bsome h
      refine rd_V F hP k_X10_isDrop mw_1481 0 11 rfl (wsW_get 0 (by decide)) (q_X10_isDrop l D Y ad G a2 r21 e21) rfl hl.1 ⟨Nat.le_of_ble_eq_true rfl, Nat.le_of_ble_eq_true rfl⟩ (rest := [.int r20]) rfl (Nat.le_of_ble_eq_true rfl) ⟨Nat.le_of_ble_eq_true rfl, Nat.le_of_ble_eq_true rfl⟩ dX10_isFault_45 (fun o21 => ?_)
      refine lv_if_eq (tgt := 55) hx hb dX10_isFault_48 (by decide) (fun c22 => ?_) (fun c22 => ?_)
      · have h := ifT h c22
        refine lv_iconst (v := 1) hx hb dX10_isFault_55 (by decide) ?_
        exact key56 (1 : Int32) r20 ls (lv_sub hl [] rfl) h
      · have h := ifF h c22
        refine lv_iconst (v := 2) hx hb dX10_isFault_51 (by decide) ?_
        refine lv_goto (tgt := 56) hx hb dX10_isFault_52 (by decide) ?_
        exact key56 (2 : Int32) r20 ls (lv_sub hl [] rfl) h
  · have h := ifT h c2
    refine lv_aload_n hx hb dX10_isFault_5 rfl (lv_at hl 0 rfl) ?_
    refine lv_aload_n hx hb dX10_isFault_6 rfl (lv_at hl 0 rfl) ?_
    refine lv_iload_n hx hb dX10_isFault_7 rfl (lv_at hl 2 rfl) ?_
    obtain ⟨r23, e23, h⟩ := bsome h
    refine rd_V F hP k_X10_barBegin mw_1425 0 11 rfl (wsW_get 0 (by decide)) (q_X10_barBegin l D Y ad G a2 r23 e23) rfl hl.1 ⟨Nat.le_of_ble_eq_true rfl, Nat.le_of_ble_eq_true rfl⟩ (rest := [.ref (ad 0)]) rfl (Nat.le_of_ble_eq_true rfl) ⟨Nat.le_of_ble_eq_true rfl, Nat.le_of_ble_eq_true rfl⟩ dX10_isFault_8 (fun o23 => ?_)
    obtain ⟨r24, e24, h⟩ := bsome h
    refine rd_V F hP k_X10_soundAt mw_1543 0 11 rfl (wsW_get 0 (by decide)) (q_X10_soundAt l D Y ad G r23 r24 e24) rfl hl.1 ⟨Nat.le_of_ble_eq_true rfl, Nat.le_of_ble_eq_true rfl⟩ (rest := []) rfl (Nat.le_of_ble_eq_true rfl) ⟨Nat.le_of_ble_eq_true rfl, Nat.le_of_ble_eq_true rfl⟩ dX10_isFault_11 (fun o24 => ?_)
    refine lv_istore_n (lv' := [(3, .int r24), (0, .ref (ad 0)), (1, .int a1), (2, .int a2)]) hx hb dX10_isFault_14 rfl hl (by decide) rfl (fun ls hl => ?_)
    refine lv_iload_n hx hb dX10_isFault_15 rfl (lv_at hl 0 rfl) ?_
    refine lv_if_lt (tgt := 31) hx hb dX10_isFault_16 (by decide) (fun c25 => ?_) (fun c25 => ?_)
    · have h := ifT h c25
      refine lv_iconst (v := 0) hx hb dX10_isFault_31 (by decide) ?_
      exact rd_end F hr hk rfl h dX10_isFault_32
    · have h := ifF h c25
      refine lv_aload_n hx hb dX10_isFault_19 rfl (lv_at hl 1 rfl) ?_
      refine lv_iload_n hx hb dX10_isFault_20 rfl (lv_at hl 0 rfl) ?_
      obtain ⟨r26, e26, h⟩ := bsome h
      refine rd_V F hP k_X10_isDrop mw_1481 0 11 rfl (wsW_get 0 (by decide)) (q_X10_isDrop l D Y ad G r24 r26 e26) rfl hl.1 ⟨Nat.le_of_ble_eq_true rfl, Nat.le_of_ble_eq_true rfl⟩ (rest := []) rfl (Nat.le_of_ble_eq_true rfl) ⟨Nat.le_of_ble_eq_true rfl, Nat.le_of_ble_eq_true rfl⟩ dX10_isFault_21 (fun o26 => ?_)
      refine lv_if_ne (tgt := 31) hx hb dX10_isFault_24 (by decide) (fun c27 => ?_) (fun c27 => ?_)
      · have h := ifF h c27
        refine lv_iconst (v := 0) hx hb dX10_isFault_31 (by decide) ?_
        exact rd_end F hr hk rfl h dX10_isFault_32
      · have h := ifT h c27
        refine lv_iconst (v := 1) hx hb dX10_isFault_27 (by decide) ?_
        refine lv_goto (tgt := 32) hx hb dX10_isFault_28 (by decide) ?_
        exact rd_end F hr hk rfl h dX10_isFault_32
def f_X10_faultMany_43 (G : Nat → Nat → Int32) (a1 : Int32) (k4 : Int32 → Int32 → Option Int32) (x3 : Int32) (s43_0 : Int32) (s43_1 : Int32) : Option Int32 := k4 (s43_1 + s43_0) (x3 + 1)
def f_X10_faultMany_25 (G : Nat → Nat → Int32) (a1 : Int32) (k4 : Int32 → Int32 → Option Int32) (x2 : Int32) (x3 : Int32) (s25_0 : Int32) (s25_1 : Int32) : Option Int32 := (if s25_0 ≤ s25_1 then some x2 else ((f_X10_isFault G a1 x3).bind fun r2 => (if r2 = 0 then f_X10_faultMany_43 G a1 k4 x3 (0 : Int32) x2 else f_X10_faultMany_43 G a1 k4 x3 (1 : Int32) x2)))
def f_X10_faultMany_4 (G : Nat → Nat → Int32) (a1 : Int32) (n : Nat) (y2 : Int32) (y3 : Int32) : Option Int32 := lq2 (fun (k4 : Int32 → Int32 → Option Int32) (x2 : Int32) (x3 : Int32) => (if a1 = (3 : Int32) then f_X10_faultMany_25 G a1 k4 x2 x3 (G 1 0) x3 else f_X10_faultMany_25 G a1 k4 x2 x3 (G 1 1) x3)) n y2 y3
def f_X10_faultMany (G : Nat → Nat → Int32) (a1 : Int32) : Option Int32 := f_X10_faultMany_4 G a1 4096 (0 : Int32) (0 : Int32)
set_option maxRecDepth 100000 in
set_option maxHeartbeats 4000000 in
theorem q_X10_faultMany (l : Launch) (D : va_G) (Y : Nat → ClassId) (ad : Nat → Nat) (G : Nat → Nat → Int32) (a1 : Int32) (r : Int32) (h : f_X10_faultMany G a1 = some r) : RD l yX10_faultMany cX10_faultMany 4 (some .int) 5 D Y (wsM Y ad G) [.ref (ad 0), .int a1] r := by
  refine RD_of (by decide) (Nat.le_of_ble_eq_true rfl) (lv := [(0, .ref (ad 0)), (1, .int a1)]) rfl ?_
  intro p e s m below meth c ls F hP hr hk hl
  have F : Fx p c cX10_faultMany 4 s m _ RX10 D Y := F
  have hx := F.1.1
  have hb := F.1.2.1
  have key4 : ∀ (n : Nat) (x2 : Int32) (x3 : Int32) (ls : Array Slot), lv_has ls 4 [(0, .ref (ad 0)), (1, .int a1), (2, .int x2), (3, .int x3)] → f_X10_faultMany_4 G a1  n x2 x3 = some r → WD p l e 5 s m ([.ref (ad 0), .int a1] : List Value).toArray below meth c s.heap (some .int) r (F0 m 4 ls []) := by
    intro  n
    induction n with
    | zero => intro x2 x3 ls hl h; exact lqZ2 h
    | succ n4 ih4 =>
      have key43 : ∀ (x3 : Int32) (s43_0 : Int32) (s43_1 : Int32) (ls : Array Slot), lv_has ls 4 [(0, .ref (ad 0)), (1, .int a1), (3, .int x3)] → f_X10_faultMany_43 G a1 (f_X10_faultMany_4 G a1   n4) x3 s43_0 s43_1 = some r → WD p l e 5 s m ([.ref (ad 0), .int a1] : List Value).toArray below meth c s.heap (some .int) r (F0 m 43 ls [.int s43_0, .int s43_1]) := by
        intro x3 s43_0 s43_1 ls hl h
        refine lv_iadd hx hb dX10_faultMany_43 ?_
        refine lv_istore_n (lv' := [(2, .int ((s43_1 + s43_0))), (0, .ref (ad 0)), (1, .int a1), (3, .int x3)]) hx hb dX10_faultMany_44 rfl hl (by decide) rfl (fun ls hl => ?_)
        refine lv_iinc (v := (x3 + 1)) (lv' := [(3, .int ((x3 + 1))), (2, .int ((s43_1 + s43_0))), (0, .ref (ad 0)), (1, .int a1)]) hx hb dX10_faultMany_45 hl (k := 3) rfl rfl (by decide) rfl (fun ls hl => ?_)
        refine lv_goto (tgt := 4) hx hb dX10_faultMany_48 (by decide) ?_
        exact ih4 (s43_1 + s43_0) (x3 + 1) ls (lv_sub hl [2, 3, 1, 0] rfl) h
      have key25 : ∀ (x2 : Int32) (x3 : Int32) (s25_0 : Int32) (s25_1 : Int32) (ls : Array Slot), lv_has ls 4 [(0, .ref (ad 0)), (1, .int a1), (2, .int x2), (3, .int x3)] → f_X10_faultMany_25 G a1 (f_X10_faultMany_4 G a1   n4) x2 x3 s25_0 s25_1 = some r → WD p l e 5 s m ([.ref (ad 0), .int a1] : List Value).toArray below meth c s.heap (some .int) r (F0 m 25 ls [.int s25_0, .int s25_1]) := by
        intro x2 x3 s25_0 s25_1 ls hl h
        refine lv_icmp_ge (tgt := 51) hx hb dX10_faultMany_25 (by decide) (fun c1 => ?_) (fun c1 => ?_)
        · have h := ifT h c1
          refine lv_iload_n hx hb dX10_faultMany_51 rfl (lv_at hl 2 rfl) ?_
          exact rd_end F hr hk rfl h dX10_faultMany_52
        · have h := ifF h c1
          refine lv_iload_n hx hb dX10_faultMany_28 rfl (lv_at hl 2 rfl) ?_
          refine lv_aload_n hx hb dX10_faultMany_29 rfl (lv_at hl 0 rfl) ?_
          refine lv_iload_n hx hb dX10_faultMany_30 rfl (lv_at hl 1 rfl) ?_
          refine lv_iload_n hx hb dX10_faultMany_31 rfl (lv_at hl 3 rfl) ?_
          obtain ⟨r2, e2, h⟩ := bsome h
          refine rd_V F hP k_X10_isFault mw_1555 0 11 rfl (wsW_get 0 (by decide)) (q_X10_isFault l D Y ad G a1 x3 r2 e2) rfl hl.1 ⟨Nat.le_of_ble_eq_true rfl, Nat.le_of_ble_eq_true rfl⟩ (rest := [.int x2]) rfl (Nat.le_of_ble_eq_true rfl) ⟨Nat.le_of_ble_eq_true rfl, Nat.le_of_ble_eq_true rfl⟩ dX10_faultMany_32 (fun o2 => ?_)
          refine lv_if_eq (tgt := 42) hx hb dX10_faultMany_35 (by decide) (fun c3 => ?_) (fun c3 => ?_)
          · have h := ifT h c3
            refine lv_iconst (v := 0) hx hb dX10_faultMany_42 (by decide) ?_
            exact key43 x3 (0 : Int32) x2 ls (lv_sub hl [0, 1, 3] rfl) h
          · have h := ifF h c3
            refine lv_iconst (v := 1) hx hb dX10_faultMany_38 (by decide) ?_
            refine lv_goto (tgt := 43) hx hb dX10_faultMany_39 (by decide) ?_
            exact key43 x3 (1 : Int32) x2 ls (lv_sub hl [0, 1, 3] rfl) h
      intro x2 x3 ls hl h
      have h := lqS2 h
      refine lv_iload_n hx hb dX10_faultMany_4 rfl (lv_at hl 3 rfl) ?_
      refine lv_iload_n hx hb dX10_faultMany_5 rfl (lv_at hl 1 rfl) ?_
      refine lv_iconst (v := 3) hx hb dX10_faultMany_6 (by decide) ?_
      refine lv_icmp_ne (tgt := 19) hx hb dX10_faultMany_7 (by decide) (fun c4 => ?_) (fun c4 => ?_)
      · have h := ifF h c4
        refine lv_aload_n hx hb dX10_faultMany_19 rfl (lv_at hl 0 rfl) ?_
        refine rM_0_0 F hP dX10_faultMany_20 ?_
        refine lv_iconst (v := 1) hx hb dX10_faultMany_23 (by decide) ?_
        refine alk F hP 1 (wsW_get 1 (by decide)) (k := 1) (by decide) (inbV (by decide) (by decide)) dX10_faultMany_24 ?_
        exact key25 x2 x3 (G 1 1) x3 ls (lv_sub hl [0, 1, 2, 3] rfl) h
      · have h := ifT h c4
        refine lv_aload_n hx hb dX10_faultMany_10 rfl (lv_at hl 0 rfl) ?_
        refine rM_0_0 F hP dX10_faultMany_11 ?_
        refine lv_iconst (v := 0) hx hb dX10_faultMany_14 (by decide) ?_
        refine alk F hP 1 (wsW_get 1 (by decide)) (k := 0) (by decide) (inbV (by decide) (by decide)) dX10_faultMany_15 ?_
        refine lv_goto (tgt := 25) hx hb dX10_faultMany_16 (by decide) ?_
        exact key25 x2 x3 (G 1 0) x3 ls (lv_sub hl [0, 1, 2, 3] rfl) h
  refine lv_iconst (v := 0) hx hb dX10_faultMany_0 (by decide) ?_
  refine lv_istore_n (lv' := [(2, .int ((0 : Int32))), (0, .ref (ad 0)), (1, .int a1)]) hx hb dX10_faultMany_1 rfl hl (by decide) rfl (fun ls hl => ?_)
  refine lv_iconst (v := 0) hx hb dX10_faultMany_2 (by decide) ?_
  refine lv_istore_n (lv' := [(3, .int ((0 : Int32))), (2, .int ((0 : Int32))), (0, .ref (ad 0)), (1, .int a1)]) hx hb dX10_faultMany_3 rfl hl (by decide) rfl (fun ls hl => ?_)
  exact key4 4096 (0 : Int32) (0 : Int32) ls (lv_sub hl [2, 3, 1, 0] rfl) h
def f_X10_allFaults (G : Nat → Nat → Int32) : Option Int32 := ((f_X10_faultMany G (1 : Int32)).bind fun r1 => ((f_X10_faultMany G (2 : Int32)).bind fun r2 => ((f_X10_faultMany G (3 : Int32)).bind fun r3 => ((f_X10_faultMany G (4 : Int32)).bind fun r4 => some (((r1 + r2) + r3) + r4)))))
set_option maxRecDepth 100000 in
set_option maxHeartbeats 4000000 in
theorem q_X10_allFaults (l : Launch) (D : va_G) (Y : Nat → ClassId) (ad : Nat → Nat) (G : Nat → Nat → Int32) (r : Int32) (h : f_X10_allFaults G  = some r) : RD l yX10_allFaults cX10_allFaults 1 (some .int) 6 D Y (wsM Y ad G) [.ref (ad 0)] r := by
  refine RD_of (by decide) (Nat.le_of_ble_eq_true rfl) (lv := [(0, .ref (ad 0))]) rfl ?_
  intro p e s m below meth c ls F hP hr hk hl
  have F : Fx p c cX10_allFaults 1 s m _ RX10 D Y := F
  have hx := F.1.1
  have hb := F.1.2.1
  refine lv_aload_n hx hb dX10_allFaults_0 rfl (lv_at hl 0 rfl) ?_
  refine lv_iconst (v := 1) hx hb dX10_allFaults_1 (by decide) ?_
  obtain ⟨r1, e1, h⟩ := bsome h
  refine rd_V F hP k_X10_faultMany mw_1551 0 11 rfl (wsW_get 0 (by decide)) (q_X10_faultMany l D Y ad G (1 : Int32) r1 e1) rfl hl.1 ⟨Nat.le_of_ble_eq_true rfl, Nat.le_of_ble_eq_true rfl⟩ (rest := []) rfl (Nat.le_of_ble_eq_true rfl) ⟨Nat.le_of_ble_eq_true rfl, Nat.le_of_ble_eq_true rfl⟩ dX10_allFaults_2 (fun o1 => ?_)
  refine lv_aload_n hx hb dX10_allFaults_5 rfl (lv_at hl 0 rfl) ?_
  refine lv_iconst (v := 2) hx hb dX10_allFaults_6 (by decide) ?_
  obtain ⟨r2, e2, h⟩ := bsome h
  refine rd_V F hP k_X10_faultMany mw_1551 0 11 rfl (wsW_get 0 (by decide)) (q_X10_faultMany l D Y ad G (2 : Int32) r2 e2) rfl hl.1 ⟨Nat.le_of_ble_eq_true rfl, Nat.le_of_ble_eq_true rfl⟩ (rest := [.int r1]) rfl (Nat.le_of_ble_eq_true rfl) ⟨Nat.le_of_ble_eq_true rfl, Nat.le_of_ble_eq_true rfl⟩ dX10_allFaults_7 (fun o2 => ?_)
  refine lv_iadd hx hb dX10_allFaults_10 ?_
  refine lv_aload_n hx hb dX10_allFaults_11 rfl (lv_at hl 0 rfl) ?_
  refine lv_iconst (v := 3) hx hb dX10_allFaults_12 (by decide) ?_
  obtain ⟨r3, e3, h⟩ := bsome h
  refine rd_V F hP k_X10_faultMany mw_1551 0 11 rfl (wsW_get 0 (by decide)) (q_X10_faultMany l D Y ad G (3 : Int32) r3 e3) rfl hl.1 ⟨Nat.le_of_ble_eq_true rfl, Nat.le_of_ble_eq_true rfl⟩ (rest := [.int ((r1 + r2))]) rfl (Nat.le_of_ble_eq_true rfl) ⟨Nat.le_of_ble_eq_true rfl, Nat.le_of_ble_eq_true rfl⟩ dX10_allFaults_13 (fun o3 => ?_)
  refine lv_iadd hx hb dX10_allFaults_16 ?_
  refine lv_aload_n hx hb dX10_allFaults_17 rfl (lv_at hl 0 rfl) ?_
  refine lv_iconst (v := 4) hx hb dX10_allFaults_18 (by decide) ?_
  obtain ⟨r4, e4, h⟩ := bsome h
  refine rd_V F hP k_X10_faultMany mw_1551 0 11 rfl (wsW_get 0 (by decide)) (q_X10_faultMany l D Y ad G (4 : Int32) r4 e4) rfl hl.1 ⟨Nat.le_of_ble_eq_true rfl, Nat.le_of_ble_eq_true rfl⟩ (rest := [.int (((r1 + r2) + r3))]) rfl (Nat.le_of_ble_eq_true rfl) ⟨Nat.le_of_ble_eq_true rfl, Nat.le_of_ble_eq_true rfl⟩ dX10_allFaults_19 (fun o4 => ?_)
  refine lv_iadd hx hb dX10_allFaults_22 ?_
  exact rd_end F hr hk rfl h dX10_allFaults_23
def f_X10_drops_28 (G : Nat → Nat → Int32) (k4 : Int32 → Int32 → Option Int32) (x2 : Int32) (s28_0 : Int32) (s28_1 : Int32) : Option Int32 := k4 (s28_1 + s28_0) (x2 + 1)
def f_X10_drops_4 (G : Nat → Nat → Int32) (n : Nat) (y1 : Int32) (y2 : Int32) : Option Int32 := lq2 (fun (k4 : Int32 → Int32 → Option Int32) (x1 : Int32) (x2 : Int32) => (if (G 1 1) ≤ x2 then some x1 else ((f_X10_isDrop G x2).bind fun r2 => (if r2 = 0 then f_X10_drops_28 G k4 x2 (0 : Int32) x1 else f_X10_drops_28 G k4 x2 (1 : Int32) x1)))) n y1 y2
def f_X10_drops (G : Nat → Nat → Int32) : Option Int32 := f_X10_drops_4 G 4096 (0 : Int32) (0 : Int32)
set_option maxRecDepth 100000 in
set_option maxHeartbeats 4000000 in
theorem q_X10_drops (l : Launch) (D : va_G) (Y : Nat → ClassId) (ad : Nat → Nat) (G : Nat → Nat → Int32) (r : Int32) (h : f_X10_drops G  = some r) : RD l yX10_drops cX10_drops 3 (some .int) 2 D Y (wsM Y ad G) [.ref (ad 0)] r := by
  refine RD_of (by decide) (Nat.le_of_ble_eq_true rfl) (lv := [(0, .ref (ad 0))]) rfl ?_
  intro p e s m below meth c ls F hP hr hk hl
  have F : Fx p c cX10_drops 3 s m _ RX10 D Y := F
  have hx := F.1.1
  have hb := F.1.2.1
  have key4 : ∀ (n : Nat) (x1 : Int32) (x2 : Int32) (ls : Array Slot), lv_has ls 3 [(0, .ref (ad 0)), (1, .int x1), (2, .int x2)] → f_X10_drops_4 G   n x1 x2 = some r → WD p l e 2 s m ([.ref (ad 0)] : List Value).toArray below meth c s.heap (some .int) r (F0 m 4 ls []) := by
    intro  n
    induction n with
    | zero => intro x1 x2 ls hl h; exact lqZ2 h
    | succ n4 ih4 =>
      have key28 : ∀ (x2 : Int32) (s28_0 : Int32) (s28_1 : Int32) (ls : Array Slot), lv_has ls 3 [(0, .ref (ad 0)), (2, .int x2)] → f_X10_drops_28 G  (f_X10_drops_4 G    n4) x2 s28_0 s28_1 = some r → WD p l e 2 s m ([.ref (ad 0)] : List Value).toArray below meth c s.heap (some .int) r (F0 m 28 ls [.int s28_0, .int s28_1]) := by
        intro x2 s28_0 s28_1 ls hl h
        refine lv_iadd hx hb dX10_drops_28 ?_
        refine lv_istore_n (lv' := [(1, .int ((s28_1 + s28_0))), (0, .ref (ad 0)), (2, .int x2)]) hx hb dX10_drops_29 rfl hl (by decide) rfl (fun ls hl => ?_)
        refine lv_iinc (v := (x2 + 1)) (lv' := [(2, .int ((x2 + 1))), (1, .int ((s28_1 + s28_0))), (0, .ref (ad 0))]) hx hb dX10_drops_30 hl (k := 2) rfl rfl (by decide) rfl (fun ls hl => ?_)
        refine lv_goto (tgt := 4) hx hb dX10_drops_33 (by decide) ?_
        exact ih4 (s28_1 + s28_0) (x2 + 1) ls (lv_sub hl [2, 1, 0] rfl) h
      intro x1 x2 ls hl h
      have h := lqS2 h
      refine lv_iload_n hx hb dX10_drops_4 rfl (lv_at hl 2 rfl) ?_
      refine lv_aload_n hx hb dX10_drops_5 rfl (lv_at hl 0 rfl) ?_
      refine rM_0_0 F hP dX10_drops_6 ?_
      refine lv_iconst (v := 1) hx hb dX10_drops_9 (by decide) ?_
      refine alk F hP 1 (wsW_get 1 (by decide)) (k := 1) (by decide) (inbV (by decide) (by decide)) dX10_drops_10 ?_
      refine lv_icmp_ge (tgt := 36) hx hb dX10_drops_11 (by decide) (fun c1 => ?_) (fun c1 => ?_)
      · have h := ifT h c1
        refine lv_iload_n hx hb dX10_drops_36 rfl (lv_at hl 1 rfl) ?_
        exact rd_end F hr hk rfl h dX10_drops_37
      · have h := ifF h c1
        refine lv_iload_n hx hb dX10_drops_14 rfl (lv_at hl 1 rfl) ?_
        refine lv_aload_n hx hb dX10_drops_15 rfl (lv_at hl 0 rfl) ?_
        refine lv_iload_n hx hb dX10_drops_16 rfl (lv_at hl 2 rfl) ?_
        obtain ⟨r2, e2, h⟩ := bsome h
        refine rd_V F hP k_X10_isDrop mw_1481 0 11 rfl (wsW_get 0 (by decide)) (q_X10_isDrop l D Y ad G x2 r2 e2) rfl hl.1 ⟨Nat.le_of_ble_eq_true rfl, Nat.le_of_ble_eq_true rfl⟩ (rest := [.int x1]) rfl (Nat.le_of_ble_eq_true rfl) ⟨Nat.le_of_ble_eq_true rfl, Nat.le_of_ble_eq_true rfl⟩ dX10_drops_17 (fun o2 => ?_)
        refine lv_if_eq (tgt := 27) hx hb dX10_drops_20 (by decide) (fun c3 => ?_) (fun c3 => ?_)
        · have h := ifT h c3
          refine lv_iconst (v := 0) hx hb dX10_drops_27 (by decide) ?_
          exact key28 x2 (0 : Int32) x1 ls (lv_sub hl [0, 2] rfl) h
        · have h := ifF h c3
          refine lv_iconst (v := 1) hx hb dX10_drops_23 (by decide) ?_
          refine lv_goto (tgt := 28) hx hb dX10_drops_24 (by decide) ?_
          exact key28 x2 (1 : Int32) x1 ls (lv_sub hl [0, 2] rfl) h
  refine lv_iconst (v := 0) hx hb dX10_drops_0 (by decide) ?_
  refine lv_istore_n (lv' := [(1, .int ((0 : Int32))), (0, .ref (ad 0))]) hx hb dX10_drops_1 rfl hl (by decide) rfl (fun ls hl => ?_)
  refine lv_iconst (v := 0) hx hb dX10_drops_2 (by decide) ?_
  refine lv_istore_n (lv' := [(2, .int ((0 : Int32))), (1, .int ((0 : Int32))), (0, .ref (ad 0))]) hx hb dX10_drops_3 rfl hl (by decide) rfl (fun ls hl => ?_)
  exact key4 4096 (0 : Int32) (0 : Int32) ls (lv_sub hl [2, 1, 0] rfl) h
def f_X10_ahead (G : Nat → Nat → Int32) (a1 : Int32) (a2 : Int32) (a3 : Int32) : Option Int32 := (if a3 = 0 then ((f_X10_pitch G a1).bind fun r2 => ((f_X10_pitch G a2).bind fun r3 => (if (r2 - r3) = 0 then ((f_X10_of G a1 (2 : Int32)).bind fun r5 => ((f_X10_of G a2 (2 : Int32)).bind fun r6 => some (r5 - r6))) else some (r2 - r3)))) else ((f_X10_soundsOf G a1 (4 : Int32)).bind fun r7 => ((f_X10_soundsOf G a2 (4 : Int32)).bind fun r8 => (if (r7 - r8) = 0 then (if inb ((11 : Int32) + ((2 : Int32) * a1)) 67 then (if inb ((11 : Int32) + ((2 : Int32) * a2)) 67 then some ((G 1 ((11 : Int32) + ((2 : Int32) * a1)).toNatClampNeg) - (G 1 ((11 : Int32) + ((2 : Int32) * a2)).toNatClampNeg)) else none) else none) else some (r7 - r8)))))
set_option maxRecDepth 100000 in
set_option maxHeartbeats 4000000 in
theorem q_X10_ahead (l : Launch) (D : va_G) (Y : Nat → ClassId) (ad : Nat → Nat) (G : Nat → Nat → Int32) (a1 : Int32) (a2 : Int32) (a3 : Int32) (r : Int32) (h : f_X10_ahead G a1 a2 a3 = some r) : RD l yX10_ahead cX10_ahead 5 (some .int) 3 D Y (wsM Y ad G) [.ref (ad 0), .int a1, .int a2, .int a3] r := by
  refine RD_of (by decide) (Nat.le_of_ble_eq_true rfl) (lv := [(0, .ref (ad 0)), (1, .int a1), (2, .int a2), (3, .int a3)]) rfl ?_
  intro p e s m below meth c ls F hP hr hk hl
  have F : Fx p c cX10_ahead 5 s m _ RX10 D Y := F
  have hx := F.1.1
  have hb := F.1.2.1
  refine lv_iload_n hx hb dX10_ahead_0 rfl (lv_at hl 3 rfl) ?_
  refine lv_if_eq (tgt := 53) hx hb dX10_ahead_1 (by decide) (fun c1 => ?_) (fun c1 => ?_)
  · have h := ifT h c1
    refine lv_aload_n hx hb dX10_ahead_53 rfl (lv_at hl 0 rfl) ?_
    refine lv_iload_n hx hb dX10_ahead_54 rfl (lv_at hl 1 rfl) ?_
    obtain ⟨r2, e2, h⟩ := bsome h
    refine rd_V F hP k_X10_pitch mw_1489 0 11 rfl (wsW_get 0 (by decide)) (q_X10_pitch l D Y ad G a1 r2 e2) rfl hl.1 ⟨Nat.le_of_ble_eq_true rfl, Nat.le_of_ble_eq_true rfl⟩ (rest := []) rfl (Nat.le_of_ble_eq_true rfl) ⟨Nat.le_of_ble_eq_true rfl, Nat.le_of_ble_eq_true rfl⟩ dX10_ahead_55 (fun o2 => ?_)
    refine lv_aload_n hx hb dX10_ahead_58 rfl (lv_at hl 0 rfl) ?_
    refine lv_iload_n hx hb dX10_ahead_59 rfl (lv_at hl 2 rfl) ?_
    obtain ⟨r3, e3, h⟩ := bsome h
    refine rd_V F hP k_X10_pitch mw_1489 0 11 rfl (wsW_get 0 (by decide)) (q_X10_pitch l D Y ad G a2 r3 e3) rfl hl.1 ⟨Nat.le_of_ble_eq_true rfl, Nat.le_of_ble_eq_true rfl⟩ (rest := [.int r2]) rfl (Nat.le_of_ble_eq_true rfl) ⟨Nat.le_of_ble_eq_true rfl, Nat.le_of_ble_eq_true rfl⟩ dX10_ahead_60 (fun o3 => ?_)
    refine lv_isub hx hb dX10_ahead_63 ?_
    refine lv_istore (lv' := [(4, .int ((r2 - r3))), (0, .ref (ad 0)), (1, .int a1), (2, .int a2), (3, .int a3)]) hx hb dX10_ahead_64 hl (by decide) rfl (fun ls hl => ?_)
    refine lv_iload hx hb dX10_ahead_66 (lv_at hl 0 rfl) ?_
    refine lv_if_eq (tgt := 76) hx hb dX10_ahead_68 (by decide) (fun c4 => ?_) (fun c4 => ?_)
    · have h := ifT h c4
      refine lv_aload_n hx hb dX10_ahead_76 rfl (lv_at hl 1 rfl) ?_
      refine lv_iload_n hx hb dX10_ahead_77 rfl (lv_at hl 2 rfl) ?_
      refine lv_iconst (v := 2) hx hb dX10_ahead_78 (by decide) ?_
      obtain ⟨r5, e5, h⟩ := bsome h
      refine rd_V F hP k_X10_of mw_1433 0 11 rfl (wsW_get 0 (by decide)) (q_X10_of l D Y ad G a1 (2 : Int32) r5 e5) rfl hl.1 ⟨Nat.le_of_ble_eq_true rfl, Nat.le_of_ble_eq_true rfl⟩ (rest := []) rfl (Nat.le_of_ble_eq_true rfl) ⟨Nat.le_of_ble_eq_true rfl, Nat.le_of_ble_eq_true rfl⟩ dX10_ahead_79 (fun o5 => ?_)
      refine lv_aload_n hx hb dX10_ahead_82 rfl (lv_at hl 1 rfl) ?_
      refine lv_iload_n hx hb dX10_ahead_83 rfl (lv_at hl 3 rfl) ?_
      refine lv_iconst (v := 2) hx hb dX10_ahead_84 (by decide) ?_
      obtain ⟨r6, e6, h⟩ := bsome h
      refine rd_V F hP k_X10_of mw_1433 0 11 rfl (wsW_get 0 (by decide)) (q_X10_of l D Y ad G a2 (2 : Int32) r6 e6) rfl hl.1 ⟨Nat.le_of_ble_eq_true rfl, Nat.le_of_ble_eq_true rfl⟩ (rest := [.int r5]) rfl (Nat.le_of_ble_eq_true rfl) ⟨Nat.le_of_ble_eq_true rfl, Nat.le_of_ble_eq_true rfl⟩ dX10_ahead_85 (fun o6 => ?_)
      refine lv_isub hx hb dX10_ahead_88 ?_
      exact rd_end F hr hk rfl h dX10_ahead_89
    · have h := ifF h c4
      refine lv_iload hx hb dX10_ahead_71 (lv_at hl 0 rfl) ?_
      refine lv_goto (tgt := 89) hx hb dX10_ahead_73 (by decide) ?_
      exact rd_end F hr hk rfl h dX10_ahead_89
  · have h := ifF h c1
    refine lv_aload_n hx hb dX10_ahead_4 rfl (lv_at hl 0 rfl) ?_
    refine lv_iload_n hx hb dX10_ahead_5 rfl (lv_at hl 1 rfl) ?_
    refine lv_iconst (v := 4) hx hb dX10_ahead_6 (by decide) ?_
    obtain ⟨r7, e7, h⟩ := bsome h
    refine rd_V F hP k_X10_soundsOf mw_1477 0 11 rfl (wsW_get 0 (by decide)) (q_X10_soundsOf l D Y ad G a1 (4 : Int32) r7 e7) rfl hl.1 ⟨Nat.le_of_ble_eq_true rfl, Nat.le_of_ble_eq_true rfl⟩ (rest := []) rfl (Nat.le_of_ble_eq_true rfl) ⟨Nat.le_of_ble_eq_true rfl, Nat.le_of_ble_eq_true rfl⟩ dX10_ahead_7 (fun o7 => ?_)
    refine lv_aload_n hx hb dX10_ahead_10 rfl (lv_at hl 0 rfl) ?_
    refine lv_iload_n hx hb dX10_ahead_11 rfl (lv_at hl 2 rfl) ?_
    refine lv_iconst (v := 4) hx hb dX10_ahead_12 (by decide) ?_
    obtain ⟨r8, e8, h⟩ := bsome h
    refine rd_V F hP k_X10_soundsOf mw_1477 0 11 rfl (wsW_get 0 (by decide)) (q_X10_soundsOf l D Y ad G a2 (4 : Int32) r8 e8) rfl hl.1 ⟨Nat.le_of_ble_eq_true rfl, Nat.le_of_ble_eq_true rfl⟩ (rest := [.int r7]) rfl (Nat.le_of_ble_eq_true rfl) ⟨Nat.le_of_ble_eq_true rfl, Nat.le_of_ble_eq_true rfl⟩ dX10_ahead_13 (fun o8 => ?_)
    refine lv_isub hx hb dX10_ahead_16 ?_
    refine lv_istore (lv' := [(4, .int ((r7 - r8))), (0, .ref (ad 0)), (1, .int a1), (2, .int a2), (3, .int a3)]) hx hb dX10_ahead_17 hl (by decide) rfl (fun ls hl => ?_)
    refine lv_iload hx hb dX10_ahead_19 (lv_at hl 0 rfl) ?_
    refine lv_if_eq (tgt := 29) hx hb dX10_ahead_21 (by decide) (fun c9 => ?_) (fun c9 => ?_)
    · have h := ifT h c9
      refine lv_aload_n hx hb dX10_ahead_29 rfl (lv_at hl 1 rfl) ?_
      refine rM_0_0 F hP dX10_ahead_30 ?_
      refine lv_bipush (v := 11) hx hb dX10_ahead_33 (by decide) ?_
      refine lv_iconst (v := 2) hx hb dX10_ahead_35 (by decide) ?_
      refine lv_iload_n hx hb dX10_ahead_36 rfl (lv_at hl 2 rfl) ?_
      refine lv_imul hx hb dX10_ahead_37 ?_
      refine lv_iadd hx hb dX10_ahead_38 ?_
      obtain ⟨b10, h⟩ := ckS h
      refine al F hP 1 (wsW_get 1 (by decide)) (inbV b10 (by decide)) dX10_ahead_39 ?_
      refine lv_aload_n hx hb dX10_ahead_40 rfl (lv_at hl 1 rfl) ?_
      refine rM_0_0 F hP dX10_ahead_41 ?_
      refine lv_bipush (v := 11) hx hb dX10_ahead_44 (by decide) ?_
      refine lv_iconst (v := 2) hx hb dX10_ahead_46 (by decide) ?_
      refine lv_iload_n hx hb dX10_ahead_47 rfl (lv_at hl 3 rfl) ?_
      refine lv_imul hx hb dX10_ahead_48 ?_
      refine lv_iadd hx hb dX10_ahead_49 ?_
      obtain ⟨b11, h⟩ := ckS h
      refine al F hP 1 (wsW_get 1 (by decide)) (inbV b11 (by decide)) dX10_ahead_50 ?_
      refine lv_isub hx hb dX10_ahead_51 ?_
      exact rd_end F hr hk rfl h dX10_ahead_52
    · have h := ifF h c9
      refine lv_iload hx hb dX10_ahead_24 (lv_at hl 0 rfl) ?_
      refine lv_goto (tgt := 52) hx hb dX10_ahead_26 (by decide) ?_
      exact rd_end F hr hk rfl h dX10_ahead_52
def f_X10_placed_132 (G : Nat → Nat → Int32) (a1 : Int32) (a2 : Int32) (a3 : Int32) (k6 : Int32 → Int32 → Option Int32) (x5 : Int32) (s132_0 : Int32) : Option Int32 := k6 s132_0 (x5 + 1)
def f_X10_placed_130 (G : Nat → Nat → Int32) (a1 : Int32) (a2 : Int32) (a3 : Int32) (k6 : Int32 → Int32 → Option Int32) (x4 : Int32) (x5 : Int32) : Option Int32 := f_X10_placed_132 G a1 a2 a3 k6 x5 x4
def f_X10_placed_125 (G : Nat → Nat → Int32) (a1 : Int32) (a2 : Int32) (a3 : Int32) (k6 : Int32 → Int32 → Option Int32) (x5 : Int32) : Option Int32 := f_X10_placed_132 G a1 a2 a3 k6 x5 x5
def f_X10_placed_97 (G : Nat → Nat → Int32) (a1 : Int32) (a2 : Int32) (a3 : Int32) (k6 : Int32 → Int32 → Option Int32) (k18 : Int32 → Int32 → Option Int32) (x4 : Int32) (x5 : Int32) (x7 : Int32) (s97_0 : Int32) (s97_1 : Int32) : Option Int32 := k18 (s97_1 + s97_0) (x7 + 1)
def f_X10_placed_92 (G : Nat → Nat → Int32) (a1 : Int32) (a2 : Int32) (a3 : Int32) (k6 : Int32 → Int32 → Option Int32) (k18 : Int32 → Int32 → Option Int32) (x4 : Int32) (x5 : Int32) (x7 : Int32) (s92_0 : Int32) : Option Int32 := f_X10_placed_97 G a1 a2 a3 k6 k18 x4 x5 x7 (1 : Int32) s92_0
def f_X10_placed_96 (G : Nat → Nat → Int32) (a1 : Int32) (a2 : Int32) (a3 : Int32) (k6 : Int32 → Int32 → Option Int32) (k18 : Int32 → Int32 → Option Int32) (x4 : Int32) (x5 : Int32) (x7 : Int32) (s96_0 : Int32) : Option Int32 := f_X10_placed_97 G a1 a2 a3 k6 k18 x4 x5 x7 (0 : Int32) s96_0
def f_X10_placed_71 (G : Nat → Nat → Int32) (a1 : Int32) (a2 : Int32) (a3 : Int32) (k6 : Int32 → Int32 → Option Int32) (k18 : Int32 → Int32 → Option Int32) (x4 : Int32) (x5 : Int32) (x6 : Int32) (x7 : Int32) (s71_0 : Int32) : Option Int32 := (if 0 < s71_0 then f_X10_placed_92 G a1 a2 a3 k6 k18 x4 x5 x7 x6 else (if s71_0 = 0 then (if x5 ≤ x7 then f_X10_placed_96 G a1 a2 a3 k6 k18 x4 x5 x7 x6 else f_X10_placed_92 G a1 a2 a3 k6 k18 x4 x5 x7 x6) else f_X10_placed_96 G a1 a2 a3 k6 k18 x4 x5 x7 x6))
def f_X10_placed_51 (G : Nat → Nat → Int32) (a1 : Int32) (a2 : Int32) (a3 : Int32) (k6 : Int32 → Int32 → Option Int32) (k18 : Int32 → Int32 → Option Int32) (x4 : Int32) (x5 : Int32) (x6 : Int32) (x7 : Int32) (s51_0 : Int32) : Option Int32 := (if s51_0 = 0 then f_X10_placed_71 G a1 a2 a3 k6 k18 x4 x5 x6 x7 (-1 : Int32) else ((f_X10_ahead G x7 x5 a3).bind fun r5 => f_X10_placed_71 G a1 a2 a3 k6 k18 x4 x5 x6 x7 r5))
def f_X10_placed_46 (G : Nat → Nat → Int32) (a1 : Int32) (a2 : Int32) (a3 : Int32) (k6 : Int32 → Int32 → Option Int32) (k18 : Int32 → Int32 → Option Int32) (x4 : Int32) (x5 : Int32) (x6 : Int32) (x7 : Int32) : Option Int32 := f_X10_placed_51 G a1 a2 a3 k6 k18 x4 x5 x6 x7 (1 : Int32)
def f_X10_placed_50 (G : Nat → Nat → Int32) (a1 : Int32) (a2 : Int32) (a3 : Int32) (k6 : Int32 → Int32 → Option Int32) (k18 : Int32 → Int32 → Option Int32) (x4 : Int32) (x5 : Int32) (x6 : Int32) (x7 : Int32) : Option Int32 := f_X10_placed_51 G a1 a2 a3 k6 k18 x4 x5 x6 x7 (0 : Int32)
def f_X10_placed_18 (G : Nat → Nat → Int32) (a1 : Int32) (a2 : Int32) (a3 : Int32) (k6 : Int32 → Int32 → Option Int32) (x4 : Int32) (x5 : Int32) (n : Nat) (y6 : Int32) (y7 : Int32) : Option Int32 := lq2 (fun (k18 : Int32 → Int32 → Option Int32) (x6 : Int32) (x7 : Int32) => (if a2 ≤ x7 then (if x6 = a1 then (if a3 = 0 then ((f_X10_isDrop G x5).bind fun r9 => (if r9 = 0 then f_X10_placed_130 G a1 a2 a3 k6 x4 x5 else f_X10_placed_125 G a1 a2 a3 k6 x5)) else f_X10_placed_125 G a1 a2 a3 k6 x5) else f_X10_placed_130 G a1 a2 a3 k6 x4 x5) else (if a3 = 0 then ((f_X10_isDrop G x5).bind fun r12 => (if r12 = 0 then f_X10_placed_50 G a1 a2 a3 k6 k18 x4 x5 x6 x7 else ((f_X10_isDrop G x7).bind fun r14 => (if r14 = 0 then f_X10_placed_50 G a1 a2 a3 k6 k18 x4 x5 x6 x7 else f_X10_placed_46 G a1 a2 a3 k6 k18 x4 x5 x6 x7)))) else f_X10_placed_46 G a1 a2 a3 k6 k18 x4 x5 x6 x7))) n y6 y7
def f_X10_placed_6 (G : Nat → Nat → Int32) (a1 : Int32) (a2 : Int32) (a3 : Int32) (n : Nat) (y4 : Int32) (y5 : Int32) : Option Int32 := lq2 (fun (k6 : Int32 → Int32 → Option Int32) (x4 : Int32) (x5 : Int32) => (if a2 ≤ x5 then some x4 else f_X10_placed_18 G a1 a2 a3 k6 x4 x5 4096 (0 : Int32) (0 : Int32))) n y4 y5
def f_X10_placed (G : Nat → Nat → Int32) (a1 : Int32) (a2 : Int32) (a3 : Int32) : Option Int32 := f_X10_placed_6 G a1 a2 a3 4096 (0 : Int32) (0 : Int32)
set_option maxRecDepth 100000 in
set_option maxHeartbeats 4000000 in
theorem q_X10_placed (l : Launch) (D : va_G) (Y : Nat → ClassId) (ad : Nat → Nat) (G : Nat → Nat → Int32) (a1 : Int32) (a2 : Int32) (a3 : Int32) (r : Int32) (h : f_X10_placed G a1 a2 a3 = some r) : RD l yX10_placed cX10_placed 10 (some .int) 4 D Y (wsM Y ad G) [.ref (ad 0), .int a1, .int a2, .int a3] r := by
  refine RD_of (by decide) (Nat.le_of_ble_eq_true rfl) (lv := [(0, .ref (ad 0)), (1, .int a1), (2, .int a2), (3, .int a3)]) rfl ?_
  intro p e s m below meth c ls F hP hr hk hl
  have F : Fx p c cX10_placed 10 s m _ RX10 D Y := F
  have hx := F.1.1
  have hb := F.1.2.1
  have key6 : ∀ (n : Nat) (x4 : Int32) (x5 : Int32) (ls : Array Slot), lv_has ls 10 [(0, .ref (ad 0)), (1, .int a1), (2, .int a2), (3, .int a3), (4, .int x4), (5, .int x5)] → f_X10_placed_6 G a1 a2 a3  n x4 x5 = some r → WD p l e 4 s m ([.ref (ad 0), .int a1, .int a2, .int a3] : List Value).toArray below meth c s.heap (some .int) r (F0 m 6 ls []) := by
    intro  n
    induction n with
    | zero => intro x4 x5 ls hl h; exact lqZ2 h
    | succ n6 ih6 =>
      have key132 : ∀ (x5 : Int32) (s132_0 : Int32) (ls : Array Slot), lv_has ls 10 [(0, .ref (ad 0)), (1, .int a1), (2, .int a2), (3, .int a3), (5, .int x5)] → f_X10_placed_132 G a1 a2 a3 (f_X10_placed_6 G a1 a2 a3   n6) x5 s132_0 = some r → WD p l e 4 s m ([.ref (ad 0), .int a1, .int a2, .int a3] : List Value).toArray below meth c s.heap (some .int) r (F0 m 132 ls [.int s132_0]) := by
        intro x5 s132_0 ls hl h
        refine lv_istore (lv' := [(4, .int s132_0), (0, .ref (ad 0)), (1, .int a1), (2, .int a2), (3, .int a3), (5, .int x5)]) hx hb dX10_placed_132 hl (by decide) rfl (fun ls hl => ?_)
        refine lv_iinc (v := (x5 + 1)) (lv' := [(5, .int ((x5 + 1))), (4, .int s132_0), (0, .ref (ad 0)), (1, .int a1), (2, .int a2), (3, .int a3)]) hx hb dX10_placed_134 hl (k := 5) rfl rfl (by decide) rfl (fun ls hl => ?_)
        refine lv_goto (tgt := 6) hx hb dX10_placed_137 (by decide) ?_
        exact ih6 s132_0 (x5 + 1) ls (lv_sub hl [2, 3, 4, 5, 1, 0] rfl) h
      have key130 : ∀ (x4 : Int32) (x5 : Int32) (ls : Array Slot), lv_has ls 10 [(0, .ref (ad 0)), (1, .int a1), (2, .int a2), (3, .int a3), (4, .int x4), (5, .int x5)] → f_X10_placed_130 G a1 a2 a3 (f_X10_placed_6 G a1 a2 a3   n6) x4 x5 = some r → WD p l e 4 s m ([.ref (ad 0), .int a1, .int a2, .int a3] : List Value).toArray below meth c s.heap (some .int) r (F0 m 130 ls []) := by
        intro x4 x5 ls hl h
        refine lv_iload hx hb dX10_placed_130 (lv_at hl 4 rfl) ?_
        exact key132 x5 x4 ls (lv_sub hl [0, 1, 2, 3, 5] rfl) h
      have key125 : ∀ (x5 : Int32) (ls : Array Slot), lv_has ls 10 [(0, .ref (ad 0)), (1, .int a1), (2, .int a2), (3, .int a3), (5, .int x5)] → f_X10_placed_125 G a1 a2 a3 (f_X10_placed_6 G a1 a2 a3   n6) x5 = some r → WD p l e 4 s m ([.ref (ad 0), .int a1, .int a2, .int a3] : List Value).toArray below meth c s.heap (some .int) r (F0 m 125 ls []) := by
        intro x5 ls hl h
        refine lv_iload hx hb dX10_placed_125 (lv_at hl 4 rfl) ?_
        refine lv_goto (tgt := 132) hx hb dX10_placed_127 (by decide) ?_
        exact key132 x5 x5 ls (lv_sub hl [0, 1, 2, 3, 4] rfl) h
      have key18 : ∀ (x4 : Int32) (x5 : Int32) (n : Nat) (x6 : Int32) (x7 : Int32) (ls : Array Slot), lv_has ls 10 [(0, .ref (ad 0)), (1, .int a1), (2, .int a2), (3, .int a3), (4, .int x4), (5, .int x5), (6, .int x6), (7, .int x7)] → f_X10_placed_18 G a1 a2 a3 (f_X10_placed_6 G a1 a2 a3   n6) x4 x5 n x6 x7 = some r → WD p l e 4 s m ([.ref (ad 0), .int a1, .int a2, .int a3] : List Value).toArray below meth c s.heap (some .int) r (F0 m 18 ls []) := by
        intro x4 x5 n
        induction n with
        | zero => intro x6 x7 ls hl h; exact lqZ2 h
        | succ n18 ih18 =>
          have key97 : ∀ (x7 : Int32) (s97_0 : Int32) (s97_1 : Int32) (ls : Array Slot), lv_has ls 10 [(0, .ref (ad 0)), (1, .int a1), (2, .int a2), (3, .int a3), (4, .int x4), (5, .int x5), (7, .int x7)] → f_X10_placed_97 G a1 a2 a3 (f_X10_placed_6 G a1 a2 a3   n6) (f_X10_placed_18 G a1 a2 a3 (f_X10_placed_6 G a1 a2 a3   n6) x4 x5 n18) x4 x5 x7 s97_0 s97_1 = some r → WD p l e 4 s m ([.ref (ad 0), .int a1, .int a2, .int a3] : List Value).toArray below meth c s.heap (some .int) r (F0 m 97 ls [.int s97_0, .int s97_1]) := by
            intro x7 s97_0 s97_1 ls hl h
            refine lv_iadd hx hb dX10_placed_97 ?_
            refine lv_istore (lv' := [(6, .int ((s97_1 + s97_0))), (0, .ref (ad 0)), (1, .int a1), (2, .int a2), (3, .int a3), (4, .int x4), (5, .int x5), (7, .int x7)]) hx hb dX10_placed_98 hl (by decide) rfl (fun ls hl => ?_)
            refine lv_iinc (v := (x7 + 1)) (lv' := [(7, .int ((x7 + 1))), (6, .int ((s97_1 + s97_0))), (0, .ref (ad 0)), (1, .int a1), (2, .int a2), (3, .int a3), (4, .int x4), (5, .int x5)]) hx hb dX10_placed_100 hl (k := 7) rfl rfl (by decide) rfl (fun ls hl => ?_)
            refine lv_goto (tgt := 18) hx hb dX10_placed_103 (by decide) ?_
            exact ih18 (s97_1 + s97_0) (x7 + 1) ls (lv_sub hl [2, 3, 4, 5, 6, 7, 1, 0] rfl) h
          have key92 : ∀ (x7 : Int32) (s92_0 : Int32) (ls : Array Slot), lv_has ls 10 [(0, .ref (ad 0)), (1, .int a1), (2, .int a2), (3, .int a3), (4, .int x4), (5, .int x5), (7, .int x7)] → f_X10_placed_92 G a1 a2 a3 (f_X10_placed_6 G a1 a2 a3   n6) (f_X10_placed_18 G a1 a2 a3 (f_X10_placed_6 G a1 a2 a3   n6) x4 x5 n18) x4 x5 x7 s92_0 = some r → WD p l e 4 s m ([.ref (ad 0), .int a1, .int a2, .int a3] : List Value).toArray below meth c s.heap (some .int) r (F0 m 92 ls [.int s92_0]) := by
            intro x7 s92_0 ls hl h
            refine lv_iconst (v := 1) hx hb dX10_placed_92 (by decide) ?_
            refine lv_goto (tgt := 97) hx hb dX10_placed_93 (by decide) ?_
            exact key97 x7 (1 : Int32) s92_0 ls (lv_sub hl [0, 1, 2, 3, 4, 5, 6] rfl) h
          have key96 : ∀ (x7 : Int32) (s96_0 : Int32) (ls : Array Slot), lv_has ls 10 [(0, .ref (ad 0)), (1, .int a1), (2, .int a2), (3, .int a3), (4, .int x4), (5, .int x5), (7, .int x7)] → f_X10_placed_96 G a1 a2 a3 (f_X10_placed_6 G a1 a2 a3   n6) (f_X10_placed_18 G a1 a2 a3 (f_X10_placed_6 G a1 a2 a3   n6) x4 x5 n18) x4 x5 x7 s96_0 = some r → WD p l e 4 s m ([.ref (ad 0), .int a1, .int a2, .int a3] : List Value).toArray below meth c s.heap (some .int) r (F0 m 96 ls [.int s96_0]) := by
            intro x7 s96_0 ls hl h
            refine lv_iconst (v := 0) hx hb dX10_placed_96 (by decide) ?_
            exact key97 x7 (0 : Int32) s96_0 ls (lv_sub hl [0, 1, 2, 3, 4, 5, 6] rfl) h
          have key71 : ∀ (x6 : Int32) (x7 : Int32) (s71_0 : Int32) (ls : Array Slot), lv_has ls 10 [(0, .ref (ad 0)), (1, .int a1), (2, .int a2), (3, .int a3), (4, .int x4), (5, .int x5), (6, .int x6), (7, .int x7)] → f_X10_placed_71 G a1 a2 a3 (f_X10_placed_6 G a1 a2 a3   n6) (f_X10_placed_18 G a1 a2 a3 (f_X10_placed_6 G a1 a2 a3   n6) x4 x5 n18) x4 x5 x6 x7 s71_0 = some r → WD p l e 4 s m ([.ref (ad 0), .int a1, .int a2, .int a3] : List Value).toArray below meth c s.heap (some .int) r (F0 m 71 ls [.int s71_0]) := by
            intro x6 x7 s71_0 ls hl h
            refine lv_istore (lv' := [(9, .int s71_0), (0, .ref (ad 0)), (1, .int a1), (2, .int a2), (3, .int a3), (4, .int x4), (5, .int x5), (6, .int x6), (7, .int x7)]) hx hb dX10_placed_71 hl (by decide) rfl (fun ls hl => ?_)
            refine lv_iload hx hb dX10_placed_73 (lv_at hl 7 rfl) ?_
            refine lv_iload hx hb dX10_placed_75 (lv_at hl 0 rfl) ?_
            refine lv_if_gt (tgt := 92) hx hb dX10_placed_77 (by decide) (fun c1 => ?_) (fun c1 => ?_)
            · have h := ifT h c1
              exact key92 x7 x6 ls (lv_sub hl [1, 2, 3, 4, 5, 6, 8] rfl) h
            · have h := ifF h c1
              refine lv_iload hx hb dX10_placed_80 (lv_at hl 0 rfl) ?_
              refine lv_if_ne (tgt := 96) hx hb dX10_placed_82 (by decide) (fun c2 => ?_) (fun c2 => ?_)
              · have h := ifF h c2
                exact key96 x7 x6 ls (lv_sub hl [1, 2, 3, 4, 5, 6, 8] rfl) h
              · have h := ifT h c2
                refine lv_iload hx hb dX10_placed_85 (lv_at hl 8 rfl) ?_
                refine lv_iload hx hb dX10_placed_87 (lv_at hl 6 rfl) ?_
                refine lv_icmp_ge (tgt := 96) hx hb dX10_placed_89 (by decide) (fun c3 => ?_) (fun c3 => ?_)
                · have h := ifT h c3
                  exact key96 x7 x6 ls (lv_sub hl [1, 2, 3, 4, 5, 6, 8] rfl) h
                · have h := ifF h c3
                  exact key92 x7 x6 ls (lv_sub hl [1, 2, 3, 4, 5, 6, 8] rfl) h
          have key51 : ∀ (x6 : Int32) (x7 : Int32) (s51_0 : Int32) (ls : Array Slot), lv_has ls 10 [(0, .ref (ad 0)), (1, .int a1), (2, .int a2), (3, .int a3), (4, .int x4), (5, .int x5), (6, .int x6), (7, .int x7)] → f_X10_placed_51 G a1 a2 a3 (f_X10_placed_6 G a1 a2 a3   n6) (f_X10_placed_18 G a1 a2 a3 (f_X10_placed_6 G a1 a2 a3   n6) x4 x5 n18) x4 x5 x6 x7 s51_0 = some r → WD p l e 4 s m ([.ref (ad 0), .int a1, .int a2, .int a3] : List Value).toArray below meth c s.heap (some .int) r (F0 m 51 ls [.int s51_0]) := by
            intro x6 x7 s51_0 ls hl h
            refine lv_istore (lv' := [(8, .int s51_0), (0, .ref (ad 0)), (1, .int a1), (2, .int a2), (3, .int a3), (4, .int x4), (5, .int x5), (6, .int x6), (7, .int x7)]) hx hb dX10_placed_51 hl (by decide) rfl (fun ls hl => ?_)
            refine lv_iload hx hb dX10_placed_53 (lv_at hl 0 rfl) ?_
            refine lv_if_eq (tgt := 70) hx hb dX10_placed_55 (by decide) (fun c4 => ?_) (fun c4 => ?_)
            · have h := ifT h c4
              refine lv_iconst (v := -1) hx hb dX10_placed_70 (by decide) ?_
              exact key71 x6 x7 (-1 : Int32) ls (lv_sub hl [1, 2, 3, 4, 5, 6, 7, 8] rfl) h
            · have h := ifF h c4
              refine lv_aload_n hx hb dX10_placed_58 rfl (lv_at hl 1 rfl) ?_
              refine lv_iload hx hb dX10_placed_59 (lv_at hl 8 rfl) ?_
              refine lv_iload hx hb dX10_placed_61 (lv_at hl 6 rfl) ?_
              refine lv_iload_n hx hb dX10_placed_63 rfl (lv_at hl 4 rfl) ?_
              obtain ⟨r5, e5, h⟩ := bsome h
              refine rd_V F hP k_X10_ahead mw_1616 0 11 rfl (wsW_get 0 (by decide)) (q_X10_ahead l D Y ad G x7 x5 a3 r5 e5) rfl hl.1 ⟨Nat.le_of_ble_eq_true rfl, Nat.le_of_ble_eq_true rfl⟩ (rest := []) rfl (Nat.le_of_ble_eq_true rfl) ⟨Nat.le_of_ble_eq_true rfl, Nat.le_of_ble_eq_true rfl⟩ dX10_placed_64 (fun o5 => ?_)
              refine lv_goto (tgt := 71) hx hb dX10_placed_67 (by decide) ?_
              exact key71 x6 x7 r5 ls (lv_sub hl [1, 2, 3, 4, 5, 6, 7, 8] rfl) h
          have key46 : ∀ (x6 : Int32) (x7 : Int32) (ls : Array Slot), lv_has ls 10 [(0, .ref (ad 0)), (1, .int a1), (2, .int a2), (3, .int a3), (4, .int x4), (5, .int x5), (6, .int x6), (7, .int x7)] → f_X10_placed_46 G a1 a2 a3 (f_X10_placed_6 G a1 a2 a3   n6) (f_X10_placed_18 G a1 a2 a3 (f_X10_placed_6 G a1 a2 a3   n6) x4 x5 n18) x4 x5 x6 x7 = some r → WD p l e 4 s m ([.ref (ad 0), .int a1, .int a2, .int a3] : List Value).toArray below meth c s.heap (some .int) r (F0 m 46 ls []) := by
            intro x6 x7 ls hl h
            refine lv_iconst (v := 1) hx hb dX10_placed_46 (by decide) ?_
            refine lv_goto (tgt := 51) hx hb dX10_placed_47 (by decide) ?_
            exact key51 x6 x7 (1 : Int32) ls (lv_sub hl [0, 1, 2, 3, 4, 5, 6, 7] rfl) h
          have key50 : ∀ (x6 : Int32) (x7 : Int32) (ls : Array Slot), lv_has ls 10 [(0, .ref (ad 0)), (1, .int a1), (2, .int a2), (3, .int a3), (4, .int x4), (5, .int x5), (6, .int x6), (7, .int x7)] → f_X10_placed_50 G a1 a2 a3 (f_X10_placed_6 G a1 a2 a3   n6) (f_X10_placed_18 G a1 a2 a3 (f_X10_placed_6 G a1 a2 a3   n6) x4 x5 n18) x4 x5 x6 x7 = some r → WD p l e 4 s m ([.ref (ad 0), .int a1, .int a2, .int a3] : List Value).toArray below meth c s.heap (some .int) r (F0 m 50 ls []) := by
            intro x6 x7 ls hl h
            refine lv_iconst (v := 0) hx hb dX10_placed_50 (by decide) ?_
            exact key51 x6 x7 (0 : Int32) ls (lv_sub hl [0, 1, 2, 3, 4, 5, 6, 7] rfl) h
          intro x6 x7 ls hl h
          have h := lqS2 h
          refine lv_iload hx hb dX10_placed_18 (lv_at hl 7 rfl) ?_
          refine lv_iload_n hx hb dX10_placed_20 rfl (lv_at hl 2 rfl) ?_
          refine lv_icmp_ge (tgt := 106) hx hb dX10_placed_21 (by decide) (fun c6 => ?_) (fun c6 => ?_)
          · have h := ifT h c6
            refine lv_iload hx hb dX10_placed_106 (lv_at hl 6 rfl) ?_
            refine lv_iload_n hx hb dX10_placed_108 rfl (lv_at hl 1 rfl) ?_
            refine lv_icmp_ne (tgt := 130) hx hb dX10_placed_109 (by decide) (fun c7 => ?_) (fun c7 => ?_)
            · have h := ifF h c7
              exact key130 x4 x5 ls (lv_sub hl [0, 1, 2, 3, 4, 5] rfl) h
            · have h := ifT h c7
              refine lv_iload_n hx hb dX10_placed_112 rfl (lv_at hl 3 rfl) ?_
              refine lv_if_ne (tgt := 125) hx hb dX10_placed_113 (by decide) (fun c8 => ?_) (fun c8 => ?_)
              · have h := ifF h c8
                exact key125 x5 ls (lv_sub hl [0, 1, 2, 3, 5] rfl) h
              · have h := ifT h c8
                refine lv_aload_n hx hb dX10_placed_116 rfl (lv_at hl 0 rfl) ?_
                refine lv_iload hx hb dX10_placed_117 (lv_at hl 5 rfl) ?_
                obtain ⟨r9, e9, h⟩ := bsome h
                refine rd_V F hP k_X10_isDrop mw_1481 0 11 rfl (wsW_get 0 (by decide)) (q_X10_isDrop l D Y ad G x5 r9 e9) rfl hl.1 ⟨Nat.le_of_ble_eq_true rfl, Nat.le_of_ble_eq_true rfl⟩ (rest := []) rfl (Nat.le_of_ble_eq_true rfl) ⟨Nat.le_of_ble_eq_true rfl, Nat.le_of_ble_eq_true rfl⟩ dX10_placed_119 (fun o9 => ?_)
                refine lv_if_eq (tgt := 130) hx hb dX10_placed_122 (by decide) (fun c10 => ?_) (fun c10 => ?_)
                · have h := ifT h c10
                  exact key130 x4 x5 ls (lv_sub hl [0, 1, 2, 3, 4, 5] rfl) h
                · have h := ifF h c10
                  exact key125 x5 ls (lv_sub hl [0, 1, 2, 3, 5] rfl) h
          · have h := ifF h c6
            refine lv_iload_n hx hb dX10_placed_24 rfl (lv_at hl 3 rfl) ?_
            refine lv_if_ne (tgt := 46) hx hb dX10_placed_25 (by decide) (fun c11 => ?_) (fun c11 => ?_)
            · have h := ifF h c11
              exact key46 x6 x7 ls (lv_sub hl [0, 1, 2, 3, 4, 5, 6, 7] rfl) h
            · have h := ifT h c11
              refine lv_aload_n hx hb dX10_placed_28 rfl (lv_at hl 0 rfl) ?_
              refine lv_iload hx hb dX10_placed_29 (lv_at hl 5 rfl) ?_
              obtain ⟨r12, e12, h⟩ := bsome h
              refine rd_V F hP k_X10_isDrop mw_1481 0 11 rfl (wsW_get 0 (by decide)) (q_X10_isDrop l D Y ad G x5 r12 e12) rfl hl.1 ⟨Nat.le_of_ble_eq_true rfl, Nat.le_of_ble_eq_true rfl⟩ (rest := []) rfl (Nat.le_of_ble_eq_true rfl) ⟨Nat.le_of_ble_eq_true rfl, Nat.le_of_ble_eq_true rfl⟩ dX10_placed_31 (fun o12 => ?_)
              refine lv_if_eq (tgt := 50) hx hb dX10_placed_34 (by decide) (fun c13 => ?_) (fun c13 => ?_)
              · have h := ifT h c13
                exact key50 x6 x7 ls (lv_sub hl [0, 1, 2, 3, 4, 5, 6, 7] rfl) h
              · have h := ifF h c13
                refine lv_aload_n hx hb dX10_placed_37 rfl (lv_at hl 0 rfl) ?_
                refine lv_iload hx hb dX10_placed_38 (lv_at hl 7 rfl) ?_
                obtain ⟨r14, e14, h⟩ := bsome h
                refine rd_V F hP k_X10_isDrop mw_1481 0 11 rfl (wsW_get 0 (by decide)) (q_X10_isDrop l D Y ad G x7 r14 e14) rfl hl.1 ⟨Nat.le_of_ble_eq_true rfl, Nat.le_of_ble_eq_true rfl⟩ (rest := []) rfl (Nat.le_of_ble_eq_true rfl) ⟨Nat.le_of_ble_eq_true rfl, Nat.le_of_ble_eq_true rfl⟩ dX10_placed_40 (fun o14 => ?_)
                refine lv_if_eq (tgt := 50) hx hb dX10_placed_43 (by decide) (fun c15 => ?_) (fun c15 => ?_)
                · have h := ifT h c15
                  exact key50 x6 x7 ls (lv_sub hl [0, 1, 2, 3, 4, 5, 6, 7] rfl) h
                · have h := ifF h c15
                  exact key46 x6 x7 ls (lv_sub hl [0, 1, 2, 3, 4, 5, 6, 7] rfl) h
      intro x4 x5 ls hl h
      have h := lqS2 h
      refine lv_iload hx hb dX10_placed_6 (lv_at hl 5 rfl) ?_
      refine lv_iload_n hx hb dX10_placed_8 rfl (lv_at hl 2 rfl) ?_
      refine lv_icmp_ge (tgt := 140) hx hb dX10_placed_9 (by decide) (fun c16 => ?_) (fun c16 => ?_)
      · have h := ifT h c16
        refine lv_iload hx hb dX10_placed_140 (lv_at hl 4 rfl) ?_
        exact rd_end F hr hk rfl h dX10_placed_142
      · have h := ifF h c16
        refine lv_iconst (v := 0) hx hb dX10_placed_12 (by decide) ?_
        refine lv_istore (lv' := [(6, .int ((0 : Int32))), (0, .ref (ad 0)), (1, .int a1), (2, .int a2), (3, .int a3), (4, .int x4), (5, .int x5)]) hx hb dX10_placed_13 hl (by decide) rfl (fun ls hl => ?_)
        refine lv_iconst (v := 0) hx hb dX10_placed_15 (by decide) ?_
        refine lv_istore (lv' := [(7, .int ((0 : Int32))), (6, .int ((0 : Int32))), (0, .ref (ad 0)), (1, .int a1), (2, .int a2), (3, .int a3), (4, .int x4), (5, .int x5)]) hx hb dX10_placed_16 hl (by decide) rfl (fun ls hl => ?_)
        exact key18 x4 x5 4096 (0 : Int32) (0 : Int32) ls (lv_sub hl [2, 3, 4, 5, 6, 7, 1, 0] rfl) h
  refine lv_iconst (v := 0) hx hb dX10_placed_0 (by decide) ?_
  refine lv_istore (lv' := [(4, .int ((0 : Int32))), (0, .ref (ad 0)), (1, .int a1), (2, .int a2), (3, .int a3)]) hx hb dX10_placed_1 hl (by decide) rfl (fun ls hl => ?_)
  refine lv_iconst (v := 0) hx hb dX10_placed_3 (by decide) ?_
  refine lv_istore (lv' := [(5, .int ((0 : Int32))), (4, .int ((0 : Int32))), (0, .ref (ad 0)), (1, .int a1), (2, .int a2), (3, .int a3)]) hx hb dX10_placed_4 hl (by decide) rfl (fun ls hl => ?_)
  exact key6 4096 (0 : Int32) (0 : Int32) ls (lv_sub hl [2, 3, 4, 5, 1, 0] rfl) h
