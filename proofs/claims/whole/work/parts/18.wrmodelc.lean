def f_X10_says (G : GT) (a1 : Int32) : Option (GT) := (if inb (G 0 11) 60 then ((some (upR G 5 (upd (G 5) (G 0 11).toNatClampNeg (vp_nar .char a1)))).bind fun G2 => ((some (upR G2 0 (upd (G2 0) 11 ((G2 0 11) + (1 : Int32))))).bind fun G3 => some G3)) else none)
set_option maxRecDepth 100000 in
set_option maxHeartbeats 4000000 in
theorem q_X10_says (l : Launch) (D : va_G) (Y : Nat → ClassId) (ad : Nat → Nat) (hI : Inj 8 ad) (G : GT) (a1 : Int32) (G' : GT) (h : f_X10_says G a1 = some G') : WV l yX10_says cX10_says 2 0 D Y 8 ad (kM Y ad) G [.ref (ad 0), .int a1] G' := by
  refine W_of (ret := none) (by decide) (Nat.le_of_ble_eq_true rfl) (lv := [(0, .ref (ad 0)), (1, .int a1)]) rfl ?_
  intro p e s m below meth c ls F hP hS hr hk hl
  have F : Fx p c cX10_says 2 s m _ RX10 D Y := F
  have hx := F.1.1
  have hb := F.1.2.1
  refine lv_aload_n hx hb dX10_says_0 rfl (lv_at hl 0 rfl) ?_
  refine rM_0_10 F hP dX10_says_1 ?_
  refine lv_aload_n hx hb dX10_says_4 rfl (lv_at hl 0 rfl) ?_
  refine rM_0_11 F hP dX10_says_5 ?_
  refine lv_iload_n hx hb dX10_says_8 rfl (lv_at hl 1 rfl) ?_
  obtain ⟨b1, h⟩ := ckS h
  obtain ⟨G2, e2, h⟩ := bsome h
  refine astc F hI hP hS (fun i h => ⟨i, h, rfl⟩) 5 (by decide) (fun _ => rfl) (inbV b1 (by decide)) dX10_says_9 (fun H locs hP hS => ?_)
  have hP := cvP e2 hP
  refine lv_aload_n hx hb dX10_says_10 rfl (lv_at hl 0 rfl) ?_
  refine lv_dup hx hb dX10_says_11 rfl ?_
  refine rM_0_11 F hP dX10_says_12 ?_
  refine lv_iconst (v := 1) hx hb dX10_says_15 (by decide) ?_
  refine lv_iadd hx hb dX10_says_16 ?_
  obtain ⟨G3, e3, h⟩ := bsome h
  refine pM_0_11 F hI hP hS dX10_says_17 (fun H locs hP hS => ?_)
  have hP := cvP e3 hP
  exact wv_end F hP hS hr hk h dX10_says_20
def f_X10_character_20 (G : GT) (a1 : Int32) (s20_0 : Int32) : Option (Int32 × GT) := ((some (upR G 0 (upd (G 0) 6 s20_0))).bind fun G1 => (if (G1 0 6) ≤ 0 then (if inb a1 60 then (if okC (G1 5 a1.toNatClampNeg) then some ((G1 5 a1.toNatClampNeg), G1) else none) else none) else some ((32 : Int32), G1)))
def f_X10_character (G : GT) (a1 : Int32) : Option (Int32 × GT) := ((f_X10_in G a1 (0 : Int32) ((G 0 11) - (1 : Int32))).bind fun r5 => (if r5 = 0 then f_X10_character_20 G a1 (1 : Int32) else f_X10_character_20 G a1 (0 : Int32)))
set_option maxRecDepth 100000 in
set_option maxHeartbeats 4000000 in
theorem q_X10_character (l : Launch) (D : va_G) (Y : Nat → ClassId) (ad : Nat → Nat) (hI : Inj 8 ad) (G : GT) (a1 : Int32) (r : Int32) (G' : GT) (h : f_X10_character G a1 = some (r, G')) : WR l yX10_character cX10_character 2 (some .char) 1 D Y 8 ad (kM Y ad) G [.ref (ad 0), .int a1] r G' := by
  refine W_of (ret := (some .char)) (by decide) (Nat.le_of_ble_eq_true rfl) (lv := [(0, .ref (ad 0)), (1, .int a1)]) rfl ?_
  intro p e s m below meth c ls F hP hS hr hk hl
  have F : Fx p c cX10_character 2 s m _ RX10 D Y := F
  have hx := F.1.1
  have hb := F.1.2.1
  have key20 : ∀ (s20_0 : Int32) (G : GT) (H : Heap) (locs : List Loc), va_P D vwCl (wsM Y ad G) H → va_S (AW 8 ad) s.heap H locs → ∀ ls : Array Slot, lv_has ls 2 [(0, .ref (ad 0)), (1, .int a1)] → f_X10_character_20 G a1  s20_0 = some (r, G') → WW p l e 1 s m ([.ref (ad 0), .int a1] : List Value).toArray below meth c H locs (WQi (some .char) r D (wsM Y ad G') (AW 8 ad)) (AW 8 ad) (F0 m 20 ls [.int s20_0, .ref (ad 0)]) := by
    intro s20_0 G H locs hP hS ls hl h
    obtain ⟨G1, e1, h⟩ := bsome h
    refine pM_0_6 F hI hP hS dX10_character_20 (fun H locs hP hS => ?_)
    have hP := cvP e1 hP
    refine lv_aload_n hx hb dX10_character_23 rfl (lv_at hl 0 rfl) ?_
    refine rM_0_6 F hP dX10_character_24 ?_
    refine lv_if_le (tgt := 35) hx hb dX10_character_27 (by decide) (fun c2 => ?_) (fun c2 => ?_)
    · have h := ifT h c2
      refine lv_aload_n hx hb dX10_character_35 rfl (lv_at hl 0 rfl) ?_
      refine rM_0_10 F hP dX10_character_36 ?_
      refine lv_iload_n hx hb dX10_character_39 rfl (lv_at hl 1 rfl) ?_
      obtain ⟨b3, h⟩ := ckS h
      refine alc F hP 5 (wsW_get 5 (by decide)) (inbV b3 (by decide)) dX10_character_40 ?_
      obtain ⟨b4, h⟩ := ckS h
      exact wr_end F hP hS hr hk (okC_n b4) h dX10_character_41
    · have h := ifF h c2
      refine lv_bipush (v := 32) hx hb dX10_character_30 (by decide) ?_
      refine lv_goto (tgt := 41) hx hb dX10_character_32 (by decide) ?_
      exact wr_end F hP hS hr hk rfl h dX10_character_41
  refine lv_aload_n hx hb dX10_character_0 rfl (lv_at hl 0 rfl) ?_
  refine lv_iload_n hx hb dX10_character_1 rfl (lv_at hl 1 rfl) ?_
  refine lv_iconst (v := 0) hx hb dX10_character_2 (by decide) ?_
  refine lv_aload_n hx hb dX10_character_3 rfl (lv_at hl 0 rfl) ?_
  refine rM_0_11 F hP dX10_character_4 ?_
  refine lv_iconst (v := 1) hx hb dX10_character_7 (by decide) ?_
  refine lv_isub hx hb dX10_character_8 ?_
  obtain ⟨r5, e5, h⟩ := bsome h
  refine rd_S F hP k_X10_in mw_1379 (q_X10_in l D Y ad G a1 (0 : Int32) ((G 0 11) - (1 : Int32)) r5 e5) rfl hl.1 ⟨Nat.le_of_ble_eq_true rfl, Nat.le_of_ble_eq_true rfl⟩ (rest := [.ref (ad 0)]) rfl (Nat.le_of_ble_eq_true rfl) ⟨Nat.le_of_ble_eq_true rfl, Nat.le_of_ble_eq_true rfl⟩ dX10_character_9 (fun o5 => ?_)
  refine lv_if_eq (tgt := 19) hx hb dX10_character_12 (by decide) (fun c6 => ?_) (fun c6 => ?_)
  · have h := ifT h c6
    refine lv_iconst (v := 1) hx hb dX10_character_19 (by decide) ?_
    exact key20 (1 : Int32) G _ _ hP hS ls (lv_sub hl [0, 1] rfl) h
  · have h := ifF h c6
    refine lv_iconst (v := 0) hx hb dX10_character_15 (by decide) ?_
    refine lv_goto (tgt := 20) hx hb dX10_character_16 (by decide) ?_
    exact key20 (0 : Int32) G _ _ hP hS ls (lv_sub hl [0, 1] rfl) h
def f_X10_append_15 (G : GT) (a1 : Int32) (s15_0 : Int32) : Option (Int32 × GT) := ((some (upR G 0 (upd (G 0) 6 s15_0))).bind fun G1 => (if (G1 0 6) ≤ 0 then (if inb (G1 0 13) 60 then ((some (upR G1 6 (upd (G1 6) (G1 0 13).toNatClampNeg (vp_nar .char a1)))).bind fun G4 => ((some (upR G4 0 (upd (G4 0) 13 ((G4 0 13) + (1 : Int32))))).bind fun G5 => some ((G5 0 13), G5))) else none) else some ((0 : Int32), G1)))
def f_X10_append (G : GT) (a1 : Int32) : Option (Int32 × GT) := (if (G 0 13) = (60 : Int32) then f_X10_append_15 G a1 (1 : Int32) else f_X10_append_15 G a1 (0 : Int32))
set_option maxRecDepth 100000 in
set_option maxHeartbeats 4000000 in
theorem q_X10_append (l : Launch) (D : va_G) (Y : Nat → ClassId) (ad : Nat → Nat) (hI : Inj 8 ad) (G : GT) (a1 : Int32) (r : Int32) (G' : GT) (h : f_X10_append G a1 = some (r, G')) : WR l yX10_append cX10_append 2 (some .int) 0 D Y 8 ad (kM Y ad) G [.ref (ad 0), .int a1] r G' := by
  refine W_of (ret := (some .int)) (by decide) (Nat.le_of_ble_eq_true rfl) (lv := [(0, .ref (ad 0)), (1, .int a1)]) rfl ?_
  intro p e s m below meth c ls F hP hS hr hk hl
  have F : Fx p c cX10_append 2 s m _ RX10 D Y := F
  have hx := F.1.1
  have hb := F.1.2.1
  have key15 : ∀ (s15_0 : Int32) (G : GT) (H : Heap) (locs : List Loc), va_P D vwCl (wsM Y ad G) H → va_S (AW 8 ad) s.heap H locs → ∀ ls : Array Slot, lv_has ls 2 [(0, .ref (ad 0)), (1, .int a1)] → f_X10_append_15 G a1  s15_0 = some (r, G') → WW p l e 0 s m ([.ref (ad 0), .int a1] : List Value).toArray below meth c H locs (WQi (some .int) r D (wsM Y ad G') (AW 8 ad)) (AW 8 ad) (F0 m 15 ls [.int s15_0, .ref (ad 0)]) := by
    intro s15_0 G H locs hP hS ls hl h
    obtain ⟨G1, e1, h⟩ := bsome h
    refine pM_0_6 F hI hP hS dX10_append_15 (fun H locs hP hS => ?_)
    have hP := cvP e1 hP
    refine lv_aload_n hx hb dX10_append_18 rfl (lv_at hl 0 rfl) ?_
    refine rM_0_6 F hP dX10_append_19 ?_
    refine lv_if_le (tgt := 27) hx hb dX10_append_22 (by decide) (fun c2 => ?_) (fun c2 => ?_)
    · have h := ifT h c2
      refine lv_aload_n hx hb dX10_append_27 rfl (lv_at hl 0 rfl) ?_
      refine rM_0_12 F hP dX10_append_28 ?_
      refine lv_aload_n hx hb dX10_append_31 rfl (lv_at hl 0 rfl) ?_
      refine rM_0_13 F hP dX10_append_32 ?_
      refine lv_iload_n hx hb dX10_append_35 rfl (lv_at hl 1 rfl) ?_
      obtain ⟨b3, h⟩ := ckS h
      obtain ⟨G4, e4, h⟩ := bsome h
      refine astc F hI hP hS (fun i h => ⟨i, h, rfl⟩) 6 (by decide) (fun _ => rfl) (inbV b3 (by decide)) dX10_append_36 (fun H locs hP hS => ?_)
      have hP := cvP e4 hP
      refine lv_aload_n hx hb dX10_append_37 rfl (lv_at hl 0 rfl) ?_
      refine lv_dup hx hb dX10_append_38 rfl ?_
      refine rM_0_13 F hP dX10_append_39 ?_
      refine lv_iconst (v := 1) hx hb dX10_append_42 (by decide) ?_
      refine lv_iadd hx hb dX10_append_43 ?_
      obtain ⟨G5, e5, h⟩ := bsome h
      refine pM_0_13 F hI hP hS dX10_append_44 (fun H locs hP hS => ?_)
      have hP := cvP e5 hP
      refine lv_aload_n hx hb dX10_append_47 rfl (lv_at hl 0 rfl) ?_
      refine rM_0_13 F hP dX10_append_48 ?_
      exact wr_end F hP hS hr hk rfl h dX10_append_51
    · have h := ifF h c2
      refine lv_iconst (v := 0) hx hb dX10_append_25 (by decide) ?_
      exact wr_end F hP hS hr hk rfl h dX10_append_26
  refine lv_aload_n hx hb dX10_append_0 rfl (lv_at hl 0 rfl) ?_
  refine lv_aload_n hx hb dX10_append_1 rfl (lv_at hl 0 rfl) ?_
  refine rM_0_13 F hP dX10_append_2 ?_
  refine lv_bipush (v := 60) hx hb dX10_append_5 (by decide) ?_
  refine lv_icmp_ne (tgt := 14) hx hb dX10_append_7 (by decide) (fun c6 => ?_) (fun c6 => ?_)
  · have h := ifF h c6
    refine lv_iconst (v := 0) hx hb dX10_append_14 (by decide) ?_
    exact key15 (0 : Int32) G _ _ hP hS ls (lv_sub hl [0, 1] rfl) h
  · have h := ifT h c6
    refine lv_iconst (v := 1) hx hb dX10_append_10 (by decide) ?_
    refine lv_goto (tgt := 15) hx hb dX10_append_11 (by decide) ?_
    exact key15 (1 : Int32) G _ _ hP hS ls (lv_sub hl [0, 1] rfl) h
def f_X10_sign_22 (G : GT) (a1 : Int32) (a2 : Int32) (s22_0 : Int32) : Option (Int32 × GT) := (if okB s22_0 then ((some (upR G 0 (upd (G 0) 15 s22_0))).bind fun G2 => (if (G2 0 15) = 0 then ((some (upR G2 0 (upd (G2 0) 14 ((G2 0 14) + (1 : Int32))))).bind fun G4 => (if inb ((G4 0 14) - (1 : Int32)) 60 then some (((G4 6 ((G4 0 14) - (1 : Int32)).toNatClampNeg) - a1), G4) else none)) else some ((0 : Int32), G2))) else none)
def f_X10_sign_17 (G : GT) (a1 : Int32) (a2 : Int32) : Option (Int32 × GT) := f_X10_sign_22 G a1 a2 (1 : Int32)
def f_X10_sign (G : GT) (a1 : Int32) (a2 : Int32) : Option (Int32 × GT) := (if (G 0 15) = 0 then ((f_X10_isHere G a1 a2).bind fun r7 => (if r7 = 0 then f_X10_sign_17 G a1 a2 else f_X10_sign_22 G a1 a2 (0 : Int32))) else f_X10_sign_17 G a1 a2)
set_option maxRecDepth 100000 in
set_option maxHeartbeats 4000000 in
theorem q_X10_sign (l : Launch) (D : va_G) (Y : Nat → ClassId) (ad : Nat → Nat) (hI : Inj 8 ad) (G : GT) (a1 : Int32) (a2 : Int32) (r : Int32) (G' : GT) (h : f_X10_sign G a1 a2 = some (r, G')) : WR l yX10_sign cX10_sign 3 (some .int) 2 D Y 8 ad (kM Y ad) G [.ref (ad 0), .int a1, .int a2] r G' := by
  refine W_of (ret := (some .int)) (by decide) (Nat.le_of_ble_eq_true rfl) (lv := [(0, .ref (ad 0)), (1, .int a1), (2, .int a2)]) rfl ?_
  intro p e s m below meth c ls F hP hS hr hk hl
  have F : Fx p c cX10_sign 3 s m _ RX10 D Y := F
  have hx := F.1.1
  have hb := F.1.2.1
  have key22 : ∀ (s22_0 : Int32) (G : GT) (H : Heap) (locs : List Loc), va_P D vwCl (wsM Y ad G) H → va_S (AW 8 ad) s.heap H locs → ∀ ls : Array Slot, lv_has ls 3 [(0, .ref (ad 0)), (1, .int a1)] → f_X10_sign_22 G a1 a2  s22_0 = some (r, G') → WW p l e 2 s m ([.ref (ad 0), .int a1, .int a2] : List Value).toArray below meth c H locs (WQi (some .int) r D (wsM Y ad G') (AW 8 ad)) (AW 8 ad) (F0 m 22 ls [.int s22_0, .ref (ad 0)]) := by
    intro s22_0 G H locs hP hS ls hl h
    obtain ⟨b1, h⟩ := ckS h
    obtain ⟨G2, e2, h⟩ := bsome h
    refine pM_0_15 (okB_n b1) (okB_f b1) F hI hP hS dX10_sign_22 (fun H locs hP hS => ?_)
    have hP := cvP e2 hP
    refine lv_aload_n hx hb dX10_sign_25 rfl (lv_at hl 0 rfl) ?_
    refine rM_0_15 F hP dX10_sign_26 ?_
    refine lv_if_eq (tgt := 34) hx hb dX10_sign_29 (by decide) (fun c3 => ?_) (fun c3 => ?_)
    · have h := ifT h c3
      refine lv_aload_n hx hb dX10_sign_34 rfl (lv_at hl 0 rfl) ?_
      refine lv_dup hx hb dX10_sign_35 rfl ?_
      refine rM_0_14 F hP dX10_sign_36 ?_
      refine lv_iconst (v := 1) hx hb dX10_sign_39 (by decide) ?_
      refine lv_iadd hx hb dX10_sign_40 ?_
      obtain ⟨G4, e4, h⟩ := bsome h
      refine pM_0_14 F hI hP hS dX10_sign_41 (fun H locs hP hS => ?_)
      have hP := cvP e4 hP
      refine lv_aload_n hx hb dX10_sign_44 rfl (lv_at hl 0 rfl) ?_
      refine rM_0_12 F hP dX10_sign_45 ?_
      refine lv_aload_n hx hb dX10_sign_48 rfl (lv_at hl 0 rfl) ?_
      refine rM_0_14 F hP dX10_sign_49 ?_
      refine lv_iconst (v := 1) hx hb dX10_sign_52 (by decide) ?_
      refine lv_isub hx hb dX10_sign_53 ?_
      obtain ⟨b5, h⟩ := ckS h
      refine alc F hP 6 (wsW_get 6 (by decide)) (inbV b5 (by decide)) dX10_sign_54 ?_
      refine lv_iload_n hx hb dX10_sign_55 rfl (lv_at hl 1 rfl) ?_
      refine lv_isub hx hb dX10_sign_56 ?_
      exact wr_end F hP hS hr hk rfl h dX10_sign_57
    · have h := ifF h c3
      refine lv_iconst (v := 0) hx hb dX10_sign_32 (by decide) ?_
      exact wr_end F hP hS hr hk rfl h dX10_sign_33
  have key17 : ∀ (G : GT) (H : Heap) (locs : List Loc), va_P D vwCl (wsM Y ad G) H → va_S (AW 8 ad) s.heap H locs → ∀ ls : Array Slot, lv_has ls 3 [(0, .ref (ad 0)), (1, .int a1)] → f_X10_sign_17 G a1 a2   = some (r, G') → WW p l e 2 s m ([.ref (ad 0), .int a1, .int a2] : List Value).toArray below meth c H locs (WQi (some .int) r D (wsM Y ad G') (AW 8 ad)) (AW 8 ad) (F0 m 17 ls [.ref (ad 0)]) := by
    intro  G H locs hP hS ls hl h
    refine lv_iconst (v := 1) hx hb dX10_sign_17 (by decide) ?_
    refine lv_goto (tgt := 22) hx hb dX10_sign_18 (by decide) ?_
    exact key22 (1 : Int32) G _ _ hP hS ls (lv_sub hl [0, 1] rfl) h
  refine lv_aload_n hx hb dX10_sign_0 rfl (lv_at hl 0 rfl) ?_
  refine lv_aload_n hx hb dX10_sign_1 rfl (lv_at hl 0 rfl) ?_
  refine rM_0_15 F hP dX10_sign_2 ?_
  refine lv_if_ne (tgt := 17) hx hb dX10_sign_5 (by decide) (fun c6 => ?_) (fun c6 => ?_)
  · have h := ifF h c6
    exact key17 G _ _ hP hS ls (lv_sub hl [0, 1] rfl) h
  · have h := ifT h c6
    refine lv_aload_n hx hb dX10_sign_8 rfl (lv_at hl 0 rfl) ?_
    refine lv_iload_n hx hb dX10_sign_9 rfl (lv_at hl 1 rfl) ?_
    refine lv_iload_n hx hb dX10_sign_10 rfl (lv_at hl 2 rfl) ?_
    obtain ⟨r7, e7, h⟩ := bsome h
    refine rd_V F hP k_X10_isHere mw_1678 0 11 rfl (wsW_get 0 (by decide)) (q_X10_isHere l D Y ad G a1 a2 r7 e7) rfl hl.1 ⟨Nat.le_of_ble_eq_true rfl, Nat.le_of_ble_eq_true rfl⟩ (rest := [.ref (ad 0)]) rfl (Nat.le_of_ble_eq_true rfl) ⟨Nat.le_of_ble_eq_true rfl, Nat.le_of_ble_eq_true rfl⟩ dX10_sign_11 (fun o7 => ?_)
    refine lv_if_ne (tgt := 21) hx hb dX10_sign_14 (by decide) (fun c8 => ?_) (fun c8 => ?_)
    · have h := ifF h c8
      refine lv_iconst (v := 0) hx hb dX10_sign_21 (by decide) ?_
      exact key22 (0 : Int32) G _ _ hP hS ls (lv_sub hl [0, 1] rfl) h
    · have h := ifT h c8
      exact key17 G _ _ hP hS ls (lv_sub hl [0, 1] rfl) h
def f_X10_errorPosition (G : GT) : Option (Int32 × GT) := ((some (upR G 0 (upd (G 0) 6 (0 : Int32)))).bind fun G1 => some ((G1 0 16), G1))
set_option maxRecDepth 100000 in
set_option maxHeartbeats 4000000 in
theorem q_X10_errorPosition (l : Launch) (D : va_G) (Y : Nat → ClassId) (ad : Nat → Nat) (hI : Inj 8 ad) (G : GT) (r : Int32) (G' : GT) (h : f_X10_errorPosition G  = some (r, G')) : WR l yX10_errorPosition cX10_errorPosition 1 (some .int) 0 D Y 8 ad (kM Y ad) G [.ref (ad 0)] r G' := by
  refine W_of (ret := (some .int)) (by decide) (Nat.le_of_ble_eq_true rfl) (lv := [(0, .ref (ad 0))]) rfl ?_
  intro p e s m below meth c ls F hP hS hr hk hl
  have F : Fx p c cX10_errorPosition 1 s m _ RX10 D Y := F
  have hx := F.1.1
  have hb := F.1.2.1
  refine lv_aload_n hx hb dX10_errorPosition_0 rfl (lv_at hl 0 rfl) ?_
  refine lv_iconst (v := 0) hx hb dX10_errorPosition_1 (by decide) ?_
  obtain ⟨G1, e1, h⟩ := bsome h
  refine pM_0_6 F hI hP hS dX10_errorPosition_2 (fun H locs hP hS => ?_)
  have hP := cvP e1 hP
  refine lv_aload_n hx hb dX10_errorPosition_5 rfl (lv_at hl 0 rfl) ?_
  refine rM_0_16 F hP dX10_errorPosition_6 ?_
  exact wr_end F hP hS hr hk rfl h dX10_errorPosition_9
def f_X10_allParts_4 (G : Nat → Nat → Int32) (n : Nat) (y1 : Int32) (y2 : Int32) : Option Int32 := lq2 (fun (k4 : Int32 → Int32 → Option Int32) (x1 : Int32) (x2 : Int32) => (if (G 1 1) ≤ x2 then some x1 else ((f_X10_parts G x2).bind fun r2 => k4 (x1 + r2) (x2 + 1)))) n y1 y2
def f_X10_allParts (G : Nat → Nat → Int32) : Option Int32 := f_X10_allParts_4 G 4096 (0 : Int32) (0 : Int32)
set_option maxRecDepth 100000 in
set_option maxHeartbeats 4000000 in
theorem q_X10_allParts (l : Launch) (D : va_G) (Y : Nat → ClassId) (ad : Nat → Nat) (G : Nat → Nat → Int32) (r : Int32) (h : f_X10_allParts G  = some r) : RD l yX10_allParts cX10_allParts 3 (some .int) 4 D Y (wsM Y ad G) [.ref (ad 0)] r := by
  refine RD_of (by decide) (Nat.le_of_ble_eq_true rfl) (lv := [(0, .ref (ad 0))]) rfl ?_
  intro p e s m below meth c ls F hP hr hk hl
  have F : Fx p c cX10_allParts 3 s m _ RX10 D Y := F
  have hx := F.1.1
  have hb := F.1.2.1
  have key4 : ∀ (n : Nat) (x1 : Int32) (x2 : Int32) (ls : Array Slot), lv_has ls 3 [(0, .ref (ad 0)), (1, .int x1), (2, .int x2)] → f_X10_allParts_4 G   n x1 x2 = some r → WD p l e 4 s m ([.ref (ad 0)] : List Value).toArray below meth c s.heap (some .int) r (F0 m 4 ls []) := by
    intro  n
    induction n with
    | zero => intro x1 x2 ls hl h; exact lqZ2 h
    | succ n4 ih4 =>
      intro x1 x2 ls hl h
      have h := lqS2 h
      refine lv_iload_n hx hb dX10_allParts_4 rfl (lv_at hl 2 rfl) ?_
      refine lv_aload_n hx hb dX10_allParts_5 rfl (lv_at hl 0 rfl) ?_
      refine rM_0_0 F hP dX10_allParts_6 ?_
      refine lv_iconst (v := 1) hx hb dX10_allParts_9 (by decide) ?_
      refine alk F hP 1 (wsW_get 1 (by decide)) (k := 1) (by decide) (inbV (by decide) (by decide)) dX10_allParts_10 ?_
      refine lv_icmp_ge (tgt := 28) hx hb dX10_allParts_11 (by decide) (fun c1 => ?_) (fun c1 => ?_)
      · have h := ifT h c1
        refine lv_iload_n hx hb dX10_allParts_28 rfl (lv_at hl 1 rfl) ?_
        exact rd_end F hr hk rfl h dX10_allParts_29
      · have h := ifF h c1
        refine lv_iload_n hx hb dX10_allParts_14 rfl (lv_at hl 1 rfl) ?_
        refine lv_aload_n hx hb dX10_allParts_15 rfl (lv_at hl 0 rfl) ?_
        refine lv_iload_n hx hb dX10_allParts_16 rfl (lv_at hl 2 rfl) ?_
        obtain ⟨r2, e2, h⟩ := bsome h
        refine rd_V F hP k_X10_parts mw_1493 0 11 rfl (wsW_get 0 (by decide)) (q_X10_parts l D Y ad G x2 r2 e2) rfl hl.1 ⟨Nat.le_of_ble_eq_true rfl, Nat.le_of_ble_eq_true rfl⟩ (rest := [.int x1]) rfl (Nat.le_of_ble_eq_true rfl) ⟨Nat.le_of_ble_eq_true rfl, Nat.le_of_ble_eq_true rfl⟩ dX10_allParts_17 (fun o2 => ?_)
        refine lv_iadd hx hb dX10_allParts_20 ?_
        refine lv_istore_n (lv' := [(1, .int ((x1 + r2))), (0, .ref (ad 0)), (2, .int x2)]) hx hb dX10_allParts_21 rfl hl (by decide) rfl (fun ls hl => ?_)
        refine lv_iinc (v := (x2 + 1)) (lv' := [(2, .int ((x2 + 1))), (1, .int ((x1 + r2))), (0, .ref (ad 0))]) hx hb dX10_allParts_22 hl (k := 2) rfl rfl (by decide) rfl (fun ls hl => ?_)
        refine lv_goto (tgt := 4) hx hb dX10_allParts_25 (by decide) ?_
        exact ih4 (x1 + r2) (x2 + 1) ls (lv_sub hl [2, 1, 0] rfl) h
  refine lv_iconst (v := 0) hx hb dX10_allParts_0 (by decide) ?_
  refine lv_istore_n (lv' := [(1, .int ((0 : Int32))), (0, .ref (ad 0))]) hx hb dX10_allParts_1 rfl hl (by decide) rfl (fun ls hl => ?_)
  refine lv_iconst (v := 0) hx hb dX10_allParts_2 (by decide) ?_
  refine lv_istore_n (lv' := [(2, .int ((0 : Int32))), (1, .int ((0 : Int32))), (0, .ref (ad 0))]) hx hb dX10_allParts_3 rfl hl (by decide) rfl (fun ls hl => ?_)
  exact key4 4096 (0 : Int32) (0 : Int32) ls (lv_sub hl [2, 1, 0] rfl) h
def f_X10_account_16 (G : GT) (a1 : Int32) (s16_0 : Int32) : Option (Int32 × GT) := ((some (upR G 0 (upd (G 0) 6 s16_0))).bind fun G1 => (if (G1 0 6) ≤ 0 then (if a1 = 0 then some ((G1 1 0), G1) else (if a1 = 1 then ((f_X10_barBegin G1 (G1 1 0)).bind fun r5 => some (r5, G1)) else (if a1 = 2 then ((f_X10_begin G1 (G1 1 1)).bind fun r7 => some (r7, G1)) else (if a1 = 3 then some ((G1 1 1), G1) else (if a1 = 4 then ((f_X10_drops G1 ).bind fun r10 => some (r10, G1)) else (if a1 = 5 then ((f_X10_drops G1 ).bind fun r12 => some (((G1 1 1) - r12), G1)) else (if a1 = 6 then ((f_X10_allParts G1 ).bind fun r14 => some (r14, G1)) else (if a1 = 7 then some ((G1 1 2), G1) else (if a1 = 8 then some ((G1 1 3), G1) else (if a1 = 9 then some ((G1 1 4), G1) else (if a1 = 10 then some ((G1 0 13), G1) else some ((G1 0 5), G1)))))))))))) else some ((0 : Int32), G1)))
def f_X10_account (G : GT) (a1 : Int32) : Option (Int32 × GT) := ((f_X10_in G a1 (0 : Int32) (11 : Int32)).bind fun r19 => (if r19 = 0 then f_X10_account_16 G a1 (1 : Int32) else f_X10_account_16 G a1 (0 : Int32)))
set_option maxRecDepth 100000 in
set_option maxHeartbeats 4000000 in
theorem q_X10_account (l : Launch) (D : va_G) (Y : Nat → ClassId) (ad : Nat → Nat) (hI : Inj 8 ad) (G : GT) (a1 : Int32) (r : Int32) (G' : GT) (h : f_X10_account G a1 = some (r, G')) : WR l yX10_account cX10_account 2 (some .int) 5 D Y 8 ad (kM Y ad) G [.ref (ad 0), .int a1] r G' := by
  refine W_of (ret := (some .int)) (by decide) (Nat.le_of_ble_eq_true rfl) (lv := [(0, .ref (ad 0)), (1, .int a1)]) rfl ?_
  intro p e s m below meth c ls F hP hS hr hk hl
  have F : Fx p c cX10_account 2 s m _ RX10 D Y := F
  have hx := F.1.1
  have hb := F.1.2.1
  have key16 : ∀ (s16_0 : Int32) (G : GT) (H : Heap) (locs : List Loc), va_P D vwCl (wsM Y ad G) H → va_S (AW 8 ad) s.heap H locs → ∀ ls : Array Slot, lv_has ls 2 [(0, .ref (ad 0)), (1, .int a1)] → f_X10_account_16 G a1  s16_0 = some (r, G') → WW p l e 5 s m ([.ref (ad 0), .int a1] : List Value).toArray below meth c H locs (WQi (some .int) r D (wsM Y ad G') (AW 8 ad)) (AW 8 ad) (F0 m 16 ls [.int s16_0, .ref (ad 0)]) := by
    intro s16_0 G H locs hP hS ls hl h
    obtain ⟨G1, e1, h⟩ := bsome h
    refine pM_0_6 F hI hP hS dX10_account_16 (fun H locs hP hS => ?_)
    have hP := cvP e1 hP
    refine lv_aload_n hx hb dX10_account_19 rfl (lv_at hl 0 rfl) ?_
    refine rM_0_6 F hP dX10_account_20 ?_
    refine lv_if_le (tgt := 28) hx hb dX10_account_23 (by decide) (fun c2 => ?_) (fun c2 => ?_)
    · have h := ifT h c2
      refine lv_iload_n hx hb dX10_account_28 rfl (lv_at hl 1 rfl) ?_
      by_cases c3 : a1 = 0
      · have h := ifT h c3
        refine lv_tableIn (off := 59) (tgt := 88) hx hb dX10_account_29 (by rw [c3]; decide) (by rw [c3]; decide) (by rw [c3]; rfl) (by decide) ?_
        refine lv_aload_n hx hb dX10_account_88 rfl (lv_at hl 0 rfl) ?_
        refine rM_0_0 F hP dX10_account_89 ?_
        refine lv_iconst (v := 0) hx hb dX10_account_92 (by decide) ?_
        refine alk F hP 1 (wsW_get 1 (by decide)) (k := 0) (by decide) (inbV (by decide) (by decide)) dX10_account_93 ?_
        exact wr_end F hP hS hr hk rfl h dX10_account_94
      have h := ifF h c3
      by_cases c4 : a1 = 1
      · have h := ifT h c4
        refine lv_tableIn (off := 66) (tgt := 95) hx hb dX10_account_29 (by rw [c4]; decide) (by rw [c4]; decide) (by rw [c4]; rfl) (by decide) ?_
        refine lv_aload_n hx hb dX10_account_95 rfl (lv_at hl 0 rfl) ?_
        refine lv_aload_n hx hb dX10_account_96 rfl (lv_at hl 0 rfl) ?_
        refine rM_0_0 F hP dX10_account_97 ?_
        refine lv_iconst (v := 0) hx hb dX10_account_100 (by decide) ?_
        refine alk F hP 1 (wsW_get 1 (by decide)) (k := 0) (by decide) (inbV (by decide) (by decide)) dX10_account_101 ?_
        obtain ⟨r5, e5, h⟩ := bsome h
        refine rd_V F hP k_X10_barBegin mw_1425 0 11 rfl (wsW_get 0 (by decide)) (q_X10_barBegin l D Y ad G1 (G1 1 0) r5 e5) rfl hl.1 ⟨Nat.le_of_ble_eq_true rfl, Nat.le_of_ble_eq_true rfl⟩ (rest := []) rfl (Nat.le_of_ble_eq_true rfl) ⟨Nat.le_of_ble_eq_true rfl, Nat.le_of_ble_eq_true rfl⟩ dX10_account_102 (fun o5 => ?_)
        exact wr_end F hP hS hr hk rfl h dX10_account_105
      have h := ifF h c4
      by_cases c6 : a1 = 2
      · have h := ifT h c6
        refine lv_tableIn (off := 77) (tgt := 106) hx hb dX10_account_29 (by rw [c6]; decide) (by rw [c6]; decide) (by rw [c6]; rfl) (by decide) ?_
        refine lv_aload_n hx hb dX10_account_106 rfl (lv_at hl 0 rfl) ?_
        refine lv_aload_n hx hb dX10_account_107 rfl (lv_at hl 0 rfl) ?_
        refine rM_0_0 F hP dX10_account_108 ?_
        refine lv_iconst (v := 1) hx hb dX10_account_111 (by decide) ?_
        refine alk F hP 1 (wsW_get 1 (by decide)) (k := 1) (by decide) (inbV (by decide) (by decide)) dX10_account_112 ?_
        obtain ⟨r7, e7, h⟩ := bsome h
        refine rd_V F hP k_X10_begin mw_1429 0 11 rfl (wsW_get 0 (by decide)) (q_X10_begin l D Y ad G1 (G1 1 1) r7 e7) rfl hl.1 ⟨Nat.le_of_ble_eq_true rfl, Nat.le_of_ble_eq_true rfl⟩ (rest := []) rfl (Nat.le_of_ble_eq_true rfl) ⟨Nat.le_of_ble_eq_true rfl, Nat.le_of_ble_eq_true rfl⟩ dX10_account_113 (fun o7 => ?_)
        exact wr_end F hP hS hr hk rfl h dX10_account_116
      have h := ifF h c6
      by_cases c8 : a1 = 3
      · have h := ifT h c8
        refine lv_tableIn (off := 88) (tgt := 117) hx hb dX10_account_29 (by rw [c8]; decide) (by rw [c8]; decide) (by rw [c8]; rfl) (by decide) ?_
        refine lv_aload_n hx hb dX10_account_117 rfl (lv_at hl 0 rfl) ?_
        refine rM_0_0 F hP dX10_account_118 ?_
        refine lv_iconst (v := 1) hx hb dX10_account_121 (by decide) ?_
        refine alk F hP 1 (wsW_get 1 (by decide)) (k := 1) (by decide) (inbV (by decide) (by decide)) dX10_account_122 ?_
        exact wr_end F hP hS hr hk rfl h dX10_account_123
      have h := ifF h c8
      by_cases c9 : a1 = 4
      · have h := ifT h c9
        refine lv_tableIn (off := 95) (tgt := 124) hx hb dX10_account_29 (by rw [c9]; decide) (by rw [c9]; decide) (by rw [c9]; rfl) (by decide) ?_
        refine lv_aload_n hx hb dX10_account_124 rfl (lv_at hl 0 rfl) ?_
        obtain ⟨r10, e10, h⟩ := bsome h
        refine rd_V F hP k_X10_drops mw_1600 0 11 rfl (wsW_get 0 (by decide)) (q_X10_drops l D Y ad G1  r10 e10) rfl hl.1 ⟨Nat.le_of_ble_eq_true rfl, Nat.le_of_ble_eq_true rfl⟩ (rest := []) rfl (Nat.le_of_ble_eq_true rfl) ⟨Nat.le_of_ble_eq_true rfl, Nat.le_of_ble_eq_true rfl⟩ dX10_account_125 (fun o10 => ?_)
        exact wr_end F hP hS hr hk rfl h dX10_account_128
      have h := ifF h c9
      by_cases c11 : a1 = 5
      · have h := ifT h c11
        refine lv_tableIn (off := 100) (tgt := 129) hx hb dX10_account_29 (by rw [c11]; decide) (by rw [c11]; decide) (by rw [c11]; rfl) (by decide) ?_
        refine lv_aload_n hx hb dX10_account_129 rfl (lv_at hl 0 rfl) ?_
        refine rM_0_0 F hP dX10_account_130 ?_
        refine lv_iconst (v := 1) hx hb dX10_account_133 (by decide) ?_
        refine alk F hP 1 (wsW_get 1 (by decide)) (k := 1) (by decide) (inbV (by decide) (by decide)) dX10_account_134 ?_
        refine lv_aload_n hx hb dX10_account_135 rfl (lv_at hl 0 rfl) ?_
        obtain ⟨r12, e12, h⟩ := bsome h
        refine rd_V F hP k_X10_drops mw_1600 0 11 rfl (wsW_get 0 (by decide)) (q_X10_drops l D Y ad G1  r12 e12) rfl hl.1 ⟨Nat.le_of_ble_eq_true rfl, Nat.le_of_ble_eq_true rfl⟩ (rest := [.int ((G1 1 1))]) rfl (Nat.le_of_ble_eq_true rfl) ⟨Nat.le_of_ble_eq_true rfl, Nat.le_of_ble_eq_true rfl⟩ dX10_account_136 (fun o12 => ?_)
        refine lv_isub hx hb dX10_account_139 ?_
        exact wr_end F hP hS hr hk rfl h dX10_account_140
      have h := ifF h c11
      by_cases c13 : a1 = 6
      · have h := ifT h c13
        refine lv_tableIn (off := 112) (tgt := 141) hx hb dX10_account_29 (by rw [c13]; decide) (by rw [c13]; decide) (by rw [c13]; rfl) (by decide) ?_
        refine lv_aload_n hx hb dX10_account_141 rfl (lv_at hl 0 rfl) ?_
        obtain ⟨r14, e14, h⟩ := bsome h
        refine rd_V F hP k_X10_allParts mw_1699 0 11 rfl (wsW_get 0 (by decide)) (q_X10_allParts l D Y ad G1  r14 e14) rfl hl.1 ⟨Nat.le_of_ble_eq_true rfl, Nat.le_of_ble_eq_true rfl⟩ (rest := []) rfl (Nat.le_of_ble_eq_true rfl) ⟨Nat.le_of_ble_eq_true rfl, Nat.le_of_ble_eq_true rfl⟩ dX10_account_142 (fun o14 => ?_)
        exact wr_end F hP hS hr hk rfl h dX10_account_145
      have h := ifF h c13
      by_cases c15 : a1 = 7
      · have h := ifT h c15
        refine lv_tableIn (off := 117) (tgt := 146) hx hb dX10_account_29 (by rw [c15]; decide) (by rw [c15]; decide) (by rw [c15]; rfl) (by decide) ?_
        refine lv_aload_n hx hb dX10_account_146 rfl (lv_at hl 0 rfl) ?_
        refine rM_0_0 F hP dX10_account_147 ?_
        refine lv_iconst (v := 2) hx hb dX10_account_150 (by decide) ?_
        refine alk F hP 1 (wsW_get 1 (by decide)) (k := 2) (by decide) (inbV (by decide) (by decide)) dX10_account_151 ?_
        exact wr_end F hP hS hr hk rfl h dX10_account_152
      have h := ifF h c15
      by_cases c16 : a1 = 8
      · have h := ifT h c16
        refine lv_tableIn (off := 124) (tgt := 153) hx hb dX10_account_29 (by rw [c16]; decide) (by rw [c16]; decide) (by rw [c16]; rfl) (by decide) ?_
        refine lv_aload_n hx hb dX10_account_153 rfl (lv_at hl 0 rfl) ?_
        refine rM_0_0 F hP dX10_account_154 ?_
        refine lv_iconst (v := 3) hx hb dX10_account_157 (by decide) ?_
        refine alk F hP 1 (wsW_get 1 (by decide)) (k := 3) (by decide) (inbV (by decide) (by decide)) dX10_account_158 ?_
        exact wr_end F hP hS hr hk rfl h dX10_account_159
      have h := ifF h c16
      by_cases c17 : a1 = 9
      · have h := ifT h c17
        refine lv_tableIn (off := 131) (tgt := 160) hx hb dX10_account_29 (by rw [c17]; decide) (by rw [c17]; decide) (by rw [c17]; rfl) (by decide) ?_
        refine lv_aload_n hx hb dX10_account_160 rfl (lv_at hl 0 rfl) ?_
        refine rM_0_0 F hP dX10_account_161 ?_
        refine lv_iconst (v := 4) hx hb dX10_account_164 (by decide) ?_
        refine alk F hP 1 (wsW_get 1 (by decide)) (k := 4) (by decide) (inbV (by decide) (by decide)) dX10_account_165 ?_
        exact wr_end F hP hS hr hk rfl h dX10_account_166
      have h := ifF h c17
      by_cases c18 : a1 = 10
      · have h := ifT h c18
        refine lv_tableIn (off := 138) (tgt := 167) hx hb dX10_account_29 (by rw [c18]; decide) (by rw [c18]; decide) (by rw [c18]; rfl) (by decide) ?_
        refine lv_aload_n hx hb dX10_account_167 rfl (lv_at hl 0 rfl) ?_
        refine rM_0_13 F hP dX10_account_168 ?_
        exact wr_end F hP hS hr hk rfl h dX10_account_171
      have h := ifF h c18
      refine lv_tableOut (tgt := 172) hx hb dX10_account_29 (by have nc3 := lv_neT c3 (a := 0) (by decide); have nc4 := lv_neT c4 (a := 1) (by decide); have nc6 := lv_neT c6 (a := 2) (by decide); have nc8 := lv_neT c8 (a := 3) (by decide); have nc9 := lv_neT c9 (a := 4) (by decide); have nc11 := lv_neT c11 (a := 5) (by decide); have nc13 := lv_neT c13 (a := 6) (by decide); have nc15 := lv_neT c15 (a := 7) (by decide); have nc16 := lv_neT c16 (a := 8) (by decide); have nc17 := lv_neT c17 (a := 9) (by decide); have nc18 := lv_neT c18 (a := 10) (by decide); omega) (by decide) ?_
      refine lv_aload_n hx hb dX10_account_172 rfl (lv_at hl 0 rfl) ?_
      refine rM_0_5 F hP dX10_account_173 ?_
      exact wr_end F hP hS hr hk rfl h dX10_account_176
    · have h := ifF h c2
      refine lv_iconst (v := 0) hx hb dX10_account_26 (by decide) ?_
      exact wr_end F hP hS hr hk rfl h dX10_account_27
  refine lv_aload_n hx hb dX10_account_0 rfl (lv_at hl 0 rfl) ?_
  refine lv_iload_n hx hb dX10_account_1 rfl (lv_at hl 1 rfl) ?_
  refine lv_iconst (v := 0) hx hb dX10_account_2 (by decide) ?_
  refine lv_bipush (v := 11) hx hb dX10_account_3 (by decide) ?_
  obtain ⟨r19, e19, h⟩ := bsome h
  refine rd_S F hP k_X10_in mw_1379 (q_X10_in l D Y ad G a1 (0 : Int32) (11 : Int32) r19 e19) rfl hl.1 ⟨Nat.le_of_ble_eq_true rfl, Nat.le_of_ble_eq_true rfl⟩ (rest := [.ref (ad 0)]) rfl (Nat.le_of_ble_eq_true rfl) ⟨Nat.le_of_ble_eq_true rfl, Nat.le_of_ble_eq_true rfl⟩ dX10_account_5 (fun o19 => ?_)
  refine lv_if_eq (tgt := 15) hx hb dX10_account_8 (by decide) (fun c20 => ?_) (fun c20 => ?_)
  · have h := ifT h c20
    refine lv_iconst (v := 1) hx hb dX10_account_15 (by decide) ?_
    exact key16 (1 : Int32) G _ _ hP hS ls (lv_sub hl [0, 1] rfl) h
  · have h := ifF h c20
    refine lv_iconst (v := 0) hx hb dX10_account_11 (by decide) ?_
    refine lv_goto (tgt := 16) hx hb dX10_account_12 (by decide) ?_
    exact key16 (0 : Int32) G _ _ hP hS ls (lv_sub hl [0, 1] rfl) h
def f_X10_isWell (G : GT) : Option (Int32 × GT) := ((some (upR G 0 (upd (G 0) 6 (0 : Int32)))).bind fun G1 => some ((1 : Int32), G1))
set_option maxRecDepth 100000 in
set_option maxHeartbeats 4000000 in
theorem q_X10_isWell (l : Launch) (D : va_G) (Y : Nat → ClassId) (ad : Nat → Nat) (hI : Inj 8 ad) (G : GT) (r : Int32) (G' : GT) (h : f_X10_isWell G  = some (r, G')) : WR l yX10_isWell cX10_isWell 1 (some .boolean) 0 D Y 8 ad (kM Y ad) G [.ref (ad 0)] r G' := by
  refine W_of (ret := (some .boolean)) (by decide) (Nat.le_of_ble_eq_true rfl) (lv := [(0, .ref (ad 0))]) rfl ?_
  intro p e s m below meth c ls F hP hS hr hk hl
  have F : Fx p c cX10_isWell 1 s m _ RX10 D Y := F
  have hx := F.1.1
  have hb := F.1.2.1
  refine lv_aload_n hx hb dX10_isWell_0 rfl (lv_at hl 0 rfl) ?_
  refine lv_iconst (v := 0) hx hb dX10_isWell_1 (by decide) ?_
  obtain ⟨G1, e1, h⟩ := bsome h
  refine pM_0_6 F hI hP hS dX10_isWell_2 (fun H locs hP hS => ?_)
  have hP := cvP e1 hP
  refine lv_iconst (v := 1) hx hb dX10_isWell_5 (by decide) ?_
  exact wr_end F hP hS hr hk rfl h dX10_isWell_6
def f_X10_undo_13 (G : GT) (s13_0 : Int32) : Option (Int32 × GT) := ((some (upR G 0 (upd (G 0) 6 s13_0))).bind fun G1 => (if (G1 0 6) ≤ 0 then ((some (upR G1 0 (upd (G1 0) 5 ((G1 0 5) - (1 : Int32))))).bind fun G3 => (if cpOK ((67 : Int32) * (G3 0 5)) (0 : Int32) (67 : Int32) 536 67 then ((some (upR G3 1 (va_cpy (G3 4) (G3 1) ((67 : Int32) * (G3 0 5)).toNatClampNeg (0 : Int32).toNatClampNeg (67 : Int32).toNatClampNeg))).bind fun G5 => some ((G5 0 5), G5)) else none)) else some ((0 : Int32), G1)))
def f_X10_undo (G : GT) : Option (Int32 × GT) := (if (G 0 5) = 0 then f_X10_undo_13 G (1 : Int32) else f_X10_undo_13 G (0 : Int32))
set_option maxRecDepth 100000 in
set_option maxHeartbeats 4000000 in
theorem q_X10_undo (l : Launch) (D : va_G) (Y : Nat → ClassId) (ad : Nat → Nat) (hI : Inj 8 ad) (G : GT) (r : Int32) (G' : GT) (h : f_X10_undo G  = some (r, G')) : WR l yX10_undo cX10_undo 1 (some .int) 1 D Y 8 ad (kM Y ad) G [.ref (ad 0)] r G' := by
  refine W_of (ret := (some .int)) (by decide) (Nat.le_of_ble_eq_true rfl) (lv := [(0, .ref (ad 0))]) rfl ?_
  intro p e s m below meth c ls F hP hS hr hk hl
  have F : Fx p c cX10_undo 1 s m _ RX10 D Y := F
  have hx := F.1.1
  have hb := F.1.2.1
  have key13 : ∀ (s13_0 : Int32) (G : GT) (H : Heap) (locs : List Loc), va_P D vwCl (wsM Y ad G) H → va_S (AW 8 ad) s.heap H locs → ∀ ls : Array Slot, lv_has ls 1 [(0, .ref (ad 0))] → f_X10_undo_13 G   s13_0 = some (r, G') → WW p l e 1 s m ([.ref (ad 0)] : List Value).toArray below meth c H locs (WQi (some .int) r D (wsM Y ad G') (AW 8 ad)) (AW 8 ad) (F0 m 13 ls [.int s13_0, .ref (ad 0)]) := by
    intro s13_0 G H locs hP hS ls hl h
    obtain ⟨G1, e1, h⟩ := bsome h
    refine pM_0_6 F hI hP hS dX10_undo_13 (fun H locs hP hS => ?_)
    have hP := cvP e1 hP
    refine lv_aload_n hx hb dX10_undo_16 rfl (lv_at hl 0 rfl) ?_
    refine rM_0_6 F hP dX10_undo_17 ?_
    refine lv_if_le (tgt := 25) hx hb dX10_undo_20 (by decide) (fun c2 => ?_) (fun c2 => ?_)
    · have h := ifT h c2
      refine lv_aload_n hx hb dX10_undo_25 rfl (lv_at hl 0 rfl) ?_
      refine lv_dup hx hb dX10_undo_26 rfl ?_
      refine rM_0_5 F hP dX10_undo_27 ?_
      refine lv_iconst (v := 1) hx hb dX10_undo_30 (by decide) ?_
      refine lv_isub hx hb dX10_undo_31 ?_
      obtain ⟨G3, e3, h⟩ := bsome h
      refine pM_0_5 F hI hP hS dX10_undo_32 (fun H locs hP hS => ?_)
      have hP := cvP e3 hP
      refine lv_aload_n hx hb dX10_undo_35 rfl (lv_at hl 0 rfl) ?_
      refine rM_0_4 F hP dX10_undo_36 ?_
      refine lv_bipush (v := 67) hx hb dX10_undo_39 (by decide) ?_
      refine lv_aload_n hx hb dX10_undo_41 rfl (lv_at hl 0 rfl) ?_
      refine rM_0_5 F hP dX10_undo_42 ?_
      refine lv_imul hx hb dX10_undo_45 ?_
      refine lv_aload_n hx hb dX10_undo_46 rfl (lv_at hl 0 rfl) ?_
      refine rM_0_0 F hP dX10_undo_47 ?_
      refine lv_iconst (v := 0) hx hb dX10_undo_50 (by decide) ?_
      refine lv_bipush (v := 67) hx hb dX10_undo_51 (by decide) ?_
      obtain ⟨b4, h⟩ := ckS h
      obtain ⟨G5, e5, h⟩ := bsome h
      refine w_copy F hl hI hP hS (fun i h => ⟨i, h, rfl⟩) mw_1372 4 1 (by decide) (fun _ => rfl) (fun _ => rfl) b4 ⟨Nat.le_of_ble_eq_true rfl, Nat.le_of_ble_eq_true rfl⟩ dX10_undo_53 (fun H locs hP hS => ?_)
      have hP := cvP e5 hP
      refine lv_aload_n hx hb dX10_undo_56 rfl (lv_at hl 0 rfl) ?_
      refine rM_0_5 F hP dX10_undo_57 ?_
      exact wr_end F hP hS hr hk rfl h dX10_undo_60
    · have h := ifF h c2
      refine lv_iconst (v := 0) hx hb dX10_undo_23 (by decide) ?_
      exact wr_end F hP hS hr hk rfl h dX10_undo_24
  refine lv_aload_n hx hb dX10_undo_0 rfl (lv_at hl 0 rfl) ?_
  refine lv_aload_n hx hb dX10_undo_1 rfl (lv_at hl 0 rfl) ?_
  refine rM_0_5 F hP dX10_undo_2 ?_
  refine lv_if_ne (tgt := 12) hx hb dX10_undo_5 (by decide) (fun c6 => ?_) (fun c6 => ?_)
  · have h := ifF h c6
    refine lv_iconst (v := 0) hx hb dX10_undo_12 (by decide) ?_
    exact key13 (0 : Int32) G _ _ hP hS ls (lv_sub hl [0] rfl) h
  · have h := ifT h c6
    refine lv_iconst (v := 1) hx hb dX10_undo_8 (by decide) ?_
    refine lv_goto (tgt := 13) hx hb dX10_undo_9 (by decide) ?_
    exact key13 (1 : Int32) G _ _ hP hS ls (lv_sub hl [0] rfl) h
def f_X10_save (G : GT) : Option (Int32 × GT) := ((some (upR G 0 (upd (G 0) 6 (0 : Int32)))).bind fun G1 => (if cpOK (0 : Int32) (0 : Int32) (67 : Int32) 67 67 then ((some (upR G1 3 (va_cpy (G1 1) (G1 3) (0 : Int32).toNatClampNeg (0 : Int32).toNatClampNeg (67 : Int32).toNatClampNeg))).bind fun G3 => ((some (upR G3 0 (upd (G3 0) 3 (1 : Int32)))).bind fun G4 => some ((G4 1 1), G4))) else none))
set_option maxRecDepth 100000 in
set_option maxHeartbeats 4000000 in
theorem q_X10_save (l : Launch) (D : va_G) (Y : Nat → ClassId) (ad : Nat → Nat) (hI : Inj 8 ad) (G : GT) (r : Int32) (G' : GT) (h : f_X10_save G  = some (r, G')) : WR l yX10_save cX10_save 1 (some .int) 1 D Y 8 ad (kM Y ad) G [.ref (ad 0)] r G' := by
  refine W_of (ret := (some .int)) (by decide) (Nat.le_of_ble_eq_true rfl) (lv := [(0, .ref (ad 0))]) rfl ?_
  intro p e s m below meth c ls F hP hS hr hk hl
  have F : Fx p c cX10_save 1 s m _ RX10 D Y := F
  have hx := F.1.1
  have hb := F.1.2.1
  refine lv_aload_n hx hb dX10_save_0 rfl (lv_at hl 0 rfl) ?_
  refine lv_iconst (v := 0) hx hb dX10_save_1 (by decide) ?_
  obtain ⟨G1, e1, h⟩ := bsome h
  refine pM_0_6 F hI hP hS dX10_save_2 (fun H locs hP hS => ?_)
  have hP := cvP e1 hP
  refine lv_aload_n hx hb dX10_save_5 rfl (lv_at hl 0 rfl) ?_
  refine rM_0_0 F hP dX10_save_6 ?_
  refine lv_iconst (v := 0) hx hb dX10_save_9 (by decide) ?_
  refine lv_aload_n hx hb dX10_save_10 rfl (lv_at hl 0 rfl) ?_
  refine rM_0_2 F hP dX10_save_11 ?_
  refine lv_iconst (v := 0) hx hb dX10_save_14 (by decide) ?_
  refine lv_bipush (v := 67) hx hb dX10_save_15 (by decide) ?_
  obtain ⟨b2, h⟩ := ckS h
  obtain ⟨G3, e3, h⟩ := bsome h
  refine w_copy F hl hI hP hS (fun i h => ⟨i, h, rfl⟩) mw_1372 1 3 (by decide) (fun _ => rfl) (fun _ => rfl) b2 ⟨Nat.le_of_ble_eq_true rfl, Nat.le_of_ble_eq_true rfl⟩ dX10_save_17 (fun H locs hP hS => ?_)
  have hP := cvP e3 hP
  refine lv_aload_n hx hb dX10_save_20 rfl (lv_at hl 0 rfl) ?_
  refine lv_iconst (v := 1) hx hb dX10_save_21 (by decide) ?_
  obtain ⟨G4, e4, h⟩ := bsome h
  refine pM_0_3 rfl rfl F hI hP hS dX10_save_22 (fun H locs hP hS => ?_)
  have hP := cvP e4 hP
  refine lv_aload_n hx hb dX10_save_25 rfl (lv_at hl 0 rfl) ?_
  refine rM_0_0 F hP dX10_save_26 ?_
  refine lv_iconst (v := 1) hx hb dX10_save_29 (by decide) ?_
  refine alk F hP 1 (wsW_get 1 (by decide)) (k := 1) (by decide) (inbV (by decide) (by decide)) dX10_save_30 ?_
  exact wr_end F hP hS hr hk rfl h dX10_save_31
def f_X10_restore_13 (G : GT) (s13_0 : Int32) : Option (Int32 × GT) := ((some (upR G 0 (upd (G 0) 6 s13_0))).bind fun G1 => (if (G1 0 6) ≤ 0 then (if cpOK (0 : Int32) (0 : Int32) (67 : Int32) 67 67 then ((some (upR G1 1 (va_cpy (G1 3) (G1 1) (0 : Int32).toNatClampNeg (0 : Int32).toNatClampNeg (67 : Int32).toNatClampNeg))).bind fun G4 => ((some (upR G4 0 (upd (G4 0) 5 (0 : Int32)))).bind fun G5 => some ((G5 1 1), G5))) else none) else some ((0 : Int32), G1)))
def f_X10_restore (G : GT) : Option (Int32 × GT) := (if (G 0 3) = 0 then f_X10_restore_13 G (1 : Int32) else f_X10_restore_13 G (0 : Int32))
set_option maxRecDepth 100000 in
set_option maxHeartbeats 4000000 in
theorem q_X10_restore (l : Launch) (D : va_G) (Y : Nat → ClassId) (ad : Nat → Nat) (hI : Inj 8 ad) (G : GT) (r : Int32) (G' : GT) (h : f_X10_restore G  = some (r, G')) : WR l yX10_restore cX10_restore 1 (some .int) 1 D Y 8 ad (kM Y ad) G [.ref (ad 0)] r G' := by
  refine W_of (ret := (some .int)) (by decide) (Nat.le_of_ble_eq_true rfl) (lv := [(0, .ref (ad 0))]) rfl ?_
  intro p e s m below meth c ls F hP hS hr hk hl
  have F : Fx p c cX10_restore 1 s m _ RX10 D Y := F
  have hx := F.1.1
  have hb := F.1.2.1
  have key13 : ∀ (s13_0 : Int32) (G : GT) (H : Heap) (locs : List Loc), va_P D vwCl (wsM Y ad G) H → va_S (AW 8 ad) s.heap H locs → ∀ ls : Array Slot, lv_has ls 1 [(0, .ref (ad 0))] → f_X10_restore_13 G   s13_0 = some (r, G') → WW p l e 1 s m ([.ref (ad 0)] : List Value).toArray below meth c H locs (WQi (some .int) r D (wsM Y ad G') (AW 8 ad)) (AW 8 ad) (F0 m 13 ls [.int s13_0, .ref (ad 0)]) := by
    intro s13_0 G H locs hP hS ls hl h
    obtain ⟨G1, e1, h⟩ := bsome h
    refine pM_0_6 F hI hP hS dX10_restore_13 (fun H locs hP hS => ?_)
    have hP := cvP e1 hP
    refine lv_aload_n hx hb dX10_restore_16 rfl (lv_at hl 0 rfl) ?_
    refine rM_0_6 F hP dX10_restore_17 ?_
    refine lv_if_le (tgt := 25) hx hb dX10_restore_20 (by decide) (fun c2 => ?_) (fun c2 => ?_)
    · have h := ifT h c2
      refine lv_aload_n hx hb dX10_restore_25 rfl (lv_at hl 0 rfl) ?_
      refine rM_0_2 F hP dX10_restore_26 ?_
      refine lv_iconst (v := 0) hx hb dX10_restore_29 (by decide) ?_
      refine lv_aload_n hx hb dX10_restore_30 rfl (lv_at hl 0 rfl) ?_
      refine rM_0_0 F hP dX10_restore_31 ?_
      refine lv_iconst (v := 0) hx hb dX10_restore_34 (by decide) ?_
      refine lv_bipush (v := 67) hx hb dX10_restore_35 (by decide) ?_
      obtain ⟨b3, h⟩ := ckS h
      obtain ⟨G4, e4, h⟩ := bsome h
      refine w_copy F hl hI hP hS (fun i h => ⟨i, h, rfl⟩) mw_1372 3 1 (by decide) (fun _ => rfl) (fun _ => rfl) b3 ⟨Nat.le_of_ble_eq_true rfl, Nat.le_of_ble_eq_true rfl⟩ dX10_restore_37 (fun H locs hP hS => ?_)
      have hP := cvP e4 hP
      refine lv_aload_n hx hb dX10_restore_40 rfl (lv_at hl 0 rfl) ?_
      refine lv_iconst (v := 0) hx hb dX10_restore_41 (by decide) ?_
      obtain ⟨G5, e5, h⟩ := bsome h
      refine pM_0_5 F hI hP hS dX10_restore_42 (fun H locs hP hS => ?_)
      have hP := cvP e5 hP
      refine lv_aload_n hx hb dX10_restore_45 rfl (lv_at hl 0 rfl) ?_
      refine rM_0_0 F hP dX10_restore_46 ?_
      refine lv_iconst (v := 1) hx hb dX10_restore_49 (by decide) ?_
      refine alk F hP 1 (wsW_get 1 (by decide)) (k := 1) (by decide) (inbV (by decide) (by decide)) dX10_restore_50 ?_
      exact wr_end F hP hS hr hk rfl h dX10_restore_51
    · have h := ifF h c2
      refine lv_iconst (v := 0) hx hb dX10_restore_23 (by decide) ?_
      exact wr_end F hP hS hr hk rfl h dX10_restore_24
  refine lv_aload_n hx hb dX10_restore_0 rfl (lv_at hl 0 rfl) ?_
  refine lv_aload_n hx hb dX10_restore_1 rfl (lv_at hl 0 rfl) ?_
  refine rM_0_3 F hP dX10_restore_2 ?_
  refine lv_if_eq (tgt := 12) hx hb dX10_restore_5 (by decide) (fun c6 => ?_) (fun c6 => ?_)
  · have h := ifT h c6
    refine lv_iconst (v := 1) hx hb dX10_restore_12 (by decide) ?_
    exact key13 (1 : Int32) G _ _ hP hS ls (lv_sub hl [0] rfl) h
  · have h := ifF h c6
    refine lv_iconst (v := 0) hx hb dX10_restore_8 (by decide) ?_
    refine lv_goto (tgt := 13) hx hb dX10_restore_9 (by decide) ?_
    exact key13 (0 : Int32) G _ _ hP hS ls (lv_sub hl [0] rfl) h
