def f_X9_found_10 (G : GT) (a0 : Int32) (s10_0 : Int32) : Option ((Nat ⊕ Int32) × GT) := (if s10_0 = 0 then some (.inl 3, G) else some (.inr a0, G))
def f_X9_found (G : GT) (a0 : Int32) : Option ((Nat ⊕ Int32) × GT) := (if a0 = (-1 : Int32) then f_X9_found_10 G a0 (0 : Int32) else f_X9_found_10 G a0 (1 : Int32))
set_option maxRecDepth 100000 in
set_option maxHeartbeats 4000000 in
theorem q_X9_found (l : Launch) (hst : l.stackTraces = false) (D : va_G) (Y : Nat → ClassId) (ad : Nat → Nat) (hI : Inj 90 ad) (G : GT) (a0 : Int32) (R : Nat ⊕ Int32) (G' : GT) (h : f_X9_found G a0 = some (R, G')) : XWi l yX9_found cX9_found 1 (some .int) 9 1 D Y ad G [.int a0] R G' := by
  refine X_of (ret := (some .int)) (by decide) (Nat.le_of_ble_eq_true rfl) (lv := [(0, .int a0)]) rfl ?_
  intro p e s m below meth c ls F hP hK hS hr hk hex hl
  have F : Fx p c cX9_found 1 s m _ RX9 D Y := F
  have hx := F.1.1
  have hb := F.1.2.1
  have hts := F.1.2.2.2.2
  have hown := F.1.2.2.2.1
  have key10 : ∀ (s10_0 : Int32) (G : GT) (H : Heap) (locs : List Loc), va_P D vwCl (wsC Y ad G) H → va_S (AW 90 ad) s.heap H locs → ∀ ls : Array Slot, lv_has ls 1 [(0, .int a0)] → f_X9_found_10 G a0  s10_0 = some (R, G') → WX p l e 9 1 s m ([.int a0] : List Value).toArray below meth c H locs 0 0 (XQi (some .int) R D (wsC Y ad G') (AW 90 ad)) (XC Int32 R D (wsC Y ad G') (AW 90 ad)) (AW 90 ad) (F0 m 10 ls [.int s10_0]) := by
    intro s10_0 G  H locs hP hS ls hl h
    refine xn_S F hP hK hS hex hk k_X9_needElement mw_594 (q_X9_needElement l hst D Y _ _ _ s10_0) hl.1 ⟨Nat.le_of_ble_eq_true rfl, Nat.le_of_ble_eq_true rfl, Nat.le_of_ble_eq_true rfl, Nat.le_of_ble_eq_true rfl⟩ (Nat.le_of_ble_eq_true rfl) (Nat.le_of_ble_eq_true rfl) (Nat.le_of_ble_eq_true rfl) dX9_found_10 (fun c1 => ifT h c1) (fun c1 => ?_)
    have h := ifF h c1
    refine lv_iload_n hx hb dX9_found_13 rfl (lv_at hl 0 rfl) ?_
    exact x_end F hP hS hr hk rfl (Nat.le_of_ble_eq_true rfl) (Nat.le_of_ble_eq_true rfl) h dX9_found_14
  refine lv_iload_n hx hb dX9_found_0 rfl (lv_at hl 0 rfl) ?_
  refine lv_iconst (v := -1) hx hb dX9_found_1 (by decide) ?_
  refine lv_icmp_eq (tgt := 9) hx hb dX9_found_2 (by decide) (fun c2 => ?_) (fun c2 => ?_)
  · have h := ifT h c2
    refine lv_iconst (v := 0) hx hb dX9_found_9 (by decide) ?_
    exact key10 (0 : Int32) G _ _ hP hS ls (lv_sub hl [0] rfl) h
  · have h := ifF h c2
    refine lv_iconst (v := 1) hx hb dX9_found_5 (by decide) ?_
    refine lv_goto (tgt := 10) hx hb dX9_found_6 (by decide) ?_
    exact key10 (1 : Int32) G _ _ hP hS ls (lv_sub hl [0] rfl) h
def f_X9_change_53 (G : GT) (o1 : Nat) (a2 : Int32) (a3 : Int32) (a4 : Int32) (s53_0 : Int32) : Option ((Nat ⊕ Int32) × GT) := (if s53_0 = 0 then some (.inl 2, G) else ((f_X0_keep G 0).bind fun G2 => (bind2 (f_X1_carryOut G2 o1 a2 a3 a4) fun r3 G3 => some (.inr r3, G3))))
def f_X9_change_39 (G : GT) (o1 : Nat) (a2 : Int32) (a3 : Int32) (a4 : Int32) (x5 : Int32) (s39_0 : Int32) : Option ((Nat ⊕ Int32) × GT) := (if s39_0 = 0 then some (.inl 1, G) else (if x5 = (3 : Int32) then f_X9_change_53 G o1 a2 a3 a4 (0 : Int32) else f_X9_change_53 G o1 a2 a3 a4 (1 : Int32)))
def f_X9_change_25 (G : GT) (o1 : Nat) (a2 : Int32) (a3 : Int32) (a4 : Int32) (x5 : Int32) (s25_0 : Int32) : Option ((Nat ⊕ Int32) × GT) := (if s25_0 = 0 then some (.inl 0, G) else (if x5 = (2 : Int32) then f_X9_change_39 G o1 a2 a3 a4 x5 (0 : Int32) else f_X9_change_39 G o1 a2 a3 a4 x5 (1 : Int32)))
def f_X9_change (G : GT) (o1 : Nat) (a2 : Int32) (a3 : Int32) (a4 : Int32) : Option ((Nat ⊕ Int32) × GT) := (bind2 (f_X1_verdict G o1 a2 a3 a4) fun r8 G8 => (if r8 = (1 : Int32) then f_X9_change_25 G8 o1 a2 a3 a4 r8 (0 : Int32) else f_X9_change_25 G8 o1 a2 a3 a4 r8 (1 : Int32)))
set_option maxRecDepth 100000 in
set_option maxHeartbeats 4000000 in
theorem q_X9_change (l : Launch) (hst : l.stackTraces = false) (D : va_G) (Y : Nat → ClassId) (ad : Nat → Nat) (hI : Inj 90 ad) (G : GT) (o1 : Nat) (a2 : Int32) (a3 : Int32) (a4 : Int32) (ho1 : o1 < 8) (R : Nat ⊕ Int32) (G' : GT) (h : f_X9_change G o1 a2 a3 a4 = some (R, G')) : XWi l yX9_change cX9_change 6 (some .int) 9 3 D Y ad G [.ref (ad 77), .ref (ad (100 + o1)), .int a2, .int a3, .int a4] R G' := by
  refine X_of (ret := (some .int)) (by decide) (Nat.le_of_ble_eq_true rfl) (lv := [(0, .ref (ad 77)), (1, .ref (ad (100 + o1))), (2, .int a2), (3, .int a3), (4, .int a4)]) rfl ?_
  intro p e s m below meth c ls F hP hK hS hr hk hex hl
  have F : Fx p c cX9_change 6 s m _ RX9 D Y := F
  have hx := F.1.1
  have hb := F.1.2.1
  have hts := F.1.2.2.2.2
  have hown := F.1.2.2.2.1
  have key53 : ∀ (s53_0 : Int32) (G : GT) (H : Heap) (locs : List Loc), va_P D vwCl (wsC Y ad G) H → va_S (AW 90 ad) s.heap H locs → ∀ ls : Array Slot, lv_has ls 6 [(0, .ref (ad 77)), (1, .ref (ad (100 + o1))), (2, .int a2), (3, .int a3), (4, .int a4)] → f_X9_change_53 G o1 a2 a3 a4  s53_0 = some (R, G') → WX p l e 9 3 s m ([.ref (ad 77), .ref (ad (100 + o1)), .int a2, .int a3, .int a4] : List Value).toArray below meth c H locs 2 12 (XQi (some .int) R D (wsC Y ad G') (AW 90 ad)) (XC Int32 R D (wsC Y ad G') (AW 90 ad)) (AW 90 ad) (F0 m 53 ls [.int s53_0]) := by
    intro s53_0 G  H locs hP hS ls hl h
    refine xn_S F hP hK hS hex hk k_X9_needConsent mw_455 (q_X9_needConsent l hst D Y _ _ _ s53_0) hl.1 ⟨Nat.le_of_ble_eq_true rfl, Nat.le_of_ble_eq_true rfl, Nat.le_of_ble_eq_true rfl, Nat.le_of_ble_eq_true rfl⟩ (Nat.le_of_ble_eq_true rfl) (Nat.le_of_ble_eq_true rfl) (Nat.le_of_ble_eq_true rfl) dX9_change_53 (fun c1 => ifT h c1) (fun c1 => ?_)
    have h := ifF h c1
    refine lv_aload_n hx hb dX9_change_56 rfl (lv_at hl 0 rfl) ?_
    refine rC_77_9 F hP dX9_change_57 ?_
    refine lv_aload_n hx hb dX9_change_60 rfl (lv_at hl 0 rfl) ?_
    refine rC_77_0 F hP dX9_change_61 ?_
    obtain ⟨G2, e2, h⟩ := bsome h
    refine wv_VN F hP hS k_X0_keep mw_474 88 2 rfl (wsW_get 88 (by decide)) (q_X0_keep l D Y ad hI G 0 (by decide) G2 e2) rfl hl.1 ⟨Nat.le_of_ble_eq_true rfl, Nat.le_of_ble_eq_true rfl⟩ (rest := []) rfl (Nat.le_of_ble_eq_true rfl) ⟨Nat.le_of_ble_eq_true rfl, Nat.le_of_ble_eq_true rfl⟩ dX9_change_64 (fun H locs hP hS => ?_)
    refine lv_aload_n hx hb dX9_change_67 rfl (lv_at hl 0 rfl) ?_
    refine rC_77_3 F hP dX9_change_68 ?_
    refine lv_aload_n hx hb dX9_change_71 rfl (lv_at hl 1 rfl) ?_
    refine lv_iload_n hx hb dX9_change_72 rfl (lv_at hl 2 rfl) ?_
    refine lv_iload_n hx hb dX9_change_73 rfl (lv_at hl 3 rfl) ?_
    refine lv_iload hx hb dX9_change_74 (lv_at hl 4 rfl) ?_
    obtain ⟨r3, G3, e3, h⟩ := bsome2 h
    refine wk_VN F hP hK hS (fun _ h => h) k_X1_carryOut mw_496 78 3 rfl (wsW_get 78 (by decide)) (q_X1_carryOut l D Y ad hI G2 o1 a2 a3 a4 ho1 r3 G3 e3) rfl hl.1 ⟨Nat.le_of_ble_eq_true rfl, Nat.le_of_ble_eq_true rfl⟩ (rest := []) rfl (Nat.le_of_ble_eq_true rfl) ⟨Nat.le_of_ble_eq_true rfl, Nat.le_of_ble_eq_true rfl⟩ dX9_change_76 (fun H locs o3 hP hS => ?_)
    exact x_end F hP hS hr hk rfl (Nat.le_of_ble_eq_true rfl) (Nat.le_of_ble_eq_true rfl) h dX9_change_79
  have key39 : ∀ (x5 : Int32) (s39_0 : Int32) (G : GT) (H : Heap) (locs : List Loc), va_P D vwCl (wsC Y ad G) H → va_S (AW 90 ad) s.heap H locs → ∀ ls : Array Slot, lv_has ls 6 [(0, .ref (ad 77)), (1, .ref (ad (100 + o1))), (2, .int a2), (3, .int a3), (4, .int a4), (5, .int x5)] → f_X9_change_39 G o1 a2 a3 a4  x5 s39_0 = some (R, G') → WX p l e 9 3 s m ([.ref (ad 77), .ref (ad (100 + o1)), .int a2, .int a3, .int a4] : List Value).toArray below meth c H locs 1 6 (XQi (some .int) R D (wsC Y ad G') (AW 90 ad)) (XC Int32 R D (wsC Y ad G') (AW 90 ad)) (AW 90 ad) (F0 m 39 ls [.int s39_0]) := by
    intro x5 s39_0 G  H locs hP hS ls hl h
    refine xn_S F hP hK hS hex hk k_X9_needRange mw_436 (q_X9_needRange l hst D Y _ _ _ s39_0) hl.1 ⟨Nat.le_of_ble_eq_true rfl, Nat.le_of_ble_eq_true rfl, Nat.le_of_ble_eq_true rfl, Nat.le_of_ble_eq_true rfl⟩ (Nat.le_of_ble_eq_true rfl) (Nat.le_of_ble_eq_true rfl) (Nat.le_of_ble_eq_true rfl) dX9_change_39 (fun c4 => ifT h c4) (fun c4 => ?_)
    have h := ifF h c4
    refine lv_iload hx hb dX9_change_42 (lv_at hl 5 rfl) ?_
    refine lv_iconst (v := 3) hx hb dX9_change_44 (by decide) ?_
    refine lv_icmp_eq (tgt := 52) hx hb dX9_change_45 (by decide) (fun c5 => ?_) (fun c5 => ?_)
    · have h := ifT h c5
      refine lv_iconst (v := 0) hx hb dX9_change_52 (by decide) ?_
      exact key53 (0 : Int32) G _ _ hP hS ls (lv_sub hl [0, 1, 2, 3, 4] rfl) h
    · have h := ifF h c5
      refine lv_iconst (v := 1) hx hb dX9_change_48 (by decide) ?_
      refine lv_goto (tgt := 53) hx hb dX9_change_49 (by decide) ?_
      exact key53 (1 : Int32) G _ _ hP hS ls (lv_sub hl [0, 1, 2, 3, 4] rfl) h
  have key25 : ∀ (x5 : Int32) (s25_0 : Int32) (G : GT) (H : Heap) (locs : List Loc), va_P D vwCl (wsC Y ad G) H → va_S (AW 90 ad) s.heap H locs → ∀ ls : Array Slot, lv_has ls 6 [(0, .ref (ad 77)), (1, .ref (ad (100 + o1))), (2, .int a2), (3, .int a3), (4, .int a4), (5, .int x5)] → f_X9_change_25 G o1 a2 a3 a4  x5 s25_0 = some (R, G') → WX p l e 9 3 s m ([.ref (ad 77), .ref (ad (100 + o1)), .int a2, .int a3, .int a4] : List Value).toArray below meth c H locs 0 0 (XQi (some .int) R D (wsC Y ad G') (AW 90 ad)) (XC Int32 R D (wsC Y ad G') (AW 90 ad)) (AW 90 ad) (F0 m 25 ls [.int s25_0]) := by
    intro x5 s25_0 G  H locs hP hS ls hl h
    refine xn_S F hP hK hS hex hk k_X9_needPlace mw_361 (q_X9_needPlace l hst D Y _ _ _ s25_0) hl.1 ⟨Nat.le_of_ble_eq_true rfl, Nat.le_of_ble_eq_true rfl, Nat.le_of_ble_eq_true rfl, Nat.le_of_ble_eq_true rfl⟩ (Nat.le_of_ble_eq_true rfl) (Nat.le_of_ble_eq_true rfl) (Nat.le_of_ble_eq_true rfl) dX9_change_25 (fun c6 => ifT h c6) (fun c6 => ?_)
    have h := ifF h c6
    refine lv_iload hx hb dX9_change_28 (lv_at hl 5 rfl) ?_
    refine lv_iconst (v := 2) hx hb dX9_change_30 (by decide) ?_
    refine lv_icmp_eq (tgt := 38) hx hb dX9_change_31 (by decide) (fun c7 => ?_) (fun c7 => ?_)
    · have h := ifT h c7
      refine lv_iconst (v := 0) hx hb dX9_change_38 (by decide) ?_
      exact key39 x5 (0 : Int32) G _ _ hP hS ls (lv_sub hl [0, 1, 2, 3, 4, 5] rfl) h
    · have h := ifF h c7
      refine lv_iconst (v := 1) hx hb dX9_change_34 (by decide) ?_
      refine lv_goto (tgt := 39) hx hb dX9_change_35 (by decide) ?_
      exact key39 x5 (1 : Int32) G _ _ hP hS ls (lv_sub hl [0, 1, 2, 3, 4, 5] rfl) h
  refine lv_aload_n hx hb dX9_change_0 rfl (lv_at hl 0 rfl) ?_
  refine rC_77_3 F hP dX9_change_1 ?_
  refine lv_aload_n hx hb dX9_change_4 rfl (lv_at hl 1 rfl) ?_
  refine lv_iload_n hx hb dX9_change_5 rfl (lv_at hl 2 rfl) ?_
  refine lv_iload_n hx hb dX9_change_6 rfl (lv_at hl 3 rfl) ?_
  refine lv_iload hx hb dX9_change_7 (lv_at hl 4 rfl) ?_
  obtain ⟨r8, G8, e8, h⟩ := bsome2 h
  refine wk_VN F hP hK hS (fun _ h => h) k_X1_verdict mw_251 78 3 rfl (wsW_get 78 (by decide)) (q_X1_verdict l D Y ad hI G o1 a2 a3 a4 ho1 r8 G8 e8) rfl hl.1 ⟨Nat.le_of_ble_eq_true rfl, Nat.le_of_ble_eq_true rfl⟩ (rest := []) rfl (Nat.le_of_ble_eq_true rfl) ⟨Nat.le_of_ble_eq_true rfl, Nat.le_of_ble_eq_true rfl⟩ dX9_change_9 (fun H locs o8 hP hS => ?_)
  refine lv_istore (lv' := [(5, .int r8), (0, .ref (ad 77)), (1, .ref (ad (100 + o1))), (2, .int a2), (3, .int a3), (4, .int a4)]) hx hb dX9_change_12 hl (by decide) rfl (fun ls hl => ?_)
  refine lv_iload hx hb dX9_change_14 (lv_at hl 0 rfl) ?_
  refine lv_iconst (v := 1) hx hb dX9_change_16 (by decide) ?_
  refine lv_icmp_eq (tgt := 24) hx hb dX9_change_17 (by decide) (fun c9 => ?_) (fun c9 => ?_)
  · have h := ifT h c9
    refine lv_iconst (v := 0) hx hb dX9_change_24 (by decide) ?_
    exact key25 r8 (0 : Int32) G8 _ _ hP hS ls (lv_sub hl [1, 2, 3, 4, 5, 0] rfl) h
  · have h := ifF h c9
    refine lv_iconst (v := 1) hx hb dX9_change_20 (by decide) ?_
    refine lv_goto (tgt := 25) hx hb dX9_change_21 (by decide) ?_
    exact key25 r8 (1 : Int32) G8 _ _ hP hS ls (lv_sub hl [1, 2, 3, 4, 5, 0] rfl) h
def f_X9_bar (G : GT) (a1 : Int32) : Option ((Nat ⊕ Int32) × GT) := (bindX (f_X9_change G 0 a1 (0 : Int32) (0 : Int32)) fun r1 G1 => some (.inr r1, G1))
set_option maxRecDepth 100000 in
set_option maxHeartbeats 4000000 in
theorem q_X9_bar (l : Launch) (hst : l.stackTraces = false) (D : va_G) (Y : Nat → ClassId) (ad : Nat → Nat) (hI : Inj 90 ad) (G : GT) (a1 : Int32) (R : Nat ⊕ Int32) (G' : GT) (h : f_X9_bar G a1 = some (R, G')) : XWi l yX9_bar cX9_bar 2 (some .int) 10 3 D Y ad G [.ref (ad 77), .int a1] R G' := by
  refine X_of (ret := (some .int)) (by decide) (Nat.le_of_ble_eq_true rfl) (lv := [(0, .ref (ad 77)), (1, .int a1)]) rfl ?_
  intro p e s m below meth c ls F hP hK hS hr hk hex hl
  have F : Fx p c cX9_bar 2 s m _ RX9 D Y := F
  have hx := F.1.1
  have hb := F.1.2.1
  have hts := F.1.2.2.2.2
  have hown := F.1.2.2.2.1
  refine lv_aload_n hx hb dX9_bar_0 rfl (lv_at hl 0 rfl) ?_
  refine va_gets hx hb (hK.1 0 (by decide)).1 hS hown (hts _ mw_245) (fun _ h => h) dX9_bar_1 ?_
  refine lv_iload_n hx hb dX9_bar_4 rfl (lv_at hl 1 rfl) ?_
  refine lv_iconst (v := 0) hx hb dX9_bar_5 (by decide) ?_
  refine lv_iconst (v := 0) hx hb dX9_bar_6 (by decide) ?_
  obtain ⟨R1, G1, e1, hl1, h⟩ := bsomeX h
  refine xw_V F hP hK hS hex hk k_X9_change mw_247 77 10 rfl (wsW_get 77 (by decide)) (q_X9_change l hst D Y ad hI G 0 a1 (0 : Int32) (0 : Int32) (by decide) R1 G1 e1) rfl hl.1 ⟨Nat.le_of_ble_eq_true rfl, Nat.le_of_ble_eq_true rfl⟩ (rest := []) rfl (Nat.le_of_ble_eq_true rfl) ⟨Nat.le_of_ble_eq_true rfl, Nat.le_of_ble_eq_true rfl⟩ (Nat.le_of_ble_eq_true rfl) (Nat.le_of_ble_eq_true rfl) dX9_bar_7 hl1 (fun r1 H locs hr1 o1 hP hS => ?_)
  have h := h r1 hr1
  exact x_end F hP hS hr hk rfl (Nat.le_of_ble_eq_true rfl) (Nat.le_of_ble_eq_true rfl) h dX9_bar_10
def f_X9_key (G : GT) (a1 : Int32) (a2 : Int32) : Option ((Nat ⊕ Int32) × GT) := (bindX (f_X9_change G 1 a1 a2 (0 : Int32)) fun r1 G1 => some (.inr r1, G1))
set_option maxRecDepth 100000 in
set_option maxHeartbeats 4000000 in
theorem q_X9_key (l : Launch) (hst : l.stackTraces = false) (D : va_G) (Y : Nat → ClassId) (ad : Nat → Nat) (hI : Inj 90 ad) (G : GT) (a1 : Int32) (a2 : Int32) (R : Nat ⊕ Int32) (G' : GT) (h : f_X9_key G a1 a2 = some (R, G')) : XWi l yX9_key cX9_key 3 (some .int) 10 3 D Y ad G [.ref (ad 77), .int a1, .int a2] R G' := by
  refine X_of (ret := (some .int)) (by decide) (Nat.le_of_ble_eq_true rfl) (lv := [(0, .ref (ad 77)), (1, .int a1), (2, .int a2)]) rfl ?_
  intro p e s m below meth c ls F hP hK hS hr hk hex hl
  have F : Fx p c cX9_key 3 s m _ RX9 D Y := F
  have hx := F.1.1
  have hb := F.1.2.1
  have hts := F.1.2.2.2.2
  have hown := F.1.2.2.2.1
  refine lv_aload_n hx hb dX9_key_0 rfl (lv_at hl 0 rfl) ?_
  refine va_gets hx hb (hK.1 1 (by decide)).1 hS hown (hts _ mw_557) (fun _ h => h) dX9_key_1 ?_
  refine lv_iload_n hx hb dX9_key_4 rfl (lv_at hl 1 rfl) ?_
  refine lv_iload_n hx hb dX9_key_5 rfl (lv_at hl 2 rfl) ?_
  refine lv_iconst (v := 0) hx hb dX9_key_6 (by decide) ?_
  obtain ⟨R1, G1, e1, hl1, h⟩ := bsomeX h
  refine xw_V F hP hK hS hex hk k_X9_change mw_247 77 10 rfl (wsW_get 77 (by decide)) (q_X9_change l hst D Y ad hI G 1 a1 a2 (0 : Int32) (by decide) R1 G1 e1) rfl hl.1 ⟨Nat.le_of_ble_eq_true rfl, Nat.le_of_ble_eq_true rfl⟩ (rest := []) rfl (Nat.le_of_ble_eq_true rfl) ⟨Nat.le_of_ble_eq_true rfl, Nat.le_of_ble_eq_true rfl⟩ (Nat.le_of_ble_eq_true rfl) (Nat.le_of_ble_eq_true rfl) dX9_key_7 hl1 (fun r1 H locs hr1 o1 hP hS => ?_)
  have h := h r1 hr1
  exact x_end F hP hS hr hk rfl (Nat.le_of_ble_eq_true rfl) (Nat.le_of_ble_eq_true rfl) h dX9_key_10
def f_X9_leak (G : GT) (a1 : Int32) (a2 : Int32) : Option ((Nat ⊕ Int32) × GT) := (bindX (f_X9_change G 2 a1 a2 (0 : Int32)) fun r1 G1 => some (.inr r1, G1))
set_option maxRecDepth 100000 in
set_option maxHeartbeats 4000000 in
theorem q_X9_leak (l : Launch) (hst : l.stackTraces = false) (D : va_G) (Y : Nat → ClassId) (ad : Nat → Nat) (hI : Inj 90 ad) (G : GT) (a1 : Int32) (a2 : Int32) (R : Nat ⊕ Int32) (G' : GT) (h : f_X9_leak G a1 a2 = some (R, G')) : XWi l yX9_leak cX9_leak 3 (some .int) 10 3 D Y ad G [.ref (ad 77), .int a1, .int a2] R G' := by
  refine X_of (ret := (some .int)) (by decide) (Nat.le_of_ble_eq_true rfl) (lv := [(0, .ref (ad 77)), (1, .int a1), (2, .int a2)]) rfl ?_
  intro p e s m below meth c ls F hP hK hS hr hk hex hl
  have F : Fx p c cX9_leak 3 s m _ RX9 D Y := F
  have hx := F.1.1
  have hb := F.1.2.1
  have hts := F.1.2.2.2.2
  have hown := F.1.2.2.2.1
  refine lv_aload_n hx hb dX9_leak_0 rfl (lv_at hl 0 rfl) ?_
  refine va_gets hx hb (hK.1 2 (by decide)).1 hS hown (hts _ mw_565) (fun _ h => h) dX9_leak_1 ?_
  refine lv_iload_n hx hb dX9_leak_4 rfl (lv_at hl 1 rfl) ?_
  refine lv_iload_n hx hb dX9_leak_5 rfl (lv_at hl 2 rfl) ?_
  refine lv_iconst (v := 0) hx hb dX9_leak_6 (by decide) ?_
  obtain ⟨R1, G1, e1, hl1, h⟩ := bsomeX h
  refine xw_V F hP hK hS hex hk k_X9_change mw_247 77 10 rfl (wsW_get 77 (by decide)) (q_X9_change l hst D Y ad hI G 2 a1 a2 (0 : Int32) (by decide) R1 G1 e1) rfl hl.1 ⟨Nat.le_of_ble_eq_true rfl, Nat.le_of_ble_eq_true rfl⟩ (rest := []) rfl (Nat.le_of_ble_eq_true rfl) ⟨Nat.le_of_ble_eq_true rfl, Nat.le_of_ble_eq_true rfl⟩ (Nat.le_of_ble_eq_true rfl) (Nat.le_of_ble_eq_true rfl) dX9_leak_7 hl1 (fun r1 H locs hr1 o1 hP hS => ?_)
  have h := h r1 hr1
  exact x_end F hP hS hr hk rfl (Nat.le_of_ble_eq_true rfl) (Nat.le_of_ble_eq_true rfl) h dX9_leak_10
def f_X9_drop (G : GT) (a1 : Int32) (a2 : Int32) (a3 : Int32) : Option ((Nat ⊕ Int32) × GT) := (bindX (f_X9_change G 3 a1 a2 a3) fun r1 G1 => some (.inr r1, G1))
set_option maxRecDepth 100000 in
set_option maxHeartbeats 4000000 in
theorem q_X9_drop (l : Launch) (hst : l.stackTraces = false) (D : va_G) (Y : Nat → ClassId) (ad : Nat → Nat) (hI : Inj 90 ad) (G : GT) (a1 : Int32) (a2 : Int32) (a3 : Int32) (R : Nat ⊕ Int32) (G' : GT) (h : f_X9_drop G a1 a2 a3 = some (R, G')) : XWi l yX9_drop cX9_drop 4 (some .int) 10 3 D Y ad G [.ref (ad 77), .int a1, .int a2, .int a3] R G' := by
  refine X_of (ret := (some .int)) (by decide) (Nat.le_of_ble_eq_true rfl) (lv := [(0, .ref (ad 77)), (1, .int a1), (2, .int a2), (3, .int a3)]) rfl ?_
  intro p e s m below meth c ls F hP hK hS hr hk hex hl
  have F : Fx p c cX9_drop 4 s m _ RX9 D Y := F
  have hx := F.1.1
  have hb := F.1.2.1
  have hts := F.1.2.2.2.2
  have hown := F.1.2.2.2.1
  refine lv_aload_n hx hb dX9_drop_0 rfl (lv_at hl 0 rfl) ?_
  refine va_gets hx hb (hK.1 3 (by decide)).1 hS hown (hts _ mw_581) (fun _ h => h) dX9_drop_1 ?_
  refine lv_iload_n hx hb dX9_drop_4 rfl (lv_at hl 1 rfl) ?_
  refine lv_iload_n hx hb dX9_drop_5 rfl (lv_at hl 2 rfl) ?_
  refine lv_iload_n hx hb dX9_drop_6 rfl (lv_at hl 3 rfl) ?_
  obtain ⟨R1, G1, e1, hl1, h⟩ := bsomeX h
  refine xw_V F hP hK hS hex hk k_X9_change mw_247 77 10 rfl (wsW_get 77 (by decide)) (q_X9_change l hst D Y ad hI G 3 a1 a2 a3 (by decide) R1 G1 e1) rfl hl.1 ⟨Nat.le_of_ble_eq_true rfl, Nat.le_of_ble_eq_true rfl⟩ (rest := []) rfl (Nat.le_of_ble_eq_true rfl) ⟨Nat.le_of_ble_eq_true rfl, Nat.le_of_ble_eq_true rfl⟩ (Nat.le_of_ble_eq_true rfl) (Nat.le_of_ble_eq_true rfl) dX9_drop_7 hl1 (fun r1 H locs hr1 o1 hP hS => ?_)
  have h := h r1 hr1
  exact x_end F hP hS hr hk rfl (Nat.le_of_ble_eq_true rfl) (Nat.le_of_ble_eq_true rfl) h dX9_drop_10
def f_X9_rest (G : GT) (a1 : Int32) : Option ((Nat ⊕ Int32) × GT) := (bindX (f_X9_change G 4 a1 (0 : Int32) (0 : Int32)) fun r1 G1 => some (.inr r1, G1))
set_option maxRecDepth 100000 in
set_option maxHeartbeats 4000000 in
theorem q_X9_rest (l : Launch) (hst : l.stackTraces = false) (D : va_G) (Y : Nat → ClassId) (ad : Nat → Nat) (hI : Inj 90 ad) (G : GT) (a1 : Int32) (R : Nat ⊕ Int32) (G' : GT) (h : f_X9_rest G a1 = some (R, G')) : XWi l yX9_rest cX9_rest 2 (some .int) 10 3 D Y ad G [.ref (ad 77), .int a1] R G' := by
  refine X_of (ret := (some .int)) (by decide) (Nat.le_of_ble_eq_true rfl) (lv := [(0, .ref (ad 77)), (1, .int a1)]) rfl ?_
  intro p e s m below meth c ls F hP hK hS hr hk hex hl
  have F : Fx p c cX9_rest 2 s m _ RX9 D Y := F
  have hx := F.1.1
  have hb := F.1.2.1
  have hts := F.1.2.2.2.2
  have hown := F.1.2.2.2.1
  refine lv_aload_n hx hb dX9_rest_0 rfl (lv_at hl 0 rfl) ?_
  refine va_gets hx hb (hK.1 4 (by decide)).1 hS hown (hts _ mw_573) (fun _ h => h) dX9_rest_1 ?_
  refine lv_iload_n hx hb dX9_rest_4 rfl (lv_at hl 1 rfl) ?_
  refine lv_iconst (v := 0) hx hb dX9_rest_5 (by decide) ?_
  refine lv_iconst (v := 0) hx hb dX9_rest_6 (by decide) ?_
  obtain ⟨R1, G1, e1, hl1, h⟩ := bsomeX h
  refine xw_V F hP hK hS hex hk k_X9_change mw_247 77 10 rfl (wsW_get 77 (by decide)) (q_X9_change l hst D Y ad hI G 4 a1 (0 : Int32) (0 : Int32) (by decide) R1 G1 e1) rfl hl.1 ⟨Nat.le_of_ble_eq_true rfl, Nat.le_of_ble_eq_true rfl⟩ (rest := []) rfl (Nat.le_of_ble_eq_true rfl) ⟨Nat.le_of_ble_eq_true rfl, Nat.le_of_ble_eq_true rfl⟩ (Nat.le_of_ble_eq_true rfl) (Nat.le_of_ble_eq_true rfl) dX9_rest_7 hl1 (fun r1 H locs hr1 o1 hP hS => ?_)
  have h := h r1 hr1
  exact x_end F hP hS hr hk rfl (Nat.le_of_ble_eq_true rfl) (Nat.le_of_ble_eq_true rfl) h dX9_rest_10
def f_X9_lift (G : GT) : Option ((Nat ⊕ Int32) × GT) := (bindX (f_X9_change G 5 (0 : Int32) (0 : Int32) (0 : Int32)) fun r1 G1 => some (.inr r1, G1))
set_option maxRecDepth 100000 in
set_option maxHeartbeats 4000000 in
theorem q_X9_lift (l : Launch) (hst : l.stackTraces = false) (D : va_G) (Y : Nat → ClassId) (ad : Nat → Nat) (hI : Inj 90 ad) (G : GT) (R : Nat ⊕ Int32) (G' : GT) (h : f_X9_lift G  = some (R, G')) : XWi l yX9_lift cX9_lift 1 (some .int) 10 3 D Y ad G [.ref (ad 77)] R G' := by
  refine X_of (ret := (some .int)) (by decide) (Nat.le_of_ble_eq_true rfl) (lv := [(0, .ref (ad 77))]) rfl ?_
  intro p e s m below meth c ls F hP hK hS hr hk hex hl
  have F : Fx p c cX9_lift 1 s m _ RX9 D Y := F
  have hx := F.1.1
  have hb := F.1.2.1
  have hts := F.1.2.2.2.2
  have hown := F.1.2.2.2.1
  refine lv_aload_n hx hb dX9_lift_0 rfl (lv_at hl 0 rfl) ?_
  refine va_gets hx hb (hK.1 5 (by decide)).1 hS hown (hts _ mw_1429) (fun _ h => h) dX9_lift_1 ?_
  refine lv_iconst (v := 0) hx hb dX9_lift_4 (by decide) ?_
  refine lv_iconst (v := 0) hx hb dX9_lift_5 (by decide) ?_
  refine lv_iconst (v := 0) hx hb dX9_lift_6 (by decide) ?_
  obtain ⟨R1, G1, e1, hl1, h⟩ := bsomeX h
  refine xw_V F hP hK hS hex hk k_X9_change mw_247 77 10 rfl (wsW_get 77 (by decide)) (q_X9_change l hst D Y ad hI G 5 (0 : Int32) (0 : Int32) (0 : Int32) (by decide) R1 G1 e1) rfl hl.1 ⟨Nat.le_of_ble_eq_true rfl, Nat.le_of_ble_eq_true rfl⟩ (rest := []) rfl (Nat.le_of_ble_eq_true rfl) ⟨Nat.le_of_ble_eq_true rfl, Nat.le_of_ble_eq_true rfl⟩ (Nat.le_of_ble_eq_true rfl) (Nat.le_of_ble_eq_true rfl) dX9_lift_7 hl1 (fun r1 H locs hr1 o1 hP hS => ?_)
  have h := h r1 hr1
  exact x_end F hP hS hr hk rfl (Nat.le_of_ble_eq_true rfl) (Nat.le_of_ble_eq_true rfl) h dX9_lift_10
def f_X9_limit (G : GT) (a1 : Int32) : Option ((Nat ⊕ Int32) × GT) := (bindX (f_X9_change G 6 a1 (0 : Int32) (0 : Int32)) fun r1 G1 => some (.inr r1, G1))
set_option maxRecDepth 100000 in
set_option maxHeartbeats 4000000 in
theorem q_X9_limit (l : Launch) (hst : l.stackTraces = false) (D : va_G) (Y : Nat → ClassId) (ad : Nat → Nat) (hI : Inj 90 ad) (G : GT) (a1 : Int32) (R : Nat ⊕ Int32) (G' : GT) (h : f_X9_limit G a1 = some (R, G')) : XWi l yX9_limit cX9_limit 2 (some .int) 10 3 D Y ad G [.ref (ad 77), .int a1] R G' := by
  refine X_of (ret := (some .int)) (by decide) (Nat.le_of_ble_eq_true rfl) (lv := [(0, .ref (ad 77)), (1, .int a1)]) rfl ?_
  intro p e s m below meth c ls F hP hK hS hr hk hex hl
  have F : Fx p c cX9_limit 2 s m _ RX9 D Y := F
  have hx := F.1.1
  have hb := F.1.2.1
  have hts := F.1.2.2.2.2
  have hown := F.1.2.2.2.1
  refine lv_aload_n hx hb dX9_limit_0 rfl (lv_at hl 0 rfl) ?_
  refine va_gets hx hb (hK.1 6 (by decide)).1 hS hown (hts _ mw_680) (fun _ h => h) dX9_limit_1 ?_
  refine lv_iload_n hx hb dX9_limit_4 rfl (lv_at hl 1 rfl) ?_
  refine lv_iconst (v := 0) hx hb dX9_limit_5 (by decide) ?_
  refine lv_iconst (v := 0) hx hb dX9_limit_6 (by decide) ?_
  obtain ⟨R1, G1, e1, hl1, h⟩ := bsomeX h
  refine xw_V F hP hK hS hex hk k_X9_change mw_247 77 10 rfl (wsW_get 77 (by decide)) (q_X9_change l hst D Y ad hI G 6 a1 (0 : Int32) (0 : Int32) (by decide) R1 G1 e1) rfl hl.1 ⟨Nat.le_of_ble_eq_true rfl, Nat.le_of_ble_eq_true rfl⟩ (rest := []) rfl (Nat.le_of_ble_eq_true rfl) ⟨Nat.le_of_ble_eq_true rfl, Nat.le_of_ble_eq_true rfl⟩ (Nat.le_of_ble_eq_true rfl) (Nat.le_of_ble_eq_true rfl) dX9_limit_7 hl1 (fun r1 H locs hr1 o1 hP hS => ?_)
  have h := h r1 hr1
  exact x_end F hP hS hr hk rfl (Nat.le_of_ble_eq_true rfl) (Nat.le_of_ble_eq_true rfl) h dX9_limit_10
def f_X9_tune (G : GT) (a1 : Int32) (a2 : Int32) : Option ((Nat ⊕ Int32) × GT) := (bindX (f_X9_change G 7 a1 a2 (0 : Int32)) fun r1 G1 => some (.inr r1, G1))
set_option maxRecDepth 100000 in
set_option maxHeartbeats 4000000 in
theorem q_X9_tune (l : Launch) (hst : l.stackTraces = false) (D : va_G) (Y : Nat → ClassId) (ad : Nat → Nat) (hI : Inj 90 ad) (G : GT) (a1 : Int32) (a2 : Int32) (R : Nat ⊕ Int32) (G' : GT) (h : f_X9_tune G a1 a2 = some (R, G')) : XWi l yX9_tune cX9_tune 3 (some .int) 10 3 D Y ad G [.ref (ad 77), .int a1, .int a2] R G' := by
  refine X_of (ret := (some .int)) (by decide) (Nat.le_of_ble_eq_true rfl) (lv := [(0, .ref (ad 77)), (1, .int a1), (2, .int a2)]) rfl ?_
  intro p e s m below meth c ls F hP hK hS hr hk hex hl
  have F : Fx p c cX9_tune 3 s m _ RX9 D Y := F
  have hx := F.1.1
  have hb := F.1.2.1
  have hts := F.1.2.2.2.2
  have hown := F.1.2.2.2.1
  refine lv_aload_n hx hb dX9_tune_0 rfl (lv_at hl 0 rfl) ?_
  refine va_gets hx hb (hK.1 7 (by decide)).1 hS hown (hts _ mw_1437) (fun _ h => h) dX9_tune_1 ?_
  refine lv_iload_n hx hb dX9_tune_4 rfl (lv_at hl 1 rfl) ?_
  refine lv_iload_n hx hb dX9_tune_5 rfl (lv_at hl 2 rfl) ?_
  refine lv_iconst (v := 0) hx hb dX9_tune_6 (by decide) ?_
  obtain ⟨R1, G1, e1, hl1, h⟩ := bsomeX h
  refine xw_V F hP hK hS hex hk k_X9_change mw_247 77 10 rfl (wsW_get 77 (by decide)) (q_X9_change l hst D Y ad hI G 7 a1 a2 (0 : Int32) (by decide) R1 G1 e1) rfl hl.1 ⟨Nat.le_of_ble_eq_true rfl, Nat.le_of_ble_eq_true rfl⟩ (rest := []) rfl (Nat.le_of_ble_eq_true rfl) ⟨Nat.le_of_ble_eq_true rfl, Nat.le_of_ble_eq_true rfl⟩ (Nat.le_of_ble_eq_true rfl) (Nat.le_of_ble_eq_true rfl) dX9_tune_7 hl1 (fun r1 H locs hr1 o1 hP hS => ?_)
  have h := h r1 hr1
  exact x_end F hP hS hr hk rfl (Nat.le_of_ble_eq_true rfl) (Nat.le_of_ble_eq_true rfl) h dX9_tune_10
def f_X9_tinOf (G : GT) (a1 : Int32) (a2 : Int32) : Option ((Nat ⊕ Int32) × GT) := ((f_X9_isTin G a1).bind fun r1 => (if r1 = 0 then some (.inl 0, G) else ((f_X9_isWithin G a2 (0 : Int32) (4 : Int32)).bind fun r3 => (if r3 = 0 then some (.inl 1, G) else (if a2 = 0 then ((f_X5_keyOf G a1).bind fun r6 => some (.inr r6, G)) else (if a2 = 1 then ((f_X5_leakOf G a1).bind fun r8 => some (.inr r8, G)) else (if a2 = 2 then ((f_X5_countOfTin G a1 (0 : Int32)).bind fun r10 => some (.inr r10, G)) else (if a2 = 3 then ((f_X5_countOfTin G a1 (1 : Int32)).bind fun r12 => some (.inr r12, G)) else ((f_X5_beatsOfTin G a1).bind fun r13 => some (.inr r13, G))))))))))
set_option maxRecDepth 100000 in
set_option maxHeartbeats 4000000 in
theorem q_X9_tinOf (l : Launch) (hst : l.stackTraces = false) (D : va_G) (Y : Nat → ClassId) (ad : Nat → Nat) (hI : Inj 90 ad) (G : GT) (a1 : Int32) (a2 : Int32) (R : Nat ⊕ Int32) (G' : GT) (h : f_X9_tinOf G a1 a2 = some (R, G')) : XWi l yX9_tinOf cX9_tinOf 3 (some .int) 9 2 D Y ad G [.ref (ad 77), .int a1, .int a2] R G' := by
  refine X_of (ret := (some .int)) (by decide) (Nat.le_of_ble_eq_true rfl) (lv := [(0, .ref (ad 77)), (1, .int a1), (2, .int a2)]) rfl ?_
  intro p e s m below meth c ls F hP hK hS hr hk hex hl
  have F : Fx p c cX9_tinOf 3 s m _ RX9 D Y := F
  have hx := F.1.1
  have hb := F.1.2.1
  have hts := F.1.2.2.2.2
  have hown := F.1.2.2.2.1
  refine lv_iload_n hx hb dX9_tinOf_0 rfl (lv_at hl 1 rfl) ?_
  obtain ⟨r1, e1, h⟩ := bsome h
  refine rd_S F hP k_X9_isTin mw_724 (q_X9_isTin l D Y ad G a1 r1 e1) rfl hl.1 ⟨Nat.le_of_ble_eq_true rfl, Nat.le_of_ble_eq_true rfl⟩ (rest := []) rfl (Nat.le_of_ble_eq_true rfl) ⟨Nat.le_of_ble_eq_true rfl, Nat.le_of_ble_eq_true rfl⟩ dX9_tinOf_1 (fun o1 => ?_)
  refine xn_S F hP hK hS hex hk k_X9_needPlace mw_361 (q_X9_needPlace l hst D Y _ _ _ r1) hl.1 ⟨Nat.le_of_ble_eq_true rfl, Nat.le_of_ble_eq_true rfl, Nat.le_of_ble_eq_true rfl, Nat.le_of_ble_eq_true rfl⟩ (Nat.le_of_ble_eq_true rfl) (Nat.le_of_ble_eq_true rfl) (Nat.le_of_ble_eq_true rfl) dX9_tinOf_4 (fun c2 => ifT h c2) (fun c2 => ?_)
  have h := ifF h c2
  refine lv_iload_n hx hb dX9_tinOf_7 rfl (lv_at hl 2 rfl) ?_
  refine lv_iconst (v := 0) hx hb dX9_tinOf_8 (by decide) ?_
  refine lv_iconst (v := 4) hx hb dX9_tinOf_9 (by decide) ?_
  obtain ⟨r3, e3, h⟩ := bsome h
  refine rd_S F hP k_X9_isWithin mw_287 (q_X9_isWithin l D Y ad G a2 (0 : Int32) (4 : Int32) r3 e3) rfl hl.1 ⟨Nat.le_of_ble_eq_true rfl, Nat.le_of_ble_eq_true rfl⟩ (rest := []) rfl (Nat.le_of_ble_eq_true rfl) ⟨Nat.le_of_ble_eq_true rfl, Nat.le_of_ble_eq_true rfl⟩ dX9_tinOf_10 (fun o3 => ?_)
  refine xn_S F hP hK hS hex hk k_X9_needRange mw_436 (q_X9_needRange l hst D Y _ _ _ r3) hl.1 ⟨Nat.le_of_ble_eq_true rfl, Nat.le_of_ble_eq_true rfl, Nat.le_of_ble_eq_true rfl, Nat.le_of_ble_eq_true rfl⟩ (Nat.le_of_ble_eq_true rfl) (Nat.le_of_ble_eq_true rfl) (Nat.le_of_ble_eq_true rfl) dX9_tinOf_13 (fun c4 => ifT h c4) (fun c4 => ?_)
  have h := ifF h c4
  refine lv_iload_n hx hb dX9_tinOf_16 rfl (lv_at hl 2 rfl) ?_
  by_cases c5 : a2 = 0
  · have h := ifT h c5
    refine lv_tableIn (off := 31) (tgt := 48) hx hb dX9_tinOf_17 (by rw [c5]; decide) (by rw [c5]; decide) (by rw [c5]; rfl) (by decide) ?_
    refine lv_aload_n hx hb dX9_tinOf_48 rfl (lv_at hl 0 rfl) ?_
    refine rC_77_0 F hP dX9_tinOf_49 ?_
    refine lv_iload_n hx hb dX9_tinOf_52 rfl (lv_at hl 1 rfl) ?_
    obtain ⟨r6, e6, h⟩ := bsome h
    refine rd_VN F hP k_X5_keyOf mw_725 0 6 rfl (wsW_get 0 (by decide)) (q_X5_keyOf l D Y ad G a1 r6 e6) rfl hl.1 ⟨Nat.le_of_ble_eq_true rfl, Nat.le_of_ble_eq_true rfl⟩ (rest := []) rfl (Nat.le_of_ble_eq_true rfl) ⟨Nat.le_of_ble_eq_true rfl, Nat.le_of_ble_eq_true rfl⟩ dX9_tinOf_53 (fun o6 => ?_)
    exact x_end F hP hS hr hk rfl (Nat.le_of_ble_eq_true rfl) (Nat.le_of_ble_eq_true rfl) h dX9_tinOf_56
  have h := ifF h c5
  by_cases c7 : a2 = 1
  · have h := ifT h c7
    refine lv_tableIn (off := 40) (tgt := 57) hx hb dX9_tinOf_17 (by rw [c7]; decide) (by rw [c7]; decide) (by rw [c7]; rfl) (by decide) ?_
    refine lv_aload_n hx hb dX9_tinOf_57 rfl (lv_at hl 0 rfl) ?_
    refine rC_77_0 F hP dX9_tinOf_58 ?_
    refine lv_iload_n hx hb dX9_tinOf_61 rfl (lv_at hl 1 rfl) ?_
    obtain ⟨r8, e8, h⟩ := bsome h
    refine rd_VN F hP k_X5_leakOf mw_726 0 6 rfl (wsW_get 0 (by decide)) (q_X5_leakOf l D Y ad G a1 r8 e8) rfl hl.1 ⟨Nat.le_of_ble_eq_true rfl, Nat.le_of_ble_eq_true rfl⟩ (rest := []) rfl (Nat.le_of_ble_eq_true rfl) ⟨Nat.le_of_ble_eq_true rfl, Nat.le_of_ble_eq_true rfl⟩ dX9_tinOf_62 (fun o8 => ?_)
    exact x_end F hP hS hr hk rfl (Nat.le_of_ble_eq_true rfl) (Nat.le_of_ble_eq_true rfl) h dX9_tinOf_65
  have h := ifF h c7
  by_cases c9 : a2 = 2
  · have h := ifT h c9
    refine lv_tableIn (off := 49) (tgt := 66) hx hb dX9_tinOf_17 (by rw [c9]; decide) (by rw [c9]; decide) (by rw [c9]; rfl) (by decide) ?_
    refine lv_aload_n hx hb dX9_tinOf_66 rfl (lv_at hl 0 rfl) ?_
    refine rC_77_0 F hP dX9_tinOf_67 ?_
    refine lv_iload_n hx hb dX9_tinOf_70 rfl (lv_at hl 1 rfl) ?_
    refine lv_iconst (v := 0) hx hb dX9_tinOf_71 (by decide) ?_
    obtain ⟨r10, e10, h⟩ := bsome h
    refine rd_VN F hP k_X5_countOfTin mw_727 0 6 rfl (wsW_get 0 (by decide)) (q_X5_countOfTin l D Y ad G a1 (0 : Int32) r10 e10) rfl hl.1 ⟨Nat.le_of_ble_eq_true rfl, Nat.le_of_ble_eq_true rfl⟩ (rest := []) rfl (Nat.le_of_ble_eq_true rfl) ⟨Nat.le_of_ble_eq_true rfl, Nat.le_of_ble_eq_true rfl⟩ dX9_tinOf_72 (fun o10 => ?_)
    exact x_end F hP hS hr hk rfl (Nat.le_of_ble_eq_true rfl) (Nat.le_of_ble_eq_true rfl) h dX9_tinOf_75
  have h := ifF h c9
  by_cases c11 : a2 = 3
  · have h := ifT h c11
    refine lv_tableIn (off := 59) (tgt := 76) hx hb dX9_tinOf_17 (by rw [c11]; decide) (by rw [c11]; decide) (by rw [c11]; rfl) (by decide) ?_
    refine lv_aload_n hx hb dX9_tinOf_76 rfl (lv_at hl 0 rfl) ?_
    refine rC_77_0 F hP dX9_tinOf_77 ?_
    refine lv_iload_n hx hb dX9_tinOf_80 rfl (lv_at hl 1 rfl) ?_
    refine lv_iconst (v := 1) hx hb dX9_tinOf_81 (by decide) ?_
    obtain ⟨r12, e12, h⟩ := bsome h
    refine rd_VN F hP k_X5_countOfTin mw_727 0 6 rfl (wsW_get 0 (by decide)) (q_X5_countOfTin l D Y ad G a1 (1 : Int32) r12 e12) rfl hl.1 ⟨Nat.le_of_ble_eq_true rfl, Nat.le_of_ble_eq_true rfl⟩ (rest := []) rfl (Nat.le_of_ble_eq_true rfl) ⟨Nat.le_of_ble_eq_true rfl, Nat.le_of_ble_eq_true rfl⟩ dX9_tinOf_82 (fun o12 => ?_)
    exact x_end F hP hS hr hk rfl (Nat.le_of_ble_eq_true rfl) (Nat.le_of_ble_eq_true rfl) h dX9_tinOf_85
  have h := ifF h c11
  refine lv_tableOut (tgt := 86) hx hb dX9_tinOf_17 (by have nc5 := lv_neT c5 (a := 0) (by decide); have nc7 := lv_neT c7 (a := 1) (by decide); have nc9 := lv_neT c9 (a := 2) (by decide); have nc11 := lv_neT c11 (a := 3) (by decide); omega) (by decide) ?_
  refine lv_aload_n hx hb dX9_tinOf_86 rfl (lv_at hl 0 rfl) ?_
  refine rC_77_0 F hP dX9_tinOf_87 ?_
  refine lv_iload_n hx hb dX9_tinOf_90 rfl (lv_at hl 1 rfl) ?_
  obtain ⟨r13, e13, h⟩ := bsome h
  refine rd_VN F hP k_X5_beatsOfTin mw_731 0 6 rfl (wsW_get 0 (by decide)) (q_X5_beatsOfTin l D Y ad G a1 r13 e13) rfl hl.1 ⟨Nat.le_of_ble_eq_true rfl, Nat.le_of_ble_eq_true rfl⟩ (rest := []) rfl (Nat.le_of_ble_eq_true rfl) ⟨Nat.le_of_ble_eq_true rfl, Nat.le_of_ble_eq_true rfl⟩ dX9_tinOf_91 (fun o13 => ?_)
  exact x_end F hP hS hr hk rfl (Nat.le_of_ble_eq_true rfl) (Nat.le_of_ble_eq_true rfl) h dX9_tinOf_94
def f_X9_soundOf (G : GT) (a1 : Int32) (a2 : Int32) : Option ((Nat ⊕ Int32) × GT) := ((f_X5_hasSound G a1).bind fun r1 => (if r1 = 0 then some (.inl 0, G) else ((f_X9_isWithin G a2 (0 : Int32) (6 : Int32)).bind fun r3 => (if r3 = 0 then some (.inl 1, G) else (if a2 = 0 then ((f_X5_tinOfSound G a1).bind fun r6 => some (.inr r6, G)) else (if a2 = 1 then ((f_X5_heightOf G a1).bind fun r8 => some (.inr r8, G)) else (if a2 = 2 then ((f_X5_beatsOf G a1).bind fun r10 => some (.inr r10, G)) else (if a2 = 3 then ((f_X5_pitchOf G a1).bind fun r12 => some (.inr r12, G)) else (if a2 = 4 then ((f_X5_partsOfSound G a1).bind fun r14 => some (.inr r14, G)) else (if a2 = 5 then ((f_X5_startOfSound G a1).bind fun r16 => some (.inr r16, G)) else ((f_X5_startOfSound G a1).bind fun r17 => ((f_X5_barAt G r17).bind fun r18 => some (.inr r18, G)))))))))))))
set_option maxRecDepth 100000 in
set_option maxHeartbeats 4000000 in
theorem q_X9_soundOf (l : Launch) (hst : l.stackTraces = false) (D : va_G) (Y : Nat → ClassId) (ad : Nat → Nat) (hI : Inj 90 ad) (G : GT) (a1 : Int32) (a2 : Int32) (R : Nat ⊕ Int32) (G' : GT) (h : f_X9_soundOf G a1 a2 = some (R, G')) : XWi l yX9_soundOf cX9_soundOf 3 (some .int) 9 2 D Y ad G [.ref (ad 77), .int a1, .int a2] R G' := by
  refine X_of (ret := (some .int)) (by decide) (Nat.le_of_ble_eq_true rfl) (lv := [(0, .ref (ad 77)), (1, .int a1), (2, .int a2)]) rfl ?_
  intro p e s m below meth c ls F hP hK hS hr hk hex hl
  have F : Fx p c cX9_soundOf 3 s m _ RX9 D Y := F
  have hx := F.1.1
  have hb := F.1.2.1
  have hts := F.1.2.2.2.2
  have hown := F.1.2.2.2.1
  refine lv_aload_n hx hb dX9_soundOf_0 rfl (lv_at hl 0 rfl) ?_
  refine rC_77_0 F hP dX9_soundOf_1 ?_
  refine lv_iload_n hx hb dX9_soundOf_4 rfl (lv_at hl 1 rfl) ?_
  obtain ⟨r1, e1, h⟩ := bsome h
  refine rd_VN F hP k_X5_hasSound mw_696 0 6 rfl (wsW_get 0 (by decide)) (q_X5_hasSound l D Y ad G a1 r1 e1) rfl hl.1 ⟨Nat.le_of_ble_eq_true rfl, Nat.le_of_ble_eq_true rfl⟩ (rest := []) rfl (Nat.le_of_ble_eq_true rfl) ⟨Nat.le_of_ble_eq_true rfl, Nat.le_of_ble_eq_true rfl⟩ dX9_soundOf_5 (fun o1 => ?_)
  refine xn_S F hP hK hS hex hk k_X9_needPlace mw_361 (q_X9_needPlace l hst D Y _ _ _ r1) hl.1 ⟨Nat.le_of_ble_eq_true rfl, Nat.le_of_ble_eq_true rfl, Nat.le_of_ble_eq_true rfl, Nat.le_of_ble_eq_true rfl⟩ (Nat.le_of_ble_eq_true rfl) (Nat.le_of_ble_eq_true rfl) (Nat.le_of_ble_eq_true rfl) dX9_soundOf_8 (fun c2 => ifT h c2) (fun c2 => ?_)
  have h := ifF h c2
  refine lv_iload_n hx hb dX9_soundOf_11 rfl (lv_at hl 2 rfl) ?_
  refine lv_iconst (v := 0) hx hb dX9_soundOf_12 (by decide) ?_
  refine lv_bipush (v := 6) hx hb dX9_soundOf_13 (by decide) ?_
  obtain ⟨r3, e3, h⟩ := bsome h
  refine rd_S F hP k_X9_isWithin mw_287 (q_X9_isWithin l D Y ad G a2 (0 : Int32) (6 : Int32) r3 e3) rfl hl.1 ⟨Nat.le_of_ble_eq_true rfl, Nat.le_of_ble_eq_true rfl⟩ (rest := []) rfl (Nat.le_of_ble_eq_true rfl) ⟨Nat.le_of_ble_eq_true rfl, Nat.le_of_ble_eq_true rfl⟩ dX9_soundOf_15 (fun o3 => ?_)
  refine xn_S F hP hK hS hex hk k_X9_needRange mw_436 (q_X9_needRange l hst D Y _ _ _ r3) hl.1 ⟨Nat.le_of_ble_eq_true rfl, Nat.le_of_ble_eq_true rfl, Nat.le_of_ble_eq_true rfl, Nat.le_of_ble_eq_true rfl⟩ (Nat.le_of_ble_eq_true rfl) (Nat.le_of_ble_eq_true rfl) (Nat.le_of_ble_eq_true rfl) dX9_soundOf_18 (fun c4 => ifT h c4) (fun c4 => ?_)
  have h := ifF h c4
  refine lv_iload_n hx hb dX9_soundOf_21 rfl (lv_at hl 2 rfl) ?_
  by_cases c5 : a2 = 0
  · have h := ifT h c5
    refine lv_tableIn (off := 38) (tgt := 60) hx hb dX9_soundOf_22 (by rw [c5]; decide) (by rw [c5]; decide) (by rw [c5]; rfl) (by decide) ?_
    refine lv_aload_n hx hb dX9_soundOf_60 rfl (lv_at hl 0 rfl) ?_
    refine rC_77_0 F hP dX9_soundOf_61 ?_
    refine lv_iload_n hx hb dX9_soundOf_64 rfl (lv_at hl 1 rfl) ?_
    obtain ⟨r6, e6, h⟩ := bsome h
    refine rd_VN F hP k_X5_tinOfSound mw_697 0 6 rfl (wsW_get 0 (by decide)) (q_X5_tinOfSound l D Y ad G a1 r6 e6) rfl hl.1 ⟨Nat.le_of_ble_eq_true rfl, Nat.le_of_ble_eq_true rfl⟩ (rest := []) rfl (Nat.le_of_ble_eq_true rfl) ⟨Nat.le_of_ble_eq_true rfl, Nat.le_of_ble_eq_true rfl⟩ dX9_soundOf_65 (fun o6 => ?_)
    exact x_end F hP hS hr hk rfl (Nat.le_of_ble_eq_true rfl) (Nat.le_of_ble_eq_true rfl) h dX9_soundOf_68
  have h := ifF h c5
  by_cases c7 : a2 = 1
  · have h := ifT h c7
    refine lv_tableIn (off := 47) (tgt := 69) hx hb dX9_soundOf_22 (by rw [c7]; decide) (by rw [c7]; decide) (by rw [c7]; rfl) (by decide) ?_
    refine lv_aload_n hx hb dX9_soundOf_69 rfl (lv_at hl 0 rfl) ?_
    refine rC_77_0 F hP dX9_soundOf_70 ?_
    refine lv_iload_n hx hb dX9_soundOf_73 rfl (lv_at hl 1 rfl) ?_
    obtain ⟨r8, e8, h⟩ := bsome h
    refine rd_VN F hP k_X5_heightOf mw_701 0 6 rfl (wsW_get 0 (by decide)) (q_X5_heightOf l D Y ad G a1 r8 e8) rfl hl.1 ⟨Nat.le_of_ble_eq_true rfl, Nat.le_of_ble_eq_true rfl⟩ (rest := []) rfl (Nat.le_of_ble_eq_true rfl) ⟨Nat.le_of_ble_eq_true rfl, Nat.le_of_ble_eq_true rfl⟩ dX9_soundOf_74 (fun o8 => ?_)
    exact x_end F hP hS hr hk rfl (Nat.le_of_ble_eq_true rfl) (Nat.le_of_ble_eq_true rfl) h dX9_soundOf_77
  have h := ifF h c7
  by_cases c9 : a2 = 2
  · have h := ifT h c9
    refine lv_tableIn (off := 56) (tgt := 78) hx hb dX9_soundOf_22 (by rw [c9]; decide) (by rw [c9]; decide) (by rw [c9]; rfl) (by decide) ?_
    refine lv_aload_n hx hb dX9_soundOf_78 rfl (lv_at hl 0 rfl) ?_
    refine rC_77_0 F hP dX9_soundOf_79 ?_
    refine lv_iload_n hx hb dX9_soundOf_82 rfl (lv_at hl 1 rfl) ?_
    obtain ⟨r10, e10, h⟩ := bsome h
    refine rd_VN F hP k_X5_beatsOf mw_702 0 6 rfl (wsW_get 0 (by decide)) (q_X5_beatsOf l D Y ad G a1 r10 e10) rfl hl.1 ⟨Nat.le_of_ble_eq_true rfl, Nat.le_of_ble_eq_true rfl⟩ (rest := []) rfl (Nat.le_of_ble_eq_true rfl) ⟨Nat.le_of_ble_eq_true rfl, Nat.le_of_ble_eq_true rfl⟩ dX9_soundOf_83 (fun o10 => ?_)
    exact x_end F hP hS hr hk rfl (Nat.le_of_ble_eq_true rfl) (Nat.le_of_ble_eq_true rfl) h dX9_soundOf_86
  have h := ifF h c9
  by_cases c11 : a2 = 3
  · have h := ifT h c11
    refine lv_tableIn (off := 65) (tgt := 87) hx hb dX9_soundOf_22 (by rw [c11]; decide) (by rw [c11]; decide) (by rw [c11]; rfl) (by decide) ?_
    refine lv_aload_n hx hb dX9_soundOf_87 rfl (lv_at hl 0 rfl) ?_
    refine rC_77_0 F hP dX9_soundOf_88 ?_
    refine lv_iload_n hx hb dX9_soundOf_91 rfl (lv_at hl 1 rfl) ?_
    obtain ⟨r12, e12, h⟩ := bsome h
    refine rd_VN F hP k_X5_pitchOf mw_703 0 6 rfl (wsW_get 0 (by decide)) (q_X5_pitchOf l D Y ad G a1 r12 e12) rfl hl.1 ⟨Nat.le_of_ble_eq_true rfl, Nat.le_of_ble_eq_true rfl⟩ (rest := []) rfl (Nat.le_of_ble_eq_true rfl) ⟨Nat.le_of_ble_eq_true rfl, Nat.le_of_ble_eq_true rfl⟩ dX9_soundOf_92 (fun o12 => ?_)
    exact x_end F hP hS hr hk rfl (Nat.le_of_ble_eq_true rfl) (Nat.le_of_ble_eq_true rfl) h dX9_soundOf_95
  have h := ifF h c11
  by_cases c13 : a2 = 4
  · have h := ifT h c13
    refine lv_tableIn (off := 74) (tgt := 96) hx hb dX9_soundOf_22 (by rw [c13]; decide) (by rw [c13]; decide) (by rw [c13]; rfl) (by decide) ?_
    refine lv_aload_n hx hb dX9_soundOf_96 rfl (lv_at hl 0 rfl) ?_
    refine rC_77_0 F hP dX9_soundOf_97 ?_
    refine lv_iload_n hx hb dX9_soundOf_100 rfl (lv_at hl 1 rfl) ?_
    obtain ⟨r14, e14, h⟩ := bsome h
    refine rd_VN F hP k_X5_partsOfSound mw_707 0 6 rfl (wsW_get 0 (by decide)) (q_X5_partsOfSound l D Y ad G a1 r14 e14) rfl hl.1 ⟨Nat.le_of_ble_eq_true rfl, Nat.le_of_ble_eq_true rfl⟩ (rest := []) rfl (Nat.le_of_ble_eq_true rfl) ⟨Nat.le_of_ble_eq_true rfl, Nat.le_of_ble_eq_true rfl⟩ dX9_soundOf_101 (fun o14 => ?_)
    exact x_end F hP hS hr hk rfl (Nat.le_of_ble_eq_true rfl) (Nat.le_of_ble_eq_true rfl) h dX9_soundOf_104
  have h := ifF h c13
  by_cases c15 : a2 = 5
  · have h := ifT h c15
    refine lv_tableIn (off := 83) (tgt := 105) hx hb dX9_soundOf_22 (by rw [c15]; decide) (by rw [c15]; decide) (by rw [c15]; rfl) (by decide) ?_
    refine lv_aload_n hx hb dX9_soundOf_105 rfl (lv_at hl 0 rfl) ?_
    refine rC_77_0 F hP dX9_soundOf_106 ?_
    refine lv_iload_n hx hb dX9_soundOf_109 rfl (lv_at hl 1 rfl) ?_
    obtain ⟨r16, e16, h⟩ := bsome h
    refine rd_VN F hP k_X5_startOfSound mw_715 0 6 rfl (wsW_get 0 (by decide)) (q_X5_startOfSound l D Y ad G a1 r16 e16) rfl hl.1 ⟨Nat.le_of_ble_eq_true rfl, Nat.le_of_ble_eq_true rfl⟩ (rest := []) rfl (Nat.le_of_ble_eq_true rfl) ⟨Nat.le_of_ble_eq_true rfl, Nat.le_of_ble_eq_true rfl⟩ dX9_soundOf_110 (fun o16 => ?_)
    exact x_end F hP hS hr hk rfl (Nat.le_of_ble_eq_true rfl) (Nat.le_of_ble_eq_true rfl) h dX9_soundOf_113
  have h := ifF h c15
  refine lv_tableOut (tgt := 114) hx hb dX9_soundOf_22 (by have nc5 := lv_neT c5 (a := 0) (by decide); have nc7 := lv_neT c7 (a := 1) (by decide); have nc9 := lv_neT c9 (a := 2) (by decide); have nc11 := lv_neT c11 (a := 3) (by decide); have nc13 := lv_neT c13 (a := 4) (by decide); have nc15 := lv_neT c15 (a := 5) (by decide); omega) (by decide) ?_
  refine lv_aload_n hx hb dX9_soundOf_114 rfl (lv_at hl 0 rfl) ?_
  refine rC_77_0 F hP dX9_soundOf_115 ?_
  refine lv_aload_n hx hb dX9_soundOf_118 rfl (lv_at hl 0 rfl) ?_
  refine rC_77_0 F hP dX9_soundOf_119 ?_
  refine lv_iload_n hx hb dX9_soundOf_122 rfl (lv_at hl 1 rfl) ?_
  obtain ⟨r17, e17, h⟩ := bsome h
  refine rd_VN F hP k_X5_startOfSound mw_715 0 6 rfl (wsW_get 0 (by decide)) (q_X5_startOfSound l D Y ad G a1 r17 e17) rfl hl.1 ⟨Nat.le_of_ble_eq_true rfl, Nat.le_of_ble_eq_true rfl⟩ (rest := [.ref (ad 0)]) rfl (Nat.le_of_ble_eq_true rfl) ⟨Nat.le_of_ble_eq_true rfl, Nat.le_of_ble_eq_true rfl⟩ dX9_soundOf_123 (fun o17 => ?_)
  obtain ⟨r18, e18, h⟩ := bsome h
  refine rd_VN F hP k_X5_barAt mw_716 0 6 rfl (wsW_get 0 (by decide)) (q_X5_barAt l D Y ad G r17 r18 e18) rfl hl.1 ⟨Nat.le_of_ble_eq_true rfl, Nat.le_of_ble_eq_true rfl⟩ (rest := []) rfl (Nat.le_of_ble_eq_true rfl) ⟨Nat.le_of_ble_eq_true rfl, Nat.le_of_ble_eq_true rfl⟩ dX9_soundOf_126 (fun o18 => ?_)
  exact x_end F hP hS hr hk rfl (Nat.le_of_ble_eq_true rfl) (Nat.le_of_ble_eq_true rfl) h dX9_soundOf_129
def f_X9_barOf (G : GT) (a1 : Int32) (a2 : Int32) : Option ((Nat ⊕ Int32) × GT) := ((f_X5_hasBar G a1).bind fun r1 => (if r1 = 0 then some (.inl 0, G) else ((f_X9_isWithin G a2 (0 : Int32) (4 : Int32)).bind fun r3 => (if r3 = 0 then some (.inl 1, G) else (if a2 = 0 then ((f_X5_sizeOf G a1).bind fun r6 => some (.inr r6, G)) else (if a2 = 1 then ((f_X5_filledOfBar G a1).bind fun r8 => some (.inr r8, G)) else (if a2 = 2 then ((f_X5_partsOfBar G a1).bind fun r10 => some (.inr r10, G)) else (if a2 = 3 then ((f_X5_beginningsIn G a1).bind fun r12 => some (.inr r12, G)) else ((f_X5_startOfBar G a1).bind fun r13 => some (.inr r13, G))))))))))
set_option maxRecDepth 100000 in
set_option maxHeartbeats 4000000 in
theorem q_X9_barOf (l : Launch) (hst : l.stackTraces = false) (D : va_G) (Y : Nat → ClassId) (ad : Nat → Nat) (hI : Inj 90 ad) (G : GT) (a1 : Int32) (a2 : Int32) (R : Nat ⊕ Int32) (G' : GT) (h : f_X9_barOf G a1 a2 = some (R, G')) : XWi l yX9_barOf cX9_barOf 3 (some .int) 9 2 D Y ad G [.ref (ad 77), .int a1, .int a2] R G' := by
  refine X_of (ret := (some .int)) (by decide) (Nat.le_of_ble_eq_true rfl) (lv := [(0, .ref (ad 77)), (1, .int a1), (2, .int a2)]) rfl ?_
  intro p e s m below meth c ls F hP hK hS hr hk hex hl
  have F : Fx p c cX9_barOf 3 s m _ RX9 D Y := F
  have hx := F.1.1
  have hb := F.1.2.1
  have hts := F.1.2.2.2.2
  have hown := F.1.2.2.2.1
  refine lv_aload_n hx hb dX9_barOf_0 rfl (lv_at hl 0 rfl) ?_
  refine rC_77_0 F hP dX9_barOf_1 ?_
  refine lv_iload_n hx hb dX9_barOf_4 rfl (lv_at hl 1 rfl) ?_
  obtain ⟨r1, e1, h⟩ := bsome h
  refine rd_VN F hP k_X5_hasBar mw_742 0 6 rfl (wsW_get 0 (by decide)) (q_X5_hasBar l D Y ad G a1 r1 e1) rfl hl.1 ⟨Nat.le_of_ble_eq_true rfl, Nat.le_of_ble_eq_true rfl⟩ (rest := []) rfl (Nat.le_of_ble_eq_true rfl) ⟨Nat.le_of_ble_eq_true rfl, Nat.le_of_ble_eq_true rfl⟩ dX9_barOf_5 (fun o1 => ?_)
  refine xn_S F hP hK hS hex hk k_X9_needPlace mw_361 (q_X9_needPlace l hst D Y _ _ _ r1) hl.1 ⟨Nat.le_of_ble_eq_true rfl, Nat.le_of_ble_eq_true rfl, Nat.le_of_ble_eq_true rfl, Nat.le_of_ble_eq_true rfl⟩ (Nat.le_of_ble_eq_true rfl) (Nat.le_of_ble_eq_true rfl) (Nat.le_of_ble_eq_true rfl) dX9_barOf_8 (fun c2 => ifT h c2) (fun c2 => ?_)
  have h := ifF h c2
  refine lv_iload_n hx hb dX9_barOf_11 rfl (lv_at hl 2 rfl) ?_
  refine lv_iconst (v := 0) hx hb dX9_barOf_12 (by decide) ?_
  refine lv_iconst (v := 4) hx hb dX9_barOf_13 (by decide) ?_
  obtain ⟨r3, e3, h⟩ := bsome h
  refine rd_S F hP k_X9_isWithin mw_287 (q_X9_isWithin l D Y ad G a2 (0 : Int32) (4 : Int32) r3 e3) rfl hl.1 ⟨Nat.le_of_ble_eq_true rfl, Nat.le_of_ble_eq_true rfl⟩ (rest := []) rfl (Nat.le_of_ble_eq_true rfl) ⟨Nat.le_of_ble_eq_true rfl, Nat.le_of_ble_eq_true rfl⟩ dX9_barOf_14 (fun o3 => ?_)
  refine xn_S F hP hK hS hex hk k_X9_needRange mw_436 (q_X9_needRange l hst D Y _ _ _ r3) hl.1 ⟨Nat.le_of_ble_eq_true rfl, Nat.le_of_ble_eq_true rfl, Nat.le_of_ble_eq_true rfl, Nat.le_of_ble_eq_true rfl⟩ (Nat.le_of_ble_eq_true rfl) (Nat.le_of_ble_eq_true rfl) (Nat.le_of_ble_eq_true rfl) dX9_barOf_17 (fun c4 => ifT h c4) (fun c4 => ?_)
  have h := ifF h c4
  refine lv_iload_n hx hb dX9_barOf_20 rfl (lv_at hl 2 rfl) ?_
  by_cases c5 : a2 = 0
  · have h := ifT h c5
    refine lv_tableIn (off := 31) (tgt := 52) hx hb dX9_barOf_21 (by rw [c5]; decide) (by rw [c5]; decide) (by rw [c5]; rfl) (by decide) ?_
    refine lv_aload_n hx hb dX9_barOf_52 rfl (lv_at hl 0 rfl) ?_
    refine rC_77_0 F hP dX9_barOf_53 ?_
    refine lv_iload_n hx hb dX9_barOf_56 rfl (lv_at hl 1 rfl) ?_
    obtain ⟨r6, e6, h⟩ := bsome h
    refine rd_VN F hP k_X5_sizeOf mw_746 0 6 rfl (wsW_get 0 (by decide)) (q_X5_sizeOf l D Y ad G a1 r6 e6) rfl hl.1 ⟨Nat.le_of_ble_eq_true rfl, Nat.le_of_ble_eq_true rfl⟩ (rest := []) rfl (Nat.le_of_ble_eq_true rfl) ⟨Nat.le_of_ble_eq_true rfl, Nat.le_of_ble_eq_true rfl⟩ dX9_barOf_57 (fun o6 => ?_)
    exact x_end F hP hS hr hk rfl (Nat.le_of_ble_eq_true rfl) (Nat.le_of_ble_eq_true rfl) h dX9_barOf_60
  have h := ifF h c5
  by_cases c7 : a2 = 1
  · have h := ifT h c7
    refine lv_tableIn (off := 40) (tgt := 61) hx hb dX9_barOf_21 (by rw [c7]; decide) (by rw [c7]; decide) (by rw [c7]; rfl) (by decide) ?_
    refine lv_aload_n hx hb dX9_barOf_61 rfl (lv_at hl 0 rfl) ?_
    refine rC_77_0 F hP dX9_barOf_62 ?_
    refine lv_iload_n hx hb dX9_barOf_65 rfl (lv_at hl 1 rfl) ?_
    obtain ⟨r8, e8, h⟩ := bsome h
    refine rd_VN F hP k_X5_filledOfBar mw_750 0 6 rfl (wsW_get 0 (by decide)) (q_X5_filledOfBar l D Y ad G a1 r8 e8) rfl hl.1 ⟨Nat.le_of_ble_eq_true rfl, Nat.le_of_ble_eq_true rfl⟩ (rest := []) rfl (Nat.le_of_ble_eq_true rfl) ⟨Nat.le_of_ble_eq_true rfl, Nat.le_of_ble_eq_true rfl⟩ dX9_barOf_66 (fun o8 => ?_)
    exact x_end F hP hS hr hk rfl (Nat.le_of_ble_eq_true rfl) (Nat.le_of_ble_eq_true rfl) h dX9_barOf_69
  have h := ifF h c7
  by_cases c9 : a2 = 2
  · have h := ifT h c9
    refine lv_tableIn (off := 49) (tgt := 70) hx hb dX9_barOf_21 (by rw [c9]; decide) (by rw [c9]; decide) (by rw [c9]; rfl) (by decide) ?_
    refine lv_aload_n hx hb dX9_barOf_70 rfl (lv_at hl 0 rfl) ?_
    refine rC_77_0 F hP dX9_barOf_71 ?_
    refine lv_iload_n hx hb dX9_barOf_74 rfl (lv_at hl 1 rfl) ?_
    obtain ⟨r10, e10, h⟩ := bsome h
    refine rd_VN F hP k_X5_partsOfBar mw_755 0 6 rfl (wsW_get 0 (by decide)) (q_X5_partsOfBar l D Y ad G a1 r10 e10) rfl hl.1 ⟨Nat.le_of_ble_eq_true rfl, Nat.le_of_ble_eq_true rfl⟩ (rest := []) rfl (Nat.le_of_ble_eq_true rfl) ⟨Nat.le_of_ble_eq_true rfl, Nat.le_of_ble_eq_true rfl⟩ dX9_barOf_75 (fun o10 => ?_)
    exact x_end F hP hS hr hk rfl (Nat.le_of_ble_eq_true rfl) (Nat.le_of_ble_eq_true rfl) h dX9_barOf_78
  have h := ifF h c9
  by_cases c11 : a2 = 3
  · have h := ifT h c11
    refine lv_tableIn (off := 58) (tgt := 79) hx hb dX9_barOf_21 (by rw [c11]; decide) (by rw [c11]; decide) (by rw [c11]; rfl) (by decide) ?_
    refine lv_aload_n hx hb dX9_barOf_79 rfl (lv_at hl 0 rfl) ?_
    refine rC_77_0 F hP dX9_barOf_80 ?_
    refine lv_iload_n hx hb dX9_barOf_83 rfl (lv_at hl 1 rfl) ?_
    obtain ⟨r12, e12, h⟩ := bsome h
    refine rd_VN F hP k_X5_beginningsIn mw_756 0 6 rfl (wsW_get 0 (by decide)) (q_X5_beginningsIn l D Y ad G a1 r12 e12) rfl hl.1 ⟨Nat.le_of_ble_eq_true rfl, Nat.le_of_ble_eq_true rfl⟩ (rest := []) rfl (Nat.le_of_ble_eq_true rfl) ⟨Nat.le_of_ble_eq_true rfl, Nat.le_of_ble_eq_true rfl⟩ dX9_barOf_84 (fun o12 => ?_)
    exact x_end F hP hS hr hk rfl (Nat.le_of_ble_eq_true rfl) (Nat.le_of_ble_eq_true rfl) h dX9_barOf_87
  have h := ifF h c11
  refine lv_tableOut (tgt := 88) hx hb dX9_barOf_21 (by have nc5 := lv_neT c5 (a := 0) (by decide); have nc7 := lv_neT c7 (a := 1) (by decide); have nc9 := lv_neT c9 (a := 2) (by decide); have nc11 := lv_neT c11 (a := 3) (by decide); omega) (by decide) ?_
  refine lv_aload_n hx hb dX9_barOf_88 rfl (lv_at hl 0 rfl) ?_
  refine rC_77_0 F hP dX9_barOf_89 ?_
  refine lv_iload_n hx hb dX9_barOf_92 rfl (lv_at hl 1 rfl) ?_
  obtain ⟨r13, e13, h⟩ := bsome h
  refine rd_VN F hP k_X5_startOfBar mw_760 0 6 rfl (wsW_get 0 (by decide)) (q_X5_startOfBar l D Y ad G a1 r13 e13) rfl hl.1 ⟨Nat.le_of_ble_eq_true rfl, Nat.le_of_ble_eq_true rfl⟩ (rest := []) rfl (Nat.le_of_ble_eq_true rfl) ⟨Nat.le_of_ble_eq_true rfl, Nat.le_of_ble_eq_true rfl⟩ dX9_barOf_93 (fun o13 => ?_)
  exact x_end F hP hS hr hk rfl (Nat.le_of_ble_eq_true rfl) (Nat.le_of_ble_eq_true rfl) h dX9_barOf_96
def f_X9_partOf_33 (G : GT) (a1 : Int32) (a2 : Int32) (a3 : Int32) (x4 : Int32) (s33_0 : Int32) : Option ((Nat ⊕ Int32) × GT) := (if s33_0 = 0 then some (.inl 0, G) else ((f_X9_isWithin G a3 (0 : Int32) (2 : Int32)).bind fun r2 => (if r2 = 0 then some (.inl 1, G) else (if a3 = 0 then some (.inr x4, G) else (if a3 = 1 then ((f_X5_overlap G x4 a1).bind fun r6 => some (.inr r6, G)) else ((f_X5_isTied G x4 a1).bind fun r7 => (if r7 = 0 then some (.inr (0 : Int32), G) else some (.inr (1 : Int32), G))))))))
def f_X9_partOf (G : GT) (a1 : Int32) (a2 : Int32) (a3 : Int32) : Option ((Nat ⊕ Int32) × GT) := ((f_X5_hasBar G a1).bind fun r9 => (if r9 = 0 then some (.inl 0, G) else ((f_X5_soundOfPart G a1 a2).bind fun r11 => (if r11 = (-1 : Int32) then f_X9_partOf_33 G a1 a2 a3 r11 (0 : Int32) else f_X9_partOf_33 G a1 a2 a3 r11 (1 : Int32)))))
set_option maxRecDepth 100000 in
set_option maxHeartbeats 4000000 in
theorem q_X9_partOf (l : Launch) (hst : l.stackTraces = false) (D : va_G) (Y : Nat → ClassId) (ad : Nat → Nat) (hI : Inj 90 ad) (G : GT) (a1 : Int32) (a2 : Int32) (a3 : Int32) (R : Nat ⊕ Int32) (G' : GT) (h : f_X9_partOf G a1 a2 a3 = some (R, G')) : XWi l yX9_partOf cX9_partOf 5 (some .int) 9 3 D Y ad G [.ref (ad 77), .int a1, .int a2, .int a3] R G' := by
  refine X_of (ret := (some .int)) (by decide) (Nat.le_of_ble_eq_true rfl) (lv := [(0, .ref (ad 77)), (1, .int a1), (2, .int a2), (3, .int a3)]) rfl ?_
  intro p e s m below meth c ls F hP hK hS hr hk hex hl
  have F : Fx p c cX9_partOf 5 s m _ RX9 D Y := F
  have hx := F.1.1
  have hb := F.1.2.1
  have hts := F.1.2.2.2.2
  have hown := F.1.2.2.2.1
  have key33 : ∀ (x4 : Int32) (s33_0 : Int32) (G : GT) (H : Heap) (locs : List Loc), va_P D vwCl (wsC Y ad G) H → va_S (AW 90 ad) s.heap H locs → ∀ ls : Array Slot, lv_has ls 5 [(0, .ref (ad 77)), (1, .int a1), (3, .int a3), (4, .int x4)] → f_X9_partOf_33 G a1 a2 a3  x4 s33_0 = some (R, G') → WX p l e 9 3 s m ([.ref (ad 77), .int a1, .int a2, .int a3] : List Value).toArray below meth c H locs 1 6 (XQi (some .int) R D (wsC Y ad G') (AW 90 ad)) (XC Int32 R D (wsC Y ad G') (AW 90 ad)) (AW 90 ad) (F0 m 33 ls [.int s33_0]) := by
    intro x4 s33_0 G  H locs hP hS ls hl h
    refine xn_S F hP hK hS hex hk k_X9_needPlace mw_361 (q_X9_needPlace l hst D Y _ _ _ s33_0) hl.1 ⟨Nat.le_of_ble_eq_true rfl, Nat.le_of_ble_eq_true rfl, Nat.le_of_ble_eq_true rfl, Nat.le_of_ble_eq_true rfl⟩ (Nat.le_of_ble_eq_true rfl) (Nat.le_of_ble_eq_true rfl) (Nat.le_of_ble_eq_true rfl) dX9_partOf_33 (fun c1 => ifT h c1) (fun c1 => ?_)
    have h := ifF h c1
    refine lv_iload_n hx hb dX9_partOf_36 rfl (lv_at hl 2 rfl) ?_
    refine lv_iconst (v := 0) hx hb dX9_partOf_37 (by decide) ?_
    refine lv_iconst (v := 2) hx hb dX9_partOf_38 (by decide) ?_
    obtain ⟨r2, e2, h⟩ := bsome h
    refine rd_S F hP k_X9_isWithin mw_287 (q_X9_isWithin l D Y ad G a3 (0 : Int32) (2 : Int32) r2 e2) rfl hl.1 ⟨Nat.le_of_ble_eq_true rfl, Nat.le_of_ble_eq_true rfl⟩ (rest := []) rfl (Nat.le_of_ble_eq_true rfl) ⟨Nat.le_of_ble_eq_true rfl, Nat.le_of_ble_eq_true rfl⟩ dX9_partOf_39 (fun o2 => ?_)
    refine xn_S F hP hK hS hex hk k_X9_needRange mw_436 (q_X9_needRange l hst D Y _ _ _ r2) hl.1 ⟨Nat.le_of_ble_eq_true rfl, Nat.le_of_ble_eq_true rfl, Nat.le_of_ble_eq_true rfl, Nat.le_of_ble_eq_true rfl⟩ (Nat.le_of_ble_eq_true rfl) (Nat.le_of_ble_eq_true rfl) (Nat.le_of_ble_eq_true rfl) dX9_partOf_42 (fun c3 => ifT h c3) (fun c3 => ?_)
    have h := ifF h c3
    refine lv_iload_n hx hb dX9_partOf_45 rfl (lv_at hl 2 rfl) ?_
    by_cases c4 : a3 = 0
    · have h := ifT h c4
      refine lv_lookup (off := 26) (tgt := 72) hx hb dX9_partOf_46 (by decide) (by rw [c4]; rfl) (by decide) ?_
      refine lv_iload hx hb dX9_partOf_72 (lv_at hl 3 rfl) ?_
      exact x_end F hP hS hr hk rfl (Nat.le_of_ble_eq_true rfl) (Nat.le_of_ble_eq_true rfl) h dX9_partOf_74
    have h := ifF h c4
    by_cases c5 : a3 = 1
    · have h := ifT h c5
      refine lv_lookup (off := 29) (tgt := 75) hx hb dX9_partOf_46 (by decide) (by rw [c5]; rfl) (by decide) ?_
      refine lv_aload_n hx hb dX9_partOf_75 rfl (lv_at hl 0 rfl) ?_
      refine rC_77_0 F hP dX9_partOf_76 ?_
      refine lv_iload hx hb dX9_partOf_79 (lv_at hl 3 rfl) ?_
      refine lv_iload_n hx hb dX9_partOf_81 rfl (lv_at hl 1 rfl) ?_
      obtain ⟨r6, e6, h⟩ := bsome h
      refine rd_VN F hP k_X5_overlap mw_774 0 6 rfl (wsW_get 0 (by decide)) (q_X5_overlap l D Y ad G x4 a1 r6 e6) rfl hl.1 ⟨Nat.le_of_ble_eq_true rfl, Nat.le_of_ble_eq_true rfl⟩ (rest := []) rfl (Nat.le_of_ble_eq_true rfl) ⟨Nat.le_of_ble_eq_true rfl, Nat.le_of_ble_eq_true rfl⟩ dX9_partOf_82 (fun o6 => ?_)
      exact x_end F hP hS hr hk rfl (Nat.le_of_ble_eq_true rfl) (Nat.le_of_ble_eq_true rfl) h dX9_partOf_85
    have h := ifF h c5
    refine lv_lookup (off := 40) (tgt := 86) hx hb dX9_partOf_46 (by decide) ((lv_osw c4 (by decide)).trans ((lv_osw c5 (by decide)).trans (rfl))) (by decide) ?_
    refine lv_aload_n hx hb dX9_partOf_86 rfl (lv_at hl 0 rfl) ?_
    refine rC_77_0 F hP dX9_partOf_87 ?_
    refine lv_iload hx hb dX9_partOf_90 (lv_at hl 3 rfl) ?_
    refine lv_iload_n hx hb dX9_partOf_92 rfl (lv_at hl 1 rfl) ?_
    obtain ⟨r7, e7, h⟩ := bsome h
    refine rd_VN F hP k_X5_isTied mw_775 0 6 rfl (wsW_get 0 (by decide)) (q_X5_isTied l D Y ad G x4 a1 r7 e7) rfl hl.1 ⟨Nat.le_of_ble_eq_true rfl, Nat.le_of_ble_eq_true rfl⟩ (rest := []) rfl (Nat.le_of_ble_eq_true rfl) ⟨Nat.le_of_ble_eq_true rfl, Nat.le_of_ble_eq_true rfl⟩ dX9_partOf_93 (fun o7 => ?_)
    refine lv_if_eq (tgt := 103) hx hb dX9_partOf_96 (by decide) (fun c8 => ?_) (fun c8 => ?_)
    · have h := ifT h c8
      refine lv_iconst (v := 0) hx hb dX9_partOf_103 (by decide) ?_
      exact x_end F hP hS hr hk rfl (Nat.le_of_ble_eq_true rfl) (Nat.le_of_ble_eq_true rfl) h dX9_partOf_104
    · have h := ifF h c8
      refine lv_iconst (v := 1) hx hb dX9_partOf_99 (by decide) ?_
      refine lv_goto (tgt := 104) hx hb dX9_partOf_100 (by decide) ?_
      exact x_end F hP hS hr hk rfl (Nat.le_of_ble_eq_true rfl) (Nat.le_of_ble_eq_true rfl) h dX9_partOf_104
  refine lv_aload_n hx hb dX9_partOf_0 rfl (lv_at hl 0 rfl) ?_
  refine rC_77_0 F hP dX9_partOf_1 ?_
  refine lv_iload_n hx hb dX9_partOf_4 rfl (lv_at hl 1 rfl) ?_
  obtain ⟨r9, e9, h⟩ := bsome h
  refine rd_VN F hP k_X5_hasBar mw_742 0 6 rfl (wsW_get 0 (by decide)) (q_X5_hasBar l D Y ad G a1 r9 e9) rfl hl.1 ⟨Nat.le_of_ble_eq_true rfl, Nat.le_of_ble_eq_true rfl⟩ (rest := []) rfl (Nat.le_of_ble_eq_true rfl) ⟨Nat.le_of_ble_eq_true rfl, Nat.le_of_ble_eq_true rfl⟩ dX9_partOf_5 (fun o9 => ?_)
  refine xn_S F hP hK hS hex hk k_X9_needPlace mw_361 (q_X9_needPlace l hst D Y _ _ _ r9) hl.1 ⟨Nat.le_of_ble_eq_true rfl, Nat.le_of_ble_eq_true rfl, Nat.le_of_ble_eq_true rfl, Nat.le_of_ble_eq_true rfl⟩ (Nat.le_of_ble_eq_true rfl) (Nat.le_of_ble_eq_true rfl) (Nat.le_of_ble_eq_true rfl) dX9_partOf_8 (fun c10 => ifT h c10) (fun c10 => ?_)
  have h := ifF h c10
  refine lv_aload_n hx hb dX9_partOf_11 rfl (lv_at hl 0 rfl) ?_
  refine rC_77_0 F hP dX9_partOf_12 ?_
  refine lv_iload_n hx hb dX9_partOf_15 rfl (lv_at hl 1 rfl) ?_
  refine lv_iload_n hx hb dX9_partOf_16 rfl (lv_at hl 2 rfl) ?_
  obtain ⟨r11, e11, h⟩ := bsome h
  refine rd_VN F hP k_X5_soundOfPart mw_770 0 6 rfl (wsW_get 0 (by decide)) (q_X5_soundOfPart l D Y ad G a1 a2 r11 e11) rfl hl.1 ⟨Nat.le_of_ble_eq_true rfl, Nat.le_of_ble_eq_true rfl⟩ (rest := []) rfl (Nat.le_of_ble_eq_true rfl) ⟨Nat.le_of_ble_eq_true rfl, Nat.le_of_ble_eq_true rfl⟩ dX9_partOf_17 (fun o11 => ?_)
  refine lv_istore (lv' := [(4, .int r11), (0, .ref (ad 77)), (1, .int a1), (2, .int a2), (3, .int a3)]) hx hb dX9_partOf_20 hl (by decide) rfl (fun ls hl => ?_)
  refine lv_iload hx hb dX9_partOf_22 (lv_at hl 0 rfl) ?_
  refine lv_iconst (v := -1) hx hb dX9_partOf_24 (by decide) ?_
  refine lv_icmp_eq (tgt := 32) hx hb dX9_partOf_25 (by decide) (fun c12 => ?_) (fun c12 => ?_)
  · have h := ifT h c12
    refine lv_iconst (v := 0) hx hb dX9_partOf_32 (by decide) ?_
    exact key33 r11 (0 : Int32) G _ _ hP hS ls (lv_sub hl [1, 2, 4, 0] rfl) h
  · have h := ifF h c12
    refine lv_iconst (v := 1) hx hb dX9_partOf_28 (by decide) ?_
    refine lv_goto (tgt := 33) hx hb dX9_partOf_29 (by decide) ?_
    exact key33 r11 (1 : Int32) G _ _ hP hS ls (lv_sub hl [1, 2, 4, 0] rfl) h
def f_X9_at (G : GT) (a1 : Int32) : Option ((Nat ⊕ Int32) × GT) := ((f_X5_soundAt G a1).bind fun r1 => (bindX (f_X9_found G r1) fun r2 G2 => some (.inr r2, G2)))
set_option maxRecDepth 100000 in
set_option maxHeartbeats 4000000 in
theorem q_X9_at (l : Launch) (hst : l.stackTraces = false) (D : va_G) (Y : Nat → ClassId) (ad : Nat → Nat) (hI : Inj 90 ad) (G : GT) (a1 : Int32) (R : Nat ⊕ Int32) (G' : GT) (h : f_X9_at G a1 = some (R, G')) : XWi l yX9_at cX9_at 2 (some .int) 10 1 D Y ad G [.ref (ad 77), .int a1] R G' := by
  refine X_of (ret := (some .int)) (by decide) (Nat.le_of_ble_eq_true rfl) (lv := [(0, .ref (ad 77)), (1, .int a1)]) rfl ?_
  intro p e s m below meth c ls F hP hK hS hr hk hex hl
  have F : Fx p c cX9_at 2 s m _ RX9 D Y := F
  have hx := F.1.1
  have hb := F.1.2.1
  have hts := F.1.2.2.2.2
  have hown := F.1.2.2.2.1
  refine lv_aload_n hx hb dX9_at_0 rfl (lv_at hl 0 rfl) ?_
  refine rC_77_0 F hP dX9_at_1 ?_
  refine lv_iload_n hx hb dX9_at_4 rfl (lv_at hl 1 rfl) ?_
  obtain ⟨r1, e1, h⟩ := bsome h
  refine rd_VN F hP k_X5_soundAt mw_786 0 6 rfl (wsW_get 0 (by decide)) (q_X5_soundAt l D Y ad G a1 r1 e1) rfl hl.1 ⟨Nat.le_of_ble_eq_true rfl, Nat.le_of_ble_eq_true rfl⟩ (rest := []) rfl (Nat.le_of_ble_eq_true rfl) ⟨Nat.le_of_ble_eq_true rfl, Nat.le_of_ble_eq_true rfl⟩ dX9_at_5 (fun o1 => ?_)
  obtain ⟨R2, G2, e2, hl2, h⟩ := bsomeX h
  refine xw_S F hP hK hS hex hk k_X9_found mw_790 (q_X9_found l hst D Y ad hI G r1  R2 G2 e2) rfl hl.1 ⟨Nat.le_of_ble_eq_true rfl, Nat.le_of_ble_eq_true rfl⟩ (rest := []) rfl (Nat.le_of_ble_eq_true rfl) ⟨Nat.le_of_ble_eq_true rfl, Nat.le_of_ble_eq_true rfl⟩ (Nat.le_of_ble_eq_true rfl) (Nat.le_of_ble_eq_true rfl) dX9_at_8 hl2 (fun r2 H locs hr2 o2 hP hS => ?_)
  have h := h r2 hr2
  exact x_end F hP hS hr hk rfl (Nat.le_of_ble_eq_true rfl) (Nat.le_of_ble_eq_true rfl) h dX9_at_11
def f_X9_faults (G : GT) (a1 : Int32) (a2 : Int32) : Option ((Nat ⊕ Int32) × GT) := ((f_X9_isWithin G a1 (1 : Int32) (4 : Int32)).bind fun r1 => (if r1 = 0 then some (.inl 1, G) else (if a2 = 0 then ((f_X6_count G a1).bind fun r4 => some (.inr r4, G)) else ((f_X6_countByBeats G a1).bind fun r5 => some (.inr r5, G)))))
set_option maxRecDepth 100000 in
set_option maxHeartbeats 4000000 in
theorem q_X9_faults (l : Launch) (hst : l.stackTraces = false) (D : va_G) (Y : Nat → ClassId) (ad : Nat → Nat) (hI : Inj 90 ad) (G : GT) (a1 : Int32) (a2 : Int32) (R : Nat ⊕ Int32) (G' : GT) (h : f_X9_faults G a1 a2 = some (R, G')) : XWi l yX9_faults cX9_faults 3 (some .int) 9 1 D Y ad G [.ref (ad 77), .int a1, .int a2] R G' := by
  refine X_of (ret := (some .int)) (by decide) (Nat.le_of_ble_eq_true rfl) (lv := [(0, .ref (ad 77)), (1, .int a1), (2, .int a2)]) rfl ?_
  intro p e s m below meth c ls F hP hK hS hr hk hex hl
  have F : Fx p c cX9_faults 3 s m _ RX9 D Y := F
  have hx := F.1.1
  have hb := F.1.2.1
  have hts := F.1.2.2.2.2
  have hown := F.1.2.2.2.1
  refine lv_iload_n hx hb dX9_faults_0 rfl (lv_at hl 1 rfl) ?_
  refine lv_iconst (v := 1) hx hb dX9_faults_1 (by decide) ?_
  refine lv_iconst (v := 4) hx hb dX9_faults_2 (by decide) ?_
  obtain ⟨r1, e1, h⟩ := bsome h
  refine rd_S F hP k_X9_isWithin mw_287 (q_X9_isWithin l D Y ad G a1 (1 : Int32) (4 : Int32) r1 e1) rfl hl.1 ⟨Nat.le_of_ble_eq_true rfl, Nat.le_of_ble_eq_true rfl⟩ (rest := []) rfl (Nat.le_of_ble_eq_true rfl) ⟨Nat.le_of_ble_eq_true rfl, Nat.le_of_ble_eq_true rfl⟩ dX9_faults_3 (fun o1 => ?_)
  refine xn_S F hP hK hS hex hk k_X9_needRange mw_436 (q_X9_needRange l hst D Y _ _ _ r1) hl.1 ⟨Nat.le_of_ble_eq_true rfl, Nat.le_of_ble_eq_true rfl, Nat.le_of_ble_eq_true rfl, Nat.le_of_ble_eq_true rfl⟩ (Nat.le_of_ble_eq_true rfl) (Nat.le_of_ble_eq_true rfl) (Nat.le_of_ble_eq_true rfl) dX9_faults_6 (fun c2 => ifT h c2) (fun c2 => ?_)
  have h := ifF h c2
  refine lv_iload_n hx hb dX9_faults_9 rfl (lv_at hl 2 rfl) ?_
  refine lv_if_eq (tgt := 24) hx hb dX9_faults_10 (by decide) (fun c3 => ?_) (fun c3 => ?_)
  · have h := ifT h c3
    refine lv_aload_n hx hb dX9_faults_24 rfl (lv_at hl 0 rfl) ?_
    refine rC_77_4 F hP dX9_faults_25 ?_
    refine lv_iload_n hx hb dX9_faults_28 rfl (lv_at hl 1 rfl) ?_
    obtain ⟨r4, e4, h⟩ := bsome h
    refine rd_VN F hP k_X6_count mw_841 79 7 rfl (wsW_get 79 (by decide)) (q_X6_count l D Y ad G a1 r4 e4) rfl hl.1 ⟨Nat.le_of_ble_eq_true rfl, Nat.le_of_ble_eq_true rfl⟩ (rest := []) rfl (Nat.le_of_ble_eq_true rfl) ⟨Nat.le_of_ble_eq_true rfl, Nat.le_of_ble_eq_true rfl⟩ dX9_faults_29 (fun o4 => ?_)
    exact x_end F hP hS hr hk rfl (Nat.le_of_ble_eq_true rfl) (Nat.le_of_ble_eq_true rfl) h dX9_faults_32
  · have h := ifF h c3
    refine lv_aload_n hx hb dX9_faults_13 rfl (lv_at hl 0 rfl) ?_
    refine rC_77_4 F hP dX9_faults_14 ?_
    refine lv_iload_n hx hb dX9_faults_17 rfl (lv_at hl 1 rfl) ?_
    obtain ⟨r5, e5, h⟩ := bsome h
    refine rd_VN F hP k_X6_countByBeats mw_815 79 7 rfl (wsW_get 79 (by decide)) (q_X6_countByBeats l D Y ad G a1 r5 e5) rfl hl.1 ⟨Nat.le_of_ble_eq_true rfl, Nat.le_of_ble_eq_true rfl⟩ (rest := []) rfl (Nat.le_of_ble_eq_true rfl) ⟨Nat.le_of_ble_eq_true rfl, Nat.le_of_ble_eq_true rfl⟩ dX9_faults_18 (fun o5 => ?_)
    refine lv_goto (tgt := 32) hx hb dX9_faults_21 (by decide) ?_
    exact x_end F hP hS hr hk rfl (Nat.le_of_ble_eq_true rfl) (Nat.le_of_ble_eq_true rfl) h dX9_faults_32
def f_X9_firstFault (G : GT) (a1 : Int32) : Option ((Nat ⊕ Int32) × GT) := ((f_X9_isWithin G a1 (1 : Int32) (4 : Int32)).bind fun r1 => (if r1 = 0 then some (.inl 1, G) else ((f_X6_first G a1).bind fun r3 => (bindX (f_X9_found G r3) fun r4 G4 => some (.inr r4, G4)))))
set_option maxRecDepth 100000 in
set_option maxHeartbeats 4000000 in
theorem q_X9_firstFault (l : Launch) (hst : l.stackTraces = false) (D : va_G) (Y : Nat → ClassId) (ad : Nat → Nat) (hI : Inj 90 ad) (G : GT) (a1 : Int32) (R : Nat ⊕ Int32) (G' : GT) (h : f_X9_firstFault G a1 = some (R, G')) : XWi l yX9_firstFault cX9_firstFault 2 (some .int) 10 2 D Y ad G [.ref (ad 77), .int a1] R G' := by
  refine X_of (ret := (some .int)) (by decide) (Nat.le_of_ble_eq_true rfl) (lv := [(0, .ref (ad 77)), (1, .int a1)]) rfl ?_
  intro p e s m below meth c ls F hP hK hS hr hk hex hl
  have F : Fx p c cX9_firstFault 2 s m _ RX9 D Y := F
  have hx := F.1.1
  have hb := F.1.2.1
  have hts := F.1.2.2.2.2
  have hown := F.1.2.2.2.1
  refine lv_iload_n hx hb dX9_firstFault_0 rfl (lv_at hl 1 rfl) ?_
  refine lv_iconst (v := 1) hx hb dX9_firstFault_1 (by decide) ?_
  refine lv_iconst (v := 4) hx hb dX9_firstFault_2 (by decide) ?_
  obtain ⟨r1, e1, h⟩ := bsome h
  refine rd_S F hP k_X9_isWithin mw_287 (q_X9_isWithin l D Y ad G a1 (1 : Int32) (4 : Int32) r1 e1) rfl hl.1 ⟨Nat.le_of_ble_eq_true rfl, Nat.le_of_ble_eq_true rfl⟩ (rest := []) rfl (Nat.le_of_ble_eq_true rfl) ⟨Nat.le_of_ble_eq_true rfl, Nat.le_of_ble_eq_true rfl⟩ dX9_firstFault_3 (fun o1 => ?_)
  refine xn_S F hP hK hS hex hk k_X9_needRange mw_436 (q_X9_needRange l hst D Y _ _ _ r1) hl.1 ⟨Nat.le_of_ble_eq_true rfl, Nat.le_of_ble_eq_true rfl, Nat.le_of_ble_eq_true rfl, Nat.le_of_ble_eq_true rfl⟩ (Nat.le_of_ble_eq_true rfl) (Nat.le_of_ble_eq_true rfl) (Nat.le_of_ble_eq_true rfl) dX9_firstFault_6 (fun c2 => ifT h c2) (fun c2 => ?_)
  have h := ifF h c2
  refine lv_aload_n hx hb dX9_firstFault_9 rfl (lv_at hl 0 rfl) ?_
  refine rC_77_4 F hP dX9_firstFault_10 ?_
  refine lv_iload_n hx hb dX9_firstFault_13 rfl (lv_at hl 1 rfl) ?_
  obtain ⟨r3, e3, h⟩ := bsome h
  refine rd_VN F hP k_X6_first mw_876 79 7 rfl (wsW_get 79 (by decide)) (q_X6_first l D Y ad G a1 r3 e3) rfl hl.1 ⟨Nat.le_of_ble_eq_true rfl, Nat.le_of_ble_eq_true rfl⟩ (rest := []) rfl (Nat.le_of_ble_eq_true rfl) ⟨Nat.le_of_ble_eq_true rfl, Nat.le_of_ble_eq_true rfl⟩ dX9_firstFault_14 (fun o3 => ?_)
  obtain ⟨R4, G4, e4, hl4, h⟩ := bsomeX h
  refine xw_S F hP hK hS hex hk k_X9_found mw_790 (q_X9_found l hst D Y ad hI G r3  R4 G4 e4) rfl hl.1 ⟨Nat.le_of_ble_eq_true rfl, Nat.le_of_ble_eq_true rfl⟩ (rest := []) rfl (Nat.le_of_ble_eq_true rfl) ⟨Nat.le_of_ble_eq_true rfl, Nat.le_of_ble_eq_true rfl⟩ (Nat.le_of_ble_eq_true rfl) (Nat.le_of_ble_eq_true rfl) dX9_firstFault_17 hl4 (fun r4 H locs hr4 o4 hP hS => ?_)
  have h := h r4 hr4
  exact x_end F hP hS hr hk rfl (Nat.le_of_ble_eq_true rfl) (Nat.le_of_ble_eq_true rfl) h dX9_firstFault_20
def f_X9_wouldFault_37 (G : GT) (a1 : Int32) (a2 : Int32) (s37_0 : Int32) : Option ((Nat ⊕ Int32) × GT) := (if s37_0 = 0 then some (.inl 3, G) else (bind2 (f_X6_countWith G a1 a2) fun r2 G2 => some (.inr r2, G2)))
def f_X9_wouldFault (G : GT) (a1 : Int32) (a2 : Int32) : Option ((Nat ⊕ Int32) × GT) := ((f_X5_hasSound G a1).bind fun r3 => (if r3 = 0 then some (.inl 0, G) else ((f_X9_isWithin G a2 (0 : Int32) (9 : Int32)).bind fun r5 => (if r5 = 0 then some (.inl 1, G) else ((f_X5_isRest G a1).bind fun r7 => (if r7 = 0 then f_X9_wouldFault_37 G a1 a2 (1 : Int32) else f_X9_wouldFault_37 G a1 a2 (0 : Int32)))))))
set_option maxRecDepth 100000 in
set_option maxHeartbeats 4000000 in
theorem q_X9_wouldFault (l : Launch) (hst : l.stackTraces = false) (D : va_G) (Y : Nat → ClassId) (ad : Nat → Nat) (hI : Inj 90 ad) (G : GT) (a1 : Int32) (a2 : Int32) (R : Nat ⊕ Int32) (G' : GT) (h : f_X9_wouldFault G a1 a2 = some (R, G')) : XWi l yX9_wouldFault cX9_wouldFault 3 (some .int) 9 3 D Y ad G [.ref (ad 77), .int a1, .int a2] R G' := by
  refine X_of (ret := (some .int)) (by decide) (Nat.le_of_ble_eq_true rfl) (lv := [(0, .ref (ad 77)), (1, .int a1), (2, .int a2)]) rfl ?_
  intro p e s m below meth c ls F hP hK hS hr hk hex hl
  have F : Fx p c cX9_wouldFault 3 s m _ RX9 D Y := F
  have hx := F.1.1
  have hb := F.1.2.1
  have hts := F.1.2.2.2.2
  have hown := F.1.2.2.2.1
  have key37 : ∀ (s37_0 : Int32) (G : GT) (H : Heap) (locs : List Loc), va_P D vwCl (wsC Y ad G) H → va_S (AW 90 ad) s.heap H locs → ∀ ls : Array Slot, lv_has ls 3 [(0, .ref (ad 77)), (1, .int a1), (2, .int a2)] → f_X9_wouldFault_37 G a1 a2  s37_0 = some (R, G') → WX p l e 9 3 s m ([.ref (ad 77), .int a1, .int a2] : List Value).toArray below meth c H locs 2 12 (XQi (some .int) R D (wsC Y ad G') (AW 90 ad)) (XC Int32 R D (wsC Y ad G') (AW 90 ad)) (AW 90 ad) (F0 m 37 ls [.int s37_0]) := by
    intro s37_0 G  H locs hP hS ls hl h
    refine xn_S F hP hK hS hex hk k_X9_needElement mw_594 (q_X9_needElement l hst D Y _ _ _ s37_0) hl.1 ⟨Nat.le_of_ble_eq_true rfl, Nat.le_of_ble_eq_true rfl, Nat.le_of_ble_eq_true rfl, Nat.le_of_ble_eq_true rfl⟩ (Nat.le_of_ble_eq_true rfl) (Nat.le_of_ble_eq_true rfl) (Nat.le_of_ble_eq_true rfl) dX9_wouldFault_37 (fun c1 => ifT h c1) (fun c1 => ?_)
    have h := ifF h c1
    refine lv_aload_n hx hb dX9_wouldFault_40 rfl (lv_at hl 0 rfl) ?_
    refine rC_77_4 F hP dX9_wouldFault_41 ?_
    refine lv_iload_n hx hb dX9_wouldFault_44 rfl (lv_at hl 1 rfl) ?_
    refine lv_iload_n hx hb dX9_wouldFault_45 rfl (lv_at hl 2 rfl) ?_
    obtain ⟨r2, G2, e2, h⟩ := bsome2 h
    refine wr_VN F hP hS k_X6_countWith mw_891 79 7 rfl (wsW_get 79 (by decide)) (q_X6_countWith l D Y ad hI G a1 a2 r2 G2 e2) rfl hl.1 ⟨Nat.le_of_ble_eq_true rfl, Nat.le_of_ble_eq_true rfl⟩ (rest := []) rfl (Nat.le_of_ble_eq_true rfl) ⟨Nat.le_of_ble_eq_true rfl, Nat.le_of_ble_eq_true rfl⟩ dX9_wouldFault_46 (fun H locs o2 hP hS => ?_)
    exact x_end F hP hS hr hk rfl (Nat.le_of_ble_eq_true rfl) (Nat.le_of_ble_eq_true rfl) h dX9_wouldFault_49
  refine lv_aload_n hx hb dX9_wouldFault_0 rfl (lv_at hl 0 rfl) ?_
  refine rC_77_0 F hP dX9_wouldFault_1 ?_
  refine lv_iload_n hx hb dX9_wouldFault_4 rfl (lv_at hl 1 rfl) ?_
  obtain ⟨r3, e3, h⟩ := bsome h
  refine rd_VN F hP k_X5_hasSound mw_696 0 6 rfl (wsW_get 0 (by decide)) (q_X5_hasSound l D Y ad G a1 r3 e3) rfl hl.1 ⟨Nat.le_of_ble_eq_true rfl, Nat.le_of_ble_eq_true rfl⟩ (rest := []) rfl (Nat.le_of_ble_eq_true rfl) ⟨Nat.le_of_ble_eq_true rfl, Nat.le_of_ble_eq_true rfl⟩ dX9_wouldFault_5 (fun o3 => ?_)
  refine xn_S F hP hK hS hex hk k_X9_needPlace mw_361 (q_X9_needPlace l hst D Y _ _ _ r3) hl.1 ⟨Nat.le_of_ble_eq_true rfl, Nat.le_of_ble_eq_true rfl, Nat.le_of_ble_eq_true rfl, Nat.le_of_ble_eq_true rfl⟩ (Nat.le_of_ble_eq_true rfl) (Nat.le_of_ble_eq_true rfl) (Nat.le_of_ble_eq_true rfl) dX9_wouldFault_8 (fun c4 => ifT h c4) (fun c4 => ?_)
  have h := ifF h c4
  refine lv_iload_n hx hb dX9_wouldFault_11 rfl (lv_at hl 2 rfl) ?_
  refine lv_iconst (v := 0) hx hb dX9_wouldFault_12 (by decide) ?_
  refine lv_bipush (v := 9) hx hb dX9_wouldFault_13 (by decide) ?_
  obtain ⟨r5, e5, h⟩ := bsome h
  refine rd_S F hP k_X9_isWithin mw_287 (q_X9_isWithin l D Y ad G a2 (0 : Int32) (9 : Int32) r5 e5) rfl hl.1 ⟨Nat.le_of_ble_eq_true rfl, Nat.le_of_ble_eq_true rfl⟩ (rest := []) rfl (Nat.le_of_ble_eq_true rfl) ⟨Nat.le_of_ble_eq_true rfl, Nat.le_of_ble_eq_true rfl⟩ dX9_wouldFault_15 (fun o5 => ?_)
  refine xn_S F hP hK hS hex hk k_X9_needRange mw_436 (q_X9_needRange l hst D Y _ _ _ r5) hl.1 ⟨Nat.le_of_ble_eq_true rfl, Nat.le_of_ble_eq_true rfl, Nat.le_of_ble_eq_true rfl, Nat.le_of_ble_eq_true rfl⟩ (Nat.le_of_ble_eq_true rfl) (Nat.le_of_ble_eq_true rfl) (Nat.le_of_ble_eq_true rfl) dX9_wouldFault_18 (fun c6 => ifT h c6) (fun c6 => ?_)
  have h := ifF h c6
  refine lv_aload_n hx hb dX9_wouldFault_21 rfl (lv_at hl 0 rfl) ?_
  refine rC_77_0 F hP dX9_wouldFault_22 ?_
  refine lv_iload_n hx hb dX9_wouldFault_25 rfl (lv_at hl 1 rfl) ?_
  obtain ⟨r7, e7, h⟩ := bsome h
  refine rd_VN F hP k_X5_isRest mw_890 0 6 rfl (wsW_get 0 (by decide)) (q_X5_isRest l D Y ad G a1 r7 e7) rfl hl.1 ⟨Nat.le_of_ble_eq_true rfl, Nat.le_of_ble_eq_true rfl⟩ (rest := []) rfl (Nat.le_of_ble_eq_true rfl) ⟨Nat.le_of_ble_eq_true rfl, Nat.le_of_ble_eq_true rfl⟩ dX9_wouldFault_26 (fun o7 => ?_)
  refine lv_if_ne (tgt := 36) hx hb dX9_wouldFault_29 (by decide) (fun c8 => ?_) (fun c8 => ?_)
  · have h := ifF h c8
    refine lv_iconst (v := 0) hx hb dX9_wouldFault_36 (by decide) ?_
    exact key37 (0 : Int32) G _ _ hP hS ls (lv_sub hl [0, 1, 2] rfl) h
  · have h := ifT h c8
    refine lv_iconst (v := 1) hx hb dX9_wouldFault_32 (by decide) ?_
    refine lv_goto (tgt := 37) hx hb dX9_wouldFault_33 (by decide) ?_
    exact key37 (1 : Int32) G _ _ hP hS ls (lv_sub hl [0, 1, 2] rfl) h
def f_X9_bestHeight_76 (G : GT) (a1 : Int32) (k45 : GT → Int32 → Int32 → Int32 → Option ((Nat ⊕ Int32) × GT)) (x2 : Int32) (x3 : Int32) (x4 : Int32) : Option ((Nat ⊕ Int32) × GT) := k45 G x2 x3 (x4 + 1)
def f_X9_bestHeight_45 (a1 : Int32) (n : Nat) (G : GT) (y2 : Int32) (y3 : Int32) (y4 : Int32) : Option ((Nat ⊕ Int32) × GT) := lq4 (fun (k45 : GT → Int32 → Int32 → Int32 → Option ((Nat ⊕ Int32) × GT)) (G : GT) (x2 : Int32) (x3 : Int32) (x4 : Int32) => (if (9 : Int32) < x4 then some (.inr x2, G) else (bind2 (f_X6_countWith G a1 x4) fun r2 G2 => (if x3 ≤ r2 then f_X9_bestHeight_76 G2 a1 k45 x2 x3 x4 else f_X9_bestHeight_76 G2 a1 k45 x4 r2 x4)))) n G y2 y3 y4
def f_X9_bestHeight_27 (G : GT) (a1 : Int32) (s27_0 : Int32) : Option ((Nat ⊕ Int32) × GT) := (if s27_0 = 0 then some (.inl 3, G) else (bind2 (f_X6_countWith G a1 (0 : Int32)) fun r5 G5 => f_X9_bestHeight_45 a1 4096 G5 (0 : Int32) r5 (1 : Int32)))
def f_X9_bestHeight (G : GT) (a1 : Int32) : Option ((Nat ⊕ Int32) × GT) := ((f_X5_hasSound G a1).bind fun r6 => (if r6 = 0 then some (.inl 0, G) else ((f_X5_isRest G a1).bind fun r8 => (if r8 = 0 then f_X9_bestHeight_27 G a1 (1 : Int32) else f_X9_bestHeight_27 G a1 (0 : Int32)))))
set_option maxRecDepth 100000 in
set_option maxHeartbeats 4000000 in
theorem q_X9_bestHeight (l : Launch) (hst : l.stackTraces = false) (D : va_G) (Y : Nat → ClassId) (ad : Nat → Nat) (hI : Inj 90 ad) (G : GT) (a1 : Int32) (R : Nat ⊕ Int32) (G' : GT) (h : f_X9_bestHeight G a1 = some (R, G')) : XWi l yX9_bestHeight cX9_bestHeight 6 (some .int) 9 2 D Y ad G [.ref (ad 77), .int a1] R G' := by
  refine X_of (ret := (some .int)) (by decide) (Nat.le_of_ble_eq_true rfl) (lv := [(0, .ref (ad 77)), (1, .int a1)]) rfl ?_
  intro p e s m below meth c ls F hP hK hS hr hk hex hl
  have F : Fx p c cX9_bestHeight 6 s m _ RX9 D Y := F
  have hx := F.1.1
  have hb := F.1.2.1
  have hts := F.1.2.2.2.2
  have hown := F.1.2.2.2.1
  have key45 : ∀ (n : Nat) (G : GT) (x2 : Int32) (x3 : Int32) (x4 : Int32) (H : Heap) (locs : List Loc), va_P D vwCl (wsC Y ad G) H → va_S (AW 90 ad) s.heap H locs → ∀ ls : Array Slot, lv_has ls 6 [(0, .ref (ad 77)), (1, .int a1), (2, .int x2), (3, .int x3), (4, .int x4)] → f_X9_bestHeight_45 a1  n G x2 x3 x4 = some (R, G') → WX p l e 9 2 s m ([.ref (ad 77), .int a1] : List Value).toArray below meth c H locs 2 12 (XQi (some .int) R D (wsC Y ad G') (AW 90 ad)) (XC Int32 R D (wsC Y ad G') (AW 90 ad)) (AW 90 ad) (F0 m 45 ls []) := by
    intro  n
    induction n with
    | zero => intro G x2 x3 x4 H locs hP hS ls hl h; exact lqZ4 h
    | succ n45 ih45 =>
      have key76 : ∀ (x2 : Int32) (x3 : Int32) (x4 : Int32) (G : GT) (H : Heap) (locs : List Loc), va_P D vwCl (wsC Y ad G) H → va_S (AW 90 ad) s.heap H locs → ∀ ls : Array Slot, lv_has ls 6 [(0, .ref (ad 77)), (1, .int a1), (2, .int x2), (3, .int x3), (4, .int x4)] → f_X9_bestHeight_76 G a1 (f_X9_bestHeight_45 a1   n45) x2 x3 x4 = some (R, G') → WX p l e 9 2 s m ([.ref (ad 77), .int a1] : List Value).toArray below meth c H locs 2 12 (XQi (some .int) R D (wsC Y ad G') (AW 90 ad)) (XC Int32 R D (wsC Y ad G') (AW 90 ad)) (AW 90 ad) (F0 m 76 ls []) := by
        intro x2 x3 x4 G  H locs hP hS ls hl h
        refine lv_iinc (v := (x4 + 1)) (lv' := [(4, .int ((x4 + 1))), (0, .ref (ad 77)), (1, .int a1), (2, .int x2), (3, .int x3)]) hx hb dX9_bestHeight_76 hl (k := 4) rfl rfl (by decide) rfl (fun ls hl => ?_)
        refine lv_goto (tgt := 45) hx hb dX9_bestHeight_79 (by decide) ?_
        exact ih45 G x2 x3 (x4 + 1) _ _ hP hS ls (lv_sub hl [1, 2, 3, 4, 0] rfl) h
      intro G x2 x3 x4 H locs hP hS ls hl h
      have h := lqS4 h
      refine lv_iload hx hb dX9_bestHeight_45 (lv_at hl 4 rfl) ?_
      refine lv_bipush (v := 9) hx hb dX9_bestHeight_47 (by decide) ?_
      refine lv_icmp_gt (tgt := 82) hx hb dX9_bestHeight_49 (by decide) (fun c1 => ?_) (fun c1 => ?_)
      · have h := ifT h c1
        refine lv_iload_n hx hb dX9_bestHeight_82 rfl (lv_at hl 2 rfl) ?_
        exact x_end F hP hS hr hk rfl (Nat.le_of_ble_eq_true rfl) (Nat.le_of_ble_eq_true rfl) h dX9_bestHeight_83
      · have h := ifF h c1
        refine lv_aload_n hx hb dX9_bestHeight_52 rfl (lv_at hl 0 rfl) ?_
        refine rC_77_4 F hP dX9_bestHeight_53 ?_
        refine lv_iload_n hx hb dX9_bestHeight_56 rfl (lv_at hl 1 rfl) ?_
        refine lv_iload hx hb dX9_bestHeight_57 (lv_at hl 4 rfl) ?_
        obtain ⟨r2, G2, e2, h⟩ := bsome2 h
        refine wr_VN F hP hS k_X6_countWith mw_891 79 7 rfl (wsW_get 79 (by decide)) (q_X6_countWith l D Y ad hI G a1 x4 r2 G2 e2) rfl hl.1 ⟨Nat.le_of_ble_eq_true rfl, Nat.le_of_ble_eq_true rfl⟩ (rest := []) rfl (Nat.le_of_ble_eq_true rfl) ⟨Nat.le_of_ble_eq_true rfl, Nat.le_of_ble_eq_true rfl⟩ dX9_bestHeight_59 (fun H locs o2 hP hS => ?_)
        refine lv_istore (lv' := [(5, .int r2), (0, .ref (ad 77)), (1, .int a1), (2, .int x2), (3, .int x3), (4, .int x4)]) hx hb dX9_bestHeight_62 hl (by decide) rfl (fun ls hl => ?_)
        refine lv_iload hx hb dX9_bestHeight_64 (lv_at hl 0 rfl) ?_
        refine lv_iload_n hx hb dX9_bestHeight_66 rfl (lv_at hl 4 rfl) ?_
        refine lv_icmp_ge (tgt := 76) hx hb dX9_bestHeight_67 (by decide) (fun c3 => ?_) (fun c3 => ?_)
        · have h := ifT h c3
          exact key76 x2 x3 x4 G2 _ _ hP hS ls (lv_sub hl [1, 2, 3, 4, 5] rfl) h
        · have h := ifF h c3
          refine lv_iload hx hb dX9_bestHeight_70 (lv_at hl 0 rfl) ?_
          refine lv_istore_n (lv' := [(3, .int r2), (5, .int r2), (0, .ref (ad 77)), (1, .int a1), (2, .int x2), (4, .int x4)]) hx hb dX9_bestHeight_72 rfl hl (by decide) rfl (fun ls hl => ?_)
          refine lv_iload hx hb dX9_bestHeight_73 (lv_at hl 5 rfl) ?_
          refine lv_istore_n (lv' := [(2, .int x4), (3, .int r2), (5, .int r2), (0, .ref (ad 77)), (1, .int a1), (4, .int x4)]) hx hb dX9_bestHeight_75 rfl hl (by decide) rfl (fun ls hl => ?_)
          exact key76 x4 r2 x4 G2 _ _ hP hS ls (lv_sub hl [3, 4, 0, 1, 5] rfl) h
  have key27 : ∀ (s27_0 : Int32) (G : GT) (H : Heap) (locs : List Loc), va_P D vwCl (wsC Y ad G) H → va_S (AW 90 ad) s.heap H locs → ∀ ls : Array Slot, lv_has ls 6 [(0, .ref (ad 77)), (1, .int a1)] → f_X9_bestHeight_27 G a1  s27_0 = some (R, G') → WX p l e 9 2 s m ([.ref (ad 77), .int a1] : List Value).toArray below meth c H locs 1 6 (XQi (some .int) R D (wsC Y ad G') (AW 90 ad)) (XC Int32 R D (wsC Y ad G') (AW 90 ad)) (AW 90 ad) (F0 m 27 ls [.int s27_0]) := by
    intro s27_0 G  H locs hP hS ls hl h
    refine xn_S F hP hK hS hex hk k_X9_needElement mw_594 (q_X9_needElement l hst D Y _ _ _ s27_0) hl.1 ⟨Nat.le_of_ble_eq_true rfl, Nat.le_of_ble_eq_true rfl, Nat.le_of_ble_eq_true rfl, Nat.le_of_ble_eq_true rfl⟩ (Nat.le_of_ble_eq_true rfl) (Nat.le_of_ble_eq_true rfl) (Nat.le_of_ble_eq_true rfl) dX9_bestHeight_27 (fun c4 => ifT h c4) (fun c4 => ?_)
    have h := ifF h c4
    refine lv_iconst (v := 0) hx hb dX9_bestHeight_30 (by decide) ?_
    refine lv_istore_n (lv' := [(2, .int ((0 : Int32))), (0, .ref (ad 77)), (1, .int a1)]) hx hb dX9_bestHeight_31 rfl hl (by decide) rfl (fun ls hl => ?_)
    refine lv_aload_n hx hb dX9_bestHeight_32 rfl (lv_at hl 1 rfl) ?_
    refine rC_77_4 F hP dX9_bestHeight_33 ?_
    refine lv_iload_n hx hb dX9_bestHeight_36 rfl (lv_at hl 2 rfl) ?_
    refine lv_iconst (v := 0) hx hb dX9_bestHeight_37 (by decide) ?_
    obtain ⟨r5, G5, e5, h⟩ := bsome2 h
    refine wr_VN F hP hS k_X6_countWith mw_891 79 7 rfl (wsW_get 79 (by decide)) (q_X6_countWith l D Y ad hI G a1 (0 : Int32) r5 G5 e5) rfl hl.1 ⟨Nat.le_of_ble_eq_true rfl, Nat.le_of_ble_eq_true rfl⟩ (rest := []) rfl (Nat.le_of_ble_eq_true rfl) ⟨Nat.le_of_ble_eq_true rfl, Nat.le_of_ble_eq_true rfl⟩ dX9_bestHeight_38 (fun H locs o5 hP hS => ?_)
    refine lv_istore_n (lv' := [(3, .int r5), (2, .int ((0 : Int32))), (0, .ref (ad 77)), (1, .int a1)]) hx hb dX9_bestHeight_41 rfl hl (by decide) rfl (fun ls hl => ?_)
    refine lv_iconst (v := 1) hx hb dX9_bestHeight_42 (by decide) ?_
    refine lv_istore (lv' := [(4, .int ((1 : Int32))), (3, .int r5), (2, .int ((0 : Int32))), (0, .ref (ad 77)), (1, .int a1)]) hx hb dX9_bestHeight_43 hl (by decide) rfl (fun ls hl => ?_)
    exact key45 4096 G5 (0 : Int32) r5 (1 : Int32) _ _ hP hS ls (lv_sub hl [3, 4, 2, 1, 0] rfl) h
  refine lv_aload_n hx hb dX9_bestHeight_0 rfl (lv_at hl 0 rfl) ?_
  refine rC_77_0 F hP dX9_bestHeight_1 ?_
  refine lv_iload_n hx hb dX9_bestHeight_4 rfl (lv_at hl 1 rfl) ?_
  obtain ⟨r6, e6, h⟩ := bsome h
  refine rd_VN F hP k_X5_hasSound mw_696 0 6 rfl (wsW_get 0 (by decide)) (q_X5_hasSound l D Y ad G a1 r6 e6) rfl hl.1 ⟨Nat.le_of_ble_eq_true rfl, Nat.le_of_ble_eq_true rfl⟩ (rest := []) rfl (Nat.le_of_ble_eq_true rfl) ⟨Nat.le_of_ble_eq_true rfl, Nat.le_of_ble_eq_true rfl⟩ dX9_bestHeight_5 (fun o6 => ?_)
  refine xn_S F hP hK hS hex hk k_X9_needPlace mw_361 (q_X9_needPlace l hst D Y _ _ _ r6) hl.1 ⟨Nat.le_of_ble_eq_true rfl, Nat.le_of_ble_eq_true rfl, Nat.le_of_ble_eq_true rfl, Nat.le_of_ble_eq_true rfl⟩ (Nat.le_of_ble_eq_true rfl) (Nat.le_of_ble_eq_true rfl) (Nat.le_of_ble_eq_true rfl) dX9_bestHeight_8 (fun c7 => ifT h c7) (fun c7 => ?_)
  have h := ifF h c7
  refine lv_aload_n hx hb dX9_bestHeight_11 rfl (lv_at hl 0 rfl) ?_
  refine rC_77_0 F hP dX9_bestHeight_12 ?_
  refine lv_iload_n hx hb dX9_bestHeight_15 rfl (lv_at hl 1 rfl) ?_
  obtain ⟨r8, e8, h⟩ := bsome h
  refine rd_VN F hP k_X5_isRest mw_890 0 6 rfl (wsW_get 0 (by decide)) (q_X5_isRest l D Y ad G a1 r8 e8) rfl hl.1 ⟨Nat.le_of_ble_eq_true rfl, Nat.le_of_ble_eq_true rfl⟩ (rest := []) rfl (Nat.le_of_ble_eq_true rfl) ⟨Nat.le_of_ble_eq_true rfl, Nat.le_of_ble_eq_true rfl⟩ dX9_bestHeight_16 (fun o8 => ?_)
  refine lv_if_ne (tgt := 26) hx hb dX9_bestHeight_19 (by decide) (fun c9 => ?_) (fun c9 => ?_)
  · have h := ifF h c9
    refine lv_iconst (v := 0) hx hb dX9_bestHeight_26 (by decide) ?_
    exact key27 (0 : Int32) G _ _ hP hS ls (lv_sub hl [0, 1] rfl) h
  · have h := ifT h c9
    refine lv_iconst (v := 1) hx hb dX9_bestHeight_22 (by decide) ?_
    refine lv_goto (tgt := 27) hx hb dX9_bestHeight_23 (by decide) ?_
    exact key27 (1 : Int32) G _ _ hP hS ls (lv_sub hl [0, 1] rfl) h
def f_X9_withPitch (G : GT) (a1 : Int32) : Option ((Nat ⊕ Int32) × GT) := ((f_X9_isWithin G a1 (0 : Int32) (11 : Int32)).bind fun r1 => (if r1 = 0 then some (.inl 1, G) else ((f_X3_dropsAt G a1).bind fun r3 => some (.inr r3, G))))
set_option maxRecDepth 100000 in
set_option maxHeartbeats 4000000 in
theorem q_X9_withPitch (l : Launch) (hst : l.stackTraces = false) (D : va_G) (Y : Nat → ClassId) (ad : Nat → Nat) (hI : Inj 90 ad) (G : GT) (a1 : Int32) (R : Nat ⊕ Int32) (G' : GT) (h : f_X9_withPitch G a1 = some (R, G')) : XWi l yX9_withPitch cX9_withPitch 2 (some .int) 9 1 D Y ad G [.ref (ad 77), .int a1] R G' := by
  refine X_of (ret := (some .int)) (by decide) (Nat.le_of_ble_eq_true rfl) (lv := [(0, .ref (ad 77)), (1, .int a1)]) rfl ?_
  intro p e s m below meth c ls F hP hK hS hr hk hex hl
  have F : Fx p c cX9_withPitch 2 s m _ RX9 D Y := F
  have hx := F.1.1
  have hb := F.1.2.1
  have hts := F.1.2.2.2.2
  have hown := F.1.2.2.2.1
  refine lv_iload_n hx hb dX9_withPitch_0 rfl (lv_at hl 1 rfl) ?_
  refine lv_iconst (v := 0) hx hb dX9_withPitch_1 (by decide) ?_
  refine lv_bipush (v := 11) hx hb dX9_withPitch_2 (by decide) ?_
  obtain ⟨r1, e1, h⟩ := bsome h
  refine rd_S F hP k_X9_isWithin mw_287 (q_X9_isWithin l D Y ad G a1 (0 : Int32) (11 : Int32) r1 e1) rfl hl.1 ⟨Nat.le_of_ble_eq_true rfl, Nat.le_of_ble_eq_true rfl⟩ (rest := []) rfl (Nat.le_of_ble_eq_true rfl) ⟨Nat.le_of_ble_eq_true rfl, Nat.le_of_ble_eq_true rfl⟩ dX9_withPitch_4 (fun o1 => ?_)
  refine xn_S F hP hK hS hex hk k_X9_needRange mw_436 (q_X9_needRange l hst D Y _ _ _ r1) hl.1 ⟨Nat.le_of_ble_eq_true rfl, Nat.le_of_ble_eq_true rfl, Nat.le_of_ble_eq_true rfl, Nat.le_of_ble_eq_true rfl⟩ (Nat.le_of_ble_eq_true rfl) (Nat.le_of_ble_eq_true rfl) (Nat.le_of_ble_eq_true rfl) dX9_withPitch_7 (fun c2 => ifT h c2) (fun c2 => ?_)
  have h := ifF h c2
  refine lv_aload_n hx hb dX9_withPitch_10 rfl (lv_at hl 0 rfl) ?_
  refine rC_77_5 F hP dX9_withPitch_11 ?_
  refine lv_iload_n hx hb dX9_withPitch_14 rfl (lv_at hl 1 rfl) ?_
  obtain ⟨r3, e3, h⟩ := bsome h
  refine rd_VN F hP k_X3_dropsAt mw_1012 80 5 rfl (wsW_get 80 (by decide)) (q_X3_dropsAt l D Y ad G a1 r3 e3) rfl hl.1 ⟨Nat.le_of_ble_eq_true rfl, Nat.le_of_ble_eq_true rfl⟩ (rest := []) rfl (Nat.le_of_ble_eq_true rfl) ⟨Nat.le_of_ble_eq_true rfl, Nat.le_of_ble_eq_true rfl⟩ dX9_withPitch_15 (fun o3 => ?_)
  exact x_end F hP hS hr hk rfl (Nat.le_of_ble_eq_true rfl) (Nat.le_of_ble_eq_true rfl) h dX9_withPitch_18
def f_X9_loudest (G : GT) (a1 : Int32) : Option ((Nat ⊕ Int32) × GT) := ((f_X7_tinAt G a1).bind fun r1 => (bindX (f_X9_found G r1) fun r2 G2 => some (.inr r2, G2)))
set_option maxRecDepth 100000 in
set_option maxHeartbeats 4000000 in
theorem q_X9_loudest (l : Launch) (hst : l.stackTraces = false) (D : va_G) (Y : Nat → ClassId) (ad : Nat → Nat) (hI : Inj 90 ad) (G : GT) (a1 : Int32) (R : Nat ⊕ Int32) (G' : GT) (h : f_X9_loudest G a1 = some (R, G')) : XWi l yX9_loudest cX9_loudest 2 (some .int) 10 1 D Y ad G [.ref (ad 77), .int a1] R G' := by
  refine X_of (ret := (some .int)) (by decide) (Nat.le_of_ble_eq_true rfl) (lv := [(0, .ref (ad 77)), (1, .int a1)]) rfl ?_
  intro p e s m below meth c ls F hP hK hS hr hk hex hl
  have F : Fx p c cX9_loudest 2 s m _ RX9 D Y := F
  have hx := F.1.1
  have hb := F.1.2.1
  have hts := F.1.2.2.2.2
  have hown := F.1.2.2.2.1
  refine lv_aload_n hx hb dX9_loudest_0 rfl (lv_at hl 0 rfl) ?_
  refine rC_77_6 F hP dX9_loudest_1 ?_
  refine lv_iload_n hx hb dX9_loudest_4 rfl (lv_at hl 1 rfl) ?_
  obtain ⟨r1, e1, h⟩ := bsome h
  refine rd_VN F hP k_X7_tinAt mw_1031 81 8 rfl (wsW_get 81 (by decide)) (q_X7_tinAt l D Y ad G a1 r1 e1) rfl hl.1 ⟨Nat.le_of_ble_eq_true rfl, Nat.le_of_ble_eq_true rfl⟩ (rest := []) rfl (Nat.le_of_ble_eq_true rfl) ⟨Nat.le_of_ble_eq_true rfl, Nat.le_of_ble_eq_true rfl⟩ dX9_loudest_5 (fun o1 => ?_)
  obtain ⟨R2, G2, e2, hl2, h⟩ := bsomeX h
  refine xw_S F hP hK hS hex hk k_X9_found mw_790 (q_X9_found l hst D Y ad hI G r1  R2 G2 e2) rfl hl.1 ⟨Nat.le_of_ble_eq_true rfl, Nat.le_of_ble_eq_true rfl⟩ (rest := []) rfl (Nat.le_of_ble_eq_true rfl) ⟨Nat.le_of_ble_eq_true rfl, Nat.le_of_ble_eq_true rfl⟩ (Nat.le_of_ble_eq_true rfl) (Nat.le_of_ble_eq_true rfl) dX9_loudest_8 hl2 (fun r2 H locs hr2 o2 hP hS => ?_)
  have h := h r2 hr2
  exact x_end F hP hS hr hk rfl (Nat.le_of_ble_eq_true rfl) (Nat.le_of_ble_eq_true rfl) h dX9_loudest_11
def f_X9_highest (G : GT) (a1 : Int32) : Option ((Nat ⊕ Int32) × GT) := ((f_X7_dropAt G a1).bind fun r1 => (bindX (f_X9_found G r1) fun r2 G2 => some (.inr r2, G2)))
set_option maxRecDepth 100000 in
set_option maxHeartbeats 4000000 in
theorem q_X9_highest (l : Launch) (hst : l.stackTraces = false) (D : va_G) (Y : Nat → ClassId) (ad : Nat → Nat) (hI : Inj 90 ad) (G : GT) (a1 : Int32) (R : Nat ⊕ Int32) (G' : GT) (h : f_X9_highest G a1 = some (R, G')) : XWi l yX9_highest cX9_highest 2 (some .int) 10 1 D Y ad G [.ref (ad 77), .int a1] R G' := by
  refine X_of (ret := (some .int)) (by decide) (Nat.le_of_ble_eq_true rfl) (lv := [(0, .ref (ad 77)), (1, .int a1)]) rfl ?_
  intro p e s m below meth c ls F hP hK hS hr hk hex hl
  have F : Fx p c cX9_highest 2 s m _ RX9 D Y := F
  have hx := F.1.1
  have hb := F.1.2.1
  have hts := F.1.2.2.2.2
  have hown := F.1.2.2.2.1
  refine lv_aload_n hx hb dX9_highest_0 rfl (lv_at hl 0 rfl) ?_
  refine rC_77_6 F hP dX9_highest_1 ?_
  refine lv_iload_n hx hb dX9_highest_4 rfl (lv_at hl 1 rfl) ?_
  obtain ⟨r1, e1, h⟩ := bsome h
  refine rd_VN F hP k_X7_dropAt mw_1052 81 8 rfl (wsW_get 81 (by decide)) (q_X7_dropAt l D Y ad G a1 r1 e1) rfl hl.1 ⟨Nat.le_of_ble_eq_true rfl, Nat.le_of_ble_eq_true rfl⟩ (rest := []) rfl (Nat.le_of_ble_eq_true rfl) ⟨Nat.le_of_ble_eq_true rfl, Nat.le_of_ble_eq_true rfl⟩ dX9_highest_5 (fun o1 => ?_)
  obtain ⟨R2, G2, e2, hl2, h⟩ := bsomeX h
  refine xw_S F hP hK hS hex hk k_X9_found mw_790 (q_X9_found l hst D Y ad hI G r1  R2 G2 e2) rfl hl.1 ⟨Nat.le_of_ble_eq_true rfl, Nat.le_of_ble_eq_true rfl⟩ (rest := []) rfl (Nat.le_of_ble_eq_true rfl) ⟨Nat.le_of_ble_eq_true rfl, Nat.le_of_ble_eq_true rfl⟩ (Nat.le_of_ble_eq_true rfl) (Nat.le_of_ble_eq_true rfl) dX9_highest_8 hl2 (fun r2 H locs hr2 o2 hP hS => ?_)
  have h := h r2 hr2
  exact x_end F hP hS hr hk rfl (Nat.le_of_ble_eq_true rfl) (Nat.le_of_ble_eq_true rfl) h dX9_highest_11
def f_X9_line (G : GT) (a1 : Int32) : Option ((Nat ⊕ Int32) × GT) := ((f_X5_hasBar G a1).bind fun r1 => (if r1 = 0 then some (.inl 0, G) else (bind2 (f_X2_writeBar G a1) fun r3 G3 => some (.inr r3, G3))))
set_option maxRecDepth 100000 in
set_option maxHeartbeats 4000000 in
theorem q_X9_line (l : Launch) (hst : l.stackTraces = false) (D : va_G) (Y : Nat → ClassId) (ad : Nat → Nat) (hI : Inj 90 ad) (G : GT) (a1 : Int32) (R : Nat ⊕ Int32) (G' : GT) (h : f_X9_line G a1 = some (R, G')) : XWi l yX9_line cX9_line 2 (some .int) 9 1 D Y ad G [.ref (ad 77), .int a1] R G' := by
  refine X_of (ret := (some .int)) (by decide) (Nat.le_of_ble_eq_true rfl) (lv := [(0, .ref (ad 77)), (1, .int a1)]) rfl ?_
  intro p e s m below meth c ls F hP hK hS hr hk hex hl
  have F : Fx p c cX9_line 2 s m _ RX9 D Y := F
  have hx := F.1.1
  have hb := F.1.2.1
  have hts := F.1.2.2.2.2
  have hown := F.1.2.2.2.1
  refine lv_aload_n hx hb dX9_line_0 rfl (lv_at hl 0 rfl) ?_
  refine rC_77_0 F hP dX9_line_1 ?_
  refine lv_iload_n hx hb dX9_line_4 rfl (lv_at hl 1 rfl) ?_
  obtain ⟨r1, e1, h⟩ := bsome h
  refine rd_VN F hP k_X5_hasBar mw_742 0 6 rfl (wsW_get 0 (by decide)) (q_X5_hasBar l D Y ad G a1 r1 e1) rfl hl.1 ⟨Nat.le_of_ble_eq_true rfl, Nat.le_of_ble_eq_true rfl⟩ (rest := []) rfl (Nat.le_of_ble_eq_true rfl) ⟨Nat.le_of_ble_eq_true rfl, Nat.le_of_ble_eq_true rfl⟩ dX9_line_5 (fun o1 => ?_)
  refine xn_S F hP hK hS hex hk k_X9_needPlace mw_361 (q_X9_needPlace l hst D Y _ _ _ r1) hl.1 ⟨Nat.le_of_ble_eq_true rfl, Nat.le_of_ble_eq_true rfl, Nat.le_of_ble_eq_true rfl, Nat.le_of_ble_eq_true rfl⟩ (Nat.le_of_ble_eq_true rfl) (Nat.le_of_ble_eq_true rfl) (Nat.le_of_ble_eq_true rfl) dX9_line_8 (fun c2 => ifT h c2) (fun c2 => ?_)
  have h := ifF h c2
  refine lv_aload_n hx hb dX9_line_11 rfl (lv_at hl 0 rfl) ?_
  refine rC_77_7 F hP dX9_line_12 ?_
  refine lv_iload_n hx hb dX9_line_15 rfl (lv_at hl 1 rfl) ?_
  obtain ⟨r3, G3, e3, h⟩ := bsome2 h
  refine wr_VN F hP hS k_X2_writeBar mw_1338 82 4 rfl (wsW_get 82 (by decide)) (q_X2_writeBar l D Y ad hI G a1 r3 G3 e3) rfl hl.1 ⟨Nat.le_of_ble_eq_true rfl, Nat.le_of_ble_eq_true rfl⟩ (rest := []) rfl (Nat.le_of_ble_eq_true rfl) ⟨Nat.le_of_ble_eq_true rfl, Nat.le_of_ble_eq_true rfl⟩ dX9_line_16 (fun H locs o3 hP hS => ?_)
  exact x_end F hP hS hr hk rfl (Nat.le_of_ble_eq_true rfl) (Nat.le_of_ble_eq_true rfl) h dX9_line_19
def f_X9_tinLine (G : GT) (a1 : Int32) : Option ((Nat ⊕ Int32) × GT) := ((f_X9_isTin G a1).bind fun r1 => (if r1 = 0 then some (.inl 0, G) else (bind2 (f_X2_writeTin G a1) fun r3 G3 => some (.inr r3, G3))))
set_option maxRecDepth 100000 in
set_option maxHeartbeats 4000000 in
theorem q_X9_tinLine (l : Launch) (hst : l.stackTraces = false) (D : va_G) (Y : Nat → ClassId) (ad : Nat → Nat) (hI : Inj 90 ad) (G : GT) (a1 : Int32) (R : Nat ⊕ Int32) (G' : GT) (h : f_X9_tinLine G a1 = some (R, G')) : XWi l yX9_tinLine cX9_tinLine 2 (some .int) 9 1 D Y ad G [.ref (ad 77), .int a1] R G' := by
  refine X_of (ret := (some .int)) (by decide) (Nat.le_of_ble_eq_true rfl) (lv := [(0, .ref (ad 77)), (1, .int a1)]) rfl ?_
  intro p e s m below meth c ls F hP hK hS hr hk hex hl
  have F : Fx p c cX9_tinLine 2 s m _ RX9 D Y := F
  have hx := F.1.1
  have hb := F.1.2.1
  have hts := F.1.2.2.2.2
  have hown := F.1.2.2.2.1
  refine lv_iload_n hx hb dX9_tinLine_0 rfl (lv_at hl 1 rfl) ?_
  obtain ⟨r1, e1, h⟩ := bsome h
  refine rd_S F hP k_X9_isTin mw_724 (q_X9_isTin l D Y ad G a1 r1 e1) rfl hl.1 ⟨Nat.le_of_ble_eq_true rfl, Nat.le_of_ble_eq_true rfl⟩ (rest := []) rfl (Nat.le_of_ble_eq_true rfl) ⟨Nat.le_of_ble_eq_true rfl, Nat.le_of_ble_eq_true rfl⟩ dX9_tinLine_1 (fun o1 => ?_)
  refine xn_S F hP hK hS hex hk k_X9_needPlace mw_361 (q_X9_needPlace l hst D Y _ _ _ r1) hl.1 ⟨Nat.le_of_ble_eq_true rfl, Nat.le_of_ble_eq_true rfl, Nat.le_of_ble_eq_true rfl, Nat.le_of_ble_eq_true rfl⟩ (Nat.le_of_ble_eq_true rfl) (Nat.le_of_ble_eq_true rfl) (Nat.le_of_ble_eq_true rfl) dX9_tinLine_4 (fun c2 => ifT h c2) (fun c2 => ?_)
  have h := ifF h c2
  refine lv_aload_n hx hb dX9_tinLine_7 rfl (lv_at hl 0 rfl) ?_
  refine rC_77_7 F hP dX9_tinLine_8 ?_
  refine lv_iload_n hx hb dX9_tinLine_11 rfl (lv_at hl 1 rfl) ?_
  obtain ⟨r3, G3, e3, h⟩ := bsome2 h
  refine wr_VN F hP hS k_X2_writeTin mw_1404 82 4 rfl (wsW_get 82 (by decide)) (q_X2_writeTin l D Y ad hI G a1 r3 G3 e3) rfl hl.1 ⟨Nat.le_of_ble_eq_true rfl, Nat.le_of_ble_eq_true rfl⟩ (rest := []) rfl (Nat.le_of_ble_eq_true rfl) ⟨Nat.le_of_ble_eq_true rfl, Nat.le_of_ble_eq_true rfl⟩ dX9_tinLine_12 (fun H locs o3 hP hS => ?_)
  exact x_end F hP hS hr hk rfl (Nat.le_of_ble_eq_true rfl) (Nat.le_of_ble_eq_true rfl) h dX9_tinLine_15
def f_X9_character (G : GT) (a1 : Int32) : Option ((Nat ⊕ Int32) × GT) := ((f_X2_hasSign G a1).bind fun r1 => (if r1 = 0 then some (.inl 0, G) else ((f_X2_signAt G a1).bind fun r3 => some (.inr r3, G))))
set_option maxRecDepth 100000 in
set_option maxHeartbeats 4000000 in
theorem q_X9_character (l : Launch) (hst : l.stackTraces = false) (D : va_G) (Y : Nat → ClassId) (ad : Nat → Nat) (hI : Inj 90 ad) (G : GT) (a1 : Int32) (R : Nat ⊕ Int32) (G' : GT) (h : f_X9_character G a1 = some (R, G')) : XWi l yX9_character cX9_character 2 (some .char) 9 1 D Y ad G [.ref (ad 77), .int a1] R G' := by
  refine X_of (ret := (some .char)) (by decide) (Nat.le_of_ble_eq_true rfl) (lv := [(0, .ref (ad 77)), (1, .int a1)]) rfl ?_
  intro p e s m below meth c ls F hP hK hS hr hk hex hl
  have F : Fx p c cX9_character 2 s m _ RX9 D Y := F
  have hx := F.1.1
  have hb := F.1.2.1
  have hts := F.1.2.2.2.2
  have hown := F.1.2.2.2.1
  refine lv_aload_n hx hb dX9_character_0 rfl (lv_at hl 0 rfl) ?_
  refine rC_77_7 F hP dX9_character_1 ?_
  refine lv_iload_n hx hb dX9_character_4 rfl (lv_at hl 1 rfl) ?_
  obtain ⟨r1, e1, h⟩ := bsome h
  refine rd_VN F hP k_X2_hasSign mw_1373 82 4 rfl (wsW_get 82 (by decide)) (q_X2_hasSign l D Y ad G a1 r1 e1) rfl hl.1 ⟨Nat.le_of_ble_eq_true rfl, Nat.le_of_ble_eq_true rfl⟩ (rest := []) rfl (Nat.le_of_ble_eq_true rfl) ⟨Nat.le_of_ble_eq_true rfl, Nat.le_of_ble_eq_true rfl⟩ dX9_character_5 (fun o1 => ?_)
  refine xn_S F hP hK hS hex hk k_X9_needPlace mw_361 (q_X9_needPlace l hst D Y _ _ _ r1) hl.1 ⟨Nat.le_of_ble_eq_true rfl, Nat.le_of_ble_eq_true rfl, Nat.le_of_ble_eq_true rfl, Nat.le_of_ble_eq_true rfl⟩ (Nat.le_of_ble_eq_true rfl) (Nat.le_of_ble_eq_true rfl) (Nat.le_of_ble_eq_true rfl) dX9_character_8 (fun c2 => ifT h c2) (fun c2 => ?_)
  have h := ifF h c2
  refine lv_aload_n hx hb dX9_character_11 rfl (lv_at hl 0 rfl) ?_
  refine rC_77_7 F hP dX9_character_12 ?_
  refine lv_iload_n hx hb dX9_character_15 rfl (lv_at hl 1 rfl) ?_
  obtain ⟨r3, e3, h⟩ := bsome h
  refine rd_VN F hP k_X2_signAt mw_1378 82 4 rfl (wsW_get 82 (by decide)) (q_X2_signAt l D Y ad G a1 r3 e3) rfl hl.1 ⟨Nat.le_of_ble_eq_true rfl, Nat.le_of_ble_eq_true rfl⟩ (rest := []) rfl (Nat.le_of_ble_eq_true rfl) ⟨Nat.le_of_ble_eq_true rfl, Nat.le_of_ble_eq_true rfl⟩ dX9_character_16 (fun o3 => ?_)
  exact x_end F hP hS hr hk o3 (Nat.le_of_ble_eq_true rfl) (Nat.le_of_ble_eq_true rfl) h dX9_character_19
def f_X9_append_15 (G : GT) (a1 : Int32) (s15_0 : Int32) : Option ((Nat ⊕ Int32) × GT) := (if s15_0 = 0 then some (.inl 4, G) else (bind2 (f_X8_add G a1) fun r2 G2 => some (.inr r2, G2)))
def f_X9_append (G : GT) (a1 : Int32) : Option ((Nat ⊕ Int32) × GT) := ((f_X8_isFull G ).bind fun r3 => (if r3 = 0 then f_X9_append_15 G a1 (1 : Int32) else f_X9_append_15 G a1 (0 : Int32)))
set_option maxRecDepth 100000 in
set_option maxHeartbeats 4000000 in
theorem q_X9_append (l : Launch) (hst : l.stackTraces = false) (D : va_G) (Y : Nat → ClassId) (ad : Nat → Nat) (hI : Inj 90 ad) (G : GT) (a1 : Int32) (R : Nat ⊕ Int32) (G' : GT) (h : f_X9_append G a1 = some (R, G')) : XWi l yX9_append cX9_append 2 (some .int) 9 1 D Y ad G [.ref (ad 77), .int a1] R G' := by
  refine X_of (ret := (some .int)) (by decide) (Nat.le_of_ble_eq_true rfl) (lv := [(0, .ref (ad 77)), (1, .int a1)]) rfl ?_
  intro p e s m below meth c ls F hP hK hS hr hk hex hl
  have F : Fx p c cX9_append 2 s m _ RX9 D Y := F
  have hx := F.1.1
  have hb := F.1.2.1
  have hts := F.1.2.2.2.2
  have hown := F.1.2.2.2.1
  have key15 : ∀ (s15_0 : Int32) (G : GT) (H : Heap) (locs : List Loc), va_P D vwCl (wsC Y ad G) H → va_S (AW 90 ad) s.heap H locs → ∀ ls : Array Slot, lv_has ls 2 [(0, .ref (ad 77)), (1, .int a1)] → f_X9_append_15 G a1  s15_0 = some (R, G') → WX p l e 9 1 s m ([.ref (ad 77), .int a1] : List Value).toArray below meth c H locs 0 0 (XQi (some .int) R D (wsC Y ad G') (AW 90 ad)) (XC Int32 R D (wsC Y ad G') (AW 90 ad)) (AW 90 ad) (F0 m 15 ls [.int s15_0]) := by
    intro s15_0 G  H locs hP hS ls hl h
    refine xn_S F hP hK hS hex hk k_X9_needState mw_1458 (q_X9_needState l hst D Y _ _ _ s15_0) hl.1 ⟨Nat.le_of_ble_eq_true rfl, Nat.le_of_ble_eq_true rfl, Nat.le_of_ble_eq_true rfl, Nat.le_of_ble_eq_true rfl⟩ (Nat.le_of_ble_eq_true rfl) (Nat.le_of_ble_eq_true rfl) (Nat.le_of_ble_eq_true rfl) dX9_append_15 (fun c1 => ifT h c1) (fun c1 => ?_)
    have h := ifF h c1
    refine lv_aload_n hx hb dX9_append_18 rfl (lv_at hl 0 rfl) ?_
    refine rC_77_8 F hP dX9_append_19 ?_
    refine lv_iload_n hx hb dX9_append_22 rfl (lv_at hl 1 rfl) ?_
    obtain ⟨r2, G2, e2, h⟩ := bsome2 h
    refine wr_VN F hP hS k_X8_add mw_1478 84 9 rfl (wsW_get 84 (by decide)) (q_X8_add l D Y ad hI G a1 r2 G2 e2) rfl hl.1 ⟨Nat.le_of_ble_eq_true rfl, Nat.le_of_ble_eq_true rfl⟩ (rest := []) rfl (Nat.le_of_ble_eq_true rfl) ⟨Nat.le_of_ble_eq_true rfl, Nat.le_of_ble_eq_true rfl⟩ dX9_append_23 (fun H locs o2 hP hS => ?_)
    exact x_end F hP hS hr hk rfl (Nat.le_of_ble_eq_true rfl) (Nat.le_of_ble_eq_true rfl) h dX9_append_26
  refine lv_aload_n hx hb dX9_append_0 rfl (lv_at hl 0 rfl) ?_
  refine rC_77_8 F hP dX9_append_1 ?_
  obtain ⟨r3, e3, h⟩ := bsome h
  refine rd_VN F hP k_X8_isFull mw_1454 84 9 rfl (wsW_get 84 (by decide)) (q_X8_isFull l D Y ad G  r3 e3) rfl hl.1 ⟨Nat.le_of_ble_eq_true rfl, Nat.le_of_ble_eq_true rfl⟩ (rest := []) rfl (Nat.le_of_ble_eq_true rfl) ⟨Nat.le_of_ble_eq_true rfl, Nat.le_of_ble_eq_true rfl⟩ dX9_append_4 (fun o3 => ?_)
  refine lv_if_ne (tgt := 14) hx hb dX9_append_7 (by decide) (fun c4 => ?_) (fun c4 => ?_)
  · have h := ifF h c4
    refine lv_iconst (v := 0) hx hb dX9_append_14 (by decide) ?_
    exact key15 (0 : Int32) G _ _ hP hS ls (lv_sub hl [0, 1] rfl) h
  · have h := ifT h c4
    refine lv_iconst (v := 1) hx hb dX9_append_10 (by decide) ?_
    refine lv_goto (tgt := 15) hx hb dX9_append_11 (by decide) ?_
    exact key15 (1 : Int32) G _ _ hP hS ls (lv_sub hl [0, 1] rfl) h
def f_X9_run_63 (G : GT) (s63_0 : Int32) : Option ((Nat ⊕ Int32) × GT) := (if s63_0 = 0 then some (.inl 1, G) else ((f_X0_keep G 2).bind fun G2 => ((f_X8_countOfOrders G2 ).bind fun r3 => some (.inr r3, G2))))
def f_X9_run_51 (G : GT) (x1 : Int32) (s51_0 : Int32) : Option ((Nat ⊕ Int32) × GT) := (if s51_0 = 0 then some (.inl 2, G) else (if x1 = 0 then f_X9_run_63 G (1 : Int32) else f_X9_run_63 G (0 : Int32)))
def f_X9_run_41 (G : GT) (x1 : Int32) : Option ((Nat ⊕ Int32) × GT) := (if x1 = (3 : Int32) then f_X9_run_51 G x1 (0 : Int32) else f_X9_run_51 G x1 (1 : Int32))
def f_X9_run (G : GT) : Option ((Nat ⊕ Int32) × GT) := (bind2 (f_X8_read G ) fun r7 G7 => (if r7 = 0 then some (.inl 1, G7) else ((f_X5_become G7 2 0).bind fun G9 => (bind2 (f_X9_carryOutText G9 ) fun r10 G10 => (if r10 = 0 then f_X9_run_41 G10 r10 else ((f_X5_become G10 0 2).bind fun G12 => f_X9_run_41 G12 r10))))))
set_option maxRecDepth 100000 in
set_option maxHeartbeats 4000000 in
theorem q_X9_run (l : Launch) (hst : l.stackTraces = false) (D : va_G) (Y : Nat → ClassId) (ad : Nat → Nat) (hI : Inj 90 ad) (G : GT) (R : Nat ⊕ Int32) (G' : GT) (h : f_X9_run G  = some (R, G')) : XWi l yX9_run cX9_run 2 (some .int) 9 3 D Y ad G [.ref (ad 77)] R G' := by
  refine X_of (ret := (some .int)) (by decide) (Nat.le_of_ble_eq_true rfl) (lv := [(0, .ref (ad 77))]) rfl ?_
  intro p e s m below meth c ls F hP hK hS hr hk hex hl
  have F : Fx p c cX9_run 2 s m _ RX9 D Y := F
  have hx := F.1.1
  have hb := F.1.2.1
  have hts := F.1.2.2.2.2
  have hown := F.1.2.2.2.1
  have key63 : ∀ (s63_0 : Int32) (G : GT) (H : Heap) (locs : List Loc), va_P D vwCl (wsC Y ad G) H → va_S (AW 90 ad) s.heap H locs → ∀ ls : Array Slot, lv_has ls 2 [(0, .ref (ad 77))] → f_X9_run_63 G   s63_0 = some (R, G') → WX p l e 9 3 s m ([.ref (ad 77)] : List Value).toArray below meth c H locs 2 12 (XQi (some .int) R D (wsC Y ad G') (AW 90 ad)) (XC Int32 R D (wsC Y ad G') (AW 90 ad)) (AW 90 ad) (F0 m 63 ls [.int s63_0]) := by
    intro s63_0 G  H locs hP hS ls hl h
    refine xn_S F hP hK hS hex hk k_X9_needRange mw_436 (q_X9_needRange l hst D Y _ _ _ s63_0) hl.1 ⟨Nat.le_of_ble_eq_true rfl, Nat.le_of_ble_eq_true rfl, Nat.le_of_ble_eq_true rfl, Nat.le_of_ble_eq_true rfl⟩ (Nat.le_of_ble_eq_true rfl) (Nat.le_of_ble_eq_true rfl) (Nat.le_of_ble_eq_true rfl) dX9_run_63 (fun c1 => ifT h c1) (fun c1 => ?_)
    have h := ifF h c1
    refine lv_aload_n hx hb dX9_run_66 rfl (lv_at hl 0 rfl) ?_
    refine rC_77_9 F hP dX9_run_67 ?_
    refine lv_aload_n hx hb dX9_run_70 rfl (lv_at hl 0 rfl) ?_
    refine rC_77_2 F hP dX9_run_71 ?_
    obtain ⟨G2, e2, h⟩ := bsome h
    refine wv_VN F hP hS k_X0_keep mw_474 88 2 rfl (wsW_get 88 (by decide)) (q_X0_keep l D Y ad hI G 2 (by decide) G2 e2) rfl hl.1 ⟨Nat.le_of_ble_eq_true rfl, Nat.le_of_ble_eq_true rfl⟩ (rest := []) rfl (Nat.le_of_ble_eq_true rfl) ⟨Nat.le_of_ble_eq_true rfl, Nat.le_of_ble_eq_true rfl⟩ dX9_run_74 (fun H locs hP hS => ?_)
    refine lv_aload_n hx hb dX9_run_77 rfl (lv_at hl 0 rfl) ?_
    refine rC_77_8 F hP dX9_run_78 ?_
    obtain ⟨r3, e3, h⟩ := bsome h
    refine rd_VN F hP k_X8_countOfOrders mw_1537 84 9 rfl (wsW_get 84 (by decide)) (q_X8_countOfOrders l D Y ad G2  r3 e3) rfl hl.1 ⟨Nat.le_of_ble_eq_true rfl, Nat.le_of_ble_eq_true rfl⟩ (rest := []) rfl (Nat.le_of_ble_eq_true rfl) ⟨Nat.le_of_ble_eq_true rfl, Nat.le_of_ble_eq_true rfl⟩ dX9_run_81 (fun o3 => ?_)
    exact x_end F hP hS hr hk rfl (Nat.le_of_ble_eq_true rfl) (Nat.le_of_ble_eq_true rfl) h dX9_run_84
  have key51 : ∀ (x1 : Int32) (s51_0 : Int32) (G : GT) (H : Heap) (locs : List Loc), va_P D vwCl (wsC Y ad G) H → va_S (AW 90 ad) s.heap H locs → ∀ ls : Array Slot, lv_has ls 2 [(0, .ref (ad 77)), (1, .int x1)] → f_X9_run_51 G   x1 s51_0 = some (R, G') → WX p l e 9 3 s m ([.ref (ad 77)] : List Value).toArray below meth c H locs 1 6 (XQi (some .int) R D (wsC Y ad G') (AW 90 ad)) (XC Int32 R D (wsC Y ad G') (AW 90 ad)) (AW 90 ad) (F0 m 51 ls [.int s51_0]) := by
    intro x1 s51_0 G  H locs hP hS ls hl h
    refine xn_S F hP hK hS hex hk k_X9_needConsent mw_455 (q_X9_needConsent l hst D Y _ _ _ s51_0) hl.1 ⟨Nat.le_of_ble_eq_true rfl, Nat.le_of_ble_eq_true rfl, Nat.le_of_ble_eq_true rfl, Nat.le_of_ble_eq_true rfl⟩ (Nat.le_of_ble_eq_true rfl) (Nat.le_of_ble_eq_true rfl) (Nat.le_of_ble_eq_true rfl) dX9_run_51 (fun c4 => ifT h c4) (fun c4 => ?_)
    have h := ifF h c4
    refine lv_iload_n hx hb dX9_run_54 rfl (lv_at hl 1 rfl) ?_
    refine lv_if_ne (tgt := 62) hx hb dX9_run_55 (by decide) (fun c5 => ?_) (fun c5 => ?_)
    · have h := ifF h c5
      refine lv_iconst (v := 0) hx hb dX9_run_62 (by decide) ?_
      exact key63 (0 : Int32) G _ _ hP hS ls (lv_sub hl [0] rfl) h
    · have h := ifT h c5
      refine lv_iconst (v := 1) hx hb dX9_run_58 (by decide) ?_
      refine lv_goto (tgt := 63) hx hb dX9_run_59 (by decide) ?_
      exact key63 (1 : Int32) G _ _ hP hS ls (lv_sub hl [0] rfl) h
  have key41 : ∀ (x1 : Int32) (G : GT) (H : Heap) (locs : List Loc), va_P D vwCl (wsC Y ad G) H → va_S (AW 90 ad) s.heap H locs → ∀ ls : Array Slot, lv_has ls 2 [(0, .ref (ad 77)), (1, .int x1)] → f_X9_run_41 G   x1 = some (R, G') → WX p l e 9 3 s m ([.ref (ad 77)] : List Value).toArray below meth c H locs 1 6 (XQi (some .int) R D (wsC Y ad G') (AW 90 ad)) (XC Int32 R D (wsC Y ad G') (AW 90 ad)) (AW 90 ad) (F0 m 41 ls []) := by
    intro x1 G  H locs hP hS ls hl h
    refine lv_iload_n hx hb dX9_run_41 rfl (lv_at hl 1 rfl) ?_
    refine lv_iconst (v := 3) hx hb dX9_run_42 (by decide) ?_
    refine lv_icmp_eq (tgt := 50) hx hb dX9_run_43 (by decide) (fun c6 => ?_) (fun c6 => ?_)
    · have h := ifT h c6
      refine lv_iconst (v := 0) hx hb dX9_run_50 (by decide) ?_
      exact key51 x1 (0 : Int32) G _ _ hP hS ls (lv_sub hl [0, 1] rfl) h
    · have h := ifF h c6
      refine lv_iconst (v := 1) hx hb dX9_run_46 (by decide) ?_
      refine lv_goto (tgt := 51) hx hb dX9_run_47 (by decide) ?_
      exact key51 x1 (1 : Int32) G _ _ hP hS ls (lv_sub hl [0, 1] rfl) h
  refine lv_aload_n hx hb dX9_run_0 rfl (lv_at hl 0 rfl) ?_
  refine rC_77_8 F hP dX9_run_1 ?_
  obtain ⟨r7, G7, e7, h⟩ := bsome2 h
  refine wk_VN F hP hK hS (fun _ h => h) k_X8_read mw_1489 84 9 rfl (wsW_get 84 (by decide)) (q_X8_read l D Y ad hI G   r7 G7 e7) rfl hl.1 ⟨Nat.le_of_ble_eq_true rfl, Nat.le_of_ble_eq_true rfl⟩ (rest := []) rfl (Nat.le_of_ble_eq_true rfl) ⟨Nat.le_of_ble_eq_true rfl, Nat.le_of_ble_eq_true rfl⟩ dX9_run_4 (fun H locs o7 hP hS => ?_)
  refine xn_S F hP hK hS hex hk k_X9_needRange mw_436 (q_X9_needRange l hst D Y _ _ _ r7) hl.1 ⟨Nat.le_of_ble_eq_true rfl, Nat.le_of_ble_eq_true rfl, Nat.le_of_ble_eq_true rfl, Nat.le_of_ble_eq_true rfl⟩ (Nat.le_of_ble_eq_true rfl) (Nat.le_of_ble_eq_true rfl) (Nat.le_of_ble_eq_true rfl) dX9_run_7 (fun c8 => ifT h c8) (fun c8 => ?_)
  have h := ifF h c8
  refine lv_aload_n hx hb dX9_run_10 rfl (lv_at hl 0 rfl) ?_
  refine rC_77_2 F hP dX9_run_11 ?_
  refine lv_aload_n hx hb dX9_run_14 rfl (lv_at hl 0 rfl) ?_
  refine rC_77_0 F hP dX9_run_15 ?_
  obtain ⟨G9, e9, h⟩ := bsome h
  refine wv_VN F hP hS k_X5_become mw_1532 14 6 rfl (wsW_get 14 (by decide)) (q_X5_become l D Y ad hI G7 2 0 (by decide) (by decide) G9 e9) rfl hl.1 ⟨Nat.le_of_ble_eq_true rfl, Nat.le_of_ble_eq_true rfl⟩ (rest := []) rfl (Nat.le_of_ble_eq_true rfl) ⟨Nat.le_of_ble_eq_true rfl, Nat.le_of_ble_eq_true rfl⟩ dX9_run_18 (fun H locs hP hS => ?_)
  refine lv_aload_n hx hb dX9_run_21 rfl (lv_at hl 0 rfl) ?_
  obtain ⟨r10, G10, e10, h⟩ := bsome2 h
  refine wk_V F hP hK hS k_X9_carryOutText mw_1533 77 10 rfl (wsW_get 77 (by decide)) (q_X9_carryOutText l D Y ad hI G9   r10 G10 e10) rfl hl.1 ⟨Nat.le_of_ble_eq_true rfl, Nat.le_of_ble_eq_true rfl⟩ (rest := []) rfl (Nat.le_of_ble_eq_true rfl) ⟨Nat.le_of_ble_eq_true rfl, Nat.le_of_ble_eq_true rfl⟩ dX9_run_22 (fun H locs o10 hP hS => ?_)
  refine lv_istore_n (lv' := [(1, .int r10), (0, .ref (ad 77))]) hx hb dX9_run_25 rfl hl (by decide) rfl (fun ls hl => ?_)
  refine lv_iload_n hx hb dX9_run_26 rfl (lv_at hl 0 rfl) ?_
  refine lv_if_eq (tgt := 41) hx hb dX9_run_27 (by decide) (fun c11 => ?_) (fun c11 => ?_)
  · have h := ifT h c11
    exact key41 r10 G10 _ _ hP hS ls (lv_sub hl [1, 0] rfl) h
  · have h := ifF h c11
    refine lv_aload_n hx hb dX9_run_30 rfl (lv_at hl 1 rfl) ?_
    refine rC_77_0 F hP dX9_run_31 ?_
    refine lv_aload_n hx hb dX9_run_34 rfl (lv_at hl 1 rfl) ?_
    refine rC_77_2 F hP dX9_run_35 ?_
    obtain ⟨G12, e12, h⟩ := bsome h
    refine wv_VN F hP hS k_X5_become mw_1532 0 6 rfl (wsW_get 0 (by decide)) (q_X5_become l D Y ad hI G10 0 2 (by decide) (by decide) G12 e12) rfl hl.1 ⟨Nat.le_of_ble_eq_true rfl, Nat.le_of_ble_eq_true rfl⟩ (rest := []) rfl (Nat.le_of_ble_eq_true rfl) ⟨Nat.le_of_ble_eq_true rfl, Nat.le_of_ble_eq_true rfl⟩ dX9_run_38 (fun H locs hP hS => ?_)
    exact key41 r10 G12 _ _ hP hS ls (lv_sub hl [1, 0] rfl) h
def f_X9_refusal (G : GT) (a1 : Int32) : Option ((Nat ⊕ Int32) × GT) := ((f_X1_hasRefused G ).bind fun r1 => (if r1 = 0 then some (.inl 3, G) else (if a1 = 0 then ((f_X1_latestReason G ).bind fun r4 => some (.inr r4, G)) else ((f_X1_latestDetail G ).bind fun r5 => some (.inr r5, G)))))
set_option maxRecDepth 100000 in
set_option maxHeartbeats 4000000 in
theorem q_X9_refusal (l : Launch) (hst : l.stackTraces = false) (D : va_G) (Y : Nat → ClassId) (ad : Nat → Nat) (hI : Inj 90 ad) (G : GT) (a1 : Int32) (R : Nat ⊕ Int32) (G' : GT) (h : f_X9_refusal G a1 = some (R, G')) : XWi l yX9_refusal cX9_refusal 2 (some .int) 9 1 D Y ad G [.ref (ad 77), .int a1] R G' := by
  refine X_of (ret := (some .int)) (by decide) (Nat.le_of_ble_eq_true rfl) (lv := [(0, .ref (ad 77)), (1, .int a1)]) rfl ?_
  intro p e s m below meth c ls F hP hK hS hr hk hex hl
  have F : Fx p c cX9_refusal 2 s m _ RX9 D Y := F
  have hx := F.1.1
  have hb := F.1.2.1
  have hts := F.1.2.2.2.2
  have hown := F.1.2.2.2.1
  refine lv_aload_n hx hb dX9_refusal_0 rfl (lv_at hl 0 rfl) ?_
  refine rC_77_3 F hP dX9_refusal_1 ?_
  obtain ⟨r1, e1, h⟩ := bsome h
  refine rd_VN F hP k_X1_hasRefused mw_590 78 3 rfl (wsW_get 78 (by decide)) (q_X1_hasRefused l D Y ad G  r1 e1) rfl hl.1 ⟨Nat.le_of_ble_eq_true rfl, Nat.le_of_ble_eq_true rfl⟩ (rest := []) rfl (Nat.le_of_ble_eq_true rfl) ⟨Nat.le_of_ble_eq_true rfl, Nat.le_of_ble_eq_true rfl⟩ dX9_refusal_4 (fun o1 => ?_)
  refine xn_S F hP hK hS hex hk k_X9_needElement mw_594 (q_X9_needElement l hst D Y _ _ _ r1) hl.1 ⟨Nat.le_of_ble_eq_true rfl, Nat.le_of_ble_eq_true rfl, Nat.le_of_ble_eq_true rfl, Nat.le_of_ble_eq_true rfl⟩ (Nat.le_of_ble_eq_true rfl) (Nat.le_of_ble_eq_true rfl) (Nat.le_of_ble_eq_true rfl) dX9_refusal_7 (fun c2 => ifT h c2) (fun c2 => ?_)
  have h := ifF h c2
  refine lv_iload_n hx hb dX9_refusal_10 rfl (lv_at hl 1 rfl) ?_
  refine lv_if_eq (tgt := 24) hx hb dX9_refusal_11 (by decide) (fun c3 => ?_) (fun c3 => ?_)
  · have h := ifT h c3
    refine lv_aload_n hx hb dX9_refusal_24 rfl (lv_at hl 0 rfl) ?_
    refine rC_77_3 F hP dX9_refusal_25 ?_
    obtain ⟨r4, e4, h⟩ := bsome h
    refine rd_VN F hP k_X1_latestReason mw_617 78 3 rfl (wsW_get 78 (by decide)) (q_X1_latestReason l D Y ad G  r4 e4) rfl hl.1 ⟨Nat.le_of_ble_eq_true rfl, Nat.le_of_ble_eq_true rfl⟩ (rest := []) rfl (Nat.le_of_ble_eq_true rfl) ⟨Nat.le_of_ble_eq_true rfl, Nat.le_of_ble_eq_true rfl⟩ dX9_refusal_28 (fun o4 => ?_)
    exact x_end F hP hS hr hk rfl (Nat.le_of_ble_eq_true rfl) (Nat.le_of_ble_eq_true rfl) h dX9_refusal_31
  · have h := ifF h c3
    refine lv_aload_n hx hb dX9_refusal_14 rfl (lv_at hl 0 rfl) ?_
    refine rC_77_3 F hP dX9_refusal_15 ?_
    obtain ⟨r5, e5, h⟩ := bsome h
    refine rd_VN F hP k_X1_latestDetail mw_613 78 3 rfl (wsW_get 78 (by decide)) (q_X1_latestDetail l D Y ad G  r5 e5) rfl hl.1 ⟨Nat.le_of_ble_eq_true rfl, Nat.le_of_ble_eq_true rfl⟩ (rest := []) rfl (Nat.le_of_ble_eq_true rfl) ⟨Nat.le_of_ble_eq_true rfl, Nat.le_of_ble_eq_true rfl⟩ dX9_refusal_18 (fun o5 => ?_)
    refine lv_goto (tgt := 31) hx hb dX9_refusal_21 (by decide) ?_
    exact x_end F hP hS hr hk rfl (Nat.le_of_ble_eq_true rfl) (Nat.le_of_ble_eq_true rfl) h dX9_refusal_31
def f_X9_account (G : GT) (a1 : Int32) : Option ((Nat ⊕ Int32) × GT) := ((f_X9_isWithin G a1 (0 : Int32) (11 : Int32)).bind fun r1 => (if r1 = 0 then some (.inl 1, G) else (if a1 = 0 then ((f_X5_countOfBars G ).bind fun r4 => some (.inr r4, G)) else (if a1 = 1 then ((f_X5_allBeats G ).bind fun r6 => some (.inr r6, G)) else (if a1 = 2 then ((f_X5_filledBeats G ).bind fun r8 => some (.inr r8, G)) else (if a1 = 3 then ((f_X5_countOfSounds G ).bind fun r10 => some (.inr r10, G)) else (if a1 = 4 then ((f_X5_countOfSounds G ).bind fun r12 => ((f_X5_countOfRests G ).bind fun r13 => some (.inr (r12 - r13), G))) else (if a1 = 5 then ((f_X5_countOfRests G ).bind fun r15 => some (.inr r15, G)) else (if a1 = 6 then ((f_X5_allParts G ).bind fun r17 => some (.inr r17, G)) else (if a1 = 7 then ((f_X5_limitNow G ).bind fun r19 => some (.inr r19, G)) else (if a1 = 8 then ((f_X5_setSoFar G ).bind fun r21 => some (.inr r21, G)) else (if a1 = 9 then ((f_X5_takenSoFar G ).bind fun r23 => some (.inr r23, G)) else (if a1 = 10 then ((f_X8_countOfSigns G ).bind fun r25 => some (.inr r25, G)) else ((f_X0_countOfChanges G ).bind fun r26 => some (.inr r26, G)))))))))))))))
set_option maxRecDepth 100000 in
set_option maxHeartbeats 4000000 in
theorem q_X9_account (l : Launch) (hst : l.stackTraces = false) (D : va_G) (Y : Nat → ClassId) (ad : Nat → Nat) (hI : Inj 90 ad) (G : GT) (a1 : Int32) (R : Nat ⊕ Int32) (G' : GT) (h : f_X9_account G a1 = some (R, G')) : XWi l yX9_account cX9_account 2 (some .int) 9 1 D Y ad G [.ref (ad 77), .int a1] R G' := by
  refine X_of (ret := (some .int)) (by decide) (Nat.le_of_ble_eq_true rfl) (lv := [(0, .ref (ad 77)), (1, .int a1)]) rfl ?_
  intro p e s m below meth c ls F hP hK hS hr hk hex hl
  have F : Fx p c cX9_account 2 s m _ RX9 D Y := F
  have hx := F.1.1
  have hb := F.1.2.1
  have hts := F.1.2.2.2.2
  have hown := F.1.2.2.2.1
  refine lv_iload_n hx hb dX9_account_0 rfl (lv_at hl 1 rfl) ?_
  refine lv_iconst (v := 0) hx hb dX9_account_1 (by decide) ?_
  refine lv_bipush (v := 11) hx hb dX9_account_2 (by decide) ?_
  obtain ⟨r1, e1, h⟩ := bsome h
  refine rd_S F hP k_X9_isWithin mw_287 (q_X9_isWithin l D Y ad G a1 (0 : Int32) (11 : Int32) r1 e1) rfl hl.1 ⟨Nat.le_of_ble_eq_true rfl, Nat.le_of_ble_eq_true rfl⟩ (rest := []) rfl (Nat.le_of_ble_eq_true rfl) ⟨Nat.le_of_ble_eq_true rfl, Nat.le_of_ble_eq_true rfl⟩ dX9_account_4 (fun o1 => ?_)
  refine xn_S F hP hK hS hex hk k_X9_needRange mw_436 (q_X9_needRange l hst D Y _ _ _ r1) hl.1 ⟨Nat.le_of_ble_eq_true rfl, Nat.le_of_ble_eq_true rfl, Nat.le_of_ble_eq_true rfl, Nat.le_of_ble_eq_true rfl⟩ (Nat.le_of_ble_eq_true rfl) (Nat.le_of_ble_eq_true rfl) (Nat.le_of_ble_eq_true rfl) dX9_account_7 (fun c2 => ifT h c2) (fun c2 => ?_)
  have h := ifF h c2
  refine lv_iload_n hx hb dX9_account_10 rfl (lv_at hl 1 rfl) ?_
  by_cases c3 : a1 = 0
  · have h := ifT h c3
    refine lv_tableIn (off := 57) (tgt := 68) hx hb dX9_account_11 (by rw [c3]; decide) (by rw [c3]; decide) (by rw [c3]; rfl) (by decide) ?_
    refine lv_aload_n hx hb dX9_account_68 rfl (lv_at hl 0 rfl) ?_
    refine rC_77_0 F hP dX9_account_69 ?_
    obtain ⟨r4, e4, h⟩ := bsome h
    refine rd_VN F hP k_X5_countOfBars mw_625 0 6 rfl (wsW_get 0 (by decide)) (q_X5_countOfBars l D Y ad G  r4 e4) rfl hl.1 ⟨Nat.le_of_ble_eq_true rfl, Nat.le_of_ble_eq_true rfl⟩ (rest := []) rfl (Nat.le_of_ble_eq_true rfl) ⟨Nat.le_of_ble_eq_true rfl, Nat.le_of_ble_eq_true rfl⟩ dX9_account_72 (fun o4 => ?_)
    exact x_end F hP hS hr hk rfl (Nat.le_of_ble_eq_true rfl) (Nat.le_of_ble_eq_true rfl) h dX9_account_75
  have h := ifF h c3
  by_cases c5 : a1 = 1
  · have h := ifT h c5
    refine lv_tableIn (off := 65) (tgt := 76) hx hb dX9_account_11 (by rw [c5]; decide) (by rw [c5]; decide) (by rw [c5]; rfl) (by decide) ?_
    refine lv_aload_n hx hb dX9_account_76 rfl (lv_at hl 0 rfl) ?_
    refine rC_77_0 F hP dX9_account_77 ?_
    obtain ⟨r6, e6, h⟩ := bsome h
    refine rd_VN F hP k_X5_allBeats mw_626 0 6 rfl (wsW_get 0 (by decide)) (q_X5_allBeats l D Y ad G  r6 e6) rfl hl.1 ⟨Nat.le_of_ble_eq_true rfl, Nat.le_of_ble_eq_true rfl⟩ (rest := []) rfl (Nat.le_of_ble_eq_true rfl) ⟨Nat.le_of_ble_eq_true rfl, Nat.le_of_ble_eq_true rfl⟩ dX9_account_80 (fun o6 => ?_)
    exact x_end F hP hS hr hk rfl (Nat.le_of_ble_eq_true rfl) (Nat.le_of_ble_eq_true rfl) h dX9_account_83
  have h := ifF h c5
  by_cases c7 : a1 = 2
  · have h := ifT h c7
    refine lv_tableIn (off := 73) (tgt := 84) hx hb dX9_account_11 (by rw [c7]; decide) (by rw [c7]; decide) (by rw [c7]; rfl) (by decide) ?_
    refine lv_aload_n hx hb dX9_account_84 rfl (lv_at hl 0 rfl) ?_
    refine rC_77_0 F hP dX9_account_85 ?_
    obtain ⟨r8, e8, h⟩ := bsome h
    refine rd_VN F hP k_X5_filledBeats mw_630 0 6 rfl (wsW_get 0 (by decide)) (q_X5_filledBeats l D Y ad G  r8 e8) rfl hl.1 ⟨Nat.le_of_ble_eq_true rfl, Nat.le_of_ble_eq_true rfl⟩ (rest := []) rfl (Nat.le_of_ble_eq_true rfl) ⟨Nat.le_of_ble_eq_true rfl, Nat.le_of_ble_eq_true rfl⟩ dX9_account_88 (fun o8 => ?_)
    exact x_end F hP hS hr hk rfl (Nat.le_of_ble_eq_true rfl) (Nat.le_of_ble_eq_true rfl) h dX9_account_91
  have h := ifF h c7
  by_cases c9 : a1 = 3
  · have h := ifT h c9
    refine lv_tableIn (off := 81) (tgt := 92) hx hb dX9_account_11 (by rw [c9]; decide) (by rw [c9]; decide) (by rw [c9]; rfl) (by decide) ?_
    refine lv_aload_n hx hb dX9_account_92 rfl (lv_at hl 0 rfl) ?_
    refine rC_77_0 F hP dX9_account_93 ?_
    obtain ⟨r10, e10, h⟩ := bsome h
    refine rd_VN F hP k_X5_countOfSounds mw_634 0 6 rfl (wsW_get 0 (by decide)) (q_X5_countOfSounds l D Y ad G  r10 e10) rfl hl.1 ⟨Nat.le_of_ble_eq_true rfl, Nat.le_of_ble_eq_true rfl⟩ (rest := []) rfl (Nat.le_of_ble_eq_true rfl) ⟨Nat.le_of_ble_eq_true rfl, Nat.le_of_ble_eq_true rfl⟩ dX9_account_96 (fun o10 => ?_)
    exact x_end F hP hS hr hk rfl (Nat.le_of_ble_eq_true rfl) (Nat.le_of_ble_eq_true rfl) h dX9_account_99
  have h := ifF h c9
  by_cases c11 : a1 = 4
  · have h := ifT h c11
    refine lv_tableIn (off := 89) (tgt := 100) hx hb dX9_account_11 (by rw [c11]; decide) (by rw [c11]; decide) (by rw [c11]; rfl) (by decide) ?_
    refine lv_aload_n hx hb dX9_account_100 rfl (lv_at hl 0 rfl) ?_
    refine rC_77_0 F hP dX9_account_101 ?_
    obtain ⟨r12, e12, h⟩ := bsome h
    refine rd_VN F hP k_X5_countOfSounds mw_634 0 6 rfl (wsW_get 0 (by decide)) (q_X5_countOfSounds l D Y ad G  r12 e12) rfl hl.1 ⟨Nat.le_of_ble_eq_true rfl, Nat.le_of_ble_eq_true rfl⟩ (rest := []) rfl (Nat.le_of_ble_eq_true rfl) ⟨Nat.le_of_ble_eq_true rfl, Nat.le_of_ble_eq_true rfl⟩ dX9_account_104 (fun o12 => ?_)
    refine lv_aload_n hx hb dX9_account_107 rfl (lv_at hl 0 rfl) ?_
    refine rC_77_0 F hP dX9_account_108 ?_
    obtain ⟨r13, e13, h⟩ := bsome h
    refine rd_VN F hP k_X5_countOfRests mw_635 0 6 rfl (wsW_get 0 (by decide)) (q_X5_countOfRests l D Y ad G  r13 e13) rfl hl.1 ⟨Nat.le_of_ble_eq_true rfl, Nat.le_of_ble_eq_true rfl⟩ (rest := [.int r12]) rfl (Nat.le_of_ble_eq_true rfl) ⟨Nat.le_of_ble_eq_true rfl, Nat.le_of_ble_eq_true rfl⟩ dX9_account_111 (fun o13 => ?_)
    refine lv_isub hx hb dX9_account_114 ?_
    exact x_end F hP hS hr hk rfl (Nat.le_of_ble_eq_true rfl) (Nat.le_of_ble_eq_true rfl) h dX9_account_115
  have h := ifF h c11
  by_cases c14 : a1 = 5
  · have h := ifT h c14
    refine lv_tableIn (off := 105) (tgt := 116) hx hb dX9_account_11 (by rw [c14]; decide) (by rw [c14]; decide) (by rw [c14]; rfl) (by decide) ?_
    refine lv_aload_n hx hb dX9_account_116 rfl (lv_at hl 0 rfl) ?_
    refine rC_77_0 F hP dX9_account_117 ?_
    obtain ⟨r15, e15, h⟩ := bsome h
    refine rd_VN F hP k_X5_countOfRests mw_635 0 6 rfl (wsW_get 0 (by decide)) (q_X5_countOfRests l D Y ad G  r15 e15) rfl hl.1 ⟨Nat.le_of_ble_eq_true rfl, Nat.le_of_ble_eq_true rfl⟩ (rest := []) rfl (Nat.le_of_ble_eq_true rfl) ⟨Nat.le_of_ble_eq_true rfl, Nat.le_of_ble_eq_true rfl⟩ dX9_account_120 (fun o15 => ?_)
    exact x_end F hP hS hr hk rfl (Nat.le_of_ble_eq_true rfl) (Nat.le_of_ble_eq_true rfl) h dX9_account_123
  have h := ifF h c14
  by_cases c16 : a1 = 6
  · have h := ifT h c16
    refine lv_tableIn (off := 113) (tgt := 124) hx hb dX9_account_11 (by rw [c16]; decide) (by rw [c16]; decide) (by rw [c16]; rfl) (by decide) ?_
    refine lv_aload_n hx hb dX9_account_124 rfl (lv_at hl 0 rfl) ?_
    refine rC_77_0 F hP dX9_account_125 ?_
    obtain ⟨r17, e17, h⟩ := bsome h
    refine rd_VN F hP k_X5_allParts mw_640 0 6 rfl (wsW_get 0 (by decide)) (q_X5_allParts l D Y ad G  r17 e17) rfl hl.1 ⟨Nat.le_of_ble_eq_true rfl, Nat.le_of_ble_eq_true rfl⟩ (rest := []) rfl (Nat.le_of_ble_eq_true rfl) ⟨Nat.le_of_ble_eq_true rfl, Nat.le_of_ble_eq_true rfl⟩ dX9_account_128 (fun o17 => ?_)
    exact x_end F hP hS hr hk rfl (Nat.le_of_ble_eq_true rfl) (Nat.le_of_ble_eq_true rfl) h dX9_account_131
  have h := ifF h c16
  by_cases c18 : a1 = 7
  · have h := ifT h c18
    refine lv_tableIn (off := 121) (tgt := 132) hx hb dX9_account_11 (by rw [c18]; decide) (by rw [c18]; decide) (by rw [c18]; rfl) (by decide) ?_
    refine lv_aload_n hx hb dX9_account_132 rfl (lv_at hl 0 rfl) ?_
    refine rC_77_0 F hP dX9_account_133 ?_
    obtain ⟨r19, e19, h⟩ := bsome h
    refine rd_VN F hP k_X5_limitNow mw_656 0 6 rfl (wsW_get 0 (by decide)) (q_X5_limitNow l D Y ad G  r19 e19) rfl hl.1 ⟨Nat.le_of_ble_eq_true rfl, Nat.le_of_ble_eq_true rfl⟩ (rest := []) rfl (Nat.le_of_ble_eq_true rfl) ⟨Nat.le_of_ble_eq_true rfl, Nat.le_of_ble_eq_true rfl⟩ dX9_account_136 (fun o19 => ?_)
    exact x_end F hP hS hr hk rfl (Nat.le_of_ble_eq_true rfl) (Nat.le_of_ble_eq_true rfl) h dX9_account_139
  have h := ifF h c18
  by_cases c20 : a1 = 8
  · have h := ifT h c20
    refine lv_tableIn (off := 129) (tgt := 140) hx hb dX9_account_11 (by rw [c20]; decide) (by rw [c20]; decide) (by rw [c20]; rfl) (by decide) ?_
    refine lv_aload_n hx hb dX9_account_140 rfl (lv_at hl 0 rfl) ?_
    refine rC_77_0 F hP dX9_account_141 ?_
    obtain ⟨r21, e21, h⟩ := bsome h
    refine rd_VN F hP k_X5_setSoFar mw_657 0 6 rfl (wsW_get 0 (by decide)) (q_X5_setSoFar l D Y ad G  r21 e21) rfl hl.1 ⟨Nat.le_of_ble_eq_true rfl, Nat.le_of_ble_eq_true rfl⟩ (rest := []) rfl (Nat.le_of_ble_eq_true rfl) ⟨Nat.le_of_ble_eq_true rfl, Nat.le_of_ble_eq_true rfl⟩ dX9_account_144 (fun o21 => ?_)
    exact x_end F hP hS hr hk rfl (Nat.le_of_ble_eq_true rfl) (Nat.le_of_ble_eq_true rfl) h dX9_account_147
  have h := ifF h c20
  by_cases c22 : a1 = 9
  · have h := ifT h c22
    refine lv_tableIn (off := 137) (tgt := 148) hx hb dX9_account_11 (by rw [c22]; decide) (by rw [c22]; decide) (by rw [c22]; rfl) (by decide) ?_
    refine lv_aload_n hx hb dX9_account_148 rfl (lv_at hl 0 rfl) ?_
    refine rC_77_0 F hP dX9_account_149 ?_
    obtain ⟨r23, e23, h⟩ := bsome h
    refine rd_VN F hP k_X5_takenSoFar mw_661 0 6 rfl (wsW_get 0 (by decide)) (q_X5_takenSoFar l D Y ad G  r23 e23) rfl hl.1 ⟨Nat.le_of_ble_eq_true rfl, Nat.le_of_ble_eq_true rfl⟩ (rest := []) rfl (Nat.le_of_ble_eq_true rfl) ⟨Nat.le_of_ble_eq_true rfl, Nat.le_of_ble_eq_true rfl⟩ dX9_account_152 (fun o23 => ?_)
    exact x_end F hP hS hr hk rfl (Nat.le_of_ble_eq_true rfl) (Nat.le_of_ble_eq_true rfl) h dX9_account_155
  have h := ifF h c22
  by_cases c24 : a1 = 10
  · have h := ifT h c24
    refine lv_tableIn (off := 145) (tgt := 156) hx hb dX9_account_11 (by rw [c24]; decide) (by rw [c24]; decide) (by rw [c24]; rfl) (by decide) ?_
    refine lv_aload_n hx hb dX9_account_156 rfl (lv_at hl 0 rfl) ?_
    refine rC_77_8 F hP dX9_account_157 ?_
    obtain ⟨r25, e25, h⟩ := bsome h
    refine rd_VN F hP k_X8_countOfSigns mw_665 84 9 rfl (wsW_get 84 (by decide)) (q_X8_countOfSigns l D Y ad G  r25 e25) rfl hl.1 ⟨Nat.le_of_ble_eq_true rfl, Nat.le_of_ble_eq_true rfl⟩ (rest := []) rfl (Nat.le_of_ble_eq_true rfl) ⟨Nat.le_of_ble_eq_true rfl, Nat.le_of_ble_eq_true rfl⟩ dX9_account_160 (fun o25 => ?_)
    exact x_end F hP hS hr hk rfl (Nat.le_of_ble_eq_true rfl) (Nat.le_of_ble_eq_true rfl) h dX9_account_163
  have h := ifF h c24
  refine lv_tableOut (tgt := 164) hx hb dX9_account_11 (by have nc3 := lv_neT c3 (a := 0) (by decide); have nc5 := lv_neT c5 (a := 1) (by decide); have nc7 := lv_neT c7 (a := 2) (by decide); have nc9 := lv_neT c9 (a := 3) (by decide); have nc11 := lv_neT c11 (a := 4) (by decide); have nc14 := lv_neT c14 (a := 5) (by decide); have nc16 := lv_neT c16 (a := 6) (by decide); have nc18 := lv_neT c18 (a := 7) (by decide); have nc20 := lv_neT c20 (a := 8) (by decide); have nc22 := lv_neT c22 (a := 9) (by decide); have nc24 := lv_neT c24 (a := 10) (by decide); omega) (by decide) ?_
  refine lv_aload_n hx hb dX9_account_164 rfl (lv_at hl 0 rfl) ?_
  refine rC_77_9 F hP dX9_account_165 ?_
  obtain ⟨r26, e26, h⟩ := bsome h
  refine rd_VN F hP k_X0_countOfChanges mw_669 88 2 rfl (wsW_get 88 (by decide)) (q_X0_countOfChanges l D Y ad G  r26 e26) rfl hl.1 ⟨Nat.le_of_ble_eq_true rfl, Nat.le_of_ble_eq_true rfl⟩ (rest := []) rfl (Nat.le_of_ble_eq_true rfl) ⟨Nat.le_of_ble_eq_true rfl, Nat.le_of_ble_eq_true rfl⟩ dX9_account_168 (fun o26 => ?_)
  exact x_end F hP hS hr hk rfl (Nat.le_of_ble_eq_true rfl) (Nat.le_of_ble_eq_true rfl) h dX9_account_171
def f_X9_meanPitch (G : GT) : Option ((Nat ⊕ UInt64) × GT) := ((f_X3_countOfDrops G ).bind fun r1 => (if 0 < r1 then ((f_X3_sumOfPitches G ).bind fun r3 => (if n64 (FP.ddiv (FP.i2d r3) (FP.i2d r1)) then some (.inr (FP.ddiv (FP.i2d r3) (FP.i2d r1)), G) else none)) else some (.inl 5, G)))
set_option maxRecDepth 100000 in
set_option maxHeartbeats 4000000 in
theorem q_X9_meanPitch (l : Launch) (hst : l.stackTraces = false) (D : va_G) (Y : Nat → ClassId) (ad : Nat → Nat) (hI : Inj 90 ad) (G : GT) (R : Nat ⊕ UInt64) (G' : GT) (h : f_X9_meanPitch G  = some (R, G')) : XWd l yX9_meanPitch cX9_meanPitch 2 6 1 D Y ad G [.ref (ad 77)] R G' := by
  refine X_of (ret := (some .double)) (by decide) (Nat.le_of_ble_eq_true rfl) (lv := [(0, .ref (ad 77))]) rfl ?_
  intro p e s m below meth c ls F hP hK hS hr hk hex hl
  have F : Fx p c cX9_meanPitch 2 s m _ RX9 D Y := F
  have hx := F.1.1
  have hb := F.1.2.1
  have hts := F.1.2.2.2.2
  have hown := F.1.2.2.2.1
  refine lv_aload_n hx hb dX9_meanPitch_0 rfl (lv_at hl 0 rfl) ?_
  refine rC_77_5 F hP dX9_meanPitch_1 ?_
  obtain ⟨r1, e1, h⟩ := bsome h
  refine rd_VN F hP k_X3_countOfDrops mw_980 80 5 rfl (wsW_get 80 (by decide)) (q_X3_countOfDrops l D Y ad G  r1 e1) rfl hl.1 ⟨Nat.le_of_ble_eq_true rfl, Nat.le_of_ble_eq_true rfl⟩ (rest := []) rfl (Nat.le_of_ble_eq_true rfl) ⟨Nat.le_of_ble_eq_true rfl, Nat.le_of_ble_eq_true rfl⟩ dX9_meanPitch_4 (fun o1 => ?_)
  refine lv_istore_n (lv' := [(1, .int r1), (0, .ref (ad 77))]) hx hb dX9_meanPitch_7 rfl hl (by decide) rfl (fun ls hl => ?_)
  refine lv_iload_n hx hb dX9_meanPitch_8 rfl (lv_at hl 0 rfl) ?_
  refine lv_if_gt (tgt := 23) hx hb dX9_meanPitch_9 (by decide) (fun c2 => ?_) (fun c2 => ?_)
  · have h := ifT h c2
    refine lv_aload_n hx hb dX9_meanPitch_23 rfl (lv_at hl 1 rfl) ?_
    refine rC_77_5 F hP dX9_meanPitch_24 ?_
    obtain ⟨r3, e3, h⟩ := bsome h
    refine rd_VN F hP k_X3_sumOfPitches mw_1001 80 5 rfl (wsW_get 80 (by decide)) (q_X3_sumOfPitches l D Y ad G  r3 e3) rfl hl.1 ⟨Nat.le_of_ble_eq_true rfl, Nat.le_of_ble_eq_true rfl⟩ (rest := []) rfl (Nat.le_of_ble_eq_true rfl) ⟨Nat.le_of_ble_eq_true rfl, Nat.le_of_ble_eq_true rfl⟩ dX9_meanPitch_27 (fun o3 => ?_)
    refine lv_i2d hx hb dX9_meanPitch_30 ?_
    refine lv_iload_n hx hb dX9_meanPitch_31 rfl (lv_at hl 0 rfl) ?_
    refine lv_i2d hx hb dX9_meanPitch_32 ?_
    obtain ⟨b4, h⟩ := ckS h
    refine lv_ddiv hx hb dX9_meanPitch_33 b4 ?_
    exact xd_end F hP hS hr hk (Nat.le_of_ble_eq_true rfl) (Nat.le_of_ble_eq_true rfl) h dX9_meanPitch_34
  · have h := ifF h c2
    cases h
    exact vx_throwSW hx hb hst hown (by decide +kernel) (by decide +kernel) (hts _ mw_985) (hts _ mw_22) (hK.2.2.2.2.2 4 (by decide)) (xall_5 hts F.2.2) xgd_5 hK.2.2.2.2.1.2.2.1 hK.2.2.2.2.1.2.2.2 hS (hl.1.trans F.1.2.2.1.symm) dX9_meanPitch_12 dX9_meanPitch_15 dX9_meanPitch_16 dX9_meanPitch_19 dX9_meanPitch_22 (fun x hx => (hex x hx).elim) (Nat.le_of_ble_eq_true rfl) (Nat.le_of_ble_eq_true rfl) (Nat.le_of_ble_eq_true rfl) (Nat.le_of_ble_eq_true rfl) hk (fun t _ h1 h2 => ⟨⟨5, rfl, rfl⟩, P_more hP h2, (va_S.more hS h1 h2).1, (va_S.more hS h1 h2).2.1⟩) hS.2.2 (Nat.le_of_ble_eq_true rfl) (Nat.le_of_ble_eq_true rfl)
def f_X9_filledShare (G : GT) : Option ((Nat ⊕ UInt32) × GT) := ((f_X5_allBeats G ).bind fun r1 => (if 0 < r1 then ((f_X5_filledBeats G ).bind fun r3 => (if n32 (FP.fdiv (FP.i2f r3) (FP.i2f r1)) then some (.inr (FP.fdiv (FP.i2f r3) (FP.i2f r1)), G) else none)) else some (.inl 5, G)))
set_option maxRecDepth 100000 in
set_option maxHeartbeats 4000000 in
theorem q_X9_filledShare (l : Launch) (hst : l.stackTraces = false) (D : va_G) (Y : Nat → ClassId) (ad : Nat → Nat) (hI : Inj 90 ad) (G : GT) (R : Nat ⊕ UInt32) (G' : GT) (h : f_X9_filledShare G  = some (R, G')) : XWf l yX9_filledShare cX9_filledShare 2 6 1 D Y ad G [.ref (ad 77)] R G' := by
  refine X_of (ret := (some .float)) (by decide) (Nat.le_of_ble_eq_true rfl) (lv := [(0, .ref (ad 77))]) rfl ?_
  intro p e s m below meth c ls F hP hK hS hr hk hex hl
  have F : Fx p c cX9_filledShare 2 s m _ RX9 D Y := F
  have hx := F.1.1
  have hb := F.1.2.1
  have hts := F.1.2.2.2.2
  have hown := F.1.2.2.2.1
  refine lv_aload_n hx hb dX9_filledShare_0 rfl (lv_at hl 0 rfl) ?_
  refine rC_77_0 F hP dX9_filledShare_1 ?_
  obtain ⟨r1, e1, h⟩ := bsome h
  refine rd_VN F hP k_X5_allBeats mw_626 0 6 rfl (wsW_get 0 (by decide)) (q_X5_allBeats l D Y ad G  r1 e1) rfl hl.1 ⟨Nat.le_of_ble_eq_true rfl, Nat.le_of_ble_eq_true rfl⟩ (rest := []) rfl (Nat.le_of_ble_eq_true rfl) ⟨Nat.le_of_ble_eq_true rfl, Nat.le_of_ble_eq_true rfl⟩ dX9_filledShare_4 (fun o1 => ?_)
  refine lv_istore_n (lv' := [(1, .int r1), (0, .ref (ad 77))]) hx hb dX9_filledShare_7 rfl hl (by decide) rfl (fun ls hl => ?_)
  refine lv_iload_n hx hb dX9_filledShare_8 rfl (lv_at hl 0 rfl) ?_
  refine lv_if_gt (tgt := 23) hx hb dX9_filledShare_9 (by decide) (fun c2 => ?_) (fun c2 => ?_)
  · have h := ifT h c2
    refine lv_aload_n hx hb dX9_filledShare_23 rfl (lv_at hl 1 rfl) ?_
    refine rC_77_0 F hP dX9_filledShare_24 ?_
    obtain ⟨r3, e3, h⟩ := bsome h
    refine rd_VN F hP k_X5_filledBeats mw_630 0 6 rfl (wsW_get 0 (by decide)) (q_X5_filledBeats l D Y ad G  r3 e3) rfl hl.1 ⟨Nat.le_of_ble_eq_true rfl, Nat.le_of_ble_eq_true rfl⟩ (rest := []) rfl (Nat.le_of_ble_eq_true rfl) ⟨Nat.le_of_ble_eq_true rfl, Nat.le_of_ble_eq_true rfl⟩ dX9_filledShare_27 (fun o3 => ?_)
    refine lv_i2f hx hb dX9_filledShare_30 ?_
    refine lv_iload_n hx hb dX9_filledShare_31 rfl (lv_at hl 0 rfl) ?_
    refine lv_i2f hx hb dX9_filledShare_32 ?_
    obtain ⟨b4, h⟩ := ckS h
    refine lv_fdiv hx hb dX9_filledShare_33 b4 ?_
    exact xf_end F hP hS hr hk (Nat.le_of_ble_eq_true rfl) (Nat.le_of_ble_eq_true rfl) h dX9_filledShare_34
  · have h := ifF h c2
    cases h
    exact vx_throwSW hx hb hst hown (by decide +kernel) (by decide +kernel) (hts _ mw_985) (hts _ mw_22) (hK.2.2.2.2.2 5 (by decide)) (xall_5 hts F.2.2) xgd_5 hK.2.2.2.2.1.2.2.1 hK.2.2.2.2.1.2.2.2 hS (hl.1.trans F.1.2.2.1.symm) dX9_filledShare_12 dX9_filledShare_15 dX9_filledShare_16 dX9_filledShare_19 dX9_filledShare_22 (fun x hx => (hex x hx).elim) (Nat.le_of_ble_eq_true rfl) (Nat.le_of_ble_eq_true rfl) (Nat.le_of_ble_eq_true rfl) (Nat.le_of_ble_eq_true rfl) hk (fun t _ h1 h2 => ⟨⟨5, rfl, rfl⟩, P_more hP h2, (va_S.more hS h1 h2).1, (va_S.more hS h1 h2).2.1⟩) hS.2.2 (Nat.le_of_ble_eq_true rfl) (Nat.le_of_ble_eq_true rfl)
def f_X9_undo_15 (G : GT) (s15_0 : Int32) : Option ((Nat ⊕ Int32) × GT) := (if s15_0 = 0 then some (.inl 4, G) else ((f_X0_takeBack G 0).bind fun G2 => ((f_X0_countOfChanges G2 ).bind fun r3 => some (.inr r3, G2))))
def f_X9_undo (G : GT) : Option ((Nat ⊕ Int32) × GT) := ((f_X0_countOfChanges G ).bind fun r4 => (if r4 ≤ 0 then f_X9_undo_15 G (0 : Int32) else f_X9_undo_15 G (1 : Int32)))
set_option maxRecDepth 100000 in
set_option maxHeartbeats 4000000 in
theorem q_X9_undo (l : Launch) (hst : l.stackTraces = false) (D : va_G) (Y : Nat → ClassId) (ad : Nat → Nat) (hI : Inj 90 ad) (G : GT) (R : Nat ⊕ Int32) (G' : GT) (h : f_X9_undo G  = some (R, G')) : XWi l yX9_undo cX9_undo 1 (some .int) 9 1 D Y ad G [.ref (ad 77)] R G' := by
  refine X_of (ret := (some .int)) (by decide) (Nat.le_of_ble_eq_true rfl) (lv := [(0, .ref (ad 77))]) rfl ?_
  intro p e s m below meth c ls F hP hK hS hr hk hex hl
  have F : Fx p c cX9_undo 1 s m _ RX9 D Y := F
  have hx := F.1.1
  have hb := F.1.2.1
  have hts := F.1.2.2.2.2
  have hown := F.1.2.2.2.1
  have key15 : ∀ (s15_0 : Int32) (G : GT) (H : Heap) (locs : List Loc), va_P D vwCl (wsC Y ad G) H → va_S (AW 90 ad) s.heap H locs → ∀ ls : Array Slot, lv_has ls 1 [(0, .ref (ad 77))] → f_X9_undo_15 G   s15_0 = some (R, G') → WX p l e 9 1 s m ([.ref (ad 77)] : List Value).toArray below meth c H locs 0 0 (XQi (some .int) R D (wsC Y ad G') (AW 90 ad)) (XC Int32 R D (wsC Y ad G') (AW 90 ad)) (AW 90 ad) (F0 m 15 ls [.int s15_0]) := by
    intro s15_0 G  H locs hP hS ls hl h
    refine xn_S F hP hK hS hex hk k_X9_needState mw_1458 (q_X9_needState l hst D Y _ _ _ s15_0) hl.1 ⟨Nat.le_of_ble_eq_true rfl, Nat.le_of_ble_eq_true rfl, Nat.le_of_ble_eq_true rfl, Nat.le_of_ble_eq_true rfl⟩ (Nat.le_of_ble_eq_true rfl) (Nat.le_of_ble_eq_true rfl) (Nat.le_of_ble_eq_true rfl) dX9_undo_15 (fun c1 => ifT h c1) (fun c1 => ?_)
    have h := ifF h c1
    refine lv_aload_n hx hb dX9_undo_18 rfl (lv_at hl 0 rfl) ?_
    refine rC_77_9 F hP dX9_undo_19 ?_
    refine lv_aload_n hx hb dX9_undo_22 rfl (lv_at hl 0 rfl) ?_
    refine rC_77_0 F hP dX9_undo_23 ?_
    obtain ⟨G2, e2, h⟩ := bsome h
    refine wv_VN F hP hS k_X0_takeBack mw_1557 88 2 rfl (wsW_get 88 (by decide)) (q_X0_takeBack l D Y ad hI G 0 (by decide) G2 e2) rfl hl.1 ⟨Nat.le_of_ble_eq_true rfl, Nat.le_of_ble_eq_true rfl⟩ (rest := []) rfl (Nat.le_of_ble_eq_true rfl) ⟨Nat.le_of_ble_eq_true rfl, Nat.le_of_ble_eq_true rfl⟩ dX9_undo_26 (fun H locs hP hS => ?_)
    refine lv_aload_n hx hb dX9_undo_29 rfl (lv_at hl 0 rfl) ?_
    refine rC_77_9 F hP dX9_undo_30 ?_
    obtain ⟨r3, e3, h⟩ := bsome h
    refine rd_VN F hP k_X0_countOfChanges mw_669 88 2 rfl (wsW_get 88 (by decide)) (q_X0_countOfChanges l D Y ad G2  r3 e3) rfl hl.1 ⟨Nat.le_of_ble_eq_true rfl, Nat.le_of_ble_eq_true rfl⟩ (rest := []) rfl (Nat.le_of_ble_eq_true rfl) ⟨Nat.le_of_ble_eq_true rfl, Nat.le_of_ble_eq_true rfl⟩ dX9_undo_33 (fun o3 => ?_)
    exact x_end F hP hS hr hk rfl (Nat.le_of_ble_eq_true rfl) (Nat.le_of_ble_eq_true rfl) h dX9_undo_36
  refine lv_aload_n hx hb dX9_undo_0 rfl (lv_at hl 0 rfl) ?_
  refine rC_77_9 F hP dX9_undo_1 ?_
  obtain ⟨r4, e4, h⟩ := bsome h
  refine rd_VN F hP k_X0_countOfChanges mw_669 88 2 rfl (wsW_get 88 (by decide)) (q_X0_countOfChanges l D Y ad G  r4 e4) rfl hl.1 ⟨Nat.le_of_ble_eq_true rfl, Nat.le_of_ble_eq_true rfl⟩ (rest := []) rfl (Nat.le_of_ble_eq_true rfl) ⟨Nat.le_of_ble_eq_true rfl, Nat.le_of_ble_eq_true rfl⟩ dX9_undo_4 (fun o4 => ?_)
  refine lv_if_le (tgt := 14) hx hb dX9_undo_7 (by decide) (fun c5 => ?_) (fun c5 => ?_)
  · have h := ifT h c5
    refine lv_iconst (v := 0) hx hb dX9_undo_14 (by decide) ?_
    exact key15 (0 : Int32) G _ _ hP hS ls (lv_sub hl [0] rfl) h
  · have h := ifF h c5
    refine lv_iconst (v := 1) hx hb dX9_undo_10 (by decide) ?_
    refine lv_goto (tgt := 15) hx hb dX9_undo_11 (by decide) ?_
    exact key15 (1 : Int32) G _ _ hP hS ls (lv_sub hl [0] rfl) h
