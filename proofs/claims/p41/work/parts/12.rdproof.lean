def f_X6_mostParts (G : Nat → Nat → Int32) (a0 : Int32) : Option Int32 := (if a0 = 0 then some (2 : Int32) else some (1 : Int32))
set_option maxRecDepth 100000 in
set_option maxHeartbeats 4000000 in
theorem q_X6_mostParts (l : Launch) (D : va_G) (Y : Nat → ClassId) (ad : Nat → Nat) (G : Nat → Nat → Int32) (a0 : Int32) (r : Int32) (h : f_X6_mostParts G a0 = some r) : RD l yX6_mostParts cX6_mostParts 1 (some .int) 0 D Y (wsC Y ad G) [.int a0] r := by
  refine RD_of (by decide) (Nat.le_of_ble_eq_true rfl) (lv := [(0, .int a0)]) rfl ?_
  intro p e s m below meth c ls F hP hr hk hl
  have F : Fx p c cX6_mostParts 1 s m _ RX6 D Y := F
  have hx := F.1.1
  have hb := F.1.2.1
  refine lv_iload_n hx hb dX6_mostParts_0 rfl (lv_at hl 0 rfl) ?_
  refine lv_if_eq (tgt := 8) hx hb dX6_mostParts_1 (by decide) (fun c1 => ?_) (fun c1 => ?_)
  · have h := ifT h c1
    refine lv_iconst (v := 2) hx hb dX6_mostParts_8 (by decide) ?_
    exact rd_end F hr hk rfl h dX6_mostParts_9
  · have h := ifF h c1
    refine lv_iconst (v := 1) hx hb dX6_mostParts_4 (by decide) ?_
    refine lv_goto (tgt := 9) hx hb dX6_mostParts_5 (by decide) ?_
    exact rd_end F hr hk rfl h dX6_mostParts_9
def f_X6_isSame (G : Nat → Nat → Int32) (a1 : Int32) : Option Int32 := ((f_X5_dropAhead G a1).bind fun r1 => (if r1 = (-1 : Int32) then some (0 : Int32) else ((f_X5_pitchOf G a1).bind fun r3 => ((f_X5_pitchOf G r1).bind fun r4 => (if r3 = r4 then some (1 : Int32) else some (0 : Int32))))))
set_option maxRecDepth 100000 in
set_option maxHeartbeats 4000000 in
theorem q_X6_isSame (l : Launch) (D : va_G) (Y : Nat → ClassId) (ad : Nat → Nat) (G : Nat → Nat → Int32) (a1 : Int32) (r : Int32) (h : f_X6_isSame G a1 = some r) : RD l yX6_isSame cX6_isSame 3 (some .boolean) 3 D Y (wsC Y ad G) [.ref (ad 79), .int a1] r := by
  refine RD_of (by decide) (Nat.le_of_ble_eq_true rfl) (lv := [(0, .ref (ad 79)), (1, .int a1)]) rfl ?_
  intro p e s m below meth c ls F hP hr hk hl
  have F : Fx p c cX6_isSame 3 s m _ RX6 D Y := F
  have hx := F.1.1
  have hb := F.1.2.1
  refine lv_aload_n hx hb dX6_isSame_0 rfl (lv_at hl 0 rfl) ?_
  refine rC_79_0 F hP dX6_isSame_1 ?_
  refine lv_iload_n hx hb dX6_isSame_4 rfl (lv_at hl 1 rfl) ?_
  obtain ⟨r1, e1, h⟩ := bsome h
  refine rd_VN F hP k_X5_dropAhead mw_860 0 6 rfl (wsW_get 0 (by decide)) (q_X5_dropAhead l D Y ad G a1 r1 e1) rfl hl.1 ⟨Nat.le_of_ble_eq_true rfl, Nat.le_of_ble_eq_true rfl⟩ (rest := []) rfl (Nat.le_of_ble_eq_true rfl) ⟨Nat.le_of_ble_eq_true rfl, Nat.le_of_ble_eq_true rfl⟩ dX6_isSame_5 (fun o1 => ?_)
  refine lv_istore_n (lv' := [(2, .int r1), (0, .ref (ad 79)), (1, .int a1)]) hx hb dX6_isSame_8 rfl hl (by decide) rfl (fun ls hl => ?_)
  refine lv_iload_n hx hb dX6_isSame_9 rfl (lv_at hl 0 rfl) ?_
  refine lv_iconst (v := -1) hx hb dX6_isSame_10 (by decide) ?_
  refine lv_icmp_eq (tgt := 37) hx hb dX6_isSame_11 (by decide) (fun c2 => ?_) (fun c2 => ?_)
  · have h := ifT h c2
    refine lv_iconst (v := 0) hx hb dX6_isSame_37 (by decide) ?_
    exact rd_end F hr hk rfl h dX6_isSame_38
  · have h := ifF h c2
    refine lv_aload_n hx hb dX6_isSame_14 rfl (lv_at hl 1 rfl) ?_
    refine rC_79_0 F hP dX6_isSame_15 ?_
    refine lv_iload_n hx hb dX6_isSame_18 rfl (lv_at hl 2 rfl) ?_
    obtain ⟨r3, e3, h⟩ := bsome h
    refine rd_VN F hP k_X5_pitchOf mw_831 0 6 rfl (wsW_get 0 (by decide)) (q_X5_pitchOf l D Y ad G a1 r3 e3) rfl hl.1 ⟨Nat.le_of_ble_eq_true rfl, Nat.le_of_ble_eq_true rfl⟩ (rest := []) rfl (Nat.le_of_ble_eq_true rfl) ⟨Nat.le_of_ble_eq_true rfl, Nat.le_of_ble_eq_true rfl⟩ dX6_isSame_19 (fun o3 => ?_)
    refine lv_aload_n hx hb dX6_isSame_22 rfl (lv_at hl 1 rfl) ?_
    refine rC_79_0 F hP dX6_isSame_23 ?_
    refine lv_iload_n hx hb dX6_isSame_26 rfl (lv_at hl 0 rfl) ?_
    obtain ⟨r4, e4, h⟩ := bsome h
    refine rd_VN F hP k_X5_pitchOf mw_831 0 6 rfl (wsW_get 0 (by decide)) (q_X5_pitchOf l D Y ad G r1 r4 e4) rfl hl.1 ⟨Nat.le_of_ble_eq_true rfl, Nat.le_of_ble_eq_true rfl⟩ (rest := [.int r3]) rfl (Nat.le_of_ble_eq_true rfl) ⟨Nat.le_of_ble_eq_true rfl, Nat.le_of_ble_eq_true rfl⟩ dX6_isSame_27 (fun o4 => ?_)
    refine lv_icmp_ne (tgt := 37) hx hb dX6_isSame_30 (by decide) (fun c5 => ?_) (fun c5 => ?_)
    · have h := ifF h c5
      refine lv_iconst (v := 0) hx hb dX6_isSame_37 (by decide) ?_
      exact rd_end F hr hk rfl h dX6_isSame_38
    · have h := ifT h c5
      refine lv_iconst (v := 1) hx hb dX6_isSame_33 (by decide) ?_
      refine lv_goto (tgt := 38) hx hb dX6_isSame_34 (by decide) ?_
      exact rd_end F hr hk rfl h dX6_isSame_38
def f_X6_isFar (G : Nat → Nat → Int32) (a1 : Int32) : Option Int32 := ((f_X5_dropAhead G a1).bind fun r1 => (if r1 = (-1 : Int32) then some (0 : Int32) else ((f_X5_pitchOf G a1).bind fun r3 => ((f_X5_pitchOf G r1).bind fun r4 => ((f_X5_limitNow G ).bind fun r5 => (if (abs32 (r3 - r4)) ≤ r5 then some (0 : Int32) else some (1 : Int32)))))))
set_option maxRecDepth 100000 in
set_option maxHeartbeats 4000000 in
theorem q_X6_isFar (l : Launch) (D : va_G) (Y : Nat → ClassId) (ad : Nat → Nat) (G : Nat → Nat → Int32) (a1 : Int32) (r : Int32) (h : f_X6_isFar G a1 = some r) : RD l yX6_isFar cX6_isFar 3 (some .boolean) 3 D Y (wsC Y ad G) [.ref (ad 79), .int a1] r := by
  refine RD_of (by decide) (Nat.le_of_ble_eq_true rfl) (lv := [(0, .ref (ad 79)), (1, .int a1)]) rfl ?_
  intro p e s m below meth c ls F hP hr hk hl
  have F : Fx p c cX6_isFar 3 s m _ RX6 D Y := F
  have hx := F.1.1
  have hb := F.1.2.1
  refine lv_aload_n hx hb dX6_isFar_0 rfl (lv_at hl 0 rfl) ?_
  refine rC_79_0 F hP dX6_isFar_1 ?_
  refine lv_iload_n hx hb dX6_isFar_4 rfl (lv_at hl 1 rfl) ?_
  obtain ⟨r1, e1, h⟩ := bsome h
  refine rd_VN F hP k_X5_dropAhead mw_860 0 6 rfl (wsW_get 0 (by decide)) (q_X5_dropAhead l D Y ad G a1 r1 e1) rfl hl.1 ⟨Nat.le_of_ble_eq_true rfl, Nat.le_of_ble_eq_true rfl⟩ (rest := []) rfl (Nat.le_of_ble_eq_true rfl) ⟨Nat.le_of_ble_eq_true rfl, Nat.le_of_ble_eq_true rfl⟩ dX6_isFar_5 (fun o1 => ?_)
  refine lv_istore_n (lv' := [(2, .int r1), (0, .ref (ad 79)), (1, .int a1)]) hx hb dX6_isFar_8 rfl hl (by decide) rfl (fun ls hl => ?_)
  refine lv_iload_n hx hb dX6_isFar_9 rfl (lv_at hl 0 rfl) ?_
  refine lv_iconst (v := -1) hx hb dX6_isFar_10 (by decide) ?_
  refine lv_icmp_eq (tgt := 48) hx hb dX6_isFar_11 (by decide) (fun c2 => ?_) (fun c2 => ?_)
  · have h := ifT h c2
    refine lv_iconst (v := 0) hx hb dX6_isFar_48 (by decide) ?_
    exact rd_end F hr hk rfl h dX6_isFar_49
  · have h := ifF h c2
    refine lv_aload_n hx hb dX6_isFar_14 rfl (lv_at hl 1 rfl) ?_
    refine rC_79_0 F hP dX6_isFar_15 ?_
    refine lv_iload_n hx hb dX6_isFar_18 rfl (lv_at hl 2 rfl) ?_
    obtain ⟨r3, e3, h⟩ := bsome h
    refine rd_VN F hP k_X5_pitchOf mw_831 0 6 rfl (wsW_get 0 (by decide)) (q_X5_pitchOf l D Y ad G a1 r3 e3) rfl hl.1 ⟨Nat.le_of_ble_eq_true rfl, Nat.le_of_ble_eq_true rfl⟩ (rest := []) rfl (Nat.le_of_ble_eq_true rfl) ⟨Nat.le_of_ble_eq_true rfl, Nat.le_of_ble_eq_true rfl⟩ dX6_isFar_19 (fun o3 => ?_)
    refine lv_aload_n hx hb dX6_isFar_22 rfl (lv_at hl 1 rfl) ?_
    refine rC_79_0 F hP dX6_isFar_23 ?_
    refine lv_iload_n hx hb dX6_isFar_26 rfl (lv_at hl 0 rfl) ?_
    obtain ⟨r4, e4, h⟩ := bsome h
    refine rd_VN F hP k_X5_pitchOf mw_831 0 6 rfl (wsW_get 0 (by decide)) (q_X5_pitchOf l D Y ad G r1 r4 e4) rfl hl.1 ⟨Nat.le_of_ble_eq_true rfl, Nat.le_of_ble_eq_true rfl⟩ (rest := [.int r3]) rfl (Nat.le_of_ble_eq_true rfl) ⟨Nat.le_of_ble_eq_true rfl, Nat.le_of_ble_eq_true rfl⟩ dX6_isFar_27 (fun o4 => ?_)
    refine lv_isub hx hb dX6_isFar_30 ?_
    refine w_abs F hl mw_832 ⟨Nat.le_of_ble_eq_true rfl, Nat.le_of_ble_eq_true rfl, Nat.le_of_ble_eq_true rfl, Nat.le_of_ble_eq_true rfl⟩ dX6_isFar_31 ?_
    refine lv_aload_n hx hb dX6_isFar_34 rfl (lv_at hl 1 rfl) ?_
    refine rC_79_0 F hP dX6_isFar_35 ?_
    obtain ⟨r5, e5, h⟩ := bsome h
    refine rd_VN F hP k_X5_limitNow mw_833 0 6 rfl (wsW_get 0 (by decide)) (q_X5_limitNow l D Y ad G  r5 e5) rfl hl.1 ⟨Nat.le_of_ble_eq_true rfl, Nat.le_of_ble_eq_true rfl⟩ (rest := [.int ((abs32 (r3 - r4)))]) rfl (Nat.le_of_ble_eq_true rfl) ⟨Nat.le_of_ble_eq_true rfl, Nat.le_of_ble_eq_true rfl⟩ dX6_isFar_38 (fun o5 => ?_)
    refine lv_icmp_le (tgt := 48) hx hb dX6_isFar_41 (by decide) (fun c6 => ?_) (fun c6 => ?_)
    · have h := ifT h c6
      refine lv_iconst (v := 0) hx hb dX6_isFar_48 (by decide) ?_
      exact rd_end F hr hk rfl h dX6_isFar_49
    · have h := ifF h c6
      refine lv_iconst (v := 1) hx hb dX6_isFar_44 (by decide) ?_
      refine lv_goto (tgt := 49) hx hb dX6_isFar_45 (by decide) ?_
      exact rd_end F hr hk rfl h dX6_isFar_49
def f_X6_isFault (G : Nat → Nat → Int32) (a1 : Int32) (a2 : Int32) : Option Int32 := (if a1 = (3 : Int32) then ((f_X5_startOfBar G a2).bind fun r17 => ((f_X5_soundAt G r17).bind fun r18 => (if r18 = (-1 : Int32) then some (0 : Int32) else ((f_X5_isRest G r18).bind fun r20 => (if r20 = 0 then some (0 : Int32) else some (1 : Int32)))))) else ((f_X5_isRest G a2).bind fun r2 => (if a1 = (1 : Int32) then (if r2 = 0 then ((f_X6_isFar G a2).bind fun r15 => (if r15 = 0 then some (0 : Int32) else some (1 : Int32))) else some (0 : Int32)) else (if a1 = (2 : Int32) then (if r2 = 0 then ((f_X6_isSame G a2).bind fun r9 => (if r9 = 0 then some (0 : Int32) else ((f_X5_dropAhead G a2).bind fun r11 => ((f_X6_isSame G r11).bind fun r12 => (if r12 = 0 then some (0 : Int32) else some (1 : Int32)))))) else some (0 : Int32)) else ((f_X5_partsOfSound G a2).bind fun r5 => ((f_X6_mostParts G r2).bind fun r6 => (if r5 ≤ r6 then some (0 : Int32) else some (1 : Int32))))))))
set_option maxRecDepth 100000 in
set_option maxHeartbeats 4000000 in
theorem q_X6_isFault (l : Launch) (D : va_G) (Y : Nat → ClassId) (ad : Nat → Nat) (G : Nat → Nat → Int32) (a1 : Int32) (a2 : Int32) (r : Int32) (h : f_X6_isFault G a1 a2 = some r) : RD l yX6_isFault cX6_isFault 4 (some .boolean) 4 D Y (wsC Y ad G) [.ref (ad 79), .int a1, .int a2] r := by
  refine RD_of (by decide) (Nat.le_of_ble_eq_true rfl) (lv := [(0, .ref (ad 79)), (1, .int a1), (2, .int a2)]) rfl ?_
  intro p e s m below meth c ls F hP hr hk hl
  have F : Fx p c cX6_isFault 4 s m _ RX6 D Y := F
  have hx := F.1.1
  have hb := F.1.2.1
  refine lv_iload_n hx hb dX6_isFault_0 rfl (lv_at hl 1 rfl) ?_
  refine lv_iconst (v := 3) hx hb dX6_isFault_1 (by decide) ?_
  refine lv_icmp_ne (tgt := 43) hx hb dX6_isFault_2 (by decide) (fun c1 => ?_) (fun c1 => ?_)
  · have h := ifF h c1
    refine lv_aload_n hx hb dX6_isFault_43 rfl (lv_at hl 0 rfl) ?_
    refine rC_79_0 F hP dX6_isFault_44 ?_
    refine lv_iload_n hx hb dX6_isFault_47 rfl (lv_at hl 2 rfl) ?_
    obtain ⟨r2, e2, h⟩ := bsome h
    refine rd_VN F hP k_X5_isRest mw_826 0 6 rfl (wsW_get 0 (by decide)) (q_X5_isRest l D Y ad G a2 r2 e2) rfl hl.1 ⟨Nat.le_of_ble_eq_true rfl, Nat.le_of_ble_eq_true rfl⟩ (rest := []) rfl (Nat.le_of_ble_eq_true rfl) ⟨Nat.le_of_ble_eq_true rfl, Nat.le_of_ble_eq_true rfl⟩ dX6_isFault_48 (fun o2 => ?_)
    refine lv_istore_n (lv' := [(3, .int r2), (0, .ref (ad 79)), (1, .int a1), (2, .int a2)]) hx hb dX6_isFault_51 rfl hl (by decide) rfl (fun ls hl => ?_)
    refine lv_iload_n hx hb dX6_isFault_52 rfl (lv_at hl 2 rfl) ?_
    refine lv_iconst (v := 1) hx hb dX6_isFault_53 (by decide) ?_
    refine lv_icmp_ne (tgt := 75) hx hb dX6_isFault_54 (by decide) (fun c3 => ?_) (fun c3 => ?_)
    · have h := ifF h c3
      refine lv_iload_n hx hb dX6_isFault_75 rfl (lv_at hl 2 rfl) ?_
      refine lv_iconst (v := 2) hx hb dX6_isFault_76 (by decide) ?_
      refine lv_icmp_ne (tgt := 113) hx hb dX6_isFault_77 (by decide) (fun c4 => ?_) (fun c4 => ?_)
      · have h := ifF h c4
        refine lv_aload_n hx hb dX6_isFault_113 rfl (lv_at hl 1 rfl) ?_
        refine rC_79_0 F hP dX6_isFault_114 ?_
        refine lv_iload_n hx hb dX6_isFault_117 rfl (lv_at hl 3 rfl) ?_
        obtain ⟨r5, e5, h⟩ := bsome h
        refine rd_VN F hP k_X5_partsOfSound mw_868 0 6 rfl (wsW_get 0 (by decide)) (q_X5_partsOfSound l D Y ad G a2 r5 e5) rfl hl.1 ⟨Nat.le_of_ble_eq_true rfl, Nat.le_of_ble_eq_true rfl⟩ (rest := []) rfl (Nat.le_of_ble_eq_true rfl) ⟨Nat.le_of_ble_eq_true rfl, Nat.le_of_ble_eq_true rfl⟩ dX6_isFault_118 (fun o5 => ?_)
        refine lv_iload_n hx hb dX6_isFault_121 rfl (lv_at hl 0 rfl) ?_
        obtain ⟨r6, e6, h⟩ := bsome h
        refine rd_S F hP k_X6_mostParts mw_838 (q_X6_mostParts l D Y ad G r2 r6 e6) rfl hl.1 ⟨Nat.le_of_ble_eq_true rfl, Nat.le_of_ble_eq_true rfl⟩ (rest := [.int r5]) rfl (Nat.le_of_ble_eq_true rfl) ⟨Nat.le_of_ble_eq_true rfl, Nat.le_of_ble_eq_true rfl⟩ dX6_isFault_122 (fun o6 => ?_)
        refine lv_icmp_le (tgt := 132) hx hb dX6_isFault_125 (by decide) (fun c7 => ?_) (fun c7 => ?_)
        · have h := ifT h c7
          refine lv_iconst (v := 0) hx hb dX6_isFault_132 (by decide) ?_
          exact rd_end F hr hk rfl h dX6_isFault_133
        · have h := ifF h c7
          refine lv_iconst (v := 1) hx hb dX6_isFault_128 (by decide) ?_
          refine lv_goto (tgt := 133) hx hb dX6_isFault_129 (by decide) ?_
          exact rd_end F hr hk rfl h dX6_isFault_133
      · have h := ifT h c4
        refine lv_iload_n hx hb dX6_isFault_80 rfl (lv_at hl 0 rfl) ?_
        refine lv_if_ne (tgt := 111) hx hb dX6_isFault_81 (by decide) (fun c8 => ?_) (fun c8 => ?_)
        · have h := ifF h c8
          refine lv_iconst (v := 0) hx hb dX6_isFault_111 (by decide) ?_
          exact rd_end F hr hk rfl h dX6_isFault_112
        · have h := ifT h c8
          refine lv_aload_n hx hb dX6_isFault_84 rfl (lv_at hl 1 rfl) ?_
          refine lv_iload_n hx hb dX6_isFault_85 rfl (lv_at hl 3 rfl) ?_
          obtain ⟨r9, e9, h⟩ := bsome h
          refine rd_V F hP k_X6_isSame mw_864 79 7 rfl (wsW_get 79 (by decide)) (q_X6_isSame l D Y ad G a2 r9 e9) rfl hl.1 ⟨Nat.le_of_ble_eq_true rfl, Nat.le_of_ble_eq_true rfl⟩ (rest := []) rfl (Nat.le_of_ble_eq_true rfl) ⟨Nat.le_of_ble_eq_true rfl, Nat.le_of_ble_eq_true rfl⟩ dX6_isFault_86 (fun o9 => ?_)
          refine lv_if_eq (tgt := 111) hx hb dX6_isFault_89 (by decide) (fun c10 => ?_) (fun c10 => ?_)
          · have h := ifT h c10
            refine lv_iconst (v := 0) hx hb dX6_isFault_111 (by decide) ?_
            exact rd_end F hr hk rfl h dX6_isFault_112
          · have h := ifF h c10
            refine lv_aload_n hx hb dX6_isFault_92 rfl (lv_at hl 1 rfl) ?_
            refine lv_aload_n hx hb dX6_isFault_93 rfl (lv_at hl 1 rfl) ?_
            refine rC_79_0 F hP dX6_isFault_94 ?_
            refine lv_iload_n hx hb dX6_isFault_97 rfl (lv_at hl 3 rfl) ?_
            obtain ⟨r11, e11, h⟩ := bsome h
            refine rd_VN F hP k_X5_dropAhead mw_860 0 6 rfl (wsW_get 0 (by decide)) (q_X5_dropAhead l D Y ad G a2 r11 e11) rfl hl.1 ⟨Nat.le_of_ble_eq_true rfl, Nat.le_of_ble_eq_true rfl⟩ (rest := [.ref (ad 79)]) rfl (Nat.le_of_ble_eq_true rfl) ⟨Nat.le_of_ble_eq_true rfl, Nat.le_of_ble_eq_true rfl⟩ dX6_isFault_98 (fun o11 => ?_)
            obtain ⟨r12, e12, h⟩ := bsome h
            refine rd_V F hP k_X6_isSame mw_864 79 7 rfl (wsW_get 79 (by decide)) (q_X6_isSame l D Y ad G r11 r12 e12) rfl hl.1 ⟨Nat.le_of_ble_eq_true rfl, Nat.le_of_ble_eq_true rfl⟩ (rest := []) rfl (Nat.le_of_ble_eq_true rfl) ⟨Nat.le_of_ble_eq_true rfl, Nat.le_of_ble_eq_true rfl⟩ dX6_isFault_101 (fun o12 => ?_)
            refine lv_if_eq (tgt := 111) hx hb dX6_isFault_104 (by decide) (fun c13 => ?_) (fun c13 => ?_)
            · have h := ifT h c13
              refine lv_iconst (v := 0) hx hb dX6_isFault_111 (by decide) ?_
              exact rd_end F hr hk rfl h dX6_isFault_112
            · have h := ifF h c13
              refine lv_iconst (v := 1) hx hb dX6_isFault_107 (by decide) ?_
              refine lv_goto (tgt := 112) hx hb dX6_isFault_108 (by decide) ?_
              exact rd_end F hr hk rfl h dX6_isFault_112
    · have h := ifT h c3
      refine lv_iload_n hx hb dX6_isFault_57 rfl (lv_at hl 0 rfl) ?_
      refine lv_if_ne (tgt := 73) hx hb dX6_isFault_58 (by decide) (fun c14 => ?_) (fun c14 => ?_)
      · have h := ifF h c14
        refine lv_iconst (v := 0) hx hb dX6_isFault_73 (by decide) ?_
        exact rd_end F hr hk rfl h dX6_isFault_74
      · have h := ifT h c14
        refine lv_aload_n hx hb dX6_isFault_61 rfl (lv_at hl 1 rfl) ?_
        refine lv_iload_n hx hb dX6_isFault_62 rfl (lv_at hl 3 rfl) ?_
        obtain ⟨r15, e15, h⟩ := bsome h
        refine rd_V F hP k_X6_isFar mw_856 79 7 rfl (wsW_get 79 (by decide)) (q_X6_isFar l D Y ad G a2 r15 e15) rfl hl.1 ⟨Nat.le_of_ble_eq_true rfl, Nat.le_of_ble_eq_true rfl⟩ (rest := []) rfl (Nat.le_of_ble_eq_true rfl) ⟨Nat.le_of_ble_eq_true rfl, Nat.le_of_ble_eq_true rfl⟩ dX6_isFault_63 (fun o15 => ?_)
        refine lv_if_eq (tgt := 73) hx hb dX6_isFault_66 (by decide) (fun c16 => ?_) (fun c16 => ?_)
        · have h := ifT h c16
          refine lv_iconst (v := 0) hx hb dX6_isFault_73 (by decide) ?_
          exact rd_end F hr hk rfl h dX6_isFault_74
        · have h := ifF h c16
          refine lv_iconst (v := 1) hx hb dX6_isFault_69 (by decide) ?_
          refine lv_goto (tgt := 74) hx hb dX6_isFault_70 (by decide) ?_
          exact rd_end F hr hk rfl h dX6_isFault_74
  · have h := ifT h c1
    refine lv_aload_n hx hb dX6_isFault_5 rfl (lv_at hl 0 rfl) ?_
    refine rC_79_0 F hP dX6_isFault_6 ?_
    refine lv_aload_n hx hb dX6_isFault_9 rfl (lv_at hl 0 rfl) ?_
    refine rC_79_0 F hP dX6_isFault_10 ?_
    refine lv_iload_n hx hb dX6_isFault_13 rfl (lv_at hl 2 rfl) ?_
    obtain ⟨r17, e17, h⟩ := bsome h
    refine rd_VN F hP k_X5_startOfBar mw_855 0 6 rfl (wsW_get 0 (by decide)) (q_X5_startOfBar l D Y ad G a2 r17 e17) rfl hl.1 ⟨Nat.le_of_ble_eq_true rfl, Nat.le_of_ble_eq_true rfl⟩ (rest := [.ref (ad 0)]) rfl (Nat.le_of_ble_eq_true rfl) ⟨Nat.le_of_ble_eq_true rfl, Nat.le_of_ble_eq_true rfl⟩ dX6_isFault_14 (fun o17 => ?_)
    obtain ⟨r18, e18, h⟩ := bsome h
    refine rd_VN F hP k_X5_soundAt mw_825 0 6 rfl (wsW_get 0 (by decide)) (q_X5_soundAt l D Y ad G r17 r18 e18) rfl hl.1 ⟨Nat.le_of_ble_eq_true rfl, Nat.le_of_ble_eq_true rfl⟩ (rest := []) rfl (Nat.le_of_ble_eq_true rfl) ⟨Nat.le_of_ble_eq_true rfl, Nat.le_of_ble_eq_true rfl⟩ dX6_isFault_17 (fun o18 => ?_)
    refine lv_istore_n (lv' := [(3, .int r18), (0, .ref (ad 79)), (1, .int a1), (2, .int a2)]) hx hb dX6_isFault_20 rfl hl (by decide) rfl (fun ls hl => ?_)
    refine lv_iload_n hx hb dX6_isFault_21 rfl (lv_at hl 0 rfl) ?_
    refine lv_iconst (v := -1) hx hb dX6_isFault_22 (by decide) ?_
    refine lv_icmp_eq (tgt := 41) hx hb dX6_isFault_23 (by decide) (fun c19 => ?_) (fun c19 => ?_)
    · have h := ifT h c19
      refine lv_iconst (v := 0) hx hb dX6_isFault_41 (by decide) ?_
      exact rd_end F hr hk rfl h dX6_isFault_42
    · have h := ifF h c19
      refine lv_aload_n hx hb dX6_isFault_26 rfl (lv_at hl 1 rfl) ?_
      refine rC_79_0 F hP dX6_isFault_27 ?_
      refine lv_iload_n hx hb dX6_isFault_30 rfl (lv_at hl 0 rfl) ?_
      obtain ⟨r20, e20, h⟩ := bsome h
      refine rd_VN F hP k_X5_isRest mw_826 0 6 rfl (wsW_get 0 (by decide)) (q_X5_isRest l D Y ad G r18 r20 e20) rfl hl.1 ⟨Nat.le_of_ble_eq_true rfl, Nat.le_of_ble_eq_true rfl⟩ (rest := []) rfl (Nat.le_of_ble_eq_true rfl) ⟨Nat.le_of_ble_eq_true rfl, Nat.le_of_ble_eq_true rfl⟩ dX6_isFault_31 (fun o20 => ?_)
      refine lv_if_eq (tgt := 41) hx hb dX6_isFault_34 (by decide) (fun c21 => ?_) (fun c21 => ?_)
      · have h := ifT h c21
        refine lv_iconst (v := 0) hx hb dX6_isFault_41 (by decide) ?_
        exact rd_end F hr hk rfl h dX6_isFault_42
      · have h := ifF h c21
        refine lv_iconst (v := 1) hx hb dX6_isFault_37 (by decide) ?_
        refine lv_goto (tgt := 42) hx hb dX6_isFault_38 (by decide) ?_
        exact rd_end F hr hk rfl h dX6_isFault_42
def f_X6_places (G : Nat → Nat → Int32) (a1 : Int32) : Option Int32 := (if a1 = (3 : Int32) then ((f_X5_countOfBars G ).bind fun r3 => some r3) else ((f_X5_countOfSounds G ).bind fun r2 => some r2))
set_option maxRecDepth 100000 in
set_option maxHeartbeats 4000000 in
theorem q_X6_places (l : Launch) (D : va_G) (Y : Nat → ClassId) (ad : Nat → Nat) (G : Nat → Nat → Int32) (a1 : Int32) (r : Int32) (h : f_X6_places G a1 = some r) : RD l yX6_places cX6_places 2 (some .int) 1 D Y (wsC Y ad G) [.ref (ad 79), .int a1] r := by
  refine RD_of (by decide) (Nat.le_of_ble_eq_true rfl) (lv := [(0, .ref (ad 79)), (1, .int a1)]) rfl ?_
  intro p e s m below meth c ls F hP hr hk hl
  have F : Fx p c cX6_places 2 s m _ RX6 D Y := F
  have hx := F.1.1
  have hb := F.1.2.1
  refine lv_iload_n hx hb dX6_places_0 rfl (lv_at hl 1 rfl) ?_
  refine lv_iconst (v := 3) hx hb dX6_places_1 (by decide) ?_
  refine lv_icmp_ne (tgt := 15) hx hb dX6_places_2 (by decide) (fun c1 => ?_) (fun c1 => ?_)
  · have h := ifF h c1
    refine lv_aload_n hx hb dX6_places_15 rfl (lv_at hl 0 rfl) ?_
    refine rC_79_0 F hP dX6_places_16 ?_
    obtain ⟨r2, e2, h⟩ := bsome h
    refine rd_VN F hP k_X5_countOfSounds mw_850 0 6 rfl (wsW_get 0 (by decide)) (q_X5_countOfSounds l D Y ad G  r2 e2) rfl hl.1 ⟨Nat.le_of_ble_eq_true rfl, Nat.le_of_ble_eq_true rfl⟩ (rest := []) rfl (Nat.le_of_ble_eq_true rfl) ⟨Nat.le_of_ble_eq_true rfl, Nat.le_of_ble_eq_true rfl⟩ dX6_places_19 (fun o2 => ?_)
    exact rd_end F hr hk rfl h dX6_places_22
  · have h := ifT h c1
    refine lv_aload_n hx hb dX6_places_5 rfl (lv_at hl 0 rfl) ?_
    refine rC_79_0 F hP dX6_places_6 ?_
    obtain ⟨r3, e3, h⟩ := bsome h
    refine rd_VN F hP k_X5_countOfBars mw_849 0 6 rfl (wsW_get 0 (by decide)) (q_X5_countOfBars l D Y ad G  r3 e3) rfl hl.1 ⟨Nat.le_of_ble_eq_true rfl, Nat.le_of_ble_eq_true rfl⟩ (rest := []) rfl (Nat.le_of_ble_eq_true rfl) ⟨Nat.le_of_ble_eq_true rfl, Nat.le_of_ble_eq_true rfl⟩ dX6_places_9 (fun o3 => ?_)
    refine lv_goto (tgt := 22) hx hb dX6_places_12 (by decide) ?_
    exact rd_end F hr hk rfl h dX6_places_22
def f_X6_count_33 (G : Nat → Nat → Int32) (a1 : Int32) (k11 : Int32 → Int32 → Option Int32) (x3 : Int32) (x4 : Int32) (s33_0 : Int32) (s33_1 : Int32) : Option Int32 := k11 (s33_1 + s33_0) (x4 + 1)
def f_X6_count_11 (G : Nat → Nat → Int32) (a1 : Int32) (x3 : Int32) (n : Nat) (y2 : Int32) (y4 : Int32) : Option Int32 := lq2 (fun (k11 : Int32 → Int32 → Option Int32) (x2 : Int32) (x4 : Int32) => (if x3 ≤ x4 then some x2 else ((f_X6_isFault G a1 x4).bind fun r2 => (if r2 = 0 then f_X6_count_33 G a1 k11 x3 x4 (0 : Int32) x2 else f_X6_count_33 G a1 k11 x3 x4 (1 : Int32) x2)))) n y2 y4
def f_X6_count (G : Nat → Nat → Int32) (a1 : Int32) : Option Int32 := ((f_X6_places G a1).bind fun r4 => f_X6_count_11 G a1 r4 4096 (0 : Int32) (0 : Int32))
set_option maxRecDepth 100000 in
set_option maxHeartbeats 4000000 in
theorem q_X6_count (l : Launch) (D : va_G) (Y : Nat → ClassId) (ad : Nat → Nat) (G : Nat → Nat → Int32) (a1 : Int32) (r : Int32) (h : f_X6_count G a1 = some r) : RD l yX6_count cX6_count 5 (some .int) 5 D Y (wsC Y ad G) [.ref (ad 79), .int a1] r := by
  refine RD_of (by decide) (Nat.le_of_ble_eq_true rfl) (lv := [(0, .ref (ad 79)), (1, .int a1)]) rfl ?_
  intro p e s m below meth c ls F hP hr hk hl
  have F : Fx p c cX6_count 5 s m _ RX6 D Y := F
  have hx := F.1.1
  have hb := F.1.2.1
  have key11 : ∀ (x3 : Int32) (n : Nat) (x2 : Int32) (x4 : Int32) (ls : Array Slot), lv_has ls 5 [(0, .ref (ad 79)), (1, .int a1), (2, .int x2), (3, .int x3), (4, .int x4)] → f_X6_count_11 G a1  x3 n x2 x4 = some r → WD p l e 5 s m ([.ref (ad 79), .int a1] : List Value).toArray below meth c s.heap (some .int) r (F0 m 11 ls []) := by
    intro x3 n
    induction n with
    | zero => intro x2 x4 ls hl h; exact lqZ2 h
    | succ n11 ih11 =>
      have key33 : ∀ (x4 : Int32) (s33_0 : Int32) (s33_1 : Int32) (ls : Array Slot), lv_has ls 5 [(0, .ref (ad 79)), (1, .int a1), (3, .int x3), (4, .int x4)] → f_X6_count_33 G a1 (f_X6_count_11 G a1  x3 n11) x3 x4 s33_0 s33_1 = some r → WD p l e 5 s m ([.ref (ad 79), .int a1] : List Value).toArray below meth c s.heap (some .int) r (F0 m 33 ls [.int s33_0, .int s33_1]) := by
        intro x4 s33_0 s33_1 ls hl h
        refine lv_iadd hx hb dX6_count_33 ?_
        refine lv_istore_n (lv' := [(2, .int ((s33_1 + s33_0))), (0, .ref (ad 79)), (1, .int a1), (3, .int x3), (4, .int x4)]) hx hb dX6_count_34 rfl hl (by decide) rfl (fun ls hl => ?_)
        refine lv_iinc (v := (x4 + 1)) (lv' := [(4, .int ((x4 + 1))), (2, .int ((s33_1 + s33_0))), (0, .ref (ad 79)), (1, .int a1), (3, .int x3)]) hx hb dX6_count_35 hl (k := 4) rfl rfl (by decide) rfl (fun ls hl => ?_)
        refine lv_goto (tgt := 11) hx hb dX6_count_38 (by decide) ?_
        exact ih11 (s33_1 + s33_0) (x4 + 1) ls (lv_sub hl [2, 3, 1, 4, 0] rfl) h
      intro x2 x4 ls hl h
      have h := lqS2 h
      refine lv_iload hx hb dX6_count_11 (lv_at hl 4 rfl) ?_
      refine lv_iload_n hx hb dX6_count_13 rfl (lv_at hl 3 rfl) ?_
      refine lv_icmp_ge (tgt := 41) hx hb dX6_count_14 (by decide) (fun c1 => ?_) (fun c1 => ?_)
      · have h := ifT h c1
        refine lv_iload_n hx hb dX6_count_41 rfl (lv_at hl 2 rfl) ?_
        exact rd_end F hr hk rfl h dX6_count_42
      · have h := ifF h c1
        refine lv_iload_n hx hb dX6_count_17 rfl (lv_at hl 2 rfl) ?_
        refine lv_aload_n hx hb dX6_count_18 rfl (lv_at hl 0 rfl) ?_
        refine lv_iload_n hx hb dX6_count_19 rfl (lv_at hl 1 rfl) ?_
        refine lv_iload hx hb dX6_count_20 (lv_at hl 4 rfl) ?_
        obtain ⟨r2, e2, h⟩ := bsome h
        refine rd_V F hP k_X6_isFault mw_851 79 7 rfl (wsW_get 79 (by decide)) (q_X6_isFault l D Y ad G a1 x4 r2 e2) rfl hl.1 ⟨Nat.le_of_ble_eq_true rfl, Nat.le_of_ble_eq_true rfl⟩ (rest := [.int x2]) rfl (Nat.le_of_ble_eq_true rfl) ⟨Nat.le_of_ble_eq_true rfl, Nat.le_of_ble_eq_true rfl⟩ dX6_count_22 (fun o2 => ?_)
        refine lv_if_eq (tgt := 32) hx hb dX6_count_25 (by decide) (fun c3 => ?_) (fun c3 => ?_)
        · have h := ifT h c3
          refine lv_iconst (v := 0) hx hb dX6_count_32 (by decide) ?_
          exact key33 x4 (0 : Int32) x2 ls (lv_sub hl [0, 1, 3, 4] rfl) h
        · have h := ifF h c3
          refine lv_iconst (v := 1) hx hb dX6_count_28 (by decide) ?_
          refine lv_goto (tgt := 33) hx hb dX6_count_29 (by decide) ?_
          exact key33 x4 (1 : Int32) x2 ls (lv_sub hl [0, 1, 3, 4] rfl) h
  refine lv_iconst (v := 0) hx hb dX6_count_0 (by decide) ?_
  refine lv_istore_n (lv' := [(2, .int ((0 : Int32))), (0, .ref (ad 79)), (1, .int a1)]) hx hb dX6_count_1 rfl hl (by decide) rfl (fun ls hl => ?_)
  refine lv_aload_n hx hb dX6_count_2 rfl (lv_at hl 1 rfl) ?_
  refine lv_iload_n hx hb dX6_count_3 rfl (lv_at hl 2 rfl) ?_
  obtain ⟨r4, e4, h⟩ := bsome h
  refine rd_V F hP k_X6_places mw_845 79 7 rfl (wsW_get 79 (by decide)) (q_X6_places l D Y ad G a1 r4 e4) rfl hl.1 ⟨Nat.le_of_ble_eq_true rfl, Nat.le_of_ble_eq_true rfl⟩ (rest := []) rfl (Nat.le_of_ble_eq_true rfl) ⟨Nat.le_of_ble_eq_true rfl, Nat.le_of_ble_eq_true rfl⟩ dX6_count_4 (fun o4 => ?_)
  refine lv_istore_n (lv' := [(3, .int r4), (2, .int ((0 : Int32))), (0, .ref (ad 79)), (1, .int a1)]) hx hb dX6_count_7 rfl hl (by decide) rfl (fun ls hl => ?_)
  refine lv_iconst (v := 0) hx hb dX6_count_8 (by decide) ?_
  refine lv_istore (lv' := [(4, .int ((0 : Int32))), (3, .int r4), (2, .int ((0 : Int32))), (0, .ref (ad 79)), (1, .int a1)]) hx hb dX6_count_9 hl (by decide) rfl (fun ls hl => ?_)
  exact key11 r4 4096 (0 : Int32) (0 : Int32) ls (lv_sub hl [3, 4, 2, 1, 0] rfl) h
def f_X6_first_8 (G : Nat → Nat → Int32) (a1 : Int32) (x2 : Int32) (n : Nat) (y3 : Int32) : Option Int32 := lq1 (fun (k8 : Int32 → Option Int32) (x3 : Int32) => (if x2 ≤ x3 then some (-1 : Int32) else ((f_X6_isFault G a1 x3).bind fun r2 => (if r2 = 0 then k8 (x3 + 1) else some x3)))) n y3
def f_X6_first (G : Nat → Nat → Int32) (a1 : Int32) : Option Int32 := ((f_X6_places G a1).bind fun r4 => f_X6_first_8 G a1 r4 4096 (0 : Int32))
set_option maxRecDepth 100000 in
set_option maxHeartbeats 4000000 in
theorem q_X6_first (l : Launch) (D : va_G) (Y : Nat → ClassId) (ad : Nat → Nat) (G : Nat → Nat → Int32) (a1 : Int32) (r : Int32) (h : f_X6_first G a1 = some r) : RD l yX6_first cX6_first 4 (some .int) 5 D Y (wsC Y ad G) [.ref (ad 79), .int a1] r := by
  refine RD_of (by decide) (Nat.le_of_ble_eq_true rfl) (lv := [(0, .ref (ad 79)), (1, .int a1)]) rfl ?_
  intro p e s m below meth c ls F hP hr hk hl
  have F : Fx p c cX6_first 4 s m _ RX6 D Y := F
  have hx := F.1.1
  have hb := F.1.2.1
  have key8 : ∀ (x2 : Int32) (n : Nat) (x3 : Int32) (ls : Array Slot), lv_has ls 4 [(0, .ref (ad 79)), (1, .int a1), (2, .int x2), (3, .int x3)] → f_X6_first_8 G a1  x2 n x3 = some r → WD p l e 5 s m ([.ref (ad 79), .int a1] : List Value).toArray below meth c s.heap (some .int) r (F0 m 8 ls []) := by
    intro x2 n
    induction n with
    | zero => intro x3 ls hl h; exact lqZ1 h
    | succ n8 ih8 =>
      intro x3 ls hl h
      have h := lqS1 h
      refine lv_iload_n hx hb dX6_first_8 rfl (lv_at hl 3 rfl) ?_
      refine lv_iload_n hx hb dX6_first_9 rfl (lv_at hl 2 rfl) ?_
      refine lv_icmp_ge (tgt := 30) hx hb dX6_first_10 (by decide) (fun c1 => ?_) (fun c1 => ?_)
      · have h := ifT h c1
        refine lv_iconst (v := -1) hx hb dX6_first_30 (by decide) ?_
        exact rd_end F hr hk rfl h dX6_first_31
      · have h := ifF h c1
        refine lv_aload_n hx hb dX6_first_13 rfl (lv_at hl 0 rfl) ?_
        refine lv_iload_n hx hb dX6_first_14 rfl (lv_at hl 1 rfl) ?_
        refine lv_iload_n hx hb dX6_first_15 rfl (lv_at hl 3 rfl) ?_
        obtain ⟨r2, e2, h⟩ := bsome h
        refine rd_V F hP k_X6_isFault mw_851 79 7 rfl (wsW_get 79 (by decide)) (q_X6_isFault l D Y ad G a1 x3 r2 e2) rfl hl.1 ⟨Nat.le_of_ble_eq_true rfl, Nat.le_of_ble_eq_true rfl⟩ (rest := []) rfl (Nat.le_of_ble_eq_true rfl) ⟨Nat.le_of_ble_eq_true rfl, Nat.le_of_ble_eq_true rfl⟩ dX6_first_16 (fun o2 => ?_)
        refine lv_if_eq (tgt := 24) hx hb dX6_first_19 (by decide) (fun c3 => ?_) (fun c3 => ?_)
        · have h := ifT h c3
          refine lv_iinc (v := (x3 + 1)) (lv' := [(3, .int ((x3 + 1))), (0, .ref (ad 79)), (1, .int a1), (2, .int x2)]) hx hb dX6_first_24 hl (k := 3) rfl rfl (by decide) rfl (fun ls hl => ?_)
          refine lv_goto (tgt := 8) hx hb dX6_first_27 (by decide) ?_
          exact ih8 (x3 + 1) ls (lv_sub hl [1, 2, 3, 0] rfl) h
        · have h := ifF h c3
          refine lv_iload_n hx hb dX6_first_22 rfl (lv_at hl 3 rfl) ?_
          exact rd_end F hr hk rfl h dX6_first_23
  refine lv_aload_n hx hb dX6_first_0 rfl (lv_at hl 0 rfl) ?_
  refine lv_iload_n hx hb dX6_first_1 rfl (lv_at hl 1 rfl) ?_
  obtain ⟨r4, e4, h⟩ := bsome h
  refine rd_V F hP k_X6_places mw_845 79 7 rfl (wsW_get 79 (by decide)) (q_X6_places l D Y ad G a1 r4 e4) rfl hl.1 ⟨Nat.le_of_ble_eq_true rfl, Nat.le_of_ble_eq_true rfl⟩ (rest := []) rfl (Nat.le_of_ble_eq_true rfl) ⟨Nat.le_of_ble_eq_true rfl, Nat.le_of_ble_eq_true rfl⟩ dX6_first_2 (fun o4 => ?_)
  refine lv_istore_n (lv' := [(2, .int r4), (0, .ref (ad 79)), (1, .int a1)]) hx hb dX6_first_5 rfl hl (by decide) rfl (fun ls hl => ?_)
  refine lv_iconst (v := 0) hx hb dX6_first_6 (by decide) ?_
  refine lv_istore_n (lv' := [(3, .int ((0 : Int32))), (2, .int r4), (0, .ref (ad 79)), (1, .int a1)]) hx hb dX6_first_7 rfl hl (by decide) rfl (fun ls hl => ?_)
  exact key8 r4 4096 (0 : Int32) ls (lv_sub hl [2, 3, 1, 0] rfl) h
def f_X6_countAll_4 (G : Nat → Nat → Int32) (n : Nat) (y1 : Int32) (y2 : Int32) : Option Int32 := lq2 (fun (k4 : Int32 → Int32 → Option Int32) (x1 : Int32) (x2 : Int32) => (if (4 : Int32) < x2 then some x1 else ((f_X6_count G x2).bind fun r2 => k4 (x1 + r2) (x2 + 1)))) n y1 y2
def f_X6_countAll (G : Nat → Nat → Int32) : Option Int32 := f_X6_countAll_4 G 4096 (0 : Int32) (1 : Int32)
set_option maxRecDepth 100000 in
set_option maxHeartbeats 4000000 in
theorem q_X6_countAll (l : Launch) (D : va_G) (Y : Nat → ClassId) (ad : Nat → Nat) (G : Nat → Nat → Int32) (r : Int32) (h : f_X6_countAll G  = some r) : RD l yX6_countAll cX6_countAll 3 (some .int) 6 D Y (wsC Y ad G) [.ref (ad 79)] r := by
  refine RD_of (by decide) (Nat.le_of_ble_eq_true rfl) (lv := [(0, .ref (ad 79))]) rfl ?_
  intro p e s m below meth c ls F hP hr hk hl
  have F : Fx p c cX6_countAll 3 s m _ RX6 D Y := F
  have hx := F.1.1
  have hb := F.1.2.1
  have key4 : ∀ (n : Nat) (x1 : Int32) (x2 : Int32) (ls : Array Slot), lv_has ls 3 [(0, .ref (ad 79)), (1, .int x1), (2, .int x2)] → f_X6_countAll_4 G   n x1 x2 = some r → WD p l e 6 s m ([.ref (ad 79)] : List Value).toArray below meth c s.heap (some .int) r (F0 m 4 ls []) := by
    intro  n
    induction n with
    | zero => intro x1 x2 ls hl h; exact lqZ2 h
    | succ n4 ih4 =>
      intro x1 x2 ls hl h
      have h := lqS2 h
      refine lv_iload_n hx hb dX6_countAll_4 rfl (lv_at hl 2 rfl) ?_
      refine lv_iconst (v := 4) hx hb dX6_countAll_5 (by decide) ?_
      refine lv_icmp_gt (tgt := 23) hx hb dX6_countAll_6 (by decide) (fun c1 => ?_) (fun c1 => ?_)
      · have h := ifT h c1
        refine lv_iload_n hx hb dX6_countAll_23 rfl (lv_at hl 1 rfl) ?_
        exact rd_end F hr hk rfl h dX6_countAll_24
      · have h := ifF h c1
        refine lv_iload_n hx hb dX6_countAll_9 rfl (lv_at hl 1 rfl) ?_
        refine lv_aload_n hx hb dX6_countAll_10 rfl (lv_at hl 0 rfl) ?_
        refine lv_iload_n hx hb dX6_countAll_11 rfl (lv_at hl 2 rfl) ?_
        obtain ⟨r2, e2, h⟩ := bsome h
        refine rd_V F hP k_X6_count mw_900 79 7 rfl (wsW_get 79 (by decide)) (q_X6_count l D Y ad G x2 r2 e2) rfl hl.1 ⟨Nat.le_of_ble_eq_true rfl, Nat.le_of_ble_eq_true rfl⟩ (rest := [.int x1]) rfl (Nat.le_of_ble_eq_true rfl) ⟨Nat.le_of_ble_eq_true rfl, Nat.le_of_ble_eq_true rfl⟩ dX6_countAll_12 (fun o2 => ?_)
        refine lv_iadd hx hb dX6_countAll_15 ?_
        refine lv_istore_n (lv' := [(1, .int ((x1 + r2))), (0, .ref (ad 79)), (2, .int x2)]) hx hb dX6_countAll_16 rfl hl (by decide) rfl (fun ls hl => ?_)
        refine lv_iinc (v := (x2 + 1)) (lv' := [(2, .int ((x2 + 1))), (1, .int ((x1 + r2))), (0, .ref (ad 79))]) hx hb dX6_countAll_17 hl (k := 2) rfl rfl (by decide) rfl (fun ls hl => ?_)
        refine lv_goto (tgt := 4) hx hb dX6_countAll_20 (by decide) ?_
        exact ih4 (x1 + r2) (x2 + 1) ls (lv_sub hl [2, 1, 0] rfl) h
  refine lv_iconst (v := 0) hx hb dX6_countAll_0 (by decide) ?_
  refine lv_istore_n (lv' := [(1, .int ((0 : Int32))), (0, .ref (ad 79))]) hx hb dX6_countAll_1 rfl hl (by decide) rfl (fun ls hl => ?_)
  refine lv_iconst (v := 1) hx hb dX6_countAll_2 (by decide) ?_
  refine lv_istore_n (lv' := [(2, .int ((1 : Int32))), (1, .int ((0 : Int32))), (0, .ref (ad 79))]) hx hb dX6_countAll_3 rfl hl (by decide) rfl (fun ls hl => ?_)
  exact key4 4096 (0 : Int32) (1 : Int32) ls (lv_sub hl [2, 1, 0] rfl) h
def f_X6_pitchesByBeats_160 (G : Nat → Nat → Int32) (a1 : Int32) (k19 : Int32 → Int32 → Int32 → Int32 → Option Int32) (x5 : Int32) (x2 : Int32) (x3 : Int32) (x4 : Int32) (x6 : Int32) : Option Int32 := k19 x2 x3 x4 (x6 + 1)
def f_X6_pitchesByBeats_152 (G : Nat → Nat → Int32) (a1 : Int32) (k19 : Int32 → Int32 → Int32 → Int32 → Option Int32) (x5 : Int32) (x3 : Int32) (x6 : Int32) (x8 : Int32) (s152_0 : Int32) (s152_1 : Int32) : Option Int32 := f_X6_pitchesByBeats_160 G a1 k19 x5 (s152_1 + s152_0) x8 x3 x6
def f_X6_pitchesByBeats_151 (G : Nat → Nat → Int32) (a1 : Int32) (k19 : Int32 → Int32 → Int32 → Int32 → Option Int32) (x5 : Int32) (x3 : Int32) (x6 : Int32) (x8 : Int32) (s151_0 : Int32) : Option Int32 := f_X6_pitchesByBeats_152 G a1 k19 x5 x3 x6 x8 (0 : Int32) s151_0
def f_X6_pitchesByBeats_147 (G : Nat → Nat → Int32) (a1 : Int32) (k19 : Int32 → Int32 → Int32 → Int32 → Option Int32) (x5 : Int32) (x3 : Int32) (x6 : Int32) (x8 : Int32) (s147_0 : Int32) : Option Int32 := f_X6_pitchesByBeats_152 G a1 k19 x5 x3 x6 x8 (1 : Int32) s147_0
def f_X6_pitchesByBeats_126 (G : Nat → Nat → Int32) (a1 : Int32) (k19 : Int32 → Int32 → Int32 → Int32 → Option Int32) (x5 : Int32) (x2 : Int32) (x3 : Int32) (x6 : Int32) (x8 : Int32) (x9 : Int32) (s126_0 : Int32) : Option Int32 := (if a1 = (1 : Int32) then (if x9 = 0 then f_X6_pitchesByBeats_151 G a1 k19 x5 x3 x6 x8 x2 else f_X6_pitchesByBeats_147 G a1 k19 x5 x3 x6 x8 x2) else (if s126_0 = 0 then f_X6_pitchesByBeats_151 G a1 k19 x5 x3 x6 x8 x2 else f_X6_pitchesByBeats_147 G a1 k19 x5 x3 x6 x8 x2))
def f_X6_pitchesByBeats_125 (G : Nat → Nat → Int32) (a1 : Int32) (k19 : Int32 → Int32 → Int32 → Int32 → Option Int32) (x5 : Int32) (x2 : Int32) (x3 : Int32) (x6 : Int32) (x8 : Int32) (x9 : Int32) : Option Int32 := f_X6_pitchesByBeats_126 G a1 k19 x5 x2 x3 x6 x8 x9 (0 : Int32)
def f_X6_pitchesByBeats_106 (G : Nat → Nat → Int32) (a1 : Int32) (k19 : Int32 → Int32 → Int32 → Int32 → Option Int32) (x5 : Int32) (x2 : Int32) (x3 : Int32) (x4 : Int32) (x6 : Int32) (x8 : Int32) (s106_0 : Int32) : Option Int32 := (if x8 = x3 then (if x8 = x4 then f_X6_pitchesByBeats_126 G a1 k19 x5 x2 x3 x6 x8 s106_0 (1 : Int32) else f_X6_pitchesByBeats_125 G a1 k19 x5 x2 x3 x6 x8 s106_0) else f_X6_pitchesByBeats_125 G a1 k19 x5 x2 x3 x6 x8 s106_0)
def f_X6_pitchesByBeats_105 (G : Nat → Nat → Int32) (a1 : Int32) (k19 : Int32 → Int32 → Int32 → Int32 → Option Int32) (x5 : Int32) (x2 : Int32) (x3 : Int32) (x4 : Int32) (x6 : Int32) (x8 : Int32) : Option Int32 := f_X6_pitchesByBeats_106 G a1 k19 x5 x2 x3 x4 x6 x8 (0 : Int32)
def f_X6_pitchesByBeats_19 (G : Nat → Nat → Int32) (a1 : Int32) (x5 : Int32) (n : Nat) (y2 : Int32) (y3 : Int32) (y4 : Int32) (y6 : Int32) : Option Int32 := lq4 (fun (k19 : Int32 → Int32 → Int32 → Int32 → Option Int32) (x2 : Int32) (x3 : Int32) (x4 : Int32) (x6 : Int32) => (if x5 ≤ x6 then some x2 else ((f_X5_soundAt G x6).bind fun r7 => ((f_X5_soundAt G (x6 - (1 : Int32))).bind fun r8 => (if r7 = r8 then f_X6_pitchesByBeats_160 G a1 k19 x5 x2 x3 x4 x6 else ((f_X5_isRest G r7).bind fun r10 => (if r10 = 0 then ((f_X5_pitchOf G r7).bind fun r12 => (if x3 = (-1 : Int32) then f_X6_pitchesByBeats_105 G a1 k19 x5 x2 x3 x4 x6 r12 else ((f_X5_limitNow G ).bind fun r14 => (if (abs32 (r12 - x3)) ≤ r14 then f_X6_pitchesByBeats_105 G a1 k19 x5 x2 x3 x4 x6 r12 else f_X6_pitchesByBeats_106 G a1 k19 x5 x2 x3 x4 x6 r12 (1 : Int32))))) else f_X6_pitchesByBeats_160 G a1 k19 x5 x2 x3 x4 x6))))))) n y2 y3 y4 y6
def f_X6_pitchesByBeats (G : Nat → Nat → Int32) (a1 : Int32) : Option Int32 := ((f_X5_filledBeats G ).bind fun r16 => f_X6_pitchesByBeats_19 G a1 r16 4096 (0 : Int32) (-1 : Int32) (-1 : Int32) (0 : Int32))
set_option maxRecDepth 100000 in
set_option maxHeartbeats 4000000 in
theorem q_X6_pitchesByBeats (l : Launch) (D : va_G) (Y : Nat → ClassId) (ad : Nat → Nat) (G : Nat → Nat → Int32) (a1 : Int32) (r : Int32) (h : f_X6_pitchesByBeats G a1 = some r) : RD l yX6_pitchesByBeats cX6_pitchesByBeats 11 (some .int) 3 D Y (wsC Y ad G) [.ref (ad 79), .int a1] r := by
  refine RD_of (by decide) (Nat.le_of_ble_eq_true rfl) (lv := [(0, .ref (ad 79)), (1, .int a1)]) rfl ?_
  intro p e s m below meth c ls F hP hr hk hl
  have F : Fx p c cX6_pitchesByBeats 11 s m _ RX6 D Y := F
  have hx := F.1.1
  have hb := F.1.2.1
  have key19 : ∀ (x5 : Int32) (n : Nat) (x2 : Int32) (x3 : Int32) (x4 : Int32) (x6 : Int32) (ls : Array Slot), lv_has ls 11 [(0, .ref (ad 79)), (1, .int a1), (2, .int x2), (3, .int x3), (4, .int x4), (5, .int x5), (6, .int x6)] → f_X6_pitchesByBeats_19 G a1  x5 n x2 x3 x4 x6 = some r → WD p l e 3 s m ([.ref (ad 79), .int a1] : List Value).toArray below meth c s.heap (some .int) r (F0 m 19 ls []) := by
    intro x5 n
    induction n with
    | zero => intro x2 x3 x4 x6 ls hl h; exact lqZ4 h
    | succ n19 ih19 =>
      have key160 : ∀ (x2 : Int32) (x3 : Int32) (x4 : Int32) (x6 : Int32) (ls : Array Slot), lv_has ls 11 [(0, .ref (ad 79)), (1, .int a1), (2, .int x2), (3, .int x3), (4, .int x4), (5, .int x5), (6, .int x6)] → f_X6_pitchesByBeats_160 G a1 (f_X6_pitchesByBeats_19 G a1  x5 n19) x5 x2 x3 x4 x6 = some r → WD p l e 3 s m ([.ref (ad 79), .int a1] : List Value).toArray below meth c s.heap (some .int) r (F0 m 160 ls []) := by
        intro x2 x3 x4 x6 ls hl h
        refine lv_iinc (v := (x6 + 1)) (lv' := [(6, .int ((x6 + 1))), (0, .ref (ad 79)), (1, .int a1), (2, .int x2), (3, .int x3), (4, .int x4), (5, .int x5)]) hx hb dX6_pitchesByBeats_160 hl (k := 6) rfl rfl (by decide) rfl (fun ls hl => ?_)
        refine lv_goto (tgt := 19) hx hb dX6_pitchesByBeats_163 (by decide) ?_
        exact ih19 x2 x3 x4 (x6 + 1) ls (lv_sub hl [1, 2, 3, 4, 5, 6, 0] rfl) h
      have key152 : ∀ (x3 : Int32) (x6 : Int32) (x8 : Int32) (s152_0 : Int32) (s152_1 : Int32) (ls : Array Slot), lv_has ls 11 [(0, .ref (ad 79)), (1, .int a1), (3, .int x3), (5, .int x5), (6, .int x6), (8, .int x8)] → f_X6_pitchesByBeats_152 G a1 (f_X6_pitchesByBeats_19 G a1  x5 n19) x5 x3 x6 x8 s152_0 s152_1 = some r → WD p l e 3 s m ([.ref (ad 79), .int a1] : List Value).toArray below meth c s.heap (some .int) r (F0 m 152 ls [.int s152_0, .int s152_1]) := by
        intro x3 x6 x8 s152_0 s152_1 ls hl h
        refine lv_iadd hx hb dX6_pitchesByBeats_152 ?_
        refine lv_istore_n (lv' := [(2, .int ((s152_1 + s152_0))), (0, .ref (ad 79)), (1, .int a1), (3, .int x3), (5, .int x5), (6, .int x6), (8, .int x8)]) hx hb dX6_pitchesByBeats_153 rfl hl (by decide) rfl (fun ls hl => ?_)
        refine lv_iload_n hx hb dX6_pitchesByBeats_154 rfl (lv_at hl 3 rfl) ?_
        refine lv_istore (lv' := [(4, .int x3), (2, .int ((s152_1 + s152_0))), (0, .ref (ad 79)), (1, .int a1), (3, .int x3), (5, .int x5), (6, .int x6), (8, .int x8)]) hx hb dX6_pitchesByBeats_155 hl (by decide) rfl (fun ls hl => ?_)
        refine lv_iload hx hb dX6_pitchesByBeats_157 (lv_at hl 7 rfl) ?_
        refine lv_istore_n (lv' := [(3, .int x8), (4, .int x3), (2, .int ((s152_1 + s152_0))), (0, .ref (ad 79)), (1, .int a1), (5, .int x5), (6, .int x6), (8, .int x8)]) hx hb dX6_pitchesByBeats_159 rfl hl (by decide) rfl (fun ls hl => ?_)
        exact key160 (s152_1 + s152_0) x8 x3 x6 ls (lv_sub hl [3, 4, 2, 0, 1, 5, 6] rfl) h
      have key151 : ∀ (x3 : Int32) (x6 : Int32) (x8 : Int32) (s151_0 : Int32) (ls : Array Slot), lv_has ls 11 [(0, .ref (ad 79)), (1, .int a1), (3, .int x3), (5, .int x5), (6, .int x6), (8, .int x8)] → f_X6_pitchesByBeats_151 G a1 (f_X6_pitchesByBeats_19 G a1  x5 n19) x5 x3 x6 x8 s151_0 = some r → WD p l e 3 s m ([.ref (ad 79), .int a1] : List Value).toArray below meth c s.heap (some .int) r (F0 m 151 ls [.int s151_0]) := by
        intro x3 x6 x8 s151_0 ls hl h
        refine lv_iconst (v := 0) hx hb dX6_pitchesByBeats_151 (by decide) ?_
        exact key152 x3 x6 x8 (0 : Int32) s151_0 ls (lv_sub hl [0, 1, 2, 3, 4, 5] rfl) h
      have key147 : ∀ (x3 : Int32) (x6 : Int32) (x8 : Int32) (s147_0 : Int32) (ls : Array Slot), lv_has ls 11 [(0, .ref (ad 79)), (1, .int a1), (3, .int x3), (5, .int x5), (6, .int x6), (8, .int x8)] → f_X6_pitchesByBeats_147 G a1 (f_X6_pitchesByBeats_19 G a1  x5 n19) x5 x3 x6 x8 s147_0 = some r → WD p l e 3 s m ([.ref (ad 79), .int a1] : List Value).toArray below meth c s.heap (some .int) r (F0 m 147 ls [.int s147_0]) := by
        intro x3 x6 x8 s147_0 ls hl h
        refine lv_iconst (v := 1) hx hb dX6_pitchesByBeats_147 (by decide) ?_
        refine lv_goto (tgt := 152) hx hb dX6_pitchesByBeats_148 (by decide) ?_
        exact key152 x3 x6 x8 (1 : Int32) s147_0 ls (lv_sub hl [0, 1, 2, 3, 4, 5] rfl) h
      have key126 : ∀ (x2 : Int32) (x3 : Int32) (x6 : Int32) (x8 : Int32) (x9 : Int32) (s126_0 : Int32) (ls : Array Slot), lv_has ls 11 [(0, .ref (ad 79)), (1, .int a1), (2, .int x2), (3, .int x3), (5, .int x5), (6, .int x6), (8, .int x8), (9, .int x9)] → f_X6_pitchesByBeats_126 G a1 (f_X6_pitchesByBeats_19 G a1  x5 n19) x5 x2 x3 x6 x8 x9 s126_0 = some r → WD p l e 3 s m ([.ref (ad 79), .int a1] : List Value).toArray below meth c s.heap (some .int) r (F0 m 126 ls [.int s126_0]) := by
        intro x2 x3 x6 x8 x9 s126_0 ls hl h
        refine lv_istore (lv' := [(10, .int s126_0), (0, .ref (ad 79)), (1, .int a1), (2, .int x2), (3, .int x3), (5, .int x5), (6, .int x6), (8, .int x8), (9, .int x9)]) hx hb dX6_pitchesByBeats_126 hl (by decide) rfl (fun ls hl => ?_)
        refine lv_iload_n hx hb dX6_pitchesByBeats_128 rfl (lv_at hl 3 rfl) ?_
        refine lv_iload_n hx hb dX6_pitchesByBeats_129 rfl (lv_at hl 2 rfl) ?_
        refine lv_iconst (v := 1) hx hb dX6_pitchesByBeats_130 (by decide) ?_
        refine lv_icmp_ne (tgt := 142) hx hb dX6_pitchesByBeats_131 (by decide) (fun c1 => ?_) (fun c1 => ?_)
        · have h := ifF h c1
          refine lv_iload hx hb dX6_pitchesByBeats_142 (lv_at hl 0 rfl) ?_
          refine lv_if_eq (tgt := 151) hx hb dX6_pitchesByBeats_144 (by decide) (fun c2 => ?_) (fun c2 => ?_)
          · have h := ifT h c2
            exact key151 x3 x6 x8 x2 ls (lv_sub hl [1, 2, 4, 5, 6, 7] rfl) h
          · have h := ifF h c2
            exact key147 x3 x6 x8 x2 ls (lv_sub hl [1, 2, 4, 5, 6, 7] rfl) h
        · have h := ifT h c1
          refine lv_iload hx hb dX6_pitchesByBeats_134 (lv_at hl 8 rfl) ?_
          refine lv_if_eq (tgt := 151) hx hb dX6_pitchesByBeats_136 (by decide) (fun c3 => ?_) (fun c3 => ?_)
          · have h := ifT h c3
            exact key151 x3 x6 x8 x2 ls (lv_sub hl [1, 2, 4, 5, 6, 7] rfl) h
          · have h := ifF h c3
            refine lv_goto (tgt := 147) hx hb dX6_pitchesByBeats_139 (by decide) ?_
            exact key147 x3 x6 x8 x2 ls (lv_sub hl [1, 2, 4, 5, 6, 7] rfl) h
      have key125 : ∀ (x2 : Int32) (x3 : Int32) (x6 : Int32) (x8 : Int32) (x9 : Int32) (ls : Array Slot), lv_has ls 11 [(0, .ref (ad 79)), (1, .int a1), (2, .int x2), (3, .int x3), (5, .int x5), (6, .int x6), (8, .int x8), (9, .int x9)] → f_X6_pitchesByBeats_125 G a1 (f_X6_pitchesByBeats_19 G a1  x5 n19) x5 x2 x3 x6 x8 x9 = some r → WD p l e 3 s m ([.ref (ad 79), .int a1] : List Value).toArray below meth c s.heap (some .int) r (F0 m 125 ls []) := by
        intro x2 x3 x6 x8 x9 ls hl h
        refine lv_iconst (v := 0) hx hb dX6_pitchesByBeats_125 (by decide) ?_
        exact key126 x2 x3 x6 x8 x9 (0 : Int32) ls (lv_sub hl [0, 1, 2, 3, 4, 5, 6, 7] rfl) h
      have key106 : ∀ (x2 : Int32) (x3 : Int32) (x4 : Int32) (x6 : Int32) (x8 : Int32) (s106_0 : Int32) (ls : Array Slot), lv_has ls 11 [(0, .ref (ad 79)), (1, .int a1), (2, .int x2), (3, .int x3), (4, .int x4), (5, .int x5), (6, .int x6), (8, .int x8)] → f_X6_pitchesByBeats_106 G a1 (f_X6_pitchesByBeats_19 G a1  x5 n19) x5 x2 x3 x4 x6 x8 s106_0 = some r → WD p l e 3 s m ([.ref (ad 79), .int a1] : List Value).toArray below meth c s.heap (some .int) r (F0 m 106 ls [.int s106_0]) := by
        intro x2 x3 x4 x6 x8 s106_0 ls hl h
        refine lv_istore (lv' := [(9, .int s106_0), (0, .ref (ad 79)), (1, .int a1), (2, .int x2), (3, .int x3), (4, .int x4), (5, .int x5), (6, .int x6), (8, .int x8)]) hx hb dX6_pitchesByBeats_106 hl (by decide) rfl (fun ls hl => ?_)
        refine lv_iload hx hb dX6_pitchesByBeats_108 (lv_at hl 8 rfl) ?_
        refine lv_iload_n hx hb dX6_pitchesByBeats_110 rfl (lv_at hl 4 rfl) ?_
        refine lv_icmp_ne (tgt := 125) hx hb dX6_pitchesByBeats_111 (by decide) (fun c4 => ?_) (fun c4 => ?_)
        · have h := ifF h c4
          exact key125 x2 x3 x6 x8 s106_0 ls (lv_sub hl [1, 2, 3, 4, 6, 7, 8, 0] rfl) h
        · have h := ifT h c4
          refine lv_iload hx hb dX6_pitchesByBeats_114 (lv_at hl 8 rfl) ?_
          refine lv_iload hx hb dX6_pitchesByBeats_116 (lv_at hl 5 rfl) ?_
          refine lv_icmp_ne (tgt := 125) hx hb dX6_pitchesByBeats_118 (by decide) (fun c5 => ?_) (fun c5 => ?_)
          · have h := ifF h c5
            exact key125 x2 x3 x6 x8 s106_0 ls (lv_sub hl [1, 2, 3, 4, 6, 7, 8, 0] rfl) h
          · have h := ifT h c5
            refine lv_iconst (v := 1) hx hb dX6_pitchesByBeats_121 (by decide) ?_
            refine lv_goto (tgt := 126) hx hb dX6_pitchesByBeats_122 (by decide) ?_
            exact key126 x2 x3 x6 x8 s106_0 (1 : Int32) ls (lv_sub hl [1, 2, 3, 4, 6, 7, 8, 0] rfl) h
      have key105 : ∀ (x2 : Int32) (x3 : Int32) (x4 : Int32) (x6 : Int32) (x8 : Int32) (ls : Array Slot), lv_has ls 11 [(0, .ref (ad 79)), (1, .int a1), (2, .int x2), (3, .int x3), (4, .int x4), (5, .int x5), (6, .int x6), (8, .int x8)] → f_X6_pitchesByBeats_105 G a1 (f_X6_pitchesByBeats_19 G a1  x5 n19) x5 x2 x3 x4 x6 x8 = some r → WD p l e 3 s m ([.ref (ad 79), .int a1] : List Value).toArray below meth c s.heap (some .int) r (F0 m 105 ls []) := by
        intro x2 x3 x4 x6 x8 ls hl h
        refine lv_iconst (v := 0) hx hb dX6_pitchesByBeats_105 (by decide) ?_
        exact key106 x2 x3 x4 x6 x8 (0 : Int32) ls (lv_sub hl [0, 1, 2, 3, 4, 5, 6, 7] rfl) h
      intro x2 x3 x4 x6 ls hl h
      have h := lqS4 h
      refine lv_iload hx hb dX6_pitchesByBeats_19 (lv_at hl 6 rfl) ?_
      refine lv_iload hx hb dX6_pitchesByBeats_21 (lv_at hl 5 rfl) ?_
      refine lv_icmp_ge (tgt := 166) hx hb dX6_pitchesByBeats_23 (by decide) (fun c6 => ?_) (fun c6 => ?_)
      · have h := ifT h c6
        refine lv_iload_n hx hb dX6_pitchesByBeats_166 rfl (lv_at hl 2 rfl) ?_
        exact rd_end F hr hk rfl h dX6_pitchesByBeats_167
      · have h := ifF h c6
        refine lv_aload_n hx hb dX6_pitchesByBeats_26 rfl (lv_at hl 0 rfl) ?_
        refine rC_79_0 F hP dX6_pitchesByBeats_27 ?_
        refine lv_iload hx hb dX6_pitchesByBeats_30 (lv_at hl 6 rfl) ?_
        obtain ⟨r7, e7, h⟩ := bsome h
        refine rd_VN F hP k_X5_soundAt mw_825 0 6 rfl (wsW_get 0 (by decide)) (q_X5_soundAt l D Y ad G x6 r7 e7) rfl hl.1 ⟨Nat.le_of_ble_eq_true rfl, Nat.le_of_ble_eq_true rfl⟩ (rest := []) rfl (Nat.le_of_ble_eq_true rfl) ⟨Nat.le_of_ble_eq_true rfl, Nat.le_of_ble_eq_true rfl⟩ dX6_pitchesByBeats_32 (fun o7 => ?_)
        refine lv_istore (lv' := [(7, .int r7), (0, .ref (ad 79)), (1, .int a1), (2, .int x2), (3, .int x3), (4, .int x4), (5, .int x5), (6, .int x6)]) hx hb dX6_pitchesByBeats_35 hl (by decide) rfl (fun ls hl => ?_)
        refine lv_iload hx hb dX6_pitchesByBeats_37 (lv_at hl 0 rfl) ?_
        refine lv_aload_n hx hb dX6_pitchesByBeats_39 rfl (lv_at hl 1 rfl) ?_
        refine rC_79_0 F hP dX6_pitchesByBeats_40 ?_
        refine lv_iload hx hb dX6_pitchesByBeats_43 (lv_at hl 7 rfl) ?_
        refine lv_iconst (v := 1) hx hb dX6_pitchesByBeats_45 (by decide) ?_
        refine lv_isub hx hb dX6_pitchesByBeats_46 ?_
        obtain ⟨r8, e8, h⟩ := bsome h
        refine rd_VN F hP k_X5_soundAt mw_825 0 6 rfl (wsW_get 0 (by decide)) (q_X5_soundAt l D Y ad G (x6 - (1 : Int32)) r8 e8) rfl hl.1 ⟨Nat.le_of_ble_eq_true rfl, Nat.le_of_ble_eq_true rfl⟩ (rest := [.int r7]) rfl (Nat.le_of_ble_eq_true rfl) ⟨Nat.le_of_ble_eq_true rfl, Nat.le_of_ble_eq_true rfl⟩ dX6_pitchesByBeats_47 (fun o8 => ?_)
        refine lv_icmp_eq (tgt := 160) hx hb dX6_pitchesByBeats_50 (by decide) (fun c9 => ?_) (fun c9 => ?_)
        · have h := ifT h c9
          exact key160 x2 x3 x4 x6 ls (lv_sub hl [1, 2, 3, 4, 5, 6, 7] rfl) h
        · have h := ifF h c9
          refine lv_aload_n hx hb dX6_pitchesByBeats_53 rfl (lv_at hl 1 rfl) ?_
          refine rC_79_0 F hP dX6_pitchesByBeats_54 ?_
          refine lv_iload hx hb dX6_pitchesByBeats_57 (lv_at hl 0 rfl) ?_
          obtain ⟨r10, e10, h⟩ := bsome h
          refine rd_VN F hP k_X5_isRest mw_826 0 6 rfl (wsW_get 0 (by decide)) (q_X5_isRest l D Y ad G r7 r10 e10) rfl hl.1 ⟨Nat.le_of_ble_eq_true rfl, Nat.le_of_ble_eq_true rfl⟩ (rest := []) rfl (Nat.le_of_ble_eq_true rfl) ⟨Nat.le_of_ble_eq_true rfl, Nat.le_of_ble_eq_true rfl⟩ dX6_pitchesByBeats_59 (fun o10 => ?_)
          refine lv_if_eq (tgt := 68) hx hb dX6_pitchesByBeats_62 (by decide) (fun c11 => ?_) (fun c11 => ?_)
          · have h := ifT h c11
            refine lv_aload_n hx hb dX6_pitchesByBeats_68 rfl (lv_at hl 1 rfl) ?_
            refine rC_79_0 F hP dX6_pitchesByBeats_69 ?_
            refine lv_iload hx hb dX6_pitchesByBeats_72 (lv_at hl 0 rfl) ?_
            obtain ⟨r12, e12, h⟩ := bsome h
            refine rd_VN F hP k_X5_pitchOf mw_831 0 6 rfl (wsW_get 0 (by decide)) (q_X5_pitchOf l D Y ad G r7 r12 e12) rfl hl.1 ⟨Nat.le_of_ble_eq_true rfl, Nat.le_of_ble_eq_true rfl⟩ (rest := []) rfl (Nat.le_of_ble_eq_true rfl) ⟨Nat.le_of_ble_eq_true rfl, Nat.le_of_ble_eq_true rfl⟩ dX6_pitchesByBeats_74 (fun o12 => ?_)
            refine lv_istore (lv' := [(8, .int r12), (7, .int r7), (0, .ref (ad 79)), (1, .int a1), (2, .int x2), (3, .int x3), (4, .int x4), (5, .int x5), (6, .int x6)]) hx hb dX6_pitchesByBeats_77 hl (by decide) rfl (fun ls hl => ?_)
            refine lv_iload_n hx hb dX6_pitchesByBeats_79 rfl (lv_at hl 5 rfl) ?_
            refine lv_iconst (v := -1) hx hb dX6_pitchesByBeats_80 (by decide) ?_
            refine lv_icmp_eq (tgt := 105) hx hb dX6_pitchesByBeats_81 (by decide) (fun c13 => ?_) (fun c13 => ?_)
            · have h := ifT h c13
              exact key105 x2 x3 x4 x6 r12 ls (lv_sub hl [2, 3, 4, 5, 6, 7, 8, 0] rfl) h
            · have h := ifF h c13
              refine lv_iload hx hb dX6_pitchesByBeats_84 (lv_at hl 0 rfl) ?_
              refine lv_iload_n hx hb dX6_pitchesByBeats_86 rfl (lv_at hl 5 rfl) ?_
              refine lv_isub hx hb dX6_pitchesByBeats_87 ?_
              refine w_abs F hl mw_832 ⟨Nat.le_of_ble_eq_true rfl, Nat.le_of_ble_eq_true rfl, Nat.le_of_ble_eq_true rfl, Nat.le_of_ble_eq_true rfl⟩ dX6_pitchesByBeats_88 ?_
              refine lv_aload_n hx hb dX6_pitchesByBeats_91 rfl (lv_at hl 2 rfl) ?_
              refine rC_79_0 F hP dX6_pitchesByBeats_92 ?_
              obtain ⟨r14, e14, h⟩ := bsome h
              refine rd_VN F hP k_X5_limitNow mw_833 0 6 rfl (wsW_get 0 (by decide)) (q_X5_limitNow l D Y ad G  r14 e14) rfl hl.1 ⟨Nat.le_of_ble_eq_true rfl, Nat.le_of_ble_eq_true rfl⟩ (rest := [.int ((abs32 (r12 - x3)))]) rfl (Nat.le_of_ble_eq_true rfl) ⟨Nat.le_of_ble_eq_true rfl, Nat.le_of_ble_eq_true rfl⟩ dX6_pitchesByBeats_95 (fun o14 => ?_)
              refine lv_icmp_le (tgt := 105) hx hb dX6_pitchesByBeats_98 (by decide) (fun c15 => ?_) (fun c15 => ?_)
              · have h := ifT h c15
                exact key105 x2 x3 x4 x6 r12 ls (lv_sub hl [2, 3, 4, 5, 6, 7, 8, 0] rfl) h
              · have h := ifF h c15
                refine lv_iconst (v := 1) hx hb dX6_pitchesByBeats_101 (by decide) ?_
                refine lv_goto (tgt := 106) hx hb dX6_pitchesByBeats_102 (by decide) ?_
                exact key106 x2 x3 x4 x6 r12 (1 : Int32) ls (lv_sub hl [2, 3, 4, 5, 6, 7, 8, 0] rfl) h
          · have h := ifF h c11
            refine lv_goto (tgt := 160) hx hb dX6_pitchesByBeats_65 (by decide) ?_
            exact key160 x2 x3 x4 x6 ls (lv_sub hl [1, 2, 3, 4, 5, 6, 7] rfl) h
  refine lv_iconst (v := 0) hx hb dX6_pitchesByBeats_0 (by decide) ?_
  refine lv_istore_n (lv' := [(2, .int ((0 : Int32))), (0, .ref (ad 79)), (1, .int a1)]) hx hb dX6_pitchesByBeats_1 rfl hl (by decide) rfl (fun ls hl => ?_)
  refine lv_iconst (v := -1) hx hb dX6_pitchesByBeats_2 (by decide) ?_
  refine lv_istore_n (lv' := [(3, .int ((-1 : Int32))), (2, .int ((0 : Int32))), (0, .ref (ad 79)), (1, .int a1)]) hx hb dX6_pitchesByBeats_3 rfl hl (by decide) rfl (fun ls hl => ?_)
  refine lv_iconst (v := -1) hx hb dX6_pitchesByBeats_4 (by decide) ?_
  refine lv_istore (lv' := [(4, .int ((-1 : Int32))), (3, .int ((-1 : Int32))), (2, .int ((0 : Int32))), (0, .ref (ad 79)), (1, .int a1)]) hx hb dX6_pitchesByBeats_5 hl (by decide) rfl (fun ls hl => ?_)
  refine lv_aload_n hx hb dX6_pitchesByBeats_7 rfl (lv_at hl 3 rfl) ?_
  refine rC_79_0 F hP dX6_pitchesByBeats_8 ?_
  obtain ⟨r16, e16, h⟩ := bsome h
  refine rd_VN F hP k_X5_filledBeats mw_823 0 6 rfl (wsW_get 0 (by decide)) (q_X5_filledBeats l D Y ad G  r16 e16) rfl hl.1 ⟨Nat.le_of_ble_eq_true rfl, Nat.le_of_ble_eq_true rfl⟩ (rest := []) rfl (Nat.le_of_ble_eq_true rfl) ⟨Nat.le_of_ble_eq_true rfl, Nat.le_of_ble_eq_true rfl⟩ dX6_pitchesByBeats_11 (fun o16 => ?_)
  refine lv_istore (lv' := [(5, .int r16), (4, .int ((-1 : Int32))), (3, .int ((-1 : Int32))), (2, .int ((0 : Int32))), (0, .ref (ad 79)), (1, .int a1)]) hx hb dX6_pitchesByBeats_14 hl (by decide) rfl (fun ls hl => ?_)
  refine lv_iconst (v := 0) hx hb dX6_pitchesByBeats_16 (by decide) ?_
  refine lv_istore (lv' := [(6, .int ((0 : Int32))), (5, .int r16), (4, .int ((-1 : Int32))), (3, .int ((-1 : Int32))), (2, .int ((0 : Int32))), (0, .ref (ad 79)), (1, .int a1)]) hx hb dX6_pitchesByBeats_17 hl (by decide) rfl (fun ls hl => ?_)
  exact key19 r16 4096 (0 : Int32) (-1 : Int32) (-1 : Int32) (0 : Int32) ls (lv_sub hl [5, 6, 4, 3, 2, 1, 0] rfl) h
def f_X6_restsAtBars_74 (G : Nat → Nat → Int32) (k12 : Int32 → Int32 → Option Int32) (x2 : Int32) (x3 : Int32) (s74_0 : Int32) (s74_1 : Int32) : Option Int32 := k12 (s74_1 + s74_0) (x3 + 1)
def f_X6_restsAtBars_73 (G : Nat → Nat → Int32) (k12 : Int32 → Int32 → Option Int32) (x2 : Int32) (x3 : Int32) (s73_0 : Int32) : Option Int32 := f_X6_restsAtBars_74 G k12 x2 x3 (0 : Int32) s73_0
def f_X6_restsAtBars_43 (G : Nat → Nat → Int32) (k12 : Int32 → Int32 → Option Int32) (x2 : Int32) (x1 : Int32) (x3 : Int32) (s43_0 : Int32) : Option Int32 := (if s43_0 = 0 then f_X6_restsAtBars_73 G k12 x2 x3 x1 else ((f_X5_soundAt G x3).bind fun r2 => ((f_X5_isRest G r2).bind fun r3 => (if r3 = 0 then f_X6_restsAtBars_73 G k12 x2 x3 x1 else f_X6_restsAtBars_74 G k12 x2 x3 (1 : Int32) x1))))
def f_X6_restsAtBars_12 (G : Nat → Nat → Int32) (x2 : Int32) (n : Nat) (y1 : Int32) (y3 : Int32) : Option Int32 := lq2 (fun (k12 : Int32 → Int32 → Option Int32) (x1 : Int32) (x3 : Int32) => (if x2 ≤ x3 then some x1 else ((f_X5_barAt G x3).bind fun r6 => ((f_X5_barAt G (x3 - (1 : Int32))).bind fun r7 => (if r6 = r7 then f_X6_restsAtBars_43 G k12 x2 x1 x3 (0 : Int32) else f_X6_restsAtBars_43 G k12 x2 x1 x3 (1 : Int32)))))) n y1 y3
def f_X6_restsAtBars (G : Nat → Nat → Int32) : Option Int32 := ((f_X5_filledBeats G ).bind fun r9 => f_X6_restsAtBars_12 G r9 4096 (0 : Int32) (0 : Int32))
set_option maxRecDepth 100000 in
set_option maxHeartbeats 4000000 in
theorem q_X6_restsAtBars (l : Launch) (D : va_G) (Y : Nat → ClassId) (ad : Nat → Nat) (G : Nat → Nat → Int32) (r : Int32) (h : f_X6_restsAtBars G  = some r) : RD l yX6_restsAtBars cX6_restsAtBars 5 (some .int) 3 D Y (wsC Y ad G) [.ref (ad 79)] r := by
  refine RD_of (by decide) (Nat.le_of_ble_eq_true rfl) (lv := [(0, .ref (ad 79))]) rfl ?_
  intro p e s m below meth c ls F hP hr hk hl
  have F : Fx p c cX6_restsAtBars 5 s m _ RX6 D Y := F
  have hx := F.1.1
  have hb := F.1.2.1
  have key12 : ∀ (x2 : Int32) (n : Nat) (x1 : Int32) (x3 : Int32) (ls : Array Slot), lv_has ls 5 [(0, .ref (ad 79)), (1, .int x1), (2, .int x2), (3, .int x3)] → f_X6_restsAtBars_12 G   x2 n x1 x3 = some r → WD p l e 3 s m ([.ref (ad 79)] : List Value).toArray below meth c s.heap (some .int) r (F0 m 12 ls []) := by
    intro x2 n
    induction n with
    | zero => intro x1 x3 ls hl h; exact lqZ2 h
    | succ n12 ih12 =>
      have key74 : ∀ (x3 : Int32) (s74_0 : Int32) (s74_1 : Int32) (ls : Array Slot), lv_has ls 5 [(0, .ref (ad 79)), (2, .int x2), (3, .int x3)] → f_X6_restsAtBars_74 G  (f_X6_restsAtBars_12 G   x2 n12) x2 x3 s74_0 s74_1 = some r → WD p l e 3 s m ([.ref (ad 79)] : List Value).toArray below meth c s.heap (some .int) r (F0 m 74 ls [.int s74_0, .int s74_1]) := by
        intro x3 s74_0 s74_1 ls hl h
        refine lv_iadd hx hb dX6_restsAtBars_74 ?_
        refine lv_istore_n (lv' := [(1, .int ((s74_1 + s74_0))), (0, .ref (ad 79)), (2, .int x2), (3, .int x3)]) hx hb dX6_restsAtBars_75 rfl hl (by decide) rfl (fun ls hl => ?_)
        refine lv_iinc (v := (x3 + 1)) (lv' := [(3, .int ((x3 + 1))), (1, .int ((s74_1 + s74_0))), (0, .ref (ad 79)), (2, .int x2)]) hx hb dX6_restsAtBars_76 hl (k := 3) rfl rfl (by decide) rfl (fun ls hl => ?_)
        refine lv_goto (tgt := 12) hx hb dX6_restsAtBars_79 (by decide) ?_
        exact ih12 (s74_1 + s74_0) (x3 + 1) ls (lv_sub hl [2, 1, 3, 0] rfl) h
      have key73 : ∀ (x3 : Int32) (s73_0 : Int32) (ls : Array Slot), lv_has ls 5 [(0, .ref (ad 79)), (2, .int x2), (3, .int x3)] → f_X6_restsAtBars_73 G  (f_X6_restsAtBars_12 G   x2 n12) x2 x3 s73_0 = some r → WD p l e 3 s m ([.ref (ad 79)] : List Value).toArray below meth c s.heap (some .int) r (F0 m 73 ls [.int s73_0]) := by
        intro x3 s73_0 ls hl h
        refine lv_iconst (v := 0) hx hb dX6_restsAtBars_73 (by decide) ?_
        exact key74 x3 (0 : Int32) s73_0 ls (lv_sub hl [0, 1, 2] rfl) h
      have key43 : ∀ (x1 : Int32) (x3 : Int32) (s43_0 : Int32) (ls : Array Slot), lv_has ls 5 [(0, .ref (ad 79)), (1, .int x1), (2, .int x2), (3, .int x3)] → f_X6_restsAtBars_43 G  (f_X6_restsAtBars_12 G   x2 n12) x2 x1 x3 s43_0 = some r → WD p l e 3 s m ([.ref (ad 79)] : List Value).toArray below meth c s.heap (some .int) r (F0 m 43 ls [.int s43_0]) := by
        intro x1 x3 s43_0 ls hl h
        refine lv_istore (lv' := [(4, .int s43_0), (0, .ref (ad 79)), (1, .int x1), (2, .int x2), (3, .int x3)]) hx hb dX6_restsAtBars_43 hl (by decide) rfl (fun ls hl => ?_)
        refine lv_iload_n hx hb dX6_restsAtBars_45 rfl (lv_at hl 2 rfl) ?_
        refine lv_iload hx hb dX6_restsAtBars_46 (lv_at hl 0 rfl) ?_
        refine lv_if_eq (tgt := 73) hx hb dX6_restsAtBars_48 (by decide) (fun c1 => ?_) (fun c1 => ?_)
        · have h := ifT h c1
          exact key73 x3 x1 ls (lv_sub hl [1, 3, 4] rfl) h
        · have h := ifF h c1
          refine lv_aload_n hx hb dX6_restsAtBars_51 rfl (lv_at hl 1 rfl) ?_
          refine rC_79_0 F hP dX6_restsAtBars_52 ?_
          refine lv_aload_n hx hb dX6_restsAtBars_55 rfl (lv_at hl 1 rfl) ?_
          refine rC_79_0 F hP dX6_restsAtBars_56 ?_
          refine lv_iload_n hx hb dX6_restsAtBars_59 rfl (lv_at hl 4 rfl) ?_
          obtain ⟨r2, e2, h⟩ := bsome h
          refine rd_VN F hP k_X5_soundAt mw_825 0 6 rfl (wsW_get 0 (by decide)) (q_X5_soundAt l D Y ad G x3 r2 e2) rfl hl.1 ⟨Nat.le_of_ble_eq_true rfl, Nat.le_of_ble_eq_true rfl⟩ (rest := [.ref (ad 0), .int x1]) rfl (Nat.le_of_ble_eq_true rfl) ⟨Nat.le_of_ble_eq_true rfl, Nat.le_of_ble_eq_true rfl⟩ dX6_restsAtBars_60 (fun o2 => ?_)
          obtain ⟨r3, e3, h⟩ := bsome h
          refine rd_VN F hP k_X5_isRest mw_826 0 6 rfl (wsW_get 0 (by decide)) (q_X5_isRest l D Y ad G r2 r3 e3) rfl hl.1 ⟨Nat.le_of_ble_eq_true rfl, Nat.le_of_ble_eq_true rfl⟩ (rest := [.int x1]) rfl (Nat.le_of_ble_eq_true rfl) ⟨Nat.le_of_ble_eq_true rfl, Nat.le_of_ble_eq_true rfl⟩ dX6_restsAtBars_63 (fun o3 => ?_)
          refine lv_if_eq (tgt := 73) hx hb dX6_restsAtBars_66 (by decide) (fun c4 => ?_) (fun c4 => ?_)
          · have h := ifT h c4
            exact key73 x3 x1 ls (lv_sub hl [1, 3, 4] rfl) h
          · have h := ifF h c4
            refine lv_iconst (v := 1) hx hb dX6_restsAtBars_69 (by decide) ?_
            refine lv_goto (tgt := 74) hx hb dX6_restsAtBars_70 (by decide) ?_
            exact key74 x3 (1 : Int32) x1 ls (lv_sub hl [1, 3, 4] rfl) h
      intro x1 x3 ls hl h
      have h := lqS2 h
      refine lv_iload_n hx hb dX6_restsAtBars_12 rfl (lv_at hl 3 rfl) ?_
      refine lv_iload_n hx hb dX6_restsAtBars_13 rfl (lv_at hl 2 rfl) ?_
      refine lv_icmp_ge (tgt := 82) hx hb dX6_restsAtBars_14 (by decide) (fun c5 => ?_) (fun c5 => ?_)
      · have h := ifT h c5
        refine lv_iload_n hx hb dX6_restsAtBars_82 rfl (lv_at hl 1 rfl) ?_
        exact rd_end F hr hk rfl h dX6_restsAtBars_83
      · have h := ifF h c5
        refine lv_aload_n hx hb dX6_restsAtBars_17 rfl (lv_at hl 0 rfl) ?_
        refine rC_79_0 F hP dX6_restsAtBars_18 ?_
        refine lv_iload_n hx hb dX6_restsAtBars_21 rfl (lv_at hl 3 rfl) ?_
        obtain ⟨r6, e6, h⟩ := bsome h
        refine rd_VN F hP k_X5_barAt mw_824 0 6 rfl (wsW_get 0 (by decide)) (q_X5_barAt l D Y ad G x3 r6 e6) rfl hl.1 ⟨Nat.le_of_ble_eq_true rfl, Nat.le_of_ble_eq_true rfl⟩ (rest := []) rfl (Nat.le_of_ble_eq_true rfl) ⟨Nat.le_of_ble_eq_true rfl, Nat.le_of_ble_eq_true rfl⟩ dX6_restsAtBars_22 (fun o6 => ?_)
        refine lv_aload_n hx hb dX6_restsAtBars_25 rfl (lv_at hl 0 rfl) ?_
        refine rC_79_0 F hP dX6_restsAtBars_26 ?_
        refine lv_iload_n hx hb dX6_restsAtBars_29 rfl (lv_at hl 3 rfl) ?_
        refine lv_iconst (v := 1) hx hb dX6_restsAtBars_30 (by decide) ?_
        refine lv_isub hx hb dX6_restsAtBars_31 ?_
        obtain ⟨r7, e7, h⟩ := bsome h
        refine rd_VN F hP k_X5_barAt mw_824 0 6 rfl (wsW_get 0 (by decide)) (q_X5_barAt l D Y ad G (x3 - (1 : Int32)) r7 e7) rfl hl.1 ⟨Nat.le_of_ble_eq_true rfl, Nat.le_of_ble_eq_true rfl⟩ (rest := [.int r6]) rfl (Nat.le_of_ble_eq_true rfl) ⟨Nat.le_of_ble_eq_true rfl, Nat.le_of_ble_eq_true rfl⟩ dX6_restsAtBars_32 (fun o7 => ?_)
        refine lv_icmp_eq (tgt := 42) hx hb dX6_restsAtBars_35 (by decide) (fun c8 => ?_) (fun c8 => ?_)
        · have h := ifT h c8
          refine lv_iconst (v := 0) hx hb dX6_restsAtBars_42 (by decide) ?_
          exact key43 x1 x3 (0 : Int32) ls (lv_sub hl [0, 1, 2, 3] rfl) h
        · have h := ifF h c8
          refine lv_iconst (v := 1) hx hb dX6_restsAtBars_38 (by decide) ?_
          refine lv_goto (tgt := 43) hx hb dX6_restsAtBars_39 (by decide) ?_
          exact key43 x1 x3 (1 : Int32) ls (lv_sub hl [0, 1, 2, 3] rfl) h
  refine lv_iconst (v := 0) hx hb dX6_restsAtBars_0 (by decide) ?_
  refine lv_istore_n (lv' := [(1, .int ((0 : Int32))), (0, .ref (ad 79))]) hx hb dX6_restsAtBars_1 rfl hl (by decide) rfl (fun ls hl => ?_)
  refine lv_aload_n hx hb dX6_restsAtBars_2 rfl (lv_at hl 1 rfl) ?_
  refine rC_79_0 F hP dX6_restsAtBars_3 ?_
  obtain ⟨r9, e9, h⟩ := bsome h
  refine rd_VN F hP k_X5_filledBeats mw_823 0 6 rfl (wsW_get 0 (by decide)) (q_X5_filledBeats l D Y ad G  r9 e9) rfl hl.1 ⟨Nat.le_of_ble_eq_true rfl, Nat.le_of_ble_eq_true rfl⟩ (rest := []) rfl (Nat.le_of_ble_eq_true rfl) ⟨Nat.le_of_ble_eq_true rfl, Nat.le_of_ble_eq_true rfl⟩ dX6_restsAtBars_6 (fun o9 => ?_)
  refine lv_istore_n (lv' := [(2, .int r9), (1, .int ((0 : Int32))), (0, .ref (ad 79))]) hx hb dX6_restsAtBars_9 rfl hl (by decide) rfl (fun ls hl => ?_)
  refine lv_iconst (v := 0) hx hb dX6_restsAtBars_10 (by decide) ?_
  refine lv_istore_n (lv' := [(3, .int ((0 : Int32))), (2, .int r9), (1, .int ((0 : Int32))), (0, .ref (ad 79))]) hx hb dX6_restsAtBars_11 rfl hl (by decide) rfl (fun ls hl => ?_)
  exact key12 r9 4096 (0 : Int32) (0 : Int32) ls (lv_sub hl [3, 2, 1, 0] rfl) h
def f_X6_tiesByBeats_125 (G : Nat → Nat → Int32) (k15 : Int32 → Int32 → Int32 → Option Int32) (x3 : Int32) (x1 : Int32) (x2 : Int32) (x4 : Int32) : Option Int32 := k15 x1 x2 (x4 + 1)
def f_X6_tiesByBeats_123 (G : Nat → Nat → Int32) (k15 : Int32 → Int32 → Int32 → Option Int32) (x3 : Int32) (x2 : Int32) (x4 : Int32) (s123_0 : Int32) (s123_1 : Int32) : Option Int32 := f_X6_tiesByBeats_125 G k15 x3 (s123_1 + s123_0) x2 x4
def f_X6_tiesByBeats_98 (G : Nat → Nat → Int32) (k15 : Int32 → Int32 → Int32 → Option Int32) (x3 : Int32) (x1 : Int32) (x4 : Int32) (x5 : Int32) (s98_0 : Int32) : Option Int32 := ((f_X5_isRest G x5).bind fun r1 => ((f_X6_mostParts G r1).bind fun r2 => (if s98_0 = (r2 + (1 : Int32)) then f_X6_tiesByBeats_123 G k15 x3 s98_0 x4 (1 : Int32) x1 else f_X6_tiesByBeats_123 G k15 x3 s98_0 x4 (0 : Int32) x1)))
def f_X6_tiesByBeats_86 (G : Nat → Nat → Int32) (k15 : Int32 → Int32 → Int32 → Option Int32) (x3 : Int32) (x1 : Int32) (x2 : Int32) (x4 : Int32) (x5 : Int32) (x6 : Int32) : Option Int32 := (if x6 = 0 then f_X6_tiesByBeats_98 G k15 x3 x1 x4 x5 (x2 + (1 : Int32)) else f_X6_tiesByBeats_98 G k15 x3 x1 x4 x5 (1 : Int32))
def f_X6_tiesByBeats_53 (G : Nat → Nat → Int32) (k15 : Int32 → Int32 → Int32 → Option Int32) (x3 : Int32) (x1 : Int32) (x2 : Int32) (x4 : Int32) (x5 : Int32) (s53_0 : Int32) : Option Int32 := (if s53_0 = 0 then ((f_X5_barAt G x4).bind fun r6 => ((f_X5_barAt G (x4 - (1 : Int32))).bind fun r7 => (if r6 = r7 then f_X6_tiesByBeats_125 G k15 x3 x1 x2 x4 else f_X6_tiesByBeats_86 G k15 x3 x1 x2 x4 x5 s53_0))) else f_X6_tiesByBeats_86 G k15 x3 x1 x2 x4 x5 s53_0)
def f_X6_tiesByBeats_15 (G : Nat → Nat → Int32) (x3 : Int32) (n : Nat) (y1 : Int32) (y2 : Int32) (y4 : Int32) : Option Int32 := lq3 (fun (k15 : Int32 → Int32 → Int32 → Option Int32) (x1 : Int32) (x2 : Int32) (x4 : Int32) => (if x3 ≤ x4 then some x1 else ((f_X5_soundAt G x4).bind fun r10 => ((f_X5_soundAt G (x4 - (1 : Int32))).bind fun r11 => (if r10 = r11 then f_X6_tiesByBeats_53 G k15 x3 x1 x2 x4 r10 (0 : Int32) else f_X6_tiesByBeats_53 G k15 x3 x1 x2 x4 r10 (1 : Int32)))))) n y1 y2 y4
def f_X6_tiesByBeats (G : Nat → Nat → Int32) : Option Int32 := ((f_X5_filledBeats G ).bind fun r13 => f_X6_tiesByBeats_15 G r13 4096 (0 : Int32) (0 : Int32) (0 : Int32))
set_option maxRecDepth 100000 in
set_option maxHeartbeats 4000000 in
theorem q_X6_tiesByBeats (l : Launch) (D : va_G) (Y : Nat → ClassId) (ad : Nat → Nat) (G : Nat → Nat → Int32) (r : Int32) (h : f_X6_tiesByBeats G  = some r) : RD l yX6_tiesByBeats cX6_tiesByBeats 7 (some .int) 3 D Y (wsC Y ad G) [.ref (ad 79)] r := by
  refine RD_of (by decide) (Nat.le_of_ble_eq_true rfl) (lv := [(0, .ref (ad 79))]) rfl ?_
  intro p e s m below meth c ls F hP hr hk hl
  have F : Fx p c cX6_tiesByBeats 7 s m _ RX6 D Y := F
  have hx := F.1.1
  have hb := F.1.2.1
  have key15 : ∀ (x3 : Int32) (n : Nat) (x1 : Int32) (x2 : Int32) (x4 : Int32) (ls : Array Slot), lv_has ls 7 [(0, .ref (ad 79)), (1, .int x1), (2, .int x2), (3, .int x3), (4, .int x4)] → f_X6_tiesByBeats_15 G   x3 n x1 x2 x4 = some r → WD p l e 3 s m ([.ref (ad 79)] : List Value).toArray below meth c s.heap (some .int) r (F0 m 15 ls []) := by
    intro x3 n
    induction n with
    | zero => intro x1 x2 x4 ls hl h; exact lqZ3 h
    | succ n15 ih15 =>
      have key125 : ∀ (x1 : Int32) (x2 : Int32) (x4 : Int32) (ls : Array Slot), lv_has ls 7 [(0, .ref (ad 79)), (1, .int x1), (2, .int x2), (3, .int x3), (4, .int x4)] → f_X6_tiesByBeats_125 G  (f_X6_tiesByBeats_15 G   x3 n15) x3 x1 x2 x4 = some r → WD p l e 3 s m ([.ref (ad 79)] : List Value).toArray below meth c s.heap (some .int) r (F0 m 125 ls []) := by
        intro x1 x2 x4 ls hl h
        refine lv_iinc (v := (x4 + 1)) (lv' := [(4, .int ((x4 + 1))), (0, .ref (ad 79)), (1, .int x1), (2, .int x2), (3, .int x3)]) hx hb dX6_tiesByBeats_125 hl (k := 4) rfl rfl (by decide) rfl (fun ls hl => ?_)
        refine lv_goto (tgt := 15) hx hb dX6_tiesByBeats_128 (by decide) ?_
        exact ih15 x1 x2 (x4 + 1) ls (lv_sub hl [1, 2, 3, 4, 0] rfl) h
      have key123 : ∀ (x2 : Int32) (x4 : Int32) (s123_0 : Int32) (s123_1 : Int32) (ls : Array Slot), lv_has ls 7 [(0, .ref (ad 79)), (2, .int x2), (3, .int x3), (4, .int x4)] → f_X6_tiesByBeats_123 G  (f_X6_tiesByBeats_15 G   x3 n15) x3 x2 x4 s123_0 s123_1 = some r → WD p l e 3 s m ([.ref (ad 79)] : List Value).toArray below meth c s.heap (some .int) r (F0 m 123 ls [.int s123_0, .int s123_1]) := by
        intro x2 x4 s123_0 s123_1 ls hl h
        refine lv_iadd hx hb dX6_tiesByBeats_123 ?_
        refine lv_istore_n (lv' := [(1, .int ((s123_1 + s123_0))), (0, .ref (ad 79)), (2, .int x2), (3, .int x3), (4, .int x4)]) hx hb dX6_tiesByBeats_124 rfl hl (by decide) rfl (fun ls hl => ?_)
        exact key125 (s123_1 + s123_0) x2 x4 ls (lv_sub hl [1, 0, 2, 3, 4] rfl) h
      have key98 : ∀ (x1 : Int32) (x4 : Int32) (x5 : Int32) (s98_0 : Int32) (ls : Array Slot), lv_has ls 7 [(0, .ref (ad 79)), (1, .int x1), (3, .int x3), (4, .int x4), (5, .int x5)] → f_X6_tiesByBeats_98 G  (f_X6_tiesByBeats_15 G   x3 n15) x3 x1 x4 x5 s98_0 = some r → WD p l e 3 s m ([.ref (ad 79)] : List Value).toArray below meth c s.heap (some .int) r (F0 m 98 ls [.int s98_0]) := by
        intro x1 x4 x5 s98_0 ls hl h
        refine lv_istore_n (lv' := [(2, .int s98_0), (0, .ref (ad 79)), (1, .int x1), (3, .int x3), (4, .int x4), (5, .int x5)]) hx hb dX6_tiesByBeats_98 rfl hl (by decide) rfl (fun ls hl => ?_)
        refine lv_iload_n hx hb dX6_tiesByBeats_99 rfl (lv_at hl 2 rfl) ?_
        refine lv_iload_n hx hb dX6_tiesByBeats_100 rfl (lv_at hl 0 rfl) ?_
        refine lv_aload_n hx hb dX6_tiesByBeats_101 rfl (lv_at hl 1 rfl) ?_
        refine rC_79_0 F hP dX6_tiesByBeats_102 ?_
        refine lv_iload hx hb dX6_tiesByBeats_105 (lv_at hl 5 rfl) ?_
        obtain ⟨r1, e1, h⟩ := bsome h
        refine rd_VN F hP k_X5_isRest mw_826 0 6 rfl (wsW_get 0 (by decide)) (q_X5_isRest l D Y ad G x5 r1 e1) rfl hl.1 ⟨Nat.le_of_ble_eq_true rfl, Nat.le_of_ble_eq_true rfl⟩ (rest := [.int s98_0, .int x1]) rfl (Nat.le_of_ble_eq_true rfl) ⟨Nat.le_of_ble_eq_true rfl, Nat.le_of_ble_eq_true rfl⟩ dX6_tiesByBeats_107 (fun o1 => ?_)
        obtain ⟨r2, e2, h⟩ := bsome h
        refine rd_S F hP k_X6_mostParts mw_838 (q_X6_mostParts l D Y ad G r1 r2 e2) rfl hl.1 ⟨Nat.le_of_ble_eq_true rfl, Nat.le_of_ble_eq_true rfl⟩ (rest := [.int s98_0, .int x1]) rfl (Nat.le_of_ble_eq_true rfl) ⟨Nat.le_of_ble_eq_true rfl, Nat.le_of_ble_eq_true rfl⟩ dX6_tiesByBeats_110 (fun o2 => ?_)
        refine lv_iconst (v := 1) hx hb dX6_tiesByBeats_113 (by decide) ?_
        refine lv_iadd hx hb dX6_tiesByBeats_114 ?_
        refine lv_icmp_ne (tgt := 122) hx hb dX6_tiesByBeats_115 (by decide) (fun c3 => ?_) (fun c3 => ?_)
        · have h := ifF h c3
          refine lv_iconst (v := 0) hx hb dX6_tiesByBeats_122 (by decide) ?_
          exact key123 s98_0 x4 (0 : Int32) x1 ls (lv_sub hl [1, 0, 3, 4] rfl) h
        · have h := ifT h c3
          refine lv_iconst (v := 1) hx hb dX6_tiesByBeats_118 (by decide) ?_
          refine lv_goto (tgt := 123) hx hb dX6_tiesByBeats_119 (by decide) ?_
          exact key123 s98_0 x4 (1 : Int32) x1 ls (lv_sub hl [1, 0, 3, 4] rfl) h
      have key86 : ∀ (x1 : Int32) (x2 : Int32) (x4 : Int32) (x5 : Int32) (x6 : Int32) (ls : Array Slot), lv_has ls 7 [(0, .ref (ad 79)), (1, .int x1), (2, .int x2), (3, .int x3), (4, .int x4), (5, .int x5), (6, .int x6)] → f_X6_tiesByBeats_86 G  (f_X6_tiesByBeats_15 G   x3 n15) x3 x1 x2 x4 x5 x6 = some r → WD p l e 3 s m ([.ref (ad 79)] : List Value).toArray below meth c s.heap (some .int) r (F0 m 86 ls []) := by
        intro x1 x2 x4 x5 x6 ls hl h
        refine lv_iload hx hb dX6_tiesByBeats_86 (lv_at hl 6 rfl) ?_
        refine lv_if_eq (tgt := 95) hx hb dX6_tiesByBeats_88 (by decide) (fun c4 => ?_) (fun c4 => ?_)
        · have h := ifT h c4
          refine lv_iload_n hx hb dX6_tiesByBeats_95 rfl (lv_at hl 2 rfl) ?_
          refine lv_iconst (v := 1) hx hb dX6_tiesByBeats_96 (by decide) ?_
          refine lv_iadd hx hb dX6_tiesByBeats_97 ?_
          exact key98 x1 x4 x5 (x2 + (1 : Int32)) ls (lv_sub hl [0, 1, 3, 4, 5] rfl) h
        · have h := ifF h c4
          refine lv_iconst (v := 1) hx hb dX6_tiesByBeats_91 (by decide) ?_
          refine lv_goto (tgt := 98) hx hb dX6_tiesByBeats_92 (by decide) ?_
          exact key98 x1 x4 x5 (1 : Int32) ls (lv_sub hl [0, 1, 3, 4, 5] rfl) h
      have key53 : ∀ (x1 : Int32) (x2 : Int32) (x4 : Int32) (x5 : Int32) (s53_0 : Int32) (ls : Array Slot), lv_has ls 7 [(0, .ref (ad 79)), (1, .int x1), (2, .int x2), (3, .int x3), (4, .int x4), (5, .int x5)] → f_X6_tiesByBeats_53 G  (f_X6_tiesByBeats_15 G   x3 n15) x3 x1 x2 x4 x5 s53_0 = some r → WD p l e 3 s m ([.ref (ad 79)] : List Value).toArray below meth c s.heap (some .int) r (F0 m 53 ls [.int s53_0]) := by
        intro x1 x2 x4 x5 s53_0 ls hl h
        refine lv_istore (lv' := [(6, .int s53_0), (0, .ref (ad 79)), (1, .int x1), (2, .int x2), (3, .int x3), (4, .int x4), (5, .int x5)]) hx hb dX6_tiesByBeats_53 hl (by decide) rfl (fun ls hl => ?_)
        refine lv_iload hx hb dX6_tiesByBeats_55 (lv_at hl 0 rfl) ?_
        refine lv_if_ne (tgt := 86) hx hb dX6_tiesByBeats_57 (by decide) (fun c5 => ?_) (fun c5 => ?_)
        · have h := ifF h c5
          exact key86 x1 x2 x4 x5 s53_0 ls (lv_sub hl [1, 2, 3, 4, 5, 6, 0] rfl) h
        · have h := ifT h c5
          refine lv_aload_n hx hb dX6_tiesByBeats_60 rfl (lv_at hl 1 rfl) ?_
          refine rC_79_0 F hP dX6_tiesByBeats_61 ?_
          refine lv_iload hx hb dX6_tiesByBeats_64 (lv_at hl 5 rfl) ?_
          obtain ⟨r6, e6, h⟩ := bsome h
          refine rd_VN F hP k_X5_barAt mw_824 0 6 rfl (wsW_get 0 (by decide)) (q_X5_barAt l D Y ad G x4 r6 e6) rfl hl.1 ⟨Nat.le_of_ble_eq_true rfl, Nat.le_of_ble_eq_true rfl⟩ (rest := []) rfl (Nat.le_of_ble_eq_true rfl) ⟨Nat.le_of_ble_eq_true rfl, Nat.le_of_ble_eq_true rfl⟩ dX6_tiesByBeats_66 (fun o6 => ?_)
          refine lv_aload_n hx hb dX6_tiesByBeats_69 rfl (lv_at hl 1 rfl) ?_
          refine rC_79_0 F hP dX6_tiesByBeats_70 ?_
          refine lv_iload hx hb dX6_tiesByBeats_73 (lv_at hl 5 rfl) ?_
          refine lv_iconst (v := 1) hx hb dX6_tiesByBeats_75 (by decide) ?_
          refine lv_isub hx hb dX6_tiesByBeats_76 ?_
          obtain ⟨r7, e7, h⟩ := bsome h
          refine rd_VN F hP k_X5_barAt mw_824 0 6 rfl (wsW_get 0 (by decide)) (q_X5_barAt l D Y ad G (x4 - (1 : Int32)) r7 e7) rfl hl.1 ⟨Nat.le_of_ble_eq_true rfl, Nat.le_of_ble_eq_true rfl⟩ (rest := [.int r6]) rfl (Nat.le_of_ble_eq_true rfl) ⟨Nat.le_of_ble_eq_true rfl, Nat.le_of_ble_eq_true rfl⟩ dX6_tiesByBeats_77 (fun o7 => ?_)
          refine lv_icmp_ne (tgt := 86) hx hb dX6_tiesByBeats_80 (by decide) (fun c8 => ?_) (fun c8 => ?_)
          · have h := ifF h c8
            exact key86 x1 x2 x4 x5 s53_0 ls (lv_sub hl [1, 2, 3, 4, 5, 6, 0] rfl) h
          · have h := ifT h c8
            refine lv_goto (tgt := 125) hx hb dX6_tiesByBeats_83 (by decide) ?_
            exact key125 x1 x2 x4 ls (lv_sub hl [1, 2, 3, 4, 5] rfl) h
      intro x1 x2 x4 ls hl h
      have h := lqS3 h
      refine lv_iload hx hb dX6_tiesByBeats_15 (lv_at hl 4 rfl) ?_
      refine lv_iload_n hx hb dX6_tiesByBeats_17 rfl (lv_at hl 3 rfl) ?_
      refine lv_icmp_ge (tgt := 131) hx hb dX6_tiesByBeats_18 (by decide) (fun c9 => ?_) (fun c9 => ?_)
      · have h := ifT h c9
        refine lv_iload_n hx hb dX6_tiesByBeats_131 rfl (lv_at hl 1 rfl) ?_
        exact rd_end F hr hk rfl h dX6_tiesByBeats_132
      · have h := ifF h c9
        refine lv_aload_n hx hb dX6_tiesByBeats_21 rfl (lv_at hl 0 rfl) ?_
        refine rC_79_0 F hP dX6_tiesByBeats_22 ?_
        refine lv_iload hx hb dX6_tiesByBeats_25 (lv_at hl 4 rfl) ?_
        obtain ⟨r10, e10, h⟩ := bsome h
        refine rd_VN F hP k_X5_soundAt mw_825 0 6 rfl (wsW_get 0 (by decide)) (q_X5_soundAt l D Y ad G x4 r10 e10) rfl hl.1 ⟨Nat.le_of_ble_eq_true rfl, Nat.le_of_ble_eq_true rfl⟩ (rest := []) rfl (Nat.le_of_ble_eq_true rfl) ⟨Nat.le_of_ble_eq_true rfl, Nat.le_of_ble_eq_true rfl⟩ dX6_tiesByBeats_27 (fun o10 => ?_)
        refine lv_istore (lv' := [(5, .int r10), (0, .ref (ad 79)), (1, .int x1), (2, .int x2), (3, .int x3), (4, .int x4)]) hx hb dX6_tiesByBeats_30 hl (by decide) rfl (fun ls hl => ?_)
        refine lv_iload hx hb dX6_tiesByBeats_32 (lv_at hl 0 rfl) ?_
        refine lv_aload_n hx hb dX6_tiesByBeats_34 rfl (lv_at hl 1 rfl) ?_
        refine rC_79_0 F hP dX6_tiesByBeats_35 ?_
        refine lv_iload hx hb dX6_tiesByBeats_38 (lv_at hl 5 rfl) ?_
        refine lv_iconst (v := 1) hx hb dX6_tiesByBeats_40 (by decide) ?_
        refine lv_isub hx hb dX6_tiesByBeats_41 ?_
        obtain ⟨r11, e11, h⟩ := bsome h
        refine rd_VN F hP k_X5_soundAt mw_825 0 6 rfl (wsW_get 0 (by decide)) (q_X5_soundAt l D Y ad G (x4 - (1 : Int32)) r11 e11) rfl hl.1 ⟨Nat.le_of_ble_eq_true rfl, Nat.le_of_ble_eq_true rfl⟩ (rest := [.int r10]) rfl (Nat.le_of_ble_eq_true rfl) ⟨Nat.le_of_ble_eq_true rfl, Nat.le_of_ble_eq_true rfl⟩ dX6_tiesByBeats_42 (fun o11 => ?_)
        refine lv_icmp_eq (tgt := 52) hx hb dX6_tiesByBeats_45 (by decide) (fun c12 => ?_) (fun c12 => ?_)
        · have h := ifT h c12
          refine lv_iconst (v := 0) hx hb dX6_tiesByBeats_52 (by decide) ?_
          exact key53 x1 x2 x4 r10 (0 : Int32) ls (lv_sub hl [1, 2, 3, 4, 5, 0] rfl) h
        · have h := ifF h c12
          refine lv_iconst (v := 1) hx hb dX6_tiesByBeats_48 (by decide) ?_
          refine lv_goto (tgt := 53) hx hb dX6_tiesByBeats_49 (by decide) ?_
          exact key53 x1 x2 x4 r10 (1 : Int32) ls (lv_sub hl [1, 2, 3, 4, 5, 0] rfl) h
  refine lv_iconst (v := 0) hx hb dX6_tiesByBeats_0 (by decide) ?_
  refine lv_istore_n (lv' := [(1, .int ((0 : Int32))), (0, .ref (ad 79))]) hx hb dX6_tiesByBeats_1 rfl hl (by decide) rfl (fun ls hl => ?_)
  refine lv_iconst (v := 0) hx hb dX6_tiesByBeats_2 (by decide) ?_
  refine lv_istore_n (lv' := [(2, .int ((0 : Int32))), (1, .int ((0 : Int32))), (0, .ref (ad 79))]) hx hb dX6_tiesByBeats_3 rfl hl (by decide) rfl (fun ls hl => ?_)
  refine lv_aload_n hx hb dX6_tiesByBeats_4 rfl (lv_at hl 2 rfl) ?_
  refine rC_79_0 F hP dX6_tiesByBeats_5 ?_
  obtain ⟨r13, e13, h⟩ := bsome h
  refine rd_VN F hP k_X5_filledBeats mw_823 0 6 rfl (wsW_get 0 (by decide)) (q_X5_filledBeats l D Y ad G  r13 e13) rfl hl.1 ⟨Nat.le_of_ble_eq_true rfl, Nat.le_of_ble_eq_true rfl⟩ (rest := []) rfl (Nat.le_of_ble_eq_true rfl) ⟨Nat.le_of_ble_eq_true rfl, Nat.le_of_ble_eq_true rfl⟩ dX6_tiesByBeats_8 (fun o13 => ?_)
  refine lv_istore_n (lv' := [(3, .int r13), (2, .int ((0 : Int32))), (1, .int ((0 : Int32))), (0, .ref (ad 79))]) hx hb dX6_tiesByBeats_11 rfl hl (by decide) rfl (fun ls hl => ?_)
  refine lv_iconst (v := 0) hx hb dX6_tiesByBeats_12 (by decide) ?_
  refine lv_istore (lv' := [(4, .int ((0 : Int32))), (3, .int r13), (2, .int ((0 : Int32))), (1, .int ((0 : Int32))), (0, .ref (ad 79))]) hx hb dX6_tiesByBeats_13 hl (by decide) rfl (fun ls hl => ?_)
  exact key15 r13 4096 (0 : Int32) (0 : Int32) (0 : Int32) ls (lv_sub hl [4, 3, 2, 1, 0] rfl) h
def f_X6_countByBeats_20 (G : Nat → Nat → Int32) (a1 : Int32) : Option Int32 := ((f_X6_pitchesByBeats G a1).bind fun r1 => some r1)
def f_X6_countByBeats (G : Nat → Nat → Int32) (a1 : Int32) : Option Int32 := (if a1 = (3 : Int32) then ((f_X6_restsAtBars G ).bind fun r6 => some r6) else (if a1 = (1 : Int32) then f_X6_countByBeats_20 G a1 else (if a1 = (2 : Int32) then f_X6_countByBeats_20 G a1 else ((f_X6_tiesByBeats G ).bind fun r5 => some r5))))
set_option maxRecDepth 100000 in
set_option maxHeartbeats 4000000 in
theorem q_X6_countByBeats (l : Launch) (D : va_G) (Y : Nat → ClassId) (ad : Nat → Nat) (G : Nat → Nat → Int32) (a1 : Int32) (r : Int32) (h : f_X6_countByBeats G a1 = some r) : RD l yX6_countByBeats cX6_countByBeats 2 (some .int) 4 D Y (wsC Y ad G) [.ref (ad 79), .int a1] r := by
  refine RD_of (by decide) (Nat.le_of_ble_eq_true rfl) (lv := [(0, .ref (ad 79)), (1, .int a1)]) rfl ?_
  intro p e s m below meth c ls F hP hr hk hl
  have F : Fx p c cX6_countByBeats 2 s m _ RX6 D Y := F
  have hx := F.1.1
  have hb := F.1.2.1
  have key20 : ∀ (ls : Array Slot), lv_has ls 2 [(0, .ref (ad 79)), (1, .int a1)] → f_X6_countByBeats_20 G a1   = some r → WD p l e 4 s m ([.ref (ad 79), .int a1] : List Value).toArray below meth c s.heap (some .int) r (F0 m 20 ls []) := by
    intro  ls hl h
    refine lv_aload_n hx hb dX6_countByBeats_20 rfl (lv_at hl 0 rfl) ?_
    refine lv_iload_n hx hb dX6_countByBeats_21 rfl (lv_at hl 1 rfl) ?_
    obtain ⟨r1, e1, h⟩ := bsome h
    refine rd_V F hP k_X6_pitchesByBeats mw_827 79 7 rfl (wsW_get 79 (by decide)) (q_X6_pitchesByBeats l D Y ad G a1 r1 e1) rfl hl.1 ⟨Nat.le_of_ble_eq_true rfl, Nat.le_of_ble_eq_true rfl⟩ (rest := []) rfl (Nat.le_of_ble_eq_true rfl) ⟨Nat.le_of_ble_eq_true rfl, Nat.le_of_ble_eq_true rfl⟩ dX6_countByBeats_22 (fun o1 => ?_)
    refine lv_goto (tgt := 32) hx hb dX6_countByBeats_25 (by decide) ?_
    exact rd_end F hr hk rfl h dX6_countByBeats_32
  refine lv_iload_n hx hb dX6_countByBeats_0 rfl (lv_at hl 1 rfl) ?_
  refine lv_iconst (v := 3) hx hb dX6_countByBeats_1 (by decide) ?_
  refine lv_icmp_ne (tgt := 10) hx hb dX6_countByBeats_2 (by decide) (fun c2 => ?_) (fun c2 => ?_)
  · have h := ifF h c2
    refine lv_iload_n hx hb dX6_countByBeats_10 rfl (lv_at hl 1 rfl) ?_
    refine lv_iconst (v := 1) hx hb dX6_countByBeats_11 (by decide) ?_
    refine lv_icmp_eq (tgt := 20) hx hb dX6_countByBeats_12 (by decide) (fun c3 => ?_) (fun c3 => ?_)
    · have h := ifT h c3
      exact key20  ls (lv_sub hl [0, 1] rfl) h
    · have h := ifF h c3
      refine lv_iload_n hx hb dX6_countByBeats_15 rfl (lv_at hl 1 rfl) ?_
      refine lv_iconst (v := 2) hx hb dX6_countByBeats_16 (by decide) ?_
      refine lv_icmp_ne (tgt := 28) hx hb dX6_countByBeats_17 (by decide) (fun c4 => ?_) (fun c4 => ?_)
      · have h := ifF h c4
        refine lv_aload_n hx hb dX6_countByBeats_28 rfl (lv_at hl 0 rfl) ?_
        obtain ⟨r5, e5, h⟩ := bsome h
        refine rd_V F hP k_X6_tiesByBeats mw_834 79 7 rfl (wsW_get 79 (by decide)) (q_X6_tiesByBeats l D Y ad G  r5 e5) rfl hl.1 ⟨Nat.le_of_ble_eq_true rfl, Nat.le_of_ble_eq_true rfl⟩ (rest := []) rfl (Nat.le_of_ble_eq_true rfl) ⟨Nat.le_of_ble_eq_true rfl, Nat.le_of_ble_eq_true rfl⟩ dX6_countByBeats_29 (fun o5 => ?_)
        exact rd_end F hr hk rfl h dX6_countByBeats_32
      · have h := ifT h c4
        exact key20  ls (lv_sub hl [0, 1] rfl) h
  · have h := ifT h c2
    refine lv_aload_n hx hb dX6_countByBeats_5 rfl (lv_at hl 0 rfl) ?_
    obtain ⟨r6, e6, h⟩ := bsome h
    refine rd_V F hP k_X6_restsAtBars mw_819 79 7 rfl (wsW_get 79 (by decide)) (q_X6_restsAtBars l D Y ad G  r6 e6) rfl hl.1 ⟨Nat.le_of_ble_eq_true rfl, Nat.le_of_ble_eq_true rfl⟩ (rest := []) rfl (Nat.le_of_ble_eq_true rfl) ⟨Nat.le_of_ble_eq_true rfl, Nat.le_of_ble_eq_true rfl⟩ dX6_countByBeats_6 (fun o6 => ?_)
    exact rd_end F hr hk rfl h dX6_countByBeats_9
def f_X6_isToldAlike_2 (G : Nat → Nat → Int32) (n : Nat) (y1 : Int32) : Option Int32 := lq1 (fun (k2 : Int32 → Option Int32) (x1 : Int32) => (if (4 : Int32) < x1 then some (1 : Int32) else ((f_X6_count G x1).bind fun r2 => ((f_X6_countByBeats G x1).bind fun r3 => (if r2 = r3 then k2 (x1 + 1) else some (0 : Int32)))))) n y1
def f_X6_isToldAlike (G : Nat → Nat → Int32) : Option Int32 := f_X6_isToldAlike_2 G 4096 (1 : Int32)
set_option maxRecDepth 100000 in
set_option maxHeartbeats 4000000 in
theorem q_X6_isToldAlike (l : Launch) (D : va_G) (Y : Nat → ClassId) (ad : Nat → Nat) (G : Nat → Nat → Int32) (r : Int32) (h : f_X6_isToldAlike G  = some r) : RD l yX6_isToldAlike cX6_isToldAlike 2 (some .boolean) 6 D Y (wsC Y ad G) [.ref (ad 79)] r := by
  refine RD_of (by decide) (Nat.le_of_ble_eq_true rfl) (lv := [(0, .ref (ad 79))]) rfl ?_
  intro p e s m below meth c ls F hP hr hk hl
  have F : Fx p c cX6_isToldAlike 2 s m _ RX6 D Y := F
  have hx := F.1.1
  have hb := F.1.2.1
  have key2 : ∀ (n : Nat) (x1 : Int32) (ls : Array Slot), lv_has ls 2 [(0, .ref (ad 79)), (1, .int x1)] → f_X6_isToldAlike_2 G   n x1 = some r → WD p l e 6 s m ([.ref (ad 79)] : List Value).toArray below meth c s.heap (some .boolean) r (F0 m 2 ls []) := by
    intro  n
    induction n with
    | zero => intro x1 ls hl h; exact lqZ1 h
    | succ n2 ih2 =>
      intro x1 ls hl h
      have h := lqS1 h
      refine lv_iload_n hx hb dX6_isToldAlike_2 rfl (lv_at hl 1 rfl) ?_
      refine lv_iconst (v := 4) hx hb dX6_isToldAlike_3 (by decide) ?_
      refine lv_icmp_gt (tgt := 28) hx hb dX6_isToldAlike_4 (by decide) (fun c1 => ?_) (fun c1 => ?_)
      · have h := ifT h c1
        refine lv_iconst (v := 1) hx hb dX6_isToldAlike_28 (by decide) ?_
        exact rd_end F hr hk rfl h dX6_isToldAlike_29
      · have h := ifF h c1
        refine lv_aload_n hx hb dX6_isToldAlike_7 rfl (lv_at hl 0 rfl) ?_
        refine lv_iload_n hx hb dX6_isToldAlike_8 rfl (lv_at hl 1 rfl) ?_
        obtain ⟨r2, e2, h⟩ := bsome h
        refine rd_V F hP k_X6_count mw_900 79 7 rfl (wsW_get 79 (by decide)) (q_X6_count l D Y ad G x1 r2 e2) rfl hl.1 ⟨Nat.le_of_ble_eq_true rfl, Nat.le_of_ble_eq_true rfl⟩ (rest := []) rfl (Nat.le_of_ble_eq_true rfl) ⟨Nat.le_of_ble_eq_true rfl, Nat.le_of_ble_eq_true rfl⟩ dX6_isToldAlike_9 (fun o2 => ?_)
        refine lv_aload_n hx hb dX6_isToldAlike_12 rfl (lv_at hl 0 rfl) ?_
        refine lv_iload_n hx hb dX6_isToldAlike_13 rfl (lv_at hl 1 rfl) ?_
        obtain ⟨r3, e3, h⟩ := bsome h
        refine rd_V F hP k_X6_countByBeats mw_921 79 7 rfl (wsW_get 79 (by decide)) (q_X6_countByBeats l D Y ad G x1 r3 e3) rfl hl.1 ⟨Nat.le_of_ble_eq_true rfl, Nat.le_of_ble_eq_true rfl⟩ (rest := [.int r2]) rfl (Nat.le_of_ble_eq_true rfl) ⟨Nat.le_of_ble_eq_true rfl, Nat.le_of_ble_eq_true rfl⟩ dX6_isToldAlike_14 (fun o3 => ?_)
        refine lv_icmp_eq (tgt := 22) hx hb dX6_isToldAlike_17 (by decide) (fun c4 => ?_) (fun c4 => ?_)
        · have h := ifT h c4
          refine lv_iinc (v := (x1 + 1)) (lv' := [(1, .int ((x1 + 1))), (0, .ref (ad 79))]) hx hb dX6_isToldAlike_22 hl (k := 1) rfl rfl (by decide) rfl (fun ls hl => ?_)
          refine lv_goto (tgt := 2) hx hb dX6_isToldAlike_25 (by decide) ?_
          exact ih2 (x1 + 1) ls (lv_sub hl [1, 0] rfl) h
        · have h := ifF h c4
          refine lv_iconst (v := 0) hx hb dX6_isToldAlike_20 (by decide) ?_
          exact rd_end F hr hk rfl h dX6_isToldAlike_21
  refine lv_iconst (v := 1) hx hb dX6_isToldAlike_0 (by decide) ?_
  refine lv_istore_n (lv' := [(1, .int ((1 : Int32))), (0, .ref (ad 79))]) hx hb dX6_isToldAlike_1 rfl hl (by decide) rfl (fun ls hl => ?_)
  exact key2 4096 (1 : Int32) ls (lv_sub hl [1, 0] rfl) h
def f_X3_riseTo (G : Nat → Nat → Int32) (a1 : Int32) : Option Int32 := ((f_X5_dropAhead G a1).bind fun r1 => (if r1 = (-1 : Int32) then some (0 : Int32) else ((f_X5_isRest G a1).bind fun r3 => (if r3 = 0 then ((f_X5_pitchOf G a1).bind fun r5 => ((f_X5_pitchOf G r1).bind fun r6 => some (r5 - r6))) else some (0 : Int32)))))
set_option maxRecDepth 100000 in
set_option maxHeartbeats 4000000 in
theorem q_X3_riseTo (l : Launch) (D : va_G) (Y : Nat → ClassId) (ad : Nat → Nat) (G : Nat → Nat → Int32) (a1 : Int32) (r : Int32) (h : f_X3_riseTo G a1 = some r) : RD l yX3_riseTo cX3_riseTo 3 (some .int) 3 D Y (wsC Y ad G) [.ref (ad 80), .int a1] r := by
  refine RD_of (by decide) (Nat.le_of_ble_eq_true rfl) (lv := [(0, .ref (ad 80)), (1, .int a1)]) rfl ?_
  intro p e s m below meth c ls F hP hr hk hl
  have F : Fx p c cX3_riseTo 3 s m _ RX3 D Y := F
  have hx := F.1.1
  have hb := F.1.2.1
  refine lv_aload_n hx hb dX3_riseTo_0 rfl (lv_at hl 0 rfl) ?_
  refine rC_80_0 F hP dX3_riseTo_1 ?_
  refine lv_iload_n hx hb dX3_riseTo_4 rfl (lv_at hl 1 rfl) ?_
  obtain ⟨r1, e1, h⟩ := bsome h
  refine rd_VN F hP k_X5_dropAhead mw_931 0 6 rfl (wsW_get 0 (by decide)) (q_X5_dropAhead l D Y ad G a1 r1 e1) rfl hl.1 ⟨Nat.le_of_ble_eq_true rfl, Nat.le_of_ble_eq_true rfl⟩ (rest := []) rfl (Nat.le_of_ble_eq_true rfl) ⟨Nat.le_of_ble_eq_true rfl, Nat.le_of_ble_eq_true rfl⟩ dX3_riseTo_5 (fun o1 => ?_)
  refine lv_istore_n (lv' := [(2, .int r1), (0, .ref (ad 80)), (1, .int a1)]) hx hb dX3_riseTo_8 rfl hl (by decide) rfl (fun ls hl => ?_)
  refine lv_iload_n hx hb dX3_riseTo_9 rfl (lv_at hl 0 rfl) ?_
  refine lv_iconst (v := -1) hx hb dX3_riseTo_10 (by decide) ?_
  refine lv_icmp_eq (tgt := 25) hx hb dX3_riseTo_11 (by decide) (fun c2 => ?_) (fun c2 => ?_)
  · have h := ifT h c2
    refine lv_iconst (v := 0) hx hb dX3_riseTo_25 (by decide) ?_
    exact rd_end F hr hk rfl h dX3_riseTo_26
  · have h := ifF h c2
    refine lv_aload_n hx hb dX3_riseTo_14 rfl (lv_at hl 1 rfl) ?_
    refine rC_80_0 F hP dX3_riseTo_15 ?_
    refine lv_iload_n hx hb dX3_riseTo_18 rfl (lv_at hl 2 rfl) ?_
    obtain ⟨r3, e3, h⟩ := bsome h
    refine rd_VN F hP k_X5_isRest mw_932 0 6 rfl (wsW_get 0 (by decide)) (q_X5_isRest l D Y ad G a1 r3 e3) rfl hl.1 ⟨Nat.le_of_ble_eq_true rfl, Nat.le_of_ble_eq_true rfl⟩ (rest := []) rfl (Nat.le_of_ble_eq_true rfl) ⟨Nat.le_of_ble_eq_true rfl, Nat.le_of_ble_eq_true rfl⟩ dX3_riseTo_19 (fun o3 => ?_)
    refine lv_if_eq (tgt := 27) hx hb dX3_riseTo_22 (by decide) (fun c4 => ?_) (fun c4 => ?_)
    · have h := ifT h c4
      refine lv_aload_n hx hb dX3_riseTo_27 rfl (lv_at hl 1 rfl) ?_
      refine rC_80_0 F hP dX3_riseTo_28 ?_
      refine lv_iload_n hx hb dX3_riseTo_31 rfl (lv_at hl 2 rfl) ?_
      obtain ⟨r5, e5, h⟩ := bsome h
      refine rd_VN F hP k_X5_pitchOf mw_933 0 6 rfl (wsW_get 0 (by decide)) (q_X5_pitchOf l D Y ad G a1 r5 e5) rfl hl.1 ⟨Nat.le_of_ble_eq_true rfl, Nat.le_of_ble_eq_true rfl⟩ (rest := []) rfl (Nat.le_of_ble_eq_true rfl) ⟨Nat.le_of_ble_eq_true rfl, Nat.le_of_ble_eq_true rfl⟩ dX3_riseTo_32 (fun o5 => ?_)
      refine lv_aload_n hx hb dX3_riseTo_35 rfl (lv_at hl 1 rfl) ?_
      refine rC_80_0 F hP dX3_riseTo_36 ?_
      refine lv_iload_n hx hb dX3_riseTo_39 rfl (lv_at hl 0 rfl) ?_
      obtain ⟨r6, e6, h⟩ := bsome h
      refine rd_VN F hP k_X5_pitchOf mw_933 0 6 rfl (wsW_get 0 (by decide)) (q_X5_pitchOf l D Y ad G r1 r6 e6) rfl hl.1 ⟨Nat.le_of_ble_eq_true rfl, Nat.le_of_ble_eq_true rfl⟩ (rest := [.int r5]) rfl (Nat.le_of_ble_eq_true rfl) ⟨Nat.le_of_ble_eq_true rfl, Nat.le_of_ble_eq_true rfl⟩ dX3_riseTo_40 (fun o6 => ?_)
      refine lv_isub hx hb dX3_riseTo_43 ?_
      exact rd_end F hr hk rfl h dX3_riseTo_44
    · have h := ifF h c4
      refine lv_iconst (v := 0) hx hb dX3_riseTo_25 (by decide) ?_
      exact rd_end F hr hk rfl h dX3_riseTo_26
def f_X3_way_4 (G : Nat → Nat → Int32) (n : Nat) (y1 : Int32) (y2 : Int32) : Option Int32 := lq2 (fun (k4 : Int32 → Int32 → Option Int32) (x1 : Int32) (x2 : Int32) => ((f_X5_countOfSounds G ).bind fun r1 => (if r1 ≤ x2 then some x1 else ((f_X3_riseTo G x2).bind fun r3 => k4 (x1 + (abs32 r3)) (x2 + 1))))) n y1 y2
def f_X3_way (G : Nat → Nat → Int32) : Option Int32 := f_X3_way_4 G 4096 (0 : Int32) (0 : Int32)
set_option maxRecDepth 100000 in
set_option maxHeartbeats 4000000 in
theorem q_X3_way (l : Launch) (D : va_G) (Y : Nat → ClassId) (ad : Nat → Nat) (G : Nat → Nat → Int32) (r : Int32) (h : f_X3_way G  = some r) : RD l yX3_way cX3_way 3 (some .int) 4 D Y (wsC Y ad G) [.ref (ad 80)] r := by
  refine RD_of (by decide) (Nat.le_of_ble_eq_true rfl) (lv := [(0, .ref (ad 80))]) rfl ?_
  intro p e s m below meth c ls F hP hr hk hl
  have F : Fx p c cX3_way 3 s m _ RX3 D Y := F
  have hx := F.1.1
  have hb := F.1.2.1
  have key4 : ∀ (n : Nat) (x1 : Int32) (x2 : Int32) (ls : Array Slot), lv_has ls 3 [(0, .ref (ad 80)), (1, .int x1), (2, .int x2)] → f_X3_way_4 G   n x1 x2 = some r → WD p l e 4 s m ([.ref (ad 80)] : List Value).toArray below meth c s.heap (some .int) r (F0 m 4 ls []) := by
    intro  n
    induction n with
    | zero => intro x1 x2 ls hl h; exact lqZ2 h
    | succ n4 ih4 =>
      intro x1 x2 ls hl h
      have h := lqS2 h
      refine lv_iload_n hx hb dX3_way_4 rfl (lv_at hl 2 rfl) ?_
      refine lv_aload_n hx hb dX3_way_5 rfl (lv_at hl 0 rfl) ?_
      refine rC_80_0 F hP dX3_way_6 ?_
      obtain ⟨r1, e1, h⟩ := bsome h
      refine rd_VN F hP k_X5_countOfSounds mw_926 0 6 rfl (wsW_get 0 (by decide)) (q_X5_countOfSounds l D Y ad G  r1 e1) rfl hl.1 ⟨Nat.le_of_ble_eq_true rfl, Nat.le_of_ble_eq_true rfl⟩ (rest := [.int x2]) rfl (Nat.le_of_ble_eq_true rfl) ⟨Nat.le_of_ble_eq_true rfl, Nat.le_of_ble_eq_true rfl⟩ dX3_way_9 (fun o1 => ?_)
      refine lv_icmp_ge (tgt := 32) hx hb dX3_way_12 (by decide) (fun c2 => ?_) (fun c2 => ?_)
      · have h := ifT h c2
        refine lv_iload_n hx hb dX3_way_32 rfl (lv_at hl 1 rfl) ?_
        exact rd_end F hr hk rfl h dX3_way_33
      · have h := ifF h c2
        refine lv_iload_n hx hb dX3_way_15 rfl (lv_at hl 1 rfl) ?_
        refine lv_aload_n hx hb dX3_way_16 rfl (lv_at hl 0 rfl) ?_
        refine lv_iload_n hx hb dX3_way_17 rfl (lv_at hl 2 rfl) ?_
        obtain ⟨r3, e3, h⟩ := bsome h
        refine rd_V F hP k_X3_riseTo mw_927 80 5 rfl (wsW_get 80 (by decide)) (q_X3_riseTo l D Y ad G x2 r3 e3) rfl hl.1 ⟨Nat.le_of_ble_eq_true rfl, Nat.le_of_ble_eq_true rfl⟩ (rest := [.int x1]) rfl (Nat.le_of_ble_eq_true rfl) ⟨Nat.le_of_ble_eq_true rfl, Nat.le_of_ble_eq_true rfl⟩ dX3_way_18 (fun o3 => ?_)
        refine w_abs F hl mw_934 ⟨Nat.le_of_ble_eq_true rfl, Nat.le_of_ble_eq_true rfl, Nat.le_of_ble_eq_true rfl, Nat.le_of_ble_eq_true rfl⟩ dX3_way_21 ?_
        refine lv_iadd hx hb dX3_way_24 ?_
        refine lv_istore_n (lv' := [(1, .int ((x1 + (abs32 r3)))), (0, .ref (ad 80)), (2, .int x2)]) hx hb dX3_way_25 rfl hl (by decide) rfl (fun ls hl => ?_)
        refine lv_iinc (v := (x2 + 1)) (lv' := [(2, .int ((x2 + 1))), (1, .int ((x1 + (abs32 r3)))), (0, .ref (ad 80))]) hx hb dX3_way_26 hl (k := 2) rfl rfl (by decide) rfl (fun ls hl => ?_)
        refine lv_goto (tgt := 4) hx hb dX3_way_29 (by decide) ?_
        exact ih4 (x1 + (abs32 r3)) (x2 + 1) ls (lv_sub hl [2, 1, 0] rfl) h
  refine lv_iconst (v := 0) hx hb dX3_way_0 (by decide) ?_
  refine lv_istore_n (lv' := [(1, .int ((0 : Int32))), (0, .ref (ad 80))]) hx hb dX3_way_1 rfl hl (by decide) rfl (fun ls hl => ?_)
  refine lv_iconst (v := 0) hx hb dX3_way_2 (by decide) ?_
  refine lv_istore_n (lv' := [(2, .int ((0 : Int32))), (1, .int ((0 : Int32))), (0, .ref (ad 80))]) hx hb dX3_way_3 rfl hl (by decide) rfl (fun ls hl => ?_)
  exact key4 4096 (0 : Int32) (0 : Int32) ls (lv_sub hl [2, 1, 0] rfl) h
def f_X3_timesOver_79 (G : Nat → Nat → Int32) (a1 : Int32) (k7 : Int32 → Int32 → Int32 → Option Int32) (x2 : Int32) (x3 : Int32) (x4 : Int32) : Option Int32 := k7 x2 x3 (x4 + 1)
def f_X3_timesOver_74 (G : Nat → Nat → Int32) (a1 : Int32) (k7 : Int32 → Int32 → Int32 → Option Int32) (x4 : Int32) (x5 : Int32) (s74_0 : Int32) (s74_1 : Int32) : Option Int32 := f_X3_timesOver_79 G a1 k7 (s74_1 + s74_0) x5 x4
def f_X3_timesOver_73 (G : Nat → Nat → Int32) (a1 : Int32) (k7 : Int32 → Int32 → Int32 → Option Int32) (x4 : Int32) (x5 : Int32) (s73_0 : Int32) : Option Int32 := f_X3_timesOver_74 G a1 k7 x4 x5 (0 : Int32) s73_0
def f_X3_timesOver_66 (G : Nat → Nat → Int32) (a1 : Int32) (k7 : Int32 → Int32 → Int32 → Option Int32) (x4 : Int32) (x5 : Int32) (s66_0 : Int32) (s66_1 : Int32) (s66_2 : Int32) : Option Int32 := (if s66_1 = s66_0 then f_X3_timesOver_73 G a1 k7 x4 x5 s66_2 else f_X3_timesOver_74 G a1 k7 x4 x5 (1 : Int32) s66_2)
def f_X3_timesOver_56 (G : Nat → Nat → Int32) (a1 : Int32) (k7 : Int32 → Int32 → Int32 → Option Int32) (x3 : Int32) (x4 : Int32) (x5 : Int32) (s56_0 : Int32) (s56_1 : Int32) : Option Int32 := (if x3 ≤ a1 then f_X3_timesOver_66 G a1 k7 x4 x5 (0 : Int32) s56_0 s56_1 else f_X3_timesOver_66 G a1 k7 x4 x5 (1 : Int32) s56_0 s56_1)
def f_X3_timesOver_7 (G : Nat → Nat → Int32) (a1 : Int32) (n : Nat) (y2 : Int32) (y3 : Int32) (y4 : Int32) : Option Int32 := lq3 (fun (k7 : Int32 → Int32 → Int32 → Option Int32) (x2 : Int32) (x3 : Int32) (x4 : Int32) => ((f_X5_countOfSounds G ).bind fun r3 => (if r3 ≤ x4 then some x2 else ((f_X5_pitchOf G x4).bind fun r5 => (if r5 = (-1 : Int32) then f_X3_timesOver_79 G a1 k7 x2 x3 x4 else (if x3 = (-1 : Int32) then f_X3_timesOver_73 G a1 k7 x4 r5 x2 else (if r5 ≤ a1 then f_X3_timesOver_56 G a1 k7 x3 x4 r5 (0 : Int32) x2 else f_X3_timesOver_56 G a1 k7 x3 x4 r5 (1 : Int32) x2))))))) n y2 y3 y4
def f_X3_timesOver (G : Nat → Nat → Int32) (a1 : Int32) : Option Int32 := f_X3_timesOver_7 G a1 4096 (0 : Int32) (-1 : Int32) (0 : Int32)
set_option maxRecDepth 100000 in
set_option maxHeartbeats 4000000 in
theorem q_X3_timesOver (l : Launch) (D : va_G) (Y : Nat → ClassId) (ad : Nat → Nat) (G : Nat → Nat → Int32) (a1 : Int32) (r : Int32) (h : f_X3_timesOver G a1 = some r) : RD l yX3_timesOver cX3_timesOver 6 (some .int) 3 D Y (wsC Y ad G) [.ref (ad 80), .int a1] r := by
  refine RD_of (by decide) (Nat.le_of_ble_eq_true rfl) (lv := [(0, .ref (ad 80)), (1, .int a1)]) rfl ?_
  intro p e s m below meth c ls F hP hr hk hl
  have F : Fx p c cX3_timesOver 6 s m _ RX3 D Y := F
  have hx := F.1.1
  have hb := F.1.2.1
  have key7 : ∀ (n : Nat) (x2 : Int32) (x3 : Int32) (x4 : Int32) (ls : Array Slot), lv_has ls 6 [(0, .ref (ad 80)), (1, .int a1), (2, .int x2), (3, .int x3), (4, .int x4)] → f_X3_timesOver_7 G a1  n x2 x3 x4 = some r → WD p l e 3 s m ([.ref (ad 80), .int a1] : List Value).toArray below meth c s.heap (some .int) r (F0 m 7 ls []) := by
    intro  n
    induction n with
    | zero => intro x2 x3 x4 ls hl h; exact lqZ3 h
    | succ n7 ih7 =>
      have key79 : ∀ (x2 : Int32) (x3 : Int32) (x4 : Int32) (ls : Array Slot), lv_has ls 6 [(0, .ref (ad 80)), (1, .int a1), (2, .int x2), (3, .int x3), (4, .int x4)] → f_X3_timesOver_79 G a1 (f_X3_timesOver_7 G a1   n7) x2 x3 x4 = some r → WD p l e 3 s m ([.ref (ad 80), .int a1] : List Value).toArray below meth c s.heap (some .int) r (F0 m 79 ls []) := by
        intro x2 x3 x4 ls hl h
        refine lv_iinc (v := (x4 + 1)) (lv' := [(4, .int ((x4 + 1))), (0, .ref (ad 80)), (1, .int a1), (2, .int x2), (3, .int x3)]) hx hb dX3_timesOver_79 hl (k := 4) rfl rfl (by decide) rfl (fun ls hl => ?_)
        refine lv_goto (tgt := 7) hx hb dX3_timesOver_82 (by decide) ?_
        exact ih7 x2 x3 (x4 + 1) ls (lv_sub hl [1, 2, 3, 4, 0] rfl) h
      have key74 : ∀ (x4 : Int32) (x5 : Int32) (s74_0 : Int32) (s74_1 : Int32) (ls : Array Slot), lv_has ls 6 [(0, .ref (ad 80)), (1, .int a1), (4, .int x4), (5, .int x5)] → f_X3_timesOver_74 G a1 (f_X3_timesOver_7 G a1   n7) x4 x5 s74_0 s74_1 = some r → WD p l e 3 s m ([.ref (ad 80), .int a1] : List Value).toArray below meth c s.heap (some .int) r (F0 m 74 ls [.int s74_0, .int s74_1]) := by
        intro x4 x5 s74_0 s74_1 ls hl h
        refine lv_iadd hx hb dX3_timesOver_74 ?_
        refine lv_istore_n (lv' := [(2, .int ((s74_1 + s74_0))), (0, .ref (ad 80)), (1, .int a1), (4, .int x4), (5, .int x5)]) hx hb dX3_timesOver_75 rfl hl (by decide) rfl (fun ls hl => ?_)
        refine lv_iload hx hb dX3_timesOver_76 (lv_at hl 4 rfl) ?_
        refine lv_istore_n (lv' := [(3, .int x5), (2, .int ((s74_1 + s74_0))), (0, .ref (ad 80)), (1, .int a1), (4, .int x4), (5, .int x5)]) hx hb dX3_timesOver_78 rfl hl (by decide) rfl (fun ls hl => ?_)
        exact key79 (s74_1 + s74_0) x5 x4 ls (lv_sub hl [2, 3, 1, 0, 4] rfl) h
      have key73 : ∀ (x4 : Int32) (x5 : Int32) (s73_0 : Int32) (ls : Array Slot), lv_has ls 6 [(0, .ref (ad 80)), (1, .int a1), (4, .int x4), (5, .int x5)] → f_X3_timesOver_73 G a1 (f_X3_timesOver_7 G a1   n7) x4 x5 s73_0 = some r → WD p l e 3 s m ([.ref (ad 80), .int a1] : List Value).toArray below meth c s.heap (some .int) r (F0 m 73 ls [.int s73_0]) := by
        intro x4 x5 s73_0 ls hl h
        refine lv_iconst (v := 0) hx hb dX3_timesOver_73 (by decide) ?_
        exact key74 x4 x5 (0 : Int32) s73_0 ls (lv_sub hl [0, 1, 2, 3] rfl) h
      have key66 : ∀ (x4 : Int32) (x5 : Int32) (s66_0 : Int32) (s66_1 : Int32) (s66_2 : Int32) (ls : Array Slot), lv_has ls 6 [(0, .ref (ad 80)), (1, .int a1), (4, .int x4), (5, .int x5)] → f_X3_timesOver_66 G a1 (f_X3_timesOver_7 G a1   n7) x4 x5 s66_0 s66_1 s66_2 = some r → WD p l e 3 s m ([.ref (ad 80), .int a1] : List Value).toArray below meth c s.heap (some .int) r (F0 m 66 ls [.int s66_0, .int s66_1, .int s66_2]) := by
        intro x4 x5 s66_0 s66_1 s66_2 ls hl h
        refine lv_icmp_eq (tgt := 73) hx hb dX3_timesOver_66 (by decide) (fun c1 => ?_) (fun c1 => ?_)
        · have h := ifT h c1
          exact key73 x4 x5 s66_2 ls (lv_sub hl [0, 1, 2, 3] rfl) h
        · have h := ifF h c1
          refine lv_iconst (v := 1) hx hb dX3_timesOver_69 (by decide) ?_
          refine lv_goto (tgt := 74) hx hb dX3_timesOver_70 (by decide) ?_
          exact key74 x4 x5 (1 : Int32) s66_2 ls (lv_sub hl [0, 1, 2, 3] rfl) h
      have key56 : ∀ (x3 : Int32) (x4 : Int32) (x5 : Int32) (s56_0 : Int32) (s56_1 : Int32) (ls : Array Slot), lv_has ls 6 [(0, .ref (ad 80)), (1, .int a1), (3, .int x3), (4, .int x4), (5, .int x5)] → f_X3_timesOver_56 G a1 (f_X3_timesOver_7 G a1   n7) x3 x4 x5 s56_0 s56_1 = some r → WD p l e 3 s m ([.ref (ad 80), .int a1] : List Value).toArray below meth c s.heap (some .int) r (F0 m 56 ls [.int s56_0, .int s56_1]) := by
        intro x3 x4 x5 s56_0 s56_1 ls hl h
        refine lv_iload_n hx hb dX3_timesOver_56 rfl (lv_at hl 2 rfl) ?_
        refine lv_iload_n hx hb dX3_timesOver_57 rfl (lv_at hl 1 rfl) ?_
        refine lv_icmp_le (tgt := 65) hx hb dX3_timesOver_58 (by decide) (fun c2 => ?_) (fun c2 => ?_)
        · have h := ifT h c2
          refine lv_iconst (v := 0) hx hb dX3_timesOver_65 (by decide) ?_
          exact key66 x4 x5 (0 : Int32) s56_0 s56_1 ls (lv_sub hl [0, 1, 3, 4] rfl) h
        · have h := ifF h c2
          refine lv_iconst (v := 1) hx hb dX3_timesOver_61 (by decide) ?_
          refine lv_goto (tgt := 66) hx hb dX3_timesOver_62 (by decide) ?_
          exact key66 x4 x5 (1 : Int32) s56_0 s56_1 ls (lv_sub hl [0, 1, 3, 4] rfl) h
      intro x2 x3 x4 ls hl h
      have h := lqS3 h
      refine lv_iload hx hb dX3_timesOver_7 (lv_at hl 4 rfl) ?_
      refine lv_aload_n hx hb dX3_timesOver_9 rfl (lv_at hl 0 rfl) ?_
      refine rC_80_0 F hP dX3_timesOver_10 ?_
      obtain ⟨r3, e3, h⟩ := bsome h
      refine rd_VN F hP k_X5_countOfSounds mw_926 0 6 rfl (wsW_get 0 (by decide)) (q_X5_countOfSounds l D Y ad G  r3 e3) rfl hl.1 ⟨Nat.le_of_ble_eq_true rfl, Nat.le_of_ble_eq_true rfl⟩ (rest := [.int x4]) rfl (Nat.le_of_ble_eq_true rfl) ⟨Nat.le_of_ble_eq_true rfl, Nat.le_of_ble_eq_true rfl⟩ dX3_timesOver_13 (fun o3 => ?_)
      refine lv_icmp_ge (tgt := 85) hx hb dX3_timesOver_16 (by decide) (fun c4 => ?_) (fun c4 => ?_)
      · have h := ifT h c4
        refine lv_iload_n hx hb dX3_timesOver_85 rfl (lv_at hl 2 rfl) ?_
        exact rd_end F hr hk rfl h dX3_timesOver_86
      · have h := ifF h c4
        refine lv_aload_n hx hb dX3_timesOver_19 rfl (lv_at hl 0 rfl) ?_
        refine rC_80_0 F hP dX3_timesOver_20 ?_
        refine lv_iload hx hb dX3_timesOver_23 (lv_at hl 4 rfl) ?_
        obtain ⟨r5, e5, h⟩ := bsome h
        refine rd_VN F hP k_X5_pitchOf mw_933 0 6 rfl (wsW_get 0 (by decide)) (q_X5_pitchOf l D Y ad G x4 r5 e5) rfl hl.1 ⟨Nat.le_of_ble_eq_true rfl, Nat.le_of_ble_eq_true rfl⟩ (rest := []) rfl (Nat.le_of_ble_eq_true rfl) ⟨Nat.le_of_ble_eq_true rfl, Nat.le_of_ble_eq_true rfl⟩ dX3_timesOver_25 (fun o5 => ?_)
        refine lv_istore (lv' := [(5, .int r5), (0, .ref (ad 80)), (1, .int a1), (2, .int x2), (3, .int x3), (4, .int x4)]) hx hb dX3_timesOver_28 hl (by decide) rfl (fun ls hl => ?_)
        refine lv_iload hx hb dX3_timesOver_30 (lv_at hl 0 rfl) ?_
        refine lv_iconst (v := -1) hx hb dX3_timesOver_32 (by decide) ?_
        refine lv_icmp_ne (tgt := 39) hx hb dX3_timesOver_33 (by decide) (fun c6 => ?_) (fun c6 => ?_)
        · have h := ifF h c6
          refine lv_iload_n hx hb dX3_timesOver_39 rfl (lv_at hl 3 rfl) ?_
          refine lv_iload_n hx hb dX3_timesOver_40 rfl (lv_at hl 4 rfl) ?_
          refine lv_iconst (v := -1) hx hb dX3_timesOver_41 (by decide) ?_
          refine lv_icmp_eq (tgt := 73) hx hb dX3_timesOver_42 (by decide) (fun c7 => ?_) (fun c7 => ?_)
          · have h := ifT h c7
            exact key73 x4 r5 x2 ls (lv_sub hl [1, 2, 5, 0] rfl) h
          · have h := ifF h c7
            refine lv_iload hx hb dX3_timesOver_45 (lv_at hl 0 rfl) ?_
            refine lv_iload_n hx hb dX3_timesOver_47 rfl (lv_at hl 2 rfl) ?_
            refine lv_icmp_le (tgt := 55) hx hb dX3_timesOver_48 (by decide) (fun c8 => ?_) (fun c8 => ?_)
            · have h := ifT h c8
              refine lv_iconst (v := 0) hx hb dX3_timesOver_55 (by decide) ?_
              exact key56 x3 x4 r5 (0 : Int32) x2 ls (lv_sub hl [1, 2, 4, 5, 0] rfl) h
            · have h := ifF h c8
              refine lv_iconst (v := 1) hx hb dX3_timesOver_51 (by decide) ?_
              refine lv_goto (tgt := 56) hx hb dX3_timesOver_52 (by decide) ?_
              exact key56 x3 x4 r5 (1 : Int32) x2 ls (lv_sub hl [1, 2, 4, 5, 0] rfl) h
        · have h := ifT h c6
          refine lv_goto (tgt := 79) hx hb dX3_timesOver_36 (by decide) ?_
          exact key79 x2 x3 x4 ls (lv_sub hl [1, 2, 3, 4, 5] rfl) h
  refine lv_iconst (v := 0) hx hb dX3_timesOver_0 (by decide) ?_
  refine lv_istore_n (lv' := [(2, .int ((0 : Int32))), (0, .ref (ad 80)), (1, .int a1)]) hx hb dX3_timesOver_1 rfl hl (by decide) rfl (fun ls hl => ?_)
  refine lv_iconst (v := -1) hx hb dX3_timesOver_2 (by decide) ?_
  refine lv_istore_n (lv' := [(3, .int ((-1 : Int32))), (2, .int ((0 : Int32))), (0, .ref (ad 80)), (1, .int a1)]) hx hb dX3_timesOver_3 rfl hl (by decide) rfl (fun ls hl => ?_)
  refine lv_iconst (v := 0) hx hb dX3_timesOver_4 (by decide) ?_
  refine lv_istore (lv' := [(4, .int ((0 : Int32))), (3, .int ((-1 : Int32))), (2, .int ((0 : Int32))), (0, .ref (ad 80)), (1, .int a1)]) hx hb dX3_timesOver_5 hl (by decide) rfl (fun ls hl => ?_)
  exact key7 4096 (0 : Int32) (-1 : Int32) (0 : Int32) ls (lv_sub hl [3, 4, 2, 1, 0] rfl) h
def f_X3_wayBySteps_4 (G : Nat → Nat → Int32) (n : Nat) (y1 : Int32) (y2 : Int32) : Option Int32 := lq2 (fun (k4 : Int32 → Int32 → Option Int32) (x1 : Int32) (x2 : Int32) => (if (11 : Int32) ≤ x2 then some x1 else ((f_X3_timesOver G x2).bind fun r2 => k4 (x1 + r2) (x2 + 1)))) n y1 y2
def f_X3_wayBySteps (G : Nat → Nat → Int32) : Option Int32 := f_X3_wayBySteps_4 G 4096 (0 : Int32) (0 : Int32)
set_option maxRecDepth 100000 in
set_option maxHeartbeats 4000000 in
theorem q_X3_wayBySteps (l : Launch) (D : va_G) (Y : Nat → ClassId) (ad : Nat → Nat) (G : Nat → Nat → Int32) (r : Int32) (h : f_X3_wayBySteps G  = some r) : RD l yX3_wayBySteps cX3_wayBySteps 3 (some .int) 4 D Y (wsC Y ad G) [.ref (ad 80)] r := by
  refine RD_of (by decide) (Nat.le_of_ble_eq_true rfl) (lv := [(0, .ref (ad 80))]) rfl ?_
  intro p e s m below meth c ls F hP hr hk hl
  have F : Fx p c cX3_wayBySteps 3 s m _ RX3 D Y := F
  have hx := F.1.1
  have hb := F.1.2.1
  have key4 : ∀ (n : Nat) (x1 : Int32) (x2 : Int32) (ls : Array Slot), lv_has ls 3 [(0, .ref (ad 80)), (1, .int x1), (2, .int x2)] → f_X3_wayBySteps_4 G   n x1 x2 = some r → WD p l e 4 s m ([.ref (ad 80)] : List Value).toArray below meth c s.heap (some .int) r (F0 m 4 ls []) := by
    intro  n
    induction n with
    | zero => intro x1 x2 ls hl h; exact lqZ2 h
    | succ n4 ih4 =>
      intro x1 x2 ls hl h
      have h := lqS2 h
      refine lv_iload_n hx hb dX3_wayBySteps_4 rfl (lv_at hl 2 rfl) ?_
      refine lv_bipush (v := 11) hx hb dX3_wayBySteps_5 (by decide) ?_
      refine lv_icmp_ge (tgt := 24) hx hb dX3_wayBySteps_7 (by decide) (fun c1 => ?_) (fun c1 => ?_)
      · have h := ifT h c1
        refine lv_iload_n hx hb dX3_wayBySteps_24 rfl (lv_at hl 1 rfl) ?_
        exact rd_end F hr hk rfl h dX3_wayBySteps_25
      · have h := ifF h c1
        refine lv_iload_n hx hb dX3_wayBySteps_10 rfl (lv_at hl 1 rfl) ?_
        refine lv_aload_n hx hb dX3_wayBySteps_11 rfl (lv_at hl 0 rfl) ?_
        refine lv_iload_n hx hb dX3_wayBySteps_12 rfl (lv_at hl 2 rfl) ?_
        obtain ⟨r2, e2, h⟩ := bsome h
        refine rd_V F hP k_X3_timesOver mw_939 80 5 rfl (wsW_get 80 (by decide)) (q_X3_timesOver l D Y ad G x2 r2 e2) rfl hl.1 ⟨Nat.le_of_ble_eq_true rfl, Nat.le_of_ble_eq_true rfl⟩ (rest := [.int x1]) rfl (Nat.le_of_ble_eq_true rfl) ⟨Nat.le_of_ble_eq_true rfl, Nat.le_of_ble_eq_true rfl⟩ dX3_wayBySteps_13 (fun o2 => ?_)
        refine lv_iadd hx hb dX3_wayBySteps_16 ?_
        refine lv_istore_n (lv' := [(1, .int ((x1 + r2))), (0, .ref (ad 80)), (2, .int x2)]) hx hb dX3_wayBySteps_17 rfl hl (by decide) rfl (fun ls hl => ?_)
        refine lv_iinc (v := (x2 + 1)) (lv' := [(2, .int ((x2 + 1))), (1, .int ((x1 + r2))), (0, .ref (ad 80))]) hx hb dX3_wayBySteps_18 hl (k := 2) rfl rfl (by decide) rfl (fun ls hl => ?_)
        refine lv_goto (tgt := 4) hx hb dX3_wayBySteps_21 (by decide) ?_
        exact ih4 (x1 + r2) (x2 + 1) ls (lv_sub hl [2, 1, 0] rfl) h
  refine lv_iconst (v := 0) hx hb dX3_wayBySteps_0 (by decide) ?_
  refine lv_istore_n (lv' := [(1, .int ((0 : Int32))), (0, .ref (ad 80))]) hx hb dX3_wayBySteps_1 rfl hl (by decide) rfl (fun ls hl => ?_)
  refine lv_iconst (v := 0) hx hb dX3_wayBySteps_2 (by decide) ?_
  refine lv_istore_n (lv' := [(2, .int ((0 : Int32))), (1, .int ((0 : Int32))), (0, .ref (ad 80))]) hx hb dX3_wayBySteps_3 rfl hl (by decide) rfl (fun ls hl => ?_)
  exact key4 4096 (0 : Int32) (0 : Int32) ls (lv_sub hl [2, 1, 0] rfl) h
def f_X3_moves_45 (G : Nat → Nat → Int32) (a1 : Int32) (k4 : Int32 → Int32 → Option Int32) (x3 : Int32) (s45_0 : Int32) (s45_1 : Int32) : Option Int32 := k4 (s45_1 + s45_0) (x3 + 1)
def f_X3_moves_44 (G : Nat → Nat → Int32) (a1 : Int32) (k4 : Int32 → Int32 → Option Int32) (x3 : Int32) (s44_0 : Int32) : Option Int32 := f_X3_moves_45 G a1 k4 x3 (0 : Int32) s44_0
def f_X3_moves_40 (G : Nat → Nat → Int32) (a1 : Int32) (k4 : Int32 → Int32 → Option Int32) (x3 : Int32) (s40_0 : Int32) : Option Int32 := f_X3_moves_45 G a1 k4 x3 (1 : Int32) s40_0
def f_X3_moves_4 (G : Nat → Nat → Int32) (a1 : Int32) (n : Nat) (y2 : Int32) (y3 : Int32) : Option Int32 := lq2 (fun (k4 : Int32 → Int32 → Option Int32) (x2 : Int32) (x3 : Int32) => ((f_X5_countOfSounds G ).bind fun r1 => (if r1 ≤ x3 then some x2 else ((f_X3_riseTo G x3).bind fun r3 => (if a1 = 0 then (if 0 ≤ r3 then f_X3_moves_44 G a1 k4 x3 x2 else f_X3_moves_40 G a1 k4 x3 x2) else (if r3 ≤ 0 then f_X3_moves_44 G a1 k4 x3 x2 else f_X3_moves_40 G a1 k4 x3 x2)))))) n y2 y3
def f_X3_moves (G : Nat → Nat → Int32) (a1 : Int32) : Option Int32 := f_X3_moves_4 G a1 4096 (0 : Int32) (0 : Int32)
set_option maxRecDepth 100000 in
set_option maxHeartbeats 4000000 in
theorem q_X3_moves (l : Launch) (D : va_G) (Y : Nat → ClassId) (ad : Nat → Nat) (G : Nat → Nat → Int32) (a1 : Int32) (r : Int32) (h : f_X3_moves G a1 = some r) : RD l yX3_moves cX3_moves 5 (some .int) 4 D Y (wsC Y ad G) [.ref (ad 80), .int a1] r := by
  refine RD_of (by decide) (Nat.le_of_ble_eq_true rfl) (lv := [(0, .ref (ad 80)), (1, .int a1)]) rfl ?_
  intro p e s m below meth c ls F hP hr hk hl
  have F : Fx p c cX3_moves 5 s m _ RX3 D Y := F
  have hx := F.1.1
  have hb := F.1.2.1
  have key4 : ∀ (n : Nat) (x2 : Int32) (x3 : Int32) (ls : Array Slot), lv_has ls 5 [(0, .ref (ad 80)), (1, .int a1), (2, .int x2), (3, .int x3)] → f_X3_moves_4 G a1  n x2 x3 = some r → WD p l e 4 s m ([.ref (ad 80), .int a1] : List Value).toArray below meth c s.heap (some .int) r (F0 m 4 ls []) := by
    intro  n
    induction n with
    | zero => intro x2 x3 ls hl h; exact lqZ2 h
    | succ n4 ih4 =>
      have key45 : ∀ (x3 : Int32) (s45_0 : Int32) (s45_1 : Int32) (ls : Array Slot), lv_has ls 5 [(0, .ref (ad 80)), (1, .int a1), (3, .int x3)] → f_X3_moves_45 G a1 (f_X3_moves_4 G a1   n4) x3 s45_0 s45_1 = some r → WD p l e 4 s m ([.ref (ad 80), .int a1] : List Value).toArray below meth c s.heap (some .int) r (F0 m 45 ls [.int s45_0, .int s45_1]) := by
        intro x3 s45_0 s45_1 ls hl h
        refine lv_iadd hx hb dX3_moves_45 ?_
        refine lv_istore_n (lv' := [(2, .int ((s45_1 + s45_0))), (0, .ref (ad 80)), (1, .int a1), (3, .int x3)]) hx hb dX3_moves_46 rfl hl (by decide) rfl (fun ls hl => ?_)
        refine lv_iinc (v := (x3 + 1)) (lv' := [(3, .int ((x3 + 1))), (2, .int ((s45_1 + s45_0))), (0, .ref (ad 80)), (1, .int a1)]) hx hb dX3_moves_47 hl (k := 3) rfl rfl (by decide) rfl (fun ls hl => ?_)
        refine lv_goto (tgt := 4) hx hb dX3_moves_50 (by decide) ?_
        exact ih4 (s45_1 + s45_0) (x3 + 1) ls (lv_sub hl [2, 3, 1, 0] rfl) h
      have key44 : ∀ (x3 : Int32) (s44_0 : Int32) (ls : Array Slot), lv_has ls 5 [(0, .ref (ad 80)), (1, .int a1), (3, .int x3)] → f_X3_moves_44 G a1 (f_X3_moves_4 G a1   n4) x3 s44_0 = some r → WD p l e 4 s m ([.ref (ad 80), .int a1] : List Value).toArray below meth c s.heap (some .int) r (F0 m 44 ls [.int s44_0]) := by
        intro x3 s44_0 ls hl h
        refine lv_iconst (v := 0) hx hb dX3_moves_44 (by decide) ?_
        exact key45 x3 (0 : Int32) s44_0 ls (lv_sub hl [0, 1, 2] rfl) h
      have key40 : ∀ (x3 : Int32) (s40_0 : Int32) (ls : Array Slot), lv_has ls 5 [(0, .ref (ad 80)), (1, .int a1), (3, .int x3)] → f_X3_moves_40 G a1 (f_X3_moves_4 G a1   n4) x3 s40_0 = some r → WD p l e 4 s m ([.ref (ad 80), .int a1] : List Value).toArray below meth c s.heap (some .int) r (F0 m 40 ls [.int s40_0]) := by
        intro x3 s40_0 ls hl h
        refine lv_iconst (v := 1) hx hb dX3_moves_40 (by decide) ?_
        refine lv_goto (tgt := 45) hx hb dX3_moves_41 (by decide) ?_
        exact key45 x3 (1 : Int32) s40_0 ls (lv_sub hl [0, 1, 2] rfl) h
      intro x2 x3 ls hl h
      have h := lqS2 h
      refine lv_iload_n hx hb dX3_moves_4 rfl (lv_at hl 3 rfl) ?_
      refine lv_aload_n hx hb dX3_moves_5 rfl (lv_at hl 0 rfl) ?_
      refine rC_80_0 F hP dX3_moves_6 ?_
      obtain ⟨r1, e1, h⟩ := bsome h
      refine rd_VN F hP k_X5_countOfSounds mw_926 0 6 rfl (wsW_get 0 (by decide)) (q_X5_countOfSounds l D Y ad G  r1 e1) rfl hl.1 ⟨Nat.le_of_ble_eq_true rfl, Nat.le_of_ble_eq_true rfl⟩ (rest := [.int x3]) rfl (Nat.le_of_ble_eq_true rfl) ⟨Nat.le_of_ble_eq_true rfl, Nat.le_of_ble_eq_true rfl⟩ dX3_moves_9 (fun o1 => ?_)
      refine lv_icmp_ge (tgt := 53) hx hb dX3_moves_12 (by decide) (fun c2 => ?_) (fun c2 => ?_)
      · have h := ifT h c2
        refine lv_iload_n hx hb dX3_moves_53 rfl (lv_at hl 2 rfl) ?_
        exact rd_end F hr hk rfl h dX3_moves_54
      · have h := ifF h c2
        refine lv_aload_n hx hb dX3_moves_15 rfl (lv_at hl 0 rfl) ?_
        refine lv_iload_n hx hb dX3_moves_16 rfl (lv_at hl 3 rfl) ?_
        obtain ⟨r3, e3, h⟩ := bsome h
        refine rd_V F hP k_X3_riseTo mw_927 80 5 rfl (wsW_get 80 (by decide)) (q_X3_riseTo l D Y ad G x3 r3 e3) rfl hl.1 ⟨Nat.le_of_ble_eq_true rfl, Nat.le_of_ble_eq_true rfl⟩ (rest := []) rfl (Nat.le_of_ble_eq_true rfl) ⟨Nat.le_of_ble_eq_true rfl, Nat.le_of_ble_eq_true rfl⟩ dX3_moves_17 (fun o3 => ?_)
        refine lv_istore (lv' := [(4, .int r3), (0, .ref (ad 80)), (1, .int a1), (2, .int x2), (3, .int x3)]) hx hb dX3_moves_20 hl (by decide) rfl (fun ls hl => ?_)
        refine lv_iload_n hx hb dX3_moves_22 rfl (lv_at hl 3 rfl) ?_
        refine lv_iload_n hx hb dX3_moves_23 rfl (lv_at hl 2 rfl) ?_
        refine lv_if_eq (tgt := 35) hx hb dX3_moves_24 (by decide) (fun c4 => ?_) (fun c4 => ?_)
        · have h := ifT h c4
          refine lv_iload hx hb dX3_moves_35 (lv_at hl 0 rfl) ?_
          refine lv_if_ge (tgt := 44) hx hb dX3_moves_37 (by decide) (fun c5 => ?_) (fun c5 => ?_)
          · have h := ifT h c5
            exact key44 x3 x2 ls (lv_sub hl [1, 2, 4] rfl) h
          · have h := ifF h c5
            exact key40 x3 x2 ls (lv_sub hl [1, 2, 4] rfl) h
        · have h := ifF h c4
          refine lv_iload hx hb dX3_moves_27 (lv_at hl 0 rfl) ?_
          refine lv_if_le (tgt := 44) hx hb dX3_moves_29 (by decide) (fun c6 => ?_) (fun c6 => ?_)
          · have h := ifT h c6
            exact key44 x3 x2 ls (lv_sub hl [1, 2, 4] rfl) h
          · have h := ifF h c6
            refine lv_goto (tgt := 40) hx hb dX3_moves_32 (by decide) ?_
            exact key40 x3 x2 ls (lv_sub hl [1, 2, 4] rfl) h
  refine lv_iconst (v := 0) hx hb dX3_moves_0 (by decide) ?_
  refine lv_istore_n (lv' := [(2, .int ((0 : Int32))), (0, .ref (ad 80)), (1, .int a1)]) hx hb dX3_moves_1 rfl hl (by decide) rfl (fun ls hl => ?_)
  refine lv_iconst (v := 0) hx hb dX3_moves_2 (by decide) ?_
  refine lv_istore_n (lv' := [(3, .int ((0 : Int32))), (2, .int ((0 : Int32))), (0, .ref (ad 80)), (1, .int a1)]) hx hb dX3_moves_3 rfl hl (by decide) rfl (fun ls hl => ?_)
  exact key4 4096 (0 : Int32) (0 : Int32) ls (lv_sub hl [2, 3, 1, 0] rfl) h
def f_X3_width_48 (G : Nat → Nat → Int32) (k7 : Int32 → Int32 → Int32 → Option Int32) (x1 : Int32) (x2 : Int32) (x3 : Int32) : Option Int32 := k7 x1 x2 (x3 + 1)
def f_X3_width_7 (G : Nat → Nat → Int32) (n : Nat) (y1 : Int32) (y2 : Int32) (y3 : Int32) : Option Int32 := lq3 (fun (k7 : Int32 → Int32 → Int32 → Option Int32) (x1 : Int32) (x2 : Int32) (x3 : Int32) => ((f_X5_countOfSounds G ).bind fun r1 => (if r1 ≤ x3 then (if x2 = (-1 : Int32) then some (0 : Int32) else some (x2 - x1)) else ((f_X5_pitchOf G x3).bind fun r4 => (if r4 = (-1 : Int32) then f_X3_width_48 G k7 x1 x2 x3 else f_X3_width_48 G k7 (min32 x1 r4) (max32 x2 r4) x3))))) n y1 y2 y3
def f_X3_width (G : Nat → Nat → Int32) : Option Int32 := f_X3_width_7 G 4096 (12 : Int32) (-1 : Int32) (0 : Int32)
set_option maxRecDepth 100000 in
set_option maxHeartbeats 4000000 in
theorem q_X3_width (l : Launch) (D : va_G) (Y : Nat → ClassId) (ad : Nat → Nat) (G : Nat → Nat → Int32) (r : Int32) (h : f_X3_width G  = some r) : RD l yX3_width cX3_width 5 (some .int) 3 D Y (wsC Y ad G) [.ref (ad 80)] r := by
  refine RD_of (by decide) (Nat.le_of_ble_eq_true rfl) (lv := [(0, .ref (ad 80))]) rfl ?_
  intro p e s m below meth c ls F hP hr hk hl
  have F : Fx p c cX3_width 5 s m _ RX3 D Y := F
  have hx := F.1.1
  have hb := F.1.2.1
  have key7 : ∀ (n : Nat) (x1 : Int32) (x2 : Int32) (x3 : Int32) (ls : Array Slot), lv_has ls 5 [(0, .ref (ad 80)), (1, .int x1), (2, .int x2), (3, .int x3)] → f_X3_width_7 G   n x1 x2 x3 = some r → WD p l e 3 s m ([.ref (ad 80)] : List Value).toArray below meth c s.heap (some .int) r (F0 m 7 ls []) := by
    intro  n
    induction n with
    | zero => intro x1 x2 x3 ls hl h; exact lqZ3 h
    | succ n7 ih7 =>
      have key48 : ∀ (x1 : Int32) (x2 : Int32) (x3 : Int32) (ls : Array Slot), lv_has ls 5 [(0, .ref (ad 80)), (1, .int x1), (2, .int x2), (3, .int x3)] → f_X3_width_48 G  (f_X3_width_7 G    n7) x1 x2 x3 = some r → WD p l e 3 s m ([.ref (ad 80)] : List Value).toArray below meth c s.heap (some .int) r (F0 m 48 ls []) := by
        intro x1 x2 x3 ls hl h
        refine lv_iinc (v := (x3 + 1)) (lv' := [(3, .int ((x3 + 1))), (0, .ref (ad 80)), (1, .int x1), (2, .int x2)]) hx hb dX3_width_48 hl (k := 3) rfl rfl (by decide) rfl (fun ls hl => ?_)
        refine lv_goto (tgt := 7) hx hb dX3_width_51 (by decide) ?_
        exact ih7 x1 x2 (x3 + 1) ls (lv_sub hl [1, 2, 3, 0] rfl) h
      intro x1 x2 x3 ls hl h
      have h := lqS3 h
      refine lv_iload_n hx hb dX3_width_7 rfl (lv_at hl 3 rfl) ?_
      refine lv_aload_n hx hb dX3_width_8 rfl (lv_at hl 0 rfl) ?_
      refine rC_80_0 F hP dX3_width_9 ?_
      obtain ⟨r1, e1, h⟩ := bsome h
      refine rd_VN F hP k_X5_countOfSounds mw_926 0 6 rfl (wsW_get 0 (by decide)) (q_X5_countOfSounds l D Y ad G  r1 e1) rfl hl.1 ⟨Nat.le_of_ble_eq_true rfl, Nat.le_of_ble_eq_true rfl⟩ (rest := [.int x3]) rfl (Nat.le_of_ble_eq_true rfl) ⟨Nat.le_of_ble_eq_true rfl, Nat.le_of_ble_eq_true rfl⟩ dX3_width_12 (fun o1 => ?_)
      refine lv_icmp_ge (tgt := 54) hx hb dX3_width_15 (by decide) (fun c2 => ?_) (fun c2 => ?_)
      · have h := ifT h c2
        refine lv_iload_n hx hb dX3_width_54 rfl (lv_at hl 2 rfl) ?_
        refine lv_iconst (v := -1) hx hb dX3_width_55 (by decide) ?_
        refine lv_icmp_ne (tgt := 63) hx hb dX3_width_56 (by decide) (fun c3 => ?_) (fun c3 => ?_)
        · have h := ifF h c3
          refine lv_iload_n hx hb dX3_width_63 rfl (lv_at hl 2 rfl) ?_
          refine lv_iload_n hx hb dX3_width_64 rfl (lv_at hl 1 rfl) ?_
          refine lv_isub hx hb dX3_width_65 ?_
          exact rd_end F hr hk rfl h dX3_width_66
        · have h := ifT h c3
          refine lv_iconst (v := 0) hx hb dX3_width_59 (by decide) ?_
          refine lv_goto (tgt := 66) hx hb dX3_width_60 (by decide) ?_
          exact rd_end F hr hk rfl h dX3_width_66
      · have h := ifF h c2
        refine lv_aload_n hx hb dX3_width_18 rfl (lv_at hl 0 rfl) ?_
        refine rC_80_0 F hP dX3_width_19 ?_
        refine lv_iload_n hx hb dX3_width_22 rfl (lv_at hl 3 rfl) ?_
        obtain ⟨r4, e4, h⟩ := bsome h
        refine rd_VN F hP k_X5_pitchOf mw_933 0 6 rfl (wsW_get 0 (by decide)) (q_X5_pitchOf l D Y ad G x3 r4 e4) rfl hl.1 ⟨Nat.le_of_ble_eq_true rfl, Nat.le_of_ble_eq_true rfl⟩ (rest := []) rfl (Nat.le_of_ble_eq_true rfl) ⟨Nat.le_of_ble_eq_true rfl, Nat.le_of_ble_eq_true rfl⟩ dX3_width_23 (fun o4 => ?_)
        refine lv_istore (lv' := [(4, .int r4), (0, .ref (ad 80)), (1, .int x1), (2, .int x2), (3, .int x3)]) hx hb dX3_width_26 hl (by decide) rfl (fun ls hl => ?_)
        refine lv_iload hx hb dX3_width_28 (lv_at hl 0 rfl) ?_
        refine lv_iconst (v := -1) hx hb dX3_width_30 (by decide) ?_
        refine lv_icmp_eq (tgt := 48) hx hb dX3_width_31 (by decide) (fun c5 => ?_) (fun c5 => ?_)
        · have h := ifT h c5
          exact key48 x1 x2 x3 ls (lv_sub hl [1, 2, 3, 4] rfl) h
        · have h := ifF h c5
          refine lv_iload_n hx hb dX3_width_34 rfl (lv_at hl 2 rfl) ?_
          refine lv_iload hx hb dX3_width_35 (lv_at hl 0 rfl) ?_
          refine w_min F hl mw_974 ⟨Nat.le_of_ble_eq_true rfl, Nat.le_of_ble_eq_true rfl, Nat.le_of_ble_eq_true rfl, Nat.le_of_ble_eq_true rfl⟩ dX3_width_37 ?_
          refine lv_istore_n (lv' := [(1, .int ((min32 x1 r4))), (4, .int r4), (0, .ref (ad 80)), (2, .int x2), (3, .int x3)]) hx hb dX3_width_40 rfl hl (by decide) rfl (fun ls hl => ?_)
          refine lv_iload_n hx hb dX3_width_41 rfl (lv_at hl 3 rfl) ?_
          refine lv_iload hx hb dX3_width_42 (lv_at hl 1 rfl) ?_
          refine w_max F hl mw_975 ⟨Nat.le_of_ble_eq_true rfl, Nat.le_of_ble_eq_true rfl, Nat.le_of_ble_eq_true rfl, Nat.le_of_ble_eq_true rfl⟩ dX3_width_44 ?_
          refine lv_istore_n (lv' := [(2, .int ((max32 x2 r4))), (1, .int ((min32 x1 r4))), (4, .int r4), (0, .ref (ad 80)), (3, .int x3)]) hx hb dX3_width_47 rfl hl (by decide) rfl (fun ls hl => ?_)
          exact key48 (min32 x1 r4) (max32 x2 r4) x3 ls (lv_sub hl [3, 1, 0, 4] rfl) h
  refine lv_bipush (v := 12) hx hb dX3_width_0 (by decide) ?_
  refine lv_istore_n (lv' := [(1, .int ((12 : Int32))), (0, .ref (ad 80))]) hx hb dX3_width_2 rfl hl (by decide) rfl (fun ls hl => ?_)
  refine lv_iconst (v := -1) hx hb dX3_width_3 (by decide) ?_
  refine lv_istore_n (lv' := [(2, .int ((-1 : Int32))), (1, .int ((12 : Int32))), (0, .ref (ad 80))]) hx hb dX3_width_4 rfl hl (by decide) rfl (fun ls hl => ?_)
  refine lv_iconst (v := 0) hx hb dX3_width_5 (by decide) ?_
  refine lv_istore_n (lv' := [(3, .int ((0 : Int32))), (2, .int ((-1 : Int32))), (1, .int ((12 : Int32))), (0, .ref (ad 80))]) hx hb dX3_width_6 rfl hl (by decide) rfl (fun ls hl => ?_)
  exact key7 4096 (12 : Int32) (-1 : Int32) (0 : Int32) ls (lv_sub hl [3, 2, 1, 0] rfl) h
def f_X3_dropsAt_33 (G : Nat → Nat → Int32) (a1 : Int32) (k4 : Int32 → Int32 → Option Int32) (x3 : Int32) (s33_0 : Int32) (s33_1 : Int32) : Option Int32 := k4 (s33_1 + s33_0) (x3 + 1)
def f_X3_dropsAt_4 (G : Nat → Nat → Int32) (a1 : Int32) (n : Nat) (y2 : Int32) (y3 : Int32) : Option Int32 := lq2 (fun (k4 : Int32 → Int32 → Option Int32) (x2 : Int32) (x3 : Int32) => ((f_X5_countOfSounds G ).bind fun r1 => (if r1 ≤ x3 then some x2 else ((f_X5_pitchOf G x3).bind fun r3 => (if r3 = a1 then f_X3_dropsAt_33 G a1 k4 x3 (1 : Int32) x2 else f_X3_dropsAt_33 G a1 k4 x3 (0 : Int32) x2))))) n y2 y3
def f_X3_dropsAt (G : Nat → Nat → Int32) (a1 : Int32) : Option Int32 := f_X3_dropsAt_4 G a1 4096 (0 : Int32) (0 : Int32)
set_option maxRecDepth 100000 in
set_option maxHeartbeats 4000000 in
theorem q_X3_dropsAt (l : Launch) (D : va_G) (Y : Nat → ClassId) (ad : Nat → Nat) (G : Nat → Nat → Int32) (a1 : Int32) (r : Int32) (h : f_X3_dropsAt G a1 = some r) : RD l yX3_dropsAt cX3_dropsAt 4 (some .int) 3 D Y (wsC Y ad G) [.ref (ad 80), .int a1] r := by
  refine RD_of (by decide) (Nat.le_of_ble_eq_true rfl) (lv := [(0, .ref (ad 80)), (1, .int a1)]) rfl ?_
  intro p e s m below meth c ls F hP hr hk hl
  have F : Fx p c cX3_dropsAt 4 s m _ RX3 D Y := F
  have hx := F.1.1
  have hb := F.1.2.1
  have key4 : ∀ (n : Nat) (x2 : Int32) (x3 : Int32) (ls : Array Slot), lv_has ls 4 [(0, .ref (ad 80)), (1, .int a1), (2, .int x2), (3, .int x3)] → f_X3_dropsAt_4 G a1  n x2 x3 = some r → WD p l e 3 s m ([.ref (ad 80), .int a1] : List Value).toArray below meth c s.heap (some .int) r (F0 m 4 ls []) := by
    intro  n
    induction n with
    | zero => intro x2 x3 ls hl h; exact lqZ2 h
    | succ n4 ih4 =>
      have key33 : ∀ (x3 : Int32) (s33_0 : Int32) (s33_1 : Int32) (ls : Array Slot), lv_has ls 4 [(0, .ref (ad 80)), (1, .int a1), (3, .int x3)] → f_X3_dropsAt_33 G a1 (f_X3_dropsAt_4 G a1   n4) x3 s33_0 s33_1 = some r → WD p l e 3 s m ([.ref (ad 80), .int a1] : List Value).toArray below meth c s.heap (some .int) r (F0 m 33 ls [.int s33_0, .int s33_1]) := by
        intro x3 s33_0 s33_1 ls hl h
        refine lv_iadd hx hb dX3_dropsAt_33 ?_
        refine lv_istore_n (lv' := [(2, .int ((s33_1 + s33_0))), (0, .ref (ad 80)), (1, .int a1), (3, .int x3)]) hx hb dX3_dropsAt_34 rfl hl (by decide) rfl (fun ls hl => ?_)
        refine lv_iinc (v := (x3 + 1)) (lv' := [(3, .int ((x3 + 1))), (2, .int ((s33_1 + s33_0))), (0, .ref (ad 80)), (1, .int a1)]) hx hb dX3_dropsAt_35 hl (k := 3) rfl rfl (by decide) rfl (fun ls hl => ?_)
        refine lv_goto (tgt := 4) hx hb dX3_dropsAt_38 (by decide) ?_
        exact ih4 (s33_1 + s33_0) (x3 + 1) ls (lv_sub hl [2, 3, 1, 0] rfl) h
      intro x2 x3 ls hl h
      have h := lqS2 h
      refine lv_iload_n hx hb dX3_dropsAt_4 rfl (lv_at hl 3 rfl) ?_
      refine lv_aload_n hx hb dX3_dropsAt_5 rfl (lv_at hl 0 rfl) ?_
      refine rC_80_0 F hP dX3_dropsAt_6 ?_
      obtain ⟨r1, e1, h⟩ := bsome h
      refine rd_VN F hP k_X5_countOfSounds mw_926 0 6 rfl (wsW_get 0 (by decide)) (q_X5_countOfSounds l D Y ad G  r1 e1) rfl hl.1 ⟨Nat.le_of_ble_eq_true rfl, Nat.le_of_ble_eq_true rfl⟩ (rest := [.int x3]) rfl (Nat.le_of_ble_eq_true rfl) ⟨Nat.le_of_ble_eq_true rfl, Nat.le_of_ble_eq_true rfl⟩ dX3_dropsAt_9 (fun o1 => ?_)
      refine lv_icmp_ge (tgt := 41) hx hb dX3_dropsAt_12 (by decide) (fun c2 => ?_) (fun c2 => ?_)
      · have h := ifT h c2
        refine lv_iload_n hx hb dX3_dropsAt_41 rfl (lv_at hl 2 rfl) ?_
        exact rd_end F hr hk rfl h dX3_dropsAt_42
      · have h := ifF h c2
        refine lv_iload_n hx hb dX3_dropsAt_15 rfl (lv_at hl 2 rfl) ?_
        refine lv_aload_n hx hb dX3_dropsAt_16 rfl (lv_at hl 0 rfl) ?_
        refine rC_80_0 F hP dX3_dropsAt_17 ?_
        refine lv_iload_n hx hb dX3_dropsAt_20 rfl (lv_at hl 3 rfl) ?_
        obtain ⟨r3, e3, h⟩ := bsome h
        refine rd_VN F hP k_X5_pitchOf mw_933 0 6 rfl (wsW_get 0 (by decide)) (q_X5_pitchOf l D Y ad G x3 r3 e3) rfl hl.1 ⟨Nat.le_of_ble_eq_true rfl, Nat.le_of_ble_eq_true rfl⟩ (rest := [.int x2]) rfl (Nat.le_of_ble_eq_true rfl) ⟨Nat.le_of_ble_eq_true rfl, Nat.le_of_ble_eq_true rfl⟩ dX3_dropsAt_21 (fun o3 => ?_)
        refine lv_iload_n hx hb dX3_dropsAt_24 rfl (lv_at hl 1 rfl) ?_
        refine lv_icmp_ne (tgt := 32) hx hb dX3_dropsAt_25 (by decide) (fun c4 => ?_) (fun c4 => ?_)
        · have h := ifF h c4
          refine lv_iconst (v := 0) hx hb dX3_dropsAt_32 (by decide) ?_
          exact key33 x3 (0 : Int32) x2 ls (lv_sub hl [0, 1, 3] rfl) h
        · have h := ifT h c4
          refine lv_iconst (v := 1) hx hb dX3_dropsAt_28 (by decide) ?_
          refine lv_goto (tgt := 33) hx hb dX3_dropsAt_29 (by decide) ?_
          exact key33 x3 (1 : Int32) x2 ls (lv_sub hl [0, 1, 3] rfl) h
  refine lv_iconst (v := 0) hx hb dX3_dropsAt_0 (by decide) ?_
  refine lv_istore_n (lv' := [(2, .int ((0 : Int32))), (0, .ref (ad 80)), (1, .int a1)]) hx hb dX3_dropsAt_1 rfl hl (by decide) rfl (fun ls hl => ?_)
  refine lv_iconst (v := 0) hx hb dX3_dropsAt_2 (by decide) ?_
  refine lv_istore_n (lv' := [(3, .int ((0 : Int32))), (2, .int ((0 : Int32))), (0, .ref (ad 80)), (1, .int a1)]) hx hb dX3_dropsAt_3 rfl hl (by decide) rfl (fun ls hl => ?_)
  exact key4 4096 (0 : Int32) (0 : Int32) ls (lv_sub hl [2, 3, 1, 0] rfl) h
def f_X3_countOfDrops (G : Nat → Nat → Int32) : Option Int32 := ((f_X5_countOfSounds G ).bind fun r1 => ((f_X5_countOfRests G ).bind fun r2 => some (r1 - r2)))
set_option maxRecDepth 100000 in
set_option maxHeartbeats 4000000 in
theorem q_X3_countOfDrops (l : Launch) (D : va_G) (Y : Nat → ClassId) (ad : Nat → Nat) (G : Nat → Nat → Int32) (r : Int32) (h : f_X3_countOfDrops G  = some r) : RD l yX3_countOfDrops cX3_countOfDrops 1 (some .int) 4 D Y (wsC Y ad G) [.ref (ad 80)] r := by
  refine RD_of (by decide) (Nat.le_of_ble_eq_true rfl) (lv := [(0, .ref (ad 80))]) rfl ?_
  intro p e s m below meth c ls F hP hr hk hl
  have F : Fx p c cX3_countOfDrops 1 s m _ RX3 D Y := F
  have hx := F.1.1
  have hb := F.1.2.1
  refine lv_aload_n hx hb dX3_countOfDrops_0 rfl (lv_at hl 0 rfl) ?_
  refine rC_80_0 F hP dX3_countOfDrops_1 ?_
  obtain ⟨r1, e1, h⟩ := bsome h
  refine rd_VN F hP k_X5_countOfSounds mw_926 0 6 rfl (wsW_get 0 (by decide)) (q_X5_countOfSounds l D Y ad G  r1 e1) rfl hl.1 ⟨Nat.le_of_ble_eq_true rfl, Nat.le_of_ble_eq_true rfl⟩ (rest := []) rfl (Nat.le_of_ble_eq_true rfl) ⟨Nat.le_of_ble_eq_true rfl, Nat.le_of_ble_eq_true rfl⟩ dX3_countOfDrops_4 (fun o1 => ?_)
  refine lv_aload_n hx hb dX3_countOfDrops_7 rfl (lv_at hl 0 rfl) ?_
  refine rC_80_0 F hP dX3_countOfDrops_8 ?_
  obtain ⟨r2, e2, h⟩ := bsome h
  refine rd_VN F hP k_X5_countOfRests mw_984 0 6 rfl (wsW_get 0 (by decide)) (q_X5_countOfRests l D Y ad G  r2 e2) rfl hl.1 ⟨Nat.le_of_ble_eq_true rfl, Nat.le_of_ble_eq_true rfl⟩ (rest := [.int r1]) rfl (Nat.le_of_ble_eq_true rfl) ⟨Nat.le_of_ble_eq_true rfl, Nat.le_of_ble_eq_true rfl⟩ dX3_countOfDrops_11 (fun o2 => ?_)
  refine lv_isub hx hb dX3_countOfDrops_14 ?_
  exact rd_end F hr hk rfl h dX3_countOfDrops_15
def f_X3_sumOfPitches_4 (G : Nat → Nat → Int32) (n : Nat) (y1 : Int32) (y2 : Int32) : Option Int32 := lq2 (fun (k4 : Int32 → Int32 → Option Int32) (x1 : Int32) (x2 : Int32) => ((f_X5_countOfSounds G ).bind fun r1 => (if r1 ≤ x2 then some x1 else ((f_X5_pitchOf G x2).bind fun r3 => k4 (x1 + (max32 (0 : Int32) r3)) (x2 + 1))))) n y1 y2
def f_X3_sumOfPitches (G : Nat → Nat → Int32) : Option Int32 := f_X3_sumOfPitches_4 G 4096 (0 : Int32) (0 : Int32)
set_option maxRecDepth 100000 in
set_option maxHeartbeats 4000000 in
theorem q_X3_sumOfPitches (l : Launch) (D : va_G) (Y : Nat → ClassId) (ad : Nat → Nat) (G : Nat → Nat → Int32) (r : Int32) (h : f_X3_sumOfPitches G  = some r) : RD l yX3_sumOfPitches cX3_sumOfPitches 3 (some .int) 3 D Y (wsC Y ad G) [.ref (ad 80)] r := by
  refine RD_of (by decide) (Nat.le_of_ble_eq_true rfl) (lv := [(0, .ref (ad 80))]) rfl ?_
  intro p e s m below meth c ls F hP hr hk hl
  have F : Fx p c cX3_sumOfPitches 3 s m _ RX3 D Y := F
  have hx := F.1.1
  have hb := F.1.2.1
  have key4 : ∀ (n : Nat) (x1 : Int32) (x2 : Int32) (ls : Array Slot), lv_has ls 3 [(0, .ref (ad 80)), (1, .int x1), (2, .int x2)] → f_X3_sumOfPitches_4 G   n x1 x2 = some r → WD p l e 3 s m ([.ref (ad 80)] : List Value).toArray below meth c s.heap (some .int) r (F0 m 4 ls []) := by
    intro  n
    induction n with
    | zero => intro x1 x2 ls hl h; exact lqZ2 h
    | succ n4 ih4 =>
      intro x1 x2 ls hl h
      have h := lqS2 h
      refine lv_iload_n hx hb dX3_sumOfPitches_4 rfl (lv_at hl 2 rfl) ?_
      refine lv_aload_n hx hb dX3_sumOfPitches_5 rfl (lv_at hl 0 rfl) ?_
      refine rC_80_0 F hP dX3_sumOfPitches_6 ?_
      obtain ⟨r1, e1, h⟩ := bsome h
      refine rd_VN F hP k_X5_countOfSounds mw_926 0 6 rfl (wsW_get 0 (by decide)) (q_X5_countOfSounds l D Y ad G  r1 e1) rfl hl.1 ⟨Nat.le_of_ble_eq_true rfl, Nat.le_of_ble_eq_true rfl⟩ (rest := [.int x2]) rfl (Nat.le_of_ble_eq_true rfl) ⟨Nat.le_of_ble_eq_true rfl, Nat.le_of_ble_eq_true rfl⟩ dX3_sumOfPitches_9 (fun o1 => ?_)
      refine lv_icmp_ge (tgt := 36) hx hb dX3_sumOfPitches_12 (by decide) (fun c2 => ?_) (fun c2 => ?_)
      · have h := ifT h c2
        refine lv_iload_n hx hb dX3_sumOfPitches_36 rfl (lv_at hl 1 rfl) ?_
        exact rd_end F hr hk rfl h dX3_sumOfPitches_37
      · have h := ifF h c2
        refine lv_iload_n hx hb dX3_sumOfPitches_15 rfl (lv_at hl 1 rfl) ?_
        refine lv_iconst (v := 0) hx hb dX3_sumOfPitches_16 (by decide) ?_
        refine lv_aload_n hx hb dX3_sumOfPitches_17 rfl (lv_at hl 0 rfl) ?_
        refine rC_80_0 F hP dX3_sumOfPitches_18 ?_
        refine lv_iload_n hx hb dX3_sumOfPitches_21 rfl (lv_at hl 2 rfl) ?_
        obtain ⟨r3, e3, h⟩ := bsome h
        refine rd_VN F hP k_X5_pitchOf mw_933 0 6 rfl (wsW_get 0 (by decide)) (q_X5_pitchOf l D Y ad G x2 r3 e3) rfl hl.1 ⟨Nat.le_of_ble_eq_true rfl, Nat.le_of_ble_eq_true rfl⟩ (rest := [.int ((0 : Int32)), .int x1]) rfl (Nat.le_of_ble_eq_true rfl) ⟨Nat.le_of_ble_eq_true rfl, Nat.le_of_ble_eq_true rfl⟩ dX3_sumOfPitches_22 (fun o3 => ?_)
        refine w_max F hl mw_975 ⟨Nat.le_of_ble_eq_true rfl, Nat.le_of_ble_eq_true rfl, Nat.le_of_ble_eq_true rfl, Nat.le_of_ble_eq_true rfl⟩ dX3_sumOfPitches_25 ?_
        refine lv_iadd hx hb dX3_sumOfPitches_28 ?_
        refine lv_istore_n (lv' := [(1, .int ((x1 + (max32 (0 : Int32) r3)))), (0, .ref (ad 80)), (2, .int x2)]) hx hb dX3_sumOfPitches_29 rfl hl (by decide) rfl (fun ls hl => ?_)
        refine lv_iinc (v := (x2 + 1)) (lv' := [(2, .int ((x2 + 1))), (1, .int ((x1 + (max32 (0 : Int32) r3)))), (0, .ref (ad 80))]) hx hb dX3_sumOfPitches_30 hl (k := 2) rfl rfl (by decide) rfl (fun ls hl => ?_)
        refine lv_goto (tgt := 4) hx hb dX3_sumOfPitches_33 (by decide) ?_
        exact ih4 (x1 + (max32 (0 : Int32) r3)) (x2 + 1) ls (lv_sub hl [2, 1, 0] rfl) h
  refine lv_iconst (v := 0) hx hb dX3_sumOfPitches_0 (by decide) ?_
  refine lv_istore_n (lv' := [(1, .int ((0 : Int32))), (0, .ref (ad 80))]) hx hb dX3_sumOfPitches_1 rfl hl (by decide) rfl (fun ls hl => ?_)
  refine lv_iconst (v := 0) hx hb dX3_sumOfPitches_2 (by decide) ?_
  refine lv_istore_n (lv' := [(2, .int ((0 : Int32))), (1, .int ((0 : Int32))), (0, .ref (ad 80))]) hx hb dX3_sumOfPitches_3 rfl hl (by decide) rfl (fun ls hl => ?_)
  exact key4 4096 (0 : Int32) (0 : Int32) ls (lv_sub hl [2, 1, 0] rfl) h
def f_X7_isTinAhead (G : Nat → Nat → Int32) (a1 : Int32) (a2 : Int32) : Option Int32 := ((f_X5_beatsOfTin G a1).bind fun r1 => ((f_X5_beatsOfTin G a2).bind fun r2 => (if (r1 - r2) = 0 then ((f_X5_keyOf G a1).bind fun r4 => ((f_X5_keyOf G a2).bind fun r5 => (if (r4 - r5) = 0 then (if a2 ≤ a1 then some (0 : Int32) else some (1 : Int32)) else (if (r4 - r5) ≤ 0 then some (0 : Int32) else some (1 : Int32))))) else (if (r1 - r2) ≤ 0 then some (0 : Int32) else some (1 : Int32)))))
set_option maxRecDepth 100000 in
set_option maxHeartbeats 4000000 in
theorem q_X7_isTinAhead (l : Launch) (D : va_G) (Y : Nat → ClassId) (ad : Nat → Nat) (G : Nat → Nat → Int32) (a1 : Int32) (a2 : Int32) (r : Int32) (h : f_X7_isTinAhead G a1 a2 = some r) : RD l yX7_isTinAhead cX7_isTinAhead 5 (some .boolean) 3 D Y (wsC Y ad G) [.ref (ad 81), .int a1, .int a2] r := by
  refine RD_of (by decide) (Nat.le_of_ble_eq_true rfl) (lv := [(0, .ref (ad 81)), (1, .int a1), (2, .int a2)]) rfl ?_
  intro p e s m below meth c ls F hP hr hk hl
  have F : Fx p c cX7_isTinAhead 5 s m _ RX7 D Y := F
  have hx := F.1.1
  have hb := F.1.2.1
  refine lv_aload_n hx hb dX7_isTinAhead_0 rfl (lv_at hl 0 rfl) ?_
  refine rC_81_0 F hP dX7_isTinAhead_1 ?_
  refine lv_iload_n hx hb dX7_isTinAhead_4 rfl (lv_at hl 1 rfl) ?_
  obtain ⟨r1, e1, h⟩ := bsome h
  refine rd_VN F hP k_X5_beatsOfTin mw_1043 0 6 rfl (wsW_get 0 (by decide)) (q_X5_beatsOfTin l D Y ad G a1 r1 e1) rfl hl.1 ⟨Nat.le_of_ble_eq_true rfl, Nat.le_of_ble_eq_true rfl⟩ (rest := []) rfl (Nat.le_of_ble_eq_true rfl) ⟨Nat.le_of_ble_eq_true rfl, Nat.le_of_ble_eq_true rfl⟩ dX7_isTinAhead_5 (fun o1 => ?_)
  refine lv_aload_n hx hb dX7_isTinAhead_8 rfl (lv_at hl 0 rfl) ?_
  refine rC_81_0 F hP dX7_isTinAhead_9 ?_
  refine lv_iload_n hx hb dX7_isTinAhead_12 rfl (lv_at hl 2 rfl) ?_
  obtain ⟨r2, e2, h⟩ := bsome h
  refine rd_VN F hP k_X5_beatsOfTin mw_1043 0 6 rfl (wsW_get 0 (by decide)) (q_X5_beatsOfTin l D Y ad G a2 r2 e2) rfl hl.1 ⟨Nat.le_of_ble_eq_true rfl, Nat.le_of_ble_eq_true rfl⟩ (rest := [.int r1]) rfl (Nat.le_of_ble_eq_true rfl) ⟨Nat.le_of_ble_eq_true rfl, Nat.le_of_ble_eq_true rfl⟩ dX7_isTinAhead_13 (fun o2 => ?_)
  refine lv_isub hx hb dX7_isTinAhead_16 ?_
  refine lv_istore_n (lv' := [(3, .int ((r1 - r2))), (0, .ref (ad 81)), (1, .int a1), (2, .int a2)]) hx hb dX7_isTinAhead_17 rfl hl (by decide) rfl (fun ls hl => ?_)
  refine lv_iload_n hx hb dX7_isTinAhead_18 rfl (lv_at hl 0 rfl) ?_
  refine lv_if_eq (tgt := 32) hx hb dX7_isTinAhead_19 (by decide) (fun c3 => ?_) (fun c3 => ?_)
  · have h := ifT h c3
    refine lv_aload_n hx hb dX7_isTinAhead_32 rfl (lv_at hl 1 rfl) ?_
    refine rC_81_0 F hP dX7_isTinAhead_33 ?_
    refine lv_iload_n hx hb dX7_isTinAhead_36 rfl (lv_at hl 2 rfl) ?_
    obtain ⟨r4, e4, h⟩ := bsome h
    refine rd_VN F hP k_X5_keyOf mw_1044 0 6 rfl (wsW_get 0 (by decide)) (q_X5_keyOf l D Y ad G a1 r4 e4) rfl hl.1 ⟨Nat.le_of_ble_eq_true rfl, Nat.le_of_ble_eq_true rfl⟩ (rest := []) rfl (Nat.le_of_ble_eq_true rfl) ⟨Nat.le_of_ble_eq_true rfl, Nat.le_of_ble_eq_true rfl⟩ dX7_isTinAhead_37 (fun o4 => ?_)
    refine lv_aload_n hx hb dX7_isTinAhead_40 rfl (lv_at hl 1 rfl) ?_
    refine rC_81_0 F hP dX7_isTinAhead_41 ?_
    refine lv_iload_n hx hb dX7_isTinAhead_44 rfl (lv_at hl 3 rfl) ?_
    obtain ⟨r5, e5, h⟩ := bsome h
    refine rd_VN F hP k_X5_keyOf mw_1044 0 6 rfl (wsW_get 0 (by decide)) (q_X5_keyOf l D Y ad G a2 r5 e5) rfl hl.1 ⟨Nat.le_of_ble_eq_true rfl, Nat.le_of_ble_eq_true rfl⟩ (rest := [.int r4]) rfl (Nat.le_of_ble_eq_true rfl) ⟨Nat.le_of_ble_eq_true rfl, Nat.le_of_ble_eq_true rfl⟩ dX7_isTinAhead_45 (fun o5 => ?_)
    refine lv_isub hx hb dX7_isTinAhead_48 ?_
    refine lv_istore (lv' := [(4, .int ((r4 - r5))), (3, .int ((r1 - r2))), (0, .ref (ad 81)), (1, .int a1), (2, .int a2)]) hx hb dX7_isTinAhead_49 hl (by decide) rfl (fun ls hl => ?_)
    refine lv_iload hx hb dX7_isTinAhead_51 (lv_at hl 0 rfl) ?_
    refine lv_if_eq (tgt := 69) hx hb dX7_isTinAhead_53 (by decide) (fun c6 => ?_) (fun c6 => ?_)
    · have h := ifT h c6
      refine lv_iload_n hx hb dX7_isTinAhead_69 rfl (lv_at hl 3 rfl) ?_
      refine lv_iload_n hx hb dX7_isTinAhead_70 rfl (lv_at hl 4 rfl) ?_
      refine lv_icmp_ge (tgt := 78) hx hb dX7_isTinAhead_71 (by decide) (fun c7 => ?_) (fun c7 => ?_)
      · have h := ifT h c7
        refine lv_iconst (v := 0) hx hb dX7_isTinAhead_78 (by decide) ?_
        exact rd_end F hr hk rfl h dX7_isTinAhead_79
      · have h := ifF h c7
        refine lv_iconst (v := 1) hx hb dX7_isTinAhead_74 (by decide) ?_
        refine lv_goto (tgt := 79) hx hb dX7_isTinAhead_75 (by decide) ?_
        exact rd_end F hr hk rfl h dX7_isTinAhead_79
    · have h := ifF h c6
      refine lv_iload hx hb dX7_isTinAhead_56 (lv_at hl 0 rfl) ?_
      refine lv_if_le (tgt := 65) hx hb dX7_isTinAhead_58 (by decide) (fun c8 => ?_) (fun c8 => ?_)
      · have h := ifT h c8
        refine lv_iconst (v := 0) hx hb dX7_isTinAhead_65 (by decide) ?_
        refine lv_goto (tgt := 79) hx hb dX7_isTinAhead_66 (by decide) ?_
        exact rd_end F hr hk rfl h dX7_isTinAhead_79
      · have h := ifF h c8
        refine lv_iconst (v := 1) hx hb dX7_isTinAhead_61 (by decide) ?_
        refine lv_goto (tgt := 79) hx hb dX7_isTinAhead_62 (by decide) ?_
        exact rd_end F hr hk rfl h dX7_isTinAhead_79
  · have h := ifF h c3
    refine lv_iload_n hx hb dX7_isTinAhead_22 rfl (lv_at hl 0 rfl) ?_
    refine lv_if_le (tgt := 30) hx hb dX7_isTinAhead_23 (by decide) (fun c9 => ?_) (fun c9 => ?_)
    · have h := ifT h c9
      refine lv_iconst (v := 0) hx hb dX7_isTinAhead_30 (by decide) ?_
      exact rd_end F hr hk rfl h dX7_isTinAhead_31
    · have h := ifF h c9
      refine lv_iconst (v := 1) hx hb dX7_isTinAhead_26 (by decide) ?_
      refine lv_goto (tgt := 31) hx hb dX7_isTinAhead_27 (by decide) ?_
      exact rd_end F hr hk rfl h dX7_isTinAhead_31
def f_X7_placeOfTin_24 (G : Nat → Nat → Int32) (a1 : Int32) (k4 : Int32 → Int32 → Option Int32) (x3 : Int32) (s24_0 : Int32) (s24_1 : Int32) : Option Int32 := k4 (s24_1 + s24_0) (x3 + 1)
def f_X7_placeOfTin_4 (G : Nat → Nat → Int32) (a1 : Int32) (n : Nat) (y2 : Int32) (y3 : Int32) : Option Int32 := lq2 (fun (k4 : Int32 → Int32 → Option Int32) (x2 : Int32) (x3 : Int32) => (if (4 : Int32) ≤ x3 then some x2 else ((f_X7_isTinAhead G x3 a1).bind fun r2 => (if r2 = 0 then f_X7_placeOfTin_24 G a1 k4 x3 (0 : Int32) x2 else f_X7_placeOfTin_24 G a1 k4 x3 (1 : Int32) x2)))) n y2 y3
def f_X7_placeOfTin (G : Nat → Nat → Int32) (a1 : Int32) : Option Int32 := f_X7_placeOfTin_4 G a1 4096 (0 : Int32) (0 : Int32)
set_option maxRecDepth 100000 in
set_option maxHeartbeats 4000000 in
theorem q_X7_placeOfTin (l : Launch) (D : va_G) (Y : Nat → ClassId) (ad : Nat → Nat) (G : Nat → Nat → Int32) (a1 : Int32) (r : Int32) (h : f_X7_placeOfTin G a1 = some r) : RD l yX7_placeOfTin cX7_placeOfTin 4 (some .int) 4 D Y (wsC Y ad G) [.ref (ad 81), .int a1] r := by
  refine RD_of (by decide) (Nat.le_of_ble_eq_true rfl) (lv := [(0, .ref (ad 81)), (1, .int a1)]) rfl ?_
  intro p e s m below meth c ls F hP hr hk hl
  have F : Fx p c cX7_placeOfTin 4 s m _ RX7 D Y := F
  have hx := F.1.1
  have hb := F.1.2.1
  have key4 : ∀ (n : Nat) (x2 : Int32) (x3 : Int32) (ls : Array Slot), lv_has ls 4 [(0, .ref (ad 81)), (1, .int a1), (2, .int x2), (3, .int x3)] → f_X7_placeOfTin_4 G a1  n x2 x3 = some r → WD p l e 4 s m ([.ref (ad 81), .int a1] : List Value).toArray below meth c s.heap (some .int) r (F0 m 4 ls []) := by
    intro  n
    induction n with
    | zero => intro x2 x3 ls hl h; exact lqZ2 h
    | succ n4 ih4 =>
      have key24 : ∀ (x3 : Int32) (s24_0 : Int32) (s24_1 : Int32) (ls : Array Slot), lv_has ls 4 [(0, .ref (ad 81)), (1, .int a1), (3, .int x3)] → f_X7_placeOfTin_24 G a1 (f_X7_placeOfTin_4 G a1   n4) x3 s24_0 s24_1 = some r → WD p l e 4 s m ([.ref (ad 81), .int a1] : List Value).toArray below meth c s.heap (some .int) r (F0 m 24 ls [.int s24_0, .int s24_1]) := by
        intro x3 s24_0 s24_1 ls hl h
        refine lv_iadd hx hb dX7_placeOfTin_24 ?_
        refine lv_istore_n (lv' := [(2, .int ((s24_1 + s24_0))), (0, .ref (ad 81)), (1, .int a1), (3, .int x3)]) hx hb dX7_placeOfTin_25 rfl hl (by decide) rfl (fun ls hl => ?_)
        refine lv_iinc (v := (x3 + 1)) (lv' := [(3, .int ((x3 + 1))), (2, .int ((s24_1 + s24_0))), (0, .ref (ad 81)), (1, .int a1)]) hx hb dX7_placeOfTin_26 hl (k := 3) rfl rfl (by decide) rfl (fun ls hl => ?_)
        refine lv_goto (tgt := 4) hx hb dX7_placeOfTin_29 (by decide) ?_
        exact ih4 (s24_1 + s24_0) (x3 + 1) ls (lv_sub hl [2, 3, 1, 0] rfl) h
      intro x2 x3 ls hl h
      have h := lqS2 h
      refine lv_iload_n hx hb dX7_placeOfTin_4 rfl (lv_at hl 3 rfl) ?_
      refine lv_iconst (v := 4) hx hb dX7_placeOfTin_5 (by decide) ?_
      refine lv_icmp_ge (tgt := 32) hx hb dX7_placeOfTin_6 (by decide) (fun c1 => ?_) (fun c1 => ?_)
      · have h := ifT h c1
        refine lv_iload_n hx hb dX7_placeOfTin_32 rfl (lv_at hl 2 rfl) ?_
        exact rd_end F hr hk rfl h dX7_placeOfTin_33
      · have h := ifF h c1
        refine lv_iload_n hx hb dX7_placeOfTin_9 rfl (lv_at hl 2 rfl) ?_
        refine lv_aload_n hx hb dX7_placeOfTin_10 rfl (lv_at hl 0 rfl) ?_
        refine lv_iload_n hx hb dX7_placeOfTin_11 rfl (lv_at hl 3 rfl) ?_
        refine lv_iload_n hx hb dX7_placeOfTin_12 rfl (lv_at hl 1 rfl) ?_
        obtain ⟨r2, e2, h⟩ := bsome h
        refine rd_V F hP k_X7_isTinAhead mw_1039 81 8 rfl (wsW_get 81 (by decide)) (q_X7_isTinAhead l D Y ad G x3 a1 r2 e2) rfl hl.1 ⟨Nat.le_of_ble_eq_true rfl, Nat.le_of_ble_eq_true rfl⟩ (rest := [.int x2]) rfl (Nat.le_of_ble_eq_true rfl) ⟨Nat.le_of_ble_eq_true rfl, Nat.le_of_ble_eq_true rfl⟩ dX7_placeOfTin_13 (fun o2 => ?_)
        refine lv_if_eq (tgt := 23) hx hb dX7_placeOfTin_16 (by decide) (fun c3 => ?_) (fun c3 => ?_)
        · have h := ifT h c3
          refine lv_iconst (v := 0) hx hb dX7_placeOfTin_23 (by decide) ?_
          exact key24 x3 (0 : Int32) x2 ls (lv_sub hl [0, 1, 3] rfl) h
        · have h := ifF h c3
          refine lv_iconst (v := 1) hx hb dX7_placeOfTin_19 (by decide) ?_
          refine lv_goto (tgt := 24) hx hb dX7_placeOfTin_20 (by decide) ?_
          exact key24 x3 (1 : Int32) x2 ls (lv_sub hl [0, 1, 3] rfl) h
  refine lv_iconst (v := 0) hx hb dX7_placeOfTin_0 (by decide) ?_
  refine lv_istore_n (lv' := [(2, .int ((0 : Int32))), (0, .ref (ad 81)), (1, .int a1)]) hx hb dX7_placeOfTin_1 rfl hl (by decide) rfl (fun ls hl => ?_)
  refine lv_iconst (v := 0) hx hb dX7_placeOfTin_2 (by decide) ?_
  refine lv_istore_n (lv' := [(3, .int ((0 : Int32))), (2, .int ((0 : Int32))), (0, .ref (ad 81)), (1, .int a1)]) hx hb dX7_placeOfTin_3 rfl hl (by decide) rfl (fun ls hl => ?_)
  exact key4 4096 (0 : Int32) (0 : Int32) ls (lv_sub hl [2, 3, 1, 0] rfl) h
def f_X7_tinAt_2 (G : Nat → Nat → Int32) (a1 : Int32) (n : Nat) (y2 : Int32) : Option Int32 := lq1 (fun (k2 : Int32 → Option Int32) (x2 : Int32) => (if (4 : Int32) ≤ x2 then some (-1 : Int32) else ((f_X7_placeOfTin G x2).bind fun r2 => (if r2 = a1 then some x2 else k2 (x2 + 1))))) n y2
def f_X7_tinAt (G : Nat → Nat → Int32) (a1 : Int32) : Option Int32 := f_X7_tinAt_2 G a1 4096 (0 : Int32)
set_option maxRecDepth 100000 in
set_option maxHeartbeats 4000000 in
theorem q_X7_tinAt (l : Launch) (D : va_G) (Y : Nat → ClassId) (ad : Nat → Nat) (G : Nat → Nat → Int32) (a1 : Int32) (r : Int32) (h : f_X7_tinAt G a1 = some r) : RD l yX7_tinAt cX7_tinAt 3 (some .int) 5 D Y (wsC Y ad G) [.ref (ad 81), .int a1] r := by
  refine RD_of (by decide) (Nat.le_of_ble_eq_true rfl) (lv := [(0, .ref (ad 81)), (1, .int a1)]) rfl ?_
  intro p e s m below meth c ls F hP hr hk hl
  have F : Fx p c cX7_tinAt 3 s m _ RX7 D Y := F
  have hx := F.1.1
  have hb := F.1.2.1
  have key2 : ∀ (n : Nat) (x2 : Int32) (ls : Array Slot), lv_has ls 3 [(0, .ref (ad 81)), (1, .int a1), (2, .int x2)] → f_X7_tinAt_2 G a1  n x2 = some r → WD p l e 5 s m ([.ref (ad 81), .int a1] : List Value).toArray below meth c s.heap (some .int) r (F0 m 2 ls []) := by
    intro  n
    induction n with
    | zero => intro x2 ls hl h; exact lqZ1 h
    | succ n2 ih2 =>
      intro x2 ls hl h
      have h := lqS1 h
      refine lv_iload_n hx hb dX7_tinAt_2 rfl (lv_at hl 2 rfl) ?_
      refine lv_iconst (v := 4) hx hb dX7_tinAt_3 (by decide) ?_
      refine lv_icmp_ge (tgt := 24) hx hb dX7_tinAt_4 (by decide) (fun c1 => ?_) (fun c1 => ?_)
      · have h := ifT h c1
        refine lv_iconst (v := -1) hx hb dX7_tinAt_24 (by decide) ?_
        exact rd_end F hr hk rfl h dX7_tinAt_25
      · have h := ifF h c1
        refine lv_aload_n hx hb dX7_tinAt_7 rfl (lv_at hl 0 rfl) ?_
        refine lv_iload_n hx hb dX7_tinAt_8 rfl (lv_at hl 2 rfl) ?_
        obtain ⟨r2, e2, h⟩ := bsome h
        refine rd_V F hP k_X7_placeOfTin mw_1035 81 8 rfl (wsW_get 81 (by decide)) (q_X7_placeOfTin l D Y ad G x2 r2 e2) rfl hl.1 ⟨Nat.le_of_ble_eq_true rfl, Nat.le_of_ble_eq_true rfl⟩ (rest := []) rfl (Nat.le_of_ble_eq_true rfl) ⟨Nat.le_of_ble_eq_true rfl, Nat.le_of_ble_eq_true rfl⟩ dX7_tinAt_9 (fun o2 => ?_)
        refine lv_iload_n hx hb dX7_tinAt_12 rfl (lv_at hl 1 rfl) ?_
        refine lv_icmp_ne (tgt := 18) hx hb dX7_tinAt_13 (by decide) (fun c3 => ?_) (fun c3 => ?_)
        · have h := ifF h c3
          refine lv_iinc (v := (x2 + 1)) (lv' := [(2, .int ((x2 + 1))), (0, .ref (ad 81)), (1, .int a1)]) hx hb dX7_tinAt_18 hl (k := 2) rfl rfl (by decide) rfl (fun ls hl => ?_)
          refine lv_goto (tgt := 2) hx hb dX7_tinAt_21 (by decide) ?_
          exact ih2 (x2 + 1) ls (lv_sub hl [1, 2, 0] rfl) h
        · have h := ifT h c3
          refine lv_iload_n hx hb dX7_tinAt_16 rfl (lv_at hl 2 rfl) ?_
          exact rd_end F hr hk rfl h dX7_tinAt_17
  refine lv_iconst (v := 0) hx hb dX7_tinAt_0 (by decide) ?_
  refine lv_istore_n (lv' := [(2, .int ((0 : Int32))), (0, .ref (ad 81)), (1, .int a1)]) hx hb dX7_tinAt_1 rfl hl (by decide) rfl (fun ls hl => ?_)
  exact key2 4096 (0 : Int32) ls (lv_sub hl [1, 2, 0] rfl) h
def f_X7_isDropAhead (G : Nat → Nat → Int32) (a1 : Int32) (a2 : Int32) : Option Int32 := ((f_X5_pitchOf G a1).bind fun r1 => ((f_X5_pitchOf G a2).bind fun r2 => (if (r1 - r2) = 0 then ((f_X5_beatsOf G a1).bind fun r4 => ((f_X5_beatsOf G a2).bind fun r5 => (if (r4 - r5) = 0 then (if a2 ≤ a1 then some (0 : Int32) else some (1 : Int32)) else (if (r4 - r5) ≤ 0 then some (0 : Int32) else some (1 : Int32))))) else (if (r1 - r2) ≤ 0 then some (0 : Int32) else some (1 : Int32)))))
set_option maxRecDepth 100000 in
set_option maxHeartbeats 4000000 in
theorem q_X7_isDropAhead (l : Launch) (D : va_G) (Y : Nat → ClassId) (ad : Nat → Nat) (G : Nat → Nat → Int32) (a1 : Int32) (a2 : Int32) (r : Int32) (h : f_X7_isDropAhead G a1 a2 = some r) : RD l yX7_isDropAhead cX7_isDropAhead 5 (some .boolean) 3 D Y (wsC Y ad G) [.ref (ad 81), .int a1, .int a2] r := by
  refine RD_of (by decide) (Nat.le_of_ble_eq_true rfl) (lv := [(0, .ref (ad 81)), (1, .int a1), (2, .int a2)]) rfl ?_
  intro p e s m below meth c ls F hP hr hk hl
  have F : Fx p c cX7_isDropAhead 5 s m _ RX7 D Y := F
  have hx := F.1.1
  have hb := F.1.2.1
  refine lv_aload_n hx hb dX7_isDropAhead_0 rfl (lv_at hl 0 rfl) ?_
  refine rC_81_0 F hP dX7_isDropAhead_1 ?_
  refine lv_iload_n hx hb dX7_isDropAhead_4 rfl (lv_at hl 1 rfl) ?_
  obtain ⟨r1, e1, h⟩ := bsome h
  refine rd_VN F hP k_X5_pitchOf mw_1066 0 6 rfl (wsW_get 0 (by decide)) (q_X5_pitchOf l D Y ad G a1 r1 e1) rfl hl.1 ⟨Nat.le_of_ble_eq_true rfl, Nat.le_of_ble_eq_true rfl⟩ (rest := []) rfl (Nat.le_of_ble_eq_true rfl) ⟨Nat.le_of_ble_eq_true rfl, Nat.le_of_ble_eq_true rfl⟩ dX7_isDropAhead_5 (fun o1 => ?_)
  refine lv_aload_n hx hb dX7_isDropAhead_8 rfl (lv_at hl 0 rfl) ?_
  refine rC_81_0 F hP dX7_isDropAhead_9 ?_
  refine lv_iload_n hx hb dX7_isDropAhead_12 rfl (lv_at hl 2 rfl) ?_
  obtain ⟨r2, e2, h⟩ := bsome h
  refine rd_VN F hP k_X5_pitchOf mw_1066 0 6 rfl (wsW_get 0 (by decide)) (q_X5_pitchOf l D Y ad G a2 r2 e2) rfl hl.1 ⟨Nat.le_of_ble_eq_true rfl, Nat.le_of_ble_eq_true rfl⟩ (rest := [.int r1]) rfl (Nat.le_of_ble_eq_true rfl) ⟨Nat.le_of_ble_eq_true rfl, Nat.le_of_ble_eq_true rfl⟩ dX7_isDropAhead_13 (fun o2 => ?_)
  refine lv_isub hx hb dX7_isDropAhead_16 ?_
  refine lv_istore_n (lv' := [(3, .int ((r1 - r2))), (0, .ref (ad 81)), (1, .int a1), (2, .int a2)]) hx hb dX7_isDropAhead_17 rfl hl (by decide) rfl (fun ls hl => ?_)
  refine lv_iload_n hx hb dX7_isDropAhead_18 rfl (lv_at hl 0 rfl) ?_
  refine lv_if_eq (tgt := 32) hx hb dX7_isDropAhead_19 (by decide) (fun c3 => ?_) (fun c3 => ?_)
  · have h := ifT h c3
    refine lv_aload_n hx hb dX7_isDropAhead_32 rfl (lv_at hl 1 rfl) ?_
    refine rC_81_0 F hP dX7_isDropAhead_33 ?_
    refine lv_iload_n hx hb dX7_isDropAhead_36 rfl (lv_at hl 2 rfl) ?_
    obtain ⟨r4, e4, h⟩ := bsome h
    refine rd_VN F hP k_X5_beatsOf mw_1067 0 6 rfl (wsW_get 0 (by decide)) (q_X5_beatsOf l D Y ad G a1 r4 e4) rfl hl.1 ⟨Nat.le_of_ble_eq_true rfl, Nat.le_of_ble_eq_true rfl⟩ (rest := []) rfl (Nat.le_of_ble_eq_true rfl) ⟨Nat.le_of_ble_eq_true rfl, Nat.le_of_ble_eq_true rfl⟩ dX7_isDropAhead_37 (fun o4 => ?_)
    refine lv_aload_n hx hb dX7_isDropAhead_40 rfl (lv_at hl 1 rfl) ?_
    refine rC_81_0 F hP dX7_isDropAhead_41 ?_
    refine lv_iload_n hx hb dX7_isDropAhead_44 rfl (lv_at hl 3 rfl) ?_
    obtain ⟨r5, e5, h⟩ := bsome h
    refine rd_VN F hP k_X5_beatsOf mw_1067 0 6 rfl (wsW_get 0 (by decide)) (q_X5_beatsOf l D Y ad G a2 r5 e5) rfl hl.1 ⟨Nat.le_of_ble_eq_true rfl, Nat.le_of_ble_eq_true rfl⟩ (rest := [.int r4]) rfl (Nat.le_of_ble_eq_true rfl) ⟨Nat.le_of_ble_eq_true rfl, Nat.le_of_ble_eq_true rfl⟩ dX7_isDropAhead_45 (fun o5 => ?_)
    refine lv_isub hx hb dX7_isDropAhead_48 ?_
    refine lv_istore (lv' := [(4, .int ((r4 - r5))), (3, .int ((r1 - r2))), (0, .ref (ad 81)), (1, .int a1), (2, .int a2)]) hx hb dX7_isDropAhead_49 hl (by decide) rfl (fun ls hl => ?_)
    refine lv_iload hx hb dX7_isDropAhead_51 (lv_at hl 0 rfl) ?_
    refine lv_if_eq (tgt := 69) hx hb dX7_isDropAhead_53 (by decide) (fun c6 => ?_) (fun c6 => ?_)
    · have h := ifT h c6
      refine lv_iload_n hx hb dX7_isDropAhead_69 rfl (lv_at hl 3 rfl) ?_
      refine lv_iload_n hx hb dX7_isDropAhead_70 rfl (lv_at hl 4 rfl) ?_
      refine lv_icmp_ge (tgt := 78) hx hb dX7_isDropAhead_71 (by decide) (fun c7 => ?_) (fun c7 => ?_)
      · have h := ifT h c7
        refine lv_iconst (v := 0) hx hb dX7_isDropAhead_78 (by decide) ?_
        exact rd_end F hr hk rfl h dX7_isDropAhead_79
      · have h := ifF h c7
        refine lv_iconst (v := 1) hx hb dX7_isDropAhead_74 (by decide) ?_
        refine lv_goto (tgt := 79) hx hb dX7_isDropAhead_75 (by decide) ?_
        exact rd_end F hr hk rfl h dX7_isDropAhead_79
    · have h := ifF h c6
      refine lv_iload hx hb dX7_isDropAhead_56 (lv_at hl 0 rfl) ?_
      refine lv_if_le (tgt := 65) hx hb dX7_isDropAhead_58 (by decide) (fun c8 => ?_) (fun c8 => ?_)
      · have h := ifT h c8
        refine lv_iconst (v := 0) hx hb dX7_isDropAhead_65 (by decide) ?_
        refine lv_goto (tgt := 79) hx hb dX7_isDropAhead_66 (by decide) ?_
        exact rd_end F hr hk rfl h dX7_isDropAhead_79
      · have h := ifF h c8
        refine lv_iconst (v := 1) hx hb dX7_isDropAhead_61 (by decide) ?_
        refine lv_goto (tgt := 79) hx hb dX7_isDropAhead_62 (by decide) ?_
        exact rd_end F hr hk rfl h dX7_isDropAhead_79
  · have h := ifF h c3
    refine lv_iload_n hx hb dX7_isDropAhead_22 rfl (lv_at hl 0 rfl) ?_
    refine lv_if_le (tgt := 30) hx hb dX7_isDropAhead_23 (by decide) (fun c9 => ?_) (fun c9 => ?_)
    · have h := ifT h c9
      refine lv_iconst (v := 0) hx hb dX7_isDropAhead_30 (by decide) ?_
      exact rd_end F hr hk rfl h dX7_isDropAhead_31
    · have h := ifF h c9
      refine lv_iconst (v := 1) hx hb dX7_isDropAhead_26 (by decide) ?_
      refine lv_goto (tgt := 31) hx hb dX7_isDropAhead_27 (by decide) ?_
      exact rd_end F hr hk rfl h dX7_isDropAhead_31
def f_X7_placeOfDrop_41 (G : Nat → Nat → Int32) (a1 : Int32) (k4 : Int32 → Int32 → Option Int32) (x3 : Int32) (s41_0 : Int32) (s41_1 : Int32) : Option Int32 := k4 (s41_1 + s41_0) (x3 + 1)
def f_X7_placeOfDrop_40 (G : Nat → Nat → Int32) (a1 : Int32) (k4 : Int32 → Int32 → Option Int32) (x3 : Int32) (s40_0 : Int32) : Option Int32 := f_X7_placeOfDrop_41 G a1 k4 x3 (0 : Int32) s40_0
def f_X7_placeOfDrop_4 (G : Nat → Nat → Int32) (a1 : Int32) (n : Nat) (y2 : Int32) (y3 : Int32) : Option Int32 := lq2 (fun (k4 : Int32 → Int32 → Option Int32) (x2 : Int32) (x3 : Int32) => ((f_X5_countOfSounds G ).bind fun r1 => (if r1 ≤ x3 then some x2 else ((f_X5_isRest G x3).bind fun r3 => (if r3 = 0 then ((f_X7_isDropAhead G x3 a1).bind fun r5 => (if r5 = 0 then f_X7_placeOfDrop_40 G a1 k4 x3 x2 else f_X7_placeOfDrop_41 G a1 k4 x3 (1 : Int32) x2)) else f_X7_placeOfDrop_40 G a1 k4 x3 x2))))) n y2 y3
def f_X7_placeOfDrop (G : Nat → Nat → Int32) (a1 : Int32) : Option Int32 := f_X7_placeOfDrop_4 G a1 4096 (0 : Int32) (0 : Int32)
set_option maxRecDepth 100000 in
set_option maxHeartbeats 4000000 in
theorem q_X7_placeOfDrop (l : Launch) (D : va_G) (Y : Nat → ClassId) (ad : Nat → Nat) (G : Nat → Nat → Int32) (a1 : Int32) (r : Int32) (h : f_X7_placeOfDrop G a1 = some r) : RD l yX7_placeOfDrop cX7_placeOfDrop 4 (some .int) 4 D Y (wsC Y ad G) [.ref (ad 81), .int a1] r := by
  refine RD_of (by decide) (Nat.le_of_ble_eq_true rfl) (lv := [(0, .ref (ad 81)), (1, .int a1)]) rfl ?_
  intro p e s m below meth c ls F hP hr hk hl
  have F : Fx p c cX7_placeOfDrop 4 s m _ RX7 D Y := F
  have hx := F.1.1
  have hb := F.1.2.1
  have key4 : ∀ (n : Nat) (x2 : Int32) (x3 : Int32) (ls : Array Slot), lv_has ls 4 [(0, .ref (ad 81)), (1, .int a1), (2, .int x2), (3, .int x3)] → f_X7_placeOfDrop_4 G a1  n x2 x3 = some r → WD p l e 4 s m ([.ref (ad 81), .int a1] : List Value).toArray below meth c s.heap (some .int) r (F0 m 4 ls []) := by
    intro  n
    induction n with
    | zero => intro x2 x3 ls hl h; exact lqZ2 h
    | succ n4 ih4 =>
      have key41 : ∀ (x3 : Int32) (s41_0 : Int32) (s41_1 : Int32) (ls : Array Slot), lv_has ls 4 [(0, .ref (ad 81)), (1, .int a1), (3, .int x3)] → f_X7_placeOfDrop_41 G a1 (f_X7_placeOfDrop_4 G a1   n4) x3 s41_0 s41_1 = some r → WD p l e 4 s m ([.ref (ad 81), .int a1] : List Value).toArray below meth c s.heap (some .int) r (F0 m 41 ls [.int s41_0, .int s41_1]) := by
        intro x3 s41_0 s41_1 ls hl h
        refine lv_iadd hx hb dX7_placeOfDrop_41 ?_
        refine lv_istore_n (lv' := [(2, .int ((s41_1 + s41_0))), (0, .ref (ad 81)), (1, .int a1), (3, .int x3)]) hx hb dX7_placeOfDrop_42 rfl hl (by decide) rfl (fun ls hl => ?_)
        refine lv_iinc (v := (x3 + 1)) (lv' := [(3, .int ((x3 + 1))), (2, .int ((s41_1 + s41_0))), (0, .ref (ad 81)), (1, .int a1)]) hx hb dX7_placeOfDrop_43 hl (k := 3) rfl rfl (by decide) rfl (fun ls hl => ?_)
        refine lv_goto (tgt := 4) hx hb dX7_placeOfDrop_46 (by decide) ?_
        exact ih4 (s41_1 + s41_0) (x3 + 1) ls (lv_sub hl [2, 3, 1, 0] rfl) h
      have key40 : ∀ (x3 : Int32) (s40_0 : Int32) (ls : Array Slot), lv_has ls 4 [(0, .ref (ad 81)), (1, .int a1), (3, .int x3)] → f_X7_placeOfDrop_40 G a1 (f_X7_placeOfDrop_4 G a1   n4) x3 s40_0 = some r → WD p l e 4 s m ([.ref (ad 81), .int a1] : List Value).toArray below meth c s.heap (some .int) r (F0 m 40 ls [.int s40_0]) := by
        intro x3 s40_0 ls hl h
        refine lv_iconst (v := 0) hx hb dX7_placeOfDrop_40 (by decide) ?_
        exact key41 x3 (0 : Int32) s40_0 ls (lv_sub hl [0, 1, 2] rfl) h
      intro x2 x3 ls hl h
      have h := lqS2 h
      refine lv_iload_n hx hb dX7_placeOfDrop_4 rfl (lv_at hl 3 rfl) ?_
      refine lv_aload_n hx hb dX7_placeOfDrop_5 rfl (lv_at hl 0 rfl) ?_
      refine rC_81_0 F hP dX7_placeOfDrop_6 ?_
      obtain ⟨r1, e1, h⟩ := bsome h
      refine rd_VN F hP k_X5_countOfSounds mw_1056 0 6 rfl (wsW_get 0 (by decide)) (q_X5_countOfSounds l D Y ad G  r1 e1) rfl hl.1 ⟨Nat.le_of_ble_eq_true rfl, Nat.le_of_ble_eq_true rfl⟩ (rest := [.int x3]) rfl (Nat.le_of_ble_eq_true rfl) ⟨Nat.le_of_ble_eq_true rfl, Nat.le_of_ble_eq_true rfl⟩ dX7_placeOfDrop_9 (fun o1 => ?_)
      refine lv_icmp_ge (tgt := 49) hx hb dX7_placeOfDrop_12 (by decide) (fun c2 => ?_) (fun c2 => ?_)
      · have h := ifT h c2
        refine lv_iload_n hx hb dX7_placeOfDrop_49 rfl (lv_at hl 2 rfl) ?_
        exact rd_end F hr hk rfl h dX7_placeOfDrop_50
      · have h := ifF h c2
        refine lv_iload_n hx hb dX7_placeOfDrop_15 rfl (lv_at hl 2 rfl) ?_
        refine lv_aload_n hx hb dX7_placeOfDrop_16 rfl (lv_at hl 0 rfl) ?_
        refine rC_81_0 F hP dX7_placeOfDrop_17 ?_
        refine lv_iload_n hx hb dX7_placeOfDrop_20 rfl (lv_at hl 3 rfl) ?_
        obtain ⟨r3, e3, h⟩ := bsome h
        refine rd_VN F hP k_X5_isRest mw_1057 0 6 rfl (wsW_get 0 (by decide)) (q_X5_isRest l D Y ad G x3 r3 e3) rfl hl.1 ⟨Nat.le_of_ble_eq_true rfl, Nat.le_of_ble_eq_true rfl⟩ (rest := [.int x2]) rfl (Nat.le_of_ble_eq_true rfl) ⟨Nat.le_of_ble_eq_true rfl, Nat.le_of_ble_eq_true rfl⟩ dX7_placeOfDrop_21 (fun o3 => ?_)
        refine lv_if_ne (tgt := 40) hx hb dX7_placeOfDrop_24 (by decide) (fun c4 => ?_) (fun c4 => ?_)
        · have h := ifF h c4
          exact key40 x3 x2 ls (lv_sub hl [0, 1, 3] rfl) h
        · have h := ifT h c4
          refine lv_aload_n hx hb dX7_placeOfDrop_27 rfl (lv_at hl 0 rfl) ?_
          refine lv_iload_n hx hb dX7_placeOfDrop_28 rfl (lv_at hl 3 rfl) ?_
          refine lv_iload_n hx hb dX7_placeOfDrop_29 rfl (lv_at hl 1 rfl) ?_
          obtain ⟨r5, e5, h⟩ := bsome h
          refine rd_V F hP k_X7_isDropAhead mw_1062 81 8 rfl (wsW_get 81 (by decide)) (q_X7_isDropAhead l D Y ad G x3 a1 r5 e5) rfl hl.1 ⟨Nat.le_of_ble_eq_true rfl, Nat.le_of_ble_eq_true rfl⟩ (rest := [.int x2]) rfl (Nat.le_of_ble_eq_true rfl) ⟨Nat.le_of_ble_eq_true rfl, Nat.le_of_ble_eq_true rfl⟩ dX7_placeOfDrop_30 (fun o5 => ?_)
          refine lv_if_eq (tgt := 40) hx hb dX7_placeOfDrop_33 (by decide) (fun c6 => ?_) (fun c6 => ?_)
          · have h := ifT h c6
            exact key40 x3 x2 ls (lv_sub hl [0, 1, 3] rfl) h
          · have h := ifF h c6
            refine lv_iconst (v := 1) hx hb dX7_placeOfDrop_36 (by decide) ?_
            refine lv_goto (tgt := 41) hx hb dX7_placeOfDrop_37 (by decide) ?_
            exact key41 x3 (1 : Int32) x2 ls (lv_sub hl [0, 1, 3] rfl) h
  refine lv_iconst (v := 0) hx hb dX7_placeOfDrop_0 (by decide) ?_
  refine lv_istore_n (lv' := [(2, .int ((0 : Int32))), (0, .ref (ad 81)), (1, .int a1)]) hx hb dX7_placeOfDrop_1 rfl hl (by decide) rfl (fun ls hl => ?_)
  refine lv_iconst (v := 0) hx hb dX7_placeOfDrop_2 (by decide) ?_
  refine lv_istore_n (lv' := [(3, .int ((0 : Int32))), (2, .int ((0 : Int32))), (0, .ref (ad 81)), (1, .int a1)]) hx hb dX7_placeOfDrop_3 rfl hl (by decide) rfl (fun ls hl => ?_)
  exact key4 4096 (0 : Int32) (0 : Int32) ls (lv_sub hl [2, 3, 1, 0] rfl) h
def f_X7_dropAt_35 (G : Nat → Nat → Int32) (a1 : Int32) (k2 : Int32 → Option Int32) (x2 : Int32) : Option Int32 := k2 (x2 + 1)
def f_X7_dropAt_2 (G : Nat → Nat → Int32) (a1 : Int32) (n : Nat) (y2 : Int32) : Option Int32 := lq1 (fun (k2 : Int32 → Option Int32) (x2 : Int32) => ((f_X5_countOfSounds G ).bind fun r1 => (if r1 ≤ x2 then some (-1 : Int32) else ((f_X5_isRest G x2).bind fun r3 => (if r3 = 0 then ((f_X7_placeOfDrop G x2).bind fun r5 => (if r5 = a1 then some x2 else f_X7_dropAt_35 G a1 k2 x2)) else f_X7_dropAt_35 G a1 k2 x2))))) n y2
def f_X7_dropAt (G : Nat → Nat → Int32) (a1 : Int32) : Option Int32 := f_X7_dropAt_2 G a1 4096 (0 : Int32)
set_option maxRecDepth 100000 in
set_option maxHeartbeats 4000000 in
theorem q_X7_dropAt (l : Launch) (D : va_G) (Y : Nat → ClassId) (ad : Nat → Nat) (G : Nat → Nat → Int32) (a1 : Int32) (r : Int32) (h : f_X7_dropAt G a1 = some r) : RD l yX7_dropAt cX7_dropAt 3 (some .int) 5 D Y (wsC Y ad G) [.ref (ad 81), .int a1] r := by
  refine RD_of (by decide) (Nat.le_of_ble_eq_true rfl) (lv := [(0, .ref (ad 81)), (1, .int a1)]) rfl ?_
  intro p e s m below meth c ls F hP hr hk hl
  have F : Fx p c cX7_dropAt 3 s m _ RX7 D Y := F
  have hx := F.1.1
  have hb := F.1.2.1
  have key2 : ∀ (n : Nat) (x2 : Int32) (ls : Array Slot), lv_has ls 3 [(0, .ref (ad 81)), (1, .int a1), (2, .int x2)] → f_X7_dropAt_2 G a1  n x2 = some r → WD p l e 5 s m ([.ref (ad 81), .int a1] : List Value).toArray below meth c s.heap (some .int) r (F0 m 2 ls []) := by
    intro  n
    induction n with
    | zero => intro x2 ls hl h; exact lqZ1 h
    | succ n2 ih2 =>
      have key35 : ∀ (x2 : Int32) (ls : Array Slot), lv_has ls 3 [(0, .ref (ad 81)), (1, .int a1), (2, .int x2)] → f_X7_dropAt_35 G a1 (f_X7_dropAt_2 G a1   n2) x2 = some r → WD p l e 5 s m ([.ref (ad 81), .int a1] : List Value).toArray below meth c s.heap (some .int) r (F0 m 35 ls []) := by
        intro x2 ls hl h
        refine lv_iinc (v := (x2 + 1)) (lv' := [(2, .int ((x2 + 1))), (0, .ref (ad 81)), (1, .int a1)]) hx hb dX7_dropAt_35 hl (k := 2) rfl rfl (by decide) rfl (fun ls hl => ?_)
        refine lv_goto (tgt := 2) hx hb dX7_dropAt_38 (by decide) ?_
        exact ih2 (x2 + 1) ls (lv_sub hl [1, 2, 0] rfl) h
      intro x2 ls hl h
      have h := lqS1 h
      refine lv_iload_n hx hb dX7_dropAt_2 rfl (lv_at hl 2 rfl) ?_
      refine lv_aload_n hx hb dX7_dropAt_3 rfl (lv_at hl 0 rfl) ?_
      refine rC_81_0 F hP dX7_dropAt_4 ?_
      obtain ⟨r1, e1, h⟩ := bsome h
      refine rd_VN F hP k_X5_countOfSounds mw_1056 0 6 rfl (wsW_get 0 (by decide)) (q_X5_countOfSounds l D Y ad G  r1 e1) rfl hl.1 ⟨Nat.le_of_ble_eq_true rfl, Nat.le_of_ble_eq_true rfl⟩ (rest := [.int x2]) rfl (Nat.le_of_ble_eq_true rfl) ⟨Nat.le_of_ble_eq_true rfl, Nat.le_of_ble_eq_true rfl⟩ dX7_dropAt_7 (fun o1 => ?_)
      refine lv_icmp_ge (tgt := 41) hx hb dX7_dropAt_10 (by decide) (fun c2 => ?_) (fun c2 => ?_)
      · have h := ifT h c2
        refine lv_iconst (v := -1) hx hb dX7_dropAt_41 (by decide) ?_
        exact rd_end F hr hk rfl h dX7_dropAt_42
      · have h := ifF h c2
        refine lv_aload_n hx hb dX7_dropAt_13 rfl (lv_at hl 0 rfl) ?_
        refine rC_81_0 F hP dX7_dropAt_14 ?_
        refine lv_iload_n hx hb dX7_dropAt_17 rfl (lv_at hl 2 rfl) ?_
        obtain ⟨r3, e3, h⟩ := bsome h
        refine rd_VN F hP k_X5_isRest mw_1057 0 6 rfl (wsW_get 0 (by decide)) (q_X5_isRest l D Y ad G x2 r3 e3) rfl hl.1 ⟨Nat.le_of_ble_eq_true rfl, Nat.le_of_ble_eq_true rfl⟩ (rest := []) rfl (Nat.le_of_ble_eq_true rfl) ⟨Nat.le_of_ble_eq_true rfl, Nat.le_of_ble_eq_true rfl⟩ dX7_dropAt_18 (fun o3 => ?_)
        refine lv_if_ne (tgt := 35) hx hb dX7_dropAt_21 (by decide) (fun c4 => ?_) (fun c4 => ?_)
        · have h := ifF h c4
          exact key35 x2 ls (lv_sub hl [0, 1, 2] rfl) h
        · have h := ifT h c4
          refine lv_aload_n hx hb dX7_dropAt_24 rfl (lv_at hl 0 rfl) ?_
          refine lv_iload_n hx hb dX7_dropAt_25 rfl (lv_at hl 2 rfl) ?_
          obtain ⟨r5, e5, h⟩ := bsome h
          refine rd_V F hP k_X7_placeOfDrop mw_1058 81 8 rfl (wsW_get 81 (by decide)) (q_X7_placeOfDrop l D Y ad G x2 r5 e5) rfl hl.1 ⟨Nat.le_of_ble_eq_true rfl, Nat.le_of_ble_eq_true rfl⟩ (rest := []) rfl (Nat.le_of_ble_eq_true rfl) ⟨Nat.le_of_ble_eq_true rfl, Nat.le_of_ble_eq_true rfl⟩ dX7_dropAt_26 (fun o5 => ?_)
          refine lv_iload_n hx hb dX7_dropAt_29 rfl (lv_at hl 1 rfl) ?_
          refine lv_icmp_ne (tgt := 35) hx hb dX7_dropAt_30 (by decide) (fun c6 => ?_) (fun c6 => ?_)
          · have h := ifF h c6
            exact key35 x2 ls (lv_sub hl [0, 1, 2] rfl) h
          · have h := ifT h c6
            refine lv_iload_n hx hb dX7_dropAt_33 rfl (lv_at hl 2 rfl) ?_
            exact rd_end F hr hk rfl h dX7_dropAt_34
  refine lv_iconst (v := 0) hx hb dX7_dropAt_0 (by decide) ?_
  refine lv_istore_n (lv' := [(2, .int ((0 : Int32))), (0, .ref (ad 81)), (1, .int a1)]) hx hb dX7_dropAt_1 rfl hl (by decide) rfl (fun ls hl => ?_)
  exact key2 4096 (0 : Int32) ls (lv_sub hl [1, 2, 0] rfl) h
