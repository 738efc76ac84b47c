def f_X8_lettersOf_2 (i1 : Nat) (n : Nat) (G : GT) (y2 : Int32) : Option (Int32 × GT) := lq2 (fun (k2 : GT → Int32 → Option (Int32 × GT)) (G : GT) (x2 : Int32) => (if (nI (stB i1).length) ≤ x2 then some ((nI (stB i1).length), G) else (if inb x2 (stB i1).length then ((f_X8_isSign G ((G 84 4) + x2) (chB (stB i1) x2)).bind fun r3 => (if r3 = 0 then some (x2, G) else k2 G (x2 + 1))) else none))) n G y2
def f_X8_lettersOf (G : GT) (i1 : Nat) : Option (Int32 × GT) := f_X8_lettersOf_2 i1 4096 G (0 : Int32)
set_option maxRecDepth 100000 in
set_option maxHeartbeats 4000000 in
theorem q_X8_lettersOf (l : Launch) (D : va_G) (Y : Nat → ClassId) (ad : Nat → Nat) (hI : Inj 90 ad) (G : GT) (i1 : Nat) (hi1 : i1 < 33) (r : Int32) (G' : GT) (h : f_X8_lettersOf G i1 = some (r, G')) : WKi l yX8_lettersOf cX8_lettersOf 3 (some .int) 4 D Y 90 ad (kC Y ad) ad G [.ref (ad 84), .ref (ad (200 + i1))] r G' := by
  refine RK_of (ret := (some .int)) (by decide) (Nat.le_of_ble_eq_true rfl) (lv := [(0, .ref (ad 84)), (1, .ref (ad (200 + i1)))]) rfl ?_
  intro p e s m below meth c ls F hP hK hS hr hk hl
  have F : Fx p c cX8_lettersOf 3 s m _ RX8 D Y := F
  have hx := F.1.1
  have hb := F.1.2.1
  have hts := F.1.2.2.2.2
  have hown := F.1.2.2.2.1
  have key2 : ∀ (n : Nat) (G : GT) (x2 : Int32) (H : Heap) (locs : List Loc), va_P D vwCl (wsC Y ad G) H → va_S (AW 90 ad) s.heap H locs → ∀ ls : Array Slot, lv_has ls 3 [(0, .ref (ad 84)), (1, .ref (ad (200 + i1))), (2, .int x2)] → f_X8_lettersOf_2 i1  n G x2 = some (r, G') → WW p l e 4 s m ([.ref (ad 84), .ref (ad (200 + i1))] : List Value).toArray below meth c H locs (WQi (some .int) r D (wsC Y ad G') (AW 90 ad)) (AW 90 ad) (F0 m 2 ls []) := by
    intro  n
    induction n with
    | zero => intro G x2 H locs hP hS ls hl h; exact lqZ2 h
    | succ n2 ih2 =>
      intro G x2 H locs hP hS ls hl h
      have h := lqS2 h
      refine lv_iload_n hx hb dX8_lettersOf_2 rfl (lv_at hl 2 rfl) ?_
      refine lv_aload_n hx hb dX8_lettersOf_3 rfl (lv_at hl 1 rfl) ?_
      refine rk_V F hP hK hS k_J0_length_8abf5 mw_1511 (strRec hK hS hi1) (q_length l D Y _ ad _ i1 hi1) rfl hl.1 ⟨Nat.le_of_ble_eq_true rfl, Nat.le_of_ble_eq_true rfl⟩ (rest := [.int x2]) rfl (Nat.le_of_ble_eq_true rfl) ⟨Nat.le_of_ble_eq_true rfl, Nat.le_of_ble_eq_true rfl⟩ dX8_lettersOf_4 (fun _ => ?_)
      refine lv_icmp_ge (tgt := 36) hx hb dX8_lettersOf_7 (by decide) (fun c1 => ?_) (fun c1 => ?_)
      · have h := ifT h c1
        refine lv_aload_n hx hb dX8_lettersOf_36 rfl (lv_at hl 1 rfl) ?_
        refine rk_V F hP hK hS k_J0_length_8abf5 mw_1511 (strRec hK hS hi1) (q_length l D Y _ ad _ i1 hi1) rfl hl.1 ⟨Nat.le_of_ble_eq_true rfl, Nat.le_of_ble_eq_true rfl⟩ (rest := []) rfl (Nat.le_of_ble_eq_true rfl) ⟨Nat.le_of_ble_eq_true rfl, Nat.le_of_ble_eq_true rfl⟩ dX8_lettersOf_37 (fun _ => ?_)
        exact wr_end F hP hS hr hk rfl h dX8_lettersOf_40
      · have h := ifF h c1
        refine lv_aload_n hx hb dX8_lettersOf_10 rfl (lv_at hl 0 rfl) ?_
        refine lv_aload_n hx hb dX8_lettersOf_11 rfl (lv_at hl 0 rfl) ?_
        refine rC_84_4 F hP dX8_lettersOf_12 ?_
        refine lv_iload_n hx hb dX8_lettersOf_15 rfl (lv_at hl 2 rfl) ?_
        refine lv_iadd hx hb dX8_lettersOf_16 ?_
        refine lv_aload_n hx hb dX8_lettersOf_17 rfl (lv_at hl 1 rfl) ?_
        refine lv_iload_n hx hb dX8_lettersOf_18 rfl (lv_at hl 2 rfl) ?_
        obtain ⟨b2, h⟩ := ckS h
        refine rk_V F hP hK hS k_J0_charAt_5068e mw_1512 (strRec hK hS hi1) (q_charAt l D Y _ ad _ i1 hi1 x2 (Int32.not_lt.mpr b2.1) b2.2) rfl hl.1 ⟨Nat.le_of_ble_eq_true rfl, Nat.le_of_ble_eq_true rfl⟩ (rest := [.int (((G 84 4) + x2)), .ref (ad 84)]) rfl (Nat.le_of_ble_eq_true rfl) ⟨Nat.le_of_ble_eq_true rfl, Nat.le_of_ble_eq_true rfl⟩ dX8_lettersOf_19 (fun _ => ?_)
        obtain ⟨r3, e3, h⟩ := bsome h
        refine rd_V F hP k_X8_isSign mw_1513 84 9 rfl (wsW_get 84 (by decide)) (q_X8_isSign l D Y ad G ((G 84 4) + x2) (chB (stB i1) x2) r3 e3) rfl hl.1 ⟨Nat.le_of_ble_eq_true rfl, Nat.le_of_ble_eq_true rfl⟩ (rest := []) rfl (Nat.le_of_ble_eq_true rfl) ⟨Nat.le_of_ble_eq_true rfl, Nat.le_of_ble_eq_true rfl⟩ dX8_lettersOf_22 (fun o3 => ?_)
        refine lv_if_ne (tgt := 30) hx hb dX8_lettersOf_25 (by decide) (fun c4 => ?_) (fun c4 => ?_)
        · have h := ifF h c4
          refine lv_iinc (v := (x2 + 1)) (lv' := [(2, .int ((x2 + 1))), (0, .ref (ad 84)), (1, .ref (ad (200 + i1)))]) hx hb dX8_lettersOf_30 hl (k := 2) rfl rfl (by decide) rfl (fun ls hl => ?_)
          refine lv_goto (tgt := 2) hx hb dX8_lettersOf_33 (by decide) ?_
          exact ih2 G (x2 + 1) _ _ hP hS ls (lv_sub hl [1, 2, 0] rfl) h
        · have h := ifT h c4
          refine lv_iload_n hx hb dX8_lettersOf_28 rfl (lv_at hl 2 rfl) ?_
          exact wr_end F hP hS hr hk rfl h dX8_lettersOf_29
  refine lv_iconst (v := 0) hx hb dX8_lettersOf_0 (by decide) ?_
  refine lv_istore_n (lv' := [(2, .int ((0 : Int32))), (0, .ref (ad 84)), (1, .ref (ad (200 + i1)))]) hx hb dX8_lettersOf_1 rfl hl (by decide) rfl (fun ls hl => ?_)
  exact key2 4096 G (0 : Int32) _ _ hP hS ls (lv_sub hl [1, 2, 0] rfl) h
def f_X8_readWord_4 (n : Nat) (G : GT) (y1 : Int32) (y2 : Int32) : Option (Nat × GT) := lq3 (fun (k4 : GT → Int32 → Int32 → Option (Nat × GT)) (G : GT) (x1 : Int32) (x2 : Int32) => (if (nI 8) ≤ x2 then ((some (upR G 84 (upd (G 84) 4 ((G 84 4) + x1)))).bind fun G2 => some (0, G2)) else (if inb x2 8 then (bind2 (f_X8_lettersOf G (woO (x2.toNatClampNeg))) fun r4 G4 => (if r4 = (nI (stB (woO (x2.toNatClampNeg))).length) then ((some (upR G4 84 (upd (G4 84) 4 ((G4 84 4) + r4)))).bind fun G6 => some (((x2.toNatClampNeg) + 1), G6)) else k4 G4 (max32 x1 r4) (x2 + 1))) else none))) n G y1 y2
def f_X8_readWord (G : GT) : Option (Nat × GT) := f_X8_readWord_4 4096 G (0 : Int32) (0 : Int32)
set_option maxRecDepth 100000 in
set_option maxHeartbeats 4000000 in
theorem q_X8_readWord (l : Launch) (D : va_G) (Y : Nat → ClassId) (ad : Nat → Nat) (hI : Inj 90 ad) (G : GT) (r : Nat) (G' : GT) (h : f_X8_readWord G  = some (r, G')) : WKq l yX8_readWord cX8_readWord 5 (some (.object "TinRoofScore$Order")) 5 D Y 90 ad (kC Y ad) ad G [.ref (ad 84)] r G' := by
  refine RK_of (ret := (some (.object "TinRoofScore$Order"))) (by decide) (Nat.le_of_ble_eq_true rfl) (lv := [(0, .ref (ad 84))]) rfl ?_
  intro p e s m below meth c ls F hP hK hS hr hk hl
  have F : Fx p c cX8_readWord 5 s m _ RX8 D Y := F
  have hx := F.1.1
  have hb := F.1.2.1
  have hts := F.1.2.2.2.2
  have hown := F.1.2.2.2.1
  have key4 : ∀ (n : Nat) (G : GT) (x1 : Int32) (x2 : Int32) (H : Heap) (locs : List Loc), va_P D vwCl (wsC Y ad G) H → va_S (AW 90 ad) s.heap H locs → ∀ ls : Array Slot, lv_has ls 5 [(0, .ref (ad 84)), (1, .int x1), (2, .int x2)] → f_X8_readWord_4   n G x1 x2 = some (r, G') → WW p l e 5 s m ([.ref (ad 84)] : List Value).toArray below meth c H locs (WQq ad r D (wsC Y ad G') (AW 90 ad)) (AW 90 ad) (F0 m 4 ls []) := by
    intro  n
    induction n with
    | zero => intro G x1 x2 H locs hP hS ls hl h; exact lqZ3 h
    | succ n4 ih4 =>
      intro G x1 x2 H locs hP hS ls hl h
      have h := lqS3 h
      refine lv_iload_n hx hb dX8_readWord_4 rfl (lv_at hl 2 rfl) ?_
      refine va_getsN hx hb hK.2.2.2.1.1 hS hown (va_Nw.use rfl (F.2.2 _ mw_1505)) (fun _ h => h) dX8_readWord_5 ?_
      refine va_tlen (v := nI 8) hx hb hK.2.2.2.1.2 hS rfl dX8_readWord_8 ?_
      refine lv_icmp_ge (tgt := 66) hx hb dX8_readWord_9 (by decide) (fun c1 => ?_) (fun c1 => ?_)
      · have h := ifT h c1
        refine lv_aload_n hx hb dX8_readWord_66 rfl (lv_at hl 0 rfl) ?_
        refine lv_dup hx hb dX8_readWord_67 rfl ?_
        refine rC_84_4 F hP dX8_readWord_68 ?_
        refine lv_iload_n hx hb dX8_readWord_71 rfl (lv_at hl 1 rfl) ?_
        refine lv_iadd hx hb dX8_readWord_72 ?_
        obtain ⟨G2, e2, h⟩ := bsome h
        refine pC_84_4 F hI hP hS dX8_readWord_73 (fun H locs hP hS => ?_)
        have hP := cvP e2 hP
        refine lv_null hx hb dX8_readWord_76 ?_
        exact wq_end F hP hS hr hk rfl h dX8_readWord_77
      · have h := ifF h c1
        refine va_getsN hx hb hK.2.2.2.1.1 hS hown (va_Nw.use rfl (F.2.2 _ mw_1505)) (fun _ h => h) dX8_readWord_12 ?_
        refine lv_iload_n hx hb dX8_readWord_15 rfl (lv_at hl 2 rfl) ?_
        obtain ⟨b3, h⟩ := ckS h
        refine vb_tq (v := .ref (ad (100 + x2.toNatClampNeg))) hx hb hK.2.2.2.1.2 hS (inbV b3 (by decide)) rfl dX8_readWord_16 ?_
        refine lv_astore_n (lv' := [(3, .ref (ad (100 + (x2.toNatClampNeg)))), (0, .ref (ad 84)), (1, .int x1), (2, .int x2)]) hx hb dX8_readWord_17 rfl hl (by decide) rfl (fun ls hl => ?_)
        refine lv_aload_n hx hb dX8_readWord_18 rfl (lv_at hl 1 rfl) ?_
        refine lv_aload_n hx hb dX8_readWord_19 rfl (lv_at hl 0 rfl) ?_
        refine vk_getfN hx hb ((hK.1 (x2.toNatClampNeg) (inb8 b3)).2.2.1) hS hown (va_Nw.use rfl (F.2.2 _ mw_1592)) (fun _ h => h) dX8_readWord_20 ?_
        obtain ⟨r4, G4, e4, h⟩ := bsome2 h
        refine wk_V F hP hK hS k_X8_lettersOf mw_1507 84 9 rfl (wsW_get 84 (by decide)) (q_X8_lettersOf l D Y ad hI G (woO (x2.toNatClampNeg)) (woO_lt _ (inb8 b3)) r4 G4 e4) rfl hl.1 ⟨Nat.le_of_ble_eq_true rfl, Nat.le_of_ble_eq_true rfl⟩ (rest := []) rfl (Nat.le_of_ble_eq_true rfl) ⟨Nat.le_of_ble_eq_true rfl, Nat.le_of_ble_eq_true rfl⟩ dX8_readWord_23 (fun H locs o4 hP hS => ?_)
        refine lv_istore (lv' := [(4, .int r4), (3, .ref (ad (100 + (x2.toNatClampNeg)))), (0, .ref (ad 84)), (1, .int x1), (2, .int x2)]) hx hb dX8_readWord_26 hl (by decide) rfl (fun ls hl => ?_)
        refine lv_iload hx hb dX8_readWord_28 (lv_at hl 0 rfl) ?_
        refine lv_aload_n hx hb dX8_readWord_30 rfl (lv_at hl 1 rfl) ?_
        refine vk_getfN hx hb ((hK.1 (x2.toNatClampNeg) (inb8 b3)).2.2.1) hS hown (va_Nw.use rfl (F.2.2 _ mw_1592)) (fun _ h => h) dX8_readWord_31 ?_
        refine rk_V F hP hK hS k_J0_length_8abf5 mw_1511 (strRec hK hS (woO_lt _ (inb8 b3))) (q_length l D Y _ ad _ (woO (x2.toNatClampNeg)) (woO_lt _ (inb8 b3))) rfl hl.1 ⟨Nat.le_of_ble_eq_true rfl, Nat.le_of_ble_eq_true rfl⟩ (rest := [.int r4]) rfl (Nat.le_of_ble_eq_true rfl) ⟨Nat.le_of_ble_eq_true rfl, Nat.le_of_ble_eq_true rfl⟩ dX8_readWord_34 (fun _ => ?_)
        refine lv_icmp_ne (tgt := 53) hx hb dX8_readWord_37 (by decide) (fun c5 => ?_) (fun c5 => ?_)
        · have h := ifF h c5
          refine lv_iload_n hx hb dX8_readWord_53 rfl (lv_at hl 3 rfl) ?_
          refine lv_iload hx hb dX8_readWord_54 (lv_at hl 0 rfl) ?_
          refine w_max F hl mw_1517 ⟨Nat.le_of_ble_eq_true rfl, Nat.le_of_ble_eq_true rfl, Nat.le_of_ble_eq_true rfl, Nat.le_of_ble_eq_true rfl⟩ dX8_readWord_56 ?_
          refine lv_istore_n (lv' := [(1, .int ((max32 x1 r4))), (4, .int r4), (3, .ref (ad (100 + (x2.toNatClampNeg)))), (0, .ref (ad 84)), (2, .int x2)]) hx hb dX8_readWord_59 rfl hl (by decide) rfl (fun ls hl => ?_)
          refine lv_iinc (v := (x2 + 1)) (lv' := [(2, .int ((x2 + 1))), (1, .int ((max32 x1 r4))), (4, .int r4), (3, .ref (ad (100 + (x2.toNatClampNeg)))), (0, .ref (ad 84))]) hx hb dX8_readWord_60 hl (k := 4) rfl rfl (by decide) rfl (fun ls hl => ?_)
          refine lv_goto (tgt := 4) hx hb dX8_readWord_63 (by decide) ?_
          exact ih4 G4 (max32 x1 r4) (x2 + 1) _ _ hP hS ls (lv_sub hl [4, 1, 0] rfl) h
        · have h := ifT h c5
          refine lv_aload_n hx hb dX8_readWord_40 rfl (lv_at hl 2 rfl) ?_
          refine lv_dup hx hb dX8_readWord_41 rfl ?_
          refine rC_84_4 F hP dX8_readWord_42 ?_
          refine lv_iload hx hb dX8_readWord_45 (lv_at hl 0 rfl) ?_
          refine lv_iadd hx hb dX8_readWord_47 ?_
          obtain ⟨G6, e6, h⟩ := bsome h
          refine pC_84_4 F hI hP hS dX8_readWord_48 (fun H locs hP hS => ?_)
          have hP := cvP e6 hP
          refine lv_aload_n hx hb dX8_readWord_51 rfl (lv_at hl 1 rfl) ?_
          exact wq_end F hP hS hr hk rfl h dX8_readWord_52
  refine lv_iconst (v := 0) hx hb dX8_readWord_0 (by decide) ?_
  refine lv_istore_n (lv' := [(1, .int ((0 : Int32))), (0, .ref (ad 84))]) hx hb dX8_readWord_1 rfl hl (by decide) rfl (fun ls hl => ?_)
  refine lv_iconst (v := 0) hx hb dX8_readWord_2 (by decide) ?_
  refine lv_istore_n (lv' := [(2, .int ((0 : Int32))), (1, .int ((0 : Int32))), (0, .ref (ad 84))]) hx hb dX8_readWord_3 rfl hl (by decide) rfl (fun ls hl => ?_)
  exact key4 4096 G (0 : Int32) (0 : Int32) _ _ hP hS ls (lv_sub hl [2, 1, 0] rfl) h
def f_X8_readOrder_71 (G : GT) (k32 : GT → Int32 → Option (Int32 × GT)) (o1 : Nat) (x2 : Int32) (s71_0 : Int32) : Option (Int32 × GT) := (if s71_0 = (-1 : Int32) then some ((0 : Int32), G) else ((some (upR G 87 (put32 36 (G 87) (((G 84 5) * (3 : Int32)) + x2) s71_0))).bind fun G2 => k32 G2 (x2 + 1)))
def f_X8_readOrder_32 (o1 : Nat) (n : Nat) (G : GT) (y2 : Int32) : Option (Int32 × GT) := lq2 (fun (k32 : GT → Int32 → Option (Int32 × GT)) (G : GT) (x2 : Int32) => (if (nI (stB (diO o1)).length) ≤ x2 then (if inb (G 84 5) 12 then ((some (upR G 86 (upd (G 86) (G 84 5).toNatClampNeg (nI (o1 + 1))))).bind fun G5 => ((some (upR G5 84 (upd (G5 84) 5 ((G5 84 5) + (1 : Int32))))).bind fun G6 => some ((1 : Int32), G6))) else none) else (bind2 (f_X8_take G (32 : Int32)) fun r7 G7 => (if r7 = 0 then f_X8_readOrder_71 G7 k32 o1 x2 (-1 : Int32) else (if inb x2 (stB (diO o1)).length then (bind2 (f_X8_readNumber G7 ((chB (stB (diO o1)) x2) - (48 : Int32))) fun r10 G10 => f_X8_readOrder_71 G10 k32 o1 x2 r10) else none))))) n G y2
def f_X8_readOrder (G : GT) : Option (Int32 × GT) := (bind2 (f_X8_readWord G ) fun r11 G11 => (ncase r11 (some ((0 : Int32), G11)) fun k12 => (if k12 < 8 then (if (G11 84 5) < 0 then some ((0 : Int32), G11) else (if (G11 84 5) < (nI 12) then f_X8_readOrder_32 k12 4096 G11 (0 : Int32) else some ((0 : Int32), G11))) else none)))
set_option maxRecDepth 100000 in
set_option maxHeartbeats 4000000 in
theorem q_X8_readOrder (l : Launch) (D : va_G) (Y : Nat → ClassId) (ad : Nat → Nat) (hI : Inj 90 ad) (G : GT) (r : Int32) (G' : GT) (h : f_X8_readOrder G  = some (r, G')) : WKi l yX8_readOrder cX8_readOrder 4 (some .boolean) 6 D Y 90 ad (kC Y ad) ad G [.ref (ad 84)] r G' := by
  refine RK_of (ret := (some .boolean)) (by decide) (Nat.le_of_ble_eq_true rfl) (lv := [(0, .ref (ad 84))]) rfl ?_
  intro p e s m below meth c ls F hP hK hS hr hk hl
  have F : Fx p c cX8_readOrder 4 s m _ RX8 D Y := F
  have hx := F.1.1
  have hb := F.1.2.1
  have hts := F.1.2.2.2.2
  have hown := F.1.2.2.2.1
  have key32 : ∀ (o1 : Nat) (ho1 : o1 < 8) (n : Nat) (G : GT) (x2 : Int32) (H : Heap) (locs : List Loc), va_P D vwCl (wsC Y ad G) H → va_S (AW 90 ad) s.heap H locs → ∀ ls : Array Slot, lv_has ls 4 [(0, .ref (ad 84)), (1, .ref (ad (100 + o1))), (2, .int x2)] → f_X8_readOrder_32   o1 n G x2 = some (r, G') → WW p l e 6 s m ([.ref (ad 84)] : List Value).toArray below meth c H locs (WQi (some .boolean) r D (wsC Y ad G') (AW 90 ad)) (AW 90 ad) (F0 m 32 ls []) := by
    intro o1 ho1 n
    induction n with
    | zero => intro G x2 H locs hP hS ls hl h; exact lqZ2 h
    | succ n32 ih32 =>
      have key71 : ∀ (x2 : Int32) (s71_0 : Int32) (G : GT) (H : Heap) (locs : List Loc), va_P D vwCl (wsC Y ad G) H → va_S (AW 90 ad) s.heap H locs → ∀ ls : Array Slot, lv_has ls 4 [(0, .ref (ad 84)), (1, .ref (ad (100 + o1))), (2, .int x2)] → f_X8_readOrder_71 G  (f_X8_readOrder_32   o1 n32) o1 x2 s71_0 = some (r, G') → WW p l e 6 s m ([.ref (ad 84)] : List Value).toArray below meth c H locs (WQi (some .boolean) r D (wsC Y ad G') (AW 90 ad)) (AW 90 ad) (F0 m 71 ls [.int s71_0]) := by
        intro x2 s71_0 G  H locs hP hS ls hl h
        refine lv_istore_n (lv' := [(3, .int s71_0), (0, .ref (ad 84)), (1, .ref (ad (100 + o1))), (2, .int x2)]) hx hb dX8_readOrder_71 rfl hl (by decide) rfl (fun ls hl => ?_)
        refine lv_iload_n hx hb dX8_readOrder_72 rfl (lv_at hl 0 rfl) ?_
        refine lv_iconst (v := -1) hx hb dX8_readOrder_73 (by decide) ?_
        refine lv_icmp_ne (tgt := 79) hx hb dX8_readOrder_74 (by decide) (fun c1 => ?_) (fun c1 => ?_)
        · have h := ifF h c1
          refine lv_aload_n hx hb dX8_readOrder_79 rfl (lv_at hl 1 rfl) ?_
          refine rC_84_2 F hP dX8_readOrder_80 ?_
          refine lv_aload_n hx hb dX8_readOrder_83 rfl (lv_at hl 1 rfl) ?_
          refine rC_84_5 F hP dX8_readOrder_84 ?_
          refine lv_iconst (v := 3) hx hb dX8_readOrder_87 (by decide) ?_
          refine lv_imul hx hb dX8_readOrder_88 ?_
          refine lv_iload_n hx hb dX8_readOrder_89 rfl (lv_at hl 3 rfl) ?_
          refine lv_iadd hx hb dX8_readOrder_90 ?_
          refine lv_iload_n hx hb dX8_readOrder_91 rfl (lv_at hl 0 rfl) ?_
          obtain ⟨G2, e2, h⟩ := bsome h
          refine wv_SN F hP hS k_X9_put mw_1531 (q_X9_put l D Y ad hI G 87 36 (by decide) (fun _ => rfl) (((G 84 5) * (3 : Int32)) + x2) s71_0) rfl hl.1 ⟨Nat.le_of_ble_eq_true rfl, Nat.le_of_ble_eq_true rfl⟩ (rest := []) rfl (Nat.le_of_ble_eq_true rfl) ⟨Nat.le_of_ble_eq_true rfl, Nat.le_of_ble_eq_true rfl⟩ dX8_readOrder_92 (fun H locs hP hS => ?_)
          have hP := cvP e2 hP
          refine lv_iinc (v := (x2 + 1)) (lv' := [(2, .int ((x2 + 1))), (3, .int s71_0), (0, .ref (ad 84)), (1, .ref (ad (100 + o1)))]) hx hb dX8_readOrder_95 hl (k := 3) rfl rfl (by decide) rfl (fun ls hl => ?_)
          refine lv_goto (tgt := 32) hx hb dX8_readOrder_98 (by decide) ?_
          exact ih32 G2 (x2 + 1) _ _ hP hS ls (lv_sub hl [2, 3, 0] rfl) h
        · have h := ifT h c1
          refine lv_iconst (v := 0) hx hb dX8_readOrder_77 (by decide) ?_
          exact wr_end F hP hS hr hk rfl h dX8_readOrder_78
      intro G x2 H locs hP hS ls hl h
      have h := lqS2 h
      refine lv_iload_n hx hb dX8_readOrder_32 rfl (lv_at hl 2 rfl) ?_
      refine lv_aload_n hx hb dX8_readOrder_33 rfl (lv_at hl 1 rfl) ?_
      refine vk_getfN hx hb ((hK.1 o1 ho1).2.2.2) hS hown (va_Nw.use rfl (F.2.2 _ mw_1593)) (fun _ h => h) dX8_readOrder_34 ?_
      refine rk_V F hP hK hS k_J0_length_8abf5 mw_1511 (strRec hK hS (diO_lt _ ho1)) (q_length l D Y _ ad _ (diO o1) (diO_lt _ ho1)) rfl hl.1 ⟨Nat.le_of_ble_eq_true rfl, Nat.le_of_ble_eq_true rfl⟩ (rest := [.int x2]) rfl (Nat.le_of_ble_eq_true rfl) ⟨Nat.le_of_ble_eq_true rfl, Nat.le_of_ble_eq_true rfl⟩ dX8_readOrder_37 (fun _ => ?_)
      refine lv_icmp_ge (tgt := 101) hx hb dX8_readOrder_40 (by decide) (fun c3 => ?_) (fun c3 => ?_)
      · have h := ifT h c3
        refine lv_aload_n hx hb dX8_readOrder_101 rfl (lv_at hl 0 rfl) ?_
        refine rC_84_1 F hP dX8_readOrder_102 ?_
        refine lv_aload_n hx hb dX8_readOrder_105 rfl (lv_at hl 0 rfl) ?_
        refine rC_84_5 F hP dX8_readOrder_106 ?_
        refine lv_aload_n hx hb dX8_readOrder_109 rfl (lv_at hl 1 rfl) ?_
        obtain ⟨b4, h⟩ := ckS h
        obtain ⟨G5, e5, h⟩ := bsome h
        refine asto F hI hP hK hS (fun i h => ⟨i, h, rfl⟩) 86 (by decide) (fun _ => rfl) o1 ho1 (inbV b4 (by decide)) dX8_readOrder_110 (fun H locs hP hS => ?_)
        have hP := cvP e5 hP
        refine lv_aload_n hx hb dX8_readOrder_111 rfl (lv_at hl 0 rfl) ?_
        refine lv_dup hx hb dX8_readOrder_112 rfl ?_
        refine rC_84_5 F hP dX8_readOrder_113 ?_
        refine lv_iconst (v := 1) hx hb dX8_readOrder_116 (by decide) ?_
        refine lv_iadd hx hb dX8_readOrder_117 ?_
        obtain ⟨G6, e6, h⟩ := bsome h
        refine pC_84_5 F hI hP hS dX8_readOrder_118 (fun H locs hP hS => ?_)
        have hP := cvP e6 hP
        refine lv_iconst (v := 1) hx hb dX8_readOrder_121 (by decide) ?_
        exact wr_end F hP hS hr hk rfl h dX8_readOrder_122
      · have h := ifF h c3
        refine lv_aload_n hx hb dX8_readOrder_43 rfl (lv_at hl 0 rfl) ?_
        refine lv_bipush (v := 32) hx hb dX8_readOrder_44 (by decide) ?_
        obtain ⟨r7, G7, e7, h⟩ := bsome2 h
        refine wr_V F hP hS k_X8_take mw_1518 84 9 rfl (wsW_get 84 (by decide)) (q_X8_take l D Y ad hI G (32 : Int32) r7 G7 e7) rfl hl.1 ⟨Nat.le_of_ble_eq_true rfl, Nat.le_of_ble_eq_true rfl⟩ (rest := []) rfl (Nat.le_of_ble_eq_true rfl) ⟨Nat.le_of_ble_eq_true rfl, Nat.le_of_ble_eq_true rfl⟩ dX8_readOrder_46 (fun H locs o7 hP hS => ?_)
        refine lv_if_eq (tgt := 70) hx hb dX8_readOrder_49 (by decide) (fun c8 => ?_) (fun c8 => ?_)
        · have h := ifT h c8
          refine lv_iconst (v := -1) hx hb dX8_readOrder_70 (by decide) ?_
          exact key71 x2 (-1 : Int32) G7 _ _ hP hS ls (lv_sub hl [0, 1, 2] rfl) h
        · have h := ifF h c8
          refine lv_aload_n hx hb dX8_readOrder_52 rfl (lv_at hl 0 rfl) ?_
          refine lv_aload_n hx hb dX8_readOrder_53 rfl (lv_at hl 1 rfl) ?_
          refine vk_getfN hx hb ((hK.1 o1 ho1).2.2.2) hS hown (va_Nw.use rfl (F.2.2 _ mw_1593)) (fun _ h => h) dX8_readOrder_54 ?_
          refine lv_iload_n hx hb dX8_readOrder_57 rfl (lv_at hl 2 rfl) ?_
          obtain ⟨b9, h⟩ := ckS h
          refine rk_V F hP hK hS k_J0_charAt_5068e mw_1512 (strRec hK hS (diO_lt _ ho1)) (q_charAt l D Y _ ad _ (diO o1) (diO_lt _ ho1) x2 (Int32.not_lt.mpr b9.1) b9.2) rfl hl.1 ⟨Nat.le_of_ble_eq_true rfl, Nat.le_of_ble_eq_true rfl⟩ (rest := [.ref (ad 84)]) rfl (Nat.le_of_ble_eq_true rfl) ⟨Nat.le_of_ble_eq_true rfl, Nat.le_of_ble_eq_true rfl⟩ dX8_readOrder_58 (fun _ => ?_)
          refine lv_bipush (v := 48) hx hb dX8_readOrder_61 (by decide) ?_
          refine lv_isub hx hb dX8_readOrder_63 ?_
          obtain ⟨r10, G10, e10, h⟩ := bsome2 h
          refine wr_V F hP hS k_X8_readNumber mw_1522 84 9 rfl (wsW_get 84 (by decide)) (q_X8_readNumber l D Y ad hI G7 ((chB (stB (diO o1)) x2) - (48 : Int32)) r10 G10 e10) rfl hl.1 ⟨Nat.le_of_ble_eq_true rfl, Nat.le_of_ble_eq_true rfl⟩ (rest := []) rfl (Nat.le_of_ble_eq_true rfl) ⟨Nat.le_of_ble_eq_true rfl, Nat.le_of_ble_eq_true rfl⟩ dX8_readOrder_64 (fun H locs o10 hP hS => ?_)
          refine lv_goto (tgt := 71) hx hb dX8_readOrder_67 (by decide) ?_
          exact key71 x2 r10 G10 _ _ hP hS ls (lv_sub hl [0, 1, 2] rfl) h
  refine lv_aload_n hx hb dX8_readOrder_0 rfl (lv_at hl 0 rfl) ?_
  obtain ⟨r11, G11, e11, h⟩ := bsome2 h
  refine wkq_V F hP hK hS k_X8_readWord mw_1501 84 9 rfl (wsW_get 84 (by decide)) (q_X8_readWord l D Y ad hI G   r11 G11 e11) rfl hl.1 ⟨Nat.le_of_ble_eq_true rfl, Nat.le_of_ble_eq_true rfl⟩ (rest := []) rfl (Nat.le_of_ble_eq_true rfl) ⟨Nat.le_of_ble_eq_true rfl, Nat.le_of_ble_eq_true rfl⟩ dX8_readOrder_1 (fun H locs hP hS => ?_)
  rcases r11 with _ | k12
  · have h := nc0 h
    refine lv_astore_nN (lv' := [(1, .null), (0, .ref (ad 84))]) hx hb dX8_readOrder_4 rfl hl (by decide) rfl (fun ls hl => ?_)
    refine lv_aload_nN hx hb dX8_readOrder_5 rfl (lv_at hl 0 rfl) ?_
    refine lv_ifnullN (tgt := 28) hx hb dX8_readOrder_6 (by decide) ?_
    refine lv_iconst (v := 0) hx hb dX8_readOrder_28 (by decide) ?_
    exact wr_end F hP hS hr hk rfl h dX8_readOrder_29
  · have h := ncS h
    obtain ⟨b13, h⟩ := ckS h
    refine lv_astore_n (lv' := [(1, .ref (ad (100 + k12))), (0, .ref (ad 84))]) hx hb dX8_readOrder_4 rfl hl (by decide) rfl (fun ls hl => ?_)
    refine lv_aload_n hx hb dX8_readOrder_5 rfl (lv_at hl 0 rfl) ?_
    refine lv_ifnull hx hb dX8_readOrder_6 ?_
    refine lv_aload_n hx hb dX8_readOrder_9 rfl (lv_at hl 1 rfl) ?_
    refine rC_84_5 F hP dX8_readOrder_10 ?_
    refine lv_if_lt (tgt := 28) hx hb dX8_readOrder_13 (by decide) (fun c14 => ?_) (fun c14 => ?_)
    · have h := ifT h c14
      refine lv_iconst (v := 0) hx hb dX8_readOrder_28 (by decide) ?_
      exact wr_end F hP hS hr hk rfl h dX8_readOrder_29
    · have h := ifF h c14
      refine lv_aload_n hx hb dX8_readOrder_16 rfl (lv_at hl 1 rfl) ?_
      refine rC_84_5 F hP dX8_readOrder_17 ?_
      refine lv_aload_n hx hb dX8_readOrder_20 rfl (lv_at hl 1 rfl) ?_
      refine rC_84_1 F hP dX8_readOrder_21 ?_
      refine aleno F hP 86 (wsW_get 86 (by decide)) dX8_readOrder_24 ?_
      refine lv_icmp_lt (tgt := 30) hx hb dX8_readOrder_25 (by decide) (fun c15 => ?_) (fun c15 => ?_)
      · have h := ifT h c15
        refine lv_iconst (v := 0) hx hb dX8_readOrder_30 (by decide) ?_
        refine lv_istore_n (lv' := [(2, .int ((0 : Int32))), (1, .ref (ad (100 + k12))), (0, .ref (ad 84))]) hx hb dX8_readOrder_31 rfl hl (by decide) rfl (fun ls hl => ?_)
        exact key32 k12 b13 4096 G11 (0 : Int32) _ _ hP hS ls (lv_sub hl [2, 1, 0] rfl) h
      · have h := ifF h c15
        refine lv_iconst (v := 0) hx hb dX8_readOrder_28 (by decide) ?_
        exact wr_end F hP hS hr hk rfl h dX8_readOrder_29
def f_X8_readOrders_2 (n : Nat) (G : GT) (y1 : Int32) : Option (Int32 × GT) := lq2 (fun (k2 : GT → Int32 → Option (Int32 × GT)) (G : GT) (x1 : Int32) => (if (12 : Int32) ≤ x1 then some ((0 : Int32), G) else (bind2 (f_X8_readOrder G ) fun r2 G2 => (if r2 = 0 then some ((0 : Int32), G2) else (if (G2 84 4) = (G2 84 3) then some ((1 : Int32), G2) else (bind2 (f_X8_take G2 (59 : Int32)) fun r5 G5 => (if r5 = 0 then some ((0 : Int32), G5) else k2 G5 (x1 + 1)))))))) n G y1
def f_X8_readOrders (G : GT) : Option (Int32 × GT) := f_X8_readOrders_2 4096 G (0 : Int32)
set_option maxRecDepth 100000 in
set_option maxHeartbeats 4000000 in
theorem q_X8_readOrders (l : Launch) (D : va_G) (Y : Nat → ClassId) (ad : Nat → Nat) (hI : Inj 90 ad) (G : GT) (r : Int32) (G' : GT) (h : f_X8_readOrders G  = some (r, G')) : WKi l yX8_readOrders cX8_readOrders 2 (some .boolean) 7 D Y 90 ad (kC Y ad) ad G [.ref (ad 84)] r G' := by
  refine RK_of (ret := (some .boolean)) (by decide) (Nat.le_of_ble_eq_true rfl) (lv := [(0, .ref (ad 84))]) rfl ?_
  intro p e s m below meth c ls F hP hK hS hr hk hl
  have F : Fx p c cX8_readOrders 2 s m _ RX8 D Y := F
  have hx := F.1.1
  have hb := F.1.2.1
  have hts := F.1.2.2.2.2
  have hown := F.1.2.2.2.1
  have key2 : ∀ (n : Nat) (G : GT) (x1 : Int32) (H : Heap) (locs : List Loc), va_P D vwCl (wsC Y ad G) H → va_S (AW 90 ad) s.heap H locs → ∀ ls : Array Slot, lv_has ls 2 [(0, .ref (ad 84)), (1, .int x1)] → f_X8_readOrders_2   n G x1 = some (r, G') → WW p l e 7 s m ([.ref (ad 84)] : List Value).toArray below meth c H locs (WQi (some .boolean) r D (wsC Y ad G') (AW 90 ad)) (AW 90 ad) (F0 m 2 ls []) := by
    intro  n
    induction n with
    | zero => intro G x1 H locs hP hS ls hl h; exact lqZ2 h
    | succ n2 ih2 =>
      intro G x1 H locs hP hS ls hl h
      have h := lqS2 h
      refine lv_iload_n hx hb dX8_readOrders_2 rfl (lv_at hl 1 rfl) ?_
      refine lv_bipush (v := 12) hx hb dX8_readOrders_3 (by decide) ?_
      refine lv_icmp_ge (tgt := 47) hx hb dX8_readOrders_5 (by decide) (fun c1 => ?_) (fun c1 => ?_)
      · have h := ifT h c1
        refine lv_iconst (v := 0) hx hb dX8_readOrders_47 (by decide) ?_
        exact wr_end F hP hS hr hk rfl h dX8_readOrders_48
      · have h := ifF h c1
        refine lv_aload_n hx hb dX8_readOrders_8 rfl (lv_at hl 0 rfl) ?_
        obtain ⟨r2, G2, e2, h⟩ := bsome2 h
        refine wk_V F hP hK hS k_X8_readOrder mw_1497 84 9 rfl (wsW_get 84 (by decide)) (q_X8_readOrder l D Y ad hI G   r2 G2 e2) rfl hl.1 ⟨Nat.le_of_ble_eq_true rfl, Nat.le_of_ble_eq_true rfl⟩ (rest := []) rfl (Nat.le_of_ble_eq_true rfl) ⟨Nat.le_of_ble_eq_true rfl, Nat.le_of_ble_eq_true rfl⟩ dX8_readOrders_9 (fun H locs o2 hP hS => ?_)
        refine lv_if_ne (tgt := 17) hx hb dX8_readOrders_12 (by decide) (fun c3 => ?_) (fun c3 => ?_)
        · have h := ifF h c3
          refine lv_aload_n hx hb dX8_readOrders_17 rfl (lv_at hl 0 rfl) ?_
          refine rC_84_4 F hP dX8_readOrders_18 ?_
          refine lv_aload_n hx hb dX8_readOrders_21 rfl (lv_at hl 0 rfl) ?_
          refine rC_84_3 F hP dX8_readOrders_22 ?_
          refine lv_icmp_ne (tgt := 30) hx hb dX8_readOrders_25 (by decide) (fun c4 => ?_) (fun c4 => ?_)
          · have h := ifF h c4
            refine lv_aload_n hx hb dX8_readOrders_30 rfl (lv_at hl 0 rfl) ?_
            refine lv_bipush (v := 59) hx hb dX8_readOrders_31 (by decide) ?_
            obtain ⟨r5, G5, e5, h⟩ := bsome2 h
            refine wr_V F hP hS k_X8_take mw_1518 84 9 rfl (wsW_get 84 (by decide)) (q_X8_take l D Y ad hI G2 (59 : Int32) r5 G5 e5) rfl hl.1 ⟨Nat.le_of_ble_eq_true rfl, Nat.le_of_ble_eq_true rfl⟩ (rest := []) rfl (Nat.le_of_ble_eq_true rfl) ⟨Nat.le_of_ble_eq_true rfl, Nat.le_of_ble_eq_true rfl⟩ dX8_readOrders_33 (fun H locs o5 hP hS => ?_)
            refine lv_if_ne (tgt := 41) hx hb dX8_readOrders_36 (by decide) (fun c6 => ?_) (fun c6 => ?_)
            · have h := ifF h c6
              refine lv_iinc (v := (x1 + 1)) (lv' := [(1, .int ((x1 + 1))), (0, .ref (ad 84))]) hx hb dX8_readOrders_41 hl (k := 1) rfl rfl (by decide) rfl (fun ls hl => ?_)
              refine lv_goto (tgt := 2) hx hb dX8_readOrders_44 (by decide) ?_
              exact ih2 G5 (x1 + 1) _ _ hP hS ls (lv_sub hl [1, 0] rfl) h
            · have h := ifT h c6
              refine lv_iconst (v := 0) hx hb dX8_readOrders_39 (by decide) ?_
              exact wr_end F hP hS hr hk rfl h dX8_readOrders_40
          · have h := ifT h c4
            refine lv_iconst (v := 1) hx hb dX8_readOrders_28 (by decide) ?_
            exact wr_end F hP hS hr hk rfl h dX8_readOrders_29
        · have h := ifT h c3
          refine lv_iconst (v := 0) hx hb dX8_readOrders_15 (by decide) ?_
          exact wr_end F hP hS hr hk rfl h dX8_readOrders_16
  refine lv_iconst (v := 0) hx hb dX8_readOrders_0 (by decide) ?_
  refine lv_istore_n (lv' := [(1, .int ((0 : Int32))), (0, .ref (ad 84))]) hx hb dX8_readOrders_1 rfl hl (by decide) rfl (fun ls hl => ?_)
  exact key2 4096 G (0 : Int32) _ _ hP hS ls (lv_sub hl [1, 0] rfl) h
def f_X8_read_28 (G : GT) (x1 : Int32) (s28_0 : Int32) : Option (Int32 × GT) := ((some (upR G 84 (upd (G 84) 6 s28_0))).bind fun G1 => ((some (upR G1 84 (upd (G1 84) 3 (0 : Int32)))).bind fun G2 => (if okB x1 then some (x1, G2) else none)))
def f_X8_read (G : GT) : Option (Int32 × GT) := ((some (upR G 84 (upd (G 84) 4 (0 : Int32)))).bind fun G4 => ((some (upR G4 84 (upd (G4 84) 5 (0 : Int32)))).bind fun G5 => (bind2 (f_X8_readOrders G5 ) fun r6 G6 => (if r6 = 0 then f_X8_read_28 G6 r6 (G6 84 4) else f_X8_read_28 G6 r6 (-1 : Int32)))))
set_option maxRecDepth 100000 in
set_option maxHeartbeats 4000000 in
theorem q_X8_read (l : Launch) (D : va_G) (Y : Nat → ClassId) (ad : Nat → Nat) (hI : Inj 90 ad) (G : GT) (r : Int32) (G' : GT) (h : f_X8_read G  = some (r, G')) : WKi l yX8_read cX8_read 2 (some .boolean) 8 D Y 90 ad (kC Y ad) ad G [.ref (ad 84)] r G' := by
  refine RK_of (ret := (some .boolean)) (by decide) (Nat.le_of_ble_eq_true rfl) (lv := [(0, .ref (ad 84))]) rfl ?_
  intro p e s m below meth c ls F hP hK hS hr hk hl
  have F : Fx p c cX8_read 2 s m _ RX8 D Y := F
  have hx := F.1.1
  have hb := F.1.2.1
  have hts := F.1.2.2.2.2
  have hown := F.1.2.2.2.1
  have key28 : ∀ (x1 : Int32) (s28_0 : Int32) (G : GT) (H : Heap) (locs : List Loc), va_P D vwCl (wsC Y ad G) H → va_S (AW 90 ad) s.heap H locs → ∀ ls : Array Slot, lv_has ls 2 [(0, .ref (ad 84)), (1, .int x1)] → f_X8_read_28 G   x1 s28_0 = some (r, G') → WW p l e 8 s m ([.ref (ad 84)] : List Value).toArray below meth c H locs (WQi (some .boolean) r D (wsC Y ad G') (AW 90 ad)) (AW 90 ad) (F0 m 28 ls [.int s28_0, .ref (ad 84)]) := by
    intro x1 s28_0 G  H locs hP hS ls hl h
    obtain ⟨G1, e1, h⟩ := bsome h
    refine pC_84_6 F hI hP hS dX8_read_28 (fun H locs hP hS => ?_)
    have hP := cvP e1 hP
    refine lv_aload_n hx hb dX8_read_31 rfl (lv_at hl 0 rfl) ?_
    refine lv_iconst (v := 0) hx hb dX8_read_32 (by decide) ?_
    obtain ⟨G2, e2, h⟩ := bsome h
    refine pC_84_3 F hI hP hS dX8_read_33 (fun H locs hP hS => ?_)
    have hP := cvP e2 hP
    refine lv_iload_n hx hb dX8_read_36 rfl (lv_at hl 1 rfl) ?_
    obtain ⟨b3, h⟩ := ckS h
    exact wr_end F hP hS hr hk (okB_n b3) h dX8_read_37
  refine lv_aload_n hx hb dX8_read_0 rfl (lv_at hl 0 rfl) ?_
  refine lv_iconst (v := 0) hx hb dX8_read_1 (by decide) ?_
  obtain ⟨G4, e4, h⟩ := bsome h
  refine pC_84_4 F hI hP hS dX8_read_2 (fun H locs hP hS => ?_)
  have hP := cvP e4 hP
  refine lv_aload_n hx hb dX8_read_5 rfl (lv_at hl 0 rfl) ?_
  refine lv_iconst (v := 0) hx hb dX8_read_6 (by decide) ?_
  obtain ⟨G5, e5, h⟩ := bsome h
  refine pC_84_5 F hI hP hS dX8_read_7 (fun H locs hP hS => ?_)
  have hP := cvP e5 hP
  refine lv_aload_n hx hb dX8_read_10 rfl (lv_at hl 0 rfl) ?_
  obtain ⟨r6, G6, e6, h⟩ := bsome2 h
  refine wk_V F hP hK hS k_X8_readOrders mw_1493 84 9 rfl (wsW_get 84 (by decide)) (q_X8_readOrders l D Y ad hI G5   r6 G6 e6) rfl hl.1 ⟨Nat.le_of_ble_eq_true rfl, Nat.le_of_ble_eq_true rfl⟩ (rest := []) rfl (Nat.le_of_ble_eq_true rfl) ⟨Nat.le_of_ble_eq_true rfl, Nat.le_of_ble_eq_true rfl⟩ dX8_read_11 (fun H locs o6 hP hS => ?_)
  refine lv_istore_n (lv' := [(1, .int r6), (0, .ref (ad 84))]) hx hb dX8_read_14 rfl hl (by decide) rfl (fun ls hl => ?_)
  refine lv_aload_n hx hb dX8_read_15 rfl (lv_at hl 1 rfl) ?_
  refine lv_iload_n hx hb dX8_read_16 rfl (lv_at hl 0 rfl) ?_
  refine lv_if_eq (tgt := 24) hx hb dX8_read_17 (by decide) (fun c7 => ?_) (fun c7 => ?_)
  · have h := ifT h c7
    refine lv_aload_n hx hb dX8_read_24 rfl (lv_at hl 1 rfl) ?_
    refine rC_84_4 F hP dX8_read_25 ?_
    exact key28 r6 (G6 84 4) G6 _ _ hP hS ls (lv_sub hl [1, 0] rfl) h
  · have h := ifF h c7
    refine lv_iconst (v := -1) hx hb dX8_read_20 (by decide) ?_
    refine lv_goto (tgt := 28) hx hb dX8_read_21 (by decide) ?_
    exact key28 r6 (-1 : Int32) G6 _ _ hP hS ls (lv_sub hl [1, 0] rfl) h
def f_X8_orderAt (G : GT) (a1 : Int32) : Option (Nat × GT) := (if a1 < 0 then some (0, G) else (if (nI 12) ≤ a1 then some (0, G) else (if inb a1 12 then some (((G 86 a1.toNatClampNeg).toNatClampNeg), G) else none)))
set_option maxRecDepth 100000 in
set_option maxHeartbeats 4000000 in
theorem q_X8_orderAt (l : Launch) (D : va_G) (Y : Nat → ClassId) (ad : Nat → Nat) (hI : Inj 90 ad) (G : GT) (a1 : Int32) (r : Nat) (G' : GT) (h : f_X8_orderAt G a1 = some (r, G')) : WKq l yX8_orderAt cX8_orderAt 2 (some (.object "TinRoofScore$Order")) 0 D Y 90 ad (kC Y ad) ad G [.ref (ad 84), .int a1] r G' := by
  refine RK_of (ret := (some (.object "TinRoofScore$Order"))) (by decide) (Nat.le_of_ble_eq_true rfl) (lv := [(0, .ref (ad 84)), (1, .int a1)]) rfl ?_
  intro p e s m below meth c ls F hP hK hS hr hk hl
  have F : Fx p c cX8_orderAt 2 s m _ RX8 D Y := F
  have hx := F.1.1
  have hb := F.1.2.1
  have hts := F.1.2.2.2.2
  have hown := F.1.2.2.2.1
  refine lv_iload_n hx hb dX8_orderAt_0 rfl (lv_at hl 1 rfl) ?_
  refine lv_if_lt (tgt := 22) hx hb dX8_orderAt_1 (by decide) (fun c1 => ?_) (fun c1 => ?_)
  · have h := ifT h c1
    refine lv_null hx hb dX8_orderAt_22 ?_
    exact wq_end F hP hS hr hk rfl h dX8_orderAt_23
  · have h := ifF h c1
    refine lv_iload_n hx hb dX8_orderAt_4 rfl (lv_at hl 1 rfl) ?_
    refine lv_aload_n hx hb dX8_orderAt_5 rfl (lv_at hl 0 rfl) ?_
    refine rC_84_1 F hP dX8_orderAt_6 ?_
    refine aleno F hP 86 (wsW_get 86 (by decide)) dX8_orderAt_9 ?_
    refine lv_icmp_ge (tgt := 22) hx hb dX8_orderAt_10 (by decide) (fun c2 => ?_) (fun c2 => ?_)
    · have h := ifT h c2
      refine lv_null hx hb dX8_orderAt_22 ?_
      exact wq_end F hP hS hr hk rfl h dX8_orderAt_23
    · have h := ifF h c2
      refine lv_aload_n hx hb dX8_orderAt_13 rfl (lv_at hl 0 rfl) ?_
      refine rC_84_1 F hP dX8_orderAt_14 ?_
      refine lv_iload_n hx hb dX8_orderAt_17 rfl (lv_at hl 1 rfl) ?_
      obtain ⟨b3, h⟩ := ckS h
      refine aldo F hP 86 (wsW_get 86 (by decide)) (inbV b3 (by decide)) dX8_orderAt_18 ?_
      refine lv_goto (tgt := 23) hx hb dX8_orderAt_19 (by decide) ?_
      exact wq_end F hP hS hr hk rfl h dX8_orderAt_23
def f_X1_verdict (G : GT) (o1 : Nat) (a2 : Int32) (a3 : Int32) (a4 : Int32) : Option (Int32 × GT) := (if o1 = 0 then (bind2 (f_X1_verdictOnBar G a2) fun r21 G21 => some (r21, G21)) else (if o1 = 1 then ((f_X5_keyOf G a2).bind fun r19 => (bind2 (f_X1_verdictOnTin G a2 a3 r19 (11 : Int32)) fun r20 G20 => some (r20, G20))) else (if o1 = 2 then ((f_X5_leakOf G a2).bind fun r17 => (bind2 (f_X1_verdictOnTin G a2 a3 r17 (3 : Int32)) fun r18 G18 => some (r18, G18))) else (if o1 = 3 then (bind2 (f_X1_verdictOnDrop G a2 a3 a4) fun r16 G16 => some (r16, G16)) else (if o1 = 4 then (bind2 (f_X1_verdictOnRest G a2) fun r15 G15 => some (r15, G15)) else (if o1 = 5 then ((f_X5_countOfSounds G ).bind fun r11 => (if r11 ≤ 0 then ((f_X5_countOfBars G ).bind fun r13 => (bind2 (f_X1_refuse G (5 : Int32) r13) fun r14 G14 => some (r14, G14))) else some ((0 : Int32), G))) else (if o1 = 6 then (bind2 (f_X1_verdictOnLimit G a2) fun r10 G10 => some (r10, G10)) else (if o1 = 7 then (bind2 (f_X1_verdictOnTune G a2 a3) fun r9 G9 => some (r9, G9)) else some ((2 : Int32), G)))))))))
set_option maxRecDepth 100000 in
set_option maxHeartbeats 4000000 in
theorem q_X1_verdict (l : Launch) (D : va_G) (Y : Nat → ClassId) (ad : Nat → Nat) (hI : Inj 90 ad) (G : GT) (o1 : Nat) (a2 : Int32) (a3 : Int32) (a4 : Int32) (ho1 : o1 < 8) (r : Int32) (G' : GT) (h : f_X1_verdict G o1 a2 a3 a4 = some (r, G')) : WKi l yX1_verdict cX1_verdict 5 (some .int) 4 D Y 90 ad (kC Y ad) ad G [.ref (ad 78), .ref (ad (100 + o1)), .int a2, .int a3, .int a4] r G' := by
  refine RK_of (ret := (some .int)) (by decide) (Nat.le_of_ble_eq_true rfl) (lv := [(0, .ref (ad 78)), (1, .ref (ad (100 + o1))), (2, .int a2), (3, .int a3), (4, .int a4)]) rfl ?_
  intro p e s m below meth c ls F hP hK hS hr hk hl
  have F : Fx p c cX1_verdict 5 s m _ RX1 D Y := F
  have hx := F.1.1
  have hb := F.1.2.1
  have hts := F.1.2.2.2.2
  have hown := F.1.2.2.2.1
  refine lv_aload_n hx hb dX1_verdict_0 rfl (lv_at hl 1 rfl) ?_
  refine va_gets hx hb (hK.1 0 (by decide)).1 hS hown (hts _ mw_255) (fun _ h => h) dX1_verdict_1 ?_
  refine acmpo (tgt := 13) hK hx hb o1 0 ho1 (by decide) dX1_verdict_4 (by decide) (fun c1 => ?_) (fun c1 => ?_)
  · have h := ifF h c1
    refine lv_aload_n hx hb dX1_verdict_13 rfl (lv_at hl 1 rfl) ?_
    refine va_gets hx hb (hK.1 1 (by decide)).1 hS hown (hts _ mw_271) (fun _ h => h) dX1_verdict_14 ?_
    refine acmpo (tgt := 37) hK hx hb o1 1 ho1 (by decide) dX1_verdict_17 (by decide) (fun c2 => ?_) (fun c2 => ?_)
    · have h := ifF h c2
      refine lv_aload_n hx hb dX1_verdict_37 rfl (lv_at hl 1 rfl) ?_
      refine va_gets hx hb (hK.1 2 (by decide)).1 hS hown (hts _ mw_288) (fun _ h => h) dX1_verdict_38 ?_
      refine acmpo (tgt := 60) hK hx hb o1 2 ho1 (by decide) dX1_verdict_41 (by decide) (fun c3 => ?_) (fun c3 => ?_)
      · have h := ifF h c3
        refine lv_aload_n hx hb dX1_verdict_60 rfl (lv_at hl 1 rfl) ?_
        refine va_gets hx hb (hK.1 3 (by decide)).1 hS hown (hts _ mw_294) (fun _ h => h) dX1_verdict_61 ?_
        refine acmpo (tgt := 76) hK hx hb o1 3 ho1 (by decide) dX1_verdict_64 (by decide) (fun c4 => ?_) (fun c4 => ?_)
        · have h := ifF h c4
          refine lv_aload_n hx hb dX1_verdict_76 rfl (lv_at hl 1 rfl) ?_
          refine va_gets hx hb (hK.1 4 (by decide)).1 hS hown (hts _ mw_320) (fun _ h => h) dX1_verdict_77 ?_
          refine acmpo (tgt := 89) hK hx hb o1 4 ho1 (by decide) dX1_verdict_80 (by decide) (fun c5 => ?_) (fun c5 => ?_)
          · have h := ifF h c5
            refine lv_aload_n hx hb dX1_verdict_89 rfl (lv_at hl 1 rfl) ?_
            refine va_gets hx hb (hK.1 5 (by decide)).1 hS hown (hts _ mw_326) (fun _ h => h) dX1_verdict_90 ?_
            refine acmpo (tgt := 123) hK hx hb o1 5 ho1 (by decide) dX1_verdict_93 (by decide) (fun c6 => ?_) (fun c6 => ?_)
            · have h := ifF h c6
              refine lv_aload_n hx hb dX1_verdict_123 rfl (lv_at hl 1 rfl) ?_
              refine va_gets hx hb (hK.1 6 (by decide)).1 hS hown (hts _ mw_328) (fun _ h => h) dX1_verdict_124 ?_
              refine acmpo (tgt := 136) hK hx hb o1 6 ho1 (by decide) dX1_verdict_127 (by decide) (fun c7 => ?_) (fun c7 => ?_)
              · have h := ifF h c7
                refine lv_aload_n hx hb dX1_verdict_136 rfl (lv_at hl 1 rfl) ?_
                refine va_gets hx hb (hK.1 7 (by decide)).1 hS hown (hts _ mw_338) (fun _ h => h) dX1_verdict_137 ?_
                refine acmpo (tgt := 150) hK hx hb o1 7 ho1 (by decide) dX1_verdict_140 (by decide) (fun c8 => ?_) (fun c8 => ?_)
                · have h := ifF h c8
                  refine lv_iconst (v := 2) hx hb dX1_verdict_150 (by decide) ?_
                  exact wr_end F hP hS hr hk rfl h dX1_verdict_151
                · have h := ifT h c8
                  refine lv_aload_n hx hb dX1_verdict_143 rfl (lv_at hl 0 rfl) ?_
                  refine lv_iload_n hx hb dX1_verdict_144 rfl (lv_at hl 2 rfl) ?_
                  refine lv_iload_n hx hb dX1_verdict_145 rfl (lv_at hl 3 rfl) ?_
                  obtain ⟨r9, G9, e9, h⟩ := bsome2 h
                  refine wr_V F hP hS k_X1_verdictOnTune mw_340 78 3 rfl (wsW_get 78 (by decide)) (q_X1_verdictOnTune l D Y ad hI G a2 a3 r9 G9 e9) rfl hl.1 ⟨Nat.le_of_ble_eq_true rfl, Nat.le_of_ble_eq_true rfl⟩ (rest := []) rfl (Nat.le_of_ble_eq_true rfl) ⟨Nat.le_of_ble_eq_true rfl, Nat.le_of_ble_eq_true rfl⟩ dX1_verdict_146 (fun H locs o9 hP hS => ?_)
                  exact wr_end F hP hS hr hk rfl h dX1_verdict_149
              · have h := ifT h c7
                refine lv_aload_n hx hb dX1_verdict_130 rfl (lv_at hl 0 rfl) ?_
                refine lv_iload_n hx hb dX1_verdict_131 rfl (lv_at hl 2 rfl) ?_
                obtain ⟨r10, G10, e10, h⟩ := bsome2 h
                refine wr_V F hP hS k_X1_verdictOnLimit mw_330 78 3 rfl (wsW_get 78 (by decide)) (q_X1_verdictOnLimit l D Y ad hI G a2 r10 G10 e10) rfl hl.1 ⟨Nat.le_of_ble_eq_true rfl, Nat.le_of_ble_eq_true rfl⟩ (rest := []) rfl (Nat.le_of_ble_eq_true rfl) ⟨Nat.le_of_ble_eq_true rfl, Nat.le_of_ble_eq_true rfl⟩ dX1_verdict_132 (fun H locs o10 hP hS => ?_)
                exact wr_end F hP hS hr hk rfl h dX1_verdict_135
            · have h := ifT h c6
              refine lv_aload_n hx hb dX1_verdict_96 rfl (lv_at hl 0 rfl) ?_
              refine rC_78_0 F hP dX1_verdict_97 ?_
              obtain ⟨r11, e11, h⟩ := bsome h
              refine rd_VN F hP k_X5_countOfSounds mw_304 0 6 rfl (wsW_get 0 (by decide)) (q_X5_countOfSounds l D Y ad G  r11 e11) rfl hl.1 ⟨Nat.le_of_ble_eq_true rfl, Nat.le_of_ble_eq_true rfl⟩ (rest := []) rfl (Nat.le_of_ble_eq_true rfl) ⟨Nat.le_of_ble_eq_true rfl, Nat.le_of_ble_eq_true rfl⟩ dX1_verdict_100 (fun o11 => ?_)
              refine lv_if_le (tgt := 110) hx hb dX1_verdict_103 (by decide) (fun c12 => ?_) (fun c12 => ?_)
              · have h := ifT h c12
                refine lv_aload_n hx hb dX1_verdict_110 rfl (lv_at hl 0 rfl) ?_
                refine lv_iconst (v := 5) hx hb dX1_verdict_111 (by decide) ?_
                refine lv_aload_n hx hb dX1_verdict_112 rfl (lv_at hl 0 rfl) ?_
                refine rC_78_0 F hP dX1_verdict_113 ?_
                obtain ⟨r13, e13, h⟩ := bsome h
                refine rd_VN F hP k_X5_countOfBars mw_263 0 6 rfl (wsW_get 0 (by decide)) (q_X5_countOfBars l D Y ad G  r13 e13) rfl hl.1 ⟨Nat.le_of_ble_eq_true rfl, Nat.le_of_ble_eq_true rfl⟩ (rest := [.int ((5 : Int32)), .ref (ad 78)]) rfl (Nat.le_of_ble_eq_true rfl) ⟨Nat.le_of_ble_eq_true rfl, Nat.le_of_ble_eq_true rfl⟩ dX1_verdict_116 (fun o13 => ?_)
                obtain ⟨r14, G14, e14, h⟩ := bsome2 h
                refine wr_V F hP hS k_X1_refuse mw_267 78 3 rfl (wsW_get 78 (by decide)) (q_X1_refuse l D Y ad hI G (5 : Int32) r13 r14 G14 e14) rfl hl.1 ⟨Nat.le_of_ble_eq_true rfl, Nat.le_of_ble_eq_true rfl⟩ (rest := []) rfl (Nat.le_of_ble_eq_true rfl) ⟨Nat.le_of_ble_eq_true rfl, Nat.le_of_ble_eq_true rfl⟩ dX1_verdict_119 (fun H locs o14 hP hS => ?_)
                exact wr_end F hP hS hr hk rfl h dX1_verdict_122
              · have h := ifF h c12
                refine lv_iconst (v := 0) hx hb dX1_verdict_106 (by decide) ?_
                refine lv_goto (tgt := 122) hx hb dX1_verdict_107 (by decide) ?_
                exact wr_end F hP hS hr hk rfl h dX1_verdict_122
          · have h := ifT h c5
            refine lv_aload_n hx hb dX1_verdict_83 rfl (lv_at hl 0 rfl) ?_
            refine lv_iload_n hx hb dX1_verdict_84 rfl (lv_at hl 2 rfl) ?_
            obtain ⟨r15, G15, e15, h⟩ := bsome2 h
            refine wr_V F hP hS k_X1_verdictOnRest mw_322 78 3 rfl (wsW_get 78 (by decide)) (q_X1_verdictOnRest l D Y ad hI G a2 r15 G15 e15) rfl hl.1 ⟨Nat.le_of_ble_eq_true rfl, Nat.le_of_ble_eq_true rfl⟩ (rest := []) rfl (Nat.le_of_ble_eq_true rfl) ⟨Nat.le_of_ble_eq_true rfl, Nat.le_of_ble_eq_true rfl⟩ dX1_verdict_85 (fun H locs o15 hP hS => ?_)
            exact wr_end F hP hS hr hk rfl h dX1_verdict_88
        · have h := ifT h c4
          refine lv_aload_n hx hb dX1_verdict_67 rfl (lv_at hl 0 rfl) ?_
          refine lv_iload_n hx hb dX1_verdict_68 rfl (lv_at hl 2 rfl) ?_
          refine lv_iload_n hx hb dX1_verdict_69 rfl (lv_at hl 3 rfl) ?_
          refine lv_iload hx hb dX1_verdict_70 (lv_at hl 4 rfl) ?_
          obtain ⟨r16, G16, e16, h⟩ := bsome2 h
          refine wr_V F hP hS k_X1_verdictOnDrop mw_296 78 3 rfl (wsW_get 78 (by decide)) (q_X1_verdictOnDrop l D Y ad hI G a2 a3 a4 r16 G16 e16) rfl hl.1 ⟨Nat.le_of_ble_eq_true rfl, Nat.le_of_ble_eq_true rfl⟩ (rest := []) rfl (Nat.le_of_ble_eq_true rfl) ⟨Nat.le_of_ble_eq_true rfl, Nat.le_of_ble_eq_true rfl⟩ dX1_verdict_72 (fun H locs o16 hP hS => ?_)
          exact wr_end F hP hS hr hk rfl h dX1_verdict_75
      · have h := ifT h c3
        refine lv_aload_n hx hb dX1_verdict_44 rfl (lv_at hl 0 rfl) ?_
        refine lv_iload_n hx hb dX1_verdict_45 rfl (lv_at hl 2 rfl) ?_
        refine lv_iload_n hx hb dX1_verdict_46 rfl (lv_at hl 3 rfl) ?_
        refine lv_aload_n hx hb dX1_verdict_47 rfl (lv_at hl 0 rfl) ?_
        refine rC_78_0 F hP dX1_verdict_48 ?_
        refine lv_iload_n hx hb dX1_verdict_51 rfl (lv_at hl 2 rfl) ?_
        obtain ⟨r17, e17, h⟩ := bsome h
        refine rd_VN F hP k_X5_leakOf mw_290 0 6 rfl (wsW_get 0 (by decide)) (q_X5_leakOf l D Y ad G a2 r17 e17) rfl hl.1 ⟨Nat.le_of_ble_eq_true rfl, Nat.le_of_ble_eq_true rfl⟩ (rest := [.int a3, .int a2, .ref (ad 78)]) rfl (Nat.le_of_ble_eq_true rfl) ⟨Nat.le_of_ble_eq_true rfl, Nat.le_of_ble_eq_true rfl⟩ dX1_verdict_52 (fun o17 => ?_)
        refine lv_iconst (v := 3) hx hb dX1_verdict_55 (by decide) ?_
        obtain ⟨r18, G18, e18, h⟩ := bsome2 h
        refine wr_V F hP hS k_X1_verdictOnTin mw_280 78 3 rfl (wsW_get 78 (by decide)) (q_X1_verdictOnTin l D Y ad hI G a2 a3 r17 (3 : Int32) r18 G18 e18) rfl hl.1 ⟨Nat.le_of_ble_eq_true rfl, Nat.le_of_ble_eq_true rfl⟩ (rest := []) rfl (Nat.le_of_ble_eq_true rfl) ⟨Nat.le_of_ble_eq_true rfl, Nat.le_of_ble_eq_true rfl⟩ dX1_verdict_56 (fun H locs o18 hP hS => ?_)
        exact wr_end F hP hS hr hk rfl h dX1_verdict_59
    · have h := ifT h c2
      refine lv_aload_n hx hb dX1_verdict_20 rfl (lv_at hl 0 rfl) ?_
      refine lv_iload_n hx hb dX1_verdict_21 rfl (lv_at hl 2 rfl) ?_
      refine lv_iload_n hx hb dX1_verdict_22 rfl (lv_at hl 3 rfl) ?_
      refine lv_aload_n hx hb dX1_verdict_23 rfl (lv_at hl 0 rfl) ?_
      refine rC_78_0 F hP dX1_verdict_24 ?_
      refine lv_iload_n hx hb dX1_verdict_27 rfl (lv_at hl 2 rfl) ?_
      obtain ⟨r19, e19, h⟩ := bsome h
      refine rd_VN F hP k_X5_keyOf mw_273 0 6 rfl (wsW_get 0 (by decide)) (q_X5_keyOf l D Y ad G a2 r19 e19) rfl hl.1 ⟨Nat.le_of_ble_eq_true rfl, Nat.le_of_ble_eq_true rfl⟩ (rest := [.int a3, .int a2, .ref (ad 78)]) rfl (Nat.le_of_ble_eq_true rfl) ⟨Nat.le_of_ble_eq_true rfl, Nat.le_of_ble_eq_true rfl⟩ dX1_verdict_28 (fun o19 => ?_)
      refine lv_bipush (v := 11) hx hb dX1_verdict_31 (by decide) ?_
      obtain ⟨r20, G20, e20, h⟩ := bsome2 h
      refine wr_V F hP hS k_X1_verdictOnTin mw_280 78 3 rfl (wsW_get 78 (by decide)) (q_X1_verdictOnTin l D Y ad hI G a2 a3 r19 (11 : Int32) r20 G20 e20) rfl hl.1 ⟨Nat.le_of_ble_eq_true rfl, Nat.le_of_ble_eq_true rfl⟩ (rest := []) rfl (Nat.le_of_ble_eq_true rfl) ⟨Nat.le_of_ble_eq_true rfl, Nat.le_of_ble_eq_true rfl⟩ dX1_verdict_33 (fun H locs o20 hP hS => ?_)
      exact wr_end F hP hS hr hk rfl h dX1_verdict_36
  · have h := ifT h c1
    refine lv_aload_n hx hb dX1_verdict_7 rfl (lv_at hl 0 rfl) ?_
    refine lv_iload_n hx hb dX1_verdict_8 rfl (lv_at hl 2 rfl) ?_
    obtain ⟨r21, G21, e21, h⟩ := bsome2 h
    refine wr_V F hP hS k_X1_verdictOnBar mw_256 78 3 rfl (wsW_get 78 (by decide)) (q_X1_verdictOnBar l D Y ad hI G a2 r21 G21 e21) rfl hl.1 ⟨Nat.le_of_ble_eq_true rfl, Nat.le_of_ble_eq_true rfl⟩ (rest := []) rfl (Nat.le_of_ble_eq_true rfl) ⟨Nat.le_of_ble_eq_true rfl, Nat.le_of_ble_eq_true rfl⟩ dX1_verdict_9 (fun H locs o21 hP hS => ?_)
    exact wr_end F hP hS hr hk rfl h dX1_verdict_12
def f_X1_carryOut (G : GT) (o1 : Nat) (a2 : Int32) (a3 : Int32) (a4 : Int32) : Option (Int32 × GT) := (if o1 = 0 then (bind2 (f_X5_addBar G a2) fun r16 G16 => some (r16, G16)) else (if o1 = 1 then (bind2 (f_X5_setKey G a2 a3) fun r15 G15 => some (r15, G15)) else (if o1 = 2 then (bind2 (f_X5_setLeak G a2 a3) fun r14 G14 => some (r14, G14)) else (if o1 = 3 then (bind2 (f_X5_addSound G a2 a3 a4) fun r13 G13 => some (r13, G13)) else (if o1 = 4 then ((f_X5_leakOf G a2).bind fun r11 => (bind2 (f_X5_addSound G a2 (-1 : Int32) r11) fun r12 G12 => some (r12, G12))) else (if o1 = 5 then (bind2 (f_X5_takeLast G ) fun r10 G10 => some (r10, G10)) else (if o1 = 6 then (bind2 (f_X5_setFarthest G a2) fun r9 G9 => some (r9, G9)) else (bind2 (f_X5_setHeight G a2 a3) fun r8 G8 => some (r8, G8)))))))))
set_option maxRecDepth 100000 in
set_option maxHeartbeats 4000000 in
theorem q_X1_carryOut (l : Launch) (D : va_G) (Y : Nat → ClassId) (ad : Nat → Nat) (hI : Inj 90 ad) (G : GT) (o1 : Nat) (a2 : Int32) (a3 : Int32) (a4 : Int32) (ho1 : o1 < 8) (r : Int32) (G' : GT) (h : f_X1_carryOut G o1 a2 a3 a4 = some (r, G')) : WKi l yX1_carryOut cX1_carryOut 5 (some .int) 3 D Y 90 ad (kC Y ad) ad G [.ref (ad 78), .ref (ad (100 + o1)), .int a2, .int a3, .int a4] r G' := by
  refine RK_of (ret := (some .int)) (by decide) (Nat.le_of_ble_eq_true rfl) (lv := [(0, .ref (ad 78)), (1, .ref (ad (100 + o1))), (2, .int a2), (3, .int a3), (4, .int a4)]) rfl ?_
  intro p e s m below meth c ls F hP hK hS hr hk hl
  have F : Fx p c cX1_carryOut 5 s m _ RX1 D Y := F
  have hx := F.1.1
  have hb := F.1.2.1
  have hts := F.1.2.2.2.2
  have hown := F.1.2.2.2.1
  refine lv_aload_n hx hb dX1_carryOut_0 rfl (lv_at hl 1 rfl) ?_
  refine va_gets hx hb (hK.1 0 (by decide)).1 hS hown (hts _ mw_255) (fun _ h => h) dX1_carryOut_1 ?_
  refine acmpo (tgt := 16) hK hx hb o1 0 ho1 (by decide) dX1_carryOut_4 (by decide) (fun c1 => ?_) (fun c1 => ?_)
  · have h := ifF h c1
    refine lv_aload_n hx hb dX1_carryOut_16 rfl (lv_at hl 1 rfl) ?_
    refine va_gets hx hb (hK.1 1 (by decide)).1 hS hown (hts _ mw_271) (fun _ h => h) dX1_carryOut_17 ?_
    refine acmpo (tgt := 33) hK hx hb o1 1 ho1 (by decide) dX1_carryOut_20 (by decide) (fun c2 => ?_) (fun c2 => ?_)
    · have h := ifF h c2
      refine lv_aload_n hx hb dX1_carryOut_33 rfl (lv_at hl 1 rfl) ?_
      refine va_gets hx hb (hK.1 2 (by decide)).1 hS hown (hts _ mw_288) (fun _ h => h) dX1_carryOut_34 ?_
      refine acmpo (tgt := 50) hK hx hb o1 2 ho1 (by decide) dX1_carryOut_37 (by decide) (fun c3 => ?_) (fun c3 => ?_)
      · have h := ifF h c3
        refine lv_aload_n hx hb dX1_carryOut_50 rfl (lv_at hl 1 rfl) ?_
        refine va_gets hx hb (hK.1 3 (by decide)).1 hS hown (hts _ mw_294) (fun _ h => h) dX1_carryOut_51 ?_
        refine acmpo (tgt := 69) hK hx hb o1 3 ho1 (by decide) dX1_carryOut_54 (by decide) (fun c4 => ?_) (fun c4 => ?_)
        · have h := ifF h c4
          refine lv_aload_n hx hb dX1_carryOut_69 rfl (lv_at hl 1 rfl) ?_
          refine va_gets hx hb (hK.1 4 (by decide)).1 hS hown (hts _ mw_320) (fun _ h => h) dX1_carryOut_70 ?_
          refine acmpo (tgt := 94) hK hx hb o1 4 ho1 (by decide) dX1_carryOut_73 (by decide) (fun c5 => ?_) (fun c5 => ?_)
          · have h := ifF h c5
            refine lv_aload_n hx hb dX1_carryOut_94 rfl (lv_at hl 1 rfl) ?_
            refine va_gets hx hb (hK.1 5 (by decide)).1 hS hown (hts _ mw_326) (fun _ h => h) dX1_carryOut_95 ?_
            refine acmpo (tgt := 109) hK hx hb o1 5 ho1 (by decide) dX1_carryOut_98 (by decide) (fun c6 => ?_) (fun c6 => ?_)
            · have h := ifF h c6
              refine lv_aload_n hx hb dX1_carryOut_109 rfl (lv_at hl 1 rfl) ?_
              refine va_gets hx hb (hK.1 6 (by decide)).1 hS hown (hts _ mw_328) (fun _ h => h) dX1_carryOut_110 ?_
              refine acmpo (tgt := 125) hK hx hb o1 6 ho1 (by decide) dX1_carryOut_113 (by decide) (fun c7 => ?_) (fun c7 => ?_)
              · have h := ifF h c7
                refine lv_aload_n hx hb dX1_carryOut_125 rfl (lv_at hl 0 rfl) ?_
                refine rC_78_0 F hP dX1_carryOut_126 ?_
                refine lv_iload_n hx hb dX1_carryOut_129 rfl (lv_at hl 2 rfl) ?_
                refine lv_iload_n hx hb dX1_carryOut_130 rfl (lv_at hl 3 rfl) ?_
                obtain ⟨r8, G8, e8, h⟩ := bsome2 h
                refine wr_VN F hP hS k_X5_setHeight mw_525 0 6 rfl (wsW_get 0 (by decide)) (q_X5_setHeight l D Y ad hI G a2 a3 r8 G8 e8) rfl hl.1 ⟨Nat.le_of_ble_eq_true rfl, Nat.le_of_ble_eq_true rfl⟩ (rest := []) rfl (Nat.le_of_ble_eq_true rfl) ⟨Nat.le_of_ble_eq_true rfl, Nat.le_of_ble_eq_true rfl⟩ dX1_carryOut_131 (fun H locs o8 hP hS => ?_)
                exact wr_end F hP hS hr hk rfl h dX1_carryOut_134
              · have h := ifT h c7
                refine lv_aload_n hx hb dX1_carryOut_116 rfl (lv_at hl 0 rfl) ?_
                refine rC_78_0 F hP dX1_carryOut_117 ?_
                refine lv_iload_n hx hb dX1_carryOut_120 rfl (lv_at hl 2 rfl) ?_
                obtain ⟨r9, G9, e9, h⟩ := bsome2 h
                refine wr_VN F hP hS k_X5_setFarthest mw_521 0 6 rfl (wsW_get 0 (by decide)) (q_X5_setFarthest l D Y ad hI G a2 r9 G9 e9) rfl hl.1 ⟨Nat.le_of_ble_eq_true rfl, Nat.le_of_ble_eq_true rfl⟩ (rest := []) rfl (Nat.le_of_ble_eq_true rfl) ⟨Nat.le_of_ble_eq_true rfl, Nat.le_of_ble_eq_true rfl⟩ dX1_carryOut_121 (fun H locs o9 hP hS => ?_)
                exact wr_end F hP hS hr hk rfl h dX1_carryOut_124
            · have h := ifT h c6
              refine lv_aload_n hx hb dX1_carryOut_101 rfl (lv_at hl 0 rfl) ?_
              refine rC_78_0 F hP dX1_carryOut_102 ?_
              obtain ⟨r10, G10, e10, h⟩ := bsome2 h
              refine wr_VN F hP hS k_X5_takeLast mw_517 0 6 rfl (wsW_get 0 (by decide)) (q_X5_takeLast l D Y ad hI G  r10 G10 e10) rfl hl.1 ⟨Nat.le_of_ble_eq_true rfl, Nat.le_of_ble_eq_true rfl⟩ (rest := []) rfl (Nat.le_of_ble_eq_true rfl) ⟨Nat.le_of_ble_eq_true rfl, Nat.le_of_ble_eq_true rfl⟩ dX1_carryOut_105 (fun H locs o10 hP hS => ?_)
              exact wr_end F hP hS hr hk rfl h dX1_carryOut_108
          · have h := ifT h c5
            refine lv_aload_n hx hb dX1_carryOut_76 rfl (lv_at hl 0 rfl) ?_
            refine rC_78_0 F hP dX1_carryOut_77 ?_
            refine lv_iload_n hx hb dX1_carryOut_80 rfl (lv_at hl 2 rfl) ?_
            refine lv_iconst (v := -1) hx hb dX1_carryOut_81 (by decide) ?_
            refine lv_aload_n hx hb dX1_carryOut_82 rfl (lv_at hl 0 rfl) ?_
            refine rC_78_0 F hP dX1_carryOut_83 ?_
            refine lv_iload_n hx hb dX1_carryOut_86 rfl (lv_at hl 2 rfl) ?_
            obtain ⟨r11, e11, h⟩ := bsome h
            refine rd_VN F hP k_X5_leakOf mw_290 0 6 rfl (wsW_get 0 (by decide)) (q_X5_leakOf l D Y ad G a2 r11 e11) rfl hl.1 ⟨Nat.le_of_ble_eq_true rfl, Nat.le_of_ble_eq_true rfl⟩ (rest := [.int ((-1 : Int32)), .int a2, .ref (ad 0)]) rfl (Nat.le_of_ble_eq_true rfl) ⟨Nat.le_of_ble_eq_true rfl, Nat.le_of_ble_eq_true rfl⟩ dX1_carryOut_87 (fun o11 => ?_)
            obtain ⟨r12, G12, e12, h⟩ := bsome2 h
            refine wr_VN F hP hS k_X5_addSound mw_513 0 6 rfl (wsW_get 0 (by decide)) (q_X5_addSound l D Y ad hI G a2 (-1 : Int32) r11 r12 G12 e12) rfl hl.1 ⟨Nat.le_of_ble_eq_true rfl, Nat.le_of_ble_eq_true rfl⟩ (rest := []) rfl (Nat.le_of_ble_eq_true rfl) ⟨Nat.le_of_ble_eq_true rfl, Nat.le_of_ble_eq_true rfl⟩ dX1_carryOut_90 (fun H locs o12 hP hS => ?_)
            exact wr_end F hP hS hr hk rfl h dX1_carryOut_93
        · have h := ifT h c4
          refine lv_aload_n hx hb dX1_carryOut_57 rfl (lv_at hl 0 rfl) ?_
          refine rC_78_0 F hP dX1_carryOut_58 ?_
          refine lv_iload_n hx hb dX1_carryOut_61 rfl (lv_at hl 2 rfl) ?_
          refine lv_iload_n hx hb dX1_carryOut_62 rfl (lv_at hl 3 rfl) ?_
          refine lv_iload hx hb dX1_carryOut_63 (lv_at hl 4 rfl) ?_
          obtain ⟨r13, G13, e13, h⟩ := bsome2 h
          refine wr_VN F hP hS k_X5_addSound mw_513 0 6 rfl (wsW_get 0 (by decide)) (q_X5_addSound l D Y ad hI G a2 a3 a4 r13 G13 e13) rfl hl.1 ⟨Nat.le_of_ble_eq_true rfl, Nat.le_of_ble_eq_true rfl⟩ (rest := []) rfl (Nat.le_of_ble_eq_true rfl) ⟨Nat.le_of_ble_eq_true rfl, Nat.le_of_ble_eq_true rfl⟩ dX1_carryOut_65 (fun H locs o13 hP hS => ?_)
          exact wr_end F hP hS hr hk rfl h dX1_carryOut_68
      · have h := ifT h c3
        refine lv_aload_n hx hb dX1_carryOut_40 rfl (lv_at hl 0 rfl) ?_
        refine rC_78_0 F hP dX1_carryOut_41 ?_
        refine lv_iload_n hx hb dX1_carryOut_44 rfl (lv_at hl 2 rfl) ?_
        refine lv_iload_n hx hb dX1_carryOut_45 rfl (lv_at hl 3 rfl) ?_
        obtain ⟨r14, G14, e14, h⟩ := bsome2 h
        refine wr_VN F hP hS k_X5_setLeak mw_509 0 6 rfl (wsW_get 0 (by decide)) (q_X5_setLeak l D Y ad hI G a2 a3 r14 G14 e14) rfl hl.1 ⟨Nat.le_of_ble_eq_true rfl, Nat.le_of_ble_eq_true rfl⟩ (rest := []) rfl (Nat.le_of_ble_eq_true rfl) ⟨Nat.le_of_ble_eq_true rfl, Nat.le_of_ble_eq_true rfl⟩ dX1_carryOut_46 (fun H locs o14 hP hS => ?_)
        exact wr_end F hP hS hr hk rfl h dX1_carryOut_49
    · have h := ifT h c2
      refine lv_aload_n hx hb dX1_carryOut_23 rfl (lv_at hl 0 rfl) ?_
      refine rC_78_0 F hP dX1_carryOut_24 ?_
      refine lv_iload_n hx hb dX1_carryOut_27 rfl (lv_at hl 2 rfl) ?_
      refine lv_iload_n hx hb dX1_carryOut_28 rfl (lv_at hl 3 rfl) ?_
      obtain ⟨r15, G15, e15, h⟩ := bsome2 h
      refine wr_VN F hP hS k_X5_setKey mw_505 0 6 rfl (wsW_get 0 (by decide)) (q_X5_setKey l D Y ad hI G a2 a3 r15 G15 e15) rfl hl.1 ⟨Nat.le_of_ble_eq_true rfl, Nat.le_of_ble_eq_true rfl⟩ (rest := []) rfl (Nat.le_of_ble_eq_true rfl) ⟨Nat.le_of_ble_eq_true rfl, Nat.le_of_ble_eq_true rfl⟩ dX1_carryOut_29 (fun H locs o15 hP hS => ?_)
      exact wr_end F hP hS hr hk rfl h dX1_carryOut_32
  · have h := ifT h c1
    refine lv_aload_n hx hb dX1_carryOut_7 rfl (lv_at hl 0 rfl) ?_
    refine rC_78_0 F hP dX1_carryOut_8 ?_
    refine lv_iload_n hx hb dX1_carryOut_11 rfl (lv_at hl 2 rfl) ?_
    obtain ⟨r16, G16, e16, h⟩ := bsome2 h
    refine wr_VN F hP hS k_X5_addBar mw_500 0 6 rfl (wsW_get 0 (by decide)) (q_X5_addBar l D Y ad hI G a2 r16 G16 e16) rfl hl.1 ⟨Nat.le_of_ble_eq_true rfl, Nat.le_of_ble_eq_true rfl⟩ (rest := []) rfl (Nat.le_of_ble_eq_true rfl) ⟨Nat.le_of_ble_eq_true rfl, Nat.le_of_ble_eq_true rfl⟩ dX1_carryOut_12 (fun H locs o16 hP hS => ?_)
    exact wr_end F hP hS hr hk rfl h dX1_carryOut_15
