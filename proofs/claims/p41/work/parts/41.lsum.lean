theorem mw_235 : Cond.constant "TinRoofScoreLaw" (7 : Nat) (40503 : Int32) ∈ LW := LWm (tb1 (List.mem_of_getElem? (i := 235) (by decide +kernel))) rfl
theorem mw_1417 : Cond.constantLong "TinRoofScoreLaw" (296 : Nat) (7 : Int64) ∈ LW := LWm (tb6 (List.mem_of_getElem? (i := 217) (by decide +kernel))) rfl
theorem mw_1418 : Cond.constantLong "TinRoofScoreLaw" (298 : Nat) (31 : Int64) ∈ LW := LWm (tb6 (List.mem_of_getElem? (i := 218) (by decide +kernel))) rfl
theorem mw_1419 : Cond.constantLong "TinRoofScoreLaw" (300 : Nat) (37 : Int64) ∈ LW := LWm (tb6 (List.mem_of_getElem? (i := 219) (by decide +kernel))) rfl
theorem mw_1420 : Cond.constantLong "TinRoofScoreLaw" (302 : Nat) (41 : Int64) ∈ LW := LWm (tb6 (List.mem_of_getElem? (i := 220) (by decide +kernel))) rfl
theorem mw_1421 : Cond.constantLong "TinRoofScoreLaw" (304 : Nat) (43 : Int64) ∈ LW := LWm (tb6 (List.mem_of_getElem? (i := 221) (by decide +kernel))) rfl
def f_L_sum_102 (n : Nat) (G : GT) (y_g1 : Int64) (y_x3 : Int32) : Option (Int64 × GT) := lq3 (fun (k102 : GT → Int64 → Int32 → Option (Int64 × GT)) (G : GT) (g1 : Int64) (x3 : Int32) => (bindR (f_X9_account G (0 : Int32)) fun r1 G1 => (if r1 ≤ x3 then some (g1, G1) else (bind2 (fw_barOf G1 x3 (0 : Int32)) fun r3 G3 => k102 G3 (((43 : Int64) * g1) + (r3.toInt64)) (x3 + 1))))) n G y_g1 y_x3
def f_L_sum_70 (n : Nat) (G : GT) (y_g1 : Int64) (y_x3 : Int32) : Option (Int64 × GT) := lq3 (fun (k70 : GT → Int64 → Int32 → Option (Int64 × GT)) (G : GT) (g1 : Int64) (x3 : Int32) => (if (8 : Int32) ≤ x3 then f_L_sum_102 7 G g1 (0 : Int32) else (bind2 (fw_tinOf G (x3 / (2 : Int32)) (x3 - x3 / (2 : Int32) * (2 : Int32))) fun r5 G5 => k70 G5 (((41 : Int64) * g1) + (r5.toInt64)) (x3 + 1)))) n G y_g1 y_x3
def f_L_sum_33 (n : Nat) (G : GT) (y_g1 : Int64) (y_x3 : Int32) : Option (Int64 × GT) := lq3 (fun (k33 : GT → Int64 → Int32 → Option (Int64 × GT)) (G : GT) (g1 : Int64) (x3 : Int32) => (bindR (f_X9_account G (3 : Int32)) fun r6 G6 => (if ((3 : Int32) * r6) ≤ x3 then f_L_sum_70 9 G6 g1 (0 : Int32) else (bind2 (fw_of G6 (x3 / (3 : Int32)) (x3 - x3 / (3 : Int32) * (3 : Int32))) fun r8 G8 => k33 G8 (((37 : Int64) * g1) + (r8.toInt64)) (x3 + 1))))) n G y_g1 y_x3
def f_L_sum_6 (n : Nat) (G : GT) (y_g1 : Int64) (y_x3 : Int32) : Option (Int64 × GT) := lq3 (fun (k6 : GT → Int64 → Int32 → Option (Int64 × GT)) (G : GT) (g1 : Int64) (x3 : Int32) => (if (10 : Int32) ≤ x3 then f_L_sum_33 49 G g1 (0 : Int32) else (bindR (f_X9_account G x3) fun r10 G10 => k6 G10 (((31 : Int64) * g1) + (r10.toInt64)) (x3 + 1)))) n G y_g1 y_x3
def f_L_sum (G : GT) : Option (Int64 × GT) := f_L_sum_6 11 G (7 : Int64) (0 : Int32)
set_option maxRecDepth 100000 in
set_option maxHeartbeats 8000000 in
theorem q_L_sum (l : Launch) (hst : l.stackTraces = false) (D : va_G) (Y : Nat → ClassId) (ad : Nat → Nat) (hI : Inj 90 ad) (G : GT) (r : Int64) (G' : GT) (h : f_L_sum G   = some (r, G')) : LM l yL_sum cL_sum 4 (some .long) 11 197 D Y ad G Ph0 [.ref (ad 77)] (PL r D Y ad G') := by
  refine LM_of (ret := (some .long)) (by decide) (Nat.le_of_ble_eq_true rfl) (lv := [(0, .ref (ad 77))]) rfl ?_
  intro p ev s m below meth c ls F hP hK hE hΦ hS hr hk hl hB
  have F : Fx p c cL_sum 4 s m _ RL D Y := F
  have hx := F.1.1
  have hb := F.1.2.1
  have hts := F.1.2.2.2.2
  have hown := F.1.2.2.2.1
  have key102 : ∀ (n : Nat) (G : GT) (g1 : Int64) (x3 : Int32) (H : Heap) (locs : List Loc) (cells slots : Nat), va_P D vwCl (wsC Y ad G) H → va_S (AW 90 ad) s.heap H locs → Bg 197 cells slots (n * 3 + 0) → ∀ ls : Array Slot, lv_has ls 4 [(0, .ref (ad 77)), (1, .long g1), (3, .int x3)] → f_L_sum_102    n G g1 x3 = some (r, G') → W p l ev (rmD 11 197 (16 * 197)) s m ([.ref (ad 77)] : List Value).toArray below meth c H locs cells slots (MQ below (LQ (PL r D Y ad G') (AW 90 ad)) ([.ref (ad 77)] : List Value).toArray s 197 (16 * 197) (AW 90 ad)) (F0 m 102 ls []) := by
    intro n
    induction n with
    | zero => intro G g1 x3  H locs cells slots  hP hS  hB ls hl h; exact lqZ3 h
    | succ n102 ih102 =>
      intro G g1 x3  H locs cells slots  hP hS  hB ls hl h
      have h := lqS3 h
      refine lv_iload_n hx hb dL_sum_102 rfl (lv_at hl 2 rfl) ?_
      refine lv_aload_n hx hb dL_sum_103 rfl (lv_at hl 0 rfl) ?_
      refine lv_iconst (v := 0) hx hb dL_sum_104 (by decide) ?_
      obtain ⟨r1, G1, e1, h⟩ := bR h
      refine lx_V (B' := (n102 * 3 + 2)) F hP hK hS hB k_X9_account mw_621 rfl (q_X9_account l hst D Y ad hI G (0 : Int32) (.inr r1) G1 e1) rfl hl.1 ⟨Nat.le_of_ble_eq_true rfl, Nat.le_of_ble_eq_true rfl⟩ (rest := [.int x3]) rfl (Nat.le_of_ble_eq_true rfl) (by omega) dL_sum_105 (fun H locs cells slots o1 hP hS hkp hB => ?_)
      refine lv_icmp_ge (tgt := 131) hx hb dL_sum_108 (by decide) (fun c2 => ?_) (fun c2 => ?_)
      · have h := ifT h c2
        refine lv_lload_n hx hb dL_sum_131 rfl (lv_at hl 1 rfl) ?_
        exact lm_endl F hP hS hB hr hk h dL_sum_132
      · have h := ifF h c2
        refine lv_ldc2 (v := 43) hx hb hown (hts _ mw_1421) dL_sum_111 ?_
        refine lv_lload_n hx hb dL_sum_114 rfl (lv_at hl 1 rfl) ?_
        refine lv_lmul hx hb dL_sum_115 ?_
        refine lv_aload_n hx hb dL_sum_116 rfl (lv_at hl 0 rfl) ?_
        refine lv_iload_n hx hb dL_sum_117 rfl (lv_at hl 2 rfl) ?_
        refine lv_iconst (v := 0) hx hb dL_sum_118 (by decide) ?_
        obtain ⟨r3, G3, e3, h⟩ := bsome2 h
        refine lh_i (B' := (n102 * 3 + 0)) F hP hK hE hS hB kl_barOf mw_735 (ql_barOf l hst D Y ad hI G1 x3 (0 : Int32) r3 G3 e3) rfl hl.1 ⟨Nat.le_of_ble_eq_true rfl, Nat.le_of_ble_eq_true rfl⟩ (rest := [.long ((43 : Int64) * g1)]) rfl (Nat.le_of_ble_eq_true rfl) (by omega) dL_sum_119 (fun H locs cells slots hP hS hkp hB => ?_)
        refine lv_i2l (v := r3.toInt64) hx hb dL_sum_122 rfl ?_
        refine lv_ladd hx hb dL_sum_123 ?_
        refine lv_lstore_n (lv' := [(1, .long (((43 : Int64) * g1) + (r3.toInt64))), (0, .ref (ad 77)), (3, .int x3)]) hx hb dL_sum_124 rfl hl (by decide) rfl (fun ls hl => ?_)
        refine lv_iinc (v := (x3 + 1)) (lv' := [(3, .int (x3 + 1)), (1, .long (((43 : Int64) * g1) + (r3.toInt64))), (0, .ref (ad 77))]) hx hb dL_sum_125 hl (k := 2) rfl rfl (by decide) rfl (fun ls hl => ?_)
        refine lv_goto (tgt := 102) hx hb dL_sum_128 (by decide) ?_
        exact ih102 G3 (((43 : Int64) * g1) + (r3.toInt64)) (x3 + 1)  _ _ _ _  hP hS  (hB.le (by omega)) ls (lv_sub hl [2, 1, 0] rfl) h
  have key70 : ∀ (n : Nat) (G : GT) (g1 : Int64) (x3 : Int32) (H : Heap) (locs : List Loc) (cells slots : Nat), va_P D vwCl (wsC Y ad G) H → va_S (AW 90 ad) s.heap H locs → Bg 197 cells slots (n * 2 + 21) → ∀ ls : Array Slot, lv_has ls 4 [(0, .ref (ad 77)), (1, .long g1), (3, .int x3)] → f_L_sum_70    n G g1 x3 = some (r, G') → W p l ev (rmD 11 197 (16 * 197)) s m ([.ref (ad 77)] : List Value).toArray below meth c H locs cells slots (MQ below (LQ (PL r D Y ad G') (AW 90 ad)) ([.ref (ad 77)] : List Value).toArray s 197 (16 * 197) (AW 90 ad)) (F0 m 70 ls []) := by
    intro n
    induction n with
    | zero => intro G g1 x3  H locs cells slots  hP hS  hB ls hl h; exact lqZ3 h
    | succ n70 ih70 =>
      intro G g1 x3  H locs cells slots  hP hS  hB ls hl h
      have h := lqS3 h
      refine lv_iload_n hx hb dL_sum_70 rfl (lv_at hl 2 rfl) ?_
      refine lv_bipush (v := 8) hx hb dL_sum_71 (by decide) ?_
      refine lv_icmp_ge (tgt := 100) hx hb dL_sum_73 (by decide) (fun c4 => ?_) (fun c4 => ?_)
      · have h := ifT h c4
        refine lv_iconst (v := 0) hx hb dL_sum_100 (by decide) ?_
        refine lv_istore_n (lv' := [(3, .int (0 : Int32)), (0, .ref (ad 77)), (1, .long g1)]) hx hb dL_sum_101 rfl hl (by decide) rfl (fun ls hl => ?_)
        exact key102 7 G g1 (0 : Int32)  _ _ _ _  hP hS  (hB.le (by omega)) ls (lv_sub hl [1, 2, 0] rfl) h
      · have h := ifF h c4
        refine lv_ldc2 (v := 41) hx hb hown (hts _ mw_1420) dL_sum_76 ?_
        refine lv_lload_n hx hb dL_sum_79 rfl (lv_at hl 1 rfl) ?_
        refine lv_lmul hx hb dL_sum_80 ?_
        refine lv_aload_n hx hb dL_sum_81 rfl (lv_at hl 0 rfl) ?_
        refine lv_iload_n hx hb dL_sum_82 rfl (lv_at hl 2 rfl) ?_
        refine lv_iconst (v := 2) hx hb dL_sum_83 (by decide) ?_
        refine lv_idiv hx hb dL_sum_84 (by decide) ?_
        refine lv_iload_n hx hb dL_sum_85 rfl (lv_at hl 2 rfl) ?_
        refine lv_iconst (v := 2) hx hb dL_sum_86 (by decide) ?_
        refine lv_irem hx hb dL_sum_87 (by decide) ?_
        obtain ⟨r5, G5, e5, h⟩ := bsome2 h
        refine lh_i (B' := (n70 * 2 + 21)) F hP hK hE hS hB kl_tinOf mw_717 (ql_tinOf l hst D Y ad hI G (x3 / (2 : Int32)) (x3 - x3 / (2 : Int32) * (2 : Int32)) r5 G5 e5) rfl hl.1 ⟨Nat.le_of_ble_eq_true rfl, Nat.le_of_ble_eq_true rfl⟩ (rest := [.long ((41 : Int64) * g1)]) rfl (Nat.le_of_ble_eq_true rfl) (by omega) dL_sum_88 (fun H locs cells slots hP hS hkp hB => ?_)
        refine lv_i2l (v := r5.toInt64) hx hb dL_sum_91 rfl ?_
        refine lv_ladd hx hb dL_sum_92 ?_
        refine lv_lstore_n (lv' := [(1, .long (((41 : Int64) * g1) + (r5.toInt64))), (0, .ref (ad 77)), (3, .int x3)]) hx hb dL_sum_93 rfl hl (by decide) rfl (fun ls hl => ?_)
        refine lv_iinc (v := (x3 + 1)) (lv' := [(3, .int (x3 + 1)), (1, .long (((41 : Int64) * g1) + (r5.toInt64))), (0, .ref (ad 77))]) hx hb dL_sum_94 hl (k := 2) rfl rfl (by decide) rfl (fun ls hl => ?_)
        refine lv_goto (tgt := 70) hx hb dL_sum_97 (by decide) ?_
        exact ih70 G5 (((41 : Int64) * g1) + (r5.toInt64)) (x3 + 1)  _ _ _ _  hP hS  (hB.le (by omega)) ls (lv_sub hl [2, 1, 0] rfl) h
  have key33 : ∀ (n : Nat) (G : GT) (g1 : Int64) (x3 : Int32) (H : Heap) (locs : List Loc) (cells slots : Nat), va_P D vwCl (wsC Y ad G) H → va_S (AW 90 ad) s.heap H locs → Bg 197 cells slots (n * 3 + 39) → ∀ ls : Array Slot, lv_has ls 4 [(0, .ref (ad 77)), (1, .long g1), (3, .int x3)] → f_L_sum_33    n G g1 x3 = some (r, G') → W p l ev (rmD 11 197 (16 * 197)) s m ([.ref (ad 77)] : List Value).toArray below meth c H locs cells slots (MQ below (LQ (PL r D Y ad G') (AW 90 ad)) ([.ref (ad 77)] : List Value).toArray s 197 (16 * 197) (AW 90 ad)) (F0 m 33 ls []) := by
    intro n
    induction n with
    | zero => intro G g1 x3  H locs cells slots  hP hS  hB ls hl h; exact lqZ3 h
    | succ n33 ih33 =>
      intro G g1 x3  H locs cells slots  hP hS  hB ls hl h
      have h := lqS3 h
      refine lv_iload_n hx hb dL_sum_33 rfl (lv_at hl 2 rfl) ?_
      refine lv_iconst (v := 3) hx hb dL_sum_34 (by decide) ?_
      refine lv_aload_n hx hb dL_sum_35 rfl (lv_at hl 0 rfl) ?_
      refine lv_iconst (v := 3) hx hb dL_sum_36 (by decide) ?_
      obtain ⟨r6, G6, e6, h⟩ := bR h
      refine lx_V (B' := (n33 * 3 + 41)) F hP hK hS hB k_X9_account mw_621 rfl (q_X9_account l hst D Y ad hI G (3 : Int32) (.inr r6) G6 e6) rfl hl.1 ⟨Nat.le_of_ble_eq_true rfl, Nat.le_of_ble_eq_true rfl⟩ (rest := [.int (3 : Int32), .int x3]) rfl (Nat.le_of_ble_eq_true rfl) (by omega) dL_sum_37 (fun H locs cells slots o6 hP hS hkp hB => ?_)
      refine lv_imul hx hb dL_sum_40 ?_
      refine lv_icmp_ge (tgt := 68) hx hb dL_sum_41 (by decide) (fun c7 => ?_) (fun c7 => ?_)
      · have h := ifT h c7
        refine lv_iconst (v := 0) hx hb dL_sum_68 (by decide) ?_
        refine lv_istore_n (lv' := [(3, .int (0 : Int32)), (0, .ref (ad 77)), (1, .long g1)]) hx hb dL_sum_69 rfl hl (by decide) rfl (fun ls hl => ?_)
        exact key70 9 G6 g1 (0 : Int32)  _ _ _ _  hP hS  (hB.le (by omega)) ls (lv_sub hl [1, 2, 0] rfl) h
      · have h := ifF h c7
        refine lv_ldc2 (v := 37) hx hb hown (hts _ mw_1419) dL_sum_44 ?_
        refine lv_lload_n hx hb dL_sum_47 rfl (lv_at hl 1 rfl) ?_
        refine lv_lmul hx hb dL_sum_48 ?_
        refine lv_aload_n hx hb dL_sum_49 rfl (lv_at hl 0 rfl) ?_
        refine lv_iload_n hx hb dL_sum_50 rfl (lv_at hl 2 rfl) ?_
        refine lv_iconst (v := 3) hx hb dL_sum_51 (by decide) ?_
        refine lv_idiv hx hb dL_sum_52 (by decide) ?_
        refine lv_iload_n hx hb dL_sum_53 rfl (lv_at hl 2 rfl) ?_
        refine lv_iconst (v := 3) hx hb dL_sum_54 (by decide) ?_
        refine lv_irem hx hb dL_sum_55 (by decide) ?_
        obtain ⟨r8, G8, e8, h⟩ := bsome2 h
        refine lh_i (B' := (n33 * 3 + 39)) F hP hK hE hS hB kl_of mw_689 (ql_of l hst D Y ad hI G6 (x3 / (3 : Int32)) (x3 - x3 / (3 : Int32) * (3 : Int32)) r8 G8 e8) rfl hl.1 ⟨Nat.le_of_ble_eq_true rfl, Nat.le_of_ble_eq_true rfl⟩ (rest := [.long ((37 : Int64) * g1)]) rfl (Nat.le_of_ble_eq_true rfl) (by omega) dL_sum_56 (fun H locs cells slots hP hS hkp hB => ?_)
        refine lv_i2l (v := r8.toInt64) hx hb dL_sum_59 rfl ?_
        refine lv_ladd hx hb dL_sum_60 ?_
        refine lv_lstore_n (lv' := [(1, .long (((37 : Int64) * g1) + (r8.toInt64))), (0, .ref (ad 77)), (3, .int x3)]) hx hb dL_sum_61 rfl hl (by decide) rfl (fun ls hl => ?_)
        refine lv_iinc (v := (x3 + 1)) (lv' := [(3, .int (x3 + 1)), (1, .long (((37 : Int64) * g1) + (r8.toInt64))), (0, .ref (ad 77))]) hx hb dL_sum_62 hl (k := 2) rfl rfl (by decide) rfl (fun ls hl => ?_)
        refine lv_goto (tgt := 33) hx hb dL_sum_65 (by decide) ?_
        exact ih33 G8 (((37 : Int64) * g1) + (r8.toInt64)) (x3 + 1)  _ _ _ _  hP hS  (hB.le (by omega)) ls (lv_sub hl [2, 1, 0] rfl) h
  have key6 : ∀ (n : Nat) (G : GT) (g1 : Int64) (x3 : Int32) (H : Heap) (locs : List Loc) (cells slots : Nat), va_P D vwCl (wsC Y ad G) H → va_S (AW 90 ad) s.heap H locs → Bg 197 cells slots (n * 1 + 186) → ∀ ls : Array Slot, lv_has ls 4 [(0, .ref (ad 77)), (1, .long g1), (3, .int x3)] → f_L_sum_6    n G g1 x3 = some (r, G') → W p l ev (rmD 11 197 (16 * 197)) s m ([.ref (ad 77)] : List Value).toArray below meth c H locs cells slots (MQ below (LQ (PL r D Y ad G') (AW 90 ad)) ([.ref (ad 77)] : List Value).toArray s 197 (16 * 197) (AW 90 ad)) (F0 m 6 ls []) := by
    intro n
    induction n with
    | zero => intro G g1 x3  H locs cells slots  hP hS  hB ls hl h; exact lqZ3 h
    | succ n6 ih6 =>
      intro G g1 x3  H locs cells slots  hP hS  hB ls hl h
      have h := lqS3 h
      refine lv_iload_n hx hb dL_sum_6 rfl (lv_at hl 2 rfl) ?_
      refine lv_bipush (v := 10) hx hb dL_sum_7 (by decide) ?_
      refine lv_icmp_ge (tgt := 31) hx hb dL_sum_9 (by decide) (fun c9 => ?_) (fun c9 => ?_)
      · have h := ifT h c9
        refine lv_iconst (v := 0) hx hb dL_sum_31 (by decide) ?_
        refine lv_istore_n (lv' := [(3, .int (0 : Int32)), (0, .ref (ad 77)), (1, .long g1)]) hx hb dL_sum_32 rfl hl (by decide) rfl (fun ls hl => ?_)
        exact key33 49 G g1 (0 : Int32)  _ _ _ _  hP hS  (hB.le (by omega)) ls (lv_sub hl [1, 2, 0] rfl) h
      · have h := ifF h c9
        refine lv_ldc2 (v := 31) hx hb hown (hts _ mw_1418) dL_sum_12 ?_
        refine lv_lload_n hx hb dL_sum_15 rfl (lv_at hl 1 rfl) ?_
        refine lv_lmul hx hb dL_sum_16 ?_
        refine lv_aload_n hx hb dL_sum_17 rfl (lv_at hl 0 rfl) ?_
        refine lv_iload_n hx hb dL_sum_18 rfl (lv_at hl 2 rfl) ?_
        obtain ⟨r10, G10, e10, h⟩ := bR h
        refine lx_V (B' := (n6 * 1 + 186)) F hP hK hS hB k_X9_account mw_621 rfl (q_X9_account l hst D Y ad hI G x3 (.inr r10) G10 e10) rfl hl.1 ⟨Nat.le_of_ble_eq_true rfl, Nat.le_of_ble_eq_true rfl⟩ (rest := [.long ((31 : Int64) * g1)]) rfl (Nat.le_of_ble_eq_true rfl) (by omega) dL_sum_19 (fun H locs cells slots o10 hP hS hkp hB => ?_)
        refine lv_i2l (v := r10.toInt64) hx hb dL_sum_22 rfl ?_
        refine lv_ladd hx hb dL_sum_23 ?_
        refine lv_lstore_n (lv' := [(1, .long (((31 : Int64) * g1) + (r10.toInt64))), (0, .ref (ad 77)), (3, .int x3)]) hx hb dL_sum_24 rfl hl (by decide) rfl (fun ls hl => ?_)
        refine lv_iinc (v := (x3 + 1)) (lv' := [(3, .int (x3 + 1)), (1, .long (((31 : Int64) * g1) + (r10.toInt64))), (0, .ref (ad 77))]) hx hb dL_sum_25 hl (k := 2) rfl rfl (by decide) rfl (fun ls hl => ?_)
        refine lv_goto (tgt := 6) hx hb dL_sum_28 (by decide) ?_
        exact ih6 G10 (((31 : Int64) * g1) + (r10.toInt64)) (x3 + 1)  _ _ _ _  hP hS  (hB.le (by omega)) ls (lv_sub hl [2, 1, 0] rfl) h
  refine lv_ldc2 (v := 7) hx hb hown (hts _ mw_1417) dL_sum_0 ?_
  refine lv_lstore_n (lv' := [(1, .long (7 : Int64)), (0, .ref (ad 77))]) hx hb dL_sum_3 rfl hl (by decide) rfl (fun ls hl => ?_)
  refine lv_iconst (v := 0) hx hb dL_sum_4 (by decide) ?_
  refine lv_istore_n (lv' := [(3, .int (0 : Int32)), (1, .long (7 : Int64)), (0, .ref (ad 77))]) hx hb dL_sum_5 rfl hl (by decide) rfl (fun ls hl => ?_)
  exact key6 11 G (7 : Int64) (0 : Int32)  _ _ _ _  hP hS  (hB.le (by omega)) ls (lv_sub hl [2, 1, 0] rfl) h
def f_L_cell (G : GT) (L_X0 : Nat) (xs_X0 : Nat → Int32) (a1 : Int32) : Option (Int32 × GT) := (if (nI L_X0) ≤ a1 then some (((40503 : Int32) * a1), G) else (if inb a1 L_X0 then some ((xs_X0 a1.toNatClampNeg), G) else none))
set_option maxRecDepth 100000 in
set_option maxHeartbeats 8000000 in
theorem q_L_cell (l : Launch) (hst : l.stackTraces = false) (D : va_G) (Y : Nat → ClassId) (ad : Nat → Nat) (hI : Inj 90 ad) (G : GT) (L_X0 : Nat) (xs_X0 : Nat → Int32) (b_X0 : Nat) (a1 : Int32) (r : Int32) (G' : GT) (h : f_L_cell G L_X0 xs_X0 a1 = some (r, G')) : LM l yL_cell cL_cell 2 (some .int) 0 0 D Y ad G (PhX ad b_X0 L_X0 xs_X0) [.ref b_X0, .int a1] (PI (some .int) r D Y ad G') := by
  refine LM_of (ret := (some .int)) (by decide) (Nat.le_of_ble_eq_true rfl) (lv := [(0, .ref b_X0), (1, .int a1)]) rfl ?_
  intro p ev s m below meth c ls F hP hK hE hΦ hS hr hk hl hB
  have F : Fx p c cL_cell 2 s m _ RL D Y := F
  have hx := F.1.1
  have hb := F.1.2.1
  have hts := F.1.2.2.2.2
  have hown := F.1.2.2.2.1
  have hX_X0 : PhX ad b_X0 L_X0 xs_X0 s := hΦ
  refine lv_iload_n hx hb dL_cell_0 rfl (lv_at hl 1 rfl) ?_
  refine lv_aload_n hx hb dL_cell_1 rfl (lv_at hl 0 rfl) ?_
  refine va_slen hx hb hX_X0.1 hX_X0.2.1 hX_X0.2.2.1 hS dL_cell_2 ?_
  refine lv_icmp_ge (tgt := 12) hx hb dL_cell_3 (by decide) (fun c1 => ?_) (fun c1 => ?_)
  · have h := ifT h c1
    refine lv_ldc (v := 40503) hx hb hown (hts _ mw_235) dL_cell_12 ?_
    refine lv_iload_n hx hb dL_cell_14 rfl (lv_at hl 1 rfl) ?_
    refine lv_imul hx hb dL_cell_15 ?_
    exact lm_end F hP hS hB hr hk rfl h dL_cell_16
  · have h := ifF h c1
    refine lv_aload_n hx hb dL_cell_6 rfl (lv_at hl 0 rfl) ?_
    refine lv_iload_n hx hb dL_cell_7 rfl (lv_at hl 1 rfl) ?_
    obtain ⟨b2, h⟩ := ckS h
    refine va_sld hx hb hX_X0.1 hX_X0.2.1 hX_X0.2.2.1 hS (inbV b2 (by have := hX_X0.2.2.2; omega)) dL_cell_8 ?_
    refine lv_goto (tgt := 16) hx hb dL_cell_9 (by decide) ?_
    exact lm_end F hP hS hB hr hk rfl h dL_cell_16
