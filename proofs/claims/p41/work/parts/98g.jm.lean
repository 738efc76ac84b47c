def f_L_run_2 (T_S1 : List Int32) (n : Nat) (G : GT) (y_x2 : Int32) : Option (Int32 × GT) := lq2 (fun (k2 : GT → Int32 → Option (Int32 × GT)) (G : GT) (x2 : Int32) => (if (nI T_S1.length) ≤ x2 then (bind2 (fw_runs G ) fun r2 G2 => some (r2, G2)) else (if inb x2 T_S1.length then (bind2 (fw_append G (chT T_S1 x2)) fun r4 G4 => (if r4 = (x2 + (1 : Int32)) then k2 G4 (x2 + 1) else some ((-9 : Int32), G4))) else none))) n G y_x2
def f_L_run (G : GT) (T_S1 : List Int32) : Option (Int32 × GT) := f_L_run_2 T_S1 33 G (0 : Int32)
set_option maxRecDepth 100000 in
set_option maxHeartbeats 8000000 in
theorem q_L_run (l : Launch) (hst : l.stackTraces = false) (D : va_G) (Y : Nat → ClassId) (ad : Nat → Nat) (hI : Inj 90 ad) (G : GT) (T_S1 : List Int32) (q_S1 v_S1 : Nat) (r : Int32) (G' : GT) (h : f_L_run G T_S1  = some (r, G')) : LM l yL_run cL_run 3 (some .int) 11 36 D Y ad G (PhS ad q_S1 v_S1 T_S1) [.ref (ad 77), .ref q_S1] (PI (some .int) r D Y ad G') := by
  refine LM_of (ret := (some .int)) (by decide) (Nat.le_of_ble_eq_true rfl) (lv := [(0, .ref (ad 77)), (1, .ref q_S1)]) rfl ?_
  intro p ev s m below meth c ls F hP hK hE hΦ hS hr hk hl hB
  have F : Fx p c cL_run 3 s m _ RL D Y := F
  have hx := F.1.1
  have hb := F.1.2.1
  have hts := F.1.2.2.2.2
  have hown := F.1.2.2.2.1
  have hA_S1 : Sg ad s q_S1 v_S1 T_S1 s.heap := hΦ
  have key2 : ∀ (n : Nat) (G : GT) (x2 : Int32) (H : Heap) (locs : List Loc) (cells slots : Nat), va_P D vwCl (wsC Y ad G) H → va_S (AW 90 ad) s.heap H locs → Sg ad s q_S1 v_S1 T_S1 H → Bg 36 cells slots (n * 1 + 3) → ∀ ls : Array Slot, lv_has ls 3 [(0, .ref (ad 77)), (1, .ref q_S1), (2, .int x2)] → f_L_run_2 T_S1   n G x2 = some (r, G') → W p l ev (rmD 11 36 (16 * 36)) s m ([.ref (ad 77), .ref q_S1] : List Value).toArray below meth c H locs cells slots (MQ below (LQ (PI (some .int) r D Y ad G') (AW 90 ad)) ([.ref (ad 77), .ref q_S1] : List Value).toArray s 36 (16 * 36) (AW 90 ad)) (F0 m 2 ls []) := by
    intro n
    induction n with
    | zero => intro G x2  H locs cells slots  hP hS hA_S1 hB ls hl h; exact lqZ2 h
    | succ n2 ih2 =>
      intro G x2  H locs cells slots  hP hS hA_S1 hB ls hl h
      have h := lqS2 h
      refine lv_iload_n hx hb dL_run_2 rfl (lv_at hl 2 rfl) ?_
      refine lv_aload_n hx hb dL_run_3 rfl (lv_at hl 1 rfl) ?_
      refine st_len F hK hS hB hA_S1 hl.1 (Nat.le_of_ble_eq_true rfl) (rest := [.int x2]) (Nat.le_of_ble_eq_true rfl) dL_run_4 ?_
      refine lv_icmp_ge (tgt := 34) hx hb dL_run_7 (by decide) (fun c1 => ?_) (fun c1 => ?_)
      · have h := ifT h c1
        refine lv_aload_n hx hb dL_run_34 rfl (lv_at hl 0 rfl) ?_
        obtain ⟨r2, G2, e2, h⟩ := bsome2 h
        refine lh_i (B' := (n2 * 1 + 1)) F hP hK hE hS hB kl_runs mw_1482 (ql_runs l hst D Y ad hI G  r2 G2 e2) rfl hl.1 ⟨Nat.le_of_ble_eq_true rfl, Nat.le_of_ble_eq_true rfl⟩ (rest := []) rfl (Nat.le_of_ble_eq_true rfl) (by omega) dL_run_35 (fun H locs cells slots hP hS hkp hB => ?_)
        have hA_S1 := hA_S1.kp hkp
        exact lm_end F hP hS hB hr hk rfl h dL_run_38
      · have h := ifF h c1
        refine lv_aload_n hx hb dL_run_10 rfl (lv_at hl 0 rfl) ?_
        refine lv_aload_n hx hb dL_run_11 rfl (lv_at hl 1 rfl) ?_
        refine lv_iload_n hx hb dL_run_12 rfl (lv_at hl 2 rfl) ?_
        obtain ⟨g3, h⟩ := ckS h
        refine st_chr F hK hS hB hA_S1 g3 hl.1 (Nat.le_of_ble_eq_true rfl) (rest := [.ref (ad 77)]) (Nat.le_of_ble_eq_true rfl) dL_run_13 ?_
        obtain ⟨r4, G4, e4, h⟩ := bsome2 h
        refine lh_i (B' := (n2 * 1 + 3)) F hP hK hE hS hB kl_append mw_1446 (ql_append l hst D Y ad hI G (chT T_S1 x2) r4 G4 e4) rfl hl.1 ⟨Nat.le_of_ble_eq_true rfl, Nat.le_of_ble_eq_true rfl⟩ (rest := []) rfl (Nat.le_of_ble_eq_true rfl) (by omega) dL_run_16 (fun H locs cells slots hP hS hkp hB => ?_)
        have hA_S1 := hA_S1.kp hkp
        refine lv_iload_n hx hb dL_run_19 rfl (lv_at hl 2 rfl) ?_
        refine lv_iconst (v := 1) hx hb dL_run_20 (by decide) ?_
        refine lv_iadd hx hb dL_run_21 ?_
        refine lv_icmp_eq (tgt := 28) hx hb dL_run_22 (by decide) (fun c5 => ?_) (fun c5 => ?_)
        · have h := ifT h c5
          refine lv_iinc (v := (x2 + 1)) (lv' := [(2, .int (x2 + 1)), (0, .ref (ad 77)), (1, .ref q_S1)]) hx hb dL_run_28 hl (k := 2) rfl rfl (by decide) rfl (fun ls hl => ?_)
          refine lv_goto (tgt := 2) hx hb dL_run_31 (by decide) ?_
          exact ih2 G4 (x2 + 1)  _ _ _ _  hP hS  hA_S1 (hB.le (by omega)) ls (lv_sub hl [1, 2, 0] rfl) h
        · have h := ifF h c5
          refine lv_bipush (v := (-9)) hx hb dL_run_25 (by decide) ?_
          exact lm_end F hP hS hB hr hk rfl h dL_run_27
  refine lv_iconst (v := 0) hx hb dL_run_0 (by decide) ?_
  refine lv_istore_n (lv' := [(2, .int (0 : Int32)), (0, .ref (ad 77)), (1, .ref q_S1)]) hx hb dL_run_1 rfl hl (by decide) rfl (fun ls hl => ?_)
  exact key2 33 G (0 : Int32)  _ _ _ _  hP hS  hA_S1 (hB.le (by omega)) ls (lv_sub hl [1, 2, 0] rfl) h
def f_L_spells_57 (a1 : Int32) (T_S2 : List Int32) (x3 : Int32) (G : GT) : Option (Int32 × GT) := (if x3 = 0 then some ((0 : Int32), G) else (bind2 (fw_character G a1) fun r2 G2 => (if r2 = (-11 : Int32) then some ((1 : Int32), G2) else some ((0 : Int32), G2))))
def f_L_spells_50 (a1 : Int32) (T_S2 : List Int32) (k17 : GT → Int32 → Int32 → Option (Int32 × GT)) (x4 : Int32) (s50_0 : Int32) (G : GT) : Option (Int32 × GT) := k17 G s50_0 (x4 + 1)
def f_L_spells_17 (a1 : Int32) (T_S2 : List Int32) (n : Nat) (G : GT) (y_x3 : Int32) (y_x4 : Int32) : Option (Int32 × GT) := lq3 (fun (k17 : GT → Int32 → Int32 → Option (Int32 × GT)) (G : GT) (x3 : Int32) (x4 : Int32) => (if (nI T_S2.length) ≤ x4 then f_L_spells_57 a1 T_S2 x3 G else (if x3 = 0 then f_L_spells_57 a1 T_S2 x3 G else (bind2 (fw_character G x4) fun r6 G6 => (if inb x4 T_S2.length then (if r6 = (chT T_S2 x4) then f_L_spells_50 a1 T_S2 k17 x4 (1 : Int32) G6 else f_L_spells_50 a1 T_S2 k17 x4 (0 : Int32) G6) else none))))) n G y_x3 y_x4
def f_L_spells_13 (a1 : Int32) (T_S2 : List Int32) (s13_0 : Int32) (G : GT) : Option (Int32 × GT) := f_L_spells_17 a1 T_S2 34 G s13_0 (0 : Int32)
def f_L_spells (G : GT) (T_S2 : List Int32) (a1 : Int32) : Option (Int32 × GT) := (if a1 = (nI T_S2.length) then f_L_spells_13 a1 T_S2 (1 : Int32) G else f_L_spells_13 a1 T_S2 (0 : Int32) G)
set_option maxRecDepth 100000 in
set_option maxHeartbeats 8000000 in
theorem q_L_spells (l : Launch) (hst : l.stackTraces = false) (D : va_G) (Y : Nat → ClassId) (ad : Nat → Nat) (hI : Inj 90 ad) (G : GT) (T_S2 : List Int32) (q_S2 v_S2 : Nat) (a1 : Int32) (r : Int32) (G' : GT) (h : f_L_spells G T_S2 a1 = some (r, G')) : LM l yL_spells cL_spells 5 (some .boolean) 11 35 D Y ad G (PhS ad q_S2 v_S2 T_S2) [.ref (ad 77), .int a1, .ref q_S2] (PI (some .boolean) r D Y ad G') := by
  refine LM_of (ret := (some .boolean)) (by decide) (Nat.le_of_ble_eq_true rfl) (lv := [(0, .ref (ad 77)), (1, .int a1), (2, .ref q_S2)]) rfl ?_
  intro p ev s m below meth c ls F hP hK hE hΦ hS hr hk hl hB
  have F : Fx p c cL_spells 5 s m _ RL D Y := F
  have hx := F.1.1
  have hb := F.1.2.1
  have hts := F.1.2.2.2.2
  have hown := F.1.2.2.2.1
  have hA_S2 : Sg ad s q_S2 v_S2 T_S2 s.heap := hΦ
  have key57 : ∀ (x3 : Int32) (G : GT) (H : Heap) (locs : List Loc) (cells slots : Nat), va_P D vwCl (wsC Y ad G) H → va_S (AW 90 ad) s.heap H locs → Bg 35 cells slots (1) → ∀ ls : Array Slot, lv_has ls 5 [(0, .ref (ad 77)), (1, .int a1), (3, .int x3)] → f_L_spells_57 a1 T_S2  x3 G = some (r, G') → W p l ev (rmD 11 35 (16 * 35)) s m ([.ref (ad 77), .int a1, .ref q_S2] : List Value).toArray below meth c H locs cells slots (MQ below (LQ (PI (some .boolean) r D Y ad G') (AW 90 ad)) ([.ref (ad 77), .int a1, .ref q_S2] : List Value).toArray s 35 (16 * 35) (AW 90 ad)) (F0 m 57 ls []) := by
    intro x3 G  H locs cells slots  hP hS  hB ls hl h
    refine lv_iload_n hx hb dL_spells_57 rfl (lv_at hl 2 rfl) ?_
    refine lv_if_eq (tgt := 75) hx hb dL_spells_58 (by decide) (fun c1 => ?_) (fun c1 => ?_)
    · have h := ifT h c1
      refine lv_iconst (v := 0) hx hb dL_spells_75 (by decide) ?_
      exact lm_end F hP hS hB hr hk rfl h dL_spells_76
    · have h := ifF h c1
      refine lv_aload_n hx hb dL_spells_61 rfl (lv_at hl 0 rfl) ?_
      refine lv_iload_n hx hb dL_spells_62 rfl (lv_at hl 1 rfl) ?_
      obtain ⟨r2, G2, e2, h⟩ := bsome2 h
      refine lh_i (B' := (0)) F hP hK hE hS hB kl_character mw_1366 (ql_character l hst D Y ad hI G a1 r2 G2 e2) rfl hl.1 ⟨Nat.le_of_ble_eq_true rfl, Nat.le_of_ble_eq_true rfl⟩ (rest := []) rfl (Nat.le_of_ble_eq_true rfl) (by omega) dL_spells_63 (fun H locs cells slots hP hS hkp hB => ?_)
      refine lv_bipush (v := (-11)) hx hb dL_spells_66 (by decide) ?_
      refine lv_icmp_ne (tgt := 75) hx hb dL_spells_68 (by decide) (fun c3 => ?_) (fun c3 => ?_)
      · have h := ifF h c3
        refine lv_iconst (v := 0) hx hb dL_spells_75 (by decide) ?_
        exact lm_end F hP hS hB hr hk rfl h dL_spells_76
      · have h := ifT h c3
        refine lv_iconst (v := 1) hx hb dL_spells_71 (by decide) ?_
        refine lv_goto (tgt := 76) hx hb dL_spells_72 (by decide) ?_
        exact lm_end F hP hS hB hr hk rfl h dL_spells_76
  have key17 : ∀ (n : Nat) (G : GT) (x3 : Int32) (x4 : Int32) (H : Heap) (locs : List Loc) (cells slots : Nat), va_P D vwCl (wsC Y ad G) H → va_S (AW 90 ad) s.heap H locs → Sg ad s q_S2 v_S2 T_S2 H → Bg 35 cells slots (n * 1 + 1) → ∀ ls : Array Slot, lv_has ls 5 [(0, .ref (ad 77)), (1, .int a1), (2, .ref q_S2), (3, .int x3), (4, .int x4)] → f_L_spells_17 a1 T_S2   n G x3 x4 = some (r, G') → W p l ev (rmD 11 35 (16 * 35)) s m ([.ref (ad 77), .int a1, .ref q_S2] : List Value).toArray below meth c H locs cells slots (MQ below (LQ (PI (some .boolean) r D Y ad G') (AW 90 ad)) ([.ref (ad 77), .int a1, .ref q_S2] : List Value).toArray s 35 (16 * 35) (AW 90 ad)) (F0 m 17 ls []) := by
    intro n
    induction n with
    | zero => intro G x3 x4  H locs cells slots  hP hS hA_S2 hB ls hl h; exact lqZ3 h
    | succ n17 ih17 =>
      have key50 : ∀ (x4 : Int32) (s50_0 : Int32) (G : GT) (H : Heap) (locs : List Loc) (cells slots : Nat), va_P D vwCl (wsC Y ad G) H → va_S (AW 90 ad) s.heap H locs → Sg ad s q_S2 v_S2 T_S2 H → Bg 35 cells slots (n17 * 1 + 1) → ∀ ls : Array Slot, lv_has ls 5 [(0, .ref (ad 77)), (1, .int a1), (2, .ref q_S2), (4, .int x4)] → f_L_spells_50 a1 T_S2 (f_L_spells_17 a1 T_S2   n17) x4 s50_0 G = some (r, G') → W p l ev (rmD 11 35 (16 * 35)) s m ([.ref (ad 77), .int a1, .ref q_S2] : List Value).toArray below meth c H locs cells slots (MQ below (LQ (PI (some .boolean) r D Y ad G') (AW 90 ad)) ([.ref (ad 77), .int a1, .ref q_S2] : List Value).toArray s 35 (16 * 35) (AW 90 ad)) (F0 m 50 ls [.int s50_0]) := by
        intro x4 s50_0 G  H locs cells slots  hP hS hA_S2 hB ls hl h
        refine lv_istore_n (lv' := [(3, .int s50_0), (0, .ref (ad 77)), (1, .int a1), (2, .ref q_S2), (4, .int x4)]) hx hb dL_spells_50 rfl hl (by decide) rfl (fun ls hl => ?_)
        refine lv_iinc (v := (x4 + 1)) (lv' := [(4, .int (x4 + 1)), (3, .int s50_0), (0, .ref (ad 77)), (1, .int a1), (2, .ref q_S2)]) hx hb dL_spells_51 hl (k := 4) rfl rfl (by decide) rfl (fun ls hl => ?_)
        refine lv_goto (tgt := 17) hx hb dL_spells_54 (by decide) ?_
        exact ih17 G s50_0 (x4 + 1)  _ _ _ _  hP hS  hA_S2 (hB.le (by omega)) ls (lv_sub hl [2, 3, 4, 1, 0] rfl) h
      intro G x3 x4  H locs cells slots  hP hS hA_S2 hB ls hl h
      have h := lqS3 h
      refine lv_iload hx hb dL_spells_17 (lv_at hl 4 rfl) ?_
      refine lv_aload_n hx hb dL_spells_19 rfl (lv_at hl 2 rfl) ?_
      refine st_len F hK hS hB hA_S2 hl.1 (Nat.le_of_ble_eq_true rfl) (rest := [.int x4]) (Nat.le_of_ble_eq_true rfl) dL_spells_20 ?_
      refine lv_icmp_ge (tgt := 57) hx hb dL_spells_23 (by decide) (fun c4 => ?_) (fun c4 => ?_)
      · have h := ifT h c4
        exact key57 x3 G  _ _ _ _  hP hS  (hB.le (by omega)) ls (lv_sub hl [0, 1, 3] rfl) h
      · have h := ifF h c4
        refine lv_iload_n hx hb dL_spells_26 rfl (lv_at hl 3 rfl) ?_
        refine lv_if_eq (tgt := 57) hx hb dL_spells_27 (by decide) (fun c5 => ?_) (fun c5 => ?_)
        · have h := ifT h c5
          exact key57 x3 G  _ _ _ _  hP hS  (hB.le (by omega)) ls (lv_sub hl [0, 1, 3] rfl) h
        · have h := ifF h c5
          refine lv_aload_n hx hb dL_spells_30 rfl (lv_at hl 0 rfl) ?_
          refine lv_iload hx hb dL_spells_31 (lv_at hl 4 rfl) ?_
          obtain ⟨r6, G6, e6, h⟩ := bsome2 h
          refine lh_i (B' := (n17 * 1 + 1)) F hP hK hE hS hB kl_character mw_1366 (ql_character l hst D Y ad hI G x4 r6 G6 e6) rfl hl.1 ⟨Nat.le_of_ble_eq_true rfl, Nat.le_of_ble_eq_true rfl⟩ (rest := []) rfl (Nat.le_of_ble_eq_true rfl) (by omega) dL_spells_33 (fun H locs cells slots hP hS hkp hB => ?_)
          have hA_S2 := hA_S2.kp hkp
          refine lv_aload_n hx hb dL_spells_36 rfl (lv_at hl 2 rfl) ?_
          refine lv_iload hx hb dL_spells_37 (lv_at hl 4 rfl) ?_
          obtain ⟨g7, h⟩ := ckS h
          refine st_chr F hK hS hB hA_S2 g7 hl.1 (Nat.le_of_ble_eq_true rfl) (rest := [.int r6]) (Nat.le_of_ble_eq_true rfl) dL_spells_39 ?_
          refine lv_icmp_ne (tgt := 49) hx hb dL_spells_42 (by decide) (fun c8 => ?_) (fun c8 => ?_)
          · have h := ifF h c8
            refine lv_iconst (v := 0) hx hb dL_spells_49 (by decide) ?_
            exact key50 x4 (0 : Int32) G6  _ _ _ _  hP hS  hA_S2 (hB.le (by omega)) ls (lv_sub hl [0, 1, 2, 4] rfl) h
          · have h := ifT h c8
            refine lv_iconst (v := 1) hx hb dL_spells_45 (by decide) ?_
            refine lv_goto (tgt := 50) hx hb dL_spells_46 (by decide) ?_
            exact key50 x4 (1 : Int32) G6  _ _ _ _  hP hS  hA_S2 (hB.le (by omega)) ls (lv_sub hl [0, 1, 2, 4] rfl) h
  have key13 : ∀ (s13_0 : Int32) (G : GT) (H : Heap) (locs : List Loc) (cells slots : Nat), va_P D vwCl (wsC Y ad G) H → va_S (AW 90 ad) s.heap H locs → Sg ad s q_S2 v_S2 T_S2 H → Bg 35 cells slots (35) → ∀ ls : Array Slot, lv_has ls 5 [(0, .ref (ad 77)), (1, .int a1), (2, .ref q_S2)] → f_L_spells_13 a1 T_S2  s13_0 G = some (r, G') → W p l ev (rmD 11 35 (16 * 35)) s m ([.ref (ad 77), .int a1, .ref q_S2] : List Value).toArray below meth c H locs cells slots (MQ below (LQ (PI (some .boolean) r D Y ad G') (AW 90 ad)) ([.ref (ad 77), .int a1, .ref q_S2] : List Value).toArray s 35 (16 * 35) (AW 90 ad)) (F0 m 13 ls [.int s13_0]) := by
    intro s13_0 G  H locs cells slots  hP hS hA_S2 hB ls hl h
    refine lv_istore_n (lv' := [(3, .int s13_0), (0, .ref (ad 77)), (1, .int a1), (2, .ref q_S2)]) hx hb dL_spells_13 rfl hl (by decide) rfl (fun ls hl => ?_)
    refine lv_iconst (v := 0) hx hb dL_spells_14 (by decide) ?_
    refine lv_istore (lv' := [(4, .int (0 : Int32)), (3, .int s13_0), (0, .ref (ad 77)), (1, .int a1), (2, .ref q_S2)]) hx hb dL_spells_15 hl (by decide) rfl (fun ls hl => ?_)
    exact key17 34 G s13_0 (0 : Int32)  _ _ _ _  hP hS  hA_S2 (hB.le (by omega)) ls (lv_sub hl [2, 3, 4, 1, 0] rfl) h
  refine lv_iload_n hx hb dL_spells_0 rfl (lv_at hl 1 rfl) ?_
  refine lv_aload_n hx hb dL_spells_1 rfl (lv_at hl 2 rfl) ?_
  refine st_len F hK hS hB hA_S2 hl.1 (Nat.le_of_ble_eq_true rfl) (rest := [.int a1]) (Nat.le_of_ble_eq_true rfl) dL_spells_2 ?_
  refine lv_icmp_ne (tgt := 12) hx hb dL_spells_5 (by decide) (fun c9 => ?_) (fun c9 => ?_)
  · have h := ifF h c9
    refine lv_iconst (v := 0) hx hb dL_spells_12 (by decide) ?_
    exact key13 (0 : Int32) G  _ _ _ _  hP hS  hA_S2 (hB.le (by omega)) ls (lv_sub hl [0, 1, 2] rfl) h
  · have h := ifT h c9
    refine lv_iconst (v := 1) hx hb dL_spells_8 (by decide) ?_
    refine lv_goto (tgt := 13) hx hb dL_spells_9 (by decide) ?_
    exact key13 (1 : Int32) G  _ _ _ _  hP hS  hA_S2 (hB.le (by omega)) ls (lv_sub hl [0, 1, 2] rfl) h
