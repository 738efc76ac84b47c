def f_L_tunes_316 (k285 : GT → Int32 → Int32 → Option (Int32 × GT)) (W_v18 : Nat → Int32) (x11 : Int32) (s316_0 : Int32) (G : GT) : Option (Int32 × GT) := k285 G s316_0 (x11 + 1)
def f_L_tunes_315 (k285 : GT → Int32 → Int32 → Option (Int32 × GT)) (W_v18 : Nat → Int32) (x11 : Int32) (G : GT) : Option (Int32 × GT) := f_L_tunes_316 k285 W_v18 x11 (0 : Int32) G
def f_L_tunes_285 (W_v18 : Nat → Int32) (n : Nat) (G : GT) (y_x10 : Int32) (y_x11 : Int32) : Option (Int32 × GT) := lq3 (fun (k285 : GT → Int32 → Int32 → Option (Int32 × GT)) (G : GT) (x10 : Int32) (x11 : Int32) => (if (12 : Int32) ≤ x11 then (if x10 = 0 then some ((0 : Int32), G) else (bind2 (fw_withPitch G (12 : Int32)) fun r3 G3 => (if r3 = (-12 : Int32) then (bind2 (fw_withPitch G3 (-1 : Int32)) fun r5 G5 => (if r5 = (-12 : Int32) then (bindR (f_X9_filledShare G5 ) fun r7 G7 => (bindR (f_X9_account G7 (2 : Int32)) fun r8 G8 => (bindR (f_X9_account G8 (1 : Int32)) fun r9 G9 => (if n32 (FP.fdiv (FP.i2f r8) (FP.i2f r9)) then (if (Op.cmpValue (FP.fcmp r7 (FP.fdiv (FP.i2f r8) (FP.i2f r9))) CmpOp.l) = 0 then some ((1 : Int32), G9) else some ((0 : Int32), G9)) else none)))) else some ((0 : Int32), G5))) else some ((0 : Int32), G3)))) else (if x10 = 0 then f_L_tunes_315 k285 W_v18 x11 G else (bind2 (fw_withPitch G x11) fun r13 G13 => (if inb x11 12 then (if r13 = (W_v18 x11.toNatClampNeg) then f_L_tunes_316 k285 W_v18 x11 (1 : Int32) G13 else f_L_tunes_315 k285 W_v18 x11 G13) else none))))) n G y_x10 y_x11
def f_L_tunes_280 (W_v18 : Nat → Int32) (s280_0 : Int32) (G : GT) : Option (Int32 × GT) := f_L_tunes_285 W_v18 13 G s280_0 (0 : Int32)
def f_L_tunes_279 (W_v18 : Nat → Int32) (G : GT) : Option (Int32 × GT) := f_L_tunes_280 W_v18 (0 : Int32) G
def f_L_tunes_275 (W_v18 : Nat → Int32) (G : GT) : Option (Int32 × GT) := f_L_tunes_280 W_v18 (1 : Int32) G
def f_L_tunes_226 (W_v18 : Nat → Int32) (x8 : Int32) (x9 : Int32) (s226_0 : Int32) (s226_1 : Int32) (G : GT) : Option (Int32 × GT) := (if s226_1 = s226_0 then (bindR (f_X9_account G (4 : Int32)) fun r17 G17 => (if r17 = x9 then (bindR (f_X9_account G17 (5 : Int32)) fun r19 G19 => (bindR (f_X9_account G19 (3 : Int32)) fun r20 G20 => (if r19 = (r20 - x9) then (if x9 = 0 then f_L_tunes_275 W_v18 G20 else (bindR (f_X9_meanPitch G20 ) fun r23 G23 => (if n64 (FP.ddiv (FP.i2d x8) (FP.i2d x9)) then (if (Op.cmpValue (FP.dcmp r23 (FP.ddiv (FP.i2d x8) (FP.i2d x9))) CmpOp.l) = 0 then f_L_tunes_275 W_v18 G23 else f_L_tunes_279 W_v18 G23) else none))) else f_L_tunes_279 W_v18 G20))) else f_L_tunes_279 W_v18 G17)) else f_L_tunes_279 W_v18 G)
def f_L_tunes_166 (k42 : GT → (Nat → Int32) → Int32 → Int32 → Int32 → Int32 → Int32 → Int32 → Int32 → Int32 → Int32 → Option (Int32 × GT)) (n_m29 : Nat) (S_m29 : Nat → Nat → Int32) (x11 : Int32) (W_v18 : Nat → Int32) (x1 : Int32) (x2 : Int32) (x3 : Int32) (x4 : Int32) (x5 : Int32) (x6 : Int32) (x8 : Int32) (x9 : Int32) (x12 : Int32) (G : GT) : Option (Int32 × GT) := k42 G W_v18 x1 x2 x3 x4 x5 x6 x8 x9 (x12 + 1)
def f_L_tunes_113 (k42 : GT → (Nat → Int32) → Int32 → Int32 → Int32 → Int32 → Int32 → Int32 → Int32 → Int32 → Int32 → Option (Int32 × GT)) (n_m29 : Nat) (S_m29 : Nat → Nat → Int32) (x11 : Int32) (W_v18 : Nat → Int32) (x1 : Int32) (x2 : Int32) (x4 : Int32) (x5 : Int32) (x8 : Int32) (x9 : Int32) (x12 : Int32) (w13 : Nat) (s113_0 : Int32) (s113_1 : Int32) (G : GT) : Option (Int32 × GT) := (if inb (S_m29 w13 3) 12 then (if inb (S_m29 w13 3) 12 then ((some (upd W_v18 ((S_m29 w13 3).toNatClampNeg) ((W_v18 (S_m29 w13 3).toNatClampNeg) + (1 : Int32)))).bind fun W28 => f_L_tunes_166 k42 n_m29 S_m29 x11 W28 x1 x2 (s113_1 + s113_0) (min32 x4 (S_m29 w13 3)) (max32 x5 (S_m29 w13 3)) (S_m29 w13 3) (x8 + (S_m29 w13 3)) (x9 + 1) x12 G) else none) else none)
def f_L_tunes_100 (k42 : GT → (Nat → Int32) → Int32 → Int32 → Int32 → Int32 → Int32 → Int32 → Int32 → Int32 → Int32 → Option (Int32 × GT)) (n_m29 : Nat) (S_m29 : Nat → Nat → Int32) (x11 : Int32) (W_v18 : Nat → Int32) (x1 : Int32) (x3 : Int32) (x4 : Int32) (x5 : Int32) (x8 : Int32) (x9 : Int32) (x12 : Int32) (w13 : Nat) (x14 : Int32) (s100_0 : Int32) (s100_1 : Int32) (G : GT) : Option (Int32 × GT) := (if 0 ≤ x14 then f_L_tunes_113 k42 n_m29 S_m29 x11 W_v18 x1 (s100_1 + s100_0) x4 x5 x8 x9 x12 w13 (0 : Int32) x3 G else f_L_tunes_113 k42 n_m29 S_m29 x11 W_v18 x1 (s100_1 + s100_0) x4 x5 x8 x9 x12 w13 (1 : Int32) x3 G)
def f_L_tunes_79 (k42 : GT → (Nat → Int32) → Int32 → Int32 → Int32 → Int32 → Int32 → Int32 → Int32 → Int32 → Int32 → Option (Int32 × GT)) (n_m29 : Nat) (S_m29 : Nat → Nat → Int32) (x11 : Int32) (W_v18 : Nat → Int32) (x1 : Int32) (x2 : Int32) (x3 : Int32) (x4 : Int32) (x5 : Int32) (x8 : Int32) (x9 : Int32) (x12 : Int32) (w13 : Nat) (s79_0 : Int32) (G : GT) : Option (Int32 × GT) := (if s79_0 ≤ 0 then f_L_tunes_100 k42 n_m29 S_m29 x11 W_v18 (x1 + (abs32 s79_0)) x3 x4 x5 x8 x9 x12 w13 s79_0 (0 : Int32) x2 G else f_L_tunes_100 k42 n_m29 S_m29 x11 W_v18 (x1 + (abs32 s79_0)) x3 x4 x5 x8 x9 x12 w13 s79_0 (1 : Int32) x2 G)
def f_L_tunes_42 (n_m29 : Nat) (S_m29 : Nat → Nat → Int32) (x11 : Int32) (n : Nat) (G : GT) (y_W_v18 : Nat → Int32) (y_x1 : Int32) (y_x2 : Int32) (y_x3 : Int32) (y_x4 : Int32) (y_x5 : Int32) (y_x6 : Int32) (y_x8 : Int32) (y_x9 : Int32) (y_x12 : Int32) : Option (Int32 × GT) := lq11 (fun (k42 : GT → (Nat → Int32) → Int32 → Int32 → Int32 → Int32 → Int32 → Int32 → Int32 → Int32 → Int32 → Option (Int32 × GT)) (G : GT) (W_v18 : Nat → Int32) (x1 : Int32) (x2 : Int32) (x3 : Int32) (x4 : Int32) (x5 : Int32) (x6 : Int32) (x8 : Int32) (x9 : Int32) (x12 : Int32) => (if x11 ≤ x12 then ((f_X9_walk G (0 : Int32)).bind fun r32 => (if r32 = x1 then ((f_X9_walk G (1 : Int32)).bind fun r34 => (if r34 = x1 then ((f_X9_goes G (1 : Int32)).bind fun r36 => (if r36 = x2 then ((f_X9_goes G (0 : Int32)).bind fun r38 => (if r38 = x3 then ((f_X9_span G ).bind fun r40 => (if x9 = 0 then f_L_tunes_226 W_v18 x8 x9 (0 : Int32) r40 G else f_L_tunes_226 W_v18 x8 x9 (x5 - x4) r40 G)) else f_L_tunes_279 W_v18 G)) else f_L_tunes_279 W_v18 G)) else f_L_tunes_279 W_v18 G)) else f_L_tunes_279 W_v18 G)) else (if inb x12 n_m29 then (if (S_m29 (x12.toNatClampNeg) 3) < 0 then f_L_tunes_166 k42 n_m29 S_m29 x11 W_v18 x1 x2 x3 x4 x5 x6 x8 x9 x12 G else (if 0 ≤ x6 then f_L_tunes_79 k42 n_m29 S_m29 x11 W_v18 x1 x2 x3 x4 x5 x8 x9 x12 (x12.toNatClampNeg) ((S_m29 (x12.toNatClampNeg) 3) - x6) G else f_L_tunes_79 k42 n_m29 S_m29 x11 W_v18 x1 x2 x3 x4 x5 x8 x9 x12 (x12.toNatClampNeg) (0 : Int32) G)) else none))) n G y_W_v18 y_x1 y_x2 y_x3 y_x4 y_x5 y_x6 y_x8 y_x9 y_x12
def f_L_tunes (G : GT) : Option (Int32 × GT) := (bind3 (f_L_sounds G ) fun n_m29 S46 G46 => f_L_tunes_42 n_m29 S46 (nI n_m29) 17 G46 (fun _ => 0) (0 : Int32) (0 : Int32) (0 : Int32) (12 : Int32) (-1 : Int32) (-1 : Int32) (0 : Int32) (0 : Int32) (0 : Int32))
set_option maxRecDepth 100000 in
set_option maxHeartbeats 8000000 in
theorem q_L_tunes (l : Launch) (hst : l.stackTraces = false) (D : va_G) (Y : Nat → ClassId) (ad : Nat → Nat) (hI : Inj 90 ad) (G : GT) (r : Int32) (G' : GT) (h : f_L_tunes G   = some (r, G')) : LM l yL_tunes cL_tunes 15 (some .boolean) 12 551 D Y ad G Ph0 [.ref (ad 77)] (PI (some .boolean) r D Y ad G') := by
  refine LM_of (ret := (some .boolean)) (by decide) (Nat.le_of_ble_eq_true rfl) (lv := [(0, .ref (ad 77))]) rfl ?_
  intro p ev s m below meth c ls F hP hK hE hΦ hS hr hk hl hB
  have F : Fx p c cL_tunes 15 s m _ RL D Y := F
  have hx := F.1.1
  have hb := F.1.2.1
  have hts := F.1.2.2.2.2
  have hown := F.1.2.2.2.1
  have key285 : ∀ (W_v18 : Nat → Int32) (n : Nat) (G : GT) (x10 : Int32) (x11 : Int32) (q_v18 : Nat) (H : Heap) (locs : List Loc) (cells slots : Nat), s.heap.size ≤ q_v18 → va_P D vwCl (wsC Y ad G) H → va_S (AW 90 ad) s.heap H locs → AI Y ad q_v18 12 W_v18 H → Bg 551 cells slots (n * 1 + 5) → ∀ ls : Array Slot, lv_has ls 15 [(0, .ref (ad 77)), (7, .ref q_v18), (10, .int x10), (11, .int x11)] → f_L_tunes_285   W_v18 n G x10 x11 = some (r, G') → W p l ev (rmD 12 551 (16 * 551)) s m ([.ref (ad 77)] : List Value).toArray below meth c H locs cells slots (MQ below (LQ (PI (some .boolean) r D Y ad G') (AW 90 ad)) ([.ref (ad 77)] : List Value).toArray s 551 (16 * 551) (AW 90 ad)) (F0 m 285 ls []) := by
    intro W_v18
    intro n
    induction n with
    | zero => intro G x10 x11 q_v18 H locs cells slots hf_v18 hP hS hA_v18 hB ls hl h; exact lqZ3 h
    | succ n285 ih285 =>
      have key316 : ∀ (x11 : Int32) (s316_0 : Int32) (G : GT) (q_v18 : Nat) (H : Heap) (locs : List Loc) (cells slots : Nat), s.heap.size ≤ q_v18 → va_P D vwCl (wsC Y ad G) H → va_S (AW 90 ad) s.heap H locs → AI Y ad q_v18 12 W_v18 H → Bg 551 cells slots (n285 * 1 + 5) → ∀ ls : Array Slot, lv_has ls 15 [(0, .ref (ad 77)), (7, .ref q_v18), (11, .int x11)] → f_L_tunes_316  (f_L_tunes_285   W_v18 n285) W_v18 x11 s316_0 G = some (r, G') → W p l ev (rmD 12 551 (16 * 551)) s m ([.ref (ad 77)] : List Value).toArray below meth c H locs cells slots (MQ below (LQ (PI (some .boolean) r D Y ad G') (AW 90 ad)) ([.ref (ad 77)] : List Value).toArray s 551 (16 * 551) (AW 90 ad)) (F0 m 316 ls [.int s316_0]) := by
        intro x11 s316_0 G q_v18 H locs cells slots hf_v18 hP hS hA_v18 hB ls hl h
        refine lv_istore (lv' := [(10, .int s316_0), (0, .ref (ad 77)), (7, .ref q_v18), (11, .int x11)]) hx hb dL_tunes_316 hl (by decide) rfl (fun ls hl => ?_)
        refine lv_iinc (v := (x11 + 1)) (lv' := [(11, .int (x11 + 1)), (10, .int s316_0), (0, .ref (ad 77)), (7, .ref q_v18)]) hx hb dL_tunes_318 hl (k := 3) rfl rfl (by decide) rfl (fun ls hl => ?_)
        refine lv_goto (tgt := 285) hx hb dL_tunes_321 (by decide) ?_
        exact ih285 G s316_0 (x11 + 1) q_v18 _ _ _ _ hf_v18 hP hS hA_v18 (hB.le (by omega)) ls (lv_sub hl [2, 3, 1, 0] rfl) h
      have key315 : ∀ (x11 : Int32) (G : GT) (q_v18 : Nat) (H : Heap) (locs : List Loc) (cells slots : Nat), s.heap.size ≤ q_v18 → va_P D vwCl (wsC Y ad G) H → va_S (AW 90 ad) s.heap H locs → AI Y ad q_v18 12 W_v18 H → Bg 551 cells slots (n285 * 1 + 5) → ∀ ls : Array Slot, lv_has ls 15 [(0, .ref (ad 77)), (7, .ref q_v18), (11, .int x11)] → f_L_tunes_315  (f_L_tunes_285   W_v18 n285) W_v18 x11 G = some (r, G') → W p l ev (rmD 12 551 (16 * 551)) s m ([.ref (ad 77)] : List Value).toArray below meth c H locs cells slots (MQ below (LQ (PI (some .boolean) r D Y ad G') (AW 90 ad)) ([.ref (ad 77)] : List Value).toArray s 551 (16 * 551) (AW 90 ad)) (F0 m 315 ls []) := by
        intro x11 G q_v18 H locs cells slots hf_v18 hP hS hA_v18 hB ls hl h
        refine lv_iconst (v := 0) hx hb dL_tunes_315 (by decide) ?_
        exact key316 x11 (0 : Int32) G q_v18 _ _ _ _ hf_v18 hP hS hA_v18 (hB.le (by omega)) ls (lv_sub hl [0, 1, 2] rfl) h
      intro G x10 x11 q_v18 H locs cells slots hf_v18 hP hS hA_v18 hB ls hl h
      have h := lqS3 h
      refine lv_iload hx hb dL_tunes_285 (lv_at hl 3 rfl) ?_
      refine lv_bipush (v := 12) hx hb dL_tunes_287 (by decide) ?_
      refine lv_icmp_ge (tgt := 324) hx hb dL_tunes_289 (by decide) (fun c1 => ?_) (fun c1 => ?_)
      · have h := ifT h c1
        refine lv_iload hx hb dL_tunes_324 (lv_at hl 2 rfl) ?_
        refine lv_if_eq (tgt := 375) hx hb dL_tunes_326 (by decide) (fun c2 => ?_) (fun c2 => ?_)
        · have h := ifT h c2
          refine lv_iconst (v := 0) hx hb dL_tunes_375 (by decide) ?_
          exact lm_end F hP hS hB hr hk rfl h dL_tunes_376
        · have h := ifF h c2
          refine lv_aload_n hx hb dL_tunes_329 rfl (lv_at hl 0 rfl) ?_
          refine lv_bipush (v := 12) hx hb dL_tunes_330 (by decide) ?_
          obtain ⟨r3, G3, e3, h⟩ := bsome2 h
          refine lh_i (B' := (n285 * 1 + 5)) F hP hK hE hS hB kl_withPitch mw_1005 (ql_withPitch l hst D Y ad hI G (12 : Int32) r3 G3 e3) rfl hl.1 ⟨Nat.le_of_ble_eq_true rfl, Nat.le_of_ble_eq_true rfl⟩ (rest := []) rfl (Nat.le_of_ble_eq_true rfl) (by omega) dL_tunes_332 (fun H locs cells slots hP hS hkp hB => ?_)
          have hA_v18 := hA_v18.kp hkp
          refine lv_bipush (v := (-12)) hx hb dL_tunes_335 (by decide) ?_
          refine lv_icmp_ne (tgt := 375) hx hb dL_tunes_337 (by decide) (fun c4 => ?_) (fun c4 => ?_)
          · have h := ifF h c4
            refine lv_iconst (v := 0) hx hb dL_tunes_375 (by decide) ?_
            exact lm_end F hP hS hB hr hk rfl h dL_tunes_376
          · have h := ifT h c4
            refine lv_aload_n hx hb dL_tunes_340 rfl (lv_at hl 0 rfl) ?_
            refine lv_iconst (v := (-1)) hx hb dL_tunes_341 (by decide) ?_
            obtain ⟨r5, G5, e5, h⟩ := bsome2 h
            refine lh_i (B' := (n285 * 1 + 4)) F hP hK hE hS hB kl_withPitch mw_1005 (ql_withPitch l hst D Y ad hI G3 (-1 : Int32) r5 G5 e5) rfl hl.1 ⟨Nat.le_of_ble_eq_true rfl, Nat.le_of_ble_eq_true rfl⟩ (rest := []) rfl (Nat.le_of_ble_eq_true rfl) (by omega) dL_tunes_342 (fun H locs cells slots hP hS hkp hB => ?_)
            have hA_v18 := hA_v18.kp hkp
            refine lv_bipush (v := (-12)) hx hb dL_tunes_345 (by decide) ?_
            refine lv_icmp_ne (tgt := 375) hx hb dL_tunes_347 (by decide) (fun c6 => ?_) (fun c6 => ?_)
            · have h := ifF h c6
              refine lv_iconst (v := 0) hx hb dL_tunes_375 (by decide) ?_
              exact lm_end F hP hS hB hr hk rfl h dL_tunes_376
            · have h := ifT h c6
              refine lv_aload_n hx hb dL_tunes_350 rfl (lv_at hl 0 rfl) ?_
              obtain ⟨r7, G7, e7, h⟩ := bR h
              refine lx_Vf (B' := (n285 * 1 + 3)) F hP hK hS hB k_X9_filledShare mw_1016 rfl (q_X9_filledShare l hst D Y ad hI G5  (.inr r7) G7 e7) rfl hl.1 ⟨Nat.le_of_ble_eq_true rfl, Nat.le_of_ble_eq_true rfl⟩ (rest := []) rfl (Nat.le_of_ble_eq_true rfl) (by omega) dL_tunes_351 (fun H locs cells slots hP hS hkp hB => ?_)
              have hA_v18 := hA_v18.kp hkp
              refine lv_aload_n hx hb dL_tunes_354 rfl (lv_at hl 0 rfl) ?_
              refine lv_iconst (v := 2) hx hb dL_tunes_355 (by decide) ?_
              obtain ⟨r8, G8, e8, h⟩ := bR h
              refine lx_V (B' := (n285 * 1 + 2)) F hP hK hS hB k_X9_account mw_621 rfl (q_X9_account l hst D Y ad hI G7 (2 : Int32) (.inr r8) G8 e8) rfl hl.1 ⟨Nat.le_of_ble_eq_true rfl, Nat.le_of_ble_eq_true rfl⟩ (rest := [.float r7]) rfl (Nat.le_of_ble_eq_true rfl) (by omega) dL_tunes_356 (fun H locs cells slots o8 hP hS hkp hB => ?_)
              have hA_v18 := hA_v18.kp hkp
              refine lv_i2f hx hb dL_tunes_359 ?_
              refine lv_aload_n hx hb dL_tunes_360 rfl (lv_at hl 0 rfl) ?_
              refine lv_iconst (v := 1) hx hb dL_tunes_361 (by decide) ?_
              obtain ⟨r9, G9, e9, h⟩ := bR h
              refine lx_V (B' := (n285 * 1 + 1)) F hP hK hS hB k_X9_account mw_621 rfl (q_X9_account l hst D Y ad hI G8 (1 : Int32) (.inr r9) G9 e9) rfl hl.1 ⟨Nat.le_of_ble_eq_true rfl, Nat.le_of_ble_eq_true rfl⟩ (rest := [.float (FP.i2f r8), .float r7]) rfl (Nat.le_of_ble_eq_true rfl) (by omega) dL_tunes_362 (fun H locs cells slots o9 hP hS hkp hB => ?_)
              have hA_v18 := hA_v18.kp hkp
              refine lv_i2f hx hb dL_tunes_365 ?_
              obtain ⟨b10, h⟩ := ckS h
              refine lv_fdiv hx hb dL_tunes_366 b10 ?_
              refine lv_fcmp hx hb dL_tunes_367 ?_
              refine lv_if_ne (tgt := 375) hx hb dL_tunes_368 (by decide) (fun c11 => ?_) (fun c11 => ?_)
              · have h := ifF h c11
                refine lv_iconst (v := 0) hx hb dL_tunes_375 (by decide) ?_
                exact lm_end F hP hS hB hr hk rfl h dL_tunes_376
              · have h := ifT h c11
                refine lv_iconst (v := 1) hx hb dL_tunes_371 (by decide) ?_
                refine lv_goto (tgt := 376) hx hb dL_tunes_372 (by decide) ?_
                exact lm_end F hP hS hB hr hk rfl h dL_tunes_376
      · have h := ifF h c1
        refine lv_iload hx hb dL_tunes_292 (lv_at hl 2 rfl) ?_
        refine lv_if_eq (tgt := 315) hx hb dL_tunes_294 (by decide) (fun c12 => ?_) (fun c12 => ?_)
        · have h := ifT h c12
          exact key315 x11 G q_v18 _ _ _ _ hf_v18 hP hS hA_v18 (hB.le (by omega)) ls (lv_sub hl [0, 1, 3] rfl) h
        · have h := ifF h c12
          refine lv_aload_n hx hb dL_tunes_297 rfl (lv_at hl 0 rfl) ?_
          refine lv_iload hx hb dL_tunes_298 (lv_at hl 3 rfl) ?_
          obtain ⟨r13, G13, e13, h⟩ := bsome2 h
          refine lh_i (B' := (n285 * 1 + 5)) F hP hK hE hS hB kl_withPitch mw_1005 (ql_withPitch l hst D Y ad hI G x11 r13 G13 e13) rfl hl.1 ⟨Nat.le_of_ble_eq_true rfl, Nat.le_of_ble_eq_true rfl⟩ (rest := []) rfl (Nat.le_of_ble_eq_true rfl) (by omega) dL_tunes_300 (fun H locs cells slots hP hS hkp hB => ?_)
          have hA_v18 := hA_v18.kp hkp
          refine lv_aload hx hb dL_tunes_303 (lv_at hl 1 rfl) ?_
          refine lv_iload hx hb dL_tunes_305 (lv_at hl 3 rfl) ?_
          obtain ⟨b14, h⟩ := ckS h
          refine ai_ld F hA_v18 (inbV b14 (by decide)) dL_tunes_307 ?_
          refine lv_icmp_ne (tgt := 315) hx hb dL_tunes_308 (by decide) (fun c15 => ?_) (fun c15 => ?_)
          · have h := ifF h c15
            exact key315 x11 G13 q_v18 _ _ _ _ hf_v18 hP hS hA_v18 (hB.le (by omega)) ls (lv_sub hl [0, 1, 3] rfl) h
          · have h := ifT h c15
            refine lv_iconst (v := 1) hx hb dL_tunes_311 (by decide) ?_
            refine lv_goto (tgt := 316) hx hb dL_tunes_312 (by decide) ?_
            exact key316 x11 (1 : Int32) G13 q_v18 _ _ _ _ hf_v18 hP hS hA_v18 (hB.le (by omega)) ls (lv_sub hl [0, 1, 3] rfl) h
  have key280 : ∀ (W_v18 : Nat → Int32) (s280_0 : Int32) (G : GT) (q_v18 : Nat) (H : Heap) (locs : List Loc) (cells slots : Nat), s.heap.size ≤ q_v18 → va_P D vwCl (wsC Y ad G) H → va_S (AW 90 ad) s.heap H locs → AI Y ad q_v18 12 W_v18 H → Bg 551 cells slots (18) → ∀ ls : Array Slot, lv_has ls 15 [(0, .ref (ad 77)), (7, .ref q_v18)] → f_L_tunes_280   W_v18 s280_0 G = some (r, G') → W p l ev (rmD 12 551 (16 * 551)) s m ([.ref (ad 77)] : List Value).toArray below meth c H locs cells slots (MQ below (LQ (PI (some .boolean) r D Y ad G') (AW 90 ad)) ([.ref (ad 77)] : List Value).toArray s 551 (16 * 551) (AW 90 ad)) (F0 m 280 ls [.int s280_0]) := by
    intro W_v18 s280_0 G q_v18 H locs cells slots hf_v18 hP hS hA_v18 hB ls hl h
    refine lv_istore (lv' := [(10, .int s280_0), (0, .ref (ad 77)), (7, .ref q_v18)]) hx hb dL_tunes_280 hl (by decide) rfl (fun ls hl => ?_)
    refine lv_iconst (v := 0) hx hb dL_tunes_282 (by decide) ?_
    refine lv_istore (lv' := [(11, .int (0 : Int32)), (10, .int s280_0), (0, .ref (ad 77)), (7, .ref q_v18)]) hx hb dL_tunes_283 hl (by decide) rfl (fun ls hl => ?_)
    exact key285 W_v18 13 G s280_0 (0 : Int32) q_v18 _ _ _ _ hf_v18 hP hS hA_v18 (hB.le (by omega)) ls (lv_sub hl [2, 3, 1, 0] rfl) h
  have key279 : ∀ (W_v18 : Nat → Int32) (G : GT) (q_v18 : Nat) (H : Heap) (locs : List Loc) (cells slots : Nat), s.heap.size ≤ q_v18 → va_P D vwCl (wsC Y ad G) H → va_S (AW 90 ad) s.heap H locs → AI Y ad q_v18 12 W_v18 H → Bg 551 cells slots (18) → ∀ ls : Array Slot, lv_has ls 15 [(0, .ref (ad 77)), (7, .ref q_v18)] → f_L_tunes_279   W_v18 G = some (r, G') → W p l ev (rmD 12 551 (16 * 551)) s m ([.ref (ad 77)] : List Value).toArray below meth c H locs cells slots (MQ below (LQ (PI (some .boolean) r D Y ad G') (AW 90 ad)) ([.ref (ad 77)] : List Value).toArray s 551 (16 * 551) (AW 90 ad)) (F0 m 279 ls []) := by
    intro W_v18 G q_v18 H locs cells slots hf_v18 hP hS hA_v18 hB ls hl h
    refine lv_iconst (v := 0) hx hb dL_tunes_279 (by decide) ?_
    exact key280 W_v18 (0 : Int32) G q_v18 _ _ _ _ hf_v18 hP hS hA_v18 (hB.le (by omega)) ls (lv_sub hl [0, 1] rfl) h
  have key275 : ∀ (W_v18 : Nat → Int32) (G : GT) (q_v18 : Nat) (H : Heap) (locs : List Loc) (cells slots : Nat), s.heap.size ≤ q_v18 → va_P D vwCl (wsC Y ad G) H → va_S (AW 90 ad) s.heap H locs → AI Y ad q_v18 12 W_v18 H → Bg 551 cells slots (18) → ∀ ls : Array Slot, lv_has ls 15 [(0, .ref (ad 77)), (7, .ref q_v18)] → f_L_tunes_275   W_v18 G = some (r, G') → W p l ev (rmD 12 551 (16 * 551)) s m ([.ref (ad 77)] : List Value).toArray below meth c H locs cells slots (MQ below (LQ (PI (some .boolean) r D Y ad G') (AW 90 ad)) ([.ref (ad 77)] : List Value).toArray s 551 (16 * 551) (AW 90 ad)) (F0 m 275 ls []) := by
    intro W_v18 G q_v18 H locs cells slots hf_v18 hP hS hA_v18 hB ls hl h
    refine lv_iconst (v := 1) hx hb dL_tunes_275 (by decide) ?_
    refine lv_goto (tgt := 280) hx hb dL_tunes_276 (by decide) ?_
    exact key280 W_v18 (1 : Int32) G q_v18 _ _ _ _ hf_v18 hP hS hA_v18 (hB.le (by omega)) ls (lv_sub hl [0, 1] rfl) h
  have key226 : ∀ (W_v18 : Nat → Int32) (x8 : Int32) (x9 : Int32) (s226_0 : Int32) (s226_1 : Int32) (G : GT) (q_v18 : Nat) (H : Heap) (locs : List Loc) (cells slots : Nat), s.heap.size ≤ q_v18 → va_P D vwCl (wsC Y ad G) H → va_S (AW 90 ad) s.heap H locs → AI Y ad q_v18 12 W_v18 H → Bg 551 cells slots (22) → ∀ ls : Array Slot, lv_has ls 15 [(0, .ref (ad 77)), (7, .ref q_v18), (8, .int x8), (9, .int x9)] → f_L_tunes_226   W_v18 x8 x9 s226_0 s226_1 G = some (r, G') → W p l ev (rmD 12 551 (16 * 551)) s m ([.ref (ad 77)] : List Value).toArray below meth c H locs cells slots (MQ below (LQ (PI (some .boolean) r D Y ad G') (AW 90 ad)) ([.ref (ad 77)] : List Value).toArray s 551 (16 * 551) (AW 90 ad)) (F0 m 226 ls [.int s226_0, .int s226_1]) := by
    intro W_v18 x8 x9 s226_0 s226_1 G q_v18 H locs cells slots hf_v18 hP hS hA_v18 hB ls hl h
    refine lv_icmp_ne (tgt := 279) hx hb dL_tunes_226 (by decide) (fun c16 => ?_) (fun c16 => ?_)
    · have h := ifF h c16
      exact key279 W_v18 G q_v18 _ _ _ _ hf_v18 hP hS hA_v18 (hB.le (by omega)) ls (lv_sub hl [0, 1] rfl) h
    · have h := ifT h c16
      refine lv_aload_n hx hb dL_tunes_229 rfl (lv_at hl 0 rfl) ?_
      refine lv_iconst (v := 4) hx hb dL_tunes_230 (by decide) ?_
      obtain ⟨r17, G17, e17, h⟩ := bR h
      refine lx_V (B' := (21)) F hP hK hS hB k_X9_account mw_621 rfl (q_X9_account l hst D Y ad hI G (4 : Int32) (.inr r17) G17 e17) rfl hl.1 ⟨Nat.le_of_ble_eq_true rfl, Nat.le_of_ble_eq_true rfl⟩ (rest := []) rfl (Nat.le_of_ble_eq_true rfl) (by omega) dL_tunes_231 (fun H locs cells slots o17 hP hS hkp hB => ?_)
      have hA_v18 := hA_v18.kp hkp
      refine lv_iload hx hb dL_tunes_234 (lv_at hl 3 rfl) ?_
      refine lv_icmp_ne (tgt := 279) hx hb dL_tunes_236 (by decide) (fun c18 => ?_) (fun c18 => ?_)
      · have h := ifF h c18
        exact key279 W_v18 G17 q_v18 _ _ _ _ hf_v18 hP hS hA_v18 (hB.le (by omega)) ls (lv_sub hl [0, 1] rfl) h
      · have h := ifT h c18
        refine lv_aload_n hx hb dL_tunes_239 rfl (lv_at hl 0 rfl) ?_
        refine lv_iconst (v := 5) hx hb dL_tunes_240 (by decide) ?_
        obtain ⟨r19, G19, e19, h⟩ := bR h
        refine lx_V (B' := (20)) F hP hK hS hB k_X9_account mw_621 rfl (q_X9_account l hst D Y ad hI G17 (5 : Int32) (.inr r19) G19 e19) rfl hl.1 ⟨Nat.le_of_ble_eq_true rfl, Nat.le_of_ble_eq_true rfl⟩ (rest := []) rfl (Nat.le_of_ble_eq_true rfl) (by omega) dL_tunes_241 (fun H locs cells slots o19 hP hS hkp hB => ?_)
        have hA_v18 := hA_v18.kp hkp
        refine lv_aload_n hx hb dL_tunes_244 rfl (lv_at hl 0 rfl) ?_
        refine lv_iconst (v := 3) hx hb dL_tunes_245 (by decide) ?_
        obtain ⟨r20, G20, e20, h⟩ := bR h
        refine lx_V (B' := (19)) F hP hK hS hB k_X9_account mw_621 rfl (q_X9_account l hst D Y ad hI G19 (3 : Int32) (.inr r20) G20 e20) rfl hl.1 ⟨Nat.le_of_ble_eq_true rfl, Nat.le_of_ble_eq_true rfl⟩ (rest := [.int r19]) rfl (Nat.le_of_ble_eq_true rfl) (by omega) dL_tunes_246 (fun H locs cells slots o20 hP hS hkp hB => ?_)
        have hA_v18 := hA_v18.kp hkp
        refine lv_iload hx hb dL_tunes_249 (lv_at hl 3 rfl) ?_
        refine lv_isub hx hb dL_tunes_251 ?_
        refine lv_icmp_ne (tgt := 279) hx hb dL_tunes_252 (by decide) (fun c21 => ?_) (fun c21 => ?_)
        · have h := ifF h c21
          exact key279 W_v18 G20 q_v18 _ _ _ _ hf_v18 hP hS hA_v18 (hB.le (by omega)) ls (lv_sub hl [0, 1] rfl) h
        · have h := ifT h c21
          refine lv_iload hx hb dL_tunes_255 (lv_at hl 3 rfl) ?_
          refine lv_if_eq (tgt := 275) hx hb dL_tunes_257 (by decide) (fun c22 => ?_) (fun c22 => ?_)
          · have h := ifT h c22
            exact key275 W_v18 G20 q_v18 _ _ _ _ hf_v18 hP hS hA_v18 (hB.le (by omega)) ls (lv_sub hl [0, 1] rfl) h
          · have h := ifF h c22
            refine lv_aload_n hx hb dL_tunes_260 rfl (lv_at hl 0 rfl) ?_
            obtain ⟨r23, G23, e23, h⟩ := bR h
            refine lx_Vd (B' := (18)) F hP hK hS hB k_X9_meanPitch mw_976 rfl (q_X9_meanPitch l hst D Y ad hI G20  (.inr r23) G23 e23) rfl hl.1 ⟨Nat.le_of_ble_eq_true rfl, Nat.le_of_ble_eq_true rfl⟩ (rest := []) rfl (Nat.le_of_ble_eq_true rfl) (by omega) dL_tunes_261 (fun H locs cells slots hP hS hkp hB => ?_)
            have hA_v18 := hA_v18.kp hkp
            refine lv_iload hx hb dL_tunes_264 (lv_at hl 2 rfl) ?_
            refine lv_i2d hx hb dL_tunes_266 ?_
            refine lv_iload hx hb dL_tunes_267 (lv_at hl 3 rfl) ?_
            refine lv_i2d hx hb dL_tunes_269 ?_
            obtain ⟨b24, h⟩ := ckS h
            refine lv_ddiv hx hb dL_tunes_270 b24 ?_
            refine lv_dcmp hx hb dL_tunes_271 ?_
            refine lv_if_ne (tgt := 279) hx hb dL_tunes_272 (by decide) (fun c25 => ?_) (fun c25 => ?_)
            · have h := ifF h c25
              exact key279 W_v18 G23 q_v18 _ _ _ _ hf_v18 hP hS hA_v18 (hB.le (by omega)) ls (lv_sub hl [0, 1] rfl) h
            · have h := ifT h c25
              exact key275 W_v18 G23 q_v18 _ _ _ _ hf_v18 hP hS hA_v18 (hB.le (by omega)) ls (lv_sub hl [0, 1] rfl) h
  have key42 : ∀ (n_m29 : Nat) (S_m29 : Nat → Nat → Int32) (x11 : Int32) (n : Nat) (G : GT) (W_v18 : Nat → Int32) (x1 : Int32) (x2 : Int32) (x3 : Int32) (x4 : Int32) (x5 : Int32) (x6 : Int32) (x8 : Int32) (x9 : Int32) (x12 : Int32) (q_v18 : Nat) (q_m29 : Nat) (r_m29 : Nat → Nat) (H : Heap) (locs : List Loc) (cells slots : Nat), s.heap.size ≤ q_v18 → (s.heap.size ≤ q_m29 ∧ ∀ i, i < n_m29 → s.heap.size ≤ r_m29 i) → (q_m29 ≠ q_v18 ∧ ∀ i, i < n_m29 → r_m29 i ≠ q_v18) → va_P D vwCl (wsC Y ad G) H → va_S (AW 90 ad) s.heap H locs → AI Y ad q_v18 12 W_v18 H → MX Y ad q_m29 n_m29 r_m29 S_m29 H → Bg 551 cells slots (n * 0 + 22) → ∀ ls : Array Slot, lv_has ls 15 [(0, .ref (ad 77)), (1, .int x1), (2, .int x2), (3, .int x3), (4, .int x4), (5, .int x5), (6, .int x6), (7, .ref q_v18), (8, .int x8), (9, .int x9), (10, .ref q_m29), (11, .int x11), (12, .int x12)] → f_L_tunes_42   n_m29 S_m29 x11 n G W_v18 x1 x2 x3 x4 x5 x6 x8 x9 x12 = some (r, G') → W p l ev (rmD 12 551 (16 * 551)) s m ([.ref (ad 77)] : List Value).toArray below meth c H locs cells slots (MQ below (LQ (PI (some .boolean) r D Y ad G') (AW 90 ad)) ([.ref (ad 77)] : List Value).toArray s 551 (16 * 551) (AW 90 ad)) (F0 m 42 ls []) := by
    intro n_m29 S_m29 x11
    intro n
    induction n with
    | zero => intro G W_v18 x1 x2 x3 x4 x5 x6 x8 x9 x12 q_v18 q_m29 r_m29 H locs cells slots hf_v18 hf_m29 hne_m29_v18 hP hS hA_v18 hA_m29 hB ls hl h; exact lqZ11 h
    | succ n42 ih42 =>
      have key166 : ∀ (W_v18 : Nat → Int32) (x1 : Int32) (x2 : Int32) (x3 : Int32) (x4 : Int32) (x5 : Int32) (x6 : Int32) (x8 : Int32) (x9 : Int32) (x12 : Int32) (G : GT) (q_v18 : Nat) (q_m29 : Nat) (r_m29 : Nat → Nat) (H : Heap) (locs : List Loc) (cells slots : Nat), s.heap.size ≤ q_v18 → (s.heap.size ≤ q_m29 ∧ ∀ i, i < n_m29 → s.heap.size ≤ r_m29 i) → (q_m29 ≠ q_v18 ∧ ∀ i, i < n_m29 → r_m29 i ≠ q_v18) → va_P D vwCl (wsC Y ad G) H → va_S (AW 90 ad) s.heap H locs → AI Y ad q_v18 12 W_v18 H → MX Y ad q_m29 n_m29 r_m29 S_m29 H → Bg 551 cells slots (n42 * 0 + 22) → ∀ ls : Array Slot, lv_has ls 15 [(0, .ref (ad 77)), (1, .int x1), (2, .int x2), (3, .int x3), (4, .int x4), (5, .int x5), (6, .int x6), (7, .ref q_v18), (8, .int x8), (9, .int x9), (10, .ref q_m29), (11, .int x11), (12, .int x12)] → f_L_tunes_166  (f_L_tunes_42   n_m29 S_m29 x11 n42) n_m29 S_m29 x11 W_v18 x1 x2 x3 x4 x5 x6 x8 x9 x12 G = some (r, G') → W p l ev (rmD 12 551 (16 * 551)) s m ([.ref (ad 77)] : List Value).toArray below meth c H locs cells slots (MQ below (LQ (PI (some .boolean) r D Y ad G') (AW 90 ad)) ([.ref (ad 77)] : List Value).toArray s 551 (16 * 551) (AW 90 ad)) (F0 m 166 ls []) := by
        intro W_v18 x1 x2 x3 x4 x5 x6 x8 x9 x12 G q_v18 q_m29 r_m29 H locs cells slots hf_v18 hf_m29 hne_m29_v18 hP hS hA_v18 hA_m29 hB ls hl h
        refine lv_iinc (v := (x12 + 1)) (lv' := [(12, .int (x12 + 1)), (0, .ref (ad 77)), (1, .int x1), (2, .int x2), (3, .int x3), (4, .int x4), (5, .int x5), (6, .int x6), (7, .ref q_v18), (8, .int x8), (9, .int x9), (10, .ref q_m29), (11, .int x11)]) hx hb dL_tunes_166 hl (k := 12) rfl rfl (by decide) rfl (fun ls hl => ?_)
        refine lv_goto (tgt := 42) hx hb dL_tunes_169 (by decide) ?_
        exact ih42 G W_v18 x1 x2 x3 x4 x5 x6 x8 x9 (x12 + 1) q_v18 q_m29 r_m29 _ _ _ _ hf_v18 hf_m29 hne_m29_v18 hP hS hA_v18 hA_m29 (hB.le (by omega)) ls (lv_sub hl [1, 2, 3, 4, 5, 6, 7, 8, 9, 10, 11, 12, 0] rfl) h
      have key113 : ∀ (W_v18 : Nat → Int32) (x1 : Int32) (x2 : Int32) (x4 : Int32) (x5 : Int32) (x8 : Int32) (x9 : Int32) (x12 : Int32) (w13 : Nat) (s113_0 : Int32) (s113_1 : Int32) (G : GT) (q_v18 : Nat) (q_m29 : Nat) (r_m29 : Nat → Nat) (H : Heap) (locs : List Loc) (cells slots : Nat), s.heap.size ≤ q_v18 → (s.heap.size ≤ q_m29 ∧ ∀ i, i < n_m29 → s.heap.size ≤ r_m29 i) → (q_m29 ≠ q_v18 ∧ ∀ i, i < n_m29 → r_m29 i ≠ q_v18) → w13 < n_m29 → va_P D vwCl (wsC Y ad G) H → va_S (AW 90 ad) s.heap H locs → AI Y ad q_v18 12 W_v18 H → MX Y ad q_m29 n_m29 r_m29 S_m29 H → Bg 551 cells slots (n42 * 0 + 22) → ∀ ls : Array Slot, lv_has ls 15 [(0, .ref (ad 77)), (1, .int x1), (2, .int x2), (4, .int x4), (5, .int x5), (7, .ref q_v18), (8, .int x8), (9, .int x9), (10, .ref q_m29), (11, .int x11), (12, .int x12), (13, .ref (r_m29 w13))] → f_L_tunes_113  (f_L_tunes_42   n_m29 S_m29 x11 n42) n_m29 S_m29 x11 W_v18 x1 x2 x4 x5 x8 x9 x12 w13 s113_0 s113_1 G = some (r, G') → W p l ev (rmD 12 551 (16 * 551)) s m ([.ref (ad 77)] : List Value).toArray below meth c H locs cells slots (MQ below (LQ (PI (some .boolean) r D Y ad G') (AW 90 ad)) ([.ref (ad 77)] : List Value).toArray s 551 (16 * 551) (AW 90 ad)) (F0 m 113 ls [.int s113_0, .int s113_1]) := by
        intro W_v18 x1 x2 x4 x5 x8 x9 x12 w13 s113_0 s113_1 G q_v18 q_m29 r_m29 H locs cells slots hf_v18 hf_m29 hne_m29_v18 hw13 hP hS hA_v18 hA_m29 hB ls hl h
        refine lv_iadd hx hb dL_tunes_113 ?_
        refine lv_istore_n (lv' := [(3, .int (s113_1 + s113_0)), (0, .ref (ad 77)), (1, .int x1), (2, .int x2), (4, .int x4), (5, .int x5), (7, .ref q_v18), (8, .int x8), (9, .int x9), (10, .ref q_m29), (11, .int x11), (12, .int x12), (13, .ref (r_m29 w13))]) hx hb dL_tunes_114 rfl hl (by decide) rfl (fun ls hl => ?_)
        refine lv_iload hx hb dL_tunes_115 (lv_at hl 4 rfl) ?_
        refine lv_aload hx hb dL_tunes_117 (lv_at hl 12 rfl) ?_
        refine lv_iconst (v := 3) hx hb dL_tunes_119 (by decide) ?_
        refine ai_ldk F (hA_m29.2.2.1 _ hw13).2 (k := 3) (by decide) (inbV (by decide) (by decide)) dL_tunes_120 ?_
        refine lw_min F hl hB mw_762 ⟨Nat.le_of_ble_eq_true rfl, Nat.le_of_ble_eq_true rfl⟩ dL_tunes_121 ?_
        refine lv_istore (lv' := [(4, .int (min32 x4 (S_m29 w13 3))), (3, .int (s113_1 + s113_0)), (0, .ref (ad 77)), (1, .int x1), (2, .int x2), (5, .int x5), (7, .ref q_v18), (8, .int x8), (9, .int x9), (10, .ref q_m29), (11, .int x11), (12, .int x12), (13, .ref (r_m29 w13))]) hx hb dL_tunes_124 hl (by decide) rfl (fun ls hl => ?_)
        refine lv_iload hx hb dL_tunes_126 (lv_at hl 5 rfl) ?_
        refine lv_aload hx hb dL_tunes_128 (lv_at hl 12 rfl) ?_
        refine lv_iconst (v := 3) hx hb dL_tunes_130 (by decide) ?_
        refine ai_ldk F (hA_m29.2.2.1 _ hw13).2 (k := 3) (by decide) (inbV (by decide) (by decide)) dL_tunes_131 ?_
        refine lw_max F hl hB mw_761 ⟨Nat.le_of_ble_eq_true rfl, Nat.le_of_ble_eq_true rfl⟩ dL_tunes_132 ?_
        refine lv_istore (lv' := [(5, .int (max32 x5 (S_m29 w13 3))), (4, .int (min32 x4 (S_m29 w13 3))), (3, .int (s113_1 + s113_0)), (0, .ref (ad 77)), (1, .int x1), (2, .int x2), (7, .ref q_v18), (8, .int x8), (9, .int x9), (10, .ref q_m29), (11, .int x11), (12, .int x12), (13, .ref (r_m29 w13))]) hx hb dL_tunes_135 hl (by decide) rfl (fun ls hl => ?_)
        refine lv_aload hx hb dL_tunes_137 (lv_at hl 6 rfl) ?_
        refine lv_aload hx hb dL_tunes_139 (lv_at hl 12 rfl) ?_
        refine lv_iconst (v := 3) hx hb dL_tunes_141 (by decide) ?_
        refine ai_ldk F (hA_m29.2.2.1 _ hw13).2 (k := 3) (by decide) (inbV (by decide) (by decide)) dL_tunes_142 ?_
        refine lv_dup2_11 hx hb dL_tunes_143 rfl rfl ?_
        obtain ⟨b26, h⟩ := ckS h
        refine ai_ld F hA_v18 (inbV b26 (by decide)) dL_tunes_144 ?_
        refine lv_iconst (v := 1) hx hb dL_tunes_145 (by decide) ?_
        refine lv_iadd hx hb dL_tunes_146 ?_
        obtain ⟨b27, h⟩ := ckS h
        obtain ⟨W28, eW28, h⟩ := bsome h
        refine ai_st F hA_v18 hf_v18 (inbV b27 (by decide)) dL_tunes_147 (fun H hnew hsk => ?_)
        have hP := sk_P hP hnew.1 hsk
        have hS := sk_S hS hf_v18 hsk
        have hA_v18 := cvA eW28 hnew
        have hA_m29 := hA_m29.sk hsk hne_m29_v18.1 hne_m29_v18.2
        refine lv_iload hx hb dL_tunes_148 (lv_at hl 7 rfl) ?_
        refine lv_aload hx hb dL_tunes_150 (lv_at hl 12 rfl) ?_
        refine lv_iconst (v := 3) hx hb dL_tunes_152 (by decide) ?_
        refine ai_ldk F (hA_m29.2.2.1 _ hw13).2 (k := 3) (by decide) (inbV (by decide) (by decide)) dL_tunes_153 ?_
        refine lv_iadd hx hb dL_tunes_154 ?_
        refine lv_istore (lv' := [(8, .int (x8 + (S_m29 w13 3))), (5, .int (max32 x5 (S_m29 w13 3))), (4, .int (min32 x4 (S_m29 w13 3))), (3, .int (s113_1 + s113_0)), (0, .ref (ad 77)), (1, .int x1), (2, .int x2), (7, .ref q_v18), (9, .int x9), (10, .ref q_m29), (11, .int x11), (12, .int x12), (13, .ref (r_m29 w13))]) hx hb dL_tunes_155 hl (by decide) rfl (fun ls hl => ?_)
        refine lv_iinc (v := (x9 + 1)) (lv' := [(9, .int (x9 + 1)), (8, .int (x8 + (S_m29 w13 3))), (5, .int (max32 x5 (S_m29 w13 3))), (4, .int (min32 x4 (S_m29 w13 3))), (3, .int (s113_1 + s113_0)), (0, .ref (ad 77)), (1, .int x1), (2, .int x2), (7, .ref q_v18), (10, .ref q_m29), (11, .int x11), (12, .int x12), (13, .ref (r_m29 w13))]) hx hb dL_tunes_157 hl (k := 8) rfl rfl (by decide) rfl (fun ls hl => ?_)
        refine lv_aload hx hb dL_tunes_160 (lv_at hl 12 rfl) ?_
        refine lv_iconst (v := 3) hx hb dL_tunes_162 (by decide) ?_
        refine ai_ldk F (hA_m29.2.2.1 _ hw13).2 (k := 3) (by decide) (inbV (by decide) (by decide)) dL_tunes_163 ?_
        refine lv_istore (lv' := [(6, .int (S_m29 w13 3)), (9, .int (x9 + 1)), (8, .int (x8 + (S_m29 w13 3))), (5, .int (max32 x5 (S_m29 w13 3))), (4, .int (min32 x4 (S_m29 w13 3))), (3, .int (s113_1 + s113_0)), (0, .ref (ad 77)), (1, .int x1), (2, .int x2), (7, .ref q_v18), (10, .ref q_m29), (11, .int x11), (12, .int x12), (13, .ref (r_m29 w13))]) hx hb dL_tunes_164 hl (by decide) rfl (fun ls hl => ?_)
        exact key166 W28 x1 x2 (s113_1 + s113_0) (min32 x4 (S_m29 w13 3)) (max32 x5 (S_m29 w13 3)) (S_m29 w13 3) (x8 + (S_m29 w13 3)) (x9 + 1) x12 G q_v18 q_m29 r_m29 _ _ _ _ hf_v18 hf_m29 hne_m29_v18 hP hS hA_v18 hA_m29 (hB.le (by omega)) ls (lv_sub hl [6, 7, 8, 5, 4, 3, 0, 9, 2, 1, 10, 11, 12] rfl) h
      have key100 : ∀ (W_v18 : Nat → Int32) (x1 : Int32) (x3 : Int32) (x4 : Int32) (x5 : Int32) (x8 : Int32) (x9 : Int32) (x12 : Int32) (w13 : Nat) (x14 : Int32) (s100_0 : Int32) (s100_1 : Int32) (G : GT) (q_v18 : Nat) (q_m29 : Nat) (r_m29 : Nat → Nat) (H : Heap) (locs : List Loc) (cells slots : Nat), s.heap.size ≤ q_v18 → (s.heap.size ≤ q_m29 ∧ ∀ i, i < n_m29 → s.heap.size ≤ r_m29 i) → (q_m29 ≠ q_v18 ∧ ∀ i, i < n_m29 → r_m29 i ≠ q_v18) → w13 < n_m29 → va_P D vwCl (wsC Y ad G) H → va_S (AW 90 ad) s.heap H locs → AI Y ad q_v18 12 W_v18 H → MX Y ad q_m29 n_m29 r_m29 S_m29 H → Bg 551 cells slots (n42 * 0 + 22) → ∀ ls : Array Slot, lv_has ls 15 [(0, .ref (ad 77)), (1, .int x1), (3, .int x3), (4, .int x4), (5, .int x5), (7, .ref q_v18), (8, .int x8), (9, .int x9), (10, .ref q_m29), (11, .int x11), (12, .int x12), (13, .ref (r_m29 w13)), (14, .int x14)] → f_L_tunes_100  (f_L_tunes_42   n_m29 S_m29 x11 n42) n_m29 S_m29 x11 W_v18 x1 x3 x4 x5 x8 x9 x12 w13 x14 s100_0 s100_1 G = some (r, G') → W p l ev (rmD 12 551 (16 * 551)) s m ([.ref (ad 77)] : List Value).toArray below meth c H locs cells slots (MQ below (LQ (PI (some .boolean) r D Y ad G') (AW 90 ad)) ([.ref (ad 77)] : List Value).toArray s 551 (16 * 551) (AW 90 ad)) (F0 m 100 ls [.int s100_0, .int s100_1]) := by
        intro W_v18 x1 x3 x4 x5 x8 x9 x12 w13 x14 s100_0 s100_1 G q_v18 q_m29 r_m29 H locs cells slots hf_v18 hf_m29 hne_m29_v18 hw13 hP hS hA_v18 hA_m29 hB ls hl h
        refine lv_iadd hx hb dL_tunes_100 ?_
        refine lv_istore_n (lv' := [(2, .int (s100_1 + s100_0)), (0, .ref (ad 77)), (1, .int x1), (3, .int x3), (4, .int x4), (5, .int x5), (7, .ref q_v18), (8, .int x8), (9, .int x9), (10, .ref q_m29), (11, .int x11), (12, .int x12), (13, .ref (r_m29 w13)), (14, .int x14)]) hx hb dL_tunes_101 rfl hl (by decide) rfl (fun ls hl => ?_)
        refine lv_iload_n hx hb dL_tunes_102 rfl (lv_at hl 3 rfl) ?_
        refine lv_iload hx hb dL_tunes_103 (lv_at hl 13 rfl) ?_
        refine lv_if_ge (tgt := 112) hx hb dL_tunes_105 (by decide) (fun c29 => ?_) (fun c29 => ?_)
        · have h := ifT h c29
          refine lv_iconst (v := 0) hx hb dL_tunes_112 (by decide) ?_
          exact key113 W_v18 x1 (s100_1 + s100_0) x4 x5 x8 x9 x12 w13 (0 : Int32) x3 G q_v18 q_m29 r_m29 _ _ _ _ hf_v18 hf_m29 hne_m29_v18 hw13 hP hS hA_v18 hA_m29 (hB.le (by omega)) ls (lv_sub hl [1, 2, 0, 4, 5, 6, 7, 8, 9, 10, 11, 12] rfl) h
        · have h := ifF h c29
          refine lv_iconst (v := 1) hx hb dL_tunes_108 (by decide) ?_
          refine lv_goto (tgt := 113) hx hb dL_tunes_109 (by decide) ?_
          exact key113 W_v18 x1 (s100_1 + s100_0) x4 x5 x8 x9 x12 w13 (1 : Int32) x3 G q_v18 q_m29 r_m29 _ _ _ _ hf_v18 hf_m29 hne_m29_v18 hw13 hP hS hA_v18 hA_m29 (hB.le (by omega)) ls (lv_sub hl [1, 2, 0, 4, 5, 6, 7, 8, 9, 10, 11, 12] rfl) h
      have key79 : ∀ (W_v18 : Nat → Int32) (x1 : Int32) (x2 : Int32) (x3 : Int32) (x4 : Int32) (x5 : Int32) (x8 : Int32) (x9 : Int32) (x12 : Int32) (w13 : Nat) (s79_0 : Int32) (G : GT) (q_v18 : Nat) (q_m29 : Nat) (r_m29 : Nat → Nat) (H : Heap) (locs : List Loc) (cells slots : Nat), s.heap.size ≤ q_v18 → (s.heap.size ≤ q_m29 ∧ ∀ i, i < n_m29 → s.heap.size ≤ r_m29 i) → (q_m29 ≠ q_v18 ∧ ∀ i, i < n_m29 → r_m29 i ≠ q_v18) → w13 < n_m29 → va_P D vwCl (wsC Y ad G) H → va_S (AW 90 ad) s.heap H locs → AI Y ad q_v18 12 W_v18 H → MX Y ad q_m29 n_m29 r_m29 S_m29 H → Bg 551 cells slots (n42 * 0 + 22) → ∀ ls : Array Slot, lv_has ls 15 [(0, .ref (ad 77)), (1, .int x1), (2, .int x2), (3, .int x3), (4, .int x4), (5, .int x5), (7, .ref q_v18), (8, .int x8), (9, .int x9), (10, .ref q_m29), (11, .int x11), (12, .int x12), (13, .ref (r_m29 w13))] → f_L_tunes_79  (f_L_tunes_42   n_m29 S_m29 x11 n42) n_m29 S_m29 x11 W_v18 x1 x2 x3 x4 x5 x8 x9 x12 w13 s79_0 G = some (r, G') → W p l ev (rmD 12 551 (16 * 551)) s m ([.ref (ad 77)] : List Value).toArray below meth c H locs cells slots (MQ below (LQ (PI (some .boolean) r D Y ad G') (AW 90 ad)) ([.ref (ad 77)] : List Value).toArray s 551 (16 * 551) (AW 90 ad)) (F0 m 79 ls [.int s79_0]) := by
        intro W_v18 x1 x2 x3 x4 x5 x8 x9 x12 w13 s79_0 G q_v18 q_m29 r_m29 H locs cells slots hf_v18 hf_m29 hne_m29_v18 hw13 hP hS hA_v18 hA_m29 hB ls hl h
        refine lv_istore (lv' := [(14, .int s79_0), (0, .ref (ad 77)), (1, .int x1), (2, .int x2), (3, .int x3), (4, .int x4), (5, .int x5), (7, .ref q_v18), (8, .int x8), (9, .int x9), (10, .ref q_m29), (11, .int x11), (12, .int x12), (13, .ref (r_m29 w13))]) hx hb dL_tunes_79 hl (by decide) rfl (fun ls hl => ?_)
        refine lv_iload_n hx hb dL_tunes_81 rfl (lv_at hl 2 rfl) ?_
        refine lv_iload hx hb dL_tunes_82 (lv_at hl 0 rfl) ?_
        refine lw_abs F hl hB mw_805 ⟨Nat.le_of_ble_eq_true rfl, Nat.le_of_ble_eq_true rfl⟩ dL_tunes_84 ?_
        refine lv_iadd hx hb dL_tunes_87 ?_
        refine lv_istore_n (lv' := [(1, .int (x1 + (abs32 s79_0))), (14, .int s79_0), (0, .ref (ad 77)), (2, .int x2), (3, .int x3), (4, .int x4), (5, .int x5), (7, .ref q_v18), (8, .int x8), (9, .int x9), (10, .ref q_m29), (11, .int x11), (12, .int x12), (13, .ref (r_m29 w13))]) hx hb dL_tunes_88 rfl hl (by decide) rfl (fun ls hl => ?_)
        refine lv_iload_n hx hb dL_tunes_89 rfl (lv_at hl 3 rfl) ?_
        refine lv_iload hx hb dL_tunes_90 (lv_at hl 1 rfl) ?_
        refine lv_if_le (tgt := 99) hx hb dL_tunes_92 (by decide) (fun c30 => ?_) (fun c30 => ?_)
        · have h := ifT h c30
          refine lv_iconst (v := 0) hx hb dL_tunes_99 (by decide) ?_
          exact key100 W_v18 (x1 + (abs32 s79_0)) x3 x4 x5 x8 x9 x12 w13 s79_0 (0 : Int32) x2 G q_v18 q_m29 r_m29 _ _ _ _ hf_v18 hf_m29 hne_m29_v18 hw13 hP hS hA_v18 hA_m29 (hB.le (by omega)) ls (lv_sub hl [2, 0, 4, 5, 6, 7, 8, 9, 10, 11, 12, 13, 1] rfl) h
        · have h := ifF h c30
          refine lv_iconst (v := 1) hx hb dL_tunes_95 (by decide) ?_
          refine lv_goto (tgt := 100) hx hb dL_tunes_96 (by decide) ?_
          exact key100 W_v18 (x1 + (abs32 s79_0)) x3 x4 x5 x8 x9 x12 w13 s79_0 (1 : Int32) x2 G q_v18 q_m29 r_m29 _ _ _ _ hf_v18 hf_m29 hne_m29_v18 hw13 hP hS hA_v18 hA_m29 (hB.le (by omega)) ls (lv_sub hl [2, 0, 4, 5, 6, 7, 8, 9, 10, 11, 12, 13, 1] rfl) h
      intro G W_v18 x1 x2 x3 x4 x5 x6 x8 x9 x12 q_v18 q_m29 r_m29 H locs cells slots hf_v18 hf_m29 hne_m29_v18 hP hS hA_v18 hA_m29 hB ls hl h
      have h := lqS11 h
      refine lv_iload hx hb dL_tunes_42 (lv_at hl 12 rfl) ?_
      refine lv_iload hx hb dL_tunes_44 (lv_at hl 11 rfl) ?_
      refine lv_icmp_ge (tgt := 172) hx hb dL_tunes_46 (by decide) (fun c31 => ?_) (fun c31 => ?_)
      · have h := ifT h c31
        refine lv_aload_n hx hb dL_tunes_172 rfl (lv_at hl 0 rfl) ?_
        refine lv_iconst (v := 0) hx hb dL_tunes_173 (by decide) ?_
        obtain ⟨r32, er32, h⟩ := bsome h
        refine rd_V F hP k_X9_walk mw_954 77 10 rfl (wsW_get 77 (by decide)) (q_X9_walk l D Y ad G (0 : Int32) r32 er32) rfl hl.1 ⟨Nat.le_of_ble_eq_true rfl, Nat.le_of_ble_eq_true rfl⟩ (rest := []) rfl (Nat.le_of_ble_eq_true rfl) hB.hc dL_tunes_174 (fun o32 => ?_)
        refine lv_iload_n hx hb dL_tunes_177 rfl (lv_at hl 1 rfl) ?_
        refine lv_icmp_ne (tgt := 279) hx hb dL_tunes_178 (by decide) (fun c33 => ?_) (fun c33 => ?_)
        · have h := ifF h c33
          exact key279 W_v18 G q_v18 _ _ _ _ hf_v18 hP hS hA_v18 (hB.le (by omega)) ls (lv_sub hl [0, 7] rfl) h
        · have h := ifT h c33
          refine lv_aload_n hx hb dL_tunes_181 rfl (lv_at hl 0 rfl) ?_
          refine lv_iconst (v := 1) hx hb dL_tunes_182 (by decide) ?_
          obtain ⟨r34, er34, h⟩ := bsome h
          refine rd_V F hP k_X9_walk mw_954 77 10 rfl (wsW_get 77 (by decide)) (q_X9_walk l D Y ad G (1 : Int32) r34 er34) rfl hl.1 ⟨Nat.le_of_ble_eq_true rfl, Nat.le_of_ble_eq_true rfl⟩ (rest := []) rfl (Nat.le_of_ble_eq_true rfl) hB.hc dL_tunes_183 (fun o34 => ?_)
          refine lv_iload_n hx hb dL_tunes_186 rfl (lv_at hl 1 rfl) ?_
          refine lv_icmp_ne (tgt := 279) hx hb dL_tunes_187 (by decide) (fun c35 => ?_) (fun c35 => ?_)
          · have h := ifF h c35
            exact key279 W_v18 G q_v18 _ _ _ _ hf_v18 hP hS hA_v18 (hB.le (by omega)) ls (lv_sub hl [0, 7] rfl) h
          · have h := ifT h c35
            refine lv_aload_n hx hb dL_tunes_190 rfl (lv_at hl 0 rfl) ?_
            refine lv_iconst (v := 1) hx hb dL_tunes_191 (by decide) ?_
            obtain ⟨r36, er36, h⟩ := bsome h
            refine rd_V F hP k_X9_goes mw_958 77 10 rfl (wsW_get 77 (by decide)) (q_X9_goes l D Y ad G (1 : Int32) r36 er36) rfl hl.1 ⟨Nat.le_of_ble_eq_true rfl, Nat.le_of_ble_eq_true rfl⟩ (rest := []) rfl (Nat.le_of_ble_eq_true rfl) hB.hc dL_tunes_192 (fun o36 => ?_)
            refine lv_iload_n hx hb dL_tunes_195 rfl (lv_at hl 2 rfl) ?_
            refine lv_icmp_ne (tgt := 279) hx hb dL_tunes_196 (by decide) (fun c37 => ?_) (fun c37 => ?_)
            · have h := ifF h c37
              exact key279 W_v18 G q_v18 _ _ _ _ hf_v18 hP hS hA_v18 (hB.le (by omega)) ls (lv_sub hl [0, 7] rfl) h
            · have h := ifT h c37
              refine lv_aload_n hx hb dL_tunes_199 rfl (lv_at hl 0 rfl) ?_
              refine lv_iconst (v := 0) hx hb dL_tunes_200 (by decide) ?_
              obtain ⟨r38, er38, h⟩ := bsome h
              refine rd_V F hP k_X9_goes mw_958 77 10 rfl (wsW_get 77 (by decide)) (q_X9_goes l D Y ad G (0 : Int32) r38 er38) rfl hl.1 ⟨Nat.le_of_ble_eq_true rfl, Nat.le_of_ble_eq_true rfl⟩ (rest := []) rfl (Nat.le_of_ble_eq_true rfl) hB.hc dL_tunes_201 (fun o38 => ?_)
              refine lv_iload_n hx hb dL_tunes_204 rfl (lv_at hl 3 rfl) ?_
              refine lv_icmp_ne (tgt := 279) hx hb dL_tunes_205 (by decide) (fun c39 => ?_) (fun c39 => ?_)
              · have h := ifF h c39
                exact key279 W_v18 G q_v18 _ _ _ _ hf_v18 hP hS hA_v18 (hB.le (by omega)) ls (lv_sub hl [0, 7] rfl) h
              · have h := ifT h c39
                refine lv_aload_n hx hb dL_tunes_208 rfl (lv_at hl 0 rfl) ?_
                obtain ⟨r40, er40, h⟩ := bsome h
                refine rd_V F hP k_X9_span mw_966 77 10 rfl (wsW_get 77 (by decide)) (q_X9_span l D Y ad G  r40 er40) rfl hl.1 ⟨Nat.le_of_ble_eq_true rfl, Nat.le_of_ble_eq_true rfl⟩ (rest := []) rfl (Nat.le_of_ble_eq_true rfl) hB.hc dL_tunes_209 (fun o40 => ?_)
                refine lv_iload hx hb dL_tunes_212 (lv_at hl 9 rfl) ?_
                refine lv_if_ne (tgt := 221) hx hb dL_tunes_214 (by decide) (fun c41 => ?_) (fun c41 => ?_)
                · have h := ifF h c41
                  refine lv_iload hx hb dL_tunes_221 (lv_at hl 5 rfl) ?_
                  refine lv_iload hx hb dL_tunes_223 (lv_at hl 4 rfl) ?_
                  refine lv_isub hx hb dL_tunes_225 ?_
                  exact key226 W_v18 x8 x9 (x5 - x4) r40 G q_v18 _ _ _ _ hf_v18 hP hS hA_v18 (hB.le (by omega)) ls (lv_sub hl [0, 7, 8, 9] rfl) h
                · have h := ifT h c41
                  refine lv_iconst (v := 0) hx hb dL_tunes_217 (by decide) ?_
                  refine lv_goto (tgt := 226) hx hb dL_tunes_218 (by decide) ?_
                  exact key226 W_v18 x8 x9 (0 : Int32) r40 G q_v18 _ _ _ _ hf_v18 hP hS hA_v18 (hB.le (by omega)) ls (lv_sub hl [0, 7, 8, 9] rfl) h
      · have h := ifF h c31
        refine lv_aload hx hb dL_tunes_49 (lv_at hl 10 rfl) ?_
        refine lv_iload hx hb dL_tunes_51 (lv_at hl 12 rfl) ?_
        obtain ⟨b42, h⟩ := ckS h
        refine mx_row F hA_m29 b42 dL_tunes_53 (fun hw43 => ?_)
        refine lv_astore (lv' := [(13, .ref (r_m29 (x12.toNatClampNeg))), (0, .ref (ad 77)), (1, .int x1), (2, .int x2), (3, .int x3), (4, .int x4), (5, .int x5), (6, .int x6), (7, .ref q_v18), (8, .int x8), (9, .int x9), (10, .ref q_m29), (11, .int x11), (12, .int x12)]) hx hb dL_tunes_54 hl (by decide) rfl (fun ls hl => ?_)
        refine lv_aload hx hb dL_tunes_56 (lv_at hl 0 rfl) ?_
        refine lv_iconst (v := 3) hx hb dL_tunes_58 (by decide) ?_
        refine ai_ldk F (hA_m29.2.2.1 _ hw43).2 (k := 3) (by decide) (inbV (by decide) (by decide)) dL_tunes_59 ?_
        refine lv_if_lt (tgt := 166) hx hb dL_tunes_60 (by decide) (fun c44 => ?_) (fun c44 => ?_)
        · have h := ifT h c44
          exact key166 W_v18 x1 x2 x3 x4 x5 x6 x8 x9 x12 G q_v18 q_m29 r_m29 _ _ _ _ hf_v18 hf_m29 hne_m29_v18 hP hS hA_v18 hA_m29 (hB.le (by omega)) ls (lv_sub hl [1, 2, 3, 4, 5, 6, 7, 8, 9, 10, 11, 12, 13] rfl) h
        · have h := ifF h c44
          refine lv_iload hx hb dL_tunes_63 (lv_at hl 7 rfl) ?_
          refine lv_if_ge (tgt := 72) hx hb dL_tunes_65 (by decide) (fun c45 => ?_) (fun c45 => ?_)
          · have h := ifT h c45
            refine lv_aload hx hb dL_tunes_72 (lv_at hl 0 rfl) ?_
            refine lv_iconst (v := 3) hx hb dL_tunes_74 (by decide) ?_
            refine ai_ldk F (hA_m29.2.2.1 _ hw43).2 (k := 3) (by decide) (inbV (by decide) (by decide)) dL_tunes_75 ?_
            refine lv_iload hx hb dL_tunes_76 (lv_at hl 7 rfl) ?_
            refine lv_isub hx hb dL_tunes_78 ?_
            exact key79 W_v18 x1 x2 x3 x4 x5 x8 x9 x12 (x12.toNatClampNeg) ((S_m29 (x12.toNatClampNeg) 3) - x6) G q_v18 q_m29 r_m29 _ _ _ _ hf_v18 hf_m29 hne_m29_v18 hw43 hP hS hA_v18 hA_m29 (hB.le (by omega)) ls (lv_sub hl [1, 2, 3, 4, 5, 6, 8, 9, 10, 11, 12, 13, 0] rfl) h
          · have h := ifF h c45
            refine lv_iconst (v := 0) hx hb dL_tunes_68 (by decide) ?_
            refine lv_goto (tgt := 79) hx hb dL_tunes_69 (by decide) ?_
            exact key79 W_v18 x1 x2 x3 x4 x5 x8 x9 x12 (x12.toNatClampNeg) (0 : Int32) G q_v18 q_m29 r_m29 _ _ _ _ hf_v18 hf_m29 hne_m29_v18 hw43 hP hS hA_v18 hA_m29 (hB.le (by omega)) ls (lv_sub hl [1, 2, 3, 4, 5, 6, 8, 9, 10, 11, 12, 13, 0] rfl) h
  refine lv_iconst (v := 0) hx hb dL_tunes_0 (by decide) ?_
  refine lv_istore_n (lv' := [(1, .int (0 : Int32)), (0, .ref (ad 77))]) hx hb dL_tunes_1 rfl hl (by decide) rfl (fun ls hl => ?_)
  refine lv_iconst (v := 0) hx hb dL_tunes_2 (by decide) ?_
  refine lv_istore_n (lv' := [(2, .int (0 : Int32)), (1, .int (0 : Int32)), (0, .ref (ad 77))]) hx hb dL_tunes_3 rfl hl (by decide) rfl (fun ls hl => ?_)
  refine lv_iconst (v := 0) hx hb dL_tunes_4 (by decide) ?_
  refine lv_istore_n (lv' := [(3, .int (0 : Int32)), (2, .int (0 : Int32)), (1, .int (0 : Int32)), (0, .ref (ad 77))]) hx hb dL_tunes_5 rfl hl (by decide) rfl (fun ls hl => ?_)
  refine lv_bipush (v := 12) hx hb dL_tunes_6 (by decide) ?_
  refine lv_istore (lv' := [(4, .int (12 : Int32)), (3, .int (0 : Int32)), (2, .int (0 : Int32)), (1, .int (0 : Int32)), (0, .ref (ad 77))]) hx hb dL_tunes_8 hl (by decide) rfl (fun ls hl => ?_)
  refine lv_iconst (v := (-1)) hx hb dL_tunes_10 (by decide) ?_
  refine lv_istore (lv' := [(5, .int (-1 : Int32)), (4, .int (12 : Int32)), (3, .int (0 : Int32)), (2, .int (0 : Int32)), (1, .int (0 : Int32)), (0, .ref (ad 77))]) hx hb dL_tunes_11 hl (by decide) rfl (fun ls hl => ?_)
  refine lv_iconst (v := (-1)) hx hb dL_tunes_13 (by decide) ?_
  refine lv_istore (lv' := [(6, .int (-1 : Int32)), (5, .int (-1 : Int32)), (4, .int (12 : Int32)), (3, .int (0 : Int32)), (2, .int (0 : Int32)), (1, .int (0 : Int32)), (0, .ref (ad 77))]) hx hb dL_tunes_14 hl (by decide) rfl (fun ls hl => ?_)
  refine lv_bipush (v := 12) hx hb dL_tunes_16 (by decide) ?_
  refine nw_i (N := 12) (B' := (550)) F hP hS hB (by decide) (by decide) (by omega) (by decide) mw_85 dL_tunes_18 (fun q_v18 H cells slots hA_v18 hf_v18 hd hP hS hkp hB => ?_)
  refine lv_astore (lv' := [(7, .ref q_v18), (6, .int (-1 : Int32)), (5, .int (-1 : Int32)), (4, .int (12 : Int32)), (3, .int (0 : Int32)), (2, .int (0 : Int32)), (1, .int (0 : Int32)), (0, .ref (ad 77))]) hx hb dL_tunes_20 hl (by decide) rfl (fun ls hl => ?_)
  refine lv_iconst (v := 0) hx hb dL_tunes_22 (by decide) ?_
  refine lv_istore (lv' := [(8, .int (0 : Int32)), (7, .ref q_v18), (6, .int (-1 : Int32)), (5, .int (-1 : Int32)), (4, .int (12 : Int32)), (3, .int (0 : Int32)), (2, .int (0 : Int32)), (1, .int (0 : Int32)), (0, .ref (ad 77))]) hx hb dL_tunes_23 hl (by decide) rfl (fun ls hl => ?_)
  refine lv_iconst (v := 0) hx hb dL_tunes_25 (by decide) ?_
  refine lv_istore (lv' := [(9, .int (0 : Int32)), (8, .int (0 : Int32)), (7, .ref q_v18), (6, .int (-1 : Int32)), (5, .int (-1 : Int32)), (4, .int (12 : Int32)), (3, .int (0 : Int32)), (2, .int (0 : Int32)), (1, .int (0 : Int32)), (0, .ref (ad 77))]) hx hb dL_tunes_26 hl (by decide) rfl (fun ls hl => ?_)
  refine lv_aload_n hx hb dL_tunes_28 rfl (lv_at hl 9 rfl) ?_
  obtain ⟨n_m29, S46, G46, e46, h⟩ := bsome3 h
  refine lm_m (B' := (22)) F hP hK hE hS hB ph0_b ph0_o k_L_sounds mw_684 (q_L_sounds l hst D Y ad hI G  n_m29 S46 G46 e46) rfl hl.1 ⟨Nat.le_of_ble_eq_true rfl, Nat.le_of_ble_eq_true rfl⟩ (rest := []) rfl (Nat.le_of_ble_eq_true rfl) (by omega) dL_tunes_29 (fun q_m29 r_m29 H locs cells slots hA_m29 hf_m29 hd hdr hP hS hkp hB => ?_)
  have hne_m29_v18 : (q_m29 ≠ q_v18 ∧ ∀ i, i < n_m29 → r_m29 i ≠ q_v18) := ⟨Ne.symm (hd _ hA_v18.lt), fun i hi => Ne.symm (hdr i hi _ hA_v18.lt)⟩
  have hA_v18 := hA_v18.kp hkp
  refine lv_astore (lv' := [(10, .ref q_m29), (9, .int (0 : Int32)), (8, .int (0 : Int32)), (7, .ref q_v18), (6, .int (-1 : Int32)), (5, .int (-1 : Int32)), (4, .int (12 : Int32)), (3, .int (0 : Int32)), (2, .int (0 : Int32)), (1, .int (0 : Int32)), (0, .ref (ad 77))]) hx hb dL_tunes_32 hl (by decide) rfl (fun ls hl => ?_)
  refine lv_aload hx hb dL_tunes_34 (lv_at hl 0 rfl) ?_
  refine mx_len F hA_m29 dL_tunes_36 ?_
  refine lv_istore (lv' := [(11, .int (nI n_m29)), (10, .ref q_m29), (9, .int (0 : Int32)), (8, .int (0 : Int32)), (7, .ref q_v18), (6, .int (-1 : Int32)), (5, .int (-1 : Int32)), (4, .int (12 : Int32)), (3, .int (0 : Int32)), (2, .int (0 : Int32)), (1, .int (0 : Int32)), (0, .ref (ad 77))]) hx hb dL_tunes_37 hl (by decide) rfl (fun ls hl => ?_)
  refine lv_iconst (v := 0) hx hb dL_tunes_39 (by decide) ?_
  refine lv_istore (lv' := [(12, .int (0 : Int32)), (11, .int (nI n_m29)), (10, .ref q_m29), (9, .int (0 : Int32)), (8, .int (0 : Int32)), (7, .ref q_v18), (6, .int (-1 : Int32)), (5, .int (-1 : Int32)), (4, .int (12 : Int32)), (3, .int (0 : Int32)), (2, .int (0 : Int32)), (1, .int (0 : Int32)), (0, .ref (ad 77))]) hx hb dL_tunes_40 hl (by decide) rfl (fun ls hl => ?_)
  exact key42 n_m29 S46 (nI n_m29) 17 G46 (fun _ => 0) (0 : Int32) (0 : Int32) (0 : Int32) (12 : Int32) (-1 : Int32) (-1 : Int32) (0 : Int32) (0 : Int32) (0 : Int32) q_v18 q_m29 r_m29 _ _ _ _ hf_v18 hf_m29 hne_m29_v18 hP hS hA_v18 hA_m29 (hB.le (by omega)) ls (lv_sub hl [12, 11, 10, 9, 8, 7, 6, 5, 4, 3, 2, 1, 0] rfl) h
