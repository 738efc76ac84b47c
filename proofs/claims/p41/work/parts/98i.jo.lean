def f_L_undone_366 (L_X0 : Nat) (xs_X0 : Nat → Int32) (W_j2 : Nat → Int64) (n : Nat) (G : GT) (y_x4 : Int32) : Option (Int32 × GT) := lq2 (fun (k366 : GT → Int32 → Option (Int32 × GT)) (G : GT) (x4 : Int32) => (if x4 < 0 then some ((1 : Int32), G) else (bind2 (fw_undo G ) fun r2 G2 => (if r2 < 0 then some ((0 : Int32), G2) else (bind2 (f_L_sum G2 ) fun r4 G4 => (if inb x4 9 then (if (lg_cmp r4 (W_j2 x4.toNatClampNeg)) = 0 then k366 G4 (x4 + (-1)) else some ((0 : Int32), G4)) else none)))))) n G y_x4
def f_L_undone_353 (L_X0 : Nat) (xs_X0 : Nat → Int32) (k10 : GT → (Nat → Int64) → Int32 → Int32 → Option (Int32 × GT)) (W_j2 : Nat → Int64) (x4 : Int32) (s353_0 : Int32) (s353_1 : Int32) (G : GT) : Option (Int32 × GT) := k10 G W_j2 (s353_1 + s353_0) (x4 + 1)
def f_L_undone_342 (L_X0 : Nat) (xs_X0 : Nat → Int32) (k10 : GT → (Nat → Int64) → Int32 → Int32 → Option (Int32 × GT)) (W_j2 : Nat → Int64) (x3 : Int32) (x4 : Int32) (x7 : Int32) (G : GT) : Option (Int32 × GT) := (if 0 ≤ x7 then f_L_undone_353 L_X0 xs_X0 k10 W_j2 x4 (1 : Int32) x3 G else f_L_undone_353 L_X0 xs_X0 k10 W_j2 x4 (0 : Int32) x3 G)
def f_L_undone_324 (L_X0 : Nat) (xs_X0 : Nat → Int32) (k10 : GT → (Nat → Int64) → Int32 → Int32 → Option (Int32 × GT)) (W_j2 : Nat → Int64) (x3 : Int32) (x4 : Int32) (x7 : Int32) (G : GT) : Option (Int32 × GT) := (if 0 ≤ x7 then f_L_undone_342 L_X0 xs_X0 k10 W_j2 x3 x4 x7 G else (bind2 (f_L_sum G ) fun r9 G9 => (if inb x3 9 then (if (lg_cmp r9 (W_j2 x3.toNatClampNeg)) = 0 then f_L_undone_342 L_X0 xs_X0 k10 W_j2 x3 x4 x7 G9 else some ((0 : Int32), G9)) else none)))
def f_L_undone_307 (L_X0 : Nat) (xs_X0 : Nat → Int32) (k10 : GT → (Nat → Int64) → Int32 → Int32 → Option (Int32 × GT)) (W_j2 : Nat → Int64) (x3 : Int32) (x4 : Int32) (T_k307_0 : List Int32) (T_k307_1 : List Int32) (G : GT) : Option (Int32 × GT) := (if T_k307_1.length + T_k307_0.length ≤ 64 then (if (T_k307_1 ++ T_k307_0).length + (stB 16).length ≤ 64 then (bind2 (f_L_run G ((T_k307_1 ++ T_k307_0) ++ (stB 16)) ) fun r14 G14 => f_L_undone_324 L_X0 xs_X0 k10 W_j2 x3 x4 r14 G14) else none) else none)
def f_L_undone_36 (L_X0 : Nat) (xs_X0 : Nat → Int32) (k10 : GT → (Nat → Int64) → Int32 → Int32 → Option (Int32 × GT)) (W_j2 : Nat → Int64) (x3 : Int32) (x4 : Int32) (x5 : Int32) (x6 : Int32) (G : GT) : Option (Int32 × GT) := (bind2 (f_L_sum G ) fun r15 G15 => (if inb x3 9 then ((some (va_up W_j2 (x3.toNatClampNeg) r15)).bind fun W17 => (if (x5 - x5 / (9 : Int32) * (9 : Int32)) = 0 then (bind2 (fw_bar G15 (x6 - x6 / (10 : Int32) * (10 : Int32))) fun r19 G19 => f_L_undone_324 L_X0 xs_X0 k10 W17 x3 x4 r19 G19) else (if (x5 - x5 / (9 : Int32) * (9 : Int32)) = 1 then (bind2 (fw_key G15 (x6 - x6 / (5 : Int32) * (5 : Int32)) (((x6.toUInt32 >>> ((3 : Int32).toUInt32 &&& Int32.toUInt32 31)).toInt32) - ((x6.toUInt32 >>> ((3 : Int32).toUInt32 &&& Int32.toUInt32 31)).toInt32) / (13 : Int32) * (13 : Int32))) fun r21 G21 => f_L_undone_324 L_X0 xs_X0 k10 W17 x3 x4 r21 G21) else (if (x5 - x5 / (9 : Int32) * (9 : Int32)) = 2 then (bind2 (fw_leak G15 (x6 - x6 / (5 : Int32) * (5 : Int32)) (((x6.toUInt32 >>> ((3 : Int32).toUInt32 &&& Int32.toUInt32 31)).toInt32) - ((x6.toUInt32 >>> ((3 : Int32).toUInt32 &&& Int32.toUInt32 31)).toInt32) / (5 : Int32) * (5 : Int32))) fun r23 G23 => f_L_undone_324 L_X0 xs_X0 k10 W17 x3 x4 r23 G23) else (if (x5 - x5 / (9 : Int32) * (9 : Int32)) = 3 then (bind2 (fw_drop G15 (x6 - x6 / (5 : Int32) * (5 : Int32)) (((x6.toUInt32 >>> ((3 : Int32).toUInt32 &&& Int32.toUInt32 31)).toInt32) - ((x6.toUInt32 >>> ((3 : Int32).toUInt32 &&& Int32.toUInt32 31)).toInt32) / (11 : Int32) * (11 : Int32)) (((x6.toUInt32 >>> ((7 : Int32).toUInt32 &&& Int32.toUInt32 31)).toInt32) - ((x6.toUInt32 >>> ((7 : Int32).toUInt32 &&& Int32.toUInt32 31)).toInt32) / (10 : Int32) * (10 : Int32))) fun r25 G25 => f_L_undone_324 L_X0 xs_X0 k10 W17 x3 x4 r25 G25) else (if (x5 - x5 / (9 : Int32) * (9 : Int32)) = 4 then (bind2 (fw_rest G15 (x6 - x6 / (5 : Int32) * (5 : Int32))) fun r27 G27 => f_L_undone_324 L_X0 xs_X0 k10 W17 x3 x4 r27 G27) else (if (x5 - x5 / (9 : Int32) * (9 : Int32)) = 5 then (bind2 (fw_lift G15 ) fun r29 G29 => f_L_undone_324 L_X0 xs_X0 k10 W17 x3 x4 r29 G29) else (if (x5 - x5 / (9 : Int32) * (9 : Int32)) = 6 then (bind2 (fw_limit G15 (x6 - x6 / (13 : Int32) * (13 : Int32))) fun r31 G31 => f_L_undone_324 L_X0 xs_X0 k10 W17 x3 x4 r31 G31) else (if (x5 - x5 / (9 : Int32) * (9 : Int32)) = 7 then (bind2 (fw_tune G15 (x6 - x6 / (17 : Int32) * (17 : Int32)) (((x6.toUInt32 >>> ((5 : Int32).toUInt32 &&& Int32.toUInt32 31)).toInt32) - ((x6.toUInt32 >>> ((5 : Int32).toUInt32 &&& Int32.toUInt32 31)).toInt32) / (11 : Int32) * (11 : Int32))) fun r33 G33 => f_L_undone_324 L_X0 xs_X0 k10 W17 x3 x4 r33 G33) else (if ([] : List Int32).length + (stB 12).length ≤ 64 then (if inb (x6 - x6 / (4 : Int32) * (4 : Int32)) 100 ∧ (([] : List Int32) ++ (stB 12)).length + (dgs (x6 - x6 / (4 : Int32) * (4 : Int32)).toNatClampNeg).length ≤ 64 then (if ((([] : List Int32) ++ (stB 12)) ++ dgs (x6 - x6 / (4 : Int32) * (4 : Int32)).toNatClampNeg).length + (stB 13).length ≤ 64 then (if (9 : Int32) ≤ (x5 - x5 / (18 : Int32) * (18 : Int32)) then (if ([] : List Int32).length + (stB 14).length ≤ 64 then (if inb (x6 - x6 / (16 : Int32) * (16 : Int32)) 100 ∧ (([] : List Int32) ++ (stB 14)).length + (dgs (x6 - x6 / (16 : Int32) * (16 : Int32)).toNatClampNeg).length ≤ 64 then (if ((([] : List Int32) ++ (stB 14)) ++ dgs (x6 - x6 / (16 : Int32) * (16 : Int32)).toNatClampNeg).length + (stB 15).length ≤ 64 then f_L_undone_307 L_X0 xs_X0 k10 W17 x3 x4 (((([] : List Int32) ++ (stB 14)) ++ dgs (x6 - x6 / (16 : Int32) * (16 : Int32)).toNatClampNeg) ++ (stB 15)) (((([] : List Int32) ++ (stB 12)) ++ dgs (x6 - x6 / (4 : Int32) * (4 : Int32)).toNatClampNeg) ++ (stB 13)) G15 else none) else none) else none) else f_L_undone_307 L_X0 xs_X0 k10 W17 x3 x4 (stB 6) (((([] : List Int32) ++ (stB 12)) ++ dgs (x6 - x6 / (4 : Int32) * (4 : Int32)).toNatClampNeg) ++ (stB 13)) G15) else none) else none) else none)))))))))) else none))
def f_L_undone_10 (L_X0 : Nat) (xs_X0 : Nat → Int32) (n : Nat) (G : GT) (y_W_j2 : Nat → Int64) (y_x3 : Int32) (y_x4 : Int32) : Option (Int32 × GT) := lq4 (fun (k10 : GT → (Nat → Int64) → Int32 → Int32 → Option (Int32 × GT)) (G : GT) (W_j2 : Nat → Int64) (x3 : Int32) (x4 : Int32) => (if (7 : Int32) ≤ x4 then f_L_undone_366 L_X0 xs_X0 W_j2 8 G (x3 - (1 : Int32)) else (bind2 (f_L_cell G L_X0 xs_X0 ((18 : Int32) + x4)) fun r42 G42 => f_L_undone_36 L_X0 xs_X0 k10 W_j2 x3 x4 ((r42.toUInt32 >>> ((1 : Int32).toUInt32 &&& Int32.toUInt32 31)).toInt32) ((((r42.toUInt32 >>> ((1 : Int32).toUInt32 &&& Int32.toUInt32 31)).toInt32).toUInt32 >>> ((4 : Int32).toUInt32 &&& Int32.toUInt32 31)).toInt32) G42))) n G y_W_j2 y_x3 y_x4
def f_L_undone (G : GT) (L_X0 : Nat) (xs_X0 : Nat → Int32) : Option (Int32 × GT) := f_L_undone_10 L_X0 xs_X0 8 G (fun _ => 0) (0 : Int32) (0 : Int32)
set_option maxRecDepth 100000 in
set_option maxHeartbeats 8000000 in
theorem q_L_undone (l : Launch) (hst : l.stackTraces = false) (D : va_G) (Y : Nat → ClassId) (ad : Nat → Nat) (hI : Inj 90 ad) (G : GT) (L_X0 : Nat) (xs_X0 : Nat → Int32) (b_X0 : Nat) (r : Int32) (G' : GT) (h : f_L_undone G L_X0 xs_X0  = some (r, G')) : LM l yL_undone cL_undone 8 (some .boolean) 12 5713 D Y ad G (PhXJ ad b_X0 L_X0 xs_X0) [.ref b_X0, .ref (ad 77)] (PI (some .boolean) r D Y ad G') := by
  refine LM_of (ret := (some .boolean)) (by decide) (Nat.le_of_ble_eq_true rfl) (lv := [(0, .ref b_X0), (1, .ref (ad 77))]) rfl ?_
  intro p ev s m below meth c ls F hP hK hE hΦ hS hr hk hl hB
  have F : Fx p c cL_undone 8 s m _ RL D Y := F
  have hx := F.1.1
  have hb := F.1.2.1
  have hts := F.1.2.2.2.2
  have hown := F.1.2.2.2.1
  have hX_X0 : PhX ad b_X0 L_X0 xs_X0 s := hΦ.1
  have hJ : Jk (AW 90 ad) s s.heap := hΦ.2
  have key366 : ∀ (W_j2 : Nat → Int64) (n : Nat) (G : GT) (x4 : Int32) (q_j2 : Nat) (H : Heap) (locs : List Loc) (cells slots : Nat), s.heap.size ≤ q_j2 → va_P D vwCl (wsC Y ad G) H → va_S (AW 90 ad) s.heap H locs → AJ Y ad q_j2 9 W_j2 H → Bg 5713 cells slots (n * 198 + 0) → ∀ ls : Array Slot, lv_has ls 8 [(1, .ref (ad 77)), (2, .ref q_j2), (4, .int x4)] → f_L_undone_366 L_X0 xs_X0  W_j2 n G x4 = some (r, G') → W p l ev (rmD 12 5713 (16 * 5713)) s m ([.ref b_X0, .ref (ad 77)] : List Value).toArray below meth c H locs cells slots (MQ below (LQ (PI (some .boolean) r D Y ad G') (AW 90 ad)) ([.ref b_X0, .ref (ad 77)] : List Value).toArray s 5713 (16 * 5713) (AW 90 ad)) (F0 m 366 ls []) := by
    intro W_j2
    intro n
    induction n with
    | zero => intro G x4 q_j2 H locs cells slots hf_j2 hP hS hA_j2 hB ls hl h; exact lqZ2 h
    | succ n366 ih366 =>
      intro G x4 q_j2 H locs cells slots hf_j2 hP hS hA_j2 hB ls hl h
      have h := lqS2 h
      refine lv_iload hx hb dL_undone_366 (lv_at hl 2 rfl) ?_
      refine lv_if_lt (tgt := 398) hx hb dL_undone_368 (by decide) (fun c1 => ?_) (fun c1 => ?_)
      · have h := ifT h c1
        refine lv_iconst (v := 1) hx hb dL_undone_398 (by decide) ?_
        exact lm_end F hP hS hB hr hk rfl h dL_undone_399
      · have h := ifF h c1
        refine lv_aload_n hx hb dL_undone_371 rfl (lv_at hl 0 rfl) ?_
        obtain ⟨r2, G2, e2, h⟩ := bsome2 h
        refine lh_i (B' := (n366 * 198 + 197)) F hP hK hE hS hB kl_undo mw_1550 (ql_undo l hst D Y ad hI G  r2 G2 e2) rfl hl.1 ⟨Nat.le_of_ble_eq_true rfl, Nat.le_of_ble_eq_true rfl⟩ (rest := []) rfl (Nat.le_of_ble_eq_true rfl) (by omega) dL_undone_372 (fun H locs cells slots hP hS hkp hB => ?_)
        have hA_j2 := hA_j2.kp hkp
        refine lv_if_lt (tgt := 390) hx hb dL_undone_375 (by decide) (fun c3 => ?_) (fun c3 => ?_)
        · have h := ifT h c3
          refine lv_iconst (v := 0) hx hb dL_undone_390 (by decide) ?_
          exact lm_end F hP hS hB hr hk rfl h dL_undone_391
        · have h := ifF h c3
          refine lv_aload_n hx hb dL_undone_378 rfl (lv_at hl 0 rfl) ?_
          obtain ⟨r4, G4, e4, h⟩ := bsome2 h
          refine lm_l (B' := (n366 * 198 + 0)) F hP hK hE hS hB ph0_b ph0_o k_L_sum mw_1414 (q_L_sum l hst D Y ad hI G2  r4 G4 e4) rfl hl.1 ⟨Nat.le_of_ble_eq_true rfl, Nat.le_of_ble_eq_true rfl⟩ (rest := []) rfl (Nat.le_of_ble_eq_true rfl) (by omega) dL_undone_379 (fun H locs cells slots hP hS hkp hB => ?_)
          have hA_j2 := hA_j2.kp hkp
          refine lv_aload_n hx hb dL_undone_382 rfl (lv_at hl 1 rfl) ?_
          refine lv_iload hx hb dL_undone_383 (lv_at hl 2 rfl) ?_
          obtain ⟨b5, h⟩ := ckS h
          refine aj_ld F hA_j2 (inbV b5 (by decide)) dL_undone_385 ?_
          refine W.lcmp hx hb dL_undone_386 ?_
          refine lv_if_eq (tgt := 392) hx hb dL_undone_387 (by decide) (fun c6 => ?_) (fun c6 => ?_)
          · have h := ifT h c6
            refine lv_iinc (v := (x4 + (-1))) (lv' := [(4, .int (x4 + (-1))), (1, .ref (ad 77)), (2, .ref q_j2)]) hx hb dL_undone_392 hl (k := 2) rfl rfl (by decide) rfl (fun ls hl => ?_)
            refine lv_goto (tgt := 366) hx hb dL_undone_395 (by decide) ?_
            exact ih366 G4 (x4 + (-1)) q_j2 _ _ _ _ hf_j2 hP hS hA_j2 (hB.le (by omega)) ls (lv_sub hl [1, 2, 0] rfl) h
          · have h := ifF h c6
            refine lv_iconst (v := 0) hx hb dL_undone_390 (by decide) ?_
            exact lm_end F hP hS hB hr hk rfl h dL_undone_391
  have key10 : ∀ (n : Nat) (G : GT) (W_j2 : Nat → Int64) (x3 : Int32) (x4 : Int32) (q_j2 : Nat) (H : Heap) (locs : List Loc) (cells slots : Nat), s.heap.size ≤ q_j2 → va_P D vwCl (wsC Y ad G) H → va_S (AW 90 ad) s.heap H locs → AJ Y ad q_j2 9 W_j2 H → Bg 5713 cells slots (n * 516 + 1584) → ∀ ls : Array Slot, lv_has ls 8 [(0, .ref b_X0), (1, .ref (ad 77)), (2, .ref q_j2), (3, .int x3), (4, .int x4)] → f_L_undone_10 L_X0 xs_X0   n G W_j2 x3 x4 = some (r, G') → W p l ev (rmD 12 5713 (16 * 5713)) s m ([.ref b_X0, .ref (ad 77)] : List Value).toArray below meth c H locs cells slots (MQ below (LQ (PI (some .boolean) r D Y ad G') (AW 90 ad)) ([.ref b_X0, .ref (ad 77)] : List Value).toArray s 5713 (16 * 5713) (AW 90 ad)) (F0 m 10 ls []) := by
    intro n
    induction n with
    | zero => intro G W_j2 x3 x4 q_j2 H locs cells slots hf_j2 hP hS hA_j2 hB ls hl h; exact lqZ4 h
    | succ n10 ih10 =>
      have key353 : ∀ (W_j2 : Nat → Int64) (x4 : Int32) (s353_0 : Int32) (s353_1 : Int32) (G : GT) (q_j2 : Nat) (H : Heap) (locs : List Loc) (cells slots : Nat), s.heap.size ≤ q_j2 → va_P D vwCl (wsC Y ad G) H → va_S (AW 90 ad) s.heap H locs → AJ Y ad q_j2 9 W_j2 H → Bg 5713 cells slots (n10 * 516 + 1584) → ∀ ls : Array Slot, lv_has ls 8 [(0, .ref b_X0), (1, .ref (ad 77)), (2, .ref q_j2), (4, .int x4)] → f_L_undone_353 L_X0 xs_X0 (f_L_undone_10 L_X0 xs_X0   n10) W_j2 x4 s353_0 s353_1 G = some (r, G') → W p l ev (rmD 12 5713 (16 * 5713)) s m ([.ref b_X0, .ref (ad 77)] : List Value).toArray below meth c H locs cells slots (MQ below (LQ (PI (some .boolean) r D Y ad G') (AW 90 ad)) ([.ref b_X0, .ref (ad 77)] : List Value).toArray s 5713 (16 * 5713) (AW 90 ad)) (F0 m 353 ls [.int s353_0, .int s353_1]) := by
        intro W_j2 x4 s353_0 s353_1 G q_j2 H locs cells slots hf_j2 hP hS hA_j2 hB ls hl h
        refine lv_iadd hx hb dL_undone_353 ?_
        refine lv_istore_n (lv' := [(3, .int (s353_1 + s353_0)), (0, .ref b_X0), (1, .ref (ad 77)), (2, .ref q_j2), (4, .int x4)]) hx hb dL_undone_354 rfl hl (by decide) rfl (fun ls hl => ?_)
        refine lv_iinc (v := (x4 + 1)) (lv' := [(4, .int (x4 + 1)), (3, .int (s353_1 + s353_0)), (0, .ref b_X0), (1, .ref (ad 77)), (2, .ref q_j2)]) hx hb dL_undone_355 hl (k := 4) rfl rfl (by decide) rfl (fun ls hl => ?_)
        refine lv_goto (tgt := 10) hx hb dL_undone_358 (by decide) ?_
        exact ih10 G W_j2 (s353_1 + s353_0) (x4 + 1) q_j2 _ _ _ _ hf_j2 hP hS hA_j2 (hB.le (by omega)) ls (lv_sub hl [2, 3, 4, 1, 0] rfl) h
      have key342 : ∀ (W_j2 : Nat → Int64) (x3 : Int32) (x4 : Int32) (x7 : Int32) (G : GT) (q_j2 : Nat) (H : Heap) (locs : List Loc) (cells slots : Nat), s.heap.size ≤ q_j2 → va_P D vwCl (wsC Y ad G) H → va_S (AW 90 ad) s.heap H locs → AJ Y ad q_j2 9 W_j2 H → Bg 5713 cells slots (n10 * 516 + 1584) → ∀ ls : Array Slot, lv_has ls 8 [(0, .ref b_X0), (1, .ref (ad 77)), (2, .ref q_j2), (3, .int x3), (4, .int x4), (7, .int x7)] → f_L_undone_342 L_X0 xs_X0 (f_L_undone_10 L_X0 xs_X0   n10) W_j2 x3 x4 x7 G = some (r, G') → W p l ev (rmD 12 5713 (16 * 5713)) s m ([.ref b_X0, .ref (ad 77)] : List Value).toArray below meth c H locs cells slots (MQ below (LQ (PI (some .boolean) r D Y ad G') (AW 90 ad)) ([.ref b_X0, .ref (ad 77)] : List Value).toArray s 5713 (16 * 5713) (AW 90 ad)) (F0 m 342 ls []) := by
        intro W_j2 x3 x4 x7 G q_j2 H locs cells slots hf_j2 hP hS hA_j2 hB ls hl h
        refine lv_iload_n hx hb dL_undone_342 rfl (lv_at hl 3 rfl) ?_
        refine lv_iload hx hb dL_undone_343 (lv_at hl 5 rfl) ?_
        refine lv_if_ge (tgt := 352) hx hb dL_undone_345 (by decide) (fun c7 => ?_) (fun c7 => ?_)
        · have h := ifT h c7
          refine lv_iconst (v := 1) hx hb dL_undone_352 (by decide) ?_
          exact key353 W_j2 x4 (1 : Int32) x3 G q_j2 _ _ _ _ hf_j2 hP hS hA_j2 (hB.le (by omega)) ls (lv_sub hl [0, 1, 2, 4] rfl) h
        · have h := ifF h c7
          refine lv_iconst (v := 0) hx hb dL_undone_348 (by decide) ?_
          refine lv_goto (tgt := 353) hx hb dL_undone_349 (by decide) ?_
          exact key353 W_j2 x4 (0 : Int32) x3 G q_j2 _ _ _ _ hf_j2 hP hS hA_j2 (hB.le (by omega)) ls (lv_sub hl [0, 1, 2, 4] rfl) h
      have key324 : ∀ (W_j2 : Nat → Int64) (x3 : Int32) (x4 : Int32) (x7 : Int32) (G : GT) (q_j2 : Nat) (H : Heap) (locs : List Loc) (cells slots : Nat), s.heap.size ≤ q_j2 → va_P D vwCl (wsC Y ad G) H → va_S (AW 90 ad) s.heap H locs → AJ Y ad q_j2 9 W_j2 H → Bg 5713 cells slots (n10 * 516 + 1781) → ∀ ls : Array Slot, lv_has ls 8 [(0, .ref b_X0), (1, .ref (ad 77)), (2, .ref q_j2), (3, .int x3), (4, .int x4), (7, .int x7)] → f_L_undone_324 L_X0 xs_X0 (f_L_undone_10 L_X0 xs_X0   n10) W_j2 x3 x4 x7 G = some (r, G') → W p l ev (rmD 12 5713 (16 * 5713)) s m ([.ref b_X0, .ref (ad 77)] : List Value).toArray below meth c H locs cells slots (MQ below (LQ (PI (some .boolean) r D Y ad G') (AW 90 ad)) ([.ref b_X0, .ref (ad 77)] : List Value).toArray s 5713 (16 * 5713) (AW 90 ad)) (F0 m 324 ls []) := by
        intro W_j2 x3 x4 x7 G q_j2 H locs cells slots hf_j2 hP hS hA_j2 hB ls hl h
        refine lv_iload hx hb dL_undone_324 (lv_at hl 5 rfl) ?_
        refine lv_if_ge (tgt := 342) hx hb dL_undone_326 (by decide) (fun c8 => ?_) (fun c8 => ?_)
        · have h := ifT h c8
          exact key342 W_j2 x3 x4 x7 G q_j2 _ _ _ _ hf_j2 hP hS hA_j2 (hB.le (by omega)) ls (lv_sub hl [0, 1, 2, 3, 4, 5] rfl) h
        · have h := ifF h c8
          refine lv_aload_n hx hb dL_undone_329 rfl (lv_at hl 1 rfl) ?_
          obtain ⟨r9, G9, e9, h⟩ := bsome2 h
          refine lm_l (B' := (n10 * 516 + 1584)) F hP hK hE hS hB ph0_b ph0_o k_L_sum mw_1414 (q_L_sum l hst D Y ad hI G  r9 G9 e9) rfl hl.1 ⟨Nat.le_of_ble_eq_true rfl, Nat.le_of_ble_eq_true rfl⟩ (rest := []) rfl (Nat.le_of_ble_eq_true rfl) (by omega) dL_undone_330 (fun H locs cells slots hP hS hkp hB => ?_)
          have hA_j2 := hA_j2.kp hkp
          refine lv_aload_n hx hb dL_undone_333 rfl (lv_at hl 2 rfl) ?_
          refine lv_iload_n hx hb dL_undone_334 rfl (lv_at hl 3 rfl) ?_
          obtain ⟨b10, h⟩ := ckS h
          refine aj_ld F hA_j2 (inbV b10 (by decide)) dL_undone_335 ?_
          refine W.lcmp hx hb dL_undone_336 ?_
          refine lv_if_eq (tgt := 342) hx hb dL_undone_337 (by decide) (fun c11 => ?_) (fun c11 => ?_)
          · have h := ifT h c11
            exact key342 W_j2 x3 x4 x7 G9 q_j2 _ _ _ _ hf_j2 hP hS hA_j2 (hB.le (by omega)) ls (lv_sub hl [0, 1, 2, 3, 4, 5] rfl) h
          · have h := ifF h c11
            refine lv_iconst (v := 0) hx hb dL_undone_340 (by decide) ?_
            exact lm_end F hP hS hB hr hk rfl h dL_undone_341
      have key307 : ∀ (W_j2 : Nat → Int64) (x3 : Int32) (x4 : Int32) (T_k307_0 : List Int32) (T_k307_1 : List Int32) (G : GT) (q_j2 : Nat) (q_k307_0 : Nat) (v_k307_0 : Nat) (q_k307_1 : Nat) (b_k307_1 : Nat) (c_k307_1 : Nat) (f_k307_1 : Nat → Int32) (H : Heap) (locs : List Loc) (cells slots : Nat), s.heap.size ≤ q_j2 → va_P D vwCl (wsC Y ad G) H → va_S (AW 90 ad) s.heap H locs → AJ Y ad q_j2 9 W_j2 H → Sg ad s q_k307_0 v_k307_0 T_k307_0 H → Bd D Y ad s q_k307_1 b_k307_1 c_k307_1 f_k307_1 T_k307_1 [q_k307_0, v_k307_0, q_j2] H → Bg 5713 cells slots (n10 * 516 + 1842) → ∀ ls : Array Slot, lv_has ls 8 [(0, .ref b_X0), (1, .ref (ad 77)), (2, .ref q_j2), (3, .int x3), (4, .int x4)] → f_L_undone_307 L_X0 xs_X0 (f_L_undone_10 L_X0 xs_X0   n10) W_j2 x3 x4 T_k307_0 T_k307_1 G = some (r, G') → W p l ev (rmD 12 5713 (16 * 5713)) s m ([.ref b_X0, .ref (ad 77)] : List Value).toArray below meth c H locs cells slots (MQ below (LQ (PI (some .boolean) r D Y ad G') (AW 90 ad)) ([.ref b_X0, .ref (ad 77)] : List Value).toArray s 5713 (16 * 5713) (AW 90 ad)) (F0 m 307 ls [.ref q_k307_0, .ref q_k307_1, .ref (ad 77)]) := by
        intro W_j2 x3 x4 T_k307_0 T_k307_1 G q_j2 q_k307_0 v_k307_0 q_k307_1 b_k307_1 c_k307_1 f_k307_1 H locs cells slots hf_j2 hP hS hA_j2 hA_k307_0 hA_k307_1 hB ls hl h
        obtain ⟨g12, h⟩ := ckS h
        have hv := hA_k307_1
        refine bd_S (B' := (n10 * 516 + 1834)) F hK hJ hP hS hB hA_k307_1 hA_k307_0 (by simp) (by simp) g12 hl.1 (Nat.le_of_ble_eq_true rfl) (rest := [.ref (ad 77)]) (Nat.le_of_ble_eq_true rfl) (by omega) dL_undone_307 (fun b_k307_1 c_k307_1 f_k307_1 H cells slots hA_k307_1 hko hP hS hB => ?_)
        have hA_k307_0 := hA_k307_0.ko hko (hv.off (by simp)) (hv.off (by simp))
        have hA_j2 := hA_j2.ko hko (hv.off (by simp))
        refine ldcSW hx hb hown (hK.2.2.2.2.2 16 (by decide)) dL_undone_310 ?_
        have hA_c310 := Sg.ks hK hS (i := 16) (by decide)
        have hA_k307_1 := (hA_k307_1.old (ks_lt hK (i := 16) (by decide)).2).old (ks_lt hK (i := 16) (by decide)).1
        obtain ⟨g13, h⟩ := ckS h
        have hv := hA_k307_1
        refine bd_S (B' := (n10 * 516 + 1826)) F hK hJ hP hS hB hA_k307_1 hA_c310 (by simp) (by simp) g13 hl.1 (Nat.le_of_ble_eq_true rfl) (rest := [.ref (ad 77)]) (Nat.le_of_ble_eq_true rfl) (by omega) dL_undone_313 (fun b_k307_1 c_k307_1 f_k307_1 H cells slots hA_k307_1 hko hP hS hB => ?_)
        have hA_c310 := hA_c310.ko hko (hv.off (by simp)) (hv.off (by simp))
        have hA_j2 := hA_j2.ko hko (hv.off (by simp))
        have hv := hA_k307_1
        refine bd_T (B' := (n10 * 516 + 1817)) F hJ hP hS hB hA_k307_1 hl.1 (Nat.le_of_ble_eq_true rfl) (rest := [.ref (ad 77)]) (Nat.le_of_ble_eq_true rfl) (by omega) dL_undone_316 (fun q_s316 v_s316 H cells slots hA_s316 hn hko hP hS hB => ?_)
        have hA_j2 := hA_j2.ko hko (hv.off (by simp))
        obtain ⟨r14, G14, e14, h⟩ := bsome2 h
        refine lm_i (B' := (n10 * 516 + 1781)) F hP hK hE hS hB phS_b (phS_o hA_s316) k_L_run mw_1443 (q_L_run l hst D Y ad hI G ((T_k307_1 ++ T_k307_0) ++ (stB 16)) q_s316 v_s316  r14 G14 e14) rfl hl.1 ⟨Nat.le_of_ble_eq_true rfl, Nat.le_of_ble_eq_true rfl⟩ (rest := []) rfl (Nat.le_of_ble_eq_true rfl) (by omega) dL_undone_319 (fun H locs cells slots o14 hP hS hkp hB => ?_)
        have hA_j2 := hA_j2.kp hkp
        have hA_s316 := hA_s316.kp hkp
        refine lv_istore (lv' := [(7, .int r14), (0, .ref b_X0), (1, .ref (ad 77)), (2, .ref q_j2), (3, .int x3), (4, .int x4)]) hx hb dL_undone_322 hl (by decide) rfl (fun ls hl => ?_)
        exact key324 W_j2 x3 x4 r14 G14 q_j2 _ _ _ _ hf_j2 hP hS hA_j2 (hB.le (by omega)) ls (lv_sub hl [1, 2, 3, 4, 5, 0] rfl) h
      have key36 : ∀ (W_j2 : Nat → Int64) (x3 : Int32) (x4 : Int32) (x5 : Int32) (x6 : Int32) (G : GT) (q_j2 : Nat) (H : Heap) (locs : List Loc) (cells slots : Nat), s.heap.size ≤ q_j2 → va_P D vwCl (wsC Y ad G) H → va_S (AW 90 ad) s.heap H locs → AJ Y ad q_j2 9 W_j2 H → Bg 5713 cells slots (n10 * 516 + 2100) → ∀ ls : Array Slot, lv_has ls 8 [(0, .ref b_X0), (1, .ref (ad 77)), (2, .ref q_j2), (3, .int x3), (4, .int x4), (5, .int x5), (6, .int x6)] → f_L_undone_36 L_X0 xs_X0 (f_L_undone_10 L_X0 xs_X0   n10) W_j2 x3 x4 x5 x6 G = some (r, G') → W p l ev (rmD 12 5713 (16 * 5713)) s m ([.ref b_X0, .ref (ad 77)] : List Value).toArray below meth c H locs cells slots (MQ below (LQ (PI (some .boolean) r D Y ad G') (AW 90 ad)) ([.ref b_X0, .ref (ad 77)] : List Value).toArray s 5713 (16 * 5713) (AW 90 ad)) (F0 m 36 ls []) := by
        intro W_j2 x3 x4 x5 x6 G q_j2 H locs cells slots hf_j2 hP hS hA_j2 hB ls hl h
        refine lv_aload_n hx hb dL_undone_36 rfl (lv_at hl 2 rfl) ?_
        refine lv_iload_n hx hb dL_undone_37 rfl (lv_at hl 3 rfl) ?_
        refine lv_aload_n hx hb dL_undone_38 rfl (lv_at hl 1 rfl) ?_
        obtain ⟨r15, G15, e15, h⟩ := bsome2 h
        refine lm_l (B' := (n10 * 516 + 1903)) F hP hK hE hS hB ph0_b ph0_o k_L_sum mw_1414 (q_L_sum l hst D Y ad hI G  r15 G15 e15) rfl hl.1 ⟨Nat.le_of_ble_eq_true rfl, Nat.le_of_ble_eq_true rfl⟩ (rest := [.int x3, .ref q_j2]) rfl (Nat.le_of_ble_eq_true rfl) (by omega) dL_undone_39 (fun H locs cells slots hP hS hkp hB => ?_)
        have hA_j2 := hA_j2.kp hkp
        obtain ⟨b16, h⟩ := ckS h
        obtain ⟨W17, eW17, h⟩ := bsome h
        refine aj_st F hA_j2 hf_j2 (inbV b16 (by decide)) dL_undone_42 (fun H hnew hsk => ?_)
        have hP := sk_P hP hnew.1 hsk
        have hS := sk_S hS hf_j2 hsk
        have hA_j2 := cvJ eW17 hnew
        refine lv_iload hx hb dL_undone_43 (lv_at hl 5 rfl) ?_
        refine lv_bipush (v := 9) hx hb dL_undone_45 (by decide) ?_
        refine lv_irem hx hb dL_undone_47 (by decide) ?_
        by_cases c18 : (x5 - x5 / (9 : Int32) * (9 : Int32)) = 0
        · have h := ifT h c18
          refine lv_tableIn (off := 48) (tgt := 96) hx hb dL_undone_48 (by rw [c18]; decide) (by rw [c18]; decide) (by rw [c18]; rfl) (by decide) ?_
          refine lv_aload_n hx hb dL_undone_96 rfl (lv_at hl 1 rfl) ?_
          refine lv_iload hx hb dL_undone_97 (lv_at hl 6 rfl) ?_
          refine lv_bipush (v := 10) hx hb dL_undone_99 (by decide) ?_
          refine lv_irem hx hb dL_undone_101 (by decide) ?_
          obtain ⟨r19, G19, e19, h⟩ := bsome2 h
          refine lh_i (B' := (n10 * 516 + 1900)) F hP hK hE hS hB kl_bar mw_236 (ql_bar l hst D Y ad hI G15 (x6 - x6 / (10 : Int32) * (10 : Int32)) r19 G19 e19) rfl hl.1 ⟨Nat.le_of_ble_eq_true rfl, Nat.le_of_ble_eq_true rfl⟩ (rest := []) rfl (Nat.le_of_ble_eq_true rfl) (by omega) dL_undone_102 (fun H locs cells slots hP hS hkp hB => ?_)
          have hA_j2 := hA_j2.kp hkp
          refine lv_istore (lv' := [(7, .int r19), (0, .ref b_X0), (1, .ref (ad 77)), (2, .ref q_j2), (3, .int x3), (4, .int x4), (5, .int x5), (6, .int x6)]) hx hb dL_undone_105 hl (by decide) rfl (fun ls hl => ?_)
          refine lv_goto (tgt := 324) hx hb dL_undone_107 (by decide) ?_
          exact key324 W17 x3 x4 r19 G19 q_j2 _ _ _ _ hf_j2 hP hS hA_j2 (hB.le (by omega)) ls (lv_sub hl [1, 2, 3, 4, 5, 0] rfl) h
        have h := ifF h c18
        by_cases c20 : (x5 - x5 / (9 : Int32) * (9 : Int32)) = 1
        · have h := ifT h c20
          refine lv_tableIn (off := 62) (tgt := 110) hx hb dL_undone_48 (by rw [c20]; decide) (by rw [c20]; decide) (by rw [c20]; rfl) (by decide) ?_
          refine lv_aload_n hx hb dL_undone_110 rfl (lv_at hl 1 rfl) ?_
          refine lv_iload hx hb dL_undone_111 (lv_at hl 6 rfl) ?_
          refine lv_iconst (v := 5) hx hb dL_undone_113 (by decide) ?_
          refine lv_irem hx hb dL_undone_114 (by decide) ?_
          refine lv_iload hx hb dL_undone_115 (lv_at hl 6 rfl) ?_
          refine lv_iconst (v := 3) hx hb dL_undone_117 (by decide) ?_
          refine lv_iushr hx hb dL_undone_118 rfl ?_
          refine lv_bipush (v := 13) hx hb dL_undone_119 (by decide) ?_
          refine lv_irem hx hb dL_undone_121 (by decide) ?_
          obtain ⟨r21, G21, e21, h⟩ := bsome2 h
          refine lh_i (B' := (n10 * 516 + 1900)) F hP hK hE hS hB kl_key mw_529 (ql_key l hst D Y ad hI G15 (x6 - x6 / (5 : Int32) * (5 : Int32)) (((x6.toUInt32 >>> ((3 : Int32).toUInt32 &&& Int32.toUInt32 31)).toInt32) - ((x6.toUInt32 >>> ((3 : Int32).toUInt32 &&& Int32.toUInt32 31)).toInt32) / (13 : Int32) * (13 : Int32)) r21 G21 e21) rfl hl.1 ⟨Nat.le_of_ble_eq_true rfl, Nat.le_of_ble_eq_true rfl⟩ (rest := []) rfl (Nat.le_of_ble_eq_true rfl) (by omega) dL_undone_122 (fun H locs cells slots hP hS hkp hB => ?_)
          have hA_j2 := hA_j2.kp hkp
          refine lv_istore (lv' := [(7, .int r21), (0, .ref b_X0), (1, .ref (ad 77)), (2, .ref q_j2), (3, .int x3), (4, .int x4), (5, .int x5), (6, .int x6)]) hx hb dL_undone_125 hl (by decide) rfl (fun ls hl => ?_)
          refine lv_goto (tgt := 324) hx hb dL_undone_127 (by decide) ?_
          exact key324 W17 x3 x4 r21 G21 q_j2 _ _ _ _ hf_j2 hP hS hA_j2 (hB.le (by omega)) ls (lv_sub hl [1, 2, 3, 4, 5, 0] rfl) h
        have h := ifF h c20
        by_cases c22 : (x5 - x5 / (9 : Int32) * (9 : Int32)) = 2
        · have h := ifT h c22
          refine lv_tableIn (off := 82) (tgt := 130) hx hb dL_undone_48 (by rw [c22]; decide) (by rw [c22]; decide) (by rw [c22]; rfl) (by decide) ?_
          refine lv_aload_n hx hb dL_undone_130 rfl (lv_at hl 1 rfl) ?_
          refine lv_iload hx hb dL_undone_131 (lv_at hl 6 rfl) ?_
          refine lv_iconst (v := 5) hx hb dL_undone_133 (by decide) ?_
          refine lv_irem hx hb dL_undone_134 (by decide) ?_
          refine lv_iload hx hb dL_undone_135 (lv_at hl 6 rfl) ?_
          refine lv_iconst (v := 3) hx hb dL_undone_137 (by decide) ?_
          refine lv_iushr hx hb dL_undone_138 rfl ?_
          refine lv_iconst (v := 5) hx hb dL_undone_139 (by decide) ?_
          refine lv_irem hx hb dL_undone_140 (by decide) ?_
          obtain ⟨r23, G23, e23, h⟩ := bsome2 h
          refine lh_i (B' := (n10 * 516 + 1900)) F hP hK hE hS hB kl_leak mw_558 (ql_leak l hst D Y ad hI G15 (x6 - x6 / (5 : Int32) * (5 : Int32)) (((x6.toUInt32 >>> ((3 : Int32).toUInt32 &&& Int32.toUInt32 31)).toInt32) - ((x6.toUInt32 >>> ((3 : Int32).toUInt32 &&& Int32.toUInt32 31)).toInt32) / (5 : Int32) * (5 : Int32)) r23 G23 e23) rfl hl.1 ⟨Nat.le_of_ble_eq_true rfl, Nat.le_of_ble_eq_true rfl⟩ (rest := []) rfl (Nat.le_of_ble_eq_true rfl) (by omega) dL_undone_141 (fun H locs cells slots hP hS hkp hB => ?_)
          have hA_j2 := hA_j2.kp hkp
          refine lv_istore (lv' := [(7, .int r23), (0, .ref b_X0), (1, .ref (ad 77)), (2, .ref q_j2), (3, .int x3), (4, .int x4), (5, .int x5), (6, .int x6)]) hx hb dL_undone_144 hl (by decide) rfl (fun ls hl => ?_)
          refine lv_goto (tgt := 324) hx hb dL_undone_146 (by decide) ?_
          exact key324 W17 x3 x4 r23 G23 q_j2 _ _ _ _ hf_j2 hP hS hA_j2 (hB.le (by omega)) ls (lv_sub hl [1, 2, 3, 4, 5, 0] rfl) h
        have h := ifF h c22
        by_cases c24 : (x5 - x5 / (9 : Int32) * (9 : Int32)) = 3
        · have h := ifT h c24
          refine lv_tableIn (off := 101) (tgt := 149) hx hb dL_undone_48 (by rw [c24]; decide) (by rw [c24]; decide) (by rw [c24]; rfl) (by decide) ?_
          refine lv_aload_n hx hb dL_undone_149 rfl (lv_at hl 1 rfl) ?_
          refine lv_iload hx hb dL_undone_150 (lv_at hl 6 rfl) ?_
          refine lv_iconst (v := 5) hx hb dL_undone_152 (by decide) ?_
          refine lv_irem hx hb dL_undone_153 (by decide) ?_
          refine lv_iload hx hb dL_undone_154 (lv_at hl 6 rfl) ?_
          refine lv_iconst (v := 3) hx hb dL_undone_156 (by decide) ?_
          refine lv_iushr hx hb dL_undone_157 rfl ?_
          refine lv_bipush (v := 11) hx hb dL_undone_158 (by decide) ?_
          refine lv_irem hx hb dL_undone_160 (by decide) ?_
          refine lv_iload hx hb dL_undone_161 (lv_at hl 6 rfl) ?_
          refine lv_bipush (v := 7) hx hb dL_undone_163 (by decide) ?_
          refine lv_iushr hx hb dL_undone_165 rfl ?_
          refine lv_bipush (v := 10) hx hb dL_undone_166 (by decide) ?_
          refine lv_irem hx hb dL_undone_168 (by decide) ?_
          obtain ⟨r25, G25, e25, h⟩ := bsome2 h
          refine lh_i (B' := (n10 * 516 + 1900)) F hP hK hE hS hB kl_drop mw_574 (ql_drop l hst D Y ad hI G15 (x6 - x6 / (5 : Int32) * (5 : Int32)) (((x6.toUInt32 >>> ((3 : Int32).toUInt32 &&& Int32.toUInt32 31)).toInt32) - ((x6.toUInt32 >>> ((3 : Int32).toUInt32 &&& Int32.toUInt32 31)).toInt32) / (11 : Int32) * (11 : Int32)) (((x6.toUInt32 >>> ((7 : Int32).toUInt32 &&& Int32.toUInt32 31)).toInt32) - ((x6.toUInt32 >>> ((7 : Int32).toUInt32 &&& Int32.toUInt32 31)).toInt32) / (10 : Int32) * (10 : Int32)) r25 G25 e25) rfl hl.1 ⟨Nat.le_of_ble_eq_true rfl, Nat.le_of_ble_eq_true rfl⟩ (rest := []) rfl (Nat.le_of_ble_eq_true rfl) (by omega) dL_undone_169 (fun H locs cells slots hP hS hkp hB => ?_)
          have hA_j2 := hA_j2.kp hkp
          refine lv_istore (lv' := [(7, .int r25), (0, .ref b_X0), (1, .ref (ad 77)), (2, .ref q_j2), (3, .int x3), (4, .int x4), (5, .int x5), (6, .int x6)]) hx hb dL_undone_172 hl (by decide) rfl (fun ls hl => ?_)
          refine lv_goto (tgt := 324) hx hb dL_undone_174 (by decide) ?_
          exact key324 W17 x3 x4 r25 G25 q_j2 _ _ _ _ hf_j2 hP hS hA_j2 (hB.le (by omega)) ls (lv_sub hl [1, 2, 3, 4, 5, 0] rfl) h
        have h := ifF h c24
        by_cases c26 : (x5 - x5 / (9 : Int32) * (9 : Int32)) = 4
        · have h := ifT h c26
          refine lv_tableIn (off := 129) (tgt := 177) hx hb dL_undone_48 (by rw [c26]; decide) (by rw [c26]; decide) (by rw [c26]; rfl) (by decide) ?_
          refine lv_aload_n hx hb dL_undone_177 rfl (lv_at hl 1 rfl) ?_
          refine lv_iload hx hb dL_undone_178 (lv_at hl 6 rfl) ?_
          refine lv_iconst (v := 5) hx hb dL_undone_180 (by decide) ?_
          refine lv_irem hx hb dL_undone_181 (by decide) ?_
          obtain ⟨r27, G27, e27, h⟩ := bsome2 h
          refine lh_i (B' := (n10 * 516 + 1900)) F hP hK hE hS hB kl_rest mw_566 (ql_rest l hst D Y ad hI G15 (x6 - x6 / (5 : Int32) * (5 : Int32)) r27 G27 e27) rfl hl.1 ⟨Nat.le_of_ble_eq_true rfl, Nat.le_of_ble_eq_true rfl⟩ (rest := []) rfl (Nat.le_of_ble_eq_true rfl) (by omega) dL_undone_182 (fun H locs cells slots hP hS hkp hB => ?_)
          have hA_j2 := hA_j2.kp hkp
          refine lv_istore (lv' := [(7, .int r27), (0, .ref b_X0), (1, .ref (ad 77)), (2, .ref q_j2), (3, .int x3), (4, .int x4), (5, .int x5), (6, .int x6)]) hx hb dL_undone_185 hl (by decide) rfl (fun ls hl => ?_)
          refine lv_goto (tgt := 324) hx hb dL_undone_187 (by decide) ?_
          exact key324 W17 x3 x4 r27 G27 q_j2 _ _ _ _ hf_j2 hP hS hA_j2 (hB.le (by omega)) ls (lv_sub hl [1, 2, 3, 4, 5, 0] rfl) h
        have h := ifF h c26
        by_cases c28 : (x5 - x5 / (9 : Int32) * (9 : Int32)) = 5
        · have h := ifT h c28
          refine lv_tableIn (off := 142) (tgt := 190) hx hb dL_undone_48 (by rw [c28]; decide) (by rw [c28]; decide) (by rw [c28]; rfl) (by decide) ?_
          refine lv_aload_n hx hb dL_undone_190 rfl (lv_at hl 1 rfl) ?_
          obtain ⟨r29, G29, e29, h⟩ := bsome2 h
          refine lh_i (B' := (n10 * 516 + 1900)) F hP hK hE hS hB kl_lift mw_1422 (ql_lift l hst D Y ad hI G15  r29 G29 e29) rfl hl.1 ⟨Nat.le_of_ble_eq_true rfl, Nat.le_of_ble_eq_true rfl⟩ (rest := []) rfl (Nat.le_of_ble_eq_true rfl) (by omega) dL_undone_191 (fun H locs cells slots hP hS hkp hB => ?_)
          have hA_j2 := hA_j2.kp hkp
          refine lv_istore (lv' := [(7, .int r29), (0, .ref b_X0), (1, .ref (ad 77)), (2, .ref q_j2), (3, .int x3), (4, .int x4), (5, .int x5), (6, .int x6)]) hx hb dL_undone_194 hl (by decide) rfl (fun ls hl => ?_)
          refine lv_goto (tgt := 324) hx hb dL_undone_196 (by decide) ?_
          exact key324 W17 x3 x4 r29 G29 q_j2 _ _ _ _ hf_j2 hP hS hA_j2 (hB.le (by omega)) ls (lv_sub hl [1, 2, 3, 4, 5, 0] rfl) h
        have h := ifF h c28
        by_cases c30 : (x5 - x5 / (9 : Int32) * (9 : Int32)) = 6
        · have h := ifT h c30
          refine lv_tableIn (off := 151) (tgt := 199) hx hb dL_undone_48 (by rw [c30]; decide) (by rw [c30]; decide) (by rw [c30]; rfl) (by decide) ?_
          refine lv_aload_n hx hb dL_undone_199 rfl (lv_at hl 1 rfl) ?_
          refine lv_iload hx hb dL_undone_200 (lv_at hl 6 rfl) ?_
          refine lv_bipush (v := 13) hx hb dL_undone_202 (by decide) ?_
          refine lv_irem hx hb dL_undone_204 (by decide) ?_
          obtain ⟨r31, G31, e31, h⟩ := bsome2 h
          refine lh_i (B' := (n10 * 516 + 1900)) F hP hK hE hS hB kl_limit mw_673 (ql_limit l hst D Y ad hI G15 (x6 - x6 / (13 : Int32) * (13 : Int32)) r31 G31 e31) rfl hl.1 ⟨Nat.le_of_ble_eq_true rfl, Nat.le_of_ble_eq_true rfl⟩ (rest := []) rfl (Nat.le_of_ble_eq_true rfl) (by omega) dL_undone_205 (fun H locs cells slots hP hS hkp hB => ?_)
          have hA_j2 := hA_j2.kp hkp
          refine lv_istore (lv' := [(7, .int r31), (0, .ref b_X0), (1, .ref (ad 77)), (2, .ref q_j2), (3, .int x3), (4, .int x4), (5, .int x5), (6, .int x6)]) hx hb dL_undone_208 hl (by decide) rfl (fun ls hl => ?_)
          refine lv_goto (tgt := 324) hx hb dL_undone_210 (by decide) ?_
          exact key324 W17 x3 x4 r31 G31 q_j2 _ _ _ _ hf_j2 hP hS hA_j2 (hB.le (by omega)) ls (lv_sub hl [1, 2, 3, 4, 5, 0] rfl) h
        have h := ifF h c30
        by_cases c32 : (x5 - x5 / (9 : Int32) * (9 : Int32)) = 7
        · have h := ifT h c32
          refine lv_tableIn (off := 165) (tgt := 213) hx hb dL_undone_48 (by rw [c32]; decide) (by rw [c32]; decide) (by rw [c32]; rfl) (by decide) ?_
          refine lv_aload_n hx hb dL_undone_213 rfl (lv_at hl 1 rfl) ?_
          refine lv_iload hx hb dL_undone_214 (lv_at hl 6 rfl) ?_
          refine lv_bipush (v := 17) hx hb dL_undone_216 (by decide) ?_
          refine lv_irem hx hb dL_undone_218 (by decide) ?_
          refine lv_iload hx hb dL_undone_219 (lv_at hl 6 rfl) ?_
          refine lv_iconst (v := 5) hx hb dL_undone_221 (by decide) ?_
          refine lv_iushr hx hb dL_undone_222 rfl ?_
          refine lv_bipush (v := 11) hx hb dL_undone_223 (by decide) ?_
          refine lv_irem hx hb dL_undone_225 (by decide) ?_
          obtain ⟨r33, G33, e33, h⟩ := bsome2 h
          refine lh_i (B' := (n10 * 516 + 1900)) F hP hK hE hS hB kl_tune mw_1430 (ql_tune l hst D Y ad hI G15 (x6 - x6 / (17 : Int32) * (17 : Int32)) (((x6.toUInt32 >>> ((5 : Int32).toUInt32 &&& Int32.toUInt32 31)).toInt32) - ((x6.toUInt32 >>> ((5 : Int32).toUInt32 &&& Int32.toUInt32 31)).toInt32) / (11 : Int32) * (11 : Int32)) r33 G33 e33) rfl hl.1 ⟨Nat.le_of_ble_eq_true rfl, Nat.le_of_ble_eq_true rfl⟩ (rest := []) rfl (Nat.le_of_ble_eq_true rfl) (by omega) dL_undone_226 (fun H locs cells slots hP hS hkp hB => ?_)
          have hA_j2 := hA_j2.kp hkp
          refine lv_istore (lv' := [(7, .int r33), (0, .ref b_X0), (1, .ref (ad 77)), (2, .ref q_j2), (3, .int x3), (4, .int x4), (5, .int x5), (6, .int x6)]) hx hb dL_undone_229 hl (by decide) rfl (fun ls hl => ?_)
          refine lv_goto (tgt := 324) hx hb dL_undone_231 (by decide) ?_
          exact key324 W17 x3 x4 r33 G33 q_j2 _ _ _ _ hf_j2 hP hS hA_j2 (hB.le (by omega)) ls (lv_sub hl [1, 2, 3, 4, 5, 0] rfl) h
        have h := ifF h c32
        refine lv_tableOut (tgt := 234) hx hb dL_undone_48 (by have nc18 := lv_neT c18 (a := 0) (by decide); have nc20 := lv_neT c20 (a := 1) (by decide); have nc22 := lv_neT c22 (a := 2) (by decide); have nc24 := lv_neT c24 (a := 3) (by decide); have nc26 := lv_neT c26 (a := 4) (by decide); have nc28 := lv_neT c28 (a := 5) (by decide); have nc30 := lv_neT c30 (a := 6) (by decide); have nc32 := lv_neT c32 (a := 7) (by decide); omega) (by decide) ?_
        refine lv_aload_n hx hb dL_undone_234 rfl (lv_at hl 1 rfl) ?_
        refine bd_N [q_j2] (B' := (n10 * 516 + 1901)) F hJ hP hS hB (List.forall_mem_cons.mpr ⟨hA_j2.lt, (fun _ z => nomatch z)⟩) hl.1 (Nat.le_of_ble_eq_true rfl) (rest := [.ref (ad 77)]) (Nat.le_of_ble_eq_true rfl) (by omega) dL_undone_235 dL_undone_238 dL_undone_239 (fun q_B235 b_B235 c_B235 f_B235 H cells slots hA_B235 hkp hP hS hB => ?_)
        have hA_j2 := hA_j2.kp hkp
        refine ldcSW hx hb hown (hK.2.2.2.2.2 12 (by decide)) dL_undone_242 ?_
        have hA_c242 := Sg.ks hK hS (i := 12) (by decide)
        have hA_B235 := (hA_B235.old (ks_lt hK (i := 12) (by decide)).2).old (ks_lt hK (i := 12) (by decide)).1
        obtain ⟨g34, h⟩ := ckS h
        have hv := hA_B235
        refine bd_S (B' := (n10 * 516 + 1893)) F hK hJ hP hS hB hA_B235 hA_c242 (by simp) (by simp) g34 hl.1 (Nat.le_of_ble_eq_true rfl) (rest := [.ref (ad 77)]) (Nat.le_of_ble_eq_true rfl) (by omega) dL_undone_245 (fun b_B235 c_B235 f_B235 H cells slots hA_B235 hko hP hS hB => ?_)
        have hA_c242 := hA_c242.ko hko (hv.off (by simp)) (hv.off (by simp))
        have hA_j2 := hA_j2.ko hko (hv.off (by simp))
        refine lv_iload hx hb dL_undone_248 (lv_at hl 6 rfl) ?_
        refine lv_iconst (v := 4) hx hb dL_undone_250 (by decide) ?_
        refine lv_irem hx hb dL_undone_251 (by decide) ?_
        obtain ⟨g35, h⟩ := ckS h
        have hv := hA_B235
        refine bd_I (B' := (n10 * 516 + 1885)) F hJ hP hS hB hA_B235 g35.1 g35.2 hl.1 (Nat.le_of_ble_eq_true rfl) (rest := [.ref (ad 77)]) (Nat.le_of_ble_eq_true rfl) (by omega) dL_undone_252 (fun b_B235 c_B235 f_B235 H cells slots hA_B235 hko hP hS hB => ?_)
        have hA_j2 := hA_j2.ko hko (hv.off (by simp))
        refine ldcSW hx hb hown (hK.2.2.2.2.2 13 (by decide)) dL_undone_255 ?_
        have hA_c255 := Sg.ks hK hS (i := 13) (by decide)
        have hA_B235 := (hA_B235.old (ks_lt hK (i := 13) (by decide)).2).old (ks_lt hK (i := 13) (by decide)).1
        obtain ⟨g36, h⟩ := ckS h
        have hv := hA_B235
        refine bd_S (B' := (n10 * 516 + 1877)) F hK hJ hP hS hB hA_B235 hA_c255 (by simp) (by simp) g36 hl.1 (Nat.le_of_ble_eq_true rfl) (rest := [.ref (ad 77)]) (Nat.le_of_ble_eq_true rfl) (by omega) dL_undone_258 (fun b_B235 c_B235 f_B235 H cells slots hA_B235 hko hP hS hB => ?_)
        have hA_c255 := hA_c255.ko hko (hv.off (by simp)) (hv.off (by simp))
        have hA_j2 := hA_j2.ko hko (hv.off (by simp))
        refine lv_iload hx hb dL_undone_261 (lv_at hl 5 rfl) ?_
        refine lv_bipush (v := 18) hx hb dL_undone_263 (by decide) ?_
        refine lv_irem hx hb dL_undone_265 (by decide) ?_
        refine lv_bipush (v := 9) hx hb dL_undone_266 (by decide) ?_
        refine lv_icmp_ge (tgt := 277) hx hb dL_undone_268 (by decide) (fun c37 => ?_) (fun c37 => ?_)
        · have h := ifT h c37
          refine bd_N [q_B235, b_B235, q_j2] (B' := (n10 * 516 + 1875)) F hJ hP hS hB (List.forall_mem_cons.mpr ⟨hA_B235.lt.1, (List.forall_mem_cons.mpr ⟨hA_B235.lt.2, (List.forall_mem_cons.mpr ⟨hA_j2.lt, (fun _ z => nomatch z)⟩)⟩)⟩) hl.1 (Nat.le_of_ble_eq_true rfl) (rest := [.ref q_B235, .ref (ad 77)]) (Nat.le_of_ble_eq_true rfl) (by omega) dL_undone_277 dL_undone_280 dL_undone_281 (fun q_B277 b_B277 c_B277 f_B277 H cells slots hA_B277 hkp hP hS hB => ?_)
          have hA_j2 := hA_j2.kp hkp
          have hA_B235 := hA_B235.kp hkp
          refine ldcSW hx hb hown (hK.2.2.2.2.2 14 (by decide)) dL_undone_284 ?_
          have hA_c284 := Sg.ks hK hS (i := 14) (by decide)
          have hA_B277 := (hA_B277.old (ks_lt hK (i := 14) (by decide)).2).old (ks_lt hK (i := 14) (by decide)).1
          have hA_B235 := (hA_B235.old (ks_lt hK (i := 14) (by decide)).2).old (ks_lt hK (i := 14) (by decide)).1
          obtain ⟨g38, h⟩ := ckS h
          have hv := hA_B277
          refine bd_S (B' := (n10 * 516 + 1867)) F hK hJ hP hS hB hA_B277 hA_c284 (by simp) (by simp) g38 hl.1 (Nat.le_of_ble_eq_true rfl) (rest := [.ref q_B235, .ref (ad 77)]) (Nat.le_of_ble_eq_true rfl) (by omega) dL_undone_287 (fun b_B277 c_B277 f_B277 H cells slots hA_B277 hko hP hS hB => ?_)
          have hA_c284 := hA_c284.ko hko (hv.off (by simp)) (hv.off (by simp))
          have hA_B235 := hA_B235.ko hko (hv.off (by simp)) (hv.off (by simp))
          have hA_j2 := hA_j2.ko hko (hv.off (by simp))
          refine lv_iload hx hb dL_undone_290 (lv_at hl 6 rfl) ?_
          refine lv_bipush (v := 16) hx hb dL_undone_292 (by decide) ?_
          refine lv_irem hx hb dL_undone_294 (by decide) ?_
          obtain ⟨g39, h⟩ := ckS h
          have hv := hA_B277
          refine bd_I (B' := (n10 * 516 + 1859)) F hJ hP hS hB hA_B277 g39.1 g39.2 hl.1 (Nat.le_of_ble_eq_true rfl) (rest := [.ref q_B235, .ref (ad 77)]) (Nat.le_of_ble_eq_true rfl) (by omega) dL_undone_295 (fun b_B277 c_B277 f_B277 H cells slots hA_B277 hko hP hS hB => ?_)
          have hA_B235 := hA_B235.ko hko (hv.off (by simp)) (hv.off (by simp))
          have hA_j2 := hA_j2.ko hko (hv.off (by simp))
          refine ldcSW hx hb hown (hK.2.2.2.2.2 15 (by decide)) dL_undone_298 ?_
          have hA_c298 := Sg.ks hK hS (i := 15) (by decide)
          have hA_B277 := (hA_B277.old (ks_lt hK (i := 15) (by decide)).2).old (ks_lt hK (i := 15) (by decide)).1
          have hA_B235 := (hA_B235.old (ks_lt hK (i := 15) (by decide)).2).old (ks_lt hK (i := 15) (by decide)).1
          obtain ⟨g40, h⟩ := ckS h
          have hv := hA_B277
          refine bd_S (B' := (n10 * 516 + 1851)) F hK hJ hP hS hB hA_B277 hA_c298 (by simp) (by simp) g40 hl.1 (Nat.le_of_ble_eq_true rfl) (rest := [.ref q_B235, .ref (ad 77)]) (Nat.le_of_ble_eq_true rfl) (by omega) dL_undone_301 (fun b_B277 c_B277 f_B277 H cells slots hA_B277 hko hP hS hB => ?_)
          have hA_c298 := hA_c298.ko hko (hv.off (by simp)) (hv.off (by simp))
          have hA_B235 := hA_B235.ko hko (hv.off (by simp)) (hv.off (by simp))
          have hA_j2 := hA_j2.ko hko (hv.off (by simp))
          have hv := hA_B277
          have hlt_B235 := hA_B235.lt
          refine bd_T (B' := (n10 * 516 + 1842)) F hJ hP hS hB hA_B277 hl.1 (Nat.le_of_ble_eq_true rfl) (rest := [.ref q_B235, .ref (ad 77)]) (Nat.le_of_ble_eq_true rfl) (by omega) dL_undone_304 (fun q_s304 v_s304 H cells slots hA_s304 hn hko hP hS hB => ?_)
          have hA_B235 := hA_B235.ko hko (hv.off (by simp)) (hv.off (by simp))
          have hA_j2 := hA_j2.ko hko (hv.off (by simp))
          have hA_B235 := (hA_B235.cons hA_s304.lt.2 (by omega) (by omega)).cons hA_s304.lt.1 (by omega) (by omega)
          exact key307 W17 x3 x4 (((([] : List Int32) ++ (stB 14)) ++ dgs (x6 - x6 / (16 : Int32) * (16 : Int32)).toNatClampNeg) ++ (stB 15)) (((([] : List Int32) ++ (stB 12)) ++ dgs (x6 - x6 / (4 : Int32) * (4 : Int32)).toNatClampNeg) ++ (stB 13)) G15 q_j2 q_s304 v_s304 q_B235 b_B235 c_B235 f_B235 _ _ _ _ hf_j2 hP hS hA_j2 hA_s304 (hA_B235.sub (by simp)) (hB.le (by omega)) ls (lv_sub hl [0, 1, 2, 3, 4] rfl) h
        · have h := ifF h c37
          refine ldcSW hx hb hown (hK.2.2.2.2.2 6 (by decide)) dL_undone_271 ?_
          have hA_c271 := Sg.ks hK hS (i := 6) (by decide)
          have hA_B235 := (hA_B235.old (ks_lt hK (i := 6) (by decide)).2).old (ks_lt hK (i := 6) (by decide)).1
          refine lv_goto (tgt := 307) hx hb dL_undone_274 (by decide) ?_
          exact key307 W17 x3 x4 (stB 6) (((([] : List Int32) ++ (stB 12)) ++ dgs (x6 - x6 / (4 : Int32) * (4 : Int32)).toNatClampNeg) ++ (stB 13)) G15 q_j2 (ad (200 + 6)) (ad (300 + 6)) q_B235 b_B235 c_B235 f_B235 _ _ _ _ hf_j2 hP hS hA_j2 hA_c271 (hA_B235.sub (by simp)) (hB.le (by omega)) ls (lv_sub hl [0, 1, 2, 3, 4] rfl) h
      intro G W_j2 x3 x4 q_j2 H locs cells slots hf_j2 hP hS hA_j2 hB ls hl h
      have h := lqS4 h
      refine lv_iload hx hb dL_undone_10 (lv_at hl 4 rfl) ?_
      refine lv_bipush (v := 7) hx hb dL_undone_12 (by decide) ?_
      refine lv_icmp_ge (tgt := 361) hx hb dL_undone_14 (by decide) (fun c41 => ?_) (fun c41 => ?_)
      · have h := ifT h c41
        refine lv_iload_n hx hb dL_undone_361 rfl (lv_at hl 3 rfl) ?_
        refine lv_iconst (v := 1) hx hb dL_undone_362 (by decide) ?_
        refine lv_isub hx hb dL_undone_363 ?_
        refine lv_istore (lv' := [(4, .int (x3 - (1 : Int32))), (0, .ref b_X0), (1, .ref (ad 77)), (2, .ref q_j2), (3, .int x3)]) hx hb dL_undone_364 hl (by decide) rfl (fun ls hl => ?_)
        exact key366 W_j2 8 G (x3 - (1 : Int32)) q_j2 _ _ _ _ hf_j2 hP hS hA_j2 (hB.le (by omega)) ls (lv_sub hl [2, 3, 0] rfl) h
      · have h := ifF h c41
        refine lv_aload_n hx hb dL_undone_17 rfl (lv_at hl 0 rfl) ?_
        refine lv_bipush (v := 18) hx hb dL_undone_18 (by decide) ?_
        refine lv_iload hx hb dL_undone_20 (lv_at hl 4 rfl) ?_
        refine lv_iadd hx hb dL_undone_22 ?_
        obtain ⟨r42, G42, e42, h⟩ := bsome2 h
        refine lm_i (B' := (n10 * 516 + 2100)) F hP hK hE hS hB phX_b (phX_o hX_X0 hS) k_L_cell mw_232 (q_L_cell l hst D Y ad hI G L_X0 xs_X0 b_X0 ((18 : Int32) + x4) r42 G42 e42) rfl hl.1 ⟨Nat.le_of_ble_eq_true rfl, Nat.le_of_ble_eq_true rfl⟩ (rest := []) rfl (Nat.le_of_ble_eq_true rfl) (by omega) dL_undone_23 (fun H locs cells slots o42 hP hS hkp hB => ?_)
        have hA_j2 := hA_j2.kp hkp
        refine lv_iconst (v := 1) hx hb dL_undone_26 (by decide) ?_
        refine lv_iushr hx hb dL_undone_27 rfl ?_
        refine lv_istore (lv' := [(5, .int ((r42.toUInt32 >>> ((1 : Int32).toUInt32 &&& Int32.toUInt32 31)).toInt32)), (0, .ref b_X0), (1, .ref (ad 77)), (2, .ref q_j2), (3, .int x3), (4, .int x4)]) hx hb dL_undone_28 hl (by decide) rfl (fun ls hl => ?_)
        refine lv_iload hx hb dL_undone_30 (lv_at hl 0 rfl) ?_
        refine lv_iconst (v := 4) hx hb dL_undone_32 (by decide) ?_
        refine lv_iushr hx hb dL_undone_33 rfl ?_
        refine lv_istore (lv' := [(6, .int ((((r42.toUInt32 >>> ((1 : Int32).toUInt32 &&& Int32.toUInt32 31)).toInt32).toUInt32 >>> ((4 : Int32).toUInt32 &&& Int32.toUInt32 31)).toInt32)), (5, .int ((r42.toUInt32 >>> ((1 : Int32).toUInt32 &&& Int32.toUInt32 31)).toInt32)), (0, .ref b_X0), (1, .ref (ad 77)), (2, .ref q_j2), (3, .int x3), (4, .int x4)]) hx hb dL_undone_34 hl (by decide) rfl (fun ls hl => ?_)
        exact key36 W_j2 x3 x4 ((r42.toUInt32 >>> ((1 : Int32).toUInt32 &&& Int32.toUInt32 31)).toInt32) ((((r42.toUInt32 >>> ((1 : Int32).toUInt32 &&& Int32.toUInt32 31)).toInt32).toUInt32 >>> ((4 : Int32).toUInt32 &&& Int32.toUInt32 31)).toInt32) G42 q_j2 _ _ _ _ hf_j2 hP hS hA_j2 (hB.le (by omega)) ls (lv_sub hl [2, 3, 4, 5, 6, 1, 0] rfl) h
  refine lv_bipush (v := 9) hx hb dL_undone_0 (by decide) ?_
  refine nw_l (N := 9) (B' := (5712)) F hP hS hB (by decide) (by decide) (by omega) (by decide) mw_1477 dL_undone_2 (fun q_j2 H cells slots hA_j2 hf_j2 hd hP hS hkp hB => ?_)
  refine lv_astore_n (lv' := [(2, .ref q_j2), (0, .ref b_X0), (1, .ref (ad 77))]) hx hb dL_undone_4 rfl hl (by decide) rfl (fun ls hl => ?_)
  refine lv_iconst (v := 0) hx hb dL_undone_5 (by decide) ?_
  refine lv_istore_n (lv' := [(3, .int (0 : Int32)), (2, .ref q_j2), (0, .ref b_X0), (1, .ref (ad 77))]) hx hb dL_undone_6 rfl hl (by decide) rfl (fun ls hl => ?_)
  refine lv_iconst (v := 0) hx hb dL_undone_7 (by decide) ?_
  refine lv_istore (lv' := [(4, .int (0 : Int32)), (3, .int (0 : Int32)), (2, .ref q_j2), (0, .ref b_X0), (1, .ref (ad 77))]) hx hb dL_undone_8 hl (by decide) rfl (fun ls hl => ?_)
  exact key10 8 G (fun _ => 0) (0 : Int32) (0 : Int32) q_j2 _ _ _ _ hf_j2 hP hS hA_j2 (hB.le (by omega)) ls (lv_sub hl [3, 4, 2, 1, 0] rfl) h
