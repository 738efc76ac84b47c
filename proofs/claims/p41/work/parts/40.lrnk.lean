def f_L_ranks_365 (k265 : GT → Int32 → Int32 → Option (Int32 × GT)) (n_m1 : Nat) (S_m1 : Nat → Nat → Int32) (x6 : Int32) (x7 : Int32) (G : GT) : Option (Int32 × GT) := k265 G x7 (x6 + 1)
def f_L_ranks_330 (k265 : GT → Int32 → Int32 → Option (Int32 × GT)) (n_m1 : Nat) (S_m1 : Nat → Nat → Int32) (x5 : Int32) (x6 : Int32) (x7 : Int32) (s330_0 : Int32) (G : GT) : Option (Int32 × GT) := (if x7 < 0 then some ((0 : Int32), G) else (if inb x7 n_m1 then (if (S_m1 (x7.toNatClampNeg) 3) < 0 then some ((0 : Int32), G) else (if s330_0 < 0 then some ((0 : Int32), G) else (if s330_0 = 0 then (if x5 ≤ x7 then f_L_ranks_365 k265 n_m1 S_m1 x6 x7 G else some ((0 : Int32), G)) else f_L_ranks_365 k265 n_m1 S_m1 x6 x7 G))) else none))
def f_L_ranks_305 (k265 : GT → Int32 → Int32 → Option (Int32 × GT)) (n_m1 : Nat) (S_m1 : Nat → Nat → Int32) (x5 : Int32) (x6 : Int32) (x7 : Int32) (s305_0 : Int32) (G : GT) : Option (Int32 × GT) := (if s305_0 = 0 then (if inb x5 n_m1 then (if inb x7 n_m1 then f_L_ranks_330 k265 n_m1 S_m1 x5 x6 x7 ((S_m1 (x5.toNatClampNeg) 2) - (S_m1 (x7.toNatClampNeg) 2)) G else none) else none) else f_L_ranks_330 k265 n_m1 S_m1 x5 x6 x7 s305_0 G)
def f_L_ranks_265 (n_m1 : Nat) (S_m1 : Nat → Nat → Int32) (n : Nat) (G : GT) (y_x5 : Int32) (y_x6 : Int32) : Option (Int32 × GT) := lq3 (fun (k265 : GT → Int32 → Int32 → Option (Int32 × GT)) (G : GT) (x5 : Int32) (x6 : Int32) => (bindR (f_X9_account G (4 : Int32)) fun r13 G13 => (if r13 ≤ x6 then (bindR (f_X9_account G13 (4 : Int32)) fun r15 G15 => (bind2 (fw_highest G15 r15) fun r16 G16 => (if r16 = (-13 : Int32) then (bind2 (fw_highest G16 (-1 : Int32)) fun r18 G18 => (if r18 = (-13 : Int32) then (bind2 (fw_loudest G18 (4 : Int32)) fun r20 G20 => (if r20 = (-13 : Int32) then (bind2 (fw_tinOf G20 (4 : Int32) (9 : Int32)) fun r22 G22 => (if r22 = (-11 : Int32) then some ((1 : Int32), G22) else some ((0 : Int32), G22))) else some ((0 : Int32), G20))) else some ((0 : Int32), G18))) else some ((0 : Int32), G16)))) else (bind2 (fw_highest G13 x6) fun r24 G24 => (if 0 ≤ x5 then (if inb x5 n_m1 then (if inb r24 n_m1 then f_L_ranks_305 k265 n_m1 S_m1 x5 x6 r24 ((S_m1 (x5.toNatClampNeg) 3) - (S_m1 (r24.toNatClampNeg) 3)) G24 else none) else none) else f_L_ranks_305 k265 n_m1 S_m1 x5 x6 r24 (1 : Int32) G24))))) n G y_x5 y_x6
def f_L_ranks_253 (k108 : GT → Int32 → Option (Int32 × GT)) (n_m1 : Nat) (S_m1 : Nat → Nat → Int32) (W_v6 : Nat → Int32) (W_v10 : Nat → Int32) (W_v14 : Nat → Int32) (x5 : Int32) (G : GT) : Option (Int32 × GT) := k108 G (x5 + 1)
def f_L_ranks_232 (k108 : GT → Int32 → Option (Int32 × GT)) (n_m1 : Nat) (S_m1 : Nat → Nat → Int32) (W_v6 : Nat → Int32) (W_v10 : Nat → Int32) (W_v14 : Nat → Int32) (x5 : Int32) (x6 : Int32) (x7 : Int32) (s232_0 : Int32) (G : GT) : Option (Int32 × GT) := (if s232_0 < 0 then some ((0 : Int32), G) else (if s232_0 = 0 then (if x7 ≤ x6 then f_L_ranks_253 k108 n_m1 S_m1 W_v6 W_v10 W_v14 x5 G else some ((0 : Int32), G)) else f_L_ranks_253 k108 n_m1 S_m1 W_v6 W_v10 W_v14 x5 G))
def f_L_ranks_108 (n_m1 : Nat) (S_m1 : Nat → Nat → Int32) (W_v6 : Nat → Int32) (W_v10 : Nat → Int32) (W_v14 : Nat → Int32) (n : Nat) (G : GT) (y_x5 : Int32) : Option (Int32 × GT) := lq2 (fun (k108 : GT → Int32 → Option (Int32 × GT)) (G : GT) (x5 : Int32) => (if (4 : Int32) ≤ x5 then f_L_ranks_265 n_m1 S_m1 17 G (-1 : Int32) (0 : Int32) else (bind2 (fw_loudest G x5) fun r34 G34 => (bind2 (fw_tinOf G34 x5 (2 : Int32)) fun r35 G35 => (if inb x5 4 then (if r35 = (W_v6 x5.toNatClampNeg) then (bind2 (fw_tinOf G35 x5 (3 : Int32)) fun r38 G38 => (if inb x5 4 then (if r38 = (W_v10 x5.toNatClampNeg) then (bind2 (fw_tinOf G38 x5 (4 : Int32)) fun r41 G41 => (if inb x5 4 then (if r41 = (W_v14 x5.toNatClampNeg) then (bind2 (fw_tinOf G41 x5 (5 : Int32)) fun r44 G44 => (if r44 = (-12 : Int32) then (if x5 ≤ 0 then f_L_ranks_253 k108 n_m1 S_m1 W_v6 W_v10 W_v14 x5 G44 else (bind2 (fw_loudest G44 (x5 - (1 : Int32))) fun r47 G47 => (if inb r47 4 then (if inb r34 4 then (if ((W_v14 r47.toNatClampNeg) - (W_v14 r34.toNatClampNeg)) = 0 then (bind2 (fw_tinOf G47 r47 (0 : Int32)) fun r51 G51 => (bind2 (fw_tinOf G51 r34 (0 : Int32)) fun r52 G52 => f_L_ranks_232 k108 n_m1 S_m1 W_v6 W_v10 W_v14 x5 r34 r47 (r51 - r52) G52)) else f_L_ranks_232 k108 n_m1 S_m1 W_v6 W_v10 W_v14 x5 r34 r47 ((W_v14 r47.toNatClampNeg) - (W_v14 r34.toNatClampNeg)) G47) else none) else none))) else some ((0 : Int32), G44))) else some ((0 : Int32), G41)) else none)) else some ((0 : Int32), G38)) else none)) else some ((0 : Int32), G35)) else none))))) n G y_x5
def f_L_ranks_83 (k29 : GT → (Nat → Int32) → (Nat → Int32) → (Nat → Int32) → Int32 → Option (Int32 × GT)) (n_m1 : Nat) (S_m1 : Nat → Nat → Int32) (x6 : Int32) (W_v6 : Nat → Int32) (W_v10 : Nat → Int32) (W_v14 : Nat → Int32) (x7 : Int32) (w8 : Nat) (s83_0 : Int32) (s83_1 : Int32) (s83_2 : Int32) (G : GT) : Option (Int32 × GT) := (if inb s83_2 4 then ((some (upd W_v10 (s83_2.toNatClampNeg) (s83_1 + s83_0))).bind fun W54 => (if inb (S_m1 w8 0) 4 then (if inb (S_m1 w8 0) 4 then ((some (upd W_v14 ((S_m1 w8 0).toNatClampNeg) ((W_v14 (S_m1 w8 0).toNatClampNeg) + (S_m1 w8 2)))).bind fun W57 => k29 G W_v6 W54 W57 (x7 + 1)) else none) else none)) else none)
def f_L_ranks_62 (k29 : GT → (Nat → Int32) → (Nat → Int32) → (Nat → Int32) → Int32 → Option (Int32 × GT)) (n_m1 : Nat) (S_m1 : Nat → Nat → Int32) (x6 : Int32) (W_v6 : Nat → Int32) (W_v10 : Nat → Int32) (W_v14 : Nat → Int32) (x7 : Int32) (w8 : Nat) (s62_0 : Int32) (s62_1 : Int32) (s62_2 : Int32) (G : GT) : Option (Int32 × GT) := (if inb s62_2 4 then ((some (upd W_v6 (s62_2.toNatClampNeg) (s62_1 + s62_0))).bind fun W59 => (if inb (S_m1 w8 0) 4 then (if 0 ≤ (S_m1 w8 3) then f_L_ranks_83 k29 n_m1 S_m1 x6 W59 W_v10 W_v14 x7 w8 (0 : Int32) (W_v10 (S_m1 w8 0).toNatClampNeg) (S_m1 w8 0) G else f_L_ranks_83 k29 n_m1 S_m1 x6 W59 W_v10 W_v14 x7 w8 (1 : Int32) (W_v10 (S_m1 w8 0).toNatClampNeg) (S_m1 w8 0) G) else none)) else none)
def f_L_ranks_29 (n_m1 : Nat) (S_m1 : Nat → Nat → Int32) (x6 : Int32) (n : Nat) (G : GT) (y_W_v6 : Nat → Int32) (y_W_v10 : Nat → Int32) (y_W_v14 : Nat → Int32) (y_x7 : Int32) : Option (Int32 × GT) := lq5 (fun (k29 : GT → (Nat → Int32) → (Nat → Int32) → (Nat → Int32) → Int32 → Option (Int32 × GT)) (G : GT) (W_v6 : Nat → Int32) (W_v10 : Nat → Int32) (W_v14 : Nat → Int32) (x7 : Int32) => (if x6 ≤ x7 then f_L_ranks_108 n_m1 S_m1 W_v6 W_v10 W_v14 5 G (0 : Int32) else (if inb x7 n_m1 then (if inb (S_m1 (x7.toNatClampNeg) 0) 4 then (if 0 ≤ (S_m1 (x7.toNatClampNeg) 3) then f_L_ranks_62 k29 n_m1 S_m1 x6 W_v6 W_v10 W_v14 x7 (x7.toNatClampNeg) (1 : Int32) (W_v6 (S_m1 (x7.toNatClampNeg) 0).toNatClampNeg) (S_m1 (x7.toNatClampNeg) 0) G else f_L_ranks_62 k29 n_m1 S_m1 x6 W_v6 W_v10 W_v14 x7 (x7.toNatClampNeg) (0 : Int32) (W_v6 (S_m1 (x7.toNatClampNeg) 0).toNatClampNeg) (S_m1 (x7.toNatClampNeg) 0) G) else none) else none))) n G y_W_v6 y_W_v10 y_W_v14 y_x7
def f_L_ranks (G : GT) : Option (Int32 × GT) := (bind3 (f_L_sounds G ) fun n_m1 S67 G67 => f_L_ranks_29 n_m1 S67 (nI n_m1) 17 G67 (fun _ => 0) (fun _ => 0) (fun _ => 0) (0 : Int32))
set_option maxRecDepth 100000 in
set_option maxHeartbeats 8000000 in
theorem q_L_ranks (l : Launch) (hst : l.stackTraces = false) (D : va_G) (Y : Nat → ClassId) (ad : Nat → Nat) (hI : Inj 90 ad) (G : GT) (r : Int32) (G' : GT) (h : f_L_ranks G   = some (r, G')) : LM l yL_ranks cL_ranks 9 (some .boolean) 12 641 D Y ad G Ph0 [.ref (ad 77)] (PI (some .boolean) r D Y ad G') := by
  refine LM_of (ret := (some .boolean)) (by decide) (Nat.le_of_ble_eq_true rfl) (lv := [(0, .ref (ad 77))]) rfl ?_
  intro p ev s m below meth c ls F hP hK hE hΦ hS hr hk hl hB
  have F : Fx p c cL_ranks 9 s m _ RL D Y := F
  have hx := F.1.1
  have hb := F.1.2.1
  have hts := F.1.2.2.2.2
  have hown := F.1.2.2.2.1
  have key265 : ∀ (n_m1 : Nat) (S_m1 : Nat → Nat → Int32) (n : Nat) (G : GT) (x5 : Int32) (x6 : Int32) (q_m1 : Nat) (r_m1 : Nat → Nat) (H : Heap) (locs : List Loc) (cells slots : Nat), (s.heap.size ≤ q_m1 ∧ ∀ i, i < n_m1 → s.heap.size ≤ r_m1 i) → va_P D vwCl (wsC Y ad G) H → va_S (AW 90 ad) s.heap H locs → MX Y ad q_m1 n_m1 r_m1 S_m1 H → Bg 641 cells slots (n * 2 + 6) → ∀ ls : Array Slot, lv_has ls 9 [(0, .ref (ad 77)), (1, .ref q_m1), (5, .int x5), (6, .int x6)] → f_L_ranks_265   n_m1 S_m1 n G x5 x6 = some (r, G') → W p l ev (rmD 12 641 (16 * 641)) s m ([.ref (ad 77)] : List Value).toArray below meth c H locs cells slots (MQ below (LQ (PI (some .boolean) r D Y ad G') (AW 90 ad)) ([.ref (ad 77)] : List Value).toArray s 641 (16 * 641) (AW 90 ad)) (F0 m 265 ls []) := by
    intro n_m1 S_m1
    intro n
    induction n with
    | zero => intro G x5 x6 q_m1 r_m1 H locs cells slots hf_m1 hP hS hA_m1 hB ls hl h; exact lqZ3 h
    | succ n265 ih265 =>
      have key365 : ∀ (x6 : Int32) (x7 : Int32) (G : GT) (q_m1 : Nat) (r_m1 : Nat → Nat) (H : Heap) (locs : List Loc) (cells slots : Nat), (s.heap.size ≤ q_m1 ∧ ∀ i, i < n_m1 → s.heap.size ≤ r_m1 i) → va_P D vwCl (wsC Y ad G) H → va_S (AW 90 ad) s.heap H locs → MX Y ad q_m1 n_m1 r_m1 S_m1 H → Bg 641 cells slots (n265 * 2 + 6) → ∀ ls : Array Slot, lv_has ls 9 [(0, .ref (ad 77)), (1, .ref q_m1), (6, .int x6), (7, .int x7)] → f_L_ranks_365  (f_L_ranks_265   n_m1 S_m1 n265) n_m1 S_m1 x6 x7 G = some (r, G') → W p l ev (rmD 12 641 (16 * 641)) s m ([.ref (ad 77)] : List Value).toArray below meth c H locs cells slots (MQ below (LQ (PI (some .boolean) r D Y ad G') (AW 90 ad)) ([.ref (ad 77)] : List Value).toArray s 641 (16 * 641) (AW 90 ad)) (F0 m 365 ls []) := by
        intro x6 x7 G q_m1 r_m1 H locs cells slots hf_m1 hP hS hA_m1 hB ls hl h
        refine lv_iload hx hb dL_ranks_365 (lv_at hl 3 rfl) ?_
        refine lv_istore (lv' := [(5, .int x7), (0, .ref (ad 77)), (1, .ref q_m1), (6, .int x6), (7, .int x7)]) hx hb dL_ranks_367 hl (by decide) rfl (fun ls hl => ?_)
        refine lv_iinc (v := (x6 + 1)) (lv' := [(6, .int (x6 + 1)), (5, .int x7), (0, .ref (ad 77)), (1, .ref q_m1), (7, .int x7)]) hx hb dL_ranks_369 hl (k := 3) rfl rfl (by decide) rfl (fun ls hl => ?_)
        refine lv_goto (tgt := 265) hx hb dL_ranks_372 (by decide) ?_
        exact ih265 G x7 (x6 + 1) q_m1 r_m1 _ _ _ _ hf_m1 hP hS hA_m1 (hB.le (by omega)) ls (lv_sub hl [2, 3, 1, 0] rfl) h
      have key330 : ∀ (x5 : Int32) (x6 : Int32) (x7 : Int32) (s330_0 : Int32) (G : GT) (q_m1 : Nat) (r_m1 : Nat → Nat) (H : Heap) (locs : List Loc) (cells slots : Nat), (s.heap.size ≤ q_m1 ∧ ∀ i, i < n_m1 → s.heap.size ≤ r_m1 i) → va_P D vwCl (wsC Y ad G) H → va_S (AW 90 ad) s.heap H locs → MX Y ad q_m1 n_m1 r_m1 S_m1 H → Bg 641 cells slots (n265 * 2 + 6) → ∀ ls : Array Slot, lv_has ls 9 [(0, .ref (ad 77)), (1, .ref q_m1), (5, .int x5), (6, .int x6), (7, .int x7)] → f_L_ranks_330  (f_L_ranks_265   n_m1 S_m1 n265) n_m1 S_m1 x5 x6 x7 s330_0 G = some (r, G') → W p l ev (rmD 12 641 (16 * 641)) s m ([.ref (ad 77)] : List Value).toArray below meth c H locs cells slots (MQ below (LQ (PI (some .boolean) r D Y ad G') (AW 90 ad)) ([.ref (ad 77)] : List Value).toArray s 641 (16 * 641) (AW 90 ad)) (F0 m 330 ls [.int s330_0]) := by
        intro x5 x6 x7 s330_0 G q_m1 r_m1 H locs cells slots hf_m1 hP hS hA_m1 hB ls hl h
        refine lv_istore (lv' := [(8, .int s330_0), (0, .ref (ad 77)), (1, .ref q_m1), (5, .int x5), (6, .int x6), (7, .int x7)]) hx hb dL_ranks_330 hl (by decide) rfl (fun ls hl => ?_)
        refine lv_iload hx hb dL_ranks_332 (lv_at hl 5 rfl) ?_
        refine lv_if_lt (tgt := 363) hx hb dL_ranks_334 (by decide) (fun c1 => ?_) (fun c1 => ?_)
        · have h := ifT h c1
          refine lv_iconst (v := 0) hx hb dL_ranks_363 (by decide) ?_
          exact lm_end F hP hS hB hr hk rfl h dL_ranks_364
        · have h := ifF h c1
          refine lv_aload_n hx hb dL_ranks_337 rfl (lv_at hl 2 rfl) ?_
          refine lv_iload hx hb dL_ranks_338 (lv_at hl 5 rfl) ?_
          obtain ⟨b2, h⟩ := ckS h
          refine mx_row F hA_m1 b2 dL_ranks_340 (fun hw3 => ?_)
          refine lv_iconst (v := 3) hx hb dL_ranks_341 (by decide) ?_
          refine ai_ldk F (hA_m1.2.2.1 _ hw3).2 (k := 3) (by decide) (inbV (by decide) (by decide)) dL_ranks_342 ?_
          refine lv_if_lt (tgt := 363) hx hb dL_ranks_343 (by decide) (fun c4 => ?_) (fun c4 => ?_)
          · have h := ifT h c4
            refine lv_iconst (v := 0) hx hb dL_ranks_363 (by decide) ?_
            exact lm_end F hP hS hB hr hk rfl h dL_ranks_364
          · have h := ifF h c4
            refine lv_iload hx hb dL_ranks_346 (lv_at hl 0 rfl) ?_
            refine lv_if_lt (tgt := 363) hx hb dL_ranks_348 (by decide) (fun c5 => ?_) (fun c5 => ?_)
            · have h := ifT h c5
              refine lv_iconst (v := 0) hx hb dL_ranks_363 (by decide) ?_
              exact lm_end F hP hS hB hr hk rfl h dL_ranks_364
            · have h := ifF h c5
              refine lv_iload hx hb dL_ranks_351 (lv_at hl 0 rfl) ?_
              refine lv_if_ne (tgt := 365) hx hb dL_ranks_353 (by decide) (fun c6 => ?_) (fun c6 => ?_)
              · have h := ifF h c6
                exact key365 x6 x7 G q_m1 r_m1 _ _ _ _ hf_m1 hP hS hA_m1 (hB.le (by omega)) ls (lv_sub hl [1, 2, 4, 5] rfl) h
              · have h := ifT h c6
                refine lv_iload hx hb dL_ranks_356 (lv_at hl 3 rfl) ?_
                refine lv_iload hx hb dL_ranks_358 (lv_at hl 5 rfl) ?_
                refine lv_icmp_le (tgt := 365) hx hb dL_ranks_360 (by decide) (fun c7 => ?_) (fun c7 => ?_)
                · have h := ifT h c7
                  exact key365 x6 x7 G q_m1 r_m1 _ _ _ _ hf_m1 hP hS hA_m1 (hB.le (by omega)) ls (lv_sub hl [1, 2, 4, 5] rfl) h
                · have h := ifF h c7
                  refine lv_iconst (v := 0) hx hb dL_ranks_363 (by decide) ?_
                  exact lm_end F hP hS hB hr hk rfl h dL_ranks_364
      have key305 : ∀ (x5 : Int32) (x6 : Int32) (x7 : Int32) (s305_0 : Int32) (G : GT) (q_m1 : Nat) (r_m1 : Nat → Nat) (H : Heap) (locs : List Loc) (cells slots : Nat), (s.heap.size ≤ q_m1 ∧ ∀ i, i < n_m1 → s.heap.size ≤ r_m1 i) → va_P D vwCl (wsC Y ad G) H → va_S (AW 90 ad) s.heap H locs → MX Y ad q_m1 n_m1 r_m1 S_m1 H → Bg 641 cells slots (n265 * 2 + 6) → ∀ ls : Array Slot, lv_has ls 9 [(0, .ref (ad 77)), (1, .ref q_m1), (5, .int x5), (6, .int x6), (7, .int x7)] → f_L_ranks_305  (f_L_ranks_265   n_m1 S_m1 n265) n_m1 S_m1 x5 x6 x7 s305_0 G = some (r, G') → W p l ev (rmD 12 641 (16 * 641)) s m ([.ref (ad 77)] : List Value).toArray below meth c H locs cells slots (MQ below (LQ (PI (some .boolean) r D Y ad G') (AW 90 ad)) ([.ref (ad 77)] : List Value).toArray s 641 (16 * 641) (AW 90 ad)) (F0 m 305 ls [.int s305_0]) := by
        intro x5 x6 x7 s305_0 G q_m1 r_m1 H locs cells slots hf_m1 hP hS hA_m1 hB ls hl h
        refine lv_istore (lv' := [(8, .int s305_0), (0, .ref (ad 77)), (1, .ref q_m1), (5, .int x5), (6, .int x6), (7, .int x7)]) hx hb dL_ranks_305 hl (by decide) rfl (fun ls hl => ?_)
        refine lv_iload hx hb dL_ranks_307 (lv_at hl 0 rfl) ?_
        refine lv_if_eq (tgt := 317) hx hb dL_ranks_309 (by decide) (fun c8 => ?_) (fun c8 => ?_)
        · have h := ifT h c8
          refine lv_aload_n hx hb dL_ranks_317 rfl (lv_at hl 2 rfl) ?_
          refine lv_iload hx hb dL_ranks_318 (lv_at hl 3 rfl) ?_
          obtain ⟨b9, h⟩ := ckS h
          refine mx_row F hA_m1 b9 dL_ranks_320 (fun hw10 => ?_)
          refine lv_iconst (v := 2) hx hb dL_ranks_321 (by decide) ?_
          refine ai_ldk F (hA_m1.2.2.1 _ hw10).2 (k := 2) (by decide) (inbV (by decide) (by decide)) dL_ranks_322 ?_
          refine lv_aload_n hx hb dL_ranks_323 rfl (lv_at hl 2 rfl) ?_
          refine lv_iload hx hb dL_ranks_324 (lv_at hl 5 rfl) ?_
          obtain ⟨b11, h⟩ := ckS h
          refine mx_row F hA_m1 b11 dL_ranks_326 (fun hw12 => ?_)
          refine lv_iconst (v := 2) hx hb dL_ranks_327 (by decide) ?_
          refine ai_ldk F (hA_m1.2.2.1 _ hw12).2 (k := 2) (by decide) (inbV (by decide) (by decide)) dL_ranks_328 ?_
          refine lv_isub hx hb dL_ranks_329 ?_
          exact key330 x5 x6 x7 ((S_m1 (x5.toNatClampNeg) 2) - (S_m1 (x7.toNatClampNeg) 2)) G q_m1 r_m1 _ _ _ _ hf_m1 hP hS hA_m1 (hB.le (by omega)) ls (lv_sub hl [1, 2, 3, 4, 5] rfl) h
        · have h := ifF h c8
          refine lv_iload hx hb dL_ranks_312 (lv_at hl 0 rfl) ?_
          refine lv_goto (tgt := 330) hx hb dL_ranks_314 (by decide) ?_
          exact key330 x5 x6 x7 s305_0 G q_m1 r_m1 _ _ _ _ hf_m1 hP hS hA_m1 (hB.le (by omega)) ls (lv_sub hl [1, 2, 3, 4, 5] rfl) h
      intro G x5 x6 q_m1 r_m1 H locs cells slots hf_m1 hP hS hA_m1 hB ls hl h
      have h := lqS3 h
      refine lv_iload hx hb dL_ranks_265 (lv_at hl 3 rfl) ?_
      refine lv_aload_n hx hb dL_ranks_267 rfl (lv_at hl 0 rfl) ?_
      refine lv_iconst (v := 4) hx hb dL_ranks_268 (by decide) ?_
      obtain ⟨r13, G13, e13, h⟩ := bR h
      refine lx_V (B' := (n265 * 2 + 7)) F hP hK hS hB k_X9_account mw_621 rfl (q_X9_account l hst D Y ad hI G (4 : Int32) (.inr r13) G13 e13) rfl hl.1 ⟨Nat.le_of_ble_eq_true rfl, Nat.le_of_ble_eq_true rfl⟩ (rest := [.int x6]) rfl (Nat.le_of_ble_eq_true rfl) (by omega) dL_ranks_269 (fun H locs cells slots o13 hP hS hkp hB => ?_)
      have hA_m1 := hA_m1.kp hkp
      refine lv_icmp_ge (tgt := 375) hx hb dL_ranks_272 (by decide) (fun c14 => ?_) (fun c14 => ?_)
      · have h := ifT h c14
        refine lv_aload_n hx hb dL_ranks_375 rfl (lv_at hl 0 rfl) ?_
        refine lv_aload_n hx hb dL_ranks_376 rfl (lv_at hl 0 rfl) ?_
        refine lv_iconst (v := 4) hx hb dL_ranks_377 (by decide) ?_
        obtain ⟨r15, G15, e15, h⟩ := bR h
        refine lx_V (B' := (n265 * 2 + 6)) F hP hK hS hB k_X9_account mw_621 rfl (q_X9_account l hst D Y ad hI G13 (4 : Int32) (.inr r15) G15 e15) rfl hl.1 ⟨Nat.le_of_ble_eq_true rfl, Nat.le_of_ble_eq_true rfl⟩ (rest := [.ref (ad 77)]) rfl (Nat.le_of_ble_eq_true rfl) (by omega) dL_ranks_378 (fun H locs cells slots o15 hP hS hkp hB => ?_)
        have hA_m1 := hA_m1.kp hkp
        obtain ⟨r16, G16, e16, h⟩ := bsome2 h
        refine lh_i (B' := (n265 * 2 + 5)) F hP hK hE hS hB kl_highest mw_1045 (ql_highest l hst D Y ad hI G15 r15 r16 G16 e16) rfl hl.1 ⟨Nat.le_of_ble_eq_true rfl, Nat.le_of_ble_eq_true rfl⟩ (rest := []) rfl (Nat.le_of_ble_eq_true rfl) (by omega) dL_ranks_381 (fun H locs cells slots hP hS hkp hB => ?_)
        have hA_m1 := hA_m1.kp hkp
        refine lv_bipush (v := (-13)) hx hb dL_ranks_384 (by decide) ?_
        refine lv_icmp_ne (tgt := 425) hx hb dL_ranks_386 (by decide) (fun c17 => ?_) (fun c17 => ?_)
        · have h := ifF h c17
          refine lv_iconst (v := 0) hx hb dL_ranks_425 (by decide) ?_
          exact lm_end F hP hS hB hr hk rfl h dL_ranks_426
        · have h := ifT h c17
          refine lv_aload_n hx hb dL_ranks_389 rfl (lv_at hl 0 rfl) ?_
          refine lv_iconst (v := (-1)) hx hb dL_ranks_390 (by decide) ?_
          obtain ⟨r18, G18, e18, h⟩ := bsome2 h
          refine lh_i (B' := (n265 * 2 + 4)) F hP hK hE hS hB kl_highest mw_1045 (ql_highest l hst D Y ad hI G16 (-1 : Int32) r18 G18 e18) rfl hl.1 ⟨Nat.le_of_ble_eq_true rfl, Nat.le_of_ble_eq_true rfl⟩ (rest := []) rfl (Nat.le_of_ble_eq_true rfl) (by omega) dL_ranks_391 (fun H locs cells slots hP hS hkp hB => ?_)
          have hA_m1 := hA_m1.kp hkp
          refine lv_bipush (v := (-13)) hx hb dL_ranks_394 (by decide) ?_
          refine lv_icmp_ne (tgt := 425) hx hb dL_ranks_396 (by decide) (fun c19 => ?_) (fun c19 => ?_)
          · have h := ifF h c19
            refine lv_iconst (v := 0) hx hb dL_ranks_425 (by decide) ?_
            exact lm_end F hP hS hB hr hk rfl h dL_ranks_426
          · have h := ifT h c19
            refine lv_aload_n hx hb dL_ranks_399 rfl (lv_at hl 0 rfl) ?_
            refine lv_iconst (v := 4) hx hb dL_ranks_400 (by decide) ?_
            obtain ⟨r20, G20, e20, h⟩ := bsome2 h
            refine lh_i (B' := (n265 * 2 + 3)) F hP hK hE hS hB kl_loudest mw_1024 (ql_loudest l hst D Y ad hI G18 (4 : Int32) r20 G20 e20) rfl hl.1 ⟨Nat.le_of_ble_eq_true rfl, Nat.le_of_ble_eq_true rfl⟩ (rest := []) rfl (Nat.le_of_ble_eq_true rfl) (by omega) dL_ranks_401 (fun H locs cells slots hP hS hkp hB => ?_)
            have hA_m1 := hA_m1.kp hkp
            refine lv_bipush (v := (-13)) hx hb dL_ranks_404 (by decide) ?_
            refine lv_icmp_ne (tgt := 425) hx hb dL_ranks_406 (by decide) (fun c21 => ?_) (fun c21 => ?_)
            · have h := ifF h c21
              refine lv_iconst (v := 0) hx hb dL_ranks_425 (by decide) ?_
              exact lm_end F hP hS hB hr hk rfl h dL_ranks_426
            · have h := ifT h c21
              refine lv_aload_n hx hb dL_ranks_409 rfl (lv_at hl 0 rfl) ?_
              refine lv_iconst (v := 4) hx hb dL_ranks_410 (by decide) ?_
              refine lv_bipush (v := 9) hx hb dL_ranks_411 (by decide) ?_
              obtain ⟨r22, G22, e22, h⟩ := bsome2 h
              refine lh_i (B' := (n265 * 2 + 1)) F hP hK hE hS hB kl_tinOf mw_717 (ql_tinOf l hst D Y ad hI G20 (4 : Int32) (9 : Int32) r22 G22 e22) rfl hl.1 ⟨Nat.le_of_ble_eq_true rfl, Nat.le_of_ble_eq_true rfl⟩ (rest := []) rfl (Nat.le_of_ble_eq_true rfl) (by omega) dL_ranks_413 (fun H locs cells slots hP hS hkp hB => ?_)
              have hA_m1 := hA_m1.kp hkp
              refine lv_bipush (v := (-11)) hx hb dL_ranks_416 (by decide) ?_
              refine lv_icmp_ne (tgt := 425) hx hb dL_ranks_418 (by decide) (fun c23 => ?_) (fun c23 => ?_)
              · have h := ifF h c23
                refine lv_iconst (v := 0) hx hb dL_ranks_425 (by decide) ?_
                exact lm_end F hP hS hB hr hk rfl h dL_ranks_426
              · have h := ifT h c23
                refine lv_iconst (v := 1) hx hb dL_ranks_421 (by decide) ?_
                refine lv_goto (tgt := 426) hx hb dL_ranks_422 (by decide) ?_
                exact lm_end F hP hS hB hr hk rfl h dL_ranks_426
      · have h := ifF h c14
        refine lv_aload_n hx hb dL_ranks_275 rfl (lv_at hl 0 rfl) ?_
        refine lv_iload hx hb dL_ranks_276 (lv_at hl 3 rfl) ?_
        obtain ⟨r24, G24, e24, h⟩ := bsome2 h
        refine lh_i (B' := (n265 * 2 + 6)) F hP hK hE hS hB kl_highest mw_1045 (ql_highest l hst D Y ad hI G13 x6 r24 G24 e24) rfl hl.1 ⟨Nat.le_of_ble_eq_true rfl, Nat.le_of_ble_eq_true rfl⟩ (rest := []) rfl (Nat.le_of_ble_eq_true rfl) (by omega) dL_ranks_278 (fun H locs cells slots hP hS hkp hB => ?_)
        have hA_m1 := hA_m1.kp hkp
        refine lv_istore (lv' := [(7, .int r24), (0, .ref (ad 77)), (1, .ref q_m1), (5, .int x5), (6, .int x6)]) hx hb dL_ranks_281 hl (by decide) rfl (fun ls hl => ?_)
        refine lv_iload hx hb dL_ranks_283 (lv_at hl 3 rfl) ?_
        refine lv_if_ge (tgt := 292) hx hb dL_ranks_285 (by decide) (fun c25 => ?_) (fun c25 => ?_)
        · have h := ifT h c25
          refine lv_aload_n hx hb dL_ranks_292 rfl (lv_at hl 2 rfl) ?_
          refine lv_iload hx hb dL_ranks_293 (lv_at hl 3 rfl) ?_
          obtain ⟨b26, h⟩ := ckS h
          refine mx_row F hA_m1 b26 dL_ranks_295 (fun hw27 => ?_)
          refine lv_iconst (v := 3) hx hb dL_ranks_296 (by decide) ?_
          refine ai_ldk F (hA_m1.2.2.1 _ hw27).2 (k := 3) (by decide) (inbV (by decide) (by decide)) dL_ranks_297 ?_
          refine lv_aload_n hx hb dL_ranks_298 rfl (lv_at hl 2 rfl) ?_
          refine lv_iload hx hb dL_ranks_299 (lv_at hl 0 rfl) ?_
          obtain ⟨b28, h⟩ := ckS h
          refine mx_row F hA_m1 b28 dL_ranks_301 (fun hw29 => ?_)
          refine lv_iconst (v := 3) hx hb dL_ranks_302 (by decide) ?_
          refine ai_ldk F (hA_m1.2.2.1 _ hw29).2 (k := 3) (by decide) (inbV (by decide) (by decide)) dL_ranks_303 ?_
          refine lv_isub hx hb dL_ranks_304 ?_
          exact key305 x5 x6 r24 ((S_m1 (x5.toNatClampNeg) 3) - (S_m1 (r24.toNatClampNeg) 3)) G24 q_m1 r_m1 _ _ _ _ hf_m1 hP hS hA_m1 (hB.le (by omega)) ls (lv_sub hl [1, 2, 3, 4, 0] rfl) h
        · have h := ifF h c25
          refine lv_iconst (v := 1) hx hb dL_ranks_288 (by decide) ?_
          refine lv_goto (tgt := 305) hx hb dL_ranks_289 (by decide) ?_
          exact key305 x5 x6 r24 (1 : Int32) G24 q_m1 r_m1 _ _ _ _ hf_m1 hP hS hA_m1 (hB.le (by omega)) ls (lv_sub hl [1, 2, 3, 4, 0] rfl) h
  have key108 : ∀ (n_m1 : Nat) (S_m1 : Nat → Nat → Int32) (W_v6 : Nat → Int32) (W_v10 : Nat → Int32) (W_v14 : Nat → Int32) (n : Nat) (G : GT) (x5 : Int32) (q_m1 : Nat) (r_m1 : Nat → Nat) (q_v6 : Nat) (q_v10 : Nat) (q_v14 : Nat) (H : Heap) (locs : List Loc) (cells slots : Nat), (s.heap.size ≤ q_m1 ∧ ∀ i, i < n_m1 → s.heap.size ≤ r_m1 i) → s.heap.size ≤ q_v6 → s.heap.size ≤ q_v10 → s.heap.size ≤ q_v14 → (q_m1 ≠ q_v6 ∧ ∀ i, i < n_m1 → r_m1 i ≠ q_v6) → (q_m1 ≠ q_v10 ∧ ∀ i, i < n_m1 → r_m1 i ≠ q_v10) → (q_m1 ≠ q_v14 ∧ ∀ i, i < n_m1 → r_m1 i ≠ q_v14) → (q_v10 ≠ q_v6) → (q_v14 ≠ q_v6) → (q_v10 ≠ q_v14) → va_P D vwCl (wsC Y ad G) H → va_S (AW 90 ad) s.heap H locs → MX Y ad q_m1 n_m1 r_m1 S_m1 H → AI Y ad q_v6 4 W_v6 H → AI Y ad q_v10 4 W_v10 H → AI Y ad q_v14 4 W_v14 H → Bg 641 cells slots (n * 14 + 40) → ∀ ls : Array Slot, lv_has ls 9 [(0, .ref (ad 77)), (1, .ref q_m1), (2, .ref q_v6), (3, .ref q_v10), (4, .ref q_v14), (5, .int x5)] → f_L_ranks_108   n_m1 S_m1 W_v6 W_v10 W_v14 n G x5 = some (r, G') → W p l ev (rmD 12 641 (16 * 641)) s m ([.ref (ad 77)] : List Value).toArray below meth c H locs cells slots (MQ below (LQ (PI (some .boolean) r D Y ad G') (AW 90 ad)) ([.ref (ad 77)] : List Value).toArray s 641 (16 * 641) (AW 90 ad)) (F0 m 108 ls []) := by
    intro n_m1 S_m1 W_v6 W_v10 W_v14
    intro n
    induction n with
    | zero => intro G x5 q_m1 r_m1 q_v6 q_v10 q_v14 H locs cells slots hf_m1 hf_v6 hf_v10 hf_v14 hne_m1_v6 hne_m1_v10 hne_m1_v14 hne_v10_v6 hne_v14_v6 hne_v10_v14 hP hS hA_m1 hA_v6 hA_v10 hA_v14 hB ls hl h; exact lqZ2 h
    | succ n108 ih108 =>
      have key253 : ∀ (x5 : Int32) (G : GT) (q_m1 : Nat) (r_m1 : Nat → Nat) (q_v6 : Nat) (q_v10 : Nat) (q_v14 : Nat) (H : Heap) (locs : List Loc) (cells slots : Nat), (s.heap.size ≤ q_m1 ∧ ∀ i, i < n_m1 → s.heap.size ≤ r_m1 i) → s.heap.size ≤ q_v6 → s.heap.size ≤ q_v10 → s.heap.size ≤ q_v14 → (q_m1 ≠ q_v6 ∧ ∀ i, i < n_m1 → r_m1 i ≠ q_v6) → (q_m1 ≠ q_v10 ∧ ∀ i, i < n_m1 → r_m1 i ≠ q_v10) → (q_m1 ≠ q_v14 ∧ ∀ i, i < n_m1 → r_m1 i ≠ q_v14) → (q_v10 ≠ q_v6) → (q_v14 ≠ q_v6) → (q_v10 ≠ q_v14) → va_P D vwCl (wsC Y ad G) H → va_S (AW 90 ad) s.heap H locs → MX Y ad q_m1 n_m1 r_m1 S_m1 H → AI Y ad q_v6 4 W_v6 H → AI Y ad q_v10 4 W_v10 H → AI Y ad q_v14 4 W_v14 H → Bg 641 cells slots (n108 * 14 + 40) → ∀ ls : Array Slot, lv_has ls 9 [(0, .ref (ad 77)), (1, .ref q_m1), (2, .ref q_v6), (3, .ref q_v10), (4, .ref q_v14), (5, .int x5)] → f_L_ranks_253  (f_L_ranks_108   n_m1 S_m1 W_v6 W_v10 W_v14 n108) n_m1 S_m1 W_v6 W_v10 W_v14 x5 G = some (r, G') → W p l ev (rmD 12 641 (16 * 641)) s m ([.ref (ad 77)] : List Value).toArray below meth c H locs cells slots (MQ below (LQ (PI (some .boolean) r D Y ad G') (AW 90 ad)) ([.ref (ad 77)] : List Value).toArray s 641 (16 * 641) (AW 90 ad)) (F0 m 253 ls []) := by
        intro x5 G q_m1 r_m1 q_v6 q_v10 q_v14 H locs cells slots hf_m1 hf_v6 hf_v10 hf_v14 hne_m1_v6 hne_m1_v10 hne_m1_v14 hne_v10_v6 hne_v14_v6 hne_v10_v14 hP hS hA_m1 hA_v6 hA_v10 hA_v14 hB ls hl h
        refine lv_iinc (v := (x5 + 1)) (lv' := [(5, .int (x5 + 1)), (0, .ref (ad 77)), (1, .ref q_m1), (2, .ref q_v6), (3, .ref q_v10), (4, .ref q_v14)]) hx hb dL_ranks_253 hl (k := 5) rfl rfl (by decide) rfl (fun ls hl => ?_)
        refine lv_goto (tgt := 108) hx hb dL_ranks_256 (by decide) ?_
        exact ih108 G (x5 + 1) q_m1 r_m1 q_v6 q_v10 q_v14 _ _ _ _ hf_m1 hf_v6 hf_v10 hf_v14 hne_m1_v6 hne_m1_v10 hne_m1_v14 hne_v10_v6 hne_v14_v6 hne_v10_v14 hP hS hA_m1 hA_v6 hA_v10 hA_v14 (hB.le (by omega)) ls (lv_sub hl [1, 2, 3, 4, 5, 0] rfl) h
      have key232 : ∀ (x5 : Int32) (x6 : Int32) (x7 : Int32) (s232_0 : Int32) (G : GT) (q_m1 : Nat) (r_m1 : Nat → Nat) (q_v6 : Nat) (q_v10 : Nat) (q_v14 : Nat) (H : Heap) (locs : List Loc) (cells slots : Nat), (s.heap.size ≤ q_m1 ∧ ∀ i, i < n_m1 → s.heap.size ≤ r_m1 i) → s.heap.size ≤ q_v6 → s.heap.size ≤ q_v10 → s.heap.size ≤ q_v14 → (q_m1 ≠ q_v6 ∧ ∀ i, i < n_m1 → r_m1 i ≠ q_v6) → (q_m1 ≠ q_v10 ∧ ∀ i, i < n_m1 → r_m1 i ≠ q_v10) → (q_m1 ≠ q_v14 ∧ ∀ i, i < n_m1 → r_m1 i ≠ q_v14) → (q_v10 ≠ q_v6) → (q_v14 ≠ q_v6) → (q_v10 ≠ q_v14) → va_P D vwCl (wsC Y ad G) H → va_S (AW 90 ad) s.heap H locs → MX Y ad q_m1 n_m1 r_m1 S_m1 H → AI Y ad q_v6 4 W_v6 H → AI Y ad q_v10 4 W_v10 H → AI Y ad q_v14 4 W_v14 H → Bg 641 cells slots (n108 * 14 + 40) → ∀ ls : Array Slot, lv_has ls 9 [(0, .ref (ad 77)), (1, .ref q_m1), (2, .ref q_v6), (3, .ref q_v10), (4, .ref q_v14), (5, .int x5), (6, .int x6), (7, .int x7)] → f_L_ranks_232  (f_L_ranks_108   n_m1 S_m1 W_v6 W_v10 W_v14 n108) n_m1 S_m1 W_v6 W_v10 W_v14 x5 x6 x7 s232_0 G = some (r, G') → W p l ev (rmD 12 641 (16 * 641)) s m ([.ref (ad 77)] : List Value).toArray below meth c H locs cells slots (MQ below (LQ (PI (some .boolean) r D Y ad G') (AW 90 ad)) ([.ref (ad 77)] : List Value).toArray s 641 (16 * 641) (AW 90 ad)) (F0 m 232 ls [.int s232_0]) := by
        intro x5 x6 x7 s232_0 G q_m1 r_m1 q_v6 q_v10 q_v14 H locs cells slots hf_m1 hf_v6 hf_v10 hf_v14 hne_m1_v6 hne_m1_v10 hne_m1_v14 hne_v10_v6 hne_v14_v6 hne_v10_v14 hP hS hA_m1 hA_v6 hA_v10 hA_v14 hB ls hl h
        refine lv_istore (lv' := [(8, .int s232_0), (0, .ref (ad 77)), (1, .ref q_m1), (2, .ref q_v6), (3, .ref q_v10), (4, .ref q_v14), (5, .int x5), (6, .int x6), (7, .int x7)]) hx hb dL_ranks_232 hl (by decide) rfl (fun ls hl => ?_)
        refine lv_iload hx hb dL_ranks_234 (lv_at hl 0 rfl) ?_
        refine lv_if_lt (tgt := 251) hx hb dL_ranks_236 (by decide) (fun c30 => ?_) (fun c30 => ?_)
        · have h := ifT h c30
          refine lv_iconst (v := 0) hx hb dL_ranks_251 (by decide) ?_
          exact lm_end F hP hS hB hr hk rfl h dL_ranks_252
        · have h := ifF h c30
          refine lv_iload hx hb dL_ranks_239 (lv_at hl 0 rfl) ?_
          refine lv_if_ne (tgt := 253) hx hb dL_ranks_241 (by decide) (fun c31 => ?_) (fun c31 => ?_)
          · have h := ifF h c31
            exact key253 x5 G q_m1 r_m1 q_v6 q_v10 q_v14 _ _ _ _ hf_m1 hf_v6 hf_v10 hf_v14 hne_m1_v6 hne_m1_v10 hne_m1_v14 hne_v10_v6 hne_v14_v6 hne_v10_v14 hP hS hA_m1 hA_v6 hA_v10 hA_v14 (hB.le (by omega)) ls (lv_sub hl [1, 2, 3, 4, 5, 6] rfl) h
          · have h := ifT h c31
            refine lv_iload hx hb dL_ranks_244 (lv_at hl 8 rfl) ?_
            refine lv_iload hx hb dL_ranks_246 (lv_at hl 7 rfl) ?_
            refine lv_icmp_le (tgt := 253) hx hb dL_ranks_248 (by decide) (fun c32 => ?_) (fun c32 => ?_)
            · have h := ifT h c32
              exact key253 x5 G q_m1 r_m1 q_v6 q_v10 q_v14 _ _ _ _ hf_m1 hf_v6 hf_v10 hf_v14 hne_m1_v6 hne_m1_v10 hne_m1_v14 hne_v10_v6 hne_v14_v6 hne_v10_v14 hP hS hA_m1 hA_v6 hA_v10 hA_v14 (hB.le (by omega)) ls (lv_sub hl [1, 2, 3, 4, 5, 6] rfl) h
            · have h := ifF h c32
              refine lv_iconst (v := 0) hx hb dL_ranks_251 (by decide) ?_
              exact lm_end F hP hS hB hr hk rfl h dL_ranks_252
      intro G x5 q_m1 r_m1 q_v6 q_v10 q_v14 H locs cells slots hf_m1 hf_v6 hf_v10 hf_v14 hne_m1_v6 hne_m1_v10 hne_m1_v14 hne_v10_v6 hne_v14_v6 hne_v10_v14 hP hS hA_m1 hA_v6 hA_v10 hA_v14 hB ls hl h
      have h := lqS2 h
      refine lv_iload hx hb dL_ranks_108 (lv_at hl 5 rfl) ?_
      refine lv_iconst (v := 4) hx hb dL_ranks_110 (by decide) ?_
      refine lv_icmp_ge (tgt := 259) hx hb dL_ranks_111 (by decide) (fun c33 => ?_) (fun c33 => ?_)
      · have h := ifT h c33
        refine lv_iconst (v := (-1)) hx hb dL_ranks_259 (by decide) ?_
        refine lv_istore (lv' := [(5, .int (-1 : Int32)), (0, .ref (ad 77)), (1, .ref q_m1), (2, .ref q_v6), (3, .ref q_v10), (4, .ref q_v14)]) hx hb dL_ranks_260 hl (by decide) rfl (fun ls hl => ?_)
        refine lv_iconst (v := 0) hx hb dL_ranks_262 (by decide) ?_
        refine lv_istore (lv' := [(6, .int (0 : Int32)), (5, .int (-1 : Int32)), (0, .ref (ad 77)), (1, .ref q_m1), (2, .ref q_v6), (3, .ref q_v10), (4, .ref q_v14)]) hx hb dL_ranks_263 hl (by decide) rfl (fun ls hl => ?_)
        exact key265 n_m1 S_m1 17 G (-1 : Int32) (0 : Int32) q_m1 r_m1 _ _ _ _ hf_m1 hP hS hA_m1 (hB.le (by omega)) ls (lv_sub hl [2, 3, 1, 0] rfl) h
      · have h := ifF h c33
        refine lv_aload_n hx hb dL_ranks_114 rfl (lv_at hl 0 rfl) ?_
        refine lv_iload hx hb dL_ranks_115 (lv_at hl 5 rfl) ?_
        obtain ⟨r34, G34, e34, h⟩ := bsome2 h
        refine lh_i (B' := (n108 * 14 + 53)) F hP hK hE hS hB kl_loudest mw_1024 (ql_loudest l hst D Y ad hI G x5 r34 G34 e34) rfl hl.1 ⟨Nat.le_of_ble_eq_true rfl, Nat.le_of_ble_eq_true rfl⟩ (rest := []) rfl (Nat.le_of_ble_eq_true rfl) (by omega) dL_ranks_117 (fun H locs cells slots hP hS hkp hB => ?_)
        have hA_m1 := hA_m1.kp hkp
        have hA_v6 := hA_v6.kp hkp
        have hA_v10 := hA_v10.kp hkp
        have hA_v14 := hA_v14.kp hkp
        refine lv_istore (lv' := [(6, .int r34), (0, .ref (ad 77)), (1, .ref q_m1), (2, .ref q_v6), (3, .ref q_v10), (4, .ref q_v14), (5, .int x5)]) hx hb dL_ranks_120 hl (by decide) rfl (fun ls hl => ?_)
        refine lv_aload_n hx hb dL_ranks_122 rfl (lv_at hl 1 rfl) ?_
        refine lv_iload hx hb dL_ranks_123 (lv_at hl 6 rfl) ?_
        refine lv_iconst (v := 2) hx hb dL_ranks_125 (by decide) ?_
        obtain ⟨r35, G35, e35, h⟩ := bsome2 h
        refine lh_i (B' := (n108 * 14 + 51)) F hP hK hE hS hB kl_tinOf mw_717 (ql_tinOf l hst D Y ad hI G34 x5 (2 : Int32) r35 G35 e35) rfl hl.1 ⟨Nat.le_of_ble_eq_true rfl, Nat.le_of_ble_eq_true rfl⟩ (rest := []) rfl (Nat.le_of_ble_eq_true rfl) (by omega) dL_ranks_126 (fun H locs cells slots hP hS hkp hB => ?_)
        have hA_m1 := hA_m1.kp hkp
        have hA_v6 := hA_v6.kp hkp
        have hA_v10 := hA_v10.kp hkp
        have hA_v14 := hA_v14.kp hkp
        refine lv_aload_n hx hb dL_ranks_129 rfl (lv_at hl 3 rfl) ?_
        refine lv_iload hx hb dL_ranks_130 (lv_at hl 6 rfl) ?_
        obtain ⟨b36, h⟩ := ckS h
        refine ai_ld F hA_v6 (inbV b36 (by decide)) dL_ranks_132 ?_
        refine lv_icmp_ne (tgt := 177) hx hb dL_ranks_133 (by decide) (fun c37 => ?_) (fun c37 => ?_)
        · have h := ifF h c37
          refine lv_iconst (v := 0) hx hb dL_ranks_177 (by decide) ?_
          exact lm_end F hP hS hB hr hk rfl h dL_ranks_178
        · have h := ifT h c37
          refine lv_aload_n hx hb dL_ranks_136 rfl (lv_at hl 1 rfl) ?_
          refine lv_iload hx hb dL_ranks_137 (lv_at hl 6 rfl) ?_
          refine lv_iconst (v := 3) hx hb dL_ranks_139 (by decide) ?_
          obtain ⟨r38, G38, e38, h⟩ := bsome2 h
          refine lh_i (B' := (n108 * 14 + 49)) F hP hK hE hS hB kl_tinOf mw_717 (ql_tinOf l hst D Y ad hI G35 x5 (3 : Int32) r38 G38 e38) rfl hl.1 ⟨Nat.le_of_ble_eq_true rfl, Nat.le_of_ble_eq_true rfl⟩ (rest := []) rfl (Nat.le_of_ble_eq_true rfl) (by omega) dL_ranks_140 (fun H locs cells slots hP hS hkp hB => ?_)
          have hA_m1 := hA_m1.kp hkp
          have hA_v6 := hA_v6.kp hkp
          have hA_v10 := hA_v10.kp hkp
          have hA_v14 := hA_v14.kp hkp
          refine lv_aload_n hx hb dL_ranks_143 rfl (lv_at hl 4 rfl) ?_
          refine lv_iload hx hb dL_ranks_144 (lv_at hl 6 rfl) ?_
          obtain ⟨b39, h⟩ := ckS h
          refine ai_ld F hA_v10 (inbV b39 (by decide)) dL_ranks_146 ?_
          refine lv_icmp_ne (tgt := 177) hx hb dL_ranks_147 (by decide) (fun c40 => ?_) (fun c40 => ?_)
          · have h := ifF h c40
            refine lv_iconst (v := 0) hx hb dL_ranks_177 (by decide) ?_
            exact lm_end F hP hS hB hr hk rfl h dL_ranks_178
          · have h := ifT h c40
            refine lv_aload_n hx hb dL_ranks_150 rfl (lv_at hl 1 rfl) ?_
            refine lv_iload hx hb dL_ranks_151 (lv_at hl 6 rfl) ?_
            refine lv_iconst (v := 4) hx hb dL_ranks_153 (by decide) ?_
            obtain ⟨r41, G41, e41, h⟩ := bsome2 h
            refine lh_i (B' := (n108 * 14 + 47)) F hP hK hE hS hB kl_tinOf mw_717 (ql_tinOf l hst D Y ad hI G38 x5 (4 : Int32) r41 G41 e41) rfl hl.1 ⟨Nat.le_of_ble_eq_true rfl, Nat.le_of_ble_eq_true rfl⟩ (rest := []) rfl (Nat.le_of_ble_eq_true rfl) (by omega) dL_ranks_154 (fun H locs cells slots hP hS hkp hB => ?_)
            have hA_m1 := hA_m1.kp hkp
            have hA_v6 := hA_v6.kp hkp
            have hA_v10 := hA_v10.kp hkp
            have hA_v14 := hA_v14.kp hkp
            refine lv_aload hx hb dL_ranks_157 (lv_at hl 5 rfl) ?_
            refine lv_iload hx hb dL_ranks_159 (lv_at hl 6 rfl) ?_
            obtain ⟨b42, h⟩ := ckS h
            refine ai_ld F hA_v14 (inbV b42 (by decide)) dL_ranks_161 ?_
            refine lv_icmp_ne (tgt := 177) hx hb dL_ranks_162 (by decide) (fun c43 => ?_) (fun c43 => ?_)
            · have h := ifF h c43
              refine lv_iconst (v := 0) hx hb dL_ranks_177 (by decide) ?_
              exact lm_end F hP hS hB hr hk rfl h dL_ranks_178
            · have h := ifT h c43
              refine lv_aload_n hx hb dL_ranks_165 rfl (lv_at hl 1 rfl) ?_
              refine lv_iload hx hb dL_ranks_166 (lv_at hl 6 rfl) ?_
              refine lv_iconst (v := 5) hx hb dL_ranks_168 (by decide) ?_
              obtain ⟨r44, G44, e44, h⟩ := bsome2 h
              refine lh_i (B' := (n108 * 14 + 45)) F hP hK hE hS hB kl_tinOf mw_717 (ql_tinOf l hst D Y ad hI G41 x5 (5 : Int32) r44 G44 e44) rfl hl.1 ⟨Nat.le_of_ble_eq_true rfl, Nat.le_of_ble_eq_true rfl⟩ (rest := []) rfl (Nat.le_of_ble_eq_true rfl) (by omega) dL_ranks_169 (fun H locs cells slots hP hS hkp hB => ?_)
              have hA_m1 := hA_m1.kp hkp
              have hA_v6 := hA_v6.kp hkp
              have hA_v10 := hA_v10.kp hkp
              have hA_v14 := hA_v14.kp hkp
              refine lv_bipush (v := (-12)) hx hb dL_ranks_172 (by decide) ?_
              refine lv_icmp_eq (tgt := 179) hx hb dL_ranks_174 (by decide) (fun c45 => ?_) (fun c45 => ?_)
              · have h := ifT h c45
                refine lv_iload hx hb dL_ranks_179 (lv_at hl 6 rfl) ?_
                refine lv_if_le (tgt := 253) hx hb dL_ranks_181 (by decide) (fun c46 => ?_) (fun c46 => ?_)
                · have h := ifT h c46
                  exact key253 x5 G44 q_m1 r_m1 q_v6 q_v10 q_v14 _ _ _ _ hf_m1 hf_v6 hf_v10 hf_v14 hne_m1_v6 hne_m1_v10 hne_m1_v14 hne_v10_v6 hne_v14_v6 hne_v10_v14 hP hS hA_m1 hA_v6 hA_v10 hA_v14 (hB.le (by omega)) ls (lv_sub hl [1, 2, 3, 4, 5, 6] rfl) h
                · have h := ifF h c46
                  refine lv_aload_n hx hb dL_ranks_184 rfl (lv_at hl 1 rfl) ?_
                  refine lv_iload hx hb dL_ranks_185 (lv_at hl 6 rfl) ?_
                  refine lv_iconst (v := 1) hx hb dL_ranks_187 (by decide) ?_
                  refine lv_isub hx hb dL_ranks_188 ?_
                  obtain ⟨r47, G47, e47, h⟩ := bsome2 h
                  refine lh_i (B' := (n108 * 14 + 44)) F hP hK hE hS hB kl_loudest mw_1024 (ql_loudest l hst D Y ad hI G44 (x5 - (1 : Int32)) r47 G47 e47) rfl hl.1 ⟨Nat.le_of_ble_eq_true rfl, Nat.le_of_ble_eq_true rfl⟩ (rest := []) rfl (Nat.le_of_ble_eq_true rfl) (by omega) dL_ranks_189 (fun H locs cells slots hP hS hkp hB => ?_)
                  have hA_m1 := hA_m1.kp hkp
                  have hA_v6 := hA_v6.kp hkp
                  have hA_v10 := hA_v10.kp hkp
                  have hA_v14 := hA_v14.kp hkp
                  refine lv_istore (lv' := [(7, .int r47), (6, .int r34), (0, .ref (ad 77)), (1, .ref q_m1), (2, .ref q_v6), (3, .ref q_v10), (4, .ref q_v14), (5, .int x5)]) hx hb dL_ranks_192 hl (by decide) rfl (fun ls hl => ?_)
                  refine lv_aload hx hb dL_ranks_194 (lv_at hl 6 rfl) ?_
                  refine lv_iload hx hb dL_ranks_196 (lv_at hl 0 rfl) ?_
                  obtain ⟨b48, h⟩ := ckS h
                  refine ai_ld F hA_v14 (inbV b48 (by decide)) dL_ranks_198 ?_
                  refine lv_aload hx hb dL_ranks_199 (lv_at hl 6 rfl) ?_
                  refine lv_iload hx hb dL_ranks_201 (lv_at hl 1 rfl) ?_
                  obtain ⟨b49, h⟩ := ckS h
                  refine ai_ld F hA_v14 (inbV b49 (by decide)) dL_ranks_203 ?_
                  refine lv_isub hx hb dL_ranks_204 ?_
                  refine lv_istore (lv' := [(8, .int ((W_v14 r47.toNatClampNeg) - (W_v14 r34.toNatClampNeg))), (7, .int r47), (6, .int r34), (0, .ref (ad 77)), (1, .ref q_m1), (2, .ref q_v6), (3, .ref q_v10), (4, .ref q_v14), (5, .int x5)]) hx hb dL_ranks_205 hl (by decide) rfl (fun ls hl => ?_)
                  refine lv_iload hx hb dL_ranks_207 (lv_at hl 0 rfl) ?_
                  refine lv_if_eq (tgt := 217) hx hb dL_ranks_209 (by decide) (fun c50 => ?_) (fun c50 => ?_)
                  · have h := ifT h c50
                    refine lv_aload_n hx hb dL_ranks_217 rfl (lv_at hl 3 rfl) ?_
                    refine lv_iload hx hb dL_ranks_218 (lv_at hl 1 rfl) ?_
                    refine lv_iconst (v := 0) hx hb dL_ranks_220 (by decide) ?_
                    obtain ⟨r51, G51, e51, h⟩ := bsome2 h
                    refine lh_i (B' := (n108 * 14 + 42)) F hP hK hE hS hB kl_tinOf mw_717 (ql_tinOf l hst D Y ad hI G47 r47 (0 : Int32) r51 G51 e51) rfl hl.1 ⟨Nat.le_of_ble_eq_true rfl, Nat.le_of_ble_eq_true rfl⟩ (rest := []) rfl (Nat.le_of_ble_eq_true rfl) (by omega) dL_ranks_221 (fun H locs cells slots hP hS hkp hB => ?_)
                    have hA_m1 := hA_m1.kp hkp
                    have hA_v6 := hA_v6.kp hkp
                    have hA_v10 := hA_v10.kp hkp
                    have hA_v14 := hA_v14.kp hkp
                    refine lv_aload_n hx hb dL_ranks_224 rfl (lv_at hl 3 rfl) ?_
                    refine lv_iload hx hb dL_ranks_225 (lv_at hl 2 rfl) ?_
                    refine lv_iconst (v := 0) hx hb dL_ranks_227 (by decide) ?_
                    obtain ⟨r52, G52, e52, h⟩ := bsome2 h
                    refine lh_i (B' := (n108 * 14 + 40)) F hP hK hE hS hB kl_tinOf mw_717 (ql_tinOf l hst D Y ad hI G51 r34 (0 : Int32) r52 G52 e52) rfl hl.1 ⟨Nat.le_of_ble_eq_true rfl, Nat.le_of_ble_eq_true rfl⟩ (rest := [.int r51]) rfl (Nat.le_of_ble_eq_true rfl) (by omega) dL_ranks_228 (fun H locs cells slots hP hS hkp hB => ?_)
                    have hA_m1 := hA_m1.kp hkp
                    have hA_v6 := hA_v6.kp hkp
                    have hA_v10 := hA_v10.kp hkp
                    have hA_v14 := hA_v14.kp hkp
                    refine lv_isub hx hb dL_ranks_231 ?_
                    exact key232 x5 r34 r47 (r51 - r52) G52 q_m1 r_m1 q_v6 q_v10 q_v14 _ _ _ _ hf_m1 hf_v6 hf_v10 hf_v14 hne_m1_v6 hne_m1_v10 hne_m1_v14 hne_v10_v6 hne_v14_v6 hne_v10_v14 hP hS hA_m1 hA_v6 hA_v10 hA_v14 (hB.le (by omega)) ls (lv_sub hl [3, 4, 5, 6, 7, 8, 2, 1] rfl) h
                  · have h := ifF h c50
                    refine lv_iload hx hb dL_ranks_212 (lv_at hl 0 rfl) ?_
                    refine lv_goto (tgt := 232) hx hb dL_ranks_214 (by decide) ?_
                    exact key232 x5 r34 r47 ((W_v14 r47.toNatClampNeg) - (W_v14 r34.toNatClampNeg)) G47 q_m1 r_m1 q_v6 q_v10 q_v14 _ _ _ _ hf_m1 hf_v6 hf_v10 hf_v14 hne_m1_v6 hne_m1_v10 hne_m1_v14 hne_v10_v6 hne_v14_v6 hne_v10_v14 hP hS hA_m1 hA_v6 hA_v10 hA_v14 (hB.le (by omega)) ls (lv_sub hl [3, 4, 5, 6, 7, 8, 2, 1] rfl) h
              · have h := ifF h c45
                refine lv_iconst (v := 0) hx hb dL_ranks_177 (by decide) ?_
                exact lm_end F hP hS hB hr hk rfl h dL_ranks_178
  have key29 : ∀ (n_m1 : Nat) (S_m1 : Nat → Nat → Int32) (x6 : Int32) (n : Nat) (G : GT) (W_v6 : Nat → Int32) (W_v10 : Nat → Int32) (W_v14 : Nat → Int32) (x7 : Int32) (q_m1 : Nat) (r_m1 : Nat → Nat) (q_v6 : Nat) (q_v10 : Nat) (q_v14 : Nat) (H : Heap) (locs : List Loc) (cells slots : Nat), (s.heap.size ≤ q_m1 ∧ ∀ i, i < n_m1 → s.heap.size ≤ r_m1 i) → s.heap.size ≤ q_v6 → s.heap.size ≤ q_v10 → s.heap.size ≤ q_v14 → (q_m1 ≠ q_v6 ∧ ∀ i, i < n_m1 → r_m1 i ≠ q_v6) → (q_m1 ≠ q_v10 ∧ ∀ i, i < n_m1 → r_m1 i ≠ q_v10) → (q_m1 ≠ q_v14 ∧ ∀ i, i < n_m1 → r_m1 i ≠ q_v14) → (q_v10 ≠ q_v6) → (q_v14 ≠ q_v6) → (q_v10 ≠ q_v14) → va_P D vwCl (wsC Y ad G) H → va_S (AW 90 ad) s.heap H locs → MX Y ad q_m1 n_m1 r_m1 S_m1 H → AI Y ad q_v6 4 W_v6 H → AI Y ad q_v10 4 W_v10 H → AI Y ad q_v14 4 W_v14 H → Bg 641 cells slots (n * 0 + 110) → ∀ ls : Array Slot, lv_has ls 9 [(0, .ref (ad 77)), (1, .ref q_m1), (2, .ref q_v6), (3, .ref q_v10), (4, .ref q_v14), (5, .ref q_m1), (6, .int x6), (7, .int x7)] → f_L_ranks_29   n_m1 S_m1 x6 n G W_v6 W_v10 W_v14 x7 = some (r, G') → W p l ev (rmD 12 641 (16 * 641)) s m ([.ref (ad 77)] : List Value).toArray below meth c H locs cells slots (MQ below (LQ (PI (some .boolean) r D Y ad G') (AW 90 ad)) ([.ref (ad 77)] : List Value).toArray s 641 (16 * 641) (AW 90 ad)) (F0 m 29 ls []) := by
    intro n_m1 S_m1 x6
    intro n
    induction n with
    | zero => intro G W_v6 W_v10 W_v14 x7 q_m1 r_m1 q_v6 q_v10 q_v14 H locs cells slots hf_m1 hf_v6 hf_v10 hf_v14 hne_m1_v6 hne_m1_v10 hne_m1_v14 hne_v10_v6 hne_v14_v6 hne_v10_v14 hP hS hA_m1 hA_v6 hA_v10 hA_v14 hB ls hl h; exact lqZ5 h
    | succ n29 ih29 =>
      have key83 : ∀ (W_v6 : Nat → Int32) (W_v10 : Nat → Int32) (W_v14 : Nat → Int32) (x7 : Int32) (w8 : Nat) (s83_0 : Int32) (s83_1 : Int32) (s83_2 : Int32) (G : GT) (q_m1 : Nat) (r_m1 : Nat → Nat) (q_v6 : Nat) (q_v10 : Nat) (q_v14 : Nat) (H : Heap) (locs : List Loc) (cells slots : Nat), (s.heap.size ≤ q_m1 ∧ ∀ i, i < n_m1 → s.heap.size ≤ r_m1 i) → s.heap.size ≤ q_v6 → s.heap.size ≤ q_v10 → s.heap.size ≤ q_v14 → (q_m1 ≠ q_v6 ∧ ∀ i, i < n_m1 → r_m1 i ≠ q_v6) → (q_m1 ≠ q_v10 ∧ ∀ i, i < n_m1 → r_m1 i ≠ q_v10) → (q_m1 ≠ q_v14 ∧ ∀ i, i < n_m1 → r_m1 i ≠ q_v14) → (q_v10 ≠ q_v6) → (q_v14 ≠ q_v6) → (q_v10 ≠ q_v14) → w8 < n_m1 → va_P D vwCl (wsC Y ad G) H → va_S (AW 90 ad) s.heap H locs → MX Y ad q_m1 n_m1 r_m1 S_m1 H → AI Y ad q_v6 4 W_v6 H → AI Y ad q_v10 4 W_v10 H → AI Y ad q_v14 4 W_v14 H → Bg 641 cells slots (n29 * 0 + 110) → ∀ ls : Array Slot, lv_has ls 9 [(0, .ref (ad 77)), (1, .ref q_m1), (2, .ref q_v6), (3, .ref q_v10), (4, .ref q_v14), (5, .ref q_m1), (6, .int x6), (7, .int x7), (8, .ref (r_m1 w8))] → f_L_ranks_83  (f_L_ranks_29   n_m1 S_m1 x6 n29) n_m1 S_m1 x6 W_v6 W_v10 W_v14 x7 w8 s83_0 s83_1 s83_2 G = some (r, G') → W p l ev (rmD 12 641 (16 * 641)) s m ([.ref (ad 77)] : List Value).toArray below meth c H locs cells slots (MQ below (LQ (PI (some .boolean) r D Y ad G') (AW 90 ad)) ([.ref (ad 77)] : List Value).toArray s 641 (16 * 641) (AW 90 ad)) (F0 m 83 ls [.int s83_0, .int s83_1, .int s83_2, .ref q_v10]) := by
        intro W_v6 W_v10 W_v14 x7 w8 s83_0 s83_1 s83_2 G q_m1 r_m1 q_v6 q_v10 q_v14 H locs cells slots hf_m1 hf_v6 hf_v10 hf_v14 hne_m1_v6 hne_m1_v10 hne_m1_v14 hne_v10_v6 hne_v14_v6 hne_v10_v14 hw8 hP hS hA_m1 hA_v6 hA_v10 hA_v14 hB ls hl h
        refine lv_iadd hx hb dL_ranks_83 ?_
        obtain ⟨b53, h⟩ := ckS h
        obtain ⟨W54, eW54, h⟩ := bsome h
        refine ai_st F hA_v10 hf_v10 (inbV b53 (by decide)) dL_ranks_84 (fun H hnew hsk => ?_)
        have hP := sk_P hP hnew.1 hsk
        have hS := sk_S hS hf_v10 hsk
        have hA_v10 := cvA eW54 hnew
        have hA_m1 := hA_m1.sk hsk hne_m1_v10.1 hne_m1_v10.2
        have hA_v6 := hA_v6.sk hsk (Ne.symm hne_v10_v6)
        have hA_v14 := hA_v14.sk hsk (Ne.symm hne_v10_v14)
        refine lv_aload hx hb dL_ranks_85 (lv_at hl 4 rfl) ?_
        refine lv_aload hx hb dL_ranks_87 (lv_at hl 8 rfl) ?_
        refine lv_iconst (v := 0) hx hb dL_ranks_89 (by decide) ?_
        refine ai_ldk F (hA_m1.2.2.1 _ hw8).2 (k := 0) (by decide) (inbV (by decide) (by decide)) dL_ranks_90 ?_
        refine lv_dup2_11 hx hb dL_ranks_91 rfl rfl ?_
        obtain ⟨b55, h⟩ := ckS h
        refine ai_ld F hA_v14 (inbV b55 (by decide)) dL_ranks_92 ?_
        refine lv_aload hx hb dL_ranks_93 (lv_at hl 8 rfl) ?_
        refine lv_iconst (v := 2) hx hb dL_ranks_95 (by decide) ?_
        refine ai_ldk F (hA_m1.2.2.1 _ hw8).2 (k := 2) (by decide) (inbV (by decide) (by decide)) dL_ranks_96 ?_
        refine lv_iadd hx hb dL_ranks_97 ?_
        obtain ⟨b56, h⟩ := ckS h
        obtain ⟨W57, eW57, h⟩ := bsome h
        refine ai_st F hA_v14 hf_v14 (inbV b56 (by decide)) dL_ranks_98 (fun H hnew hsk => ?_)
        have hP := sk_P hP hnew.1 hsk
        have hS := sk_S hS hf_v14 hsk
        have hA_v14 := cvA eW57 hnew
        have hA_m1 := hA_m1.sk hsk hne_m1_v14.1 hne_m1_v14.2
        have hA_v6 := hA_v6.sk hsk (Ne.symm hne_v14_v6)
        have hA_v10 := hA_v10.sk hsk hne_v10_v14
        refine lv_iinc (v := (x7 + 1)) (lv' := [(7, .int (x7 + 1)), (0, .ref (ad 77)), (1, .ref q_m1), (2, .ref q_v6), (3, .ref q_v10), (4, .ref q_v14), (5, .ref q_m1), (6, .int x6), (8, .ref (r_m1 w8))]) hx hb dL_ranks_99 hl (k := 7) rfl rfl (by decide) rfl (fun ls hl => ?_)
        refine lv_goto (tgt := 29) hx hb dL_ranks_102 (by decide) ?_
        exact ih29 G W_v6 W54 W57 (x7 + 1) q_m1 r_m1 q_v6 q_v10 q_v14 _ _ _ _ hf_m1 hf_v6 hf_v10 hf_v14 hne_m1_v6 hne_m1_v10 hne_m1_v14 hne_v10_v6 hne_v14_v6 hne_v10_v14 hP hS hA_m1 hA_v6 hA_v10 hA_v14 (hB.le (by omega)) ls (lv_sub hl [1, 2, 3, 4, 5, 6, 7, 0] rfl) h
      have key62 : ∀ (W_v6 : Nat → Int32) (W_v10 : Nat → Int32) (W_v14 : Nat → Int32) (x7 : Int32) (w8 : Nat) (s62_0 : Int32) (s62_1 : Int32) (s62_2 : Int32) (G : GT) (q_m1 : Nat) (r_m1 : Nat → Nat) (q_v6 : Nat) (q_v10 : Nat) (q_v14 : Nat) (H : Heap) (locs : List Loc) (cells slots : Nat), (s.heap.size ≤ q_m1 ∧ ∀ i, i < n_m1 → s.heap.size ≤ r_m1 i) → s.heap.size ≤ q_v6 → s.heap.size ≤ q_v10 → s.heap.size ≤ q_v14 → (q_m1 ≠ q_v6 ∧ ∀ i, i < n_m1 → r_m1 i ≠ q_v6) → (q_m1 ≠ q_v10 ∧ ∀ i, i < n_m1 → r_m1 i ≠ q_v10) → (q_m1 ≠ q_v14 ∧ ∀ i, i < n_m1 → r_m1 i ≠ q_v14) → (q_v10 ≠ q_v6) → (q_v14 ≠ q_v6) → (q_v10 ≠ q_v14) → w8 < n_m1 → va_P D vwCl (wsC Y ad G) H → va_S (AW 90 ad) s.heap H locs → MX Y ad q_m1 n_m1 r_m1 S_m1 H → AI Y ad q_v6 4 W_v6 H → AI Y ad q_v10 4 W_v10 H → AI Y ad q_v14 4 W_v14 H → Bg 641 cells slots (n29 * 0 + 110) → ∀ ls : Array Slot, lv_has ls 9 [(0, .ref (ad 77)), (1, .ref q_m1), (2, .ref q_v6), (3, .ref q_v10), (4, .ref q_v14), (5, .ref q_m1), (6, .int x6), (7, .int x7), (8, .ref (r_m1 w8))] → f_L_ranks_62  (f_L_ranks_29   n_m1 S_m1 x6 n29) n_m1 S_m1 x6 W_v6 W_v10 W_v14 x7 w8 s62_0 s62_1 s62_2 G = some (r, G') → W p l ev (rmD 12 641 (16 * 641)) s m ([.ref (ad 77)] : List Value).toArray below meth c H locs cells slots (MQ below (LQ (PI (some .boolean) r D Y ad G') (AW 90 ad)) ([.ref (ad 77)] : List Value).toArray s 641 (16 * 641) (AW 90 ad)) (F0 m 62 ls [.int s62_0, .int s62_1, .int s62_2, .ref q_v6]) := by
        intro W_v6 W_v10 W_v14 x7 w8 s62_0 s62_1 s62_2 G q_m1 r_m1 q_v6 q_v10 q_v14 H locs cells slots hf_m1 hf_v6 hf_v10 hf_v14 hne_m1_v6 hne_m1_v10 hne_m1_v14 hne_v10_v6 hne_v14_v6 hne_v10_v14 hw8 hP hS hA_m1 hA_v6 hA_v10 hA_v14 hB ls hl h
        refine lv_iadd hx hb dL_ranks_62 ?_
        obtain ⟨b58, h⟩ := ckS h
        obtain ⟨W59, eW59, h⟩ := bsome h
        refine ai_st F hA_v6 hf_v6 (inbV b58 (by decide)) dL_ranks_63 (fun H hnew hsk => ?_)
        have hP := sk_P hP hnew.1 hsk
        have hS := sk_S hS hf_v6 hsk
        have hA_v6 := cvA eW59 hnew
        have hA_m1 := hA_m1.sk hsk hne_m1_v6.1 hne_m1_v6.2
        have hA_v10 := hA_v10.sk hsk hne_v10_v6
        have hA_v14 := hA_v14.sk hsk hne_v14_v6
        refine lv_aload_n hx hb dL_ranks_64 rfl (lv_at hl 3 rfl) ?_
        refine lv_aload hx hb dL_ranks_65 (lv_at hl 8 rfl) ?_
        refine lv_iconst (v := 0) hx hb dL_ranks_67 (by decide) ?_
        refine ai_ldk F (hA_m1.2.2.1 _ hw8).2 (k := 0) (by decide) (inbV (by decide) (by decide)) dL_ranks_68 ?_
        refine lv_dup2_11 hx hb dL_ranks_69 rfl rfl ?_
        obtain ⟨b60, h⟩ := ckS h
        refine ai_ld F hA_v10 (inbV b60 (by decide)) dL_ranks_70 ?_
        refine lv_aload hx hb dL_ranks_71 (lv_at hl 8 rfl) ?_
        refine lv_iconst (v := 3) hx hb dL_ranks_73 (by decide) ?_
        refine ai_ldk F (hA_m1.2.2.1 _ hw8).2 (k := 3) (by decide) (inbV (by decide) (by decide)) dL_ranks_74 ?_
        refine lv_if_ge (tgt := 82) hx hb dL_ranks_75 (by decide) (fun c61 => ?_) (fun c61 => ?_)
        · have h := ifT h c61
          refine lv_iconst (v := 0) hx hb dL_ranks_82 (by decide) ?_
          exact key83 W59 W_v10 W_v14 x7 w8 (0 : Int32) (W_v10 (S_m1 w8 0).toNatClampNeg) (S_m1 w8 0) G q_m1 r_m1 q_v6 q_v10 q_v14 _ _ _ _ hf_m1 hf_v6 hf_v10 hf_v14 hne_m1_v6 hne_m1_v10 hne_m1_v14 hne_v10_v6 hne_v14_v6 hne_v10_v14 hw8 hP hS hA_m1 hA_v6 hA_v10 hA_v14 (hB.le (by omega)) ls (lv_sub hl [0, 1, 2, 3, 4, 5, 6, 7, 8] rfl) h
        · have h := ifF h c61
          refine lv_iconst (v := 1) hx hb dL_ranks_78 (by decide) ?_
          refine lv_goto (tgt := 83) hx hb dL_ranks_79 (by decide) ?_
          exact key83 W59 W_v10 W_v14 x7 w8 (1 : Int32) (W_v10 (S_m1 w8 0).toNatClampNeg) (S_m1 w8 0) G q_m1 r_m1 q_v6 q_v10 q_v14 _ _ _ _ hf_m1 hf_v6 hf_v10 hf_v14 hne_m1_v6 hne_m1_v10 hne_m1_v14 hne_v10_v6 hne_v14_v6 hne_v10_v14 hw8 hP hS hA_m1 hA_v6 hA_v10 hA_v14 (hB.le (by omega)) ls (lv_sub hl [0, 1, 2, 3, 4, 5, 6, 7, 8] rfl) h
      intro G W_v6 W_v10 W_v14 x7 q_m1 r_m1 q_v6 q_v10 q_v14 H locs cells slots hf_m1 hf_v6 hf_v10 hf_v14 hne_m1_v6 hne_m1_v10 hne_m1_v14 hne_v10_v6 hne_v14_v6 hne_v10_v14 hP hS hA_m1 hA_v6 hA_v10 hA_v14 hB ls hl h
      have h := lqS5 h
      refine lv_iload hx hb dL_ranks_29 (lv_at hl 7 rfl) ?_
      refine lv_iload hx hb dL_ranks_31 (lv_at hl 6 rfl) ?_
      refine lv_icmp_ge (tgt := 105) hx hb dL_ranks_33 (by decide) (fun c62 => ?_) (fun c62 => ?_)
      · have h := ifT h c62
        refine lv_iconst (v := 0) hx hb dL_ranks_105 (by decide) ?_
        refine lv_istore (lv' := [(5, .int (0 : Int32)), (0, .ref (ad 77)), (1, .ref q_m1), (2, .ref q_v6), (3, .ref q_v10), (4, .ref q_v14), (6, .int x6), (7, .int x7)]) hx hb dL_ranks_106 hl (by decide) rfl (fun ls hl => ?_)
        exact key108 n_m1 S_m1 W_v6 W_v10 W_v14 5 G (0 : Int32) q_m1 r_m1 q_v6 q_v10 q_v14 _ _ _ _ hf_m1 hf_v6 hf_v10 hf_v14 hne_m1_v6 hne_m1_v10 hne_m1_v14 hne_v10_v6 hne_v14_v6 hne_v10_v14 hP hS hA_m1 hA_v6 hA_v10 hA_v14 (hB.le (by omega)) ls (lv_sub hl [1, 2, 3, 4, 5, 0] rfl) h
      · have h := ifF h c62
        refine lv_aload hx hb dL_ranks_36 (lv_at hl 5 rfl) ?_
        refine lv_iload hx hb dL_ranks_38 (lv_at hl 7 rfl) ?_
        obtain ⟨b63, h⟩ := ckS h
        refine mx_row F hA_m1 b63 dL_ranks_40 (fun hw64 => ?_)
        refine lv_astore (lv' := [(8, .ref (r_m1 (x7.toNatClampNeg))), (0, .ref (ad 77)), (1, .ref q_m1), (2, .ref q_v6), (3, .ref q_v10), (4, .ref q_v14), (5, .ref q_m1), (6, .int x6), (7, .int x7)]) hx hb dL_ranks_41 hl (by decide) rfl (fun ls hl => ?_)
        refine lv_aload_n hx hb dL_ranks_43 rfl (lv_at hl 3 rfl) ?_
        refine lv_aload hx hb dL_ranks_44 (lv_at hl 0 rfl) ?_
        refine lv_iconst (v := 0) hx hb dL_ranks_46 (by decide) ?_
        refine ai_ldk F (hA_m1.2.2.1 _ hw64).2 (k := 0) (by decide) (inbV (by decide) (by decide)) dL_ranks_47 ?_
        refine lv_dup2_11 hx hb dL_ranks_48 rfl rfl ?_
        obtain ⟨b65, h⟩ := ckS h
        refine ai_ld F hA_v6 (inbV b65 (by decide)) dL_ranks_49 ?_
        refine lv_aload hx hb dL_ranks_50 (lv_at hl 0 rfl) ?_
        refine lv_iconst (v := 3) hx hb dL_ranks_52 (by decide) ?_
        refine ai_ldk F (hA_m1.2.2.1 _ hw64).2 (k := 3) (by decide) (inbV (by decide) (by decide)) dL_ranks_53 ?_
        refine lv_if_ge (tgt := 61) hx hb dL_ranks_54 (by decide) (fun c66 => ?_) (fun c66 => ?_)
        · have h := ifT h c66
          refine lv_iconst (v := 1) hx hb dL_ranks_61 (by decide) ?_
          exact key62 W_v6 W_v10 W_v14 x7 (x7.toNatClampNeg) (1 : Int32) (W_v6 (S_m1 (x7.toNatClampNeg) 0).toNatClampNeg) (S_m1 (x7.toNatClampNeg) 0) G q_m1 r_m1 q_v6 q_v10 q_v14 _ _ _ _ hf_m1 hf_v6 hf_v10 hf_v14 hne_m1_v6 hne_m1_v10 hne_m1_v14 hne_v10_v6 hne_v14_v6 hne_v10_v14 hw64 hP hS hA_m1 hA_v6 hA_v10 hA_v14 (hB.le (by omega)) ls (lv_sub hl [1, 2, 3, 4, 5, 6, 7, 8, 0] rfl) h
        · have h := ifF h c66
          refine lv_iconst (v := 0) hx hb dL_ranks_57 (by decide) ?_
          refine lv_goto (tgt := 62) hx hb dL_ranks_58 (by decide) ?_
          exact key62 W_v6 W_v10 W_v14 x7 (x7.toNatClampNeg) (0 : Int32) (W_v6 (S_m1 (x7.toNatClampNeg) 0).toNatClampNeg) (S_m1 (x7.toNatClampNeg) 0) G q_m1 r_m1 q_v6 q_v10 q_v14 _ _ _ _ hf_m1 hf_v6 hf_v10 hf_v14 hne_m1_v6 hne_m1_v10 hne_m1_v14 hne_v10_v6 hne_v14_v6 hne_v10_v14 hw64 hP hS hA_m1 hA_v6 hA_v10 hA_v14 (hB.le (by omega)) ls (lv_sub hl [1, 2, 3, 4, 5, 6, 7, 8, 0] rfl) h
  refine lv_aload_n hx hb dL_ranks_0 rfl (lv_at hl 0 rfl) ?_
  obtain ⟨n_m1, S67, G67, e67, h⟩ := bsome3 h
  refine lm_m (B' := (113)) F hP hK hE hS hB ph0_b ph0_o k_L_sounds mw_684 (q_L_sounds l hst D Y ad hI G  n_m1 S67 G67 e67) rfl hl.1 ⟨Nat.le_of_ble_eq_true rfl, Nat.le_of_ble_eq_true rfl⟩ (rest := []) rfl (Nat.le_of_ble_eq_true rfl) (by omega) dL_ranks_1 (fun q_m1 r_m1 H locs cells slots hA_m1 hf_m1 hd hdr hP hS hkp hB => ?_)
  refine lv_astore_n (lv' := [(1, .ref q_m1), (0, .ref (ad 77))]) hx hb dL_ranks_4 rfl hl (by decide) rfl (fun ls hl => ?_)
  refine lv_iconst (v := 4) hx hb dL_ranks_5 (by decide) ?_
  refine nw_i (N := 4) (B' := (112)) F hP hS hB (by decide) (by decide) (by omega) (by decide) mw_85 dL_ranks_6 (fun q_v6 H cells slots hA_v6 hf_v6 hd hP hS hkp hB => ?_)
  have hne_m1_v6 : (q_m1 ≠ q_v6 ∧ ∀ i, i < n_m1 → r_m1 i ≠ q_v6) := ⟨hd _ hA_m1.lt, fun i hi => hd _ (hA_m1.2.2.1 i hi).2.lt⟩
  have hA_m1 := hA_m1.kp hkp
  refine lv_astore_n (lv' := [(2, .ref q_v6), (1, .ref q_m1), (0, .ref (ad 77))]) hx hb dL_ranks_8 rfl hl (by decide) rfl (fun ls hl => ?_)
  refine lv_iconst (v := 4) hx hb dL_ranks_9 (by decide) ?_
  refine nw_i (N := 4) (B' := (111)) F hP hS hB (by decide) (by decide) (by omega) (by decide) mw_85 dL_ranks_10 (fun q_v10 H cells slots hA_v10 hf_v10 hd hP hS hkp hB => ?_)
  have hne_m1_v10 : (q_m1 ≠ q_v10 ∧ ∀ i, i < n_m1 → r_m1 i ≠ q_v10) := ⟨hd _ hA_m1.lt, fun i hi => hd _ (hA_m1.2.2.1 i hi).2.lt⟩
  have hne_v10_v6 : (q_v10 ≠ q_v6) := Ne.symm (hd _ hA_v6.lt)
  have hA_m1 := hA_m1.kp hkp
  have hA_v6 := hA_v6.kp hkp
  refine lv_astore_n (lv' := [(3, .ref q_v10), (2, .ref q_v6), (1, .ref q_m1), (0, .ref (ad 77))]) hx hb dL_ranks_12 rfl hl (by decide) rfl (fun ls hl => ?_)
  refine lv_iconst (v := 4) hx hb dL_ranks_13 (by decide) ?_
  refine nw_i (N := 4) (B' := (110)) F hP hS hB (by decide) (by decide) (by omega) (by decide) mw_85 dL_ranks_14 (fun q_v14 H cells slots hA_v14 hf_v14 hd hP hS hkp hB => ?_)
  have hne_m1_v14 : (q_m1 ≠ q_v14 ∧ ∀ i, i < n_m1 → r_m1 i ≠ q_v14) := ⟨hd _ hA_m1.lt, fun i hi => hd _ (hA_m1.2.2.1 i hi).2.lt⟩
  have hne_v14_v6 : (q_v14 ≠ q_v6) := Ne.symm (hd _ hA_v6.lt)
  have hne_v10_v14 : (q_v10 ≠ q_v14) := hd _ hA_v10.lt
  have hA_m1 := hA_m1.kp hkp
  have hA_v6 := hA_v6.kp hkp
  have hA_v10 := hA_v10.kp hkp
  refine lv_astore (lv' := [(4, .ref q_v14), (3, .ref q_v10), (2, .ref q_v6), (1, .ref q_m1), (0, .ref (ad 77))]) hx hb dL_ranks_16 hl (by decide) rfl (fun ls hl => ?_)
  refine lv_aload_n hx hb dL_ranks_18 rfl (lv_at hl 3 rfl) ?_
  refine lv_astore (lv' := [(5, .ref q_m1), (4, .ref q_v14), (3, .ref q_v10), (2, .ref q_v6), (1, .ref q_m1), (0, .ref (ad 77))]) hx hb dL_ranks_19 hl (by decide) rfl (fun ls hl => ?_)
  refine lv_aload hx hb dL_ranks_21 (lv_at hl 0 rfl) ?_
  refine mx_len F hA_m1 dL_ranks_23 ?_
  refine lv_istore (lv' := [(6, .int (nI n_m1)), (5, .ref q_m1), (4, .ref q_v14), (3, .ref q_v10), (2, .ref q_v6), (1, .ref q_m1), (0, .ref (ad 77))]) hx hb dL_ranks_24 hl (by decide) rfl (fun ls hl => ?_)
  refine lv_iconst (v := 0) hx hb dL_ranks_26 (by decide) ?_
  refine lv_istore (lv' := [(7, .int (0 : Int32)), (6, .int (nI n_m1)), (5, .ref q_m1), (4, .ref q_v14), (3, .ref q_v10), (2, .ref q_v6), (1, .ref q_m1), (0, .ref (ad 77))]) hx hb dL_ranks_27 hl (by decide) rfl (fun ls hl => ?_)
  exact key29 n_m1 S67 (nI n_m1) 17 G67 (fun _ => 0) (fun _ => 0) (fun _ => 0) (0 : Int32) q_m1 r_m1 q_v6 q_v10 q_v14 _ _ _ _ hf_m1 hf_v6 hf_v10 hf_v14 hne_m1_v6 hne_m1_v10 hne_m1_v14 hne_v10_v6 hne_v14_v6 hne_v10_v14 hP hS hA_m1 hA_v6 hA_v10 hA_v14 (hB.le (by omega)) ls (lv_sub hl [7, 6, 5, 4, 3, 2, 1, 0] rfl) h
