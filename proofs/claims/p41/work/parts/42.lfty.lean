def f_L_faulty_316 (n_m1 : Nat) (S_m1 : Nat → Nat → Int32) (s316_0 : Int32) (s316_1 : Int32) (G : GT) : Option (Int32 × GT) := (if s316_1 = s316_0 then (bind2 (fw_faults G (0 : Int32) (1 : Int32)) fun r2 G2 => (if r2 = (-12 : Int32) then (bind2 (fw_faults G2 (5 : Int32) (0 : Int32)) fun r4 G4 => (if r4 = (-12 : Int32) then (bind2 (fw_firstFault G4 (0 : Int32)) fun r6 G6 => (if r6 = (-12 : Int32) then (bind2 (fw_wouldFault G6 (nI n_m1) (10 : Int32)) fun r8 G8 => (if r8 = (-11 : Int32) then (bind2 (fw_bestHeight G8 (-1 : Int32)) fun r10 G10 => (if r10 = (-11 : Int32) then ((f_X9_isWell G10 ).bind fun r12 => (if r12 = 0 then some ((0 : Int32), G10) else some ((1 : Int32), G10))) else some ((0 : Int32), G10))) else some ((0 : Int32), G8))) else some ((0 : Int32), G6))) else some ((0 : Int32), G4))) else some ((0 : Int32), G2))) else some ((0 : Int32), G))
def f_L_faulty_265 (k113 : GT → (Nat → Nat → Int32) → Int32 → Option (Int32 × GT)) (n_m1 : Nat) (S_m1 : Nat → Nat → Int32) (x2 : Int32) (s265_0 : Int32) (s265_1 : Int32) (G : GT) : Option (Int32 × GT) := (if s265_1 = s265_0 then (bind2 (fw_wouldFault G x2 (10 : Int32)) fun r15 G15 => (if r15 = (-12 : Int32) then (bind2 (fw_wouldFault G15 x2 (-1 : Int32)) fun r17 G17 => (if r17 = (-12 : Int32) then k113 G17 S_m1 (x2 + 1) else some ((0 : Int32), G17))) else some ((0 : Int32), G15))) else some ((0 : Int32), G))
def f_L_faulty_232 (k113 : GT → (Nat → Nat → Int32) → Int32 → Option (Int32 × GT)) (k134 : GT → (Nat → Nat → Int32) → Int32 → Int32 → Int32 → Option (Int32 × GT)) (n_m1 : Nat) (x2 : Int32) (x3 : Int32) (S_m1 : Nat → Nat → Int32) (x4 : Int32) (x5 : Int32) (x6 : Int32) (s232_0 : Int32) (s232_1 : Int32) (G : GT) : Option (Int32 × GT) := (if s232_1 = s232_0 then k134 G S_m1 x4 x5 (x6 + 1) else some ((0 : Int32), G))
def f_L_faulty_212 (k113 : GT → (Nat → Nat → Int32) → Int32 → Option (Int32 × GT)) (k134 : GT → (Nat → Nat → Int32) → Int32 → Int32 → Int32 → Option (Int32 × GT)) (n_m1 : Nat) (x2 : Int32) (x3 : Int32) (S_m1 : Nat → Nat → Int32) (x4 : Int32) (x6 : Int32) (x7 : Int32) (s212_0 : Int32) (G : GT) : Option (Int32 × GT) := (bind2 (fw_wouldFault G x2 x6) fun r20 G20 => (if 0 ≤ x3 then f_L_faulty_232 k113 k134 n_m1 x2 x3 S_m1 x4 s212_0 x6 x7 r20 G20 else f_L_faulty_232 k113 k134 n_m1 x2 x3 S_m1 x4 s212_0 x6 (-13 : Int32) r20 G20))
def f_L_faulty_196 (k113 : GT → (Nat → Nat → Int32) → Int32 → Option (Int32 × GT)) (k134 : GT → (Nat → Nat → Int32) → Int32 → Int32 → Int32 → Option (Int32 × GT)) (n_m1 : Nat) (x2 : Int32) (x3 : Int32) (S_m1 : Nat → Nat → Int32) (x5 : Int32) (x6 : Int32) (x7 : Int32) (s196_0 : Int32) (G : GT) : Option (Int32 × GT) := (if s196_0 = x6 then f_L_faulty_212 k113 k134 n_m1 x2 x3 S_m1 s196_0 x6 x7 x7 G else f_L_faulty_212 k113 k134 n_m1 x2 x3 S_m1 s196_0 x6 x7 x5 G)
def f_L_faulty_189 (k113 : GT → (Nat → Nat → Int32) → Int32 → Option (Int32 × GT)) (k134 : GT → (Nat → Nat → Int32) → Int32 → Int32 → Int32 → Option (Int32 × GT)) (n_m1 : Nat) (x2 : Int32) (x3 : Int32) (S_m1 : Nat → Nat → Int32) (x5 : Int32) (x6 : Int32) (x7 : Int32) (G : GT) : Option (Int32 × GT) := f_L_faulty_196 k113 k134 n_m1 x2 x3 S_m1 x5 x6 x7 x6 G
def f_L_faulty_169 (k113 : GT → (Nat → Nat → Int32) → Int32 → Option (Int32 × GT)) (k134 : GT → (Nat → Nat → Int32) → Int32 → Int32 → Int32 → Option (Int32 × GT)) (n_m1 : Nat) (x2 : Int32) (x3 : Int32) (S_m1 : Nat → Nat → Int32) (x4 : Int32) (x5 : Int32) (x6 : Int32) (s169_0 : Int32) (s169_1 : Int32) (ws169_2 : Nat) (G : GT) : Option (Int32 × GT) := (if inb s169_1 6 then ((some (upS S_m1 ws169_2 (upd (S_m1 ws169_2) (s169_1.toNatClampNeg) s169_0))).bind fun S24 => (bind2 (f_L_allFaults G n_m1 S24 ) fun r25 G25 => (if x4 < 0 then f_L_faulty_189 k113 k134 n_m1 x2 x3 S24 x5 x6 r25 G25 else (if x5 ≤ r25 then f_L_faulty_196 k113 k134 n_m1 x2 x3 S24 x5 x6 r25 x4 G25 else f_L_faulty_189 k113 k134 n_m1 x2 x3 S24 x5 x6 r25 G25)))) else none)
def f_L_faulty_134 (k113 : GT → (Nat → Nat → Int32) → Int32 → Option (Int32 × GT)) (n_m1 : Nat) (x2 : Int32) (x3 : Int32) (n : Nat) (G : GT) (y_S_m1 : Nat → Nat → Int32) (y_x4 : Int32) (y_x5 : Int32) (y_x6 : Int32) : Option (Int32 × GT) := lq5 (fun (k134 : GT → (Nat → Nat → Int32) → Int32 → Int32 → Int32 → Option (Int32 × GT)) (G : GT) (S_m1 : Nat → Nat → Int32) (x4 : Int32) (x5 : Int32) (x6 : Int32) => (if (10 : Int32) ≤ x6 then (if inb x2 n_m1 then ((some (upS S_m1 (x2.toNatClampNeg) (upd (S_m1 (x2.toNatClampNeg)) ((3 : Int32).toNatClampNeg) x3))).bind fun S31 => (bind2 (fw_bestHeight G x2) fun r32 G32 => (if 0 ≤ x3 then f_L_faulty_265 k113 n_m1 S31 x2 x4 r32 G32 else f_L_faulty_265 k113 n_m1 S31 x2 (-13 : Int32) r32 G32))) else none) else (if inb x2 n_m1 then (if 0 ≤ x3 then (if inb x2 n_m1 then (bind2 (fw_tinOf G (S_m1 (x2.toNatClampNeg) 0) (0 : Int32)) fun r39 G39 => f_L_faulty_169 k113 k134 n_m1 x2 x3 S_m1 x4 x5 x6 ((r39 + x6) - (r39 + x6) / (12 : Int32) * (12 : Int32)) (3 : Int32) (x2.toNatClampNeg) G39) else none) else f_L_faulty_169 k113 k134 n_m1 x2 x3 S_m1 x4 x5 x6 (-1 : Int32) (3 : Int32) (x2.toNatClampNeg) G) else none))) n G y_S_m1 y_x4 y_x5 y_x6
def f_L_faulty_113 (n_m1 : Nat) (n : Nat) (G : GT) (y_S_m1 : Nat → Nat → Int32) (y_x2 : Int32) : Option (Int32 × GT) := lq3 (fun (k113 : GT → (Nat → Nat → Int32) → Int32 → Option (Int32 × GT)) (G : GT) (S_m1 : Nat → Nat → Int32) (x2 : Int32) => (if (nI n_m1) ≤ x2 then ((f_X9_isClean G ).bind fun r41 => (bind2 (f_L_allFaults G n_m1 S_m1 ) fun r42 G42 => (if r42 = 0 then f_L_faulty_316 n_m1 S_m1 (1 : Int32) r41 G42 else f_L_faulty_316 n_m1 S_m1 (0 : Int32) r41 G42))) else (if inb x2 n_m1 then f_L_faulty_134 k113 n_m1 x2 (S_m1 (x2.toNatClampNeg) 3) 11 G S_m1 (-1 : Int32) (0 : Int32) (0 : Int32) else none))) n G y_S_m1 y_x2
def f_L_faulty_65 (k7 : GT → Int32 → Option (Int32 × GT)) (k42 : GT → Int32 → Int32 → Option (Int32 × GT)) (n_m1 : Nat) (S_m1 : Nat → Nat → Int32) (x2 : Int32) (x3 : Int32) (x5 : Int32) (s65_0 : Int32) (G : GT) : Option (Int32 × GT) := k42 G s65_0 (x5 + (-1))
def f_L_faulty_42 (k7 : GT → Int32 → Option (Int32 × GT)) (n_m1 : Nat) (S_m1 : Nat → Nat → Int32) (x2 : Int32) (x3 : Int32) (n : Nat) (G : GT) (y_x4 : Int32) (y_x5 : Int32) : Option (Int32 × GT) := lq3 (fun (k42 : GT → Int32 → Int32 → Option (Int32 × GT)) (G : GT) (x4 : Int32) (x5 : Int32) => (if x5 < 0 then (bind2 (fw_faults G x2 (0 : Int32)) fun r47 G47 => (if r47 = x3 then (bind2 (fw_faults G47 x2 (1 : Int32)) fun r49 G49 => (if r49 = x3 then (bind2 (fw_firstFault G49 x2) fun r51 G51 => (if r51 = x4 then k7 G51 (x2 + 1) else some ((0 : Int32), G51))) else some ((0 : Int32), G49))) else some ((0 : Int32), G47))) else (bind2 (f_L_isFault G n_m1 S_m1 x2 x5) fun r53 G53 => (if r53 = 0 then f_L_faulty_65 k7 k42 n_m1 S_m1 x2 x3 x5 x4 G53 else f_L_faulty_65 k7 k42 n_m1 S_m1 x2 x3 x5 x5 G53)))) n G y_x4 y_x5
def f_L_faulty_38 (k7 : GT → Int32 → Option (Int32 × GT)) (n_m1 : Nat) (S_m1 : Nat → Nat → Int32) (x2 : Int32) (x3 : Int32) (x4 : Int32) (s38_0 : Int32) (G : GT) : Option (Int32 × GT) := f_L_faulty_42 k7 n_m1 S_m1 x2 x3 17 G x4 (s38_0 - (1 : Int32))
def f_L_faulty_7 (n_m1 : Nat) (S_m1 : Nat → Nat → Int32) (n : Nat) (G : GT) (y_x2 : Int32) : Option (Int32 × GT) := lq2 (fun (k7 : GT → Int32 → Option (Int32 × GT)) (G : GT) (x2 : Int32) => (if (5 : Int32) ≤ x2 then f_L_faulty_113 n_m1 17 G S_m1 (0 : Int32) else (bind2 (f_L_faultsOf G n_m1 S_m1 x2) fun r56 G56 => (if x2 = (3 : Int32) then (bindR (f_X9_account G56 (0 : Int32)) fun r58 G58 => f_L_faulty_38 k7 n_m1 S_m1 x2 r56 (-13 : Int32) r58 G58) else f_L_faulty_38 k7 n_m1 S_m1 x2 r56 (-13 : Int32) (nI n_m1) G56)))) n G y_x2
def f_L_faulty (G : GT) : Option (Int32 × GT) := (bind3 (f_L_sounds G ) fun n_m1 S59 G59 => f_L_faulty_7 n_m1 S59 5 G59 (1 : Int32))
set_option maxRecDepth 100000 in
set_option maxHeartbeats 8000000 in
theorem q_L_faulty (l : Launch) (hst : l.stackTraces = false) (D : va_G) (Y : Nat → ClassId) (ad : Nat → Nat) (hI : Inj 90 ad) (G : GT) (r : Int32) (G' : GT) (h : f_L_faulty G   = some (r, G')) : LM l yL_faulty cL_faulty 8 (some .boolean) 14 195858 D Y ad G Ph0 [.ref (ad 77)] (PI (some .boolean) r D Y ad G') := by
  refine LM_of (ret := (some .boolean)) (by decide) (Nat.le_of_ble_eq_true rfl) (lv := [(0, .ref (ad 77))]) rfl ?_
  intro p ev s m below meth c ls F hP hK hE hΦ hS hr hk hl hB
  have F : Fx p c cL_faulty 8 s m _ RL D Y := F
  have hx := F.1.1
  have hb := F.1.2.1
  have hts := F.1.2.2.2.2
  have hown := F.1.2.2.2.1
  have key316 : ∀ (n_m1 : Nat) (S_m1 : Nat → Nat → Int32) (s316_0 : Int32) (s316_1 : Int32) (G : GT) (q_m1 : Nat) (r_m1 : Nat → Nat) (H : Heap) (locs : List Loc) (cells slots : Nat), (s.heap.size ≤ q_m1 ∧ ∀ i, i < n_m1 → s.heap.size ≤ r_m1 i) → va_P D vwCl (wsC Y ad G) H → va_S (AW 90 ad) s.heap H locs → MX Y ad q_m1 n_m1 r_m1 S_m1 H → Bg 195858 cells slots (9) → ∀ ls : Array Slot, lv_has ls 8 [(0, .ref (ad 77)), (1, .ref q_m1)] → f_L_faulty_316   n_m1 S_m1 s316_0 s316_1 G = some (r, G') → W p l ev (rmD 14 195858 (16 * 195858)) s m ([.ref (ad 77)] : List Value).toArray below meth c H locs cells slots (MQ below (LQ (PI (some .boolean) r D Y ad G') (AW 90 ad)) ([.ref (ad 77)] : List Value).toArray s 195858 (16 * 195858) (AW 90 ad)) (F0 m 316 ls [.int s316_0, .int s316_1]) := by
    intro n_m1 S_m1 s316_0 s316_1 G q_m1 r_m1 H locs cells slots hf_m1 hP hS hA_m1 hB ls hl h
    refine lv_icmp_ne (tgt := 385) hx hb dL_faulty_316 (by decide) (fun c1 => ?_) (fun c1 => ?_)
    · have h := ifF h c1
      refine lv_iconst (v := 0) hx hb dL_faulty_385 (by decide) ?_
      exact lm_end F hP hS hB hr hk rfl h dL_faulty_386
    · have h := ifT h c1
      refine lv_aload_n hx hb dL_faulty_319 rfl (lv_at hl 0 rfl) ?_
      refine lv_iconst (v := 0) hx hb dL_faulty_320 (by decide) ?_
      refine lv_iconst (v := 1) hx hb dL_faulty_321 (by decide) ?_
      obtain ⟨r2, G2, e2, h⟩ := bsome2 h
      refine lh_i (B' := (8)) F hP hK hE hS hB kl_faults mw_808 (ql_faults l hst D Y ad hI G (0 : Int32) (1 : Int32) r2 G2 e2) rfl hl.1 ⟨Nat.le_of_ble_eq_true rfl, Nat.le_of_ble_eq_true rfl⟩ (rest := []) rfl (Nat.le_of_ble_eq_true rfl) (by omega) dL_faulty_322 (fun H locs cells slots hP hS hkp hB => ?_)
      have hA_m1 := hA_m1.kp hkp
      refine lv_bipush (v := (-12)) hx hb dL_faulty_325 (by decide) ?_
      refine lv_icmp_ne (tgt := 385) hx hb dL_faulty_327 (by decide) (fun c3 => ?_) (fun c3 => ?_)
      · have h := ifF h c3
        refine lv_iconst (v := 0) hx hb dL_faulty_385 (by decide) ?_
        exact lm_end F hP hS hB hr hk rfl h dL_faulty_386
      · have h := ifT h c3
        refine lv_aload_n hx hb dL_faulty_330 rfl (lv_at hl 0 rfl) ?_
        refine lv_iconst (v := 5) hx hb dL_faulty_331 (by decide) ?_
        refine lv_iconst (v := 0) hx hb dL_faulty_332 (by decide) ?_
        obtain ⟨r4, G4, e4, h⟩ := bsome2 h
        refine lh_i (B' := (7)) F hP hK hE hS hB kl_faults mw_808 (ql_faults l hst D Y ad hI G2 (5 : Int32) (0 : Int32) r4 G4 e4) rfl hl.1 ⟨Nat.le_of_ble_eq_true rfl, Nat.le_of_ble_eq_true rfl⟩ (rest := []) rfl (Nat.le_of_ble_eq_true rfl) (by omega) dL_faulty_333 (fun H locs cells slots hP hS hkp hB => ?_)
        have hA_m1 := hA_m1.kp hkp
        refine lv_bipush (v := (-12)) hx hb dL_faulty_336 (by decide) ?_
        refine lv_icmp_ne (tgt := 385) hx hb dL_faulty_338 (by decide) (fun c5 => ?_) (fun c5 => ?_)
        · have h := ifF h c5
          refine lv_iconst (v := 0) hx hb dL_faulty_385 (by decide) ?_
          exact lm_end F hP hS hB hr hk rfl h dL_faulty_386
        · have h := ifT h c5
          refine lv_aload_n hx hb dL_faulty_341 rfl (lv_at hl 0 rfl) ?_
          refine lv_iconst (v := 0) hx hb dL_faulty_342 (by decide) ?_
          obtain ⟨r6, G6, e6, h⟩ := bsome2 h
          refine lh_i (B' := (5)) F hP hK hE hS hB kl_firstFault mw_869 (ql_firstFault l hst D Y ad hI G4 (0 : Int32) r6 G6 e6) rfl hl.1 ⟨Nat.le_of_ble_eq_true rfl, Nat.le_of_ble_eq_true rfl⟩ (rest := []) rfl (Nat.le_of_ble_eq_true rfl) (by omega) dL_faulty_343 (fun H locs cells slots hP hS hkp hB => ?_)
          have hA_m1 := hA_m1.kp hkp
          refine lv_bipush (v := (-12)) hx hb dL_faulty_346 (by decide) ?_
          refine lv_icmp_ne (tgt := 385) hx hb dL_faulty_348 (by decide) (fun c7 => ?_) (fun c7 => ?_)
          · have h := ifF h c7
            refine lv_iconst (v := 0) hx hb dL_faulty_385 (by decide) ?_
            exact lm_end F hP hS hB hr hk rfl h dL_faulty_386
          · have h := ifT h c7
            refine lv_aload_n hx hb dL_faulty_351 rfl (lv_at hl 0 rfl) ?_
            refine lv_aload_n hx hb dL_faulty_352 rfl (lv_at hl 1 rfl) ?_
            refine mx_len F hA_m1 dL_faulty_353 ?_
            refine lv_bipush (v := 10) hx hb dL_faulty_354 (by decide) ?_
            obtain ⟨r8, G8, e8, h⟩ := bsome2 h
            refine lh_i (B' := (2)) F hP hK hE hS hB kl_wouldFault mw_883 (ql_wouldFault l hst D Y ad hI G6 (nI n_m1) (10 : Int32) r8 G8 e8) rfl hl.1 ⟨Nat.le_of_ble_eq_true rfl, Nat.le_of_ble_eq_true rfl⟩ (rest := []) rfl (Nat.le_of_ble_eq_true rfl) (by omega) dL_faulty_356 (fun H locs cells slots hP hS hkp hB => ?_)
            have hA_m1 := hA_m1.kp hkp
            refine lv_bipush (v := (-11)) hx hb dL_faulty_359 (by decide) ?_
            refine lv_icmp_ne (tgt := 385) hx hb dL_faulty_361 (by decide) (fun c9 => ?_) (fun c9 => ?_)
            · have h := ifF h c9
              refine lv_iconst (v := 0) hx hb dL_faulty_385 (by decide) ?_
              exact lm_end F hP hS hB hr hk rfl h dL_faulty_386
            · have h := ifT h c9
              refine lv_aload_n hx hb dL_faulty_364 rfl (lv_at hl 0 rfl) ?_
              refine lv_iconst (v := (-1)) hx hb dL_faulty_365 (by decide) ?_
              obtain ⟨r10, G10, e10, h⟩ := bsome2 h
              refine lh_i (B' := (0)) F hP hK hE hS hB kl_bestHeight mw_901 (ql_bestHeight l hst D Y ad hI G8 (-1 : Int32) r10 G10 e10) rfl hl.1 ⟨Nat.le_of_ble_eq_true rfl, Nat.le_of_ble_eq_true rfl⟩ (rest := []) rfl (Nat.le_of_ble_eq_true rfl) (by omega) dL_faulty_366 (fun H locs cells slots hP hS hkp hB => ?_)
              have hA_m1 := hA_m1.kp hkp
              refine lv_bipush (v := (-11)) hx hb dL_faulty_369 (by decide) ?_
              refine lv_icmp_ne (tgt := 385) hx hb dL_faulty_371 (by decide) (fun c11 => ?_) (fun c11 => ?_)
              · have h := ifF h c11
                refine lv_iconst (v := 0) hx hb dL_faulty_385 (by decide) ?_
                exact lm_end F hP hS hB hr hk rfl h dL_faulty_386
              · have h := ifT h c11
                refine lv_aload_n hx hb dL_faulty_374 rfl (lv_at hl 0 rfl) ?_
                obtain ⟨r12, er12, h⟩ := bsome h
                refine rd_V F hP k_X9_isWell mw_913 77 10 rfl (wsW_get 77 (by decide)) (q_X9_isWell l D Y ad G10  r12 er12) rfl hl.1 ⟨Nat.le_of_ble_eq_true rfl, Nat.le_of_ble_eq_true rfl⟩ (rest := []) rfl (Nat.le_of_ble_eq_true rfl) hB.hc dL_faulty_375 (fun o12 => ?_)
                refine lv_if_eq (tgt := 385) hx hb dL_faulty_378 (by decide) (fun c13 => ?_) (fun c13 => ?_)
                · have h := ifT h c13
                  refine lv_iconst (v := 0) hx hb dL_faulty_385 (by decide) ?_
                  exact lm_end F hP hS hB hr hk rfl h dL_faulty_386
                · have h := ifF h c13
                  refine lv_iconst (v := 1) hx hb dL_faulty_381 (by decide) ?_
                  refine lv_goto (tgt := 386) hx hb dL_faulty_382 (by decide) ?_
                  exact lm_end F hP hS hB hr hk rfl h dL_faulty_386
  have key113 : ∀ (n_m1 : Nat) (n : Nat) (G : GT) (S_m1 : Nat → Nat → Int32) (x2 : Int32) (q_m1 : Nat) (r_m1 : Nat → Nat) (H : Heap) (locs : List Loc) (cells slots : Nat), (s.heap.size ≤ q_m1 ∧ ∀ i, i < n_m1 → s.heap.size ≤ r_m1 i) → va_P D vwCl (wsC Y ad G) H → va_S (AW 90 ad) s.heap H locs → MX Y ad q_m1 n_m1 r_m1 S_m1 H → Bg 195858 cells slots (n * 11283 + 1029) → ∀ ls : Array Slot, lv_has ls 8 [(0, .ref (ad 77)), (1, .ref q_m1), (2, .int x2)] → f_L_faulty_113   n_m1 n G S_m1 x2 = some (r, G') → W p l ev (rmD 14 195858 (16 * 195858)) s m ([.ref (ad 77)] : List Value).toArray below meth c H locs cells slots (MQ below (LQ (PI (some .boolean) r D Y ad G') (AW 90 ad)) ([.ref (ad 77)] : List Value).toArray s 195858 (16 * 195858) (AW 90 ad)) (F0 m 113 ls []) := by
    intro n_m1
    intro n
    induction n with
    | zero => intro G S_m1 x2 q_m1 r_m1 H locs cells slots hf_m1 hP hS hA_m1 hB ls hl h; exact lqZ3 h
    | succ n113 ih113 =>
      have key265 : ∀ (S_m1 : Nat → Nat → Int32) (x2 : Int32) (s265_0 : Int32) (s265_1 : Int32) (G : GT) (q_m1 : Nat) (r_m1 : Nat → Nat) (H : Heap) (locs : List Loc) (cells slots : Nat), (s.heap.size ≤ q_m1 ∧ ∀ i, i < n_m1 → s.heap.size ≤ r_m1 i) → va_P D vwCl (wsC Y ad G) H → va_S (AW 90 ad) s.heap H locs → MX Y ad q_m1 n_m1 r_m1 S_m1 H → Bg 195858 cells slots (n113 * 11283 + 1035) → ∀ ls : Array Slot, lv_has ls 8 [(0, .ref (ad 77)), (1, .ref q_m1), (2, .int x2)] → f_L_faulty_265  (f_L_faulty_113   n_m1 n113) n_m1 S_m1 x2 s265_0 s265_1 G = some (r, G') → W p l ev (rmD 14 195858 (16 * 195858)) s m ([.ref (ad 77)] : List Value).toArray below meth c H locs cells slots (MQ below (LQ (PI (some .boolean) r D Y ad G') (AW 90 ad)) ([.ref (ad 77)] : List Value).toArray s 195858 (16 * 195858) (AW 90 ad)) (F0 m 265 ls [.int s265_0, .int s265_1]) := by
        intro S_m1 x2 s265_0 s265_1 G q_m1 r_m1 H locs cells slots hf_m1 hP hS hA_m1 hB ls hl h
        refine lv_icmp_ne (tgt := 291) hx hb dL_faulty_265 (by decide) (fun c14 => ?_) (fun c14 => ?_)
        · have h := ifF h c14
          refine lv_iconst (v := 0) hx hb dL_faulty_291 (by decide) ?_
          exact lm_end F hP hS hB hr hk rfl h dL_faulty_292
        · have h := ifT h c14
          refine lv_aload_n hx hb dL_faulty_268 rfl (lv_at hl 0 rfl) ?_
          refine lv_iload_n hx hb dL_faulty_269 rfl (lv_at hl 2 rfl) ?_
          refine lv_bipush (v := 10) hx hb dL_faulty_270 (by decide) ?_
          obtain ⟨r15, G15, e15, h⟩ := bsome2 h
          refine lh_i (B' := (n113 * 11283 + 1032)) F hP hK hE hS hB kl_wouldFault mw_883 (ql_wouldFault l hst D Y ad hI G x2 (10 : Int32) r15 G15 e15) rfl hl.1 ⟨Nat.le_of_ble_eq_true rfl, Nat.le_of_ble_eq_true rfl⟩ (rest := []) rfl (Nat.le_of_ble_eq_true rfl) (by omega) dL_faulty_272 (fun H locs cells slots hP hS hkp hB => ?_)
          have hA_m1 := hA_m1.kp hkp
          refine lv_bipush (v := (-12)) hx hb dL_faulty_275 (by decide) ?_
          refine lv_icmp_ne (tgt := 291) hx hb dL_faulty_277 (by decide) (fun c16 => ?_) (fun c16 => ?_)
          · have h := ifF h c16
            refine lv_iconst (v := 0) hx hb dL_faulty_291 (by decide) ?_
            exact lm_end F hP hS hB hr hk rfl h dL_faulty_292
          · have h := ifT h c16
            refine lv_aload_n hx hb dL_faulty_280 rfl (lv_at hl 0 rfl) ?_
            refine lv_iload_n hx hb dL_faulty_281 rfl (lv_at hl 2 rfl) ?_
            refine lv_iconst (v := (-1)) hx hb dL_faulty_282 (by decide) ?_
            obtain ⟨r17, G17, e17, h⟩ := bsome2 h
            refine lh_i (B' := (n113 * 11283 + 1029)) F hP hK hE hS hB kl_wouldFault mw_883 (ql_wouldFault l hst D Y ad hI G15 x2 (-1 : Int32) r17 G17 e17) rfl hl.1 ⟨Nat.le_of_ble_eq_true rfl, Nat.le_of_ble_eq_true rfl⟩ (rest := []) rfl (Nat.le_of_ble_eq_true rfl) (by omega) dL_faulty_283 (fun H locs cells slots hP hS hkp hB => ?_)
            have hA_m1 := hA_m1.kp hkp
            refine lv_bipush (v := (-12)) hx hb dL_faulty_286 (by decide) ?_
            refine lv_icmp_eq (tgt := 293) hx hb dL_faulty_288 (by decide) (fun c18 => ?_) (fun c18 => ?_)
            · have h := ifT h c18
              refine lv_iinc (v := (x2 + 1)) (lv' := [(2, .int (x2 + 1)), (0, .ref (ad 77)), (1, .ref q_m1)]) hx hb dL_faulty_293 hl (k := 2) rfl rfl (by decide) rfl (fun ls hl => ?_)
              refine lv_goto (tgt := 113) hx hb dL_faulty_296 (by decide) ?_
              exact ih113 G17 S_m1 (x2 + 1) q_m1 r_m1 _ _ _ _ hf_m1 hP hS hA_m1 (hB.le (by omega)) ls (lv_sub hl [1, 2, 0] rfl) h
            · have h := ifF h c18
              refine lv_iconst (v := 0) hx hb dL_faulty_291 (by decide) ?_
              exact lm_end F hP hS hB hr hk rfl h dL_faulty_292
      have key134 : ∀ (x2 : Int32) (x3 : Int32) (n : Nat) (G : GT) (S_m1 : Nat → Nat → Int32) (x4 : Int32) (x5 : Int32) (x6 : Int32) (q_m1 : Nat) (r_m1 : Nat → Nat) (H : Heap) (locs : List Loc) (cells slots : Nat), (s.heap.size ≤ q_m1 ∧ ∀ i, i < n_m1 → s.heap.size ≤ r_m1 i) → va_P D vwCl (wsC Y ad G) H → va_S (AW 90 ad) s.heap H locs → MX Y ad q_m1 n_m1 r_m1 S_m1 H → Bg 195858 cells slots (n * 1025 + n113 * 11283 + 1037) → ∀ ls : Array Slot, lv_has ls 8 [(0, .ref (ad 77)), (1, .ref q_m1), (2, .int x2), (3, .int x3), (4, .int x4), (5, .int x5), (6, .int x6)] → f_L_faulty_134  (f_L_faulty_113   n_m1 n113) n_m1 x2 x3 n G S_m1 x4 x5 x6 = some (r, G') → W p l ev (rmD 14 195858 (16 * 195858)) s m ([.ref (ad 77)] : List Value).toArray below meth c H locs cells slots (MQ below (LQ (PI (some .boolean) r D Y ad G') (AW 90 ad)) ([.ref (ad 77)] : List Value).toArray s 195858 (16 * 195858) (AW 90 ad)) (F0 m 134 ls []) := by
        intro x2 x3
        intro n
        induction n with
        | zero => intro G S_m1 x4 x5 x6 q_m1 r_m1 H locs cells slots hf_m1 hP hS hA_m1 hB ls hl h; exact lqZ5 h
        | succ n134 ih134 =>
          have key232 : ∀ (S_m1 : Nat → Nat → Int32) (x4 : Int32) (x5 : Int32) (x6 : Int32) (s232_0 : Int32) (s232_1 : Int32) (G : GT) (q_m1 : Nat) (r_m1 : Nat → Nat) (H : Heap) (locs : List Loc) (cells slots : Nat), (s.heap.size ≤ q_m1 ∧ ∀ i, i < n_m1 → s.heap.size ≤ r_m1 i) → va_P D vwCl (wsC Y ad G) H → va_S (AW 90 ad) s.heap H locs → MX Y ad q_m1 n_m1 r_m1 S_m1 H → Bg 195858 cells slots (n113 * 11283 + n134 * 1025 + 1037) → ∀ ls : Array Slot, lv_has ls 8 [(0, .ref (ad 77)), (1, .ref q_m1), (2, .int x2), (3, .int x3), (4, .int x4), (5, .int x5), (6, .int x6)] → f_L_faulty_232  (f_L_faulty_113   n_m1 n113) (f_L_faulty_134  (f_L_faulty_113   n_m1 n113) n_m1 x2 x3 n134) n_m1 x2 x3 S_m1 x4 x5 x6 s232_0 s232_1 G = some (r, G') → W p l ev (rmD 14 195858 (16 * 195858)) s m ([.ref (ad 77)] : List Value).toArray below meth c H locs cells slots (MQ below (LQ (PI (some .boolean) r D Y ad G') (AW 90 ad)) ([.ref (ad 77)] : List Value).toArray s 195858 (16 * 195858) (AW 90 ad)) (F0 m 232 ls [.int s232_0, .int s232_1]) := by
            intro S_m1 x4 x5 x6 s232_0 s232_1 G q_m1 r_m1 H locs cells slots hf_m1 hP hS hA_m1 hB ls hl h
            refine lv_icmp_eq (tgt := 237) hx hb dL_faulty_232 (by decide) (fun c19 => ?_) (fun c19 => ?_)
            · have h := ifT h c19
              refine lv_iinc (v := (x6 + 1)) (lv' := [(6, .int (x6 + 1)), (0, .ref (ad 77)), (1, .ref q_m1), (2, .int x2), (3, .int x3), (4, .int x4), (5, .int x5)]) hx hb dL_faulty_237 hl (k := 6) rfl rfl (by decide) rfl (fun ls hl => ?_)
              refine lv_goto (tgt := 134) hx hb dL_faulty_240 (by decide) ?_
              exact ih134 G S_m1 x4 x5 (x6 + 1) q_m1 r_m1 _ _ _ _ hf_m1 hP hS hA_m1 (hB.le (by omega)) ls (lv_sub hl [1, 2, 3, 4, 5, 6, 0] rfl) h
            · have h := ifF h c19
              refine lv_iconst (v := 0) hx hb dL_faulty_235 (by decide) ?_
              exact lm_end F hP hS hB hr hk rfl h dL_faulty_236
          have key212 : ∀ (S_m1 : Nat → Nat → Int32) (x4 : Int32) (x6 : Int32) (x7 : Int32) (s212_0 : Int32) (G : GT) (q_m1 : Nat) (r_m1 : Nat → Nat) (H : Heap) (locs : List Loc) (cells slots : Nat), (s.heap.size ≤ q_m1 ∧ ∀ i, i < n_m1 → s.heap.size ≤ r_m1 i) → va_P D vwCl (wsC Y ad G) H → va_S (AW 90 ad) s.heap H locs → MX Y ad q_m1 n_m1 r_m1 S_m1 H → Bg 195858 cells slots (n113 * 11283 + n134 * 1025 + 1040) → ∀ ls : Array Slot, lv_has ls 8 [(0, .ref (ad 77)), (1, .ref q_m1), (2, .int x2), (3, .int x3), (4, .int x4), (6, .int x6), (7, .int x7)] → f_L_faulty_212  (f_L_faulty_113   n_m1 n113) (f_L_faulty_134  (f_L_faulty_113   n_m1 n113) n_m1 x2 x3 n134) n_m1 x2 x3 S_m1 x4 x6 x7 s212_0 G = some (r, G') → W p l ev (rmD 14 195858 (16 * 195858)) s m ([.ref (ad 77)] : List Value).toArray below meth c H locs cells slots (MQ below (LQ (PI (some .boolean) r D Y ad G') (AW 90 ad)) ([.ref (ad 77)] : List Value).toArray s 195858 (16 * 195858) (AW 90 ad)) (F0 m 212 ls [.int s212_0]) := by
            intro S_m1 x4 x6 x7 s212_0 G q_m1 r_m1 H locs cells slots hf_m1 hP hS hA_m1 hB ls hl h
            refine lv_istore (lv' := [(5, .int s212_0), (0, .ref (ad 77)), (1, .ref q_m1), (2, .int x2), (3, .int x3), (4, .int x4), (6, .int x6), (7, .int x7)]) hx hb dL_faulty_212 hl (by decide) rfl (fun ls hl => ?_)
            refine lv_aload_n hx hb dL_faulty_214 rfl (lv_at hl 1 rfl) ?_
            refine lv_iload_n hx hb dL_faulty_215 rfl (lv_at hl 3 rfl) ?_
            refine lv_iload hx hb dL_faulty_216 (lv_at hl 6 rfl) ?_
            obtain ⟨r20, G20, e20, h⟩ := bsome2 h
            refine lh_i (B' := (n113 * 11283 + n134 * 1025 + 1037)) F hP hK hE hS hB kl_wouldFault mw_883 (ql_wouldFault l hst D Y ad hI G x2 x6 r20 G20 e20) rfl hl.1 ⟨Nat.le_of_ble_eq_true rfl, Nat.le_of_ble_eq_true rfl⟩ (rest := []) rfl (Nat.le_of_ble_eq_true rfl) (by omega) dL_faulty_218 (fun H locs cells slots hP hS hkp hB => ?_)
            have hA_m1 := hA_m1.kp hkp
            refine lv_iload_n hx hb dL_faulty_221 rfl (lv_at hl 4 rfl) ?_
            refine lv_if_ge (tgt := 230) hx hb dL_faulty_222 (by decide) (fun c21 => ?_) (fun c21 => ?_)
            · have h := ifT h c21
              refine lv_iload hx hb dL_faulty_230 (lv_at hl 7 rfl) ?_
              exact key232 S_m1 x4 s212_0 x6 x7 r20 G20 q_m1 r_m1 _ _ _ _ hf_m1 hP hS hA_m1 (hB.le (by omega)) ls (lv_sub hl [1, 2, 3, 4, 5, 0, 6] rfl) h
            · have h := ifF h c21
              refine lv_bipush (v := (-13)) hx hb dL_faulty_225 (by decide) ?_
              refine lv_goto (tgt := 232) hx hb dL_faulty_227 (by decide) ?_
              exact key232 S_m1 x4 s212_0 x6 (-13 : Int32) r20 G20 q_m1 r_m1 _ _ _ _ hf_m1 hP hS hA_m1 (hB.le (by omega)) ls (lv_sub hl [1, 2, 3, 4, 5, 0, 6] rfl) h
          have key196 : ∀ (S_m1 : Nat → Nat → Int32) (x5 : Int32) (x6 : Int32) (x7 : Int32) (s196_0 : Int32) (G : GT) (q_m1 : Nat) (r_m1 : Nat → Nat) (H : Heap) (locs : List Loc) (cells slots : Nat), (s.heap.size ≤ q_m1 ∧ ∀ i, i < n_m1 → s.heap.size ≤ r_m1 i) → va_P D vwCl (wsC Y ad G) H → va_S (AW 90 ad) s.heap H locs → MX Y ad q_m1 n_m1 r_m1 S_m1 H → Bg 195858 cells slots (n113 * 11283 + n134 * 1025 + 1040) → ∀ ls : Array Slot, lv_has ls 8 [(0, .ref (ad 77)), (1, .ref q_m1), (2, .int x2), (3, .int x3), (5, .int x5), (6, .int x6), (7, .int x7)] → f_L_faulty_196  (f_L_faulty_113   n_m1 n113) (f_L_faulty_134  (f_L_faulty_113   n_m1 n113) n_m1 x2 x3 n134) n_m1 x2 x3 S_m1 x5 x6 x7 s196_0 G = some (r, G') → W p l ev (rmD 14 195858 (16 * 195858)) s m ([.ref (ad 77)] : List Value).toArray below meth c H locs cells slots (MQ below (LQ (PI (some .boolean) r D Y ad G') (AW 90 ad)) ([.ref (ad 77)] : List Value).toArray s 195858 (16 * 195858) (AW 90 ad)) (F0 m 196 ls [.int s196_0]) := by
            intro S_m1 x5 x6 x7 s196_0 G q_m1 r_m1 H locs cells slots hf_m1 hP hS hA_m1 hB ls hl h
            refine lv_istore (lv' := [(4, .int s196_0), (0, .ref (ad 77)), (1, .ref q_m1), (2, .int x2), (3, .int x3), (5, .int x5), (6, .int x6), (7, .int x7)]) hx hb dL_faulty_196 hl (by decide) rfl (fun ls hl => ?_)
            refine lv_iload hx hb dL_faulty_198 (lv_at hl 0 rfl) ?_
            refine lv_iload hx hb dL_faulty_200 (lv_at hl 6 rfl) ?_
            refine lv_icmp_ne (tgt := 210) hx hb dL_faulty_202 (by decide) (fun c22 => ?_) (fun c22 => ?_)
            · have h := ifF h c22
              refine lv_iload hx hb dL_faulty_210 (lv_at hl 5 rfl) ?_
              exact key212 S_m1 s196_0 x6 x7 x5 G q_m1 r_m1 _ _ _ _ hf_m1 hP hS hA_m1 (hB.le (by omega)) ls (lv_sub hl [1, 2, 3, 4, 0, 6, 7] rfl) h
            · have h := ifT h c22
              refine lv_iload hx hb dL_faulty_205 (lv_at hl 7 rfl) ?_
              refine lv_goto (tgt := 212) hx hb dL_faulty_207 (by decide) ?_
              exact key212 S_m1 s196_0 x6 x7 x7 G q_m1 r_m1 _ _ _ _ hf_m1 hP hS hA_m1 (hB.le (by omega)) ls (lv_sub hl [1, 2, 3, 4, 0, 6, 7] rfl) h
          have key189 : ∀ (S_m1 : Nat → Nat → Int32) (x5 : Int32) (x6 : Int32) (x7 : Int32) (G : GT) (q_m1 : Nat) (r_m1 : Nat → Nat) (H : Heap) (locs : List Loc) (cells slots : Nat), (s.heap.size ≤ q_m1 ∧ ∀ i, i < n_m1 → s.heap.size ≤ r_m1 i) → va_P D vwCl (wsC Y ad G) H → va_S (AW 90 ad) s.heap H locs → MX Y ad q_m1 n_m1 r_m1 S_m1 H → Bg 195858 cells slots (n113 * 11283 + n134 * 1025 + 1040) → ∀ ls : Array Slot, lv_has ls 8 [(0, .ref (ad 77)), (1, .ref q_m1), (2, .int x2), (3, .int x3), (5, .int x5), (6, .int x6), (7, .int x7)] → f_L_faulty_189  (f_L_faulty_113   n_m1 n113) (f_L_faulty_134  (f_L_faulty_113   n_m1 n113) n_m1 x2 x3 n134) n_m1 x2 x3 S_m1 x5 x6 x7 G = some (r, G') → W p l ev (rmD 14 195858 (16 * 195858)) s m ([.ref (ad 77)] : List Value).toArray below meth c H locs cells slots (MQ below (LQ (PI (some .boolean) r D Y ad G') (AW 90 ad)) ([.ref (ad 77)] : List Value).toArray s 195858 (16 * 195858) (AW 90 ad)) (F0 m 189 ls []) := by
            intro S_m1 x5 x6 x7 G q_m1 r_m1 H locs cells slots hf_m1 hP hS hA_m1 hB ls hl h
            refine lv_iload hx hb dL_faulty_189 (lv_at hl 5 rfl) ?_
            refine lv_goto (tgt := 196) hx hb dL_faulty_191 (by decide) ?_
            exact key196 S_m1 x5 x6 x7 x6 G q_m1 r_m1 _ _ _ _ hf_m1 hP hS hA_m1 (hB.le (by omega)) ls (lv_sub hl [0, 1, 2, 3, 4, 5, 6] rfl) h
          have key169 : ∀ (S_m1 : Nat → Nat → Int32) (x4 : Int32) (x5 : Int32) (x6 : Int32) (s169_0 : Int32) (s169_1 : Int32) (ws169_2 : Nat) (G : GT) (q_m1 : Nat) (r_m1 : Nat → Nat) (H : Heap) (locs : List Loc) (cells slots : Nat), (s.heap.size ≤ q_m1 ∧ ∀ i, i < n_m1 → s.heap.size ≤ r_m1 i) → ws169_2 < n_m1 → va_P D vwCl (wsC Y ad G) H → va_S (AW 90 ad) s.heap H locs → MX Y ad q_m1 n_m1 r_m1 S_m1 H → Bg 195858 cells slots (n113 * 11283 + n134 * 1025 + 2060) → ∀ ls : Array Slot, lv_has ls 8 [(0, .ref (ad 77)), (1, .ref q_m1), (2, .int x2), (3, .int x3), (4, .int x4), (5, .int x5), (6, .int x6)] → f_L_faulty_169  (f_L_faulty_113   n_m1 n113) (f_L_faulty_134  (f_L_faulty_113   n_m1 n113) n_m1 x2 x3 n134) n_m1 x2 x3 S_m1 x4 x5 x6 s169_0 s169_1 ws169_2 G = some (r, G') → W p l ev (rmD 14 195858 (16 * 195858)) s m ([.ref (ad 77)] : List Value).toArray below meth c H locs cells slots (MQ below (LQ (PI (some .boolean) r D Y ad G') (AW 90 ad)) ([.ref (ad 77)] : List Value).toArray s 195858 (16 * 195858) (AW 90 ad)) (F0 m 169 ls [.int s169_0, .int s169_1, .ref (r_m1 ws169_2)]) := by
            intro S_m1 x4 x5 x6 s169_0 s169_1 ws169_2 G q_m1 r_m1 H locs cells slots hf_m1 hws169_2 hP hS hA_m1 hB ls hl h
            obtain ⟨b23, h⟩ := ckS h
            obtain ⟨S24, eS24, h⟩ := bsome h
            refine ai_st F (hA_m1.2.2.1 _ hws169_2).2 (hf_m1.2 _ hws169_2) (inbV b23 (by decide)) dL_faulty_169 (fun H hnew hsk => ?_)
            have hP := sk_P hP hnew.1 hsk
            have hS := sk_S hS (hf_m1.2 _ hws169_2) hsk
            have hA_m1 := cvM eS24 (hA_m1.set hws169_2 hsk hnew)
            refine lv_aload_n hx hb dL_faulty_170 rfl (lv_at hl 0 rfl) ?_
            refine lv_aload_n hx hb dL_faulty_171 rfl (lv_at hl 1 rfl) ?_
            obtain ⟨r25, G25, e25, h⟩ := bsome2 h
            refine lm_i (B' := (n113 * 11283 + n134 * 1025 + 1040)) F hP hK hE hS hB phM_b (phM_o hA_m1) k_L_allFaults mw_880 (q_L_allFaults l hst D Y ad hI G n_m1 S24 q_m1 r_m1  r25 G25 e25) rfl hl.1 ⟨Nat.le_of_ble_eq_true rfl, Nat.le_of_ble_eq_true rfl⟩ (rest := []) rfl (Nat.le_of_ble_eq_true rfl) (by omega) dL_faulty_172 (fun H locs cells slots o25 hP hS hkp hB => ?_)
            have hA_m1 := hA_m1.kp hkp
            refine lv_istore (lv' := [(7, .int r25), (0, .ref (ad 77)), (1, .ref q_m1), (2, .int x2), (3, .int x3), (4, .int x4), (5, .int x5), (6, .int x6)]) hx hb dL_faulty_175 hl (by decide) rfl (fun ls hl => ?_)
            refine lv_iload hx hb dL_faulty_177 (lv_at hl 5 rfl) ?_
            refine lv_if_lt (tgt := 189) hx hb dL_faulty_179 (by decide) (fun c26 => ?_) (fun c26 => ?_)
            · have h := ifT h c26
              exact key189 S24 x5 x6 r25 G25 q_m1 r_m1 _ _ _ _ hf_m1 hP hS hA_m1 (hB.le (by omega)) ls (lv_sub hl [1, 2, 3, 4, 6, 7, 0] rfl) h
            · have h := ifF h c26
              refine lv_iload hx hb dL_faulty_182 (lv_at hl 0 rfl) ?_
              refine lv_iload hx hb dL_faulty_184 (lv_at hl 6 rfl) ?_
              refine lv_icmp_ge (tgt := 194) hx hb dL_faulty_186 (by decide) (fun c27 => ?_) (fun c27 => ?_)
              · have h := ifT h c27
                refine lv_iload hx hb dL_faulty_194 (lv_at hl 5 rfl) ?_
                exact key196 S24 x5 x6 r25 x4 G25 q_m1 r_m1 _ _ _ _ hf_m1 hP hS hA_m1 (hB.le (by omega)) ls (lv_sub hl [1, 2, 3, 4, 6, 7, 0] rfl) h
              · have h := ifF h c27
                exact key189 S24 x5 x6 r25 G25 q_m1 r_m1 _ _ _ _ hf_m1 hP hS hA_m1 (hB.le (by omega)) ls (lv_sub hl [1, 2, 3, 4, 6, 7, 0] rfl) h
          intro G S_m1 x4 x5 x6 q_m1 r_m1 H locs cells slots hf_m1 hP hS hA_m1 hB ls hl h
          have h := lqS5 h
          refine lv_iload hx hb dL_faulty_134 (lv_at hl 6 rfl) ?_
          refine lv_bipush (v := 10) hx hb dL_faulty_136 (by decide) ?_
          refine lv_icmp_ge (tgt := 243) hx hb dL_faulty_138 (by decide) (fun c28 => ?_) (fun c28 => ?_)
          · have h := ifT h c28
            refine lv_aload_n hx hb dL_faulty_243 rfl (lv_at hl 1 rfl) ?_
            refine lv_iload_n hx hb dL_faulty_244 rfl (lv_at hl 2 rfl) ?_
            obtain ⟨b29, h⟩ := ckS h
            refine mx_row F hA_m1 b29 dL_faulty_245 (fun hw30 => ?_)
            refine lv_iconst (v := 3) hx hb dL_faulty_246 (by decide) ?_
            refine lv_iload_n hx hb dL_faulty_247 rfl (lv_at hl 3 rfl) ?_
            obtain ⟨S31, eS31, h⟩ := bsome h
            refine ai_st F (hA_m1.2.2.1 _ hw30).2 (hf_m1.2 _ hw30) (inbV (by decide) (by decide)) dL_faulty_248 (fun H hnew hsk => ?_)
            have hP := sk_P hP hnew.1 hsk
            have hS := sk_S hS (hf_m1.2 _ hw30) hsk
            have hA_m1 := cvM eS31 (hA_m1.set hw30 hsk hnew)
            refine lv_aload_n hx hb dL_faulty_249 rfl (lv_at hl 0 rfl) ?_
            refine lv_iload_n hx hb dL_faulty_250 rfl (lv_at hl 2 rfl) ?_
            obtain ⟨r32, G32, e32, h⟩ := bsome2 h
            refine lh_i (B' := (n134 * 1025 + n113 * 11283 + 2060)) F hP hK hE hS hB kl_bestHeight mw_901 (ql_bestHeight l hst D Y ad hI G x2 r32 G32 e32) rfl hl.1 ⟨Nat.le_of_ble_eq_true rfl, Nat.le_of_ble_eq_true rfl⟩ (rest := []) rfl (Nat.le_of_ble_eq_true rfl) (by omega) dL_faulty_251 (fun H locs cells slots hP hS hkp hB => ?_)
            have hA_m1 := hA_m1.kp hkp
            refine lv_iload_n hx hb dL_faulty_254 rfl (lv_at hl 3 rfl) ?_
            refine lv_if_ge (tgt := 263) hx hb dL_faulty_255 (by decide) (fun c33 => ?_) (fun c33 => ?_)
            · have h := ifT h c33
              refine lv_iload hx hb dL_faulty_263 (lv_at hl 4 rfl) ?_
              exact key265 S31 x2 x4 r32 G32 q_m1 r_m1 _ _ _ _ hf_m1 hP hS hA_m1 (hB.le (by omega)) ls (lv_sub hl [0, 1, 2] rfl) h
            · have h := ifF h c33
              refine lv_bipush (v := (-13)) hx hb dL_faulty_258 (by decide) ?_
              refine lv_goto (tgt := 265) hx hb dL_faulty_260 (by decide) ?_
              exact key265 S31 x2 (-13 : Int32) r32 G32 q_m1 r_m1 _ _ _ _ hf_m1 hP hS hA_m1 (hB.le (by omega)) ls (lv_sub hl [0, 1, 2] rfl) h
          · have h := ifF h c28
            refine lv_aload_n hx hb dL_faulty_141 rfl (lv_at hl 1 rfl) ?_
            refine lv_iload_n hx hb dL_faulty_142 rfl (lv_at hl 2 rfl) ?_
            obtain ⟨b34, h⟩ := ckS h
            refine mx_row F hA_m1 b34 dL_faulty_143 (fun hw35 => ?_)
            refine lv_iconst (v := 3) hx hb dL_faulty_144 (by decide) ?_
            refine lv_iload_n hx hb dL_faulty_145 rfl (lv_at hl 3 rfl) ?_
            refine lv_if_ge (tgt := 153) hx hb dL_faulty_146 (by decide) (fun c36 => ?_) (fun c36 => ?_)
            · have h := ifT h c36
              refine lv_aload_n hx hb dL_faulty_153 rfl (lv_at hl 0 rfl) ?_
              refine lv_aload_n hx hb dL_faulty_154 rfl (lv_at hl 1 rfl) ?_
              refine lv_iload_n hx hb dL_faulty_155 rfl (lv_at hl 2 rfl) ?_
              obtain ⟨b37, h⟩ := ckS h
              refine mx_row F hA_m1 b37 dL_faulty_156 (fun hw38 => ?_)
              refine lv_iconst (v := 0) hx hb dL_faulty_157 (by decide) ?_
              refine ai_ldk F (hA_m1.2.2.1 _ hw38).2 (k := 0) (by decide) (inbV (by decide) (by decide)) dL_faulty_158 ?_
              refine lv_iconst (v := 0) hx hb dL_faulty_159 (by decide) ?_
              obtain ⟨r39, G39, e39, h⟩ := bsome2 h
              refine lh_i (B' := (n134 * 1025 + n113 * 11283 + 2060)) F hP hK hE hS hB kl_tinOf mw_717 (ql_tinOf l hst D Y ad hI G (S_m1 (x2.toNatClampNeg) 0) (0 : Int32) r39 G39 e39) rfl hl.1 ⟨Nat.le_of_ble_eq_true rfl, Nat.le_of_ble_eq_true rfl⟩ (rest := [.int (3 : Int32), .ref (r_m1 (x2.toNatClampNeg))]) rfl (Nat.le_of_ble_eq_true rfl) (by omega) dL_faulty_160 (fun H locs cells slots hP hS hkp hB => ?_)
              have hA_m1 := hA_m1.kp hkp
              refine lv_iload hx hb dL_faulty_163 (lv_at hl 6 rfl) ?_
              refine lv_iadd hx hb dL_faulty_165 ?_
              refine lv_bipush (v := 12) hx hb dL_faulty_166 (by decide) ?_
              refine lv_irem hx hb dL_faulty_168 (by decide) ?_
              exact key169 S_m1 x4 x5 x6 ((r39 + x6) - (r39 + x6) / (12 : Int32) * (12 : Int32)) (3 : Int32) (x2.toNatClampNeg) G39 q_m1 r_m1 _ _ _ _ hf_m1 hw35 hP hS hA_m1 (hB.le (by omega)) ls (lv_sub hl [0, 1, 2, 3, 4, 5, 6] rfl) h
            · have h := ifF h c36
              refine lv_iconst (v := (-1)) hx hb dL_faulty_149 (by decide) ?_
              refine lv_goto (tgt := 169) hx hb dL_faulty_150 (by decide) ?_
              exact key169 S_m1 x4 x5 x6 (-1 : Int32) (3 : Int32) (x2.toNatClampNeg) G q_m1 r_m1 _ _ _ _ hf_m1 hw35 hP hS hA_m1 (hB.le (by omega)) ls (lv_sub hl [0, 1, 2, 3, 4, 5, 6] rfl) h
      intro G S_m1 x2 q_m1 r_m1 H locs cells slots hf_m1 hP hS hA_m1 hB ls hl h
      have h := lqS3 h
      refine lv_iload_n hx hb dL_faulty_113 rfl (lv_at hl 2 rfl) ?_
      refine lv_aload_n hx hb dL_faulty_114 rfl (lv_at hl 1 rfl) ?_
      refine mx_len F hA_m1 dL_faulty_115 ?_
      refine lv_icmp_ge (tgt := 299) hx hb dL_faulty_116 (by decide) (fun c40 => ?_) (fun c40 => ?_)
      · have h := ifT h c40
        refine lv_aload_n hx hb dL_faulty_299 rfl (lv_at hl 0 rfl) ?_
        obtain ⟨r41, er41, h⟩ := bsome h
        refine rd_V F hP k_X9_isClean mw_908 77 10 rfl (wsW_get 77 (by decide)) (q_X9_isClean l D Y ad G  r41 er41) rfl hl.1 ⟨Nat.le_of_ble_eq_true rfl, Nat.le_of_ble_eq_true rfl⟩ (rest := []) rfl (Nat.le_of_ble_eq_true rfl) hB.hc dL_faulty_300 (fun o41 => ?_)
        refine lv_aload_n hx hb dL_faulty_303 rfl (lv_at hl 0 rfl) ?_
        refine lv_aload_n hx hb dL_faulty_304 rfl (lv_at hl 1 rfl) ?_
        obtain ⟨r42, G42, e42, h⟩ := bsome2 h
        refine lm_i (B' := (n113 * 11283 + 11292)) F hP hK hE hS hB phM_b (phM_o hA_m1) k_L_allFaults mw_880 (q_L_allFaults l hst D Y ad hI G n_m1 S_m1 q_m1 r_m1  r42 G42 e42) rfl hl.1 ⟨Nat.le_of_ble_eq_true rfl, Nat.le_of_ble_eq_true rfl⟩ (rest := [.int r41]) rfl (Nat.le_of_ble_eq_true rfl) (by omega) dL_faulty_305 (fun H locs cells slots o42 hP hS hkp hB => ?_)
        have hA_m1 := hA_m1.kp hkp
        refine lv_if_ne (tgt := 315) hx hb dL_faulty_308 (by decide) (fun c43 => ?_) (fun c43 => ?_)
        · have h := ifF h c43
          refine lv_iconst (v := 0) hx hb dL_faulty_315 (by decide) ?_
          exact key316 n_m1 S_m1 (0 : Int32) r41 G42 q_m1 r_m1 _ _ _ _ hf_m1 hP hS hA_m1 (hB.le (by omega)) ls (lv_sub hl [0, 1] rfl) h
        · have h := ifT h c43
          refine lv_iconst (v := 1) hx hb dL_faulty_311 (by decide) ?_
          refine lv_goto (tgt := 316) hx hb dL_faulty_312 (by decide) ?_
          exact key316 n_m1 S_m1 (1 : Int32) r41 G42 q_m1 r_m1 _ _ _ _ hf_m1 hP hS hA_m1 (hB.le (by omega)) ls (lv_sub hl [0, 1] rfl) h
      · have h := ifF h c40
        refine lv_aload_n hx hb dL_faulty_119 rfl (lv_at hl 1 rfl) ?_
        refine lv_iload_n hx hb dL_faulty_120 rfl (lv_at hl 2 rfl) ?_
        obtain ⟨b44, h⟩ := ckS h
        refine mx_row F hA_m1 b44 dL_faulty_121 (fun hw45 => ?_)
        refine lv_iconst (v := 3) hx hb dL_faulty_122 (by decide) ?_
        refine ai_ldk F (hA_m1.2.2.1 _ hw45).2 (k := 3) (by decide) (inbV (by decide) (by decide)) dL_faulty_123 ?_
        refine lv_istore_n (lv' := [(3, .int (S_m1 (x2.toNatClampNeg) 3)), (0, .ref (ad 77)), (1, .ref q_m1), (2, .int x2)]) hx hb dL_faulty_124 rfl hl (by decide) rfl (fun ls hl => ?_)
        refine lv_iconst (v := (-1)) hx hb dL_faulty_125 (by decide) ?_
        refine lv_istore (lv' := [(4, .int (-1 : Int32)), (3, .int (S_m1 (x2.toNatClampNeg) 3)), (0, .ref (ad 77)), (1, .ref q_m1), (2, .int x2)]) hx hb dL_faulty_126 hl (by decide) rfl (fun ls hl => ?_)
        refine lv_iconst (v := 0) hx hb dL_faulty_128 (by decide) ?_
        refine lv_istore (lv' := [(5, .int (0 : Int32)), (4, .int (-1 : Int32)), (3, .int (S_m1 (x2.toNatClampNeg) 3)), (0, .ref (ad 77)), (1, .ref q_m1), (2, .int x2)]) hx hb dL_faulty_129 hl (by decide) rfl (fun ls hl => ?_)
        refine lv_iconst (v := 0) hx hb dL_faulty_131 (by decide) ?_
        refine lv_istore (lv' := [(6, .int (0 : Int32)), (5, .int (0 : Int32)), (4, .int (-1 : Int32)), (3, .int (S_m1 (x2.toNatClampNeg) 3)), (0, .ref (ad 77)), (1, .ref q_m1), (2, .int x2)]) hx hb dL_faulty_132 hl (by decide) rfl (fun ls hl => ?_)
        exact key134 x2 (S_m1 (x2.toNatClampNeg) 3) 11 G S_m1 (-1 : Int32) (0 : Int32) (0 : Int32) q_m1 r_m1 _ _ _ _ hf_m1 hP hS hA_m1 (hB.le (by omega)) ls (lv_sub hl [4, 5, 6, 3, 2, 1, 0] rfl) h
  have key7 : ∀ (n_m1 : Nat) (S_m1 : Nat → Nat → Int32) (n : Nat) (G : GT) (x2 : Int32) (q_m1 : Nat) (r_m1 : Nat → Nat) (H : Heap) (locs : List Loc) (cells slots : Nat), (s.heap.size ≤ q_m1 ∧ ∀ i, i < n_m1 → s.heap.size ≤ r_m1 i) → va_P D vwCl (wsC Y ad G) H → va_S (AW 90 ad) s.heap H locs → MX Y ad q_m1 n_m1 r_m1 S_m1 H → Bg 195858 cells slots (n * 498 + 192840) → ∀ ls : Array Slot, lv_has ls 8 [(0, .ref (ad 77)), (1, .ref q_m1), (2, .int x2)] → f_L_faulty_7   n_m1 S_m1 n G x2 = some (r, G') → W p l ev (rmD 14 195858 (16 * 195858)) s m ([.ref (ad 77)] : List Value).toArray below meth c H locs cells slots (MQ below (LQ (PI (some .boolean) r D Y ad G') (AW 90 ad)) ([.ref (ad 77)] : List Value).toArray s 195858 (16 * 195858) (AW 90 ad)) (F0 m 7 ls []) := by
    intro n_m1 S_m1
    intro n
    induction n with
    | zero => intro G x2 q_m1 r_m1 H locs cells slots hf_m1 hP hS hA_m1 hB ls hl h; exact lqZ2 h
    | succ n7 ih7 =>
      have key42 : ∀ (x2 : Int32) (x3 : Int32) (n : Nat) (G : GT) (x4 : Int32) (x5 : Int32) (q_m1 : Nat) (r_m1 : Nat → Nat) (H : Heap) (locs : List Loc) (cells slots : Nat), (s.heap.size ≤ q_m1 ∧ ∀ i, i < n_m1 → s.heap.size ≤ r_m1 i) → va_P D vwCl (wsC Y ad G) H → va_S (AW 90 ad) s.heap H locs → MX Y ad q_m1 n_m1 r_m1 S_m1 H → Bg 195858 cells slots (n * 14 + n7 * 498 + 192844) → ∀ ls : Array Slot, lv_has ls 8 [(0, .ref (ad 77)), (1, .ref q_m1), (2, .int x2), (3, .int x3), (4, .int x4), (5, .int x5)] → f_L_faulty_42  (f_L_faulty_7   n_m1 S_m1 n7) n_m1 S_m1 x2 x3 n G x4 x5 = some (r, G') → W p l ev (rmD 14 195858 (16 * 195858)) s m ([.ref (ad 77)] : List Value).toArray below meth c H locs cells slots (MQ below (LQ (PI (some .boolean) r D Y ad G') (AW 90 ad)) ([.ref (ad 77)] : List Value).toArray s 195858 (16 * 195858) (AW 90 ad)) (F0 m 42 ls []) := by
        intro x2 x3
        intro n
        induction n with
        | zero => intro G x4 x5 q_m1 r_m1 H locs cells slots hf_m1 hP hS hA_m1 hB ls hl h; exact lqZ3 h
        | succ n42 ih42 =>
          have key65 : ∀ (x5 : Int32) (s65_0 : Int32) (G : GT) (q_m1 : Nat) (r_m1 : Nat → Nat) (H : Heap) (locs : List Loc) (cells slots : Nat), (s.heap.size ≤ q_m1 ∧ ∀ i, i < n_m1 → s.heap.size ≤ r_m1 i) → va_P D vwCl (wsC Y ad G) H → va_S (AW 90 ad) s.heap H locs → MX Y ad q_m1 n_m1 r_m1 S_m1 H → Bg 195858 cells slots (n7 * 498 + n42 * 14 + 192844) → ∀ ls : Array Slot, lv_has ls 8 [(0, .ref (ad 77)), (1, .ref q_m1), (2, .int x2), (3, .int x3), (5, .int x5)] → f_L_faulty_65  (f_L_faulty_7   n_m1 S_m1 n7) (f_L_faulty_42  (f_L_faulty_7   n_m1 S_m1 n7) n_m1 S_m1 x2 x3 n42) n_m1 S_m1 x2 x3 x5 s65_0 G = some (r, G') → W p l ev (rmD 14 195858 (16 * 195858)) s m ([.ref (ad 77)] : List Value).toArray below meth c H locs cells slots (MQ below (LQ (PI (some .boolean) r D Y ad G') (AW 90 ad)) ([.ref (ad 77)] : List Value).toArray s 195858 (16 * 195858) (AW 90 ad)) (F0 m 65 ls [.int s65_0]) := by
            intro x5 s65_0 G q_m1 r_m1 H locs cells slots hf_m1 hP hS hA_m1 hB ls hl h
            refine lv_istore (lv' := [(4, .int s65_0), (0, .ref (ad 77)), (1, .ref q_m1), (2, .int x2), (3, .int x3), (5, .int x5)]) hx hb dL_faulty_65 hl (by decide) rfl (fun ls hl => ?_)
            refine lv_iinc (v := (x5 + (-1))) (lv' := [(5, .int (x5 + (-1))), (4, .int s65_0), (0, .ref (ad 77)), (1, .ref q_m1), (2, .int x2), (3, .int x3)]) hx hb dL_faulty_67 hl (k := 5) rfl rfl (by decide) rfl (fun ls hl => ?_)
            refine lv_goto (tgt := 42) hx hb dL_faulty_70 (by decide) ?_
            exact ih42 G s65_0 (x5 + (-1)) q_m1 r_m1 _ _ _ _ hf_m1 hP hS hA_m1 (hB.le (by omega)) ls (lv_sub hl [2, 3, 4, 5, 1, 0] rfl) h
          intro G x4 x5 q_m1 r_m1 H locs cells slots hf_m1 hP hS hA_m1 hB ls hl h
          have h := lqS3 h
          refine lv_iload hx hb dL_faulty_42 (lv_at hl 5 rfl) ?_
          refine lv_if_lt (tgt := 73) hx hb dL_faulty_44 (by decide) (fun c46 => ?_) (fun c46 => ?_)
          · have h := ifT h c46
            refine lv_aload_n hx hb dL_faulty_73 rfl (lv_at hl 0 rfl) ?_
            refine lv_iload_n hx hb dL_faulty_74 rfl (lv_at hl 2 rfl) ?_
            refine lv_iconst (v := 0) hx hb dL_faulty_75 (by decide) ?_
            obtain ⟨r47, G47, e47, h⟩ := bsome2 h
            refine lh_i (B' := (n42 * 14 + n7 * 498 + 192857)) F hP hK hE hS hB kl_faults mw_808 (ql_faults l hst D Y ad hI G x2 (0 : Int32) r47 G47 e47) rfl hl.1 ⟨Nat.le_of_ble_eq_true rfl, Nat.le_of_ble_eq_true rfl⟩ (rest := []) rfl (Nat.le_of_ble_eq_true rfl) (by omega) dL_faulty_76 (fun H locs cells slots hP hS hkp hB => ?_)
            have hA_m1 := hA_m1.kp hkp
            refine lv_iload_n hx hb dL_faulty_79 rfl (lv_at hl 3 rfl) ?_
            refine lv_icmp_ne (tgt := 103) hx hb dL_faulty_80 (by decide) (fun c48 => ?_) (fun c48 => ?_)
            · have h := ifF h c48
              refine lv_iconst (v := 0) hx hb dL_faulty_103 (by decide) ?_
              exact lm_end F hP hS hB hr hk rfl h dL_faulty_104
            · have h := ifT h c48
              refine lv_aload_n hx hb dL_faulty_83 rfl (lv_at hl 0 rfl) ?_
              refine lv_iload_n hx hb dL_faulty_84 rfl (lv_at hl 2 rfl) ?_
              refine lv_iconst (v := 1) hx hb dL_faulty_85 (by decide) ?_
              obtain ⟨r49, G49, e49, h⟩ := bsome2 h
              refine lh_i (B' := (n42 * 14 + n7 * 498 + 192856)) F hP hK hE hS hB kl_faults mw_808 (ql_faults l hst D Y ad hI G47 x2 (1 : Int32) r49 G49 e49) rfl hl.1 ⟨Nat.le_of_ble_eq_true rfl, Nat.le_of_ble_eq_true rfl⟩ (rest := []) rfl (Nat.le_of_ble_eq_true rfl) (by omega) dL_faulty_86 (fun H locs cells slots hP hS hkp hB => ?_)
              have hA_m1 := hA_m1.kp hkp
              refine lv_iload_n hx hb dL_faulty_89 rfl (lv_at hl 3 rfl) ?_
              refine lv_icmp_ne (tgt := 103) hx hb dL_faulty_90 (by decide) (fun c50 => ?_) (fun c50 => ?_)
              · have h := ifF h c50
                refine lv_iconst (v := 0) hx hb dL_faulty_103 (by decide) ?_
                exact lm_end F hP hS hB hr hk rfl h dL_faulty_104
              · have h := ifT h c50
                refine lv_aload_n hx hb dL_faulty_93 rfl (lv_at hl 0 rfl) ?_
                refine lv_iload_n hx hb dL_faulty_94 rfl (lv_at hl 2 rfl) ?_
                obtain ⟨r51, G51, e51, h⟩ := bsome2 h
                refine lh_i (B' := (n42 * 14 + n7 * 498 + 192854)) F hP hK hE hS hB kl_firstFault mw_869 (ql_firstFault l hst D Y ad hI G49 x2 r51 G51 e51) rfl hl.1 ⟨Nat.le_of_ble_eq_true rfl, Nat.le_of_ble_eq_true rfl⟩ (rest := []) rfl (Nat.le_of_ble_eq_true rfl) (by omega) dL_faulty_95 (fun H locs cells slots hP hS hkp hB => ?_)
                have hA_m1 := hA_m1.kp hkp
                refine lv_iload hx hb dL_faulty_98 (lv_at hl 4 rfl) ?_
                refine lv_icmp_eq (tgt := 105) hx hb dL_faulty_100 (by decide) (fun c52 => ?_) (fun c52 => ?_)
                · have h := ifT h c52
                  refine lv_iinc (v := (x2 + 1)) (lv' := [(2, .int (x2 + 1)), (0, .ref (ad 77)), (1, .ref q_m1), (3, .int x3), (4, .int x4), (5, .int x5)]) hx hb dL_faulty_105 hl (k := 2) rfl rfl (by decide) rfl (fun ls hl => ?_)
                  refine lv_goto (tgt := 7) hx hb dL_faulty_108 (by decide) ?_
                  exact ih7 G51 (x2 + 1) q_m1 r_m1 _ _ _ _ hf_m1 hP hS hA_m1 (hB.le (by omega)) ls (lv_sub hl [1, 2, 0] rfl) h
                · have h := ifF h c52
                  refine lv_iconst (v := 0) hx hb dL_faulty_103 (by decide) ?_
                  exact lm_end F hP hS hB hr hk rfl h dL_faulty_104
          · have h := ifF h c46
            refine lv_aload_n hx hb dL_faulty_47 rfl (lv_at hl 0 rfl) ?_
            refine lv_aload_n hx hb dL_faulty_48 rfl (lv_at hl 1 rfl) ?_
            refine lv_iload_n hx hb dL_faulty_49 rfl (lv_at hl 2 rfl) ?_
            refine lv_iload hx hb dL_faulty_50 (lv_at hl 5 rfl) ?_
            obtain ⟨r53, G53, e53, h⟩ := bsome2 h
            refine lm_i (B' := (n42 * 14 + n7 * 498 + 192844)) F hP hK hE hS hB phM_b (phM_o hA_m1) k_L_isFault mw_799 (q_L_isFault l hst D Y ad hI G n_m1 S_m1 q_m1 r_m1 x2 x5 r53 G53 e53) rfl hl.1 ⟨Nat.le_of_ble_eq_true rfl, Nat.le_of_ble_eq_true rfl⟩ (rest := []) rfl (Nat.le_of_ble_eq_true rfl) (by omega) dL_faulty_52 (fun H locs cells slots o53 hP hS hkp hB => ?_)
            have hA_m1 := hA_m1.kp hkp
            refine lv_if_eq (tgt := 63) hx hb dL_faulty_55 (by decide) (fun c54 => ?_) (fun c54 => ?_)
            · have h := ifT h c54
              refine lv_iload hx hb dL_faulty_63 (lv_at hl 4 rfl) ?_
              exact key65 x5 x4 G53 q_m1 r_m1 _ _ _ _ hf_m1 hP hS hA_m1 (hB.le (by omega)) ls (lv_sub hl [0, 1, 2, 3, 5] rfl) h
            · have h := ifF h c54
              refine lv_iload hx hb dL_faulty_58 (lv_at hl 5 rfl) ?_
              refine lv_goto (tgt := 65) hx hb dL_faulty_60 (by decide) ?_
              exact key65 x5 x5 G53 q_m1 r_m1 _ _ _ _ hf_m1 hP hS hA_m1 (hB.le (by omega)) ls (lv_sub hl [0, 1, 2, 3, 5] rfl) h
      have key38 : ∀ (x2 : Int32) (x3 : Int32) (x4 : Int32) (s38_0 : Int32) (G : GT) (q_m1 : Nat) (r_m1 : Nat → Nat) (H : Heap) (locs : List Loc) (cells slots : Nat), (s.heap.size ≤ q_m1 ∧ ∀ i, i < n_m1 → s.heap.size ≤ r_m1 i) → va_P D vwCl (wsC Y ad G) H → va_S (AW 90 ad) s.heap H locs → MX Y ad q_m1 n_m1 r_m1 S_m1 H → Bg 195858 cells slots (n7 * 498 + 193082) → ∀ ls : Array Slot, lv_has ls 8 [(0, .ref (ad 77)), (1, .ref q_m1), (2, .int x2), (3, .int x3), (4, .int x4)] → f_L_faulty_38  (f_L_faulty_7   n_m1 S_m1 n7) n_m1 S_m1 x2 x3 x4 s38_0 G = some (r, G') → W p l ev (rmD 14 195858 (16 * 195858)) s m ([.ref (ad 77)] : List Value).toArray below meth c H locs cells slots (MQ below (LQ (PI (some .boolean) r D Y ad G') (AW 90 ad)) ([.ref (ad 77)] : List Value).toArray s 195858 (16 * 195858) (AW 90 ad)) (F0 m 38 ls [.int s38_0]) := by
        intro x2 x3 x4 s38_0 G q_m1 r_m1 H locs cells slots hf_m1 hP hS hA_m1 hB ls hl h
        refine lv_iconst (v := 1) hx hb dL_faulty_38 (by decide) ?_
        refine lv_isub hx hb dL_faulty_39 ?_
        refine lv_istore (lv' := [(5, .int (s38_0 - (1 : Int32))), (0, .ref (ad 77)), (1, .ref q_m1), (2, .int x2), (3, .int x3), (4, .int x4)]) hx hb dL_faulty_40 hl (by decide) rfl (fun ls hl => ?_)
        exact key42 x2 x3 17 G x4 (s38_0 - (1 : Int32)) q_m1 r_m1 _ _ _ _ hf_m1 hP hS hA_m1 (hB.le (by omega)) ls (lv_sub hl [1, 2, 3, 4, 5, 0] rfl) h
      intro G x2 q_m1 r_m1 H locs cells slots hf_m1 hP hS hA_m1 hB ls hl h
      have h := lqS2 h
      refine lv_iload_n hx hb dL_faulty_7 rfl (lv_at hl 2 rfl) ?_
      refine lv_iconst (v := 5) hx hb dL_faulty_8 (by decide) ?_
      refine lv_icmp_ge (tgt := 111) hx hb dL_faulty_9 (by decide) (fun c55 => ?_) (fun c55 => ?_)
      · have h := ifT h c55
        refine lv_iconst (v := 0) hx hb dL_faulty_111 (by decide) ?_
        refine lv_istore_n (lv' := [(2, .int (0 : Int32)), (0, .ref (ad 77)), (1, .ref q_m1)]) hx hb dL_faulty_112 rfl hl (by decide) rfl (fun ls hl => ?_)
        exact key113 n_m1 17 G S_m1 (0 : Int32) q_m1 r_m1 _ _ _ _ hf_m1 hP hS hA_m1 (hB.le (by omega)) ls (lv_sub hl [1, 2, 0] rfl) h
      · have h := ifF h c55
        refine lv_aload_n hx hb dL_faulty_12 rfl (lv_at hl 0 rfl) ?_
        refine lv_aload_n hx hb dL_faulty_13 rfl (lv_at hl 1 rfl) ?_
        refine lv_iload_n hx hb dL_faulty_14 rfl (lv_at hl 2 rfl) ?_
        obtain ⟨r56, G56, e56, h⟩ := bsome2 h
        refine lm_i (B' := (n7 * 498 + 193083)) F hP hK hE hS hB phM_b (phM_o hA_m1) k_L_faultsOf mw_796 (q_L_faultsOf l hst D Y ad hI G n_m1 S_m1 q_m1 r_m1 x2 r56 G56 e56) rfl hl.1 ⟨Nat.le_of_ble_eq_true rfl, Nat.le_of_ble_eq_true rfl⟩ (rest := []) rfl (Nat.le_of_ble_eq_true rfl) (by omega) dL_faulty_15 (fun H locs cells slots o56 hP hS hkp hB => ?_)
        have hA_m1 := hA_m1.kp hkp
        refine lv_istore_n (lv' := [(3, .int r56), (0, .ref (ad 77)), (1, .ref q_m1), (2, .int x2)]) hx hb dL_faulty_18 rfl hl (by decide) rfl (fun ls hl => ?_)
        refine lv_bipush (v := (-13)) hx hb dL_faulty_19 (by decide) ?_
        refine lv_istore (lv' := [(4, .int (-13 : Int32)), (3, .int r56), (0, .ref (ad 77)), (1, .ref q_m1), (2, .int x2)]) hx hb dL_faulty_21 hl (by decide) rfl (fun ls hl => ?_)
        refine lv_iload_n hx hb dL_faulty_23 rfl (lv_at hl 4 rfl) ?_
        refine lv_iconst (v := 3) hx hb dL_faulty_24 (by decide) ?_
        refine lv_icmp_ne (tgt := 36) hx hb dL_faulty_25 (by decide) (fun c57 => ?_) (fun c57 => ?_)
        · have h := ifF h c57
          refine lv_aload_n hx hb dL_faulty_36 rfl (lv_at hl 3 rfl) ?_
          refine mx_len F hA_m1 dL_faulty_37 ?_
          exact key38 x2 r56 (-13 : Int32) (nI n_m1) G56 q_m1 r_m1 _ _ _ _ hf_m1 hP hS hA_m1 (hB.le (by omega)) ls (lv_sub hl [2, 3, 4, 1, 0] rfl) h
        · have h := ifT h c57
          refine lv_aload_n hx hb dL_faulty_28 rfl (lv_at hl 2 rfl) ?_
          refine lv_iconst (v := 0) hx hb dL_faulty_29 (by decide) ?_
          obtain ⟨r58, G58, e58, h⟩ := bR h
          refine lx_V (B' := (n7 * 498 + 193082)) F hP hK hS hB k_X9_account mw_621 rfl (q_X9_account l hst D Y ad hI G56 (0 : Int32) (.inr r58) G58 e58) rfl hl.1 ⟨Nat.le_of_ble_eq_true rfl, Nat.le_of_ble_eq_true rfl⟩ (rest := []) rfl (Nat.le_of_ble_eq_true rfl) (by omega) dL_faulty_30 (fun H locs cells slots o58 hP hS hkp hB => ?_)
          have hA_m1 := hA_m1.kp hkp
          refine lv_goto (tgt := 38) hx hb dL_faulty_33 (by decide) ?_
          exact key38 x2 r56 (-13 : Int32) r58 G58 q_m1 r_m1 _ _ _ _ hf_m1 hP hS hA_m1 (hB.le (by omega)) ls (lv_sub hl [2, 3, 4, 1, 0] rfl) h
  refine lv_aload_n hx hb dL_faulty_0 rfl (lv_at hl 0 rfl) ?_
  obtain ⟨n_m1, S59, G59, e59, h⟩ := bsome3 h
  refine lm_m (B' := (195330)) F hP hK hE hS hB ph0_b ph0_o k_L_sounds mw_684 (q_L_sounds l hst D Y ad hI G  n_m1 S59 G59 e59) rfl hl.1 ⟨Nat.le_of_ble_eq_true rfl, Nat.le_of_ble_eq_true rfl⟩ (rest := []) rfl (Nat.le_of_ble_eq_true rfl) (by omega) dL_faulty_1 (fun q_m1 r_m1 H locs cells slots hA_m1 hf_m1 hd hdr hP hS hkp hB => ?_)
  refine lv_astore_n (lv' := [(1, .ref q_m1), (0, .ref (ad 77))]) hx hb dL_faulty_4 rfl hl (by decide) rfl (fun ls hl => ?_)
  refine lv_iconst (v := 1) hx hb dL_faulty_5 (by decide) ?_
  refine lv_istore_n (lv' := [(2, .int (1 : Int32)), (1, .ref q_m1), (0, .ref (ad 77))]) hx hb dL_faulty_6 rfl hl (by decide) rfl (fun ls hl => ?_)
  exact key7 n_m1 S59 5 G59 (1 : Int32) q_m1 r_m1 _ _ _ _ hf_m1 hP hS hA_m1 (hB.le (by omega)) ls (lv_sub hl [2, 1, 0] rfl) h
