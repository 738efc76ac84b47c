def f_L_parts_474 (k334 : GT → Int32 → Option (Int32 × GT)) (n_m1 : Nat) (S_m1 : Nat → Nat → Int32) (x2 : Int32) (x3 : Int32) (x4 : Int32) (x5 : Int32) (n : Nat) (G : GT) (y_x8 : Int32) : Option (Int32 × GT) := lq2 (fun (k474 : GT → Int32 → Option (Int32 × GT)) (G : GT) (x8 : Int32) => (if inb x5 n_m1 then (if inb x5 n_m1 then (if ((S_m1 (x5.toNatClampNeg) 4) + (S_m1 (x5.toNatClampNeg) 2)) ≤ x8 then k334 G (x5 + 1) else (bind2 (fw_at G x8) fun r6 G6 => (if r6 = x5 then k474 G6 (x8 + 1) else some ((0 : Int32), G6)))) else none) else none)) n G y_x8
def f_L_parts_396 (k334 : GT → Int32 → Option (Int32 × GT)) (n_m1 : Nat) (S_m1 : Nat → Nat → Int32) (x2 : Int32) (x3 : Int32) (x4 : Int32) (x5 : Int32) (s396_0 : Int32) (G : GT) : Option (Int32 × GT) := (bind2 (fw_of G x5 (3 : Int32)) fun r8 G8 => (if inb x5 n_m1 then (if r8 = (S_m1 (x5.toNatClampNeg) 3) then (bind2 (fw_of G8 x5 (4 : Int32)) fun r12 G12 => (if inb x5 n_m1 then (if r12 = (S_m1 (x5.toNatClampNeg) 5) then (bind2 (fw_of G12 x5 (5 : Int32)) fun r16 G16 => (if inb x5 n_m1 then (if r16 = (S_m1 (x5.toNatClampNeg) 4) then (if s396_0 = 0 then some ((0 : Int32), G16) else (bind2 (fw_of G16 x5 (7 : Int32)) fun r21 G21 => (if r21 = (-12 : Int32) then (if inb x5 n_m1 then f_L_parts_474 k334 n_m1 S_m1 x2 x3 x4 x5 9 G21 (S_m1 (x5.toNatClampNeg) 4) else none) else some ((0 : Int32), G21)))) else some ((0 : Int32), G16)) else none)) else some ((0 : Int32), G12)) else none)) else some ((0 : Int32), G8)) else none))
def f_L_parts_395 (k334 : GT → Int32 → Option (Int32 × GT)) (n_m1 : Nat) (S_m1 : Nat → Nat → Int32) (x2 : Int32) (x3 : Int32) (x4 : Int32) (x5 : Int32) (G : GT) : Option (Int32 × GT) := f_L_parts_396 k334 n_m1 S_m1 x2 x3 x4 x5 (0 : Int32) G
def f_L_parts_334 (n_m1 : Nat) (S_m1 : Nat → Nat → Int32) (x2 : Int32) (x3 : Int32) (x4 : Int32) (n : Nat) (G : GT) (y_x5 : Int32) : Option (Int32 × GT) := lq2 (fun (k334 : GT → Int32 → Option (Int32 × GT)) (G : GT) (x5 : Int32) => (if (nI n_m1) ≤ x5 then (bindR (f_X9_account G (1 : Int32)) fun r26 G26 => (if r26 = x2 then (bindR (f_X9_account G26 (2 : Int32)) fun r28 G28 => (if r28 = x4 then (bindR (f_X9_account G28 (6 : Int32)) fun r30 G30 => (if r30 = x3 then (bind2 (fw_at G30 x4) fun r32 G32 => (if r32 = (-13 : Int32) then (bind2 (fw_at G32 (-1 : Int32)) fun r34 G34 => (if r34 = (-13 : Int32) then (bindR (f_X9_account G34 (0 : Int32)) fun r36 G36 => (bind2 (fw_barOf G36 r36 (9 : Int32)) fun r37 G37 => (if r37 = (-11 : Int32) then (bind2 (fw_of G37 (nI n_m1) (9 : Int32)) fun r39 G39 => (if r39 = (-11 : Int32) then (bind2 (fw_part G39 (-1 : Int32) (0 : Int32) (9 : Int32)) fun r41 G41 => (if r41 = (-11 : Int32) then some ((1 : Int32), G41) else some ((0 : Int32), G41))) else some ((0 : Int32), G39))) else some ((0 : Int32), G37)))) else some ((0 : Int32), G34))) else some ((0 : Int32), G32))) else some ((0 : Int32), G30))) else some ((0 : Int32), G28))) else some ((0 : Int32), G26))) else (bind2 (fw_of G x5 (6 : Int32)) fun r43 G43 => (bind2 (fw_barOf G43 r43 (4 : Int32)) fun r44 G44 => (if inb x5 n_m1 then (if (S_m1 (x5.toNatClampNeg) 4) < r44 then f_L_parts_395 k334 n_m1 S_m1 x2 x3 x4 x5 G44 else (bind2 (fw_barOf G44 r43 (4 : Int32)) fun r48 G48 => (bind2 (fw_barOf G48 r43 (0 : Int32)) fun r49 G49 => (if inb x5 n_m1 then (if (r48 + r49) ≤ (S_m1 (x5.toNatClampNeg) 4) then f_L_parts_395 k334 n_m1 S_m1 x2 x3 x4 x5 G49 else f_L_parts_396 k334 n_m1 S_m1 x2 x3 x4 x5 (1 : Int32) G49) else none)))) else none))))) n G y_x5
def f_L_parts_226 (k15 : GT → Int32 → Int32 → Int32 → Int32 → Option (Int32 × GT)) (k46 : GT → Int32 → Int32 → Int32 → Int32 → Option (Int32 × GT)) (n_m1 : Nat) (S_m1 : Nat → Nat → Int32) (x2 : Int32) (x3 : Int32) (x4 : Int32) (x5 : Int32) (x6 : Int32) (x7 : Int32) (x8 : Int32) (x9 : Int32) (x10 : Int32) (G : GT) : Option (Int32 × GT) := k46 G x7 x8 x9 (x10 + 1)
def f_L_parts_204 (k15 : GT → Int32 → Int32 → Int32 → Int32 → Option (Int32 × GT)) (k46 : GT → Int32 → Int32 → Int32 → Int32 → Option (Int32 × GT)) (n_m1 : Nat) (S_m1 : Nat → Nat → Int32) (x2 : Int32) (x3 : Int32) (x4 : Int32) (x5 : Int32) (x6 : Int32) (x7 : Int32) (x8 : Int32) (x9 : Int32) (x10 : Int32) (x11 : Int32) (x12 : Int32) (s204_0 : Int32) (G : GT) : Option (Int32 × GT) := (if s204_0 = 0 then some ((0 : Int32), G) else f_L_parts_226 k15 k46 n_m1 S_m1 x2 x3 x4 x5 x6 (x7 + 1) (x8 + (x12 - x11)) x9 x10 G)
def f_L_parts_203 (k15 : GT → Int32 → Int32 → Int32 → Int32 → Option (Int32 × GT)) (k46 : GT → Int32 → Int32 → Int32 → Int32 → Option (Int32 × GT)) (n_m1 : Nat) (S_m1 : Nat → Nat → Int32) (x2 : Int32) (x3 : Int32) (x4 : Int32) (x5 : Int32) (x6 : Int32) (x7 : Int32) (x8 : Int32) (x9 : Int32) (x10 : Int32) (x11 : Int32) (x12 : Int32) (G : GT) : Option (Int32 × GT) := f_L_parts_204 k15 k46 n_m1 S_m1 x2 x3 x4 x5 x6 x7 x8 x9 x10 x11 x12 (0 : Int32) G
def f_L_parts_182 (k15 : GT → Int32 → Int32 → Int32 → Int32 → Option (Int32 × GT)) (k46 : GT → Int32 → Int32 → Int32 → Int32 → Option (Int32 × GT)) (n_m1 : Nat) (S_m1 : Nat → Nat → Int32) (x2 : Int32) (x3 : Int32) (x4 : Int32) (x5 : Int32) (x6 : Int32) (x7 : Int32) (x8 : Int32) (x9 : Int32) (x10 : Int32) (x11 : Int32) (x12 : Int32) (s182_0 : Int32) (s182_1 : Int32) (G : GT) : Option (Int32 × GT) := (if s182_1 = s182_0 then (bind2 (fw_part G x5 x7 (3 : Int32)) fun r55 G55 => (if r55 = (-12 : Int32) then f_L_parts_204 k15 k46 n_m1 S_m1 x2 x3 x4 x5 x6 x7 x8 x9 x10 x11 x12 (1 : Int32) G55 else f_L_parts_203 k15 k46 n_m1 S_m1 x2 x3 x4 x5 x6 x7 x8 x9 x10 x11 x12 G55)) else f_L_parts_203 k15 k46 n_m1 S_m1 x2 x3 x4 x5 x6 x7 x8 x9 x10 x11 x12 G)
def f_L_parts_117 (k15 : GT → Int32 → Int32 → Int32 → Int32 → Option (Int32 × GT)) (k46 : GT → Int32 → Int32 → Int32 → Int32 → Option (Int32 × GT)) (n_m1 : Nat) (S_m1 : Nat → Nat → Int32) (x2 : Int32) (x3 : Int32) (x4 : Int32) (x5 : Int32) (x6 : Int32) (x7 : Int32) (x8 : Int32) (x10 : Int32) (x11 : Int32) (x12 : Int32) (s117_0 : Int32) (s117_1 : Int32) (G : GT) : Option (Int32 × GT) := (if x12 ≤ x11 then f_L_parts_226 k15 k46 n_m1 S_m1 x2 x3 x4 x5 x6 x7 x8 (s117_1 + s117_0) x10 G else (bind2 (fw_part G x5 x7 (0 : Int32)) fun r58 G58 => (if r58 = x10 then (bind2 (fw_part G58 x5 x7 (1 : Int32)) fun r60 G60 => (if r60 = (x12 - x11) then (bind2 (fw_part G60 x5 x7 (2 : Int32)) fun r62 G62 => (if inb x10 n_m1 then (if x2 ≤ (S_m1 (x10.toNatClampNeg) 4) then f_L_parts_182 k15 k46 n_m1 S_m1 x2 x3 x4 x5 x6 x7 x8 (s117_1 + s117_0) x10 x11 x12 (0 : Int32) r62 G62 else f_L_parts_182 k15 k46 n_m1 S_m1 x2 x3 x4 x5 x6 x7 x8 (s117_1 + s117_0) x10 x11 x12 (1 : Int32) r62 G62) else none)) else f_L_parts_203 k15 k46 n_m1 S_m1 x2 x3 x4 x5 x6 x7 x8 (s117_1 + s117_0) x10 x11 x12 G60)) else f_L_parts_203 k15 k46 n_m1 S_m1 x2 x3 x4 x5 x6 x7 x8 (s117_1 + s117_0) x10 x11 x12 G58)))
def f_L_parts_116 (k15 : GT → Int32 → Int32 → Int32 → Int32 → Option (Int32 × GT)) (k46 : GT → Int32 → Int32 → Int32 → Int32 → Option (Int32 × GT)) (n_m1 : Nat) (S_m1 : Nat → Nat → Int32) (x2 : Int32) (x3 : Int32) (x4 : Int32) (x5 : Int32) (x6 : Int32) (x7 : Int32) (x8 : Int32) (x10 : Int32) (x11 : Int32) (x12 : Int32) (s116_0 : Int32) (G : GT) : Option (Int32 × GT) := f_L_parts_117 k15 k46 n_m1 S_m1 x2 x3 x4 x5 x6 x7 x8 x10 x11 x12 (0 : Int32) s116_0 G
def f_L_parts_46 (k15 : GT → Int32 → Int32 → Int32 → Int32 → Option (Int32 × GT)) (n_m1 : Nat) (S_m1 : Nat → Nat → Int32) (x2 : Int32) (x3 : Int32) (x4 : Int32) (x5 : Int32) (x6 : Int32) (n : Nat) (G : GT) (y_x7 : Int32) (y_x8 : Int32) (y_x9 : Int32) (y_x10 : Int32) : Option (Int32 × GT) := lq5 (fun (k46 : GT → Int32 → Int32 → Int32 → Int32 → Option (Int32 × GT)) (G : GT) (x7 : Int32) (x8 : Int32) (x9 : Int32) (x10 : Int32) => (if (nI n_m1) ≤ x10 then (bind2 (fw_barOf G x5 (1 : Int32)) fun r67 G67 => (if r67 = x8 then (bind2 (fw_barOf G67 x5 (2 : Int32)) fun r69 G69 => (if r69 = x7 then (bind2 (fw_barOf G69 x5 (3 : Int32)) fun r71 G71 => (if r71 = x9 then (bind2 (fw_barOf G71 x5 (4 : Int32)) fun r73 G73 => (if r73 = x2 then (bind2 (fw_barOf G73 x5 (5 : Int32)) fun r75 G75 => (if r75 = (-12 : Int32) then (bind2 (fw_part G75 x5 x7 (9 : Int32)) fun r77 G77 => (if r77 = (-11 : Int32) then k15 G77 (x2 + x6) (x3 + x7) (x4 + x8) (x5 + 1) else some ((0 : Int32), G77))) else some ((0 : Int32), G75))) else some ((0 : Int32), G73))) else some ((0 : Int32), G71))) else some ((0 : Int32), G69))) else some ((0 : Int32), G67))) else (if inb x10 n_m1 then (if inb x10 n_m1 then (if inb x10 n_m1 then (if inb x10 n_m1 then (if (S_m1 (x10.toNatClampNeg) 4) < x2 then f_L_parts_116 k15 k46 n_m1 S_m1 x2 x3 x4 x5 x6 x7 x8 x10 (max32 x2 (S_m1 (x10.toNatClampNeg) 4)) (min32 (x2 + x6) ((S_m1 (x10.toNatClampNeg) 4) + (S_m1 (x10.toNatClampNeg) 2))) x9 G else (if inb x10 n_m1 then (if (x2 + x6) ≤ (S_m1 (x10.toNatClampNeg) 4) then f_L_parts_116 k15 k46 n_m1 S_m1 x2 x3 x4 x5 x6 x7 x8 x10 (max32 x2 (S_m1 (x10.toNatClampNeg) 4)) (min32 (x2 + x6) ((S_m1 (x10.toNatClampNeg) 4) + (S_m1 (x10.toNatClampNeg) 2))) x9 G else f_L_parts_117 k15 k46 n_m1 S_m1 x2 x3 x4 x5 x6 x7 x8 x10 (max32 x2 (S_m1 (x10.toNatClampNeg) 4)) (min32 (x2 + x6) ((S_m1 (x10.toNatClampNeg) 4) + (S_m1 (x10.toNatClampNeg) 2))) (1 : Int32) x9 G) else none)) else none) else none) else none) else none))) n G y_x7 y_x8 y_x9 y_x10
def f_L_parts_15 (n_m1 : Nat) (S_m1 : Nat → Nat → Int32) (n : Nat) (G : GT) (y_x2 : Int32) (y_x3 : Int32) (y_x4 : Int32) (y_x5 : Int32) : Option (Int32 × GT) := lq5 (fun (k15 : GT → Int32 → Int32 → Int32 → Int32 → Option (Int32 × GT)) (G : GT) (x2 : Int32) (x3 : Int32) (x4 : Int32) (x5 : Int32) => (bindR (f_X9_account G (0 : Int32)) fun r91 G91 => (if r91 ≤ x5 then f_L_parts_334 n_m1 S_m1 x2 x3 x4 17 G91 (0 : Int32) else (bind2 (fw_barOf G91 x5 (0 : Int32)) fun r93 G93 => f_L_parts_46 k15 n_m1 S_m1 x2 x3 x4 x5 r93 17 G93 (0 : Int32) (0 : Int32) (0 : Int32) (0 : Int32))))) n G y_x2 y_x3 y_x4 y_x5
def f_L_parts (G : GT) : Option (Int32 × GT) := (bind3 (f_L_sounds G ) fun n_m1 S94 G94 => f_L_parts_15 n_m1 S94 7 G94 (0 : Int32) (0 : Int32) (0 : Int32) (0 : Int32))
set_option maxRecDepth 100000 in
set_option maxHeartbeats 8000000 in
theorem q_L_parts (l : Launch) (hst : l.stackTraces = false) (D : va_G) (Y : Nat → ClassId) (ad : Nat → Nat) (hI : Inj 90 ad) (G : GT) (r : Int32) (G' : GT) (h : f_L_parts G   = some (r, G')) : LM l yL_parts cL_parts 14 (some .boolean) 12 2506 D Y ad G Ph0 [.ref (ad 77)] (PI (some .boolean) r D Y ad G') := by
  refine LM_of (ret := (some .boolean)) (by decide) (Nat.le_of_ble_eq_true rfl) (lv := [(0, .ref (ad 77))]) rfl ?_
  intro p ev s m below meth c ls F hP hK hE hΦ hS hr hk hl hB
  have F : Fx p c cL_parts 14 s m _ RL D Y := F
  have hx := F.1.1
  have hb := F.1.2.1
  have hts := F.1.2.2.2.2
  have hown := F.1.2.2.2.1
  have key334 : ∀ (n_m1 : Nat) (S_m1 : Nat → Nat → Int32) (x2 : Int32) (x3 : Int32) (x4 : Int32) (n : Nat) (G : GT) (x5 : Int32) (q_m1 : Nat) (r_m1 : Nat → Nat) (H : Heap) (locs : List Loc) (cells slots : Nat), (s.heap.size ≤ q_m1 ∧ ∀ i, i < n_m1 → s.heap.size ≤ r_m1 i) → va_P D vwCl (wsC Y ad G) H → va_S (AW 90 ad) s.heap H locs → MX Y ad q_m1 n_m1 r_m1 S_m1 H → Bg 2506 cells slots (n * 25 + 13) → ∀ ls : Array Slot, lv_has ls 14 [(0, .ref (ad 77)), (1, .ref q_m1), (2, .int x2), (3, .int x3), (4, .int x4), (5, .int x5)] → f_L_parts_334   n_m1 S_m1 x2 x3 x4 n G x5 = some (r, G') → W p l ev (rmD 12 2506 (16 * 2506)) s m ([.ref (ad 77)] : List Value).toArray below meth c H locs cells slots (MQ below (LQ (PI (some .boolean) r D Y ad G') (AW 90 ad)) ([.ref (ad 77)] : List Value).toArray s 2506 (16 * 2506) (AW 90 ad)) (F0 m 334 ls []) := by
    intro n_m1 S_m1 x2 x3 x4
    intro n
    induction n with
    | zero => intro G x5 q_m1 r_m1 H locs cells slots hf_m1 hP hS hA_m1 hB ls hl h; exact lqZ2 h
    | succ n334 ih334 =>
      have key474 : ∀ (x5 : Int32) (n : Nat) (G : GT) (x8 : Int32) (q_m1 : Nat) (r_m1 : Nat → Nat) (H : Heap) (locs : List Loc) (cells slots : Nat), (s.heap.size ≤ q_m1 ∧ ∀ i, i < n_m1 → s.heap.size ≤ r_m1 i) → va_P D vwCl (wsC Y ad G) H → va_S (AW 90 ad) s.heap H locs → MX Y ad q_m1 n_m1 r_m1 S_m1 H → Bg 2506 cells slots (n * 1 + n334 * 25 + 13) → ∀ ls : Array Slot, lv_has ls 14 [(0, .ref (ad 77)), (1, .ref q_m1), (2, .int x2), (3, .int x3), (4, .int x4), (5, .int x5), (8, .int x8)] → f_L_parts_474  (f_L_parts_334   n_m1 S_m1 x2 x3 x4 n334) n_m1 S_m1 x2 x3 x4 x5 n G x8 = some (r, G') → W p l ev (rmD 12 2506 (16 * 2506)) s m ([.ref (ad 77)] : List Value).toArray below meth c H locs cells slots (MQ below (LQ (PI (some .boolean) r D Y ad G') (AW 90 ad)) ([.ref (ad 77)] : List Value).toArray s 2506 (16 * 2506) (AW 90 ad)) (F0 m 474 ls []) := by
        intro x5
        intro n
        induction n with
        | zero => intro G x8 q_m1 r_m1 H locs cells slots hf_m1 hP hS hA_m1 hB ls hl h; exact lqZ2 h
        | succ n474 ih474 =>
          intro G x8 q_m1 r_m1 H locs cells slots hf_m1 hP hS hA_m1 hB ls hl h
          have h := lqS2 h
          refine lv_iload hx hb dL_parts_474 (lv_at hl 6 rfl) ?_
          refine lv_aload_n hx hb dL_parts_476 rfl (lv_at hl 1 rfl) ?_
          refine lv_iload hx hb dL_parts_477 (lv_at hl 5 rfl) ?_
          obtain ⟨b1, h⟩ := ckS h
          refine mx_row F hA_m1 b1 dL_parts_479 (fun hw2 => ?_)
          refine lv_iconst (v := 4) hx hb dL_parts_480 (by decide) ?_
          refine ai_ldk F (hA_m1.2.2.1 _ hw2).2 (k := 4) (by decide) (inbV (by decide) (by decide)) dL_parts_481 ?_
          refine lv_aload_n hx hb dL_parts_482 rfl (lv_at hl 1 rfl) ?_
          refine lv_iload hx hb dL_parts_483 (lv_at hl 5 rfl) ?_
          obtain ⟨b3, h⟩ := ckS h
          refine mx_row F hA_m1 b3 dL_parts_485 (fun hw4 => ?_)
          refine lv_iconst (v := 2) hx hb dL_parts_486 (by decide) ?_
          refine ai_ldk F (hA_m1.2.2.1 _ hw4).2 (k := 2) (by decide) (inbV (by decide) (by decide)) dL_parts_487 ?_
          refine lv_iadd hx hb dL_parts_488 ?_
          refine lv_icmp_ge (tgt := 511) hx hb dL_parts_489 (by decide) (fun c5 => ?_) (fun c5 => ?_)
          · have h := ifT h c5
            refine lv_iinc (v := (x5 + 1)) (lv' := [(5, .int (x5 + 1)), (0, .ref (ad 77)), (1, .ref q_m1), (2, .int x2), (3, .int x3), (4, .int x4), (8, .int x8)]) hx hb dL_parts_511 hl (k := 5) rfl rfl (by decide) rfl (fun ls hl => ?_)
            refine lv_goto (tgt := 334) hx hb dL_parts_514 (by decide) ?_
            exact ih334 G (x5 + 1) q_m1 r_m1 _ _ _ _ hf_m1 hP hS hA_m1 (hB.le (by omega)) ls (lv_sub hl [1, 2, 3, 4, 5, 0] rfl) h
          · have h := ifF h c5
            refine lv_aload_n hx hb dL_parts_492 rfl (lv_at hl 0 rfl) ?_
            refine lv_iload hx hb dL_parts_493 (lv_at hl 6 rfl) ?_
            obtain ⟨r6, G6, e6, h⟩ := bsome2 h
            refine lh_i (B' := (n474 * 1 + n334 * 25 + 13)) F hP hK hE hS hB kl_at mw_779 (ql_at l hst D Y ad hI G x8 r6 G6 e6) rfl hl.1 ⟨Nat.le_of_ble_eq_true rfl, Nat.le_of_ble_eq_true rfl⟩ (rest := []) rfl (Nat.le_of_ble_eq_true rfl) (by omega) dL_parts_495 (fun H locs cells slots hP hS hkp hB => ?_)
            have hA_m1 := hA_m1.kp hkp
            refine lv_iload hx hb dL_parts_498 (lv_at hl 5 rfl) ?_
            refine lv_icmp_eq (tgt := 505) hx hb dL_parts_500 (by decide) (fun c7 => ?_) (fun c7 => ?_)
            · have h := ifT h c7
              refine lv_iinc (v := (x8 + 1)) (lv' := [(8, .int (x8 + 1)), (0, .ref (ad 77)), (1, .ref q_m1), (2, .int x2), (3, .int x3), (4, .int x4), (5, .int x5)]) hx hb dL_parts_505 hl (k := 6) rfl rfl (by decide) rfl (fun ls hl => ?_)
              refine lv_goto (tgt := 474) hx hb dL_parts_508 (by decide) ?_
              exact ih474 G6 (x8 + 1) q_m1 r_m1 _ _ _ _ hf_m1 hP hS hA_m1 (hB.le (by omega)) ls (lv_sub hl [1, 2, 3, 4, 5, 6, 0] rfl) h
            · have h := ifF h c7
              refine lv_iconst (v := 0) hx hb dL_parts_503 (by decide) ?_
              exact lm_end F hP hS hB hr hk rfl h dL_parts_504
      have key396 : ∀ (x5 : Int32) (s396_0 : Int32) (G : GT) (q_m1 : Nat) (r_m1 : Nat → Nat) (H : Heap) (locs : List Loc) (cells slots : Nat), (s.heap.size ≤ q_m1 ∧ ∀ i, i < n_m1 → s.heap.size ≤ r_m1 i) → va_P D vwCl (wsC Y ad G) H → va_S (AW 90 ad) s.heap H locs → MX Y ad q_m1 n_m1 r_m1 S_m1 H → Bg 2506 cells slots (n334 * 25 + 30) → ∀ ls : Array Slot, lv_has ls 14 [(0, .ref (ad 77)), (1, .ref q_m1), (2, .int x2), (3, .int x3), (4, .int x4), (5, .int x5)] → f_L_parts_396  (f_L_parts_334   n_m1 S_m1 x2 x3 x4 n334) n_m1 S_m1 x2 x3 x4 x5 s396_0 G = some (r, G') → W p l ev (rmD 12 2506 (16 * 2506)) s m ([.ref (ad 77)] : List Value).toArray below meth c H locs cells slots (MQ below (LQ (PI (some .boolean) r D Y ad G') (AW 90 ad)) ([.ref (ad 77)] : List Value).toArray s 2506 (16 * 2506) (AW 90 ad)) (F0 m 396 ls [.int s396_0]) := by
        intro x5 s396_0 G q_m1 r_m1 H locs cells slots hf_m1 hP hS hA_m1 hB ls hl h
        refine lv_istore (lv' := [(7, .int s396_0), (0, .ref (ad 77)), (1, .ref q_m1), (2, .int x2), (3, .int x3), (4, .int x4), (5, .int x5)]) hx hb dL_parts_396 hl (by decide) rfl (fun ls hl => ?_)
        refine lv_aload_n hx hb dL_parts_398 rfl (lv_at hl 1 rfl) ?_
        refine lv_iload hx hb dL_parts_399 (lv_at hl 6 rfl) ?_
        refine lv_iconst (v := 3) hx hb dL_parts_401 (by decide) ?_
        obtain ⟨r8, G8, e8, h⟩ := bsome2 h
        refine lh_i (B' := (n334 * 25 + 28)) F hP hK hE hS hB kl_of mw_689 (ql_of l hst D Y ad hI G x5 (3 : Int32) r8 G8 e8) rfl hl.1 ⟨Nat.le_of_ble_eq_true rfl, Nat.le_of_ble_eq_true rfl⟩ (rest := []) rfl (Nat.le_of_ble_eq_true rfl) (by omega) dL_parts_402 (fun H locs cells slots hP hS hkp hB => ?_)
        have hA_m1 := hA_m1.kp hkp
        refine lv_aload_n hx hb dL_parts_405 rfl (lv_at hl 2 rfl) ?_
        refine lv_iload hx hb dL_parts_406 (lv_at hl 6 rfl) ?_
        obtain ⟨b9, h⟩ := ckS h
        refine mx_row F hA_m1 b9 dL_parts_408 (fun hw10 => ?_)
        refine lv_iconst (v := 3) hx hb dL_parts_409 (by decide) ?_
        refine ai_ldk F (hA_m1.2.2.1 _ hw10).2 (k := 3) (by decide) (inbV (by decide) (by decide)) dL_parts_410 ?_
        refine lv_icmp_ne (tgt := 464) hx hb dL_parts_411 (by decide) (fun c11 => ?_) (fun c11 => ?_)
        · have h := ifF h c11
          refine lv_iconst (v := 0) hx hb dL_parts_464 (by decide) ?_
          exact lm_end F hP hS hB hr hk rfl h dL_parts_465
        · have h := ifT h c11
          refine lv_aload_n hx hb dL_parts_414 rfl (lv_at hl 1 rfl) ?_
          refine lv_iload hx hb dL_parts_415 (lv_at hl 6 rfl) ?_
          refine lv_iconst (v := 4) hx hb dL_parts_417 (by decide) ?_
          obtain ⟨r12, G12, e12, h⟩ := bsome2 h
          refine lh_i (B' := (n334 * 25 + 26)) F hP hK hE hS hB kl_of mw_689 (ql_of l hst D Y ad hI G8 x5 (4 : Int32) r12 G12 e12) rfl hl.1 ⟨Nat.le_of_ble_eq_true rfl, Nat.le_of_ble_eq_true rfl⟩ (rest := []) rfl (Nat.le_of_ble_eq_true rfl) (by omega) dL_parts_418 (fun H locs cells slots hP hS hkp hB => ?_)
          have hA_m1 := hA_m1.kp hkp
          refine lv_aload_n hx hb dL_parts_421 rfl (lv_at hl 2 rfl) ?_
          refine lv_iload hx hb dL_parts_422 (lv_at hl 6 rfl) ?_
          obtain ⟨b13, h⟩ := ckS h
          refine mx_row F hA_m1 b13 dL_parts_424 (fun hw14 => ?_)
          refine lv_iconst (v := 5) hx hb dL_parts_425 (by decide) ?_
          refine ai_ldk F (hA_m1.2.2.1 _ hw14).2 (k := 5) (by decide) (inbV (by decide) (by decide)) dL_parts_426 ?_
          refine lv_icmp_ne (tgt := 464) hx hb dL_parts_427 (by decide) (fun c15 => ?_) (fun c15 => ?_)
          · have h := ifF h c15
            refine lv_iconst (v := 0) hx hb dL_parts_464 (by decide) ?_
            exact lm_end F hP hS hB hr hk rfl h dL_parts_465
          · have h := ifT h c15
            refine lv_aload_n hx hb dL_parts_430 rfl (lv_at hl 1 rfl) ?_
            refine lv_iload hx hb dL_parts_431 (lv_at hl 6 rfl) ?_
            refine lv_iconst (v := 5) hx hb dL_parts_433 (by decide) ?_
            obtain ⟨r16, G16, e16, h⟩ := bsome2 h
            refine lh_i (B' := (n334 * 25 + 24)) F hP hK hE hS hB kl_of mw_689 (ql_of l hst D Y ad hI G12 x5 (5 : Int32) r16 G16 e16) rfl hl.1 ⟨Nat.le_of_ble_eq_true rfl, Nat.le_of_ble_eq_true rfl⟩ (rest := []) rfl (Nat.le_of_ble_eq_true rfl) (by omega) dL_parts_434 (fun H locs cells slots hP hS hkp hB => ?_)
            have hA_m1 := hA_m1.kp hkp
            refine lv_aload_n hx hb dL_parts_437 rfl (lv_at hl 2 rfl) ?_
            refine lv_iload hx hb dL_parts_438 (lv_at hl 6 rfl) ?_
            obtain ⟨b17, h⟩ := ckS h
            refine mx_row F hA_m1 b17 dL_parts_440 (fun hw18 => ?_)
            refine lv_iconst (v := 4) hx hb dL_parts_441 (by decide) ?_
            refine ai_ldk F (hA_m1.2.2.1 _ hw18).2 (k := 4) (by decide) (inbV (by decide) (by decide)) dL_parts_442 ?_
            refine lv_icmp_ne (tgt := 464) hx hb dL_parts_443 (by decide) (fun c19 => ?_) (fun c19 => ?_)
            · have h := ifF h c19
              refine lv_iconst (v := 0) hx hb dL_parts_464 (by decide) ?_
              exact lm_end F hP hS hB hr hk rfl h dL_parts_465
            · have h := ifT h c19
              refine lv_iload hx hb dL_parts_446 (lv_at hl 0 rfl) ?_
              refine lv_if_eq (tgt := 464) hx hb dL_parts_448 (by decide) (fun c20 => ?_) (fun c20 => ?_)
              · have h := ifT h c20
                refine lv_iconst (v := 0) hx hb dL_parts_464 (by decide) ?_
                exact lm_end F hP hS hB hr hk rfl h dL_parts_465
              · have h := ifF h c20
                refine lv_aload_n hx hb dL_parts_451 rfl (lv_at hl 1 rfl) ?_
                refine lv_iload hx hb dL_parts_452 (lv_at hl 6 rfl) ?_
                refine lv_bipush (v := 7) hx hb dL_parts_454 (by decide) ?_
                obtain ⟨r21, G21, e21, h⟩ := bsome2 h
                refine lh_i (B' := (n334 * 25 + 22)) F hP hK hE hS hB kl_of mw_689 (ql_of l hst D Y ad hI G16 x5 (7 : Int32) r21 G21 e21) rfl hl.1 ⟨Nat.le_of_ble_eq_true rfl, Nat.le_of_ble_eq_true rfl⟩ (rest := []) rfl (Nat.le_of_ble_eq_true rfl) (by omega) dL_parts_456 (fun H locs cells slots hP hS hkp hB => ?_)
                have hA_m1 := hA_m1.kp hkp
                refine lv_bipush (v := (-12)) hx hb dL_parts_459 (by decide) ?_
                refine lv_icmp_eq (tgt := 466) hx hb dL_parts_461 (by decide) (fun c22 => ?_) (fun c22 => ?_)
                · have h := ifT h c22
                  refine lv_aload_n hx hb dL_parts_466 rfl (lv_at hl 2 rfl) ?_
                  refine lv_iload hx hb dL_parts_467 (lv_at hl 6 rfl) ?_
                  obtain ⟨b23, h⟩ := ckS h
                  refine mx_row F hA_m1 b23 dL_parts_469 (fun hw24 => ?_)
                  refine lv_iconst (v := 4) hx hb dL_parts_470 (by decide) ?_
                  refine ai_ldk F (hA_m1.2.2.1 _ hw24).2 (k := 4) (by decide) (inbV (by decide) (by decide)) dL_parts_471 ?_
                  refine lv_istore (lv' := [(8, .int (S_m1 (x5.toNatClampNeg) 4)), (7, .int s396_0), (0, .ref (ad 77)), (1, .ref q_m1), (2, .int x2), (3, .int x3), (4, .int x4), (5, .int x5)]) hx hb dL_parts_472 hl (by decide) rfl (fun ls hl => ?_)
                  exact key474 x5 9 G21 (S_m1 (x5.toNatClampNeg) 4) q_m1 r_m1 _ _ _ _ hf_m1 hP hS hA_m1 (hB.le (by omega)) ls (lv_sub hl [2, 3, 4, 5, 6, 7, 0] rfl) h
                · have h := ifF h c22
                  refine lv_iconst (v := 0) hx hb dL_parts_464 (by decide) ?_
                  exact lm_end F hP hS hB hr hk rfl h dL_parts_465
      have key395 : ∀ (x5 : Int32) (G : GT) (q_m1 : Nat) (r_m1 : Nat → Nat) (H : Heap) (locs : List Loc) (cells slots : Nat), (s.heap.size ≤ q_m1 ∧ ∀ i, i < n_m1 → s.heap.size ≤ r_m1 i) → va_P D vwCl (wsC Y ad G) H → va_S (AW 90 ad) s.heap H locs → MX Y ad q_m1 n_m1 r_m1 S_m1 H → Bg 2506 cells slots (n334 * 25 + 30) → ∀ ls : Array Slot, lv_has ls 14 [(0, .ref (ad 77)), (1, .ref q_m1), (2, .int x2), (3, .int x3), (4, .int x4), (5, .int x5)] → f_L_parts_395  (f_L_parts_334   n_m1 S_m1 x2 x3 x4 n334) n_m1 S_m1 x2 x3 x4 x5 G = some (r, G') → W p l ev (rmD 12 2506 (16 * 2506)) s m ([.ref (ad 77)] : List Value).toArray below meth c H locs cells slots (MQ below (LQ (PI (some .boolean) r D Y ad G') (AW 90 ad)) ([.ref (ad 77)] : List Value).toArray s 2506 (16 * 2506) (AW 90 ad)) (F0 m 395 ls []) := by
        intro x5 G q_m1 r_m1 H locs cells slots hf_m1 hP hS hA_m1 hB ls hl h
        refine lv_iconst (v := 0) hx hb dL_parts_395 (by decide) ?_
        exact key396 x5 (0 : Int32) G q_m1 r_m1 _ _ _ _ hf_m1 hP hS hA_m1 (hB.le (by omega)) ls (lv_sub hl [0, 1, 2, 3, 4, 5] rfl) h
      intro G x5 q_m1 r_m1 H locs cells slots hf_m1 hP hS hA_m1 hB ls hl h
      have h := lqS2 h
      refine lv_iload hx hb dL_parts_334 (lv_at hl 5 rfl) ?_
      refine lv_aload_n hx hb dL_parts_336 rfl (lv_at hl 1 rfl) ?_
      refine mx_len F hA_m1 dL_parts_337 ?_
      refine lv_icmp_ge (tgt := 517) hx hb dL_parts_338 (by decide) (fun c25 => ?_) (fun c25 => ?_)
      · have h := ifT h c25
        refine lv_aload_n hx hb dL_parts_517 rfl (lv_at hl 0 rfl) ?_
        refine lv_iconst (v := 1) hx hb dL_parts_518 (by decide) ?_
        obtain ⟨r26, G26, e26, h⟩ := bR h
        refine lx_V (B' := (n334 * 25 + 37)) F hP hK hS hB k_X9_account mw_621 rfl (q_X9_account l hst D Y ad hI G (1 : Int32) (.inr r26) G26 e26) rfl hl.1 ⟨Nat.le_of_ble_eq_true rfl, Nat.le_of_ble_eq_true rfl⟩ (rest := []) rfl (Nat.le_of_ble_eq_true rfl) (by omega) dL_parts_519 (fun H locs cells slots o26 hP hS hkp hB => ?_)
        have hA_m1 := hA_m1.kp hkp
        refine lv_iload_n hx hb dL_parts_522 rfl (lv_at hl 2 rfl) ?_
        refine lv_icmp_ne (tgt := 613) hx hb dL_parts_523 (by decide) (fun c27 => ?_) (fun c27 => ?_)
        · have h := ifF h c27
          refine lv_iconst (v := 0) hx hb dL_parts_613 (by decide) ?_
          exact lm_end F hP hS hB hr hk rfl h dL_parts_614
        · have h := ifT h c27
          refine lv_aload_n hx hb dL_parts_526 rfl (lv_at hl 0 rfl) ?_
          refine lv_iconst (v := 2) hx hb dL_parts_527 (by decide) ?_
          obtain ⟨r28, G28, e28, h⟩ := bR h
          refine lx_V (B' := (n334 * 25 + 36)) F hP hK hS hB k_X9_account mw_621 rfl (q_X9_account l hst D Y ad hI G26 (2 : Int32) (.inr r28) G28 e28) rfl hl.1 ⟨Nat.le_of_ble_eq_true rfl, Nat.le_of_ble_eq_true rfl⟩ (rest := []) rfl (Nat.le_of_ble_eq_true rfl) (by omega) dL_parts_528 (fun H locs cells slots o28 hP hS hkp hB => ?_)
          have hA_m1 := hA_m1.kp hkp
          refine lv_iload hx hb dL_parts_531 (lv_at hl 4 rfl) ?_
          refine lv_icmp_ne (tgt := 613) hx hb dL_parts_533 (by decide) (fun c29 => ?_) (fun c29 => ?_)
          · have h := ifF h c29
            refine lv_iconst (v := 0) hx hb dL_parts_613 (by decide) ?_
            exact lm_end F hP hS hB hr hk rfl h dL_parts_614
          · have h := ifT h c29
            refine lv_aload_n hx hb dL_parts_536 rfl (lv_at hl 0 rfl) ?_
            refine lv_bipush (v := 6) hx hb dL_parts_537 (by decide) ?_
            obtain ⟨r30, G30, e30, h⟩ := bR h
            refine lx_V (B' := (n334 * 25 + 35)) F hP hK hS hB k_X9_account mw_621 rfl (q_X9_account l hst D Y ad hI G28 (6 : Int32) (.inr r30) G30 e30) rfl hl.1 ⟨Nat.le_of_ble_eq_true rfl, Nat.le_of_ble_eq_true rfl⟩ (rest := []) rfl (Nat.le_of_ble_eq_true rfl) (by omega) dL_parts_539 (fun H locs cells slots o30 hP hS hkp hB => ?_)
            have hA_m1 := hA_m1.kp hkp
            refine lv_iload_n hx hb dL_parts_542 rfl (lv_at hl 3 rfl) ?_
            refine lv_icmp_ne (tgt := 613) hx hb dL_parts_543 (by decide) (fun c31 => ?_) (fun c31 => ?_)
            · have h := ifF h c31
              refine lv_iconst (v := 0) hx hb dL_parts_613 (by decide) ?_
              exact lm_end F hP hS hB hr hk rfl h dL_parts_614
            · have h := ifT h c31
              refine lv_aload_n hx hb dL_parts_546 rfl (lv_at hl 0 rfl) ?_
              refine lv_iload hx hb dL_parts_547 (lv_at hl 4 rfl) ?_
              obtain ⟨r32, G32, e32, h⟩ := bsome2 h
              refine lh_i (B' := (n334 * 25 + 34)) F hP hK hE hS hB kl_at mw_779 (ql_at l hst D Y ad hI G30 x4 r32 G32 e32) rfl hl.1 ⟨Nat.le_of_ble_eq_true rfl, Nat.le_of_ble_eq_true rfl⟩ (rest := []) rfl (Nat.le_of_ble_eq_true rfl) (by omega) dL_parts_549 (fun H locs cells slots hP hS hkp hB => ?_)
              have hA_m1 := hA_m1.kp hkp
              refine lv_bipush (v := (-13)) hx hb dL_parts_552 (by decide) ?_
              refine lv_icmp_ne (tgt := 613) hx hb dL_parts_554 (by decide) (fun c33 => ?_) (fun c33 => ?_)
              · have h := ifF h c33
                refine lv_iconst (v := 0) hx hb dL_parts_613 (by decide) ?_
                exact lm_end F hP hS hB hr hk rfl h dL_parts_614
              · have h := ifT h c33
                refine lv_aload_n hx hb dL_parts_557 rfl (lv_at hl 0 rfl) ?_
                refine lv_iconst (v := (-1)) hx hb dL_parts_558 (by decide) ?_
                obtain ⟨r34, G34, e34, h⟩ := bsome2 h
                refine lh_i (B' := (n334 * 25 + 33)) F hP hK hE hS hB kl_at mw_779 (ql_at l hst D Y ad hI G32 (-1 : Int32) r34 G34 e34) rfl hl.1 ⟨Nat.le_of_ble_eq_true rfl, Nat.le_of_ble_eq_true rfl⟩ (rest := []) rfl (Nat.le_of_ble_eq_true rfl) (by omega) dL_parts_559 (fun H locs cells slots hP hS hkp hB => ?_)
                have hA_m1 := hA_m1.kp hkp
                refine lv_bipush (v := (-13)) hx hb dL_parts_562 (by decide) ?_
                refine lv_icmp_ne (tgt := 613) hx hb dL_parts_564 (by decide) (fun c35 => ?_) (fun c35 => ?_)
                · have h := ifF h c35
                  refine lv_iconst (v := 0) hx hb dL_parts_613 (by decide) ?_
                  exact lm_end F hP hS hB hr hk rfl h dL_parts_614
                · have h := ifT h c35
                  refine lv_aload_n hx hb dL_parts_567 rfl (lv_at hl 0 rfl) ?_
                  refine lv_aload_n hx hb dL_parts_568 rfl (lv_at hl 0 rfl) ?_
                  refine lv_iconst (v := 0) hx hb dL_parts_569 (by decide) ?_
                  obtain ⟨r36, G36, e36, h⟩ := bR h
                  refine lx_V (B' := (n334 * 25 + 32)) F hP hK hS hB k_X9_account mw_621 rfl (q_X9_account l hst D Y ad hI G34 (0 : Int32) (.inr r36) G36 e36) rfl hl.1 ⟨Nat.le_of_ble_eq_true rfl, Nat.le_of_ble_eq_true rfl⟩ (rest := [.ref (ad 77)]) rfl (Nat.le_of_ble_eq_true rfl) (by omega) dL_parts_570 (fun H locs cells slots o36 hP hS hkp hB => ?_)
                  have hA_m1 := hA_m1.kp hkp
                  refine lv_bipush (v := 9) hx hb dL_parts_573 (by decide) ?_
                  obtain ⟨r37, G37, e37, h⟩ := bsome2 h
                  refine lh_i (B' := (n334 * 25 + 30)) F hP hK hE hS hB kl_barOf mw_735 (ql_barOf l hst D Y ad hI G36 r36 (9 : Int32) r37 G37 e37) rfl hl.1 ⟨Nat.le_of_ble_eq_true rfl, Nat.le_of_ble_eq_true rfl⟩ (rest := []) rfl (Nat.le_of_ble_eq_true rfl) (by omega) dL_parts_575 (fun H locs cells slots hP hS hkp hB => ?_)
                  have hA_m1 := hA_m1.kp hkp
                  refine lv_bipush (v := (-11)) hx hb dL_parts_578 (by decide) ?_
                  refine lv_icmp_ne (tgt := 613) hx hb dL_parts_580 (by decide) (fun c38 => ?_) (fun c38 => ?_)
                  · have h := ifF h c38
                    refine lv_iconst (v := 0) hx hb dL_parts_613 (by decide) ?_
                    exact lm_end F hP hS hB hr hk rfl h dL_parts_614
                  · have h := ifT h c38
                    refine lv_aload_n hx hb dL_parts_583 rfl (lv_at hl 0 rfl) ?_
                    refine lv_aload_n hx hb dL_parts_584 rfl (lv_at hl 1 rfl) ?_
                    refine mx_len F hA_m1 dL_parts_585 ?_
                    refine lv_bipush (v := 9) hx hb dL_parts_586 (by decide) ?_
                    obtain ⟨r39, G39, e39, h⟩ := bsome2 h
                    refine lh_i (B' := (n334 * 25 + 28)) F hP hK hE hS hB kl_of mw_689 (ql_of l hst D Y ad hI G37 (nI n_m1) (9 : Int32) r39 G39 e39) rfl hl.1 ⟨Nat.le_of_ble_eq_true rfl, Nat.le_of_ble_eq_true rfl⟩ (rest := []) rfl (Nat.le_of_ble_eq_true rfl) (by omega) dL_parts_588 (fun H locs cells slots hP hS hkp hB => ?_)
                    have hA_m1 := hA_m1.kp hkp
                    refine lv_bipush (v := (-11)) hx hb dL_parts_591 (by decide) ?_
                    refine lv_icmp_ne (tgt := 613) hx hb dL_parts_593 (by decide) (fun c40 => ?_) (fun c40 => ?_)
                    · have h := ifF h c40
                      refine lv_iconst (v := 0) hx hb dL_parts_613 (by decide) ?_
                      exact lm_end F hP hS hB hr hk rfl h dL_parts_614
                    · have h := ifT h c40
                      refine lv_aload_n hx hb dL_parts_596 rfl (lv_at hl 0 rfl) ?_
                      refine lv_iconst (v := (-1)) hx hb dL_parts_597 (by decide) ?_
                      refine lv_iconst (v := 0) hx hb dL_parts_598 (by decide) ?_
                      refine lv_bipush (v := 9) hx hb dL_parts_599 (by decide) ?_
                      obtain ⟨r41, G41, e41, h⟩ := bsome2 h
                      refine lh_i (B' := (n334 * 25 + 25)) F hP hK hE hS hB kl_part mw_763 (ql_part l hst D Y ad hI G39 (-1 : Int32) (0 : Int32) (9 : Int32) r41 G41 e41) rfl hl.1 ⟨Nat.le_of_ble_eq_true rfl, Nat.le_of_ble_eq_true rfl⟩ (rest := []) rfl (Nat.le_of_ble_eq_true rfl) (by omega) dL_parts_601 (fun H locs cells slots hP hS hkp hB => ?_)
                      have hA_m1 := hA_m1.kp hkp
                      refine lv_bipush (v := (-11)) hx hb dL_parts_604 (by decide) ?_
                      refine lv_icmp_ne (tgt := 613) hx hb dL_parts_606 (by decide) (fun c42 => ?_) (fun c42 => ?_)
                      · have h := ifF h c42
                        refine lv_iconst (v := 0) hx hb dL_parts_613 (by decide) ?_
                        exact lm_end F hP hS hB hr hk rfl h dL_parts_614
                      · have h := ifT h c42
                        refine lv_iconst (v := 1) hx hb dL_parts_609 (by decide) ?_
                        refine lv_goto (tgt := 614) hx hb dL_parts_610 (by decide) ?_
                        exact lm_end F hP hS hB hr hk rfl h dL_parts_614
      · have h := ifF h c25
        refine lv_aload_n hx hb dL_parts_341 rfl (lv_at hl 0 rfl) ?_
        refine lv_iload hx hb dL_parts_342 (lv_at hl 5 rfl) ?_
        refine lv_bipush (v := 6) hx hb dL_parts_344 (by decide) ?_
        obtain ⟨r43, G43, e43, h⟩ := bsome2 h
        refine lh_i (B' := (n334 * 25 + 36)) F hP hK hE hS hB kl_of mw_689 (ql_of l hst D Y ad hI G x5 (6 : Int32) r43 G43 e43) rfl hl.1 ⟨Nat.le_of_ble_eq_true rfl, Nat.le_of_ble_eq_true rfl⟩ (rest := []) rfl (Nat.le_of_ble_eq_true rfl) (by omega) dL_parts_346 (fun H locs cells slots hP hS hkp hB => ?_)
        have hA_m1 := hA_m1.kp hkp
        refine lv_istore (lv' := [(6, .int r43), (0, .ref (ad 77)), (1, .ref q_m1), (2, .int x2), (3, .int x3), (4, .int x4), (5, .int x5)]) hx hb dL_parts_349 hl (by decide) rfl (fun ls hl => ?_)
        refine lv_aload_n hx hb dL_parts_351 rfl (lv_at hl 1 rfl) ?_
        refine lv_iload hx hb dL_parts_352 (lv_at hl 0 rfl) ?_
        refine lv_iconst (v := 4) hx hb dL_parts_354 (by decide) ?_
        obtain ⟨r44, G44, e44, h⟩ := bsome2 h
        refine lh_i (B' := (n334 * 25 + 34)) F hP hK hE hS hB kl_barOf mw_735 (ql_barOf l hst D Y ad hI G43 r43 (4 : Int32) r44 G44 e44) rfl hl.1 ⟨Nat.le_of_ble_eq_true rfl, Nat.le_of_ble_eq_true rfl⟩ (rest := []) rfl (Nat.le_of_ble_eq_true rfl) (by omega) dL_parts_355 (fun H locs cells slots hP hS hkp hB => ?_)
        have hA_m1 := hA_m1.kp hkp
        refine lv_aload_n hx hb dL_parts_358 rfl (lv_at hl 2 rfl) ?_
        refine lv_iload hx hb dL_parts_359 (lv_at hl 6 rfl) ?_
        obtain ⟨b45, h⟩ := ckS h
        refine mx_row F hA_m1 b45 dL_parts_361 (fun hw46 => ?_)
        refine lv_iconst (v := 4) hx hb dL_parts_362 (by decide) ?_
        refine ai_ldk F (hA_m1.2.2.1 _ hw46).2 (k := 4) (by decide) (inbV (by decide) (by decide)) dL_parts_363 ?_
        refine lv_icmp_gt (tgt := 395) hx hb dL_parts_364 (by decide) (fun c47 => ?_) (fun c47 => ?_)
        · have h := ifT h c47
          exact key395 x5 G44 q_m1 r_m1 _ _ _ _ hf_m1 hP hS hA_m1 (hB.le (by omega)) ls (lv_sub hl [1, 2, 3, 4, 5, 6] rfl) h
        · have h := ifF h c47
          refine lv_aload_n hx hb dL_parts_367 rfl (lv_at hl 1 rfl) ?_
          refine lv_iload hx hb dL_parts_368 (lv_at hl 0 rfl) ?_
          refine lv_iconst (v := 4) hx hb dL_parts_370 (by decide) ?_
          obtain ⟨r48, G48, e48, h⟩ := bsome2 h
          refine lh_i (B' := (n334 * 25 + 32)) F hP hK hE hS hB kl_barOf mw_735 (ql_barOf l hst D Y ad hI G44 r43 (4 : Int32) r48 G48 e48) rfl hl.1 ⟨Nat.le_of_ble_eq_true rfl, Nat.le_of_ble_eq_true rfl⟩ (rest := []) rfl (Nat.le_of_ble_eq_true rfl) (by omega) dL_parts_371 (fun H locs cells slots hP hS hkp hB => ?_)
          have hA_m1 := hA_m1.kp hkp
          refine lv_aload_n hx hb dL_parts_374 rfl (lv_at hl 1 rfl) ?_
          refine lv_iload hx hb dL_parts_375 (lv_at hl 0 rfl) ?_
          refine lv_iconst (v := 0) hx hb dL_parts_377 (by decide) ?_
          obtain ⟨r49, G49, e49, h⟩ := bsome2 h
          refine lh_i (B' := (n334 * 25 + 30)) F hP hK hE hS hB kl_barOf mw_735 (ql_barOf l hst D Y ad hI G48 r43 (0 : Int32) r49 G49 e49) rfl hl.1 ⟨Nat.le_of_ble_eq_true rfl, Nat.le_of_ble_eq_true rfl⟩ (rest := [.int r48]) rfl (Nat.le_of_ble_eq_true rfl) (by omega) dL_parts_378 (fun H locs cells slots hP hS hkp hB => ?_)
          have hA_m1 := hA_m1.kp hkp
          refine lv_iadd hx hb dL_parts_381 ?_
          refine lv_aload_n hx hb dL_parts_382 rfl (lv_at hl 2 rfl) ?_
          refine lv_iload hx hb dL_parts_383 (lv_at hl 6 rfl) ?_
          obtain ⟨b50, h⟩ := ckS h
          refine mx_row F hA_m1 b50 dL_parts_385 (fun hw51 => ?_)
          refine lv_iconst (v := 4) hx hb dL_parts_386 (by decide) ?_
          refine ai_ldk F (hA_m1.2.2.1 _ hw51).2 (k := 4) (by decide) (inbV (by decide) (by decide)) dL_parts_387 ?_
          refine lv_icmp_le (tgt := 395) hx hb dL_parts_388 (by decide) (fun c52 => ?_) (fun c52 => ?_)
          · have h := ifT h c52
            exact key395 x5 G49 q_m1 r_m1 _ _ _ _ hf_m1 hP hS hA_m1 (hB.le (by omega)) ls (lv_sub hl [1, 2, 3, 4, 5, 6] rfl) h
          · have h := ifF h c52
            refine lv_iconst (v := 1) hx hb dL_parts_391 (by decide) ?_
            refine lv_goto (tgt := 396) hx hb dL_parts_392 (by decide) ?_
            exact key396 x5 (1 : Int32) G49 q_m1 r_m1 _ _ _ _ hf_m1 hP hS hA_m1 (hB.le (by omega)) ls (lv_sub hl [1, 2, 3, 4, 5, 6] rfl) h
  have key15 : ∀ (n_m1 : Nat) (S_m1 : Nat → Nat → Int32) (n : Nat) (G : GT) (x2 : Int32) (x3 : Int32) (x4 : Int32) (x5 : Int32) (q_m1 : Nat) (r_m1 : Nat → Nat) (H : Heap) (locs : List Loc) (cells slots : Nat), (s.heap.size ≤ q_m1 ∧ ∀ i, i < n_m1 → s.heap.size ≤ r_m1 i) → va_P D vwCl (wsC Y ad G) H → va_S (AW 90 ad) s.heap H locs → MX Y ad q_m1 n_m1 r_m1 S_m1 H → Bg 2506 cells slots (n * 220 + 438) → ∀ ls : Array Slot, lv_has ls 14 [(0, .ref (ad 77)), (1, .ref q_m1), (2, .int x2), (3, .int x3), (4, .int x4), (5, .int x5)] → f_L_parts_15   n_m1 S_m1 n G x2 x3 x4 x5 = some (r, G') → W p l ev (rmD 12 2506 (16 * 2506)) s m ([.ref (ad 77)] : List Value).toArray below meth c H locs cells slots (MQ below (LQ (PI (some .boolean) r D Y ad G') (AW 90 ad)) ([.ref (ad 77)] : List Value).toArray s 2506 (16 * 2506) (AW 90 ad)) (F0 m 15 ls []) := by
    intro n_m1 S_m1
    intro n
    induction n with
    | zero => intro G x2 x3 x4 x5 q_m1 r_m1 H locs cells slots hf_m1 hP hS hA_m1 hB ls hl h; exact lqZ5 h
    | succ n15 ih15 =>
      have key46 : ∀ (x2 : Int32) (x3 : Int32) (x4 : Int32) (x5 : Int32) (x6 : Int32) (n : Nat) (G : GT) (x7 : Int32) (x8 : Int32) (x9 : Int32) (x10 : Int32) (q_m1 : Nat) (r_m1 : Nat → Nat) (H : Heap) (locs : List Loc) (cells slots : Nat), (s.heap.size ≤ q_m1 ∧ ∀ i, i < n_m1 → s.heap.size ≤ r_m1 i) → va_P D vwCl (wsC Y ad G) H → va_S (AW 90 ad) s.heap H locs → MX Y ad q_m1 n_m1 r_m1 S_m1 H → Bg 2506 cells slots (n * 12 + n15 * 220 + 451) → ∀ ls : Array Slot, lv_has ls 14 [(0, .ref (ad 77)), (1, .ref q_m1), (2, .int x2), (3, .int x3), (4, .int x4), (5, .int x5), (6, .int x6), (7, .int x7), (8, .int x8), (9, .int x9), (10, .int x10)] → f_L_parts_46  (f_L_parts_15   n_m1 S_m1 n15) n_m1 S_m1 x2 x3 x4 x5 x6 n G x7 x8 x9 x10 = some (r, G') → W p l ev (rmD 12 2506 (16 * 2506)) s m ([.ref (ad 77)] : List Value).toArray below meth c H locs cells slots (MQ below (LQ (PI (some .boolean) r D Y ad G') (AW 90 ad)) ([.ref (ad 77)] : List Value).toArray s 2506 (16 * 2506) (AW 90 ad)) (F0 m 46 ls []) := by
        intro x2 x3 x4 x5 x6
        intro n
        induction n with
        | zero => intro G x7 x8 x9 x10 q_m1 r_m1 H locs cells slots hf_m1 hP hS hA_m1 hB ls hl h; exact lqZ5 h
        | succ n46 ih46 =>
          have key226 : ∀ (x7 : Int32) (x8 : Int32) (x9 : Int32) (x10 : Int32) (G : GT) (q_m1 : Nat) (r_m1 : Nat → Nat) (H : Heap) (locs : List Loc) (cells slots : Nat), (s.heap.size ≤ q_m1 ∧ ∀ i, i < n_m1 → s.heap.size ≤ r_m1 i) → va_P D vwCl (wsC Y ad G) H → va_S (AW 90 ad) s.heap H locs → MX Y ad q_m1 n_m1 r_m1 S_m1 H → Bg 2506 cells slots (n15 * 220 + n46 * 12 + 451) → ∀ ls : Array Slot, lv_has ls 14 [(0, .ref (ad 77)), (1, .ref q_m1), (2, .int x2), (3, .int x3), (4, .int x4), (5, .int x5), (6, .int x6), (7, .int x7), (8, .int x8), (9, .int x9), (10, .int x10)] → f_L_parts_226  (f_L_parts_15   n_m1 S_m1 n15) (f_L_parts_46  (f_L_parts_15   n_m1 S_m1 n15) n_m1 S_m1 x2 x3 x4 x5 x6 n46) n_m1 S_m1 x2 x3 x4 x5 x6 x7 x8 x9 x10 G = some (r, G') → W p l ev (rmD 12 2506 (16 * 2506)) s m ([.ref (ad 77)] : List Value).toArray below meth c H locs cells slots (MQ below (LQ (PI (some .boolean) r D Y ad G') (AW 90 ad)) ([.ref (ad 77)] : List Value).toArray s 2506 (16 * 2506) (AW 90 ad)) (F0 m 226 ls []) := by
            intro x7 x8 x9 x10 G q_m1 r_m1 H locs cells slots hf_m1 hP hS hA_m1 hB ls hl h
            refine lv_iinc (v := (x10 + 1)) (lv' := [(10, .int (x10 + 1)), (0, .ref (ad 77)), (1, .ref q_m1), (2, .int x2), (3, .int x3), (4, .int x4), (5, .int x5), (6, .int x6), (7, .int x7), (8, .int x8), (9, .int x9)]) hx hb dL_parts_226 hl (k := 10) rfl rfl (by decide) rfl (fun ls hl => ?_)
            refine lv_goto (tgt := 46) hx hb dL_parts_229 (by decide) ?_
            exact ih46 G x7 x8 x9 (x10 + 1) q_m1 r_m1 _ _ _ _ hf_m1 hP hS hA_m1 (hB.le (by omega)) ls (lv_sub hl [1, 2, 3, 4, 5, 6, 7, 8, 9, 10, 0] rfl) h
          have key204 : ∀ (x7 : Int32) (x8 : Int32) (x9 : Int32) (x10 : Int32) (x11 : Int32) (x12 : Int32) (s204_0 : Int32) (G : GT) (q_m1 : Nat) (r_m1 : Nat → Nat) (H : Heap) (locs : List Loc) (cells slots : Nat), (s.heap.size ≤ q_m1 ∧ ∀ i, i < n_m1 → s.heap.size ≤ r_m1 i) → va_P D vwCl (wsC Y ad G) H → va_S (AW 90 ad) s.heap H locs → MX Y ad q_m1 n_m1 r_m1 S_m1 H → Bg 2506 cells slots (n15 * 220 + n46 * 12 + 451) → ∀ ls : Array Slot, lv_has ls 14 [(0, .ref (ad 77)), (1, .ref q_m1), (2, .int x2), (3, .int x3), (4, .int x4), (5, .int x5), (6, .int x6), (7, .int x7), (8, .int x8), (9, .int x9), (10, .int x10), (11, .int x11), (12, .int x12)] → f_L_parts_204  (f_L_parts_15   n_m1 S_m1 n15) (f_L_parts_46  (f_L_parts_15   n_m1 S_m1 n15) n_m1 S_m1 x2 x3 x4 x5 x6 n46) n_m1 S_m1 x2 x3 x4 x5 x6 x7 x8 x9 x10 x11 x12 s204_0 G = some (r, G') → W p l ev (rmD 12 2506 (16 * 2506)) s m ([.ref (ad 77)] : List Value).toArray below meth c H locs cells slots (MQ below (LQ (PI (some .boolean) r D Y ad G') (AW 90 ad)) ([.ref (ad 77)] : List Value).toArray s 2506 (16 * 2506) (AW 90 ad)) (F0 m 204 ls [.int s204_0]) := by
            intro x7 x8 x9 x10 x11 x12 s204_0 G q_m1 r_m1 H locs cells slots hf_m1 hP hS hA_m1 hB ls hl h
            refine lv_istore (lv' := [(13, .int s204_0), (0, .ref (ad 77)), (1, .ref q_m1), (2, .int x2), (3, .int x3), (4, .int x4), (5, .int x5), (6, .int x6), (7, .int x7), (8, .int x8), (9, .int x9), (10, .int x10), (11, .int x11), (12, .int x12)]) hx hb dL_parts_204 hl (by decide) rfl (fun ls hl => ?_)
            refine lv_iload hx hb dL_parts_206 (lv_at hl 0 rfl) ?_
            refine lv_if_ne (tgt := 213) hx hb dL_parts_208 (by decide) (fun c53 => ?_) (fun c53 => ?_)
            · have h := ifF h c53
              refine lv_iinc (v := (x7 + 1)) (lv' := [(7, .int (x7 + 1)), (13, .int s204_0), (0, .ref (ad 77)), (1, .ref q_m1), (2, .int x2), (3, .int x3), (4, .int x4), (5, .int x5), (6, .int x6), (8, .int x8), (9, .int x9), (10, .int x10), (11, .int x11), (12, .int x12)]) hx hb dL_parts_213 hl (k := 8) rfl rfl (by decide) rfl (fun ls hl => ?_)
              refine lv_iload hx hb dL_parts_216 (lv_at hl 9 rfl) ?_
              refine lv_iload hx hb dL_parts_218 (lv_at hl 13 rfl) ?_
              refine lv_iload hx hb dL_parts_220 (lv_at hl 12 rfl) ?_
              refine lv_isub hx hb dL_parts_222 ?_
              refine lv_iadd hx hb dL_parts_223 ?_
              refine lv_istore (lv' := [(8, .int (x8 + (x12 - x11))), (7, .int (x7 + 1)), (13, .int s204_0), (0, .ref (ad 77)), (1, .ref q_m1), (2, .int x2), (3, .int x3), (4, .int x4), (5, .int x5), (6, .int x6), (9, .int x9), (10, .int x10), (11, .int x11), (12, .int x12)]) hx hb dL_parts_224 hl (by decide) rfl (fun ls hl => ?_)
              exact key226 (x7 + 1) (x8 + (x12 - x11)) x9 x10 G q_m1 r_m1 _ _ _ _ hf_m1 hP hS hA_m1 (hB.le (by omega)) ls (lv_sub hl [3, 4, 5, 6, 7, 8, 9, 1, 0, 10, 11] rfl) h
            · have h := ifT h c53
              refine lv_iconst (v := 0) hx hb dL_parts_211 (by decide) ?_
              exact lm_end F hP hS hB hr hk rfl h dL_parts_212
          have key203 : ∀ (x7 : Int32) (x8 : Int32) (x9 : Int32) (x10 : Int32) (x11 : Int32) (x12 : Int32) (G : GT) (q_m1 : Nat) (r_m1 : Nat → Nat) (H : Heap) (locs : List Loc) (cells slots : Nat), (s.heap.size ≤ q_m1 ∧ ∀ i, i < n_m1 → s.heap.size ≤ r_m1 i) → va_P D vwCl (wsC Y ad G) H → va_S (AW 90 ad) s.heap H locs → MX Y ad q_m1 n_m1 r_m1 S_m1 H → Bg 2506 cells slots (n15 * 220 + n46 * 12 + 451) → ∀ ls : Array Slot, lv_has ls 14 [(0, .ref (ad 77)), (1, .ref q_m1), (2, .int x2), (3, .int x3), (4, .int x4), (5, .int x5), (6, .int x6), (7, .int x7), (8, .int x8), (9, .int x9), (10, .int x10), (11, .int x11), (12, .int x12)] → f_L_parts_203  (f_L_parts_15   n_m1 S_m1 n15) (f_L_parts_46  (f_L_parts_15   n_m1 S_m1 n15) n_m1 S_m1 x2 x3 x4 x5 x6 n46) n_m1 S_m1 x2 x3 x4 x5 x6 x7 x8 x9 x10 x11 x12 G = some (r, G') → W p l ev (rmD 12 2506 (16 * 2506)) s m ([.ref (ad 77)] : List Value).toArray below meth c H locs cells slots (MQ below (LQ (PI (some .boolean) r D Y ad G') (AW 90 ad)) ([.ref (ad 77)] : List Value).toArray s 2506 (16 * 2506) (AW 90 ad)) (F0 m 203 ls []) := by
            intro x7 x8 x9 x10 x11 x12 G q_m1 r_m1 H locs cells slots hf_m1 hP hS hA_m1 hB ls hl h
            refine lv_iconst (v := 0) hx hb dL_parts_203 (by decide) ?_
            exact key204 x7 x8 x9 x10 x11 x12 (0 : Int32) G q_m1 r_m1 _ _ _ _ hf_m1 hP hS hA_m1 (hB.le (by omega)) ls (lv_sub hl [0, 1, 2, 3, 4, 5, 6, 7, 8, 9, 10, 11, 12] rfl) h
          have key182 : ∀ (x7 : Int32) (x8 : Int32) (x9 : Int32) (x10 : Int32) (x11 : Int32) (x12 : Int32) (s182_0 : Int32) (s182_1 : Int32) (G : GT) (q_m1 : Nat) (r_m1 : Nat → Nat) (H : Heap) (locs : List Loc) (cells slots : Nat), (s.heap.size ≤ q_m1 ∧ ∀ i, i < n_m1 → s.heap.size ≤ r_m1 i) → va_P D vwCl (wsC Y ad G) H → va_S (AW 90 ad) s.heap H locs → MX Y ad q_m1 n_m1 r_m1 S_m1 H → Bg 2506 cells slots (n15 * 220 + n46 * 12 + 454) → ∀ ls : Array Slot, lv_has ls 14 [(0, .ref (ad 77)), (1, .ref q_m1), (2, .int x2), (3, .int x3), (4, .int x4), (5, .int x5), (6, .int x6), (7, .int x7), (8, .int x8), (9, .int x9), (10, .int x10), (11, .int x11), (12, .int x12)] → f_L_parts_182  (f_L_parts_15   n_m1 S_m1 n15) (f_L_parts_46  (f_L_parts_15   n_m1 S_m1 n15) n_m1 S_m1 x2 x3 x4 x5 x6 n46) n_m1 S_m1 x2 x3 x4 x5 x6 x7 x8 x9 x10 x11 x12 s182_0 s182_1 G = some (r, G') → W p l ev (rmD 12 2506 (16 * 2506)) s m ([.ref (ad 77)] : List Value).toArray below meth c H locs cells slots (MQ below (LQ (PI (some .boolean) r D Y ad G') (AW 90 ad)) ([.ref (ad 77)] : List Value).toArray s 2506 (16 * 2506) (AW 90 ad)) (F0 m 182 ls [.int s182_0, .int s182_1]) := by
            intro x7 x8 x9 x10 x11 x12 s182_0 s182_1 G q_m1 r_m1 H locs cells slots hf_m1 hP hS hA_m1 hB ls hl h
            refine lv_icmp_ne (tgt := 203) hx hb dL_parts_182 (by decide) (fun c54 => ?_) (fun c54 => ?_)
            · have h := ifF h c54
              exact key203 x7 x8 x9 x10 x11 x12 G q_m1 r_m1 _ _ _ _ hf_m1 hP hS hA_m1 (hB.le (by omega)) ls (lv_sub hl [0, 1, 2, 3, 4, 5, 6, 7, 8, 9, 10, 11, 12] rfl) h
            · have h := ifT h c54
              refine lv_aload_n hx hb dL_parts_185 rfl (lv_at hl 0 rfl) ?_
              refine lv_iload hx hb dL_parts_186 (lv_at hl 5 rfl) ?_
              refine lv_iload hx hb dL_parts_188 (lv_at hl 7 rfl) ?_
              refine lv_iconst (v := 3) hx hb dL_parts_190 (by decide) ?_
              obtain ⟨r55, G55, e55, h⟩ := bsome2 h
              refine lh_i (B' := (n15 * 220 + n46 * 12 + 451)) F hP hK hE hS hB kl_part mw_763 (ql_part l hst D Y ad hI G x5 x7 (3 : Int32) r55 G55 e55) rfl hl.1 ⟨Nat.le_of_ble_eq_true rfl, Nat.le_of_ble_eq_true rfl⟩ (rest := []) rfl (Nat.le_of_ble_eq_true rfl) (by omega) dL_parts_191 (fun H locs cells slots hP hS hkp hB => ?_)
              have hA_m1 := hA_m1.kp hkp
              refine lv_bipush (v := (-12)) hx hb dL_parts_194 (by decide) ?_
              refine lv_icmp_ne (tgt := 203) hx hb dL_parts_196 (by decide) (fun c56 => ?_) (fun c56 => ?_)
              · have h := ifF h c56
                exact key203 x7 x8 x9 x10 x11 x12 G55 q_m1 r_m1 _ _ _ _ hf_m1 hP hS hA_m1 (hB.le (by omega)) ls (lv_sub hl [0, 1, 2, 3, 4, 5, 6, 7, 8, 9, 10, 11, 12] rfl) h
              · have h := ifT h c56
                refine lv_iconst (v := 1) hx hb dL_parts_199 (by decide) ?_
                refine lv_goto (tgt := 204) hx hb dL_parts_200 (by decide) ?_
                exact key204 x7 x8 x9 x10 x11 x12 (1 : Int32) G55 q_m1 r_m1 _ _ _ _ hf_m1 hP hS hA_m1 (hB.le (by omega)) ls (lv_sub hl [0, 1, 2, 3, 4, 5, 6, 7, 8, 9, 10, 11, 12] rfl) h
          have key117 : ∀ (x7 : Int32) (x8 : Int32) (x10 : Int32) (x11 : Int32) (x12 : Int32) (s117_0 : Int32) (s117_1 : Int32) (G : GT) (q_m1 : Nat) (r_m1 : Nat → Nat) (H : Heap) (locs : List Loc) (cells slots : Nat), (s.heap.size ≤ q_m1 ∧ ∀ i, i < n_m1 → s.heap.size ≤ r_m1 i) → va_P D vwCl (wsC Y ad G) H → va_S (AW 90 ad) s.heap H locs → MX Y ad q_m1 n_m1 r_m1 S_m1 H → Bg 2506 cells slots (n15 * 220 + n46 * 12 + 463) → ∀ ls : Array Slot, lv_has ls 14 [(0, .ref (ad 77)), (1, .ref q_m1), (2, .int x2), (3, .int x3), (4, .int x4), (5, .int x5), (6, .int x6), (7, .int x7), (8, .int x8), (10, .int x10), (11, .int x11), (12, .int x12)] → f_L_parts_117  (f_L_parts_15   n_m1 S_m1 n15) (f_L_parts_46  (f_L_parts_15   n_m1 S_m1 n15) n_m1 S_m1 x2 x3 x4 x5 x6 n46) n_m1 S_m1 x2 x3 x4 x5 x6 x7 x8 x10 x11 x12 s117_0 s117_1 G = some (r, G') → W p l ev (rmD 12 2506 (16 * 2506)) s m ([.ref (ad 77)] : List Value).toArray below meth c H locs cells slots (MQ below (LQ (PI (some .boolean) r D Y ad G') (AW 90 ad)) ([.ref (ad 77)] : List Value).toArray s 2506 (16 * 2506) (AW 90 ad)) (F0 m 117 ls [.int s117_0, .int s117_1]) := by
            intro x7 x8 x10 x11 x12 s117_0 s117_1 G q_m1 r_m1 H locs cells slots hf_m1 hP hS hA_m1 hB ls hl h
            refine lv_iadd hx hb dL_parts_117 ?_
            refine lv_istore (lv' := [(9, .int (s117_1 + s117_0)), (0, .ref (ad 77)), (1, .ref q_m1), (2, .int x2), (3, .int x3), (4, .int x4), (5, .int x5), (6, .int x6), (7, .int x7), (8, .int x8), (10, .int x10), (11, .int x11), (12, .int x12)]) hx hb dL_parts_118 hl (by decide) rfl (fun ls hl => ?_)
            refine lv_iload hx hb dL_parts_120 (lv_at hl 11 rfl) ?_
            refine lv_iload hx hb dL_parts_122 (lv_at hl 12 rfl) ?_
            refine lv_icmp_ge (tgt := 226) hx hb dL_parts_124 (by decide) (fun c57 => ?_) (fun c57 => ?_)
            · have h := ifT h c57
              exact key226 x7 x8 (s117_1 + s117_0) x10 G q_m1 r_m1 _ _ _ _ hf_m1 hP hS hA_m1 (hB.le (by omega)) ls (lv_sub hl [1, 2, 3, 4, 5, 6, 7, 8, 9, 0, 10] rfl) h
            · have h := ifF h c57
              refine lv_aload_n hx hb dL_parts_127 rfl (lv_at hl 1 rfl) ?_
              refine lv_iload hx hb dL_parts_128 (lv_at hl 6 rfl) ?_
              refine lv_iload hx hb dL_parts_130 (lv_at hl 8 rfl) ?_
              refine lv_iconst (v := 0) hx hb dL_parts_132 (by decide) ?_
              obtain ⟨r58, G58, e58, h⟩ := bsome2 h
              refine lh_i (B' := (n15 * 220 + n46 * 12 + 460)) F hP hK hE hS hB kl_part mw_763 (ql_part l hst D Y ad hI G x5 x7 (0 : Int32) r58 G58 e58) rfl hl.1 ⟨Nat.le_of_ble_eq_true rfl, Nat.le_of_ble_eq_true rfl⟩ (rest := []) rfl (Nat.le_of_ble_eq_true rfl) (by omega) dL_parts_133 (fun H locs cells slots hP hS hkp hB => ?_)
              have hA_m1 := hA_m1.kp hkp
              refine lv_iload hx hb dL_parts_136 (lv_at hl 10 rfl) ?_
              refine lv_icmp_ne (tgt := 203) hx hb dL_parts_138 (by decide) (fun c59 => ?_) (fun c59 => ?_)
              · have h := ifF h c59
                exact key203 x7 x8 (s117_1 + s117_0) x10 x11 x12 G58 q_m1 r_m1 _ _ _ _ hf_m1 hP hS hA_m1 (hB.le (by omega)) ls (lv_sub hl [1, 2, 3, 4, 5, 6, 7, 8, 9, 0, 10, 11, 12] rfl) h
              · have h := ifT h c59
                refine lv_aload_n hx hb dL_parts_141 rfl (lv_at hl 1 rfl) ?_
                refine lv_iload hx hb dL_parts_142 (lv_at hl 6 rfl) ?_
                refine lv_iload hx hb dL_parts_144 (lv_at hl 8 rfl) ?_
                refine lv_iconst (v := 1) hx hb dL_parts_146 (by decide) ?_
                obtain ⟨r60, G60, e60, h⟩ := bsome2 h
                refine lh_i (B' := (n15 * 220 + n46 * 12 + 457)) F hP hK hE hS hB kl_part mw_763 (ql_part l hst D Y ad hI G58 x5 x7 (1 : Int32) r60 G60 e60) rfl hl.1 ⟨Nat.le_of_ble_eq_true rfl, Nat.le_of_ble_eq_true rfl⟩ (rest := []) rfl (Nat.le_of_ble_eq_true rfl) (by omega) dL_parts_147 (fun H locs cells slots hP hS hkp hB => ?_)
                have hA_m1 := hA_m1.kp hkp
                refine lv_iload hx hb dL_parts_150 (lv_at hl 12 rfl) ?_
                refine lv_iload hx hb dL_parts_152 (lv_at hl 11 rfl) ?_
                refine lv_isub hx hb dL_parts_154 ?_
                refine lv_icmp_ne (tgt := 203) hx hb dL_parts_155 (by decide) (fun c61 => ?_) (fun c61 => ?_)
                · have h := ifF h c61
                  exact key203 x7 x8 (s117_1 + s117_0) x10 x11 x12 G60 q_m1 r_m1 _ _ _ _ hf_m1 hP hS hA_m1 (hB.le (by omega)) ls (lv_sub hl [1, 2, 3, 4, 5, 6, 7, 8, 9, 0, 10, 11, 12] rfl) h
                · have h := ifT h c61
                  refine lv_aload_n hx hb dL_parts_158 rfl (lv_at hl 1 rfl) ?_
                  refine lv_iload hx hb dL_parts_159 (lv_at hl 6 rfl) ?_
                  refine lv_iload hx hb dL_parts_161 (lv_at hl 8 rfl) ?_
                  refine lv_iconst (v := 2) hx hb dL_parts_163 (by decide) ?_
                  obtain ⟨r62, G62, e62, h⟩ := bsome2 h
                  refine lh_i (B' := (n15 * 220 + n46 * 12 + 454)) F hP hK hE hS hB kl_part mw_763 (ql_part l hst D Y ad hI G60 x5 x7 (2 : Int32) r62 G62 e62) rfl hl.1 ⟨Nat.le_of_ble_eq_true rfl, Nat.le_of_ble_eq_true rfl⟩ (rest := []) rfl (Nat.le_of_ble_eq_true rfl) (by omega) dL_parts_164 (fun H locs cells slots hP hS hkp hB => ?_)
                  have hA_m1 := hA_m1.kp hkp
                  refine lv_aload_n hx hb dL_parts_167 rfl (lv_at hl 2 rfl) ?_
                  refine lv_iload hx hb dL_parts_168 (lv_at hl 10 rfl) ?_
                  obtain ⟨b63, h⟩ := ckS h
                  refine mx_row F hA_m1 b63 dL_parts_170 (fun hw64 => ?_)
                  refine lv_iconst (v := 4) hx hb dL_parts_171 (by decide) ?_
                  refine ai_ldk F (hA_m1.2.2.1 _ hw64).2 (k := 4) (by decide) (inbV (by decide) (by decide)) dL_parts_172 ?_
                  refine lv_iload_n hx hb dL_parts_173 rfl (lv_at hl 3 rfl) ?_
                  refine lv_icmp_ge (tgt := 181) hx hb dL_parts_174 (by decide) (fun c65 => ?_) (fun c65 => ?_)
                  · have h := ifT h c65
                    refine lv_iconst (v := 0) hx hb dL_parts_181 (by decide) ?_
                    exact key182 x7 x8 (s117_1 + s117_0) x10 x11 x12 (0 : Int32) r62 G62 q_m1 r_m1 _ _ _ _ hf_m1 hP hS hA_m1 (hB.le (by omega)) ls (lv_sub hl [1, 2, 3, 4, 5, 6, 7, 8, 9, 0, 10, 11, 12] rfl) h
                  · have h := ifF h c65
                    refine lv_iconst (v := 1) hx hb dL_parts_177 (by decide) ?_
                    refine lv_goto (tgt := 182) hx hb dL_parts_178 (by decide) ?_
                    exact key182 x7 x8 (s117_1 + s117_0) x10 x11 x12 (1 : Int32) r62 G62 q_m1 r_m1 _ _ _ _ hf_m1 hP hS hA_m1 (hB.le (by omega)) ls (lv_sub hl [1, 2, 3, 4, 5, 6, 7, 8, 9, 0, 10, 11, 12] rfl) h
          have key116 : ∀ (x7 : Int32) (x8 : Int32) (x10 : Int32) (x11 : Int32) (x12 : Int32) (s116_0 : Int32) (G : GT) (q_m1 : Nat) (r_m1 : Nat → Nat) (H : Heap) (locs : List Loc) (cells slots : Nat), (s.heap.size ≤ q_m1 ∧ ∀ i, i < n_m1 → s.heap.size ≤ r_m1 i) → va_P D vwCl (wsC Y ad G) H → va_S (AW 90 ad) s.heap H locs → MX Y ad q_m1 n_m1 r_m1 S_m1 H → Bg 2506 cells slots (n15 * 220 + n46 * 12 + 463) → ∀ ls : Array Slot, lv_has ls 14 [(0, .ref (ad 77)), (1, .ref q_m1), (2, .int x2), (3, .int x3), (4, .int x4), (5, .int x5), (6, .int x6), (7, .int x7), (8, .int x8), (10, .int x10), (11, .int x11), (12, .int x12)] → f_L_parts_116  (f_L_parts_15   n_m1 S_m1 n15) (f_L_parts_46  (f_L_parts_15   n_m1 S_m1 n15) n_m1 S_m1 x2 x3 x4 x5 x6 n46) n_m1 S_m1 x2 x3 x4 x5 x6 x7 x8 x10 x11 x12 s116_0 G = some (r, G') → W p l ev (rmD 12 2506 (16 * 2506)) s m ([.ref (ad 77)] : List Value).toArray below meth c H locs cells slots (MQ below (LQ (PI (some .boolean) r D Y ad G') (AW 90 ad)) ([.ref (ad 77)] : List Value).toArray s 2506 (16 * 2506) (AW 90 ad)) (F0 m 116 ls [.int s116_0]) := by
            intro x7 x8 x10 x11 x12 s116_0 G q_m1 r_m1 H locs cells slots hf_m1 hP hS hA_m1 hB ls hl h
            refine lv_iconst (v := 0) hx hb dL_parts_116 (by decide) ?_
            exact key117 x7 x8 x10 x11 x12 (0 : Int32) s116_0 G q_m1 r_m1 _ _ _ _ hf_m1 hP hS hA_m1 (hB.le (by omega)) ls (lv_sub hl [0, 1, 2, 3, 4, 5, 6, 7, 8, 9, 10, 11] rfl) h
          intro G x7 x8 x9 x10 q_m1 r_m1 H locs cells slots hf_m1 hP hS hA_m1 hB ls hl h
          have h := lqS5 h
          refine lv_iload hx hb dL_parts_46 (lv_at hl 10 rfl) ?_
          refine lv_aload_n hx hb dL_parts_48 rfl (lv_at hl 1 rfl) ?_
          refine mx_len F hA_m1 dL_parts_49 ?_
          refine lv_icmp_ge (tgt := 232) hx hb dL_parts_50 (by decide) (fun c66 => ?_) (fun c66 => ?_)
          · have h := ifT h c66
            refine lv_aload_n hx hb dL_parts_232 rfl (lv_at hl 0 rfl) ?_
            refine lv_iload hx hb dL_parts_233 (lv_at hl 5 rfl) ?_
            refine lv_iconst (v := 1) hx hb dL_parts_235 (by decide) ?_
            obtain ⟨r67, G67, e67, h⟩ := bsome2 h
            refine lh_i (B' := (n46 * 12 + n15 * 220 + 461)) F hP hK hE hS hB kl_barOf mw_735 (ql_barOf l hst D Y ad hI G x5 (1 : Int32) r67 G67 e67) rfl hl.1 ⟨Nat.le_of_ble_eq_true rfl, Nat.le_of_ble_eq_true rfl⟩ (rest := []) rfl (Nat.le_of_ble_eq_true rfl) (by omega) dL_parts_236 (fun H locs cells slots hP hS hkp hB => ?_)
            have hA_m1 := hA_m1.kp hkp
            refine lv_iload hx hb dL_parts_239 (lv_at hl 8 rfl) ?_
            refine lv_icmp_ne (tgt := 306) hx hb dL_parts_241 (by decide) (fun c68 => ?_) (fun c68 => ?_)
            · have h := ifF h c68
              refine lv_iconst (v := 0) hx hb dL_parts_306 (by decide) ?_
              exact lm_end F hP hS hB hr hk rfl h dL_parts_307
            · have h := ifT h c68
              refine lv_aload_n hx hb dL_parts_244 rfl (lv_at hl 0 rfl) ?_
              refine lv_iload hx hb dL_parts_245 (lv_at hl 5 rfl) ?_
              refine lv_iconst (v := 2) hx hb dL_parts_247 (by decide) ?_
              obtain ⟨r69, G69, e69, h⟩ := bsome2 h
              refine lh_i (B' := (n46 * 12 + n15 * 220 + 459)) F hP hK hE hS hB kl_barOf mw_735 (ql_barOf l hst D Y ad hI G67 x5 (2 : Int32) r69 G69 e69) rfl hl.1 ⟨Nat.le_of_ble_eq_true rfl, Nat.le_of_ble_eq_true rfl⟩ (rest := []) rfl (Nat.le_of_ble_eq_true rfl) (by omega) dL_parts_248 (fun H locs cells slots hP hS hkp hB => ?_)
              have hA_m1 := hA_m1.kp hkp
              refine lv_iload hx hb dL_parts_251 (lv_at hl 7 rfl) ?_
              refine lv_icmp_ne (tgt := 306) hx hb dL_parts_253 (by decide) (fun c70 => ?_) (fun c70 => ?_)
              · have h := ifF h c70
                refine lv_iconst (v := 0) hx hb dL_parts_306 (by decide) ?_
                exact lm_end F hP hS hB hr hk rfl h dL_parts_307
              · have h := ifT h c70
                refine lv_aload_n hx hb dL_parts_256 rfl (lv_at hl 0 rfl) ?_
                refine lv_iload hx hb dL_parts_257 (lv_at hl 5 rfl) ?_
                refine lv_iconst (v := 3) hx hb dL_parts_259 (by decide) ?_
                obtain ⟨r71, G71, e71, h⟩ := bsome2 h
                refine lh_i (B' := (n46 * 12 + n15 * 220 + 457)) F hP hK hE hS hB kl_barOf mw_735 (ql_barOf l hst D Y ad hI G69 x5 (3 : Int32) r71 G71 e71) rfl hl.1 ⟨Nat.le_of_ble_eq_true rfl, Nat.le_of_ble_eq_true rfl⟩ (rest := []) rfl (Nat.le_of_ble_eq_true rfl) (by omega) dL_parts_260 (fun H locs cells slots hP hS hkp hB => ?_)
                have hA_m1 := hA_m1.kp hkp
                refine lv_iload hx hb dL_parts_263 (lv_at hl 9 rfl) ?_
                refine lv_icmp_ne (tgt := 306) hx hb dL_parts_265 (by decide) (fun c72 => ?_) (fun c72 => ?_)
                · have h := ifF h c72
                  refine lv_iconst (v := 0) hx hb dL_parts_306 (by decide) ?_
                  exact lm_end F hP hS hB hr hk rfl h dL_parts_307
                · have h := ifT h c72
                  refine lv_aload_n hx hb dL_parts_268 rfl (lv_at hl 0 rfl) ?_
                  refine lv_iload hx hb dL_parts_269 (lv_at hl 5 rfl) ?_
                  refine lv_iconst (v := 4) hx hb dL_parts_271 (by decide) ?_
                  obtain ⟨r73, G73, e73, h⟩ := bsome2 h
                  refine lh_i (B' := (n46 * 12 + n15 * 220 + 455)) F hP hK hE hS hB kl_barOf mw_735 (ql_barOf l hst D Y ad hI G71 x5 (4 : Int32) r73 G73 e73) rfl hl.1 ⟨Nat.le_of_ble_eq_true rfl, Nat.le_of_ble_eq_true rfl⟩ (rest := []) rfl (Nat.le_of_ble_eq_true rfl) (by omega) dL_parts_272 (fun H locs cells slots hP hS hkp hB => ?_)
                  have hA_m1 := hA_m1.kp hkp
                  refine lv_iload_n hx hb dL_parts_275 rfl (lv_at hl 2 rfl) ?_
                  refine lv_icmp_ne (tgt := 306) hx hb dL_parts_276 (by decide) (fun c74 => ?_) (fun c74 => ?_)
                  · have h := ifF h c74
                    refine lv_iconst (v := 0) hx hb dL_parts_306 (by decide) ?_
                    exact lm_end F hP hS hB hr hk rfl h dL_parts_307
                  · have h := ifT h c74
                    refine lv_aload_n hx hb dL_parts_279 rfl (lv_at hl 0 rfl) ?_
                    refine lv_iload hx hb dL_parts_280 (lv_at hl 5 rfl) ?_
                    refine lv_iconst (v := 5) hx hb dL_parts_282 (by decide) ?_
                    obtain ⟨r75, G75, e75, h⟩ := bsome2 h
                    refine lh_i (B' := (n46 * 12 + n15 * 220 + 453)) F hP hK hE hS hB kl_barOf mw_735 (ql_barOf l hst D Y ad hI G73 x5 (5 : Int32) r75 G75 e75) rfl hl.1 ⟨Nat.le_of_ble_eq_true rfl, Nat.le_of_ble_eq_true rfl⟩ (rest := []) rfl (Nat.le_of_ble_eq_true rfl) (by omega) dL_parts_283 (fun H locs cells slots hP hS hkp hB => ?_)
                    have hA_m1 := hA_m1.kp hkp
                    refine lv_bipush (v := (-12)) hx hb dL_parts_286 (by decide) ?_
                    refine lv_icmp_ne (tgt := 306) hx hb dL_parts_288 (by decide) (fun c76 => ?_) (fun c76 => ?_)
                    · have h := ifF h c76
                      refine lv_iconst (v := 0) hx hb dL_parts_306 (by decide) ?_
                      exact lm_end F hP hS hB hr hk rfl h dL_parts_307
                    · have h := ifT h c76
                      refine lv_aload_n hx hb dL_parts_291 rfl (lv_at hl 0 rfl) ?_
                      refine lv_iload hx hb dL_parts_292 (lv_at hl 5 rfl) ?_
                      refine lv_iload hx hb dL_parts_294 (lv_at hl 7 rfl) ?_
                      refine lv_bipush (v := 9) hx hb dL_parts_296 (by decide) ?_
                      obtain ⟨r77, G77, e77, h⟩ := bsome2 h
                      refine lh_i (B' := (n46 * 12 + n15 * 220 + 450)) F hP hK hE hS hB kl_part mw_763 (ql_part l hst D Y ad hI G75 x5 x7 (9 : Int32) r77 G77 e77) rfl hl.1 ⟨Nat.le_of_ble_eq_true rfl, Nat.le_of_ble_eq_true rfl⟩ (rest := []) rfl (Nat.le_of_ble_eq_true rfl) (by omega) dL_parts_298 (fun H locs cells slots hP hS hkp hB => ?_)
                      have hA_m1 := hA_m1.kp hkp
                      refine lv_bipush (v := (-11)) hx hb dL_parts_301 (by decide) ?_
                      refine lv_icmp_eq (tgt := 308) hx hb dL_parts_303 (by decide) (fun c78 => ?_) (fun c78 => ?_)
                      · have h := ifT h c78
                        refine lv_iload_n hx hb dL_parts_308 rfl (lv_at hl 2 rfl) ?_
                        refine lv_iload hx hb dL_parts_309 (lv_at hl 6 rfl) ?_
                        refine lv_iadd hx hb dL_parts_311 ?_
                        refine lv_istore_n (lv' := [(2, .int (x2 + x6)), (0, .ref (ad 77)), (1, .ref q_m1), (3, .int x3), (4, .int x4), (5, .int x5), (6, .int x6), (7, .int x7), (8, .int x8), (9, .int x9), (10, .int x10)]) hx hb dL_parts_312 rfl hl (by decide) rfl (fun ls hl => ?_)
                        refine lv_iload_n hx hb dL_parts_313 rfl (lv_at hl 3 rfl) ?_
                        refine lv_iload hx hb dL_parts_314 (lv_at hl 7 rfl) ?_
                        refine lv_iadd hx hb dL_parts_316 ?_
                        refine lv_istore_n (lv' := [(3, .int (x3 + x7)), (2, .int (x2 + x6)), (0, .ref (ad 77)), (1, .ref q_m1), (4, .int x4), (5, .int x5), (6, .int x6), (7, .int x7), (8, .int x8), (9, .int x9), (10, .int x10)]) hx hb dL_parts_317 rfl hl (by decide) rfl (fun ls hl => ?_)
                        refine lv_iload hx hb dL_parts_318 (lv_at hl 4 rfl) ?_
                        refine lv_iload hx hb dL_parts_320 (lv_at hl 8 rfl) ?_
                        refine lv_iadd hx hb dL_parts_322 ?_
                        refine lv_istore (lv' := [(4, .int (x4 + x8)), (3, .int (x3 + x7)), (2, .int (x2 + x6)), (0, .ref (ad 77)), (1, .ref q_m1), (5, .int x5), (6, .int x6), (7, .int x7), (8, .int x8), (9, .int x9), (10, .int x10)]) hx hb dL_parts_323 hl (by decide) rfl (fun ls hl => ?_)
                        refine lv_iinc (v := (x5 + 1)) (lv' := [(5, .int (x5 + 1)), (4, .int (x4 + x8)), (3, .int (x3 + x7)), (2, .int (x2 + x6)), (0, .ref (ad 77)), (1, .ref q_m1), (6, .int x6), (7, .int x7), (8, .int x8), (9, .int x9), (10, .int x10)]) hx hb dL_parts_325 hl (k := 5) rfl rfl (by decide) rfl (fun ls hl => ?_)
                        refine lv_goto (tgt := 15) hx hb dL_parts_328 (by decide) ?_
                        exact ih15 G77 (x2 + x6) (x3 + x7) (x4 + x8) (x5 + 1) q_m1 r_m1 _ _ _ _ hf_m1 hP hS hA_m1 (hB.le (by omega)) ls (lv_sub hl [4, 5, 3, 2, 1, 0] rfl) h
                      · have h := ifF h c78
                        refine lv_iconst (v := 0) hx hb dL_parts_306 (by decide) ?_
                        exact lm_end F hP hS hB hr hk rfl h dL_parts_307
          · have h := ifF h c66
            refine lv_iload_n hx hb dL_parts_53 rfl (lv_at hl 2 rfl) ?_
            refine lv_aload_n hx hb dL_parts_54 rfl (lv_at hl 1 rfl) ?_
            refine lv_iload hx hb dL_parts_55 (lv_at hl 10 rfl) ?_
            obtain ⟨b79, h⟩ := ckS h
            refine mx_row F hA_m1 b79 dL_parts_57 (fun hw80 => ?_)
            refine lv_iconst (v := 4) hx hb dL_parts_58 (by decide) ?_
            refine ai_ldk F (hA_m1.2.2.1 _ hw80).2 (k := 4) (by decide) (inbV (by decide) (by decide)) dL_parts_59 ?_
            refine lw_max F hl hB mw_761 ⟨Nat.le_of_ble_eq_true rfl, Nat.le_of_ble_eq_true rfl⟩ dL_parts_60 ?_
            refine lv_istore (lv' := [(11, .int (max32 x2 (S_m1 (x10.toNatClampNeg) 4))), (0, .ref (ad 77)), (1, .ref q_m1), (2, .int x2), (3, .int x3), (4, .int x4), (5, .int x5), (6, .int x6), (7, .int x7), (8, .int x8), (9, .int x9), (10, .int x10)]) hx hb dL_parts_63 hl (by decide) rfl (fun ls hl => ?_)
            refine lv_iload_n hx hb dL_parts_65 rfl (lv_at hl 3 rfl) ?_
            refine lv_iload hx hb dL_parts_66 (lv_at hl 7 rfl) ?_
            refine lv_iadd hx hb dL_parts_68 ?_
            refine lv_aload_n hx hb dL_parts_69 rfl (lv_at hl 2 rfl) ?_
            refine lv_iload hx hb dL_parts_70 (lv_at hl 11 rfl) ?_
            obtain ⟨b81, h⟩ := ckS h
            refine mx_row F hA_m1 b81 dL_parts_72 (fun hw82 => ?_)
            refine lv_iconst (v := 4) hx hb dL_parts_73 (by decide) ?_
            refine ai_ldk F (hA_m1.2.2.1 _ hw82).2 (k := 4) (by decide) (inbV (by decide) (by decide)) dL_parts_74 ?_
            refine lv_aload_n hx hb dL_parts_75 rfl (lv_at hl 2 rfl) ?_
            refine lv_iload hx hb dL_parts_76 (lv_at hl 11 rfl) ?_
            obtain ⟨b83, h⟩ := ckS h
            refine mx_row F hA_m1 b83 dL_parts_78 (fun hw84 => ?_)
            refine lv_iconst (v := 2) hx hb dL_parts_79 (by decide) ?_
            refine ai_ldk F (hA_m1.2.2.1 _ hw84).2 (k := 2) (by decide) (inbV (by decide) (by decide)) dL_parts_80 ?_
            refine lv_iadd hx hb dL_parts_81 ?_
            refine lw_min F hl hB mw_762 ⟨Nat.le_of_ble_eq_true rfl, Nat.le_of_ble_eq_true rfl⟩ dL_parts_82 ?_
            refine lv_istore (lv' := [(12, .int (min32 (x2 + x6) ((S_m1 (x10.toNatClampNeg) 4) + (S_m1 (x10.toNatClampNeg) 2)))), (11, .int (max32 x2 (S_m1 (x10.toNatClampNeg) 4))), (0, .ref (ad 77)), (1, .ref q_m1), (2, .int x2), (3, .int x3), (4, .int x4), (5, .int x5), (6, .int x6), (7, .int x7), (8, .int x8), (9, .int x9), (10, .int x10)]) hx hb dL_parts_85 hl (by decide) rfl (fun ls hl => ?_)
            refine lv_iload hx hb dL_parts_87 (lv_at hl 11 rfl) ?_
            refine lv_aload_n hx hb dL_parts_89 rfl (lv_at hl 3 rfl) ?_
            refine lv_iload hx hb dL_parts_90 (lv_at hl 12 rfl) ?_
            obtain ⟨b85, h⟩ := ckS h
            refine mx_row F hA_m1 b85 dL_parts_92 (fun hw86 => ?_)
            refine lv_iconst (v := 4) hx hb dL_parts_93 (by decide) ?_
            refine ai_ldk F (hA_m1.2.2.1 _ hw86).2 (k := 4) (by decide) (inbV (by decide) (by decide)) dL_parts_94 ?_
            refine lv_iload_n hx hb dL_parts_95 rfl (lv_at hl 4 rfl) ?_
            refine lv_icmp_lt (tgt := 116) hx hb dL_parts_96 (by decide) (fun c87 => ?_) (fun c87 => ?_)
            · have h := ifT h c87
              exact key116 x7 x8 x10 (max32 x2 (S_m1 (x10.toNatClampNeg) 4)) (min32 (x2 + x6) ((S_m1 (x10.toNatClampNeg) 4) + (S_m1 (x10.toNatClampNeg) 2))) x9 G q_m1 r_m1 _ _ _ _ hf_m1 hP hS hA_m1 (hB.le (by omega)) ls (lv_sub hl [2, 3, 4, 5, 6, 7, 8, 9, 10, 12, 1, 0] rfl) h
            · have h := ifF h c87
              refine lv_aload_n hx hb dL_parts_99 rfl (lv_at hl 3 rfl) ?_
              refine lv_iload hx hb dL_parts_100 (lv_at hl 12 rfl) ?_
              obtain ⟨b88, h⟩ := ckS h
              refine mx_row F hA_m1 b88 dL_parts_102 (fun hw89 => ?_)
              refine lv_iconst (v := 4) hx hb dL_parts_103 (by decide) ?_
              refine ai_ldk F (hA_m1.2.2.1 _ hw89).2 (k := 4) (by decide) (inbV (by decide) (by decide)) dL_parts_104 ?_
              refine lv_iload_n hx hb dL_parts_105 rfl (lv_at hl 4 rfl) ?_
              refine lv_iload hx hb dL_parts_106 (lv_at hl 8 rfl) ?_
              refine lv_iadd hx hb dL_parts_108 ?_
              refine lv_icmp_ge (tgt := 116) hx hb dL_parts_109 (by decide) (fun c90 => ?_) (fun c90 => ?_)
              · have h := ifT h c90
                exact key116 x7 x8 x10 (max32 x2 (S_m1 (x10.toNatClampNeg) 4)) (min32 (x2 + x6) ((S_m1 (x10.toNatClampNeg) 4) + (S_m1 (x10.toNatClampNeg) 2))) x9 G q_m1 r_m1 _ _ _ _ hf_m1 hP hS hA_m1 (hB.le (by omega)) ls (lv_sub hl [2, 3, 4, 5, 6, 7, 8, 9, 10, 12, 1, 0] rfl) h
              · have h := ifF h c90
                refine lv_iconst (v := 1) hx hb dL_parts_112 (by decide) ?_
                refine lv_goto (tgt := 117) hx hb dL_parts_113 (by decide) ?_
                exact key117 x7 x8 x10 (max32 x2 (S_m1 (x10.toNatClampNeg) 4)) (min32 (x2 + x6) ((S_m1 (x10.toNatClampNeg) 4) + (S_m1 (x10.toNatClampNeg) 2))) (1 : Int32) x9 G q_m1 r_m1 _ _ _ _ hf_m1 hP hS hA_m1 (hB.le (by omega)) ls (lv_sub hl [2, 3, 4, 5, 6, 7, 8, 9, 10, 12, 1, 0] rfl) h
      intro G x2 x3 x4 x5 q_m1 r_m1 H locs cells slots hf_m1 hP hS hA_m1 hB ls hl h
      have h := lqS5 h
      refine lv_iload hx hb dL_parts_15 (lv_at hl 5 rfl) ?_
      refine lv_aload_n hx hb dL_parts_17 rfl (lv_at hl 0 rfl) ?_
      refine lv_iconst (v := 0) hx hb dL_parts_18 (by decide) ?_
      obtain ⟨r91, G91, e91, h⟩ := bR h
      refine lx_V (B' := (n15 * 220 + 657)) F hP hK hS hB k_X9_account mw_621 rfl (q_X9_account l hst D Y ad hI G (0 : Int32) (.inr r91) G91 e91) rfl hl.1 ⟨Nat.le_of_ble_eq_true rfl, Nat.le_of_ble_eq_true rfl⟩ (rest := [.int x5]) rfl (Nat.le_of_ble_eq_true rfl) (by omega) dL_parts_19 (fun H locs cells slots o91 hP hS hkp hB => ?_)
      have hA_m1 := hA_m1.kp hkp
      refine lv_icmp_ge (tgt := 331) hx hb dL_parts_22 (by decide) (fun c92 => ?_) (fun c92 => ?_)
      · have h := ifT h c92
        refine lv_iconst (v := 0) hx hb dL_parts_331 (by decide) ?_
        refine lv_istore (lv' := [(5, .int (0 : Int32)), (0, .ref (ad 77)), (1, .ref q_m1), (2, .int x2), (3, .int x3), (4, .int x4)]) hx hb dL_parts_332 hl (by decide) rfl (fun ls hl => ?_)
        exact key334 n_m1 S_m1 x2 x3 x4 17 G91 (0 : Int32) q_m1 r_m1 _ _ _ _ hf_m1 hP hS hA_m1 (hB.le (by omega)) ls (lv_sub hl [1, 2, 3, 4, 5, 0] rfl) h
      · have h := ifF h c92
        refine lv_aload_n hx hb dL_parts_25 rfl (lv_at hl 0 rfl) ?_
        refine lv_iload hx hb dL_parts_26 (lv_at hl 5 rfl) ?_
        refine lv_iconst (v := 0) hx hb dL_parts_28 (by decide) ?_
        obtain ⟨r93, G93, e93, h⟩ := bsome2 h
        refine lh_i (B' := (n15 * 220 + 655)) F hP hK hE hS hB kl_barOf mw_735 (ql_barOf l hst D Y ad hI G91 x5 (0 : Int32) r93 G93 e93) rfl hl.1 ⟨Nat.le_of_ble_eq_true rfl, Nat.le_of_ble_eq_true rfl⟩ (rest := []) rfl (Nat.le_of_ble_eq_true rfl) (by omega) dL_parts_29 (fun H locs cells slots hP hS hkp hB => ?_)
        have hA_m1 := hA_m1.kp hkp
        refine lv_istore (lv' := [(6, .int r93), (0, .ref (ad 77)), (1, .ref q_m1), (2, .int x2), (3, .int x3), (4, .int x4), (5, .int x5)]) hx hb dL_parts_32 hl (by decide) rfl (fun ls hl => ?_)
        refine lv_iconst (v := 0) hx hb dL_parts_34 (by decide) ?_
        refine lv_istore (lv' := [(7, .int (0 : Int32)), (6, .int r93), (0, .ref (ad 77)), (1, .ref q_m1), (2, .int x2), (3, .int x3), (4, .int x4), (5, .int x5)]) hx hb dL_parts_35 hl (by decide) rfl (fun ls hl => ?_)
        refine lv_iconst (v := 0) hx hb dL_parts_37 (by decide) ?_
        refine lv_istore (lv' := [(8, .int (0 : Int32)), (7, .int (0 : Int32)), (6, .int r93), (0, .ref (ad 77)), (1, .ref q_m1), (2, .int x2), (3, .int x3), (4, .int x4), (5, .int x5)]) hx hb dL_parts_38 hl (by decide) rfl (fun ls hl => ?_)
        refine lv_iconst (v := 0) hx hb dL_parts_40 (by decide) ?_
        refine lv_istore (lv' := [(9, .int (0 : Int32)), (8, .int (0 : Int32)), (7, .int (0 : Int32)), (6, .int r93), (0, .ref (ad 77)), (1, .ref q_m1), (2, .int x2), (3, .int x3), (4, .int x4), (5, .int x5)]) hx hb dL_parts_41 hl (by decide) rfl (fun ls hl => ?_)
        refine lv_iconst (v := 0) hx hb dL_parts_43 (by decide) ?_
        refine lv_istore (lv' := [(10, .int (0 : Int32)), (9, .int (0 : Int32)), (8, .int (0 : Int32)), (7, .int (0 : Int32)), (6, .int r93), (0, .ref (ad 77)), (1, .ref q_m1), (2, .int x2), (3, .int x3), (4, .int x4), (5, .int x5)]) hx hb dL_parts_44 hl (by decide) rfl (fun ls hl => ?_)
        exact key46 x2 x3 x4 x5 r93 17 G93 (0 : Int32) (0 : Int32) (0 : Int32) (0 : Int32) q_m1 r_m1 _ _ _ _ hf_m1 hP hS hA_m1 (hB.le (by omega)) ls (lv_sub hl [5, 6, 7, 8, 9, 10, 4, 3, 2, 1, 0] rfl) h
  refine lv_aload_n hx hb dL_parts_0 rfl (lv_at hl 0 rfl) ?_
  obtain ⟨n_m1, S94, G94, e94, h⟩ := bsome3 h
  refine lm_m (B' := (1978)) F hP hK hE hS hB ph0_b ph0_o k_L_sounds mw_684 (q_L_sounds l hst D Y ad hI G  n_m1 S94 G94 e94) rfl hl.1 ⟨Nat.le_of_ble_eq_true rfl, Nat.le_of_ble_eq_true rfl⟩ (rest := []) rfl (Nat.le_of_ble_eq_true rfl) (by omega) dL_parts_1 (fun q_m1 r_m1 H locs cells slots hA_m1 hf_m1 hd hdr hP hS hkp hB => ?_)
  refine lv_astore_n (lv' := [(1, .ref q_m1), (0, .ref (ad 77))]) hx hb dL_parts_4 rfl hl (by decide) rfl (fun ls hl => ?_)
  refine lv_iconst (v := 0) hx hb dL_parts_5 (by decide) ?_
  refine lv_istore_n (lv' := [(2, .int (0 : Int32)), (1, .ref q_m1), (0, .ref (ad 77))]) hx hb dL_parts_6 rfl hl (by decide) rfl (fun ls hl => ?_)
  refine lv_iconst (v := 0) hx hb dL_parts_7 (by decide) ?_
  refine lv_istore_n (lv' := [(3, .int (0 : Int32)), (2, .int (0 : Int32)), (1, .ref q_m1), (0, .ref (ad 77))]) hx hb dL_parts_8 rfl hl (by decide) rfl (fun ls hl => ?_)
  refine lv_iconst (v := 0) hx hb dL_parts_9 (by decide) ?_
  refine lv_istore (lv' := [(4, .int (0 : Int32)), (3, .int (0 : Int32)), (2, .int (0 : Int32)), (1, .ref q_m1), (0, .ref (ad 77))]) hx hb dL_parts_10 hl (by decide) rfl (fun ls hl => ?_)
  refine lv_iconst (v := 0) hx hb dL_parts_12 (by decide) ?_
  refine lv_istore (lv' := [(5, .int (0 : Int32)), (4, .int (0 : Int32)), (3, .int (0 : Int32)), (2, .int (0 : Int32)), (1, .ref q_m1), (0, .ref (ad 77))]) hx hb dL_parts_13 hl (by decide) rfl (fun ls hl => ?_)
  exact key15 n_m1 S94 7 G94 (0 : Int32) (0 : Int32) (0 : Int32) (0 : Int32) q_m1 r_m1 _ _ _ _ hf_m1 hP hS hA_m1 (hB.le (by omega)) ls (lv_sub hl [5, 4, 3, 2, 1, 0] rfl) h
