def f_L_lines_178 (n : Nat) (G : GT) (y_x1 : Int32) : Option (Int32 × GT) := lq2 (fun (k178 : GT → Int32 → Option (Int32 × GT)) (G : GT) (x1 : Int32) => (if (4 : Int32) ≤ x1 then (bindR (f_X9_account G (0 : Int32)) fun r2 G2 => (bind2 (fw_line G2 r2) fun r3 G3 => (if r3 = (-11 : Int32) then (bind2 (fw_tinLine G3 (4 : Int32)) fun r5 G5 => (if r5 = (-11 : Int32) then some ((1 : Int32), G5) else some ((0 : Int32), G5))) else some ((0 : Int32), G3)))) else (bind2 (fw_tinLine G x1) fun r7 G7 => (bind2 (fw_tinOf G7 x1 (0 : Int32)) fun r8 G8 => (if inb r8 100 ∧ ([] : List Int32).length + (dgs r8.toNatClampNeg).length ≤ 64 then (if (([] : List Int32) ++ dgs r8.toNatClampNeg).length + (stB 11).length ≤ 64 then (bind2 (fw_tinOf G8 x1 (1 : Int32)) fun r11 G11 => (if inb r11 100 ∧ ((([] : List Int32) ++ dgs r8.toNatClampNeg) ++ (stB 11)).length + (dgs r11.toNatClampNeg).length ≤ 64 then (bind2 (f_L_spells G11 (((([] : List Int32) ++ dgs r8.toNatClampNeg) ++ (stB 11)) ++ dgs r11.toNatClampNeg) r7) fun r13 G13 => (if r13 = 0 then some ((0 : Int32), G13) else k178 G13 (x1 + 1))) else none)) else none) else none))))) n G y_x1
def f_L_lines_91 (k2 : GT → Int32 → Option (Int32 × GT)) (k17 : GT → Int32 → List Int32 → Option (Int32 × GT)) (x1 : Int32) (x3 : Int32) (s91_0 : Int32) (T_k91_1 : List Int32) (G : GT) : Option (Int32 × GT) := (if inb s91_0 128 ∧ T_k91_1.length + 1 ≤ 64 then (bind2 (fw_part G x1 x3 (1 : Int32)) fun r16 G16 => (if inb r16 100 ∧ (T_k91_1 ++ [s91_0]).length + (dgs r16.toNatClampNeg).length ≤ 64 then (if ((T_k91_1 ++ [s91_0]) ++ dgs r16.toNatClampNeg).length + (stB 8).length ≤ 64 then k17 G16 (x3 + 1) (((T_k91_1 ++ [s91_0]) ++ dgs r16.toNatClampNeg) ++ (stB 8)) else none) else none)) else none)
def f_L_lines_72 (k2 : GT → Int32 → Option (Int32 × GT)) (k17 : GT → Int32 → List Int32 → Option (Int32 × GT)) (x1 : Int32) (x3 : Int32) (x4 : Int32) (T_k72_0 : List Int32) (T_k72_1 : List Int32) (G : GT) : Option (Int32 × GT) := (if T_k72_1.length + T_k72_0.length ≤ 64 then (if 0 ≤ x4 then f_L_lines_91 k2 k17 x1 x3 ((((97 : Int32) + x4).toUInt32 % 65536).toInt32) (T_k72_1 ++ T_k72_0) G else f_L_lines_91 k2 k17 x1 x3 (46 : Int32) (T_k72_1 ++ T_k72_0) G) else none)
def f_L_lines_17 (k2 : GT → Int32 → Option (Int32 × GT)) (x1 : Int32) (n : Nat) (G : GT) (y_x3 : Int32) (y_T_l2 : List Int32) : Option (Int32 × GT) := lq3 (fun (k17 : GT → Int32 → List Int32 → Option (Int32 × GT)) (G : GT) (x3 : Int32) (T_l2 : List Int32) => (bind2 (fw_barOf G x1 (2 : Int32)) fun r21 G21 => (if r21 ≤ x3 then (bind2 (fw_line G21 x1) fun r23 G23 => (if ([] : List Int32).length + T_l2.length ≤ 64 then (if (([] : List Int32) ++ T_l2).length + (stB 10).length ≤ 64 then (bind2 (fw_barOf G23 x1 (0 : Int32)) fun r26 G26 => (bind2 (fw_barOf G26 x1 (1 : Int32)) fun r27 G27 => (if inb (r26 - r27) 100 ∧ ((([] : List Int32) ++ T_l2) ++ (stB 10)).length + (dgs (r26 - r27).toNatClampNeg).length ≤ 64 then (bind2 (f_L_spells G27 (((([] : List Int32) ++ T_l2) ++ (stB 10)) ++ dgs (r26 - r27).toNatClampNeg) r23) fun r29 G29 => (if r29 = 0 then some ((0 : Int32), G29) else k2 G29 (x1 + 1))) else none))) else none) else none)) else (bind2 (fw_part G21 x1 x3 (0 : Int32)) fun r31 G31 => (bind2 (fw_of G31 r31 (3 : Int32)) fun r32 G32 => (if ([] : List Int32).length + T_l2.length ≤ 64 then (bind2 (fw_part G32 x1 x3 (2 : Int32)) fun r34 G34 => (if r34 = (1 : Int32) then f_L_lines_72 k2 k17 x1 x3 r32 (stB 7) (([] : List Int32) ++ T_l2) G34 else f_L_lines_72 k2 k17 x1 x3 r32 (stB 6) (([] : List Int32) ++ T_l2) G34)) else none)))))) n G y_x3 y_T_l2
def f_L_lines_2 (n : Nat) (G : GT) (y_x1 : Int32) : Option (Int32 × GT) := lq2 (fun (k2 : GT → Int32 → Option (Int32 × GT)) (G : GT) (x1 : Int32) => (bindR (f_X9_account G (0 : Int32)) fun r36 G36 => (if r36 ≤ x1 then f_L_lines_178 5 G36 (0 : Int32) else f_L_lines_17 k2 x1 9 G36 (0 : Int32) (stB 6)))) n G y_x1
def f_L_lines (G : GT) : Option (Int32 × GT) := f_L_lines_2 7 G (0 : Int32)
set_option maxRecDepth 100000 in
set_option maxHeartbeats 8000000 in
theorem q_L_lines (l : Launch) (hst : l.stackTraces = false) (D : va_G) (Y : Nat → ClassId) (ad : Nat → Nat) (hI : Inj 90 ad) (G : GT) (r : Int32) (G' : GT) (h : f_L_lines G   = some (r, G')) : LM l yL_lines cL_lines 5 (some .boolean) 12 4942 D Y ad G (PhJ ad) [.ref (ad 77)] (PI (some .boolean) r D Y ad G') := by
  refine LM_of (ret := (some .boolean)) (by decide) (Nat.le_of_ble_eq_true rfl) (lv := [(0, .ref (ad 77))]) rfl ?_
  intro p ev s m below meth c ls F hP hK hE hΦ hS hr hk hl hB
  have F : Fx p c cL_lines 5 s m _ RL D Y := F
  have hx := F.1.1
  have hb := F.1.2.1
  have hts := F.1.2.2.2.2
  have hown := F.1.2.2.2.1
  have hJ : Jk (AW 90 ad) s s.heap := hΦ
  have key178 : ∀ (n : Nat) (G : GT) (x1 : Int32) (H : Heap) (locs : List Loc) (cells slots : Nat), va_P D vwCl (wsC Y ad G) H → va_S (AW 90 ad) s.heap H locs → Bg 4942 cells slots (n * 75 + 3) → ∀ ls : Array Slot, lv_has ls 5 [(0, .ref (ad 77)), (1, .int x1)] → f_L_lines_178    n G x1 = some (r, G') → W p l ev (rmD 12 4942 (16 * 4942)) s m ([.ref (ad 77)] : List Value).toArray below meth c H locs cells slots (MQ below (LQ (PI (some .boolean) r D Y ad G') (AW 90 ad)) ([.ref (ad 77)] : List Value).toArray s 4942 (16 * 4942) (AW 90 ad)) (F0 m 178 ls []) := by
    intro n
    induction n with
    | zero => intro G x1  H locs cells slots  hP hS  hB ls hl h; exact lqZ2 h
    | succ n178 ih178 =>
      intro G x1  H locs cells slots  hP hS  hB ls hl h
      have h := lqS2 h
      refine lv_iload_n hx hb dL_lines_178 rfl (lv_at hl 1 rfl) ?_
      refine lv_iconst (v := 4) hx hb dL_lines_179 (by decide) ?_
      refine lv_icmp_ge (tgt := 237) hx hb dL_lines_180 (by decide) (fun c1 => ?_) (fun c1 => ?_)
      · have h := ifT h c1
        refine lv_aload_n hx hb dL_lines_237 rfl (lv_at hl 0 rfl) ?_
        refine lv_aload_n hx hb dL_lines_238 rfl (lv_at hl 0 rfl) ?_
        refine lv_iconst (v := 0) hx hb dL_lines_239 (by decide) ?_
        obtain ⟨r2, G2, e2, h⟩ := bR h
        refine lx_V (B' := (n178 * 75 + 77)) F hP hK hS hB k_X9_account mw_621 rfl (q_X9_account l hst D Y ad hI G (0 : Int32) (.inr r2) G2 e2) rfl hl.1 ⟨Nat.le_of_ble_eq_true rfl, Nat.le_of_ble_eq_true rfl⟩ (rest := [.ref (ad 77)]) rfl (Nat.le_of_ble_eq_true rfl) (by omega) dL_lines_240 (fun H locs cells slots o2 hP hS hkp hB => ?_)
        obtain ⟨r3, G3, e3, h⟩ := bsome2 h
        refine lh_i (B' := (n178 * 75 + 76)) F hP hK hE hS hB kl_line mw_1331 (ql_line l hst D Y ad hI G2 r2 r3 G3 e3) rfl hl.1 ⟨Nat.le_of_ble_eq_true rfl, Nat.le_of_ble_eq_true rfl⟩ (rest := []) rfl (Nat.le_of_ble_eq_true rfl) (by omega) dL_lines_243 (fun H locs cells slots hP hS hkp hB => ?_)
        refine lv_bipush (v := (-11)) hx hb dL_lines_246 (by decide) ?_
        refine lv_icmp_ne (tgt := 265) hx hb dL_lines_248 (by decide) (fun c4 => ?_) (fun c4 => ?_)
        · have h := ifF h c4
          refine lv_iconst (v := 0) hx hb dL_lines_265 (by decide) ?_
          exact lm_end F hP hS hB hr hk rfl h dL_lines_266
        · have h := ifT h c4
          refine lv_aload_n hx hb dL_lines_251 rfl (lv_at hl 0 rfl) ?_
          refine lv_iconst (v := 4) hx hb dL_lines_252 (by decide) ?_
          obtain ⟨r5, G5, e5, h⟩ := bsome2 h
          refine lh_i (B' := (n178 * 75 + 75)) F hP hK hE hS hB kl_tinLine mw_1397 (ql_tinLine l hst D Y ad hI G3 (4 : Int32) r5 G5 e5) rfl hl.1 ⟨Nat.le_of_ble_eq_true rfl, Nat.le_of_ble_eq_true rfl⟩ (rest := []) rfl (Nat.le_of_ble_eq_true rfl) (by omega) dL_lines_253 (fun H locs cells slots hP hS hkp hB => ?_)
          refine lv_bipush (v := (-11)) hx hb dL_lines_256 (by decide) ?_
          refine lv_icmp_ne (tgt := 265) hx hb dL_lines_258 (by decide) (fun c6 => ?_) (fun c6 => ?_)
          · have h := ifF h c6
            refine lv_iconst (v := 0) hx hb dL_lines_265 (by decide) ?_
            exact lm_end F hP hS hB hr hk rfl h dL_lines_266
          · have h := ifT h c6
            refine lv_iconst (v := 1) hx hb dL_lines_261 (by decide) ?_
            refine lv_goto (tgt := 266) hx hb dL_lines_262 (by decide) ?_
            exact lm_end F hP hS hB hr hk rfl h dL_lines_266
      · have h := ifF h c1
        refine lv_aload_n hx hb dL_lines_183 rfl (lv_at hl 0 rfl) ?_
        refine lv_aload_n hx hb dL_lines_184 rfl (lv_at hl 0 rfl) ?_
        refine lv_iload_n hx hb dL_lines_185 rfl (lv_at hl 1 rfl) ?_
        obtain ⟨r7, G7, e7, h⟩ := bsome2 h
        refine lh_i (B' := (n178 * 75 + 77)) F hP hK hE hS hB kl_tinLine mw_1397 (ql_tinLine l hst D Y ad hI G x1 r7 G7 e7) rfl hl.1 ⟨Nat.le_of_ble_eq_true rfl, Nat.le_of_ble_eq_true rfl⟩ (rest := [.ref (ad 77)]) rfl (Nat.le_of_ble_eq_true rfl) (by omega) dL_lines_186 (fun H locs cells slots hP hS hkp hB => ?_)
        refine bd_N [] (B' := (n178 * 75 + 75)) F hJ hP hS hB (fun _ z => nomatch z) hl.1 (Nat.le_of_ble_eq_true rfl) (rest := [.int r7, .ref (ad 77)]) (Nat.le_of_ble_eq_true rfl) (by omega) dL_lines_189 dL_lines_192 dL_lines_193 (fun q_B189 b_B189 c_B189 f_B189 H cells slots hA_B189 hkp hP hS hB => ?_)
        refine lv_aload_n hx hb dL_lines_196 rfl (lv_at hl 0 rfl) ?_
        refine lv_iload_n hx hb dL_lines_197 rfl (lv_at hl 1 rfl) ?_
        refine lv_iconst (v := 0) hx hb dL_lines_198 (by decide) ?_
        obtain ⟨r8, G8, e8, h⟩ := bsome2 h
        refine lh_i (B' := (n178 * 75 + 73)) F hP hK hE hS hB kl_tinOf mw_717 (ql_tinOf l hst D Y ad hI G7 x1 (0 : Int32) r8 G8 e8) rfl hl.1 ⟨Nat.le_of_ble_eq_true rfl, Nat.le_of_ble_eq_true rfl⟩ (rest := [.ref q_B189, .int r7, .ref (ad 77)]) rfl (Nat.le_of_ble_eq_true rfl) (by omega) dL_lines_199 (fun H locs cells slots hP hS hkp hB => ?_)
        have hA_B189 := hA_B189.kp hkp
        obtain ⟨g9, h⟩ := ckS h
        have hv := hA_B189
        refine bd_I (B' := (n178 * 75 + 65)) F hJ hP hS hB hA_B189 g9.1 g9.2 hl.1 (Nat.le_of_ble_eq_true rfl) (rest := [.int r7, .ref (ad 77)]) (Nat.le_of_ble_eq_true rfl) (by omega) dL_lines_202 (fun b_B189 c_B189 f_B189 H cells slots hA_B189 hko hP hS hB => ?_)
        refine ldcSW hx hb hown (hK.2.2.2.2.2 11 (by decide)) dL_lines_205 ?_
        have hA_c205 := Sg.ks hK hS (i := 11) (by decide)
        have hA_B189 := (hA_B189.old (ks_lt hK (i := 11) (by decide)).2).old (ks_lt hK (i := 11) (by decide)).1
        obtain ⟨g10, h⟩ := ckS h
        have hv := hA_B189
        refine bd_S (B' := (n178 * 75 + 57)) F hK hJ hP hS hB hA_B189 hA_c205 (by simp) (by simp) g10 hl.1 (Nat.le_of_ble_eq_true rfl) (rest := [.int r7, .ref (ad 77)]) (Nat.le_of_ble_eq_true rfl) (by omega) dL_lines_208 (fun b_B189 c_B189 f_B189 H cells slots hA_B189 hko hP hS hB => ?_)
        have hA_c205 := hA_c205.ko hko (hv.off (by simp)) (hv.off (by simp))
        refine lv_aload_n hx hb dL_lines_211 rfl (lv_at hl 0 rfl) ?_
        refine lv_iload_n hx hb dL_lines_212 rfl (lv_at hl 1 rfl) ?_
        refine lv_iconst (v := 1) hx hb dL_lines_213 (by decide) ?_
        obtain ⟨r11, G11, e11, h⟩ := bsome2 h
        refine lh_i (B' := (n178 * 75 + 55)) F hP hK hE hS hB kl_tinOf mw_717 (ql_tinOf l hst D Y ad hI G8 x1 (1 : Int32) r11 G11 e11) rfl hl.1 ⟨Nat.le_of_ble_eq_true rfl, Nat.le_of_ble_eq_true rfl⟩ (rest := [.ref q_B189, .int r7, .ref (ad 77)]) rfl (Nat.le_of_ble_eq_true rfl) (by omega) dL_lines_214 (fun H locs cells slots hP hS hkp hB => ?_)
        have hA_B189 := hA_B189.kp hkp
        obtain ⟨g12, h⟩ := ckS h
        have hv := hA_B189
        refine bd_I (B' := (n178 * 75 + 47)) F hJ hP hS hB hA_B189 g12.1 g12.2 hl.1 (Nat.le_of_ble_eq_true rfl) (rest := [.int r7, .ref (ad 77)]) (Nat.le_of_ble_eq_true rfl) (by omega) dL_lines_217 (fun b_B189 c_B189 f_B189 H cells slots hA_B189 hko hP hS hB => ?_)
        have hv := hA_B189
        refine bd_T (B' := (n178 * 75 + 38)) F hJ hP hS hB hA_B189 hl.1 (Nat.le_of_ble_eq_true rfl) (rest := [.int r7, .ref (ad 77)]) (Nat.le_of_ble_eq_true rfl) (by omega) dL_lines_220 (fun q_s220 v_s220 H cells slots hA_s220 hn hko hP hS hB => ?_)
        obtain ⟨r13, G13, e13, h⟩ := bsome2 h
        refine lm_i (B' := (n178 * 75 + 3)) F hP hK hE hS hB phS_b (phS_o hA_s220) k_L_spells mw_1362 (q_L_spells l hst D Y ad hI G11 (((([] : List Int32) ++ dgs r8.toNatClampNeg) ++ (stB 11)) ++ dgs r11.toNatClampNeg) q_s220 v_s220 r7 r13 G13 e13) rfl hl.1 ⟨Nat.le_of_ble_eq_true rfl, Nat.le_of_ble_eq_true rfl⟩ (rest := []) rfl (Nat.le_of_ble_eq_true rfl) (by omega) dL_lines_223 (fun H locs cells slots o13 hP hS hkp hB => ?_)
        have hA_s220 := hA_s220.kp hkp
        refine lv_if_ne (tgt := 231) hx hb dL_lines_226 (by decide) (fun c14 => ?_) (fun c14 => ?_)
        · have h := ifF h c14
          refine lv_iinc (v := (x1 + 1)) (lv' := [(1, .int (x1 + 1)), (0, .ref (ad 77))]) hx hb dL_lines_231 hl (k := 1) rfl rfl (by decide) rfl (fun ls hl => ?_)
          refine lv_goto (tgt := 178) hx hb dL_lines_234 (by decide) ?_
          exact ih178 G13 (x1 + 1)  _ _ _ _  hP hS  (hB.le (by omega)) ls (lv_sub hl [1, 0] rfl) h
        · have h := ifT h c14
          refine lv_iconst (v := 0) hx hb dL_lines_229 (by decide) ?_
          exact lm_end F hP hS hB hr hk rfl h dL_lines_230
  have key2 : ∀ (n : Nat) (G : GT) (x1 : Int32) (H : Heap) (locs : List Loc) (cells slots : Nat), va_P D vwCl (wsC Y ad G) H → va_S (AW 90 ad) s.heap H locs → Bg 4942 cells slots (n * 652 + 378) → ∀ ls : Array Slot, lv_has ls 5 [(0, .ref (ad 77)), (1, .int x1)] → f_L_lines_2    n G x1 = some (r, G') → W p l ev (rmD 12 4942 (16 * 4942)) s m ([.ref (ad 77)] : List Value).toArray below meth c H locs cells slots (MQ below (LQ (PI (some .boolean) r D Y ad G') (AW 90 ad)) ([.ref (ad 77)] : List Value).toArray s 4942 (16 * 4942) (AW 90 ad)) (F0 m 2 ls []) := by
    intro n
    induction n with
    | zero => intro G x1  H locs cells slots  hP hS  hB ls hl h; exact lqZ2 h
    | succ n2 ih2 =>
      have key17 : ∀ (x1 : Int32) (n : Nat) (G : GT) (x3 : Int32) (T_l2 : List Int32) (q_l2 : Nat) (v_l2 : Nat) (H : Heap) (locs : List Loc) (cells slots : Nat), va_P D vwCl (wsC Y ad G) H → va_S (AW 90 ad) s.heap H locs → Sg ad s q_l2 v_l2 T_l2 H → Bg 4942 cells slots (n * 64 + n2 * 652 + 453) → ∀ ls : Array Slot, lv_has ls 5 [(0, .ref (ad 77)), (1, .int x1), (2, .ref q_l2), (3, .int x3)] → f_L_lines_17  (f_L_lines_2    n2) x1 n G x3 T_l2 = some (r, G') → W p l ev (rmD 12 4942 (16 * 4942)) s m ([.ref (ad 77)] : List Value).toArray below meth c H locs cells slots (MQ below (LQ (PI (some .boolean) r D Y ad G') (AW 90 ad)) ([.ref (ad 77)] : List Value).toArray s 4942 (16 * 4942) (AW 90 ad)) (F0 m 17 ls []) := by
        intro x1
        intro n
        induction n with
        | zero => intro G x3 T_l2 q_l2 v_l2 H locs cells slots  hP hS hA_l2 hB ls hl h; exact lqZ3 h
        | succ n17 ih17 =>
          have key91 : ∀ (x3 : Int32) (s91_0 : Int32) (T_k91_1 : List Int32) (G : GT) (q_k91_1 : Nat) (b_k91_1 : Nat) (c_k91_1 : Nat) (f_k91_1 : Nat → Int32) (H : Heap) (locs : List Loc) (cells slots : Nat), va_P D vwCl (wsC Y ad G) H → va_S (AW 90 ad) s.heap H locs → Bd D Y ad s q_k91_1 b_k91_1 c_k91_1 f_k91_1 T_k91_1 [] H → Bg 4942 cells slots (n2 * 652 + n17 * 64 + 489) → ∀ ls : Array Slot, lv_has ls 5 [(0, .ref (ad 77)), (1, .int x1), (3, .int x3)] → f_L_lines_91  (f_L_lines_2    n2) (f_L_lines_17  (f_L_lines_2    n2) x1 n17) x1 x3 s91_0 T_k91_1 G = some (r, G') → W p l ev (rmD 12 4942 (16 * 4942)) s m ([.ref (ad 77)] : List Value).toArray below meth c H locs cells slots (MQ below (LQ (PI (some .boolean) r D Y ad G') (AW 90 ad)) ([.ref (ad 77)] : List Value).toArray s 4942 (16 * 4942) (AW 90 ad)) (F0 m 91 ls [.int s91_0, .ref q_k91_1]) := by
            intro x3 s91_0 T_k91_1 G q_k91_1 b_k91_1 c_k91_1 f_k91_1 H locs cells slots  hP hS hA_k91_1 hB ls hl h
            obtain ⟨g15, h⟩ := ckS h
            have hv := hA_k91_1
            refine bd_C (B' := (n2 * 652 + n17 * 64 + 481)) F hJ hP hS hB hA_k91_1 g15.1 g15.2 hl.1 (Nat.le_of_ble_eq_true rfl) (rest := []) (Nat.le_of_ble_eq_true rfl) (by omega) dL_lines_91 (fun b_k91_1 c_k91_1 f_k91_1 H cells slots hA_k91_1 hko hP hS hB => ?_)
            refine lv_aload_n hx hb dL_lines_94 rfl (lv_at hl 0 rfl) ?_
            refine lv_iload_n hx hb dL_lines_95 rfl (lv_at hl 1 rfl) ?_
            refine lv_iload_n hx hb dL_lines_96 rfl (lv_at hl 2 rfl) ?_
            refine lv_iconst (v := 1) hx hb dL_lines_97 (by decide) ?_
            obtain ⟨r16, G16, e16, h⟩ := bsome2 h
            refine lh_i (B' := (n2 * 652 + n17 * 64 + 478)) F hP hK hE hS hB kl_part mw_763 (ql_part l hst D Y ad hI G x1 x3 (1 : Int32) r16 G16 e16) rfl hl.1 ⟨Nat.le_of_ble_eq_true rfl, Nat.le_of_ble_eq_true rfl⟩ (rest := [.ref q_k91_1]) rfl (Nat.le_of_ble_eq_true rfl) (by omega) dL_lines_98 (fun H locs cells slots hP hS hkp hB => ?_)
            have hA_k91_1 := hA_k91_1.kp hkp
            obtain ⟨g17, h⟩ := ckS h
            have hv := hA_k91_1
            refine bd_I (B' := (n2 * 652 + n17 * 64 + 470)) F hJ hP hS hB hA_k91_1 g17.1 g17.2 hl.1 (Nat.le_of_ble_eq_true rfl) (rest := []) (Nat.le_of_ble_eq_true rfl) (by omega) dL_lines_101 (fun b_k91_1 c_k91_1 f_k91_1 H cells slots hA_k91_1 hko hP hS hB => ?_)
            refine ldcSW hx hb hown (hK.2.2.2.2.2 8 (by decide)) dL_lines_104 ?_
            have hA_c104 := Sg.ks hK hS (i := 8) (by decide)
            have hA_k91_1 := (hA_k91_1.old (ks_lt hK (i := 8) (by decide)).2).old (ks_lt hK (i := 8) (by decide)).1
            obtain ⟨g18, h⟩ := ckS h
            have hv := hA_k91_1
            refine bd_S (B' := (n2 * 652 + n17 * 64 + 462)) F hK hJ hP hS hB hA_k91_1 hA_c104 (by simp) (by simp) g18 hl.1 (Nat.le_of_ble_eq_true rfl) (rest := []) (Nat.le_of_ble_eq_true rfl) (by omega) dL_lines_107 (fun b_k91_1 c_k91_1 f_k91_1 H cells slots hA_k91_1 hko hP hS hB => ?_)
            have hA_c104 := hA_c104.ko hko (hv.off (by simp)) (hv.off (by simp))
            have hv := hA_k91_1
            refine bd_T (B' := (n2 * 652 + n17 * 64 + 453)) F hJ hP hS hB hA_k91_1 hl.1 (Nat.le_of_ble_eq_true rfl) (rest := []) (Nat.le_of_ble_eq_true rfl) (by omega) dL_lines_110 (fun q_s110 v_s110 H cells slots hA_s110 hn hko hP hS hB => ?_)
            refine lv_astore_n (lv' := [(2, .ref q_s110), (0, .ref (ad 77)), (1, .int x1), (3, .int x3)]) hx hb dL_lines_113 rfl hl (by decide) rfl (fun ls hl => ?_)
            refine lv_iinc (v := (x3 + 1)) (lv' := [(3, .int (x3 + 1)), (2, .ref q_s110), (0, .ref (ad 77)), (1, .int x1)]) hx hb dL_lines_114 hl (k := 3) rfl rfl (by decide) rfl (fun ls hl => ?_)
            refine lv_goto (tgt := 17) hx hb dL_lines_117 (by decide) ?_
            exact ih17 G16 (x3 + 1) (((T_k91_1 ++ [s91_0]) ++ dgs r16.toNatClampNeg) ++ (stB 8)) q_s110 v_s110 _ _ _ _  hP hS  hA_s110 (hB.le (by omega)) ls (lv_sub hl [2, 3, 1, 0] rfl) h
          have key72 : ∀ (x3 : Int32) (x4 : Int32) (T_k72_0 : List Int32) (T_k72_1 : List Int32) (G : GT) (q_k72_0 : Nat) (v_k72_0 : Nat) (q_k72_1 : Nat) (b_k72_1 : Nat) (c_k72_1 : Nat) (f_k72_1 : Nat → Int32) (H : Heap) (locs : List Loc) (cells slots : Nat), va_P D vwCl (wsC Y ad G) H → va_S (AW 90 ad) s.heap H locs → Sg ad s q_k72_0 v_k72_0 T_k72_0 H → Bd D Y ad s q_k72_1 b_k72_1 c_k72_1 f_k72_1 T_k72_1 [q_k72_0, v_k72_0] H → Bg 4942 cells slots (n2 * 652 + n17 * 64 + 497) → ∀ ls : Array Slot, lv_has ls 5 [(0, .ref (ad 77)), (1, .int x1), (3, .int x3), (4, .int x4)] → f_L_lines_72  (f_L_lines_2    n2) (f_L_lines_17  (f_L_lines_2    n2) x1 n17) x1 x3 x4 T_k72_0 T_k72_1 G = some (r, G') → W p l ev (rmD 12 4942 (16 * 4942)) s m ([.ref (ad 77)] : List Value).toArray below meth c H locs cells slots (MQ below (LQ (PI (some .boolean) r D Y ad G') (AW 90 ad)) ([.ref (ad 77)] : List Value).toArray s 4942 (16 * 4942) (AW 90 ad)) (F0 m 72 ls [.ref q_k72_0, .ref q_k72_1]) := by
            intro x3 x4 T_k72_0 T_k72_1 G q_k72_0 v_k72_0 q_k72_1 b_k72_1 c_k72_1 f_k72_1 H locs cells slots  hP hS hA_k72_0 hA_k72_1 hB ls hl h
            obtain ⟨g19, h⟩ := ckS h
            have hv := hA_k72_1
            refine bd_S (B' := (n2 * 652 + n17 * 64 + 489)) F hK hJ hP hS hB hA_k72_1 hA_k72_0 (by simp) (by simp) g19 hl.1 (Nat.le_of_ble_eq_true rfl) (rest := []) (Nat.le_of_ble_eq_true rfl) (by omega) dL_lines_72 (fun b_k72_1 c_k72_1 f_k72_1 H cells slots hA_k72_1 hko hP hS hB => ?_)
            have hA_k72_0 := hA_k72_0.ko hko (hv.off (by simp)) (hv.off (by simp))
            refine lv_iload hx hb dL_lines_75 (lv_at hl 3 rfl) ?_
            refine lv_if_ge (tgt := 85) hx hb dL_lines_77 (by decide) (fun c20 => ?_) (fun c20 => ?_)
            · have h := ifT h c20
              refine lv_bipush (v := 97) hx hb dL_lines_85 (by decide) ?_
              refine lv_iload hx hb dL_lines_87 (lv_at hl 3 rfl) ?_
              refine lv_iadd hx hb dL_lines_89 ?_
              refine lv_i2c hx hb dL_lines_90 rfl ?_
              exact key91 x3 ((((97 : Int32) + x4).toUInt32 % 65536).toInt32) (T_k72_1 ++ T_k72_0) G q_k72_1 b_k72_1 c_k72_1 f_k72_1 _ _ _ _  hP hS  (hA_k72_1.sub (by simp)) (hB.le (by omega)) ls (lv_sub hl [0, 1, 2] rfl) h
            · have h := ifF h c20
              refine lv_bipush (v := 46) hx hb dL_lines_80 (by decide) ?_
              refine lv_goto (tgt := 91) hx hb dL_lines_82 (by decide) ?_
              exact key91 x3 (46 : Int32) (T_k72_1 ++ T_k72_0) G q_k72_1 b_k72_1 c_k72_1 f_k72_1 _ _ _ _  hP hS  (hA_k72_1.sub (by simp)) (hB.le (by omega)) ls (lv_sub hl [0, 1, 2] rfl) h
          intro G x3 T_l2 q_l2 v_l2 H locs cells slots  hP hS hA_l2 hB ls hl h
          have h := lqS3 h
          refine lv_iload_n hx hb dL_lines_17 rfl (lv_at hl 3 rfl) ?_
          refine lv_aload_n hx hb dL_lines_18 rfl (lv_at hl 0 rfl) ?_
          refine lv_iload_n hx hb dL_lines_19 rfl (lv_at hl 1 rfl) ?_
          refine lv_iconst (v := 2) hx hb dL_lines_20 (by decide) ?_
          obtain ⟨r21, G21, e21, h⟩ := bsome2 h
          refine lh_i (B' := (n17 * 64 + n2 * 652 + 515)) F hP hK hE hS hB kl_barOf mw_735 (ql_barOf l hst D Y ad hI G x1 (2 : Int32) r21 G21 e21) rfl hl.1 ⟨Nat.le_of_ble_eq_true rfl, Nat.le_of_ble_eq_true rfl⟩ (rest := [.int x3]) rfl (Nat.le_of_ble_eq_true rfl) (by omega) dL_lines_21 (fun H locs cells slots hP hS hkp hB => ?_)
          have hA_l2 := hA_l2.kp hkp
          refine lv_icmp_ge (tgt := 120) hx hb dL_lines_24 (by decide) (fun c22 => ?_) (fun c22 => ?_)
          · have h := ifT h c22
            refine lv_aload_n hx hb dL_lines_120 rfl (lv_at hl 0 rfl) ?_
            refine lv_aload_n hx hb dL_lines_121 rfl (lv_at hl 0 rfl) ?_
            refine lv_iload_n hx hb dL_lines_122 rfl (lv_at hl 1 rfl) ?_
            obtain ⟨r23, G23, e23, h⟩ := bsome2 h
            refine lh_i (B' := (n17 * 64 + n2 * 652 + 514)) F hP hK hE hS hB kl_line mw_1331 (ql_line l hst D Y ad hI G21 x1 r23 G23 e23) rfl hl.1 ⟨Nat.le_of_ble_eq_true rfl, Nat.le_of_ble_eq_true rfl⟩ (rest := [.ref (ad 77)]) rfl (Nat.le_of_ble_eq_true rfl) (by omega) dL_lines_123 (fun H locs cells slots hP hS hkp hB => ?_)
            have hA_l2 := hA_l2.kp hkp
            refine bd_N [q_l2, v_l2] (B' := (n17 * 64 + n2 * 652 + 512)) F hJ hP hS hB (List.forall_mem_cons.mpr ⟨hA_l2.lt.1, (List.forall_mem_cons.mpr ⟨hA_l2.lt.2, (fun _ z => nomatch z)⟩)⟩) hl.1 (Nat.le_of_ble_eq_true rfl) (rest := [.int r23, .ref (ad 77)]) (Nat.le_of_ble_eq_true rfl) (by omega) dL_lines_126 dL_lines_129 dL_lines_130 (fun q_B126 b_B126 c_B126 f_B126 H cells slots hA_B126 hkp hP hS hB => ?_)
            have hA_l2 := hA_l2.kp hkp
            refine lv_aload_n hx hb dL_lines_133 rfl (lv_at hl 2 rfl) ?_
            obtain ⟨g24, h⟩ := ckS h
            have hv := hA_B126
            refine bd_S (B' := (n17 * 64 + n2 * 652 + 504)) F hK hJ hP hS hB hA_B126 hA_l2 (by simp) (by simp) g24 hl.1 (Nat.le_of_ble_eq_true rfl) (rest := [.int r23, .ref (ad 77)]) (Nat.le_of_ble_eq_true rfl) (by omega) dL_lines_134 (fun b_B126 c_B126 f_B126 H cells slots hA_B126 hko hP hS hB => ?_)
            have hA_l2 := hA_l2.ko hko (hv.off (by simp)) (hv.off (by simp))
            refine ldcSW hx hb hown (hK.2.2.2.2.2 10 (by decide)) dL_lines_137 ?_
            have hA_c137 := Sg.ks hK hS (i := 10) (by decide)
            have hA_B126 := (hA_B126.old (ks_lt hK (i := 10) (by decide)).2).old (ks_lt hK (i := 10) (by decide)).1
            obtain ⟨g25, h⟩ := ckS h
            have hv := hA_B126
            refine bd_S (B' := (n17 * 64 + n2 * 652 + 496)) F hK hJ hP hS hB hA_B126 hA_c137 (by simp) (by simp) g25 hl.1 (Nat.le_of_ble_eq_true rfl) (rest := [.int r23, .ref (ad 77)]) (Nat.le_of_ble_eq_true rfl) (by omega) dL_lines_140 (fun b_B126 c_B126 f_B126 H cells slots hA_B126 hko hP hS hB => ?_)
            have hA_c137 := hA_c137.ko hko (hv.off (by simp)) (hv.off (by simp))
            have hA_l2 := hA_l2.ko hko (hv.off (by simp)) (hv.off (by simp))
            refine lv_aload_n hx hb dL_lines_143 rfl (lv_at hl 0 rfl) ?_
            refine lv_iload_n hx hb dL_lines_144 rfl (lv_at hl 1 rfl) ?_
            refine lv_iconst (v := 0) hx hb dL_lines_145 (by decide) ?_
            obtain ⟨r26, G26, e26, h⟩ := bsome2 h
            refine lh_i (B' := (n17 * 64 + n2 * 652 + 494)) F hP hK hE hS hB kl_barOf mw_735 (ql_barOf l hst D Y ad hI G23 x1 (0 : Int32) r26 G26 e26) rfl hl.1 ⟨Nat.le_of_ble_eq_true rfl, Nat.le_of_ble_eq_true rfl⟩ (rest := [.ref q_B126, .int r23, .ref (ad 77)]) rfl (Nat.le_of_ble_eq_true rfl) (by omega) dL_lines_146 (fun H locs cells slots hP hS hkp hB => ?_)
            have hA_B126 := hA_B126.kp hkp
            have hA_l2 := hA_l2.kp hkp
            refine lv_aload_n hx hb dL_lines_149 rfl (lv_at hl 0 rfl) ?_
            refine lv_iload_n hx hb dL_lines_150 rfl (lv_at hl 1 rfl) ?_
            refine lv_iconst (v := 1) hx hb dL_lines_151 (by decide) ?_
            obtain ⟨r27, G27, e27, h⟩ := bsome2 h
            refine lh_i (B' := (n17 * 64 + n2 * 652 + 492)) F hP hK hE hS hB kl_barOf mw_735 (ql_barOf l hst D Y ad hI G26 x1 (1 : Int32) r27 G27 e27) rfl hl.1 ⟨Nat.le_of_ble_eq_true rfl, Nat.le_of_ble_eq_true rfl⟩ (rest := [.int r26, .ref q_B126, .int r23, .ref (ad 77)]) rfl (Nat.le_of_ble_eq_true rfl) (by omega) dL_lines_152 (fun H locs cells slots hP hS hkp hB => ?_)
            have hA_B126 := hA_B126.kp hkp
            have hA_l2 := hA_l2.kp hkp
            refine lv_isub hx hb dL_lines_155 ?_
            obtain ⟨g28, h⟩ := ckS h
            have hv := hA_B126
            refine bd_I (B' := (n17 * 64 + n2 * 652 + 484)) F hJ hP hS hB hA_B126 g28.1 g28.2 hl.1 (Nat.le_of_ble_eq_true rfl) (rest := [.int r23, .ref (ad 77)]) (Nat.le_of_ble_eq_true rfl) (by omega) dL_lines_156 (fun b_B126 c_B126 f_B126 H cells slots hA_B126 hko hP hS hB => ?_)
            have hA_l2 := hA_l2.ko hko (hv.off (by simp)) (hv.off (by simp))
            have hv := hA_B126
            refine bd_T (B' := (n17 * 64 + n2 * 652 + 475)) F hJ hP hS hB hA_B126 hl.1 (Nat.le_of_ble_eq_true rfl) (rest := [.int r23, .ref (ad 77)]) (Nat.le_of_ble_eq_true rfl) (by omega) dL_lines_159 (fun q_s159 v_s159 H cells slots hA_s159 hn hko hP hS hB => ?_)
            have hA_l2 := hA_l2.ko hko (hv.off (by simp)) (hv.off (by simp))
            obtain ⟨r29, G29, e29, h⟩ := bsome2 h
            refine lm_i (B' := (n17 * 64 + n2 * 652 + 440)) F hP hK hE hS hB phS_b (phS_o hA_s159) k_L_spells mw_1362 (q_L_spells l hst D Y ad hI G27 (((([] : List Int32) ++ T_l2) ++ (stB 10)) ++ dgs (r26 - r27).toNatClampNeg) q_s159 v_s159 r23 r29 G29 e29) rfl hl.1 ⟨Nat.le_of_ble_eq_true rfl, Nat.le_of_ble_eq_true rfl⟩ (rest := []) rfl (Nat.le_of_ble_eq_true rfl) (by omega) dL_lines_162 (fun H locs cells slots o29 hP hS hkp hB => ?_)
            have hA_s159 := hA_s159.kp hkp
            have hA_l2 := hA_l2.kp hkp
            refine lv_if_ne (tgt := 170) hx hb dL_lines_165 (by decide) (fun c30 => ?_) (fun c30 => ?_)
            · have h := ifF h c30
              refine lv_iinc (v := (x1 + 1)) (lv' := [(1, .int (x1 + 1)), (0, .ref (ad 77)), (2, .ref q_l2), (3, .int x3)]) hx hb dL_lines_170 hl (k := 1) rfl rfl (by decide) rfl (fun ls hl => ?_)
              refine lv_goto (tgt := 2) hx hb dL_lines_173 (by decide) ?_
              exact ih2 G29 (x1 + 1)  _ _ _ _  hP hS  (hB.le (by omega)) ls (lv_sub hl [1, 0] rfl) h
            · have h := ifT h c30
              refine lv_iconst (v := 0) hx hb dL_lines_168 (by decide) ?_
              exact lm_end F hP hS hB hr hk rfl h dL_lines_169
          · have h := ifF h c22
            refine lv_aload_n hx hb dL_lines_27 rfl (lv_at hl 0 rfl) ?_
            refine lv_aload_n hx hb dL_lines_28 rfl (lv_at hl 0 rfl) ?_
            refine lv_iload_n hx hb dL_lines_29 rfl (lv_at hl 1 rfl) ?_
            refine lv_iload_n hx hb dL_lines_30 rfl (lv_at hl 3 rfl) ?_
            refine lv_iconst (v := 0) hx hb dL_lines_31 (by decide) ?_
            obtain ⟨r31, G31, e31, h⟩ := bsome2 h
            refine lh_i (B' := (n17 * 64 + n2 * 652 + 512)) F hP hK hE hS hB kl_part mw_763 (ql_part l hst D Y ad hI G21 x1 x3 (0 : Int32) r31 G31 e31) rfl hl.1 ⟨Nat.le_of_ble_eq_true rfl, Nat.le_of_ble_eq_true rfl⟩ (rest := [.ref (ad 77)]) rfl (Nat.le_of_ble_eq_true rfl) (by omega) dL_lines_32 (fun H locs cells slots hP hS hkp hB => ?_)
            have hA_l2 := hA_l2.kp hkp
            refine lv_iconst (v := 3) hx hb dL_lines_35 (by decide) ?_
            obtain ⟨r32, G32, e32, h⟩ := bsome2 h
            refine lh_i (B' := (n17 * 64 + n2 * 652 + 510)) F hP hK hE hS hB kl_of mw_689 (ql_of l hst D Y ad hI G31 r31 (3 : Int32) r32 G32 e32) rfl hl.1 ⟨Nat.le_of_ble_eq_true rfl, Nat.le_of_ble_eq_true rfl⟩ (rest := []) rfl (Nat.le_of_ble_eq_true rfl) (by omega) dL_lines_36 (fun H locs cells slots hP hS hkp hB => ?_)
            have hA_l2 := hA_l2.kp hkp
            refine lv_istore (lv' := [(4, .int r32), (0, .ref (ad 77)), (1, .int x1), (2, .ref q_l2), (3, .int x3)]) hx hb dL_lines_39 hl (by decide) rfl (fun ls hl => ?_)
            refine bd_N [q_l2, v_l2] (B' := (n17 * 64 + n2 * 652 + 508)) F hJ hP hS hB (List.forall_mem_cons.mpr ⟨hA_l2.lt.1, (List.forall_mem_cons.mpr ⟨hA_l2.lt.2, (fun _ z => nomatch z)⟩)⟩) hl.1 (Nat.le_of_ble_eq_true rfl) (rest := []) (Nat.le_of_ble_eq_true rfl) (by omega) dL_lines_41 dL_lines_44 dL_lines_45 (fun q_B41 b_B41 c_B41 f_B41 H cells slots hA_B41 hkp hP hS hB => ?_)
            have hA_l2 := hA_l2.kp hkp
            refine lv_aload_n hx hb dL_lines_48 rfl (lv_at hl 3 rfl) ?_
            obtain ⟨g33, h⟩ := ckS h
            have hv := hA_B41
            refine bd_S (B' := (n17 * 64 + n2 * 652 + 500)) F hK hJ hP hS hB hA_B41 hA_l2 (by simp) (by simp) g33 hl.1 (Nat.le_of_ble_eq_true rfl) (rest := []) (Nat.le_of_ble_eq_true rfl) (by omega) dL_lines_49 (fun b_B41 c_B41 f_B41 H cells slots hA_B41 hko hP hS hB => ?_)
            have hA_l2 := hA_l2.ko hko (hv.off (by simp)) (hv.off (by simp))
            refine lv_aload_n hx hb dL_lines_52 rfl (lv_at hl 1 rfl) ?_
            refine lv_iload_n hx hb dL_lines_53 rfl (lv_at hl 2 rfl) ?_
            refine lv_iload_n hx hb dL_lines_54 rfl (lv_at hl 4 rfl) ?_
            refine lv_iconst (v := 2) hx hb dL_lines_55 (by decide) ?_
            obtain ⟨r34, G34, e34, h⟩ := bsome2 h
            refine lh_i (B' := (n17 * 64 + n2 * 652 + 497)) F hP hK hE hS hB kl_part mw_763 (ql_part l hst D Y ad hI G32 x1 x3 (2 : Int32) r34 G34 e34) rfl hl.1 ⟨Nat.le_of_ble_eq_true rfl, Nat.le_of_ble_eq_true rfl⟩ (rest := [.ref q_B41]) rfl (Nat.le_of_ble_eq_true rfl) (by omega) dL_lines_56 (fun H locs cells slots hP hS hkp hB => ?_)
            have hA_B41 := hA_B41.kp hkp
            have hA_l2 := hA_l2.kp hkp
            refine lv_iconst (v := 1) hx hb dL_lines_59 (by decide) ?_
            refine lv_icmp_ne (tgt := 69) hx hb dL_lines_60 (by decide) (fun c35 => ?_) (fun c35 => ?_)
            · have h := ifF h c35
              refine ldcSW hx hb hown (hK.2.2.2.2.2 6 (by decide)) dL_lines_69 ?_
              have hA_c69 := Sg.ks hK hS (i := 6) (by decide)
              have hA_B41 := (hA_B41.old (ks_lt hK (i := 6) (by decide)).2).old (ks_lt hK (i := 6) (by decide)).1
              exact key72 x3 r32 (stB 6) (([] : List Int32) ++ T_l2) G34 (ad (200 + 6)) (ad (300 + 6)) q_B41 b_B41 c_B41 f_B41 _ _ _ _  hP hS  hA_c69 (hA_B41.sub (by simp)) (hB.le (by omega)) ls (lv_sub hl [1, 2, 4, 0] rfl) h
            · have h := ifT h c35
              refine ldcSW hx hb hown (hK.2.2.2.2.2 7 (by decide)) dL_lines_63 ?_
              have hA_c63 := Sg.ks hK hS (i := 7) (by decide)
              have hA_B41 := (hA_B41.old (ks_lt hK (i := 7) (by decide)).2).old (ks_lt hK (i := 7) (by decide)).1
              refine lv_goto (tgt := 72) hx hb dL_lines_66 (by decide) ?_
              exact key72 x3 r32 (stB 7) (([] : List Int32) ++ T_l2) G34 (ad (200 + 7)) (ad (300 + 7)) q_B41 b_B41 c_B41 f_B41 _ _ _ _  hP hS  hA_c63 (hA_B41.sub (by simp)) (hB.le (by omega)) ls (lv_sub hl [1, 2, 4, 0] rfl) h
      intro G x1  H locs cells slots  hP hS  hB ls hl h
      have h := lqS2 h
      refine lv_iload_n hx hb dL_lines_2 rfl (lv_at hl 1 rfl) ?_
      refine lv_aload_n hx hb dL_lines_3 rfl (lv_at hl 0 rfl) ?_
      refine lv_iconst (v := 0) hx hb dL_lines_4 (by decide) ?_
      obtain ⟨r36, G36, e36, h⟩ := bR h
      refine lx_V (B' := (n2 * 652 + 1029)) F hP hK hS hB k_X9_account mw_621 rfl (q_X9_account l hst D Y ad hI G (0 : Int32) (.inr r36) G36 e36) rfl hl.1 ⟨Nat.le_of_ble_eq_true rfl, Nat.le_of_ble_eq_true rfl⟩ (rest := [.int x1]) rfl (Nat.le_of_ble_eq_true rfl) (by omega) dL_lines_5 (fun H locs cells slots o36 hP hS hkp hB => ?_)
      refine lv_icmp_ge (tgt := 176) hx hb dL_lines_8 (by decide) (fun c37 => ?_) (fun c37 => ?_)
      · have h := ifT h c37
        refine lv_iconst (v := 0) hx hb dL_lines_176 (by decide) ?_
        refine lv_istore_n (lv' := [(1, .int (0 : Int32)), (0, .ref (ad 77))]) hx hb dL_lines_177 rfl hl (by decide) rfl (fun ls hl => ?_)
        exact key178 5 G36 (0 : Int32)  _ _ _ _  hP hS  (hB.le (by omega)) ls (lv_sub hl [1, 0] rfl) h
      · have h := ifF h c37
        refine ldcSW hx hb hown (hK.2.2.2.2.2 6 (by decide)) dL_lines_11 ?_
        have hA_c11 := Sg.ks hK hS (i := 6) (by decide)
        refine lv_astore_n (lv' := [(2, .ref (ad (200 + 6))), (0, .ref (ad 77)), (1, .int x1)]) hx hb dL_lines_14 rfl hl (by decide) rfl (fun ls hl => ?_)
        refine lv_iconst (v := 0) hx hb dL_lines_15 (by decide) ?_
        refine lv_istore_n (lv' := [(3, .int (0 : Int32)), (2, .ref (ad (200 + 6))), (0, .ref (ad 77)), (1, .int x1)]) hx hb dL_lines_16 rfl hl (by decide) rfl (fun ls hl => ?_)
        exact key17 x1 9 G36 (0 : Int32) (stB 6) (ad (200 + 6)) (ad (300 + 6)) _ _ _ _  hP hS  hA_c11 (hB.le (by omega)) ls (lv_sub hl [2, 3, 1, 0] rfl) h
  refine lv_iconst (v := 0) hx hb dL_lines_0 (by decide) ?_
  refine lv_istore_n (lv' := [(1, .int (0 : Int32)), (0, .ref (ad 77))]) hx hb dL_lines_1 rfl hl (by decide) rfl (fun ls hl => ?_)
  exact key2 7 G (0 : Int32)  _ _ _ _  hP hS  (hB.le (by omega)) ls (lv_sub hl [1, 0] rfl) h
