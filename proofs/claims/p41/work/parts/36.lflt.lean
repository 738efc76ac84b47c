def f_L_isFault_245 (a2 : Int32) (a3 : Int32) (n_M1 : Nat) (S_M1 : Nat → Nat → Int32) (G : GT) : Option (Int32 × GT) := some ((1 : Int32), G)
def f_L_isFault_187 (a2 : Int32) (a3 : Int32) (n_M1 : Nat) (S_M1 : Nat → Nat → Int32) (W_v121 : Nat → Int32) (w4 : Nat) (s187_0 : Int32) (G : GT) : Option (Int32 × GT) := (if s187_0 = 0 then some ((0 : Int32), G) else (if a2 = (1 : Int32) then (bindR (f_X9_account G (7 : Int32)) fun r5 G5 => (if (abs32 ((S_M1 w4 3) - (W_v121 0))) ≤ r5 then some ((0 : Int32), G5) else f_L_isFault_245 a2 a3 n_M1 S_M1 G5)) else (if (W_v121 1) = (S_M1 w4 3) then (if (W_v121 0) = (S_M1 w4 3) then f_L_isFault_245 a2 a3 n_M1 S_M1 G else some ((0 : Int32), G)) else some ((0 : Int32), G))))
def f_L_isFault_186 (a2 : Int32) (a3 : Int32) (n_M1 : Nat) (S_M1 : Nat → Nat → Int32) (W_v121 : Nat → Int32) (w4 : Nat) (G : GT) : Option (Int32 × GT) := f_L_isFault_187 a2 a3 n_M1 S_M1 W_v121 w4 (0 : Int32) G
def f_L_isFault_103 (a2 : Int32) (a3 : Int32) (n_M1 : Nat) (S_M1 : Nat → Nat → Int32) (k49 : GT → Int32 → Int32 → Option (Int32 × GT)) (x4 : Int32) (x7 : Int32) (x8 : Int32) (s103_0 : Int32) (G : GT) : Option (Int32 × GT) := k49 G s103_0 (x8 + 1)
def f_L_isFault_98 (a2 : Int32) (a3 : Int32) (n_M1 : Nat) (S_M1 : Nat → Nat → Int32) (k49 : GT → Int32 → Int32 → Option (Int32 × GT)) (x4 : Int32) (x7 : Int32) (x8 : Int32) (G : GT) : Option (Int32 × GT) := f_L_isFault_103 a2 a3 n_M1 S_M1 k49 x4 x7 x8 (1 : Int32) G
def f_L_isFault_102 (a2 : Int32) (a3 : Int32) (n_M1 : Nat) (S_M1 : Nat → Nat → Int32) (k49 : GT → Int32 → Int32 → Option (Int32 × GT)) (x4 : Int32) (x7 : Int32) (x8 : Int32) (G : GT) : Option (Int32 × GT) := f_L_isFault_103 a2 a3 n_M1 S_M1 k49 x4 x7 x8 (0 : Int32) G
def f_L_isFault_49 (a2 : Int32) (a3 : Int32) (n_M1 : Nat) (S_M1 : Nat → Nat → Int32) (x4 : Int32) (x7 : Int32) (n : Nat) (G : GT) (y_x5 : Int32) (y_x8 : Int32) : Option (Int32 × GT) := lq3 (fun (k49 : GT → Int32 → Int32 → Option (Int32 × GT)) (G : GT) (x5 : Int32) (x8 : Int32) => (if x7 ≤ x8 then (if okB x5 then some (x5, G) else none) else (if inb x8 n_M1 then (if x5 = 0 then (if 0 ≤ (S_M1 (x8.toNatClampNeg) 3) then f_L_isFault_102 a2 a3 n_M1 S_M1 k49 x4 x7 x8 G else (if x4 < (S_M1 (x8.toNatClampNeg) 4) then f_L_isFault_102 a2 a3 n_M1 S_M1 k49 x4 x7 x8 G else (if ((S_M1 (x8.toNatClampNeg) 4) + (S_M1 (x8.toNatClampNeg) 2)) ≤ x4 then f_L_isFault_102 a2 a3 n_M1 S_M1 k49 x4 x7 x8 G else f_L_isFault_98 a2 a3 n_M1 S_M1 k49 x4 x7 x8 G))) else f_L_isFault_98 a2 a3 n_M1 S_M1 k49 x4 x7 x8 G) else none))) n G y_x5 y_x8
def f_L_isFault_11 (a2 : Int32) (a3 : Int32) (n_M1 : Nat) (S_M1 : Nat → Nat → Int32) (n : Nat) (G : GT) (y_x4 : Int32) (y_x5 : Int32) : Option (Int32 × GT) := lq3 (fun (k11 : GT → Int32 → Int32 → Option (Int32 × GT)) (G : GT) (x4 : Int32) (x5 : Int32) => (if a3 ≤ x5 then f_L_isFault_49 a2 a3 n_M1 S_M1 x4 (nI n_M1) 17 G (0 : Int32) (0 : Int32) else (bind2 (fw_barOf G x5 (0 : Int32)) fun r16 G16 => k11 G16 (x4 + r16) (x5 + 1)))) n G y_x4 y_x5
def f_L_isFault (G : GT) (n_M1 : Nat) (S_M1 : Nat → Nat → Int32) (a2 : Int32) (a3 : Int32) : Option (Int32 × GT) := (if a2 = (3 : Int32) then f_L_isFault_11 a2 a3 n_M1 S_M1 7 G (0 : Int32) (0 : Int32) else (if inb a3 n_M1 then (bind2 (f_L_ahead G n_M1 S_M1 a3) fun W20 G20 => (if a2 = (4 : Int32) then (if (S_M1 (a3.toNatClampNeg) 3) < 0 then (if (S_M1 (a3.toNatClampNeg) 5) ≤ (1 : Int32) then some ((0 : Int32), G20) else some ((1 : Int32), G20)) else (if (S_M1 (a3.toNatClampNeg) 5) ≤ (2 : Int32) then some ((0 : Int32), G20) else some ((1 : Int32), G20))) else (if (S_M1 (a3.toNatClampNeg) 3) < 0 then f_L_isFault_186 a2 a3 n_M1 S_M1 W20 (a3.toNatClampNeg) G20 else (if (W20 0) < 0 then f_L_isFault_186 a2 a3 n_M1 S_M1 W20 (a3.toNatClampNeg) G20 else f_L_isFault_187 a2 a3 n_M1 S_M1 W20 (a3.toNatClampNeg) (1 : Int32) G20)))) else none))
set_option maxRecDepth 100000 in
set_option maxHeartbeats 8000000 in
theorem q_L_isFault (l : Launch) (hst : l.stackTraces = false) (D : va_G) (Y : Nat → ClassId) (ad : Nat → Nat) (hI : Inj 90 ad) (G : GT) (n_M1 : Nat) (S_M1 : Nat → Nat → Int32) (q_M1 : Nat) (r_M1 : Nat → Nat) (a2 : Int32) (a3 : Int32) (r : Int32) (G' : GT) (h : f_L_isFault G n_M1 S_M1 a2 a3 = some (r, G')) : LM l yL_isFault cL_isFault 10 (some .boolean) 11 14 D Y ad G (PhM Y ad q_M1 n_M1 r_M1 S_M1) [.ref (ad 77), .ref q_M1, .int a2, .int a3] (PI (some .boolean) r D Y ad G') := by
  refine LM_of (ret := (some .boolean)) (by decide) (Nat.le_of_ble_eq_true rfl) (lv := [(0, .ref (ad 77)), (1, .ref q_M1), (2, .int a2), (3, .int a3)]) rfl ?_
  intro p ev s m below meth c ls F hP hK hE hΦ hS hr hk hl hB
  have F : Fx p c cL_isFault 10 s m _ RL D Y := F
  have hx := F.1.1
  have hb := F.1.2.1
  have hts := F.1.2.2.2.2
  have hown := F.1.2.2.2.1
  have hA_M1 : MX Y ad q_M1 n_M1 r_M1 S_M1 s.heap := hΦ
  have key245 : ∀ (G : GT) (H : Heap) (locs : List Loc) (cells slots : Nat), va_P D vwCl (wsC Y ad G) H → va_S (AW 90 ad) s.heap H locs → Bg 14 cells slots (0) → ∀ ls : Array Slot, lv_has ls 10 [] → f_L_isFault_245 a2 a3 n_M1 S_M1   G = some (r, G') → W p l ev (rmD 11 14 (16 * 14)) s m ([.ref (ad 77), .ref q_M1, .int a2, .int a3] : List Value).toArray below meth c H locs cells slots (MQ below (LQ (PI (some .boolean) r D Y ad G') (AW 90 ad)) ([.ref (ad 77), .ref q_M1, .int a2, .int a3] : List Value).toArray s 14 (16 * 14) (AW 90 ad)) (F0 m 245 ls []) := by
    intro  G  H locs cells slots  hP hS  hB ls hl h
    refine lv_iconst (v := 1) hx hb dL_isFault_245 (by decide) ?_
    refine lv_goto (tgt := 250) hx hb dL_isFault_246 (by decide) ?_
    exact lm_end F hP hS hB hr hk rfl h dL_isFault_250
  have key187 : ∀ (W_v121 : Nat → Int32) (w4 : Nat) (s187_0 : Int32) (G : GT) (q_v121 : Nat) (H : Heap) (locs : List Loc) (cells slots : Nat), s.heap.size ≤ q_v121 → (q_M1 ≠ q_v121 ∧ ∀ i, i < n_M1 → r_M1 i ≠ q_v121) → w4 < n_M1 → va_P D vwCl (wsC Y ad G) H → va_S (AW 90 ad) s.heap H locs → MX Y ad q_M1 n_M1 r_M1 S_M1 H → AI Y ad q_v121 2 W_v121 H → Bg 14 cells slots (1) → ∀ ls : Array Slot, lv_has ls 10 [(0, .ref (ad 77)), (2, .int a2), (4, .ref (r_M1 w4)), (5, .ref q_v121)] → f_L_isFault_187 a2 a3 n_M1 S_M1  W_v121 w4 s187_0 G = some (r, G') → W p l ev (rmD 11 14 (16 * 14)) s m ([.ref (ad 77), .ref q_M1, .int a2, .int a3] : List Value).toArray below meth c H locs cells slots (MQ below (LQ (PI (some .boolean) r D Y ad G') (AW 90 ad)) ([.ref (ad 77), .ref q_M1, .int a2, .int a3] : List Value).toArray s 14 (16 * 14) (AW 90 ad)) (F0 m 187 ls [.int s187_0]) := by
    intro W_v121 w4 s187_0 G q_v121 H locs cells slots hf_v121 hne_M1_v121 hw4 hP hS hA_M1 hA_v121 hB ls hl h
    refine lv_istore (lv' := [(6, .int s187_0), (0, .ref (ad 77)), (2, .int a2), (4, .ref (r_M1 w4)), (5, .ref q_v121)]) hx hb dL_isFault_187 hl (by decide) rfl (fun ls hl => ?_)
    refine lv_iload hx hb dL_isFault_189 (lv_at hl 0 rfl) ?_
    refine lv_if_eq (tgt := 249) hx hb dL_isFault_191 (by decide) (fun c1 => ?_) (fun c1 => ?_)
    · have h := ifT h c1
      refine lv_iconst (v := 0) hx hb dL_isFault_249 (by decide) ?_
      exact lm_end F hP hS hB hr hk rfl h dL_isFault_250
    · have h := ifF h c1
      refine lv_iload_n hx hb dL_isFault_194 rfl (lv_at hl 2 rfl) ?_
      refine lv_iconst (v := 1) hx hb dL_isFault_195 (by decide) ?_
      refine lv_icmp_ne (tgt := 223) hx hb dL_isFault_196 (by decide) (fun c2 => ?_) (fun c2 => ?_)
      · have h := ifF h c2
        refine lv_aload hx hb dL_isFault_223 (lv_at hl 4 rfl) ?_
        refine lv_iconst (v := 1) hx hb dL_isFault_225 (by decide) ?_
        refine ai_ldk F hA_v121 (k := 1) (by decide) (inbV (by decide) (by decide)) dL_isFault_226 ?_
        refine lv_aload hx hb dL_isFault_227 (lv_at hl 3 rfl) ?_
        refine lv_iconst (v := 3) hx hb dL_isFault_229 (by decide) ?_
        refine ai_ldk F (hA_M1.2.2.1 _ hw4).2 (k := 3) (by decide) (inbV (by decide) (by decide)) dL_isFault_230 ?_
        refine lv_icmp_ne (tgt := 249) hx hb dL_isFault_231 (by decide) (fun c3 => ?_) (fun c3 => ?_)
        · have h := ifF h c3
          refine lv_iconst (v := 0) hx hb dL_isFault_249 (by decide) ?_
          exact lm_end F hP hS hB hr hk rfl h dL_isFault_250
        · have h := ifT h c3
          refine lv_aload hx hb dL_isFault_234 (lv_at hl 4 rfl) ?_
          refine lv_iconst (v := 0) hx hb dL_isFault_236 (by decide) ?_
          refine ai_ldk F hA_v121 (k := 0) (by decide) (inbV (by decide) (by decide)) dL_isFault_237 ?_
          refine lv_aload hx hb dL_isFault_238 (lv_at hl 3 rfl) ?_
          refine lv_iconst (v := 3) hx hb dL_isFault_240 (by decide) ?_
          refine ai_ldk F (hA_M1.2.2.1 _ hw4).2 (k := 3) (by decide) (inbV (by decide) (by decide)) dL_isFault_241 ?_
          refine lv_icmp_ne (tgt := 249) hx hb dL_isFault_242 (by decide) (fun c4 => ?_) (fun c4 => ?_)
          · have h := ifF h c4
            refine lv_iconst (v := 0) hx hb dL_isFault_249 (by decide) ?_
            exact lm_end F hP hS hB hr hk rfl h dL_isFault_250
          · have h := ifT h c4
            exact key245 G  _ _ _ _  hP hS  (hB.le (by omega)) ls (lv_sub hl [] rfl) h
      · have h := ifT h c2
        refine lv_aload hx hb dL_isFault_199 (lv_at hl 3 rfl) ?_
        refine lv_iconst (v := 3) hx hb dL_isFault_201 (by decide) ?_
        refine ai_ldk F (hA_M1.2.2.1 _ hw4).2 (k := 3) (by decide) (inbV (by decide) (by decide)) dL_isFault_202 ?_
        refine lv_aload hx hb dL_isFault_203 (lv_at hl 4 rfl) ?_
        refine lv_iconst (v := 0) hx hb dL_isFault_205 (by decide) ?_
        refine ai_ldk F hA_v121 (k := 0) (by decide) (inbV (by decide) (by decide)) dL_isFault_206 ?_
        refine lv_isub hx hb dL_isFault_207 ?_
        refine lw_abs F hl hB mw_805 ⟨Nat.le_of_ble_eq_true rfl, Nat.le_of_ble_eq_true rfl⟩ dL_isFault_208 ?_
        refine lv_aload_n hx hb dL_isFault_211 rfl (lv_at hl 1 rfl) ?_
        refine lv_bipush (v := 7) hx hb dL_isFault_212 (by decide) ?_
        obtain ⟨r5, G5, e5, h⟩ := bR h
        refine lx_V (B' := (0)) F hP hK hS hB k_X9_account mw_621 rfl (q_X9_account l hst D Y ad hI G (7 : Int32) (.inr r5) G5 e5) rfl hl.1 ⟨Nat.le_of_ble_eq_true rfl, Nat.le_of_ble_eq_true rfl⟩ (rest := [.int (abs32 ((S_M1 w4 3) - (W_v121 0)))]) rfl (Nat.le_of_ble_eq_true rfl) (by omega) dL_isFault_214 (fun H locs cells slots o5 hP hS hkp hB => ?_)
        have hA_M1 := hA_M1.kp hkp
        have hA_v121 := hA_v121.kp hkp
        refine lv_icmp_le (tgt := 249) hx hb dL_isFault_217 (by decide) (fun c6 => ?_) (fun c6 => ?_)
        · have h := ifT h c6
          refine lv_iconst (v := 0) hx hb dL_isFault_249 (by decide) ?_
          exact lm_end F hP hS hB hr hk rfl h dL_isFault_250
        · have h := ifF h c6
          refine lv_goto (tgt := 245) hx hb dL_isFault_220 (by decide) ?_
          exact key245 G5  _ _ _ _  hP hS  (hB.le (by omega)) ls (lv_sub hl [] rfl) h
  have key186 : ∀ (W_v121 : Nat → Int32) (w4 : Nat) (G : GT) (q_v121 : Nat) (H : Heap) (locs : List Loc) (cells slots : Nat), s.heap.size ≤ q_v121 → (q_M1 ≠ q_v121 ∧ ∀ i, i < n_M1 → r_M1 i ≠ q_v121) → w4 < n_M1 → va_P D vwCl (wsC Y ad G) H → va_S (AW 90 ad) s.heap H locs → MX Y ad q_M1 n_M1 r_M1 S_M1 H → AI Y ad q_v121 2 W_v121 H → Bg 14 cells slots (1) → ∀ ls : Array Slot, lv_has ls 10 [(0, .ref (ad 77)), (2, .int a2), (4, .ref (r_M1 w4)), (5, .ref q_v121)] → f_L_isFault_186 a2 a3 n_M1 S_M1  W_v121 w4 G = some (r, G') → W p l ev (rmD 11 14 (16 * 14)) s m ([.ref (ad 77), .ref q_M1, .int a2, .int a3] : List Value).toArray below meth c H locs cells slots (MQ below (LQ (PI (some .boolean) r D Y ad G') (AW 90 ad)) ([.ref (ad 77), .ref q_M1, .int a2, .int a3] : List Value).toArray s 14 (16 * 14) (AW 90 ad)) (F0 m 186 ls []) := by
    intro W_v121 w4 G q_v121 H locs cells slots hf_v121 hne_M1_v121 hw4 hP hS hA_M1 hA_v121 hB ls hl h
    refine lv_iconst (v := 0) hx hb dL_isFault_186 (by decide) ?_
    exact key187 W_v121 w4 (0 : Int32) G q_v121 _ _ _ _ hf_v121 hne_M1_v121 hw4 hP hS hA_M1 hA_v121 (hB.le (by omega)) ls (lv_sub hl [0, 1, 2, 3] rfl) h
  have key49 : ∀ (x4 : Int32) (x7 : Int32) (n : Nat) (G : GT) (x5 : Int32) (x8 : Int32) (H : Heap) (locs : List Loc) (cells slots : Nat), va_P D vwCl (wsC Y ad G) H → va_S (AW 90 ad) s.heap H locs → MX Y ad q_M1 n_M1 r_M1 S_M1 H → Bg 14 cells slots (n * 0 + 0) → ∀ ls : Array Slot, lv_has ls 10 [(4, .int x4), (5, .int x5), (6, .ref q_M1), (7, .int x7), (8, .int x8)] → f_L_isFault_49 a2 a3 n_M1 S_M1  x4 x7 n G x5 x8 = some (r, G') → W p l ev (rmD 11 14 (16 * 14)) s m ([.ref (ad 77), .ref q_M1, .int a2, .int a3] : List Value).toArray below meth c H locs cells slots (MQ below (LQ (PI (some .boolean) r D Y ad G') (AW 90 ad)) ([.ref (ad 77), .ref q_M1, .int a2, .int a3] : List Value).toArray s 14 (16 * 14) (AW 90 ad)) (F0 m 49 ls []) := by
    intro x4 x7
    intro n
    induction n with
    | zero => intro G x5 x8  H locs cells slots  hP hS hA_M1 hB ls hl h; exact lqZ3 h
    | succ n49 ih49 =>
      have key103 : ∀ (x8 : Int32) (s103_0 : Int32) (G : GT) (H : Heap) (locs : List Loc) (cells slots : Nat), va_P D vwCl (wsC Y ad G) H → va_S (AW 90 ad) s.heap H locs → MX Y ad q_M1 n_M1 r_M1 S_M1 H → Bg 14 cells slots (n49 * 0 + 0) → ∀ ls : Array Slot, lv_has ls 10 [(4, .int x4), (6, .ref q_M1), (7, .int x7), (8, .int x8)] → f_L_isFault_103 a2 a3 n_M1 S_M1 (f_L_isFault_49 a2 a3 n_M1 S_M1  x4 x7 n49) x4 x7 x8 s103_0 G = some (r, G') → W p l ev (rmD 11 14 (16 * 14)) s m ([.ref (ad 77), .ref q_M1, .int a2, .int a3] : List Value).toArray below meth c H locs cells slots (MQ below (LQ (PI (some .boolean) r D Y ad G') (AW 90 ad)) ([.ref (ad 77), .ref q_M1, .int a2, .int a3] : List Value).toArray s 14 (16 * 14) (AW 90 ad)) (F0 m 103 ls [.int s103_0]) := by
        intro x8 s103_0 G  H locs cells slots  hP hS hA_M1 hB ls hl h
        refine lv_istore (lv' := [(5, .int s103_0), (4, .int x4), (6, .ref q_M1), (7, .int x7), (8, .int x8)]) hx hb dL_isFault_103 hl (by decide) rfl (fun ls hl => ?_)
        refine lv_iinc (v := (x8 + 1)) (lv' := [(8, .int (x8 + 1)), (5, .int s103_0), (4, .int x4), (6, .ref q_M1), (7, .int x7)]) hx hb dL_isFault_105 hl (k := 4) rfl rfl (by decide) rfl (fun ls hl => ?_)
        refine lv_goto (tgt := 49) hx hb dL_isFault_108 (by decide) ?_
        exact ih49 G s103_0 (x8 + 1)  _ _ _ _  hP hS hA_M1 (hB.le (by omega)) ls (lv_sub hl [2, 1, 3, 4, 0] rfl) h
      have key98 : ∀ (x8 : Int32) (G : GT) (H : Heap) (locs : List Loc) (cells slots : Nat), va_P D vwCl (wsC Y ad G) H → va_S (AW 90 ad) s.heap H locs → MX Y ad q_M1 n_M1 r_M1 S_M1 H → Bg 14 cells slots (n49 * 0 + 0) → ∀ ls : Array Slot, lv_has ls 10 [(4, .int x4), (6, .ref q_M1), (7, .int x7), (8, .int x8)] → f_L_isFault_98 a2 a3 n_M1 S_M1 (f_L_isFault_49 a2 a3 n_M1 S_M1  x4 x7 n49) x4 x7 x8 G = some (r, G') → W p l ev (rmD 11 14 (16 * 14)) s m ([.ref (ad 77), .ref q_M1, .int a2, .int a3] : List Value).toArray below meth c H locs cells slots (MQ below (LQ (PI (some .boolean) r D Y ad G') (AW 90 ad)) ([.ref (ad 77), .ref q_M1, .int a2, .int a3] : List Value).toArray s 14 (16 * 14) (AW 90 ad)) (F0 m 98 ls []) := by
        intro x8 G  H locs cells slots  hP hS hA_M1 hB ls hl h
        refine lv_iconst (v := 1) hx hb dL_isFault_98 (by decide) ?_
        refine lv_goto (tgt := 103) hx hb dL_isFault_99 (by decide) ?_
        exact key103 x8 (1 : Int32) G  _ _ _ _  hP hS hA_M1 (hB.le (by omega)) ls (lv_sub hl [0, 1, 2, 3] rfl) h
      have key102 : ∀ (x8 : Int32) (G : GT) (H : Heap) (locs : List Loc) (cells slots : Nat), va_P D vwCl (wsC Y ad G) H → va_S (AW 90 ad) s.heap H locs → MX Y ad q_M1 n_M1 r_M1 S_M1 H → Bg 14 cells slots (n49 * 0 + 0) → ∀ ls : Array Slot, lv_has ls 10 [(4, .int x4), (6, .ref q_M1), (7, .int x7), (8, .int x8)] → f_L_isFault_102 a2 a3 n_M1 S_M1 (f_L_isFault_49 a2 a3 n_M1 S_M1  x4 x7 n49) x4 x7 x8 G = some (r, G') → W p l ev (rmD 11 14 (16 * 14)) s m ([.ref (ad 77), .ref q_M1, .int a2, .int a3] : List Value).toArray below meth c H locs cells slots (MQ below (LQ (PI (some .boolean) r D Y ad G') (AW 90 ad)) ([.ref (ad 77), .ref q_M1, .int a2, .int a3] : List Value).toArray s 14 (16 * 14) (AW 90 ad)) (F0 m 102 ls []) := by
        intro x8 G  H locs cells slots  hP hS hA_M1 hB ls hl h
        refine lv_iconst (v := 0) hx hb dL_isFault_102 (by decide) ?_
        exact key103 x8 (0 : Int32) G  _ _ _ _  hP hS hA_M1 (hB.le (by omega)) ls (lv_sub hl [0, 1, 2, 3] rfl) h
      intro G x5 x8  H locs cells slots  hP hS hA_M1 hB ls hl h
      have h := lqS3 h
      refine lv_iload hx hb dL_isFault_49 (lv_at hl 4 rfl) ?_
      refine lv_iload hx hb dL_isFault_51 (lv_at hl 3 rfl) ?_
      refine lv_icmp_ge (tgt := 111) hx hb dL_isFault_53 (by decide) (fun c7 => ?_) (fun c7 => ?_)
      · have h := ifT h c7
        refine lv_iload hx hb dL_isFault_111 (lv_at hl 1 rfl) ?_
        obtain ⟨b8, h⟩ := ckS h
        exact lm_end F hP hS hB hr hk (okB_n b8) h dL_isFault_113
      · have h := ifF h c7
        refine lv_aload hx hb dL_isFault_56 (lv_at hl 2 rfl) ?_
        refine lv_iload hx hb dL_isFault_58 (lv_at hl 4 rfl) ?_
        obtain ⟨b9, h⟩ := ckS h
        refine mx_row F hA_M1 b9 dL_isFault_60 (fun hw10 => ?_)
        refine lv_astore (lv' := [(9, .ref (r_M1 (x8.toNatClampNeg))), (4, .int x4), (5, .int x5), (6, .ref q_M1), (7, .int x7), (8, .int x8)]) hx hb dL_isFault_61 hl (by decide) rfl (fun ls hl => ?_)
        refine lv_iload hx hb dL_isFault_63 (lv_at hl 2 rfl) ?_
        refine lv_if_ne (tgt := 98) hx hb dL_isFault_65 (by decide) (fun c11 => ?_) (fun c11 => ?_)
        · have h := ifF h c11
          exact key98 x8 G  _ _ _ _  hP hS hA_M1 (hB.le (by omega)) ls (lv_sub hl [1, 3, 4, 5] rfl) h
        · have h := ifT h c11
          refine lv_aload hx hb dL_isFault_68 (lv_at hl 0 rfl) ?_
          refine lv_iconst (v := 3) hx hb dL_isFault_70 (by decide) ?_
          refine ai_ldk F (hA_M1.2.2.1 _ hw10).2 (k := 3) (by decide) (inbV (by decide) (by decide)) dL_isFault_71 ?_
          refine lv_if_ge (tgt := 102) hx hb dL_isFault_72 (by decide) (fun c12 => ?_) (fun c12 => ?_)
          · have h := ifT h c12
            exact key102 x8 G  _ _ _ _  hP hS hA_M1 (hB.le (by omega)) ls (lv_sub hl [1, 3, 4, 5] rfl) h
          · have h := ifF h c12
            refine lv_aload hx hb dL_isFault_75 (lv_at hl 0 rfl) ?_
            refine lv_iconst (v := 4) hx hb dL_isFault_77 (by decide) ?_
            refine ai_ldk F (hA_M1.2.2.1 _ hw10).2 (k := 4) (by decide) (inbV (by decide) (by decide)) dL_isFault_78 ?_
            refine lv_iload hx hb dL_isFault_79 (lv_at hl 1 rfl) ?_
            refine lv_icmp_gt (tgt := 102) hx hb dL_isFault_81 (by decide) (fun c13 => ?_) (fun c13 => ?_)
            · have h := ifT h c13
              exact key102 x8 G  _ _ _ _  hP hS hA_M1 (hB.le (by omega)) ls (lv_sub hl [1, 3, 4, 5] rfl) h
            · have h := ifF h c13
              refine lv_aload hx hb dL_isFault_84 (lv_at hl 0 rfl) ?_
              refine lv_iconst (v := 4) hx hb dL_isFault_86 (by decide) ?_
              refine ai_ldk F (hA_M1.2.2.1 _ hw10).2 (k := 4) (by decide) (inbV (by decide) (by decide)) dL_isFault_87 ?_
              refine lv_aload hx hb dL_isFault_88 (lv_at hl 0 rfl) ?_
              refine lv_iconst (v := 2) hx hb dL_isFault_90 (by decide) ?_
              refine ai_ldk F (hA_M1.2.2.1 _ hw10).2 (k := 2) (by decide) (inbV (by decide) (by decide)) dL_isFault_91 ?_
              refine lv_iadd hx hb dL_isFault_92 ?_
              refine lv_iload hx hb dL_isFault_93 (lv_at hl 1 rfl) ?_
              refine lv_icmp_le (tgt := 102) hx hb dL_isFault_95 (by decide) (fun c14 => ?_) (fun c14 => ?_)
              · have h := ifT h c14
                exact key102 x8 G  _ _ _ _  hP hS hA_M1 (hB.le (by omega)) ls (lv_sub hl [1, 3, 4, 5] rfl) h
              · have h := ifF h c14
                exact key98 x8 G  _ _ _ _  hP hS hA_M1 (hB.le (by omega)) ls (lv_sub hl [1, 3, 4, 5] rfl) h
  have key11 : ∀ (n : Nat) (G : GT) (x4 : Int32) (x5 : Int32) (H : Heap) (locs : List Loc) (cells slots : Nat), va_P D vwCl (wsC Y ad G) H → va_S (AW 90 ad) s.heap H locs → MX Y ad q_M1 n_M1 r_M1 S_M1 H → Bg 14 cells slots (n * 2 + 0) → ∀ ls : Array Slot, lv_has ls 10 [(0, .ref (ad 77)), (1, .ref q_M1), (3, .int a3), (4, .int x4), (5, .int x5)] → f_L_isFault_11 a2 a3 n_M1 S_M1   n G x4 x5 = some (r, G') → W p l ev (rmD 11 14 (16 * 14)) s m ([.ref (ad 77), .ref q_M1, .int a2, .int a3] : List Value).toArray below meth c H locs cells slots (MQ below (LQ (PI (some .boolean) r D Y ad G') (AW 90 ad)) ([.ref (ad 77), .ref q_M1, .int a2, .int a3] : List Value).toArray s 14 (16 * 14) (AW 90 ad)) (F0 m 11 ls []) := by
    intro n
    induction n with
    | zero => intro G x4 x5  H locs cells slots  hP hS hA_M1 hB ls hl h; exact lqZ3 h
    | succ n11 ih11 =>
      intro G x4 x5  H locs cells slots  hP hS hA_M1 hB ls hl h
      have h := lqS3 h
      refine lv_iload hx hb dL_isFault_11 (lv_at hl 4 rfl) ?_
      refine lv_iload_n hx hb dL_isFault_13 rfl (lv_at hl 2 rfl) ?_
      refine lv_icmp_ge (tgt := 35) hx hb dL_isFault_14 (by decide) (fun c15 => ?_) (fun c15 => ?_)
      · have h := ifT h c15
        refine lv_iconst (v := 0) hx hb dL_isFault_35 (by decide) ?_
        refine lv_istore (lv' := [(5, .int (0 : Int32)), (0, .ref (ad 77)), (1, .ref q_M1), (3, .int a3), (4, .int x4)]) hx hb dL_isFault_36 hl (by decide) rfl (fun ls hl => ?_)
        refine lv_aload_n hx hb dL_isFault_38 rfl (lv_at hl 2 rfl) ?_
        refine lv_astore (lv' := [(6, .ref q_M1), (5, .int (0 : Int32)), (0, .ref (ad 77)), (1, .ref q_M1), (3, .int a3), (4, .int x4)]) hx hb dL_isFault_39 hl (by decide) rfl (fun ls hl => ?_)
        refine lv_aload hx hb dL_isFault_41 (lv_at hl 0 rfl) ?_
        refine mx_len F hA_M1 dL_isFault_43 ?_
        refine lv_istore (lv' := [(7, .int (nI n_M1)), (6, .ref q_M1), (5, .int (0 : Int32)), (0, .ref (ad 77)), (1, .ref q_M1), (3, .int a3), (4, .int x4)]) hx hb dL_isFault_44 hl (by decide) rfl (fun ls hl => ?_)
        refine lv_iconst (v := 0) hx hb dL_isFault_46 (by decide) ?_
        refine lv_istore (lv' := [(8, .int (0 : Int32)), (7, .int (nI n_M1)), (6, .ref q_M1), (5, .int (0 : Int32)), (0, .ref (ad 77)), (1, .ref q_M1), (3, .int a3), (4, .int x4)]) hx hb dL_isFault_47 hl (by decide) rfl (fun ls hl => ?_)
        exact key49 x4 (nI n_M1) 17 G (0 : Int32) (0 : Int32)  _ _ _ _  hP hS hA_M1 (hB.le (by omega)) ls (lv_sub hl [7, 3, 2, 1, 0] rfl) h
      · have h := ifF h c15
        refine lv_iload hx hb dL_isFault_17 (lv_at hl 3 rfl) ?_
        refine lv_aload_n hx hb dL_isFault_19 rfl (lv_at hl 0 rfl) ?_
        refine lv_iload hx hb dL_isFault_20 (lv_at hl 4 rfl) ?_
        refine lv_iconst (v := 0) hx hb dL_isFault_22 (by decide) ?_
        obtain ⟨r16, G16, e16, h⟩ := bsome2 h
        refine lh_i (B' := (n11 * 2 + 0)) F hP hK hE hS hB kl_barOf mw_735 (ql_barOf l hst D Y ad hI G x5 (0 : Int32) r16 G16 e16) rfl hl.1 ⟨Nat.le_of_ble_eq_true rfl, Nat.le_of_ble_eq_true rfl⟩ (rest := [.int x4]) rfl (Nat.le_of_ble_eq_true rfl) (by omega) dL_isFault_23 (fun H locs cells slots hP hS hkp hB => ?_)
        have hA_M1 := hA_M1.kp hkp
        refine lv_iadd hx hb dL_isFault_26 ?_
        refine lv_istore (lv' := [(4, .int (x4 + r16)), (0, .ref (ad 77)), (1, .ref q_M1), (3, .int a3), (5, .int x5)]) hx hb dL_isFault_27 hl (by decide) rfl (fun ls hl => ?_)
        refine lv_iinc (v := (x5 + 1)) (lv' := [(5, .int (x5 + 1)), (4, .int (x4 + r16)), (0, .ref (ad 77)), (1, .ref q_M1), (3, .int a3)]) hx hb dL_isFault_29 hl (k := 4) rfl rfl (by decide) rfl (fun ls hl => ?_)
        refine lv_goto (tgt := 11) hx hb dL_isFault_32 (by decide) ?_
        exact ih11 G16 (x4 + r16) (x5 + 1)  _ _ _ _  hP hS hA_M1 (hB.le (by omega)) ls (lv_sub hl [2, 3, 4, 1, 0] rfl) h
  refine lv_iload_n hx hb dL_isFault_0 rfl (lv_at hl 2 rfl) ?_
  refine lv_iconst (v := 3) hx hb dL_isFault_1 (by decide) ?_
  refine lv_icmp_ne (tgt := 114) hx hb dL_isFault_2 (by decide) (fun c17 => ?_) (fun c17 => ?_)
  · have h := ifF h c17
    refine lv_aload_n hx hb dL_isFault_114 rfl (lv_at hl 1 rfl) ?_
    refine lv_iload_n hx hb dL_isFault_115 rfl (lv_at hl 3 rfl) ?_
    obtain ⟨b18, h⟩ := ckS h
    refine mx_row F hA_M1 b18 dL_isFault_116 (fun hw19 => ?_)
    refine lv_astore (lv' := [(4, .ref (r_M1 (a3.toNatClampNeg))), (0, .ref (ad 77)), (1, .ref q_M1), (2, .int a2), (3, .int a3)]) hx hb dL_isFault_117 hl (by decide) rfl (fun ls hl => ?_)
    refine lv_aload_n hx hb dL_isFault_119 rfl (lv_at hl 2 rfl) ?_
    refine lv_iload_n hx hb dL_isFault_120 rfl (lv_at hl 4 rfl) ?_
    obtain ⟨W20, G20, e20, h⟩ := bsome2 h
    refine lm_v (B' := (13)) F hP hK hE hS hB phM_b (phM_o hA_M1) k_L_ahead mw_802 (q_L_ahead l hst D Y ad hI G n_M1 S_M1 q_M1 r_M1 a3 W20 G20 e20) rfl hl.1 ⟨Nat.le_of_ble_eq_true rfl, Nat.le_of_ble_eq_true rfl⟩ (rest := []) rfl (Nat.le_of_ble_eq_true rfl) (by omega) dL_isFault_121 (fun q_v121 H locs cells slots hA_v121 hf_v121 hd hP hS hkp hB => ?_)
    have hne_M1_v121 : (q_M1 ≠ q_v121 ∧ ∀ i, i < n_M1 → r_M1 i ≠ q_v121) := ⟨hd _ hA_M1.lt, fun i hi => hd _ (hA_M1.2.2.1 i hi).2.lt⟩
    have hA_M1 := hA_M1.kp hkp
    refine lv_astore (lv' := [(5, .ref q_v121), (4, .ref (r_M1 (a3.toNatClampNeg))), (0, .ref (ad 77)), (1, .ref q_M1), (2, .int a2), (3, .int a3)]) hx hb dL_isFault_124 hl (by decide) rfl (fun ls hl => ?_)
    refine lv_iload_n hx hb dL_isFault_126 rfl (lv_at hl 4 rfl) ?_
    refine lv_iconst (v := 4) hx hb dL_isFault_127 (by decide) ?_
    refine lv_icmp_ne (tgt := 168) hx hb dL_isFault_128 (by decide) (fun c21 => ?_) (fun c21 => ?_)
    · have h := ifF h c21
      refine lv_aload hx hb dL_isFault_168 (lv_at hl 1 rfl) ?_
      refine lv_iconst (v := 3) hx hb dL_isFault_170 (by decide) ?_
      refine ai_ldk F (hA_M1.2.2.1 _ hw19).2 (k := 3) (by decide) (inbV (by decide) (by decide)) dL_isFault_171 ?_
      refine lv_if_lt (tgt := 186) hx hb dL_isFault_172 (by decide) (fun c22 => ?_) (fun c22 => ?_)
      · have h := ifT h c22
        exact key186 W20 (a3.toNatClampNeg) G20 q_v121 _ _ _ _ hf_v121 hne_M1_v121 hw19 hP hS hA_M1 hA_v121 (hB.le (by omega)) ls (lv_sub hl [2, 4, 1, 0] rfl) h
      · have h := ifF h c22
        refine lv_aload hx hb dL_isFault_175 (lv_at hl 0 rfl) ?_
        refine lv_iconst (v := 0) hx hb dL_isFault_177 (by decide) ?_
        refine ai_ldk F hA_v121 (k := 0) (by decide) (inbV (by decide) (by decide)) dL_isFault_178 ?_
        refine lv_if_lt (tgt := 186) hx hb dL_isFault_179 (by decide) (fun c23 => ?_) (fun c23 => ?_)
        · have h := ifT h c23
          exact key186 W20 (a3.toNatClampNeg) G20 q_v121 _ _ _ _ hf_v121 hne_M1_v121 hw19 hP hS hA_M1 hA_v121 (hB.le (by omega)) ls (lv_sub hl [2, 4, 1, 0] rfl) h
        · have h := ifF h c23
          refine lv_iconst (v := 1) hx hb dL_isFault_182 (by decide) ?_
          refine lv_goto (tgt := 187) hx hb dL_isFault_183 (by decide) ?_
          exact key187 W20 (a3.toNatClampNeg) (1 : Int32) G20 q_v121 _ _ _ _ hf_v121 hne_M1_v121 hw19 hP hS hA_M1 hA_v121 (hB.le (by omega)) ls (lv_sub hl [2, 4, 1, 0] rfl) h
    · have h := ifT h c21
      refine lv_aload hx hb dL_isFault_131 (lv_at hl 1 rfl) ?_
      refine lv_iconst (v := 3) hx hb dL_isFault_133 (by decide) ?_
      refine ai_ldk F (hA_M1.2.2.1 _ hw19).2 (k := 3) (by decide) (inbV (by decide) (by decide)) dL_isFault_134 ?_
      refine lv_if_lt (tgt := 154) hx hb dL_isFault_135 (by decide) (fun c24 => ?_) (fun c24 => ?_)
      · have h := ifT h c24
        refine lv_aload hx hb dL_isFault_154 (lv_at hl 1 rfl) ?_
        refine lv_iconst (v := 5) hx hb dL_isFault_156 (by decide) ?_
        refine ai_ldk F (hA_M1.2.2.1 _ hw19).2 (k := 5) (by decide) (inbV (by decide) (by decide)) dL_isFault_157 ?_
        refine lv_iconst (v := 1) hx hb dL_isFault_158 (by decide) ?_
        refine lv_icmp_le (tgt := 166) hx hb dL_isFault_159 (by decide) (fun c25 => ?_) (fun c25 => ?_)
        · have h := ifT h c25
          refine lv_iconst (v := 0) hx hb dL_isFault_166 (by decide) ?_
          exact lm_end F hP hS hB hr hk rfl h dL_isFault_167
        · have h := ifF h c25
          refine lv_iconst (v := 1) hx hb dL_isFault_162 (by decide) ?_
          refine lv_goto (tgt := 167) hx hb dL_isFault_163 (by decide) ?_
          exact lm_end F hP hS hB hr hk rfl h dL_isFault_167
      · have h := ifF h c24
        refine lv_aload hx hb dL_isFault_138 (lv_at hl 1 rfl) ?_
        refine lv_iconst (v := 5) hx hb dL_isFault_140 (by decide) ?_
        refine ai_ldk F (hA_M1.2.2.1 _ hw19).2 (k := 5) (by decide) (inbV (by decide) (by decide)) dL_isFault_141 ?_
        refine lv_iconst (v := 2) hx hb dL_isFault_142 (by decide) ?_
        refine lv_icmp_le (tgt := 150) hx hb dL_isFault_143 (by decide) (fun c26 => ?_) (fun c26 => ?_)
        · have h := ifT h c26
          refine lv_iconst (v := 0) hx hb dL_isFault_150 (by decide) ?_
          refine lv_goto (tgt := 167) hx hb dL_isFault_151 (by decide) ?_
          exact lm_end F hP hS hB hr hk rfl h dL_isFault_167
        · have h := ifF h c26
          refine lv_iconst (v := 1) hx hb dL_isFault_146 (by decide) ?_
          refine lv_goto (tgt := 167) hx hb dL_isFault_147 (by decide) ?_
          exact lm_end F hP hS hB hr hk rfl h dL_isFault_167
  · have h := ifT h c17
    refine lv_iconst (v := 0) hx hb dL_isFault_5 (by decide) ?_
    refine lv_istore (lv' := [(4, .int (0 : Int32)), (0, .ref (ad 77)), (1, .ref q_M1), (2, .int a2), (3, .int a3)]) hx hb dL_isFault_6 hl (by decide) rfl (fun ls hl => ?_)
    refine lv_iconst (v := 0) hx hb dL_isFault_8 (by decide) ?_
    refine lv_istore (lv' := [(5, .int (0 : Int32)), (4, .int (0 : Int32)), (0, .ref (ad 77)), (1, .ref q_M1), (2, .int a2), (3, .int a3)]) hx hb dL_isFault_9 hl (by decide) rfl (fun ls hl => ?_)
    exact key11 7 G (0 : Int32) (0 : Int32)  _ _ _ _  hP hS hA_M1 (hB.le (by omega)) ls (lv_sub hl [2, 3, 5, 1, 0] rfl) h
def f_L_faultsOf_42 (a2 : Int32) (n_M1 : Nat) (S_M1 : Nat → Nat → Int32) (k5 : GT → Int32 → Int32 → Option (Int32 × GT)) (x4 : Int32) (s42_0 : Int32) (s42_1 : Int32) (G : GT) : Option (Int32 × GT) := k5 G (s42_1 + s42_0) (x4 + 1)
def f_L_faultsOf_22 (a2 : Int32) (n_M1 : Nat) (S_M1 : Nat → Nat → Int32) (k5 : GT → Int32 → Int32 → Option (Int32 × GT)) (x3 : Int32) (x4 : Int32) (s22_0 : Int32) (s22_1 : Int32) (G : GT) : Option (Int32 × GT) := (if s22_0 ≤ s22_1 then some (x3, G) else (bind2 (f_L_isFault G n_M1 S_M1 a2 x4) fun r2 G2 => (if r2 = 0 then f_L_faultsOf_42 a2 n_M1 S_M1 k5 x4 (0 : Int32) x3 G2 else f_L_faultsOf_42 a2 n_M1 S_M1 k5 x4 (1 : Int32) x3 G2)))
def f_L_faultsOf_5 (a2 : Int32) (n_M1 : Nat) (S_M1 : Nat → Nat → Int32) (n : Nat) (G : GT) (y_x3 : Int32) (y_x4 : Int32) : Option (Int32 × GT) := lq3 (fun (k5 : GT → Int32 → Int32 → Option (Int32 × GT)) (G : GT) (x3 : Int32) (x4 : Int32) => (if a2 = (3 : Int32) then (bindR (f_X9_account G (0 : Int32)) fun r5 G5 => f_L_faultsOf_22 a2 n_M1 S_M1 k5 x3 x4 r5 x4 G5) else f_L_faultsOf_22 a2 n_M1 S_M1 k5 x3 x4 (nI n_M1) x4 G)) n G y_x3 y_x4
def f_L_faultsOf (G : GT) (n_M1 : Nat) (S_M1 : Nat → Nat → Int32) (a2 : Int32) : Option (Int32 × GT) := f_L_faultsOf_5 a2 n_M1 S_M1 17 G (0 : Int32) (0 : Int32)
set_option maxRecDepth 100000 in
set_option maxHeartbeats 8000000 in
theorem q_L_faultsOf (l : Launch) (hst : l.stackTraces = false) (D : va_G) (Y : Nat → ClassId) (ad : Nat → Nat) (hI : Inj 90 ad) (G : GT) (n_M1 : Nat) (S_M1 : Nat → Nat → Int32) (q_M1 : Nat) (r_M1 : Nat → Nat) (a2 : Int32) (r : Int32) (G' : GT) (h : f_L_faultsOf G n_M1 S_M1 a2 = some (r, G')) : LM l yL_faultsOf cL_faultsOf 5 (some .int) 12 255 D Y ad G (PhM Y ad q_M1 n_M1 r_M1 S_M1) [.ref (ad 77), .ref q_M1, .int a2] (PI (some .int) r D Y ad G') := by
  refine LM_of (ret := (some .int)) (by decide) (Nat.le_of_ble_eq_true rfl) (lv := [(0, .ref (ad 77)), (1, .ref q_M1), (2, .int a2)]) rfl ?_
  intro p ev s m below meth c ls F hP hK hE hΦ hS hr hk hl hB
  have F : Fx p c cL_faultsOf 5 s m _ RL D Y := F
  have hx := F.1.1
  have hb := F.1.2.1
  have hts := F.1.2.2.2.2
  have hown := F.1.2.2.2.1
  have hA_M1 : MX Y ad q_M1 n_M1 r_M1 S_M1 s.heap := hΦ
  have key5 : ∀ (n : Nat) (G : GT) (x3 : Int32) (x4 : Int32) (H : Heap) (locs : List Loc) (cells slots : Nat), va_P D vwCl (wsC Y ad G) H → va_S (AW 90 ad) s.heap H locs → MX Y ad q_M1 n_M1 r_M1 S_M1 H → Bg 255 cells slots (n * 15 + 0) → ∀ ls : Array Slot, lv_has ls 5 [(0, .ref (ad 77)), (1, .ref q_M1), (2, .int a2), (3, .int x3), (4, .int x4)] → f_L_faultsOf_5 a2 n_M1 S_M1   n G x3 x4 = some (r, G') → W p l ev (rmD 12 255 (16 * 255)) s m ([.ref (ad 77), .ref q_M1, .int a2] : List Value).toArray below meth c H locs cells slots (MQ below (LQ (PI (some .int) r D Y ad G') (AW 90 ad)) ([.ref (ad 77), .ref q_M1, .int a2] : List Value).toArray s 255 (16 * 255) (AW 90 ad)) (F0 m 5 ls []) := by
    intro n
    induction n with
    | zero => intro G x3 x4  H locs cells slots  hP hS hA_M1 hB ls hl h; exact lqZ3 h
    | succ n5 ih5 =>
      have key42 : ∀ (x4 : Int32) (s42_0 : Int32) (s42_1 : Int32) (G : GT) (H : Heap) (locs : List Loc) (cells slots : Nat), va_P D vwCl (wsC Y ad G) H → va_S (AW 90 ad) s.heap H locs → MX Y ad q_M1 n_M1 r_M1 S_M1 H → Bg 255 cells slots (n5 * 15 + 0) → ∀ ls : Array Slot, lv_has ls 5 [(0, .ref (ad 77)), (1, .ref q_M1), (2, .int a2), (4, .int x4)] → f_L_faultsOf_42 a2 n_M1 S_M1 (f_L_faultsOf_5 a2 n_M1 S_M1   n5) x4 s42_0 s42_1 G = some (r, G') → W p l ev (rmD 12 255 (16 * 255)) s m ([.ref (ad 77), .ref q_M1, .int a2] : List Value).toArray below meth c H locs cells slots (MQ below (LQ (PI (some .int) r D Y ad G') (AW 90 ad)) ([.ref (ad 77), .ref q_M1, .int a2] : List Value).toArray s 255 (16 * 255) (AW 90 ad)) (F0 m 42 ls [.int s42_0, .int s42_1]) := by
        intro x4 s42_0 s42_1 G  H locs cells slots  hP hS hA_M1 hB ls hl h
        refine lv_iadd hx hb dL_faultsOf_42 ?_
        refine lv_istore_n (lv' := [(3, .int (s42_1 + s42_0)), (0, .ref (ad 77)), (1, .ref q_M1), (2, .int a2), (4, .int x4)]) hx hb dL_faultsOf_43 rfl hl (by decide) rfl (fun ls hl => ?_)
        refine lv_iinc (v := (x4 + 1)) (lv' := [(4, .int (x4 + 1)), (3, .int (s42_1 + s42_0)), (0, .ref (ad 77)), (1, .ref q_M1), (2, .int a2)]) hx hb dL_faultsOf_44 hl (k := 4) rfl rfl (by decide) rfl (fun ls hl => ?_)
        refine lv_goto (tgt := 5) hx hb dL_faultsOf_47 (by decide) ?_
        exact ih5 G (s42_1 + s42_0) (x4 + 1)  _ _ _ _  hP hS hA_M1 (hB.le (by omega)) ls (lv_sub hl [2, 3, 4, 1, 0] rfl) h
      have key22 : ∀ (x3 : Int32) (x4 : Int32) (s22_0 : Int32) (s22_1 : Int32) (G : GT) (H : Heap) (locs : List Loc) (cells slots : Nat), va_P D vwCl (wsC Y ad G) H → va_S (AW 90 ad) s.heap H locs → MX Y ad q_M1 n_M1 r_M1 S_M1 H → Bg 255 cells slots (n5 * 15 + 14) → ∀ ls : Array Slot, lv_has ls 5 [(0, .ref (ad 77)), (1, .ref q_M1), (2, .int a2), (3, .int x3), (4, .int x4)] → f_L_faultsOf_22 a2 n_M1 S_M1 (f_L_faultsOf_5 a2 n_M1 S_M1   n5) x3 x4 s22_0 s22_1 G = some (r, G') → W p l ev (rmD 12 255 (16 * 255)) s m ([.ref (ad 77), .ref q_M1, .int a2] : List Value).toArray below meth c H locs cells slots (MQ below (LQ (PI (some .int) r D Y ad G') (AW 90 ad)) ([.ref (ad 77), .ref q_M1, .int a2] : List Value).toArray s 255 (16 * 255) (AW 90 ad)) (F0 m 22 ls [.int s22_0, .int s22_1]) := by
        intro x3 x4 s22_0 s22_1 G  H locs cells slots  hP hS hA_M1 hB ls hl h
        refine lv_icmp_ge (tgt := 50) hx hb dL_faultsOf_22 (by decide) (fun c1 => ?_) (fun c1 => ?_)
        · have h := ifT h c1
          refine lv_iload_n hx hb dL_faultsOf_50 rfl (lv_at hl 3 rfl) ?_
          exact lm_end F hP hS hB hr hk rfl h dL_faultsOf_51
        · have h := ifF h c1
          refine lv_iload_n hx hb dL_faultsOf_25 rfl (lv_at hl 3 rfl) ?_
          refine lv_aload_n hx hb dL_faultsOf_26 rfl (lv_at hl 0 rfl) ?_
          refine lv_aload_n hx hb dL_faultsOf_27 rfl (lv_at hl 1 rfl) ?_
          refine lv_iload_n hx hb dL_faultsOf_28 rfl (lv_at hl 2 rfl) ?_
          refine lv_iload hx hb dL_faultsOf_29 (lv_at hl 4 rfl) ?_
          obtain ⟨r2, G2, e2, h⟩ := bsome2 h
          refine lm_i (B' := (n5 * 15 + 0)) F hP hK hE hS hB phM_b (phM_o hA_M1) k_L_isFault mw_799 (q_L_isFault l hst D Y ad hI G n_M1 S_M1 q_M1 r_M1 a2 x4 r2 G2 e2) rfl hl.1 ⟨Nat.le_of_ble_eq_true rfl, Nat.le_of_ble_eq_true rfl⟩ (rest := [.int x3]) rfl (Nat.le_of_ble_eq_true rfl) (by omega) dL_faultsOf_31 (fun H locs cells slots o2 hP hS hkp hB => ?_)
          have hA_M1 := hA_M1.kp hkp
          refine lv_if_eq (tgt := 41) hx hb dL_faultsOf_34 (by decide) (fun c3 => ?_) (fun c3 => ?_)
          · have h := ifT h c3
            refine lv_iconst (v := 0) hx hb dL_faultsOf_41 (by decide) ?_
            exact key42 x4 (0 : Int32) x3 G2  _ _ _ _  hP hS hA_M1 (hB.le (by omega)) ls (lv_sub hl [0, 1, 2, 4] rfl) h
          · have h := ifF h c3
            refine lv_iconst (v := 1) hx hb dL_faultsOf_37 (by decide) ?_
            refine lv_goto (tgt := 42) hx hb dL_faultsOf_38 (by decide) ?_
            exact key42 x4 (1 : Int32) x3 G2  _ _ _ _  hP hS hA_M1 (hB.le (by omega)) ls (lv_sub hl [0, 1, 2, 4] rfl) h
      intro G x3 x4  H locs cells slots  hP hS hA_M1 hB ls hl h
      have h := lqS3 h
      refine lv_iload hx hb dL_faultsOf_5 (lv_at hl 4 rfl) ?_
      refine lv_iload_n hx hb dL_faultsOf_7 rfl (lv_at hl 2 rfl) ?_
      refine lv_iconst (v := 3) hx hb dL_faultsOf_8 (by decide) ?_
      refine lv_icmp_ne (tgt := 20) hx hb dL_faultsOf_9 (by decide) (fun c4 => ?_) (fun c4 => ?_)
      · have h := ifF h c4
        refine lv_aload_n hx hb dL_faultsOf_20 rfl (lv_at hl 1 rfl) ?_
        refine mx_len F hA_M1 dL_faultsOf_21 ?_
        exact key22 x3 x4 (nI n_M1) x4 G  _ _ _ _  hP hS hA_M1 (hB.le (by omega)) ls (lv_sub hl [0, 1, 2, 3, 4] rfl) h
      · have h := ifT h c4
        refine lv_aload_n hx hb dL_faultsOf_12 rfl (lv_at hl 0 rfl) ?_
        refine lv_iconst (v := 0) hx hb dL_faultsOf_13 (by decide) ?_
        obtain ⟨r5, G5, e5, h⟩ := bR h
        refine lx_V (B' := (n5 * 15 + 14)) F hP hK hS hB k_X9_account mw_621 rfl (q_X9_account l hst D Y ad hI G (0 : Int32) (.inr r5) G5 e5) rfl hl.1 ⟨Nat.le_of_ble_eq_true rfl, Nat.le_of_ble_eq_true rfl⟩ (rest := [.int x4]) rfl (Nat.le_of_ble_eq_true rfl) (by omega) dL_faultsOf_14 (fun H locs cells slots o5 hP hS hkp hB => ?_)
        have hA_M1 := hA_M1.kp hkp
        refine lv_goto (tgt := 22) hx hb dL_faultsOf_17 (by decide) ?_
        exact key22 x3 x4 r5 x4 G5  _ _ _ _  hP hS hA_M1 (hB.le (by omega)) ls (lv_sub hl [0, 1, 2, 3, 4] rfl) h
  refine lv_iconst (v := 0) hx hb dL_faultsOf_0 (by decide) ?_
  refine lv_istore_n (lv' := [(3, .int (0 : Int32)), (0, .ref (ad 77)), (1, .ref q_M1), (2, .int a2)]) hx hb dL_faultsOf_1 rfl hl (by decide) rfl (fun ls hl => ?_)
  refine lv_iconst (v := 0) hx hb dL_faultsOf_2 (by decide) ?_
  refine lv_istore (lv' := [(4, .int (0 : Int32)), (3, .int (0 : Int32)), (0, .ref (ad 77)), (1, .ref q_M1), (2, .int a2)]) hx hb dL_faultsOf_3 hl (by decide) rfl (fun ls hl => ?_)
  exact key5 17 G (0 : Int32) (0 : Int32)  _ _ _ _  hP hS hA_M1 (hB.le (by omega)) ls (lv_sub hl [2, 3, 4, 1, 0] rfl) h
def f_L_allFaults (G : GT) (n_M1 : Nat) (S_M1 : Nat → Nat → Int32) : Option (Int32 × GT) := (bind2 (f_L_faultsOf G n_M1 S_M1 (1 : Int32)) fun r1 G1 => (bind2 (f_L_faultsOf G1 n_M1 S_M1 (2 : Int32)) fun r2 G2 => (bind2 (f_L_faultsOf G2 n_M1 S_M1 (3 : Int32)) fun r3 G3 => (bind2 (f_L_faultsOf G3 n_M1 S_M1 (4 : Int32)) fun r4 G4 => some ((((r1 + r2) + r3) + r4), G4)))))
set_option maxRecDepth 100000 in
set_option maxHeartbeats 8000000 in
theorem q_L_allFaults (l : Launch) (hst : l.stackTraces = false) (D : va_G) (Y : Nat → ClassId) (ad : Nat → Nat) (hI : Inj 90 ad) (G : GT) (n_M1 : Nat) (S_M1 : Nat → Nat → Int32) (q_M1 : Nat) (r_M1 : Nat → Nat) (r : Int32) (G' : GT) (h : f_L_allFaults G n_M1 S_M1  = some (r, G')) : LM l yL_allFaults cL_allFaults 2 (some .int) 13 1020 D Y ad G (PhM Y ad q_M1 n_M1 r_M1 S_M1) [.ref (ad 77), .ref q_M1] (PI (some .int) r D Y ad G') := by
  refine LM_of (ret := (some .int)) (by decide) (Nat.le_of_ble_eq_true rfl) (lv := [(0, .ref (ad 77)), (1, .ref q_M1)]) rfl ?_
  intro p ev s m below meth c ls F hP hK hE hΦ hS hr hk hl hB
  have F : Fx p c cL_allFaults 2 s m _ RL D Y := F
  have hx := F.1.1
  have hb := F.1.2.1
  have hts := F.1.2.2.2.2
  have hown := F.1.2.2.2.1
  have hA_M1 : MX Y ad q_M1 n_M1 r_M1 S_M1 s.heap := hΦ
  refine lv_aload_n hx hb dL_allFaults_0 rfl (lv_at hl 0 rfl) ?_
  refine lv_aload_n hx hb dL_allFaults_1 rfl (lv_at hl 1 rfl) ?_
  refine lv_iconst (v := 1) hx hb dL_allFaults_2 (by decide) ?_
  obtain ⟨r1, G1, e1, h⟩ := bsome2 h
  refine lm_i (B' := (765)) F hP hK hE hS hB phM_b (phM_o hA_M1) k_L_faultsOf mw_796 (q_L_faultsOf l hst D Y ad hI G n_M1 S_M1 q_M1 r_M1 (1 : Int32) r1 G1 e1) rfl hl.1 ⟨Nat.le_of_ble_eq_true rfl, Nat.le_of_ble_eq_true rfl⟩ (rest := []) rfl (Nat.le_of_ble_eq_true rfl) (by omega) dL_allFaults_3 (fun H locs cells slots o1 hP hS hkp hB => ?_)
  have hA_M1 := hA_M1.kp hkp
  refine lv_aload_n hx hb dL_allFaults_6 rfl (lv_at hl 0 rfl) ?_
  refine lv_aload_n hx hb dL_allFaults_7 rfl (lv_at hl 1 rfl) ?_
  refine lv_iconst (v := 2) hx hb dL_allFaults_8 (by decide) ?_
  obtain ⟨r2, G2, e2, h⟩ := bsome2 h
  refine lm_i (B' := (510)) F hP hK hE hS hB phM_b (phM_o hA_M1) k_L_faultsOf mw_796 (q_L_faultsOf l hst D Y ad hI G1 n_M1 S_M1 q_M1 r_M1 (2 : Int32) r2 G2 e2) rfl hl.1 ⟨Nat.le_of_ble_eq_true rfl, Nat.le_of_ble_eq_true rfl⟩ (rest := [.int r1]) rfl (Nat.le_of_ble_eq_true rfl) (by omega) dL_allFaults_9 (fun H locs cells slots o2 hP hS hkp hB => ?_)
  have hA_M1 := hA_M1.kp hkp
  refine lv_iadd hx hb dL_allFaults_12 ?_
  refine lv_aload_n hx hb dL_allFaults_13 rfl (lv_at hl 0 rfl) ?_
  refine lv_aload_n hx hb dL_allFaults_14 rfl (lv_at hl 1 rfl) ?_
  refine lv_iconst (v := 3) hx hb dL_allFaults_15 (by decide) ?_
  obtain ⟨r3, G3, e3, h⟩ := bsome2 h
  refine lm_i (B' := (255)) F hP hK hE hS hB phM_b (phM_o hA_M1) k_L_faultsOf mw_796 (q_L_faultsOf l hst D Y ad hI G2 n_M1 S_M1 q_M1 r_M1 (3 : Int32) r3 G3 e3) rfl hl.1 ⟨Nat.le_of_ble_eq_true rfl, Nat.le_of_ble_eq_true rfl⟩ (rest := [.int (r1 + r2)]) rfl (Nat.le_of_ble_eq_true rfl) (by omega) dL_allFaults_16 (fun H locs cells slots o3 hP hS hkp hB => ?_)
  have hA_M1 := hA_M1.kp hkp
  refine lv_iadd hx hb dL_allFaults_19 ?_
  refine lv_aload_n hx hb dL_allFaults_20 rfl (lv_at hl 0 rfl) ?_
  refine lv_aload_n hx hb dL_allFaults_21 rfl (lv_at hl 1 rfl) ?_
  refine lv_iconst (v := 4) hx hb dL_allFaults_22 (by decide) ?_
  obtain ⟨r4, G4, e4, h⟩ := bsome2 h
  refine lm_i (B' := (0)) F hP hK hE hS hB phM_b (phM_o hA_M1) k_L_faultsOf mw_796 (q_L_faultsOf l hst D Y ad hI G3 n_M1 S_M1 q_M1 r_M1 (4 : Int32) r4 G4 e4) rfl hl.1 ⟨Nat.le_of_ble_eq_true rfl, Nat.le_of_ble_eq_true rfl⟩ (rest := [.int ((r1 + r2) + r3)]) rfl (Nat.le_of_ble_eq_true rfl) (by omega) dL_allFaults_23 (fun H locs cells slots o4 hP hS hkp hB => ?_)
  have hA_M1 := hA_M1.kp hkp
  refine lv_iadd hx hb dL_allFaults_26 ?_
  exact lm_end F hP hS hB hr hk rfl h dL_allFaults_27
