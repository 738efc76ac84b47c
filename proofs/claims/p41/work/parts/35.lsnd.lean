def f_L_ahead_50 (a1 : Int32) (n_M0 : Nat) (S_M0 : Nat → Nat → Int32) (k19 : GT → (Nat → Int32) → Int32 → Int32 → Option ((Nat → Int32) × GT)) (W_v1 : Nat → Int32) (x3 : Int32) (x4 : Int32) (G : GT) : Option ((Nat → Int32) × GT) := k19 G W_v1 x3 (x4 + (-1))
def f_L_ahead_19 (a1 : Int32) (n_M0 : Nat) (S_M0 : Nat → Nat → Int32) (n : Nat) (G : GT) (y_W_v1 : Nat → Int32) (y_x3 : Int32) (y_x4 : Int32) : Option ((Nat → Int32) × GT) := lq4 (fun (k19 : GT → (Nat → Int32) → Int32 → Int32 → Option ((Nat → Int32) × GT)) (G : GT) (W_v1 : Nat → Int32) (x3 : Int32) (x4 : Int32) => (if x4 < 0 then some (W_v1, G) else (if (2 : Int32) ≤ x3 then some (W_v1, G) else (if inb x4 n_M0 then (if (S_M0 (x4.toNatClampNeg) 3) < 0 then f_L_ahead_50 a1 n_M0 S_M0 k19 W_v1 x3 x4 G else (if inb x4 n_M0 then (if inb x3 2 then ((some (upd W_v1 (x3.toNatClampNeg) (S_M0 (x4.toNatClampNeg) 3))).bind fun W9 => f_L_ahead_50 a1 n_M0 S_M0 k19 W9 (x3 + 1) x4 G) else none) else none)) else none)))) n G y_W_v1 y_x3 y_x4
def f_L_ahead (G : GT) (n_M0 : Nat) (S_M0 : Nat → Nat → Int32) (a1 : Int32) : Option ((Nat → Int32) × GT) := ((some (upd (fun _ => 0) ((0 : Int32).toNatClampNeg) (-1 : Int32))).bind fun W10 => ((some (upd W10 ((1 : Int32).toNatClampNeg) (-1 : Int32))).bind fun W11 => f_L_ahead_19 a1 n_M0 S_M0 18 G W11 (0 : Int32) (a1 - (1 : Int32))))
set_option maxRecDepth 100000 in
set_option maxHeartbeats 8000000 in
theorem q_L_ahead (l : Launch) (hst : l.stackTraces = false) (D : va_G) (Y : Nat → ClassId) (ad : Nat → Nat) (hI : Inj 90 ad) (G : GT) (n_M0 : Nat) (S_M0 : Nat → Nat → Int32) (q_M0 : Nat) (r_M0 : Nat → Nat) (a1 : Int32) (r : Nat → Int32) (G' : GT) (h : f_L_ahead G n_M0 S_M0 a1 = some (r, G')) : LM l yL_ahead cL_ahead 5 (some (.array .int)) 0 1 D Y ad G (PhM Y ad q_M0 n_M0 r_M0 S_M0) [.ref q_M0, .int a1] (PA 2 r D Y ad G') := by
  refine LM_of (ret := (some (.array .int))) (by decide) (Nat.le_of_ble_eq_true rfl) (lv := [(0, .ref q_M0), (1, .int a1)]) rfl ?_
  intro p ev s m below meth c ls F hP hK hE hΦ hS hr hk hl hB
  have F : Fx p c cL_ahead 5 s m _ RL D Y := F
  have hx := F.1.1
  have hb := F.1.2.1
  have hts := F.1.2.2.2.2
  have hown := F.1.2.2.2.1
  have hA_M0 : MX Y ad q_M0 n_M0 r_M0 S_M0 s.heap := hΦ
  have key19 : ∀ (n : Nat) (G : GT) (W_v1 : Nat → Int32) (x3 : Int32) (x4 : Int32) (q_v1 : Nat) (H : Heap) (locs : List Loc) (cells slots : Nat), s.heap.size ≤ q_v1 → (q_M0 ≠ q_v1 ∧ ∀ i, i < n_M0 → r_M0 i ≠ q_v1) → va_P D vwCl (wsC Y ad G) H → va_S (AW 90 ad) s.heap H locs → MX Y ad q_M0 n_M0 r_M0 S_M0 H → AI Y ad q_v1 2 W_v1 H → Bg 1 cells slots (n * 0 + 0) → ∀ ls : Array Slot, lv_has ls 5 [(0, .ref q_M0), (2, .ref q_v1), (3, .int x3), (4, .int x4)] → f_L_ahead_19 a1 n_M0 S_M0   n G W_v1 x3 x4 = some (r, G') → W p l ev (rmD 0 1 (16 * 1)) s m ([.ref q_M0, .int a1] : List Value).toArray below meth c H locs cells slots (MQ below (LQ (PA 2 r D Y ad G') (AW 90 ad)) ([.ref q_M0, .int a1] : List Value).toArray s 1 (16 * 1) (AW 90 ad)) (F0 m 19 ls []) := by
    intro n
    induction n with
    | zero => intro G W_v1 x3 x4 q_v1 H locs cells slots hf_v1 hne_M0_v1 hP hS hA_M0 hA_v1 hB ls hl h; exact lqZ4 h
    | succ n19 ih19 =>
      have key50 : ∀ (W_v1 : Nat → Int32) (x3 : Int32) (x4 : Int32) (G : GT) (q_v1 : Nat) (H : Heap) (locs : List Loc) (cells slots : Nat), s.heap.size ≤ q_v1 → (q_M0 ≠ q_v1 ∧ ∀ i, i < n_M0 → r_M0 i ≠ q_v1) → va_P D vwCl (wsC Y ad G) H → va_S (AW 90 ad) s.heap H locs → MX Y ad q_M0 n_M0 r_M0 S_M0 H → AI Y ad q_v1 2 W_v1 H → Bg 1 cells slots (n19 * 0 + 0) → ∀ ls : Array Slot, lv_has ls 5 [(0, .ref q_M0), (2, .ref q_v1), (3, .int x3), (4, .int x4)] → f_L_ahead_50 a1 n_M0 S_M0 (f_L_ahead_19 a1 n_M0 S_M0   n19) W_v1 x3 x4 G = some (r, G') → W p l ev (rmD 0 1 (16 * 1)) s m ([.ref q_M0, .int a1] : List Value).toArray below meth c H locs cells slots (MQ below (LQ (PA 2 r D Y ad G') (AW 90 ad)) ([.ref q_M0, .int a1] : List Value).toArray s 1 (16 * 1) (AW 90 ad)) (F0 m 50 ls []) := by
        intro W_v1 x3 x4 G q_v1 H locs cells slots hf_v1 hne_M0_v1 hP hS hA_M0 hA_v1 hB ls hl h
        refine lv_iinc (v := (x4 + (-1))) (lv' := [(4, .int (x4 + (-1))), (0, .ref q_M0), (2, .ref q_v1), (3, .int x3)]) hx hb dL_ahead_50 hl (k := 3) rfl rfl (by decide) rfl (fun ls hl => ?_)
        refine lv_goto (tgt := 19) hx hb dL_ahead_53 (by decide) ?_
        exact ih19 G W_v1 x3 (x4 + (-1)) q_v1 _ _ _ _ hf_v1 hne_M0_v1 hP hS hA_M0 hA_v1 (hB.le (by omega)) ls (lv_sub hl [1, 2, 3, 0] rfl) h
      intro G W_v1 x3 x4 q_v1 H locs cells slots hf_v1 hne_M0_v1 hP hS hA_M0 hA_v1 hB ls hl h
      have h := lqS4 h
      refine lv_iload hx hb dL_ahead_19 (lv_at hl 3 rfl) ?_
      refine lv_if_lt (tgt := 56) hx hb dL_ahead_21 (by decide) (fun c1 => ?_) (fun c1 => ?_)
      · have h := ifT h c1
        refine lv_aload_n hx hb dL_ahead_56 rfl (lv_at hl 1 rfl) ?_
        exact lm_enda F hP hS hB hr hk hA_v1 hf_v1 h dL_ahead_57
      · have h := ifF h c1
        refine lv_iload_n hx hb dL_ahead_24 rfl (lv_at hl 2 rfl) ?_
        refine lv_iconst (v := 2) hx hb dL_ahead_25 (by decide) ?_
        refine lv_icmp_ge (tgt := 56) hx hb dL_ahead_26 (by decide) (fun c2 => ?_) (fun c2 => ?_)
        · have h := ifT h c2
          refine lv_aload_n hx hb dL_ahead_56 rfl (lv_at hl 1 rfl) ?_
          exact lm_enda F hP hS hB hr hk hA_v1 hf_v1 h dL_ahead_57
        · have h := ifF h c2
          refine lv_aload_n hx hb dL_ahead_29 rfl (lv_at hl 0 rfl) ?_
          refine lv_iload hx hb dL_ahead_30 (lv_at hl 3 rfl) ?_
          obtain ⟨b3, h⟩ := ckS h
          refine mx_row F hA_M0 b3 dL_ahead_32 (fun hw4 => ?_)
          refine lv_iconst (v := 3) hx hb dL_ahead_33 (by decide) ?_
          refine ai_ldk F (hA_M0.2.2.1 _ hw4).2 (k := 3) (by decide) (inbV (by decide) (by decide)) dL_ahead_34 ?_
          refine lv_if_lt (tgt := 50) hx hb dL_ahead_35 (by decide) (fun c5 => ?_) (fun c5 => ?_)
          · have h := ifT h c5
            exact key50 W_v1 x3 x4 G q_v1 _ _ _ _ hf_v1 hne_M0_v1 hP hS hA_M0 hA_v1 (hB.le (by omega)) ls (lv_sub hl [0, 1, 2, 3] rfl) h
          · have h := ifF h c5
            refine lv_aload_n hx hb dL_ahead_38 rfl (lv_at hl 1 rfl) ?_
            refine lv_iload_n hx hb dL_ahead_39 rfl (lv_at hl 2 rfl) ?_
            refine lv_aload_n hx hb dL_ahead_40 rfl (lv_at hl 0 rfl) ?_
            refine lv_iload hx hb dL_ahead_41 (lv_at hl 3 rfl) ?_
            obtain ⟨b6, h⟩ := ckS h
            refine mx_row F hA_M0 b6 dL_ahead_43 (fun hw7 => ?_)
            refine lv_iconst (v := 3) hx hb dL_ahead_44 (by decide) ?_
            refine ai_ldk F (hA_M0.2.2.1 _ hw7).2 (k := 3) (by decide) (inbV (by decide) (by decide)) dL_ahead_45 ?_
            obtain ⟨b8, h⟩ := ckS h
            obtain ⟨W9, eW9, h⟩ := bsome h
            refine ai_st F hA_v1 hf_v1 (inbV b8 (by decide)) dL_ahead_46 (fun H hnew hsk => ?_)
            have hP := sk_P hP hnew.1 hsk
            have hS := sk_S hS hf_v1 hsk
            have hA_v1 := cvA eW9 hnew
            have hA_M0 := hA_M0.sk hsk hne_M0_v1.1 hne_M0_v1.2
            refine lv_iinc (v := (x3 + 1)) (lv' := [(3, .int (x3 + 1)), (0, .ref q_M0), (2, .ref q_v1), (4, .int x4)]) hx hb dL_ahead_47 hl (k := 2) rfl rfl (by decide) rfl (fun ls hl => ?_)
            exact key50 W9 (x3 + 1) x4 G q_v1 _ _ _ _ hf_v1 hne_M0_v1 hP hS hA_M0 hA_v1 (hB.le (by omega)) ls (lv_sub hl [1, 2, 0, 3] rfl) h
  refine lv_iconst (v := 2) hx hb dL_ahead_0 (by decide) ?_
  refine nw_i (N := 2) (B' := (0)) F hP hS hB (by decide) (by decide) (by omega) (by decide) mw_85 dL_ahead_1 (fun q_v1 H cells slots hA_v1 hf_v1 hd hP hS hkp hB => ?_)
  have hne_M0_v1 : (q_M0 ≠ q_v1 ∧ ∀ i, i < n_M0 → r_M0 i ≠ q_v1) := ⟨hd _ hA_M0.lt, fun i hi => hd _ (hA_M0.2.2.1 i hi).2.lt⟩
  have hA_M0 := hA_M0.kp hkp
  refine lv_dup hx hb dL_ahead_3 rfl ?_
  refine lv_iconst (v := 0) hx hb dL_ahead_4 (by decide) ?_
  refine lv_iconst (v := (-1)) hx hb dL_ahead_5 (by decide) ?_
  obtain ⟨W10, eW10, h⟩ := bsome h
  refine ai_st F hA_v1 hf_v1 (inbV (by decide) (by decide)) dL_ahead_6 (fun H hnew hsk => ?_)
  have hP := sk_P hP hnew.1 hsk
  have hS := sk_S hS hf_v1 hsk
  have hA_v1 := cvA eW10 hnew
  have hA_M0 := hA_M0.sk hsk hne_M0_v1.1 hne_M0_v1.2
  refine lv_dup hx hb dL_ahead_7 rfl ?_
  refine lv_iconst (v := 1) hx hb dL_ahead_8 (by decide) ?_
  refine lv_iconst (v := (-1)) hx hb dL_ahead_9 (by decide) ?_
  obtain ⟨W11, eW11, h⟩ := bsome h
  refine ai_st F hA_v1 hf_v1 (inbV (by decide) (by decide)) dL_ahead_10 (fun H hnew hsk => ?_)
  have hP := sk_P hP hnew.1 hsk
  have hS := sk_S hS hf_v1 hsk
  have hA_v1 := cvA eW11 hnew
  have hA_M0 := hA_M0.sk hsk hne_M0_v1.1 hne_M0_v1.2
  refine lv_astore_n (lv' := [(2, .ref q_v1), (0, .ref q_M0), (1, .int a1)]) hx hb dL_ahead_11 rfl hl (by decide) rfl (fun ls hl => ?_)
  refine lv_iconst (v := 0) hx hb dL_ahead_12 (by decide) ?_
  refine lv_istore_n (lv' := [(3, .int (0 : Int32)), (2, .ref q_v1), (0, .ref q_M0), (1, .int a1)]) hx hb dL_ahead_13 rfl hl (by decide) rfl (fun ls hl => ?_)
  refine lv_iload_n hx hb dL_ahead_14 rfl (lv_at hl 3 rfl) ?_
  refine lv_iconst (v := 1) hx hb dL_ahead_15 (by decide) ?_
  refine lv_isub hx hb dL_ahead_16 ?_
  refine lv_istore (lv' := [(4, .int (a1 - (1 : Int32))), (3, .int (0 : Int32)), (2, .ref q_v1), (0, .ref q_M0), (1, .int a1)]) hx hb dL_ahead_17 hl (by decide) rfl (fun ls hl => ?_)
  exact key19 18 G W11 (0 : Int32) (a1 - (1 : Int32)) q_v1 _ _ _ _ hf_v1 hne_M0_v1 hP hS hA_M0 hA_v1 (hB.le (by omega)) ls (lv_sub hl [3, 2, 1, 0] rfl) h
def f_L_sounds_177 (k19 : GT → (Nat → Nat → Int32) → Int32 → Int32 → Option (Nat × (Nat → Nat → Int32) × GT)) (n_m9 : Nat) (x1 : Int32) (S_m9 : Nat → Nat → Int32) (W_v132 : Nat → Int32) (x3 : Int32) (x4 : Int32) (x7 : Int32) (x9 : Int32) (s177_0 : Int32) (s177_1 : Int32) (G : GT) : Option (Nat × (Nat → Nat → Int32) × GT) := (if inb s177_1 6 then ((some (upd W_v132 (s177_1.toNatClampNeg) s177_0)).bind fun W2 => ((some (upd W2 ((4 : Int32).toNatClampNeg) x3)).bind fun W3 => ((some (upd W3 ((5 : Int32).toNatClampNeg) x9)).bind fun W4 => (if inb x4 n_m9 then ((some (upS S_m9 x4.toNatClampNeg W4)).bind fun S6 => k19 G S6 (x3 + x7) (x4 + 1)) else none)))) else none)
def f_L_sounds_117 (k19 : GT → (Nat → Nat → Int32) → Int32 → Int32 → Option (Nat × (Nat → Nat → Int32) × GT)) (k73 : GT → Int32 → Int32 → Int32 → Option (Nat × (Nat → Nat → Int32) × GT)) (n_m9 : Nat) (S_m9 : Nat → Nat → Int32) (x1 : Int32) (x3 : Int32) (x4 : Int32) (x5 : Int32) (x6 : Int32) (x7 : Int32) (x8 : Int32) (x11 : Int32) (x12 : Int32) (s117_0 : Int32) (s117_1 : Int32) (G : GT) : Option (Nat × (Nat → Nat → Int32) × GT) := k73 G (s117_1 + s117_0) x12 (x11 + 1)
def f_L_sounds_116 (k19 : GT → (Nat → Nat → Int32) → Int32 → Int32 → Option (Nat × (Nat → Nat → Int32) × GT)) (k73 : GT → Int32 → Int32 → Int32 → Option (Nat × (Nat → Nat → Int32) × GT)) (n_m9 : Nat) (S_m9 : Nat → Nat → Int32) (x1 : Int32) (x3 : Int32) (x4 : Int32) (x5 : Int32) (x6 : Int32) (x7 : Int32) (x8 : Int32) (x11 : Int32) (x12 : Int32) (s116_0 : Int32) (G : GT) : Option (Nat × (Nat → Nat → Int32) × GT) := f_L_sounds_117 k19 k73 n_m9 S_m9 x1 x3 x4 x5 x6 x7 x8 x11 x12 (0 : Int32) s116_0 G
def f_L_sounds_73 (k19 : GT → (Nat → Nat → Int32) → Int32 → Int32 → Option (Nat × (Nat → Nat → Int32) × GT)) (n_m9 : Nat) (x1 : Int32) (S_m9 : Nat → Nat → Int32) (x3 : Int32) (x4 : Int32) (x5 : Int32) (x6 : Int32) (x7 : Int32) (x8 : Int32) (n : Nat) (G : GT) (y_x9 : Int32) (y_x10 : Int32) (y_x11 : Int32) : Option (Nat × (Nat → Nat → Int32) × GT) := lq4 (fun (k73 : GT → Int32 → Int32 → Int32 → Option (Nat × (Nat → Nat → Int32) × GT)) (G : GT) (x9 : Int32) (x10 : Int32) (x11 : Int32) => (bindR (f_X9_account G (0 : Int32)) fun r7 G7 => (if r7 ≤ x11 then ((some (upd (fun _ => 0) ((0 : Int32).toNatClampNeg) x5)).bind fun W9 => ((some (upd W9 ((1 : Int32).toNatClampNeg) x6)).bind fun W10 => ((some (upd W10 ((2 : Int32).toNatClampNeg) x7)).bind fun W11 => (if 0 ≤ x6 then (if x8 ≤ (11 : Int32) then f_L_sounds_177 k19 n_m9 x1 S_m9 W11 x3 x4 x7 x9 x8 (3 : Int32) G7 else f_L_sounds_177 k19 n_m9 x1 S_m9 W11 x3 x4 x7 x9 (x8 - (12 : Int32)) (3 : Int32) G7) else f_L_sounds_177 k19 n_m9 x1 S_m9 W11 x3 x4 x7 x9 (-1 : Int32) (3 : Int32) G7)))) else (bind2 (fw_barOf G7 x11 (0 : Int32)) fun r14 G14 => (if (x10 + r14) ≤ x3 then f_L_sounds_116 k19 k73 n_m9 S_m9 x1 x3 x4 x5 x6 x7 x8 x11 (x10 + r14) x9 G14 else (if (x3 + x7) ≤ x10 then f_L_sounds_116 k19 k73 n_m9 S_m9 x1 x3 x4 x5 x6 x7 x8 x11 (x10 + r14) x9 G14 else f_L_sounds_117 k19 k73 n_m9 S_m9 x1 x3 x4 x5 x6 x7 x8 x11 (x10 + r14) (1 : Int32) x9 G14)))))) n G y_x9 y_x10 y_x11
def f_L_sounds_19 (n_m9 : Nat) (x1 : Int32) (n : Nat) (G : GT) (y_S_m9 : Nat → Nat → Int32) (y_x3 : Int32) (y_x4 : Int32) : Option (Nat × (Nat → Nat → Int32) × GT) := lq4 (fun (k19 : GT → (Nat → Nat → Int32) → Int32 → Int32 → Option (Nat × (Nat → Nat → Int32) × GT)) (G : GT) (S_m9 : Nat → Nat → Int32) (x3 : Int32) (x4 : Int32) => (if x1 ≤ x4 then some (n_m9, S_m9, G) else (bind2 (fw_of G x4 (0 : Int32)) fun r18 G18 => (bind2 (fw_of G18 x4 (1 : Int32)) fun r19 G19 => (bind2 (fw_of G19 x4 (2 : Int32)) fun r20 G20 => (bind2 (fw_tinOf G20 r18 (0 : Int32)) fun r21 G21 => f_L_sounds_73 k19 n_m9 x1 S_m9 x3 x4 r18 r19 r20 (r21 + r19) 7 G21 (0 : Int32) (0 : Int32) (0 : Int32))))))) n G y_S_m9 y_x3 y_x4
def f_L_sounds (G : GT) : Option (Nat × (Nat → Nat → Int32) × GT) := (bindR (f_X9_account G (3 : Int32)) fun r22 G22 => (if inb r22 17 then ((some r22.toNatClampNeg).bind fun n_m9 => f_L_sounds_19 n_m9 r22 17 G22 (fun _ _ => 0) (0 : Int32) (0 : Int32)) else none))
set_option maxRecDepth 100000 in
set_option maxHeartbeats 8000000 in
theorem q_L_sounds (l : Launch) (hst : l.stackTraces = false) (D : va_G) (Y : Nat → ClassId) (ad : Nat → Nat) (hI : Inj 90 ad) (G : GT) (N : Nat) (r : Nat → Nat → Int32) (G' : GT) (h : f_L_sounds G   = some (N, r, G')) : LM l yL_sounds cL_sounds 13 (some (.array (.array .int))) 11 528 D Y ad G Ph0 [.ref (ad 77)] (PM N r D Y ad G') := by
  refine LM_of (ret := (some (.array (.array .int)))) (by decide) (Nat.le_of_ble_eq_true rfl) (lv := [(0, .ref (ad 77))]) rfl ?_
  intro p ev s m below meth c ls F hP hK hE hΦ hS hr hk hl hB
  have F : Fx p c cL_sounds 13 s m _ RL D Y := F
  have hx := F.1.1
  have hb := F.1.2.1
  have hts := F.1.2.2.2.2
  have hown := F.1.2.2.2.1
  have key19 : ∀ (n_m9 : Nat) (x1 : Int32) (n : Nat) (G : GT) (S_m9 : Nat → Nat → Int32) (x3 : Int32) (x4 : Int32) (q_m9 : Nat) (r_m9 : Nat → Nat) (H : Heap) (locs : List Loc) (cells slots : Nat), (s.heap.size ≤ q_m9 ∧ ∀ i, i < n_m9 → s.heap.size ≤ r_m9 i) → va_P D vwCl (wsC Y ad G) H → va_S (AW 90 ad) s.heap H locs → MX Y ad q_m9 n_m9 r_m9 S_m9 H → Bg 528 cells slots (n * 30 + 0) → ∀ ls : Array Slot, lv_has ls 13 [(0, .ref (ad 77)), (1, .int x1), (2, .ref q_m9), (3, .int x3), (4, .int x4)] → f_L_sounds_19   n_m9 x1 n G S_m9 x3 x4 = some (N, r, G') → W p l ev (rmD 11 528 (16 * 528)) s m ([.ref (ad 77)] : List Value).toArray below meth c H locs cells slots (MQ below (LQ (PM N r D Y ad G') (AW 90 ad)) ([.ref (ad 77)] : List Value).toArray s 528 (16 * 528) (AW 90 ad)) (F0 m 19 ls []) := by
    intro n_m9 x1
    intro n
    induction n with
    | zero => intro G S_m9 x3 x4 q_m9 r_m9 H locs cells slots hf_m9 hP hS hA_m9 hB ls hl h; exact lqZ4 h
    | succ n19 ih19 =>
      have key177 : ∀ (S_m9 : Nat → Nat → Int32) (W_v132 : Nat → Int32) (x3 : Int32) (x4 : Int32) (x7 : Int32) (x9 : Int32) (s177_0 : Int32) (s177_1 : Int32) (G : GT) (q_m9 : Nat) (r_m9 : Nat → Nat) (q_v132 : Nat) (H : Heap) (locs : List Loc) (cells slots : Nat), (s.heap.size ≤ q_m9 ∧ ∀ i, i < n_m9 → s.heap.size ≤ r_m9 i) → s.heap.size ≤ q_v132 → (q_m9 ≠ q_v132 ∧ ∀ i, i < n_m9 → r_m9 i ≠ q_v132) → va_P D vwCl (wsC Y ad G) H → va_S (AW 90 ad) s.heap H locs → MX Y ad q_m9 n_m9 r_m9 S_m9 H → AI Y ad q_v132 6 W_v132 H → Bg 528 cells slots (n19 * 30 + 0) → ∀ ls : Array Slot, lv_has ls 13 [(0, .ref (ad 77)), (1, .int x1), (2, .ref q_m9), (3, .int x3), (4, .int x4), (7, .int x7), (9, .int x9)] → f_L_sounds_177  (f_L_sounds_19   n_m9 x1 n19) n_m9 x1 S_m9 W_v132 x3 x4 x7 x9 s177_0 s177_1 G = some (N, r, G') → W p l ev (rmD 11 528 (16 * 528)) s m ([.ref (ad 77)] : List Value).toArray below meth c H locs cells slots (MQ below (LQ (PM N r D Y ad G') (AW 90 ad)) ([.ref (ad 77)] : List Value).toArray s 528 (16 * 528) (AW 90 ad)) (F0 m 177 ls [.int s177_0, .int s177_1, .ref q_v132, .ref q_v132]) := by
        intro S_m9 W_v132 x3 x4 x7 x9 s177_0 s177_1 G q_m9 r_m9 q_v132 H locs cells slots hf_m9 hf_v132 hne_m9_v132 hP hS hA_m9 hA_v132 hB ls hl h
        obtain ⟨b1, h⟩ := ckS h
        obtain ⟨W2, eW2, h⟩ := bsome h
        refine ai_st F hA_v132 hf_v132 (inbV b1 (by decide)) dL_sounds_177 (fun H hnew hsk => ?_)
        have hP := sk_P hP hnew.1 hsk
        have hS := sk_S hS hf_v132 hsk
        have hA_v132 := cvA eW2 hnew
        have hA_m9 := hA_m9.sk hsk hne_m9_v132.1 hne_m9_v132.2
        refine lv_dup hx hb dL_sounds_178 rfl ?_
        refine lv_iconst (v := 4) hx hb dL_sounds_179 (by decide) ?_
        refine lv_iload_n hx hb dL_sounds_180 rfl (lv_at hl 3 rfl) ?_
        obtain ⟨W3, eW3, h⟩ := bsome h
        refine ai_st F hA_v132 hf_v132 (inbV (by decide) (by decide)) dL_sounds_181 (fun H hnew hsk => ?_)
        have hP := sk_P hP hnew.1 hsk
        have hS := sk_S hS hf_v132 hsk
        have hA_v132 := cvA eW3 hnew
        have hA_m9 := hA_m9.sk hsk hne_m9_v132.1 hne_m9_v132.2
        refine lv_dup hx hb dL_sounds_182 rfl ?_
        refine lv_iconst (v := 5) hx hb dL_sounds_183 (by decide) ?_
        refine lv_iload hx hb dL_sounds_184 (lv_at hl 6 rfl) ?_
        obtain ⟨W4, eW4, h⟩ := bsome h
        refine ai_st F hA_v132 hf_v132 (inbV (by decide) (by decide)) dL_sounds_186 (fun H hnew hsk => ?_)
        have hP := sk_P hP hnew.1 hsk
        have hS := sk_S hS hf_v132 hsk
        have hA_v132 := cvA eW4 hnew
        have hA_m9 := hA_m9.sk hsk hne_m9_v132.1 hne_m9_v132.2
        refine lv_astore (lv' := [(11, .ref q_v132), (0, .ref (ad 77)), (1, .int x1), (2, .ref q_m9), (3, .int x3), (4, .int x4), (7, .int x7), (9, .int x9)]) hx hb dL_sounds_187 hl (by decide) rfl (fun ls hl => ?_)
        refine lv_aload_n hx hb dL_sounds_189 rfl (lv_at hl 3 rfl) ?_
        refine lv_iload hx hb dL_sounds_190 (lv_at hl 5 rfl) ?_
        refine lv_aload hx hb dL_sounds_192 (lv_at hl 0 rfl) ?_
        obtain ⟨b5, h⟩ := ckS h
        obtain ⟨S6, eS6, h⟩ := bsome h
        refine mx_ast F hE hA_m9 hA_v132 hne_m9_v132 hf_m9.1 b5 dL_sounds_194 (fun H hnew hsk => ?_)
        have hP := sk_P hP hnew.1 hsk
        have hS := sk_S hS hf_m9.1 hsk
        have hf_m9 := And.intro hf_m9.1 (upN_f (i := x4.toNatClampNeg) hf_m9.2 hf_v132)
        have hA_m9 := cvM eS6 hnew
        refine lv_iload_n hx hb dL_sounds_195 rfl (lv_at hl 4 rfl) ?_
        refine lv_iload hx hb dL_sounds_196 (lv_at hl 6 rfl) ?_
        refine lv_iadd hx hb dL_sounds_198 ?_
        refine lv_istore_n (lv' := [(3, .int (x3 + x7)), (11, .ref q_v132), (0, .ref (ad 77)), (1, .int x1), (2, .ref q_m9), (4, .int x4), (7, .int x7), (9, .int x9)]) hx hb dL_sounds_199 rfl hl (by decide) rfl (fun ls hl => ?_)
        refine lv_iinc (v := (x4 + 1)) (lv' := [(4, .int (x4 + 1)), (3, .int (x3 + x7)), (11, .ref q_v132), (0, .ref (ad 77)), (1, .int x1), (2, .ref q_m9), (7, .int x7), (9, .int x9)]) hx hb dL_sounds_200 hl (k := 5) rfl rfl (by decide) rfl (fun ls hl => ?_)
        refine lv_goto (tgt := 19) hx hb dL_sounds_203 (by decide) ?_
        exact ih19 G S6 (x3 + x7) (x4 + 1) q_m9 (upN r_m9 x4.toNatClampNeg q_v132) _ _ _ _ hf_m9 hP hS hA_m9 (hB.le (by omega)) ls (lv_sub hl [3, 4, 5, 1, 0] rfl) h
      have key73 : ∀ (S_m9 : Nat → Nat → Int32) (x3 : Int32) (x4 : Int32) (x5 : Int32) (x6 : Int32) (x7 : Int32) (x8 : Int32) (n : Nat) (G : GT) (x9 : Int32) (x10 : Int32) (x11 : Int32) (q_m9 : Nat) (r_m9 : Nat → Nat) (H : Heap) (locs : List Loc) (cells slots : Nat), (s.heap.size ≤ q_m9 ∧ ∀ i, i < n_m9 → s.heap.size ≤ r_m9 i) → va_P D vwCl (wsC Y ad G) H → va_S (AW 90 ad) s.heap H locs → MX Y ad q_m9 n_m9 r_m9 S_m9 H → Bg 528 cells slots (n * 3 + n19 * 30 + 1) → ∀ ls : Array Slot, lv_has ls 13 [(0, .ref (ad 77)), (1, .int x1), (2, .ref q_m9), (3, .int x3), (4, .int x4), (5, .int x5), (6, .int x6), (7, .int x7), (8, .int x8), (9, .int x9), (10, .int x10), (11, .int x11)] → f_L_sounds_73  (f_L_sounds_19   n_m9 x1 n19) n_m9 x1 S_m9 x3 x4 x5 x6 x7 x8 n G x9 x10 x11 = some (N, r, G') → W p l ev (rmD 11 528 (16 * 528)) s m ([.ref (ad 77)] : List Value).toArray below meth c H locs cells slots (MQ below (LQ (PM N r D Y ad G') (AW 90 ad)) ([.ref (ad 77)] : List Value).toArray s 528 (16 * 528) (AW 90 ad)) (F0 m 73 ls []) := by
        intro S_m9 x3 x4 x5 x6 x7 x8
        intro n
        induction n with
        | zero => intro G x9 x10 x11 q_m9 r_m9 H locs cells slots hf_m9 hP hS hA_m9 hB ls hl h; exact lqZ4 h
        | succ n73 ih73 =>
          have key117 : ∀ (x11 : Int32) (x12 : Int32) (s117_0 : Int32) (s117_1 : Int32) (G : GT) (q_m9 : Nat) (r_m9 : Nat → Nat) (H : Heap) (locs : List Loc) (cells slots : Nat), (s.heap.size ≤ q_m9 ∧ ∀ i, i < n_m9 → s.heap.size ≤ r_m9 i) → va_P D vwCl (wsC Y ad G) H → va_S (AW 90 ad) s.heap H locs → MX Y ad q_m9 n_m9 r_m9 S_m9 H → Bg 528 cells slots (n19 * 30 + n73 * 3 + 1) → ∀ ls : Array Slot, lv_has ls 13 [(0, .ref (ad 77)), (1, .int x1), (2, .ref q_m9), (3, .int x3), (4, .int x4), (5, .int x5), (6, .int x6), (7, .int x7), (8, .int x8), (11, .int x11), (12, .int x12)] → f_L_sounds_117  (f_L_sounds_19   n_m9 x1 n19) (f_L_sounds_73  (f_L_sounds_19   n_m9 x1 n19) n_m9 x1 S_m9 x3 x4 x5 x6 x7 x8 n73) n_m9 S_m9 x1 x3 x4 x5 x6 x7 x8 x11 x12 s117_0 s117_1 G = some (N, r, G') → W p l ev (rmD 11 528 (16 * 528)) s m ([.ref (ad 77)] : List Value).toArray below meth c H locs cells slots (MQ below (LQ (PM N r D Y ad G') (AW 90 ad)) ([.ref (ad 77)] : List Value).toArray s 528 (16 * 528) (AW 90 ad)) (F0 m 117 ls [.int s117_0, .int s117_1]) := by
            intro x11 x12 s117_0 s117_1 G q_m9 r_m9 H locs cells slots hf_m9 hP hS hA_m9 hB ls hl h
            refine lv_iadd hx hb dL_sounds_117 ?_
            refine lv_istore (lv' := [(9, .int (s117_1 + s117_0)), (0, .ref (ad 77)), (1, .int x1), (2, .ref q_m9), (3, .int x3), (4, .int x4), (5, .int x5), (6, .int x6), (7, .int x7), (8, .int x8), (11, .int x11), (12, .int x12)]) hx hb dL_sounds_118 hl (by decide) rfl (fun ls hl => ?_)
            refine lv_iload hx hb dL_sounds_120 (lv_at hl 11 rfl) ?_
            refine lv_istore (lv' := [(10, .int x12), (9, .int (s117_1 + s117_0)), (0, .ref (ad 77)), (1, .int x1), (2, .ref q_m9), (3, .int x3), (4, .int x4), (5, .int x5), (6, .int x6), (7, .int x7), (8, .int x8), (11, .int x11), (12, .int x12)]) hx hb dL_sounds_122 hl (by decide) rfl (fun ls hl => ?_)
            refine lv_iinc (v := (x11 + 1)) (lv' := [(11, .int (x11 + 1)), (10, .int x12), (9, .int (s117_1 + s117_0)), (0, .ref (ad 77)), (1, .int x1), (2, .ref q_m9), (3, .int x3), (4, .int x4), (5, .int x5), (6, .int x6), (7, .int x7), (8, .int x8), (12, .int x12)]) hx hb dL_sounds_124 hl (k := 11) rfl rfl (by decide) rfl (fun ls hl => ?_)
            refine lv_goto (tgt := 73) hx hb dL_sounds_127 (by decide) ?_
            exact ih73 G (s117_1 + s117_0) x12 (x11 + 1) q_m9 r_m9 _ _ _ _ hf_m9 hP hS hA_m9 (hB.le (by omega)) ls (lv_sub hl [3, 4, 5, 6, 7, 8, 9, 10, 11, 2, 1, 0] rfl) h
          have key116 : ∀ (x11 : Int32) (x12 : Int32) (s116_0 : Int32) (G : GT) (q_m9 : Nat) (r_m9 : Nat → Nat) (H : Heap) (locs : List Loc) (cells slots : Nat), (s.heap.size ≤ q_m9 ∧ ∀ i, i < n_m9 → s.heap.size ≤ r_m9 i) → va_P D vwCl (wsC Y ad G) H → va_S (AW 90 ad) s.heap H locs → MX Y ad q_m9 n_m9 r_m9 S_m9 H → Bg 528 cells slots (n19 * 30 + n73 * 3 + 1) → ∀ ls : Array Slot, lv_has ls 13 [(0, .ref (ad 77)), (1, .int x1), (2, .ref q_m9), (3, .int x3), (4, .int x4), (5, .int x5), (6, .int x6), (7, .int x7), (8, .int x8), (11, .int x11), (12, .int x12)] → f_L_sounds_116  (f_L_sounds_19   n_m9 x1 n19) (f_L_sounds_73  (f_L_sounds_19   n_m9 x1 n19) n_m9 x1 S_m9 x3 x4 x5 x6 x7 x8 n73) n_m9 S_m9 x1 x3 x4 x5 x6 x7 x8 x11 x12 s116_0 G = some (N, r, G') → W p l ev (rmD 11 528 (16 * 528)) s m ([.ref (ad 77)] : List Value).toArray below meth c H locs cells slots (MQ below (LQ (PM N r D Y ad G') (AW 90 ad)) ([.ref (ad 77)] : List Value).toArray s 528 (16 * 528) (AW 90 ad)) (F0 m 116 ls [.int s116_0]) := by
            intro x11 x12 s116_0 G q_m9 r_m9 H locs cells slots hf_m9 hP hS hA_m9 hB ls hl h
            refine lv_iconst (v := 0) hx hb dL_sounds_116 (by decide) ?_
            exact key117 x11 x12 (0 : Int32) s116_0 G q_m9 r_m9 _ _ _ _ hf_m9 hP hS hA_m9 (hB.le (by omega)) ls (lv_sub hl [0, 1, 2, 3, 4, 5, 6, 7, 8, 9, 10] rfl) h
          intro G x9 x10 x11 q_m9 r_m9 H locs cells slots hf_m9 hP hS hA_m9 hB ls hl h
          have h := lqS4 h
          refine lv_iload hx hb dL_sounds_73 (lv_at hl 11 rfl) ?_
          refine lv_aload_n hx hb dL_sounds_75 rfl (lv_at hl 0 rfl) ?_
          refine lv_iconst (v := 0) hx hb dL_sounds_76 (by decide) ?_
          obtain ⟨r7, G7, e7, h⟩ := bR h
          refine lx_V (B' := (n73 * 3 + n19 * 30 + 3)) F hP hK hS hB k_X9_account mw_621 rfl (q_X9_account l hst D Y ad hI G (0 : Int32) (.inr r7) G7 e7) rfl hl.1 ⟨Nat.le_of_ble_eq_true rfl, Nat.le_of_ble_eq_true rfl⟩ (rest := [.int x11]) rfl (Nat.le_of_ble_eq_true rfl) (by omega) dL_sounds_77 (fun H locs cells slots o7 hP hS hkp hB => ?_)
          have hA_m9 := hA_m9.kp hkp
          refine lv_icmp_ge (tgt := 130) hx hb dL_sounds_80 (by decide) (fun c8 => ?_) (fun c8 => ?_)
          · have h := ifT h c8
            refine lv_bipush (v := 6) hx hb dL_sounds_130 (by decide) ?_
            refine nw_i (N := 6) (B' := (n73 * 3 + n19 * 30 + 2)) F hP hS hB (by decide) (by decide) (by omega) (by decide) mw_85 dL_sounds_132 (fun q_v132 H cells slots hA_v132 hf_v132 hd hP hS hkp hB => ?_)
            have hne_m9_v132 : (q_m9 ≠ q_v132 ∧ ∀ i, i < n_m9 → r_m9 i ≠ q_v132) := ⟨hd _ hA_m9.lt, fun i hi => hd _ (hA_m9.2.2.1 i hi).2.lt⟩
            have hA_m9 := hA_m9.kp hkp
            refine lv_dup hx hb dL_sounds_134 rfl ?_
            refine lv_iconst (v := 0) hx hb dL_sounds_135 (by decide) ?_
            refine lv_iload hx hb dL_sounds_136 (lv_at hl 5 rfl) ?_
            obtain ⟨W9, eW9, h⟩ := bsome h
            refine ai_st F hA_v132 hf_v132 (inbV (by decide) (by decide)) dL_sounds_138 (fun H hnew hsk => ?_)
            have hP := sk_P hP hnew.1 hsk
            have hS := sk_S hS hf_v132 hsk
            have hA_v132 := cvA eW9 hnew
            have hA_m9 := hA_m9.sk hsk hne_m9_v132.1 hne_m9_v132.2
            refine lv_dup hx hb dL_sounds_139 rfl ?_
            refine lv_iconst (v := 1) hx hb dL_sounds_140 (by decide) ?_
            refine lv_iload hx hb dL_sounds_141 (lv_at hl 6 rfl) ?_
            obtain ⟨W10, eW10, h⟩ := bsome h
            refine ai_st F hA_v132 hf_v132 (inbV (by decide) (by decide)) dL_sounds_143 (fun H hnew hsk => ?_)
            have hP := sk_P hP hnew.1 hsk
            have hS := sk_S hS hf_v132 hsk
            have hA_v132 := cvA eW10 hnew
            have hA_m9 := hA_m9.sk hsk hne_m9_v132.1 hne_m9_v132.2
            refine lv_dup hx hb dL_sounds_144 rfl ?_
            refine lv_iconst (v := 2) hx hb dL_sounds_145 (by decide) ?_
            refine lv_iload hx hb dL_sounds_146 (lv_at hl 7 rfl) ?_
            obtain ⟨W11, eW11, h⟩ := bsome h
            refine ai_st F hA_v132 hf_v132 (inbV (by decide) (by decide)) dL_sounds_148 (fun H hnew hsk => ?_)
            have hP := sk_P hP hnew.1 hsk
            have hS := sk_S hS hf_v132 hsk
            have hA_v132 := cvA eW11 hnew
            have hA_m9 := hA_m9.sk hsk hne_m9_v132.1 hne_m9_v132.2
            refine lv_dup hx hb dL_sounds_149 rfl ?_
            refine lv_iconst (v := 3) hx hb dL_sounds_150 (by decide) ?_
            refine lv_iload hx hb dL_sounds_151 (lv_at hl 6 rfl) ?_
            refine lv_if_ge (tgt := 160) hx hb dL_sounds_153 (by decide) (fun c12 => ?_) (fun c12 => ?_)
            · have h := ifT h c12
              refine lv_iload hx hb dL_sounds_160 (lv_at hl 8 rfl) ?_
              refine lv_bipush (v := 11) hx hb dL_sounds_162 (by decide) ?_
              refine lv_icmp_le (tgt := 175) hx hb dL_sounds_164 (by decide) (fun c13 => ?_) (fun c13 => ?_)
              · have h := ifT h c13
                refine lv_iload hx hb dL_sounds_175 (lv_at hl 8 rfl) ?_
                exact key177 S_m9 W11 x3 x4 x7 x9 x8 (3 : Int32) G7 q_m9 r_m9 q_v132 _ _ _ _ hf_m9 hf_v132 hne_m9_v132 hP hS hA_m9 hA_v132 (hB.le (by omega)) ls (lv_sub hl [0, 1, 2, 3, 4, 7, 9] rfl) h
              · have h := ifF h c13
                refine lv_iload hx hb dL_sounds_167 (lv_at hl 8 rfl) ?_
                refine lv_bipush (v := 12) hx hb dL_sounds_169 (by decide) ?_
                refine lv_isub hx hb dL_sounds_171 ?_
                refine lv_goto (tgt := 177) hx hb dL_sounds_172 (by decide) ?_
                exact key177 S_m9 W11 x3 x4 x7 x9 (x8 - (12 : Int32)) (3 : Int32) G7 q_m9 r_m9 q_v132 _ _ _ _ hf_m9 hf_v132 hne_m9_v132 hP hS hA_m9 hA_v132 (hB.le (by omega)) ls (lv_sub hl [0, 1, 2, 3, 4, 7, 9] rfl) h
            · have h := ifF h c12
              refine lv_iconst (v := (-1)) hx hb dL_sounds_156 (by decide) ?_
              refine lv_goto (tgt := 177) hx hb dL_sounds_157 (by decide) ?_
              exact key177 S_m9 W11 x3 x4 x7 x9 (-1 : Int32) (3 : Int32) G7 q_m9 r_m9 q_v132 _ _ _ _ hf_m9 hf_v132 hne_m9_v132 hP hS hA_m9 hA_v132 (hB.le (by omega)) ls (lv_sub hl [0, 1, 2, 3, 4, 7, 9] rfl) h
          · have h := ifF h c8
            refine lv_iload hx hb dL_sounds_83 (lv_at hl 10 rfl) ?_
            refine lv_aload_n hx hb dL_sounds_85 rfl (lv_at hl 0 rfl) ?_
            refine lv_iload hx hb dL_sounds_86 (lv_at hl 11 rfl) ?_
            refine lv_iconst (v := 0) hx hb dL_sounds_88 (by decide) ?_
            obtain ⟨r14, G14, e14, h⟩ := bsome2 h
            refine lh_i (B' := (n73 * 3 + n19 * 30 + 1)) F hP hK hE hS hB kl_barOf mw_735 (ql_barOf l hst D Y ad hI G7 x11 (0 : Int32) r14 G14 e14) rfl hl.1 ⟨Nat.le_of_ble_eq_true rfl, Nat.le_of_ble_eq_true rfl⟩ (rest := [.int x10]) rfl (Nat.le_of_ble_eq_true rfl) (by omega) dL_sounds_89 (fun H locs cells slots hP hS hkp hB => ?_)
            have hA_m9 := hA_m9.kp hkp
            refine lv_iadd hx hb dL_sounds_92 ?_
            refine lv_istore (lv' := [(12, .int (x10 + r14)), (0, .ref (ad 77)), (1, .int x1), (2, .ref q_m9), (3, .int x3), (4, .int x4), (5, .int x5), (6, .int x6), (7, .int x7), (8, .int x8), (9, .int x9), (10, .int x10), (11, .int x11)]) hx hb dL_sounds_93 hl (by decide) rfl (fun ls hl => ?_)
            refine lv_iload hx hb dL_sounds_95 (lv_at hl 10 rfl) ?_
            refine lv_iload_n hx hb dL_sounds_97 rfl (lv_at hl 4 rfl) ?_
            refine lv_iload hx hb dL_sounds_98 (lv_at hl 0 rfl) ?_
            refine lv_icmp_ge (tgt := 116) hx hb dL_sounds_100 (by decide) (fun c15 => ?_) (fun c15 => ?_)
            · have h := ifT h c15
              exact key116 x11 (x10 + r14) x9 G14 q_m9 r_m9 _ _ _ _ hf_m9 hP hS hA_m9 (hB.le (by omega)) ls (lv_sub hl [1, 2, 3, 4, 5, 6, 7, 8, 9, 12, 0] rfl) h
            · have h := ifF h c15
              refine lv_iload_n hx hb dL_sounds_103 rfl (lv_at hl 4 rfl) ?_
              refine lv_iload hx hb dL_sounds_104 (lv_at hl 8 rfl) ?_
              refine lv_iadd hx hb dL_sounds_106 ?_
              refine lv_iload hx hb dL_sounds_107 (lv_at hl 11 rfl) ?_
              refine lv_icmp_le (tgt := 116) hx hb dL_sounds_109 (by decide) (fun c16 => ?_) (fun c16 => ?_)
              · have h := ifT h c16
                exact key116 x11 (x10 + r14) x9 G14 q_m9 r_m9 _ _ _ _ hf_m9 hP hS hA_m9 (hB.le (by omega)) ls (lv_sub hl [1, 2, 3, 4, 5, 6, 7, 8, 9, 12, 0] rfl) h
              · have h := ifF h c16
                refine lv_iconst (v := 1) hx hb dL_sounds_112 (by decide) ?_
                refine lv_goto (tgt := 117) hx hb dL_sounds_113 (by decide) ?_
                exact key117 x11 (x10 + r14) (1 : Int32) x9 G14 q_m9 r_m9 _ _ _ _ hf_m9 hP hS hA_m9 (hB.le (by omega)) ls (lv_sub hl [1, 2, 3, 4, 5, 6, 7, 8, 9, 12, 0] rfl) h
      intro G S_m9 x3 x4 q_m9 r_m9 H locs cells slots hf_m9 hP hS hA_m9 hB ls hl h
      have h := lqS4 h
      refine lv_iload hx hb dL_sounds_19 (lv_at hl 4 rfl) ?_
      refine lv_iload_n hx hb dL_sounds_21 rfl (lv_at hl 1 rfl) ?_
      refine lv_icmp_ge (tgt := 206) hx hb dL_sounds_22 (by decide) (fun c17 => ?_) (fun c17 => ?_)
      · have h := ifT h c17
        refine lv_aload_n hx hb dL_sounds_206 rfl (lv_at hl 2 rfl) ?_
        exact lm_endm F hP hS hB hr hk hA_m9 hf_m9.1 hf_m9.2 h dL_sounds_207
      · have h := ifF h c17
        refine lv_aload_n hx hb dL_sounds_25 rfl (lv_at hl 0 rfl) ?_
        refine lv_iload hx hb dL_sounds_26 (lv_at hl 4 rfl) ?_
        refine lv_iconst (v := 0) hx hb dL_sounds_28 (by decide) ?_
        obtain ⟨r18, G18, e18, h⟩ := bsome2 h
        refine lh_i (B' := (n19 * 30 + 28)) F hP hK hE hS hB kl_of mw_689 (ql_of l hst D Y ad hI G x4 (0 : Int32) r18 G18 e18) rfl hl.1 ⟨Nat.le_of_ble_eq_true rfl, Nat.le_of_ble_eq_true rfl⟩ (rest := []) rfl (Nat.le_of_ble_eq_true rfl) (by omega) dL_sounds_29 (fun H locs cells slots hP hS hkp hB => ?_)
        have hA_m9 := hA_m9.kp hkp
        refine lv_istore (lv' := [(5, .int r18), (0, .ref (ad 77)), (1, .int x1), (2, .ref q_m9), (3, .int x3), (4, .int x4)]) hx hb dL_sounds_32 hl (by decide) rfl (fun ls hl => ?_)
        refine lv_aload_n hx hb dL_sounds_34 rfl (lv_at hl 1 rfl) ?_
        refine lv_iload hx hb dL_sounds_35 (lv_at hl 5 rfl) ?_
        refine lv_iconst (v := 1) hx hb dL_sounds_37 (by decide) ?_
        obtain ⟨r19, G19, e19, h⟩ := bsome2 h
        refine lh_i (B' := (n19 * 30 + 26)) F hP hK hE hS hB kl_of mw_689 (ql_of l hst D Y ad hI G18 x4 (1 : Int32) r19 G19 e19) rfl hl.1 ⟨Nat.le_of_ble_eq_true rfl, Nat.le_of_ble_eq_true rfl⟩ (rest := []) rfl (Nat.le_of_ble_eq_true rfl) (by omega) dL_sounds_38 (fun H locs cells slots hP hS hkp hB => ?_)
        have hA_m9 := hA_m9.kp hkp
        refine lv_istore (lv' := [(6, .int r19), (5, .int r18), (0, .ref (ad 77)), (1, .int x1), (2, .ref q_m9), (3, .int x3), (4, .int x4)]) hx hb dL_sounds_41 hl (by decide) rfl (fun ls hl => ?_)
        refine lv_aload_n hx hb dL_sounds_43 rfl (lv_at hl 2 rfl) ?_
        refine lv_iload hx hb dL_sounds_44 (lv_at hl 6 rfl) ?_
        refine lv_iconst (v := 2) hx hb dL_sounds_46 (by decide) ?_
        obtain ⟨r20, G20, e20, h⟩ := bsome2 h
        refine lh_i (B' := (n19 * 30 + 24)) F hP hK hE hS hB kl_of mw_689 (ql_of l hst D Y ad hI G19 x4 (2 : Int32) r20 G20 e20) rfl hl.1 ⟨Nat.le_of_ble_eq_true rfl, Nat.le_of_ble_eq_true rfl⟩ (rest := []) rfl (Nat.le_of_ble_eq_true rfl) (by omega) dL_sounds_47 (fun H locs cells slots hP hS hkp hB => ?_)
        have hA_m9 := hA_m9.kp hkp
        refine lv_istore (lv' := [(7, .int r20), (6, .int r19), (5, .int r18), (0, .ref (ad 77)), (1, .int x1), (2, .ref q_m9), (3, .int x3), (4, .int x4)]) hx hb dL_sounds_50 hl (by decide) rfl (fun ls hl => ?_)
        refine lv_aload_n hx hb dL_sounds_52 rfl (lv_at hl 3 rfl) ?_
        refine lv_iload hx hb dL_sounds_53 (lv_at hl 2 rfl) ?_
        refine lv_iconst (v := 0) hx hb dL_sounds_55 (by decide) ?_
        obtain ⟨r21, G21, e21, h⟩ := bsome2 h
        refine lh_i (B' := (n19 * 30 + 22)) F hP hK hE hS hB kl_tinOf mw_717 (ql_tinOf l hst D Y ad hI G20 r18 (0 : Int32) r21 G21 e21) rfl hl.1 ⟨Nat.le_of_ble_eq_true rfl, Nat.le_of_ble_eq_true rfl⟩ (rest := []) rfl (Nat.le_of_ble_eq_true rfl) (by omega) dL_sounds_56 (fun H locs cells slots hP hS hkp hB => ?_)
        have hA_m9 := hA_m9.kp hkp
        refine lv_iload hx hb dL_sounds_59 (lv_at hl 1 rfl) ?_
        refine lv_iadd hx hb dL_sounds_61 ?_
        refine lv_istore (lv' := [(8, .int (r21 + r19)), (7, .int r20), (6, .int r19), (5, .int r18), (0, .ref (ad 77)), (1, .int x1), (2, .ref q_m9), (3, .int x3), (4, .int x4)]) hx hb dL_sounds_62 hl (by decide) rfl (fun ls hl => ?_)
        refine lv_iconst (v := 0) hx hb dL_sounds_64 (by decide) ?_
        refine lv_istore (lv' := [(9, .int (0 : Int32)), (8, .int (r21 + r19)), (7, .int r20), (6, .int r19), (5, .int r18), (0, .ref (ad 77)), (1, .int x1), (2, .ref q_m9), (3, .int x3), (4, .int x4)]) hx hb dL_sounds_65 hl (by decide) rfl (fun ls hl => ?_)
        refine lv_iconst (v := 0) hx hb dL_sounds_67 (by decide) ?_
        refine lv_istore (lv' := [(10, .int (0 : Int32)), (9, .int (0 : Int32)), (8, .int (r21 + r19)), (7, .int r20), (6, .int r19), (5, .int r18), (0, .ref (ad 77)), (1, .int x1), (2, .ref q_m9), (3, .int x3), (4, .int x4)]) hx hb dL_sounds_68 hl (by decide) rfl (fun ls hl => ?_)
        refine lv_iconst (v := 0) hx hb dL_sounds_70 (by decide) ?_
        refine lv_istore (lv' := [(11, .int (0 : Int32)), (10, .int (0 : Int32)), (9, .int (0 : Int32)), (8, .int (r21 + r19)), (7, .int r20), (6, .int r19), (5, .int r18), (0, .ref (ad 77)), (1, .int x1), (2, .ref q_m9), (3, .int x3), (4, .int x4)]) hx hb dL_sounds_71 hl (by decide) rfl (fun ls hl => ?_)
        exact key73 S_m9 x3 x4 r18 r19 r20 (r21 + r19) 7 G21 (0 : Int32) (0 : Int32) (0 : Int32) q_m9 r_m9 _ _ _ _ hf_m9 hP hS hA_m9 (hB.le (by omega)) ls (lv_sub hl [7, 8, 9, 10, 11, 6, 5, 4, 3, 2, 1, 0] rfl) h
  refine lv_aload_n hx hb dL_sounds_0 rfl (lv_at hl 0 rfl) ?_
  refine lv_iconst (v := 3) hx hb dL_sounds_1 (by decide) ?_
  obtain ⟨r22, G22, e22, h⟩ := bR h
  refine lx_V (B' := (527)) F hP hK hS hB k_X9_account mw_621 rfl (q_X9_account l hst D Y ad hI G (3 : Int32) (.inr r22) G22 e22) rfl hl.1 ⟨Nat.le_of_ble_eq_true rfl, Nat.le_of_ble_eq_true rfl⟩ (rest := []) rfl (Nat.le_of_ble_eq_true rfl) (by omega) dL_sounds_2 (fun H locs cells slots o22 hP hS hkp hB => ?_)
  refine lv_istore_n (lv' := [(1, .int r22), (0, .ref (ad 77))]) hx hb dL_sounds_5 rfl hl (by decide) rfl (fun ls hl => ?_)
  refine lv_iload_n hx hb dL_sounds_6 rfl (lv_at hl 0 rfl) ?_
  refine lv_bipush (v := 6) hx hb dL_sounds_7 (by decide) ?_
  obtain ⟨b23, h⟩ := ckS h
  obtain ⟨n_m9, e24, h⟩ := bsome h
  refine nw_m (B' := (510)) F hE hP hS hB b23 e24 (by omega) mw_687 mw_85 dL_sounds_9 (fun q_m9 r_m9 H cells slots hA_m9 hf1 hf2 hP hS hkp hB => ?_)
  have hf_m9 := And.intro hf1 hf2
  refine lv_astore_n (lv' := [(2, .ref q_m9), (1, .int r22), (0, .ref (ad 77))]) hx hb dL_sounds_13 rfl hl (by decide) rfl (fun ls hl => ?_)
  refine lv_iconst (v := 0) hx hb dL_sounds_14 (by decide) ?_
  refine lv_istore_n (lv' := [(3, .int (0 : Int32)), (2, .ref q_m9), (1, .int r22), (0, .ref (ad 77))]) hx hb dL_sounds_15 rfl hl (by decide) rfl (fun ls hl => ?_)
  refine lv_iconst (v := 0) hx hb dL_sounds_16 (by decide) ?_
  refine lv_istore (lv' := [(4, .int (0 : Int32)), (3, .int (0 : Int32)), (2, .ref q_m9), (1, .int r22), (0, .ref (ad 77))]) hx hb dL_sounds_17 hl (by decide) rfl (fun ls hl => ?_)
  exact key19 n_m9 r22 17 G22 (fun _ _ => 0) (0 : Int32) (0 : Int32) q_m9 r_m9 _ _ _ _ hf_m9 hP hS hA_m9 (hB.le (by omega)) ls (lv_sub hl [4, 3, 2, 1, 0] rfl) h
