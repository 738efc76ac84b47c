theorem m_native : Cond.native arraycopyName ∈ LW := LWm (tb6 (List.mem_of_getElem? (i := 174) (by decide +kernel))) rfl
abbrev n64 (r : UInt64) : Prop := r &&& 0x7fffffffffffffff ≤ 0x7ff0000000000000
abbrev n32 (r : UInt32) : Prop := r &&& 0x7fffffff ≤ 0x7f800000
abbrev cpOK (sp dp n : Int32) (z0 z1 : Nat) : Prop := ¬ sp < 0 ∧ ¬ dp < 0 ∧ ¬ n < 0 ∧ sp.toNatClampNeg + n.toNatClampNeg ≤ z0 ∧ dp.toNatClampNeg + n.toNatClampNeg ≤ z1
def WQd (r : UInt64) (D : va_G) (ws : va_W) (A : Nat → Prop) : Array Value → State → Outcome → State → Prop := va_Qd (fun v (_ : Unit) => v = r) (fun _ t => va_P D vwCl ws t.heap) A
def WQf (r : UInt32) (D : va_G) (ws : va_W) (A : Nat → Prop) : Array Value → State → Outcome → State → Prop := va_Qf (fun v (_ : Unit) => v = r) (fun _ t => va_P D vwCl ws t.heap) A
def WDb (l : Launch) (y : MethodName) (b : ByteArray) (n : Nat) (d : Nat) (D : va_G) (Y : Nat → ClassId) (N : Nat) (ad : Nat → Nat) (kf : Nat → (Nat → Int32) → va_E) (G : GT) (As : List Value) (r : UInt64) (G' : GT) : Prop :=
  Met l y (wc y b n (some .double)) (rmD d 0 0) (va_Pc As (Bw D Y (wsW N ad kf G))) (WQd r D (wsW N ad kf G') (AW N ad)) 0 0 (AW N ad)
def WF (l : Launch) (y : MethodName) (b : ByteArray) (n : Nat) (d : Nat) (D : va_G) (Y : Nat → ClassId) (N : Nat) (ad : Nat → Nat) (kf : Nat → (Nat → Int32) → va_E) (G : GT) (As : List Value) (r : UInt32) (G' : GT) : Prop :=
  Met l y (wc y b n (some .float)) (rmD d 0 0) (va_Pc As (Bw D Y (wsW N ad kf G))) (WQf r D (wsW N ad kf G') (AW N ad)) 0 0 (AW N ad)
section CPR
variable {p : Program} {l : Launch} {e : Env} {R : Room} {s : State} {m : MethodId} {args : Array Value} {below : List Frame} {meth : Method} {c : Code} {H : Heap} {locs : List Loc} {cells slots : Nat} {Q : State → Prop}
variable {cc : ByteArray} {pc nL d : Nat} {ls : Array Slot} {rest : List Value} {own : String} {idx : Nat} {D : va_G} {Y : Nat → ClassId} {N : Nat} {ad : Nat → Nat} {kf : Nat → (Nat → Int32) → va_E} {G G' : GT} {H0 : Heap} {A : Nat → Prop}
theorem w_copy {lv : List (Nat × Value)} (F : Fx p c cc nL s m args own D Y) (hl : lv_has ls nL lv) (hI : Inj N ad) (hP : va_P D vwCl (wsW N ad kf G) H) (hS : va_S A H0 H locs) (hA : ∀ i, i < N → A (ad i)) (hlink : Cond.methodLink own idx arraycopyName ∈ LW) (q0 q1 : Nat) (hq : q0 < N ∧ q1 < N) {z0 z1 : Nat} (he0 : ∀ g, kf q0 g = .inl (Y 0, z0, .inl g)) (he1 : ∀ g, kf q1 g = .inl (Y 0, z1, .inl g)) {sp dp n : Int32} (ok : cpOK sp dp n z0 z1) (hR : 1 ≤ R.frames ∧ (rest.map fun v => v.category).sum + (nativeFrameWords "java/lang/System" "arraycopy" 5 + 11) ≤ R.locals) (hdg : decode cc pc = .ok (.invokestatic idx, 3))
    (kk : ∀ (H1 : Heap) (locs1 : List Loc), va_P D vwCl (wsW N ad kf (upR G q1 (va_cpy (G q0) (G q1) sp.toNatClampNeg dp.toNatClampNeg n.toNatClampNeg))) H1 → va_S A H0 H1 locs1 → W p l e R s m args below meth c H1 locs1 cells slots Q (F0 m (pc + 3) ls rest)) : W p l e R s m args below meth c H locs cells slots Q (F0 m pc ls (.int n :: .int dp :: .ref (ad q1) :: .int sp :: .ref (ad q0) :: rest)) := by
  refine va_copyi F.1.1 F.1.2.1 (F.1.2.2.1.trans hl.1.symm) F.1.2.2.2.1 (F.1.2.2.2.2 _ hlink) (F.1.2.2.2.2 _ m_native) (F.1.2.2.2.2 _ mw_1373) (F.1.2.2.2.2 _ mw_20) F.2.1 hP (wsW_D hI hA) hS q0 q1 0 0 ((wsW_get q0 hq.1).trans (by rw [he0])) ((wsW_get q1 hq.2).trans (by rw [he1])) rfl rfl rfl ok.1 ok.2.1 ok.2.2.1 ok.2.2.2.1 ok.2.2.2.2 (fun _ _ => rfl) hR.1 hR.2 hdg (fun H1 locs1 hP1 _ hS1 => ?_)
  rw [← he1, wsW_set] at hP1
  exact kk H1 locs1 hP1 hS1
theorem wd_end {v r : UInt64} (F : Fx p c cc nL s m args own D Y) (hP : va_P D vwCl (wsW N ad kf G) H) (hS : va_S (AW N ad) s.heap H locs) (hr : meth.sig.returnType = some .double) (hk : meth.locks = false) (h : some (v, G) = some (r, G')) (hdg : decode cc pc = .ok (.dreturn, 1)) : WW p l e d s m args below meth c H locs (WQd r D (wsW N ad kf G') (AW N ad)) (AW N ad) (F0 m pc ls [.double v]) := by
  cases h
  exact W.dret F.1.1 F.1.2.1 hr (fun t ht _ => ⟨⟨_, (), rfl, rfl, by show va_P D vwCl _ t.heap; rw [ht]; exact hP⟩, hS.F ht⟩) hS.2.2 hdg hk
theorem wf_end {v r : UInt32} (F : Fx p c cc nL s m args own D Y) (hP : va_P D vwCl (wsW N ad kf G) H) (hS : va_S (AW N ad) s.heap H locs) (hr : meth.sig.returnType = some .float) (hk : meth.locks = false) (h : some (v, G) = some (r, G')) (hdg : decode cc pc = .ok (.freturn, 1)) : WW p l e d s m args below meth c H locs (WQf r D (wsW N ad kf G') (AW N ad)) (AW N ad) (F0 m pc ls [.float v]) := by
  cases h
  exact W.fret F.1.1 F.1.2.1 hr (fun t ht _ => ⟨⟨_, (), rfl, rfl, by show va_P D vwCl _ t.heap; rw [ht]; exact hP⟩, hS.F ht⟩) hS.2.2 hdg hk
end CPR
def f_X10_keep (G : GT) : Option (GT) := ((some (upR G 0 (upd (G 0) 6 (0 : Int32)))).bind fun G1 => (if cpOK (0 : Int32) (0 : Int32) (67 : Int32) 67 67 then ((some (upR G1 2 (va_cpy (G1 1) (G1 2) (0 : Int32).toNatClampNeg (0 : Int32).toNatClampNeg (67 : Int32).toNatClampNeg))).bind fun G3 => some G3) else none))
set_option maxRecDepth 100000 in
set_option maxHeartbeats 4000000 in
theorem q_X10_keep (l : Launch) (D : va_G) (Y : Nat → ClassId) (ad : Nat → Nat) (hI : Inj 8 ad) (G : GT) (G' : GT) (h : f_X10_keep G  = some G') : WV l yX10_keep cX10_keep 1 1 D Y 8 ad (kM Y ad) G [.ref (ad 0)] G' := by
  refine W_of (ret := none) (by decide) (Nat.le_of_ble_eq_true rfl) (lv := [(0, .ref (ad 0))]) rfl ?_
  intro p e s m below meth c ls F hP hS hr hk hl
  have F : Fx p c cX10_keep 1 s m _ RX10 D Y := F
  have hx := F.1.1
  have hb := F.1.2.1
  refine lv_aload_n hx hb dX10_keep_0 rfl (lv_at hl 0 rfl) ?_
  refine lv_iconst (v := 0) hx hb dX10_keep_1 (by decide) ?_
  obtain ⟨G1, e1, h⟩ := bsome h
  refine pM_0_6 F hI hP hS dX10_keep_2 (fun H locs hP hS => ?_)
  have hP := cvP e1 hP
  refine lv_aload_n hx hb dX10_keep_5 rfl (lv_at hl 0 rfl) ?_
  refine rM_0_0 F hP dX10_keep_6 ?_
  refine lv_iconst (v := 0) hx hb dX10_keep_9 (by decide) ?_
  refine lv_aload_n hx hb dX10_keep_10 rfl (lv_at hl 0 rfl) ?_
  refine rM_0_1 F hP dX10_keep_11 ?_
  refine lv_iconst (v := 0) hx hb dX10_keep_14 (by decide) ?_
  refine lv_bipush (v := 67) hx hb dX10_keep_15 (by decide) ?_
  obtain ⟨b2, h⟩ := ckS h
  obtain ⟨G3, e3, h⟩ := bsome h
  refine w_copy F hl hI hP hS (fun i h => ⟨i, h, rfl⟩) mw_1372 1 2 (by decide) (fun _ => rfl) (fun _ => rfl) b2 ⟨Nat.le_of_ble_eq_true rfl, Nat.le_of_ble_eq_true rfl⟩ dX10_keep_17 (fun H locs hP hS => ?_)
  have hP := cvP e3 hP
  exact wv_end F hP hS hr hk h dX10_keep_20
def f_X10_ends_60 (G : GT) (a1 : Int32) : Option (Int32 × GT) := (if cpOK (0 : Int32) ((67 : Int32) * (G 0 5)) (67 : Int32) 67 536 then ((some (upR G 4 (va_cpy (G 2) (G 4) (0 : Int32).toNatClampNeg ((67 : Int32) * (G 0 5)).toNatClampNeg (67 : Int32).toNatClampNeg))).bind fun G2 => ((some (upR G2 0 (upd (G2 0) 5 ((G2 0 5) + (1 : Int32))))).bind fun G3 => some (a1, G3))) else none)
def f_X10_ends (G : GT) (a1 : Int32) : Option (Int32 × GT) := (if (G 0 6) ≤ 0 then (if (G 0 5) = (8 : Int32) then (if cpOK (67 : Int32) (0 : Int32) (469 : Int32) 536 536 then ((some (upR G 4 (va_cpy (G 4) (G 4) (67 : Int32).toNatClampNeg (0 : Int32).toNatClampNeg (469 : Int32).toNatClampNeg))).bind fun G7 => ((some (upR G7 0 (upd (G7 0) 5 ((G7 0 5) - (1 : Int32))))).bind fun G8 => f_X10_ends_60 G8 a1)) else none) else f_X10_ends_60 G a1) else (if cpOK (0 : Int32) (0 : Int32) (67 : Int32) 67 67 then ((some (upR G 1 (va_cpy (G 2) (G 1) (0 : Int32).toNatClampNeg (0 : Int32).toNatClampNeg (67 : Int32).toNatClampNeg))).bind fun G10 => some ((0 : Int32), G10)) else none))
set_option maxRecDepth 100000 in
set_option maxHeartbeats 4000000 in
theorem q_X10_ends (l : Launch) (D : va_G) (Y : Nat → ClassId) (ad : Nat → Nat) (hI : Inj 8 ad) (G : GT) (a1 : Int32) (r : Int32) (G' : GT) (h : f_X10_ends G a1 = some (r, G')) : WR l yX10_ends cX10_ends 2 (some .int) 1 D Y 8 ad (kM Y ad) G [.ref (ad 0), .int a1] r G' := by
  refine W_of (ret := (some .int)) (by decide) (Nat.le_of_ble_eq_true rfl) (lv := [(0, .ref (ad 0)), (1, .int a1)]) rfl ?_
  intro p e s m below meth c ls F hP hS hr hk hl
  have F : Fx p c cX10_ends 2 s m _ RX10 D Y := F
  have hx := F.1.1
  have hb := F.1.2.1
  have key60 : ∀ (G : GT) (H : Heap) (locs : List Loc), va_P D vwCl (wsM Y ad G) H → va_S (AW 8 ad) s.heap H locs → ∀ ls : Array Slot, lv_has ls 2 [(0, .ref (ad 0)), (1, .int a1)] → f_X10_ends_60 G a1   = some (r, G') → WW p l e 1 s m ([.ref (ad 0), .int a1] : List Value).toArray below meth c H locs (WQi (some .int) r D (wsM Y ad G') (AW 8 ad)) (AW 8 ad) (F0 m 60 ls []) := by
    intro  G H locs hP hS ls hl h
    refine lv_aload_n hx hb dX10_ends_60 rfl (lv_at hl 0 rfl) ?_
    refine rM_0_1 F hP dX10_ends_61 ?_
    refine lv_iconst (v := 0) hx hb dX10_ends_64 (by decide) ?_
    refine lv_aload_n hx hb dX10_ends_65 rfl (lv_at hl 0 rfl) ?_
    refine rM_0_4 F hP dX10_ends_66 ?_
    refine lv_bipush (v := 67) hx hb dX10_ends_69 (by decide) ?_
    refine lv_aload_n hx hb dX10_ends_71 rfl (lv_at hl 0 rfl) ?_
    refine rM_0_5 F hP dX10_ends_72 ?_
    refine lv_imul hx hb dX10_ends_75 ?_
    refine lv_bipush (v := 67) hx hb dX10_ends_76 (by decide) ?_
    obtain ⟨b1, h⟩ := ckS h
    obtain ⟨G2, e2, h⟩ := bsome h
    refine w_copy F hl hI hP hS (fun i h => ⟨i, h, rfl⟩) mw_1372 2 4 (by decide) (fun _ => rfl) (fun _ => rfl) b1 ⟨Nat.le_of_ble_eq_true rfl, Nat.le_of_ble_eq_true rfl⟩ dX10_ends_78 (fun H locs hP hS => ?_)
    have hP := cvP e2 hP
    refine lv_aload_n hx hb dX10_ends_81 rfl (lv_at hl 0 rfl) ?_
    refine lv_dup hx hb dX10_ends_82 rfl ?_
    refine rM_0_5 F hP dX10_ends_83 ?_
    refine lv_iconst (v := 1) hx hb dX10_ends_86 (by decide) ?_
    refine lv_iadd hx hb dX10_ends_87 ?_
    obtain ⟨G3, e3, h⟩ := bsome h
    refine pM_0_5 F hI hP hS dX10_ends_88 (fun H locs hP hS => ?_)
    have hP := cvP e3 hP
    refine lv_iload_n hx hb dX10_ends_91 rfl (lv_at hl 1 rfl) ?_
    exact wr_end F hP hS hr hk rfl h dX10_ends_92
  refine lv_aload_n hx hb dX10_ends_0 rfl (lv_at hl 0 rfl) ?_
  refine rM_0_6 F hP dX10_ends_1 ?_
  refine lv_if_le (tgt := 24) hx hb dX10_ends_4 (by decide) (fun c4 => ?_) (fun c4 => ?_)
  · have h := ifT h c4
    refine lv_aload_n hx hb dX10_ends_24 rfl (lv_at hl 0 rfl) ?_
    refine rM_0_5 F hP dX10_ends_25 ?_
    refine lv_bipush (v := 8) hx hb dX10_ends_28 (by decide) ?_
    refine lv_icmp_ne (tgt := 60) hx hb dX10_ends_30 (by decide) (fun c5 => ?_) (fun c5 => ?_)
    · have h := ifF h c5
      exact key60 G _ _ hP hS ls (lv_sub hl [0, 1] rfl) h
    · have h := ifT h c5
      refine lv_aload_n hx hb dX10_ends_33 rfl (lv_at hl 0 rfl) ?_
      refine rM_0_4 F hP dX10_ends_34 ?_
      refine lv_bipush (v := 67) hx hb dX10_ends_37 (by decide) ?_
      refine lv_aload_n hx hb dX10_ends_39 rfl (lv_at hl 0 rfl) ?_
      refine rM_0_4 F hP dX10_ends_40 ?_
      refine lv_iconst (v := 0) hx hb dX10_ends_43 (by decide) ?_
      refine lv_sipush (v := 469) hx hb dX10_ends_44 (by decide) ?_
      obtain ⟨b6, h⟩ := ckS h
      obtain ⟨G7, e7, h⟩ := bsome h
      refine w_copy F hl hI hP hS (fun i h => ⟨i, h, rfl⟩) mw_1372 4 4 (by decide) (fun _ => rfl) (fun _ => rfl) b6 ⟨Nat.le_of_ble_eq_true rfl, Nat.le_of_ble_eq_true rfl⟩ dX10_ends_47 (fun H locs hP hS => ?_)
      have hP := cvP e7 hP
      refine lv_aload_n hx hb dX10_ends_50 rfl (lv_at hl 0 rfl) ?_
      refine lv_dup hx hb dX10_ends_51 rfl ?_
      refine rM_0_5 F hP dX10_ends_52 ?_
      refine lv_iconst (v := 1) hx hb dX10_ends_55 (by decide) ?_
      refine lv_isub hx hb dX10_ends_56 ?_
      obtain ⟨G8, e8, h⟩ := bsome h
      refine pM_0_5 F hI hP hS dX10_ends_57 (fun H locs hP hS => ?_)
      have hP := cvP e8 hP
      exact key60 G8 _ _ hP hS ls (lv_sub hl [0, 1] rfl) h
  · have h := ifF h c4
    refine lv_aload_n hx hb dX10_ends_7 rfl (lv_at hl 0 rfl) ?_
    refine rM_0_1 F hP dX10_ends_8 ?_
    refine lv_iconst (v := 0) hx hb dX10_ends_11 (by decide) ?_
    refine lv_aload_n hx hb dX10_ends_12 rfl (lv_at hl 0 rfl) ?_
    refine rM_0_0 F hP dX10_ends_13 ?_
    refine lv_iconst (v := 0) hx hb dX10_ends_16 (by decide) ?_
    refine lv_bipush (v := 67) hx hb dX10_ends_17 (by decide) ?_
    obtain ⟨b9, h⟩ := ckS h
    obtain ⟨G10, e10, h⟩ := bsome h
    refine w_copy F hl hI hP hS (fun i h => ⟨i, h, rfl⟩) mw_1372 2 1 (by decide) (fun _ => rfl) (fun _ => rfl) b9 ⟨Nat.le_of_ble_eq_true rfl, Nat.le_of_ble_eq_true rfl⟩ dX10_ends_19 (fun H locs hP hS => ?_)
    have hP := cvP e10 hP
    refine lv_iconst (v := 0) hx hb dX10_ends_22 (by decide) ?_
    exact wr_end F hP hS hr hk rfl h dX10_ends_23
def f_X10_fails (G : GT) (a1 : Int32) : Option (Int32 × GT) := ((some (upR G 0 (upd (G 0) 6 a1))).bind fun G1 => some ((0 : Int32), G1))
set_option maxRecDepth 100000 in
set_option maxHeartbeats 4000000 in
theorem q_X10_fails (l : Launch) (D : va_G) (Y : Nat → ClassId) (ad : Nat → Nat) (hI : Inj 8 ad) (G : GT) (a1 : Int32) (r : Int32) (G' : GT) (h : f_X10_fails G a1 = some (r, G')) : WR l yX10_fails cX10_fails 2 (some .int) 0 D Y 8 ad (kM Y ad) G [.ref (ad 0), .int a1] r G' := by
  refine W_of (ret := (some .int)) (by decide) (Nat.le_of_ble_eq_true rfl) (lv := [(0, .ref (ad 0)), (1, .int a1)]) rfl ?_
  intro p e s m below meth c ls F hP hS hr hk hl
  have F : Fx p c cX10_fails 2 s m _ RX10 D Y := F
  have hx := F.1.1
  have hb := F.1.2.1
  refine lv_aload_n hx hb dX10_fails_0 rfl (lv_at hl 0 rfl) ?_
  refine lv_iload_n hx hb dX10_fails_1 rfl (lv_at hl 1 rfl) ?_
  obtain ⟨G1, e1, h⟩ := bsome h
  refine pM_0_6 F hI hP hS dX10_fails_2 (fun H locs hP hS => ?_)
  have hP := cvP e1 hP
  refine lv_iconst (v := 0) hx hb dX10_fails_5 (by decide) ?_
  exact wr_end F hP hS hr hk rfl h dX10_fails_6
def f_X10_refuse (G : GT) (a1 : Int32) (a2 : Int32) (a3 : Int32) : Option (Int32 × GT) := ((some (upR G 0 (upd (G 0) 6 a1))).bind fun G1 => ((some (upR G1 0 (upd (G1 0) 9 (1 : Int32)))).bind fun G2 => ((some (upR G2 0 (upd (G2 0) 7 a2))).bind fun G3 => ((some (upR G3 0 (upd (G3 0) 8 a3))).bind fun G4 => some ((0 : Int32), G4)))))
set_option maxRecDepth 100000 in
set_option maxHeartbeats 4000000 in
theorem q_X10_refuse (l : Launch) (D : va_G) (Y : Nat → ClassId) (ad : Nat → Nat) (hI : Inj 8 ad) (G : GT) (a1 : Int32) (a2 : Int32) (a3 : Int32) (r : Int32) (G' : GT) (h : f_X10_refuse G a1 a2 a3 = some (r, G')) : WR l yX10_refuse cX10_refuse 4 (some .int) 0 D Y 8 ad (kM Y ad) G [.ref (ad 0), .int a1, .int a2, .int a3] r G' := by
  refine W_of (ret := (some .int)) (by decide) (Nat.le_of_ble_eq_true rfl) (lv := [(0, .ref (ad 0)), (1, .int a1), (2, .int a2), (3, .int a3)]) rfl ?_
  intro p e s m below meth c ls F hP hS hr hk hl
  have F : Fx p c cX10_refuse 4 s m _ RX10 D Y := F
  have hx := F.1.1
  have hb := F.1.2.1
  refine lv_aload_n hx hb dX10_refuse_0 rfl (lv_at hl 0 rfl) ?_
  refine lv_iload_n hx hb dX10_refuse_1 rfl (lv_at hl 1 rfl) ?_
  obtain ⟨G1, e1, h⟩ := bsome h
  refine pM_0_6 F hI hP hS dX10_refuse_2 (fun H locs hP hS => ?_)
  have hP := cvP e1 hP
  refine lv_aload_n hx hb dX10_refuse_5 rfl (lv_at hl 0 rfl) ?_
  refine lv_iconst (v := 1) hx hb dX10_refuse_6 (by decide) ?_
  obtain ⟨G2, e2, h⟩ := bsome h
  refine pM_0_9 rfl rfl F hI hP hS dX10_refuse_7 (fun H locs hP hS => ?_)
  have hP := cvP e2 hP
  refine lv_aload_n hx hb dX10_refuse_10 rfl (lv_at hl 0 rfl) ?_
  refine lv_iload_n hx hb dX10_refuse_11 rfl (lv_at hl 2 rfl) ?_
  obtain ⟨G3, e3, h⟩ := bsome h
  refine pM_0_7 F hI hP hS dX10_refuse_12 (fun H locs hP hS => ?_)
  have hP := cvP e3 hP
  refine lv_aload_n hx hb dX10_refuse_15 rfl (lv_at hl 0 rfl) ?_
  refine lv_iload_n hx hb dX10_refuse_16 rfl (lv_at hl 3 rfl) ?_
  obtain ⟨G4, e4, h⟩ := bsome h
  refine pM_0_8 F hI hP hS dX10_refuse_17 (fun H locs hP hS => ?_)
  have hP := cvP e4 hP
  refine lv_iconst (v := 0) hx hb dX10_refuse_20 (by decide) ?_
  exact wr_end F hP hS hr hk rfl h dX10_refuse_21
def f_X10_refusal_13 (G : GT) (a1 : Int32) (s13_0 : Int32) : Option (Int32 × GT) := ((some (upR G 0 (upd (G 0) 6 s13_0))).bind fun G1 => (if (G1 0 6) ≤ 0 then (if a1 = 0 then some ((G1 0 7), G1) else some ((G1 0 8), G1)) else some ((0 : Int32), G1)))
def f_X10_refusal (G : GT) (a1 : Int32) : Option (Int32 × GT) := (if (G 0 7) = 0 then f_X10_refusal_13 G a1 (1 : Int32) else f_X10_refusal_13 G a1 (0 : Int32))
set_option maxRecDepth 100000 in
set_option maxHeartbeats 4000000 in
theorem q_X10_refusal (l : Launch) (D : va_G) (Y : Nat → ClassId) (ad : Nat → Nat) (hI : Inj 8 ad) (G : GT) (a1 : Int32) (r : Int32) (G' : GT) (h : f_X10_refusal G a1 = some (r, G')) : WR l yX10_refusal cX10_refusal 2 (some .int) 0 D Y 8 ad (kM Y ad) G [.ref (ad 0), .int a1] r G' := by
  refine W_of (ret := (some .int)) (by decide) (Nat.le_of_ble_eq_true rfl) (lv := [(0, .ref (ad 0)), (1, .int a1)]) rfl ?_
  intro p e s m below meth c ls F hP hS hr hk hl
  have F : Fx p c cX10_refusal 2 s m _ RX10 D Y := F
  have hx := F.1.1
  have hb := F.1.2.1
  have key13 : ∀ (s13_0 : Int32) (G : GT) (H : Heap) (locs : List Loc), va_P D vwCl (wsM Y ad G) H → va_S (AW 8 ad) s.heap H locs → ∀ ls : Array Slot, lv_has ls 2 [(0, .ref (ad 0)), (1, .int a1)] → f_X10_refusal_13 G a1  s13_0 = some (r, G') → WW p l e 0 s m ([.ref (ad 0), .int a1] : List Value).toArray below meth c H locs (WQi (some .int) r D (wsM Y ad G') (AW 8 ad)) (AW 8 ad) (F0 m 13 ls [.int s13_0, .ref (ad 0)]) := by
    intro s13_0 G H locs hP hS ls hl h
    obtain ⟨G1, e1, h⟩ := bsome h
    refine pM_0_6 F hI hP hS dX10_refusal_13 (fun H locs hP hS => ?_)
    have hP := cvP e1 hP
    refine lv_aload_n hx hb dX10_refusal_16 rfl (lv_at hl 0 rfl) ?_
    refine rM_0_6 F hP dX10_refusal_17 ?_
    refine lv_if_le (tgt := 27) hx hb dX10_refusal_20 (by decide) (fun c2 => ?_) (fun c2 => ?_)
    · have h := ifT h c2
      refine lv_iload_n hx hb dX10_refusal_27 rfl (lv_at hl 1 rfl) ?_
      refine lv_if_eq (tgt := 38) hx hb dX10_refusal_28 (by decide) (fun c3 => ?_) (fun c3 => ?_)
      · have h := ifT h c3
        refine lv_aload_n hx hb dX10_refusal_38 rfl (lv_at hl 0 rfl) ?_
        refine rM_0_7 F hP dX10_refusal_39 ?_
        exact wr_end F hP hS hr hk rfl h dX10_refusal_42
      · have h := ifF h c3
        refine lv_aload_n hx hb dX10_refusal_31 rfl (lv_at hl 0 rfl) ?_
        refine rM_0_8 F hP dX10_refusal_32 ?_
        refine lv_goto (tgt := 42) hx hb dX10_refusal_35 (by decide) ?_
        exact wr_end F hP hS hr hk rfl h dX10_refusal_42
    · have h := ifF h c2
      refine lv_iconst (v := 0) hx hb dX10_refusal_23 (by decide) ?_
      refine lv_goto (tgt := 42) hx hb dX10_refusal_24 (by decide) ?_
      exact wr_end F hP hS hr hk rfl h dX10_refusal_42
  refine lv_aload_n hx hb dX10_refusal_0 rfl (lv_at hl 0 rfl) ?_
  refine lv_aload_n hx hb dX10_refusal_1 rfl (lv_at hl 0 rfl) ?_
  refine rM_0_7 F hP dX10_refusal_2 ?_
  refine lv_if_ne (tgt := 12) hx hb dX10_refusal_5 (by decide) (fun c4 => ?_) (fun c4 => ?_)
  · have h := ifF h c4
    refine lv_iconst (v := 0) hx hb dX10_refusal_12 (by decide) ?_
    exact key13 (0 : Int32) G _ _ hP hS ls (lv_sub hl [0, 1] rfl) h
  · have h := ifT h c4
    refine lv_iconst (v := 1) hx hb dX10_refusal_8 (by decide) ?_
    refine lv_goto (tgt := 13) hx hb dX10_refusal_9 (by decide) ?_
    exact key13 (1 : Int32) G _ _ hP hS ls (lv_sub hl [0, 1] rfl) h
def f_X10_thrown (G : Nat → Nat → Int32) : Option Int32 := some (G 0 6)
set_option maxRecDepth 100000 in
set_option maxHeartbeats 4000000 in
theorem q_X10_thrown (l : Launch) (D : va_G) (Y : Nat → ClassId) (ad : Nat → Nat) (G : Nat → Nat → Int32) (r : Int32) (h : f_X10_thrown G  = some r) : RD l yX10_thrown cX10_thrown 1 (some .int) 0 D Y (wsM Y ad G) [.ref (ad 0)] r := by
  refine RD_of (by decide) (Nat.le_of_ble_eq_true rfl) (lv := [(0, .ref (ad 0))]) rfl ?_
  intro p e s m below meth c ls F hP hr hk hl
  have F : Fx p c cX10_thrown 1 s m _ RX10 D Y := F
  have hx := F.1.1
  have hb := F.1.2.1
  refine lv_aload_n hx hb dX10_thrown_0 rfl (lv_at hl 0 rfl) ?_
  refine rM_0_6 F hP dX10_thrown_1 ?_
  exact rd_end F hr hk rfl h dX10_thrown_4
def f_X10_doBar (G : GT) (a1 : Int32) : Option (Int32 × GT) := ((f_X10_in G a1 (2 : Int32) (8 : Int32)).bind fun r1 => (if r1 = 0 then (bind2 (f_X10_fails G (1 : Int32)) fun r8 G8 => some (r8, G8)) else (if (G 1 0) = (6 : Int32) then (bind2 (f_X10_refuse G (2 : Int32) (1 : Int32) (6 : Int32)) fun r7 G7 => some (r7, G7)) else (if inb ((5 : Int32) + (G 1 0)) 67 then ((some (upR G 1 (upd (G 1) ((5 : Int32) + (G 1 0)).toNatClampNeg a1))).bind fun G5 => ((some (upR G5 1 (upd (G5 1) (0 : Int32).toNatClampNeg ((G5 1 0) + (1 : Int32))))).bind fun G6 => some ((G 1 0), G6))) else none))))
set_option maxRecDepth 100000 in
set_option maxHeartbeats 4000000 in
theorem q_X10_doBar (l : Launch) (D : va_G) (Y : Nat → ClassId) (ad : Nat → Nat) (hI : Inj 8 ad) (G : GT) (a1 : Int32) (r : Int32) (G' : GT) (h : f_X10_doBar G a1 = some (r, G')) : WR l yX10_doBar cX10_doBar 3 (some .int) 1 D Y 8 ad (kM Y ad) G [.ref (ad 0), .int a1] r G' := by
  refine W_of (ret := (some .int)) (by decide) (Nat.le_of_ble_eq_true rfl) (lv := [(0, .ref (ad 0)), (1, .int a1)]) rfl ?_
  intro p e s m below meth c ls F hP hS hr hk hl
  have F : Fx p c cX10_doBar 3 s m _ RX10 D Y := F
  have hx := F.1.1
  have hb := F.1.2.1
  refine lv_aload_n hx hb dX10_doBar_0 rfl (lv_at hl 0 rfl) ?_
  refine rM_0_0 F hP dX10_doBar_1 ?_
  refine lv_iconst (v := 0) hx hb dX10_doBar_4 (by decide) ?_
  refine alk F hP 1 (wsW_get 1 (by decide)) (k := 0) (by decide) (inbV (by decide) (by decide)) dX10_doBar_5 ?_
  refine lv_istore_n (lv' := [(2, .int ((G 1 0))), (0, .ref (ad 0)), (1, .int a1)]) hx hb dX10_doBar_6 rfl hl (by decide) rfl (fun ls hl => ?_)
  refine lv_iload_n hx hb dX10_doBar_7 rfl (lv_at hl 2 rfl) ?_
  refine lv_iconst (v := 2) hx hb dX10_doBar_8 (by decide) ?_
  refine lv_bipush (v := 8) hx hb dX10_doBar_9 (by decide) ?_
  obtain ⟨r1, e1, h⟩ := bsome h
  refine rd_S F hP k_X10_in mw_1379 (q_X10_in l D Y ad G a1 (2 : Int32) (8 : Int32) r1 e1) rfl hl.1 ⟨Nat.le_of_ble_eq_true rfl, Nat.le_of_ble_eq_true rfl⟩ (rest := []) rfl (Nat.le_of_ble_eq_true rfl) ⟨Nat.le_of_ble_eq_true rfl, Nat.le_of_ble_eq_true rfl⟩ dX10_doBar_11 (fun o1 => ?_)
  refine lv_if_ne (tgt := 23) hx hb dX10_doBar_14 (by decide) (fun c2 => ?_) (fun c2 => ?_)
  · have h := ifF h c2
    refine lv_iload_n hx hb dX10_doBar_23 rfl (lv_at hl 0 rfl) ?_
    refine lv_bipush (v := 6) hx hb dX10_doBar_24 (by decide) ?_
    refine lv_icmp_ne (tgt := 38) hx hb dX10_doBar_26 (by decide) (fun c3 => ?_) (fun c3 => ?_)
    · have h := ifF h c3
      refine lv_aload_n hx hb dX10_doBar_38 rfl (lv_at hl 1 rfl) ?_
      refine rM_0_0 F hP dX10_doBar_39 ?_
      refine lv_iconst (v := 5) hx hb dX10_doBar_42 (by decide) ?_
      refine lv_iload_n hx hb dX10_doBar_43 rfl (lv_at hl 0 rfl) ?_
      refine lv_iadd hx hb dX10_doBar_44 ?_
      refine lv_iload_n hx hb dX10_doBar_45 rfl (lv_at hl 2 rfl) ?_
      obtain ⟨b4, h⟩ := ckS h
      obtain ⟨G5, e5, h⟩ := bsome h
      refine ast F hI hP hS (fun i h => ⟨i, h, rfl⟩) 1 (by decide) (fun _ => rfl) (inbV b4 (by decide)) dX10_doBar_46 (fun H locs hP hS => ?_)
      have hP := cvP e5 hP
      refine lv_aload_n hx hb dX10_doBar_47 rfl (lv_at hl 1 rfl) ?_
      refine rM_0_0 F hP dX10_doBar_48 ?_
      refine lv_iconst (v := 0) hx hb dX10_doBar_51 (by decide) ?_
      refine lv_dup2_11 hx hb dX10_doBar_52 rfl rfl ?_
      refine alk F hP 1 (wsW_get 1 (by decide)) (k := 0) (by decide) (inbV (by decide) (by decide)) dX10_doBar_53 ?_
      refine lv_iconst (v := 1) hx hb dX10_doBar_54 (by decide) ?_
      refine lv_iadd hx hb dX10_doBar_55 ?_
      obtain ⟨G6, e6, h⟩ := bsome h
      refine ast F hI hP hS (fun i h => ⟨i, h, rfl⟩) 1 (by decide) (fun _ => rfl) (inbV (by decide) (by decide)) dX10_doBar_56 (fun H locs hP hS => ?_)
      have hP := cvP e6 hP
      refine lv_iload_n hx hb dX10_doBar_57 rfl (lv_at hl 0 rfl) ?_
      exact wr_end F hP hS hr hk rfl h dX10_doBar_58
    · have h := ifT h c3
      refine lv_aload_n hx hb dX10_doBar_29 rfl (lv_at hl 1 rfl) ?_
      refine lv_iconst (v := 2) hx hb dX10_doBar_30 (by decide) ?_
      refine lv_iconst (v := 1) hx hb dX10_doBar_31 (by decide) ?_
      refine lv_bipush (v := 6) hx hb dX10_doBar_32 (by decide) ?_
      obtain ⟨r7, G7, e7, h⟩ := bsome2 h
      refine wr_V F hP hS k_X10_refuse mw_1386 0 11 rfl (wsW_get 0 (by decide)) (q_X10_refuse l D Y ad hI G (2 : Int32) (1 : Int32) (6 : Int32) r7 G7 e7) rfl hl.1 ⟨Nat.le_of_ble_eq_true rfl, Nat.le_of_ble_eq_true rfl⟩ (rest := []) rfl (Nat.le_of_ble_eq_true rfl) ⟨Nat.le_of_ble_eq_true rfl, Nat.le_of_ble_eq_true rfl⟩ dX10_doBar_34 (fun H locs o7 hP hS => ?_)
      exact wr_end F hP hS hr hk rfl h dX10_doBar_37
  · have h := ifT h c2
    refine lv_aload_n hx hb dX10_doBar_17 rfl (lv_at hl 1 rfl) ?_
    refine lv_iconst (v := 1) hx hb dX10_doBar_18 (by decide) ?_
    obtain ⟨r8, G8, e8, h⟩ := bsome2 h
    refine wr_V F hP hS k_X10_fails mw_1382 0 11 rfl (wsW_get 0 (by decide)) (q_X10_fails l D Y ad hI G (1 : Int32) r8 G8 e8) rfl hl.1 ⟨Nat.le_of_ble_eq_true rfl, Nat.le_of_ble_eq_true rfl⟩ (rest := []) rfl (Nat.le_of_ble_eq_true rfl) ⟨Nat.le_of_ble_eq_true rfl, Nat.le_of_ble_eq_true rfl⟩ dX10_doBar_19 (fun H locs o8 hP hS => ?_)
    exact wr_end F hP hS hr hk rfl h dX10_doBar_22
def f_X10_bar (G : GT) (a1 : Int32) : Option (Int32 × GT) := ((f_X10_keep G ).bind fun G1 => (bind2 (f_X10_doBar G1 a1) fun r2 G2 => (bind2 (f_X10_ends G2 r2) fun r3 G3 => some (r3, G3))))
set_option maxRecDepth 100000 in
set_option maxHeartbeats 4000000 in
theorem q_X10_bar (l : Launch) (D : va_G) (Y : Nat → ClassId) (ad : Nat → Nat) (hI : Inj 8 ad) (G : GT) (a1 : Int32) (r : Int32) (G' : GT) (h : f_X10_bar G a1 = some (r, G')) : WR l yX10_bar cX10_bar 2 (some .int) 2 D Y 8 ad (kM Y ad) G [.ref (ad 0), .int a1] r G' := by
  refine W_of (ret := (some .int)) (by decide) (Nat.le_of_ble_eq_true rfl) (lv := [(0, .ref (ad 0)), (1, .int a1)]) rfl ?_
  intro p e s m below meth c ls F hP hS hr hk hl
  have F : Fx p c cX10_bar 2 s m _ RX10 D Y := F
  have hx := F.1.1
  have hb := F.1.2.1
  refine lv_aload_n hx hb dX10_bar_0 rfl (lv_at hl 0 rfl) ?_
  obtain ⟨G1, e1, h⟩ := bsome h
  refine wv_V F hP hS k_X10_keep mw_1368 0 11 rfl (wsW_get 0 (by decide)) (q_X10_keep l D Y ad hI G  G1 e1) rfl hl.1 ⟨Nat.le_of_ble_eq_true rfl, Nat.le_of_ble_eq_true rfl⟩ (rest := []) rfl (Nat.le_of_ble_eq_true rfl) ⟨Nat.le_of_ble_eq_true rfl, Nat.le_of_ble_eq_true rfl⟩ dX10_bar_1 (fun H locs hP hS => ?_)
  refine lv_aload_n hx hb dX10_bar_4 rfl (lv_at hl 0 rfl) ?_
  refine lv_aload_n hx hb dX10_bar_5 rfl (lv_at hl 0 rfl) ?_
  refine lv_iload_n hx hb dX10_bar_6 rfl (lv_at hl 1 rfl) ?_
  obtain ⟨r2, G2, e2, h⟩ := bsome2 h
  refine wr_V F hP hS k_X10_doBar mw_1375 0 11 rfl (wsW_get 0 (by decide)) (q_X10_doBar l D Y ad hI G1 a1 r2 G2 e2) rfl hl.1 ⟨Nat.le_of_ble_eq_true rfl, Nat.le_of_ble_eq_true rfl⟩ (rest := [.ref (ad 0)]) rfl (Nat.le_of_ble_eq_true rfl) ⟨Nat.le_of_ble_eq_true rfl, Nat.le_of_ble_eq_true rfl⟩ dX10_bar_7 (fun H locs o2 hP hS => ?_)
  obtain ⟨r3, G3, e3, h⟩ := bsome2 h
  refine wr_V F hP hS k_X10_ends mw_1390 0 11 rfl (wsW_get 0 (by decide)) (q_X10_ends l D Y ad hI G2 r2 r3 G3 e3) rfl hl.1 ⟨Nat.le_of_ble_eq_true rfl, Nat.le_of_ble_eq_true rfl⟩ (rest := []) rfl (Nat.le_of_ble_eq_true rfl) ⟨Nat.le_of_ble_eq_true rfl, Nat.le_of_ble_eq_true rfl⟩ dX10_bar_10 (fun H locs o3 hP hS => ?_)
  exact wr_end F hP hS hr hk rfl h dX10_bar_13
def f_X10_doTin_43 (G : GT) (a1 : Int32) (a2 : Int32) (a3 : Int32) (x4 : Int32) (s43_0 : Int32) (s43_1 : Int32) (s43_2 : Int32) : Option (Int32 × GT) := ((f_X10_in G s43_2 s43_1 s43_0).bind fun r1 => (if r1 = 0 then (bind2 (f_X10_fails G (2 : Int32)) fun r8 G8 => some (r8, G8)) else (if inb x4 67 then (if (G 1 x4.toNatClampNeg) = a2 then (bind2 (f_X10_refuse G (3 : Int32) (2 : Int32) a2) fun r7 G7 => some (r7, G7)) else (if inb x4 67 then ((some (upR G 1 (upd (G 1) x4.toNatClampNeg a2))).bind fun G6 => some ((G 1 x4.toNatClampNeg), G6)) else none)) else none)))
def f_X10_doTin_15 (G : GT) (a1 : Int32) (a2 : Int32) (a3 : Int32) (s15_0 : Int32) (s15_1 : Int32) : Option (Int32 × GT) := ((f_X10_isTin G a1).bind fun r9 => (if r9 = 0 then (bind2 (f_X10_fails G (1 : Int32)) fun r12 G12 => some (r12, G12)) else (if a3 = 0 then f_X10_doTin_43 G a1 a2 a3 (s15_1 + s15_0) (3 : Int32) (0 : Int32) a2 else f_X10_doTin_43 G a1 a2 a3 (s15_1 + s15_0) (11 : Int32) (0 : Int32) a2)))
def f_X10_doTin (G : GT) (a1 : Int32) (a2 : Int32) (a3 : Int32) : Option (Int32 × GT) := (if a3 = 0 then f_X10_doTin_15 G a1 a2 a3 (1 : Int32) ((11 : Int32) + ((2 : Int32) * a1)) else f_X10_doTin_15 G a1 a2 a3 (0 : Int32) ((11 : Int32) + ((2 : Int32) * a1)))
set_option maxRecDepth 100000 in
set_option maxHeartbeats 4000000 in
theorem q_X10_doTin (l : Launch) (D : va_G) (Y : Nat → ClassId) (ad : Nat → Nat) (hI : Inj 8 ad) (G : GT) (a1 : Int32) (a2 : Int32) (a3 : Int32) (r : Int32) (G' : GT) (h : f_X10_doTin G a1 a2 a3 = some (r, G')) : WR l yX10_doTin cX10_doTin 6 (some .int) 2 D Y 8 ad (kM Y ad) G [.ref (ad 0), .int a1, .int a2, .int a3] r G' := by
  refine W_of (ret := (some .int)) (by decide) (Nat.le_of_ble_eq_true rfl) (lv := [(0, .ref (ad 0)), (1, .int a1), (2, .int a2), (3, .int a3)]) rfl ?_
  intro p e s m below meth c ls F hP hS hr hk hl
  have F : Fx p c cX10_doTin 6 s m _ RX10 D Y := F
  have hx := F.1.1
  have hb := F.1.2.1
  have key43 : ∀ (x4 : Int32) (s43_0 : Int32) (s43_1 : Int32) (s43_2 : Int32) (G : GT) (H : Heap) (locs : List Loc), va_P D vwCl (wsM Y ad G) H → va_S (AW 8 ad) s.heap H locs → ∀ ls : Array Slot, lv_has ls 6 [(0, .ref (ad 0)), (2, .int a2), (4, .int x4)] → f_X10_doTin_43 G a1 a2 a3  x4 s43_0 s43_1 s43_2 = some (r, G') → WW p l e 2 s m ([.ref (ad 0), .int a1, .int a2, .int a3] : List Value).toArray below meth c H locs (WQi (some .int) r D (wsM Y ad G') (AW 8 ad)) (AW 8 ad) (F0 m 43 ls [.int s43_0, .int s43_1, .int s43_2]) := by
    intro x4 s43_0 s43_1 s43_2 G H locs hP hS ls hl h
    obtain ⟨r1, e1, h⟩ := bsome h
    refine rd_S F hP k_X10_in mw_1379 (q_X10_in l D Y ad G s43_2 s43_1 s43_0 r1 e1) rfl hl.1 ⟨Nat.le_of_ble_eq_true rfl, Nat.le_of_ble_eq_true rfl⟩ (rest := []) rfl (Nat.le_of_ble_eq_true rfl) ⟨Nat.le_of_ble_eq_true rfl, Nat.le_of_ble_eq_true rfl⟩ dX10_doTin_43 (fun o1 => ?_)
    refine lv_if_ne (tgt := 55) hx hb dX10_doTin_46 (by decide) (fun c2 => ?_) (fun c2 => ?_)
    · have h := ifF h c2
      refine lv_aload_n hx hb dX10_doTin_55 rfl (lv_at hl 0 rfl) ?_
      refine rM_0_0 F hP dX10_doTin_56 ?_
      refine lv_iload hx hb dX10_doTin_59 (lv_at hl 2 rfl) ?_
      obtain ⟨b3, h⟩ := ckS h
      refine al F hP 1 (wsW_get 1 (by decide)) (inbV b3 (by decide)) dX10_doTin_61 ?_
      refine lv_istore (lv' := [(5, .int ((G 1 x4.toNatClampNeg))), (0, .ref (ad 0)), (2, .int a2), (4, .int x4)]) hx hb dX10_doTin_62 hl (by decide) rfl (fun ls hl => ?_)
      refine lv_iload hx hb dX10_doTin_64 (lv_at hl 0 rfl) ?_
      refine lv_iload_n hx hb dX10_doTin_66 rfl (lv_at hl 2 rfl) ?_
      refine lv_icmp_ne (tgt := 78) hx hb dX10_doTin_67 (by decide) (fun c4 => ?_) (fun c4 => ?_)
      · have h := ifF h c4
        refine lv_aload_n hx hb dX10_doTin_78 rfl (lv_at hl 1 rfl) ?_
        refine rM_0_0 F hP dX10_doTin_79 ?_
        refine lv_iload hx hb dX10_doTin_82 (lv_at hl 3 rfl) ?_
        refine lv_iload_n hx hb dX10_doTin_84 rfl (lv_at hl 2 rfl) ?_
        obtain ⟨b5, h⟩ := ckS h
        obtain ⟨G6, e6, h⟩ := bsome h
        refine ast F hI hP hS (fun i h => ⟨i, h, rfl⟩) 1 (by decide) (fun _ => rfl) (inbV b5 (by decide)) dX10_doTin_85 (fun H locs hP hS => ?_)
        have hP := cvP e6 hP
        refine lv_iload hx hb dX10_doTin_86 (lv_at hl 0 rfl) ?_
        exact wr_end F hP hS hr hk rfl h dX10_doTin_88
      · have h := ifT h c4
        refine lv_aload_n hx hb dX10_doTin_70 rfl (lv_at hl 1 rfl) ?_
        refine lv_iconst (v := 3) hx hb dX10_doTin_71 (by decide) ?_
        refine lv_iconst (v := 2) hx hb dX10_doTin_72 (by decide) ?_
        refine lv_iload_n hx hb dX10_doTin_73 rfl (lv_at hl 2 rfl) ?_
        obtain ⟨r7, G7, e7, h⟩ := bsome2 h
        refine wr_V F hP hS k_X10_refuse mw_1386 0 11 rfl (wsW_get 0 (by decide)) (q_X10_refuse l D Y ad hI G (3 : Int32) (2 : Int32) a2 r7 G7 e7) rfl hl.1 ⟨Nat.le_of_ble_eq_true rfl, Nat.le_of_ble_eq_true rfl⟩ (rest := []) rfl (Nat.le_of_ble_eq_true rfl) ⟨Nat.le_of_ble_eq_true rfl, Nat.le_of_ble_eq_true rfl⟩ dX10_doTin_74 (fun H locs o7 hP hS => ?_)
        exact wr_end F hP hS hr hk rfl h dX10_doTin_77
    · have h := ifT h c2
      refine lv_aload_n hx hb dX10_doTin_49 rfl (lv_at hl 0 rfl) ?_
      refine lv_iconst (v := 2) hx hb dX10_doTin_50 (by decide) ?_
      obtain ⟨r8, G8, e8, h⟩ := bsome2 h
      refine wr_V F hP hS k_X10_fails mw_1382 0 11 rfl (wsW_get 0 (by decide)) (q_X10_fails l D Y ad hI G (2 : Int32) r8 G8 e8) rfl hl.1 ⟨Nat.le_of_ble_eq_true rfl, Nat.le_of_ble_eq_true rfl⟩ (rest := []) rfl (Nat.le_of_ble_eq_true rfl) ⟨Nat.le_of_ble_eq_true rfl, Nat.le_of_ble_eq_true rfl⟩ dX10_doTin_51 (fun H locs o8 hP hS => ?_)
      exact wr_end F hP hS hr hk rfl h dX10_doTin_54
  have key15 : ∀ (s15_0 : Int32) (s15_1 : Int32) (G : GT) (H : Heap) (locs : List Loc), va_P D vwCl (wsM Y ad G) H → va_S (AW 8 ad) s.heap H locs → ∀ ls : Array Slot, lv_has ls 6 [(0, .ref (ad 0)), (1, .int a1), (2, .int a2), (3, .int a3)] → f_X10_doTin_15 G a1 a2 a3  s15_0 s15_1 = some (r, G') → WW p l e 2 s m ([.ref (ad 0), .int a1, .int a2, .int a3] : List Value).toArray below meth c H locs (WQi (some .int) r D (wsM Y ad G') (AW 8 ad)) (AW 8 ad) (F0 m 15 ls [.int s15_0, .int s15_1]) := by
    intro s15_0 s15_1 G H locs hP hS ls hl h
    refine lv_iadd hx hb dX10_doTin_15 ?_
    refine lv_istore (lv' := [(4, .int ((s15_1 + s15_0))), (0, .ref (ad 0)), (1, .int a1), (2, .int a2), (3, .int a3)]) hx hb dX10_doTin_16 hl (by decide) rfl (fun ls hl => ?_)
    refine lv_iload_n hx hb dX10_doTin_18 rfl (lv_at hl 2 rfl) ?_
    obtain ⟨r9, e9, h⟩ := bsome h
    refine rd_S F hP k_X10_isTin mw_1402 (q_X10_isTin l D Y ad G a1 r9 e9) rfl hl.1 ⟨Nat.le_of_ble_eq_true rfl, Nat.le_of_ble_eq_true rfl⟩ (rest := []) rfl (Nat.le_of_ble_eq_true rfl) ⟨Nat.le_of_ble_eq_true rfl, Nat.le_of_ble_eq_true rfl⟩ dX10_doTin_19 (fun o9 => ?_)
    refine lv_if_ne (tgt := 31) hx hb dX10_doTin_22 (by decide) (fun c10 => ?_) (fun c10 => ?_)
    · have h := ifF h c10
      refine lv_iload_n hx hb dX10_doTin_31 rfl (lv_at hl 3 rfl) ?_
      refine lv_iconst (v := 0) hx hb dX10_doTin_32 (by decide) ?_
      refine lv_iload_n hx hb dX10_doTin_33 rfl (lv_at hl 4 rfl) ?_
      refine lv_if_eq (tgt := 42) hx hb dX10_doTin_34 (by decide) (fun c11 => ?_) (fun c11 => ?_)
      · have h := ifT h c11
        refine lv_iconst (v := 3) hx hb dX10_doTin_42 (by decide) ?_
        exact key43 (s15_1 + s15_0) (3 : Int32) (0 : Int32) a2 G _ _ hP hS ls (lv_sub hl [1, 3, 0] rfl) h
      · have h := ifF h c11
        refine lv_bipush (v := 11) hx hb dX10_doTin_37 (by decide) ?_
        refine lv_goto (tgt := 43) hx hb dX10_doTin_39 (by decide) ?_
        exact key43 (s15_1 + s15_0) (11 : Int32) (0 : Int32) a2 G _ _ hP hS ls (lv_sub hl [1, 3, 0] rfl) h
    · have h := ifT h c10
      refine lv_aload_n hx hb dX10_doTin_25 rfl (lv_at hl 1 rfl) ?_
      refine lv_iconst (v := 1) hx hb dX10_doTin_26 (by decide) ?_
      obtain ⟨r12, G12, e12, h⟩ := bsome2 h
      refine wr_V F hP hS k_X10_fails mw_1382 0 11 rfl (wsW_get 0 (by decide)) (q_X10_fails l D Y ad hI G (1 : Int32) r12 G12 e12) rfl hl.1 ⟨Nat.le_of_ble_eq_true rfl, Nat.le_of_ble_eq_true rfl⟩ (rest := []) rfl (Nat.le_of_ble_eq_true rfl) ⟨Nat.le_of_ble_eq_true rfl, Nat.le_of_ble_eq_true rfl⟩ dX10_doTin_27 (fun H locs o12 hP hS => ?_)
      exact wr_end F hP hS hr hk rfl h dX10_doTin_30
  refine lv_bipush (v := 11) hx hb dX10_doTin_0 (by decide) ?_
  refine lv_iconst (v := 2) hx hb dX10_doTin_2 (by decide) ?_
  refine lv_iload_n hx hb dX10_doTin_3 rfl (lv_at hl 1 rfl) ?_
  refine lv_imul hx hb dX10_doTin_4 ?_
  refine lv_iadd hx hb dX10_doTin_5 ?_
  refine lv_iload_n hx hb dX10_doTin_6 rfl (lv_at hl 3 rfl) ?_
  refine lv_if_eq (tgt := 14) hx hb dX10_doTin_7 (by decide) (fun c13 => ?_) (fun c13 => ?_)
  · have h := ifT h c13
    refine lv_iconst (v := 1) hx hb dX10_doTin_14 (by decide) ?_
    exact key15 (1 : Int32) ((11 : Int32) + ((2 : Int32) * a1)) G _ _ hP hS ls (lv_sub hl [0, 1, 2, 3] rfl) h
  · have h := ifF h c13
    refine lv_iconst (v := 0) hx hb dX10_doTin_10 (by decide) ?_
    refine lv_goto (tgt := 15) hx hb dX10_doTin_11 (by decide) ?_
    exact key15 (0 : Int32) ((11 : Int32) + ((2 : Int32) * a1)) G _ _ hP hS ls (lv_sub hl [0, 1, 2, 3] rfl) h
def f_X10_key (G : GT) (a1 : Int32) (a2 : Int32) : Option (Int32 × GT) := ((f_X10_keep G ).bind fun G1 => (bind2 (f_X10_doTin G1 a1 a2 (1 : Int32)) fun r2 G2 => (bind2 (f_X10_ends G2 r2) fun r3 G3 => some (r3, G3))))
set_option maxRecDepth 100000 in
set_option maxHeartbeats 4000000 in
theorem q_X10_key (l : Launch) (D : va_G) (Y : Nat → ClassId) (ad : Nat → Nat) (hI : Inj 8 ad) (G : GT) (a1 : Int32) (a2 : Int32) (r : Int32) (G' : GT) (h : f_X10_key G a1 a2 = some (r, G')) : WR l yX10_key cX10_key 3 (some .int) 3 D Y 8 ad (kM Y ad) G [.ref (ad 0), .int a1, .int a2] r G' := by
  refine W_of (ret := (some .int)) (by decide) (Nat.le_of_ble_eq_true rfl) (lv := [(0, .ref (ad 0)), (1, .int a1), (2, .int a2)]) rfl ?_
  intro p e s m below meth c ls F hP hS hr hk hl
  have F : Fx p c cX10_key 3 s m _ RX10 D Y := F
  have hx := F.1.1
  have hb := F.1.2.1
  refine lv_aload_n hx hb dX10_key_0 rfl (lv_at hl 0 rfl) ?_
  obtain ⟨G1, e1, h⟩ := bsome h
  refine wv_V F hP hS k_X10_keep mw_1368 0 11 rfl (wsW_get 0 (by decide)) (q_X10_keep l D Y ad hI G  G1 e1) rfl hl.1 ⟨Nat.le_of_ble_eq_true rfl, Nat.le_of_ble_eq_true rfl⟩ (rest := []) rfl (Nat.le_of_ble_eq_true rfl) ⟨Nat.le_of_ble_eq_true rfl, Nat.le_of_ble_eq_true rfl⟩ dX10_key_1 (fun H locs hP hS => ?_)
  refine lv_aload_n hx hb dX10_key_4 rfl (lv_at hl 0 rfl) ?_
  refine lv_aload_n hx hb dX10_key_5 rfl (lv_at hl 0 rfl) ?_
  refine lv_iload_n hx hb dX10_key_6 rfl (lv_at hl 1 rfl) ?_
  refine lv_iload_n hx hb dX10_key_7 rfl (lv_at hl 2 rfl) ?_
  refine lv_iconst (v := 1) hx hb dX10_key_8 (by decide) ?_
  obtain ⟨r2, G2, e2, h⟩ := bsome2 h
  refine wr_V F hP hS k_X10_doTin mw_1398 0 11 rfl (wsW_get 0 (by decide)) (q_X10_doTin l D Y ad hI G1 a1 a2 (1 : Int32) r2 G2 e2) rfl hl.1 ⟨Nat.le_of_ble_eq_true rfl, Nat.le_of_ble_eq_true rfl⟩ (rest := [.ref (ad 0)]) rfl (Nat.le_of_ble_eq_true rfl) ⟨Nat.le_of_ble_eq_true rfl, Nat.le_of_ble_eq_true rfl⟩ dX10_key_9 (fun H locs o2 hP hS => ?_)
  obtain ⟨r3, G3, e3, h⟩ := bsome2 h
  refine wr_V F hP hS k_X10_ends mw_1390 0 11 rfl (wsW_get 0 (by decide)) (q_X10_ends l D Y ad hI G2 r2 r3 G3 e3) rfl hl.1 ⟨Nat.le_of_ble_eq_true rfl, Nat.le_of_ble_eq_true rfl⟩ (rest := []) rfl (Nat.le_of_ble_eq_true rfl) ⟨Nat.le_of_ble_eq_true rfl, Nat.le_of_ble_eq_true rfl⟩ dX10_key_12 (fun H locs o3 hP hS => ?_)
  exact wr_end F hP hS hr hk rfl h dX10_key_15
def f_X10_leak (G : GT) (a1 : Int32) (a2 : Int32) : Option (Int32 × GT) := ((f_X10_keep G ).bind fun G1 => (bind2 (f_X10_doTin G1 a1 a2 (0 : Int32)) fun r2 G2 => (bind2 (f_X10_ends G2 r2) fun r3 G3 => some (r3, G3))))
set_option maxRecDepth 100000 in
set_option maxHeartbeats 4000000 in
theorem q_X10_leak (l : Launch) (D : va_G) (Y : Nat → ClassId) (ad : Nat → Nat) (hI : Inj 8 ad) (G : GT) (a1 : Int32) (a2 : Int32) (r : Int32) (G' : GT) (h : f_X10_leak G a1 a2 = some (r, G')) : WR l yX10_leak cX10_leak 3 (some .int) 3 D Y 8 ad (kM Y ad) G [.ref (ad 0), .int a1, .int a2] r G' := by
  refine W_of (ret := (some .int)) (by decide) (Nat.le_of_ble_eq_true rfl) (lv := [(0, .ref (ad 0)), (1, .int a1), (2, .int a2)]) rfl ?_
  intro p e s m below meth c ls F hP hS hr hk hl
  have F : Fx p c cX10_leak 3 s m _ RX10 D Y := F
  have hx := F.1.1
  have hb := F.1.2.1
  refine lv_aload_n hx hb dX10_leak_0 rfl (lv_at hl 0 rfl) ?_
  obtain ⟨G1, e1, h⟩ := bsome h
  refine wv_V F hP hS k_X10_keep mw_1368 0 11 rfl (wsW_get 0 (by decide)) (q_X10_keep l D Y ad hI G  G1 e1) rfl hl.1 ⟨Nat.le_of_ble_eq_true rfl, Nat.le_of_ble_eq_true rfl⟩ (rest := []) rfl (Nat.le_of_ble_eq_true rfl) ⟨Nat.le_of_ble_eq_true rfl, Nat.le_of_ble_eq_true rfl⟩ dX10_leak_1 (fun H locs hP hS => ?_)
  refine lv_aload_n hx hb dX10_leak_4 rfl (lv_at hl 0 rfl) ?_
  refine lv_aload_n hx hb dX10_leak_5 rfl (lv_at hl 0 rfl) ?_
  refine lv_iload_n hx hb dX10_leak_6 rfl (lv_at hl 1 rfl) ?_
  refine lv_iload_n hx hb dX10_leak_7 rfl (lv_at hl 2 rfl) ?_
  refine lv_iconst (v := 0) hx hb dX10_leak_8 (by decide) ?_
  obtain ⟨r2, G2, e2, h⟩ := bsome2 h
  refine wr_V F hP hS k_X10_doTin mw_1398 0 11 rfl (wsW_get 0 (by decide)) (q_X10_doTin l D Y ad hI G1 a1 a2 (0 : Int32) r2 G2 e2) rfl hl.1 ⟨Nat.le_of_ble_eq_true rfl, Nat.le_of_ble_eq_true rfl⟩ (rest := [.ref (ad 0)]) rfl (Nat.le_of_ble_eq_true rfl) ⟨Nat.le_of_ble_eq_true rfl, Nat.le_of_ble_eq_true rfl⟩ dX10_leak_9 (fun H locs o2 hP hS => ?_)
  obtain ⟨r3, G3, e3, h⟩ := bsome2 h
  refine wr_V F hP hS k_X10_ends mw_1390 0 11 rfl (wsW_get 0 (by decide)) (q_X10_ends l D Y ad hI G2 r2 r3 G3 e3) rfl hl.1 ⟨Nat.le_of_ble_eq_true rfl, Nat.le_of_ble_eq_true rfl⟩ (rest := []) rfl (Nat.le_of_ble_eq_true rfl) ⟨Nat.le_of_ble_eq_true rfl, Nat.le_of_ble_eq_true rfl⟩ dX10_leak_12 (fun H locs o3 hP hS => ?_)
  exact wr_end F hP hS hr hk rfl h dX10_leak_15
def f_X10_sets (G : GT) (a1 : Int32) (a2 : Int32) (a3 : Int32) (a4 : Int32) : Option (Int32 × GT) := (if (G 1 1) = (16 : Int32) then (bind2 (f_X10_refuse G a4 (1 : Int32) (16 : Int32)) fun r14 G14 => some (r14, G14)) else ((f_X10_free G ).bind fun r2 => (if a3 ≤ r2 then (if inb ((19 : Int32) + ((3 : Int32) * (G 1 1))) 67 then ((some (upR G 1 (upd (G 1) ((19 : Int32) + ((3 : Int32) * (G 1 1))).toNatClampNeg a1))).bind fun G5 => (if inb (((19 : Int32) + ((3 : Int32) * (G 1 1))) + (1 : Int32)) 67 then ((some (upR G5 1 (upd (G5 1) (((19 : Int32) + ((3 : Int32) * (G 1 1))) + (1 : Int32)).toNatClampNeg a2))).bind fun G7 => (if inb (((19 : Int32) + ((3 : Int32) * (G 1 1))) + (2 : Int32)) 67 then ((some (upR G7 1 (upd (G7 1) (((19 : Int32) + ((3 : Int32) * (G 1 1))) + (2 : Int32)).toNatClampNeg a3))).bind fun G9 => ((some (upR G9 1 (upd (G9 1) (1 : Int32).toNatClampNeg ((G9 1 1) + (1 : Int32))))).bind fun G10 => ((some (upR G10 1 (upd (G10 1) (3 : Int32).toNatClampNeg ((G10 1 3) + (1 : Int32))))).bind fun G11 => some ((G 1 1), G11)))) else none)) else none)) else none) else ((f_X10_free G ).bind fun r12 => (bind2 (f_X10_refuse G a4 (3 : Int32) r12) fun r13 G13 => some (r13, G13))))))
set_option maxRecDepth 100000 in
set_option maxHeartbeats 4000000 in
theorem q_X10_sets (l : Launch) (D : va_G) (Y : Nat → ClassId) (ad : Nat → Nat) (hI : Inj 8 ad) (G : GT) (a1 : Int32) (a2 : Int32) (a3 : Int32) (a4 : Int32) (r : Int32) (G' : GT) (h : f_X10_sets G a1 a2 a3 a4 = some (r, G')) : WR l yX10_sets cX10_sets 7 (some .int) 3 D Y 8 ad (kM Y ad) G [.ref (ad 0), .int a1, .int a2, .int a3, .int a4] r G' := by
  refine W_of (ret := (some .int)) (by decide) (Nat.le_of_ble_eq_true rfl) (lv := [(0, .ref (ad 0)), (1, .int a1), (2, .int a2), (3, .int a3), (4, .int a4)]) rfl ?_
  intro p e s m below meth c ls F hP hS hr hk hl
  have F : Fx p c cX10_sets 7 s m _ RX10 D Y := F
  have hx := F.1.1
  have hb := F.1.2.1
  refine lv_aload_n hx hb dX10_sets_0 rfl (lv_at hl 0 rfl) ?_
  refine rM_0_0 F hP dX10_sets_1 ?_
  refine lv_iconst (v := 1) hx hb dX10_sets_4 (by decide) ?_
  refine alk F hP 1 (wsW_get 1 (by decide)) (k := 1) (by decide) (inbV (by decide) (by decide)) dX10_sets_5 ?_
  refine lv_istore (lv' := [(5, .int ((G 1 1))), (0, .ref (ad 0)), (1, .int a1), (2, .int a2), (3, .int a3), (4, .int a4)]) hx hb dX10_sets_6 hl (by decide) rfl (fun ls hl => ?_)
  refine lv_iload hx hb dX10_sets_8 (lv_at hl 0 rfl) ?_
  refine lv_bipush (v := 16) hx hb dX10_sets_10 (by decide) ?_
  refine lv_icmp_ne (tgt := 25) hx hb dX10_sets_12 (by decide) (fun c1 => ?_) (fun c1 => ?_)
  · have h := ifF h c1
    refine lv_aload_n hx hb dX10_sets_25 rfl (lv_at hl 1 rfl) ?_
    obtain ⟨r2, e2, h⟩ := bsome h
    refine rd_V F hP k_X10_free mw_1421 0 11 rfl (wsW_get 0 (by decide)) (q_X10_free l D Y ad G  r2 e2) rfl hl.1 ⟨Nat.le_of_ble_eq_true rfl, Nat.le_of_ble_eq_true rfl⟩ (rest := []) rfl (Nat.le_of_ble_eq_true rfl) ⟨Nat.le_of_ble_eq_true rfl, Nat.le_of_ble_eq_true rfl⟩ dX10_sets_26 (fun o2 => ?_)
    refine lv_iload_n hx hb dX10_sets_29 rfl (lv_at hl 4 rfl) ?_
    refine lv_icmp_ge (tgt := 45) hx hb dX10_sets_30 (by decide) (fun c3 => ?_) (fun c3 => ?_)
    · have h := ifT h c3
      refine lv_bipush (v := 19) hx hb dX10_sets_45 (by decide) ?_
      refine lv_iconst (v := 3) hx hb dX10_sets_47 (by decide) ?_
      refine lv_iload hx hb dX10_sets_48 (lv_at hl 0 rfl) ?_
      refine lv_imul hx hb dX10_sets_50 ?_
      refine lv_iadd hx hb dX10_sets_51 ?_
      refine lv_istore (lv' := [(6, .int (((19 : Int32) + ((3 : Int32) * (G 1 1))))), (5, .int ((G 1 1))), (0, .ref (ad 0)), (1, .int a1), (2, .int a2), (3, .int a3), (4, .int a4)]) hx hb dX10_sets_52 hl (by decide) rfl (fun ls hl => ?_)
      refine lv_aload_n hx hb dX10_sets_54 rfl (lv_at hl 2 rfl) ?_
      refine rM_0_0 F hP dX10_sets_55 ?_
      refine lv_iload hx hb dX10_sets_58 (lv_at hl 0 rfl) ?_
      refine lv_iload_n hx hb dX10_sets_60 rfl (lv_at hl 3 rfl) ?_
      obtain ⟨b4, h⟩ := ckS h
      obtain ⟨G5, e5, h⟩ := bsome h
      refine ast F hI hP hS (fun i h => ⟨i, h, rfl⟩) 1 (by decide) (fun _ => rfl) (inbV b4 (by decide)) dX10_sets_61 (fun H locs hP hS => ?_)
      have hP := cvP e5 hP
      refine lv_aload_n hx hb dX10_sets_62 rfl (lv_at hl 2 rfl) ?_
      refine rM_0_0 F hP dX10_sets_63 ?_
      refine lv_iload hx hb dX10_sets_66 (lv_at hl 0 rfl) ?_
      refine lv_iconst (v := 1) hx hb dX10_sets_68 (by decide) ?_
      refine lv_iadd hx hb dX10_sets_69 ?_
      refine lv_iload_n hx hb dX10_sets_70 rfl (lv_at hl 4 rfl) ?_
      obtain ⟨b6, h⟩ := ckS h
      obtain ⟨G7, e7, h⟩ := bsome h
      refine ast F hI hP hS (fun i h => ⟨i, h, rfl⟩) 1 (by decide) (fun _ => rfl) (inbV b6 (by decide)) dX10_sets_71 (fun H locs hP hS => ?_)
      have hP := cvP e7 hP
      refine lv_aload_n hx hb dX10_sets_72 rfl (lv_at hl 2 rfl) ?_
      refine rM_0_0 F hP dX10_sets_73 ?_
      refine lv_iload hx hb dX10_sets_76 (lv_at hl 0 rfl) ?_
      refine lv_iconst (v := 2) hx hb dX10_sets_78 (by decide) ?_
      refine lv_iadd hx hb dX10_sets_79 ?_
      refine lv_iload_n hx hb dX10_sets_80 rfl (lv_at hl 5 rfl) ?_
      obtain ⟨b8, h⟩ := ckS h
      obtain ⟨G9, e9, h⟩ := bsome h
      refine ast F hI hP hS (fun i h => ⟨i, h, rfl⟩) 1 (by decide) (fun _ => rfl) (inbV b8 (by decide)) dX10_sets_81 (fun H locs hP hS => ?_)
      have hP := cvP e9 hP
      refine lv_aload_n hx hb dX10_sets_82 rfl (lv_at hl 2 rfl) ?_
      refine rM_0_0 F hP dX10_sets_83 ?_
      refine lv_iconst (v := 1) hx hb dX10_sets_86 (by decide) ?_
      refine lv_dup2_11 hx hb dX10_sets_87 rfl rfl ?_
      refine alk F hP 1 (wsW_get 1 (by decide)) (k := 1) (by decide) (inbV (by decide) (by decide)) dX10_sets_88 ?_
      refine lv_iconst (v := 1) hx hb dX10_sets_89 (by decide) ?_
      refine lv_iadd hx hb dX10_sets_90 ?_
      obtain ⟨G10, e10, h⟩ := bsome h
      refine ast F hI hP hS (fun i h => ⟨i, h, rfl⟩) 1 (by decide) (fun _ => rfl) (inbV (by decide) (by decide)) dX10_sets_91 (fun H locs hP hS => ?_)
      have hP := cvP e10 hP
      refine lv_aload_n hx hb dX10_sets_92 rfl (lv_at hl 2 rfl) ?_
      refine rM_0_0 F hP dX10_sets_93 ?_
      refine lv_iconst (v := 3) hx hb dX10_sets_96 (by decide) ?_
      refine lv_dup2_11 hx hb dX10_sets_97 rfl rfl ?_
      refine alk F hP 1 (wsW_get 1 (by decide)) (k := 3) (by decide) (inbV (by decide) (by decide)) dX10_sets_98 ?_
      refine lv_iconst (v := 1) hx hb dX10_sets_99 (by decide) ?_
      refine lv_iadd hx hb dX10_sets_100 ?_
      obtain ⟨G11, e11, h⟩ := bsome h
      refine ast F hI hP hS (fun i h => ⟨i, h, rfl⟩) 1 (by decide) (fun _ => rfl) (inbV (by decide) (by decide)) dX10_sets_101 (fun H locs hP hS => ?_)
      have hP := cvP e11 hP
      refine lv_iload hx hb dX10_sets_102 (lv_at hl 1 rfl) ?_
      exact wr_end F hP hS hr hk rfl h dX10_sets_104
    · have h := ifF h c3
      refine lv_aload_n hx hb dX10_sets_33 rfl (lv_at hl 1 rfl) ?_
      refine lv_iload hx hb dX10_sets_34 (lv_at hl 5 rfl) ?_
      refine lv_iconst (v := 3) hx hb dX10_sets_36 (by decide) ?_
      refine lv_aload_n hx hb dX10_sets_37 rfl (lv_at hl 1 rfl) ?_
      obtain ⟨r12, e12, h⟩ := bsome h
      refine rd_V F hP k_X10_free mw_1421 0 11 rfl (wsW_get 0 (by decide)) (q_X10_free l D Y ad G  r12 e12) rfl hl.1 ⟨Nat.le_of_ble_eq_true rfl, Nat.le_of_ble_eq_true rfl⟩ (rest := [.int ((3 : Int32)), .int a4, .ref (ad 0)]) rfl (Nat.le_of_ble_eq_true rfl) ⟨Nat.le_of_ble_eq_true rfl, Nat.le_of_ble_eq_true rfl⟩ dX10_sets_38 (fun o12 => ?_)
      obtain ⟨r13, G13, e13, h⟩ := bsome2 h
      refine wr_V F hP hS k_X10_refuse mw_1386 0 11 rfl (wsW_get 0 (by decide)) (q_X10_refuse l D Y ad hI G a4 (3 : Int32) r12 r13 G13 e13) rfl hl.1 ⟨Nat.le_of_ble_eq_true rfl, Nat.le_of_ble_eq_true rfl⟩ (rest := []) rfl (Nat.le_of_ble_eq_true rfl) ⟨Nat.le_of_ble_eq_true rfl, Nat.le_of_ble_eq_true rfl⟩ dX10_sets_41 (fun H locs o13 hP hS => ?_)
      exact wr_end F hP hS hr hk rfl h dX10_sets_44
  · have h := ifT h c1
    refine lv_aload_n hx hb dX10_sets_15 rfl (lv_at hl 1 rfl) ?_
    refine lv_iload hx hb dX10_sets_16 (lv_at hl 5 rfl) ?_
    refine lv_iconst (v := 1) hx hb dX10_sets_18 (by decide) ?_
    refine lv_bipush (v := 16) hx hb dX10_sets_19 (by decide) ?_
    obtain ⟨r14, G14, e14, h⟩ := bsome2 h
    refine wr_V F hP hS k_X10_refuse mw_1386 0 11 rfl (wsW_get 0 (by decide)) (q_X10_refuse l D Y ad hI G a4 (1 : Int32) (16 : Int32) r14 G14 e14) rfl hl.1 ⟨Nat.le_of_ble_eq_true rfl, Nat.le_of_ble_eq_true rfl⟩ (rest := []) rfl (Nat.le_of_ble_eq_true rfl) ⟨Nat.le_of_ble_eq_true rfl, Nat.le_of_ble_eq_true rfl⟩ dX10_sets_21 (fun H locs o14 hP hS => ?_)
    exact wr_end F hP hS hr hk rfl h dX10_sets_24
def f_X10_doDrop_44 (G : GT) (a1 : Int32) (a2 : Int32) (a3 : Int32) : Option (Int32 × GT) := (bind2 (f_X10_fails G (2 : Int32)) fun r1 G1 => some (r1, G1))
def f_X10_doDrop (G : GT) (a1 : Int32) (a2 : Int32) (a3 : Int32) : Option (Int32 × GT) := ((f_X10_isTin G a1).bind fun r2 => (if r2 = 0 then (bind2 (f_X10_fails G (1 : Int32)) fun r9 G9 => some (r9, G9)) else ((f_X10_in G a2 (0 : Int32) (9 : Int32)).bind fun r4 => (if r4 = 0 then f_X10_doDrop_44 G a1 a2 a3 else ((f_X10_in G a3 (1 : Int32) (8 : Int32)).bind fun r6 => (if r6 = 0 then f_X10_doDrop_44 G a1 a2 a3 else (bind2 (f_X10_sets G a1 a2 a3 (3 : Int32)) fun r8 G8 => some (r8, G8))))))))
set_option maxRecDepth 100000 in
set_option maxHeartbeats 4000000 in
theorem q_X10_doDrop (l : Launch) (D : va_G) (Y : Nat → ClassId) (ad : Nat → Nat) (hI : Inj 8 ad) (G : GT) (a1 : Int32) (a2 : Int32) (a3 : Int32) (r : Int32) (G' : GT) (h : f_X10_doDrop G a1 a2 a3 = some (r, G')) : WR l yX10_doDrop cX10_doDrop 4 (some .int) 4 D Y 8 ad (kM Y ad) G [.ref (ad 0), .int a1, .int a2, .int a3] r G' := by
  refine W_of (ret := (some .int)) (by decide) (Nat.le_of_ble_eq_true rfl) (lv := [(0, .ref (ad 0)), (1, .int a1), (2, .int a2), (3, .int a3)]) rfl ?_
  intro p e s m below meth c ls F hP hS hr hk hl
  have F : Fx p c cX10_doDrop 4 s m _ RX10 D Y := F
  have hx := F.1.1
  have hb := F.1.2.1
  have key44 : ∀ (G : GT) (H : Heap) (locs : List Loc), va_P D vwCl (wsM Y ad G) H → va_S (AW 8 ad) s.heap H locs → ∀ ls : Array Slot, lv_has ls 4 [(0, .ref (ad 0))] → f_X10_doDrop_44 G a1 a2 a3   = some (r, G') → WW p l e 4 s m ([.ref (ad 0), .int a1, .int a2, .int a3] : List Value).toArray below meth c H locs (WQi (some .int) r D (wsM Y ad G') (AW 8 ad)) (AW 8 ad) (F0 m 44 ls []) := by
    intro  G H locs hP hS ls hl h
    refine lv_aload_n hx hb dX10_doDrop_44 rfl (lv_at hl 0 rfl) ?_
    refine lv_iconst (v := 2) hx hb dX10_doDrop_45 (by decide) ?_
    obtain ⟨r1, G1, e1, h⟩ := bsome2 h
    refine wr_V F hP hS k_X10_fails mw_1382 0 11 rfl (wsW_get 0 (by decide)) (q_X10_fails l D Y ad hI G (2 : Int32) r1 G1 e1) rfl hl.1 ⟨Nat.le_of_ble_eq_true rfl, Nat.le_of_ble_eq_true rfl⟩ (rest := []) rfl (Nat.le_of_ble_eq_true rfl) ⟨Nat.le_of_ble_eq_true rfl, Nat.le_of_ble_eq_true rfl⟩ dX10_doDrop_46 (fun H locs o1 hP hS => ?_)
    exact wr_end F hP hS hr hk rfl h dX10_doDrop_49
  refine lv_iload_n hx hb dX10_doDrop_0 rfl (lv_at hl 1 rfl) ?_
  obtain ⟨r2, e2, h⟩ := bsome h
  refine rd_S F hP k_X10_isTin mw_1402 (q_X10_isTin l D Y ad G a1 r2 e2) rfl hl.1 ⟨Nat.le_of_ble_eq_true rfl, Nat.le_of_ble_eq_true rfl⟩ (rest := []) rfl (Nat.le_of_ble_eq_true rfl) ⟨Nat.le_of_ble_eq_true rfl, Nat.le_of_ble_eq_true rfl⟩ dX10_doDrop_1 (fun o2 => ?_)
  refine lv_if_ne (tgt := 13) hx hb dX10_doDrop_4 (by decide) (fun c3 => ?_) (fun c3 => ?_)
  · have h := ifF h c3
    refine lv_iload_n hx hb dX10_doDrop_13 rfl (lv_at hl 2 rfl) ?_
    refine lv_iconst (v := 0) hx hb dX10_doDrop_14 (by decide) ?_
    refine lv_bipush (v := 9) hx hb dX10_doDrop_15 (by decide) ?_
    obtain ⟨r4, e4, h⟩ := bsome h
    refine rd_S F hP k_X10_in mw_1379 (q_X10_in l D Y ad G a2 (0 : Int32) (9 : Int32) r4 e4) rfl hl.1 ⟨Nat.le_of_ble_eq_true rfl, Nat.le_of_ble_eq_true rfl⟩ (rest := []) rfl (Nat.le_of_ble_eq_true rfl) ⟨Nat.le_of_ble_eq_true rfl, Nat.le_of_ble_eq_true rfl⟩ dX10_doDrop_17 (fun o4 => ?_)
    refine lv_if_eq (tgt := 44) hx hb dX10_doDrop_20 (by decide) (fun c5 => ?_) (fun c5 => ?_)
    · have h := ifT h c5
      exact key44 G _ _ hP hS ls (lv_sub hl [0] rfl) h
    · have h := ifF h c5
      refine lv_iload_n hx hb dX10_doDrop_23 rfl (lv_at hl 3 rfl) ?_
      refine lv_iconst (v := 1) hx hb dX10_doDrop_24 (by decide) ?_
      refine lv_bipush (v := 8) hx hb dX10_doDrop_25 (by decide) ?_
      obtain ⟨r6, e6, h⟩ := bsome h
      refine rd_S F hP k_X10_in mw_1379 (q_X10_in l D Y ad G a3 (1 : Int32) (8 : Int32) r6 e6) rfl hl.1 ⟨Nat.le_of_ble_eq_true rfl, Nat.le_of_ble_eq_true rfl⟩ (rest := []) rfl (Nat.le_of_ble_eq_true rfl) ⟨Nat.le_of_ble_eq_true rfl, Nat.le_of_ble_eq_true rfl⟩ dX10_doDrop_27 (fun o6 => ?_)
      refine lv_if_eq (tgt := 44) hx hb dX10_doDrop_30 (by decide) (fun c7 => ?_) (fun c7 => ?_)
      · have h := ifT h c7
        exact key44 G _ _ hP hS ls (lv_sub hl [0] rfl) h
      · have h := ifF h c7
        refine lv_aload_n hx hb dX10_doDrop_33 rfl (lv_at hl 0 rfl) ?_
        refine lv_iload_n hx hb dX10_doDrop_34 rfl (lv_at hl 1 rfl) ?_
        refine lv_iload_n hx hb dX10_doDrop_35 rfl (lv_at hl 2 rfl) ?_
        refine lv_iload_n hx hb dX10_doDrop_36 rfl (lv_at hl 3 rfl) ?_
        refine lv_iconst (v := 3) hx hb dX10_doDrop_37 (by decide) ?_
        obtain ⟨r8, G8, e8, h⟩ := bsome2 h
        refine wr_V F hP hS k_X10_sets mw_1417 0 11 rfl (wsW_get 0 (by decide)) (q_X10_sets l D Y ad hI G a1 a2 a3 (3 : Int32) r8 G8 e8) rfl hl.1 ⟨Nat.le_of_ble_eq_true rfl, Nat.le_of_ble_eq_true rfl⟩ (rest := []) rfl (Nat.le_of_ble_eq_true rfl) ⟨Nat.le_of_ble_eq_true rfl, Nat.le_of_ble_eq_true rfl⟩ dX10_doDrop_38 (fun H locs o8 hP hS => ?_)
        refine lv_goto (tgt := 49) hx hb dX10_doDrop_41 (by decide) ?_
        exact wr_end F hP hS hr hk rfl h dX10_doDrop_49
  · have h := ifT h c3
    refine lv_aload_n hx hb dX10_doDrop_7 rfl (lv_at hl 0 rfl) ?_
    refine lv_iconst (v := 1) hx hb dX10_doDrop_8 (by decide) ?_
    obtain ⟨r9, G9, e9, h⟩ := bsome2 h
    refine wr_V F hP hS k_X10_fails mw_1382 0 11 rfl (wsW_get 0 (by decide)) (q_X10_fails l D Y ad hI G (1 : Int32) r9 G9 e9) rfl hl.1 ⟨Nat.le_of_ble_eq_true rfl, Nat.le_of_ble_eq_true rfl⟩ (rest := []) rfl (Nat.le_of_ble_eq_true rfl) ⟨Nat.le_of_ble_eq_true rfl, Nat.le_of_ble_eq_true rfl⟩ dX10_doDrop_9 (fun H locs o9 hP hS => ?_)
    exact wr_end F hP hS hr hk rfl h dX10_doDrop_12
def f_X10_drop (G : GT) (a1 : Int32) (a2 : Int32) (a3 : Int32) : Option (Int32 × GT) := ((f_X10_keep G ).bind fun G1 => (bind2 (f_X10_doDrop G1 a1 a2 a3) fun r2 G2 => (bind2 (f_X10_ends G2 r2) fun r3 G3 => some (r3, G3))))
set_option maxRecDepth 100000 in
set_option maxHeartbeats 4000000 in
theorem q_X10_drop (l : Launch) (D : va_G) (Y : Nat → ClassId) (ad : Nat → Nat) (hI : Inj 8 ad) (G : GT) (a1 : Int32) (a2 : Int32) (a3 : Int32) (r : Int32) (G' : GT) (h : f_X10_drop G a1 a2 a3 = some (r, G')) : WR l yX10_drop cX10_drop 4 (some .int) 5 D Y 8 ad (kM Y ad) G [.ref (ad 0), .int a1, .int a2, .int a3] r G' := by
  refine W_of (ret := (some .int)) (by decide) (Nat.le_of_ble_eq_true rfl) (lv := [(0, .ref (ad 0)), (1, .int a1), (2, .int a2), (3, .int a3)]) rfl ?_
  intro p e s m below meth c ls F hP hS hr hk hl
  have F : Fx p c cX10_drop 4 s m _ RX10 D Y := F
  have hx := F.1.1
  have hb := F.1.2.1
  refine lv_aload_n hx hb dX10_drop_0 rfl (lv_at hl 0 rfl) ?_
  obtain ⟨G1, e1, h⟩ := bsome h
  refine wv_V F hP hS k_X10_keep mw_1368 0 11 rfl (wsW_get 0 (by decide)) (q_X10_keep l D Y ad hI G  G1 e1) rfl hl.1 ⟨Nat.le_of_ble_eq_true rfl, Nat.le_of_ble_eq_true rfl⟩ (rest := []) rfl (Nat.le_of_ble_eq_true rfl) ⟨Nat.le_of_ble_eq_true rfl, Nat.le_of_ble_eq_true rfl⟩ dX10_drop_1 (fun H locs hP hS => ?_)
  refine lv_aload_n hx hb dX10_drop_4 rfl (lv_at hl 0 rfl) ?_
  refine lv_aload_n hx hb dX10_drop_5 rfl (lv_at hl 0 rfl) ?_
  refine lv_iload_n hx hb dX10_drop_6 rfl (lv_at hl 1 rfl) ?_
  refine lv_iload_n hx hb dX10_drop_7 rfl (lv_at hl 2 rfl) ?_
  refine lv_iload_n hx hb dX10_drop_8 rfl (lv_at hl 3 rfl) ?_
  obtain ⟨r2, G2, e2, h⟩ := bsome2 h
  refine wr_V F hP hS k_X10_doDrop mw_1413 0 11 rfl (wsW_get 0 (by decide)) (q_X10_doDrop l D Y ad hI G1 a1 a2 a3 r2 G2 e2) rfl hl.1 ⟨Nat.le_of_ble_eq_true rfl, Nat.le_of_ble_eq_true rfl⟩ (rest := [.ref (ad 0)]) rfl (Nat.le_of_ble_eq_true rfl) ⟨Nat.le_of_ble_eq_true rfl, Nat.le_of_ble_eq_true rfl⟩ dX10_drop_9 (fun H locs o2 hP hS => ?_)
  obtain ⟨r3, G3, e3, h⟩ := bsome2 h
  refine wr_V F hP hS k_X10_ends mw_1390 0 11 rfl (wsW_get 0 (by decide)) (q_X10_ends l D Y ad hI G2 r2 r3 G3 e3) rfl hl.1 ⟨Nat.le_of_ble_eq_true rfl, Nat.le_of_ble_eq_true rfl⟩ (rest := []) rfl (Nat.le_of_ble_eq_true rfl) ⟨Nat.le_of_ble_eq_true rfl, Nat.le_of_ble_eq_true rfl⟩ dX10_drop_12 (fun H locs o3 hP hS => ?_)
  exact wr_end F hP hS hr hk rfl h dX10_drop_15
def f_X10_doRest (G : GT) (a1 : Int32) : Option (Int32 × GT) := ((f_X10_isTin G a1).bind fun r1 => (if r1 = 0 then (bind2 (f_X10_fails G (1 : Int32)) fun r8 G8 => some (r8, G8)) else (if inb (((11 : Int32) + ((2 : Int32) * a1)) + (1 : Int32)) 67 then (if (G 1 (((11 : Int32) + ((2 : Int32) * a1)) + (1 : Int32)).toNatClampNeg) = 0 then (if inb ((11 : Int32) + ((2 : Int32) * a1)) 67 then (bind2 (f_X10_refuse G (2 : Int32) (4 : Int32) (G 1 ((11 : Int32) + ((2 : Int32) * a1)).toNatClampNeg)) fun r7 G7 => some (r7, G7)) else none) else (bind2 (f_X10_sets G a1 (-1 : Int32) (G 1 (((11 : Int32) + ((2 : Int32) * a1)) + (1 : Int32)).toNatClampNeg) (2 : Int32)) fun r5 G5 => some (r5, G5))) else none)))
set_option maxRecDepth 100000 in
set_option maxHeartbeats 4000000 in
theorem q_X10_doRest (l : Launch) (D : va_G) (Y : Nat → ClassId) (ad : Nat → Nat) (hI : Inj 8 ad) (G : GT) (a1 : Int32) (r : Int32) (G' : GT) (h : f_X10_doRest G a1 = some (r, G')) : WR l yX10_doRest cX10_doRest 3 (some .int) 4 D Y 8 ad (kM Y ad) G [.ref (ad 0), .int a1] r G' := by
  refine W_of (ret := (some .int)) (by decide) (Nat.le_of_ble_eq_true rfl) (lv := [(0, .ref (ad 0)), (1, .int a1)]) rfl ?_
  intro p e s m below meth c ls F hP hS hr hk hl
  have F : Fx p c cX10_doRest 3 s m _ RX10 D Y := F
  have hx := F.1.1
  have hb := F.1.2.1
  refine lv_iload_n hx hb dX10_doRest_0 rfl (lv_at hl 1 rfl) ?_
  obtain ⟨r1, e1, h⟩ := bsome h
  refine rd_S F hP k_X10_isTin mw_1402 (q_X10_isTin l D Y ad G a1 r1 e1) rfl hl.1 ⟨Nat.le_of_ble_eq_true rfl, Nat.le_of_ble_eq_true rfl⟩ (rest := []) rfl (Nat.le_of_ble_eq_true rfl) ⟨Nat.le_of_ble_eq_true rfl, Nat.le_of_ble_eq_true rfl⟩ dX10_doRest_1 (fun o1 => ?_)
  refine lv_if_ne (tgt := 13) hx hb dX10_doRest_4 (by decide) (fun c2 => ?_) (fun c2 => ?_)
  · have h := ifF h c2
    refine lv_aload_n hx hb dX10_doRest_13 rfl (lv_at hl 0 rfl) ?_
    refine rM_0_0 F hP dX10_doRest_14 ?_
    refine lv_bipush (v := 11) hx hb dX10_doRest_17 (by decide) ?_
    refine lv_iconst (v := 2) hx hb dX10_doRest_19 (by decide) ?_
    refine lv_iload_n hx hb dX10_doRest_20 rfl (lv_at hl 1 rfl) ?_
    refine lv_imul hx hb dX10_doRest_21 ?_
    refine lv_iadd hx hb dX10_doRest_22 ?_
    refine lv_iconst (v := 1) hx hb dX10_doRest_23 (by decide) ?_
    refine lv_iadd hx hb dX10_doRest_24 ?_
    obtain ⟨b3, h⟩ := ckS h
    refine al F hP 1 (wsW_get 1 (by decide)) (inbV b3 (by decide)) dX10_doRest_25 ?_
    refine lv_istore_n (lv' := [(2, .int ((G 1 (((11 : Int32) + ((2 : Int32) * a1)) + (1 : Int32)).toNatClampNeg))), (0, .ref (ad 0)), (1, .int a1)]) hx hb dX10_doRest_26 rfl hl (by decide) rfl (fun ls hl => ?_)
    refine lv_iload_n hx hb dX10_doRest_27 rfl (lv_at hl 0 rfl) ?_
    refine lv_if_ne (tgt := 51) hx hb dX10_doRest_28 (by decide) (fun c4 => ?_) (fun c4 => ?_)
    · have h := ifF h c4
      refine lv_aload_n hx hb dX10_doRest_51 rfl (lv_at hl 1 rfl) ?_
      refine lv_iload_n hx hb dX10_doRest_52 rfl (lv_at hl 2 rfl) ?_
      refine lv_iconst (v := -1) hx hb dX10_doRest_53 (by decide) ?_
      refine lv_iload_n hx hb dX10_doRest_54 rfl (lv_at hl 0 rfl) ?_
      refine lv_iconst (v := 2) hx hb dX10_doRest_55 (by decide) ?_
      obtain ⟨r5, G5, e5, h⟩ := bsome2 h
      refine wr_V F hP hS k_X10_sets mw_1417 0 11 rfl (wsW_get 0 (by decide)) (q_X10_sets l D Y ad hI G a1 (-1 : Int32) (G 1 (((11 : Int32) + ((2 : Int32) * a1)) + (1 : Int32)).toNatClampNeg) (2 : Int32) r5 G5 e5) rfl hl.1 ⟨Nat.le_of_ble_eq_true rfl, Nat.le_of_ble_eq_true rfl⟩ (rest := []) rfl (Nat.le_of_ble_eq_true rfl) ⟨Nat.le_of_ble_eq_true rfl, Nat.le_of_ble_eq_true rfl⟩ dX10_doRest_56 (fun H locs o5 hP hS => ?_)
      exact wr_end F hP hS hr hk rfl h dX10_doRest_59
    · have h := ifT h c4
      refine lv_aload_n hx hb dX10_doRest_31 rfl (lv_at hl 1 rfl) ?_
      refine lv_iconst (v := 2) hx hb dX10_doRest_32 (by decide) ?_
      refine lv_iconst (v := 4) hx hb dX10_doRest_33 (by decide) ?_
      refine lv_aload_n hx hb dX10_doRest_34 rfl (lv_at hl 1 rfl) ?_
      refine rM_0_0 F hP dX10_doRest_35 ?_
      refine lv_bipush (v := 11) hx hb dX10_doRest_38 (by decide) ?_
      refine lv_iconst (v := 2) hx hb dX10_doRest_40 (by decide) ?_
      refine lv_iload_n hx hb dX10_doRest_41 rfl (lv_at hl 2 rfl) ?_
      refine lv_imul hx hb dX10_doRest_42 ?_
      refine lv_iadd hx hb dX10_doRest_43 ?_
      obtain ⟨b6, h⟩ := ckS h
      refine al F hP 1 (wsW_get 1 (by decide)) (inbV b6 (by decide)) dX10_doRest_44 ?_
      obtain ⟨r7, G7, e7, h⟩ := bsome2 h
      refine wr_V F hP hS k_X10_refuse mw_1386 0 11 rfl (wsW_get 0 (by decide)) (q_X10_refuse l D Y ad hI G (2 : Int32) (4 : Int32) (G 1 ((11 : Int32) + ((2 : Int32) * a1)).toNatClampNeg) r7 G7 e7) rfl hl.1 ⟨Nat.le_of_ble_eq_true rfl, Nat.le_of_ble_eq_true rfl⟩ (rest := []) rfl (Nat.le_of_ble_eq_true rfl) ⟨Nat.le_of_ble_eq_true rfl, Nat.le_of_ble_eq_true rfl⟩ dX10_doRest_45 (fun H locs o7 hP hS => ?_)
      refine lv_goto (tgt := 59) hx hb dX10_doRest_48 (by decide) ?_
      exact wr_end F hP hS hr hk rfl h dX10_doRest_59
  · have h := ifT h c2
    refine lv_aload_n hx hb dX10_doRest_7 rfl (lv_at hl 0 rfl) ?_
    refine lv_iconst (v := 1) hx hb dX10_doRest_8 (by decide) ?_
    obtain ⟨r8, G8, e8, h⟩ := bsome2 h
    refine wr_V F hP hS k_X10_fails mw_1382 0 11 rfl (wsW_get 0 (by decide)) (q_X10_fails l D Y ad hI G (1 : Int32) r8 G8 e8) rfl hl.1 ⟨Nat.le_of_ble_eq_true rfl, Nat.le_of_ble_eq_true rfl⟩ (rest := []) rfl (Nat.le_of_ble_eq_true rfl) ⟨Nat.le_of_ble_eq_true rfl, Nat.le_of_ble_eq_true rfl⟩ dX10_doRest_9 (fun H locs o8 hP hS => ?_)
    exact wr_end F hP hS hr hk rfl h dX10_doRest_12
def f_X10_rest (G : GT) (a1 : Int32) : Option (Int32 × GT) := ((f_X10_keep G ).bind fun G1 => (bind2 (f_X10_doRest G1 a1) fun r2 G2 => (bind2 (f_X10_ends G2 r2) fun r3 G3 => some (r3, G3))))
set_option maxRecDepth 100000 in
set_option maxHeartbeats 4000000 in
theorem q_X10_rest (l : Launch) (D : va_G) (Y : Nat → ClassId) (ad : Nat → Nat) (hI : Inj 8 ad) (G : GT) (a1 : Int32) (r : Int32) (G' : GT) (h : f_X10_rest G a1 = some (r, G')) : WR l yX10_rest cX10_rest 2 (some .int) 5 D Y 8 ad (kM Y ad) G [.ref (ad 0), .int a1] r G' := by
  refine W_of (ret := (some .int)) (by decide) (Nat.le_of_ble_eq_true rfl) (lv := [(0, .ref (ad 0)), (1, .int a1)]) rfl ?_
  intro p e s m below meth c ls F hP hS hr hk hl
  have F : Fx p c cX10_rest 2 s m _ RX10 D Y := F
  have hx := F.1.1
  have hb := F.1.2.1
  refine lv_aload_n hx hb dX10_rest_0 rfl (lv_at hl 0 rfl) ?_
  obtain ⟨G1, e1, h⟩ := bsome h
  refine wv_V F hP hS k_X10_keep mw_1368 0 11 rfl (wsW_get 0 (by decide)) (q_X10_keep l D Y ad hI G  G1 e1) rfl hl.1 ⟨Nat.le_of_ble_eq_true rfl, Nat.le_of_ble_eq_true rfl⟩ (rest := []) rfl (Nat.le_of_ble_eq_true rfl) ⟨Nat.le_of_ble_eq_true rfl, Nat.le_of_ble_eq_true rfl⟩ dX10_rest_1 (fun H locs hP hS => ?_)
  refine lv_aload_n hx hb dX10_rest_4 rfl (lv_at hl 0 rfl) ?_
  refine lv_aload_n hx hb dX10_rest_5 rfl (lv_at hl 0 rfl) ?_
  refine lv_iload_n hx hb dX10_rest_6 rfl (lv_at hl 1 rfl) ?_
  obtain ⟨r2, G2, e2, h⟩ := bsome2 h
  refine wr_V F hP hS k_X10_doRest mw_1441 0 11 rfl (wsW_get 0 (by decide)) (q_X10_doRest l D Y ad hI G1 a1 r2 G2 e2) rfl hl.1 ⟨Nat.le_of_ble_eq_true rfl, Nat.le_of_ble_eq_true rfl⟩ (rest := [.ref (ad 0)]) rfl (Nat.le_of_ble_eq_true rfl) ⟨Nat.le_of_ble_eq_true rfl, Nat.le_of_ble_eq_true rfl⟩ dX10_rest_7 (fun H locs o2 hP hS => ?_)
  obtain ⟨r3, G3, e3, h⟩ := bsome2 h
  refine wr_V F hP hS k_X10_ends mw_1390 0 11 rfl (wsW_get 0 (by decide)) (q_X10_ends l D Y ad hI G2 r2 r3 G3 e3) rfl hl.1 ⟨Nat.le_of_ble_eq_true rfl, Nat.le_of_ble_eq_true rfl⟩ (rest := []) rfl (Nat.le_of_ble_eq_true rfl) ⟨Nat.le_of_ble_eq_true rfl, Nat.le_of_ble_eq_true rfl⟩ dX10_rest_10 (fun H locs o3 hP hS => ?_)
  exact wr_end F hP hS hr hk rfl h dX10_rest_13
def f_X10_doLift (G : GT) : Option (Int32 × GT) := (if 0 ≤ ((G 1 1) - (1 : Int32)) then ((some (upR G 1 (upd (G 1) (1 : Int32).toNatClampNeg ((G 1 1) - (1 : Int32))))).bind fun G2 => ((some (upR G2 1 (upd (G2 1) (4 : Int32).toNatClampNeg ((G2 1 4) + (1 : Int32))))).bind fun G3 => ((f_X10_of G3 ((G 1 1) - (1 : Int32)) (2 : Int32)).bind fun r4 => some (r4, G3)))) else (bind2 (f_X10_refuse G (1 : Int32) (5 : Int32) (G 1 0)) fun r5 G5 => some (r5, G5)))
set_option maxRecDepth 100000 in
set_option maxHeartbeats 4000000 in
theorem q_X10_doLift (l : Launch) (D : va_G) (Y : Nat → ClassId) (ad : Nat → Nat) (hI : Inj 8 ad) (G : GT) (r : Int32) (G' : GT) (h : f_X10_doLift G  = some (r, G')) : WR l yX10_doLift cX10_doLift 2 (some .int) 1 D Y 8 ad (kM Y ad) G [.ref (ad 0)] r G' := by
  refine W_of (ret := (some .int)) (by decide) (Nat.le_of_ble_eq_true rfl) (lv := [(0, .ref (ad 0))]) rfl ?_
  intro p e s m below meth c ls F hP hS hr hk hl
  have F : Fx p c cX10_doLift 2 s m _ RX10 D Y := F
  have hx := F.1.1
  have hb := F.1.2.1
  refine lv_aload_n hx hb dX10_doLift_0 rfl (lv_at hl 0 rfl) ?_
  refine rM_0_0 F hP dX10_doLift_1 ?_
  refine lv_iconst (v := 1) hx hb dX10_doLift_4 (by decide) ?_
  refine alk F hP 1 (wsW_get 1 (by decide)) (k := 1) (by decide) (inbV (by decide) (by decide)) dX10_doLift_5 ?_
  refine lv_iconst (v := 1) hx hb dX10_doLift_6 (by decide) ?_
  refine lv_isub hx hb dX10_doLift_7 ?_
  refine lv_istore_n (lv' := [(1, .int (((G 1 1) - (1 : Int32)))), (0, .ref (ad 0))]) hx hb dX10_doLift_8 rfl hl (by decide) rfl (fun ls hl => ?_)
  refine lv_iload_n hx hb dX10_doLift_9 rfl (lv_at hl 0 rfl) ?_
  refine lv_if_ge (tgt := 26) hx hb dX10_doLift_10 (by decide) (fun c1 => ?_) (fun c1 => ?_)
  · have h := ifT h c1
    refine lv_aload_n hx hb dX10_doLift_26 rfl (lv_at hl 1 rfl) ?_
    refine rM_0_0 F hP dX10_doLift_27 ?_
    refine lv_iconst (v := 1) hx hb dX10_doLift_30 (by decide) ?_
    refine lv_iload_n hx hb dX10_doLift_31 rfl (lv_at hl 0 rfl) ?_
    obtain ⟨G2, e2, h⟩ := bsome h
    refine ast F hI hP hS (fun i h => ⟨i, h, rfl⟩) 1 (by decide) (fun _ => rfl) (inbV (by decide) (by decide)) dX10_doLift_32 (fun H locs hP hS => ?_)
    have hP := cvP e2 hP
    refine lv_aload_n hx hb dX10_doLift_33 rfl (lv_at hl 1 rfl) ?_
    refine rM_0_0 F hP dX10_doLift_34 ?_
    refine lv_iconst (v := 4) hx hb dX10_doLift_37 (by decide) ?_
    refine lv_dup2_11 hx hb dX10_doLift_38 rfl rfl ?_
    refine alk F hP 1 (wsW_get 1 (by decide)) (k := 4) (by decide) (inbV (by decide) (by decide)) dX10_doLift_39 ?_
    refine lv_iconst (v := 1) hx hb dX10_doLift_40 (by decide) ?_
    refine lv_iadd hx hb dX10_doLift_41 ?_
    obtain ⟨G3, e3, h⟩ := bsome h
    refine ast F hI hP hS (fun i h => ⟨i, h, rfl⟩) 1 (by decide) (fun _ => rfl) (inbV (by decide) (by decide)) dX10_doLift_42 (fun H locs hP hS => ?_)
    have hP := cvP e3 hP
    refine lv_aload_n hx hb dX10_doLift_43 rfl (lv_at hl 1 rfl) ?_
    refine lv_iload_n hx hb dX10_doLift_44 rfl (lv_at hl 0 rfl) ?_
    refine lv_iconst (v := 2) hx hb dX10_doLift_45 (by decide) ?_
    obtain ⟨r4, e4, h⟩ := bsome h
    refine rd_V F hP k_X10_of mw_1433 0 11 rfl (wsW_get 0 (by decide)) (q_X10_of l D Y ad G3 ((G 1 1) - (1 : Int32)) (2 : Int32) r4 e4) rfl hl.1 ⟨Nat.le_of_ble_eq_true rfl, Nat.le_of_ble_eq_true rfl⟩ (rest := []) rfl (Nat.le_of_ble_eq_true rfl) ⟨Nat.le_of_ble_eq_true rfl, Nat.le_of_ble_eq_true rfl⟩ dX10_doLift_46 (fun o4 => ?_)
    exact wr_end F hP hS hr hk rfl h dX10_doLift_49
  · have h := ifF h c1
    refine lv_aload_n hx hb dX10_doLift_13 rfl (lv_at hl 1 rfl) ?_
    refine lv_iconst (v := 1) hx hb dX10_doLift_14 (by decide) ?_
    refine lv_iconst (v := 5) hx hb dX10_doLift_15 (by decide) ?_
    refine lv_aload_n hx hb dX10_doLift_16 rfl (lv_at hl 1 rfl) ?_
    refine rM_0_0 F hP dX10_doLift_17 ?_
    refine lv_iconst (v := 0) hx hb dX10_doLift_20 (by decide) ?_
    refine alk F hP 1 (wsW_get 1 (by decide)) (k := 0) (by decide) (inbV (by decide) (by decide)) dX10_doLift_21 ?_
    obtain ⟨r5, G5, e5, h⟩ := bsome2 h
    refine wr_V F hP hS k_X10_refuse mw_1386 0 11 rfl (wsW_get 0 (by decide)) (q_X10_refuse l D Y ad hI G (1 : Int32) (5 : Int32) (G 1 0) r5 G5 e5) rfl hl.1 ⟨Nat.le_of_ble_eq_true rfl, Nat.le_of_ble_eq_true rfl⟩ (rest := []) rfl (Nat.le_of_ble_eq_true rfl) ⟨Nat.le_of_ble_eq_true rfl, Nat.le_of_ble_eq_true rfl⟩ dX10_doLift_22 (fun H locs o5 hP hS => ?_)
    exact wr_end F hP hS hr hk rfl h dX10_doLift_25
def f_X10_lift (G : GT) : Option (Int32 × GT) := ((f_X10_keep G ).bind fun G1 => (bind2 (f_X10_doLift G1 ) fun r2 G2 => (bind2 (f_X10_ends G2 r2) fun r3 G3 => some (r3, G3))))
set_option maxRecDepth 100000 in
set_option maxHeartbeats 4000000 in
theorem q_X10_lift (l : Launch) (D : va_G) (Y : Nat → ClassId) (ad : Nat → Nat) (hI : Inj 8 ad) (G : GT) (r : Int32) (G' : GT) (h : f_X10_lift G  = some (r, G')) : WR l yX10_lift cX10_lift 1 (some .int) 2 D Y 8 ad (kM Y ad) G [.ref (ad 0)] r G' := by
  refine W_of (ret := (some .int)) (by decide) (Nat.le_of_ble_eq_true rfl) (lv := [(0, .ref (ad 0))]) rfl ?_
  intro p e s m below meth c ls F hP hS hr hk hl
  have F : Fx p c cX10_lift 1 s m _ RX10 D Y := F
  have hx := F.1.1
  have hb := F.1.2.1
  refine lv_aload_n hx hb dX10_lift_0 rfl (lv_at hl 0 rfl) ?_
  obtain ⟨G1, e1, h⟩ := bsome h
  refine wv_V F hP hS k_X10_keep mw_1368 0 11 rfl (wsW_get 0 (by decide)) (q_X10_keep l D Y ad hI G  G1 e1) rfl hl.1 ⟨Nat.le_of_ble_eq_true rfl, Nat.le_of_ble_eq_true rfl⟩ (rest := []) rfl (Nat.le_of_ble_eq_true rfl) ⟨Nat.le_of_ble_eq_true rfl, Nat.le_of_ble_eq_true rfl⟩ dX10_lift_1 (fun H locs hP hS => ?_)
  refine lv_aload_n hx hb dX10_lift_4 rfl (lv_at hl 0 rfl) ?_
  refine lv_aload_n hx hb dX10_lift_5 rfl (lv_at hl 0 rfl) ?_
  obtain ⟨r2, G2, e2, h⟩ := bsome2 h
  refine wr_V F hP hS k_X10_doLift mw_1449 0 11 rfl (wsW_get 0 (by decide)) (q_X10_doLift l D Y ad hI G1  r2 G2 e2) rfl hl.1 ⟨Nat.le_of_ble_eq_true rfl, Nat.le_of_ble_eq_true rfl⟩ (rest := [.ref (ad 0)]) rfl (Nat.le_of_ble_eq_true rfl) ⟨Nat.le_of_ble_eq_true rfl, Nat.le_of_ble_eq_true rfl⟩ dX10_lift_6 (fun H locs o2 hP hS => ?_)
  obtain ⟨r3, G3, e3, h⟩ := bsome2 h
  refine wr_V F hP hS k_X10_ends mw_1390 0 11 rfl (wsW_get 0 (by decide)) (q_X10_ends l D Y ad hI G2 r2 r3 G3 e3) rfl hl.1 ⟨Nat.le_of_ble_eq_true rfl, Nat.le_of_ble_eq_true rfl⟩ (rest := []) rfl (Nat.le_of_ble_eq_true rfl) ⟨Nat.le_of_ble_eq_true rfl, Nat.le_of_ble_eq_true rfl⟩ dX10_lift_9 (fun H locs o3 hP hS => ?_)
  exact wr_end F hP hS hr hk rfl h dX10_lift_12
def f_X10_doLimit (G : GT) (a1 : Int32) : Option (Int32 × GT) := ((f_X10_in G a1 (1 : Int32) (11 : Int32)).bind fun r1 => (if r1 = 0 then (bind2 (f_X10_fails G (1 : Int32)) fun r6 G6 => some (r6, G6)) else (if (G 1 2) = a1 then (bind2 (f_X10_refuse G (2 : Int32) (2 : Int32) a1) fun r5 G5 => some (r5, G5)) else ((some (upR G 1 (upd (G 1) (2 : Int32).toNatClampNeg a1))).bind fun G4 => some ((G 1 2), G4)))))
set_option maxRecDepth 100000 in
set_option maxHeartbeats 4000000 in
theorem q_X10_doLimit (l : Launch) (D : va_G) (Y : Nat → ClassId) (ad : Nat → Nat) (hI : Inj 8 ad) (G : GT) (a1 : Int32) (r : Int32) (G' : GT) (h : f_X10_doLimit G a1 = some (r, G')) : WR l yX10_doLimit cX10_doLimit 3 (some .int) 1 D Y 8 ad (kM Y ad) G [.ref (ad 0), .int a1] r G' := by
  refine W_of (ret := (some .int)) (by decide) (Nat.le_of_ble_eq_true rfl) (lv := [(0, .ref (ad 0)), (1, .int a1)]) rfl ?_
  intro p e s m below meth c ls F hP hS hr hk hl
  have F : Fx p c cX10_doLimit 3 s m _ RX10 D Y := F
  have hx := F.1.1
  have hb := F.1.2.1
  refine lv_aload_n hx hb dX10_doLimit_0 rfl (lv_at hl 0 rfl) ?_
  refine rM_0_0 F hP dX10_doLimit_1 ?_
  refine lv_iconst (v := 2) hx hb dX10_doLimit_4 (by decide) ?_
  refine alk F hP 1 (wsW_get 1 (by decide)) (k := 2) (by decide) (inbV (by decide) (by decide)) dX10_doLimit_5 ?_
  refine lv_istore_n (lv' := [(2, .int ((G 1 2))), (0, .ref (ad 0)), (1, .int a1)]) hx hb dX10_doLimit_6 rfl hl (by decide) rfl (fun ls hl => ?_)
  refine lv_iload_n hx hb dX10_doLimit_7 rfl (lv_at hl 2 rfl) ?_
  refine lv_iconst (v := 1) hx hb dX10_doLimit_8 (by decide) ?_
  refine lv_bipush (v := 11) hx hb dX10_doLimit_9 (by decide) ?_
  obtain ⟨r1, e1, h⟩ := bsome h
  refine rd_S F hP k_X10_in mw_1379 (q_X10_in l D Y ad G a1 (1 : Int32) (11 : Int32) r1 e1) rfl hl.1 ⟨Nat.le_of_ble_eq_true rfl, Nat.le_of_ble_eq_true rfl⟩ (rest := []) rfl (Nat.le_of_ble_eq_true rfl) ⟨Nat.le_of_ble_eq_true rfl, Nat.le_of_ble_eq_true rfl⟩ dX10_doLimit_11 (fun o1 => ?_)
  refine lv_if_ne (tgt := 23) hx hb dX10_doLimit_14 (by decide) (fun c2 => ?_) (fun c2 => ?_)
  · have h := ifF h c2
    refine lv_iload_n hx hb dX10_doLimit_23 rfl (lv_at hl 0 rfl) ?_
    refine lv_iload_n hx hb dX10_doLimit_24 rfl (lv_at hl 2 rfl) ?_
    refine lv_icmp_ne (tgt := 36) hx hb dX10_doLimit_25 (by decide) (fun c3 => ?_) (fun c3 => ?_)
    · have h := ifF h c3
      refine lv_aload_n hx hb dX10_doLimit_36 rfl (lv_at hl 1 rfl) ?_
      refine rM_0_0 F hP dX10_doLimit_37 ?_
      refine lv_iconst (v := 2) hx hb dX10_doLimit_40 (by decide) ?_
      refine lv_iload_n hx hb dX10_doLimit_41 rfl (lv_at hl 2 rfl) ?_
      obtain ⟨G4, e4, h⟩ := bsome h
      refine ast F hI hP hS (fun i h => ⟨i, h, rfl⟩) 1 (by decide) (fun _ => rfl) (inbV (by decide) (by decide)) dX10_doLimit_42 (fun H locs hP hS => ?_)
      have hP := cvP e4 hP
      refine lv_iload_n hx hb dX10_doLimit_43 rfl (lv_at hl 0 rfl) ?_
      exact wr_end F hP hS hr hk rfl h dX10_doLimit_44
    · have h := ifT h c3
      refine lv_aload_n hx hb dX10_doLimit_28 rfl (lv_at hl 1 rfl) ?_
      refine lv_iconst (v := 2) hx hb dX10_doLimit_29 (by decide) ?_
      refine lv_iconst (v := 2) hx hb dX10_doLimit_30 (by decide) ?_
      refine lv_iload_n hx hb dX10_doLimit_31 rfl (lv_at hl 2 rfl) ?_
      obtain ⟨r5, G5, e5, h⟩ := bsome2 h
      refine wr_V F hP hS k_X10_refuse mw_1386 0 11 rfl (wsW_get 0 (by decide)) (q_X10_refuse l D Y ad hI G (2 : Int32) (2 : Int32) a1 r5 G5 e5) rfl hl.1 ⟨Nat.le_of_ble_eq_true rfl, Nat.le_of_ble_eq_true rfl⟩ (rest := []) rfl (Nat.le_of_ble_eq_true rfl) ⟨Nat.le_of_ble_eq_true rfl, Nat.le_of_ble_eq_true rfl⟩ dX10_doLimit_32 (fun H locs o5 hP hS => ?_)
      exact wr_end F hP hS hr hk rfl h dX10_doLimit_35
  · have h := ifT h c2
    refine lv_aload_n hx hb dX10_doLimit_17 rfl (lv_at hl 1 rfl) ?_
    refine lv_iconst (v := 1) hx hb dX10_doLimit_18 (by decide) ?_
    obtain ⟨r6, G6, e6, h⟩ := bsome2 h
    refine wr_V F hP hS k_X10_fails mw_1382 0 11 rfl (wsW_get 0 (by decide)) (q_X10_fails l D Y ad hI G (1 : Int32) r6 G6 e6) rfl hl.1 ⟨Nat.le_of_ble_eq_true rfl, Nat.le_of_ble_eq_true rfl⟩ (rest := []) rfl (Nat.le_of_ble_eq_true rfl) ⟨Nat.le_of_ble_eq_true rfl, Nat.le_of_ble_eq_true rfl⟩ dX10_doLimit_19 (fun H locs o6 hP hS => ?_)
    exact wr_end F hP hS hr hk rfl h dX10_doLimit_22
def f_X10_limit (G : GT) (a1 : Int32) : Option (Int32 × GT) := ((f_X10_keep G ).bind fun G1 => (bind2 (f_X10_doLimit G1 a1) fun r2 G2 => (bind2 (f_X10_ends G2 r2) fun r3 G3 => some (r3, G3))))
set_option maxRecDepth 100000 in
set_option maxHeartbeats 4000000 in
theorem q_X10_limit (l : Launch) (D : va_G) (Y : Nat → ClassId) (ad : Nat → Nat) (hI : Inj 8 ad) (G : GT) (a1 : Int32) (r : Int32) (G' : GT) (h : f_X10_limit G a1 = some (r, G')) : WR l yX10_limit cX10_limit 2 (some .int) 2 D Y 8 ad (kM Y ad) G [.ref (ad 0), .int a1] r G' := by
  refine W_of (ret := (some .int)) (by decide) (Nat.le_of_ble_eq_true rfl) (lv := [(0, .ref (ad 0)), (1, .int a1)]) rfl ?_
  intro p e s m below meth c ls F hP hS hr hk hl
  have F : Fx p c cX10_limit 2 s m _ RX10 D Y := F
  have hx := F.1.1
  have hb := F.1.2.1
  refine lv_aload_n hx hb dX10_limit_0 rfl (lv_at hl 0 rfl) ?_
  obtain ⟨G1, e1, h⟩ := bsome h
  refine wv_V F hP hS k_X10_keep mw_1368 0 11 rfl (wsW_get 0 (by decide)) (q_X10_keep l D Y ad hI G  G1 e1) rfl hl.1 ⟨Nat.le_of_ble_eq_true rfl, Nat.le_of_ble_eq_true rfl⟩ (rest := []) rfl (Nat.le_of_ble_eq_true rfl) ⟨Nat.le_of_ble_eq_true rfl, Nat.le_of_ble_eq_true rfl⟩ dX10_limit_1 (fun H locs hP hS => ?_)
  refine lv_aload_n hx hb dX10_limit_4 rfl (lv_at hl 0 rfl) ?_
  refine lv_aload_n hx hb dX10_limit_5 rfl (lv_at hl 0 rfl) ?_
  refine lv_iload_n hx hb dX10_limit_6 rfl (lv_at hl 1 rfl) ?_
  obtain ⟨r2, G2, e2, h⟩ := bsome2 h
  refine wr_V F hP hS k_X10_doLimit mw_1457 0 11 rfl (wsW_get 0 (by decide)) (q_X10_doLimit l D Y ad hI G1 a1 r2 G2 e2) rfl hl.1 ⟨Nat.le_of_ble_eq_true rfl, Nat.le_of_ble_eq_true rfl⟩ (rest := [.ref (ad 0)]) rfl (Nat.le_of_ble_eq_true rfl) ⟨Nat.le_of_ble_eq_true rfl, Nat.le_of_ble_eq_true rfl⟩ dX10_limit_7 (fun H locs o2 hP hS => ?_)
  obtain ⟨r3, G3, e3, h⟩ := bsome2 h
  refine wr_V F hP hS k_X10_ends mw_1390 0 11 rfl (wsW_get 0 (by decide)) (q_X10_ends l D Y ad hI G2 r2 r3 G3 e3) rfl hl.1 ⟨Nat.le_of_ble_eq_true rfl, Nat.le_of_ble_eq_true rfl⟩ (rest := []) rfl (Nat.le_of_ble_eq_true rfl) ⟨Nat.le_of_ble_eq_true rfl, Nat.le_of_ble_eq_true rfl⟩ dX10_limit_10 (fun H locs o3 hP hS => ?_)
  exact wr_end F hP hS hr hk rfl h dX10_limit_13
def f_X10_doTune (G : GT) (a1 : Int32) (a2 : Int32) : Option (Int32 × GT) := ((f_X10_isSound G a1).bind fun r1 => (if r1 = 0 then (bind2 (f_X10_fails G (1 : Int32)) fun r14 G14 => some (r14, G14)) else ((f_X10_in G a2 (0 : Int32) (9 : Int32)).bind fun r3 => (if r3 = 0 then (bind2 (f_X10_fails G (2 : Int32)) fun r13 G13 => some (r13, G13)) else ((f_X10_of G a1 (1 : Int32)).bind fun r5 => (if 0 ≤ r5 then (if r5 = a2 then (bind2 (f_X10_refuse G (3 : Int32) (2 : Int32) a2) fun r10 G10 => some (r10, G10)) else (if inb (((19 : Int32) + ((3 : Int32) * a1)) + (1 : Int32)) 67 then ((some (upR G 1 (upd (G 1) (((19 : Int32) + ((3 : Int32) * a1)) + (1 : Int32)).toNatClampNeg a2))).bind fun G9 => some (r5, G9)) else none)) else ((f_X10_of G a1 (2 : Int32)).bind fun r11 => (bind2 (f_X10_refuse G (3 : Int32) (6 : Int32) r11) fun r12 G12 => some (r12, G12)))))))))
set_option maxRecDepth 100000 in
set_option maxHeartbeats 4000000 in
theorem q_X10_doTune (l : Launch) (D : va_G) (Y : Nat → ClassId) (ad : Nat → Nat) (hI : Inj 8 ad) (G : GT) (a1 : Int32) (a2 : Int32) (r : Int32) (G' : GT) (h : f_X10_doTune G a1 a2 = some (r, G')) : WR l yX10_doTune cX10_doTune 4 (some .int) 2 D Y 8 ad (kM Y ad) G [.ref (ad 0), .int a1, .int a2] r G' := by
  refine W_of (ret := (some .int)) (by decide) (Nat.le_of_ble_eq_true rfl) (lv := [(0, .ref (ad 0)), (1, .int a1), (2, .int a2)]) rfl ?_
  intro p e s m below meth c ls F hP hS hr hk hl
  have F : Fx p c cX10_doTune 4 s m _ RX10 D Y := F
  have hx := F.1.1
  have hb := F.1.2.1
  refine lv_aload_n hx hb dX10_doTune_0 rfl (lv_at hl 0 rfl) ?_
  refine lv_iload_n hx hb dX10_doTune_1 rfl (lv_at hl 1 rfl) ?_
  obtain ⟨r1, e1, h⟩ := bsome h
  refine rd_V F hP k_X10_isSound mw_1469 0 11 rfl (wsW_get 0 (by decide)) (q_X10_isSound l D Y ad G a1 r1 e1) rfl hl.1 ⟨Nat.le_of_ble_eq_true rfl, Nat.le_of_ble_eq_true rfl⟩ (rest := []) rfl (Nat.le_of_ble_eq_true rfl) ⟨Nat.le_of_ble_eq_true rfl, Nat.le_of_ble_eq_true rfl⟩ dX10_doTune_2 (fun o1 => ?_)
  refine lv_if_ne (tgt := 14) hx hb dX10_doTune_5 (by decide) (fun c2 => ?_) (fun c2 => ?_)
  · have h := ifF h c2
    refine lv_iload_n hx hb dX10_doTune_14 rfl (lv_at hl 2 rfl) ?_
    refine lv_iconst (v := 0) hx hb dX10_doTune_15 (by decide) ?_
    refine lv_bipush (v := 9) hx hb dX10_doTune_16 (by decide) ?_
    obtain ⟨r3, e3, h⟩ := bsome h
    refine rd_S F hP k_X10_in mw_1379 (q_X10_in l D Y ad G a2 (0 : Int32) (9 : Int32) r3 e3) rfl hl.1 ⟨Nat.le_of_ble_eq_true rfl, Nat.le_of_ble_eq_true rfl⟩ (rest := []) rfl (Nat.le_of_ble_eq_true rfl) ⟨Nat.le_of_ble_eq_true rfl, Nat.le_of_ble_eq_true rfl⟩ dX10_doTune_18 (fun o3 => ?_)
    refine lv_if_ne (tgt := 30) hx hb dX10_doTune_21 (by decide) (fun c4 => ?_) (fun c4 => ?_)
    · have h := ifF h c4
      refine lv_aload_n hx hb dX10_doTune_30 rfl (lv_at hl 0 rfl) ?_
      refine lv_iload_n hx hb dX10_doTune_31 rfl (lv_at hl 1 rfl) ?_
      refine lv_iconst (v := 1) hx hb dX10_doTune_32 (by decide) ?_
      obtain ⟨r5, e5, h⟩ := bsome h
      refine rd_V F hP k_X10_of mw_1433 0 11 rfl (wsW_get 0 (by decide)) (q_X10_of l D Y ad G a1 (1 : Int32) r5 e5) rfl hl.1 ⟨Nat.le_of_ble_eq_true rfl, Nat.le_of_ble_eq_true rfl⟩ (rest := []) rfl (Nat.le_of_ble_eq_true rfl) ⟨Nat.le_of_ble_eq_true rfl, Nat.le_of_ble_eq_true rfl⟩ dX10_doTune_33 (fun o5 => ?_)
      refine lv_istore_n (lv' := [(3, .int r5), (0, .ref (ad 0)), (1, .int a1), (2, .int a2)]) hx hb dX10_doTune_36 rfl hl (by decide) rfl (fun ls hl => ?_)
      refine lv_iload_n hx hb dX10_doTune_37 rfl (lv_at hl 0 rfl) ?_
      refine lv_if_ge (tgt := 55) hx hb dX10_doTune_38 (by decide) (fun c6 => ?_) (fun c6 => ?_)
      · have h := ifT h c6
        refine lv_iload_n hx hb dX10_doTune_55 rfl (lv_at hl 0 rfl) ?_
        refine lv_iload_n hx hb dX10_doTune_56 rfl (lv_at hl 3 rfl) ?_
        refine lv_icmp_ne (tgt := 68) hx hb dX10_doTune_57 (by decide) (fun c7 => ?_) (fun c7 => ?_)
        · have h := ifF h c7
          refine lv_aload_n hx hb dX10_doTune_68 rfl (lv_at hl 1 rfl) ?_
          refine rM_0_0 F hP dX10_doTune_69 ?_
          refine lv_bipush (v := 19) hx hb dX10_doTune_72 (by decide) ?_
          refine lv_iconst (v := 3) hx hb dX10_doTune_74 (by decide) ?_
          refine lv_iload_n hx hb dX10_doTune_75 rfl (lv_at hl 2 rfl) ?_
          refine lv_imul hx hb dX10_doTune_76 ?_
          refine lv_iadd hx hb dX10_doTune_77 ?_
          refine lv_iconst (v := 1) hx hb dX10_doTune_78 (by decide) ?_
          refine lv_iadd hx hb dX10_doTune_79 ?_
          refine lv_iload_n hx hb dX10_doTune_80 rfl (lv_at hl 3 rfl) ?_
          obtain ⟨b8, h⟩ := ckS h
          obtain ⟨G9, e9, h⟩ := bsome h
          refine ast F hI hP hS (fun i h => ⟨i, h, rfl⟩) 1 (by decide) (fun _ => rfl) (inbV b8 (by decide)) dX10_doTune_81 (fun H locs hP hS => ?_)
          have hP := cvP e9 hP
          refine lv_iload_n hx hb dX10_doTune_82 rfl (lv_at hl 0 rfl) ?_
          exact wr_end F hP hS hr hk rfl h dX10_doTune_83
        · have h := ifT h c7
          refine lv_aload_n hx hb dX10_doTune_60 rfl (lv_at hl 1 rfl) ?_
          refine lv_iconst (v := 3) hx hb dX10_doTune_61 (by decide) ?_
          refine lv_iconst (v := 2) hx hb dX10_doTune_62 (by decide) ?_
          refine lv_iload_n hx hb dX10_doTune_63 rfl (lv_at hl 3 rfl) ?_
          obtain ⟨r10, G10, e10, h⟩ := bsome2 h
          refine wr_V F hP hS k_X10_refuse mw_1386 0 11 rfl (wsW_get 0 (by decide)) (q_X10_refuse l D Y ad hI G (3 : Int32) (2 : Int32) a2 r10 G10 e10) rfl hl.1 ⟨Nat.le_of_ble_eq_true rfl, Nat.le_of_ble_eq_true rfl⟩ (rest := []) rfl (Nat.le_of_ble_eq_true rfl) ⟨Nat.le_of_ble_eq_true rfl, Nat.le_of_ble_eq_true rfl⟩ dX10_doTune_64 (fun H locs o10 hP hS => ?_)
          exact wr_end F hP hS hr hk rfl h dX10_doTune_67
      · have h := ifF h c6
        refine lv_aload_n hx hb dX10_doTune_41 rfl (lv_at hl 1 rfl) ?_
        refine lv_iconst (v := 3) hx hb dX10_doTune_42 (by decide) ?_
        refine lv_bipush (v := 6) hx hb dX10_doTune_43 (by decide) ?_
        refine lv_aload_n hx hb dX10_doTune_45 rfl (lv_at hl 1 rfl) ?_
        refine lv_iload_n hx hb dX10_doTune_46 rfl (lv_at hl 2 rfl) ?_
        refine lv_iconst (v := 2) hx hb dX10_doTune_47 (by decide) ?_
        obtain ⟨r11, e11, h⟩ := bsome h
        refine rd_V F hP k_X10_of mw_1433 0 11 rfl (wsW_get 0 (by decide)) (q_X10_of l D Y ad G a1 (2 : Int32) r11 e11) rfl hl.1 ⟨Nat.le_of_ble_eq_true rfl, Nat.le_of_ble_eq_true rfl⟩ (rest := [.int ((6 : Int32)), .int ((3 : Int32)), .ref (ad 0)]) rfl (Nat.le_of_ble_eq_true rfl) ⟨Nat.le_of_ble_eq_true rfl, Nat.le_of_ble_eq_true rfl⟩ dX10_doTune_48 (fun o11 => ?_)
        obtain ⟨r12, G12, e12, h⟩ := bsome2 h
        refine wr_V F hP hS k_X10_refuse mw_1386 0 11 rfl (wsW_get 0 (by decide)) (q_X10_refuse l D Y ad hI G (3 : Int32) (6 : Int32) r11 r12 G12 e12) rfl hl.1 ⟨Nat.le_of_ble_eq_true rfl, Nat.le_of_ble_eq_true rfl⟩ (rest := []) rfl (Nat.le_of_ble_eq_true rfl) ⟨Nat.le_of_ble_eq_true rfl, Nat.le_of_ble_eq_true rfl⟩ dX10_doTune_51 (fun H locs o12 hP hS => ?_)
        exact wr_end F hP hS hr hk rfl h dX10_doTune_54
    · have h := ifT h c4
      refine lv_aload_n hx hb dX10_doTune_24 rfl (lv_at hl 0 rfl) ?_
      refine lv_iconst (v := 2) hx hb dX10_doTune_25 (by decide) ?_
      obtain ⟨r13, G13, e13, h⟩ := bsome2 h
      refine wr_V F hP hS k_X10_fails mw_1382 0 11 rfl (wsW_get 0 (by decide)) (q_X10_fails l D Y ad hI G (2 : Int32) r13 G13 e13) rfl hl.1 ⟨Nat.le_of_ble_eq_true rfl, Nat.le_of_ble_eq_true rfl⟩ (rest := []) rfl (Nat.le_of_ble_eq_true rfl) ⟨Nat.le_of_ble_eq_true rfl, Nat.le_of_ble_eq_true rfl⟩ dX10_doTune_26 (fun H locs o13 hP hS => ?_)
      exact wr_end F hP hS hr hk rfl h dX10_doTune_29
  · have h := ifT h c2
    refine lv_aload_n hx hb dX10_doTune_8 rfl (lv_at hl 0 rfl) ?_
    refine lv_iconst (v := 1) hx hb dX10_doTune_9 (by decide) ?_
    obtain ⟨r14, G14, e14, h⟩ := bsome2 h
    refine wr_V F hP hS k_X10_fails mw_1382 0 11 rfl (wsW_get 0 (by decide)) (q_X10_fails l D Y ad hI G (1 : Int32) r14 G14 e14) rfl hl.1 ⟨Nat.le_of_ble_eq_true rfl, Nat.le_of_ble_eq_true rfl⟩ (rest := []) rfl (Nat.le_of_ble_eq_true rfl) ⟨Nat.le_of_ble_eq_true rfl, Nat.le_of_ble_eq_true rfl⟩ dX10_doTune_10 (fun H locs o14 hP hS => ?_)
    exact wr_end F hP hS hr hk rfl h dX10_doTune_13
def f_X10_tune (G : GT) (a1 : Int32) (a2 : Int32) : Option (Int32 × GT) := ((f_X10_keep G ).bind fun G1 => (bind2 (f_X10_doTune G1 a1 a2) fun r2 G2 => (bind2 (f_X10_ends G2 r2) fun r3 G3 => some (r3, G3))))
set_option maxRecDepth 100000 in
set_option maxHeartbeats 4000000 in
theorem q_X10_tune (l : Launch) (D : va_G) (Y : Nat → ClassId) (ad : Nat → Nat) (hI : Inj 8 ad) (G : GT) (a1 : Int32) (a2 : Int32) (r : Int32) (G' : GT) (h : f_X10_tune G a1 a2 = some (r, G')) : WR l yX10_tune cX10_tune 3 (some .int) 3 D Y 8 ad (kM Y ad) G [.ref (ad 0), .int a1, .int a2] r G' := by
  refine W_of (ret := (some .int)) (by decide) (Nat.le_of_ble_eq_true rfl) (lv := [(0, .ref (ad 0)), (1, .int a1), (2, .int a2)]) rfl ?_
  intro p e s m below meth c ls F hP hS hr hk hl
  have F : Fx p c cX10_tune 3 s m _ RX10 D Y := F
  have hx := F.1.1
  have hb := F.1.2.1
  refine lv_aload_n hx hb dX10_tune_0 rfl (lv_at hl 0 rfl) ?_
  obtain ⟨G1, e1, h⟩ := bsome h
  refine wv_V F hP hS k_X10_keep mw_1368 0 11 rfl (wsW_get 0 (by decide)) (q_X10_keep l D Y ad hI G  G1 e1) rfl hl.1 ⟨Nat.le_of_ble_eq_true rfl, Nat.le_of_ble_eq_true rfl⟩ (rest := []) rfl (Nat.le_of_ble_eq_true rfl) ⟨Nat.le_of_ble_eq_true rfl, Nat.le_of_ble_eq_true rfl⟩ dX10_tune_1 (fun H locs hP hS => ?_)
  refine lv_aload_n hx hb dX10_tune_4 rfl (lv_at hl 0 rfl) ?_
  refine lv_aload_n hx hb dX10_tune_5 rfl (lv_at hl 0 rfl) ?_
  refine lv_iload_n hx hb dX10_tune_6 rfl (lv_at hl 1 rfl) ?_
  refine lv_iload_n hx hb dX10_tune_7 rfl (lv_at hl 2 rfl) ?_
  obtain ⟨r2, G2, e2, h⟩ := bsome2 h
  refine wr_V F hP hS k_X10_doTune mw_1465 0 11 rfl (wsW_get 0 (by decide)) (q_X10_doTune l D Y ad hI G1 a1 a2 r2 G2 e2) rfl hl.1 ⟨Nat.le_of_ble_eq_true rfl, Nat.le_of_ble_eq_true rfl⟩ (rest := [.ref (ad 0)]) rfl (Nat.le_of_ble_eq_true rfl) ⟨Nat.le_of_ble_eq_true rfl, Nat.le_of_ble_eq_true rfl⟩ dX10_tune_8 (fun H locs o2 hP hS => ?_)
  obtain ⟨r3, G3, e3, h⟩ := bsome2 h
  refine wr_V F hP hS k_X10_ends mw_1390 0 11 rfl (wsW_get 0 (by decide)) (q_X10_ends l D Y ad hI G2 r2 r3 G3 e3) rfl hl.1 ⟨Nat.le_of_ble_eq_true rfl, Nat.le_of_ble_eq_true rfl⟩ (rest := []) rfl (Nat.le_of_ble_eq_true rfl) ⟨Nat.le_of_ble_eq_true rfl, Nat.le_of_ble_eq_true rfl⟩ dX10_tune_11 (fun H locs o3 hP hS => ?_)
  exact wr_end F hP hS hr hk rfl h dX10_tune_14
