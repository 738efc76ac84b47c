abbrev n64 (r : UInt64) : Prop := r &&& 0x7fffffffffffffff ≤ 0x7ff0000000000000
abbrev n32 (r : UInt32) : Prop := r &&& 0x7fffffff ≤ 0x7f800000
theorem xat_3 : ∀ w ∈ ((nsAtoms RX9 389).filter vx_no).filter goodWord, w ∈ LW := by decide +kernel
theorem xnt_3 : ∀ w ∈ ((nsAtoms RX9 389).filter vx_no).filter (fun w => !goodWord w), w ∈ NW := by decide +kernel
theorem xgd_3 : ∀ w ∈ Cond.classLink RX9 385 nsX :: Cond.initialized nsX :: (nsAtoms RX9 389).filter vx_no, vx_ot w = true := by decide +kernel
theorem xall_3 {args : Array Value} {s : State} (hts : ∀ w ∈ LW, w.before args s = true) (hN : Nw s) : ∀ w ∈ (nsAtoms RX9 389).filter vx_no, w.before args s = true := fun w hw => by
  by_cases g : goodWord w = true
  · exact hts w (xat_3 w (List.mem_filter.mpr ⟨hw, g⟩))
  · have h1 := xnt_3 w (List.mem_filter.mpr ⟨hw, by simp [g]⟩)
    have h2 := hN w h1
    have h3 := (List.mem_filter.mp h1).2
    cases w <;> first | exact Bool.noConfusion h3 | exact va_Nw.use rfl h2
set_option maxRecDepth 100000 in
set_option maxHeartbeats 4000000 in
theorem q_X9_needPlace (l : Launch) (hst : l.stackTraces = false) (D : va_G) (Y : Nat → ClassId) (ws : va_W) (kd : Nat → Nat) (A : Nat → Prop) (a0 : Int32) : XN l yX9_needPlace cX9_needPlace 0 D Y ws kd A a0 := by
  refine X_of (ret := none) (by decide) (Nat.le_of_ble_eq_true rfl) (lv := [(0, .int a0)]) rfl ?_
  intro p e s m below meth c ls F hP hK hS hr hk hex hl
  have F : Fx p c cX9_needPlace 1 s m _ RX9 D Y := F
  have hx := F.1.1
  have hb := F.1.2.1
  have hts := F.1.2.2.2.2
  have hown := F.1.2.2.2.1
  refine lv_iload_n hx hb dX9_needPlace_0 rfl (lv_at hl 0 rfl) ?_
  refine lv_if_ne (tgt := 15) hx hb dX9_needPlace_1 (by decide) (fun c1 => ?_) (fun c1 => ?_)
  · refine W.widen (k := 1) (n := 6) (Nat.le_of_ble_eq_true rfl) (Nat.le_of_ble_eq_true rfl) (vx_ret ?_)
    exact W.vret hx hb hr (fun t ht _ => ⟨rfl, c1, ht⟩) (fun q hq => by cases hq) dX9_needPlace_15 hk
  · exact vx_throwSW hx hb hst hown (by decide +kernel) (by decide +kernel) (hts _ mw_364) (hts _ mw_15) (hK.2.2.2.2.2 0 (by decide)) (xall_0 hts F.2.2) xgd_0 hK.2.2.2.2.1.2.2.1 hK.2.2.2.2.1.2.2.2 hS (hl.1.trans F.1.2.2.1.symm) dX9_needPlace_4 dX9_needPlace_7 dX9_needPlace_8 dX9_needPlace_11 dX9_needPlace_14 (fun x hx => (hex x hx).elim) (Nat.le_of_ble_eq_true rfl) (Nat.le_of_ble_eq_true rfl) (Nat.le_of_ble_eq_true rfl) (Nat.le_of_ble_eq_true rfl) hk (fun t _ h1 h2 => ⟨rfl, c1, h1, h2⟩) (fun z hz => by cases hz) (Nat.le_of_ble_eq_true rfl) (Nat.le_of_ble_eq_true rfl)
set_option maxRecDepth 100000 in
set_option maxHeartbeats 4000000 in
theorem q_X9_needRange (l : Launch) (hst : l.stackTraces = false) (D : va_G) (Y : Nat → ClassId) (ws : va_W) (kd : Nat → Nat) (A : Nat → Prop) (a0 : Int32) : XN l yX9_needRange cX9_needRange 1 D Y ws kd A a0 := by
  refine X_of (ret := none) (by decide) (Nat.le_of_ble_eq_true rfl) (lv := [(0, .int a0)]) rfl ?_
  intro p e s m below meth c ls F hP hK hS hr hk hex hl
  have F : Fx p c cX9_needRange 1 s m _ RX9 D Y := F
  have hx := F.1.1
  have hb := F.1.2.1
  have hts := F.1.2.2.2.2
  have hown := F.1.2.2.2.1
  refine lv_iload_n hx hb dX9_needRange_0 rfl (lv_at hl 0 rfl) ?_
  refine lv_if_ne (tgt := 15) hx hb dX9_needRange_1 (by decide) (fun c1 => ?_) (fun c1 => ?_)
  · refine W.widen (k := 1) (n := 6) (Nat.le_of_ble_eq_true rfl) (Nat.le_of_ble_eq_true rfl) (vx_ret ?_)
    exact W.vret hx hb hr (fun t ht _ => ⟨rfl, c1, ht⟩) (fun q hq => by cases hq) dX9_needRange_15 hk
  · exact vx_throwSW hx hb hst hown (by decide +kernel) (by decide +kernel) (hts _ mw_439) (hts _ mw_16) (hK.2.2.2.2.2 1 (by decide)) (xall_1 hts F.2.2) xgd_1 hK.2.2.2.2.1.2.2.1 hK.2.2.2.2.1.2.2.2 hS (hl.1.trans F.1.2.2.1.symm) dX9_needRange_4 dX9_needRange_7 dX9_needRange_8 dX9_needRange_11 dX9_needRange_14 (fun x hx => (hex x hx).elim) (Nat.le_of_ble_eq_true rfl) (Nat.le_of_ble_eq_true rfl) (Nat.le_of_ble_eq_true rfl) (Nat.le_of_ble_eq_true rfl) hk (fun t _ h1 h2 => ⟨rfl, c1, h1, h2⟩) (fun z hz => by cases hz) (Nat.le_of_ble_eq_true rfl) (Nat.le_of_ble_eq_true rfl)
set_option maxRecDepth 100000 in
set_option maxHeartbeats 4000000 in
theorem q_X9_needConsent (l : Launch) (hst : l.stackTraces = false) (D : va_G) (Y : Nat → ClassId) (ws : va_W) (kd : Nat → Nat) (A : Nat → Prop) (a0 : Int32) : XN l yX9_needConsent cX9_needConsent 2 D Y ws kd A a0 := by
  refine X_of (ret := none) (by decide) (Nat.le_of_ble_eq_true rfl) (lv := [(0, .int a0)]) rfl ?_
  intro p e s m below meth c ls F hP hK hS hr hk hex hl
  have F : Fx p c cX9_needConsent 1 s m _ RX9 D Y := F
  have hx := F.1.1
  have hb := F.1.2.1
  have hts := F.1.2.2.2.2
  have hown := F.1.2.2.2.1
  refine lv_iload_n hx hb dX9_needConsent_0 rfl (lv_at hl 0 rfl) ?_
  refine lv_if_ne (tgt := 15) hx hb dX9_needConsent_1 (by decide) (fun c1 => ?_) (fun c1 => ?_)
  · refine W.widen (k := 1) (n := 6) (Nat.le_of_ble_eq_true rfl) (Nat.le_of_ble_eq_true rfl) (vx_ret ?_)
    exact W.vret hx hb hr (fun t ht _ => ⟨rfl, c1, ht⟩) (fun q hq => by cases hq) dX9_needConsent_15 hk
  · exact vx_throwSW hx hb hst hown (by decide +kernel) (by decide +kernel) (hts _ mw_458) (hts _ mw_17) (hK.2.2.2.2.2 2 (by decide)) (xall_2 hts F.2.2) xgd_2 hK.2.2.2.2.1.2.2.1 hK.2.2.2.2.1.2.2.2 hS (hl.1.trans F.1.2.2.1.symm) dX9_needConsent_4 dX9_needConsent_7 dX9_needConsent_8 dX9_needConsent_11 dX9_needConsent_14 (fun x hx => (hex x hx).elim) (Nat.le_of_ble_eq_true rfl) (Nat.le_of_ble_eq_true rfl) (Nat.le_of_ble_eq_true rfl) (Nat.le_of_ble_eq_true rfl) hk (fun t _ h1 h2 => ⟨rfl, c1, h1, h2⟩) (fun z hz => by cases hz) (Nat.le_of_ble_eq_true rfl) (Nat.le_of_ble_eq_true rfl)
set_option maxRecDepth 100000 in
set_option maxHeartbeats 4000000 in
theorem q_X9_needElement (l : Launch) (hst : l.stackTraces = false) (D : va_G) (Y : Nat → ClassId) (ws : va_W) (kd : Nat → Nat) (A : Nat → Prop) (a0 : Int32) : XN l yX9_needElement cX9_needElement 3 D Y ws kd A a0 := by
  refine X_of (ret := none) (by decide) (Nat.le_of_ble_eq_true rfl) (lv := [(0, .int a0)]) rfl ?_
  intro p e s m below meth c ls F hP hK hS hr hk hex hl
  have F : Fx p c cX9_needElement 1 s m _ RX9 D Y := F
  have hx := F.1.1
  have hb := F.1.2.1
  have hts := F.1.2.2.2.2
  have hown := F.1.2.2.2.1
  refine lv_iload_n hx hb dX9_needElement_0 rfl (lv_at hl 0 rfl) ?_
  refine lv_if_ne (tgt := 15) hx hb dX9_needElement_1 (by decide) (fun c1 => ?_) (fun c1 => ?_)
  · refine W.widen (k := 1) (n := 6) (Nat.le_of_ble_eq_true rfl) (Nat.le_of_ble_eq_true rfl) (vx_ret ?_)
    exact W.vret hx hb hr (fun t ht _ => ⟨rfl, c1, ht⟩) (fun q hq => by cases hq) dX9_needElement_15 hk
  · exact ns_throwSW hx hb hst hown (hts _ mw_597) (hts _ mw_21) (hK.2.2.2.2.2 3 (by decide)) (xall_3 hts F.2.2) xgd_3 hK.2.2.2.2.1.2.2.1 hK.2.2.2.2.1.2.2.2 hS (hl.1.trans F.1.2.2.1.symm) dX9_needElement_4 dX9_needElement_7 dX9_needElement_8 dX9_needElement_11 dX9_needElement_14 (fun x hx => (hex x hx).elim) (Nat.le_of_ble_eq_true rfl) (Nat.le_of_ble_eq_true rfl) (Nat.le_of_ble_eq_true rfl) (Nat.le_of_ble_eq_true rfl) hk (fun t _ h1 h2 => ⟨rfl, c1, h1, h2⟩) (fun z hz => by cases hz) (Nat.le_of_ble_eq_true rfl) (Nat.le_of_ble_eq_true rfl)
set_option maxRecDepth 100000 in
set_option maxHeartbeats 4000000 in
theorem q_X9_needState (l : Launch) (hst : l.stackTraces = false) (D : va_G) (Y : Nat → ClassId) (ws : va_W) (kd : Nat → Nat) (A : Nat → Prop) (a0 : Int32) : XN l yX9_needState cX9_needState 4 D Y ws kd A a0 := by
  refine X_of (ret := none) (by decide) (Nat.le_of_ble_eq_true rfl) (lv := [(0, .int a0)]) rfl ?_
  intro p e s m below meth c ls F hP hK hS hr hk hex hl
  have F : Fx p c cX9_needState 1 s m _ RX9 D Y := F
  have hx := F.1.1
  have hb := F.1.2.1
  have hts := F.1.2.2.2.2
  have hown := F.1.2.2.2.1
  refine lv_iload_n hx hb dX9_needState_0 rfl (lv_at hl 0 rfl) ?_
  refine lv_if_ne (tgt := 15) hx hb dX9_needState_1 (by decide) (fun c1 => ?_) (fun c1 => ?_)
  · refine W.widen (k := 1) (n := 6) (Nat.le_of_ble_eq_true rfl) (Nat.le_of_ble_eq_true rfl) (vx_ret ?_)
    exact W.vret hx hb hr (fun t ht _ => ⟨rfl, c1, ht⟩) (fun q hq => by cases hq) dX9_needState_15 hk
  · exact vx_throwSW hx hb hst hown (by decide +kernel) (by decide +kernel) (hts _ mw_1461) (hts _ mw_33) (hK.2.2.2.2.2 17 (by decide)) (xall_4 hts F.2.2) xgd_4 hK.2.2.2.2.1.2.2.1 hK.2.2.2.2.1.2.2.2 hS (hl.1.trans F.1.2.2.1.symm) dX9_needState_4 dX9_needState_7 dX9_needState_8 dX9_needState_11 dX9_needState_14 (fun x hx => (hex x hx).elim) (Nat.le_of_ble_eq_true rfl) (Nat.le_of_ble_eq_true rfl) (Nat.le_of_ble_eq_true rfl) (Nat.le_of_ble_eq_true rfl) hk (fun t _ h1 h2 => ⟨rfl, c1, h1, h2⟩) (fun z hz => by cases hz) (Nat.le_of_ble_eq_true rfl) (Nat.le_of_ble_eq_true rfl)
