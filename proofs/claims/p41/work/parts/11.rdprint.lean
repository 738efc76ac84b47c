abbrev inb (i : Int32) (z : Nat) : Prop := 0 ≤ i ∧ i < nI z
theorem inbV {i : Int32} {z : Nat} (h : inb i z) (hz : z < 2 ^ 31) : vp_in i z := by
  rcases pk_ix i hz with h1 | h1 | ⟨j, hj, rfl⟩
  · exact absurd h.1 (Int32.not_le.mpr h1)
  · exact absurd h.2 (Int32.not_lt.mpr h1)
  · exact vp_in_nI hj hz
theorem ckS {α : Type} {c : Prop} [Decidable c] {A : Option α} {r : α} (h : (if c then A else none) = some r) : c ∧ A = some r := by
  by_cases hc : c
  · exact ⟨hc, by rwa [if_pos hc] at h⟩
  · rw [if_neg hc] at h
    cases h
def cell32 (z : Nat) (f : Nat → Int32) (i : Int32) : Int32 := if i < 0 then 0 else if nI z ≤ i then 0 else f i.toNatClampNeg
section AK
variable {p : Program} {l : Launch} {e : Env} {R : Room} {s : State} {m : MethodId} {args : Array Value} {below : List Frame} {meth : Method} {c : Code} {H : Heap} {locs : List Loc} {cells slots : Nat} {Q : State → Prop}
variable {cc : ByteArray} {pc nL : Nat} {ls : Array Slot} {rest : List Value} {own : String} {D : va_G} {Y : Nat → ClassId} {ws : va_W}
theorem alk {a z : Nat} {f : Nat → Int32} (F : Fx p c cc nL s m args own D Y) (hP : va_P D vwCl ws H) (q0 : Nat) (he : ws[q0]? = some (a, .inl (Y 0, z, .inl f))) {i : Int32} {k : Nat} (hk : i.toNatClampNeg = k) (hi : vp_in i z) (hdg : decode cc pc = .ok (.iaload, 1))
    (kk : W p l e R s m args below meth c H locs cells slots Q (F0 m (pc + 1) ls (.int (f k) :: rest))) : W p l e R s m args below meth c H locs cells slots Q (F0 m pc ls (.int i :: .ref a :: rest)) := by
  subst hk
  exact al F hP q0 he hi hdg kk
end AK
set_option maxRecDepth 100000 in
set_option maxHeartbeats 4000000 in
theorem q_X9_cell (l : Launch) (D : va_G) (Y : Nat → ClassId) (ad : Nat → Nat) (G : Nat → Nat → Int32) (i z : Nat) (hz : i < 90 ∧ z < 2 ^ 31) (he : ∀ g, kC Y ad i g = .inl (Y 0, z, .inl g)) (a1 : Int32) (r : Int32) (h : some (cell32 z (G i) a1) = some r) : RD l yX9_cell cX9_cell 2 (some .int) 1 D Y (wsC Y ad G) [.ref (ad i), .int a1] r := by
  refine RD_of (by decide) (Nat.le_of_ble_eq_true rfl) (lv := [(0, .ref (ad i)), (1, .int a1)]) rfl ?_
  intro p e s m below meth c ls F hP hr hk hl
  have F : Fx p c cX9_cell 2 s m _ RX9 D Y := F
  have hx := F.1.1
  have hb := F.1.2.1
  have hg : (wsC Y ad G)[i]? = some (ad i, .inl (Y 0, z, .inl (G i))) := (wsW_get i hz.1).trans (by rw [he])
  have key : ∀ (v : Int32) (ls : Array Slot), cell32 z (G i) a1 = v → WD p l e 1 s m ([.ref (ad i), .int a1] : List Value).toArray below meth c s.heap (some .int) r (F0 m 17 ls [.int v]) := fun v ls hv => rd_end F hr hk rfl (by rw [← hv]; exact h) dX9_cell_17
  refine lv_iload_n hx hb dX9_cell_0 rfl (lv_at hl 1 rfl) ?_
  refine lv_if_lt (tgt := 16) hx hb dX9_cell_1 (by decide) (fun c1 => ?_) (fun c1 => ?_)
  · refine lv_iconst (v := 0) hx hb dX9_cell_16 (by decide) ?_
    exact key 0 ls (by unfold cell32; rw [if_pos c1])
  · refine lv_iload_n hx hb dX9_cell_4 rfl (lv_at hl 1 rfl) ?_
    refine lv_aload_n hx hb dX9_cell_5 rfl (lv_at hl 0 rfl) ?_
    refine alen F hP i hg dX9_cell_6 ?_
    refine lv_icmp_ge (tgt := 16) hx hb dX9_cell_7 (by decide) (fun c2 => ?_) (fun c2 => ?_)
    · refine lv_iconst (v := 0) hx hb dX9_cell_16 (by decide) ?_
      exact key 0 ls (by unfold cell32; rw [if_neg c1, if_pos c2])
    · refine lv_aload_n hx hb dX9_cell_10 rfl (lv_at hl 0 rfl) ?_
      refine lv_iload_n hx hb dX9_cell_11 rfl (lv_at hl 1 rfl) ?_
      refine al F hP i hg (inbV ⟨Int32.not_lt.mp c1, Int32.not_le.mp c2⟩ hz.2) dX9_cell_12 ?_
      refine lv_goto (tgt := 17) hx hb dX9_cell_13 (by decide) ?_
      exact key _ ls (by unfold cell32; rw [if_neg c1, if_neg c2])
def f_X9_isWithin (G : Nat → Nat → Int32) (a0 : Int32) (a1 : Int32) (a2 : Int32) : Option Int32 := (if a0 < a1 then some (0 : Int32) else (if a2 < a0 then some (0 : Int32) else some (1 : Int32)))
set_option maxRecDepth 100000 in
set_option maxHeartbeats 4000000 in
theorem q_X9_isWithin (l : Launch) (D : va_G) (Y : Nat → ClassId) (ad : Nat → Nat) (G : Nat → Nat → Int32) (a0 : Int32) (a1 : Int32) (a2 : Int32) (r : Int32) (h : f_X9_isWithin G a0 a1 a2 = some r) : RD l yX9_isWithin cX9_isWithin 3 (some .boolean) 0 D Y (wsC Y ad G) [.int a0, .int a1, .int a2] r := by
  refine RD_of (by decide) (Nat.le_of_ble_eq_true rfl) (lv := [(0, .int a0), (1, .int a1), (2, .int a2)]) rfl ?_
  intro p e s m below meth c ls F hP hr hk hl
  have F : Fx p c cX9_isWithin 3 s m _ RX9 D Y := F
  have hx := F.1.1
  have hb := F.1.2.1
  refine lv_iload_n hx hb dX9_isWithin_0 rfl (lv_at hl 0 rfl) ?_
  refine lv_iload_n hx hb dX9_isWithin_1 rfl (lv_at hl 1 rfl) ?_
  refine lv_icmp_lt (tgt := 14) hx hb dX9_isWithin_2 (by decide) (fun c1 => ?_) (fun c1 => ?_)
  · have h := ifT h c1
    refine lv_iconst (v := 0) hx hb dX9_isWithin_14 (by decide) ?_
    exact rd_end F hr hk rfl h dX9_isWithin_15
  · have h := ifF h c1
    refine lv_iload_n hx hb dX9_isWithin_5 rfl (lv_at hl 0 rfl) ?_
    refine lv_iload_n hx hb dX9_isWithin_6 rfl (lv_at hl 2 rfl) ?_
    refine lv_icmp_gt (tgt := 14) hx hb dX9_isWithin_7 (by decide) (fun c2 => ?_) (fun c2 => ?_)
    · have h := ifT h c2
      refine lv_iconst (v := 0) hx hb dX9_isWithin_14 (by decide) ?_
      exact rd_end F hr hk rfl h dX9_isWithin_15
    · have h := ifF h c2
      refine lv_iconst (v := 1) hx hb dX9_isWithin_10 (by decide) ?_
      refine lv_goto (tgt := 15) hx hb dX9_isWithin_11 (by decide) ?_
      exact rd_end F hr hk rfl h dX9_isWithin_15
def f_X9_isTin (G : Nat → Nat → Int32) (a0 : Int32) : Option Int32 := ((f_X9_isWithin G a0 (0 : Int32) (3 : Int32)).bind fun r1 => some r1)
set_option maxRecDepth 100000 in
set_option maxHeartbeats 4000000 in
theorem q_X9_isTin (l : Launch) (D : va_G) (Y : Nat → ClassId) (ad : Nat → Nat) (G : Nat → Nat → Int32) (a0 : Int32) (r : Int32) (h : f_X9_isTin G a0 = some r) : RD l yX9_isTin cX9_isTin 1 (some .boolean) 1 D Y (wsC Y ad G) [.int a0] r := by
  refine RD_of (by decide) (Nat.le_of_ble_eq_true rfl) (lv := [(0, .int a0)]) rfl ?_
  intro p e s m below meth c ls F hP hr hk hl
  have F : Fx p c cX9_isTin 1 s m _ RX9 D Y := F
  have hx := F.1.1
  have hb := F.1.2.1
  refine lv_iload_n hx hb dX9_isTin_0 rfl (lv_at hl 0 rfl) ?_
  refine lv_iconst (v := 0) hx hb dX9_isTin_1 (by decide) ?_
  refine lv_iconst (v := 3) hx hb dX9_isTin_2 (by decide) ?_
  obtain ⟨r1, e1, h⟩ := bsome h
  refine rd_S F hP k_X9_isWithin mw_287 (q_X9_isWithin l D Y ad G a0 (0 : Int32) (3 : Int32) r1 e1) rfl hl.1 ⟨Nat.le_of_ble_eq_true rfl, Nat.le_of_ble_eq_true rfl⟩ (rest := []) rfl (Nat.le_of_ble_eq_true rfl) ⟨Nat.le_of_ble_eq_true rfl, Nat.le_of_ble_eq_true rfl⟩ dX9_isTin_3 (fun o1 => ?_)
  exact rd_end F hr hk o1 h dX9_isTin_6
def f_X5_countOfBars (G : Nat → Nat → Int32) : Option Int32 := some (G 0 6)
set_option maxRecDepth 100000 in
set_option maxHeartbeats 4000000 in
theorem q_X5_countOfBars (l : Launch) (D : va_G) (Y : Nat → ClassId) (ad : Nat → Nat) (G : Nat → Nat → Int32) (r : Int32) (h : f_X5_countOfBars G  = some r) : RD l yX5_countOfBars cX5_countOfBars 1 (some .int) 0 D Y (wsC Y ad G) [.ref (ad 0)] r := by
  refine RD_of (by decide) (Nat.le_of_ble_eq_true rfl) (lv := [(0, .ref (ad 0))]) rfl ?_
  intro p e s m below meth c ls F hP hr hk hl
  have F : Fx p c cX5_countOfBars 1 s m _ RX5 D Y := F
  have hx := F.1.1
  have hb := F.1.2.1
  refine lv_aload_n hx hb dX5_countOfBars_0 rfl (lv_at hl 0 rfl) ?_
  refine rC_0_6 F hP dX5_countOfBars_1 ?_
  exact rd_end F hr hk rfl h dX5_countOfBars_4
def f_X5_countOfSounds (G : Nat → Nat → Int32) : Option Int32 := some (G 0 7)
set_option maxRecDepth 100000 in
set_option maxHeartbeats 4000000 in
theorem q_X5_countOfSounds (l : Launch) (D : va_G) (Y : Nat → ClassId) (ad : Nat → Nat) (G : Nat → Nat → Int32) (r : Int32) (h : f_X5_countOfSounds G  = some r) : RD l yX5_countOfSounds cX5_countOfSounds 1 (some .int) 0 D Y (wsC Y ad G) [.ref (ad 0)] r := by
  refine RD_of (by decide) (Nat.le_of_ble_eq_true rfl) (lv := [(0, .ref (ad 0))]) rfl ?_
  intro p e s m below meth c ls F hP hr hk hl
  have F : Fx p c cX5_countOfSounds 1 s m _ RX5 D Y := F
  have hx := F.1.1
  have hb := F.1.2.1
  refine lv_aload_n hx hb dX5_countOfSounds_0 rfl (lv_at hl 0 rfl) ?_
  refine rC_0_7 F hP dX5_countOfSounds_1 ?_
  exact rd_end F hr hk rfl h dX5_countOfSounds_4
def f_X5_limitNow (G : Nat → Nat → Int32) : Option Int32 := some (G 0 8)
set_option maxRecDepth 100000 in
set_option maxHeartbeats 4000000 in
theorem q_X5_limitNow (l : Launch) (D : va_G) (Y : Nat → ClassId) (ad : Nat → Nat) (G : Nat → Nat → Int32) (r : Int32) (h : f_X5_limitNow G  = some r) : RD l yX5_limitNow cX5_limitNow 1 (some .int) 0 D Y (wsC Y ad G) [.ref (ad 0)] r := by
  refine RD_of (by decide) (Nat.le_of_ble_eq_true rfl) (lv := [(0, .ref (ad 0))]) rfl ?_
  intro p e s m below meth c ls F hP hr hk hl
  have F : Fx p c cX5_limitNow 1 s m _ RX5 D Y := F
  have hx := F.1.1
  have hb := F.1.2.1
  refine lv_aload_n hx hb dX5_limitNow_0 rfl (lv_at hl 0 rfl) ?_
  refine rC_0_8 F hP dX5_limitNow_1 ?_
  exact rd_end F hr hk rfl h dX5_limitNow_4
def f_X5_setSoFar (G : Nat → Nat → Int32) : Option Int32 := some (G 0 9)
set_option maxRecDepth 100000 in
set_option maxHeartbeats 4000000 in
theorem q_X5_setSoFar (l : Launch) (D : va_G) (Y : Nat → ClassId) (ad : Nat → Nat) (G : Nat → Nat → Int32) (r : Int32) (h : f_X5_setSoFar G  = some r) : RD l yX5_setSoFar cX5_setSoFar 1 (some .int) 0 D Y (wsC Y ad G) [.ref (ad 0)] r := by
  refine RD_of (by decide) (Nat.le_of_ble_eq_true rfl) (lv := [(0, .ref (ad 0))]) rfl ?_
  intro p e s m below meth c ls F hP hr hk hl
  have F : Fx p c cX5_setSoFar 1 s m _ RX5 D Y := F
  have hx := F.1.1
  have hb := F.1.2.1
  refine lv_aload_n hx hb dX5_setSoFar_0 rfl (lv_at hl 0 rfl) ?_
  refine rC_0_9 F hP dX5_setSoFar_1 ?_
  exact rd_end F hr hk rfl h dX5_setSoFar_4
def f_X5_takenSoFar (G : Nat → Nat → Int32) : Option Int32 := some (G 0 10)
set_option maxRecDepth 100000 in
set_option maxHeartbeats 4000000 in
theorem q_X5_takenSoFar (l : Launch) (D : va_G) (Y : Nat → ClassId) (ad : Nat → Nat) (G : Nat → Nat → Int32) (r : Int32) (h : f_X5_takenSoFar G  = some r) : RD l yX5_takenSoFar cX5_takenSoFar 1 (some .int) 0 D Y (wsC Y ad G) [.ref (ad 0)] r := by
  refine RD_of (by decide) (Nat.le_of_ble_eq_true rfl) (lv := [(0, .ref (ad 0))]) rfl ?_
  intro p e s m below meth c ls F hP hr hk hl
  have F : Fx p c cX5_takenSoFar 1 s m _ RX5 D Y := F
  have hx := F.1.1
  have hb := F.1.2.1
  refine lv_aload_n hx hb dX5_takenSoFar_0 rfl (lv_at hl 0 rfl) ?_
  refine rC_0_10 F hP dX5_takenSoFar_1 ?_
  exact rd_end F hr hk rfl h dX5_takenSoFar_4
def f_X5_hasBar (G : Nat → Nat → Int32) (a1 : Int32) : Option Int32 := ((f_X9_isWithin G a1 (0 : Int32) ((G 0 6) - (1 : Int32))).bind fun r1 => some r1)
set_option maxRecDepth 100000 in
set_option maxHeartbeats 4000000 in
theorem q_X5_hasBar (l : Launch) (D : va_G) (Y : Nat → ClassId) (ad : Nat → Nat) (G : Nat → Nat → Int32) (a1 : Int32) (r : Int32) (h : f_X5_hasBar G a1 = some r) : RD l yX5_hasBar cX5_hasBar 2 (some .boolean) 1 D Y (wsC Y ad G) [.ref (ad 0), .int a1] r := by
  refine RD_of (by decide) (Nat.le_of_ble_eq_true rfl) (lv := [(0, .ref (ad 0)), (1, .int a1)]) rfl ?_
  intro p e s m below meth c ls F hP hr hk hl
  have F : Fx p c cX5_hasBar 2 s m _ RX5 D Y := F
  have hx := F.1.1
  have hb := F.1.2.1
  refine lv_iload_n hx hb dX5_hasBar_0 rfl (lv_at hl 1 rfl) ?_
  refine lv_iconst (v := 0) hx hb dX5_hasBar_1 (by decide) ?_
  refine lv_aload_n hx hb dX5_hasBar_2 rfl (lv_at hl 0 rfl) ?_
  refine rC_0_6 F hP dX5_hasBar_3 ?_
  refine lv_iconst (v := 1) hx hb dX5_hasBar_6 (by decide) ?_
  refine lv_isub hx hb dX5_hasBar_7 ?_
  obtain ⟨r1, e1, h⟩ := bsome h
  refine rd_SN F hP k_X9_isWithin mw_348 (q_X9_isWithin l D Y ad G a1 (0 : Int32) ((G 0 6) - (1 : Int32)) r1 e1) rfl hl.1 ⟨Nat.le_of_ble_eq_true rfl, Nat.le_of_ble_eq_true rfl⟩ (rest := []) rfl (Nat.le_of_ble_eq_true rfl) ⟨Nat.le_of_ble_eq_true rfl, Nat.le_of_ble_eq_true rfl⟩ dX5_hasBar_8 (fun o1 => ?_)
  exact rd_end F hr hk o1 h dX5_hasBar_11
def f_X5_hasSound (G : Nat → Nat → Int32) (a1 : Int32) : Option Int32 := ((f_X9_isWithin G a1 (0 : Int32) ((G 0 7) - (1 : Int32))).bind fun r1 => some r1)
set_option maxRecDepth 100000 in
set_option maxHeartbeats 4000000 in
theorem q_X5_hasSound (l : Launch) (D : va_G) (Y : Nat → ClassId) (ad : Nat → Nat) (G : Nat → Nat → Int32) (a1 : Int32) (r : Int32) (h : f_X5_hasSound G a1 = some r) : RD l yX5_hasSound cX5_hasSound 2 (some .boolean) 1 D Y (wsC Y ad G) [.ref (ad 0), .int a1] r := by
  refine RD_of (by decide) (Nat.le_of_ble_eq_true rfl) (lv := [(0, .ref (ad 0)), (1, .int a1)]) rfl ?_
  intro p e s m below meth c ls F hP hr hk hl
  have F : Fx p c cX5_hasSound 2 s m _ RX5 D Y := F
  have hx := F.1.1
  have hb := F.1.2.1
  refine lv_iload_n hx hb dX5_hasSound_0 rfl (lv_at hl 1 rfl) ?_
  refine lv_iconst (v := 0) hx hb dX5_hasSound_1 (by decide) ?_
  refine lv_aload_n hx hb dX5_hasSound_2 rfl (lv_at hl 0 rfl) ?_
  refine rC_0_7 F hP dX5_hasSound_3 ?_
  refine lv_iconst (v := 1) hx hb dX5_hasSound_6 (by decide) ?_
  refine lv_isub hx hb dX5_hasSound_7 ?_
  obtain ⟨r1, e1, h⟩ := bsome h
  refine rd_SN F hP k_X9_isWithin mw_348 (q_X9_isWithin l D Y ad G a1 (0 : Int32) ((G 0 7) - (1 : Int32)) r1 e1) rfl hl.1 ⟨Nat.le_of_ble_eq_true rfl, Nat.le_of_ble_eq_true rfl⟩ (rest := []) rfl (Nat.le_of_ble_eq_true rfl) ⟨Nat.le_of_ble_eq_true rfl, Nat.le_of_ble_eq_true rfl⟩ dX5_hasSound_8 (fun o1 => ?_)
  exact rd_end F hr hk o1 h dX5_hasSound_11
def f_X5_keyOf (G : Nat → Nat → Int32) (a1 : Int32) : Option Int32 := some (cell32 4 (G 2) a1)
set_option maxRecDepth 100000 in
set_option maxHeartbeats 4000000 in
theorem q_X5_keyOf (l : Launch) (D : va_G) (Y : Nat → ClassId) (ad : Nat → Nat) (G : Nat → Nat → Int32) (a1 : Int32) (r : Int32) (h : f_X5_keyOf G a1 = some r) : RD l yX5_keyOf cX5_keyOf 2 (some .int) 2 D Y (wsC Y ad G) [.ref (ad 0), .int a1] r := by
  refine RD_of (by decide) (Nat.le_of_ble_eq_true rfl) (lv := [(0, .ref (ad 0)), (1, .int a1)]) rfl ?_
  intro p e s m below meth c ls F hP hr hk hl
  have F : Fx p c cX5_keyOf 2 s m _ RX5 D Y := F
  have hx := F.1.1
  have hb := F.1.2.1
  refine lv_aload_n hx hb dX5_keyOf_0 rfl (lv_at hl 0 rfl) ?_
  refine rC_0_1 F hP dX5_keyOf_1 ?_
  refine lv_iload_n hx hb dX5_keyOf_4 rfl (lv_at hl 1 rfl) ?_
  refine rd_SN F hP k_X9_cell mw_277 (q_X9_cell l D Y ad G 2 4 (by decide) (fun _ => rfl) a1 _ rfl) rfl hl.1 ⟨Nat.le_of_ble_eq_true rfl, Nat.le_of_ble_eq_true rfl⟩ (rest := []) rfl (Nat.le_of_ble_eq_true rfl) ⟨Nat.le_of_ble_eq_true rfl, Nat.le_of_ble_eq_true rfl⟩ dX5_keyOf_5 (fun _ => ?_)
  exact rd_end F hr hk rfl h dX5_keyOf_8
def f_X5_leakOf (G : Nat → Nat → Int32) (a1 : Int32) : Option Int32 := some (cell32 4 (G 3) a1)
set_option maxRecDepth 100000 in
set_option maxHeartbeats 4000000 in
theorem q_X5_leakOf (l : Launch) (D : va_G) (Y : Nat → ClassId) (ad : Nat → Nat) (G : Nat → Nat → Int32) (a1 : Int32) (r : Int32) (h : f_X5_leakOf G a1 = some r) : RD l yX5_leakOf cX5_leakOf 2 (some .int) 2 D Y (wsC Y ad G) [.ref (ad 0), .int a1] r := by
  refine RD_of (by decide) (Nat.le_of_ble_eq_true rfl) (lv := [(0, .ref (ad 0)), (1, .int a1)]) rfl ?_
  intro p e s m below meth c ls F hP hr hk hl
  have F : Fx p c cX5_leakOf 2 s m _ RX5 D Y := F
  have hx := F.1.1
  have hb := F.1.2.1
  refine lv_aload_n hx hb dX5_leakOf_0 rfl (lv_at hl 0 rfl) ?_
  refine rC_0_2 F hP dX5_leakOf_1 ?_
  refine lv_iload_n hx hb dX5_leakOf_4 rfl (lv_at hl 1 rfl) ?_
  refine rd_SN F hP k_X9_cell mw_277 (q_X9_cell l D Y ad G 3 4 (by decide) (fun _ => rfl) a1 _ rfl) rfl hl.1 ⟨Nat.le_of_ble_eq_true rfl, Nat.le_of_ble_eq_true rfl⟩ (rest := []) rfl (Nat.le_of_ble_eq_true rfl) ⟨Nat.le_of_ble_eq_true rfl, Nat.le_of_ble_eq_true rfl⟩ dX5_leakOf_5 (fun _ => ?_)
  exact rd_end F hr hk rfl h dX5_leakOf_8
def f_X5_sizeOf (G : Nat → Nat → Int32) (a1 : Int32) : Option Int32 := some (cell32 6 (G 1) a1)
set_option maxRecDepth 100000 in
set_option maxHeartbeats 4000000 in
theorem q_X5_sizeOf (l : Launch) (D : va_G) (Y : Nat → ClassId) (ad : Nat → Nat) (G : Nat → Nat → Int32) (a1 : Int32) (r : Int32) (h : f_X5_sizeOf G a1 = some r) : RD l yX5_sizeOf cX5_sizeOf 2 (some .int) 2 D Y (wsC Y ad G) [.ref (ad 0), .int a1] r := by
  refine RD_of (by decide) (Nat.le_of_ble_eq_true rfl) (lv := [(0, .ref (ad 0)), (1, .int a1)]) rfl ?_
  intro p e s m below meth c ls F hP hr hk hl
  have F : Fx p c cX5_sizeOf 2 s m _ RX5 D Y := F
  have hx := F.1.1
  have hb := F.1.2.1
  refine lv_aload_n hx hb dX5_sizeOf_0 rfl (lv_at hl 0 rfl) ?_
  refine rC_0_0 F hP dX5_sizeOf_1 ?_
  refine lv_iload_n hx hb dX5_sizeOf_4 rfl (lv_at hl 1 rfl) ?_
  refine rd_SN F hP k_X9_cell mw_277 (q_X9_cell l D Y ad G 1 6 (by decide) (fun _ => rfl) a1 _ rfl) rfl hl.1 ⟨Nat.le_of_ble_eq_true rfl, Nat.le_of_ble_eq_true rfl⟩ (rest := []) rfl (Nat.le_of_ble_eq_true rfl) ⟨Nat.le_of_ble_eq_true rfl, Nat.le_of_ble_eq_true rfl⟩ dX5_sizeOf_5 (fun _ => ?_)
  exact rd_end F hr hk rfl h dX5_sizeOf_8
def f_X5_tinOfSound (G : Nat → Nat → Int32) (a1 : Int32) : Option Int32 := some (cell32 16 (G 4) a1)
set_option maxRecDepth 100000 in
set_option maxHeartbeats 4000000 in
theorem q_X5_tinOfSound (l : Launch) (D : va_G) (Y : Nat → ClassId) (ad : Nat → Nat) (G : Nat → Nat → Int32) (a1 : Int32) (r : Int32) (h : f_X5_tinOfSound G a1 = some r) : RD l yX5_tinOfSound cX5_tinOfSound 2 (some .int) 2 D Y (wsC Y ad G) [.ref (ad 0), .int a1] r := by
  refine RD_of (by decide) (Nat.le_of_ble_eq_true rfl) (lv := [(0, .ref (ad 0)), (1, .int a1)]) rfl ?_
  intro p e s m below meth c ls F hP hr hk hl
  have F : Fx p c cX5_tinOfSound 2 s m _ RX5 D Y := F
  have hx := F.1.1
  have hb := F.1.2.1
  refine lv_aload_n hx hb dX5_tinOfSound_0 rfl (lv_at hl 0 rfl) ?_
  refine rC_0_3 F hP dX5_tinOfSound_1 ?_
  refine lv_iload_n hx hb dX5_tinOfSound_4 rfl (lv_at hl 1 rfl) ?_
  refine rd_SN F hP k_X9_cell mw_277 (q_X9_cell l D Y ad G 4 16 (by decide) (fun _ => rfl) a1 _ rfl) rfl hl.1 ⟨Nat.le_of_ble_eq_true rfl, Nat.le_of_ble_eq_true rfl⟩ (rest := []) rfl (Nat.le_of_ble_eq_true rfl) ⟨Nat.le_of_ble_eq_true rfl, Nat.le_of_ble_eq_true rfl⟩ dX5_tinOfSound_5 (fun _ => ?_)
  exact rd_end F hr hk rfl h dX5_tinOfSound_8
def f_X5_heightOf (G : Nat → Nat → Int32) (a1 : Int32) : Option Int32 := some (cell32 16 (G 5) a1)
set_option maxRecDepth 100000 in
set_option maxHeartbeats 4000000 in
theorem q_X5_heightOf (l : Launch) (D : va_G) (Y : Nat → ClassId) (ad : Nat → Nat) (G : Nat → Nat → Int32) (a1 : Int32) (r : Int32) (h : f_X5_heightOf G a1 = some r) : RD l yX5_heightOf cX5_heightOf 2 (some .int) 2 D Y (wsC Y ad G) [.ref (ad 0), .int a1] r := by
  refine RD_of (by decide) (Nat.le_of_ble_eq_true rfl) (lv := [(0, .ref (ad 0)), (1, .int a1)]) rfl ?_
  intro p e s m below meth c ls F hP hr hk hl
  have F : Fx p c cX5_heightOf 2 s m _ RX5 D Y := F
  have hx := F.1.1
  have hb := F.1.2.1
  refine lv_aload_n hx hb dX5_heightOf_0 rfl (lv_at hl 0 rfl) ?_
  refine rC_0_4 F hP dX5_heightOf_1 ?_
  refine lv_iload_n hx hb dX5_heightOf_4 rfl (lv_at hl 1 rfl) ?_
  refine rd_SN F hP k_X9_cell mw_277 (q_X9_cell l D Y ad G 5 16 (by decide) (fun _ => rfl) a1 _ rfl) rfl hl.1 ⟨Nat.le_of_ble_eq_true rfl, Nat.le_of_ble_eq_true rfl⟩ (rest := []) rfl (Nat.le_of_ble_eq_true rfl) ⟨Nat.le_of_ble_eq_true rfl, Nat.le_of_ble_eq_true rfl⟩ dX5_heightOf_5 (fun _ => ?_)
  exact rd_end F hr hk rfl h dX5_heightOf_8
def f_X5_beatsOf (G : Nat → Nat → Int32) (a1 : Int32) : Option Int32 := some (cell32 16 (G 6) a1)
set_option maxRecDepth 100000 in
set_option maxHeartbeats 4000000 in
theorem q_X5_beatsOf (l : Launch) (D : va_G) (Y : Nat → ClassId) (ad : Nat → Nat) (G : Nat → Nat → Int32) (a1 : Int32) (r : Int32) (h : f_X5_beatsOf G a1 = some r) : RD l yX5_beatsOf cX5_beatsOf 2 (some .int) 2 D Y (wsC Y ad G) [.ref (ad 0), .int a1] r := by
  refine RD_of (by decide) (Nat.le_of_ble_eq_true rfl) (lv := [(0, .ref (ad 0)), (1, .int a1)]) rfl ?_
  intro p e s m below meth c ls F hP hr hk hl
  have F : Fx p c cX5_beatsOf 2 s m _ RX5 D Y := F
  have hx := F.1.1
  have hb := F.1.2.1
  refine lv_aload_n hx hb dX5_beatsOf_0 rfl (lv_at hl 0 rfl) ?_
  refine rC_0_5 F hP dX5_beatsOf_1 ?_
  refine lv_iload_n hx hb dX5_beatsOf_4 rfl (lv_at hl 1 rfl) ?_
  refine rd_SN F hP k_X9_cell mw_277 (q_X9_cell l D Y ad G 6 16 (by decide) (fun _ => rfl) a1 _ rfl) rfl hl.1 ⟨Nat.le_of_ble_eq_true rfl, Nat.le_of_ble_eq_true rfl⟩ (rest := []) rfl (Nat.le_of_ble_eq_true rfl) ⟨Nat.le_of_ble_eq_true rfl, Nat.le_of_ble_eq_true rfl⟩ dX5_beatsOf_5 (fun _ => ?_)
  exact rd_end F hr hk rfl h dX5_beatsOf_8
def f_X5_isRest (G : Nat → Nat → Int32) (a1 : Int32) : Option Int32 := (if (cell32 16 (G 5) a1) = (-1 : Int32) then some (1 : Int32) else some (0 : Int32))
set_option maxRecDepth 100000 in
set_option maxHeartbeats 4000000 in
theorem q_X5_isRest (l : Launch) (D : va_G) (Y : Nat → ClassId) (ad : Nat → Nat) (G : Nat → Nat → Int32) (a1 : Int32) (r : Int32) (h : f_X5_isRest G a1 = some r) : RD l yX5_isRest cX5_isRest 2 (some .boolean) 2 D Y (wsC Y ad G) [.ref (ad 0), .int a1] r := by
  refine RD_of (by decide) (Nat.le_of_ble_eq_true rfl) (lv := [(0, .ref (ad 0)), (1, .int a1)]) rfl ?_
  intro p e s m below meth c ls F hP hr hk hl
  have F : Fx p c cX5_isRest 2 s m _ RX5 D Y := F
  have hx := F.1.1
  have hb := F.1.2.1
  refine lv_aload_n hx hb dX5_isRest_0 rfl (lv_at hl 0 rfl) ?_
  refine rC_0_4 F hP dX5_isRest_1 ?_
  refine lv_iload_n hx hb dX5_isRest_4 rfl (lv_at hl 1 rfl) ?_
  refine rd_SN F hP k_X9_cell mw_277 (q_X9_cell l D Y ad G 5 16 (by decide) (fun _ => rfl) a1 _ rfl) rfl hl.1 ⟨Nat.le_of_ble_eq_true rfl, Nat.le_of_ble_eq_true rfl⟩ (rest := []) rfl (Nat.le_of_ble_eq_true rfl) ⟨Nat.le_of_ble_eq_true rfl, Nat.le_of_ble_eq_true rfl⟩ dX5_isRest_5 (fun _ => ?_)
  refine lv_iconst (v := -1) hx hb dX5_isRest_8 (by decide) ?_
  refine lv_icmp_ne (tgt := 16) hx hb dX5_isRest_9 (by decide) (fun c1 => ?_) (fun c1 => ?_)
  · have h := ifF h c1
    refine lv_iconst (v := 0) hx hb dX5_isRest_16 (by decide) ?_
    exact rd_end F hr hk rfl h dX5_isRest_17
  · have h := ifT h c1
    refine lv_iconst (v := 1) hx hb dX5_isRest_12 (by decide) ?_
    refine lv_goto (tgt := 17) hx hb dX5_isRest_13 (by decide) ?_
    exact rd_end F hr hk rfl h dX5_isRest_17
def f_X5_pitchOf (G : Nat → Nat → Int32) (a1 : Int32) : Option Int32 := (if (cell32 16 (G 5) a1) = (-1 : Int32) then some (-1 : Int32) else (if ((cell32 4 (G 2) (cell32 16 (G 4) a1)) + (cell32 16 (G 5) a1)) < (12 : Int32) then some ((cell32 4 (G 2) (cell32 16 (G 4) a1)) + (cell32 16 (G 5) a1)) else some (((cell32 4 (G 2) (cell32 16 (G 4) a1)) + (cell32 16 (G 5) a1)) - (12 : Int32))))
set_option maxRecDepth 100000 in
set_option maxHeartbeats 4000000 in
theorem q_X5_pitchOf (l : Launch) (D : va_G) (Y : Nat → ClassId) (ad : Nat → Nat) (G : Nat → Nat → Int32) (a1 : Int32) (r : Int32) (h : f_X5_pitchOf G a1 = some r) : RD l yX5_pitchOf cX5_pitchOf 4 (some .int) 2 D Y (wsC Y ad G) [.ref (ad 0), .int a1] r := by
  refine RD_of (by decide) (Nat.le_of_ble_eq_true rfl) (lv := [(0, .ref (ad 0)), (1, .int a1)]) rfl ?_
  intro p e s m below meth c ls F hP hr hk hl
  have F : Fx p c cX5_pitchOf 4 s m _ RX5 D Y := F
  have hx := F.1.1
  have hb := F.1.2.1
  refine lv_aload_n hx hb dX5_pitchOf_0 rfl (lv_at hl 0 rfl) ?_
  refine rC_0_4 F hP dX5_pitchOf_1 ?_
  refine lv_iload_n hx hb dX5_pitchOf_4 rfl (lv_at hl 1 rfl) ?_
  refine rd_SN F hP k_X9_cell mw_277 (q_X9_cell l D Y ad G 5 16 (by decide) (fun _ => rfl) a1 _ rfl) rfl hl.1 ⟨Nat.le_of_ble_eq_true rfl, Nat.le_of_ble_eq_true rfl⟩ (rest := []) rfl (Nat.le_of_ble_eq_true rfl) ⟨Nat.le_of_ble_eq_true rfl, Nat.le_of_ble_eq_true rfl⟩ dX5_pitchOf_5 (fun _ => ?_)
  refine lv_istore_n (lv' := [(2, .int ((cell32 16 (G 5) a1))), (0, .ref (ad 0)), (1, .int a1)]) hx hb dX5_pitchOf_8 rfl hl (by decide) rfl (fun ls hl => ?_)
  refine lv_iload_n hx hb dX5_pitchOf_9 rfl (lv_at hl 0 rfl) ?_
  refine lv_iconst (v := -1) hx hb dX5_pitchOf_10 (by decide) ?_
  refine lv_icmp_ne (tgt := 16) hx hb dX5_pitchOf_11 (by decide) (fun c1 => ?_) (fun c1 => ?_)
  · have h := ifF h c1
    refine lv_aload_n hx hb dX5_pitchOf_16 rfl (lv_at hl 1 rfl) ?_
    refine rC_0_1 F hP dX5_pitchOf_17 ?_
    refine lv_aload_n hx hb dX5_pitchOf_20 rfl (lv_at hl 1 rfl) ?_
    refine rC_0_3 F hP dX5_pitchOf_21 ?_
    refine lv_iload_n hx hb dX5_pitchOf_24 rfl (lv_at hl 2 rfl) ?_
    refine rd_SN F hP k_X9_cell mw_277 (q_X9_cell l D Y ad G 4 16 (by decide) (fun _ => rfl) a1 _ rfl) rfl hl.1 ⟨Nat.le_of_ble_eq_true rfl, Nat.le_of_ble_eq_true rfl⟩ (rest := [.ref (ad 2)]) rfl (Nat.le_of_ble_eq_true rfl) ⟨Nat.le_of_ble_eq_true rfl, Nat.le_of_ble_eq_true rfl⟩ dX5_pitchOf_25 (fun _ => ?_)
    refine rd_SN F hP k_X9_cell mw_277 (q_X9_cell l D Y ad G 2 4 (by decide) (fun _ => rfl) (cell32 16 (G 4) a1) _ rfl) rfl hl.1 ⟨Nat.le_of_ble_eq_true rfl, Nat.le_of_ble_eq_true rfl⟩ (rest := []) rfl (Nat.le_of_ble_eq_true rfl) ⟨Nat.le_of_ble_eq_true rfl, Nat.le_of_ble_eq_true rfl⟩ dX5_pitchOf_28 (fun _ => ?_)
    refine lv_iload_n hx hb dX5_pitchOf_31 rfl (lv_at hl 0 rfl) ?_
    refine lv_iadd hx hb dX5_pitchOf_32 ?_
    refine lv_istore_n (lv' := [(3, .int (((cell32 4 (G 2) (cell32 16 (G 4) a1)) + (cell32 16 (G 5) a1)))), (2, .int ((cell32 16 (G 5) a1))), (0, .ref (ad 0)), (1, .int a1)]) hx hb dX5_pitchOf_33 rfl hl (by decide) rfl (fun ls hl => ?_)
    refine lv_iload_n hx hb dX5_pitchOf_34 rfl (lv_at hl 0 rfl) ?_
    refine lv_bipush (v := 12) hx hb dX5_pitchOf_35 (by decide) ?_
    refine lv_icmp_lt (tgt := 47) hx hb dX5_pitchOf_37 (by decide) (fun c2 => ?_) (fun c2 => ?_)
    · have h := ifT h c2
      refine lv_iload_n hx hb dX5_pitchOf_47 rfl (lv_at hl 0 rfl) ?_
      exact rd_end F hr hk rfl h dX5_pitchOf_48
    · have h := ifF h c2
      refine lv_iload_n hx hb dX5_pitchOf_40 rfl (lv_at hl 0 rfl) ?_
      refine lv_bipush (v := 12) hx hb dX5_pitchOf_41 (by decide) ?_
      refine lv_isub hx hb dX5_pitchOf_43 ?_
      refine lv_goto (tgt := 48) hx hb dX5_pitchOf_44 (by decide) ?_
      exact rd_end F hr hk rfl h dX5_pitchOf_48
  · have h := ifT h c1
    refine lv_iconst (v := -1) hx hb dX5_pitchOf_14 (by decide) ?_
    exact rd_end F hr hk rfl h dX5_pitchOf_15
def f_X5_dropAhead_4 (G : Nat → Nat → Int32) (a1 : Int32) (n : Nat) (y2 : Int32) : Option Int32 := lq1 (fun (k4 : Int32 → Option Int32) (x2 : Int32) => (if x2 < 0 then some (-1 : Int32) else (if (cell32 16 (G 5) x2) = (-1 : Int32) then k4 (x2 + (-1)) else some x2))) n y2
def f_X5_dropAhead (G : Nat → Nat → Int32) (a1 : Int32) : Option Int32 := f_X5_dropAhead_4 G a1 4096 (a1 - (1 : Int32))
set_option maxRecDepth 100000 in
set_option maxHeartbeats 4000000 in
theorem q_X5_dropAhead (l : Launch) (D : va_G) (Y : Nat → ClassId) (ad : Nat → Nat) (G : Nat → Nat → Int32) (a1 : Int32) (r : Int32) (h : f_X5_dropAhead G a1 = some r) : RD l yX5_dropAhead cX5_dropAhead 3 (some .int) 2 D Y (wsC Y ad G) [.ref (ad 0), .int a1] r := by
  refine RD_of (by decide) (Nat.le_of_ble_eq_true rfl) (lv := [(0, .ref (ad 0)), (1, .int a1)]) rfl ?_
  intro p e s m below meth c ls F hP hr hk hl
  have F : Fx p c cX5_dropAhead 3 s m _ RX5 D Y := F
  have hx := F.1.1
  have hb := F.1.2.1
  have key4 : ∀ (n : Nat) (x2 : Int32) (ls : Array Slot), lv_has ls 3 [(0, .ref (ad 0)), (2, .int x2)] → f_X5_dropAhead_4 G a1  n x2 = some r → WD p l e 2 s m ([.ref (ad 0), .int a1] : List Value).toArray below meth c s.heap (some .int) r (F0 m 4 ls []) := by
    intro  n
    induction n with
    | zero => intro x2 ls hl h; exact lqZ1 h
    | succ n4 ih4 =>
      intro x2 ls hl h
      have h := lqS1 h
      refine lv_iload_n hx hb dX5_dropAhead_4 rfl (lv_at hl 1 rfl) ?_
      refine lv_if_lt (tgt := 28) hx hb dX5_dropAhead_5 (by decide) (fun c1 => ?_) (fun c1 => ?_)
      · have h := ifT h c1
        refine lv_iconst (v := -1) hx hb dX5_dropAhead_28 (by decide) ?_
        exact rd_end F hr hk rfl h dX5_dropAhead_29
      · have h := ifF h c1
        refine lv_aload_n hx hb dX5_dropAhead_8 rfl (lv_at hl 0 rfl) ?_
        refine rC_0_4 F hP dX5_dropAhead_9 ?_
        refine lv_iload_n hx hb dX5_dropAhead_12 rfl (lv_at hl 1 rfl) ?_
        refine rd_SN F hP k_X9_cell mw_277 (q_X9_cell l D Y ad G 5 16 (by decide) (fun _ => rfl) x2 _ rfl) rfl hl.1 ⟨Nat.le_of_ble_eq_true rfl, Nat.le_of_ble_eq_true rfl⟩ (rest := []) rfl (Nat.le_of_ble_eq_true rfl) ⟨Nat.le_of_ble_eq_true rfl, Nat.le_of_ble_eq_true rfl⟩ dX5_dropAhead_13 (fun _ => ?_)
        refine lv_iconst (v := -1) hx hb dX5_dropAhead_16 (by decide) ?_
        refine lv_icmp_eq (tgt := 22) hx hb dX5_dropAhead_17 (by decide) (fun c2 => ?_) (fun c2 => ?_)
        · have h := ifT h c2
          refine lv_iinc (v := (x2 + (-1))) (lv' := [(2, .int ((x2 + (-1)))), (0, .ref (ad 0))]) hx hb dX5_dropAhead_22 hl (k := 1) rfl rfl (by decide) rfl (fun ls hl => ?_)
          refine lv_goto (tgt := 4) hx hb dX5_dropAhead_25 (by decide) ?_
          exact ih4 (x2 + (-1)) ls (lv_sub hl [1, 0] rfl) h
        · have h := ifF h c2
          refine lv_iload_n hx hb dX5_dropAhead_20 rfl (lv_at hl 1 rfl) ?_
          exact rd_end F hr hk rfl h dX5_dropAhead_21
  refine lv_iload_n hx hb dX5_dropAhead_0 rfl (lv_at hl 1 rfl) ?_
  refine lv_iconst (v := 1) hx hb dX5_dropAhead_1 (by decide) ?_
  refine lv_isub hx hb dX5_dropAhead_2 ?_
  refine lv_istore_n (lv' := [(2, .int ((a1 - (1 : Int32)))), (0, .ref (ad 0)), (1, .int a1)]) hx hb dX5_dropAhead_3 rfl hl (by decide) rfl (fun ls hl => ?_)
  exact key4 4096 (a1 - (1 : Int32)) ls (lv_sub hl [1, 0] rfl) h
def f_X5_countOfRests_26 (G : Nat → Nat → Int32) (k4 : Int32 → Int32 → Option Int32) (x2 : Int32) (s26_0 : Int32) (s26_1 : Int32) : Option Int32 := k4 (s26_1 + s26_0) (x2 + 1)
def f_X5_countOfRests_4 (G : Nat → Nat → Int32) (n : Nat) (y1 : Int32) (y2 : Int32) : Option Int32 := lq2 (fun (k4 : Int32 → Int32 → Option Int32) (x1 : Int32) (x2 : Int32) => (if (G 0 7) ≤ x2 then some x1 else ((f_X5_isRest G x2).bind fun r2 => (if r2 = 0 then f_X5_countOfRests_26 G k4 x2 (0 : Int32) x1 else f_X5_countOfRests_26 G k4 x2 (1 : Int32) x1)))) n y1 y2
def f_X5_countOfRests (G : Nat → Nat → Int32) : Option Int32 := f_X5_countOfRests_4 G 4096 (0 : Int32) (0 : Int32)
set_option maxRecDepth 100000 in
set_option maxHeartbeats 4000000 in
theorem q_X5_countOfRests (l : Launch) (D : va_G) (Y : Nat → ClassId) (ad : Nat → Nat) (G : Nat → Nat → Int32) (r : Int32) (h : f_X5_countOfRests G  = some r) : RD l yX5_countOfRests cX5_countOfRests 3 (some .int) 3 D Y (wsC Y ad G) [.ref (ad 0)] r := by
  refine RD_of (by decide) (Nat.le_of_ble_eq_true rfl) (lv := [(0, .ref (ad 0))]) rfl ?_
  intro p e s m below meth c ls F hP hr hk hl
  have F : Fx p c cX5_countOfRests 3 s m _ RX5 D Y := F
  have hx := F.1.1
  have hb := F.1.2.1
  have key4 : ∀ (n : Nat) (x1 : Int32) (x2 : Int32) (ls : Array Slot), lv_has ls 3 [(0, .ref (ad 0)), (1, .int x1), (2, .int x2)] → f_X5_countOfRests_4 G   n x1 x2 = some r → WD p l e 3 s m ([.ref (ad 0)] : List Value).toArray below meth c s.heap (some .int) r (F0 m 4 ls []) := by
    intro  n
    induction n with
    | zero => intro x1 x2 ls hl h; exact lqZ2 h
    | succ n4 ih4 =>
      have key26 : ∀ (x2 : Int32) (s26_0 : Int32) (s26_1 : Int32) (ls : Array Slot), lv_has ls 3 [(0, .ref (ad 0)), (2, .int x2)] → f_X5_countOfRests_26 G  (f_X5_countOfRests_4 G    n4) x2 s26_0 s26_1 = some r → WD p l e 3 s m ([.ref (ad 0)] : List Value).toArray below meth c s.heap (some .int) r (F0 m 26 ls [.int s26_0, .int s26_1]) := by
        intro x2 s26_0 s26_1 ls hl h
        refine lv_iadd hx hb dX5_countOfRests_26 ?_
        refine lv_istore_n (lv' := [(1, .int ((s26_1 + s26_0))), (0, .ref (ad 0)), (2, .int x2)]) hx hb dX5_countOfRests_27 rfl hl (by decide) rfl (fun ls hl => ?_)
        refine lv_iinc (v := (x2 + 1)) (lv' := [(2, .int ((x2 + 1))), (1, .int ((s26_1 + s26_0))), (0, .ref (ad 0))]) hx hb dX5_countOfRests_28 hl (k := 2) rfl rfl (by decide) rfl (fun ls hl => ?_)
        refine lv_goto (tgt := 4) hx hb dX5_countOfRests_31 (by decide) ?_
        exact ih4 (s26_1 + s26_0) (x2 + 1) ls (lv_sub hl [2, 1, 0] rfl) h
      intro x1 x2 ls hl h
      have h := lqS2 h
      refine lv_iload_n hx hb dX5_countOfRests_4 rfl (lv_at hl 2 rfl) ?_
      refine lv_aload_n hx hb dX5_countOfRests_5 rfl (lv_at hl 0 rfl) ?_
      refine rC_0_7 F hP dX5_countOfRests_6 ?_
      refine lv_icmp_ge (tgt := 34) hx hb dX5_countOfRests_9 (by decide) (fun c1 => ?_) (fun c1 => ?_)
      · have h := ifT h c1
        refine lv_iload_n hx hb dX5_countOfRests_34 rfl (lv_at hl 1 rfl) ?_
        exact rd_end F hr hk rfl h dX5_countOfRests_35
      · have h := ifF h c1
        refine lv_iload_n hx hb dX5_countOfRests_12 rfl (lv_at hl 1 rfl) ?_
        refine lv_aload_n hx hb dX5_countOfRests_13 rfl (lv_at hl 0 rfl) ?_
        refine lv_iload_n hx hb dX5_countOfRests_14 rfl (lv_at hl 2 rfl) ?_
        obtain ⟨r2, e2, h⟩ := bsome h
        refine rd_V F hP k_X5_isRest mw_639 0 6 rfl (wsW_get 0 (by decide)) (q_X5_isRest l D Y ad G x2 r2 e2) rfl hl.1 ⟨Nat.le_of_ble_eq_true rfl, Nat.le_of_ble_eq_true rfl⟩ (rest := [.int x1]) rfl (Nat.le_of_ble_eq_true rfl) ⟨Nat.le_of_ble_eq_true rfl, Nat.le_of_ble_eq_true rfl⟩ dX5_countOfRests_15 (fun o2 => ?_)
        refine lv_if_eq (tgt := 25) hx hb dX5_countOfRests_18 (by decide) (fun c3 => ?_) (fun c3 => ?_)
        · have h := ifT h c3
          refine lv_iconst (v := 0) hx hb dX5_countOfRests_25 (by decide) ?_
          exact key26 x2 (0 : Int32) x1 ls (lv_sub hl [0, 2] rfl) h
        · have h := ifF h c3
          refine lv_iconst (v := 1) hx hb dX5_countOfRests_21 (by decide) ?_
          refine lv_goto (tgt := 26) hx hb dX5_countOfRests_22 (by decide) ?_
          exact key26 x2 (1 : Int32) x1 ls (lv_sub hl [0, 2] rfl) h
  refine lv_iconst (v := 0) hx hb dX5_countOfRests_0 (by decide) ?_
  refine lv_istore_n (lv' := [(1, .int ((0 : Int32))), (0, .ref (ad 0))]) hx hb dX5_countOfRests_1 rfl hl (by decide) rfl (fun ls hl => ?_)
  refine lv_iconst (v := 0) hx hb dX5_countOfRests_2 (by decide) ?_
  refine lv_istore_n (lv' := [(2, .int ((0 : Int32))), (1, .int ((0 : Int32))), (0, .ref (ad 0))]) hx hb dX5_countOfRests_3 rfl hl (by decide) rfl (fun ls hl => ?_)
  exact key4 4096 (0 : Int32) (0 : Int32) ls (lv_sub hl [2, 1, 0] rfl) h
def f_X5_countOfTin_43 (G : Nat → Nat → Int32) (a1 : Int32) (a2 : Int32) (k5 : Int32 → Int32 → Option Int32) (x4 : Int32) (s43_0 : Int32) (s43_1 : Int32) : Option Int32 := k5 (s43_1 + s43_0) (x4 + 1)
def f_X5_countOfTin_42 (G : Nat → Nat → Int32) (a1 : Int32) (a2 : Int32) (k5 : Int32 → Int32 → Option Int32) (x4 : Int32) (s42_0 : Int32) : Option Int32 := f_X5_countOfTin_43 G a1 a2 k5 x4 (0 : Int32) s42_0
def f_X5_countOfTin_5 (G : Nat → Nat → Int32) (a1 : Int32) (a2 : Int32) (n : Nat) (y3 : Int32) (y4 : Int32) : Option Int32 := lq2 (fun (k5 : Int32 → Int32 → Option Int32) (x3 : Int32) (x4 : Int32) => (if (G 0 7) ≤ x4 then some x3 else (if (cell32 16 (G 4) x4) = a1 then ((f_X5_isRest G x4).bind fun r3 => (if r3 = a2 then f_X5_countOfTin_43 G a1 a2 k5 x4 (1 : Int32) x3 else f_X5_countOfTin_42 G a1 a2 k5 x4 x3)) else f_X5_countOfTin_42 G a1 a2 k5 x4 x3))) n y3 y4
def f_X5_countOfTin (G : Nat → Nat → Int32) (a1 : Int32) (a2 : Int32) : Option Int32 := f_X5_countOfTin_5 G a1 a2 4096 (0 : Int32) (0 : Int32)
set_option maxRecDepth 100000 in
set_option maxHeartbeats 4000000 in
theorem q_X5_countOfTin (l : Launch) (D : va_G) (Y : Nat → ClassId) (ad : Nat → Nat) (G : Nat → Nat → Int32) (a1 : Int32) (a2 : Int32) (r : Int32) (h : f_X5_countOfTin G a1 a2 = some r) : RD l yX5_countOfTin cX5_countOfTin 5 (some .int) 3 D Y (wsC Y ad G) [.ref (ad 0), .int a1, .int a2] r := by
  refine RD_of (by decide) (Nat.le_of_ble_eq_true rfl) (lv := [(0, .ref (ad 0)), (1, .int a1), (2, .int a2)]) rfl ?_
  intro p e s m below meth c ls F hP hr hk hl
  have F : Fx p c cX5_countOfTin 5 s m _ RX5 D Y := F
  have hx := F.1.1
  have hb := F.1.2.1
  have key5 : ∀ (n : Nat) (x3 : Int32) (x4 : Int32) (ls : Array Slot), lv_has ls 5 [(0, .ref (ad 0)), (1, .int a1), (2, .int a2), (3, .int x3), (4, .int x4)] → f_X5_countOfTin_5 G a1 a2  n x3 x4 = some r → WD p l e 3 s m ([.ref (ad 0), .int a1, .int a2] : List Value).toArray below meth c s.heap (some .int) r (F0 m 5 ls []) := by
    intro  n
    induction n with
    | zero => intro x3 x4 ls hl h; exact lqZ2 h
    | succ n5 ih5 =>
      have key43 : ∀ (x4 : Int32) (s43_0 : Int32) (s43_1 : Int32) (ls : Array Slot), lv_has ls 5 [(0, .ref (ad 0)), (1, .int a1), (2, .int a2), (4, .int x4)] → f_X5_countOfTin_43 G a1 a2 (f_X5_countOfTin_5 G a1 a2   n5) x4 s43_0 s43_1 = some r → WD p l e 3 s m ([.ref (ad 0), .int a1, .int a2] : List Value).toArray below meth c s.heap (some .int) r (F0 m 43 ls [.int s43_0, .int s43_1]) := by
        intro x4 s43_0 s43_1 ls hl h
        refine lv_iadd hx hb dX5_countOfTin_43 ?_
        refine lv_istore_n (lv' := [(3, .int ((s43_1 + s43_0))), (0, .ref (ad 0)), (1, .int a1), (2, .int a2), (4, .int x4)]) hx hb dX5_countOfTin_44 rfl hl (by decide) rfl (fun ls hl => ?_)
        refine lv_iinc (v := (x4 + 1)) (lv' := [(4, .int ((x4 + 1))), (3, .int ((s43_1 + s43_0))), (0, .ref (ad 0)), (1, .int a1), (2, .int a2)]) hx hb dX5_countOfTin_45 hl (k := 4) rfl rfl (by decide) rfl (fun ls hl => ?_)
        refine lv_goto (tgt := 5) hx hb dX5_countOfTin_48 (by decide) ?_
        exact ih5 (s43_1 + s43_0) (x4 + 1) ls (lv_sub hl [2, 3, 4, 1, 0] rfl) h
      have key42 : ∀ (x4 : Int32) (s42_0 : Int32) (ls : Array Slot), lv_has ls 5 [(0, .ref (ad 0)), (1, .int a1), (2, .int a2), (4, .int x4)] → f_X5_countOfTin_42 G a1 a2 (f_X5_countOfTin_5 G a1 a2   n5) x4 s42_0 = some r → WD p l e 3 s m ([.ref (ad 0), .int a1, .int a2] : List Value).toArray below meth c s.heap (some .int) r (F0 m 42 ls [.int s42_0]) := by
        intro x4 s42_0 ls hl h
        refine lv_iconst (v := 0) hx hb dX5_countOfTin_42 (by decide) ?_
        exact key43 x4 (0 : Int32) s42_0 ls (lv_sub hl [0, 1, 2, 3] rfl) h
      intro x3 x4 ls hl h
      have h := lqS2 h
      refine lv_iload hx hb dX5_countOfTin_5 (lv_at hl 4 rfl) ?_
      refine lv_aload_n hx hb dX5_countOfTin_7 rfl (lv_at hl 0 rfl) ?_
      refine rC_0_7 F hP dX5_countOfTin_8 ?_
      refine lv_icmp_ge (tgt := 51) hx hb dX5_countOfTin_11 (by decide) (fun c1 => ?_) (fun c1 => ?_)
      · have h := ifT h c1
        refine lv_iload_n hx hb dX5_countOfTin_51 rfl (lv_at hl 3 rfl) ?_
        exact rd_end F hr hk rfl h dX5_countOfTin_52
      · have h := ifF h c1
        refine lv_iload_n hx hb dX5_countOfTin_14 rfl (lv_at hl 3 rfl) ?_
        refine lv_aload_n hx hb dX5_countOfTin_15 rfl (lv_at hl 0 rfl) ?_
        refine rC_0_3 F hP dX5_countOfTin_16 ?_
        refine lv_iload hx hb dX5_countOfTin_19 (lv_at hl 4 rfl) ?_
        refine rd_SN F hP k_X9_cell mw_277 (q_X9_cell l D Y ad G 4 16 (by decide) (fun _ => rfl) x4 _ rfl) rfl hl.1 ⟨Nat.le_of_ble_eq_true rfl, Nat.le_of_ble_eq_true rfl⟩ (rest := [.int x3]) rfl (Nat.le_of_ble_eq_true rfl) ⟨Nat.le_of_ble_eq_true rfl, Nat.le_of_ble_eq_true rfl⟩ dX5_countOfTin_21 (fun _ => ?_)
        refine lv_iload_n hx hb dX5_countOfTin_24 rfl (lv_at hl 1 rfl) ?_
        refine lv_icmp_ne (tgt := 42) hx hb dX5_countOfTin_25 (by decide) (fun c2 => ?_) (fun c2 => ?_)
        · have h := ifF h c2
          exact key42 x4 x3 ls (lv_sub hl [0, 1, 2, 4] rfl) h
        · have h := ifT h c2
          refine lv_aload_n hx hb dX5_countOfTin_28 rfl (lv_at hl 0 rfl) ?_
          refine lv_iload hx hb dX5_countOfTin_29 (lv_at hl 4 rfl) ?_
          obtain ⟨r3, e3, h⟩ := bsome h
          refine rd_V F hP k_X5_isRest mw_639 0 6 rfl (wsW_get 0 (by decide)) (q_X5_isRest l D Y ad G x4 r3 e3) rfl hl.1 ⟨Nat.le_of_ble_eq_true rfl, Nat.le_of_ble_eq_true rfl⟩ (rest := [.int x3]) rfl (Nat.le_of_ble_eq_true rfl) ⟨Nat.le_of_ble_eq_true rfl, Nat.le_of_ble_eq_true rfl⟩ dX5_countOfTin_31 (fun o3 => ?_)
          refine lv_iload_n hx hb dX5_countOfTin_34 rfl (lv_at hl 2 rfl) ?_
          refine lv_icmp_ne (tgt := 42) hx hb dX5_countOfTin_35 (by decide) (fun c4 => ?_) (fun c4 => ?_)
          · have h := ifF h c4
            exact key42 x4 x3 ls (lv_sub hl [0, 1, 2, 4] rfl) h
          · have h := ifT h c4
            refine lv_iconst (v := 1) hx hb dX5_countOfTin_38 (by decide) ?_
            refine lv_goto (tgt := 43) hx hb dX5_countOfTin_39 (by decide) ?_
            exact key43 x4 (1 : Int32) x3 ls (lv_sub hl [0, 1, 2, 4] rfl) h
  refine lv_iconst (v := 0) hx hb dX5_countOfTin_0 (by decide) ?_
  refine lv_istore_n (lv' := [(3, .int ((0 : Int32))), (0, .ref (ad 0)), (1, .int a1), (2, .int a2)]) hx hb dX5_countOfTin_1 rfl hl (by decide) rfl (fun ls hl => ?_)
  refine lv_iconst (v := 0) hx hb dX5_countOfTin_2 (by decide) ?_
  refine lv_istore (lv' := [(4, .int ((0 : Int32))), (3, .int ((0 : Int32))), (0, .ref (ad 0)), (1, .int a1), (2, .int a2)]) hx hb dX5_countOfTin_3 hl (by decide) rfl (fun ls hl => ?_)
  exact key5 4096 (0 : Int32) (0 : Int32) ls (lv_sub hl [2, 3, 4, 1, 0] rfl) h
def f_X5_beatsOfTin_37 (G : Nat → Nat → Int32) (a1 : Int32) (k4 : Int32 → Int32 → Option Int32) (x3 : Int32) (s37_0 : Int32) (s37_1 : Int32) : Option Int32 := k4 (s37_1 + s37_0) (x3 + 1)
def f_X5_beatsOfTin_4 (G : Nat → Nat → Int32) (a1 : Int32) (n : Nat) (y2 : Int32) (y3 : Int32) : Option Int32 := lq2 (fun (k4 : Int32 → Int32 → Option Int32) (x2 : Int32) (x3 : Int32) => (if (G 0 7) ≤ x3 then some x2 else (if (cell32 16 (G 4) x3) = a1 then f_X5_beatsOfTin_37 G a1 k4 x3 (cell32 16 (G 6) x3) x2 else f_X5_beatsOfTin_37 G a1 k4 x3 (0 : Int32) x2))) n y2 y3
def f_X5_beatsOfTin (G : Nat → Nat → Int32) (a1 : Int32) : Option Int32 := f_X5_beatsOfTin_4 G a1 4096 (0 : Int32) (0 : Int32)
set_option maxRecDepth 100000 in
set_option maxHeartbeats 4000000 in
theorem q_X5_beatsOfTin (l : Launch) (D : va_G) (Y : Nat → ClassId) (ad : Nat → Nat) (G : Nat → Nat → Int32) (a1 : Int32) (r : Int32) (h : f_X5_beatsOfTin G a1 = some r) : RD l yX5_beatsOfTin cX5_beatsOfTin 4 (some .int) 2 D Y (wsC Y ad G) [.ref (ad 0), .int a1] r := by
  refine RD_of (by decide) (Nat.le_of_ble_eq_true rfl) (lv := [(0, .ref (ad 0)), (1, .int a1)]) rfl ?_
  intro p e s m below meth c ls F hP hr hk hl
  have F : Fx p c cX5_beatsOfTin 4 s m _ RX5 D Y := F
  have hx := F.1.1
  have hb := F.1.2.1
  have key4 : ∀ (n : Nat) (x2 : Int32) (x3 : Int32) (ls : Array Slot), lv_has ls 4 [(0, .ref (ad 0)), (1, .int a1), (2, .int x2), (3, .int x3)] → f_X5_beatsOfTin_4 G a1  n x2 x3 = some r → WD p l e 2 s m ([.ref (ad 0), .int a1] : List Value).toArray below meth c s.heap (some .int) r (F0 m 4 ls []) := by
    intro  n
    induction n with
    | zero => intro x2 x3 ls hl h; exact lqZ2 h
    | succ n4 ih4 =>
      have key37 : ∀ (x3 : Int32) (s37_0 : Int32) (s37_1 : Int32) (ls : Array Slot), lv_has ls 4 [(0, .ref (ad 0)), (1, .int a1), (3, .int x3)] → f_X5_beatsOfTin_37 G a1 (f_X5_beatsOfTin_4 G a1   n4) x3 s37_0 s37_1 = some r → WD p l e 2 s m ([.ref (ad 0), .int a1] : List Value).toArray below meth c s.heap (some .int) r (F0 m 37 ls [.int s37_0, .int s37_1]) := by
        intro x3 s37_0 s37_1 ls hl h
        refine lv_iadd hx hb dX5_beatsOfTin_37 ?_
        refine lv_istore_n (lv' := [(2, .int ((s37_1 + s37_0))), (0, .ref (ad 0)), (1, .int a1), (3, .int x3)]) hx hb dX5_beatsOfTin_38 rfl hl (by decide) rfl (fun ls hl => ?_)
        refine lv_iinc (v := (x3 + 1)) (lv' := [(3, .int ((x3 + 1))), (2, .int ((s37_1 + s37_0))), (0, .ref (ad 0)), (1, .int a1)]) hx hb dX5_beatsOfTin_39 hl (k := 3) rfl rfl (by decide) rfl (fun ls hl => ?_)
        refine lv_goto (tgt := 4) hx hb dX5_beatsOfTin_42 (by decide) ?_
        exact ih4 (s37_1 + s37_0) (x3 + 1) ls (lv_sub hl [2, 3, 1, 0] rfl) h
      intro x2 x3 ls hl h
      have h := lqS2 h
      refine lv_iload_n hx hb dX5_beatsOfTin_4 rfl (lv_at hl 3 rfl) ?_
      refine lv_aload_n hx hb dX5_beatsOfTin_5 rfl (lv_at hl 0 rfl) ?_
      refine rC_0_7 F hP dX5_beatsOfTin_6 ?_
      refine lv_icmp_ge (tgt := 45) hx hb dX5_beatsOfTin_9 (by decide) (fun c1 => ?_) (fun c1 => ?_)
      · have h := ifT h c1
        refine lv_iload_n hx hb dX5_beatsOfTin_45 rfl (lv_at hl 2 rfl) ?_
        exact rd_end F hr hk rfl h dX5_beatsOfTin_46
      · have h := ifF h c1
        refine lv_iload_n hx hb dX5_beatsOfTin_12 rfl (lv_at hl 2 rfl) ?_
        refine lv_aload_n hx hb dX5_beatsOfTin_13 rfl (lv_at hl 0 rfl) ?_
        refine rC_0_3 F hP dX5_beatsOfTin_14 ?_
        refine lv_iload_n hx hb dX5_beatsOfTin_17 rfl (lv_at hl 3 rfl) ?_
        refine rd_SN F hP k_X9_cell mw_277 (q_X9_cell l D Y ad G 4 16 (by decide) (fun _ => rfl) x3 _ rfl) rfl hl.1 ⟨Nat.le_of_ble_eq_true rfl, Nat.le_of_ble_eq_true rfl⟩ (rest := [.int x2]) rfl (Nat.le_of_ble_eq_true rfl) ⟨Nat.le_of_ble_eq_true rfl, Nat.le_of_ble_eq_true rfl⟩ dX5_beatsOfTin_18 (fun _ => ?_)
        refine lv_iload_n hx hb dX5_beatsOfTin_21 rfl (lv_at hl 1 rfl) ?_
        refine lv_icmp_ne (tgt := 36) hx hb dX5_beatsOfTin_22 (by decide) (fun c2 => ?_) (fun c2 => ?_)
        · have h := ifF h c2
          refine lv_iconst (v := 0) hx hb dX5_beatsOfTin_36 (by decide) ?_
          exact key37 x3 (0 : Int32) x2 ls (lv_sub hl [0, 1, 3] rfl) h
        · have h := ifT h c2
          refine lv_aload_n hx hb dX5_beatsOfTin_25 rfl (lv_at hl 0 rfl) ?_
          refine rC_0_5 F hP dX5_beatsOfTin_26 ?_
          refine lv_iload_n hx hb dX5_beatsOfTin_29 rfl (lv_at hl 3 rfl) ?_
          refine rd_SN F hP k_X9_cell mw_277 (q_X9_cell l D Y ad G 6 16 (by decide) (fun _ => rfl) x3 _ rfl) rfl hl.1 ⟨Nat.le_of_ble_eq_true rfl, Nat.le_of_ble_eq_true rfl⟩ (rest := [.int x2]) rfl (Nat.le_of_ble_eq_true rfl) ⟨Nat.le_of_ble_eq_true rfl, Nat.le_of_ble_eq_true rfl⟩ dX5_beatsOfTin_30 (fun _ => ?_)
          refine lv_goto (tgt := 37) hx hb dX5_beatsOfTin_33 (by decide) ?_
          exact key37 x3 (cell32 16 (G 6) x3) x2 ls (lv_sub hl [0, 1, 3] rfl) h
  refine lv_iconst (v := 0) hx hb dX5_beatsOfTin_0 (by decide) ?_
  refine lv_istore_n (lv' := [(2, .int ((0 : Int32))), (0, .ref (ad 0)), (1, .int a1)]) hx hb dX5_beatsOfTin_1 rfl hl (by decide) rfl (fun ls hl => ?_)
  refine lv_iconst (v := 0) hx hb dX5_beatsOfTin_2 (by decide) ?_
  refine lv_istore_n (lv' := [(3, .int ((0 : Int32))), (2, .int ((0 : Int32))), (0, .ref (ad 0)), (1, .int a1)]) hx hb dX5_beatsOfTin_3 rfl hl (by decide) rfl (fun ls hl => ?_)
  exact key4 4096 (0 : Int32) (0 : Int32) ls (lv_sub hl [2, 3, 1, 0] rfl) h
def f_X5_startOfBar_4 (G : Nat → Nat → Int32) (a1 : Int32) (n : Nat) (y2 : Int32) (y3 : Int32) : Option Int32 := lq2 (fun (k4 : Int32 → Int32 → Option Int32) (x2 : Int32) (x3 : Int32) => (if a1 ≤ x3 then some x2 else (if (nI 6) ≤ x3 then some x2 else (if inb x3 6 then k4 (x2 + (G 1 x3.toNatClampNeg)) (x3 + 1) else none)))) n y2 y3
def f_X5_startOfBar (G : Nat → Nat → Int32) (a1 : Int32) : Option Int32 := f_X5_startOfBar_4 G a1 4096 (0 : Int32) (0 : Int32)
set_option maxRecDepth 100000 in
set_option maxHeartbeats 4000000 in
theorem q_X5_startOfBar (l : Launch) (D : va_G) (Y : Nat → ClassId) (ad : Nat → Nat) (G : Nat → Nat → Int32) (a1 : Int32) (r : Int32) (h : f_X5_startOfBar G a1 = some r) : RD l yX5_startOfBar cX5_startOfBar 4 (some .int) 0 D Y (wsC Y ad G) [.ref (ad 0), .int a1] r := by
  refine RD_of (by decide) (Nat.le_of_ble_eq_true rfl) (lv := [(0, .ref (ad 0)), (1, .int a1)]) rfl ?_
  intro p e s m below meth c ls F hP hr hk hl
  have F : Fx p c cX5_startOfBar 4 s m _ RX5 D Y := F
  have hx := F.1.1
  have hb := F.1.2.1
  have key4 : ∀ (n : Nat) (x2 : Int32) (x3 : Int32) (ls : Array Slot), lv_has ls 4 [(0, .ref (ad 0)), (1, .int a1), (2, .int x2), (3, .int x3)] → f_X5_startOfBar_4 G a1  n x2 x3 = some r → WD p l e 0 s m ([.ref (ad 0), .int a1] : List Value).toArray below meth c s.heap (some .int) r (F0 m 4 ls []) := by
    intro  n
    induction n with
    | zero => intro x2 x3 ls hl h; exact lqZ2 h
    | succ n4 ih4 =>
      intro x2 x3 ls hl h
      have h := lqS2 h
      refine lv_iload_n hx hb dX5_startOfBar_4 rfl (lv_at hl 3 rfl) ?_
      refine lv_iload_n hx hb dX5_startOfBar_5 rfl (lv_at hl 1 rfl) ?_
      refine lv_icmp_ge (tgt := 33) hx hb dX5_startOfBar_6 (by decide) (fun c1 => ?_) (fun c1 => ?_)
      · have h := ifT h c1
        refine lv_iload_n hx hb dX5_startOfBar_33 rfl (lv_at hl 2 rfl) ?_
        exact rd_end F hr hk rfl h dX5_startOfBar_34
      · have h := ifF h c1
        refine lv_iload_n hx hb dX5_startOfBar_9 rfl (lv_at hl 3 rfl) ?_
        refine lv_aload_n hx hb dX5_startOfBar_10 rfl (lv_at hl 0 rfl) ?_
        refine rC_0_0 F hP dX5_startOfBar_11 ?_
        refine alen F hP 1 (wsW_get 1 (by decide)) dX5_startOfBar_14 ?_
        refine lv_icmp_ge (tgt := 33) hx hb dX5_startOfBar_15 (by decide) (fun c2 => ?_) (fun c2 => ?_)
        · have h := ifT h c2
          refine lv_iload_n hx hb dX5_startOfBar_33 rfl (lv_at hl 2 rfl) ?_
          exact rd_end F hr hk rfl h dX5_startOfBar_34
        · have h := ifF h c2
          refine lv_iload_n hx hb dX5_startOfBar_18 rfl (lv_at hl 2 rfl) ?_
          refine lv_aload_n hx hb dX5_startOfBar_19 rfl (lv_at hl 0 rfl) ?_
          refine rC_0_0 F hP dX5_startOfBar_20 ?_
          refine lv_iload_n hx hb dX5_startOfBar_23 rfl (lv_at hl 3 rfl) ?_
          obtain ⟨b3, h⟩ := ckS h
          refine al F hP 1 (wsW_get 1 (by decide)) (inbV b3 (by decide)) dX5_startOfBar_24 ?_
          refine lv_iadd hx hb dX5_startOfBar_25 ?_
          refine lv_istore_n (lv' := [(2, .int ((x2 + (G 1 x3.toNatClampNeg)))), (0, .ref (ad 0)), (1, .int a1), (3, .int x3)]) hx hb dX5_startOfBar_26 rfl hl (by decide) rfl (fun ls hl => ?_)
          refine lv_iinc (v := (x3 + 1)) (lv' := [(3, .int ((x3 + 1))), (2, .int ((x2 + (G 1 x3.toNatClampNeg)))), (0, .ref (ad 0)), (1, .int a1)]) hx hb dX5_startOfBar_27 hl (k := 3) rfl rfl (by decide) rfl (fun ls hl => ?_)
          refine lv_goto (tgt := 4) hx hb dX5_startOfBar_30 (by decide) ?_
          exact ih4 (x2 + (G 1 x3.toNatClampNeg)) (x3 + 1) ls (lv_sub hl [2, 3, 1, 0] rfl) h
  refine lv_iconst (v := 0) hx hb dX5_startOfBar_0 (by decide) ?_
  refine lv_istore_n (lv' := [(2, .int ((0 : Int32))), (0, .ref (ad 0)), (1, .int a1)]) hx hb dX5_startOfBar_1 rfl hl (by decide) rfl (fun ls hl => ?_)
  refine lv_iconst (v := 0) hx hb dX5_startOfBar_2 (by decide) ?_
  refine lv_istore_n (lv' := [(3, .int ((0 : Int32))), (2, .int ((0 : Int32))), (0, .ref (ad 0)), (1, .int a1)]) hx hb dX5_startOfBar_3 rfl hl (by decide) rfl (fun ls hl => ?_)
  exact key4 4096 (0 : Int32) (0 : Int32) ls (lv_sub hl [2, 3, 1, 0] rfl) h
def f_X5_startOfSound_4 (G : Nat → Nat → Int32) (a1 : Int32) (n : Nat) (y2 : Int32) (y3 : Int32) : Option Int32 := lq2 (fun (k4 : Int32 → Int32 → Option Int32) (x2 : Int32) (x3 : Int32) => (if a1 ≤ x3 then some x2 else (if (nI 16) ≤ x3 then some x2 else (if inb x3 16 then k4 (x2 + (G 6 x3.toNatClampNeg)) (x3 + 1) else none)))) n y2 y3
def f_X5_startOfSound (G : Nat → Nat → Int32) (a1 : Int32) : Option Int32 := f_X5_startOfSound_4 G a1 4096 (0 : Int32) (0 : Int32)
set_option maxRecDepth 100000 in
set_option maxHeartbeats 4000000 in
theorem q_X5_startOfSound (l : Launch) (D : va_G) (Y : Nat → ClassId) (ad : Nat → Nat) (G : Nat → Nat → Int32) (a1 : Int32) (r : Int32) (h : f_X5_startOfSound G a1 = some r) : RD l yX5_startOfSound cX5_startOfSound 4 (some .int) 0 D Y (wsC Y ad G) [.ref (ad 0), .int a1] r := by
  refine RD_of (by decide) (Nat.le_of_ble_eq_true rfl) (lv := [(0, .ref (ad 0)), (1, .int a1)]) rfl ?_
  intro p e s m below meth c ls F hP hr hk hl
  have F : Fx p c cX5_startOfSound 4 s m _ RX5 D Y := F
  have hx := F.1.1
  have hb := F.1.2.1
  have key4 : ∀ (n : Nat) (x2 : Int32) (x3 : Int32) (ls : Array Slot), lv_has ls 4 [(0, .ref (ad 0)), (1, .int a1), (2, .int x2), (3, .int x3)] → f_X5_startOfSound_4 G a1  n x2 x3 = some r → WD p l e 0 s m ([.ref (ad 0), .int a1] : List Value).toArray below meth c s.heap (some .int) r (F0 m 4 ls []) := by
    intro  n
    induction n with
    | zero => intro x2 x3 ls hl h; exact lqZ2 h
    | succ n4 ih4 =>
      intro x2 x3 ls hl h
      have h := lqS2 h
      refine lv_iload_n hx hb dX5_startOfSound_4 rfl (lv_at hl 3 rfl) ?_
      refine lv_iload_n hx hb dX5_startOfSound_5 rfl (lv_at hl 1 rfl) ?_
      refine lv_icmp_ge (tgt := 33) hx hb dX5_startOfSound_6 (by decide) (fun c1 => ?_) (fun c1 => ?_)
      · have h := ifT h c1
        refine lv_iload_n hx hb dX5_startOfSound_33 rfl (lv_at hl 2 rfl) ?_
        exact rd_end F hr hk rfl h dX5_startOfSound_34
      · have h := ifF h c1
        refine lv_iload_n hx hb dX5_startOfSound_9 rfl (lv_at hl 3 rfl) ?_
        refine lv_aload_n hx hb dX5_startOfSound_10 rfl (lv_at hl 0 rfl) ?_
        refine rC_0_5 F hP dX5_startOfSound_11 ?_
        refine alen F hP 6 (wsW_get 6 (by decide)) dX5_startOfSound_14 ?_
        refine lv_icmp_ge (tgt := 33) hx hb dX5_startOfSound_15 (by decide) (fun c2 => ?_) (fun c2 => ?_)
        · have h := ifT h c2
          refine lv_iload_n hx hb dX5_startOfSound_33 rfl (lv_at hl 2 rfl) ?_
          exact rd_end F hr hk rfl h dX5_startOfSound_34
        · have h := ifF h c2
          refine lv_iload_n hx hb dX5_startOfSound_18 rfl (lv_at hl 2 rfl) ?_
          refine lv_aload_n hx hb dX5_startOfSound_19 rfl (lv_at hl 0 rfl) ?_
          refine rC_0_5 F hP dX5_startOfSound_20 ?_
          refine lv_iload_n hx hb dX5_startOfSound_23 rfl (lv_at hl 3 rfl) ?_
          obtain ⟨b3, h⟩ := ckS h
          refine al F hP 6 (wsW_get 6 (by decide)) (inbV b3 (by decide)) dX5_startOfSound_24 ?_
          refine lv_iadd hx hb dX5_startOfSound_25 ?_
          refine lv_istore_n (lv' := [(2, .int ((x2 + (G 6 x3.toNatClampNeg)))), (0, .ref (ad 0)), (1, .int a1), (3, .int x3)]) hx hb dX5_startOfSound_26 rfl hl (by decide) rfl (fun ls hl => ?_)
          refine lv_iinc (v := (x3 + 1)) (lv' := [(3, .int ((x3 + 1))), (2, .int ((x2 + (G 6 x3.toNatClampNeg)))), (0, .ref (ad 0)), (1, .int a1)]) hx hb dX5_startOfSound_27 hl (k := 3) rfl rfl (by decide) rfl (fun ls hl => ?_)
          refine lv_goto (tgt := 4) hx hb dX5_startOfSound_30 (by decide) ?_
          exact ih4 (x2 + (G 6 x3.toNatClampNeg)) (x3 + 1) ls (lv_sub hl [2, 3, 1, 0] rfl) h
  refine lv_iconst (v := 0) hx hb dX5_startOfSound_0 (by decide) ?_
  refine lv_istore_n (lv' := [(2, .int ((0 : Int32))), (0, .ref (ad 0)), (1, .int a1)]) hx hb dX5_startOfSound_1 rfl hl (by decide) rfl (fun ls hl => ?_)
  refine lv_iconst (v := 0) hx hb dX5_startOfSound_2 (by decide) ?_
  refine lv_istore_n (lv' := [(3, .int ((0 : Int32))), (2, .int ((0 : Int32))), (0, .ref (ad 0)), (1, .int a1)]) hx hb dX5_startOfSound_3 rfl hl (by decide) rfl (fun ls hl => ?_)
  exact key4 4096 (0 : Int32) (0 : Int32) ls (lv_sub hl [2, 3, 1, 0] rfl) h
def f_X5_allBeats (G : Nat → Nat → Int32) : Option Int32 := ((f_X5_startOfBar G (G 0 6)).bind fun r1 => some r1)
set_option maxRecDepth 100000 in
set_option maxHeartbeats 4000000 in
theorem q_X5_allBeats (l : Launch) (D : va_G) (Y : Nat → ClassId) (ad : Nat → Nat) (G : Nat → Nat → Int32) (r : Int32) (h : f_X5_allBeats G  = some r) : RD l yX5_allBeats cX5_allBeats 1 (some .int) 1 D Y (wsC Y ad G) [.ref (ad 0)] r := by
  refine RD_of (by decide) (Nat.le_of_ble_eq_true rfl) (lv := [(0, .ref (ad 0))]) rfl ?_
  intro p e s m below meth c ls F hP hr hk hl
  have F : Fx p c cX5_allBeats 1 s m _ RX5 D Y := F
  have hx := F.1.1
  have hb := F.1.2.1
  refine lv_aload_n hx hb dX5_allBeats_0 rfl (lv_at hl 0 rfl) ?_
  refine lv_aload_n hx hb dX5_allBeats_1 rfl (lv_at hl 0 rfl) ?_
  refine rC_0_6 F hP dX5_allBeats_2 ?_
  obtain ⟨r1, e1, h⟩ := bsome h
  refine rd_V F hP k_X5_startOfBar mw_312 0 6 rfl (wsW_get 0 (by decide)) (q_X5_startOfBar l D Y ad G (G 0 6) r1 e1) rfl hl.1 ⟨Nat.le_of_ble_eq_true rfl, Nat.le_of_ble_eq_true rfl⟩ (rest := []) rfl (Nat.le_of_ble_eq_true rfl) ⟨Nat.le_of_ble_eq_true rfl, Nat.le_of_ble_eq_true rfl⟩ dX5_allBeats_5 (fun o1 => ?_)
  exact rd_end F hr hk rfl h dX5_allBeats_8
def f_X5_filledBeats (G : Nat → Nat → Int32) : Option Int32 := ((f_X5_startOfSound G (G 0 7)).bind fun r1 => some r1)
set_option maxRecDepth 100000 in
set_option maxHeartbeats 4000000 in
theorem q_X5_filledBeats (l : Launch) (D : va_G) (Y : Nat → ClassId) (ad : Nat → Nat) (G : Nat → Nat → Int32) (r : Int32) (h : f_X5_filledBeats G  = some r) : RD l yX5_filledBeats cX5_filledBeats 1 (some .int) 1 D Y (wsC Y ad G) [.ref (ad 0)] r := by
  refine RD_of (by decide) (Nat.le_of_ble_eq_true rfl) (lv := [(0, .ref (ad 0))]) rfl ?_
  intro p e s m below meth c ls F hP hr hk hl
  have F : Fx p c cX5_filledBeats 1 s m _ RX5 D Y := F
  have hx := F.1.1
  have hb := F.1.2.1
  refine lv_aload_n hx hb dX5_filledBeats_0 rfl (lv_at hl 0 rfl) ?_
  refine lv_aload_n hx hb dX5_filledBeats_1 rfl (lv_at hl 0 rfl) ?_
  refine rC_0_7 F hP dX5_filledBeats_2 ?_
  obtain ⟨r1, e1, h⟩ := bsome h
  refine rd_V F hP k_X5_startOfSound mw_316 0 6 rfl (wsW_get 0 (by decide)) (q_X5_startOfSound l D Y ad G (G 0 7) r1 e1) rfl hl.1 ⟨Nat.le_of_ble_eq_true rfl, Nat.le_of_ble_eq_true rfl⟩ (rest := []) rfl (Nat.le_of_ble_eq_true rfl) ⟨Nat.le_of_ble_eq_true rfl, Nat.le_of_ble_eq_true rfl⟩ dX5_filledBeats_5 (fun o1 => ?_)
  exact rd_end F hr hk rfl h dX5_filledBeats_8
def f_X5_freeBeats (G : Nat → Nat → Int32) : Option Int32 := ((f_X5_startOfBar G (G 0 6)).bind fun r1 => ((f_X5_startOfSound G (G 0 7)).bind fun r2 => some (r1 - r2)))
set_option maxRecDepth 100000 in
set_option maxHeartbeats 4000000 in
theorem q_X5_freeBeats (l : Launch) (D : va_G) (Y : Nat → ClassId) (ad : Nat → Nat) (G : Nat → Nat → Int32) (r : Int32) (h : f_X5_freeBeats G  = some r) : RD l yX5_freeBeats cX5_freeBeats 1 (some .int) 1 D Y (wsC Y ad G) [.ref (ad 0)] r := by
  refine RD_of (by decide) (Nat.le_of_ble_eq_true rfl) (lv := [(0, .ref (ad 0))]) rfl ?_
  intro p e s m below meth c ls F hP hr hk hl
  have F : Fx p c cX5_freeBeats 1 s m _ RX5 D Y := F
  have hx := F.1.1
  have hb := F.1.2.1
  refine lv_aload_n hx hb dX5_freeBeats_0 rfl (lv_at hl 0 rfl) ?_
  refine lv_aload_n hx hb dX5_freeBeats_1 rfl (lv_at hl 0 rfl) ?_
  refine rC_0_6 F hP dX5_freeBeats_2 ?_
  obtain ⟨r1, e1, h⟩ := bsome h
  refine rd_V F hP k_X5_startOfBar mw_312 0 6 rfl (wsW_get 0 (by decide)) (q_X5_startOfBar l D Y ad G (G 0 6) r1 e1) rfl hl.1 ⟨Nat.le_of_ble_eq_true rfl, Nat.le_of_ble_eq_true rfl⟩ (rest := []) rfl (Nat.le_of_ble_eq_true rfl) ⟨Nat.le_of_ble_eq_true rfl, Nat.le_of_ble_eq_true rfl⟩ dX5_freeBeats_5 (fun o1 => ?_)
  refine lv_aload_n hx hb dX5_freeBeats_8 rfl (lv_at hl 0 rfl) ?_
  refine lv_aload_n hx hb dX5_freeBeats_9 rfl (lv_at hl 0 rfl) ?_
  refine rC_0_7 F hP dX5_freeBeats_10 ?_
  obtain ⟨r2, e2, h⟩ := bsome h
  refine rd_V F hP k_X5_startOfSound mw_316 0 6 rfl (wsW_get 0 (by decide)) (q_X5_startOfSound l D Y ad G (G 0 7) r2 e2) rfl hl.1 ⟨Nat.le_of_ble_eq_true rfl, Nat.le_of_ble_eq_true rfl⟩ (rest := [.int r1]) rfl (Nat.le_of_ble_eq_true rfl) ⟨Nat.le_of_ble_eq_true rfl, Nat.le_of_ble_eq_true rfl⟩ dX5_freeBeats_13 (fun o2 => ?_)
  refine lv_isub hx hb dX5_freeBeats_16 ?_
  exact rd_end F hr hk rfl h dX5_freeBeats_17
def f_X5_barAt_34 (G : Nat → Nat → Int32) (a1 : Int32) (k4 : Int32 → Int32 → Option Int32) (x2 : Int32) (x3 : Int32) : Option Int32 := k4 x2 (x3 + 1)
def f_X5_barAt_4 (G : Nat → Nat → Int32) (a1 : Int32) (n : Nat) (y2 : Int32) (y3 : Int32) : Option Int32 := lq2 (fun (k4 : Int32 → Int32 → Option Int32) (x2 : Int32) (x3 : Int32) => (if (G 0 6) ≤ x3 then some (-1 : Int32) else (if a1 < 0 then f_X5_barAt_34 G a1 k4 (x2 + (cell32 6 (G 1) x3)) x3 else (if (x2 + (cell32 6 (G 1) x3)) ≤ a1 then f_X5_barAt_34 G a1 k4 (x2 + (cell32 6 (G 1) x3)) x3 else some x3)))) n y2 y3
def f_X5_barAt (G : Nat → Nat → Int32) (a1 : Int32) : Option Int32 := f_X5_barAt_4 G a1 4096 (0 : Int32) (0 : Int32)
set_option maxRecDepth 100000 in
set_option maxHeartbeats 4000000 in
theorem q_X5_barAt (l : Launch) (D : va_G) (Y : Nat → ClassId) (ad : Nat → Nat) (G : Nat → Nat → Int32) (a1 : Int32) (r : Int32) (h : f_X5_barAt G a1 = some r) : RD l yX5_barAt cX5_barAt 4 (some .int) 2 D Y (wsC Y ad G) [.ref (ad 0), .int a1] r := by
  refine RD_of (by decide) (Nat.le_of_ble_eq_true rfl) (lv := [(0, .ref (ad 0)), (1, .int a1)]) rfl ?_
  intro p e s m below meth c ls F hP hr hk hl
  have F : Fx p c cX5_barAt 4 s m _ RX5 D Y := F
  have hx := F.1.1
  have hb := F.1.2.1
  have key4 : ∀ (n : Nat) (x2 : Int32) (x3 : Int32) (ls : Array Slot), lv_has ls 4 [(0, .ref (ad 0)), (1, .int a1), (2, .int x2), (3, .int x3)] → f_X5_barAt_4 G a1  n x2 x3 = some r → WD p l e 2 s m ([.ref (ad 0), .int a1] : List Value).toArray below meth c s.heap (some .int) r (F0 m 4 ls []) := by
    intro  n
    induction n with
    | zero => intro x2 x3 ls hl h; exact lqZ2 h
    | succ n4 ih4 =>
      have key34 : ∀ (x2 : Int32) (x3 : Int32) (ls : Array Slot), lv_has ls 4 [(0, .ref (ad 0)), (1, .int a1), (2, .int x2), (3, .int x3)] → f_X5_barAt_34 G a1 (f_X5_barAt_4 G a1   n4) x2 x3 = some r → WD p l e 2 s m ([.ref (ad 0), .int a1] : List Value).toArray below meth c s.heap (some .int) r (F0 m 34 ls []) := by
        intro x2 x3 ls hl h
        refine lv_iinc (v := (x3 + 1)) (lv' := [(3, .int ((x3 + 1))), (0, .ref (ad 0)), (1, .int a1), (2, .int x2)]) hx hb dX5_barAt_34 hl (k := 3) rfl rfl (by decide) rfl (fun ls hl => ?_)
        refine lv_goto (tgt := 4) hx hb dX5_barAt_37 (by decide) ?_
        exact ih4 x2 (x3 + 1) ls (lv_sub hl [1, 2, 3, 0] rfl) h
      intro x2 x3 ls hl h
      have h := lqS2 h
      refine lv_iload_n hx hb dX5_barAt_4 rfl (lv_at hl 3 rfl) ?_
      refine lv_aload_n hx hb dX5_barAt_5 rfl (lv_at hl 0 rfl) ?_
      refine rC_0_6 F hP dX5_barAt_6 ?_
      refine lv_icmp_ge (tgt := 40) hx hb dX5_barAt_9 (by decide) (fun c1 => ?_) (fun c1 => ?_)
      · have h := ifT h c1
        refine lv_iconst (v := -1) hx hb dX5_barAt_40 (by decide) ?_
        exact rd_end F hr hk rfl h dX5_barAt_41
      · have h := ifF h c1
        refine lv_iload_n hx hb dX5_barAt_12 rfl (lv_at hl 2 rfl) ?_
        refine lv_aload_n hx hb dX5_barAt_13 rfl (lv_at hl 0 rfl) ?_
        refine rC_0_0 F hP dX5_barAt_14 ?_
        refine lv_iload_n hx hb dX5_barAt_17 rfl (lv_at hl 3 rfl) ?_
        refine rd_SN F hP k_X9_cell mw_277 (q_X9_cell l D Y ad G 1 6 (by decide) (fun _ => rfl) x3 _ rfl) rfl hl.1 ⟨Nat.le_of_ble_eq_true rfl, Nat.le_of_ble_eq_true rfl⟩ (rest := [.int x2]) rfl (Nat.le_of_ble_eq_true rfl) ⟨Nat.le_of_ble_eq_true rfl, Nat.le_of_ble_eq_true rfl⟩ dX5_barAt_18 (fun _ => ?_)
        refine lv_iadd hx hb dX5_barAt_21 ?_
        refine lv_istore_n (lv' := [(2, .int ((x2 + (cell32 6 (G 1) x3)))), (0, .ref (ad 0)), (1, .int a1), (3, .int x3)]) hx hb dX5_barAt_22 rfl hl (by decide) rfl (fun ls hl => ?_)
        refine lv_iload_n hx hb dX5_barAt_23 rfl (lv_at hl 2 rfl) ?_
        refine lv_if_lt (tgt := 34) hx hb dX5_barAt_24 (by decide) (fun c2 => ?_) (fun c2 => ?_)
        · have h := ifT h c2
          exact key34 (x2 + (cell32 6 (G 1) x3)) x3 ls (lv_sub hl [1, 2, 0, 3] rfl) h
        · have h := ifF h c2
          refine lv_iload_n hx hb dX5_barAt_27 rfl (lv_at hl 2 rfl) ?_
          refine lv_iload_n hx hb dX5_barAt_28 rfl (lv_at hl 0 rfl) ?_
          refine lv_icmp_ge (tgt := 34) hx hb dX5_barAt_29 (by decide) (fun c3 => ?_) (fun c3 => ?_)
          · have h := ifT h c3
            exact key34 (x2 + (cell32 6 (G 1) x3)) x3 ls (lv_sub hl [1, 2, 0, 3] rfl) h
          · have h := ifF h c3
            refine lv_iload_n hx hb dX5_barAt_32 rfl (lv_at hl 3 rfl) ?_
            exact rd_end F hr hk rfl h dX5_barAt_33
  refine lv_iconst (v := 0) hx hb dX5_barAt_0 (by decide) ?_
  refine lv_istore_n (lv' := [(2, .int ((0 : Int32))), (0, .ref (ad 0)), (1, .int a1)]) hx hb dX5_barAt_1 rfl hl (by decide) rfl (fun ls hl => ?_)
  refine lv_iconst (v := 0) hx hb dX5_barAt_2 (by decide) ?_
  refine lv_istore_n (lv' := [(3, .int ((0 : Int32))), (2, .int ((0 : Int32))), (0, .ref (ad 0)), (1, .int a1)]) hx hb dX5_barAt_3 rfl hl (by decide) rfl (fun ls hl => ?_)
  exact key4 4096 (0 : Int32) (0 : Int32) ls (lv_sub hl [2, 3, 1, 0] rfl) h
def f_X5_soundAt_34 (G : Nat → Nat → Int32) (a1 : Int32) (k4 : Int32 → Int32 → Option Int32) (x2 : Int32) (x3 : Int32) : Option Int32 := k4 x2 (x3 + 1)
def f_X5_soundAt_4 (G : Nat → Nat → Int32) (a1 : Int32) (n : Nat) (y2 : Int32) (y3 : Int32) : Option Int32 := lq2 (fun (k4 : Int32 → Int32 → Option Int32) (x2 : Int32) (x3 : Int32) => (if (G 0 7) ≤ x3 then some (-1 : Int32) else (if a1 < 0 then f_X5_soundAt_34 G a1 k4 (x2 + (cell32 16 (G 6) x3)) x3 else (if (x2 + (cell32 16 (G 6) x3)) ≤ a1 then f_X5_soundAt_34 G a1 k4 (x2 + (cell32 16 (G 6) x3)) x3 else some x3)))) n y2 y3
def f_X5_soundAt (G : Nat → Nat → Int32) (a1 : Int32) : Option Int32 := f_X5_soundAt_4 G a1 4096 (0 : Int32) (0 : Int32)
set_option maxRecDepth 100000 in
set_option maxHeartbeats 4000000 in
theorem q_X5_soundAt (l : Launch) (D : va_G) (Y : Nat → ClassId) (ad : Nat → Nat) (G : Nat → Nat → Int32) (a1 : Int32) (r : Int32) (h : f_X5_soundAt G a1 = some r) : RD l yX5_soundAt cX5_soundAt 4 (some .int) 2 D Y (wsC Y ad G) [.ref (ad 0), .int a1] r := by
  refine RD_of (by decide) (Nat.le_of_ble_eq_true rfl) (lv := [(0, .ref (ad 0)), (1, .int a1)]) rfl ?_
  intro p e s m below meth c ls F hP hr hk hl
  have F : Fx p c cX5_soundAt 4 s m _ RX5 D Y := F
  have hx := F.1.1
  have hb := F.1.2.1
  have key4 : ∀ (n : Nat) (x2 : Int32) (x3 : Int32) (ls : Array Slot), lv_has ls 4 [(0, .ref (ad 0)), (1, .int a1), (2, .int x2), (3, .int x3)] → f_X5_soundAt_4 G a1  n x2 x3 = some r → WD p l e 2 s m ([.ref (ad 0), .int a1] : List Value).toArray below meth c s.heap (some .int) r (F0 m 4 ls []) := by
    intro  n
    induction n with
    | zero => intro x2 x3 ls hl h; exact lqZ2 h
    | succ n4 ih4 =>
      have key34 : ∀ (x2 : Int32) (x3 : Int32) (ls : Array Slot), lv_has ls 4 [(0, .ref (ad 0)), (1, .int a1), (2, .int x2), (3, .int x3)] → f_X5_soundAt_34 G a1 (f_X5_soundAt_4 G a1   n4) x2 x3 = some r → WD p l e 2 s m ([.ref (ad 0), .int a1] : List Value).toArray below meth c s.heap (some .int) r (F0 m 34 ls []) := by
        intro x2 x3 ls hl h
        refine lv_iinc (v := (x3 + 1)) (lv' := [(3, .int ((x3 + 1))), (0, .ref (ad 0)), (1, .int a1), (2, .int x2)]) hx hb dX5_soundAt_34 hl (k := 3) rfl rfl (by decide) rfl (fun ls hl => ?_)
        refine lv_goto (tgt := 4) hx hb dX5_soundAt_37 (by decide) ?_
        exact ih4 x2 (x3 + 1) ls (lv_sub hl [1, 2, 3, 0] rfl) h
      intro x2 x3 ls hl h
      have h := lqS2 h
      refine lv_iload_n hx hb dX5_soundAt_4 rfl (lv_at hl 3 rfl) ?_
      refine lv_aload_n hx hb dX5_soundAt_5 rfl (lv_at hl 0 rfl) ?_
      refine rC_0_7 F hP dX5_soundAt_6 ?_
      refine lv_icmp_ge (tgt := 40) hx hb dX5_soundAt_9 (by decide) (fun c1 => ?_) (fun c1 => ?_)
      · have h := ifT h c1
        refine lv_iconst (v := -1) hx hb dX5_soundAt_40 (by decide) ?_
        exact rd_end F hr hk rfl h dX5_soundAt_41
      · have h := ifF h c1
        refine lv_iload_n hx hb dX5_soundAt_12 rfl (lv_at hl 2 rfl) ?_
        refine lv_aload_n hx hb dX5_soundAt_13 rfl (lv_at hl 0 rfl) ?_
        refine rC_0_5 F hP dX5_soundAt_14 ?_
        refine lv_iload_n hx hb dX5_soundAt_17 rfl (lv_at hl 3 rfl) ?_
        refine rd_SN F hP k_X9_cell mw_277 (q_X9_cell l D Y ad G 6 16 (by decide) (fun _ => rfl) x3 _ rfl) rfl hl.1 ⟨Nat.le_of_ble_eq_true rfl, Nat.le_of_ble_eq_true rfl⟩ (rest := [.int x2]) rfl (Nat.le_of_ble_eq_true rfl) ⟨Nat.le_of_ble_eq_true rfl, Nat.le_of_ble_eq_true rfl⟩ dX5_soundAt_18 (fun _ => ?_)
        refine lv_iadd hx hb dX5_soundAt_21 ?_
        refine lv_istore_n (lv' := [(2, .int ((x2 + (cell32 16 (G 6) x3)))), (0, .ref (ad 0)), (1, .int a1), (3, .int x3)]) hx hb dX5_soundAt_22 rfl hl (by decide) rfl (fun ls hl => ?_)
        refine lv_iload_n hx hb dX5_soundAt_23 rfl (lv_at hl 2 rfl) ?_
        refine lv_if_lt (tgt := 34) hx hb dX5_soundAt_24 (by decide) (fun c2 => ?_) (fun c2 => ?_)
        · have h := ifT h c2
          exact key34 (x2 + (cell32 16 (G 6) x3)) x3 ls (lv_sub hl [1, 2, 0, 3] rfl) h
        · have h := ifF h c2
          refine lv_iload_n hx hb dX5_soundAt_27 rfl (lv_at hl 2 rfl) ?_
          refine lv_iload_n hx hb dX5_soundAt_28 rfl (lv_at hl 0 rfl) ?_
          refine lv_icmp_ge (tgt := 34) hx hb dX5_soundAt_29 (by decide) (fun c3 => ?_) (fun c3 => ?_)
          · have h := ifT h c3
            exact key34 (x2 + (cell32 16 (G 6) x3)) x3 ls (lv_sub hl [1, 2, 0, 3] rfl) h
          · have h := ifF h c3
            refine lv_iload_n hx hb dX5_soundAt_32 rfl (lv_at hl 3 rfl) ?_
            exact rd_end F hr hk rfl h dX5_soundAt_33
  refine lv_iconst (v := 0) hx hb dX5_soundAt_0 (by decide) ?_
  refine lv_istore_n (lv' := [(2, .int ((0 : Int32))), (0, .ref (ad 0)), (1, .int a1)]) hx hb dX5_soundAt_1 rfl hl (by decide) rfl (fun ls hl => ?_)
  refine lv_iconst (v := 0) hx hb dX5_soundAt_2 (by decide) ?_
  refine lv_istore_n (lv' := [(3, .int ((0 : Int32))), (2, .int ((0 : Int32))), (0, .ref (ad 0)), (1, .int a1)]) hx hb dX5_soundAt_3 rfl hl (by decide) rfl (fun ls hl => ?_)
  exact key4 4096 (0 : Int32) (0 : Int32) ls (lv_sub hl [2, 3, 1, 0] rfl) h
def f_X5_overlap (G : Nat → Nat → Int32) (a1 : Int32) (a2 : Int32) : Option Int32 := ((f_X5_startOfBar G a2).bind fun r1 => ((f_X5_startOfSound G a1).bind fun r2 => some (max32 (0 : Int32) ((min32 (r1 + (cell32 6 (G 1) a2)) (r2 + (cell32 16 (G 6) a1))) - (max32 r1 r2)))))
set_option maxRecDepth 100000 in
set_option maxHeartbeats 4000000 in
theorem q_X5_overlap (l : Launch) (D : va_G) (Y : Nat → ClassId) (ad : Nat → Nat) (G : Nat → Nat → Int32) (a1 : Int32) (a2 : Int32) (r : Int32) (h : f_X5_overlap G a1 a2 = some r) : RD l yX5_overlap cX5_overlap 7 (some .int) 2 D Y (wsC Y ad G) [.ref (ad 0), .int a1, .int a2] r := by
  refine RD_of (by decide) (Nat.le_of_ble_eq_true rfl) (lv := [(0, .ref (ad 0)), (1, .int a1), (2, .int a2)]) rfl ?_
  intro p e s m below meth c ls F hP hr hk hl
  have F : Fx p c cX5_overlap 7 s m _ RX5 D Y := F
  have hx := F.1.1
  have hb := F.1.2.1
  refine lv_aload_n hx hb dX5_overlap_0 rfl (lv_at hl 0 rfl) ?_
  refine lv_iload_n hx hb dX5_overlap_1 rfl (lv_at hl 2 rfl) ?_
  obtain ⟨r1, e1, h⟩ := bsome h
  refine rd_V F hP k_X5_startOfBar mw_312 0 6 rfl (wsW_get 0 (by decide)) (q_X5_startOfBar l D Y ad G a2 r1 e1) rfl hl.1 ⟨Nat.le_of_ble_eq_true rfl, Nat.le_of_ble_eq_true rfl⟩ (rest := []) rfl (Nat.le_of_ble_eq_true rfl) ⟨Nat.le_of_ble_eq_true rfl, Nat.le_of_ble_eq_true rfl⟩ dX5_overlap_2 (fun o1 => ?_)
  refine lv_istore_n (lv' := [(3, .int r1), (0, .ref (ad 0)), (1, .int a1), (2, .int a2)]) hx hb dX5_overlap_5 rfl hl (by decide) rfl (fun ls hl => ?_)
  refine lv_aload_n hx hb dX5_overlap_6 rfl (lv_at hl 1 rfl) ?_
  refine lv_iload_n hx hb dX5_overlap_7 rfl (lv_at hl 2 rfl) ?_
  obtain ⟨r2, e2, h⟩ := bsome h
  refine rd_V F hP k_X5_startOfSound mw_316 0 6 rfl (wsW_get 0 (by decide)) (q_X5_startOfSound l D Y ad G a1 r2 e2) rfl hl.1 ⟨Nat.le_of_ble_eq_true rfl, Nat.le_of_ble_eq_true rfl⟩ (rest := []) rfl (Nat.le_of_ble_eq_true rfl) ⟨Nat.le_of_ble_eq_true rfl, Nat.le_of_ble_eq_true rfl⟩ dX5_overlap_8 (fun o2 => ?_)
  refine lv_istore (lv' := [(4, .int r2), (3, .int r1), (0, .ref (ad 0)), (1, .int a1), (2, .int a2)]) hx hb dX5_overlap_11 hl (by decide) rfl (fun ls hl => ?_)
  refine lv_iload_n hx hb dX5_overlap_13 rfl (lv_at hl 1 rfl) ?_
  refine lv_aload_n hx hb dX5_overlap_14 rfl (lv_at hl 2 rfl) ?_
  refine rC_0_0 F hP dX5_overlap_15 ?_
  refine lv_iload_n hx hb dX5_overlap_18 rfl (lv_at hl 4 rfl) ?_
  refine rd_SN F hP k_X9_cell mw_277 (q_X9_cell l D Y ad G 1 6 (by decide) (fun _ => rfl) a2 _ rfl) rfl hl.1 ⟨Nat.le_of_ble_eq_true rfl, Nat.le_of_ble_eq_true rfl⟩ (rest := [.int r1]) rfl (Nat.le_of_ble_eq_true rfl) ⟨Nat.le_of_ble_eq_true rfl, Nat.le_of_ble_eq_true rfl⟩ dX5_overlap_19 (fun _ => ?_)
  refine lv_iadd hx hb dX5_overlap_22 ?_
  refine lv_istore (lv' := [(5, .int ((r1 + (cell32 6 (G 1) a2)))), (4, .int r2), (3, .int r1), (0, .ref (ad 0)), (1, .int a1), (2, .int a2)]) hx hb dX5_overlap_23 hl (by decide) rfl (fun ls hl => ?_)
  refine lv_iload hx hb dX5_overlap_25 (lv_at hl 1 rfl) ?_
  refine lv_aload_n hx hb dX5_overlap_27 rfl (lv_at hl 3 rfl) ?_
  refine rC_0_5 F hP dX5_overlap_28 ?_
  refine lv_iload_n hx hb dX5_overlap_31 rfl (lv_at hl 4 rfl) ?_
  refine rd_SN F hP k_X9_cell mw_277 (q_X9_cell l D Y ad G 6 16 (by decide) (fun _ => rfl) a1 _ rfl) rfl hl.1 ⟨Nat.le_of_ble_eq_true rfl, Nat.le_of_ble_eq_true rfl⟩ (rest := [.int r2]) rfl (Nat.le_of_ble_eq_true rfl) ⟨Nat.le_of_ble_eq_true rfl, Nat.le_of_ble_eq_true rfl⟩ dX5_overlap_32 (fun _ => ?_)
  refine lv_iadd hx hb dX5_overlap_35 ?_
  refine lv_istore (lv' := [(6, .int ((r2 + (cell32 16 (G 6) a1)))), (5, .int ((r1 + (cell32 6 (G 1) a2)))), (4, .int r2), (3, .int r1), (0, .ref (ad 0)), (1, .int a1), (2, .int a2)]) hx hb dX5_overlap_36 hl (by decide) rfl (fun ls hl => ?_)
  refine lv_iconst (v := 0) hx hb dX5_overlap_38 (by decide) ?_
  refine lv_iload hx hb dX5_overlap_39 (lv_at hl 1 rfl) ?_
  refine lv_iload hx hb dX5_overlap_41 (lv_at hl 0 rfl) ?_
  refine w_min F hl mw_652 ⟨Nat.le_of_ble_eq_true rfl, Nat.le_of_ble_eq_true rfl, Nat.le_of_ble_eq_true rfl, Nat.le_of_ble_eq_true rfl⟩ dX5_overlap_43 ?_
  refine lv_iload_n hx hb dX5_overlap_46 rfl (lv_at hl 3 rfl) ?_
  refine lv_iload hx hb dX5_overlap_47 (lv_at hl 2 rfl) ?_
  refine w_max F hl mw_653 ⟨Nat.le_of_ble_eq_true rfl, Nat.le_of_ble_eq_true rfl, Nat.le_of_ble_eq_true rfl, Nat.le_of_ble_eq_true rfl⟩ dX5_overlap_49 ?_
  refine lv_isub hx hb dX5_overlap_52 ?_
  refine w_max F hl mw_653 ⟨Nat.le_of_ble_eq_true rfl, Nat.le_of_ble_eq_true rfl, Nat.le_of_ble_eq_true rfl, Nat.le_of_ble_eq_true rfl⟩ dX5_overlap_53 ?_
  exact rd_end F hr hk rfl h dX5_overlap_56
def f_X5_isTied (G : Nat → Nat → Int32) (a1 : Int32) (a2 : Int32) : Option Int32 := ((f_X5_startOfSound G a1).bind fun r1 => ((f_X5_startOfBar G a2).bind fun r2 => (if r2 ≤ r1 then some (0 : Int32) else some (1 : Int32))))
set_option maxRecDepth 100000 in
set_option maxHeartbeats 4000000 in
theorem q_X5_isTied (l : Launch) (D : va_G) (Y : Nat → ClassId) (ad : Nat → Nat) (G : Nat → Nat → Int32) (a1 : Int32) (a2 : Int32) (r : Int32) (h : f_X5_isTied G a1 a2 = some r) : RD l yX5_isTied cX5_isTied 3 (some .boolean) 1 D Y (wsC Y ad G) [.ref (ad 0), .int a1, .int a2] r := by
  refine RD_of (by decide) (Nat.le_of_ble_eq_true rfl) (lv := [(0, .ref (ad 0)), (1, .int a1), (2, .int a2)]) rfl ?_
  intro p e s m below meth c ls F hP hr hk hl
  have F : Fx p c cX5_isTied 3 s m _ RX5 D Y := F
  have hx := F.1.1
  have hb := F.1.2.1
  refine lv_aload_n hx hb dX5_isTied_0 rfl (lv_at hl 0 rfl) ?_
  refine lv_iload_n hx hb dX5_isTied_1 rfl (lv_at hl 1 rfl) ?_
  obtain ⟨r1, e1, h⟩ := bsome h
  refine rd_V F hP k_X5_startOfSound mw_316 0 6 rfl (wsW_get 0 (by decide)) (q_X5_startOfSound l D Y ad G a1 r1 e1) rfl hl.1 ⟨Nat.le_of_ble_eq_true rfl, Nat.le_of_ble_eq_true rfl⟩ (rest := []) rfl (Nat.le_of_ble_eq_true rfl) ⟨Nat.le_of_ble_eq_true rfl, Nat.le_of_ble_eq_true rfl⟩ dX5_isTied_2 (fun o1 => ?_)
  refine lv_aload_n hx hb dX5_isTied_5 rfl (lv_at hl 0 rfl) ?_
  refine lv_iload_n hx hb dX5_isTied_6 rfl (lv_at hl 2 rfl) ?_
  obtain ⟨r2, e2, h⟩ := bsome h
  refine rd_V F hP k_X5_startOfBar mw_312 0 6 rfl (wsW_get 0 (by decide)) (q_X5_startOfBar l D Y ad G a2 r2 e2) rfl hl.1 ⟨Nat.le_of_ble_eq_true rfl, Nat.le_of_ble_eq_true rfl⟩ (rest := [.int r1]) rfl (Nat.le_of_ble_eq_true rfl) ⟨Nat.le_of_ble_eq_true rfl, Nat.le_of_ble_eq_true rfl⟩ dX5_isTied_7 (fun o2 => ?_)
  refine lv_icmp_ge (tgt := 17) hx hb dX5_isTied_10 (by decide) (fun c3 => ?_) (fun c3 => ?_)
  · have h := ifT h c3
    refine lv_iconst (v := 0) hx hb dX5_isTied_17 (by decide) ?_
    exact rd_end F hr hk rfl h dX5_isTied_18
  · have h := ifF h c3
    refine lv_iconst (v := 1) hx hb dX5_isTied_13 (by decide) ?_
    refine lv_goto (tgt := 18) hx hb dX5_isTied_14 (by decide) ?_
    exact rd_end F hr hk rfl h dX5_isTied_18
def f_X5_partsOfSound (G : Nat → Nat → Int32) (a1 : Int32) : Option Int32 := ((f_X5_startOfSound G a1).bind fun r1 => ((f_X5_barAt G ((r1 + (cell32 16 (G 6) a1)) - (1 : Int32))).bind fun r2 => ((f_X5_barAt G r1).bind fun r3 => some ((r2 - r3) + (1 : Int32)))))
set_option maxRecDepth 100000 in
set_option maxHeartbeats 4000000 in
theorem q_X5_partsOfSound (l : Launch) (D : va_G) (Y : Nat → ClassId) (ad : Nat → Nat) (G : Nat → Nat → Int32) (a1 : Int32) (r : Int32) (h : f_X5_partsOfSound G a1 = some r) : RD l yX5_partsOfSound cX5_partsOfSound 3 (some .int) 3 D Y (wsC Y ad G) [.ref (ad 0), .int a1] r := by
  refine RD_of (by decide) (Nat.le_of_ble_eq_true rfl) (lv := [(0, .ref (ad 0)), (1, .int a1)]) rfl ?_
  intro p e s m below meth c ls F hP hr hk hl
  have F : Fx p c cX5_partsOfSound 3 s m _ RX5 D Y := F
  have hx := F.1.1
  have hb := F.1.2.1
  refine lv_aload_n hx hb dX5_partsOfSound_0 rfl (lv_at hl 0 rfl) ?_
  refine lv_iload_n hx hb dX5_partsOfSound_1 rfl (lv_at hl 1 rfl) ?_
  obtain ⟨r1, e1, h⟩ := bsome h
  refine rd_V F hP k_X5_startOfSound mw_316 0 6 rfl (wsW_get 0 (by decide)) (q_X5_startOfSound l D Y ad G a1 r1 e1) rfl hl.1 ⟨Nat.le_of_ble_eq_true rfl, Nat.le_of_ble_eq_true rfl⟩ (rest := []) rfl (Nat.le_of_ble_eq_true rfl) ⟨Nat.le_of_ble_eq_true rfl, Nat.le_of_ble_eq_true rfl⟩ dX5_partsOfSound_2 (fun o1 => ?_)
  refine lv_istore_n (lv' := [(2, .int r1), (0, .ref (ad 0)), (1, .int a1)]) hx hb dX5_partsOfSound_5 rfl hl (by decide) rfl (fun ls hl => ?_)
  refine lv_aload_n hx hb dX5_partsOfSound_6 rfl (lv_at hl 1 rfl) ?_
  refine lv_iload_n hx hb dX5_partsOfSound_7 rfl (lv_at hl 0 rfl) ?_
  refine lv_aload_n hx hb dX5_partsOfSound_8 rfl (lv_at hl 1 rfl) ?_
  refine rC_0_5 F hP dX5_partsOfSound_9 ?_
  refine lv_iload_n hx hb dX5_partsOfSound_12 rfl (lv_at hl 2 rfl) ?_
  refine rd_SN F hP k_X9_cell mw_277 (q_X9_cell l D Y ad G 6 16 (by decide) (fun _ => rfl) a1 _ rfl) rfl hl.1 ⟨Nat.le_of_ble_eq_true rfl, Nat.le_of_ble_eq_true rfl⟩ (rest := [.int r1, .ref (ad 0)]) rfl (Nat.le_of_ble_eq_true rfl) ⟨Nat.le_of_ble_eq_true rfl, Nat.le_of_ble_eq_true rfl⟩ dX5_partsOfSound_13 (fun _ => ?_)
  refine lv_iadd hx hb dX5_partsOfSound_16 ?_
  refine lv_iconst (v := 1) hx hb dX5_partsOfSound_17 (by decide) ?_
  refine lv_isub hx hb dX5_partsOfSound_18 ?_
  obtain ⟨r2, e2, h⟩ := bsome h
  refine rd_V F hP k_X5_barAt mw_711 0 6 rfl (wsW_get 0 (by decide)) (q_X5_barAt l D Y ad G ((r1 + (cell32 16 (G 6) a1)) - (1 : Int32)) r2 e2) rfl hl.1 ⟨Nat.le_of_ble_eq_true rfl, Nat.le_of_ble_eq_true rfl⟩ (rest := []) rfl (Nat.le_of_ble_eq_true rfl) ⟨Nat.le_of_ble_eq_true rfl, Nat.le_of_ble_eq_true rfl⟩ dX5_partsOfSound_19 (fun o2 => ?_)
  refine lv_aload_n hx hb dX5_partsOfSound_22 rfl (lv_at hl 1 rfl) ?_
  refine lv_iload_n hx hb dX5_partsOfSound_23 rfl (lv_at hl 0 rfl) ?_
  obtain ⟨r3, e3, h⟩ := bsome h
  refine rd_V F hP k_X5_barAt mw_711 0 6 rfl (wsW_get 0 (by decide)) (q_X5_barAt l D Y ad G r1 r3 e3) rfl hl.1 ⟨Nat.le_of_ble_eq_true rfl, Nat.le_of_ble_eq_true rfl⟩ (rest := [.int r2]) rfl (Nat.le_of_ble_eq_true rfl) ⟨Nat.le_of_ble_eq_true rfl, Nat.le_of_ble_eq_true rfl⟩ dX5_partsOfSound_24 (fun o3 => ?_)
  refine lv_isub hx hb dX5_partsOfSound_27 ?_
  refine lv_iconst (v := 1) hx hb dX5_partsOfSound_28 (by decide) ?_
  refine lv_iadd hx hb dX5_partsOfSound_29 ?_
  exact rd_end F hr hk rfl h dX5_partsOfSound_30
def f_X5_partsOfBar_27 (G : Nat → Nat → Int32) (a1 : Int32) (k4 : Int32 → Int32 → Option Int32) (x3 : Int32) (s27_0 : Int32) (s27_1 : Int32) : Option Int32 := k4 (s27_1 + s27_0) (x3 + 1)
def f_X5_partsOfBar_4 (G : Nat → Nat → Int32) (a1 : Int32) (n : Nat) (y2 : Int32) (y3 : Int32) : Option Int32 := lq2 (fun (k4 : Int32 → Int32 → Option Int32) (x2 : Int32) (x3 : Int32) => (if (G 0 7) ≤ x3 then some x2 else ((f_X5_overlap G x3 a1).bind fun r2 => (if r2 ≤ 0 then f_X5_partsOfBar_27 G a1 k4 x3 (0 : Int32) x2 else f_X5_partsOfBar_27 G a1 k4 x3 (1 : Int32) x2)))) n y2 y3
def f_X5_partsOfBar (G : Nat → Nat → Int32) (a1 : Int32) : Option Int32 := f_X5_partsOfBar_4 G a1 4096 (0 : Int32) (0 : Int32)
set_option maxRecDepth 100000 in
set_option maxHeartbeats 4000000 in
theorem q_X5_partsOfBar (l : Launch) (D : va_G) (Y : Nat → ClassId) (ad : Nat → Nat) (G : Nat → Nat → Int32) (a1 : Int32) (r : Int32) (h : f_X5_partsOfBar G a1 = some r) : RD l yX5_partsOfBar cX5_partsOfBar 4 (some .int) 3 D Y (wsC Y ad G) [.ref (ad 0), .int a1] r := by
  refine RD_of (by decide) (Nat.le_of_ble_eq_true rfl) (lv := [(0, .ref (ad 0)), (1, .int a1)]) rfl ?_
  intro p e s m below meth c ls F hP hr hk hl
  have F : Fx p c cX5_partsOfBar 4 s m _ RX5 D Y := F
  have hx := F.1.1
  have hb := F.1.2.1
  have key4 : ∀ (n : Nat) (x2 : Int32) (x3 : Int32) (ls : Array Slot), lv_has ls 4 [(0, .ref (ad 0)), (1, .int a1), (2, .int x2), (3, .int x3)] → f_X5_partsOfBar_4 G a1  n x2 x3 = some r → WD p l e 3 s m ([.ref (ad 0), .int a1] : List Value).toArray below meth c s.heap (some .int) r (F0 m 4 ls []) := by
    intro  n
    induction n with
    | zero => intro x2 x3 ls hl h; exact lqZ2 h
    | succ n4 ih4 =>
      have key27 : ∀ (x3 : Int32) (s27_0 : Int32) (s27_1 : Int32) (ls : Array Slot), lv_has ls 4 [(0, .ref (ad 0)), (1, .int a1), (3, .int x3)] → f_X5_partsOfBar_27 G a1 (f_X5_partsOfBar_4 G a1   n4) x3 s27_0 s27_1 = some r → WD p l e 3 s m ([.ref (ad 0), .int a1] : List Value).toArray below meth c s.heap (some .int) r (F0 m 27 ls [.int s27_0, .int s27_1]) := by
        intro x3 s27_0 s27_1 ls hl h
        refine lv_iadd hx hb dX5_partsOfBar_27 ?_
        refine lv_istore_n (lv' := [(2, .int ((s27_1 + s27_0))), (0, .ref (ad 0)), (1, .int a1), (3, .int x3)]) hx hb dX5_partsOfBar_28 rfl hl (by decide) rfl (fun ls hl => ?_)
        refine lv_iinc (v := (x3 + 1)) (lv' := [(3, .int ((x3 + 1))), (2, .int ((s27_1 + s27_0))), (0, .ref (ad 0)), (1, .int a1)]) hx hb dX5_partsOfBar_29 hl (k := 3) rfl rfl (by decide) rfl (fun ls hl => ?_)
        refine lv_goto (tgt := 4) hx hb dX5_partsOfBar_32 (by decide) ?_
        exact ih4 (s27_1 + s27_0) (x3 + 1) ls (lv_sub hl [2, 3, 1, 0] rfl) h
      intro x2 x3 ls hl h
      have h := lqS2 h
      refine lv_iload_n hx hb dX5_partsOfBar_4 rfl (lv_at hl 3 rfl) ?_
      refine lv_aload_n hx hb dX5_partsOfBar_5 rfl (lv_at hl 0 rfl) ?_
      refine rC_0_7 F hP dX5_partsOfBar_6 ?_
      refine lv_icmp_ge (tgt := 35) hx hb dX5_partsOfBar_9 (by decide) (fun c1 => ?_) (fun c1 => ?_)
      · have h := ifT h c1
        refine lv_iload_n hx hb dX5_partsOfBar_35 rfl (lv_at hl 2 rfl) ?_
        exact rd_end F hr hk rfl h dX5_partsOfBar_36
      · have h := ifF h c1
        refine lv_iload_n hx hb dX5_partsOfBar_12 rfl (lv_at hl 2 rfl) ?_
        refine lv_aload_n hx hb dX5_partsOfBar_13 rfl (lv_at hl 0 rfl) ?_
        refine lv_iload_n hx hb dX5_partsOfBar_14 rfl (lv_at hl 3 rfl) ?_
        refine lv_iload_n hx hb dX5_partsOfBar_15 rfl (lv_at hl 1 rfl) ?_
        obtain ⟨r2, e2, h⟩ := bsome h
        refine rd_V F hP k_X5_overlap mw_648 0 6 rfl (wsW_get 0 (by decide)) (q_X5_overlap l D Y ad G x3 a1 r2 e2) rfl hl.1 ⟨Nat.le_of_ble_eq_true rfl, Nat.le_of_ble_eq_true rfl⟩ (rest := [.int x2]) rfl (Nat.le_of_ble_eq_true rfl) ⟨Nat.le_of_ble_eq_true rfl, Nat.le_of_ble_eq_true rfl⟩ dX5_partsOfBar_16 (fun o2 => ?_)
        refine lv_if_le (tgt := 26) hx hb dX5_partsOfBar_19 (by decide) (fun c3 => ?_) (fun c3 => ?_)
        · have h := ifT h c3
          refine lv_iconst (v := 0) hx hb dX5_partsOfBar_26 (by decide) ?_
          exact key27 x3 (0 : Int32) x2 ls (lv_sub hl [0, 1, 3] rfl) h
        · have h := ifF h c3
          refine lv_iconst (v := 1) hx hb dX5_partsOfBar_22 (by decide) ?_
          refine lv_goto (tgt := 27) hx hb dX5_partsOfBar_23 (by decide) ?_
          exact key27 x3 (1 : Int32) x2 ls (lv_sub hl [0, 1, 3] rfl) h
  refine lv_iconst (v := 0) hx hb dX5_partsOfBar_0 (by decide) ?_
  refine lv_istore_n (lv' := [(2, .int ((0 : Int32))), (0, .ref (ad 0)), (1, .int a1)]) hx hb dX5_partsOfBar_1 rfl hl (by decide) rfl (fun ls hl => ?_)
  refine lv_iconst (v := 0) hx hb dX5_partsOfBar_2 (by decide) ?_
  refine lv_istore_n (lv' := [(3, .int ((0 : Int32))), (2, .int ((0 : Int32))), (0, .ref (ad 0)), (1, .int a1)]) hx hb dX5_partsOfBar_3 rfl hl (by decide) rfl (fun ls hl => ?_)
  exact key4 4096 (0 : Int32) (0 : Int32) ls (lv_sub hl [2, 3, 1, 0] rfl) h
def f_X5_allParts_4 (G : Nat → Nat → Int32) (n : Nat) (y1 : Int32) (y2 : Int32) : Option Int32 := lq2 (fun (k4 : Int32 → Int32 → Option Int32) (x1 : Int32) (x2 : Int32) => (if (G 0 6) ≤ x2 then some x1 else ((f_X5_partsOfBar G x2).bind fun r2 => k4 (x1 + r2) (x2 + 1)))) n y1 y2
def f_X5_allParts (G : Nat → Nat → Int32) : Option Int32 := f_X5_allParts_4 G 4096 (0 : Int32) (0 : Int32)
set_option maxRecDepth 100000 in
set_option maxHeartbeats 4000000 in
theorem q_X5_allParts (l : Launch) (D : va_G) (Y : Nat → ClassId) (ad : Nat → Nat) (G : Nat → Nat → Int32) (r : Int32) (h : f_X5_allParts G  = some r) : RD l yX5_allParts cX5_allParts 3 (some .int) 4 D Y (wsC Y ad G) [.ref (ad 0)] r := by
  refine RD_of (by decide) (Nat.le_of_ble_eq_true rfl) (lv := [(0, .ref (ad 0))]) rfl ?_
  intro p e s m below meth c ls F hP hr hk hl
  have F : Fx p c cX5_allParts 3 s m _ RX5 D Y := F
  have hx := F.1.1
  have hb := F.1.2.1
  have key4 : ∀ (n : Nat) (x1 : Int32) (x2 : Int32) (ls : Array Slot), lv_has ls 3 [(0, .ref (ad 0)), (1, .int x1), (2, .int x2)] → f_X5_allParts_4 G   n x1 x2 = some r → WD p l e 4 s m ([.ref (ad 0)] : List Value).toArray below meth c s.heap (some .int) r (F0 m 4 ls []) := by
    intro  n
    induction n with
    | zero => intro x1 x2 ls hl h; exact lqZ2 h
    | succ n4 ih4 =>
      intro x1 x2 ls hl h
      have h := lqS2 h
      refine lv_iload_n hx hb dX5_allParts_4 rfl (lv_at hl 2 rfl) ?_
      refine lv_aload_n hx hb dX5_allParts_5 rfl (lv_at hl 0 rfl) ?_
      refine rC_0_6 F hP dX5_allParts_6 ?_
      refine lv_icmp_ge (tgt := 26) hx hb dX5_allParts_9 (by decide) (fun c1 => ?_) (fun c1 => ?_)
      · have h := ifT h c1
        refine lv_iload_n hx hb dX5_allParts_26 rfl (lv_at hl 1 rfl) ?_
        exact rd_end F hr hk rfl h dX5_allParts_27
      · have h := ifF h c1
        refine lv_iload_n hx hb dX5_allParts_12 rfl (lv_at hl 1 rfl) ?_
        refine lv_aload_n hx hb dX5_allParts_13 rfl (lv_at hl 0 rfl) ?_
        refine lv_iload_n hx hb dX5_allParts_14 rfl (lv_at hl 2 rfl) ?_
        obtain ⟨r2, e2, h⟩ := bsome h
        refine rd_V F hP k_X5_partsOfBar mw_644 0 6 rfl (wsW_get 0 (by decide)) (q_X5_partsOfBar l D Y ad G x2 r2 e2) rfl hl.1 ⟨Nat.le_of_ble_eq_true rfl, Nat.le_of_ble_eq_true rfl⟩ (rest := [.int x1]) rfl (Nat.le_of_ble_eq_true rfl) ⟨Nat.le_of_ble_eq_true rfl, Nat.le_of_ble_eq_true rfl⟩ dX5_allParts_15 (fun o2 => ?_)
        refine lv_iadd hx hb dX5_allParts_18 ?_
        refine lv_istore_n (lv' := [(1, .int ((x1 + r2))), (0, .ref (ad 0)), (2, .int x2)]) hx hb dX5_allParts_19 rfl hl (by decide) rfl (fun ls hl => ?_)
        refine lv_iinc (v := (x2 + 1)) (lv' := [(2, .int ((x2 + 1))), (1, .int ((x1 + r2))), (0, .ref (ad 0))]) hx hb dX5_allParts_20 hl (k := 2) rfl rfl (by decide) rfl (fun ls hl => ?_)
        refine lv_goto (tgt := 4) hx hb dX5_allParts_23 (by decide) ?_
        exact ih4 (x1 + r2) (x2 + 1) ls (lv_sub hl [2, 1, 0] rfl) h
  refine lv_iconst (v := 0) hx hb dX5_allParts_0 (by decide) ?_
  refine lv_istore_n (lv' := [(1, .int ((0 : Int32))), (0, .ref (ad 0))]) hx hb dX5_allParts_1 rfl hl (by decide) rfl (fun ls hl => ?_)
  refine lv_iconst (v := 0) hx hb dX5_allParts_2 (by decide) ?_
  refine lv_istore_n (lv' := [(2, .int ((0 : Int32))), (1, .int ((0 : Int32))), (0, .ref (ad 0))]) hx hb dX5_allParts_3 rfl hl (by decide) rfl (fun ls hl => ?_)
  exact key4 4096 (0 : Int32) (0 : Int32) ls (lv_sub hl [2, 1, 0] rfl) h
def f_X5_beginningsIn_31 (G : Nat → Nat → Int32) (a1 : Int32) (k4 : Int32 → Int32 → Option Int32) (x3 : Int32) (s31_0 : Int32) (s31_1 : Int32) : Option Int32 := k4 (s31_1 + s31_0) (x3 + 1)
def f_X5_beginningsIn_4 (G : Nat → Nat → Int32) (a1 : Int32) (n : Nat) (y2 : Int32) (y3 : Int32) : Option Int32 := lq2 (fun (k4 : Int32 → Int32 → Option Int32) (x2 : Int32) (x3 : Int32) => (if (G 0 7) ≤ x3 then some x2 else ((f_X5_startOfSound G x3).bind fun r2 => ((f_X5_barAt G r2).bind fun r3 => (if r3 = a1 then f_X5_beginningsIn_31 G a1 k4 x3 (1 : Int32) x2 else f_X5_beginningsIn_31 G a1 k4 x3 (0 : Int32) x2))))) n y2 y3
def f_X5_beginningsIn (G : Nat → Nat → Int32) (a1 : Int32) : Option Int32 := f_X5_beginningsIn_4 G a1 4096 (0 : Int32) (0 : Int32)
set_option maxRecDepth 100000 in
set_option maxHeartbeats 4000000 in
theorem q_X5_beginningsIn (l : Launch) (D : va_G) (Y : Nat → ClassId) (ad : Nat → Nat) (G : Nat → Nat → Int32) (a1 : Int32) (r : Int32) (h : f_X5_beginningsIn G a1 = some r) : RD l yX5_beginningsIn cX5_beginningsIn 4 (some .int) 3 D Y (wsC Y ad G) [.ref (ad 0), .int a1] r := by
  refine RD_of (by decide) (Nat.le_of_ble_eq_true rfl) (lv := [(0, .ref (ad 0)), (1, .int a1)]) rfl ?_
  intro p e s m below meth c ls F hP hr hk hl
  have F : Fx p c cX5_beginningsIn 4 s m _ RX5 D Y := F
  have hx := F.1.1
  have hb := F.1.2.1
  have key4 : ∀ (n : Nat) (x2 : Int32) (x3 : Int32) (ls : Array Slot), lv_has ls 4 [(0, .ref (ad 0)), (1, .int a1), (2, .int x2), (3, .int x3)] → f_X5_beginningsIn_4 G a1  n x2 x3 = some r → WD p l e 3 s m ([.ref (ad 0), .int a1] : List Value).toArray below meth c s.heap (some .int) r (F0 m 4 ls []) := by
    intro  n
    induction n with
    | zero => intro x2 x3 ls hl h; exact lqZ2 h
    | succ n4 ih4 =>
      have key31 : ∀ (x3 : Int32) (s31_0 : Int32) (s31_1 : Int32) (ls : Array Slot), lv_has ls 4 [(0, .ref (ad 0)), (1, .int a1), (3, .int x3)] → f_X5_beginningsIn_31 G a1 (f_X5_beginningsIn_4 G a1   n4) x3 s31_0 s31_1 = some r → WD p l e 3 s m ([.ref (ad 0), .int a1] : List Value).toArray below meth c s.heap (some .int) r (F0 m 31 ls [.int s31_0, .int s31_1]) := by
        intro x3 s31_0 s31_1 ls hl h
        refine lv_iadd hx hb dX5_beginningsIn_31 ?_
        refine lv_istore_n (lv' := [(2, .int ((s31_1 + s31_0))), (0, .ref (ad 0)), (1, .int a1), (3, .int x3)]) hx hb dX5_beginningsIn_32 rfl hl (by decide) rfl (fun ls hl => ?_)
        refine lv_iinc (v := (x3 + 1)) (lv' := [(3, .int ((x3 + 1))), (2, .int ((s31_1 + s31_0))), (0, .ref (ad 0)), (1, .int a1)]) hx hb dX5_beginningsIn_33 hl (k := 3) rfl rfl (by decide) rfl (fun ls hl => ?_)
        refine lv_goto (tgt := 4) hx hb dX5_beginningsIn_36 (by decide) ?_
        exact ih4 (s31_1 + s31_0) (x3 + 1) ls (lv_sub hl [2, 3, 1, 0] rfl) h
      intro x2 x3 ls hl h
      have h := lqS2 h
      refine lv_iload_n hx hb dX5_beginningsIn_4 rfl (lv_at hl 3 rfl) ?_
      refine lv_aload_n hx hb dX5_beginningsIn_5 rfl (lv_at hl 0 rfl) ?_
      refine rC_0_7 F hP dX5_beginningsIn_6 ?_
      refine lv_icmp_ge (tgt := 39) hx hb dX5_beginningsIn_9 (by decide) (fun c1 => ?_) (fun c1 => ?_)
      · have h := ifT h c1
        refine lv_iload_n hx hb dX5_beginningsIn_39 rfl (lv_at hl 2 rfl) ?_
        exact rd_end F hr hk rfl h dX5_beginningsIn_40
      · have h := ifF h c1
        refine lv_iload_n hx hb dX5_beginningsIn_12 rfl (lv_at hl 2 rfl) ?_
        refine lv_aload_n hx hb dX5_beginningsIn_13 rfl (lv_at hl 0 rfl) ?_
        refine lv_aload_n hx hb dX5_beginningsIn_14 rfl (lv_at hl 0 rfl) ?_
        refine lv_iload_n hx hb dX5_beginningsIn_15 rfl (lv_at hl 3 rfl) ?_
        obtain ⟨r2, e2, h⟩ := bsome h
        refine rd_V F hP k_X5_startOfSound mw_316 0 6 rfl (wsW_get 0 (by decide)) (q_X5_startOfSound l D Y ad G x3 r2 e2) rfl hl.1 ⟨Nat.le_of_ble_eq_true rfl, Nat.le_of_ble_eq_true rfl⟩ (rest := [.ref (ad 0), .int x2]) rfl (Nat.le_of_ble_eq_true rfl) ⟨Nat.le_of_ble_eq_true rfl, Nat.le_of_ble_eq_true rfl⟩ dX5_beginningsIn_16 (fun o2 => ?_)
        obtain ⟨r3, e3, h⟩ := bsome h
        refine rd_V F hP k_X5_barAt mw_711 0 6 rfl (wsW_get 0 (by decide)) (q_X5_barAt l D Y ad G r2 r3 e3) rfl hl.1 ⟨Nat.le_of_ble_eq_true rfl, Nat.le_of_ble_eq_true rfl⟩ (rest := [.int x2]) rfl (Nat.le_of_ble_eq_true rfl) ⟨Nat.le_of_ble_eq_true rfl, Nat.le_of_ble_eq_true rfl⟩ dX5_beginningsIn_19 (fun o3 => ?_)
        refine lv_iload_n hx hb dX5_beginningsIn_22 rfl (lv_at hl 1 rfl) ?_
        refine lv_icmp_ne (tgt := 30) hx hb dX5_beginningsIn_23 (by decide) (fun c4 => ?_) (fun c4 => ?_)
        · have h := ifF h c4
          refine lv_iconst (v := 0) hx hb dX5_beginningsIn_30 (by decide) ?_
          exact key31 x3 (0 : Int32) x2 ls (lv_sub hl [0, 1, 3] rfl) h
        · have h := ifT h c4
          refine lv_iconst (v := 1) hx hb dX5_beginningsIn_26 (by decide) ?_
          refine lv_goto (tgt := 31) hx hb dX5_beginningsIn_27 (by decide) ?_
          exact key31 x3 (1 : Int32) x2 ls (lv_sub hl [0, 1, 3] rfl) h
  refine lv_iconst (v := 0) hx hb dX5_beginningsIn_0 (by decide) ?_
  refine lv_istore_n (lv' := [(2, .int ((0 : Int32))), (0, .ref (ad 0)), (1, .int a1)]) hx hb dX5_beginningsIn_1 rfl hl (by decide) rfl (fun ls hl => ?_)
  refine lv_iconst (v := 0) hx hb dX5_beginningsIn_2 (by decide) ?_
  refine lv_istore_n (lv' := [(3, .int ((0 : Int32))), (2, .int ((0 : Int32))), (0, .ref (ad 0)), (1, .int a1)]) hx hb dX5_beginningsIn_3 rfl hl (by decide) rfl (fun ls hl => ?_)
  exact key4 4096 (0 : Int32) (0 : Int32) ls (lv_sub hl [2, 3, 1, 0] rfl) h
def f_X5_filledOfBar (G : Nat → Nat → Int32) (a1 : Int32) : Option Int32 := ((f_X5_filledBeats G ).bind fun r1 => ((f_X5_startOfBar G a1).bind fun r2 => some (max32 (0 : Int32) (min32 (r1 - r2) (cell32 6 (G 1) a1)))))
set_option maxRecDepth 100000 in
set_option maxHeartbeats 4000000 in
theorem q_X5_filledOfBar (l : Launch) (D : va_G) (Y : Nat → ClassId) (ad : Nat → Nat) (G : Nat → Nat → Int32) (a1 : Int32) (r : Int32) (h : f_X5_filledOfBar G a1 = some r) : RD l yX5_filledOfBar cX5_filledOfBar 3 (some .int) 2 D Y (wsC Y ad G) [.ref (ad 0), .int a1] r := by
  refine RD_of (by decide) (Nat.le_of_ble_eq_true rfl) (lv := [(0, .ref (ad 0)), (1, .int a1)]) rfl ?_
  intro p e s m below meth c ls F hP hr hk hl
  have F : Fx p c cX5_filledOfBar 3 s m _ RX5 D Y := F
  have hx := F.1.1
  have hb := F.1.2.1
  refine lv_aload_n hx hb dX5_filledOfBar_0 rfl (lv_at hl 0 rfl) ?_
  obtain ⟨r1, e1, h⟩ := bsome h
  refine rd_V F hP k_X5_filledBeats mw_754 0 6 rfl (wsW_get 0 (by decide)) (q_X5_filledBeats l D Y ad G  r1 e1) rfl hl.1 ⟨Nat.le_of_ble_eq_true rfl, Nat.le_of_ble_eq_true rfl⟩ (rest := []) rfl (Nat.le_of_ble_eq_true rfl) ⟨Nat.le_of_ble_eq_true rfl, Nat.le_of_ble_eq_true rfl⟩ dX5_filledOfBar_1 (fun o1 => ?_)
  refine lv_aload_n hx hb dX5_filledOfBar_4 rfl (lv_at hl 0 rfl) ?_
  refine lv_iload_n hx hb dX5_filledOfBar_5 rfl (lv_at hl 1 rfl) ?_
  obtain ⟨r2, e2, h⟩ := bsome h
  refine rd_V F hP k_X5_startOfBar mw_312 0 6 rfl (wsW_get 0 (by decide)) (q_X5_startOfBar l D Y ad G a1 r2 e2) rfl hl.1 ⟨Nat.le_of_ble_eq_true rfl, Nat.le_of_ble_eq_true rfl⟩ (rest := [.int r1]) rfl (Nat.le_of_ble_eq_true rfl) ⟨Nat.le_of_ble_eq_true rfl, Nat.le_of_ble_eq_true rfl⟩ dX5_filledOfBar_6 (fun o2 => ?_)
  refine lv_isub hx hb dX5_filledOfBar_9 ?_
  refine lv_istore_n (lv' := [(2, .int ((r1 - r2))), (0, .ref (ad 0)), (1, .int a1)]) hx hb dX5_filledOfBar_10 rfl hl (by decide) rfl (fun ls hl => ?_)
  refine lv_iconst (v := 0) hx hb dX5_filledOfBar_11 (by decide) ?_
  refine lv_iload_n hx hb dX5_filledOfBar_12 rfl (lv_at hl 0 rfl) ?_
  refine lv_aload_n hx hb dX5_filledOfBar_13 rfl (lv_at hl 1 rfl) ?_
  refine rC_0_0 F hP dX5_filledOfBar_14 ?_
  refine lv_iload_n hx hb dX5_filledOfBar_17 rfl (lv_at hl 2 rfl) ?_
  refine rd_SN F hP k_X9_cell mw_277 (q_X9_cell l D Y ad G 1 6 (by decide) (fun _ => rfl) a1 _ rfl) rfl hl.1 ⟨Nat.le_of_ble_eq_true rfl, Nat.le_of_ble_eq_true rfl⟩ (rest := [.int ((r1 - r2)), .int ((0 : Int32))]) rfl (Nat.le_of_ble_eq_true rfl) ⟨Nat.le_of_ble_eq_true rfl, Nat.le_of_ble_eq_true rfl⟩ dX5_filledOfBar_18 (fun _ => ?_)
  refine w_min F hl mw_652 ⟨Nat.le_of_ble_eq_true rfl, Nat.le_of_ble_eq_true rfl, Nat.le_of_ble_eq_true rfl, Nat.le_of_ble_eq_true rfl⟩ dX5_filledOfBar_21 ?_
  refine w_max F hl mw_653 ⟨Nat.le_of_ble_eq_true rfl, Nat.le_of_ble_eq_true rfl, Nat.le_of_ble_eq_true rfl, Nat.le_of_ble_eq_true rfl⟩ dX5_filledOfBar_24 ?_
  exact rd_end F hr hk rfl h dX5_filledOfBar_27
def f_X5_soundOfPart_35 (G : Nat → Nat → Int32) (a1 : Int32) (a2 : Int32) (k5 : Int32 → Int32 → Option Int32) (x3 : Int32) (x4 : Int32) : Option Int32 := k5 x3 (x4 + 1)
def f_X5_soundOfPart_5 (G : Nat → Nat → Int32) (a1 : Int32) (a2 : Int32) (n : Nat) (y3 : Int32) (y4 : Int32) : Option Int32 := lq2 (fun (k5 : Int32 → Int32 → Option Int32) (x3 : Int32) (x4 : Int32) => (if (G 0 7) ≤ x4 then some (-1 : Int32) else ((f_X5_overlap G x4 a1).bind fun r2 => (if r2 ≤ 0 then f_X5_soundOfPart_35 G a1 a2 k5 x3 x4 else (if x3 = a2 then some x4 else f_X5_soundOfPart_35 G a1 a2 k5 (x3 + 1) x4))))) n y3 y4
def f_X5_soundOfPart (G : Nat → Nat → Int32) (a1 : Int32) (a2 : Int32) : Option Int32 := f_X5_soundOfPart_5 G a1 a2 4096 (0 : Int32) (0 : Int32)
set_option maxRecDepth 100000 in
set_option maxHeartbeats 4000000 in
theorem q_X5_soundOfPart (l : Launch) (D : va_G) (Y : Nat → ClassId) (ad : Nat → Nat) (G : Nat → Nat → Int32) (a1 : Int32) (a2 : Int32) (r : Int32) (h : f_X5_soundOfPart G a1 a2 = some r) : RD l yX5_soundOfPart cX5_soundOfPart 5 (some .int) 3 D Y (wsC Y ad G) [.ref (ad 0), .int a1, .int a2] r := by
  refine RD_of (by decide) (Nat.le_of_ble_eq_true rfl) (lv := [(0, .ref (ad 0)), (1, .int a1), (2, .int a2)]) rfl ?_
  intro p e s m below meth c ls F hP hr hk hl
  have F : Fx p c cX5_soundOfPart 5 s m _ RX5 D Y := F
  have hx := F.1.1
  have hb := F.1.2.1
  have key5 : ∀ (n : Nat) (x3 : Int32) (x4 : Int32) (ls : Array Slot), lv_has ls 5 [(0, .ref (ad 0)), (1, .int a1), (2, .int a2), (3, .int x3), (4, .int x4)] → f_X5_soundOfPart_5 G a1 a2  n x3 x4 = some r → WD p l e 3 s m ([.ref (ad 0), .int a1, .int a2] : List Value).toArray below meth c s.heap (some .int) r (F0 m 5 ls []) := by
    intro  n
    induction n with
    | zero => intro x3 x4 ls hl h; exact lqZ2 h
    | succ n5 ih5 =>
      have key35 : ∀ (x3 : Int32) (x4 : Int32) (ls : Array Slot), lv_has ls 5 [(0, .ref (ad 0)), (1, .int a1), (2, .int a2), (3, .int x3), (4, .int x4)] → f_X5_soundOfPart_35 G a1 a2 (f_X5_soundOfPart_5 G a1 a2   n5) x3 x4 = some r → WD p l e 3 s m ([.ref (ad 0), .int a1, .int a2] : List Value).toArray below meth c s.heap (some .int) r (F0 m 35 ls []) := by
        intro x3 x4 ls hl h
        refine lv_iinc (v := (x4 + 1)) (lv' := [(4, .int ((x4 + 1))), (0, .ref (ad 0)), (1, .int a1), (2, .int a2), (3, .int x3)]) hx hb dX5_soundOfPart_35 hl (k := 4) rfl rfl (by decide) rfl (fun ls hl => ?_)
        refine lv_goto (tgt := 5) hx hb dX5_soundOfPart_38 (by decide) ?_
        exact ih5 x3 (x4 + 1) ls (lv_sub hl [1, 2, 3, 4, 0] rfl) h
      intro x3 x4 ls hl h
      have h := lqS2 h
      refine lv_iload hx hb dX5_soundOfPart_5 (lv_at hl 4 rfl) ?_
      refine lv_aload_n hx hb dX5_soundOfPart_7 rfl (lv_at hl 0 rfl) ?_
      refine rC_0_7 F hP dX5_soundOfPart_8 ?_
      refine lv_icmp_ge (tgt := 41) hx hb dX5_soundOfPart_11 (by decide) (fun c1 => ?_) (fun c1 => ?_)
      · have h := ifT h c1
        refine lv_iconst (v := -1) hx hb dX5_soundOfPart_41 (by decide) ?_
        exact rd_end F hr hk rfl h dX5_soundOfPart_42
      · have h := ifF h c1
        refine lv_aload_n hx hb dX5_soundOfPart_14 rfl (lv_at hl 0 rfl) ?_
        refine lv_iload hx hb dX5_soundOfPart_15 (lv_at hl 4 rfl) ?_
        refine lv_iload_n hx hb dX5_soundOfPart_17 rfl (lv_at hl 1 rfl) ?_
        obtain ⟨r2, e2, h⟩ := bsome h
        refine rd_V F hP k_X5_overlap mw_648 0 6 rfl (wsW_get 0 (by decide)) (q_X5_overlap l D Y ad G x4 a1 r2 e2) rfl hl.1 ⟨Nat.le_of_ble_eq_true rfl, Nat.le_of_ble_eq_true rfl⟩ (rest := []) rfl (Nat.le_of_ble_eq_true rfl) ⟨Nat.le_of_ble_eq_true rfl, Nat.le_of_ble_eq_true rfl⟩ dX5_soundOfPart_18 (fun o2 => ?_)
        refine lv_if_le (tgt := 35) hx hb dX5_soundOfPart_21 (by decide) (fun c3 => ?_) (fun c3 => ?_)
        · have h := ifT h c3
          exact key35 x3 x4 ls (lv_sub hl [0, 1, 2, 3, 4] rfl) h
        · have h := ifF h c3
          refine lv_iload_n hx hb dX5_soundOfPart_24 rfl (lv_at hl 3 rfl) ?_
          refine lv_iload_n hx hb dX5_soundOfPart_25 rfl (lv_at hl 2 rfl) ?_
          refine lv_icmp_ne (tgt := 32) hx hb dX5_soundOfPart_26 (by decide) (fun c4 => ?_) (fun c4 => ?_)
          · have h := ifF h c4
            refine lv_iinc (v := (x3 + 1)) (lv' := [(3, .int ((x3 + 1))), (0, .ref (ad 0)), (1, .int a1), (2, .int a2), (4, .int x4)]) hx hb dX5_soundOfPart_32 hl (k := 3) rfl rfl (by decide) rfl (fun ls hl => ?_)
            exact key35 (x3 + 1) x4 ls (lv_sub hl [1, 2, 3, 0, 4] rfl) h
          · have h := ifT h c4
            refine lv_iload hx hb dX5_soundOfPart_29 (lv_at hl 4 rfl) ?_
            exact rd_end F hr hk rfl h dX5_soundOfPart_31
  refine lv_iconst (v := 0) hx hb dX5_soundOfPart_0 (by decide) ?_
  refine lv_istore_n (lv' := [(3, .int ((0 : Int32))), (0, .ref (ad 0)), (1, .int a1), (2, .int a2)]) hx hb dX5_soundOfPart_1 rfl hl (by decide) rfl (fun ls hl => ?_)
  refine lv_iconst (v := 0) hx hb dX5_soundOfPart_2 (by decide) ?_
  refine lv_istore (lv' := [(4, .int ((0 : Int32))), (3, .int ((0 : Int32))), (0, .ref (ad 0)), (1, .int a1), (2, .int a2)]) hx hb dX5_soundOfPart_3 hl (by decide) rfl (fun ls hl => ?_)
  exact key5 4096 (0 : Int32) (0 : Int32) ls (lv_sub hl [2, 3, 4, 1, 0] rfl) h
def f_X5_arePartsWhole_14 (G : Nat → Nat → Int32) (k2 : Int32 → Option Int32) (x1 : Int32) (n : Nat) (y2 : Int32) (y3 : Int32) : Option Int32 := lq2 (fun (k14 : Int32 → Int32 → Option Int32) (x2 : Int32) (x3 : Int32) => (if (G 0 6) ≤ x3 then (if x2 = (cell32 16 (G 6) x1) then k2 (x1 + 1) else some (0 : Int32)) else ((f_X5_overlap G x1 x3).bind fun r3 => k14 (x2 + r3) (x3 + 1)))) n y2 y3
def f_X5_arePartsWhole_2 (G : Nat → Nat → Int32) (n : Nat) (y1 : Int32) : Option Int32 := lq1 (fun (k2 : Int32 → Option Int32) (x1 : Int32) => (if (G 0 7) ≤ x1 then some (1 : Int32) else f_X5_arePartsWhole_14 G k2 x1 4096 (0 : Int32) (0 : Int32))) n y1
def f_X5_arePartsWhole (G : Nat → Nat → Int32) : Option Int32 := f_X5_arePartsWhole_2 G 4096 (0 : Int32)
set_option maxRecDepth 100000 in
set_option maxHeartbeats 4000000 in
theorem q_X5_arePartsWhole (l : Launch) (D : va_G) (Y : Nat → ClassId) (ad : Nat → Nat) (G : Nat → Nat → Int32) (r : Int32) (h : f_X5_arePartsWhole G  = some r) : RD l yX5_arePartsWhole cX5_arePartsWhole 4 (some .boolean) 3 D Y (wsC Y ad G) [.ref (ad 0)] r := by
  refine RD_of (by decide) (Nat.le_of_ble_eq_true rfl) (lv := [(0, .ref (ad 0))]) rfl ?_
  intro p e s m below meth c ls F hP hr hk hl
  have F : Fx p c cX5_arePartsWhole 4 s m _ RX5 D Y := F
  have hx := F.1.1
  have hb := F.1.2.1
  have key2 : ∀ (n : Nat) (x1 : Int32) (ls : Array Slot), lv_has ls 4 [(0, .ref (ad 0)), (1, .int x1)] → f_X5_arePartsWhole_2 G   n x1 = some r → WD p l e 3 s m ([.ref (ad 0)] : List Value).toArray below meth c s.heap (some .boolean) r (F0 m 2 ls []) := by
    intro  n
    induction n with
    | zero => intro x1 ls hl h; exact lqZ1 h
    | succ n2 ih2 =>
      have key14 : ∀ (x1 : Int32) (n : Nat) (x2 : Int32) (x3 : Int32) (ls : Array Slot), lv_has ls 4 [(0, .ref (ad 0)), (1, .int x1), (2, .int x2), (3, .int x3)] → f_X5_arePartsWhole_14 G  (f_X5_arePartsWhole_2 G    n2) x1 n x2 x3 = some r → WD p l e 3 s m ([.ref (ad 0)] : List Value).toArray below meth c s.heap (some .boolean) r (F0 m 14 ls []) := by
        intro x1 n
        induction n with
        | zero => intro x2 x3 ls hl h; exact lqZ2 h
        | succ n14 ih14 =>
          intro x2 x3 ls hl h
          have h := lqS2 h
          refine lv_iload_n hx hb dX5_arePartsWhole_14 rfl (lv_at hl 3 rfl) ?_
          refine lv_aload_n hx hb dX5_arePartsWhole_15 rfl (lv_at hl 0 rfl) ?_
          refine rC_0_6 F hP dX5_arePartsWhole_16 ?_
          refine lv_icmp_ge (tgt := 37) hx hb dX5_arePartsWhole_19 (by decide) (fun c1 => ?_) (fun c1 => ?_)
          · have h := ifT h c1
            refine lv_iload_n hx hb dX5_arePartsWhole_37 rfl (lv_at hl 2 rfl) ?_
            refine lv_aload_n hx hb dX5_arePartsWhole_38 rfl (lv_at hl 0 rfl) ?_
            refine rC_0_5 F hP dX5_arePartsWhole_39 ?_
            refine lv_iload_n hx hb dX5_arePartsWhole_42 rfl (lv_at hl 1 rfl) ?_
            refine rd_SN F hP k_X9_cell mw_277 (q_X9_cell l D Y ad G 6 16 (by decide) (fun _ => rfl) x1 _ rfl) rfl hl.1 ⟨Nat.le_of_ble_eq_true rfl, Nat.le_of_ble_eq_true rfl⟩ (rest := [.int x2]) rfl (Nat.le_of_ble_eq_true rfl) ⟨Nat.le_of_ble_eq_true rfl, Nat.le_of_ble_eq_true rfl⟩ dX5_arePartsWhole_43 (fun _ => ?_)
            refine lv_icmp_eq (tgt := 51) hx hb dX5_arePartsWhole_46 (by decide) (fun c2 => ?_) (fun c2 => ?_)
            · have h := ifT h c2
              refine lv_iinc (v := (x1 + 1)) (lv' := [(1, .int ((x1 + 1))), (0, .ref (ad 0)), (2, .int x2), (3, .int x3)]) hx hb dX5_arePartsWhole_51 hl (k := 1) rfl rfl (by decide) rfl (fun ls hl => ?_)
              refine lv_goto (tgt := 2) hx hb dX5_arePartsWhole_54 (by decide) ?_
              exact ih2 (x1 + 1) ls (lv_sub hl [1, 0] rfl) h
            · have h := ifF h c2
              refine lv_iconst (v := 0) hx hb dX5_arePartsWhole_49 (by decide) ?_
              exact rd_end F hr hk rfl h dX5_arePartsWhole_50
          · have h := ifF h c1
            refine lv_iload_n hx hb dX5_arePartsWhole_22 rfl (lv_at hl 2 rfl) ?_
            refine lv_aload_n hx hb dX5_arePartsWhole_23 rfl (lv_at hl 0 rfl) ?_
            refine lv_iload_n hx hb dX5_arePartsWhole_24 rfl (lv_at hl 1 rfl) ?_
            refine lv_iload_n hx hb dX5_arePartsWhole_25 rfl (lv_at hl 3 rfl) ?_
            obtain ⟨r3, e3, h⟩ := bsome h
            refine rd_V F hP k_X5_overlap mw_648 0 6 rfl (wsW_get 0 (by decide)) (q_X5_overlap l D Y ad G x1 x3 r3 e3) rfl hl.1 ⟨Nat.le_of_ble_eq_true rfl, Nat.le_of_ble_eq_true rfl⟩ (rest := [.int x2]) rfl (Nat.le_of_ble_eq_true rfl) ⟨Nat.le_of_ble_eq_true rfl, Nat.le_of_ble_eq_true rfl⟩ dX5_arePartsWhole_26 (fun o3 => ?_)
            refine lv_iadd hx hb dX5_arePartsWhole_29 ?_
            refine lv_istore_n (lv' := [(2, .int ((x2 + r3))), (0, .ref (ad 0)), (1, .int x1), (3, .int x3)]) hx hb dX5_arePartsWhole_30 rfl hl (by decide) rfl (fun ls hl => ?_)
            refine lv_iinc (v := (x3 + 1)) (lv' := [(3, .int ((x3 + 1))), (2, .int ((x2 + r3))), (0, .ref (ad 0)), (1, .int x1)]) hx hb dX5_arePartsWhole_31 hl (k := 3) rfl rfl (by decide) rfl (fun ls hl => ?_)
            refine lv_goto (tgt := 14) hx hb dX5_arePartsWhole_34 (by decide) ?_
            exact ih14 (x2 + r3) (x3 + 1) ls (lv_sub hl [2, 3, 1, 0] rfl) h
      intro x1 ls hl h
      have h := lqS1 h
      refine lv_iload_n hx hb dX5_arePartsWhole_2 rfl (lv_at hl 1 rfl) ?_
      refine lv_aload_n hx hb dX5_arePartsWhole_3 rfl (lv_at hl 0 rfl) ?_
      refine rC_0_7 F hP dX5_arePartsWhole_4 ?_
      refine lv_icmp_ge (tgt := 57) hx hb dX5_arePartsWhole_7 (by decide) (fun c4 => ?_) (fun c4 => ?_)
      · have h := ifT h c4
        refine lv_iconst (v := 1) hx hb dX5_arePartsWhole_57 (by decide) ?_
        exact rd_end F hr hk rfl h dX5_arePartsWhole_58
      · have h := ifF h c4
        refine lv_iconst (v := 0) hx hb dX5_arePartsWhole_10 (by decide) ?_
        refine lv_istore_n (lv' := [(2, .int ((0 : Int32))), (0, .ref (ad 0)), (1, .int x1)]) hx hb dX5_arePartsWhole_11 rfl hl (by decide) rfl (fun ls hl => ?_)
        refine lv_iconst (v := 0) hx hb dX5_arePartsWhole_12 (by decide) ?_
        refine lv_istore_n (lv' := [(3, .int ((0 : Int32))), (2, .int ((0 : Int32))), (0, .ref (ad 0)), (1, .int x1)]) hx hb dX5_arePartsWhole_13 rfl hl (by decide) rfl (fun ls hl => ?_)
        exact key14 x1 4096 (0 : Int32) (0 : Int32) ls (lv_sub hl [2, 3, 1, 0] rfl) h
  refine lv_iconst (v := 0) hx hb dX5_arePartsWhole_0 (by decide) ?_
  refine lv_istore_n (lv' := [(1, .int ((0 : Int32))), (0, .ref (ad 0))]) hx hb dX5_arePartsWhole_1 rfl hl (by decide) rfl (fun ls hl => ?_)
  exact key2 4096 (0 : Int32) ls (lv_sub hl [1, 0] rfl) h
def f_X5_areBarsInBounds_14 (G : Nat → Nat → Int32) (k2 : Int32 → Option Int32) (x1 : Int32) (n : Nat) (y2 : Int32) (y3 : Int32) : Option Int32 := lq2 (fun (k14 : Int32 → Int32 → Option Int32) (x2 : Int32) (x3 : Int32) => (if (G 0 7) ≤ x3 then (if x2 ≤ (cell32 6 (G 1) x1) then k2 (x1 + 1) else some (0 : Int32)) else ((f_X5_overlap G x3 x1).bind fun r3 => k14 (x2 + r3) (x3 + 1)))) n y2 y3
def f_X5_areBarsInBounds_2 (G : Nat → Nat → Int32) (n : Nat) (y1 : Int32) : Option Int32 := lq1 (fun (k2 : Int32 → Option Int32) (x1 : Int32) => (if (G 0 6) ≤ x1 then some (1 : Int32) else f_X5_areBarsInBounds_14 G k2 x1 4096 (0 : Int32) (0 : Int32))) n y1
def f_X5_areBarsInBounds (G : Nat → Nat → Int32) : Option Int32 := f_X5_areBarsInBounds_2 G 4096 (0 : Int32)
set_option maxRecDepth 100000 in
set_option maxHeartbeats 4000000 in
theorem q_X5_areBarsInBounds (l : Launch) (D : va_G) (Y : Nat → ClassId) (ad : Nat → Nat) (G : Nat → Nat → Int32) (r : Int32) (h : f_X5_areBarsInBounds G  = some r) : RD l yX5_areBarsInBounds cX5_areBarsInBounds 4 (some .boolean) 3 D Y (wsC Y ad G) [.ref (ad 0)] r := by
  refine RD_of (by decide) (Nat.le_of_ble_eq_true rfl) (lv := [(0, .ref (ad 0))]) rfl ?_
  intro p e s m below meth c ls F hP hr hk hl
  have F : Fx p c cX5_areBarsInBounds 4 s m _ RX5 D Y := F
  have hx := F.1.1
  have hb := F.1.2.1
  have key2 : ∀ (n : Nat) (x1 : Int32) (ls : Array Slot), lv_has ls 4 [(0, .ref (ad 0)), (1, .int x1)] → f_X5_areBarsInBounds_2 G   n x1 = some r → WD p l e 3 s m ([.ref (ad 0)] : List Value).toArray below meth c s.heap (some .boolean) r (F0 m 2 ls []) := by
    intro  n
    induction n with
    | zero => intro x1 ls hl h; exact lqZ1 h
    | succ n2 ih2 =>
      have key14 : ∀ (x1 : Int32) (n : Nat) (x2 : Int32) (x3 : Int32) (ls : Array Slot), lv_has ls 4 [(0, .ref (ad 0)), (1, .int x1), (2, .int x2), (3, .int x3)] → f_X5_areBarsInBounds_14 G  (f_X5_areBarsInBounds_2 G    n2) x1 n x2 x3 = some r → WD p l e 3 s m ([.ref (ad 0)] : List Value).toArray below meth c s.heap (some .boolean) r (F0 m 14 ls []) := by
        intro x1 n
        induction n with
        | zero => intro x2 x3 ls hl h; exact lqZ2 h
        | succ n14 ih14 =>
          intro x2 x3 ls hl h
          have h := lqS2 h
          refine lv_iload_n hx hb dX5_areBarsInBounds_14 rfl (lv_at hl 3 rfl) ?_
          refine lv_aload_n hx hb dX5_areBarsInBounds_15 rfl (lv_at hl 0 rfl) ?_
          refine rC_0_7 F hP dX5_areBarsInBounds_16 ?_
          refine lv_icmp_ge (tgt := 37) hx hb dX5_areBarsInBounds_19 (by decide) (fun c1 => ?_) (fun c1 => ?_)
          · have h := ifT h c1
            refine lv_iload_n hx hb dX5_areBarsInBounds_37 rfl (lv_at hl 2 rfl) ?_
            refine lv_aload_n hx hb dX5_areBarsInBounds_38 rfl (lv_at hl 0 rfl) ?_
            refine rC_0_0 F hP dX5_areBarsInBounds_39 ?_
            refine lv_iload_n hx hb dX5_areBarsInBounds_42 rfl (lv_at hl 1 rfl) ?_
            refine rd_SN F hP k_X9_cell mw_277 (q_X9_cell l D Y ad G 1 6 (by decide) (fun _ => rfl) x1 _ rfl) rfl hl.1 ⟨Nat.le_of_ble_eq_true rfl, Nat.le_of_ble_eq_true rfl⟩ (rest := [.int x2]) rfl (Nat.le_of_ble_eq_true rfl) ⟨Nat.le_of_ble_eq_true rfl, Nat.le_of_ble_eq_true rfl⟩ dX5_areBarsInBounds_43 (fun _ => ?_)
            refine lv_icmp_le (tgt := 51) hx hb dX5_areBarsInBounds_46 (by decide) (fun c2 => ?_) (fun c2 => ?_)
            · have h := ifT h c2
              refine lv_iinc (v := (x1 + 1)) (lv' := [(1, .int ((x1 + 1))), (0, .ref (ad 0)), (2, .int x2), (3, .int x3)]) hx hb dX5_areBarsInBounds_51 hl (k := 1) rfl rfl (by decide) rfl (fun ls hl => ?_)
              refine lv_goto (tgt := 2) hx hb dX5_areBarsInBounds_54 (by decide) ?_
              exact ih2 (x1 + 1) ls (lv_sub hl [1, 0] rfl) h
            · have h := ifF h c2
              refine lv_iconst (v := 0) hx hb dX5_areBarsInBounds_49 (by decide) ?_
              exact rd_end F hr hk rfl h dX5_areBarsInBounds_50
          · have h := ifF h c1
            refine lv_iload_n hx hb dX5_areBarsInBounds_22 rfl (lv_at hl 2 rfl) ?_
            refine lv_aload_n hx hb dX5_areBarsInBounds_23 rfl (lv_at hl 0 rfl) ?_
            refine lv_iload_n hx hb dX5_areBarsInBounds_24 rfl (lv_at hl 3 rfl) ?_
            refine lv_iload_n hx hb dX5_areBarsInBounds_25 rfl (lv_at hl 1 rfl) ?_
            obtain ⟨r3, e3, h⟩ := bsome h
            refine rd_V F hP k_X5_overlap mw_648 0 6 rfl (wsW_get 0 (by decide)) (q_X5_overlap l D Y ad G x3 x1 r3 e3) rfl hl.1 ⟨Nat.le_of_ble_eq_true rfl, Nat.le_of_ble_eq_true rfl⟩ (rest := [.int x2]) rfl (Nat.le_of_ble_eq_true rfl) ⟨Nat.le_of_ble_eq_true rfl, Nat.le_of_ble_eq_true rfl⟩ dX5_areBarsInBounds_26 (fun o3 => ?_)
            refine lv_iadd hx hb dX5_areBarsInBounds_29 ?_
            refine lv_istore_n (lv' := [(2, .int ((x2 + r3))), (0, .ref (ad 0)), (1, .int x1), (3, .int x3)]) hx hb dX5_areBarsInBounds_30 rfl hl (by decide) rfl (fun ls hl => ?_)
            refine lv_iinc (v := (x3 + 1)) (lv' := [(3, .int ((x3 + 1))), (2, .int ((x2 + r3))), (0, .ref (ad 0)), (1, .int x1)]) hx hb dX5_areBarsInBounds_31 hl (k := 3) rfl rfl (by decide) rfl (fun ls hl => ?_)
            refine lv_goto (tgt := 14) hx hb dX5_areBarsInBounds_34 (by decide) ?_
            exact ih14 (x2 + r3) (x3 + 1) ls (lv_sub hl [2, 3, 1, 0] rfl) h
      intro x1 ls hl h
      have h := lqS1 h
      refine lv_iload_n hx hb dX5_areBarsInBounds_2 rfl (lv_at hl 1 rfl) ?_
      refine lv_aload_n hx hb dX5_areBarsInBounds_3 rfl (lv_at hl 0 rfl) ?_
      refine rC_0_6 F hP dX5_areBarsInBounds_4 ?_
      refine lv_icmp_ge (tgt := 57) hx hb dX5_areBarsInBounds_7 (by decide) (fun c4 => ?_) (fun c4 => ?_)
      · have h := ifT h c4
        refine lv_iconst (v := 1) hx hb dX5_areBarsInBounds_57 (by decide) ?_
        exact rd_end F hr hk rfl h dX5_areBarsInBounds_58
      · have h := ifF h c4
        refine lv_iconst (v := 0) hx hb dX5_areBarsInBounds_10 (by decide) ?_
        refine lv_istore_n (lv' := [(2, .int ((0 : Int32))), (0, .ref (ad 0)), (1, .int x1)]) hx hb dX5_areBarsInBounds_11 rfl hl (by decide) rfl (fun ls hl => ?_)
        refine lv_iconst (v := 0) hx hb dX5_areBarsInBounds_12 (by decide) ?_
        refine lv_istore_n (lv' := [(3, .int ((0 : Int32))), (2, .int ((0 : Int32))), (0, .ref (ad 0)), (1, .int x1)]) hx hb dX5_areBarsInBounds_13 rfl hl (by decide) rfl (fun ls hl => ?_)
        exact key14 x1 4096 (0 : Int32) (0 : Int32) ls (lv_sub hl [2, 3, 1, 0] rfl) h
  refine lv_iconst (v := 0) hx hb dX5_areBarsInBounds_0 (by decide) ?_
  refine lv_istore_n (lv' := [(1, .int ((0 : Int32))), (0, .ref (ad 0))]) hx hb dX5_areBarsInBounds_1 rfl hl (by decide) rfl (fun ls hl => ?_)
  exact key2 4096 (0 : Int32) ls (lv_sub hl [1, 0] rfl) h
