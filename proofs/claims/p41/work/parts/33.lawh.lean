/-! the law's helpers: a call of the class, what it throws told by a number -/
def catT (tab : List (Nat × Int32)) (x : Option ((Nat ⊕ Int32) × GT)) : Option (Int32 × GT) := x.bind fun q => match q.1 with
  | .inr r => some (r, q.2)
  | .inl k => (tab.lookup k).map fun v => (v, q.2)
theorem catT_some {tab : List (Nat × Int32)} {x : Option ((Nat ⊕ Int32) × GT)} {r : Int32} {G' : GT} (h : catT tab x = some (r, G')) : ∃ RR, x = some (RR, G') ∧ ((∃ v, RR = .inr v ∧ v = r) ∨ ∃ k, RR = .inl k ∧ tab.lookup k = some r) := by
  obtain ⟨⟨RR, G1⟩, h1, h2⟩ := bsome h
  cases RR with
  | inr v => cases h2; exact ⟨_, h1, Or.inl ⟨_, rfl, rfl⟩⟩
  | inl k =>
    have h2 : (tab.lookup k).map (fun v => (v, G1)) = some (r, G') := h2
    cases e : tab.lookup k with
    | none => rw [e] at h2; cases h2
    | some v => rw [e] at h2; cases h2; exact ⟨_, h1, Or.inr ⟨_, rfl, e⟩⟩
def fw_bar (G : GT) (p0 : Int32) : Option (Int32 × GT) := catT [(1, (-1)), (2, (-2))] (f_X9_bar G p0)
theorem kl_bar : CKL yL_bar cL_bar 3 [(0, 5, 6, 14), (0, 5, 9, 16)] 2 := ⟨mw_237, mw_0, mw_238, by decide +kernel⟩
set_option maxRecDepth 100000 in
set_option maxHeartbeats 4000000 in
theorem ql_bar (l : Launch) (hst : l.stackTraces = false) (D : va_G) (Y : Nat → ClassId) (ad : Nat → Nat) (hI : Inj 90 ad) (G : GT) (p0 : Int32) (r : Int32) (G' : GT) (h : fw_bar G p0 = some (r, G')) : LH l yL_bar cL_bar 3 [(0, 5, 6, 14), (0, 5, 9, 16)] 11 3 D Y ad G [.ref (ad 77), .int p0] r G' := by
  obtain ⟨RR, h, hRR⟩ := catT_some h
  refine LH_of (by decide) (Nat.le_of_ble_eq_true rfl) (lv := [(0, .ref (ad 77)), (1, .int p0)]) rfl ?_
  intro p ev s m below meth c ls F htab hP hK hN hS hr hk hl
  have F : Fx p c cL_bar 3 s m _ RL D Y := F
  have hx := F.1.1
  have hb := F.1.2.1
  have hts := F.1.2.2.2.2
  refine lv_aload_n hx hb dL_bar_0 rfl (lv_at hl 0 rfl) ?_
  refine lv_iload_n hx hb dL_bar_1 rfl (lv_at hl 1 rfl) ?_
  refine lh_call (RR := RR) (G' := G') (rest := []) (As := [.int p0]) F hP hK hS k_X9_bar mw_241 rfl (q_X9_bar l hst D Y ad hI G p0 RR G' h) rfl hl.1 ⟨Nat.le_of_ble_eq_true rfl, Nat.le_of_ble_eq_true rfl⟩ rfl (Nat.le_of_ble_eq_true rfl) ⟨Nat.le_of_ble_eq_true rfl, Nat.le_of_ble_eq_true rfl⟩ dL_bar_2 (fun x H1 L1 hR hP hS => ?_) (fun k q ce H1 L1 hR hP hS hce hcv hcl => ?_)
  · rcases hRR with ⟨v, e1, e2⟩ | ⟨k1, e1, -⟩
    · cases hR.symm.trans e1
      exact lh_end F hP hS hr hk e2 (Nat.le_of_ble_eq_true rfl) (Nat.le_of_ble_eq_true rfl) dL_bar_5
    · cases hR.symm.trans e1
  · rcases hRR with ⟨v, e1, -⟩ | ⟨k1, e1, e2⟩
    · cases hR.symm.trans e1
    · cases hR.symm.trans e1
      by_cases hk0 : k = 1
      · subst hk0
        refine vx_catch (own := RL) (name := exN 1) (E := exN 1) F.1.2.2.2.1 [] ⟨0, 5, 6, 14⟩ [⟨0, 5, 9, 16⟩] htab (fun z hz => absurd hz List.not_mem_nil) rfl (by decide) (hts _ mw_239) (va_Nw.use rfl (F.2.2 _ mw_441)) hce hcv hcl ?_
        refine lv_astore_n (lv' := [(2, .ref q), (0, .ref (ad 77)), (1, .int p0)]) hx hb dL_bar_6 rfl hl (by decide) rfl (fun ls hl => ?_)
        refine lv_iconst (v := (-1)) hx hb dL_bar_7 (by decide) ?_
        exact lh_end F hP hS hr hk (by simpa [List.lookup] using e2) (Nat.le_of_ble_eq_true rfl) (Nat.le_of_ble_eq_true rfl) dL_bar_8
      by_cases hk1 : k = 2
      · subst hk1
        refine vx_catch (own := RL) (name := exN 2) (E := exN 2) F.1.2.2.2.1 [⟨0, 5, 6, 14⟩] ⟨0, 5, 9, 16⟩ [] htab (List.forall_mem_cons.mpr ⟨Or.inr ⟨by decide, exN 1, hts _ mw_239, hN 2 1 (by decide) (by decide) (by decide)⟩, (fun z hz => absurd hz List.not_mem_nil)⟩) rfl (by decide) (hts _ mw_240) (va_Nw.use rfl (F.2.2 _ mw_460)) hce hcv hcl ?_
        refine lv_astore_n (lv' := [(2, .ref q), (0, .ref (ad 77)), (1, .int p0)]) hx hb dL_bar_9 rfl hl (by decide) rfl (fun ls hl => ?_)
        refine lv_bipush (v := (-2)) hx hb dL_bar_10 (by decide) ?_
        exact lh_end F hP hS hr hk (by simpa [List.lookup] using e2) (Nat.le_of_ble_eq_true rfl) (Nat.le_of_ble_eq_true rfl) dL_bar_12
      · exfalso
        have z0 : (k == 1) = false := beq_false_of_ne hk0
        have z1 : (k == 2) = false := beq_false_of_ne hk1
        simp [List.lookup, z0, z1] at e2
def fw_key (G : GT) (p0 : Int32) (p1 : Int32) : Option (Int32 × GT) := catT [(0, (-1)), (1, (-2)), (2, (-3))] (f_X9_key G p0 p1)
theorem kl_key : CKL yL_key cL_key 4 [(0, 6, 7, 22), (0, 6, 10, 14), (0, 6, 14, 16)] 3 := ⟨mw_530, mw_0, mw_531, by decide +kernel⟩
set_option maxRecDepth 100000 in
set_option maxHeartbeats 4000000 in
theorem ql_key (l : Launch) (hst : l.stackTraces = false) (D : va_G) (Y : Nat → ClassId) (ad : Nat → Nat) (hI : Inj 90 ad) (G : GT) (p0 : Int32) (p1 : Int32) (r : Int32) (G' : GT) (h : fw_key G p0 p1 = some (r, G')) : LH l yL_key cL_key 4 [(0, 6, 7, 22), (0, 6, 10, 14), (0, 6, 14, 16)] 11 3 D Y ad G [.ref (ad 77), .int p0, .int p1] r G' := by
  obtain ⟨RR, h, hRR⟩ := catT_some h
  refine LH_of (by decide) (Nat.le_of_ble_eq_true rfl) (lv := [(0, .ref (ad 77)), (1, .int p0), (2, .int p1)]) rfl ?_
  intro p ev s m below meth c ls F htab hP hK hN hS hr hk hl
  have F : Fx p c cL_key 4 s m _ RL D Y := F
  have hx := F.1.1
  have hb := F.1.2.1
  have hts := F.1.2.2.2.2
  refine lv_aload_n hx hb dL_key_0 rfl (lv_at hl 0 rfl) ?_
  refine lv_iload_n hx hb dL_key_1 rfl (lv_at hl 1 rfl) ?_
  refine lv_iload_n hx hb dL_key_2 rfl (lv_at hl 2 rfl) ?_
  refine lh_call (RR := RR) (G' := G') (rest := []) (As := [.int p0, .int p1]) F hP hK hS k_X9_key mw_553 rfl (q_X9_key l hst D Y ad hI G p0 p1 RR G' h) rfl hl.1 ⟨Nat.le_of_ble_eq_true rfl, Nat.le_of_ble_eq_true rfl⟩ rfl (Nat.le_of_ble_eq_true rfl) ⟨Nat.le_of_ble_eq_true rfl, Nat.le_of_ble_eq_true rfl⟩ dL_key_3 (fun x H1 L1 hR hP hS => ?_) (fun k q ce H1 L1 hR hP hS hce hcv hcl => ?_)
  · rcases hRR with ⟨v, e1, e2⟩ | ⟨k1, e1, -⟩
    · cases hR.symm.trans e1
      exact lh_end F hP hS hr hk e2 (Nat.le_of_ble_eq_true rfl) (Nat.le_of_ble_eq_true rfl) dL_key_6
    · cases hR.symm.trans e1
  · rcases hRR with ⟨v, e1, -⟩ | ⟨k1, e1, e2⟩
    · cases hR.symm.trans e1
    · cases hR.symm.trans e1
      by_cases hk0 : k = 0
      · subst hk0
        refine vx_catch (own := RL) (name := exN 0) (E := exN 0) F.1.2.2.2.1 [] ⟨0, 6, 7, 22⟩ [⟨0, 6, 10, 14⟩, ⟨0, 6, 14, 16⟩] htab (fun z hz => absurd hz List.not_mem_nil) rfl (by decide) (hts _ mw_532) (va_Nw.use rfl (F.2.2 _ mw_366)) hce hcv hcl ?_
        refine lv_astore_n (lv' := [(3, .ref q), (0, .ref (ad 77)), (1, .int p0), (2, .int p1)]) hx hb dL_key_7 rfl hl (by decide) rfl (fun ls hl => ?_)
        refine lv_iconst (v := (-1)) hx hb dL_key_8 (by decide) ?_
        exact lh_end F hP hS hr hk (by simpa [List.lookup] using e2) (Nat.le_of_ble_eq_true rfl) (Nat.le_of_ble_eq_true rfl) dL_key_9
      by_cases hk1 : k = 1
      · subst hk1
        refine vx_catch (own := RL) (name := exN 1) (E := exN 1) F.1.2.2.2.1 [⟨0, 6, 7, 22⟩] ⟨0, 6, 10, 14⟩ [⟨0, 6, 14, 16⟩] htab (List.forall_mem_cons.mpr ⟨Or.inr ⟨by decide, exN 0, hts _ mw_532, hN 1 0 (by decide) (by decide) (by decide)⟩, (fun z hz => absurd hz List.not_mem_nil)⟩) rfl (by decide) (hts _ mw_239) (va_Nw.use rfl (F.2.2 _ mw_441)) hce hcv hcl ?_
        refine lv_astore_n (lv' := [(3, .ref q), (0, .ref (ad 77)), (1, .int p0), (2, .int p1)]) hx hb dL_key_10 rfl hl (by decide) rfl (fun ls hl => ?_)
        refine lv_bipush (v := (-2)) hx hb dL_key_11 (by decide) ?_
        exact lh_end F hP hS hr hk (by simpa [List.lookup] using e2) (Nat.le_of_ble_eq_true rfl) (Nat.le_of_ble_eq_true rfl) dL_key_13
      by_cases hk2 : k = 2
      · subst hk2
        refine vx_catch (own := RL) (name := exN 2) (E := exN 2) F.1.2.2.2.1 [⟨0, 6, 7, 22⟩, ⟨0, 6, 10, 14⟩] ⟨0, 6, 14, 16⟩ [] htab (List.forall_mem_cons.mpr ⟨Or.inr ⟨by decide, exN 0, hts _ mw_532, hN 2 0 (by decide) (by decide) (by decide)⟩, (List.forall_mem_cons.mpr ⟨Or.inr ⟨by decide, exN 1, hts _ mw_239, hN 2 1 (by decide) (by decide) (by decide)⟩, (fun z hz => absurd hz List.not_mem_nil)⟩)⟩) rfl (by decide) (hts _ mw_240) (va_Nw.use rfl (F.2.2 _ mw_460)) hce hcv hcl ?_
        refine lv_astore_n (lv' := [(3, .ref q), (0, .ref (ad 77)), (1, .int p0), (2, .int p1)]) hx hb dL_key_14 rfl hl (by decide) rfl (fun ls hl => ?_)
        refine lv_bipush (v := (-3)) hx hb dL_key_15 (by decide) ?_
        exact lh_end F hP hS hr hk (by simpa [List.lookup] using e2) (Nat.le_of_ble_eq_true rfl) (Nat.le_of_ble_eq_true rfl) dL_key_17
      · exfalso
        have z0 : (k == 0) = false := beq_false_of_ne hk0
        have z1 : (k == 1) = false := beq_false_of_ne hk1
        have z2 : (k == 2) = false := beq_false_of_ne hk2
        simp [List.lookup, z0, z1, z2] at e2
def fw_leak (G : GT) (p0 : Int32) (p1 : Int32) : Option (Int32 × GT) := catT [(0, (-1)), (1, (-2)), (2, (-3))] (f_X9_leak G p0 p1)
theorem kl_leak : CKL yL_leak cL_leak 4 [(0, 6, 7, 22), (0, 6, 10, 14), (0, 6, 14, 16)] 3 := ⟨mw_559, mw_0, mw_560, by decide +kernel⟩
set_option maxRecDepth 100000 in
set_option maxHeartbeats 4000000 in
theorem ql_leak (l : Launch) (hst : l.stackTraces = false) (D : va_G) (Y : Nat → ClassId) (ad : Nat → Nat) (hI : Inj 90 ad) (G : GT) (p0 : Int32) (p1 : Int32) (r : Int32) (G' : GT) (h : fw_leak G p0 p1 = some (r, G')) : LH l yL_leak cL_leak 4 [(0, 6, 7, 22), (0, 6, 10, 14), (0, 6, 14, 16)] 11 3 D Y ad G [.ref (ad 77), .int p0, .int p1] r G' := by
  obtain ⟨RR, h, hRR⟩ := catT_some h
  refine LH_of (by decide) (Nat.le_of_ble_eq_true rfl) (lv := [(0, .ref (ad 77)), (1, .int p0), (2, .int p1)]) rfl ?_
  intro p ev s m below meth c ls F htab hP hK hN hS hr hk hl
  have F : Fx p c cL_leak 4 s m _ RL D Y := F
  have hx := F.1.1
  have hb := F.1.2.1
  have hts := F.1.2.2.2.2
  refine lv_aload_n hx hb dL_leak_0 rfl (lv_at hl 0 rfl) ?_
  refine lv_iload_n hx hb dL_leak_1 rfl (lv_at hl 1 rfl) ?_
  refine lv_iload_n hx hb dL_leak_2 rfl (lv_at hl 2 rfl) ?_
  refine lh_call (RR := RR) (G' := G') (rest := []) (As := [.int p0, .int p1]) F hP hK hS k_X9_leak mw_561 rfl (q_X9_leak l hst D Y ad hI G p0 p1 RR G' h) rfl hl.1 ⟨Nat.le_of_ble_eq_true rfl, Nat.le_of_ble_eq_true rfl⟩ rfl (Nat.le_of_ble_eq_true rfl) ⟨Nat.le_of_ble_eq_true rfl, Nat.le_of_ble_eq_true rfl⟩ dL_leak_3 (fun x H1 L1 hR hP hS => ?_) (fun k q ce H1 L1 hR hP hS hce hcv hcl => ?_)
  · rcases hRR with ⟨v, e1, e2⟩ | ⟨k1, e1, -⟩
    · cases hR.symm.trans e1
      exact lh_end F hP hS hr hk e2 (Nat.le_of_ble_eq_true rfl) (Nat.le_of_ble_eq_true rfl) dL_leak_6
    · cases hR.symm.trans e1
  · rcases hRR with ⟨v, e1, -⟩ | ⟨k1, e1, e2⟩
    · cases hR.symm.trans e1
    · cases hR.symm.trans e1
      by_cases hk0 : k = 0
      · subst hk0
        refine vx_catch (own := RL) (name := exN 0) (E := exN 0) F.1.2.2.2.1 [] ⟨0, 6, 7, 22⟩ [⟨0, 6, 10, 14⟩, ⟨0, 6, 14, 16⟩] htab (fun z hz => absurd hz List.not_mem_nil) rfl (by decide) (hts _ mw_532) (va_Nw.use rfl (F.2.2 _ mw_366)) hce hcv hcl ?_
        refine lv_astore_n (lv' := [(3, .ref q), (0, .ref (ad 77)), (1, .int p0), (2, .int p1)]) hx hb dL_leak_7 rfl hl (by decide) rfl (fun ls hl => ?_)
        refine lv_iconst (v := (-1)) hx hb dL_leak_8 (by decide) ?_
        exact lh_end F hP hS hr hk (by simpa [List.lookup] using e2) (Nat.le_of_ble_eq_true rfl) (Nat.le_of_ble_eq_true rfl) dL_leak_9
      by_cases hk1 : k = 1
      · subst hk1
        refine vx_catch (own := RL) (name := exN 1) (E := exN 1) F.1.2.2.2.1 [⟨0, 6, 7, 22⟩] ⟨0, 6, 10, 14⟩ [⟨0, 6, 14, 16⟩] htab (List.forall_mem_cons.mpr ⟨Or.inr ⟨by decide, exN 0, hts _ mw_532, hN 1 0 (by decide) (by decide) (by decide)⟩, (fun z hz => absurd hz List.not_mem_nil)⟩) rfl (by decide) (hts _ mw_239) (va_Nw.use rfl (F.2.2 _ mw_441)) hce hcv hcl ?_
        refine lv_astore_n (lv' := [(3, .ref q), (0, .ref (ad 77)), (1, .int p0), (2, .int p1)]) hx hb dL_leak_10 rfl hl (by decide) rfl (fun ls hl => ?_)
        refine lv_bipush (v := (-2)) hx hb dL_leak_11 (by decide) ?_
        exact lh_end F hP hS hr hk (by simpa [List.lookup] using e2) (Nat.le_of_ble_eq_true rfl) (Nat.le_of_ble_eq_true rfl) dL_leak_13
      by_cases hk2 : k = 2
      · subst hk2
        refine vx_catch (own := RL) (name := exN 2) (E := exN 2) F.1.2.2.2.1 [⟨0, 6, 7, 22⟩, ⟨0, 6, 10, 14⟩] ⟨0, 6, 14, 16⟩ [] htab (List.forall_mem_cons.mpr ⟨Or.inr ⟨by decide, exN 0, hts _ mw_532, hN 2 0 (by decide) (by decide) (by decide)⟩, (List.forall_mem_cons.mpr ⟨Or.inr ⟨by decide, exN 1, hts _ mw_239, hN 2 1 (by decide) (by decide) (by decide)⟩, (fun z hz => absurd hz List.not_mem_nil)⟩)⟩) rfl (by decide) (hts _ mw_240) (va_Nw.use rfl (F.2.2 _ mw_460)) hce hcv hcl ?_
        refine lv_astore_n (lv' := [(3, .ref q), (0, .ref (ad 77)), (1, .int p0), (2, .int p1)]) hx hb dL_leak_14 rfl hl (by decide) rfl (fun ls hl => ?_)
        refine lv_bipush (v := (-3)) hx hb dL_leak_15 (by decide) ?_
        exact lh_end F hP hS hr hk (by simpa [List.lookup] using e2) (Nat.le_of_ble_eq_true rfl) (Nat.le_of_ble_eq_true rfl) dL_leak_17
      · exfalso
        have z0 : (k == 0) = false := beq_false_of_ne hk0
        have z1 : (k == 1) = false := beq_false_of_ne hk1
        have z2 : (k == 2) = false := beq_false_of_ne hk2
        simp [List.lookup, z0, z1, z2] at e2
def fw_drop (G : GT) (p0 : Int32) (p1 : Int32) (p2 : Int32) : Option (Int32 × GT) := catT [(0, (-1)), (1, (-2)), (2, (-3))] (f_X9_drop G p0 p1 p2)
theorem kl_drop : CKL yL_drop cL_drop 5 [(0, 7, 8, 22), (0, 7, 12, 14), (0, 7, 17, 16)] 4 := ⟨mw_575, mw_0, mw_576, by decide +kernel⟩
set_option maxRecDepth 100000 in
set_option maxHeartbeats 4000000 in
theorem ql_drop (l : Launch) (hst : l.stackTraces = false) (D : va_G) (Y : Nat → ClassId) (ad : Nat → Nat) (hI : Inj 90 ad) (G : GT) (p0 : Int32) (p1 : Int32) (p2 : Int32) (r : Int32) (G' : GT) (h : fw_drop G p0 p1 p2 = some (r, G')) : LH l yL_drop cL_drop 5 [(0, 7, 8, 22), (0, 7, 12, 14), (0, 7, 17, 16)] 11 3 D Y ad G [.ref (ad 77), .int p0, .int p1, .int p2] r G' := by
  obtain ⟨RR, h, hRR⟩ := catT_some h
  refine LH_of (by decide) (Nat.le_of_ble_eq_true rfl) (lv := [(0, .ref (ad 77)), (1, .int p0), (2, .int p1), (3, .int p2)]) rfl ?_
  intro p ev s m below meth c ls F htab hP hK hN hS hr hk hl
  have F : Fx p c cL_drop 5 s m _ RL D Y := F
  have hx := F.1.1
  have hb := F.1.2.1
  have hts := F.1.2.2.2.2
  refine lv_aload_n hx hb dL_drop_0 rfl (lv_at hl 0 rfl) ?_
  refine lv_iload_n hx hb dL_drop_1 rfl (lv_at hl 1 rfl) ?_
  refine lv_iload_n hx hb dL_drop_2 rfl (lv_at hl 2 rfl) ?_
  refine lv_iload_n hx hb dL_drop_3 rfl (lv_at hl 3 rfl) ?_
  refine lh_call (RR := RR) (G' := G') (rest := []) (As := [.int p0, .int p1, .int p2]) F hP hK hS k_X9_drop mw_577 rfl (q_X9_drop l hst D Y ad hI G p0 p1 p2 RR G' h) rfl hl.1 ⟨Nat.le_of_ble_eq_true rfl, Nat.le_of_ble_eq_true rfl⟩ rfl (Nat.le_of_ble_eq_true rfl) ⟨Nat.le_of_ble_eq_true rfl, Nat.le_of_ble_eq_true rfl⟩ dL_drop_4 (fun x H1 L1 hR hP hS => ?_) (fun k q ce H1 L1 hR hP hS hce hcv hcl => ?_)
  · rcases hRR with ⟨v, e1, e2⟩ | ⟨k1, e1, -⟩
    · cases hR.symm.trans e1
      exact lh_end F hP hS hr hk e2 (Nat.le_of_ble_eq_true rfl) (Nat.le_of_ble_eq_true rfl) dL_drop_7
    · cases hR.symm.trans e1
  · rcases hRR with ⟨v, e1, -⟩ | ⟨k1, e1, e2⟩
    · cases hR.symm.trans e1
    · cases hR.symm.trans e1
      by_cases hk0 : k = 0
      · subst hk0
        refine vx_catch (own := RL) (name := exN 0) (E := exN 0) F.1.2.2.2.1 [] ⟨0, 7, 8, 22⟩ [⟨0, 7, 12, 14⟩, ⟨0, 7, 17, 16⟩] htab (fun z hz => absurd hz List.not_mem_nil) rfl (by decide) (hts _ mw_532) (va_Nw.use rfl (F.2.2 _ mw_366)) hce hcv hcl ?_
        refine lv_astore (lv' := [(4, .ref q), (0, .ref (ad 77)), (1, .int p0), (2, .int p1), (3, .int p2)]) hx hb dL_drop_8 hl (by decide) rfl (fun ls hl => ?_)
        refine lv_iconst (v := (-1)) hx hb dL_drop_10 (by decide) ?_
        exact lh_end F hP hS hr hk (by simpa [List.lookup] using e2) (Nat.le_of_ble_eq_true rfl) (Nat.le_of_ble_eq_true rfl) dL_drop_11
      by_cases hk1 : k = 1
      · subst hk1
        refine vx_catch (own := RL) (name := exN 1) (E := exN 1) F.1.2.2.2.1 [⟨0, 7, 8, 22⟩] ⟨0, 7, 12, 14⟩ [⟨0, 7, 17, 16⟩] htab (List.forall_mem_cons.mpr ⟨Or.inr ⟨by decide, exN 0, hts _ mw_532, hN 1 0 (by decide) (by decide) (by decide)⟩, (fun z hz => absurd hz List.not_mem_nil)⟩) rfl (by decide) (hts _ mw_239) (va_Nw.use rfl (F.2.2 _ mw_441)) hce hcv hcl ?_
        refine lv_astore (lv' := [(4, .ref q), (0, .ref (ad 77)), (1, .int p0), (2, .int p1), (3, .int p2)]) hx hb dL_drop_12 hl (by decide) rfl (fun ls hl => ?_)
        refine lv_bipush (v := (-2)) hx hb dL_drop_14 (by decide) ?_
        exact lh_end F hP hS hr hk (by simpa [List.lookup] using e2) (Nat.le_of_ble_eq_true rfl) (Nat.le_of_ble_eq_true rfl) dL_drop_16
      by_cases hk2 : k = 2
      · subst hk2
        refine vx_catch (own := RL) (name := exN 2) (E := exN 2) F.1.2.2.2.1 [⟨0, 7, 8, 22⟩, ⟨0, 7, 12, 14⟩] ⟨0, 7, 17, 16⟩ [] htab (List.forall_mem_cons.mpr ⟨Or.inr ⟨by decide, exN 0, hts _ mw_532, hN 2 0 (by decide) (by decide) (by decide)⟩, (List.forall_mem_cons.mpr ⟨Or.inr ⟨by decide, exN 1, hts _ mw_239, hN 2 1 (by decide) (by decide) (by decide)⟩, (fun z hz => absurd hz List.not_mem_nil)⟩)⟩) rfl (by decide) (hts _ mw_240) (va_Nw.use rfl (F.2.2 _ mw_460)) hce hcv hcl ?_
        refine lv_astore (lv' := [(4, .ref q), (0, .ref (ad 77)), (1, .int p0), (2, .int p1), (3, .int p2)]) hx hb dL_drop_17 hl (by decide) rfl (fun ls hl => ?_)
        refine lv_bipush (v := (-3)) hx hb dL_drop_19 (by decide) ?_
        exact lh_end F hP hS hr hk (by simpa [List.lookup] using e2) (Nat.le_of_ble_eq_true rfl) (Nat.le_of_ble_eq_true rfl) dL_drop_21
      · exfalso
        have z0 : (k == 0) = false := beq_false_of_ne hk0
        have z1 : (k == 1) = false := beq_false_of_ne hk1
        have z2 : (k == 2) = false := beq_false_of_ne hk2
        simp [List.lookup, z0, z1, z2] at e2
def fw_rest (G : GT) (p0 : Int32) : Option (Int32 × GT) := catT [(0, (-1)), (2, (-3))] (f_X9_rest G p0)
theorem kl_rest : CKL yL_rest cL_rest 3 [(0, 5, 6, 22), (0, 5, 9, 16)] 2 := ⟨mw_567, mw_0, mw_568, by decide +kernel⟩
set_option maxRecDepth 100000 in
set_option maxHeartbeats 4000000 in
theorem ql_rest (l : Launch) (hst : l.stackTraces = false) (D : va_G) (Y : Nat → ClassId) (ad : Nat → Nat) (hI : Inj 90 ad) (G : GT) (p0 : Int32) (r : Int32) (G' : GT) (h : fw_rest G p0 = some (r, G')) : LH l yL_rest cL_rest 3 [(0, 5, 6, 22), (0, 5, 9, 16)] 11 3 D Y ad G [.ref (ad 77), .int p0] r G' := by
  obtain ⟨RR, h, hRR⟩ := catT_some h
  refine LH_of (by decide) (Nat.le_of_ble_eq_true rfl) (lv := [(0, .ref (ad 77)), (1, .int p0)]) rfl ?_
  intro p ev s m below meth c ls F htab hP hK hN hS hr hk hl
  have F : Fx p c cL_rest 3 s m _ RL D Y := F
  have hx := F.1.1
  have hb := F.1.2.1
  have hts := F.1.2.2.2.2
  refine lv_aload_n hx hb dL_rest_0 rfl (lv_at hl 0 rfl) ?_
  refine lv_iload_n hx hb dL_rest_1 rfl (lv_at hl 1 rfl) ?_
  refine lh_call (RR := RR) (G' := G') (rest := []) (As := [.int p0]) F hP hK hS k_X9_rest mw_569 rfl (q_X9_rest l hst D Y ad hI G p0 RR G' h) rfl hl.1 ⟨Nat.le_of_ble_eq_true rfl, Nat.le_of_ble_eq_true rfl⟩ rfl (Nat.le_of_ble_eq_true rfl) ⟨Nat.le_of_ble_eq_true rfl, Nat.le_of_ble_eq_true rfl⟩ dL_rest_2 (fun x H1 L1 hR hP hS => ?_) (fun k q ce H1 L1 hR hP hS hce hcv hcl => ?_)
  · rcases hRR with ⟨v, e1, e2⟩ | ⟨k1, e1, -⟩
    · cases hR.symm.trans e1
      exact lh_end F hP hS hr hk e2 (Nat.le_of_ble_eq_true rfl) (Nat.le_of_ble_eq_true rfl) dL_rest_5
    · cases hR.symm.trans e1
  · rcases hRR with ⟨v, e1, -⟩ | ⟨k1, e1, e2⟩
    · cases hR.symm.trans e1
    · cases hR.symm.trans e1
      by_cases hk0 : k = 0
      · subst hk0
        refine vx_catch (own := RL) (name := exN 0) (E := exN 0) F.1.2.2.2.1 [] ⟨0, 5, 6, 22⟩ [⟨0, 5, 9, 16⟩] htab (fun z hz => absurd hz List.not_mem_nil) rfl (by decide) (hts _ mw_532) (va_Nw.use rfl (F.2.2 _ mw_366)) hce hcv hcl ?_
        refine lv_astore_n (lv' := [(2, .ref q), (0, .ref (ad 77)), (1, .int p0)]) hx hb dL_rest_6 rfl hl (by decide) rfl (fun ls hl => ?_)
        refine lv_iconst (v := (-1)) hx hb dL_rest_7 (by decide) ?_
        exact lh_end F hP hS hr hk (by simpa [List.lookup] using e2) (Nat.le_of_ble_eq_true rfl) (Nat.le_of_ble_eq_true rfl) dL_rest_8
      by_cases hk1 : k = 2
      · subst hk1
        refine vx_catch (own := RL) (name := exN 2) (E := exN 2) F.1.2.2.2.1 [⟨0, 5, 6, 22⟩] ⟨0, 5, 9, 16⟩ [] htab (List.forall_mem_cons.mpr ⟨Or.inr ⟨by decide, exN 0, hts _ mw_532, hN 2 0 (by decide) (by decide) (by decide)⟩, (fun z hz => absurd hz List.not_mem_nil)⟩) rfl (by decide) (hts _ mw_240) (va_Nw.use rfl (F.2.2 _ mw_460)) hce hcv hcl ?_
        refine lv_astore_n (lv' := [(2, .ref q), (0, .ref (ad 77)), (1, .int p0)]) hx hb dL_rest_9 rfl hl (by decide) rfl (fun ls hl => ?_)
        refine lv_bipush (v := (-3)) hx hb dL_rest_10 (by decide) ?_
        exact lh_end F hP hS hr hk (by simpa [List.lookup] using e2) (Nat.le_of_ble_eq_true rfl) (Nat.le_of_ble_eq_true rfl) dL_rest_12
      · exfalso
        have z0 : (k == 0) = false := beq_false_of_ne hk0
        have z1 : (k == 2) = false := beq_false_of_ne hk1
        simp [List.lookup, z0, z1] at e2
def fw_lift (G : GT) : Option (Int32 × GT) := catT [(2, (-3))] (f_X9_lift G )
theorem kl_lift : CKL yL_lift cL_lift 2 [(0, 4, 5, 16)] 1 := ⟨mw_1423, mw_0, mw_1424, by decide +kernel⟩
set_option maxRecDepth 100000 in
set_option maxHeartbeats 4000000 in
theorem ql_lift (l : Launch) (hst : l.stackTraces = false) (D : va_G) (Y : Nat → ClassId) (ad : Nat → Nat) (hI : Inj 90 ad) (G : GT) (r : Int32) (G' : GT) (h : fw_lift G  = some (r, G')) : LH l yL_lift cL_lift 2 [(0, 4, 5, 16)] 11 3 D Y ad G [.ref (ad 77)] r G' := by
  obtain ⟨RR, h, hRR⟩ := catT_some h
  refine LH_of (by decide) (Nat.le_of_ble_eq_true rfl) (lv := [(0, .ref (ad 77))]) rfl ?_
  intro p ev s m below meth c ls F htab hP hK hN hS hr hk hl
  have F : Fx p c cL_lift 2 s m _ RL D Y := F
  have hx := F.1.1
  have hb := F.1.2.1
  have hts := F.1.2.2.2.2
  refine lv_aload_n hx hb dL_lift_0 rfl (lv_at hl 0 rfl) ?_
  refine lh_call (RR := RR) (G' := G') (rest := []) (As := []) F hP hK hS k_X9_lift mw_1425 rfl (q_X9_lift l hst D Y ad hI G  RR G' h) rfl hl.1 ⟨Nat.le_of_ble_eq_true rfl, Nat.le_of_ble_eq_true rfl⟩ rfl (Nat.le_of_ble_eq_true rfl) ⟨Nat.le_of_ble_eq_true rfl, Nat.le_of_ble_eq_true rfl⟩ dL_lift_1 (fun x H1 L1 hR hP hS => ?_) (fun k q ce H1 L1 hR hP hS hce hcv hcl => ?_)
  · rcases hRR with ⟨v, e1, e2⟩ | ⟨k1, e1, -⟩
    · cases hR.symm.trans e1
      exact lh_end F hP hS hr hk e2 (Nat.le_of_ble_eq_true rfl) (Nat.le_of_ble_eq_true rfl) dL_lift_4
    · cases hR.symm.trans e1
  · rcases hRR with ⟨v, e1, -⟩ | ⟨k1, e1, e2⟩
    · cases hR.symm.trans e1
    · cases hR.symm.trans e1
      by_cases hk0 : k = 2
      · subst hk0
        refine vx_catch (own := RL) (name := exN 2) (E := exN 2) F.1.2.2.2.1 [] ⟨0, 4, 5, 16⟩ [] htab (fun z hz => absurd hz List.not_mem_nil) rfl (by decide) (hts _ mw_240) (va_Nw.use rfl (F.2.2 _ mw_460)) hce hcv hcl ?_
        refine lv_astore_n (lv' := [(1, .ref q), (0, .ref (ad 77))]) hx hb dL_lift_5 rfl hl (by decide) rfl (fun ls hl => ?_)
        refine lv_bipush (v := (-3)) hx hb dL_lift_6 (by decide) ?_
        exact lh_end F hP hS hr hk (by simpa [List.lookup] using e2) (Nat.le_of_ble_eq_true rfl) (Nat.le_of_ble_eq_true rfl) dL_lift_8
      · exfalso
        have z0 : (k == 2) = false := beq_false_of_ne hk0
        simp [List.lookup, z0] at e2
def fw_limit (G : GT) (p0 : Int32) : Option (Int32 × GT) := catT [(1, (-2)), (2, (-3))] (f_X9_limit G p0)
theorem kl_limit : CKL yL_limit cL_limit 3 [(0, 5, 6, 14), (0, 5, 10, 16)] 2 := ⟨mw_674, mw_0, mw_675, by decide +kernel⟩
set_option maxRecDepth 100000 in
set_option maxHeartbeats 4000000 in
theorem ql_limit (l : Launch) (hst : l.stackTraces = false) (D : va_G) (Y : Nat → ClassId) (ad : Nat → Nat) (hI : Inj 90 ad) (G : GT) (p0 : Int32) (r : Int32) (G' : GT) (h : fw_limit G p0 = some (r, G')) : LH l yL_limit cL_limit 3 [(0, 5, 6, 14), (0, 5, 10, 16)] 11 3 D Y ad G [.ref (ad 77), .int p0] r G' := by
  obtain ⟨RR, h, hRR⟩ := catT_some h
  refine LH_of (by decide) (Nat.le_of_ble_eq_true rfl) (lv := [(0, .ref (ad 77)), (1, .int p0)]) rfl ?_
  intro p ev s m below meth c ls F htab hP hK hN hS hr hk hl
  have F : Fx p c cL_limit 3 s m _ RL D Y := F
  have hx := F.1.1
  have hb := F.1.2.1
  have hts := F.1.2.2.2.2
  refine lv_aload_n hx hb dL_limit_0 rfl (lv_at hl 0 rfl) ?_
  refine lv_iload_n hx hb dL_limit_1 rfl (lv_at hl 1 rfl) ?_
  refine lh_call (RR := RR) (G' := G') (rest := []) (As := [.int p0]) F hP hK hS k_X9_limit mw_676 rfl (q_X9_limit l hst D Y ad hI G p0 RR G' h) rfl hl.1 ⟨Nat.le_of_ble_eq_true rfl, Nat.le_of_ble_eq_true rfl⟩ rfl (Nat.le_of_ble_eq_true rfl) ⟨Nat.le_of_ble_eq_true rfl, Nat.le_of_ble_eq_true rfl⟩ dL_limit_2 (fun x H1 L1 hR hP hS => ?_) (fun k q ce H1 L1 hR hP hS hce hcv hcl => ?_)
  · rcases hRR with ⟨v, e1, e2⟩ | ⟨k1, e1, -⟩
    · cases hR.symm.trans e1
      exact lh_end F hP hS hr hk e2 (Nat.le_of_ble_eq_true rfl) (Nat.le_of_ble_eq_true rfl) dL_limit_5
    · cases hR.symm.trans e1
  · rcases hRR with ⟨v, e1, -⟩ | ⟨k1, e1, e2⟩
    · cases hR.symm.trans e1
    · cases hR.symm.trans e1
      by_cases hk0 : k = 1
      · subst hk0
        refine vx_catch (own := RL) (name := exN 1) (E := exN 1) F.1.2.2.2.1 [] ⟨0, 5, 6, 14⟩ [⟨0, 5, 10, 16⟩] htab (fun z hz => absurd hz List.not_mem_nil) rfl (by decide) (hts _ mw_239) (va_Nw.use rfl (F.2.2 _ mw_441)) hce hcv hcl ?_
        refine lv_astore_n (lv' := [(2, .ref q), (0, .ref (ad 77)), (1, .int p0)]) hx hb dL_limit_6 rfl hl (by decide) rfl (fun ls hl => ?_)
        refine lv_bipush (v := (-2)) hx hb dL_limit_7 (by decide) ?_
        exact lh_end F hP hS hr hk (by simpa [List.lookup] using e2) (Nat.le_of_ble_eq_true rfl) (Nat.le_of_ble_eq_true rfl) dL_limit_9
      by_cases hk1 : k = 2
      · subst hk1
        refine vx_catch (own := RL) (name := exN 2) (E := exN 2) F.1.2.2.2.1 [⟨0, 5, 6, 14⟩] ⟨0, 5, 10, 16⟩ [] htab (List.forall_mem_cons.mpr ⟨Or.inr ⟨by decide, exN 1, hts _ mw_239, hN 2 1 (by decide) (by decide) (by decide)⟩, (fun z hz => absurd hz List.not_mem_nil)⟩) rfl (by decide) (hts _ mw_240) (va_Nw.use rfl (F.2.2 _ mw_460)) hce hcv hcl ?_
        refine lv_astore_n (lv' := [(2, .ref q), (0, .ref (ad 77)), (1, .int p0)]) hx hb dL_limit_10 rfl hl (by decide) rfl (fun ls hl => ?_)
        refine lv_bipush (v := (-3)) hx hb dL_limit_11 (by decide) ?_
        exact lh_end F hP hS hr hk (by simpa [List.lookup] using e2) (Nat.le_of_ble_eq_true rfl) (Nat.le_of_ble_eq_true rfl) dL_limit_13
      · exfalso
        have z0 : (k == 1) = false := beq_false_of_ne hk0
        have z1 : (k == 2) = false := beq_false_of_ne hk1
        simp [List.lookup, z0, z1] at e2
def fw_tune (G : GT) (p0 : Int32) (p1 : Int32) : Option (Int32 × GT) := catT [(0, (-1)), (1, (-2)), (2, (-3))] (f_X9_tune G p0 p1)
theorem kl_tune : CKL yL_tune cL_tune 4 [(0, 6, 7, 22), (0, 6, 10, 14), (0, 6, 14, 16)] 3 := ⟨mw_1431, mw_0, mw_1432, by decide +kernel⟩
set_option maxRecDepth 100000 in
set_option maxHeartbeats 4000000 in
theorem ql_tune (l : Launch) (hst : l.stackTraces = false) (D : va_G) (Y : Nat → ClassId) (ad : Nat → Nat) (hI : Inj 90 ad) (G : GT) (p0 : Int32) (p1 : Int32) (r : Int32) (G' : GT) (h : fw_tune G p0 p1 = some (r, G')) : LH l yL_tune cL_tune 4 [(0, 6, 7, 22), (0, 6, 10, 14), (0, 6, 14, 16)] 11 3 D Y ad G [.ref (ad 77), .int p0, .int p1] r G' := by
  obtain ⟨RR, h, hRR⟩ := catT_some h
  refine LH_of (by decide) (Nat.le_of_ble_eq_true rfl) (lv := [(0, .ref (ad 77)), (1, .int p0), (2, .int p1)]) rfl ?_
  intro p ev s m below meth c ls F htab hP hK hN hS hr hk hl
  have F : Fx p c cL_tune 4 s m _ RL D Y := F
  have hx := F.1.1
  have hb := F.1.2.1
  have hts := F.1.2.2.2.2
  refine lv_aload_n hx hb dL_tune_0 rfl (lv_at hl 0 rfl) ?_
  refine lv_iload_n hx hb dL_tune_1 rfl (lv_at hl 1 rfl) ?_
  refine lv_iload_n hx hb dL_tune_2 rfl (lv_at hl 2 rfl) ?_
  refine lh_call (RR := RR) (G' := G') (rest := []) (As := [.int p0, .int p1]) F hP hK hS k_X9_tune mw_1433 rfl (q_X9_tune l hst D Y ad hI G p0 p1 RR G' h) rfl hl.1 ⟨Nat.le_of_ble_eq_true rfl, Nat.le_of_ble_eq_true rfl⟩ rfl (Nat.le_of_ble_eq_true rfl) ⟨Nat.le_of_ble_eq_true rfl, Nat.le_of_ble_eq_true rfl⟩ dL_tune_3 (fun x H1 L1 hR hP hS => ?_) (fun k q ce H1 L1 hR hP hS hce hcv hcl => ?_)
  · rcases hRR with ⟨v, e1, e2⟩ | ⟨k1, e1, -⟩
    · cases hR.symm.trans e1
      exact lh_end F hP hS hr hk e2 (Nat.le_of_ble_eq_true rfl) (Nat.le_of_ble_eq_true rfl) dL_tune_6
    · cases hR.symm.trans e1
  · rcases hRR with ⟨v, e1, -⟩ | ⟨k1, e1, e2⟩
    · cases hR.symm.trans e1
    · cases hR.symm.trans e1
      by_cases hk0 : k = 0
      · subst hk0
        refine vx_catch (own := RL) (name := exN 0) (E := exN 0) F.1.2.2.2.1 [] ⟨0, 6, 7, 22⟩ [⟨0, 6, 10, 14⟩, ⟨0, 6, 14, 16⟩] htab (fun z hz => absurd hz List.not_mem_nil) rfl (by decide) (hts _ mw_532) (va_Nw.use rfl (F.2.2 _ mw_366)) hce hcv hcl ?_
        refine lv_astore_n (lv' := [(3, .ref q), (0, .ref (ad 77)), (1, .int p0), (2, .int p1)]) hx hb dL_tune_7 rfl hl (by decide) rfl (fun ls hl => ?_)
        refine lv_iconst (v := (-1)) hx hb dL_tune_8 (by decide) ?_
        exact lh_end F hP hS hr hk (by simpa [List.lookup] using e2) (Nat.le_of_ble_eq_true rfl) (Nat.le_of_ble_eq_true rfl) dL_tune_9
      by_cases hk1 : k = 1
      · subst hk1
        refine vx_catch (own := RL) (name := exN 1) (E := exN 1) F.1.2.2.2.1 [⟨0, 6, 7, 22⟩] ⟨0, 6, 10, 14⟩ [⟨0, 6, 14, 16⟩] htab (List.forall_mem_cons.mpr ⟨Or.inr ⟨by decide, exN 0, hts _ mw_532, hN 1 0 (by decide) (by decide) (by decide)⟩, (fun z hz => absurd hz List.not_mem_nil)⟩) rfl (by decide) (hts _ mw_239) (va_Nw.use rfl (F.2.2 _ mw_441)) hce hcv hcl ?_
        refine lv_astore_n (lv' := [(3, .ref q), (0, .ref (ad 77)), (1, .int p0), (2, .int p1)]) hx hb dL_tune_10 rfl hl (by decide) rfl (fun ls hl => ?_)
        refine lv_bipush (v := (-2)) hx hb dL_tune_11 (by decide) ?_
        exact lh_end F hP hS hr hk (by simpa [List.lookup] using e2) (Nat.le_of_ble_eq_true rfl) (Nat.le_of_ble_eq_true rfl) dL_tune_13
      by_cases hk2 : k = 2
      · subst hk2
        refine vx_catch (own := RL) (name := exN 2) (E := exN 2) F.1.2.2.2.1 [⟨0, 6, 7, 22⟩, ⟨0, 6, 10, 14⟩] ⟨0, 6, 14, 16⟩ [] htab (List.forall_mem_cons.mpr ⟨Or.inr ⟨by decide, exN 0, hts _ mw_532, hN 2 0 (by decide) (by decide) (by decide)⟩, (List.forall_mem_cons.mpr ⟨Or.inr ⟨by decide, exN 1, hts _ mw_239, hN 2 1 (by decide) (by decide) (by decide)⟩, (fun z hz => absurd hz List.not_mem_nil)⟩)⟩) rfl (by decide) (hts _ mw_240) (va_Nw.use rfl (F.2.2 _ mw_460)) hce hcv hcl ?_
        refine lv_astore_n (lv' := [(3, .ref q), (0, .ref (ad 77)), (1, .int p0), (2, .int p1)]) hx hb dL_tune_14 rfl hl (by decide) rfl (fun ls hl => ?_)
        refine lv_bipush (v := (-3)) hx hb dL_tune_15 (by decide) ?_
        exact lh_end F hP hS hr hk (by simpa [List.lookup] using e2) (Nat.le_of_ble_eq_true rfl) (Nat.le_of_ble_eq_true rfl) dL_tune_17
      · exfalso
        have z0 : (k == 0) = false := beq_false_of_ne hk0
        have z1 : (k == 1) = false := beq_false_of_ne hk1
        have z2 : (k == 2) = false := beq_false_of_ne hk2
        simp [List.lookup, z0, z1, z2] at e2
def fw_tinOf (G : GT) (p0 : Int32) (p1 : Int32) : Option (Int32 × GT) := catT [(0, (-11)), (1, (-12))] (f_X9_tinOf G p0 p1)
theorem kl_tinOf : CKL yL_tinOf cL_tinOf 4 [(0, 6, 7, 22), (0, 6, 11, 14)] 3 := ⟨mw_718, mw_0, mw_719, by decide +kernel⟩
set_option maxRecDepth 100000 in
set_option maxHeartbeats 4000000 in
theorem ql_tinOf (l : Launch) (hst : l.stackTraces = false) (D : va_G) (Y : Nat → ClassId) (ad : Nat → Nat) (hI : Inj 90 ad) (G : GT) (p0 : Int32) (p1 : Int32) (r : Int32) (G' : GT) (h : fw_tinOf G p0 p1 = some (r, G')) : LH l yL_tinOf cL_tinOf 4 [(0, 6, 7, 22), (0, 6, 11, 14)] 10 2 D Y ad G [.ref (ad 77), .int p0, .int p1] r G' := by
  obtain ⟨RR, h, hRR⟩ := catT_some h
  refine LH_of (by decide) (Nat.le_of_ble_eq_true rfl) (lv := [(0, .ref (ad 77)), (1, .int p0), (2, .int p1)]) rfl ?_
  intro p ev s m below meth c ls F htab hP hK hN hS hr hk hl
  have F : Fx p c cL_tinOf 4 s m _ RL D Y := F
  have hx := F.1.1
  have hb := F.1.2.1
  have hts := F.1.2.2.2.2
  refine lv_aload_n hx hb dL_tinOf_0 rfl (lv_at hl 0 rfl) ?_
  refine lv_iload_n hx hb dL_tinOf_1 rfl (lv_at hl 1 rfl) ?_
  refine lv_iload_n hx hb dL_tinOf_2 rfl (lv_at hl 2 rfl) ?_
  refine lh_call (RR := RR) (G' := G') (rest := []) (As := [.int p0, .int p1]) F hP hK hS k_X9_tinOf mw_720 rfl (q_X9_tinOf l hst D Y ad hI G p0 p1 RR G' h) rfl hl.1 ⟨Nat.le_of_ble_eq_true rfl, Nat.le_of_ble_eq_true rfl⟩ rfl (Nat.le_of_ble_eq_true rfl) ⟨Nat.le_of_ble_eq_true rfl, Nat.le_of_ble_eq_true rfl⟩ dL_tinOf_3 (fun x H1 L1 hR hP hS => ?_) (fun k q ce H1 L1 hR hP hS hce hcv hcl => ?_)
  · rcases hRR with ⟨v, e1, e2⟩ | ⟨k1, e1, -⟩
    · cases hR.symm.trans e1
      exact lh_end F hP hS hr hk e2 (Nat.le_of_ble_eq_true rfl) (Nat.le_of_ble_eq_true rfl) dL_tinOf_6
    · cases hR.symm.trans e1
  · rcases hRR with ⟨v, e1, -⟩ | ⟨k1, e1, e2⟩
    · cases hR.symm.trans e1
    · cases hR.symm.trans e1
      by_cases hk0 : k = 0
      · subst hk0
        refine vx_catch (own := RL) (name := exN 0) (E := exN 0) F.1.2.2.2.1 [] ⟨0, 6, 7, 22⟩ [⟨0, 6, 11, 14⟩] htab (fun z hz => absurd hz List.not_mem_nil) rfl (by decide) (hts _ mw_532) (va_Nw.use rfl (F.2.2 _ mw_366)) hce hcv hcl ?_
        refine lv_astore_n (lv' := [(3, .ref q), (0, .ref (ad 77)), (1, .int p0), (2, .int p1)]) hx hb dL_tinOf_7 rfl hl (by decide) rfl (fun ls hl => ?_)
        refine lv_bipush (v := (-11)) hx hb dL_tinOf_8 (by decide) ?_
        exact lh_end F hP hS hr hk (by simpa [List.lookup] using e2) (Nat.le_of_ble_eq_true rfl) (Nat.le_of_ble_eq_true rfl) dL_tinOf_10
      by_cases hk1 : k = 1
      · subst hk1
        refine vx_catch (own := RL) (name := exN 1) (E := exN 1) F.1.2.2.2.1 [⟨0, 6, 7, 22⟩] ⟨0, 6, 11, 14⟩ [] htab (List.forall_mem_cons.mpr ⟨Or.inr ⟨by decide, exN 0, hts _ mw_532, hN 1 0 (by decide) (by decide) (by decide)⟩, (fun z hz => absurd hz List.not_mem_nil)⟩) rfl (by decide) (hts _ mw_239) (va_Nw.use rfl (F.2.2 _ mw_441)) hce hcv hcl ?_
        refine lv_astore_n (lv' := [(3, .ref q), (0, .ref (ad 77)), (1, .int p0), (2, .int p1)]) hx hb dL_tinOf_11 rfl hl (by decide) rfl (fun ls hl => ?_)
        refine lv_bipush (v := (-12)) hx hb dL_tinOf_12 (by decide) ?_
        exact lh_end F hP hS hr hk (by simpa [List.lookup] using e2) (Nat.le_of_ble_eq_true rfl) (Nat.le_of_ble_eq_true rfl) dL_tinOf_14
      · exfalso
        have z0 : (k == 0) = false := beq_false_of_ne hk0
        have z1 : (k == 1) = false := beq_false_of_ne hk1
        simp [List.lookup, z0, z1] at e2
def fw_of (G : GT) (p0 : Int32) (p1 : Int32) : Option (Int32 × GT) := catT [(0, (-11)), (1, (-12))] (f_X9_soundOf G p0 p1)
theorem kl_of : CKL yL_of cL_of 4 [(0, 6, 7, 22), (0, 6, 11, 14)] 3 := ⟨mw_690, mw_0, mw_691, by decide +kernel⟩
set_option maxRecDepth 100000 in
set_option maxHeartbeats 4000000 in
theorem ql_of (l : Launch) (hst : l.stackTraces = false) (D : va_G) (Y : Nat → ClassId) (ad : Nat → Nat) (hI : Inj 90 ad) (G : GT) (p0 : Int32) (p1 : Int32) (r : Int32) (G' : GT) (h : fw_of G p0 p1 = some (r, G')) : LH l yL_of cL_of 4 [(0, 6, 7, 22), (0, 6, 11, 14)] 10 2 D Y ad G [.ref (ad 77), .int p0, .int p1] r G' := by
  obtain ⟨RR, h, hRR⟩ := catT_some h
  refine LH_of (by decide) (Nat.le_of_ble_eq_true rfl) (lv := [(0, .ref (ad 77)), (1, .int p0), (2, .int p1)]) rfl ?_
  intro p ev s m below meth c ls F htab hP hK hN hS hr hk hl
  have F : Fx p c cL_of 4 s m _ RL D Y := F
  have hx := F.1.1
  have hb := F.1.2.1
  have hts := F.1.2.2.2.2
  refine lv_aload_n hx hb dL_of_0 rfl (lv_at hl 0 rfl) ?_
  refine lv_iload_n hx hb dL_of_1 rfl (lv_at hl 1 rfl) ?_
  refine lv_iload_n hx hb dL_of_2 rfl (lv_at hl 2 rfl) ?_
  refine lh_call (RR := RR) (G' := G') (rest := []) (As := [.int p0, .int p1]) F hP hK hS k_X9_soundOf mw_692 rfl (q_X9_soundOf l hst D Y ad hI G p0 p1 RR G' h) rfl hl.1 ⟨Nat.le_of_ble_eq_true rfl, Nat.le_of_ble_eq_true rfl⟩ rfl (Nat.le_of_ble_eq_true rfl) ⟨Nat.le_of_ble_eq_true rfl, Nat.le_of_ble_eq_true rfl⟩ dL_of_3 (fun x H1 L1 hR hP hS => ?_) (fun k q ce H1 L1 hR hP hS hce hcv hcl => ?_)
  · rcases hRR with ⟨v, e1, e2⟩ | ⟨k1, e1, -⟩
    · cases hR.symm.trans e1
      exact lh_end F hP hS hr hk e2 (Nat.le_of_ble_eq_true rfl) (Nat.le_of_ble_eq_true rfl) dL_of_6
    · cases hR.symm.trans e1
  · rcases hRR with ⟨v, e1, -⟩ | ⟨k1, e1, e2⟩
    · cases hR.symm.trans e1
    · cases hR.symm.trans e1
      by_cases hk0 : k = 0
      · subst hk0
        refine vx_catch (own := RL) (name := exN 0) (E := exN 0) F.1.2.2.2.1 [] ⟨0, 6, 7, 22⟩ [⟨0, 6, 11, 14⟩] htab (fun z hz => absurd hz List.not_mem_nil) rfl (by decide) (hts _ mw_532) (va_Nw.use rfl (F.2.2 _ mw_366)) hce hcv hcl ?_
        refine lv_astore_n (lv' := [(3, .ref q), (0, .ref (ad 77)), (1, .int p0), (2, .int p1)]) hx hb dL_of_7 rfl hl (by decide) rfl (fun ls hl => ?_)
        refine lv_bipush (v := (-11)) hx hb dL_of_8 (by decide) ?_
        exact lh_end F hP hS hr hk (by simpa [List.lookup] using e2) (Nat.le_of_ble_eq_true rfl) (Nat.le_of_ble_eq_true rfl) dL_of_10
      by_cases hk1 : k = 1
      · subst hk1
        refine vx_catch (own := RL) (name := exN 1) (E := exN 1) F.1.2.2.2.1 [⟨0, 6, 7, 22⟩] ⟨0, 6, 11, 14⟩ [] htab (List.forall_mem_cons.mpr ⟨Or.inr ⟨by decide, exN 0, hts _ mw_532, hN 1 0 (by decide) (by decide) (by decide)⟩, (fun z hz => absurd hz List.not_mem_nil)⟩) rfl (by decide) (hts _ mw_239) (va_Nw.use rfl (F.2.2 _ mw_441)) hce hcv hcl ?_
        refine lv_astore_n (lv' := [(3, .ref q), (0, .ref (ad 77)), (1, .int p0), (2, .int p1)]) hx hb dL_of_11 rfl hl (by decide) rfl (fun ls hl => ?_)
        refine lv_bipush (v := (-12)) hx hb dL_of_12 (by decide) ?_
        exact lh_end F hP hS hr hk (by simpa [List.lookup] using e2) (Nat.le_of_ble_eq_true rfl) (Nat.le_of_ble_eq_true rfl) dL_of_14
      · exfalso
        have z0 : (k == 0) = false := beq_false_of_ne hk0
        have z1 : (k == 1) = false := beq_false_of_ne hk1
        simp [List.lookup, z0, z1] at e2
def fw_barOf (G : GT) (p0 : Int32) (p1 : Int32) : Option (Int32 × GT) := catT [(0, (-11)), (1, (-12))] (f_X9_barOf G p0 p1)
theorem kl_barOf : CKL yL_barOf cL_barOf 4 [(0, 6, 7, 22), (0, 6, 11, 14)] 3 := ⟨mw_736, mw_0, mw_737, by decide +kernel⟩
set_option maxRecDepth 100000 in
set_option maxHeartbeats 4000000 in
theorem ql_barOf (l : Launch) (hst : l.stackTraces = false) (D : va_G) (Y : Nat → ClassId) (ad : Nat → Nat) (hI : Inj 90 ad) (G : GT) (p0 : Int32) (p1 : Int32) (r : Int32) (G' : GT) (h : fw_barOf G p0 p1 = some (r, G')) : LH l yL_barOf cL_barOf 4 [(0, 6, 7, 22), (0, 6, 11, 14)] 10 2 D Y ad G [.ref (ad 77), .int p0, .int p1] r G' := by
  obtain ⟨RR, h, hRR⟩ := catT_some h
  refine LH_of (by decide) (Nat.le_of_ble_eq_true rfl) (lv := [(0, .ref (ad 77)), (1, .int p0), (2, .int p1)]) rfl ?_
  intro p ev s m below meth c ls F htab hP hK hN hS hr hk hl
  have F : Fx p c cL_barOf 4 s m _ RL D Y := F
  have hx := F.1.1
  have hb := F.1.2.1
  have hts := F.1.2.2.2.2
  refine lv_aload_n hx hb dL_barOf_0 rfl (lv_at hl 0 rfl) ?_
  refine lv_iload_n hx hb dL_barOf_1 rfl (lv_at hl 1 rfl) ?_
  refine lv_iload_n hx hb dL_barOf_2 rfl (lv_at hl 2 rfl) ?_
  refine lh_call (RR := RR) (G' := G') (rest := []) (As := [.int p0, .int p1]) F hP hK hS k_X9_barOf mw_738 rfl (q_X9_barOf l hst D Y ad hI G p0 p1 RR G' h) rfl hl.1 ⟨Nat.le_of_ble_eq_true rfl, Nat.le_of_ble_eq_true rfl⟩ rfl (Nat.le_of_ble_eq_true rfl) ⟨Nat.le_of_ble_eq_true rfl, Nat.le_of_ble_eq_true rfl⟩ dL_barOf_3 (fun x H1 L1 hR hP hS => ?_) (fun k q ce H1 L1 hR hP hS hce hcv hcl => ?_)
  · rcases hRR with ⟨v, e1, e2⟩ | ⟨k1, e1, -⟩
    · cases hR.symm.trans e1
      exact lh_end F hP hS hr hk e2 (Nat.le_of_ble_eq_true rfl) (Nat.le_of_ble_eq_true rfl) dL_barOf_6
    · cases hR.symm.trans e1
  · rcases hRR with ⟨v, e1, -⟩ | ⟨k1, e1, e2⟩
    · cases hR.symm.trans e1
    · cases hR.symm.trans e1
      by_cases hk0 : k = 0
      · subst hk0
        refine vx_catch (own := RL) (name := exN 0) (E := exN 0) F.1.2.2.2.1 [] ⟨0, 6, 7, 22⟩ [⟨0, 6, 11, 14⟩] htab (fun z hz => absurd hz List.not_mem_nil) rfl (by decide) (hts _ mw_532) (va_Nw.use rfl (F.2.2 _ mw_366)) hce hcv hcl ?_
        refine lv_astore_n (lv' := [(3, .ref q), (0, .ref (ad 77)), (1, .int p0), (2, .int p1)]) hx hb dL_barOf_7 rfl hl (by decide) rfl (fun ls hl => ?_)
        refine lv_bipush (v := (-11)) hx hb dL_barOf_8 (by decide) ?_
        exact lh_end F hP hS hr hk (by simpa [List.lookup] using e2) (Nat.le_of_ble_eq_true rfl) (Nat.le_of_ble_eq_true rfl) dL_barOf_10
      by_cases hk1 : k = 1
      · subst hk1
        refine vx_catch (own := RL) (name := exN 1) (E := exN 1) F.1.2.2.2.1 [⟨0, 6, 7, 22⟩] ⟨0, 6, 11, 14⟩ [] htab (List.forall_mem_cons.mpr ⟨Or.inr ⟨by decide, exN 0, hts _ mw_532, hN 1 0 (by decide) (by decide) (by decide)⟩, (fun z hz => absurd hz List.not_mem_nil)⟩) rfl (by decide) (hts _ mw_239) (va_Nw.use rfl (F.2.2 _ mw_441)) hce hcv hcl ?_
        refine lv_astore_n (lv' := [(3, .ref q), (0, .ref (ad 77)), (1, .int p0), (2, .int p1)]) hx hb dL_barOf_11 rfl hl (by decide) rfl (fun ls hl => ?_)
        refine lv_bipush (v := (-12)) hx hb dL_barOf_12 (by decide) ?_
        exact lh_end F hP hS hr hk (by simpa [List.lookup] using e2) (Nat.le_of_ble_eq_true rfl) (Nat.le_of_ble_eq_true rfl) dL_barOf_14
      · exfalso
        have z0 : (k == 0) = false := beq_false_of_ne hk0
        have z1 : (k == 1) = false := beq_false_of_ne hk1
        simp [List.lookup, z0, z1] at e2
def fw_part (G : GT) (p0 : Int32) (p1 : Int32) (p2 : Int32) : Option (Int32 × GT) := catT [(0, (-11)), (1, (-12))] (f_X9_partOf G p0 p1 p2)
theorem kl_part : CKL yL_part cL_part 5 [(0, 7, 8, 22), (0, 7, 13, 14)] 4 := ⟨mw_764, mw_0, mw_765, by decide +kernel⟩
set_option maxRecDepth 100000 in
set_option maxHeartbeats 4000000 in
theorem ql_part (l : Launch) (hst : l.stackTraces = false) (D : va_G) (Y : Nat → ClassId) (ad : Nat → Nat) (hI : Inj 90 ad) (G : GT) (p0 : Int32) (p1 : Int32) (p2 : Int32) (r : Int32) (G' : GT) (h : fw_part G p0 p1 p2 = some (r, G')) : LH l yL_part cL_part 5 [(0, 7, 8, 22), (0, 7, 13, 14)] 10 3 D Y ad G [.ref (ad 77), .int p0, .int p1, .int p2] r G' := by
  obtain ⟨RR, h, hRR⟩ := catT_some h
  refine LH_of (by decide) (Nat.le_of_ble_eq_true rfl) (lv := [(0, .ref (ad 77)), (1, .int p0), (2, .int p1), (3, .int p2)]) rfl ?_
  intro p ev s m below meth c ls F htab hP hK hN hS hr hk hl
  have F : Fx p c cL_part 5 s m _ RL D Y := F
  have hx := F.1.1
  have hb := F.1.2.1
  have hts := F.1.2.2.2.2
  refine lv_aload_n hx hb dL_part_0 rfl (lv_at hl 0 rfl) ?_
  refine lv_iload_n hx hb dL_part_1 rfl (lv_at hl 1 rfl) ?_
  refine lv_iload_n hx hb dL_part_2 rfl (lv_at hl 2 rfl) ?_
  refine lv_iload_n hx hb dL_part_3 rfl (lv_at hl 3 rfl) ?_
  refine lh_call (RR := RR) (G' := G') (rest := []) (As := [.int p0, .int p1, .int p2]) F hP hK hS k_X9_partOf mw_766 rfl (q_X9_partOf l hst D Y ad hI G p0 p1 p2 RR G' h) rfl hl.1 ⟨Nat.le_of_ble_eq_true rfl, Nat.le_of_ble_eq_true rfl⟩ rfl (Nat.le_of_ble_eq_true rfl) ⟨Nat.le_of_ble_eq_true rfl, Nat.le_of_ble_eq_true rfl⟩ dL_part_4 (fun x H1 L1 hR hP hS => ?_) (fun k q ce H1 L1 hR hP hS hce hcv hcl => ?_)
  · rcases hRR with ⟨v, e1, e2⟩ | ⟨k1, e1, -⟩
    · cases hR.symm.trans e1
      exact lh_end F hP hS hr hk e2 (Nat.le_of_ble_eq_true rfl) (Nat.le_of_ble_eq_true rfl) dL_part_7
    · cases hR.symm.trans e1
  · rcases hRR with ⟨v, e1, -⟩ | ⟨k1, e1, e2⟩
    · cases hR.symm.trans e1
    · cases hR.symm.trans e1
      by_cases hk0 : k = 0
      · subst hk0
        refine vx_catch (own := RL) (name := exN 0) (E := exN 0) F.1.2.2.2.1 [] ⟨0, 7, 8, 22⟩ [⟨0, 7, 13, 14⟩] htab (fun z hz => absurd hz List.not_mem_nil) rfl (by decide) (hts _ mw_532) (va_Nw.use rfl (F.2.2 _ mw_366)) hce hcv hcl ?_
        refine lv_astore (lv' := [(4, .ref q), (0, .ref (ad 77)), (1, .int p0), (2, .int p1), (3, .int p2)]) hx hb dL_part_8 hl (by decide) rfl (fun ls hl => ?_)
        refine lv_bipush (v := (-11)) hx hb dL_part_10 (by decide) ?_
        exact lh_end F hP hS hr hk (by simpa [List.lookup] using e2) (Nat.le_of_ble_eq_true rfl) (Nat.le_of_ble_eq_true rfl) dL_part_12
      by_cases hk1 : k = 1
      · subst hk1
        refine vx_catch (own := RL) (name := exN 1) (E := exN 1) F.1.2.2.2.1 [⟨0, 7, 8, 22⟩] ⟨0, 7, 13, 14⟩ [] htab (List.forall_mem_cons.mpr ⟨Or.inr ⟨by decide, exN 0, hts _ mw_532, hN 1 0 (by decide) (by decide) (by decide)⟩, (fun z hz => absurd hz List.not_mem_nil)⟩) rfl (by decide) (hts _ mw_239) (va_Nw.use rfl (F.2.2 _ mw_441)) hce hcv hcl ?_
        refine lv_astore (lv' := [(4, .ref q), (0, .ref (ad 77)), (1, .int p0), (2, .int p1), (3, .int p2)]) hx hb dL_part_13 hl (by decide) rfl (fun ls hl => ?_)
        refine lv_bipush (v := (-12)) hx hb dL_part_15 (by decide) ?_
        exact lh_end F hP hS hr hk (by simpa [List.lookup] using e2) (Nat.le_of_ble_eq_true rfl) (Nat.le_of_ble_eq_true rfl) dL_part_17
      · exfalso
        have z0 : (k == 0) = false := beq_false_of_ne hk0
        have z1 : (k == 1) = false := beq_false_of_ne hk1
        simp [List.lookup, z0, z1] at e2
def fw_at (G : GT) (p0 : Int32) : Option (Int32 × GT) := catT [(3, (-13))] (f_X9_at G p0)
theorem kl_at : CKL yL_at cL_at 3 [(0, 5, 6, 59)] 2 := ⟨mw_780, mw_0, mw_781, by decide +kernel⟩
set_option maxRecDepth 100000 in
set_option maxHeartbeats 4000000 in
theorem ql_at (l : Launch) (hst : l.stackTraces = false) (D : va_G) (Y : Nat → ClassId) (ad : Nat → Nat) (hI : Inj 90 ad) (G : GT) (p0 : Int32) (r : Int32) (G' : GT) (h : fw_at G p0 = some (r, G')) : LH l yL_at cL_at 3 [(0, 5, 6, 59)] 11 1 D Y ad G [.ref (ad 77), .int p0] r G' := by
  obtain ⟨RR, h, hRR⟩ := catT_some h
  refine LH_of (by decide) (Nat.le_of_ble_eq_true rfl) (lv := [(0, .ref (ad 77)), (1, .int p0)]) rfl ?_
  intro p ev s m below meth c ls F htab hP hK hN hS hr hk hl
  have F : Fx p c cL_at 3 s m _ RL D Y := F
  have hx := F.1.1
  have hb := F.1.2.1
  have hts := F.1.2.2.2.2
  refine lv_aload_n hx hb dL_at_0 rfl (lv_at hl 0 rfl) ?_
  refine lv_iload_n hx hb dL_at_1 rfl (lv_at hl 1 rfl) ?_
  refine lh_call (RR := RR) (G' := G') (rest := []) (As := [.int p0]) F hP hK hS k_X9_at mw_782 rfl (q_X9_at l hst D Y ad hI G p0 RR G' h) rfl hl.1 ⟨Nat.le_of_ble_eq_true rfl, Nat.le_of_ble_eq_true rfl⟩ rfl (Nat.le_of_ble_eq_true rfl) ⟨Nat.le_of_ble_eq_true rfl, Nat.le_of_ble_eq_true rfl⟩ dL_at_2 (fun x H1 L1 hR hP hS => ?_) (fun k q ce H1 L1 hR hP hS hce hcv hcl => ?_)
  · rcases hRR with ⟨v, e1, e2⟩ | ⟨k1, e1, -⟩
    · cases hR.symm.trans e1
      exact lh_end F hP hS hr hk e2 (Nat.le_of_ble_eq_true rfl) (Nat.le_of_ble_eq_true rfl) dL_at_5
    · cases hR.symm.trans e1
  · rcases hRR with ⟨v, e1, -⟩ | ⟨k1, e1, e2⟩
    · cases hR.symm.trans e1
    · cases hR.symm.trans e1
      by_cases hk0 : k = 3
      · subst hk0
        refine vx_catch (own := RL) (name := exN 3) (E := exN 3) F.1.2.2.2.1 [] ⟨0, 5, 6, 59⟩ [] htab (fun z hz => absurd hz List.not_mem_nil) rfl (by decide) (hts _ mw_585) (va_Nw.use rfl (F.2.2 _ mw_599)) hce hcv hcl ?_
        refine lv_astore_n (lv' := [(2, .ref q), (0, .ref (ad 77)), (1, .int p0)]) hx hb dL_at_6 rfl hl (by decide) rfl (fun ls hl => ?_)
        refine lv_bipush (v := (-13)) hx hb dL_at_7 (by decide) ?_
        exact lh_end F hP hS hr hk (by simpa [List.lookup] using e2) (Nat.le_of_ble_eq_true rfl) (Nat.le_of_ble_eq_true rfl) dL_at_9
      · exfalso
        have z0 : (k == 3) = false := beq_false_of_ne hk0
        simp [List.lookup, z0] at e2
def fw_faults (G : GT) (p0 : Int32) (p1 : Int32) : Option (Int32 × GT) := catT [(1, (-12))] (f_X9_faults G p0 p1)
theorem kl_faults : CKL yL_faults cL_faults 4 [(0, 6, 7, 14)] 3 := ⟨mw_809, mw_0, mw_810, by decide +kernel⟩
set_option maxRecDepth 100000 in
set_option maxHeartbeats 4000000 in
theorem ql_faults (l : Launch) (hst : l.stackTraces = false) (D : va_G) (Y : Nat → ClassId) (ad : Nat → Nat) (hI : Inj 90 ad) (G : GT) (p0 : Int32) (p1 : Int32) (r : Int32) (G' : GT) (h : fw_faults G p0 p1 = some (r, G')) : LH l yL_faults cL_faults 4 [(0, 6, 7, 14)] 10 1 D Y ad G [.ref (ad 77), .int p0, .int p1] r G' := by
  obtain ⟨RR, h, hRR⟩ := catT_some h
  refine LH_of (by decide) (Nat.le_of_ble_eq_true rfl) (lv := [(0, .ref (ad 77)), (1, .int p0), (2, .int p1)]) rfl ?_
  intro p ev s m below meth c ls F htab hP hK hN hS hr hk hl
  have F : Fx p c cL_faults 4 s m _ RL D Y := F
  have hx := F.1.1
  have hb := F.1.2.1
  have hts := F.1.2.2.2.2
  refine lv_aload_n hx hb dL_faults_0 rfl (lv_at hl 0 rfl) ?_
  refine lv_iload_n hx hb dL_faults_1 rfl (lv_at hl 1 rfl) ?_
  refine lv_iload_n hx hb dL_faults_2 rfl (lv_at hl 2 rfl) ?_
  refine lh_call (RR := RR) (G' := G') (rest := []) (As := [.int p0, .int p1]) F hP hK hS k_X9_faults mw_811 rfl (q_X9_faults l hst D Y ad hI G p0 p1 RR G' h) rfl hl.1 ⟨Nat.le_of_ble_eq_true rfl, Nat.le_of_ble_eq_true rfl⟩ rfl (Nat.le_of_ble_eq_true rfl) ⟨Nat.le_of_ble_eq_true rfl, Nat.le_of_ble_eq_true rfl⟩ dL_faults_3 (fun x H1 L1 hR hP hS => ?_) (fun k q ce H1 L1 hR hP hS hce hcv hcl => ?_)
  · rcases hRR with ⟨v, e1, e2⟩ | ⟨k1, e1, -⟩
    · cases hR.symm.trans e1
      exact lh_end F hP hS hr hk e2 (Nat.le_of_ble_eq_true rfl) (Nat.le_of_ble_eq_true rfl) dL_faults_6
    · cases hR.symm.trans e1
  · rcases hRR with ⟨v, e1, -⟩ | ⟨k1, e1, e2⟩
    · cases hR.symm.trans e1
    · cases hR.symm.trans e1
      by_cases hk0 : k = 1
      · subst hk0
        refine vx_catch (own := RL) (name := exN 1) (E := exN 1) F.1.2.2.2.1 [] ⟨0, 6, 7, 14⟩ [] htab (fun z hz => absurd hz List.not_mem_nil) rfl (by decide) (hts _ mw_239) (va_Nw.use rfl (F.2.2 _ mw_441)) hce hcv hcl ?_
        refine lv_astore_n (lv' := [(3, .ref q), (0, .ref (ad 77)), (1, .int p0), (2, .int p1)]) hx hb dL_faults_7 rfl hl (by decide) rfl (fun ls hl => ?_)
        refine lv_bipush (v := (-12)) hx hb dL_faults_8 (by decide) ?_
        exact lh_end F hP hS hr hk (by simpa [List.lookup] using e2) (Nat.le_of_ble_eq_true rfl) (Nat.le_of_ble_eq_true rfl) dL_faults_10
      · exfalso
        have z0 : (k == 1) = false := beq_false_of_ne hk0
        simp [List.lookup, z0] at e2
def fw_firstFault (G : GT) (p0 : Int32) : Option (Int32 × GT) := catT [(1, (-12)), (3, (-13))] (f_X9_firstFault G p0)
theorem kl_firstFault : CKL yL_firstFault cL_firstFault 3 [(0, 5, 6, 14), (0, 5, 10, 59)] 2 := ⟨mw_870, mw_0, mw_871, by decide +kernel⟩
set_option maxRecDepth 100000 in
set_option maxHeartbeats 4000000 in
theorem ql_firstFault (l : Launch) (hst : l.stackTraces = false) (D : va_G) (Y : Nat → ClassId) (ad : Nat → Nat) (hI : Inj 90 ad) (G : GT) (p0 : Int32) (r : Int32) (G' : GT) (h : fw_firstFault G p0 = some (r, G')) : LH l yL_firstFault cL_firstFault 3 [(0, 5, 6, 14), (0, 5, 10, 59)] 11 2 D Y ad G [.ref (ad 77), .int p0] r G' := by
  obtain ⟨RR, h, hRR⟩ := catT_some h
  refine LH_of (by decide) (Nat.le_of_ble_eq_true rfl) (lv := [(0, .ref (ad 77)), (1, .int p0)]) rfl ?_
  intro p ev s m below meth c ls F htab hP hK hN hS hr hk hl
  have F : Fx p c cL_firstFault 3 s m _ RL D Y := F
  have hx := F.1.1
  have hb := F.1.2.1
  have hts := F.1.2.2.2.2
  refine lv_aload_n hx hb dL_firstFault_0 rfl (lv_at hl 0 rfl) ?_
  refine lv_iload_n hx hb dL_firstFault_1 rfl (lv_at hl 1 rfl) ?_
  refine lh_call (RR := RR) (G' := G') (rest := []) (As := [.int p0]) F hP hK hS k_X9_firstFault mw_872 rfl (q_X9_firstFault l hst D Y ad hI G p0 RR G' h) rfl hl.1 ⟨Nat.le_of_ble_eq_true rfl, Nat.le_of_ble_eq_true rfl⟩ rfl (Nat.le_of_ble_eq_true rfl) ⟨Nat.le_of_ble_eq_true rfl, Nat.le_of_ble_eq_true rfl⟩ dL_firstFault_2 (fun x H1 L1 hR hP hS => ?_) (fun k q ce H1 L1 hR hP hS hce hcv hcl => ?_)
  · rcases hRR with ⟨v, e1, e2⟩ | ⟨k1, e1, -⟩
    · cases hR.symm.trans e1
      exact lh_end F hP hS hr hk e2 (Nat.le_of_ble_eq_true rfl) (Nat.le_of_ble_eq_true rfl) dL_firstFault_5
    · cases hR.symm.trans e1
  · rcases hRR with ⟨v, e1, -⟩ | ⟨k1, e1, e2⟩
    · cases hR.symm.trans e1
    · cases hR.symm.trans e1
      by_cases hk0 : k = 1
      · subst hk0
        refine vx_catch (own := RL) (name := exN 1) (E := exN 1) F.1.2.2.2.1 [] ⟨0, 5, 6, 14⟩ [⟨0, 5, 10, 59⟩] htab (fun z hz => absurd hz List.not_mem_nil) rfl (by decide) (hts _ mw_239) (va_Nw.use rfl (F.2.2 _ mw_441)) hce hcv hcl ?_
        refine lv_astore_n (lv' := [(2, .ref q), (0, .ref (ad 77)), (1, .int p0)]) hx hb dL_firstFault_6 rfl hl (by decide) rfl (fun ls hl => ?_)
        refine lv_bipush (v := (-12)) hx hb dL_firstFault_7 (by decide) ?_
        exact lh_end F hP hS hr hk (by simpa [List.lookup] using e2) (Nat.le_of_ble_eq_true rfl) (Nat.le_of_ble_eq_true rfl) dL_firstFault_9
      by_cases hk1 : k = 3
      · subst hk1
        refine vx_catch (own := RL) (name := exN 3) (E := exN 3) F.1.2.2.2.1 [⟨0, 5, 6, 14⟩] ⟨0, 5, 10, 59⟩ [] htab (List.forall_mem_cons.mpr ⟨Or.inr ⟨by decide, exN 1, hts _ mw_239, hN 3 1 (by decide) (by decide) (by decide)⟩, (fun z hz => absurd hz List.not_mem_nil)⟩) rfl (by decide) (hts _ mw_585) (va_Nw.use rfl (F.2.2 _ mw_599)) hce hcv hcl ?_
        refine lv_astore_n (lv' := [(2, .ref q), (0, .ref (ad 77)), (1, .int p0)]) hx hb dL_firstFault_10 rfl hl (by decide) rfl (fun ls hl => ?_)
        refine lv_bipush (v := (-13)) hx hb dL_firstFault_11 (by decide) ?_
        exact lh_end F hP hS hr hk (by simpa [List.lookup] using e2) (Nat.le_of_ble_eq_true rfl) (Nat.le_of_ble_eq_true rfl) dL_firstFault_13
      · exfalso
        have z0 : (k == 1) = false := beq_false_of_ne hk0
        have z1 : (k == 3) = false := beq_false_of_ne hk1
        simp [List.lookup, z0, z1] at e2
def fw_wouldFault (G : GT) (p0 : Int32) (p1 : Int32) : Option (Int32 × GT) := catT [(0, (-11)), (1, (-12)), (3, (-13))] (f_X9_wouldFault G p0 p1)
theorem kl_wouldFault : CKL yL_wouldFault cL_wouldFault 4 [(0, 6, 7, 22), (0, 6, 11, 14), (0, 6, 15, 59)] 3 := ⟨mw_884, mw_0, mw_885, by decide +kernel⟩
set_option maxRecDepth 100000 in
set_option maxHeartbeats 4000000 in
theorem ql_wouldFault (l : Launch) (hst : l.stackTraces = false) (D : va_G) (Y : Nat → ClassId) (ad : Nat → Nat) (hI : Inj 90 ad) (G : GT) (p0 : Int32) (p1 : Int32) (r : Int32) (G' : GT) (h : fw_wouldFault G p0 p1 = some (r, G')) : LH l yL_wouldFault cL_wouldFault 4 [(0, 6, 7, 22), (0, 6, 11, 14), (0, 6, 15, 59)] 10 3 D Y ad G [.ref (ad 77), .int p0, .int p1] r G' := by
  obtain ⟨RR, h, hRR⟩ := catT_some h
  refine LH_of (by decide) (Nat.le_of_ble_eq_true rfl) (lv := [(0, .ref (ad 77)), (1, .int p0), (2, .int p1)]) rfl ?_
  intro p ev s m below meth c ls F htab hP hK hN hS hr hk hl
  have F : Fx p c cL_wouldFault 4 s m _ RL D Y := F
  have hx := F.1.1
  have hb := F.1.2.1
  have hts := F.1.2.2.2.2
  refine lv_aload_n hx hb dL_wouldFault_0 rfl (lv_at hl 0 rfl) ?_
  refine lv_iload_n hx hb dL_wouldFault_1 rfl (lv_at hl 1 rfl) ?_
  refine lv_iload_n hx hb dL_wouldFault_2 rfl (lv_at hl 2 rfl) ?_
  refine lh_call (RR := RR) (G' := G') (rest := []) (As := [.int p0, .int p1]) F hP hK hS k_X9_wouldFault mw_886 rfl (q_X9_wouldFault l hst D Y ad hI G p0 p1 RR G' h) rfl hl.1 ⟨Nat.le_of_ble_eq_true rfl, Nat.le_of_ble_eq_true rfl⟩ rfl (Nat.le_of_ble_eq_true rfl) ⟨Nat.le_of_ble_eq_true rfl, Nat.le_of_ble_eq_true rfl⟩ dL_wouldFault_3 (fun x H1 L1 hR hP hS => ?_) (fun k q ce H1 L1 hR hP hS hce hcv hcl => ?_)
  · rcases hRR with ⟨v, e1, e2⟩ | ⟨k1, e1, -⟩
    · cases hR.symm.trans e1
      exact lh_end F hP hS hr hk e2 (Nat.le_of_ble_eq_true rfl) (Nat.le_of_ble_eq_true rfl) dL_wouldFault_6
    · cases hR.symm.trans e1
  · rcases hRR with ⟨v, e1, -⟩ | ⟨k1, e1, e2⟩
    · cases hR.symm.trans e1
    · cases hR.symm.trans e1
      by_cases hk0 : k = 0
      · subst hk0
        refine vx_catch (own := RL) (name := exN 0) (E := exN 0) F.1.2.2.2.1 [] ⟨0, 6, 7, 22⟩ [⟨0, 6, 11, 14⟩, ⟨0, 6, 15, 59⟩] htab (fun z hz => absurd hz List.not_mem_nil) rfl (by decide) (hts _ mw_532) (va_Nw.use rfl (F.2.2 _ mw_366)) hce hcv hcl ?_
        refine lv_astore_n (lv' := [(3, .ref q), (0, .ref (ad 77)), (1, .int p0), (2, .int p1)]) hx hb dL_wouldFault_7 rfl hl (by decide) rfl (fun ls hl => ?_)
        refine lv_bipush (v := (-11)) hx hb dL_wouldFault_8 (by decide) ?_
        exact lh_end F hP hS hr hk (by simpa [List.lookup] using e2) (Nat.le_of_ble_eq_true rfl) (Nat.le_of_ble_eq_true rfl) dL_wouldFault_10
      by_cases hk1 : k = 1
      · subst hk1
        refine vx_catch (own := RL) (name := exN 1) (E := exN 1) F.1.2.2.2.1 [⟨0, 6, 7, 22⟩] ⟨0, 6, 11, 14⟩ [⟨0, 6, 15, 59⟩] htab (List.forall_mem_cons.mpr ⟨Or.inr ⟨by decide, exN 0, hts _ mw_532, hN 1 0 (by decide) (by decide) (by decide)⟩, (fun z hz => absurd hz List.not_mem_nil)⟩) rfl (by decide) (hts _ mw_239) (va_Nw.use rfl (F.2.2 _ mw_441)) hce hcv hcl ?_
        refine lv_astore_n (lv' := [(3, .ref q), (0, .ref (ad 77)), (1, .int p0), (2, .int p1)]) hx hb dL_wouldFault_11 rfl hl (by decide) rfl (fun ls hl => ?_)
        refine lv_bipush (v := (-12)) hx hb dL_wouldFault_12 (by decide) ?_
        exact lh_end F hP hS hr hk (by simpa [List.lookup] using e2) (Nat.le_of_ble_eq_true rfl) (Nat.le_of_ble_eq_true rfl) dL_wouldFault_14
      by_cases hk2 : k = 3
      · subst hk2
        refine vx_catch (own := RL) (name := exN 3) (E := exN 3) F.1.2.2.2.1 [⟨0, 6, 7, 22⟩, ⟨0, 6, 11, 14⟩] ⟨0, 6, 15, 59⟩ [] htab (List.forall_mem_cons.mpr ⟨Or.inr ⟨by decide, exN 0, hts _ mw_532, hN 3 0 (by decide) (by decide) (by decide)⟩, (List.forall_mem_cons.mpr ⟨Or.inr ⟨by decide, exN 1, hts _ mw_239, hN 3 1 (by decide) (by decide) (by decide)⟩, (fun z hz => absurd hz List.not_mem_nil)⟩)⟩) rfl (by decide) (hts _ mw_585) (va_Nw.use rfl (F.2.2 _ mw_599)) hce hcv hcl ?_
        refine lv_astore_n (lv' := [(3, .ref q), (0, .ref (ad 77)), (1, .int p0), (2, .int p1)]) hx hb dL_wouldFault_15 rfl hl (by decide) rfl (fun ls hl => ?_)
        refine lv_bipush (v := (-13)) hx hb dL_wouldFault_16 (by decide) ?_
        exact lh_end F hP hS hr hk (by simpa [List.lookup] using e2) (Nat.le_of_ble_eq_true rfl) (Nat.le_of_ble_eq_true rfl) dL_wouldFault_18
      · exfalso
        have z0 : (k == 0) = false := beq_false_of_ne hk0
        have z1 : (k == 1) = false := beq_false_of_ne hk1
        have z2 : (k == 3) = false := beq_false_of_ne hk2
        simp [List.lookup, z0, z1, z2] at e2
def fw_bestHeight (G : GT) (p0 : Int32) : Option (Int32 × GT) := catT [(0, (-11)), (3, (-13))] (f_X9_bestHeight G p0)
theorem kl_bestHeight : CKL yL_bestHeight cL_bestHeight 3 [(0, 5, 6, 22), (0, 5, 10, 59)] 2 := ⟨mw_902, mw_0, mw_903, by decide +kernel⟩
set_option maxRecDepth 100000 in
set_option maxHeartbeats 4000000 in
theorem ql_bestHeight (l : Launch) (hst : l.stackTraces = false) (D : va_G) (Y : Nat → ClassId) (ad : Nat → Nat) (hI : Inj 90 ad) (G : GT) (p0 : Int32) (r : Int32) (G' : GT) (h : fw_bestHeight G p0 = some (r, G')) : LH l yL_bestHeight cL_bestHeight 3 [(0, 5, 6, 22), (0, 5, 10, 59)] 10 2 D Y ad G [.ref (ad 77), .int p0] r G' := by
  obtain ⟨RR, h, hRR⟩ := catT_some h
  refine LH_of (by decide) (Nat.le_of_ble_eq_true rfl) (lv := [(0, .ref (ad 77)), (1, .int p0)]) rfl ?_
  intro p ev s m below meth c ls F htab hP hK hN hS hr hk hl
  have F : Fx p c cL_bestHeight 3 s m _ RL D Y := F
  have hx := F.1.1
  have hb := F.1.2.1
  have hts := F.1.2.2.2.2
  refine lv_aload_n hx hb dL_bestHeight_0 rfl (lv_at hl 0 rfl) ?_
  refine lv_iload_n hx hb dL_bestHeight_1 rfl (lv_at hl 1 rfl) ?_
  refine lh_call (RR := RR) (G' := G') (rest := []) (As := [.int p0]) F hP hK hS k_X9_bestHeight mw_904 rfl (q_X9_bestHeight l hst D Y ad hI G p0 RR G' h) rfl hl.1 ⟨Nat.le_of_ble_eq_true rfl, Nat.le_of_ble_eq_true rfl⟩ rfl (Nat.le_of_ble_eq_true rfl) ⟨Nat.le_of_ble_eq_true rfl, Nat.le_of_ble_eq_true rfl⟩ dL_bestHeight_2 (fun x H1 L1 hR hP hS => ?_) (fun k q ce H1 L1 hR hP hS hce hcv hcl => ?_)
  · rcases hRR with ⟨v, e1, e2⟩ | ⟨k1, e1, -⟩
    · cases hR.symm.trans e1
      exact lh_end F hP hS hr hk e2 (Nat.le_of_ble_eq_true rfl) (Nat.le_of_ble_eq_true rfl) dL_bestHeight_5
    · cases hR.symm.trans e1
  · rcases hRR with ⟨v, e1, -⟩ | ⟨k1, e1, e2⟩
    · cases hR.symm.trans e1
    · cases hR.symm.trans e1
      by_cases hk0 : k = 0
      · subst hk0
        refine vx_catch (own := RL) (name := exN 0) (E := exN 0) F.1.2.2.2.1 [] ⟨0, 5, 6, 22⟩ [⟨0, 5, 10, 59⟩] htab (fun z hz => absurd hz List.not_mem_nil) rfl (by decide) (hts _ mw_532) (va_Nw.use rfl (F.2.2 _ mw_366)) hce hcv hcl ?_
        refine lv_astore_n (lv' := [(2, .ref q), (0, .ref (ad 77)), (1, .int p0)]) hx hb dL_bestHeight_6 rfl hl (by decide) rfl (fun ls hl => ?_)
        refine lv_bipush (v := (-11)) hx hb dL_bestHeight_7 (by decide) ?_
        exact lh_end F hP hS hr hk (by simpa [List.lookup] using e2) (Nat.le_of_ble_eq_true rfl) (Nat.le_of_ble_eq_true rfl) dL_bestHeight_9
      by_cases hk1 : k = 3
      · subst hk1
        refine vx_catch (own := RL) (name := exN 3) (E := exN 3) F.1.2.2.2.1 [⟨0, 5, 6, 22⟩] ⟨0, 5, 10, 59⟩ [] htab (List.forall_mem_cons.mpr ⟨Or.inr ⟨by decide, exN 0, hts _ mw_532, hN 3 0 (by decide) (by decide) (by decide)⟩, (fun z hz => absurd hz List.not_mem_nil)⟩) rfl (by decide) (hts _ mw_585) (va_Nw.use rfl (F.2.2 _ mw_599)) hce hcv hcl ?_
        refine lv_astore_n (lv' := [(2, .ref q), (0, .ref (ad 77)), (1, .int p0)]) hx hb dL_bestHeight_10 rfl hl (by decide) rfl (fun ls hl => ?_)
        refine lv_bipush (v := (-13)) hx hb dL_bestHeight_11 (by decide) ?_
        exact lh_end F hP hS hr hk (by simpa [List.lookup] using e2) (Nat.le_of_ble_eq_true rfl) (Nat.le_of_ble_eq_true rfl) dL_bestHeight_13
      · exfalso
        have z0 : (k == 0) = false := beq_false_of_ne hk0
        have z1 : (k == 3) = false := beq_false_of_ne hk1
        simp [List.lookup, z0, z1] at e2
def fw_withPitch (G : GT) (p0 : Int32) : Option (Int32 × GT) := catT [(1, (-12))] (f_X9_withPitch G p0)
theorem kl_withPitch : CKL yL_withPitch cL_withPitch 3 [(0, 5, 6, 14)] 2 := ⟨mw_1006, mw_0, mw_1007, by decide +kernel⟩
set_option maxRecDepth 100000 in
set_option maxHeartbeats 4000000 in
theorem ql_withPitch (l : Launch) (hst : l.stackTraces = false) (D : va_G) (Y : Nat → ClassId) (ad : Nat → Nat) (hI : Inj 90 ad) (G : GT) (p0 : Int32) (r : Int32) (G' : GT) (h : fw_withPitch G p0 = some (r, G')) : LH l yL_withPitch cL_withPitch 3 [(0, 5, 6, 14)] 10 1 D Y ad G [.ref (ad 77), .int p0] r G' := by
  obtain ⟨RR, h, hRR⟩ := catT_some h
  refine LH_of (by decide) (Nat.le_of_ble_eq_true rfl) (lv := [(0, .ref (ad 77)), (1, .int p0)]) rfl ?_
  intro p ev s m below meth c ls F htab hP hK hN hS hr hk hl
  have F : Fx p c cL_withPitch 3 s m _ RL D Y := F
  have hx := F.1.1
  have hb := F.1.2.1
  have hts := F.1.2.2.2.2
  refine lv_aload_n hx hb dL_withPitch_0 rfl (lv_at hl 0 rfl) ?_
  refine lv_iload_n hx hb dL_withPitch_1 rfl (lv_at hl 1 rfl) ?_
  refine lh_call (RR := RR) (G' := G') (rest := []) (As := [.int p0]) F hP hK hS k_X9_withPitch mw_1008 rfl (q_X9_withPitch l hst D Y ad hI G p0 RR G' h) rfl hl.1 ⟨Nat.le_of_ble_eq_true rfl, Nat.le_of_ble_eq_true rfl⟩ rfl (Nat.le_of_ble_eq_true rfl) ⟨Nat.le_of_ble_eq_true rfl, Nat.le_of_ble_eq_true rfl⟩ dL_withPitch_2 (fun x H1 L1 hR hP hS => ?_) (fun k q ce H1 L1 hR hP hS hce hcv hcl => ?_)
  · rcases hRR with ⟨v, e1, e2⟩ | ⟨k1, e1, -⟩
    · cases hR.symm.trans e1
      exact lh_end F hP hS hr hk e2 (Nat.le_of_ble_eq_true rfl) (Nat.le_of_ble_eq_true rfl) dL_withPitch_5
    · cases hR.symm.trans e1
  · rcases hRR with ⟨v, e1, -⟩ | ⟨k1, e1, e2⟩
    · cases hR.symm.trans e1
    · cases hR.symm.trans e1
      by_cases hk0 : k = 1
      · subst hk0
        refine vx_catch (own := RL) (name := exN 1) (E := exN 1) F.1.2.2.2.1 [] ⟨0, 5, 6, 14⟩ [] htab (fun z hz => absurd hz List.not_mem_nil) rfl (by decide) (hts _ mw_239) (va_Nw.use rfl (F.2.2 _ mw_441)) hce hcv hcl ?_
        refine lv_astore_n (lv' := [(2, .ref q), (0, .ref (ad 77)), (1, .int p0)]) hx hb dL_withPitch_6 rfl hl (by decide) rfl (fun ls hl => ?_)
        refine lv_bipush (v := (-12)) hx hb dL_withPitch_7 (by decide) ?_
        exact lh_end F hP hS hr hk (by simpa [List.lookup] using e2) (Nat.le_of_ble_eq_true rfl) (Nat.le_of_ble_eq_true rfl) dL_withPitch_9
      · exfalso
        have z0 : (k == 1) = false := beq_false_of_ne hk0
        simp [List.lookup, z0] at e2
def fw_loudest (G : GT) (p0 : Int32) : Option (Int32 × GT) := catT [(3, (-13))] (f_X9_loudest G p0)
theorem kl_loudest : CKL yL_loudest cL_loudest 3 [(0, 5, 6, 59)] 2 := ⟨mw_1025, mw_0, mw_1026, by decide +kernel⟩
set_option maxRecDepth 100000 in
set_option maxHeartbeats 4000000 in
theorem ql_loudest (l : Launch) (hst : l.stackTraces = false) (D : va_G) (Y : Nat → ClassId) (ad : Nat → Nat) (hI : Inj 90 ad) (G : GT) (p0 : Int32) (r : Int32) (G' : GT) (h : fw_loudest G p0 = some (r, G')) : LH l yL_loudest cL_loudest 3 [(0, 5, 6, 59)] 11 1 D Y ad G [.ref (ad 77), .int p0] r G' := by
  obtain ⟨RR, h, hRR⟩ := catT_some h
  refine LH_of (by decide) (Nat.le_of_ble_eq_true rfl) (lv := [(0, .ref (ad 77)), (1, .int p0)]) rfl ?_
  intro p ev s m below meth c ls F htab hP hK hN hS hr hk hl
  have F : Fx p c cL_loudest 3 s m _ RL D Y := F
  have hx := F.1.1
  have hb := F.1.2.1
  have hts := F.1.2.2.2.2
  refine lv_aload_n hx hb dL_loudest_0 rfl (lv_at hl 0 rfl) ?_
  refine lv_iload_n hx hb dL_loudest_1 rfl (lv_at hl 1 rfl) ?_
  refine lh_call (RR := RR) (G' := G') (rest := []) (As := [.int p0]) F hP hK hS k_X9_loudest mw_1027 rfl (q_X9_loudest l hst D Y ad hI G p0 RR G' h) rfl hl.1 ⟨Nat.le_of_ble_eq_true rfl, Nat.le_of_ble_eq_true rfl⟩ rfl (Nat.le_of_ble_eq_true rfl) ⟨Nat.le_of_ble_eq_true rfl, Nat.le_of_ble_eq_true rfl⟩ dL_loudest_2 (fun x H1 L1 hR hP hS => ?_) (fun k q ce H1 L1 hR hP hS hce hcv hcl => ?_)
  · rcases hRR with ⟨v, e1, e2⟩ | ⟨k1, e1, -⟩
    · cases hR.symm.trans e1
      exact lh_end F hP hS hr hk e2 (Nat.le_of_ble_eq_true rfl) (Nat.le_of_ble_eq_true rfl) dL_loudest_5
    · cases hR.symm.trans e1
  · rcases hRR with ⟨v, e1, -⟩ | ⟨k1, e1, e2⟩
    · cases hR.symm.trans e1
    · cases hR.symm.trans e1
      by_cases hk0 : k = 3
      · subst hk0
        refine vx_catch (own := RL) (name := exN 3) (E := exN 3) F.1.2.2.2.1 [] ⟨0, 5, 6, 59⟩ [] htab (fun z hz => absurd hz List.not_mem_nil) rfl (by decide) (hts _ mw_585) (va_Nw.use rfl (F.2.2 _ mw_599)) hce hcv hcl ?_
        refine lv_astore_n (lv' := [(2, .ref q), (0, .ref (ad 77)), (1, .int p0)]) hx hb dL_loudest_6 rfl hl (by decide) rfl (fun ls hl => ?_)
        refine lv_bipush (v := (-13)) hx hb dL_loudest_7 (by decide) ?_
        exact lh_end F hP hS hr hk (by simpa [List.lookup] using e2) (Nat.le_of_ble_eq_true rfl) (Nat.le_of_ble_eq_true rfl) dL_loudest_9
      · exfalso
        have z0 : (k == 3) = false := beq_false_of_ne hk0
        simp [List.lookup, z0] at e2
def fw_highest (G : GT) (p0 : Int32) : Option (Int32 × GT) := catT [(3, (-13))] (f_X9_highest G p0)
theorem kl_highest : CKL yL_highest cL_highest 3 [(0, 5, 6, 59)] 2 := ⟨mw_1046, mw_0, mw_1047, by decide +kernel⟩
set_option maxRecDepth 100000 in
set_option maxHeartbeats 4000000 in
theorem ql_highest (l : Launch) (hst : l.stackTraces = false) (D : va_G) (Y : Nat → ClassId) (ad : Nat → Nat) (hI : Inj 90 ad) (G : GT) (p0 : Int32) (r : Int32) (G' : GT) (h : fw_highest G p0 = some (r, G')) : LH l yL_highest cL_highest 3 [(0, 5, 6, 59)] 11 1 D Y ad G [.ref (ad 77), .int p0] r G' := by
  obtain ⟨RR, h, hRR⟩ := catT_some h
  refine LH_of (by decide) (Nat.le_of_ble_eq_true rfl) (lv := [(0, .ref (ad 77)), (1, .int p0)]) rfl ?_
  intro p ev s m below meth c ls F htab hP hK hN hS hr hk hl
  have F : Fx p c cL_highest 3 s m _ RL D Y := F
  have hx := F.1.1
  have hb := F.1.2.1
  have hts := F.1.2.2.2.2
  refine lv_aload_n hx hb dL_highest_0 rfl (lv_at hl 0 rfl) ?_
  refine lv_iload_n hx hb dL_highest_1 rfl (lv_at hl 1 rfl) ?_
  refine lh_call (RR := RR) (G' := G') (rest := []) (As := [.int p0]) F hP hK hS k_X9_highest mw_1048 rfl (q_X9_highest l hst D Y ad hI G p0 RR G' h) rfl hl.1 ⟨Nat.le_of_ble_eq_true rfl, Nat.le_of_ble_eq_true rfl⟩ rfl (Nat.le_of_ble_eq_true rfl) ⟨Nat.le_of_ble_eq_true rfl, Nat.le_of_ble_eq_true rfl⟩ dL_highest_2 (fun x H1 L1 hR hP hS => ?_) (fun k q ce H1 L1 hR hP hS hce hcv hcl => ?_)
  · rcases hRR with ⟨v, e1, e2⟩ | ⟨k1, e1, -⟩
    · cases hR.symm.trans e1
      exact lh_end F hP hS hr hk e2 (Nat.le_of_ble_eq_true rfl) (Nat.le_of_ble_eq_true rfl) dL_highest_5
    · cases hR.symm.trans e1
  · rcases hRR with ⟨v, e1, -⟩ | ⟨k1, e1, e2⟩
    · cases hR.symm.trans e1
    · cases hR.symm.trans e1
      by_cases hk0 : k = 3
      · subst hk0
        refine vx_catch (own := RL) (name := exN 3) (E := exN 3) F.1.2.2.2.1 [] ⟨0, 5, 6, 59⟩ [] htab (fun z hz => absurd hz List.not_mem_nil) rfl (by decide) (hts _ mw_585) (va_Nw.use rfl (F.2.2 _ mw_599)) hce hcv hcl ?_
        refine lv_astore_n (lv' := [(2, .ref q), (0, .ref (ad 77)), (1, .int p0)]) hx hb dL_highest_6 rfl hl (by decide) rfl (fun ls hl => ?_)
        refine lv_bipush (v := (-13)) hx hb dL_highest_7 (by decide) ?_
        exact lh_end F hP hS hr hk (by simpa [List.lookup] using e2) (Nat.le_of_ble_eq_true rfl) (Nat.le_of_ble_eq_true rfl) dL_highest_9
      · exfalso
        have z0 : (k == 3) = false := beq_false_of_ne hk0
        simp [List.lookup, z0] at e2
def fw_line (G : GT) (p0 : Int32) : Option (Int32 × GT) := catT [(0, (-11))] (f_X9_line G p0)
theorem kl_line : CKL yL_line cL_line 3 [(0, 5, 6, 22)] 2 := ⟨mw_1332, mw_0, mw_1333, by decide +kernel⟩
set_option maxRecDepth 100000 in
set_option maxHeartbeats 4000000 in
theorem ql_line (l : Launch) (hst : l.stackTraces = false) (D : va_G) (Y : Nat → ClassId) (ad : Nat → Nat) (hI : Inj 90 ad) (G : GT) (p0 : Int32) (r : Int32) (G' : GT) (h : fw_line G p0 = some (r, G')) : LH l yL_line cL_line 3 [(0, 5, 6, 22)] 10 1 D Y ad G [.ref (ad 77), .int p0] r G' := by
  obtain ⟨RR, h, hRR⟩ := catT_some h
  refine LH_of (by decide) (Nat.le_of_ble_eq_true rfl) (lv := [(0, .ref (ad 77)), (1, .int p0)]) rfl ?_
  intro p ev s m below meth c ls F htab hP hK hN hS hr hk hl
  have F : Fx p c cL_line 3 s m _ RL D Y := F
  have hx := F.1.1
  have hb := F.1.2.1
  have hts := F.1.2.2.2.2
  refine lv_aload_n hx hb dL_line_0 rfl (lv_at hl 0 rfl) ?_
  refine lv_iload_n hx hb dL_line_1 rfl (lv_at hl 1 rfl) ?_
  refine lh_call (RR := RR) (G' := G') (rest := []) (As := [.int p0]) F hP hK hS k_X9_line mw_1334 rfl (q_X9_line l hst D Y ad hI G p0 RR G' h) rfl hl.1 ⟨Nat.le_of_ble_eq_true rfl, Nat.le_of_ble_eq_true rfl⟩ rfl (Nat.le_of_ble_eq_true rfl) ⟨Nat.le_of_ble_eq_true rfl, Nat.le_of_ble_eq_true rfl⟩ dL_line_2 (fun x H1 L1 hR hP hS => ?_) (fun k q ce H1 L1 hR hP hS hce hcv hcl => ?_)
  · rcases hRR with ⟨v, e1, e2⟩ | ⟨k1, e1, -⟩
    · cases hR.symm.trans e1
      exact lh_end F hP hS hr hk e2 (Nat.le_of_ble_eq_true rfl) (Nat.le_of_ble_eq_true rfl) dL_line_5
    · cases hR.symm.trans e1
  · rcases hRR with ⟨v, e1, -⟩ | ⟨k1, e1, e2⟩
    · cases hR.symm.trans e1
    · cases hR.symm.trans e1
      by_cases hk0 : k = 0
      · subst hk0
        refine vx_catch (own := RL) (name := exN 0) (E := exN 0) F.1.2.2.2.1 [] ⟨0, 5, 6, 22⟩ [] htab (fun z hz => absurd hz List.not_mem_nil) rfl (by decide) (hts _ mw_532) (va_Nw.use rfl (F.2.2 _ mw_366)) hce hcv hcl ?_
        refine lv_astore_n (lv' := [(2, .ref q), (0, .ref (ad 77)), (1, .int p0)]) hx hb dL_line_6 rfl hl (by decide) rfl (fun ls hl => ?_)
        refine lv_bipush (v := (-11)) hx hb dL_line_7 (by decide) ?_
        exact lh_end F hP hS hr hk (by simpa [List.lookup] using e2) (Nat.le_of_ble_eq_true rfl) (Nat.le_of_ble_eq_true rfl) dL_line_9
      · exfalso
        have z0 : (k == 0) = false := beq_false_of_ne hk0
        simp [List.lookup, z0] at e2
def fw_tinLine (G : GT) (p0 : Int32) : Option (Int32 × GT) := catT [(0, (-11))] (f_X9_tinLine G p0)
theorem kl_tinLine : CKL yL_tinLine cL_tinLine 3 [(0, 5, 6, 22)] 2 := ⟨mw_1398, mw_0, mw_1399, by decide +kernel⟩
set_option maxRecDepth 100000 in
set_option maxHeartbeats 4000000 in
theorem ql_tinLine (l : Launch) (hst : l.stackTraces = false) (D : va_G) (Y : Nat → ClassId) (ad : Nat → Nat) (hI : Inj 90 ad) (G : GT) (p0 : Int32) (r : Int32) (G' : GT) (h : fw_tinLine G p0 = some (r, G')) : LH l yL_tinLine cL_tinLine 3 [(0, 5, 6, 22)] 10 1 D Y ad G [.ref (ad 77), .int p0] r G' := by
  obtain ⟨RR, h, hRR⟩ := catT_some h
  refine LH_of (by decide) (Nat.le_of_ble_eq_true rfl) (lv := [(0, .ref (ad 77)), (1, .int p0)]) rfl ?_
  intro p ev s m below meth c ls F htab hP hK hN hS hr hk hl
  have F : Fx p c cL_tinLine 3 s m _ RL D Y := F
  have hx := F.1.1
  have hb := F.1.2.1
  have hts := F.1.2.2.2.2
  refine lv_aload_n hx hb dL_tinLine_0 rfl (lv_at hl 0 rfl) ?_
  refine lv_iload_n hx hb dL_tinLine_1 rfl (lv_at hl 1 rfl) ?_
  refine lh_call (RR := RR) (G' := G') (rest := []) (As := [.int p0]) F hP hK hS k_X9_tinLine mw_1400 rfl (q_X9_tinLine l hst D Y ad hI G p0 RR G' h) rfl hl.1 ⟨Nat.le_of_ble_eq_true rfl, Nat.le_of_ble_eq_true rfl⟩ rfl (Nat.le_of_ble_eq_true rfl) ⟨Nat.le_of_ble_eq_true rfl, Nat.le_of_ble_eq_true rfl⟩ dL_tinLine_2 (fun x H1 L1 hR hP hS => ?_) (fun k q ce H1 L1 hR hP hS hce hcv hcl => ?_)
  · rcases hRR with ⟨v, e1, e2⟩ | ⟨k1, e1, -⟩
    · cases hR.symm.trans e1
      exact lh_end F hP hS hr hk e2 (Nat.le_of_ble_eq_true rfl) (Nat.le_of_ble_eq_true rfl) dL_tinLine_5
    · cases hR.symm.trans e1
  · rcases hRR with ⟨v, e1, -⟩ | ⟨k1, e1, e2⟩
    · cases hR.symm.trans e1
    · cases hR.symm.trans e1
      by_cases hk0 : k = 0
      · subst hk0
        refine vx_catch (own := RL) (name := exN 0) (E := exN 0) F.1.2.2.2.1 [] ⟨0, 5, 6, 22⟩ [] htab (fun z hz => absurd hz List.not_mem_nil) rfl (by decide) (hts _ mw_532) (va_Nw.use rfl (F.2.2 _ mw_366)) hce hcv hcl ?_
        refine lv_astore_n (lv' := [(2, .ref q), (0, .ref (ad 77)), (1, .int p0)]) hx hb dL_tinLine_6 rfl hl (by decide) rfl (fun ls hl => ?_)
        refine lv_bipush (v := (-11)) hx hb dL_tinLine_7 (by decide) ?_
        exact lh_end F hP hS hr hk (by simpa [List.lookup] using e2) (Nat.le_of_ble_eq_true rfl) (Nat.le_of_ble_eq_true rfl) dL_tinLine_9
      · exfalso
        have z0 : (k == 0) = false := beq_false_of_ne hk0
        simp [List.lookup, z0] at e2
def fw_character (G : GT) (p0 : Int32) : Option (Int32 × GT) := catT [(0, (-11))] (f_X9_character G p0)
theorem kl_character : CKL yL_character cL_character 3 [(0, 5, 6, 22)] 2 := ⟨mw_1367, mw_0, mw_1368, by decide +kernel⟩
set_option maxRecDepth 100000 in
set_option maxHeartbeats 4000000 in
theorem ql_character (l : Launch) (hst : l.stackTraces = false) (D : va_G) (Y : Nat → ClassId) (ad : Nat → Nat) (hI : Inj 90 ad) (G : GT) (p0 : Int32) (r : Int32) (G' : GT) (h : fw_character G p0 = some (r, G')) : LH l yL_character cL_character 3 [(0, 5, 6, 22)] 10 1 D Y ad G [.ref (ad 77), .int p0] r G' := by
  obtain ⟨RR, h, hRR⟩ := catT_some h
  refine LH_of (by decide) (Nat.le_of_ble_eq_true rfl) (lv := [(0, .ref (ad 77)), (1, .int p0)]) rfl ?_
  intro p ev s m below meth c ls F htab hP hK hN hS hr hk hl
  have F : Fx p c cL_character 3 s m _ RL D Y := F
  have hx := F.1.1
  have hb := F.1.2.1
  have hts := F.1.2.2.2.2
  refine lv_aload_n hx hb dL_character_0 rfl (lv_at hl 0 rfl) ?_
  refine lv_iload_n hx hb dL_character_1 rfl (lv_at hl 1 rfl) ?_
  refine lh_call (RR := RR) (G' := G') (rest := []) (As := [.int p0]) F hP hK hS k_X9_character mw_1369 rfl (q_X9_character l hst D Y ad hI G p0 RR G' h) rfl hl.1 ⟨Nat.le_of_ble_eq_true rfl, Nat.le_of_ble_eq_true rfl⟩ rfl (Nat.le_of_ble_eq_true rfl) ⟨Nat.le_of_ble_eq_true rfl, Nat.le_of_ble_eq_true rfl⟩ dL_character_2 (fun x H1 L1 hR hP hS => ?_) (fun k q ce H1 L1 hR hP hS hce hcv hcl => ?_)
  · rcases hRR with ⟨v, e1, e2⟩ | ⟨k1, e1, -⟩
    · cases hR.symm.trans e1
      exact lh_end F hP hS hr hk e2 (Nat.le_of_ble_eq_true rfl) (Nat.le_of_ble_eq_true rfl) dL_character_5
    · cases hR.symm.trans e1
  · rcases hRR with ⟨v, e1, -⟩ | ⟨k1, e1, e2⟩
    · cases hR.symm.trans e1
    · cases hR.symm.trans e1
      by_cases hk0 : k = 0
      · subst hk0
        refine vx_catch (own := RL) (name := exN 0) (E := exN 0) F.1.2.2.2.1 [] ⟨0, 5, 6, 22⟩ [] htab (fun z hz => absurd hz List.not_mem_nil) rfl (by decide) (hts _ mw_532) (va_Nw.use rfl (F.2.2 _ mw_366)) hce hcv hcl ?_
        refine lv_astore_n (lv' := [(2, .ref q), (0, .ref (ad 77)), (1, .int p0)]) hx hb dL_character_6 rfl hl (by decide) rfl (fun ls hl => ?_)
        refine lv_bipush (v := (-11)) hx hb dL_character_7 (by decide) ?_
        exact lh_end F hP hS hr hk (by simpa [List.lookup] using e2) (Nat.le_of_ble_eq_true rfl) (Nat.le_of_ble_eq_true rfl) dL_character_9
      · exfalso
        have z0 : (k == 0) = false := beq_false_of_ne hk0
        simp [List.lookup, z0] at e2
def fw_append (G : GT) (p0 : Int32) : Option (Int32 × GT) := catT [(4, (-14))] (f_X9_append G p0)
theorem kl_append : CKL yL_append cL_append 3 [(0, 5, 6, 97)] 2 := ⟨mw_1447, mw_0, mw_1448, by decide +kernel⟩
set_option maxRecDepth 100000 in
set_option maxHeartbeats 4000000 in
theorem ql_append (l : Launch) (hst : l.stackTraces = false) (D : va_G) (Y : Nat → ClassId) (ad : Nat → Nat) (hI : Inj 90 ad) (G : GT) (p0 : Int32) (r : Int32) (G' : GT) (h : fw_append G p0 = some (r, G')) : LH l yL_append cL_append 3 [(0, 5, 6, 97)] 10 1 D Y ad G [.ref (ad 77), .int p0] r G' := by
  obtain ⟨RR, h, hRR⟩ := catT_some h
  refine LH_of (by decide) (Nat.le_of_ble_eq_true rfl) (lv := [(0, .ref (ad 77)), (1, .int p0)]) rfl ?_
  intro p ev s m below meth c ls F htab hP hK hN hS hr hk hl
  have F : Fx p c cL_append 3 s m _ RL D Y := F
  have hx := F.1.1
  have hb := F.1.2.1
  have hts := F.1.2.2.2.2
  refine lv_aload_n hx hb dL_append_0 rfl (lv_at hl 0 rfl) ?_
  refine lv_iload_n hx hb dL_append_1 rfl (lv_at hl 1 rfl) ?_
  refine lh_call (RR := RR) (G' := G') (rest := []) (As := [.int p0]) F hP hK hS k_X9_append mw_1450 rfl (q_X9_append l hst D Y ad hI G p0 RR G' h) rfl hl.1 ⟨Nat.le_of_ble_eq_true rfl, Nat.le_of_ble_eq_true rfl⟩ rfl (Nat.le_of_ble_eq_true rfl) ⟨Nat.le_of_ble_eq_true rfl, Nat.le_of_ble_eq_true rfl⟩ dL_append_2 (fun x H1 L1 hR hP hS => ?_) (fun k q ce H1 L1 hR hP hS hce hcv hcl => ?_)
  · rcases hRR with ⟨v, e1, e2⟩ | ⟨k1, e1, -⟩
    · cases hR.symm.trans e1
      exact lh_end F hP hS hr hk e2 (Nat.le_of_ble_eq_true rfl) (Nat.le_of_ble_eq_true rfl) dL_append_5
    · cases hR.symm.trans e1
  · rcases hRR with ⟨v, e1, -⟩ | ⟨k1, e1, e2⟩
    · cases hR.symm.trans e1
    · cases hR.symm.trans e1
      by_cases hk0 : k = 4
      · subst hk0
        refine vx_catch (own := RL) (name := exN 4) (E := exN 4) F.1.2.2.2.1 [] ⟨0, 5, 6, 97⟩ [] htab (fun z hz => absurd hz List.not_mem_nil) rfl (by decide) (hts _ mw_1449) (va_Nw.use rfl (F.2.2 _ mw_1463)) hce hcv hcl ?_
        refine lv_astore_n (lv' := [(2, .ref q), (0, .ref (ad 77)), (1, .int p0)]) hx hb dL_append_6 rfl hl (by decide) rfl (fun ls hl => ?_)
        refine lv_bipush (v := (-14)) hx hb dL_append_7 (by decide) ?_
        exact lh_end F hP hS hr hk (by simpa [List.lookup] using e2) (Nat.le_of_ble_eq_true rfl) (Nat.le_of_ble_eq_true rfl) dL_append_9
      · exfalso
        have z0 : (k == 4) = false := beq_false_of_ne hk0
        simp [List.lookup, z0] at e2
def fw_runs (G : GT) : Option (Int32 × GT) := catT [(1, (-1)), (2, (-2))] (f_X9_run G )
theorem kl_runs : CKL yL_runs cL_runs 2 [(0, 4, 5, 14), (0, 4, 8, 16)] 1 := ⟨mw_1483, mw_0, mw_1484, by decide +kernel⟩
set_option maxRecDepth 100000 in
set_option maxHeartbeats 4000000 in
theorem ql_runs (l : Launch) (hst : l.stackTraces = false) (D : va_G) (Y : Nat → ClassId) (ad : Nat → Nat) (hI : Inj 90 ad) (G : GT) (r : Int32) (G' : GT) (h : fw_runs G  = some (r, G')) : LH l yL_runs cL_runs 2 [(0, 4, 5, 14), (0, 4, 8, 16)] 10 3 D Y ad G [.ref (ad 77)] r G' := by
  obtain ⟨RR, h, hRR⟩ := catT_some h
  refine LH_of (by decide) (Nat.le_of_ble_eq_true rfl) (lv := [(0, .ref (ad 77))]) rfl ?_
  intro p ev s m below meth c ls F htab hP hK hN hS hr hk hl
  have F : Fx p c cL_runs 2 s m _ RL D Y := F
  have hx := F.1.1
  have hb := F.1.2.1
  have hts := F.1.2.2.2.2
  refine lv_aload_n hx hb dL_runs_0 rfl (lv_at hl 0 rfl) ?_
  refine lh_call (RR := RR) (G' := G') (rest := []) (As := []) F hP hK hS k_X9_run mw_1485 rfl (q_X9_run l hst D Y ad hI G  RR G' h) rfl hl.1 ⟨Nat.le_of_ble_eq_true rfl, Nat.le_of_ble_eq_true rfl⟩ rfl (Nat.le_of_ble_eq_true rfl) ⟨Nat.le_of_ble_eq_true rfl, Nat.le_of_ble_eq_true rfl⟩ dL_runs_1 (fun x H1 L1 hR hP hS => ?_) (fun k q ce H1 L1 hR hP hS hce hcv hcl => ?_)
  · rcases hRR with ⟨v, e1, e2⟩ | ⟨k1, e1, -⟩
    · cases hR.symm.trans e1
      exact lh_end F hP hS hr hk e2 (Nat.le_of_ble_eq_true rfl) (Nat.le_of_ble_eq_true rfl) dL_runs_4
    · cases hR.symm.trans e1
  · rcases hRR with ⟨v, e1, -⟩ | ⟨k1, e1, e2⟩
    · cases hR.symm.trans e1
    · cases hR.symm.trans e1
      by_cases hk0 : k = 1
      · subst hk0
        refine vx_catch (own := RL) (name := exN 1) (E := exN 1) F.1.2.2.2.1 [] ⟨0, 4, 5, 14⟩ [⟨0, 4, 8, 16⟩] htab (fun z hz => absurd hz List.not_mem_nil) rfl (by decide) (hts _ mw_239) (va_Nw.use rfl (F.2.2 _ mw_441)) hce hcv hcl ?_
        refine lv_astore_n (lv' := [(1, .ref q), (0, .ref (ad 77))]) hx hb dL_runs_5 rfl hl (by decide) rfl (fun ls hl => ?_)
        refine lv_iconst (v := (-1)) hx hb dL_runs_6 (by decide) ?_
        exact lh_end F hP hS hr hk (by simpa [List.lookup] using e2) (Nat.le_of_ble_eq_true rfl) (Nat.le_of_ble_eq_true rfl) dL_runs_7
      by_cases hk1 : k = 2
      · subst hk1
        refine vx_catch (own := RL) (name := exN 2) (E := exN 2) F.1.2.2.2.1 [⟨0, 4, 5, 14⟩] ⟨0, 4, 8, 16⟩ [] htab (List.forall_mem_cons.mpr ⟨Or.inr ⟨by decide, exN 1, hts _ mw_239, hN 2 1 (by decide) (by decide) (by decide)⟩, (fun z hz => absurd hz List.not_mem_nil)⟩) rfl (by decide) (hts _ mw_240) (va_Nw.use rfl (F.2.2 _ mw_460)) hce hcv hcl ?_
        refine lv_astore_n (lv' := [(1, .ref q), (0, .ref (ad 77))]) hx hb dL_runs_8 rfl hl (by decide) rfl (fun ls hl => ?_)
        refine lv_bipush (v := (-2)) hx hb dL_runs_9 (by decide) ?_
        exact lh_end F hP hS hr hk (by simpa [List.lookup] using e2) (Nat.le_of_ble_eq_true rfl) (Nat.le_of_ble_eq_true rfl) dL_runs_11
      · exfalso
        have z0 : (k == 1) = false := beq_false_of_ne hk0
        have z1 : (k == 2) = false := beq_false_of_ne hk1
        simp [List.lookup, z0, z1] at e2
def fw_refusal (G : GT) (p0 : Int32) : Option (Int32 × GT) := catT [(3, (-101))] (f_X9_refusal G p0)
theorem kl_refusal : CKL yL_refusal cL_refusal 3 [(0, 5, 6, 59)] 2 := ⟨mw_583, mw_0, mw_584, by decide +kernel⟩
set_option maxRecDepth 100000 in
set_option maxHeartbeats 4000000 in
theorem ql_refusal (l : Launch) (hst : l.stackTraces = false) (D : va_G) (Y : Nat → ClassId) (ad : Nat → Nat) (hI : Inj 90 ad) (G : GT) (p0 : Int32) (r : Int32) (G' : GT) (h : fw_refusal G p0 = some (r, G')) : LH l yL_refusal cL_refusal 3 [(0, 5, 6, 59)] 10 1 D Y ad G [.ref (ad 77), .int p0] r G' := by
  obtain ⟨RR, h, hRR⟩ := catT_some h
  refine LH_of (by decide) (Nat.le_of_ble_eq_true rfl) (lv := [(0, .ref (ad 77)), (1, .int p0)]) rfl ?_
  intro p ev s m below meth c ls F htab hP hK hN hS hr hk hl
  have F : Fx p c cL_refusal 3 s m _ RL D Y := F
  have hx := F.1.1
  have hb := F.1.2.1
  have hts := F.1.2.2.2.2
  refine lv_aload_n hx hb dL_refusal_0 rfl (lv_at hl 0 rfl) ?_
  refine lv_iload_n hx hb dL_refusal_1 rfl (lv_at hl 1 rfl) ?_
  refine lh_call (RR := RR) (G' := G') (rest := []) (As := [.int p0]) F hP hK hS k_X9_refusal mw_586 rfl (q_X9_refusal l hst D Y ad hI G p0 RR G' h) rfl hl.1 ⟨Nat.le_of_ble_eq_true rfl, Nat.le_of_ble_eq_true rfl⟩ rfl (Nat.le_of_ble_eq_true rfl) ⟨Nat.le_of_ble_eq_true rfl, Nat.le_of_ble_eq_true rfl⟩ dL_refusal_2 (fun x H1 L1 hR hP hS => ?_) (fun k q ce H1 L1 hR hP hS hce hcv hcl => ?_)
  · rcases hRR with ⟨v, e1, e2⟩ | ⟨k1, e1, -⟩
    · cases hR.symm.trans e1
      exact lh_end F hP hS hr hk e2 (Nat.le_of_ble_eq_true rfl) (Nat.le_of_ble_eq_true rfl) dL_refusal_5
    · cases hR.symm.trans e1
  · rcases hRR with ⟨v, e1, -⟩ | ⟨k1, e1, e2⟩
    · cases hR.symm.trans e1
    · cases hR.symm.trans e1
      by_cases hk0 : k = 3
      · subst hk0
        refine vx_catch (own := RL) (name := exN 3) (E := exN 3) F.1.2.2.2.1 [] ⟨0, 5, 6, 59⟩ [] htab (fun z hz => absurd hz List.not_mem_nil) rfl (by decide) (hts _ mw_585) (va_Nw.use rfl (F.2.2 _ mw_599)) hce hcv hcl ?_
        refine lv_astore_n (lv' := [(2, .ref q), (0, .ref (ad 77)), (1, .int p0)]) hx hb dL_refusal_6 rfl hl (by decide) rfl (fun ls hl => ?_)
        refine lv_bipush (v := (-101)) hx hb dL_refusal_7 (by decide) ?_
        exact lh_end F hP hS hr hk (by simpa [List.lookup] using e2) (Nat.le_of_ble_eq_true rfl) (Nat.le_of_ble_eq_true rfl) dL_refusal_9
      · exfalso
        have z0 : (k == 3) = false := beq_false_of_ne hk0
        simp [List.lookup, z0] at e2
def fw_undo (G : GT) : Option (Int32 × GT) := catT [(4, (-1))] (f_X9_undo G )
theorem kl_undo : CKL yL_undo cL_undo 2 [(0, 4, 5, 97)] 1 := ⟨mw_1551, mw_0, mw_1552, by decide +kernel⟩
set_option maxRecDepth 100000 in
set_option maxHeartbeats 4000000 in
theorem ql_undo (l : Launch) (hst : l.stackTraces = false) (D : va_G) (Y : Nat → ClassId) (ad : Nat → Nat) (hI : Inj 90 ad) (G : GT) (r : Int32) (G' : GT) (h : fw_undo G  = some (r, G')) : LH l yL_undo cL_undo 2 [(0, 4, 5, 97)] 10 1 D Y ad G [.ref (ad 77)] r G' := by
  obtain ⟨RR, h, hRR⟩ := catT_some h
  refine LH_of (by decide) (Nat.le_of_ble_eq_true rfl) (lv := [(0, .ref (ad 77))]) rfl ?_
  intro p ev s m below meth c ls F htab hP hK hN hS hr hk hl
  have F : Fx p c cL_undo 2 s m _ RL D Y := F
  have hx := F.1.1
  have hb := F.1.2.1
  have hts := F.1.2.2.2.2
  refine lv_aload_n hx hb dL_undo_0 rfl (lv_at hl 0 rfl) ?_
  refine lh_call (RR := RR) (G' := G') (rest := []) (As := []) F hP hK hS k_X9_undo mw_1553 rfl (q_X9_undo l hst D Y ad hI G  RR G' h) rfl hl.1 ⟨Nat.le_of_ble_eq_true rfl, Nat.le_of_ble_eq_true rfl⟩ rfl (Nat.le_of_ble_eq_true rfl) ⟨Nat.le_of_ble_eq_true rfl, Nat.le_of_ble_eq_true rfl⟩ dL_undo_1 (fun x H1 L1 hR hP hS => ?_) (fun k q ce H1 L1 hR hP hS hce hcv hcl => ?_)
  · rcases hRR with ⟨v, e1, e2⟩ | ⟨k1, e1, -⟩
    · cases hR.symm.trans e1
      exact lh_end F hP hS hr hk e2 (Nat.le_of_ble_eq_true rfl) (Nat.le_of_ble_eq_true rfl) dL_undo_4
    · cases hR.symm.trans e1
  · rcases hRR with ⟨v, e1, -⟩ | ⟨k1, e1, e2⟩
    · cases hR.symm.trans e1
    · cases hR.symm.trans e1
      by_cases hk0 : k = 4
      · subst hk0
        refine vx_catch (own := RL) (name := exN 4) (E := exN 4) F.1.2.2.2.1 [] ⟨0, 4, 5, 97⟩ [] htab (fun z hz => absurd hz List.not_mem_nil) rfl (by decide) (hts _ mw_1449) (va_Nw.use rfl (F.2.2 _ mw_1463)) hce hcv hcl ?_
        refine lv_astore_n (lv' := [(1, .ref q), (0, .ref (ad 77))]) hx hb dL_undo_5 rfl hl (by decide) rfl (fun ls hl => ?_)
        refine lv_iconst (v := (-1)) hx hb dL_undo_6 (by decide) ?_
        exact lh_end F hP hS hr hk (by simpa [List.lookup] using e2) (Nat.le_of_ble_eq_true rfl) (Nat.le_of_ble_eq_true rfl) dL_undo_7
      · exfalso
        have z0 : (k == 4) = false := beq_false_of_ne hk0
        simp [List.lookup, z0] at e2
