def StA (Rel : GT → GT → Prop) : Prop := St_bar Rel ∧ St_key Rel ∧ St_leak Rel ∧ St_drop Rel ∧ St_rest Rel ∧ St_lift Rel ∧ St_limit Rel ∧ St_tune Rel ∧ St_tinOf Rel ∧ St_soundOf Rel ∧ St_barOf Rel ∧ St_partOf Rel ∧ St_at Rel ∧ St_faults Rel ∧ St_firstFault Rel ∧ St_isClean Rel ∧ St_wouldFault Rel ∧ St_bestHeight Rel ∧ St_walk Rel ∧ St_goes Rel ∧ St_span Rel ∧ St_withPitch Rel ∧ St_loudest Rel ∧ St_highest Rel ∧ St_line Rel ∧ St_tinLine Rel ∧ St_character Rel ∧ St_append Rel ∧ St_run Rel ∧ St_errorPosition Rel ∧ St_refusal Rel ∧ St_account Rel ∧ St_isWell Rel ∧ St_meanPitch Rel ∧ St_filledShare Rel ∧ St_undo Rel ∧ St_save Rel ∧ St_restore Rel
theorem and63 (v : Int32) : ∃ n, n < 64 ∧ v &&& 63 = nI n := by
  refine ⟨(v &&& 63).toBitVec.toNat, ?_, ?_⟩
  · show (v.toBitVec &&& 63#32).toNat < 64
    rw [BitVec.toNat_and]
    exact Nat.lt_of_le_of_lt Nat.and_le_right (by decide)
  · apply Int32.toBitVec_inj.mp
    show (v &&& 63).toBitVec = (Int32.ofNat _).toBitVec
    simp
set_option maxRecDepth 100000 in
set_option maxHeartbeats 4000000 in
theorem law_sw {p : Program} {l : Launch} {ev : Env} {R : Room} {s : State} {m : MethodId} {args : Array Value} {below : List Frame} {meth : Method} {c : Code} {H : Heap} {locs : List Loc} {cells slots : Nat} {Q : State → Prop} {ls : Array Slot} {D : va_G} {Y : Nat → ClassId} {ad am : Nat → Nat} {G K : GT} {o od n0 b L : Nat} {xs : Nat → Int32} {Rel : GT → GT → Prop} {i : Int32} (hst : l.stackTraces = false) (F : Fx p c cL_law 9 s m args RL D Y) (E : LEn s ad am o od n0 b L xs) (hW : LWd D Y ad am o od G K H) (hS : va_S (LA n0) s.heap H locs) (hl : lv_has ls 9 [(0, .ref b), (1, .ref (ad 77)), (2, .ref (am 0)), (3, .ref o), (4, .ref od), (5, .int i)]) (hR : R.frames = 2048 ∧ R.locals = 94400 ∧ cells + 16 ≤ R.cells ∧ slots + 96 ≤ R.slots) (hst1 : StA Rel) (hr : Rel G K) (h1 : vp_in (i + 1) L) (h2 : vp_in (i + 2) L) (h3 : vp_in (i + 3) L) (n : Nat) (hn : n < 64)
    (kk : ∀ (H1 : Heap) (L1 : List Loc) (ls1 : Array Slot) (G' K' : GT), Rel G' K' → LWd D Y ad am o od G' K' H1 → va_S (LA n0) s.heap H1 L1 → lv_has ls1 9 [(0, .ref b), (1, .ref (ad 77)), (2, .ref (am 0)), (3, .ref o), (4, .ref od), (5, .int i)] → W p l ev R s m args below meth c H1 L1 (cells + 16) (slots + 96) Q (F0 m 2244 ls1 [])) : W p l ev R s m args below meth c H locs cells slots Q (F0 m 44 ls [.int (nI n)]) := by
  have hx := F.1.1
  have hb := F.1.2.1
  by_cases h38 : 37 < n
  · refine lv_tableOut (tgt := 2244) hx hb dL_law_44 (Or.inr ?_) (by decide) ?_
    · rw [nI_toInt (by omega)]; omega
    · refine W.widen (k := cells + 16) (n := slots + 96) (by omega) (by omega) ?_
      exact kk H locs ls G K hr hW hS hl
  · have hn2 : n < 38 := by omega
    match n, hn2 with
    | 0, _ =>
      refine lv_tableIn (tgt := 212) hx hb dL_law_44 (by decide) (by decide) rfl (by decide) ?_
      exact case_0 hst F E hW hS hl hR hst1.1 hr h1 kk
    | 1, _ =>
      refine lv_tableIn (tgt := 268) hx hb dL_law_44 (by decide) (by decide) rfl (by decide) ?_
      exact case_1 hst F E hW hS hl hR hst1.2.1 hr h1 h2 kk
    | 2, _ =>
      refine lv_tableIn (tgt := 336) hx hb dL_law_44 (by decide) (by decide) rfl (by decide) ?_
      exact case_2 hst F E hW hS hl hR hst1.2.2.1 hr h1 h2 kk
    | 3, _ =>
      refine lv_tableIn (tgt := 404) hx hb dL_law_44 (by decide) (by decide) rfl (by decide) ?_
      exact case_3 hst F E hW hS hl hR hst1.2.2.2.1 hr h1 h2 h3 kk
    | 4, _ =>
      refine lv_tableIn (tgt := 484) hx hb dL_law_44 (by decide) (by decide) rfl (by decide) ?_
      exact case_4 hst F E hW hS hl hR hst1.2.2.2.2.1 hr h1 kk
    | 5, _ =>
      refine lv_tableIn (tgt := 540) hx hb dL_law_44 (by decide) (by decide) rfl (by decide) ?_
      exact case_5 hst F E hW hS hl hR hst1.2.2.2.2.2.1 hr  kk
    | 6, _ =>
      refine lv_tableIn (tgt := 584) hx hb dL_law_44 (by decide) (by decide) rfl (by decide) ?_
      exact case_6 hst F E hW hS hl hR hst1.2.2.2.2.2.2.1 hr h1 kk
    | 7, _ =>
      refine lv_tableIn (tgt := 640) hx hb dL_law_44 (by decide) (by decide) rfl (by decide) ?_
      exact case_7 hst F E hW hS hl hR hst1.2.2.2.2.2.2.2.1 hr h1 h2 kk
    | 8, _ =>
      refine lv_tableIn (tgt := 708) hx hb dL_law_44 (by decide) (by decide) rfl (by decide) ?_
      exact case_8 hst F E hW hS hl hR hst1.2.2.2.2.2.2.2.2.1 hr h1 h2 kk
    | 9, _ =>
      refine lv_tableIn (tgt := 776) hx hb dL_law_44 (by decide) (by decide) rfl (by decide) ?_
      exact case_9 hst F E hW hS hl hR hst1.2.2.2.2.2.2.2.2.2.1 hr h1 h2 kk
    | 10, _ =>
      refine lv_tableIn (tgt := 844) hx hb dL_law_44 (by decide) (by decide) rfl (by decide) ?_
      exact case_10 hst F E hW hS hl hR hst1.2.2.2.2.2.2.2.2.2.2.1 hr h1 h2 kk
    | 11, _ =>
      refine lv_tableIn (tgt := 912) hx hb dL_law_44 (by decide) (by decide) rfl (by decide) ?_
      exact case_11 hst F E hW hS hl hR hst1.2.2.2.2.2.2.2.2.2.2.2.1 hr h1 h2 h3 kk
    | 12, _ =>
      refine lv_tableIn (tgt := 992) hx hb dL_law_44 (by decide) (by decide) rfl (by decide) ?_
      exact case_12 hst F E hW hS hl hR hst1.2.2.2.2.2.2.2.2.2.2.2.2.1 hr h1 kk
    | 13, _ =>
      refine lv_tableIn (tgt := 1048) hx hb dL_law_44 (by decide) (by decide) rfl (by decide) ?_
      exact case_13 hst F E hW hS hl hR hst1.2.2.2.2.2.2.2.2.2.2.2.2.2.1 hr h1 h2 kk
    | 14, _ =>
      refine lv_tableIn (tgt := 1132) hx hb dL_law_44 (by decide) (by decide) rfl (by decide) ?_
      exact case_14 hst F E hW hS hl hR hst1.2.2.2.2.2.2.2.2.2.2.2.2.2.2.1 hr h1 kk
    | 15, _ =>
      refine lv_tableIn (tgt := 1188) hx hb dL_law_44 (by decide) (by decide) rfl (by decide) ?_
      exact case_15 hst F E hW hS hl hR hst1.2.2.2.2.2.2.2.2.2.2.2.2.2.2.2.1 hr  kk
    | 16, _ =>
      refine lv_tableIn (tgt := 1201) hx hb dL_law_44 (by decide) (by decide) rfl (by decide) ?_
      exact case_16 hst F E hW hS hl hR hst1.2.2.2.2.2.2.2.2.2.2.2.2.2.2.2.2.1 hr h1 h2 kk
    | 17, _ =>
      refine lv_tableIn (tgt := 1269) hx hb dL_law_44 (by decide) (by decide) rfl (by decide) ?_
      exact case_17 hst F E hW hS hl hR hst1.2.2.2.2.2.2.2.2.2.2.2.2.2.2.2.2.2.1 hr h1 kk
    | 18, _ =>
      refine lv_tableIn (tgt := 1325) hx hb dL_law_44 (by decide) (by decide) rfl (by decide) ?_
      exact case_18 hst F E hW hS hl hR hst1.2.2.2.2.2.2.2.2.2.2.2.2.2.2.2.2.2.2.1 hr h1 kk
    | 19, _ =>
      refine lv_tableIn (tgt := 1366) hx hb dL_law_44 (by decide) (by decide) rfl (by decide) ?_
      exact case_19 hst F E hW hS hl hR hst1.2.2.2.2.2.2.2.2.2.2.2.2.2.2.2.2.2.2.2.1 hr h1 kk
    | 20, _ =>
      refine lv_tableIn (tgt := 1407) hx hb dL_law_44 (by decide) (by decide) rfl (by decide) ?_
      exact case_20 hst F E hW hS hl hR hst1.2.2.2.2.2.2.2.2.2.2.2.2.2.2.2.2.2.2.2.2.1 hr  kk
    | 21, _ =>
      refine lv_tableIn (tgt := 1420) hx hb dL_law_44 (by decide) (by decide) rfl (by decide) ?_
      exact case_21 hst F E hW hS hl hR hst1.2.2.2.2.2.2.2.2.2.2.2.2.2.2.2.2.2.2.2.2.2.1 hr h1 kk
    | 22, _ =>
      refine lv_tableIn (tgt := 1476) hx hb dL_law_44 (by decide) (by decide) rfl (by decide) ?_
      exact case_22 hst F E hW hS hl hR hst1.2.2.2.2.2.2.2.2.2.2.2.2.2.2.2.2.2.2.2.2.2.2.1 hr h1 kk
    | 23, _ =>
      refine lv_tableIn (tgt := 1532) hx hb dL_law_44 (by decide) (by decide) rfl (by decide) ?_
      exact case_23 hst F E hW hS hl hR hst1.2.2.2.2.2.2.2.2.2.2.2.2.2.2.2.2.2.2.2.2.2.2.2.1 hr h1 kk
    | 24, _ =>
      refine lv_tableIn (tgt := 1588) hx hb dL_law_44 (by decide) (by decide) rfl (by decide) ?_
      exact case_24 hst F E hW hS hl hR hst1.2.2.2.2.2.2.2.2.2.2.2.2.2.2.2.2.2.2.2.2.2.2.2.2.1 hr h1 kk
    | 25, _ =>
      refine lv_tableIn (tgt := 1644) hx hb dL_law_44 (by decide) (by decide) rfl (by decide) ?_
      exact case_25 hst F E hW hS hl hR hst1.2.2.2.2.2.2.2.2.2.2.2.2.2.2.2.2.2.2.2.2.2.2.2.2.2.1 hr h1 kk
    | 26, _ =>
      refine lv_tableIn (tgt := 1700) hx hb dL_law_44 (by decide) (by decide) rfl (by decide) ?_
      exact case_26 hst F E hW hS hl hR hst1.2.2.2.2.2.2.2.2.2.2.2.2.2.2.2.2.2.2.2.2.2.2.2.2.2.2.1 hr h1 kk
    | 27, _ =>
      refine lv_tableIn (tgt := 1756) hx hb dL_law_44 (by decide) (by decide) rfl (by decide) ?_
      exact case_27 hst F E hW hS hl hR hst1.2.2.2.2.2.2.2.2.2.2.2.2.2.2.2.2.2.2.2.2.2.2.2.2.2.2.2.1 hr h1 kk
    | 28, _ =>
      refine lv_tableIn (tgt := 1814) hx hb dL_law_44 (by decide) (by decide) rfl (by decide) ?_
      exact case_28 hst F E hW hS hl hR hst1.2.2.2.2.2.2.2.2.2.2.2.2.2.2.2.2.2.2.2.2.2.2.2.2.2.2.2.2.1 hr  kk
    | 29, _ =>
      refine lv_tableIn (tgt := 1858) hx hb dL_law_44 (by decide) (by decide) rfl (by decide) ?_
      exact case_29 hst F E hW hS hl hR hst1.2.2.2.2.2.2.2.2.2.2.2.2.2.2.2.2.2.2.2.2.2.2.2.2.2.2.2.2.2.1 hr  kk
    | 30, _ =>
      refine lv_tableIn (tgt := 1871) hx hb dL_law_44 (by decide) (by decide) rfl (by decide) ?_
      exact case_30 hst F E hW hS hl hR hst1.2.2.2.2.2.2.2.2.2.2.2.2.2.2.2.2.2.2.2.2.2.2.2.2.2.2.2.2.2.2.1 hr h1 kk
    | 31, _ =>
      refine lv_tableIn (tgt := 1943) hx hb dL_law_44 (by decide) (by decide) rfl (by decide) ?_
      exact case_31 hst F E hW hS hl hR hst1.2.2.2.2.2.2.2.2.2.2.2.2.2.2.2.2.2.2.2.2.2.2.2.2.2.2.2.2.2.2.2.1 hr h1 kk
    | 32, _ =>
      refine lv_tableIn (tgt := 1999) hx hb dL_law_44 (by decide) (by decide) rfl (by decide) ?_
      exact case_32 hst F E hW hS hl hR hst1.2.2.2.2.2.2.2.2.2.2.2.2.2.2.2.2.2.2.2.2.2.2.2.2.2.2.2.2.2.2.2.2.1 hr  kk
    | 33, _ =>
      refine lv_tableIn (tgt := 2012) hx hb dL_law_44 (by decide) (by decide) rfl (by decide) ?_
      exact case_33 hst F E hW hS hl hR hst1.2.2.2.2.2.2.2.2.2.2.2.2.2.2.2.2.2.2.2.2.2.2.2.2.2.2.2.2.2.2.2.2.2.1 hr  kk
    | 34, _ =>
      refine lv_tableIn (tgt := 2077) hx hb dL_law_44 (by decide) (by decide) rfl (by decide) ?_
      exact case_34 hst F E hW hS hl hR hst1.2.2.2.2.2.2.2.2.2.2.2.2.2.2.2.2.2.2.2.2.2.2.2.2.2.2.2.2.2.2.2.2.2.2.1 hr  kk
    | 35, _ =>
      refine lv_tableIn (tgt := 2143) hx hb dL_law_44 (by decide) (by decide) rfl (by decide) ?_
      exact case_35 hst F E hW hS hl hR hst1.2.2.2.2.2.2.2.2.2.2.2.2.2.2.2.2.2.2.2.2.2.2.2.2.2.2.2.2.2.2.2.2.2.2.2.1 hr  kk
    | 36, _ =>
      refine lv_tableIn (tgt := 2187) hx hb dL_law_44 (by decide) (by decide) rfl (by decide) ?_
      exact case_36 hst F E hW hS hl hR hst1.2.2.2.2.2.2.2.2.2.2.2.2.2.2.2.2.2.2.2.2.2.2.2.2.2.2.2.2.2.2.2.2.2.2.2.2.1 hr  kk
    | 37, _ =>
      refine lv_tableIn (tgt := 2200) hx hb dL_law_44 (by decide) (by decide) rfl (by decide) ?_
      exact case_37 hst F E hW hS hl hR hst1.2.2.2.2.2.2.2.2.2.2.2.2.2.2.2.2.2.2.2.2.2.2.2.2.2.2.2.2.2.2.2.2.2.2.2.2.2 hr  kk
    | k + 38, hk => exact absurd hk (by omega)
theorem vp_inN {L k : Nat} (hL : L ≤ 4096) (h : k < L) : vp_in (nI k) L := by
  unfold vp_in
  have h0 : (nI k).toInt = k := nI_toInt (by omega)
  have h1 : ¬ nI k < 0 := fun h2 => by
    rw [Int32.lt_iff_toInt_lt, h0, show (0 : Int32).toInt = 0 from by decide] at h2
    omega
  have h2 : (nI k).toNatClampNeg = k := by
    show (nI k).toInt.toNat = k
    rw [h0]; rfl
  rintro (h3 | h3)
  · exact h1 h3
  · rw [h2] at h3; omega
theorem nIadd (a b : Nat) : nI a + nI b = nI (a + b) := (nI_add a b)

set_option maxRecDepth 100000 in
set_option maxHeartbeats 4000000 in
theorem law_loop {p : Program} {l : Launch} {ev : Env} {R : Room} {s : State} {m : MethodId} {args : Array Value} {below : List Frame} {meth : Method} {c : Code} {Q : State → Prop} {D : va_G} {Y : Nat → ClassId} {ad am : Nat → Nat} {o od n0 b L : Nat} {xs : Nat → Int32} {Rel : GT → GT → Prop} {c0 z0 : Nat} (hst : l.stackTraces = false) (F : Fx p c cL_law 9 s m args RL D Y) (E : LEn s ad am o od n0 b L xs) (hL : L ≤ 2048) (hR : R.frames = 2048 ∧ R.locals = 94400 ∧ c0 + 8208 ≤ R.cells ∧ z0 + 49248 ≤ R.slots) (hst1 : StA Rel)
    (hend : ∀ (H1 : Heap) (L1 : List Loc) (ls1 : Array Slot) (cells slots : Nat), cells ≤ c0 + 8192 → slots ≤ z0 + 49152 → va_S (LA n0) s.heap H1 L1 → W p l ev R s m args below meth c H1 L1 cells slots Q (F0 m 2251 ls1 [.int 1])) :
    ∀ (j t : Nat), t + j = 512 → ∀ (H : Heap) (locs : List Loc) (ls : Array Slot) (G K : GT), Rel G K → LWd D Y ad am o od G K H → va_S (LA n0) s.heap H locs → lv_has ls 9 [(0, .ref b), (1, .ref (ad 77)), (2, .ref (am 0)), (3, .ref o), (4, .ref od), (5, .int (nI (4 * t)))] → W p l ev R s m args below meth c H locs (c0 + 16 * t) (z0 + 96 * t) Q (F0 m 28 ls []) := by
  have hx := F.1.1
  have hb := F.1.2.1
  intro j
  induction j with
  | zero =>
    intro t ht H locs ls G K hr hW hS hl
    refine lv_iload hx hb dL_law_28 (lv_at hl 5 rfl) ?_
    refine lv_aload_n hx hb dL_law_30 rfl (lv_at hl 0 rfl) ?_
    refine va_slen hx hb E.2.2.2.2.1 (by rw [E.1]; exact E.2.2.2.2.2) (Nat.not_le_of_lt E.2.2.2.2.2) hS dL_law_31 ?_
    refine lv_iconst (v := 4) hx hb dL_law_32 (by decide) ?_
    refine lv_isub hx hb dL_law_33 ?_
    refine lv_icmp_gt (tgt := 2250) hx hb dL_law_34 (by decide) (fun c1 => ?_) (fun c1 => absurd ?_ c1)
    · refine lv_iconst (v := 1) hx hb dL_law_2250 (by decide) ?_
      exact hend _ _ _ _ _ (by omega) (by omega) hS
    · rw [Int32.lt_iff_toInt_lt, nI_toInt (by omega)]
      have := pk_sub_toInt (a := L) (b := 4) (by omega) (by omega)
      have h5 : (Int32.ofNat L - 4).toInt = (L : Int) - 4 := this
      rw [h5]
      omega
  | succ j ih =>
    intro t ht H locs ls G K hr hW hS hl
    refine lv_iload hx hb dL_law_28 (lv_at hl 5 rfl) ?_
    refine lv_aload_n hx hb dL_law_30 rfl (lv_at hl 0 rfl) ?_
    refine va_slen hx hb E.2.2.2.2.1 (by rw [E.1]; exact E.2.2.2.2.2) (Nat.not_le_of_lt E.2.2.2.2.2) hS dL_law_31 ?_
    refine lv_iconst (v := 4) hx hb dL_law_32 (by decide) ?_
    refine lv_isub hx hb dL_law_33 ?_
    have h5 : (Int32.ofNat L - 4).toInt = (L : Int) - 4 := pk_sub_toInt (a := L) (b := 4) (by omega) (by omega)
    refine lv_icmp_gt (tgt := 2250) hx hb dL_law_34 (by decide) (fun c1 => ?_) (fun c1 => ?_)
    · refine lv_iconst (v := 1) hx hb dL_law_2250 (by decide) ?_
      exact hend _ _ _ _ _ (by omega) (by omega) hS
    have h6 : 4 * t + 4 ≤ L := by
      rw [Int32.lt_iff_toInt_lt, nI_toInt (by omega), h5] at c1
      omega
    have e1 : nI (4 * t) + 1 = nI (4 * t + 1) := nIadd (4 * t) 1
    have e2 : nI (4 * t) + 2 = nI (4 * t + 2) := nIadd (4 * t) 2
    have e3 : nI (4 * t) + 3 = nI (4 * t + 3) := nIadd (4 * t) 3
    have e4 : nI (4 * t) + 4 = nI (4 * (t + 1)) := nIadd (4 * t) 4
    refine lv_aload_n hx hb dL_law_37 rfl (lv_at hl 0 rfl) ?_
    refine lv_iload hx hb dL_law_38 (lv_at hl 5 rfl) ?_
    refine la_x F E hS (vp_inN (by omega) (by omega)) dL_law_40 ?_
    refine lv_bipush (v := 63) hx hb dL_law_41 (by decide) ?_
    refine lv_iand hx hb dL_law_43 ?_
    obtain ⟨n, hn, hn2⟩ := and63 (xs (nI (4 * t)).toNatClampNeg)
    rw [hn2]
    refine law_sw hst F E hW hS hl ⟨hR.1, hR.2.1, by omega, by omega⟩ hst1 hr (by rw [e1]; exact vp_inN (by omega) (by omega)) (by rw [e2]; exact vp_inN (by omega) (by omega)) (by rw [e3]; exact vp_inN (by omega) (by omega)) n hn ?_
    intro H1 L1 ls1 G' K' hr hW hS hl
    refine lv_iinc (v := nI (4 * (t + 1))) (lv' := [(5, .int (nI (4 * (t + 1)))), (0, .ref b), (1, .ref (ad 77)), (2, .ref (am 0)), (3, .ref o), (4, .ref od)]) hx hb dL_law_2244 hl (k := 5) rfl e4 (by decide) rfl (fun ls hl => ?_)
    refine lv_goto (tgt := 28) hx hb dL_law_2247 (by decide) ?_
    refine W.widen (k := c0 + 16 * (t + 1)) (n := z0 + 96 * (t + 1)) (by omega) (by omega) ?_
    exact ih (t + 1) (by omega) H1 L1 ls G' K' hr hW hS (lv_sub hl [1, 2, 3, 4, 5, 0] rfl)
