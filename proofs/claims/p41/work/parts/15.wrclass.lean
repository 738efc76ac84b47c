abbrev okB (v : Int32) : Prop := v = 0 ∨ v = 1
theorem okB_n {v : Int32} (h : okB v) : narrow .boolean (.int v) = .int v := by rcases h with rfl | rfl <;> rfl
theorem okB_f {v : Int32} (h : okB v) : fits .boolean (.int v) = true := by rcases h with rfl | rfl <;> rfl
abbrev okC (v : Int32) : Prop := 0 ≤ v ∧ v < nI 65536
theorem okC_n {v : Int32} (h : okC v) : narrow .char (.int v) = .int v := by
  rcases pk_ix v (n := 65536) (by decide) with h1 | h1 | ⟨j, hj, rfl⟩
  · exact absurd h.1 (Int32.not_le.mpr h1)
  · exact absurd h.2 (Int32.not_lt.mpr h1)
  · exact (pk_charN hj).1
theorem cvP {D : va_G} {N : Nat} {ad : Nat → Nat} {kf : Nat → (Nat → Int32) → va_E} {G1 G2 : GT} {H : Heap} (h : some G1 = some G2) (hP : va_P D vwCl (wsW N ad kf G1) H) : va_P D vwCl (wsW N ad kf G2) H := by cases h; exact hP
def bind2 {α β γ : Type} (x : Option (α × β)) (f : α → β → Option γ) : Option γ := x.bind fun q => f q.1 q.2
theorem bsome2 {α β γ : Type} {x : Option (α × β)} {f : α → β → Option γ} {r : γ} (h : bind2 x f = some r) : ∃ a b, x = some (a, b) ∧ f a b = some r := by
  obtain ⟨⟨a, b⟩, h1, h2⟩ := bsome h
  exact ⟨a, b, h1, h2⟩
set_option maxRecDepth 100000 in
set_option maxHeartbeats 4000000 in
theorem q_X9_put (l : Launch) (D : va_G) (Y : Nat → ClassId) (ad : Nat → Nat) (hI : Inj 90 ad) (G : GT) (i z : Nat) (hz : i < 90 ∧ z < 2 ^ 31) (he : ∀ g, kC Y ad i g = .inl (Y 0, z, .inl g)) (a1 a2 : Int32) : WV l yX9_put cX9_put 3 1 D Y 90 ad (kC Y ad) G [.ref (ad i), .int a1, .int a2] (upR G i (put32 z (G i) a1 a2)) := by
  refine W_of (ret := none) (by decide) (Nat.le_of_ble_eq_true rfl) (lv := [(0, .ref (ad i)), (1, .int a1), (2, .int a2)]) rfl ?_
  intro p e s m below meth c ls F hP hS hr hk hl
  have F : Fx p c cX9_put 3 s m _ RX9 D Y := F
  have hx := F.1.1
  have hb := F.1.2.1
  have hg : (wsC Y ad G)[i]? = some (ad i, .inl (Y 0, z, .inl (G i))) := (wsW_get i hz.1).trans (by rw [he])
  have hs : upR G i (G i) = G := by funext j; by_cases h : j = i <;> simp [upR, h]
  refine lv_iload_n hx hb dX9_put_0 rfl (lv_at hl 1 rfl) ?_
  refine lv_if_lt (tgt := 14) hx hb dX9_put_1 (by decide) (fun c1 => ?_) (fun c1 => ?_)
  · exact wv_end F hP hS hr hk (by unfold put32; rw [if_pos c1, hs]) dX9_put_14
  · refine lv_iload_n hx hb dX9_put_4 rfl (lv_at hl 1 rfl) ?_
    refine lv_aload_n hx hb dX9_put_5 rfl (lv_at hl 0 rfl) ?_
    refine alen F hP i hg dX9_put_6 ?_
    refine lv_icmp_ge (tgt := 14) hx hb dX9_put_7 (by decide) (fun c2 => ?_) (fun c2 => ?_)
    · exact wv_end F hP hS hr hk (by unfold put32; rw [if_neg c1, if_pos c2, hs]) dX9_put_14
    · refine lv_aload_n hx hb dX9_put_10 rfl (lv_at hl 0 rfl) ?_
      refine lv_iload_n hx hb dX9_put_11 rfl (lv_at hl 1 rfl) ?_
      refine lv_iload_n hx hb dX9_put_12 rfl (lv_at hl 2 rfl) ?_
      refine ast F hI hP hS (fun i h => ⟨i, h, rfl⟩) i hz.1 he (inbV ⟨Int32.not_lt.mp c1, Int32.not_le.mp c2⟩ hz.2) dX9_put_13 (fun H locs hP hS => ?_)
      exact wv_end F hP hS hr hk (by unfold put32; rw [if_neg c1, if_neg c2]) dX9_put_14
def f_X1_hasRefused (G : Nat → Nat → Int32) : Option Int32 := (if (G 78 1) = 0 then some (0 : Int32) else some (1 : Int32))
set_option maxRecDepth 100000 in
set_option maxHeartbeats 4000000 in
theorem q_X1_hasRefused (l : Launch) (D : va_G) (Y : Nat → ClassId) (ad : Nat → Nat) (G : Nat → Nat → Int32) (r : Int32) (h : f_X1_hasRefused G  = some r) : RD l yX1_hasRefused cX1_hasRefused 1 (some .boolean) 0 D Y (wsC Y ad G) [.ref (ad 78)] r := by
  refine RD_of (by decide) (Nat.le_of_ble_eq_true rfl) (lv := [(0, .ref (ad 78))]) rfl ?_
  intro p e s m below meth c ls F hP hr hk hl
  have F : Fx p c cX1_hasRefused 1 s m _ RX1 D Y := F
  have hx := F.1.1
  have hb := F.1.2.1
  refine lv_aload_n hx hb dX1_hasRefused_0 rfl (lv_at hl 0 rfl) ?_
  refine rC_78_1 F hP dX1_hasRefused_1 ?_
  refine lv_if_eq (tgt := 11) hx hb dX1_hasRefused_4 (by decide) (fun c1 => ?_) (fun c1 => ?_)
  · have h := ifT h c1
    refine lv_iconst (v := 0) hx hb dX1_hasRefused_11 (by decide) ?_
    exact rd_end F hr hk rfl h dX1_hasRefused_12
  · have h := ifF h c1
    refine lv_iconst (v := 1) hx hb dX1_hasRefused_7 (by decide) ?_
    refine lv_goto (tgt := 12) hx hb dX1_hasRefused_8 (by decide) ?_
    exact rd_end F hr hk rfl h dX1_hasRefused_12
def f_X1_latestReason (G : Nat → Nat → Int32) : Option Int32 := some (G 78 1)
set_option maxRecDepth 100000 in
set_option maxHeartbeats 4000000 in
theorem q_X1_latestReason (l : Launch) (D : va_G) (Y : Nat → ClassId) (ad : Nat → Nat) (G : Nat → Nat → Int32) (r : Int32) (h : f_X1_latestReason G  = some r) : RD l yX1_latestReason cX1_latestReason 1 (some .int) 0 D Y (wsC Y ad G) [.ref (ad 78)] r := by
  refine RD_of (by decide) (Nat.le_of_ble_eq_true rfl) (lv := [(0, .ref (ad 78))]) rfl ?_
  intro p e s m below meth c ls F hP hr hk hl
  have F : Fx p c cX1_latestReason 1 s m _ RX1 D Y := F
  have hx := F.1.1
  have hb := F.1.2.1
  refine lv_aload_n hx hb dX1_latestReason_0 rfl (lv_at hl 0 rfl) ?_
  refine rC_78_1 F hP dX1_latestReason_1 ?_
  exact rd_end F hr hk rfl h dX1_latestReason_4
def f_X1_latestDetail (G : Nat → Nat → Int32) : Option Int32 := some (G 78 2)
set_option maxRecDepth 100000 in
set_option maxHeartbeats 4000000 in
theorem q_X1_latestDetail (l : Launch) (D : va_G) (Y : Nat → ClassId) (ad : Nat → Nat) (G : Nat → Nat → Int32) (r : Int32) (h : f_X1_latestDetail G  = some r) : RD l yX1_latestDetail cX1_latestDetail 1 (some .int) 0 D Y (wsC Y ad G) [.ref (ad 78)] r := by
  refine RD_of (by decide) (Nat.le_of_ble_eq_true rfl) (lv := [(0, .ref (ad 78))]) rfl ?_
  intro p e s m below meth c ls F hP hr hk hl
  have F : Fx p c cX1_latestDetail 1 s m _ RX1 D Y := F
  have hx := F.1.1
  have hb := F.1.2.1
  refine lv_aload_n hx hb dX1_latestDetail_0 rfl (lv_at hl 0 rfl) ?_
  refine rC_78_2 F hP dX1_latestDetail_1 ?_
  exact rd_end F hr hk rfl h dX1_latestDetail_4
def f_X2_hasSign (G : Nat → Nat → Int32) (a1 : Int32) : Option Int32 := ((f_X9_isWithin G a1 (0 : Int32) ((G 82 2) - (1 : Int32))).bind fun r1 => some r1)
set_option maxRecDepth 100000 in
set_option maxHeartbeats 4000000 in
theorem q_X2_hasSign (l : Launch) (D : va_G) (Y : Nat → ClassId) (ad : Nat → Nat) (G : Nat → Nat → Int32) (a1 : Int32) (r : Int32) (h : f_X2_hasSign G a1 = some r) : RD l yX2_hasSign cX2_hasSign 2 (some .boolean) 1 D Y (wsC Y ad G) [.ref (ad 82), .int a1] r := by
  refine RD_of (by decide) (Nat.le_of_ble_eq_true rfl) (lv := [(0, .ref (ad 82)), (1, .int a1)]) rfl ?_
  intro p e s m below meth c ls F hP hr hk hl
  have F : Fx p c cX2_hasSign 2 s m _ RX2 D Y := F
  have hx := F.1.1
  have hb := F.1.2.1
  refine lv_iload_n hx hb dX2_hasSign_0 rfl (lv_at hl 1 rfl) ?_
  refine lv_iconst (v := 0) hx hb dX2_hasSign_1 (by decide) ?_
  refine lv_aload_n hx hb dX2_hasSign_2 rfl (lv_at hl 0 rfl) ?_
  refine rC_82_2 F hP dX2_hasSign_3 ?_
  refine lv_iconst (v := 1) hx hb dX2_hasSign_6 (by decide) ?_
  refine lv_isub hx hb dX2_hasSign_7 ?_
  obtain ⟨r1, e1, h⟩ := bsome h
  refine rd_SN F hP k_X9_isWithin mw_1377 (q_X9_isWithin l D Y ad G a1 (0 : Int32) ((G 82 2) - (1 : Int32)) r1 e1) rfl hl.1 ⟨Nat.le_of_ble_eq_true rfl, Nat.le_of_ble_eq_true rfl⟩ (rest := []) rfl (Nat.le_of_ble_eq_true rfl) ⟨Nat.le_of_ble_eq_true rfl, Nat.le_of_ble_eq_true rfl⟩ dX2_hasSign_8 (fun o1 => ?_)
  exact rd_end F hr hk o1 h dX2_hasSign_11
def f_X8_isFull (G : Nat → Nat → Int32) : Option Int32 := (if (G 84 3) < (nI 60) then some (0 : Int32) else some (1 : Int32))
set_option maxRecDepth 100000 in
set_option maxHeartbeats 4000000 in
theorem q_X8_isFull (l : Launch) (D : va_G) (Y : Nat → ClassId) (ad : Nat → Nat) (G : Nat → Nat → Int32) (r : Int32) (h : f_X8_isFull G  = some r) : RD l yX8_isFull cX8_isFull 1 (some .boolean) 0 D Y (wsC Y ad G) [.ref (ad 84)] r := by
  refine RD_of (by decide) (Nat.le_of_ble_eq_true rfl) (lv := [(0, .ref (ad 84))]) rfl ?_
  intro p e s m below meth c ls F hP hr hk hl
  have F : Fx p c cX8_isFull 1 s m _ RX8 D Y := F
  have hx := F.1.1
  have hb := F.1.2.1
  refine lv_aload_n hx hb dX8_isFull_0 rfl (lv_at hl 0 rfl) ?_
  refine rC_84_3 F hP dX8_isFull_1 ?_
  refine lv_aload_n hx hb dX8_isFull_4 rfl (lv_at hl 0 rfl) ?_
  refine rC_84_0 F hP dX8_isFull_5 ?_
  refine alenc F hP 85 (wsW_get 85 (by decide)) dX8_isFull_8 ?_
  refine lv_icmp_lt (tgt := 16) hx hb dX8_isFull_9 (by decide) (fun c1 => ?_) (fun c1 => ?_)
  · have h := ifT h c1
    refine lv_iconst (v := 0) hx hb dX8_isFull_16 (by decide) ?_
    exact rd_end F hr hk rfl h dX8_isFull_17
  · have h := ifF h c1
    refine lv_iconst (v := 1) hx hb dX8_isFull_12 (by decide) ?_
    refine lv_goto (tgt := 17) hx hb dX8_isFull_13 (by decide) ?_
    exact rd_end F hr hk rfl h dX8_isFull_17
def f_X8_countOfSigns (G : Nat → Nat → Int32) : Option Int32 := some (G 84 3)
set_option maxRecDepth 100000 in
set_option maxHeartbeats 4000000 in
theorem q_X8_countOfSigns (l : Launch) (D : va_G) (Y : Nat → ClassId) (ad : Nat → Nat) (G : Nat → Nat → Int32) (r : Int32) (h : f_X8_countOfSigns G  = some r) : RD l yX8_countOfSigns cX8_countOfSigns 1 (some .int) 0 D Y (wsC Y ad G) [.ref (ad 84)] r := by
  refine RD_of (by decide) (Nat.le_of_ble_eq_true rfl) (lv := [(0, .ref (ad 84))]) rfl ?_
  intro p e s m below meth c ls F hP hr hk hl
  have F : Fx p c cX8_countOfSigns 1 s m _ RX8 D Y := F
  have hx := F.1.1
  have hb := F.1.2.1
  refine lv_aload_n hx hb dX8_countOfSigns_0 rfl (lv_at hl 0 rfl) ?_
  refine rC_84_3 F hP dX8_countOfSigns_1 ?_
  exact rd_end F hr hk rfl h dX8_countOfSigns_4
def f_X8_countOfOrders (G : Nat → Nat → Int32) : Option Int32 := some (G 84 5)
set_option maxRecDepth 100000 in
set_option maxHeartbeats 4000000 in
theorem q_X8_countOfOrders (l : Launch) (D : va_G) (Y : Nat → ClassId) (ad : Nat → Nat) (G : Nat → Nat → Int32) (r : Int32) (h : f_X8_countOfOrders G  = some r) : RD l yX8_countOfOrders cX8_countOfOrders 1 (some .int) 0 D Y (wsC Y ad G) [.ref (ad 84)] r := by
  refine RD_of (by decide) (Nat.le_of_ble_eq_true rfl) (lv := [(0, .ref (ad 84))]) rfl ?_
  intro p e s m below meth c ls F hP hr hk hl
  have F : Fx p c cX8_countOfOrders 1 s m _ RX8 D Y := F
  have hx := F.1.1
  have hb := F.1.2.1
  refine lv_aload_n hx hb dX8_countOfOrders_0 rfl (lv_at hl 0 rfl) ?_
  refine rC_84_5 F hP dX8_countOfOrders_1 ?_
  exact rd_end F hr hk rfl h dX8_countOfOrders_4
def f_X8_numberAt (G : Nat → Nat → Int32) (a1 : Int32) (a2 : Int32) : Option Int32 := some (cell32 36 (G 87) ((a1 * (3 : Int32)) + a2))
set_option maxRecDepth 100000 in
set_option maxHeartbeats 4000000 in
theorem q_X8_numberAt (l : Launch) (D : va_G) (Y : Nat → ClassId) (ad : Nat → Nat) (G : Nat → Nat → Int32) (a1 : Int32) (a2 : Int32) (r : Int32) (h : f_X8_numberAt G a1 a2 = some r) : RD l yX8_numberAt cX8_numberAt 3 (some .int) 2 D Y (wsC Y ad G) [.ref (ad 84), .int a1, .int a2] r := by
  refine RD_of (by decide) (Nat.le_of_ble_eq_true rfl) (lv := [(0, .ref (ad 84)), (1, .int a1), (2, .int a2)]) rfl ?_
  intro p e s m below meth c ls F hP hr hk hl
  have F : Fx p c cX8_numberAt 3 s m _ RX8 D Y := F
  have hx := F.1.1
  have hb := F.1.2.1
  refine lv_aload_n hx hb dX8_numberAt_0 rfl (lv_at hl 0 rfl) ?_
  refine rC_84_2 F hP dX8_numberAt_1 ?_
  refine lv_iload_n hx hb dX8_numberAt_4 rfl (lv_at hl 1 rfl) ?_
  refine lv_iconst (v := 3) hx hb dX8_numberAt_5 (by decide) ?_
  refine lv_imul hx hb dX8_numberAt_6 ?_
  refine lv_iload_n hx hb dX8_numberAt_7 rfl (lv_at hl 2 rfl) ?_
  refine lv_iadd hx hb dX8_numberAt_8 ?_
  refine rd_SN F hP k_X9_cell mw_1549 (q_X9_cell l D Y ad G 87 36 (by decide) (fun _ => rfl) ((a1 * (3 : Int32)) + a2) _ rfl) rfl hl.1 ⟨Nat.le_of_ble_eq_true rfl, Nat.le_of_ble_eq_true rfl⟩ (rest := []) rfl (Nat.le_of_ble_eq_true rfl) ⟨Nat.le_of_ble_eq_true rfl, Nat.le_of_ble_eq_true rfl⟩ dX8_numberAt_9 (fun _ => ?_)
  exact rd_end F hr hk rfl h dX8_numberAt_12
def f_X8_isSign (G : Nat → Nat → Int32) (a1 : Int32) (a2 : Int32) : Option Int32 := (if a1 < 0 then some (0 : Int32) else (if (G 84 3) ≤ a1 then some (0 : Int32) else (if (nI 60) ≤ a1 then some (0 : Int32) else (if inb a1 60 then (if (G 85 a1.toNatClampNeg) = a2 then some (1 : Int32) else some (0 : Int32)) else none))))
set_option maxRecDepth 100000 in
set_option maxHeartbeats 4000000 in
theorem q_X8_isSign (l : Launch) (D : va_G) (Y : Nat → ClassId) (ad : Nat → Nat) (G : Nat → Nat → Int32) (a1 : Int32) (a2 : Int32) (r : Int32) (h : f_X8_isSign G a1 a2 = some r) : RD l yX8_isSign cX8_isSign 3 (some .boolean) 0 D Y (wsC Y ad G) [.ref (ad 84), .int a1, .int a2] r := by
  refine RD_of (by decide) (Nat.le_of_ble_eq_true rfl) (lv := [(0, .ref (ad 84)), (1, .int a1), (2, .int a2)]) rfl ?_
  intro p e s m below meth c ls F hP hr hk hl
  have F : Fx p c cX8_isSign 3 s m _ RX8 D Y := F
  have hx := F.1.1
  have hb := F.1.2.1
  refine lv_iload_n hx hb dX8_isSign_0 rfl (lv_at hl 1 rfl) ?_
  refine lv_if_lt (tgt := 35) hx hb dX8_isSign_1 (by decide) (fun c1 => ?_) (fun c1 => ?_)
  · have h := ifT h c1
    refine lv_iconst (v := 0) hx hb dX8_isSign_35 (by decide) ?_
    exact rd_end F hr hk rfl h dX8_isSign_36
  · have h := ifF h c1
    refine lv_iload_n hx hb dX8_isSign_4 rfl (lv_at hl 1 rfl) ?_
    refine lv_aload_n hx hb dX8_isSign_5 rfl (lv_at hl 0 rfl) ?_
    refine rC_84_3 F hP dX8_isSign_6 ?_
    refine lv_icmp_ge (tgt := 35) hx hb dX8_isSign_9 (by decide) (fun c2 => ?_) (fun c2 => ?_)
    · have h := ifT h c2
      refine lv_iconst (v := 0) hx hb dX8_isSign_35 (by decide) ?_
      exact rd_end F hr hk rfl h dX8_isSign_36
    · have h := ifF h c2
      refine lv_iload_n hx hb dX8_isSign_12 rfl (lv_at hl 1 rfl) ?_
      refine lv_aload_n hx hb dX8_isSign_13 rfl (lv_at hl 0 rfl) ?_
      refine rC_84_0 F hP dX8_isSign_14 ?_
      refine alenc F hP 85 (wsW_get 85 (by decide)) dX8_isSign_17 ?_
      refine lv_icmp_ge (tgt := 35) hx hb dX8_isSign_18 (by decide) (fun c3 => ?_) (fun c3 => ?_)
      · have h := ifT h c3
        refine lv_iconst (v := 0) hx hb dX8_isSign_35 (by decide) ?_
        exact rd_end F hr hk rfl h dX8_isSign_36
      · have h := ifF h c3
        refine lv_aload_n hx hb dX8_isSign_21 rfl (lv_at hl 0 rfl) ?_
        refine rC_84_0 F hP dX8_isSign_22 ?_
        refine lv_iload_n hx hb dX8_isSign_25 rfl (lv_at hl 1 rfl) ?_
        obtain ⟨b4, h⟩ := ckS h
        refine alc F hP 85 (wsW_get 85 (by decide)) (inbV b4 (by decide)) dX8_isSign_26 ?_
        refine lv_iload_n hx hb dX8_isSign_27 rfl (lv_at hl 2 rfl) ?_
        refine lv_icmp_ne (tgt := 35) hx hb dX8_isSign_28 (by decide) (fun c5 => ?_) (fun c5 => ?_)
        · have h := ifF h c5
          refine lv_iconst (v := 0) hx hb dX8_isSign_35 (by decide) ?_
          exact rd_end F hr hk rfl h dX8_isSign_36
        · have h := ifT h c5
          refine lv_iconst (v := 1) hx hb dX8_isSign_31 (by decide) ?_
          refine lv_goto (tgt := 36) hx hb dX8_isSign_32 (by decide) ?_
          exact rd_end F hr hk rfl h dX8_isSign_36
def f_X0_countOfChanges (G : Nat → Nat → Int32) : Option Int32 := some (G 88 2)
set_option maxRecDepth 100000 in
set_option maxHeartbeats 4000000 in
theorem q_X0_countOfChanges (l : Launch) (D : va_G) (Y : Nat → ClassId) (ad : Nat → Nat) (G : Nat → Nat → Int32) (r : Int32) (h : f_X0_countOfChanges G  = some r) : RD l yX0_countOfChanges cX0_countOfChanges 1 (some .int) 0 D Y (wsC Y ad G) [.ref (ad 88)] r := by
  refine RD_of (by decide) (Nat.le_of_ble_eq_true rfl) (lv := [(0, .ref (ad 88))]) rfl ?_
  intro p e s m below meth c ls F hP hr hk hl
  have F : Fx p c cX0_countOfChanges 1 s m _ RX0 D Y := F
  have hx := F.1.1
  have hb := F.1.2.1
  refine lv_aload_n hx hb dX0_countOfChanges_0 rfl (lv_at hl 0 rfl) ?_
  refine rC_88_2 F hP dX0_countOfChanges_1 ?_
  exact rd_end F hr hk rfl h dX0_countOfChanges_4
def f_X5_addBar (G : GT) (a1 : Int32) : Option (Int32 × GT) := ((some (upR G 1 (put32 6 (G 1) (G 0 6) a1))).bind fun G1 => ((some (upR G1 0 (upd (G1 0) 6 ((G1 0 6) + (1 : Int32))))).bind fun G2 => some (((G2 0 6) - (1 : Int32)), G2)))
set_option maxRecDepth 100000 in
set_option maxHeartbeats 4000000 in
theorem q_X5_addBar (l : Launch) (D : va_G) (Y : Nat → ClassId) (ad : Nat → Nat) (hI : Inj 90 ad) (G : GT) (a1 : Int32) (r : Int32) (G' : GT) (h : f_X5_addBar G a1 = some (r, G')) : WR l yX5_addBar cX5_addBar 2 (some .int) 2 D Y 90 ad (kC Y ad) G [.ref (ad 0), .int a1] r G' := by
  refine W_of (ret := (some .int)) (by decide) (Nat.le_of_ble_eq_true rfl) (lv := [(0, .ref (ad 0)), (1, .int a1)]) rfl ?_
  intro p e s m below meth c ls F hP hS hr hk hl
  have F : Fx p c cX5_addBar 2 s m _ RX5 D Y := F
  have hx := F.1.1
  have hb := F.1.2.1
  refine lv_aload_n hx hb dX5_addBar_0 rfl (lv_at hl 0 rfl) ?_
  refine rC_0_0 F hP dX5_addBar_1 ?_
  refine lv_aload_n hx hb dX5_addBar_4 rfl (lv_at hl 0 rfl) ?_
  refine rC_0_6 F hP dX5_addBar_5 ?_
  refine lv_iload_n hx hb dX5_addBar_8 rfl (lv_at hl 1 rfl) ?_
  obtain ⟨G1, e1, h⟩ := bsome h
  refine wv_SN F hP hS k_X9_put mw_504 (q_X9_put l D Y ad hI G 1 6 (by decide) (fun _ => rfl) (G 0 6) a1) rfl hl.1 ⟨Nat.le_of_ble_eq_true rfl, Nat.le_of_ble_eq_true rfl⟩ (rest := []) rfl (Nat.le_of_ble_eq_true rfl) ⟨Nat.le_of_ble_eq_true rfl, Nat.le_of_ble_eq_true rfl⟩ dX5_addBar_9 (fun H locs hP hS => ?_)
  have hP := cvP e1 hP
  refine lv_aload_n hx hb dX5_addBar_12 rfl (lv_at hl 0 rfl) ?_
  refine lv_dup hx hb dX5_addBar_13 rfl ?_
  refine rC_0_6 F hP dX5_addBar_14 ?_
  refine lv_iconst (v := 1) hx hb dX5_addBar_17 (by decide) ?_
  refine lv_iadd hx hb dX5_addBar_18 ?_
  obtain ⟨G2, e2, h⟩ := bsome h
  refine pC_0_6 F hI hP hS dX5_addBar_19 (fun H locs hP hS => ?_)
  have hP := cvP e2 hP
  refine lv_aload_n hx hb dX5_addBar_22 rfl (lv_at hl 0 rfl) ?_
  refine rC_0_6 F hP dX5_addBar_23 ?_
  refine lv_iconst (v := 1) hx hb dX5_addBar_26 (by decide) ?_
  refine lv_isub hx hb dX5_addBar_27 ?_
  exact wr_end F hP hS hr hk rfl h dX5_addBar_28
def f_X5_addSound (G : GT) (a1 : Int32) (a2 : Int32) (a3 : Int32) : Option (Int32 × GT) := ((some (upR G 4 (put32 16 (G 4) (G 0 7) a1))).bind fun G1 => ((some (upR G1 5 (put32 16 (G1 5) (G1 0 7) a2))).bind fun G2 => ((some (upR G2 6 (put32 16 (G2 6) (G2 0 7) a3))).bind fun G3 => ((some (upR G3 0 (upd (G3 0) 7 ((G3 0 7) + (1 : Int32))))).bind fun G4 => ((some (upR G4 0 (upd (G4 0) 9 ((G4 0 9) + (1 : Int32))))).bind fun G5 => some (((G5 0 7) - (1 : Int32)), G5))))))
set_option maxRecDepth 100000 in
set_option maxHeartbeats 4000000 in
theorem q_X5_addSound (l : Launch) (D : va_G) (Y : Nat → ClassId) (ad : Nat → Nat) (hI : Inj 90 ad) (G : GT) (a1 : Int32) (a2 : Int32) (a3 : Int32) (r : Int32) (G' : GT) (h : f_X5_addSound G a1 a2 a3 = some (r, G')) : WR l yX5_addSound cX5_addSound 4 (some .int) 2 D Y 90 ad (kC Y ad) G [.ref (ad 0), .int a1, .int a2, .int a3] r G' := by
  refine W_of (ret := (some .int)) (by decide) (Nat.le_of_ble_eq_true rfl) (lv := [(0, .ref (ad 0)), (1, .int a1), (2, .int a2), (3, .int a3)]) rfl ?_
  intro p e s m below meth c ls F hP hS hr hk hl
  have F : Fx p c cX5_addSound 4 s m _ RX5 D Y := F
  have hx := F.1.1
  have hb := F.1.2.1
  refine lv_aload_n hx hb dX5_addSound_0 rfl (lv_at hl 0 rfl) ?_
  refine rC_0_3 F hP dX5_addSound_1 ?_
  refine lv_aload_n hx hb dX5_addSound_4 rfl (lv_at hl 0 rfl) ?_
  refine rC_0_7 F hP dX5_addSound_5 ?_
  refine lv_iload_n hx hb dX5_addSound_8 rfl (lv_at hl 1 rfl) ?_
  obtain ⟨G1, e1, h⟩ := bsome h
  refine wv_SN F hP hS k_X9_put mw_504 (q_X9_put l D Y ad hI G 4 16 (by decide) (fun _ => rfl) (G 0 7) a1) rfl hl.1 ⟨Nat.le_of_ble_eq_true rfl, Nat.le_of_ble_eq_true rfl⟩ (rest := []) rfl (Nat.le_of_ble_eq_true rfl) ⟨Nat.le_of_ble_eq_true rfl, Nat.le_of_ble_eq_true rfl⟩ dX5_addSound_9 (fun H locs hP hS => ?_)
  have hP := cvP e1 hP
  refine lv_aload_n hx hb dX5_addSound_12 rfl (lv_at hl 0 rfl) ?_
  refine rC_0_4 F hP dX5_addSound_13 ?_
  refine lv_aload_n hx hb dX5_addSound_16 rfl (lv_at hl 0 rfl) ?_
  refine rC_0_7 F hP dX5_addSound_17 ?_
  refine lv_iload_n hx hb dX5_addSound_20 rfl (lv_at hl 2 rfl) ?_
  obtain ⟨G2, e2, h⟩ := bsome h
  refine wv_SN F hP hS k_X9_put mw_504 (q_X9_put l D Y ad hI G1 5 16 (by decide) (fun _ => rfl) (G1 0 7) a2) rfl hl.1 ⟨Nat.le_of_ble_eq_true rfl, Nat.le_of_ble_eq_true rfl⟩ (rest := []) rfl (Nat.le_of_ble_eq_true rfl) ⟨Nat.le_of_ble_eq_true rfl, Nat.le_of_ble_eq_true rfl⟩ dX5_addSound_21 (fun H locs hP hS => ?_)
  have hP := cvP e2 hP
  refine lv_aload_n hx hb dX5_addSound_24 rfl (lv_at hl 0 rfl) ?_
  refine rC_0_5 F hP dX5_addSound_25 ?_
  refine lv_aload_n hx hb dX5_addSound_28 rfl (lv_at hl 0 rfl) ?_
  refine rC_0_7 F hP dX5_addSound_29 ?_
  refine lv_iload_n hx hb dX5_addSound_32 rfl (lv_at hl 3 rfl) ?_
  obtain ⟨G3, e3, h⟩ := bsome h
  refine wv_SN F hP hS k_X9_put mw_504 (q_X9_put l D Y ad hI G2 6 16 (by decide) (fun _ => rfl) (G2 0 7) a3) rfl hl.1 ⟨Nat.le_of_ble_eq_true rfl, Nat.le_of_ble_eq_true rfl⟩ (rest := []) rfl (Nat.le_of_ble_eq_true rfl) ⟨Nat.le_of_ble_eq_true rfl, Nat.le_of_ble_eq_true rfl⟩ dX5_addSound_33 (fun H locs hP hS => ?_)
  have hP := cvP e3 hP
  refine lv_aload_n hx hb dX5_addSound_36 rfl (lv_at hl 0 rfl) ?_
  refine lv_dup hx hb dX5_addSound_37 rfl ?_
  refine rC_0_7 F hP dX5_addSound_38 ?_
  refine lv_iconst (v := 1) hx hb dX5_addSound_41 (by decide) ?_
  refine lv_iadd hx hb dX5_addSound_42 ?_
  obtain ⟨G4, e4, h⟩ := bsome h
  refine pC_0_7 F hI hP hS dX5_addSound_43 (fun H locs hP hS => ?_)
  have hP := cvP e4 hP
  refine lv_aload_n hx hb dX5_addSound_46 rfl (lv_at hl 0 rfl) ?_
  refine lv_dup hx hb dX5_addSound_47 rfl ?_
  refine rC_0_9 F hP dX5_addSound_48 ?_
  refine lv_iconst (v := 1) hx hb dX5_addSound_51 (by decide) ?_
  refine lv_iadd hx hb dX5_addSound_52 ?_
  obtain ⟨G5, e5, h⟩ := bsome h
  refine pC_0_9 F hI hP hS dX5_addSound_53 (fun H locs hP hS => ?_)
  have hP := cvP e5 hP
  refine lv_aload_n hx hb dX5_addSound_56 rfl (lv_at hl 0 rfl) ?_
  refine rC_0_7 F hP dX5_addSound_57 ?_
  refine lv_iconst (v := 1) hx hb dX5_addSound_60 (by decide) ?_
  refine lv_isub hx hb dX5_addSound_61 ?_
  exact wr_end F hP hS hr hk rfl h dX5_addSound_62
def f_X5_takeLast (G : GT) : Option (Int32 × GT) := ((some (upR G 0 (upd (G 0) 7 ((G 0 7) - (1 : Int32))))).bind fun G1 => ((some (upR G1 0 (upd (G1 0) 10 ((G1 0 10) + (1 : Int32))))).bind fun G2 => some ((cell32 16 (G2 6) (G2 0 7)), G2)))
set_option maxRecDepth 100000 in
set_option maxHeartbeats 4000000 in
theorem q_X5_takeLast (l : Launch) (D : va_G) (Y : Nat → ClassId) (ad : Nat → Nat) (hI : Inj 90 ad) (G : GT) (r : Int32) (G' : GT) (h : f_X5_takeLast G  = some (r, G')) : WR l yX5_takeLast cX5_takeLast 1 (some .int) 2 D Y 90 ad (kC Y ad) G [.ref (ad 0)] r G' := by
  refine W_of (ret := (some .int)) (by decide) (Nat.le_of_ble_eq_true rfl) (lv := [(0, .ref (ad 0))]) rfl ?_
  intro p e s m below meth c ls F hP hS hr hk hl
  have F : Fx p c cX5_takeLast 1 s m _ RX5 D Y := F
  have hx := F.1.1
  have hb := F.1.2.1
  refine lv_aload_n hx hb dX5_takeLast_0 rfl (lv_at hl 0 rfl) ?_
  refine lv_dup hx hb dX5_takeLast_1 rfl ?_
  refine rC_0_7 F hP dX5_takeLast_2 ?_
  refine lv_iconst (v := 1) hx hb dX5_takeLast_5 (by decide) ?_
  refine lv_isub hx hb dX5_takeLast_6 ?_
  obtain ⟨G1, e1, h⟩ := bsome h
  refine pC_0_7 F hI hP hS dX5_takeLast_7 (fun H locs hP hS => ?_)
  have hP := cvP e1 hP
  refine lv_aload_n hx hb dX5_takeLast_10 rfl (lv_at hl 0 rfl) ?_
  refine lv_dup hx hb dX5_takeLast_11 rfl ?_
  refine rC_0_10 F hP dX5_takeLast_12 ?_
  refine lv_iconst (v := 1) hx hb dX5_takeLast_15 (by decide) ?_
  refine lv_iadd hx hb dX5_takeLast_16 ?_
  obtain ⟨G2, e2, h⟩ := bsome h
  refine pC_0_10 F hI hP hS dX5_takeLast_17 (fun H locs hP hS => ?_)
  have hP := cvP e2 hP
  refine lv_aload_n hx hb dX5_takeLast_20 rfl (lv_at hl 0 rfl) ?_
  refine rC_0_5 F hP dX5_takeLast_21 ?_
  refine lv_aload_n hx hb dX5_takeLast_24 rfl (lv_at hl 0 rfl) ?_
  refine rC_0_7 F hP dX5_takeLast_25 ?_
  refine rd_SN F hP k_X9_cell mw_277 (q_X9_cell l D Y ad G2 6 16 (by decide) (fun _ => rfl) (G2 0 7) _ rfl) rfl hl.1 ⟨Nat.le_of_ble_eq_true rfl, Nat.le_of_ble_eq_true rfl⟩ (rest := []) rfl (Nat.le_of_ble_eq_true rfl) ⟨Nat.le_of_ble_eq_true rfl, Nat.le_of_ble_eq_true rfl⟩ dX5_takeLast_28 (fun _ => ?_)
  exact wr_end F hP hS hr hk rfl h dX5_takeLast_31
def f_X5_setKey (G : GT) (a1 : Int32) (a2 : Int32) : Option (Int32 × GT) := ((some (upR G 2 (put32 4 (G 2) a1 a2))).bind fun G1 => some ((cell32 4 (G 2) a1), G1))
set_option maxRecDepth 100000 in
set_option maxHeartbeats 4000000 in
theorem q_X5_setKey (l : Launch) (D : va_G) (Y : Nat → ClassId) (ad : Nat → Nat) (hI : Inj 90 ad) (G : GT) (a1 : Int32) (a2 : Int32) (r : Int32) (G' : GT) (h : f_X5_setKey G a1 a2 = some (r, G')) : WR l yX5_setKey cX5_setKey 4 (some .int) 2 D Y 90 ad (kC Y ad) G [.ref (ad 0), .int a1, .int a2] r G' := by
  refine W_of (ret := (some .int)) (by decide) (Nat.le_of_ble_eq_true rfl) (lv := [(0, .ref (ad 0)), (1, .int a1), (2, .int a2)]) rfl ?_
  intro p e s m below meth c ls F hP hS hr hk hl
  have F : Fx p c cX5_setKey 4 s m _ RX5 D Y := F
  have hx := F.1.1
  have hb := F.1.2.1
  refine lv_aload_n hx hb dX5_setKey_0 rfl (lv_at hl 0 rfl) ?_
  refine rC_0_1 F hP dX5_setKey_1 ?_
  refine lv_iload_n hx hb dX5_setKey_4 rfl (lv_at hl 1 rfl) ?_
  refine rd_SN F hP k_X9_cell mw_277 (q_X9_cell l D Y ad G 2 4 (by decide) (fun _ => rfl) a1 _ rfl) rfl hl.1 ⟨Nat.le_of_ble_eq_true rfl, Nat.le_of_ble_eq_true rfl⟩ (rest := []) rfl (Nat.le_of_ble_eq_true rfl) ⟨Nat.le_of_ble_eq_true rfl, Nat.le_of_ble_eq_true rfl⟩ dX5_setKey_5 (fun _ => ?_)
  refine lv_istore_n (lv' := [(3, .int ((cell32 4 (G 2) a1))), (0, .ref (ad 0)), (1, .int a1), (2, .int a2)]) hx hb dX5_setKey_8 rfl hl (by decide) rfl (fun ls hl => ?_)
  refine lv_aload_n hx hb dX5_setKey_9 rfl (lv_at hl 1 rfl) ?_
  refine rC_0_1 F hP dX5_setKey_10 ?_
  refine lv_iload_n hx hb dX5_setKey_13 rfl (lv_at hl 2 rfl) ?_
  refine lv_iload_n hx hb dX5_setKey_14 rfl (lv_at hl 3 rfl) ?_
  obtain ⟨G1, e1, h⟩ := bsome h
  refine wv_SN F hP hS k_X9_put mw_504 (q_X9_put l D Y ad hI G 2 4 (by decide) (fun _ => rfl) a1 a2) rfl hl.1 ⟨Nat.le_of_ble_eq_true rfl, Nat.le_of_ble_eq_true rfl⟩ (rest := []) rfl (Nat.le_of_ble_eq_true rfl) ⟨Nat.le_of_ble_eq_true rfl, Nat.le_of_ble_eq_true rfl⟩ dX5_setKey_15 (fun H locs hP hS => ?_)
  have hP := cvP e1 hP
  refine lv_iload_n hx hb dX5_setKey_18 rfl (lv_at hl 0 rfl) ?_
  exact wr_end F hP hS hr hk rfl h dX5_setKey_19
def f_X5_setLeak (G : GT) (a1 : Int32) (a2 : Int32) : Option (Int32 × GT) := ((some (upR G 3 (put32 4 (G 3) a1 a2))).bind fun G1 => some ((cell32 4 (G 3) a1), G1))
set_option maxRecDepth 100000 in
set_option maxHeartbeats 4000000 in
theorem q_X5_setLeak (l : Launch) (D : va_G) (Y : Nat → ClassId) (ad : Nat → Nat) (hI : Inj 90 ad) (G : GT) (a1 : Int32) (a2 : Int32) (r : Int32) (G' : GT) (h : f_X5_setLeak G a1 a2 = some (r, G')) : WR l yX5_setLeak cX5_setLeak 4 (some .int) 2 D Y 90 ad (kC Y ad) G [.ref (ad 0), .int a1, .int a2] r G' := by
  refine W_of (ret := (some .int)) (by decide) (Nat.le_of_ble_eq_true rfl) (lv := [(0, .ref (ad 0)), (1, .int a1), (2, .int a2)]) rfl ?_
  intro p e s m below meth c ls F hP hS hr hk hl
  have F : Fx p c cX5_setLeak 4 s m _ RX5 D Y := F
  have hx := F.1.1
  have hb := F.1.2.1
  refine lv_aload_n hx hb dX5_setLeak_0 rfl (lv_at hl 0 rfl) ?_
  refine rC_0_2 F hP dX5_setLeak_1 ?_
  refine lv_iload_n hx hb dX5_setLeak_4 rfl (lv_at hl 1 rfl) ?_
  refine rd_SN F hP k_X9_cell mw_277 (q_X9_cell l D Y ad G 3 4 (by decide) (fun _ => rfl) a1 _ rfl) rfl hl.1 ⟨Nat.le_of_ble_eq_true rfl, Nat.le_of_ble_eq_true rfl⟩ (rest := []) rfl (Nat.le_of_ble_eq_true rfl) ⟨Nat.le_of_ble_eq_true rfl, Nat.le_of_ble_eq_true rfl⟩ dX5_setLeak_5 (fun _ => ?_)
  refine lv_istore_n (lv' := [(3, .int ((cell32 4 (G 3) a1))), (0, .ref (ad 0)), (1, .int a1), (2, .int a2)]) hx hb dX5_setLeak_8 rfl hl (by decide) rfl (fun ls hl => ?_)
  refine lv_aload_n hx hb dX5_setLeak_9 rfl (lv_at hl 1 rfl) ?_
  refine rC_0_2 F hP dX5_setLeak_10 ?_
  refine lv_iload_n hx hb dX5_setLeak_13 rfl (lv_at hl 2 rfl) ?_
  refine lv_iload_n hx hb dX5_setLeak_14 rfl (lv_at hl 3 rfl) ?_
  obtain ⟨G1, e1, h⟩ := bsome h
  refine wv_SN F hP hS k_X9_put mw_504 (q_X9_put l D Y ad hI G 3 4 (by decide) (fun _ => rfl) a1 a2) rfl hl.1 ⟨Nat.le_of_ble_eq_true rfl, Nat.le_of_ble_eq_true rfl⟩ (rest := []) rfl (Nat.le_of_ble_eq_true rfl) ⟨Nat.le_of_ble_eq_true rfl, Nat.le_of_ble_eq_true rfl⟩ dX5_setLeak_15 (fun H locs hP hS => ?_)
  have hP := cvP e1 hP
  refine lv_iload_n hx hb dX5_setLeak_18 rfl (lv_at hl 0 rfl) ?_
  exact wr_end F hP hS hr hk rfl h dX5_setLeak_19
def f_X5_setHeight (G : GT) (a1 : Int32) (a2 : Int32) : Option (Int32 × GT) := ((some (upR G 5 (put32 16 (G 5) a1 a2))).bind fun G1 => some ((cell32 16 (G 5) a1), G1))
set_option maxRecDepth 100000 in
set_option maxHeartbeats 4000000 in
theorem q_X5_setHeight (l : Launch) (D : va_G) (Y : Nat → ClassId) (ad : Nat → Nat) (hI : Inj 90 ad) (G : GT) (a1 : Int32) (a2 : Int32) (r : Int32) (G' : GT) (h : f_X5_setHeight G a1 a2 = some (r, G')) : WR l yX5_setHeight cX5_setHeight 4 (some .int) 2 D Y 90 ad (kC Y ad) G [.ref (ad 0), .int a1, .int a2] r G' := by
  refine W_of (ret := (some .int)) (by decide) (Nat.le_of_ble_eq_true rfl) (lv := [(0, .ref (ad 0)), (1, .int a1), (2, .int a2)]) rfl ?_
  intro p e s m below meth c ls F hP hS hr hk hl
  have F : Fx p c cX5_setHeight 4 s m _ RX5 D Y := F
  have hx := F.1.1
  have hb := F.1.2.1
  refine lv_aload_n hx hb dX5_setHeight_0 rfl (lv_at hl 0 rfl) ?_
  refine rC_0_4 F hP dX5_setHeight_1 ?_
  refine lv_iload_n hx hb dX5_setHeight_4 rfl (lv_at hl 1 rfl) ?_
  refine rd_SN F hP k_X9_cell mw_277 (q_X9_cell l D Y ad G 5 16 (by decide) (fun _ => rfl) a1 _ rfl) rfl hl.1 ⟨Nat.le_of_ble_eq_true rfl, Nat.le_of_ble_eq_true rfl⟩ (rest := []) rfl (Nat.le_of_ble_eq_true rfl) ⟨Nat.le_of_ble_eq_true rfl, Nat.le_of_ble_eq_true rfl⟩ dX5_setHeight_5 (fun _ => ?_)
  refine lv_istore_n (lv' := [(3, .int ((cell32 16 (G 5) a1))), (0, .ref (ad 0)), (1, .int a1), (2, .int a2)]) hx hb dX5_setHeight_8 rfl hl (by decide) rfl (fun ls hl => ?_)
  refine lv_aload_n hx hb dX5_setHeight_9 rfl (lv_at hl 1 rfl) ?_
  refine rC_0_4 F hP dX5_setHeight_10 ?_
  refine lv_iload_n hx hb dX5_setHeight_13 rfl (lv_at hl 2 rfl) ?_
  refine lv_iload_n hx hb dX5_setHeight_14 rfl (lv_at hl 3 rfl) ?_
  obtain ⟨G1, e1, h⟩ := bsome h
  refine wv_SN F hP hS k_X9_put mw_504 (q_X9_put l D Y ad hI G 5 16 (by decide) (fun _ => rfl) a1 a2) rfl hl.1 ⟨Nat.le_of_ble_eq_true rfl, Nat.le_of_ble_eq_true rfl⟩ (rest := []) rfl (Nat.le_of_ble_eq_true rfl) ⟨Nat.le_of_ble_eq_true rfl, Nat.le_of_ble_eq_true rfl⟩ dX5_setHeight_15 (fun H locs hP hS => ?_)
  have hP := cvP e1 hP
  refine lv_iload_n hx hb dX5_setHeight_18 rfl (lv_at hl 0 rfl) ?_
  exact wr_end F hP hS hr hk rfl h dX5_setHeight_19
def f_X5_setFarthest (G : GT) (a1 : Int32) : Option (Int32 × GT) := ((some (upR G 0 (upd (G 0) 8 a1))).bind fun G1 => some ((G 0 8), G1))
set_option maxRecDepth 100000 in
set_option maxHeartbeats 4000000 in
theorem q_X5_setFarthest (l : Launch) (D : va_G) (Y : Nat → ClassId) (ad : Nat → Nat) (hI : Inj 90 ad) (G : GT) (a1 : Int32) (r : Int32) (G' : GT) (h : f_X5_setFarthest G a1 = some (r, G')) : WR l yX5_setFarthest cX5_setFarthest 3 (some .int) 0 D Y 90 ad (kC Y ad) G [.ref (ad 0), .int a1] r G' := by
  refine W_of (ret := (some .int)) (by decide) (Nat.le_of_ble_eq_true rfl) (lv := [(0, .ref (ad 0)), (1, .int a1)]) rfl ?_
  intro p e s m below meth c ls F hP hS hr hk hl
  have F : Fx p c cX5_setFarthest 3 s m _ RX5 D Y := F
  have hx := F.1.1
  have hb := F.1.2.1
  refine lv_aload_n hx hb dX5_setFarthest_0 rfl (lv_at hl 0 rfl) ?_
  refine rC_0_8 F hP dX5_setFarthest_1 ?_
  refine lv_istore_n (lv' := [(2, .int ((G 0 8))), (0, .ref (ad 0)), (1, .int a1)]) hx hb dX5_setFarthest_4 rfl hl (by decide) rfl (fun ls hl => ?_)
  refine lv_aload_n hx hb dX5_setFarthest_5 rfl (lv_at hl 1 rfl) ?_
  refine lv_iload_n hx hb dX5_setFarthest_6 rfl (lv_at hl 2 rfl) ?_
  obtain ⟨G1, e1, h⟩ := bsome h
  refine pC_0_8 F hI hP hS dX5_setFarthest_7 (fun H locs hP hS => ?_)
  have hP := cvP e1 hP
  refine lv_iload_n hx hb dX5_setFarthest_10 rfl (lv_at hl 0 rfl) ?_
  exact wr_end F hP hS hr hk rfl h dX5_setFarthest_11
def f_X6_countWith (G : GT) (a1 : Int32) (a2 : Int32) : Option (Int32 × GT) := (bind2 (f_X5_setHeight G a1 a2) fun r1 G1 => ((f_X6_countAll G1 ).bind fun r2 => (bind2 (f_X5_setHeight G1 a1 r1) fun r3 G3 => some (r2, G3))))
set_option maxRecDepth 100000 in
set_option maxHeartbeats 4000000 in
theorem q_X6_countWith (l : Launch) (D : va_G) (Y : Nat → ClassId) (ad : Nat → Nat) (hI : Inj 90 ad) (G : GT) (a1 : Int32) (a2 : Int32) (r : Int32) (G' : GT) (h : f_X6_countWith G a1 a2 = some (r, G')) : WR l yX6_countWith cX6_countWith 5 (some .int) 7 D Y 90 ad (kC Y ad) G [.ref (ad 79), .int a1, .int a2] r G' := by
  refine W_of (ret := (some .int)) (by decide) (Nat.le_of_ble_eq_true rfl) (lv := [(0, .ref (ad 79)), (1, .int a1), (2, .int a2)]) rfl ?_
  intro p e s m below meth c ls F hP hS hr hk hl
  have F : Fx p c cX6_countWith 5 s m _ RX6 D Y := F
  have hx := F.1.1
  have hb := F.1.2.1
  refine lv_aload_n hx hb dX6_countWith_0 rfl (lv_at hl 0 rfl) ?_
  refine rC_79_0 F hP dX6_countWith_1 ?_
  refine lv_iload_n hx hb dX6_countWith_4 rfl (lv_at hl 1 rfl) ?_
  refine lv_iload_n hx hb dX6_countWith_5 rfl (lv_at hl 2 rfl) ?_
  obtain ⟨r1, G1, e1, h⟩ := bsome2 h
  refine wr_VN F hP hS k_X5_setHeight mw_895 0 6 rfl (wsW_get 0 (by decide)) (q_X5_setHeight l D Y ad hI G a1 a2 r1 G1 e1) rfl hl.1 ⟨Nat.le_of_ble_eq_true rfl, Nat.le_of_ble_eq_true rfl⟩ (rest := []) rfl (Nat.le_of_ble_eq_true rfl) ⟨Nat.le_of_ble_eq_true rfl, Nat.le_of_ble_eq_true rfl⟩ dX6_countWith_6 (fun H locs o1 hP hS => ?_)
  refine lv_istore_n (lv' := [(3, .int r1), (0, .ref (ad 79)), (1, .int a1), (2, .int a2)]) hx hb dX6_countWith_9 rfl hl (by decide) rfl (fun ls hl => ?_)
  refine lv_aload_n hx hb dX6_countWith_10 rfl (lv_at hl 1 rfl) ?_
  obtain ⟨r2, e2, h⟩ := bsome h
  refine rd_V F hP k_X6_countAll mw_896 79 7 rfl (wsW_get 79 (by decide)) (q_X6_countAll l D Y ad G1  r2 e2) rfl hl.1 ⟨Nat.le_of_ble_eq_true rfl, Nat.le_of_ble_eq_true rfl⟩ (rest := []) rfl (Nat.le_of_ble_eq_true rfl) ⟨Nat.le_of_ble_eq_true rfl, Nat.le_of_ble_eq_true rfl⟩ dX6_countWith_11 (fun o2 => ?_)
  refine lv_istore (lv' := [(4, .int r2), (3, .int r1), (0, .ref (ad 79)), (1, .int a1), (2, .int a2)]) hx hb dX6_countWith_14 hl (by decide) rfl (fun ls hl => ?_)
  refine lv_aload_n hx hb dX6_countWith_16 rfl (lv_at hl 2 rfl) ?_
  refine rC_79_0 F hP dX6_countWith_17 ?_
  refine lv_iload_n hx hb dX6_countWith_20 rfl (lv_at hl 3 rfl) ?_
  refine lv_iload_n hx hb dX6_countWith_21 rfl (lv_at hl 1 rfl) ?_
  obtain ⟨r3, G3, e3, h⟩ := bsome2 h
  refine wr_VN F hP hS k_X5_setHeight mw_895 0 6 rfl (wsW_get 0 (by decide)) (q_X5_setHeight l D Y ad hI G1 a1 r1 r3 G3 e3) rfl hl.1 ⟨Nat.le_of_ble_eq_true rfl, Nat.le_of_ble_eq_true rfl⟩ (rest := []) rfl (Nat.le_of_ble_eq_true rfl) ⟨Nat.le_of_ble_eq_true rfl, Nat.le_of_ble_eq_true rfl⟩ dX6_countWith_22 (fun H locs o3 hP hS => ?_)
  refine lv_pop hx hb dX6_countWith_25 rfl ?_
  refine lv_iload hx hb dX6_countWith_26 (lv_at hl 0 rfl) ?_
  exact wr_end F hP hS hr hk rfl h dX6_countWith_28
def f_X1_refuse (G : GT) (a1 : Int32) (a2 : Int32) : Option (Int32 × GT) := ((some (upR G 78 (upd (G 78) 1 a1))).bind fun G1 => ((some (upR G1 78 (upd (G1 78) 2 a2))).bind fun G2 => some ((3 : Int32), G2)))
set_option maxRecDepth 100000 in
set_option maxHeartbeats 4000000 in
theorem q_X1_refuse (l : Launch) (D : va_G) (Y : Nat → ClassId) (ad : Nat → Nat) (hI : Inj 90 ad) (G : GT) (a1 : Int32) (a2 : Int32) (r : Int32) (G' : GT) (h : f_X1_refuse G a1 a2 = some (r, G')) : WR l yX1_refuse cX1_refuse 3 (some .int) 0 D Y 90 ad (kC Y ad) G [.ref (ad 78), .int a1, .int a2] r G' := by
  refine W_of (ret := (some .int)) (by decide) (Nat.le_of_ble_eq_true rfl) (lv := [(0, .ref (ad 78)), (1, .int a1), (2, .int a2)]) rfl ?_
  intro p e s m below meth c ls F hP hS hr hk hl
  have F : Fx p c cX1_refuse 3 s m _ RX1 D Y := F
  have hx := F.1.1
  have hb := F.1.2.1
  refine lv_aload_n hx hb dX1_refuse_0 rfl (lv_at hl 0 rfl) ?_
  refine lv_iload_n hx hb dX1_refuse_1 rfl (lv_at hl 1 rfl) ?_
  obtain ⟨G1, e1, h⟩ := bsome h
  refine pC_78_1 F hI hP hS dX1_refuse_2 (fun H locs hP hS => ?_)
  have hP := cvP e1 hP
  refine lv_aload_n hx hb dX1_refuse_5 rfl (lv_at hl 0 rfl) ?_
  refine lv_iload_n hx hb dX1_refuse_6 rfl (lv_at hl 2 rfl) ?_
  obtain ⟨G2, e2, h⟩ := bsome h
  refine pC_78_2 F hI hP hS dX1_refuse_7 (fun H locs hP hS => ?_)
  have hP := cvP e2 hP
  refine lv_iconst (v := 3) hx hb dX1_refuse_10 (by decide) ?_
  exact wr_end F hP hS hr hk rfl h dX1_refuse_11
def f_X1_verdictOnBar (G : GT) (a1 : Int32) : Option (Int32 × GT) := ((f_X9_isWithin G a1 (2 : Int32) (8 : Int32)).bind fun r1 => (if r1 = 0 then some ((2 : Int32), G) else ((f_X5_countOfBars G ).bind fun r3 => (if (6 : Int32) ≤ r3 then (bind2 (f_X1_refuse G (1 : Int32) (6 : Int32)) fun r5 G5 => some (r5, G5)) else some ((0 : Int32), G)))))
set_option maxRecDepth 100000 in
set_option maxHeartbeats 4000000 in
theorem q_X1_verdictOnBar (l : Launch) (D : va_G) (Y : Nat → ClassId) (ad : Nat → Nat) (hI : Inj 90 ad) (G : GT) (a1 : Int32) (r : Int32) (G' : GT) (h : f_X1_verdictOnBar G a1 = some (r, G')) : WR l yX1_verdictOnBar cX1_verdictOnBar 2 (some .int) 1 D Y 90 ad (kC Y ad) G [.ref (ad 78), .int a1] r G' := by
  refine W_of (ret := (some .int)) (by decide) (Nat.le_of_ble_eq_true rfl) (lv := [(0, .ref (ad 78)), (1, .int a1)]) rfl ?_
  intro p e s m below meth c ls F hP hS hr hk hl
  have F : Fx p c cX1_verdictOnBar 2 s m _ RX1 D Y := F
  have hx := F.1.1
  have hb := F.1.2.1
  refine lv_iload_n hx hb dX1_verdictOnBar_0 rfl (lv_at hl 1 rfl) ?_
  refine lv_iconst (v := 2) hx hb dX1_verdictOnBar_1 (by decide) ?_
  refine lv_bipush (v := 8) hx hb dX1_verdictOnBar_2 (by decide) ?_
  obtain ⟨r1, e1, h⟩ := bsome h
  refine rd_SN F hP k_X9_isWithin mw_260 (q_X9_isWithin l D Y ad G a1 (2 : Int32) (8 : Int32) r1 e1) rfl hl.1 ⟨Nat.le_of_ble_eq_true rfl, Nat.le_of_ble_eq_true rfl⟩ (rest := []) rfl (Nat.le_of_ble_eq_true rfl) ⟨Nat.le_of_ble_eq_true rfl, Nat.le_of_ble_eq_true rfl⟩ dX1_verdictOnBar_4 (fun o1 => ?_)
  refine lv_if_ne (tgt := 12) hx hb dX1_verdictOnBar_7 (by decide) (fun c2 => ?_) (fun c2 => ?_)
  · have h := ifF h c2
    refine lv_aload_n hx hb dX1_verdictOnBar_12 rfl (lv_at hl 0 rfl) ?_
    refine rC_78_0 F hP dX1_verdictOnBar_13 ?_
    obtain ⟨r3, e3, h⟩ := bsome h
    refine rd_VN F hP k_X5_countOfBars mw_263 0 6 rfl (wsW_get 0 (by decide)) (q_X5_countOfBars l D Y ad G  r3 e3) rfl hl.1 ⟨Nat.le_of_ble_eq_true rfl, Nat.le_of_ble_eq_true rfl⟩ (rest := []) rfl (Nat.le_of_ble_eq_true rfl) ⟨Nat.le_of_ble_eq_true rfl, Nat.le_of_ble_eq_true rfl⟩ dX1_verdictOnBar_16 (fun o3 => ?_)
    refine lv_bipush (v := 6) hx hb dX1_verdictOnBar_19 (by decide) ?_
    refine lv_icmp_ge (tgt := 28) hx hb dX1_verdictOnBar_21 (by decide) (fun c4 => ?_) (fun c4 => ?_)
    · have h := ifT h c4
      refine lv_aload_n hx hb dX1_verdictOnBar_28 rfl (lv_at hl 0 rfl) ?_
      refine lv_iconst (v := 1) hx hb dX1_verdictOnBar_29 (by decide) ?_
      refine lv_bipush (v := 6) hx hb dX1_verdictOnBar_30 (by decide) ?_
      obtain ⟨r5, G5, e5, h⟩ := bsome2 h
      refine wr_V F hP hS k_X1_refuse mw_267 78 3 rfl (wsW_get 78 (by decide)) (q_X1_refuse l D Y ad hI G (1 : Int32) (6 : Int32) r5 G5 e5) rfl hl.1 ⟨Nat.le_of_ble_eq_true rfl, Nat.le_of_ble_eq_true rfl⟩ (rest := []) rfl (Nat.le_of_ble_eq_true rfl) ⟨Nat.le_of_ble_eq_true rfl, Nat.le_of_ble_eq_true rfl⟩ dX1_verdictOnBar_32 (fun H locs o5 hP hS => ?_)
      exact wr_end F hP hS hr hk rfl h dX1_verdictOnBar_35
    · have h := ifF h c4
      refine lv_iconst (v := 0) hx hb dX1_verdictOnBar_24 (by decide) ?_
      refine lv_goto (tgt := 35) hx hb dX1_verdictOnBar_25 (by decide) ?_
      exact wr_end F hP hS hr hk rfl h dX1_verdictOnBar_35
  · have h := ifT h c2
    refine lv_iconst (v := 2) hx hb dX1_verdictOnBar_10 (by decide) ?_
    exact wr_end F hP hS hr hk rfl h dX1_verdictOnBar_11
def f_X1_verdictOnTin (G : GT) (a1 : Int32) (a2 : Int32) (a3 : Int32) (a4 : Int32) : Option (Int32 × GT) := ((f_X9_isTin G a1).bind fun r1 => (if r1 = 0 then some ((1 : Int32), G) else ((f_X9_isWithin G a2 (0 : Int32) a4).bind fun r3 => (if r3 = 0 then some ((2 : Int32), G) else (if a2 = a3 then (bind2 (f_X1_refuse G (2 : Int32) a2) fun r6 G6 => some (r6, G6)) else some ((0 : Int32), G))))))
set_option maxRecDepth 100000 in
set_option maxHeartbeats 4000000 in
theorem q_X1_verdictOnTin (l : Launch) (D : va_G) (Y : Nat → ClassId) (ad : Nat → Nat) (hI : Inj 90 ad) (G : GT) (a1 : Int32) (a2 : Int32) (a3 : Int32) (a4 : Int32) (r : Int32) (G' : GT) (h : f_X1_verdictOnTin G a1 a2 a3 a4 = some (r, G')) : WR l yX1_verdictOnTin cX1_verdictOnTin 5 (some .int) 2 D Y 90 ad (kC Y ad) G [.ref (ad 78), .int a1, .int a2, .int a3, .int a4] r G' := by
  refine W_of (ret := (some .int)) (by decide) (Nat.le_of_ble_eq_true rfl) (lv := [(0, .ref (ad 78)), (1, .int a1), (2, .int a2), (3, .int a3), (4, .int a4)]) rfl ?_
  intro p e s m below meth c ls F hP hS hr hk hl
  have F : Fx p c cX1_verdictOnTin 5 s m _ RX1 D Y := F
  have hx := F.1.1
  have hb := F.1.2.1
  refine lv_iload_n hx hb dX1_verdictOnTin_0 rfl (lv_at hl 1 rfl) ?_
  obtain ⟨r1, e1, h⟩ := bsome h
  refine rd_SN F hP k_X9_isTin mw_284 (q_X9_isTin l D Y ad G a1 r1 e1) rfl hl.1 ⟨Nat.le_of_ble_eq_true rfl, Nat.le_of_ble_eq_true rfl⟩ (rest := []) rfl (Nat.le_of_ble_eq_true rfl) ⟨Nat.le_of_ble_eq_true rfl, Nat.le_of_ble_eq_true rfl⟩ dX1_verdictOnTin_1 (fun o1 => ?_)
  refine lv_if_ne (tgt := 9) hx hb dX1_verdictOnTin_4 (by decide) (fun c2 => ?_) (fun c2 => ?_)
  · have h := ifF h c2
    refine lv_iload_n hx hb dX1_verdictOnTin_9 rfl (lv_at hl 2 rfl) ?_
    refine lv_iconst (v := 0) hx hb dX1_verdictOnTin_10 (by decide) ?_
    refine lv_iload hx hb dX1_verdictOnTin_11 (lv_at hl 4 rfl) ?_
    obtain ⟨r3, e3, h⟩ := bsome h
    refine rd_SN F hP k_X9_isWithin mw_260 (q_X9_isWithin l D Y ad G a2 (0 : Int32) a4 r3 e3) rfl hl.1 ⟨Nat.le_of_ble_eq_true rfl, Nat.le_of_ble_eq_true rfl⟩ (rest := []) rfl (Nat.le_of_ble_eq_true rfl) ⟨Nat.le_of_ble_eq_true rfl, Nat.le_of_ble_eq_true rfl⟩ dX1_verdictOnTin_13 (fun o3 => ?_)
    refine lv_if_ne (tgt := 21) hx hb dX1_verdictOnTin_16 (by decide) (fun c4 => ?_) (fun c4 => ?_)
    · have h := ifF h c4
      refine lv_iload_n hx hb dX1_verdictOnTin_21 rfl (lv_at hl 2 rfl) ?_
      refine lv_iload_n hx hb dX1_verdictOnTin_22 rfl (lv_at hl 3 rfl) ?_
      refine lv_icmp_eq (tgt := 30) hx hb dX1_verdictOnTin_23 (by decide) (fun c5 => ?_) (fun c5 => ?_)
      · have h := ifT h c5
        refine lv_aload_n hx hb dX1_verdictOnTin_30 rfl (lv_at hl 0 rfl) ?_
        refine lv_iconst (v := 2) hx hb dX1_verdictOnTin_31 (by decide) ?_
        refine lv_iload_n hx hb dX1_verdictOnTin_32 rfl (lv_at hl 2 rfl) ?_
        obtain ⟨r6, G6, e6, h⟩ := bsome2 h
        refine wr_V F hP hS k_X1_refuse mw_267 78 3 rfl (wsW_get 78 (by decide)) (q_X1_refuse l D Y ad hI G (2 : Int32) a2 r6 G6 e6) rfl hl.1 ⟨Nat.le_of_ble_eq_true rfl, Nat.le_of_ble_eq_true rfl⟩ (rest := []) rfl (Nat.le_of_ble_eq_true rfl) ⟨Nat.le_of_ble_eq_true rfl, Nat.le_of_ble_eq_true rfl⟩ dX1_verdictOnTin_33 (fun H locs o6 hP hS => ?_)
        exact wr_end F hP hS hr hk rfl h dX1_verdictOnTin_36
      · have h := ifF h c5
        refine lv_iconst (v := 0) hx hb dX1_verdictOnTin_26 (by decide) ?_
        refine lv_goto (tgt := 36) hx hb dX1_verdictOnTin_27 (by decide) ?_
        exact wr_end F hP hS hr hk rfl h dX1_verdictOnTin_36
    · have h := ifT h c4
      refine lv_iconst (v := 2) hx hb dX1_verdictOnTin_19 (by decide) ?_
      exact wr_end F hP hS hr hk rfl h dX1_verdictOnTin_20
  · have h := ifT h c2
    refine lv_iconst (v := 1) hx hb dX1_verdictOnTin_7 (by decide) ?_
    exact wr_end F hP hS hr hk rfl h dX1_verdictOnTin_8
def f_X1_verdictOnRoom (G : GT) (a1 : Int32) : Option (Int32 × GT) := ((f_X5_countOfSounds G ).bind fun r1 => (if r1 < (16 : Int32) then ((f_X5_freeBeats G ).bind fun r3 => (if r3 < a1 then (bind2 (f_X1_refuse G (3 : Int32) r3) fun r5 G5 => some (r5, G5)) else some ((0 : Int32), G))) else (bind2 (f_X1_refuse G (1 : Int32) (16 : Int32)) fun r6 G6 => some (r6, G6))))
set_option maxRecDepth 100000 in
set_option maxHeartbeats 4000000 in
theorem q_X1_verdictOnRoom (l : Launch) (D : va_G) (Y : Nat → ClassId) (ad : Nat → Nat) (hI : Inj 90 ad) (G : GT) (a1 : Int32) (r : Int32) (G' : GT) (h : f_X1_verdictOnRoom G a1 = some (r, G')) : WR l yX1_verdictOnRoom cX1_verdictOnRoom 3 (some .int) 2 D Y 90 ad (kC Y ad) G [.ref (ad 78), .int a1] r G' := by
  refine W_of (ret := (some .int)) (by decide) (Nat.le_of_ble_eq_true rfl) (lv := [(0, .ref (ad 78)), (1, .int a1)]) rfl ?_
  intro p e s m below meth c ls F hP hS hr hk hl
  have F : Fx p c cX1_verdictOnRoom 3 s m _ RX1 D Y := F
  have hx := F.1.1
  have hb := F.1.2.1
  refine lv_aload_n hx hb dX1_verdictOnRoom_0 rfl (lv_at hl 0 rfl) ?_
  refine rC_78_0 F hP dX1_verdictOnRoom_1 ?_
  obtain ⟨r1, e1, h⟩ := bsome h
  refine rd_VN F hP k_X5_countOfSounds mw_304 0 6 rfl (wsW_get 0 (by decide)) (q_X5_countOfSounds l D Y ad G  r1 e1) rfl hl.1 ⟨Nat.le_of_ble_eq_true rfl, Nat.le_of_ble_eq_true rfl⟩ (rest := []) rfl (Nat.le_of_ble_eq_true rfl) ⟨Nat.le_of_ble_eq_true rfl, Nat.le_of_ble_eq_true rfl⟩ dX1_verdictOnRoom_4 (fun o1 => ?_)
  refine lv_bipush (v := 16) hx hb dX1_verdictOnRoom_7 (by decide) ?_
  refine lv_icmp_lt (tgt := 20) hx hb dX1_verdictOnRoom_9 (by decide) (fun c2 => ?_) (fun c2 => ?_)
  · have h := ifT h c2
    refine lv_aload_n hx hb dX1_verdictOnRoom_20 rfl (lv_at hl 0 rfl) ?_
    refine rC_78_0 F hP dX1_verdictOnRoom_21 ?_
    obtain ⟨r3, e3, h⟩ := bsome h
    refine rd_VN F hP k_X5_freeBeats mw_308 0 6 rfl (wsW_get 0 (by decide)) (q_X5_freeBeats l D Y ad G  r3 e3) rfl hl.1 ⟨Nat.le_of_ble_eq_true rfl, Nat.le_of_ble_eq_true rfl⟩ (rest := []) rfl (Nat.le_of_ble_eq_true rfl) ⟨Nat.le_of_ble_eq_true rfl, Nat.le_of_ble_eq_true rfl⟩ dX1_verdictOnRoom_24 (fun o3 => ?_)
    refine lv_istore_n (lv' := [(2, .int r3), (0, .ref (ad 78)), (1, .int a1)]) hx hb dX1_verdictOnRoom_27 rfl hl (by decide) rfl (fun ls hl => ?_)
    refine lv_iload_n hx hb dX1_verdictOnRoom_28 rfl (lv_at hl 2 rfl) ?_
    refine lv_iload_n hx hb dX1_verdictOnRoom_29 rfl (lv_at hl 0 rfl) ?_
    refine lv_icmp_gt (tgt := 37) hx hb dX1_verdictOnRoom_30 (by decide) (fun c4 => ?_) (fun c4 => ?_)
    · have h := ifT h c4
      refine lv_aload_n hx hb dX1_verdictOnRoom_37 rfl (lv_at hl 1 rfl) ?_
      refine lv_iconst (v := 3) hx hb dX1_verdictOnRoom_38 (by decide) ?_
      refine lv_iload_n hx hb dX1_verdictOnRoom_39 rfl (lv_at hl 0 rfl) ?_
      obtain ⟨r5, G5, e5, h⟩ := bsome2 h
      refine wr_V F hP hS k_X1_refuse mw_267 78 3 rfl (wsW_get 78 (by decide)) (q_X1_refuse l D Y ad hI G (3 : Int32) r3 r5 G5 e5) rfl hl.1 ⟨Nat.le_of_ble_eq_true rfl, Nat.le_of_ble_eq_true rfl⟩ (rest := []) rfl (Nat.le_of_ble_eq_true rfl) ⟨Nat.le_of_ble_eq_true rfl, Nat.le_of_ble_eq_true rfl⟩ dX1_verdictOnRoom_40 (fun H locs o5 hP hS => ?_)
      exact wr_end F hP hS hr hk rfl h dX1_verdictOnRoom_43
    · have h := ifF h c4
      refine lv_iconst (v := 0) hx hb dX1_verdictOnRoom_33 (by decide) ?_
      refine lv_goto (tgt := 43) hx hb dX1_verdictOnRoom_34 (by decide) ?_
      exact wr_end F hP hS hr hk rfl h dX1_verdictOnRoom_43
  · have h := ifF h c2
    refine lv_aload_n hx hb dX1_verdictOnRoom_12 rfl (lv_at hl 0 rfl) ?_
    refine lv_iconst (v := 1) hx hb dX1_verdictOnRoom_13 (by decide) ?_
    refine lv_bipush (v := 16) hx hb dX1_verdictOnRoom_14 (by decide) ?_
    obtain ⟨r6, G6, e6, h⟩ := bsome2 h
    refine wr_V F hP hS k_X1_refuse mw_267 78 3 rfl (wsW_get 78 (by decide)) (q_X1_refuse l D Y ad hI G (1 : Int32) (16 : Int32) r6 G6 e6) rfl hl.1 ⟨Nat.le_of_ble_eq_true rfl, Nat.le_of_ble_eq_true rfl⟩ (rest := []) rfl (Nat.le_of_ble_eq_true rfl) ⟨Nat.le_of_ble_eq_true rfl, Nat.le_of_ble_eq_true rfl⟩ dX1_verdictOnRoom_16 (fun H locs o6 hP hS => ?_)
    exact wr_end F hP hS hr hk rfl h dX1_verdictOnRoom_19
def f_X1_verdictOnDrop (G : GT) (a1 : Int32) (a2 : Int32) (a3 : Int32) : Option (Int32 × GT) := ((f_X9_isTin G a1).bind fun r1 => (if r1 = 0 then some ((1 : Int32), G) else ((f_X9_isWithin G a2 (0 : Int32) (9 : Int32)).bind fun r3 => (if r3 = 0 then some ((2 : Int32), G) else ((f_X9_isWithin G a3 (1 : Int32) (8 : Int32)).bind fun r5 => (if r5 = 0 then some ((2 : Int32), G) else (bind2 (f_X1_verdictOnRoom G a3) fun r7 G7 => some (r7, G7))))))))
set_option maxRecDepth 100000 in
set_option maxHeartbeats 4000000 in
theorem q_X1_verdictOnDrop (l : Launch) (D : va_G) (Y : Nat → ClassId) (ad : Nat → Nat) (hI : Inj 90 ad) (G : GT) (a1 : Int32) (a2 : Int32) (a3 : Int32) (r : Int32) (G' : GT) (h : f_X1_verdictOnDrop G a1 a2 a3 = some (r, G')) : WR l yX1_verdictOnDrop cX1_verdictOnDrop 4 (some .int) 3 D Y 90 ad (kC Y ad) G [.ref (ad 78), .int a1, .int a2, .int a3] r G' := by
  refine W_of (ret := (some .int)) (by decide) (Nat.le_of_ble_eq_true rfl) (lv := [(0, .ref (ad 78)), (1, .int a1), (2, .int a2), (3, .int a3)]) rfl ?_
  intro p e s m below meth c ls F hP hS hr hk hl
  have F : Fx p c cX1_verdictOnDrop 4 s m _ RX1 D Y := F
  have hx := F.1.1
  have hb := F.1.2.1
  refine lv_iload_n hx hb dX1_verdictOnDrop_0 rfl (lv_at hl 1 rfl) ?_
  obtain ⟨r1, e1, h⟩ := bsome h
  refine rd_SN F hP k_X9_isTin mw_284 (q_X9_isTin l D Y ad G a1 r1 e1) rfl hl.1 ⟨Nat.le_of_ble_eq_true rfl, Nat.le_of_ble_eq_true rfl⟩ (rest := []) rfl (Nat.le_of_ble_eq_true rfl) ⟨Nat.le_of_ble_eq_true rfl, Nat.le_of_ble_eq_true rfl⟩ dX1_verdictOnDrop_1 (fun o1 => ?_)
  refine lv_if_ne (tgt := 9) hx hb dX1_verdictOnDrop_4 (by decide) (fun c2 => ?_) (fun c2 => ?_)
  · have h := ifF h c2
    refine lv_iload_n hx hb dX1_verdictOnDrop_9 rfl (lv_at hl 2 rfl) ?_
    refine lv_iconst (v := 0) hx hb dX1_verdictOnDrop_10 (by decide) ?_
    refine lv_bipush (v := 9) hx hb dX1_verdictOnDrop_11 (by decide) ?_
    obtain ⟨r3, e3, h⟩ := bsome h
    refine rd_SN F hP k_X9_isWithin mw_260 (q_X9_isWithin l D Y ad G a2 (0 : Int32) (9 : Int32) r3 e3) rfl hl.1 ⟨Nat.le_of_ble_eq_true rfl, Nat.le_of_ble_eq_true rfl⟩ (rest := []) rfl (Nat.le_of_ble_eq_true rfl) ⟨Nat.le_of_ble_eq_true rfl, Nat.le_of_ble_eq_true rfl⟩ dX1_verdictOnDrop_13 (fun o3 => ?_)
    refine lv_if_eq (tgt := 29) hx hb dX1_verdictOnDrop_16 (by decide) (fun c4 => ?_) (fun c4 => ?_)
    · have h := ifT h c4
      refine lv_iconst (v := 2) hx hb dX1_verdictOnDrop_29 (by decide) ?_
      exact wr_end F hP hS hr hk rfl h dX1_verdictOnDrop_30
    · have h := ifF h c4
      refine lv_iload_n hx hb dX1_verdictOnDrop_19 rfl (lv_at hl 3 rfl) ?_
      refine lv_iconst (v := 1) hx hb dX1_verdictOnDrop_20 (by decide) ?_
      refine lv_bipush (v := 8) hx hb dX1_verdictOnDrop_21 (by decide) ?_
      obtain ⟨r5, e5, h⟩ := bsome h
      refine rd_SN F hP k_X9_isWithin mw_260 (q_X9_isWithin l D Y ad G a3 (1 : Int32) (8 : Int32) r5 e5) rfl hl.1 ⟨Nat.le_of_ble_eq_true rfl, Nat.le_of_ble_eq_true rfl⟩ (rest := []) rfl (Nat.le_of_ble_eq_true rfl) ⟨Nat.le_of_ble_eq_true rfl, Nat.le_of_ble_eq_true rfl⟩ dX1_verdictOnDrop_23 (fun o5 => ?_)
      refine lv_if_ne (tgt := 31) hx hb dX1_verdictOnDrop_26 (by decide) (fun c6 => ?_) (fun c6 => ?_)
      · have h := ifF h c6
        refine lv_aload_n hx hb dX1_verdictOnDrop_31 rfl (lv_at hl 0 rfl) ?_
        refine lv_iload_n hx hb dX1_verdictOnDrop_32 rfl (lv_at hl 3 rfl) ?_
        obtain ⟨r7, G7, e7, h⟩ := bsome2 h
        refine wr_V F hP hS k_X1_verdictOnRoom mw_300 78 3 rfl (wsW_get 78 (by decide)) (q_X1_verdictOnRoom l D Y ad hI G a3 r7 G7 e7) rfl hl.1 ⟨Nat.le_of_ble_eq_true rfl, Nat.le_of_ble_eq_true rfl⟩ (rest := []) rfl (Nat.le_of_ble_eq_true rfl) ⟨Nat.le_of_ble_eq_true rfl, Nat.le_of_ble_eq_true rfl⟩ dX1_verdictOnDrop_33 (fun H locs o7 hP hS => ?_)
        exact wr_end F hP hS hr hk rfl h dX1_verdictOnDrop_36
      · have h := ifT h c6
        refine lv_iconst (v := 2) hx hb dX1_verdictOnDrop_29 (by decide) ?_
        exact wr_end F hP hS hr hk rfl h dX1_verdictOnDrop_30
  · have h := ifT h c2
    refine lv_iconst (v := 1) hx hb dX1_verdictOnDrop_7 (by decide) ?_
    exact wr_end F hP hS hr hk rfl h dX1_verdictOnDrop_8
def f_X1_verdictOnRest (G : GT) (a1 : Int32) : Option (Int32 × GT) := ((f_X9_isTin G a1).bind fun r1 => (if r1 = 0 then some ((1 : Int32), G) else ((f_X5_leakOf G a1).bind fun r3 => (if r3 = 0 then ((f_X5_keyOf G a1).bind fun r7 => (bind2 (f_X1_refuse G (4 : Int32) r7) fun r8 G8 => some (r8, G8))) else ((f_X5_leakOf G a1).bind fun r5 => (bind2 (f_X1_verdictOnRoom G r5) fun r6 G6 => some (r6, G6)))))))
set_option maxRecDepth 100000 in
set_option maxHeartbeats 4000000 in
theorem q_X1_verdictOnRest (l : Launch) (D : va_G) (Y : Nat → ClassId) (ad : Nat → Nat) (hI : Inj 90 ad) (G : GT) (a1 : Int32) (r : Int32) (G' : GT) (h : f_X1_verdictOnRest G a1 = some (r, G')) : WR l yX1_verdictOnRest cX1_verdictOnRest 2 (some .int) 3 D Y 90 ad (kC Y ad) G [.ref (ad 78), .int a1] r G' := by
  refine W_of (ret := (some .int)) (by decide) (Nat.le_of_ble_eq_true rfl) (lv := [(0, .ref (ad 78)), (1, .int a1)]) rfl ?_
  intro p e s m below meth c ls F hP hS hr hk hl
  have F : Fx p c cX1_verdictOnRest 2 s m _ RX1 D Y := F
  have hx := F.1.1
  have hb := F.1.2.1
  refine lv_iload_n hx hb dX1_verdictOnRest_0 rfl (lv_at hl 1 rfl) ?_
  obtain ⟨r1, e1, h⟩ := bsome h
  refine rd_SN F hP k_X9_isTin mw_284 (q_X9_isTin l D Y ad G a1 r1 e1) rfl hl.1 ⟨Nat.le_of_ble_eq_true rfl, Nat.le_of_ble_eq_true rfl⟩ (rest := []) rfl (Nat.le_of_ble_eq_true rfl) ⟨Nat.le_of_ble_eq_true rfl, Nat.le_of_ble_eq_true rfl⟩ dX1_verdictOnRest_1 (fun o1 => ?_)
  refine lv_if_ne (tgt := 9) hx hb dX1_verdictOnRest_4 (by decide) (fun c2 => ?_) (fun c2 => ?_)
  · have h := ifF h c2
    refine lv_aload_n hx hb dX1_verdictOnRest_9 rfl (lv_at hl 0 rfl) ?_
    refine rC_78_0 F hP dX1_verdictOnRest_10 ?_
    refine lv_iload_n hx hb dX1_verdictOnRest_13 rfl (lv_at hl 1 rfl) ?_
    obtain ⟨r3, e3, h⟩ := bsome h
    refine rd_VN F hP k_X5_leakOf mw_290 0 6 rfl (wsW_get 0 (by decide)) (q_X5_leakOf l D Y ad G a1 r3 e3) rfl hl.1 ⟨Nat.le_of_ble_eq_true rfl, Nat.le_of_ble_eq_true rfl⟩ (rest := []) rfl (Nat.le_of_ble_eq_true rfl) ⟨Nat.le_of_ble_eq_true rfl, Nat.le_of_ble_eq_true rfl⟩ dX1_verdictOnRest_14 (fun o3 => ?_)
    refine lv_if_ne (tgt := 34) hx hb dX1_verdictOnRest_17 (by decide) (fun c4 => ?_) (fun c4 => ?_)
    · have h := ifF h c4
      refine lv_aload_n hx hb dX1_verdictOnRest_34 rfl (lv_at hl 0 rfl) ?_
      refine lv_aload_n hx hb dX1_verdictOnRest_35 rfl (lv_at hl 0 rfl) ?_
      refine rC_78_0 F hP dX1_verdictOnRest_36 ?_
      refine lv_iload_n hx hb dX1_verdictOnRest_39 rfl (lv_at hl 1 rfl) ?_
      obtain ⟨r5, e5, h⟩ := bsome h
      refine rd_VN F hP k_X5_leakOf mw_290 0 6 rfl (wsW_get 0 (by decide)) (q_X5_leakOf l D Y ad G a1 r5 e5) rfl hl.1 ⟨Nat.le_of_ble_eq_true rfl, Nat.le_of_ble_eq_true rfl⟩ (rest := [.ref (ad 78)]) rfl (Nat.le_of_ble_eq_true rfl) ⟨Nat.le_of_ble_eq_true rfl, Nat.le_of_ble_eq_true rfl⟩ dX1_verdictOnRest_40 (fun o5 => ?_)
      obtain ⟨r6, G6, e6, h⟩ := bsome2 h
      refine wr_V F hP hS k_X1_verdictOnRoom mw_300 78 3 rfl (wsW_get 78 (by decide)) (q_X1_verdictOnRoom l D Y ad hI G r5 r6 G6 e6) rfl hl.1 ⟨Nat.le_of_ble_eq_true rfl, Nat.le_of_ble_eq_true rfl⟩ (rest := []) rfl (Nat.le_of_ble_eq_true rfl) ⟨Nat.le_of_ble_eq_true rfl, Nat.le_of_ble_eq_true rfl⟩ dX1_verdictOnRest_43 (fun H locs o6 hP hS => ?_)
      exact wr_end F hP hS hr hk rfl h dX1_verdictOnRest_46
    · have h := ifT h c4
      refine lv_aload_n hx hb dX1_verdictOnRest_20 rfl (lv_at hl 0 rfl) ?_
      refine lv_iconst (v := 4) hx hb dX1_verdictOnRest_21 (by decide) ?_
      refine lv_aload_n hx hb dX1_verdictOnRest_22 rfl (lv_at hl 0 rfl) ?_
      refine rC_78_0 F hP dX1_verdictOnRest_23 ?_
      refine lv_iload_n hx hb dX1_verdictOnRest_26 rfl (lv_at hl 1 rfl) ?_
      obtain ⟨r7, e7, h⟩ := bsome h
      refine rd_VN F hP k_X5_keyOf mw_273 0 6 rfl (wsW_get 0 (by decide)) (q_X5_keyOf l D Y ad G a1 r7 e7) rfl hl.1 ⟨Nat.le_of_ble_eq_true rfl, Nat.le_of_ble_eq_true rfl⟩ (rest := [.int ((4 : Int32)), .ref (ad 78)]) rfl (Nat.le_of_ble_eq_true rfl) ⟨Nat.le_of_ble_eq_true rfl, Nat.le_of_ble_eq_true rfl⟩ dX1_verdictOnRest_27 (fun o7 => ?_)
      obtain ⟨r8, G8, e8, h⟩ := bsome2 h
      refine wr_V F hP hS k_X1_refuse mw_267 78 3 rfl (wsW_get 78 (by decide)) (q_X1_refuse l D Y ad hI G (4 : Int32) r7 r8 G8 e8) rfl hl.1 ⟨Nat.le_of_ble_eq_true rfl, Nat.le_of_ble_eq_true rfl⟩ (rest := []) rfl (Nat.le_of_ble_eq_true rfl) ⟨Nat.le_of_ble_eq_true rfl, Nat.le_of_ble_eq_true rfl⟩ dX1_verdictOnRest_30 (fun H locs o8 hP hS => ?_)
      exact wr_end F hP hS hr hk rfl h dX1_verdictOnRest_33
  · have h := ifT h c2
    refine lv_iconst (v := 1) hx hb dX1_verdictOnRest_7 (by decide) ?_
    exact wr_end F hP hS hr hk rfl h dX1_verdictOnRest_8
def f_X1_verdictOnLimit (G : GT) (a1 : Int32) : Option (Int32 × GT) := ((f_X9_isWithin G a1 (1 : Int32) (11 : Int32)).bind fun r1 => (if r1 = 0 then some ((2 : Int32), G) else ((f_X5_limitNow G ).bind fun r3 => (if a1 = r3 then (bind2 (f_X1_refuse G (2 : Int32) a1) fun r5 G5 => some (r5, G5)) else some ((0 : Int32), G)))))
set_option maxRecDepth 100000 in
set_option maxHeartbeats 4000000 in
theorem q_X1_verdictOnLimit (l : Launch) (D : va_G) (Y : Nat → ClassId) (ad : Nat → Nat) (hI : Inj 90 ad) (G : GT) (a1 : Int32) (r : Int32) (G' : GT) (h : f_X1_verdictOnLimit G a1 = some (r, G')) : WR l yX1_verdictOnLimit cX1_verdictOnLimit 2 (some .int) 1 D Y 90 ad (kC Y ad) G [.ref (ad 78), .int a1] r G' := by
  refine W_of (ret := (some .int)) (by decide) (Nat.le_of_ble_eq_true rfl) (lv := [(0, .ref (ad 78)), (1, .int a1)]) rfl ?_
  intro p e s m below meth c ls F hP hS hr hk hl
  have F : Fx p c cX1_verdictOnLimit 2 s m _ RX1 D Y := F
  have hx := F.1.1
  have hb := F.1.2.1
  refine lv_iload_n hx hb dX1_verdictOnLimit_0 rfl (lv_at hl 1 rfl) ?_
  refine lv_iconst (v := 1) hx hb dX1_verdictOnLimit_1 (by decide) ?_
  refine lv_bipush (v := 11) hx hb dX1_verdictOnLimit_2 (by decide) ?_
  obtain ⟨r1, e1, h⟩ := bsome h
  refine rd_SN F hP k_X9_isWithin mw_260 (q_X9_isWithin l D Y ad G a1 (1 : Int32) (11 : Int32) r1 e1) rfl hl.1 ⟨Nat.le_of_ble_eq_true rfl, Nat.le_of_ble_eq_true rfl⟩ (rest := []) rfl (Nat.le_of_ble_eq_true rfl) ⟨Nat.le_of_ble_eq_true rfl, Nat.le_of_ble_eq_true rfl⟩ dX1_verdictOnLimit_4 (fun o1 => ?_)
  refine lv_if_ne (tgt := 12) hx hb dX1_verdictOnLimit_7 (by decide) (fun c2 => ?_) (fun c2 => ?_)
  · have h := ifF h c2
    refine lv_iload_n hx hb dX1_verdictOnLimit_12 rfl (lv_at hl 1 rfl) ?_
    refine lv_aload_n hx hb dX1_verdictOnLimit_13 rfl (lv_at hl 0 rfl) ?_
    refine rC_78_0 F hP dX1_verdictOnLimit_14 ?_
    obtain ⟨r3, e3, h⟩ := bsome h
    refine rd_VN F hP k_X5_limitNow mw_334 0 6 rfl (wsW_get 0 (by decide)) (q_X5_limitNow l D Y ad G  r3 e3) rfl hl.1 ⟨Nat.le_of_ble_eq_true rfl, Nat.le_of_ble_eq_true rfl⟩ (rest := [.int a1]) rfl (Nat.le_of_ble_eq_true rfl) ⟨Nat.le_of_ble_eq_true rfl, Nat.le_of_ble_eq_true rfl⟩ dX1_verdictOnLimit_17 (fun o3 => ?_)
    refine lv_icmp_eq (tgt := 27) hx hb dX1_verdictOnLimit_20 (by decide) (fun c4 => ?_) (fun c4 => ?_)
    · have h := ifT h c4
      refine lv_aload_n hx hb dX1_verdictOnLimit_27 rfl (lv_at hl 0 rfl) ?_
      refine lv_iconst (v := 2) hx hb dX1_verdictOnLimit_28 (by decide) ?_
      refine lv_iload_n hx hb dX1_verdictOnLimit_29 rfl (lv_at hl 1 rfl) ?_
      obtain ⟨r5, G5, e5, h⟩ := bsome2 h
      refine wr_V F hP hS k_X1_refuse mw_267 78 3 rfl (wsW_get 78 (by decide)) (q_X1_refuse l D Y ad hI G (2 : Int32) a1 r5 G5 e5) rfl hl.1 ⟨Nat.le_of_ble_eq_true rfl, Nat.le_of_ble_eq_true rfl⟩ (rest := []) rfl (Nat.le_of_ble_eq_true rfl) ⟨Nat.le_of_ble_eq_true rfl, Nat.le_of_ble_eq_true rfl⟩ dX1_verdictOnLimit_30 (fun H locs o5 hP hS => ?_)
      exact wr_end F hP hS hr hk rfl h dX1_verdictOnLimit_33
    · have h := ifF h c4
      refine lv_iconst (v := 0) hx hb dX1_verdictOnLimit_23 (by decide) ?_
      refine lv_goto (tgt := 33) hx hb dX1_verdictOnLimit_24 (by decide) ?_
      exact wr_end F hP hS hr hk rfl h dX1_verdictOnLimit_33
  · have h := ifT h c2
    refine lv_iconst (v := 2) hx hb dX1_verdictOnLimit_10 (by decide) ?_
    exact wr_end F hP hS hr hk rfl h dX1_verdictOnLimit_11
def f_X1_verdictOnTune (G : GT) (a1 : Int32) (a2 : Int32) : Option (Int32 × GT) := ((f_X5_hasSound G a1).bind fun r1 => (if r1 = 0 then some ((1 : Int32), G) else ((f_X9_isWithin G a2 (0 : Int32) (9 : Int32)).bind fun r3 => (if r3 = 0 then some ((2 : Int32), G) else ((f_X5_isRest G a1).bind fun r5 => (if r5 = 0 then ((f_X5_heightOf G a1).bind fun r7 => (if a2 = r7 then (bind2 (f_X1_refuse G (2 : Int32) a2) fun r9 G9 => some (r9, G9)) else some ((0 : Int32), G))) else ((f_X5_beatsOf G a1).bind fun r10 => (bind2 (f_X1_refuse G (6 : Int32) r10) fun r11 G11 => some (r11, G11)))))))))
set_option maxRecDepth 100000 in
set_option maxHeartbeats 4000000 in
theorem q_X1_verdictOnTune (l : Launch) (D : va_G) (Y : Nat → ClassId) (ad : Nat → Nat) (hI : Inj 90 ad) (G : GT) (a1 : Int32) (a2 : Int32) (r : Int32) (G' : GT) (h : f_X1_verdictOnTune G a1 a2 = some (r, G')) : WR l yX1_verdictOnTune cX1_verdictOnTune 3 (some .int) 3 D Y 90 ad (kC Y ad) G [.ref (ad 78), .int a1, .int a2] r G' := by
  refine W_of (ret := (some .int)) (by decide) (Nat.le_of_ble_eq_true rfl) (lv := [(0, .ref (ad 78)), (1, .int a1), (2, .int a2)]) rfl ?_
  intro p e s m below meth c ls F hP hS hr hk hl
  have F : Fx p c cX1_verdictOnTune 3 s m _ RX1 D Y := F
  have hx := F.1.1
  have hb := F.1.2.1
  refine lv_aload_n hx hb dX1_verdictOnTune_0 rfl (lv_at hl 0 rfl) ?_
  refine rC_78_0 F hP dX1_verdictOnTune_1 ?_
  refine lv_iload_n hx hb dX1_verdictOnTune_4 rfl (lv_at hl 1 rfl) ?_
  obtain ⟨r1, e1, h⟩ := bsome h
  refine rd_VN F hP k_X5_hasSound mw_344 0 6 rfl (wsW_get 0 (by decide)) (q_X5_hasSound l D Y ad G a1 r1 e1) rfl hl.1 ⟨Nat.le_of_ble_eq_true rfl, Nat.le_of_ble_eq_true rfl⟩ (rest := []) rfl (Nat.le_of_ble_eq_true rfl) ⟨Nat.le_of_ble_eq_true rfl, Nat.le_of_ble_eq_true rfl⟩ dX1_verdictOnTune_5 (fun o1 => ?_)
  refine lv_if_ne (tgt := 13) hx hb dX1_verdictOnTune_8 (by decide) (fun c2 => ?_) (fun c2 => ?_)
  · have h := ifF h c2
    refine lv_iload_n hx hb dX1_verdictOnTune_13 rfl (lv_at hl 2 rfl) ?_
    refine lv_iconst (v := 0) hx hb dX1_verdictOnTune_14 (by decide) ?_
    refine lv_bipush (v := 9) hx hb dX1_verdictOnTune_15 (by decide) ?_
    obtain ⟨r3, e3, h⟩ := bsome h
    refine rd_SN F hP k_X9_isWithin mw_260 (q_X9_isWithin l D Y ad G a2 (0 : Int32) (9 : Int32) r3 e3) rfl hl.1 ⟨Nat.le_of_ble_eq_true rfl, Nat.le_of_ble_eq_true rfl⟩ (rest := []) rfl (Nat.le_of_ble_eq_true rfl) ⟨Nat.le_of_ble_eq_true rfl, Nat.le_of_ble_eq_true rfl⟩ dX1_verdictOnTune_17 (fun o3 => ?_)
    refine lv_if_ne (tgt := 25) hx hb dX1_verdictOnTune_20 (by decide) (fun c4 => ?_) (fun c4 => ?_)
    · have h := ifF h c4
      refine lv_aload_n hx hb dX1_verdictOnTune_25 rfl (lv_at hl 0 rfl) ?_
      refine rC_78_0 F hP dX1_verdictOnTune_26 ?_
      refine lv_iload_n hx hb dX1_verdictOnTune_29 rfl (lv_at hl 1 rfl) ?_
      obtain ⟨r5, e5, h⟩ := bsome h
      refine rd_VN F hP k_X5_isRest mw_349 0 6 rfl (wsW_get 0 (by decide)) (q_X5_isRest l D Y ad G a1 r5 e5) rfl hl.1 ⟨Nat.le_of_ble_eq_true rfl, Nat.le_of_ble_eq_true rfl⟩ (rest := []) rfl (Nat.le_of_ble_eq_true rfl) ⟨Nat.le_of_ble_eq_true rfl, Nat.le_of_ble_eq_true rfl⟩ dX1_verdictOnTune_30 (fun o5 => ?_)
      refine lv_if_eq (tgt := 51) hx hb dX1_verdictOnTune_33 (by decide) (fun c6 => ?_) (fun c6 => ?_)
      · have h := ifT h c6
        refine lv_iload_n hx hb dX1_verdictOnTune_51 rfl (lv_at hl 2 rfl) ?_
        refine lv_aload_n hx hb dX1_verdictOnTune_52 rfl (lv_at hl 0 rfl) ?_
        refine rC_78_0 F hP dX1_verdictOnTune_53 ?_
        refine lv_iload_n hx hb dX1_verdictOnTune_56 rfl (lv_at hl 1 rfl) ?_
        obtain ⟨r7, e7, h⟩ := bsome h
        refine rd_VN F hP k_X5_heightOf mw_357 0 6 rfl (wsW_get 0 (by decide)) (q_X5_heightOf l D Y ad G a1 r7 e7) rfl hl.1 ⟨Nat.le_of_ble_eq_true rfl, Nat.le_of_ble_eq_true rfl⟩ (rest := [.int a2]) rfl (Nat.le_of_ble_eq_true rfl) ⟨Nat.le_of_ble_eq_true rfl, Nat.le_of_ble_eq_true rfl⟩ dX1_verdictOnTune_57 (fun o7 => ?_)
        refine lv_icmp_eq (tgt := 67) hx hb dX1_verdictOnTune_60 (by decide) (fun c8 => ?_) (fun c8 => ?_)
        · have h := ifT h c8
          refine lv_aload_n hx hb dX1_verdictOnTune_67 rfl (lv_at hl 0 rfl) ?_
          refine lv_iconst (v := 2) hx hb dX1_verdictOnTune_68 (by decide) ?_
          refine lv_iload_n hx hb dX1_verdictOnTune_69 rfl (lv_at hl 2 rfl) ?_
          obtain ⟨r9, G9, e9, h⟩ := bsome2 h
          refine wr_V F hP hS k_X1_refuse mw_267 78 3 rfl (wsW_get 78 (by decide)) (q_X1_refuse l D Y ad hI G (2 : Int32) a2 r9 G9 e9) rfl hl.1 ⟨Nat.le_of_ble_eq_true rfl, Nat.le_of_ble_eq_true rfl⟩ (rest := []) rfl (Nat.le_of_ble_eq_true rfl) ⟨Nat.le_of_ble_eq_true rfl, Nat.le_of_ble_eq_true rfl⟩ dX1_verdictOnTune_70 (fun H locs o9 hP hS => ?_)
          exact wr_end F hP hS hr hk rfl h dX1_verdictOnTune_73
        · have h := ifF h c8
          refine lv_iconst (v := 0) hx hb dX1_verdictOnTune_63 (by decide) ?_
          refine lv_goto (tgt := 73) hx hb dX1_verdictOnTune_64 (by decide) ?_
          exact wr_end F hP hS hr hk rfl h dX1_verdictOnTune_73
      · have h := ifF h c6
        refine lv_aload_n hx hb dX1_verdictOnTune_36 rfl (lv_at hl 0 rfl) ?_
        refine lv_bipush (v := 6) hx hb dX1_verdictOnTune_37 (by decide) ?_
        refine lv_aload_n hx hb dX1_verdictOnTune_39 rfl (lv_at hl 0 rfl) ?_
        refine rC_78_0 F hP dX1_verdictOnTune_40 ?_
        refine lv_iload_n hx hb dX1_verdictOnTune_43 rfl (lv_at hl 1 rfl) ?_
        obtain ⟨r10, e10, h⟩ := bsome h
        refine rd_VN F hP k_X5_beatsOf mw_353 0 6 rfl (wsW_get 0 (by decide)) (q_X5_beatsOf l D Y ad G a1 r10 e10) rfl hl.1 ⟨Nat.le_of_ble_eq_true rfl, Nat.le_of_ble_eq_true rfl⟩ (rest := [.int ((6 : Int32)), .ref (ad 78)]) rfl (Nat.le_of_ble_eq_true rfl) ⟨Nat.le_of_ble_eq_true rfl, Nat.le_of_ble_eq_true rfl⟩ dX1_verdictOnTune_44 (fun o10 => ?_)
        obtain ⟨r11, G11, e11, h⟩ := bsome2 h
        refine wr_V F hP hS k_X1_refuse mw_267 78 3 rfl (wsW_get 78 (by decide)) (q_X1_refuse l D Y ad hI G (6 : Int32) r10 r11 G11 e11) rfl hl.1 ⟨Nat.le_of_ble_eq_true rfl, Nat.le_of_ble_eq_true rfl⟩ (rest := []) rfl (Nat.le_of_ble_eq_true rfl) ⟨Nat.le_of_ble_eq_true rfl, Nat.le_of_ble_eq_true rfl⟩ dX1_verdictOnTune_47 (fun H locs o11 hP hS => ?_)
        exact wr_end F hP hS hr hk rfl h dX1_verdictOnTune_50
    · have h := ifT h c4
      refine lv_iconst (v := 2) hx hb dX1_verdictOnTune_23 (by decide) ?_
      exact wr_end F hP hS hr hk rfl h dX1_verdictOnTune_24
  · have h := ifT h c2
    refine lv_iconst (v := 1) hx hb dX1_verdictOnTune_11 (by decide) ?_
    exact wr_end F hP hS hr hk rfl h dX1_verdictOnTune_12
def f_X2_addSign (G : GT) (a1 : Int32) : Option (GT) := (if (G 82 2) < 0 then some G else (if (nI 32) ≤ (G 82 2) then some G else (if inb (G 82 2) 32 then ((some (upR G 83 (upd (G 83) (G 82 2).toNatClampNeg (vp_nar .char a1)))).bind fun G4 => ((some (upR G4 82 (upd (G4 82) 2 ((G4 82 2) + (1 : Int32))))).bind fun G5 => some G5)) else none)))
set_option maxRecDepth 100000 in
set_option maxHeartbeats 4000000 in
theorem q_X2_addSign (l : Launch) (D : va_G) (Y : Nat → ClassId) (ad : Nat → Nat) (hI : Inj 90 ad) (G : GT) (a1 : Int32) (G' : GT) (h : f_X2_addSign G a1 = some G') : WV l yX2_addSign cX2_addSign 2 0 D Y 90 ad (kC Y ad) G [.ref (ad 82), .int a1] G' := by
  refine W_of (ret := none) (by decide) (Nat.le_of_ble_eq_true rfl) (lv := [(0, .ref (ad 82)), (1, .int a1)]) rfl ?_
  intro p e s m below meth c ls F hP hS hr hk hl
  have F : Fx p c cX2_addSign 2 s m _ RX2 D Y := F
  have hx := F.1.1
  have hb := F.1.2.1
  refine lv_aload_n hx hb dX2_addSign_0 rfl (lv_at hl 0 rfl) ?_
  refine rC_82_2 F hP dX2_addSign_1 ?_
  refine lv_if_lt (tgt := 39) hx hb dX2_addSign_4 (by decide) (fun c1 => ?_) (fun c1 => ?_)
  · have h := ifT h c1
    exact wv_end F hP hS hr hk h dX2_addSign_39
  · have h := ifF h c1
    refine lv_aload_n hx hb dX2_addSign_7 rfl (lv_at hl 0 rfl) ?_
    refine rC_82_2 F hP dX2_addSign_8 ?_
    refine lv_aload_n hx hb dX2_addSign_11 rfl (lv_at hl 0 rfl) ?_
    refine rC_82_1 F hP dX2_addSign_12 ?_
    refine alenc F hP 83 (wsW_get 83 (by decide)) dX2_addSign_15 ?_
    refine lv_icmp_ge (tgt := 39) hx hb dX2_addSign_16 (by decide) (fun c2 => ?_) (fun c2 => ?_)
    · have h := ifT h c2
      exact wv_end F hP hS hr hk h dX2_addSign_39
    · have h := ifF h c2
      refine lv_aload_n hx hb dX2_addSign_19 rfl (lv_at hl 0 rfl) ?_
      refine rC_82_1 F hP dX2_addSign_20 ?_
      refine lv_aload_n hx hb dX2_addSign_23 rfl (lv_at hl 0 rfl) ?_
      refine rC_82_2 F hP dX2_addSign_24 ?_
      refine lv_iload_n hx hb dX2_addSign_27 rfl (lv_at hl 1 rfl) ?_
      obtain ⟨b3, h⟩ := ckS h
      obtain ⟨G4, e4, h⟩ := bsome h
      refine astc F hI hP hS (fun i h => ⟨i, h, rfl⟩) 83 (by decide) (fun _ => rfl) (inbV b3 (by decide)) dX2_addSign_28 (fun H locs hP hS => ?_)
      have hP := cvP e4 hP
      refine lv_aload_n hx hb dX2_addSign_29 rfl (lv_at hl 0 rfl) ?_
      refine lv_dup hx hb dX2_addSign_30 rfl ?_
      refine rC_82_2 F hP dX2_addSign_31 ?_
      refine lv_iconst (v := 1) hx hb dX2_addSign_34 (by decide) ?_
      refine lv_iadd hx hb dX2_addSign_35 ?_
      obtain ⟨G5, e5, h⟩ := bsome h
      refine pC_82_2 F hI hP hS dX2_addSign_36 (fun H locs hP hS => ?_)
      have hP := cvP e5 hP
      exact wv_end F hP hS hr hk h dX2_addSign_39
def f_X2_addNumber_18 (G : GT) (a1 : Int32) : Option (GT) := ((f_X2_addSign G ((((48 : Int32) + (a1 - a1 / (10 : Int32) * (10 : Int32))).toUInt32 % 65536).toInt32)).bind fun G1 => some G1)
def f_X2_addNumber (G : GT) (a1 : Int32) : Option (GT) := (if a1 < (10 : Int32) then f_X2_addNumber_18 G a1 else ((f_X2_addSign G ((((48 : Int32) + (a1 / (10 : Int32))).toUInt32 % 65536).toInt32)).bind fun G3 => f_X2_addNumber_18 G3 a1))
set_option maxRecDepth 100000 in
set_option maxHeartbeats 4000000 in
theorem q_X2_addNumber (l : Launch) (D : va_G) (Y : Nat → ClassId) (ad : Nat → Nat) (hI : Inj 90 ad) (G : GT) (a1 : Int32) (G' : GT) (h : f_X2_addNumber G a1 = some G') : WV l yX2_addNumber cX2_addNumber 2 1 D Y 90 ad (kC Y ad) G [.ref (ad 82), .int a1] G' := by
  refine W_of (ret := none) (by decide) (Nat.le_of_ble_eq_true rfl) (lv := [(0, .ref (ad 82)), (1, .int a1)]) rfl ?_
  intro p e s m below meth c ls F hP hS hr hk hl
  have F : Fx p c cX2_addNumber 2 s m _ RX2 D Y := F
  have hx := F.1.1
  have hb := F.1.2.1
  have key18 : ∀ (G : GT) (H : Heap) (locs : List Loc), va_P D vwCl (wsC Y ad G) H → va_S (AW 90 ad) s.heap H locs → ∀ ls : Array Slot, lv_has ls 2 [(0, .ref (ad 82)), (1, .int a1)] → f_X2_addNumber_18 G a1   = some G' → WW p l e 1 s m ([.ref (ad 82), .int a1] : List Value).toArray below meth c H locs (WQv D (wsC Y ad G') (AW 90 ad)) (AW 90 ad) (F0 m 18 ls []) := by
    intro  G H locs hP hS ls hl h
    refine lv_aload_n hx hb dX2_addNumber_18 rfl (lv_at hl 0 rfl) ?_
    refine lv_bipush (v := 48) hx hb dX2_addNumber_19 (by decide) ?_
    refine lv_iload_n hx hb dX2_addNumber_21 rfl (lv_at hl 1 rfl) ?_
    refine lv_bipush (v := 10) hx hb dX2_addNumber_22 (by decide) ?_
    refine lv_irem hx hb dX2_addNumber_24 (by decide) ?_
    refine lv_iadd hx hb dX2_addNumber_25 ?_
    refine lv_i2c hx hb dX2_addNumber_26 rfl ?_
    obtain ⟨G1, e1, h⟩ := bsome h
    refine wv_V F hP hS k_X2_addSign mw_1349 82 4 rfl (wsW_get 82 (by decide)) (q_X2_addSign l D Y ad hI G ((((48 : Int32) + (a1 - a1 / (10 : Int32) * (10 : Int32))).toUInt32 % 65536).toInt32) G1 e1) rfl hl.1 ⟨Nat.le_of_ble_eq_true rfl, Nat.le_of_ble_eq_true rfl⟩ (rest := []) rfl (Nat.le_of_ble_eq_true rfl) ⟨Nat.le_of_ble_eq_true rfl, Nat.le_of_ble_eq_true rfl⟩ dX2_addNumber_27 (fun H locs hP hS => ?_)
    exact wv_end F hP hS hr hk h dX2_addNumber_30
  refine lv_iload_n hx hb dX2_addNumber_0 rfl (lv_at hl 1 rfl) ?_
  refine lv_bipush (v := 10) hx hb dX2_addNumber_1 (by decide) ?_
  refine lv_icmp_lt (tgt := 18) hx hb dX2_addNumber_3 (by decide) (fun c2 => ?_) (fun c2 => ?_)
  · have h := ifT h c2
    exact key18 G _ _ hP hS ls (lv_sub hl [0, 1] rfl) h
  · have h := ifF h c2
    refine lv_aload_n hx hb dX2_addNumber_6 rfl (lv_at hl 0 rfl) ?_
    refine lv_bipush (v := 48) hx hb dX2_addNumber_7 (by decide) ?_
    refine lv_iload_n hx hb dX2_addNumber_9 rfl (lv_at hl 1 rfl) ?_
    refine lv_bipush (v := 10) hx hb dX2_addNumber_10 (by decide) ?_
    refine lv_idiv hx hb dX2_addNumber_12 (by decide) ?_
    refine lv_iadd hx hb dX2_addNumber_13 ?_
    refine lv_i2c hx hb dX2_addNumber_14 rfl ?_
    obtain ⟨G3, e3, h⟩ := bsome h
    refine wv_V F hP hS k_X2_addSign mw_1349 82 4 rfl (wsW_get 82 (by decide)) (q_X2_addSign l D Y ad hI G ((((48 : Int32) + (a1 / (10 : Int32))).toUInt32 % 65536).toInt32) G3 e3) rfl hl.1 ⟨Nat.le_of_ble_eq_true rfl, Nat.le_of_ble_eq_true rfl⟩ (rest := []) rfl (Nat.le_of_ble_eq_true rfl) ⟨Nat.le_of_ble_eq_true rfl, Nat.le_of_ble_eq_true rfl⟩ dX2_addNumber_15 (fun H locs hP hS => ?_)
    exact key18 G3 _ _ hP hS ls (lv_sub hl [0, 1] rfl) h
def f_X2_addPart_47 (G : GT) (a1 : Int32) (a2 : Int32) (s47_0 : Int32) : Option (GT) := ((f_X2_addSign G s47_0).bind fun G1 => ((f_X5_overlap G1 a1 a2).bind fun r2 => ((f_X2_addNumber G1 r2).bind fun G3 => some G3)))
def f_X2_addPart_18 (G : GT) (a1 : Int32) (a2 : Int32) : Option (GT) := ((f_X5_isRest G a1).bind fun r4 => (if r4 = 0 then ((f_X5_pitchOf G a1).bind fun r6 => f_X2_addPart_47 G a1 a2 ((((97 : Int32) + r6).toUInt32 % 65536).toInt32)) else f_X2_addPart_47 G a1 a2 (46 : Int32)))
def f_X2_addPart (G : GT) (a1 : Int32) (a2 : Int32) : Option (GT) := ((f_X5_isTied G a1 a2).bind fun r7 => (if r7 = 0 then f_X2_addPart_18 G a1 a2 else ((f_X2_addSign G (126 : Int32)).bind fun G9 => f_X2_addPart_18 G9 a1 a2)))
set_option maxRecDepth 100000 in
set_option maxHeartbeats 4000000 in
theorem q_X2_addPart (l : Launch) (D : va_G) (Y : Nat → ClassId) (ad : Nat → Nat) (hI : Inj 90 ad) (G : GT) (a1 : Int32) (a2 : Int32) (G' : GT) (h : f_X2_addPart G a1 a2 = some G') : WV l yX2_addPart cX2_addPart 3 3 D Y 90 ad (kC Y ad) G [.ref (ad 82), .int a1, .int a2] G' := by
  refine W_of (ret := none) (by decide) (Nat.le_of_ble_eq_true rfl) (lv := [(0, .ref (ad 82)), (1, .int a1), (2, .int a2)]) rfl ?_
  intro p e s m below meth c ls F hP hS hr hk hl
  have F : Fx p c cX2_addPart 3 s m _ RX2 D Y := F
  have hx := F.1.1
  have hb := F.1.2.1
  have key47 : ∀ (s47_0 : Int32) (G : GT) (H : Heap) (locs : List Loc), va_P D vwCl (wsC Y ad G) H → va_S (AW 90 ad) s.heap H locs → ∀ ls : Array Slot, lv_has ls 3 [(0, .ref (ad 82)), (1, .int a1), (2, .int a2)] → f_X2_addPart_47 G a1 a2  s47_0 = some G' → WW p l e 3 s m ([.ref (ad 82), .int a1, .int a2] : List Value).toArray below meth c H locs (WQv D (wsC Y ad G') (AW 90 ad)) (AW 90 ad) (F0 m 47 ls [.int s47_0, .ref (ad 82)]) := by
    intro s47_0 G H locs hP hS ls hl h
    obtain ⟨G1, e1, h⟩ := bsome h
    refine wv_V F hP hS k_X2_addSign mw_1349 82 4 rfl (wsW_get 82 (by decide)) (q_X2_addSign l D Y ad hI G s47_0 G1 e1) rfl hl.1 ⟨Nat.le_of_ble_eq_true rfl, Nat.le_of_ble_eq_true rfl⟩ (rest := []) rfl (Nat.le_of_ble_eq_true rfl) ⟨Nat.le_of_ble_eq_true rfl, Nat.le_of_ble_eq_true rfl⟩ dX2_addPart_47 (fun H locs hP hS => ?_)
    refine lv_aload_n hx hb dX2_addPart_50 rfl (lv_at hl 0 rfl) ?_
    refine lv_aload_n hx hb dX2_addPart_51 rfl (lv_at hl 0 rfl) ?_
    refine rC_82_0 F hP dX2_addPart_52 ?_
    refine lv_iload_n hx hb dX2_addPart_55 rfl (lv_at hl 1 rfl) ?_
    refine lv_iload_n hx hb dX2_addPart_56 rfl (lv_at hl 2 rfl) ?_
    obtain ⟨r2, e2, h⟩ := bsome h
    refine rd_VN F hP k_X5_overlap mw_1343 0 6 rfl (wsW_get 0 (by decide)) (q_X5_overlap l D Y ad G1 a1 a2 r2 e2) rfl hl.1 ⟨Nat.le_of_ble_eq_true rfl, Nat.le_of_ble_eq_true rfl⟩ (rest := [.ref (ad 82)]) rfl (Nat.le_of_ble_eq_true rfl) ⟨Nat.le_of_ble_eq_true rfl, Nat.le_of_ble_eq_true rfl⟩ dX2_addPart_57 (fun o2 => ?_)
    obtain ⟨G3, e3, h⟩ := bsome h
    refine wv_V F hP hS k_X2_addNumber mw_1355 82 4 rfl (wsW_get 82 (by decide)) (q_X2_addNumber l D Y ad hI G1 r2 G3 e3) rfl hl.1 ⟨Nat.le_of_ble_eq_true rfl, Nat.le_of_ble_eq_true rfl⟩ (rest := []) rfl (Nat.le_of_ble_eq_true rfl) ⟨Nat.le_of_ble_eq_true rfl, Nat.le_of_ble_eq_true rfl⟩ dX2_addPart_60 (fun H locs hP hS => ?_)
    exact wv_end F hP hS hr hk h dX2_addPart_63
  have key18 : ∀ (G : GT) (H : Heap) (locs : List Loc), va_P D vwCl (wsC Y ad G) H → va_S (AW 90 ad) s.heap H locs → ∀ ls : Array Slot, lv_has ls 3 [(0, .ref (ad 82)), (1, .int a1), (2, .int a2)] → f_X2_addPart_18 G a1 a2   = some G' → WW p l e 3 s m ([.ref (ad 82), .int a1, .int a2] : List Value).toArray below meth c H locs (WQv D (wsC Y ad G') (AW 90 ad)) (AW 90 ad) (F0 m 18 ls []) := by
    intro  G H locs hP hS ls hl h
    refine lv_aload_n hx hb dX2_addPart_18 rfl (lv_at hl 0 rfl) ?_
    refine lv_aload_n hx hb dX2_addPart_19 rfl (lv_at hl 0 rfl) ?_
    refine rC_82_0 F hP dX2_addPart_20 ?_
    refine lv_iload_n hx hb dX2_addPart_23 rfl (lv_at hl 1 rfl) ?_
    obtain ⟨r4, e4, h⟩ := bsome h
    refine rd_VN F hP k_X5_isRest mw_1353 0 6 rfl (wsW_get 0 (by decide)) (q_X5_isRest l D Y ad G a1 r4 e4) rfl hl.1 ⟨Nat.le_of_ble_eq_true rfl, Nat.le_of_ble_eq_true rfl⟩ (rest := [.ref (ad 82)]) rfl (Nat.le_of_ble_eq_true rfl) ⟨Nat.le_of_ble_eq_true rfl, Nat.le_of_ble_eq_true rfl⟩ dX2_addPart_24 (fun o4 => ?_)
    refine lv_if_eq (tgt := 35) hx hb dX2_addPart_27 (by decide) (fun c5 => ?_) (fun c5 => ?_)
    · have h := ifT h c5
      refine lv_bipush (v := 97) hx hb dX2_addPart_35 (by decide) ?_
      refine lv_aload_n hx hb dX2_addPart_37 rfl (lv_at hl 0 rfl) ?_
      refine rC_82_0 F hP dX2_addPart_38 ?_
      refine lv_iload_n hx hb dX2_addPart_41 rfl (lv_at hl 1 rfl) ?_
      obtain ⟨r6, e6, h⟩ := bsome h
      refine rd_VN F hP k_X5_pitchOf mw_1354 0 6 rfl (wsW_get 0 (by decide)) (q_X5_pitchOf l D Y ad G a1 r6 e6) rfl hl.1 ⟨Nat.le_of_ble_eq_true rfl, Nat.le_of_ble_eq_true rfl⟩ (rest := [.int ((97 : Int32)), .ref (ad 82)]) rfl (Nat.le_of_ble_eq_true rfl) ⟨Nat.le_of_ble_eq_true rfl, Nat.le_of_ble_eq_true rfl⟩ dX2_addPart_42 (fun o6 => ?_)
      refine lv_iadd hx hb dX2_addPart_45 ?_
      refine lv_i2c hx hb dX2_addPart_46 rfl ?_
      exact key47 ((((97 : Int32) + r6).toUInt32 % 65536).toInt32) G _ _ hP hS ls (lv_sub hl [0, 1, 2] rfl) h
    · have h := ifF h c5
      refine lv_bipush (v := 46) hx hb dX2_addPart_30 (by decide) ?_
      refine lv_goto (tgt := 47) hx hb dX2_addPart_32 (by decide) ?_
      exact key47 (46 : Int32) G _ _ hP hS ls (lv_sub hl [0, 1, 2] rfl) h
  refine lv_aload_n hx hb dX2_addPart_0 rfl (lv_at hl 0 rfl) ?_
  refine rC_82_0 F hP dX2_addPart_1 ?_
  refine lv_iload_n hx hb dX2_addPart_4 rfl (lv_at hl 1 rfl) ?_
  refine lv_iload_n hx hb dX2_addPart_5 rfl (lv_at hl 2 rfl) ?_
  obtain ⟨r7, e7, h⟩ := bsome h
  refine rd_VN F hP k_X5_isTied mw_1348 0 6 rfl (wsW_get 0 (by decide)) (q_X5_isTied l D Y ad G a1 a2 r7 e7) rfl hl.1 ⟨Nat.le_of_ble_eq_true rfl, Nat.le_of_ble_eq_true rfl⟩ (rest := []) rfl (Nat.le_of_ble_eq_true rfl) ⟨Nat.le_of_ble_eq_true rfl, Nat.le_of_ble_eq_true rfl⟩ dX2_addPart_6 (fun o7 => ?_)
  refine lv_if_eq (tgt := 18) hx hb dX2_addPart_9 (by decide) (fun c8 => ?_) (fun c8 => ?_)
  · have h := ifT h c8
    exact key18 G _ _ hP hS ls (lv_sub hl [0, 1, 2] rfl) h
  · have h := ifF h c8
    refine lv_aload_n hx hb dX2_addPart_12 rfl (lv_at hl 0 rfl) ?_
    refine lv_bipush (v := 126) hx hb dX2_addPart_13 (by decide) ?_
    obtain ⟨G9, e9, h⟩ := bsome h
    refine wv_V F hP hS k_X2_addSign mw_1349 82 4 rfl (wsW_get 82 (by decide)) (q_X2_addSign l D Y ad hI G (126 : Int32) G9 e9) rfl hl.1 ⟨Nat.le_of_ble_eq_true rfl, Nat.le_of_ble_eq_true rfl⟩ (rest := []) rfl (Nat.le_of_ble_eq_true rfl) ⟨Nat.le_of_ble_eq_true rfl, Nat.le_of_ble_eq_true rfl⟩ dX2_addPart_15 (fun H locs hP hS => ?_)
    exact key18 G9 _ _ hP hS ls (lv_sub hl [0, 1, 2] rfl) h
def f_X2_writeBar_42 (G : GT) (a1 : Int32) (k7 : GT → Int32 → Option (Int32 × GT)) (x2 : Int32) : Option (Int32 × GT) := k7 G (x2 + 1)
def f_X2_writeBar_7 (a1 : Int32) (n : Nat) (G : GT) (y2 : Int32) : Option (Int32 × GT) := lq2 (fun (k7 : GT → Int32 → Option (Int32 × GT)) (G : GT) (x2 : Int32) => ((f_X5_countOfSounds G ).bind fun r1 => (if r1 ≤ x2 then ((f_X2_addSign G (95 : Int32)).bind fun G3 => ((f_X5_sizeOf G3 a1).bind fun r4 => ((f_X5_filledOfBar G3 a1).bind fun r5 => ((f_X2_addNumber G3 (r4 - r5)).bind fun G6 => some ((G6 82 2), G6))))) else ((f_X5_overlap G x2 a1).bind fun r7 => (if r7 ≤ 0 then f_X2_writeBar_42 G a1 k7 x2 else ((f_X2_addPart G x2 a1).bind fun G9 => ((f_X2_addSign G9 (32 : Int32)).bind fun G10 => f_X2_writeBar_42 G10 a1 k7 x2))))))) n G y2
def f_X2_writeBar (G : GT) (a1 : Int32) : Option (Int32 × GT) := ((some (upR G 82 (upd (G 82) 2 (0 : Int32)))).bind fun G11 => f_X2_writeBar_7 a1 4096 G11 (0 : Int32))
set_option maxRecDepth 100000 in
set_option maxHeartbeats 4000000 in
theorem q_X2_writeBar (l : Launch) (D : va_G) (Y : Nat → ClassId) (ad : Nat → Nat) (hI : Inj 90 ad) (G : GT) (a1 : Int32) (r : Int32) (G' : GT) (h : f_X2_writeBar G a1 = some (r, G')) : WR l yX2_writeBar cX2_writeBar 3 (some .int) 4 D Y 90 ad (kC Y ad) G [.ref (ad 82), .int a1] r G' := by
  refine W_of (ret := (some .int)) (by decide) (Nat.le_of_ble_eq_true rfl) (lv := [(0, .ref (ad 82)), (1, .int a1)]) rfl ?_
  intro p e s m below meth c ls F hP hS hr hk hl
  have F : Fx p c cX2_writeBar 3 s m _ RX2 D Y := F
  have hx := F.1.1
  have hb := F.1.2.1
  have key7 : ∀ (n : Nat) (G : GT) (x2 : Int32) (H : Heap) (locs : List Loc), va_P D vwCl (wsC Y ad G) H → va_S (AW 90 ad) s.heap H locs → ∀ ls : Array Slot, lv_has ls 3 [(0, .ref (ad 82)), (1, .int a1), (2, .int x2)] → f_X2_writeBar_7 a1  n G x2 = some (r, G') → WW p l e 4 s m ([.ref (ad 82), .int a1] : List Value).toArray below meth c H locs (WQi (some .int) r D (wsC Y ad G') (AW 90 ad)) (AW 90 ad) (F0 m 7 ls []) := by
    intro  n
    induction n with
    | zero => intro G x2 H locs hP hS ls hl h; exact lqZ2 h
    | succ n7 ih7 =>
      have key42 : ∀ (x2 : Int32) (G : GT) (H : Heap) (locs : List Loc), va_P D vwCl (wsC Y ad G) H → va_S (AW 90 ad) s.heap H locs → ∀ ls : Array Slot, lv_has ls 3 [(0, .ref (ad 82)), (1, .int a1), (2, .int x2)] → f_X2_writeBar_42 G a1 (f_X2_writeBar_7 a1   n7) x2 = some (r, G') → WW p l e 4 s m ([.ref (ad 82), .int a1] : List Value).toArray below meth c H locs (WQi (some .int) r D (wsC Y ad G') (AW 90 ad)) (AW 90 ad) (F0 m 42 ls []) := by
        intro x2 G H locs hP hS ls hl h
        refine lv_iinc (v := (x2 + 1)) (lv' := [(2, .int ((x2 + 1))), (0, .ref (ad 82)), (1, .int a1)]) hx hb dX2_writeBar_42 hl (k := 2) rfl rfl (by decide) rfl (fun ls hl => ?_)
        refine lv_goto (tgt := 7) hx hb dX2_writeBar_45 (by decide) ?_
        exact ih7 G (x2 + 1) _ _ hP hS ls (lv_sub hl [1, 2, 0] rfl) h
      intro G x2 H locs hP hS ls hl h
      have h := lqS2 h
      refine lv_iload_n hx hb dX2_writeBar_7 rfl (lv_at hl 2 rfl) ?_
      refine lv_aload_n hx hb dX2_writeBar_8 rfl (lv_at hl 0 rfl) ?_
      refine rC_82_0 F hP dX2_writeBar_9 ?_
      obtain ⟨r1, e1, h⟩ := bsome h
      refine rd_VN F hP k_X5_countOfSounds mw_1342 0 6 rfl (wsW_get 0 (by decide)) (q_X5_countOfSounds l D Y ad G  r1 e1) rfl hl.1 ⟨Nat.le_of_ble_eq_true rfl, Nat.le_of_ble_eq_true rfl⟩ (rest := [.int x2]) rfl (Nat.le_of_ble_eq_true rfl) ⟨Nat.le_of_ble_eq_true rfl, Nat.le_of_ble_eq_true rfl⟩ dX2_writeBar_12 (fun o1 => ?_)
      refine lv_icmp_ge (tgt := 48) hx hb dX2_writeBar_15 (by decide) (fun c2 => ?_) (fun c2 => ?_)
      · have h := ifT h c2
        refine lv_aload_n hx hb dX2_writeBar_48 rfl (lv_at hl 0 rfl) ?_
        refine lv_bipush (v := 95) hx hb dX2_writeBar_49 (by decide) ?_
        obtain ⟨G3, e3, h⟩ := bsome h
        refine wv_V F hP hS k_X2_addSign mw_1349 82 4 rfl (wsW_get 82 (by decide)) (q_X2_addSign l D Y ad hI G (95 : Int32) G3 e3) rfl hl.1 ⟨Nat.le_of_ble_eq_true rfl, Nat.le_of_ble_eq_true rfl⟩ (rest := []) rfl (Nat.le_of_ble_eq_true rfl) ⟨Nat.le_of_ble_eq_true rfl, Nat.le_of_ble_eq_true rfl⟩ dX2_writeBar_51 (fun H locs hP hS => ?_)
        refine lv_aload_n hx hb dX2_writeBar_54 rfl (lv_at hl 0 rfl) ?_
        refine lv_aload_n hx hb dX2_writeBar_55 rfl (lv_at hl 0 rfl) ?_
        refine rC_82_0 F hP dX2_writeBar_56 ?_
        refine lv_iload_n hx hb dX2_writeBar_59 rfl (lv_at hl 1 rfl) ?_
        obtain ⟨r4, e4, h⟩ := bsome h
        refine rd_VN F hP k_X5_sizeOf mw_1359 0 6 rfl (wsW_get 0 (by decide)) (q_X5_sizeOf l D Y ad G3 a1 r4 e4) rfl hl.1 ⟨Nat.le_of_ble_eq_true rfl, Nat.le_of_ble_eq_true rfl⟩ (rest := [.ref (ad 82)]) rfl (Nat.le_of_ble_eq_true rfl) ⟨Nat.le_of_ble_eq_true rfl, Nat.le_of_ble_eq_true rfl⟩ dX2_writeBar_60 (fun o4 => ?_)
        refine lv_aload_n hx hb dX2_writeBar_63 rfl (lv_at hl 0 rfl) ?_
        refine rC_82_0 F hP dX2_writeBar_64 ?_
        refine lv_iload_n hx hb dX2_writeBar_67 rfl (lv_at hl 1 rfl) ?_
        obtain ⟨r5, e5, h⟩ := bsome h
        refine rd_VN F hP k_X5_filledOfBar mw_1360 0 6 rfl (wsW_get 0 (by decide)) (q_X5_filledOfBar l D Y ad G3 a1 r5 e5) rfl hl.1 ⟨Nat.le_of_ble_eq_true rfl, Nat.le_of_ble_eq_true rfl⟩ (rest := [.int r4, .ref (ad 82)]) rfl (Nat.le_of_ble_eq_true rfl) ⟨Nat.le_of_ble_eq_true rfl, Nat.le_of_ble_eq_true rfl⟩ dX2_writeBar_68 (fun o5 => ?_)
        refine lv_isub hx hb dX2_writeBar_71 ?_
        obtain ⟨G6, e6, h⟩ := bsome h
        refine wv_V F hP hS k_X2_addNumber mw_1355 82 4 rfl (wsW_get 82 (by decide)) (q_X2_addNumber l D Y ad hI G3 (r4 - r5) G6 e6) rfl hl.1 ⟨Nat.le_of_ble_eq_true rfl, Nat.le_of_ble_eq_true rfl⟩ (rest := []) rfl (Nat.le_of_ble_eq_true rfl) ⟨Nat.le_of_ble_eq_true rfl, Nat.le_of_ble_eq_true rfl⟩ dX2_writeBar_72 (fun H locs hP hS => ?_)
        refine lv_aload_n hx hb dX2_writeBar_75 rfl (lv_at hl 0 rfl) ?_
        refine rC_82_2 F hP dX2_writeBar_76 ?_
        exact wr_end F hP hS hr hk rfl h dX2_writeBar_79
      · have h := ifF h c2
        refine lv_aload_n hx hb dX2_writeBar_18 rfl (lv_at hl 0 rfl) ?_
        refine rC_82_0 F hP dX2_writeBar_19 ?_
        refine lv_iload_n hx hb dX2_writeBar_22 rfl (lv_at hl 2 rfl) ?_
        refine lv_iload_n hx hb dX2_writeBar_23 rfl (lv_at hl 1 rfl) ?_
        obtain ⟨r7, e7, h⟩ := bsome h
        refine rd_VN F hP k_X5_overlap mw_1343 0 6 rfl (wsW_get 0 (by decide)) (q_X5_overlap l D Y ad G x2 a1 r7 e7) rfl hl.1 ⟨Nat.le_of_ble_eq_true rfl, Nat.le_of_ble_eq_true rfl⟩ (rest := []) rfl (Nat.le_of_ble_eq_true rfl) ⟨Nat.le_of_ble_eq_true rfl, Nat.le_of_ble_eq_true rfl⟩ dX2_writeBar_24 (fun o7 => ?_)
        refine lv_if_le (tgt := 42) hx hb dX2_writeBar_27 (by decide) (fun c8 => ?_) (fun c8 => ?_)
        · have h := ifT h c8
          exact key42 x2 G _ _ hP hS ls (lv_sub hl [0, 1, 2] rfl) h
        · have h := ifF h c8
          refine lv_aload_n hx hb dX2_writeBar_30 rfl (lv_at hl 0 rfl) ?_
          refine lv_iload_n hx hb dX2_writeBar_31 rfl (lv_at hl 2 rfl) ?_
          refine lv_iload_n hx hb dX2_writeBar_32 rfl (lv_at hl 1 rfl) ?_
          obtain ⟨G9, e9, h⟩ := bsome h
          refine wv_V F hP hS k_X2_addPart mw_1344 82 4 rfl (wsW_get 82 (by decide)) (q_X2_addPart l D Y ad hI G x2 a1 G9 e9) rfl hl.1 ⟨Nat.le_of_ble_eq_true rfl, Nat.le_of_ble_eq_true rfl⟩ (rest := []) rfl (Nat.le_of_ble_eq_true rfl) ⟨Nat.le_of_ble_eq_true rfl, Nat.le_of_ble_eq_true rfl⟩ dX2_writeBar_33 (fun H locs hP hS => ?_)
          refine lv_aload_n hx hb dX2_writeBar_36 rfl (lv_at hl 0 rfl) ?_
          refine lv_bipush (v := 32) hx hb dX2_writeBar_37 (by decide) ?_
          obtain ⟨G10, e10, h⟩ := bsome h
          refine wv_V F hP hS k_X2_addSign mw_1349 82 4 rfl (wsW_get 82 (by decide)) (q_X2_addSign l D Y ad hI G9 (32 : Int32) G10 e10) rfl hl.1 ⟨Nat.le_of_ble_eq_true rfl, Nat.le_of_ble_eq_true rfl⟩ (rest := []) rfl (Nat.le_of_ble_eq_true rfl) ⟨Nat.le_of_ble_eq_true rfl, Nat.le_of_ble_eq_true rfl⟩ dX2_writeBar_39 (fun H locs hP hS => ?_)
          exact key42 x2 G10 _ _ hP hS ls (lv_sub hl [0, 1, 2] rfl) h
  refine lv_aload_n hx hb dX2_writeBar_0 rfl (lv_at hl 0 rfl) ?_
  refine lv_iconst (v := 0) hx hb dX2_writeBar_1 (by decide) ?_
  obtain ⟨G11, e11, h⟩ := bsome h
  refine pC_82_2 F hI hP hS dX2_writeBar_2 (fun H locs hP hS => ?_)
  have hP := cvP e11 hP
  refine lv_iconst (v := 0) hx hb dX2_writeBar_5 (by decide) ?_
  refine lv_istore_n (lv' := [(2, .int ((0 : Int32))), (0, .ref (ad 82)), (1, .int a1)]) hx hb dX2_writeBar_6 rfl hl (by decide) rfl (fun ls hl => ?_)
  exact key7 4096 G11 (0 : Int32) _ _ hP hS ls (lv_sub hl [1, 2, 0] rfl) h
def f_X2_writeTin (G : GT) (a1 : Int32) : Option (Int32 × GT) := ((some (upR G 82 (upd (G 82) 2 (0 : Int32)))).bind fun G1 => ((f_X5_keyOf G1 a1).bind fun r2 => ((f_X2_addNumber G1 r2).bind fun G3 => ((f_X2_addSign G3 (47 : Int32)).bind fun G4 => ((f_X5_leakOf G4 a1).bind fun r5 => ((f_X2_addNumber G4 r5).bind fun G6 => some ((G6 82 2), G6)))))))
set_option maxRecDepth 100000 in
set_option maxHeartbeats 4000000 in
theorem q_X2_writeTin (l : Launch) (D : va_G) (Y : Nat → ClassId) (ad : Nat → Nat) (hI : Inj 90 ad) (G : GT) (a1 : Int32) (r : Int32) (G' : GT) (h : f_X2_writeTin G a1 = some (r, G')) : WR l yX2_writeTin cX2_writeTin 2 (some .int) 3 D Y 90 ad (kC Y ad) G [.ref (ad 82), .int a1] r G' := by
  refine W_of (ret := (some .int)) (by decide) (Nat.le_of_ble_eq_true rfl) (lv := [(0, .ref (ad 82)), (1, .int a1)]) rfl ?_
  intro p e s m below meth c ls F hP hS hr hk hl
  have F : Fx p c cX2_writeTin 2 s m _ RX2 D Y := F
  have hx := F.1.1
  have hb := F.1.2.1
  refine lv_aload_n hx hb dX2_writeTin_0 rfl (lv_at hl 0 rfl) ?_
  refine lv_iconst (v := 0) hx hb dX2_writeTin_1 (by decide) ?_
  obtain ⟨G1, e1, h⟩ := bsome h
  refine pC_82_2 F hI hP hS dX2_writeTin_2 (fun H locs hP hS => ?_)
  have hP := cvP e1 hP
  refine lv_aload_n hx hb dX2_writeTin_5 rfl (lv_at hl 0 rfl) ?_
  refine lv_aload_n hx hb dX2_writeTin_6 rfl (lv_at hl 0 rfl) ?_
  refine rC_82_0 F hP dX2_writeTin_7 ?_
  refine lv_iload_n hx hb dX2_writeTin_10 rfl (lv_at hl 1 rfl) ?_
  obtain ⟨r2, e2, h⟩ := bsome h
  refine rd_VN F hP k_X5_keyOf mw_1408 0 6 rfl (wsW_get 0 (by decide)) (q_X5_keyOf l D Y ad G1 a1 r2 e2) rfl hl.1 ⟨Nat.le_of_ble_eq_true rfl, Nat.le_of_ble_eq_true rfl⟩ (rest := [.ref (ad 82)]) rfl (Nat.le_of_ble_eq_true rfl) ⟨Nat.le_of_ble_eq_true rfl, Nat.le_of_ble_eq_true rfl⟩ dX2_writeTin_11 (fun o2 => ?_)
  obtain ⟨G3, e3, h⟩ := bsome h
  refine wv_V F hP hS k_X2_addNumber mw_1355 82 4 rfl (wsW_get 82 (by decide)) (q_X2_addNumber l D Y ad hI G1 r2 G3 e3) rfl hl.1 ⟨Nat.le_of_ble_eq_true rfl, Nat.le_of_ble_eq_true rfl⟩ (rest := []) rfl (Nat.le_of_ble_eq_true rfl) ⟨Nat.le_of_ble_eq_true rfl, Nat.le_of_ble_eq_true rfl⟩ dX2_writeTin_14 (fun H locs hP hS => ?_)
  refine lv_aload_n hx hb dX2_writeTin_17 rfl (lv_at hl 0 rfl) ?_
  refine lv_bipush (v := 47) hx hb dX2_writeTin_18 (by decide) ?_
  obtain ⟨G4, e4, h⟩ := bsome h
  refine wv_V F hP hS k_X2_addSign mw_1349 82 4 rfl (wsW_get 82 (by decide)) (q_X2_addSign l D Y ad hI G3 (47 : Int32) G4 e4) rfl hl.1 ⟨Nat.le_of_ble_eq_true rfl, Nat.le_of_ble_eq_true rfl⟩ (rest := []) rfl (Nat.le_of_ble_eq_true rfl) ⟨Nat.le_of_ble_eq_true rfl, Nat.le_of_ble_eq_true rfl⟩ dX2_writeTin_20 (fun H locs hP hS => ?_)
  refine lv_aload_n hx hb dX2_writeTin_23 rfl (lv_at hl 0 rfl) ?_
  refine lv_aload_n hx hb dX2_writeTin_24 rfl (lv_at hl 0 rfl) ?_
  refine rC_82_0 F hP dX2_writeTin_25 ?_
  refine lv_iload_n hx hb dX2_writeTin_28 rfl (lv_at hl 1 rfl) ?_
  obtain ⟨r5, e5, h⟩ := bsome h
  refine rd_VN F hP k_X5_leakOf mw_1409 0 6 rfl (wsW_get 0 (by decide)) (q_X5_leakOf l D Y ad G4 a1 r5 e5) rfl hl.1 ⟨Nat.le_of_ble_eq_true rfl, Nat.le_of_ble_eq_true rfl⟩ (rest := [.ref (ad 82)]) rfl (Nat.le_of_ble_eq_true rfl) ⟨Nat.le_of_ble_eq_true rfl, Nat.le_of_ble_eq_true rfl⟩ dX2_writeTin_29 (fun o5 => ?_)
  obtain ⟨G6, e6, h⟩ := bsome h
  refine wv_V F hP hS k_X2_addNumber mw_1355 82 4 rfl (wsW_get 82 (by decide)) (q_X2_addNumber l D Y ad hI G4 r5 G6 e6) rfl hl.1 ⟨Nat.le_of_ble_eq_true rfl, Nat.le_of_ble_eq_true rfl⟩ (rest := []) rfl (Nat.le_of_ble_eq_true rfl) ⟨Nat.le_of_ble_eq_true rfl, Nat.le_of_ble_eq_true rfl⟩ dX2_writeTin_32 (fun H locs hP hS => ?_)
  refine lv_aload_n hx hb dX2_writeTin_35 rfl (lv_at hl 0 rfl) ?_
  refine rC_82_2 F hP dX2_writeTin_36 ?_
  exact wr_end F hP hS hr hk rfl h dX2_writeTin_39
def f_X8_add_39 (G : GT) (a1 : Int32) : Option (Int32 × GT) := some ((G 84 3), G)
def f_X8_add (G : GT) (a1 : Int32) : Option (Int32 × GT) := (if (G 84 3) < 0 then f_X8_add_39 G a1 else (if (nI 60) ≤ (G 84 3) then f_X8_add_39 G a1 else (if inb (G 84 3) 60 then ((some (upR G 85 (upd (G 85) (G 84 3).toNatClampNeg (vp_nar .char a1)))).bind fun G4 => ((some (upR G4 84 (upd (G4 84) 3 ((G4 84 3) + (1 : Int32))))).bind fun G5 => f_X8_add_39 G5 a1)) else none)))
set_option maxRecDepth 100000 in
set_option maxHeartbeats 4000000 in
theorem q_X8_add (l : Launch) (D : va_G) (Y : Nat → ClassId) (ad : Nat → Nat) (hI : Inj 90 ad) (G : GT) (a1 : Int32) (r : Int32) (G' : GT) (h : f_X8_add G a1 = some (r, G')) : WR l yX8_add cX8_add 2 (some .int) 0 D Y 90 ad (kC Y ad) G [.ref (ad 84), .int a1] r G' := by
  refine W_of (ret := (some .int)) (by decide) (Nat.le_of_ble_eq_true rfl) (lv := [(0, .ref (ad 84)), (1, .int a1)]) rfl ?_
  intro p e s m below meth c ls F hP hS hr hk hl
  have F : Fx p c cX8_add 2 s m _ RX8 D Y := F
  have hx := F.1.1
  have hb := F.1.2.1
  have key39 : ∀ (G : GT) (H : Heap) (locs : List Loc), va_P D vwCl (wsC Y ad G) H → va_S (AW 90 ad) s.heap H locs → ∀ ls : Array Slot, lv_has ls 2 [(0, .ref (ad 84))] → f_X8_add_39 G a1   = some (r, G') → WW p l e 0 s m ([.ref (ad 84), .int a1] : List Value).toArray below meth c H locs (WQi (some .int) r D (wsC Y ad G') (AW 90 ad)) (AW 90 ad) (F0 m 39 ls []) := by
    intro  G H locs hP hS ls hl h
    refine lv_aload_n hx hb dX8_add_39 rfl (lv_at hl 0 rfl) ?_
    refine rC_84_3 F hP dX8_add_40 ?_
    exact wr_end F hP hS hr hk rfl h dX8_add_43
  refine lv_aload_n hx hb dX8_add_0 rfl (lv_at hl 0 rfl) ?_
  refine rC_84_3 F hP dX8_add_1 ?_
  refine lv_if_lt (tgt := 39) hx hb dX8_add_4 (by decide) (fun c1 => ?_) (fun c1 => ?_)
  · have h := ifT h c1
    exact key39 G _ _ hP hS ls (lv_sub hl [0] rfl) h
  · have h := ifF h c1
    refine lv_aload_n hx hb dX8_add_7 rfl (lv_at hl 0 rfl) ?_
    refine rC_84_3 F hP dX8_add_8 ?_
    refine lv_aload_n hx hb dX8_add_11 rfl (lv_at hl 0 rfl) ?_
    refine rC_84_0 F hP dX8_add_12 ?_
    refine alenc F hP 85 (wsW_get 85 (by decide)) dX8_add_15 ?_
    refine lv_icmp_ge (tgt := 39) hx hb dX8_add_16 (by decide) (fun c2 => ?_) (fun c2 => ?_)
    · have h := ifT h c2
      exact key39 G _ _ hP hS ls (lv_sub hl [0] rfl) h
    · have h := ifF h c2
      refine lv_aload_n hx hb dX8_add_19 rfl (lv_at hl 0 rfl) ?_
      refine rC_84_0 F hP dX8_add_20 ?_
      refine lv_aload_n hx hb dX8_add_23 rfl (lv_at hl 0 rfl) ?_
      refine rC_84_3 F hP dX8_add_24 ?_
      refine lv_iload_n hx hb dX8_add_27 rfl (lv_at hl 1 rfl) ?_
      obtain ⟨b3, h⟩ := ckS h
      obtain ⟨G4, e4, h⟩ := bsome h
      refine astc F hI hP hS (fun i h => ⟨i, h, rfl⟩) 85 (by decide) (fun _ => rfl) (inbV b3 (by decide)) dX8_add_28 (fun H locs hP hS => ?_)
      have hP := cvP e4 hP
      refine lv_aload_n hx hb dX8_add_29 rfl (lv_at hl 0 rfl) ?_
      refine lv_dup hx hb dX8_add_30 rfl ?_
      refine rC_84_3 F hP dX8_add_31 ?_
      refine lv_iconst (v := 1) hx hb dX8_add_34 (by decide) ?_
      refine lv_iadd hx hb dX8_add_35 ?_
      obtain ⟨G5, e5, h⟩ := bsome h
      refine pC_84_3 F hI hP hS dX8_add_36 (fun H locs hP hS => ?_)
      have hP := cvP e5 hP
      exact key39 G5 _ _ hP hS ls (lv_sub hl [0] rfl) h
def f_X8_readDigit (G : GT) : Option (Int32 × GT) := (if (G 84 4) < 0 then some ((-1 : Int32), G) else (if (G 84 3) ≤ (G 84 4) then some ((-1 : Int32), G) else (if (G 84 4) < (nI 60) then (if inb (G 84 4) 60 then ((f_X9_isWithin G ((G 85 (G 84 4).toNatClampNeg) - (48 : Int32)) (0 : Int32) (9 : Int32)).bind fun r5 => (if r5 = 0 then some ((-1 : Int32), G) else ((some (upR G 84 (upd (G 84) 4 ((G 84 4) + (1 : Int32))))).bind fun G7 => some (((G 85 (G 84 4).toNatClampNeg) - (48 : Int32)), G7)))) else none) else some ((-1 : Int32), G))))
set_option maxRecDepth 100000 in
set_option maxHeartbeats 4000000 in
theorem q_X8_readDigit (l : Launch) (D : va_G) (Y : Nat → ClassId) (ad : Nat → Nat) (hI : Inj 90 ad) (G : GT) (r : Int32) (G' : GT) (h : f_X8_readDigit G  = some (r, G')) : WR l yX8_readDigit cX8_readDigit 3 (some .int) 1 D Y 90 ad (kC Y ad) G [.ref (ad 84)] r G' := by
  refine W_of (ret := (some .int)) (by decide) (Nat.le_of_ble_eq_true rfl) (lv := [(0, .ref (ad 84))]) rfl ?_
  intro p e s m below meth c ls F hP hS hr hk hl
  have F : Fx p c cX8_readDigit 3 s m _ RX8 D Y := F
  have hx := F.1.1
  have hb := F.1.2.1
  refine lv_aload_n hx hb dX8_readDigit_0 rfl (lv_at hl 0 rfl) ?_
  refine rC_84_4 F hP dX8_readDigit_1 ?_
  refine lv_istore_n (lv' := [(1, .int ((G 84 4))), (0, .ref (ad 84))]) hx hb dX8_readDigit_4 rfl hl (by decide) rfl (fun ls hl => ?_)
  refine lv_iload_n hx hb dX8_readDigit_5 rfl (lv_at hl 0 rfl) ?_
  refine lv_if_lt (tgt := 26) hx hb dX8_readDigit_6 (by decide) (fun c1 => ?_) (fun c1 => ?_)
  · have h := ifT h c1
    refine lv_iconst (v := -1) hx hb dX8_readDigit_26 (by decide) ?_
    exact wr_end F hP hS hr hk rfl h dX8_readDigit_27
  · have h := ifF h c1
    refine lv_iload_n hx hb dX8_readDigit_9 rfl (lv_at hl 0 rfl) ?_
    refine lv_aload_n hx hb dX8_readDigit_10 rfl (lv_at hl 1 rfl) ?_
    refine rC_84_3 F hP dX8_readDigit_11 ?_
    refine lv_icmp_ge (tgt := 26) hx hb dX8_readDigit_14 (by decide) (fun c2 => ?_) (fun c2 => ?_)
    · have h := ifT h c2
      refine lv_iconst (v := -1) hx hb dX8_readDigit_26 (by decide) ?_
      exact wr_end F hP hS hr hk rfl h dX8_readDigit_27
    · have h := ifF h c2
      refine lv_iload_n hx hb dX8_readDigit_17 rfl (lv_at hl 0 rfl) ?_
      refine lv_aload_n hx hb dX8_readDigit_18 rfl (lv_at hl 1 rfl) ?_
      refine rC_84_0 F hP dX8_readDigit_19 ?_
      refine alenc F hP 85 (wsW_get 85 (by decide)) dX8_readDigit_22 ?_
      refine lv_icmp_lt (tgt := 28) hx hb dX8_readDigit_23 (by decide) (fun c3 => ?_) (fun c3 => ?_)
      · have h := ifT h c3
        refine lv_aload_n hx hb dX8_readDigit_28 rfl (lv_at hl 1 rfl) ?_
        refine rC_84_0 F hP dX8_readDigit_29 ?_
        refine lv_iload_n hx hb dX8_readDigit_32 rfl (lv_at hl 0 rfl) ?_
        obtain ⟨b4, h⟩ := ckS h
        refine alc F hP 85 (wsW_get 85 (by decide)) (inbV b4 (by decide)) dX8_readDigit_33 ?_
        refine lv_bipush (v := 48) hx hb dX8_readDigit_34 (by decide) ?_
        refine lv_isub hx hb dX8_readDigit_36 ?_
        refine lv_istore_n (lv' := [(2, .int (((G 85 (G 84 4).toNatClampNeg) - (48 : Int32)))), (1, .int ((G 84 4))), (0, .ref (ad 84))]) hx hb dX8_readDigit_37 rfl hl (by decide) rfl (fun ls hl => ?_)
        refine lv_iload_n hx hb dX8_readDigit_38 rfl (lv_at hl 0 rfl) ?_
        refine lv_iconst (v := 0) hx hb dX8_readDigit_39 (by decide) ?_
        refine lv_bipush (v := 9) hx hb dX8_readDigit_40 (by decide) ?_
        obtain ⟨r5, e5, h⟩ := bsome h
        refine rd_SN F hP k_X9_isWithin mw_1530 (q_X9_isWithin l D Y ad G ((G 85 (G 84 4).toNatClampNeg) - (48 : Int32)) (0 : Int32) (9 : Int32) r5 e5) rfl hl.1 ⟨Nat.le_of_ble_eq_true rfl, Nat.le_of_ble_eq_true rfl⟩ (rest := []) rfl (Nat.le_of_ble_eq_true rfl) ⟨Nat.le_of_ble_eq_true rfl, Nat.le_of_ble_eq_true rfl⟩ dX8_readDigit_42 (fun o5 => ?_)
        refine lv_if_ne (tgt := 50) hx hb dX8_readDigit_45 (by decide) (fun c6 => ?_) (fun c6 => ?_)
        · have h := ifF h c6
          refine lv_aload_n hx hb dX8_readDigit_50 rfl (lv_at hl 2 rfl) ?_
          refine lv_dup hx hb dX8_readDigit_51 rfl ?_
          refine rC_84_4 F hP dX8_readDigit_52 ?_
          refine lv_iconst (v := 1) hx hb dX8_readDigit_55 (by decide) ?_
          refine lv_iadd hx hb dX8_readDigit_56 ?_
          obtain ⟨G7, e7, h⟩ := bsome h
          refine pC_84_4 F hI hP hS dX8_readDigit_57 (fun H locs hP hS => ?_)
          have hP := cvP e7 hP
          refine lv_iload_n hx hb dX8_readDigit_60 rfl (lv_at hl 0 rfl) ?_
          exact wr_end F hP hS hr hk rfl h dX8_readDigit_61
        · have h := ifT h c6
          refine lv_iconst (v := -1) hx hb dX8_readDigit_48 (by decide) ?_
          exact wr_end F hP hS hr hk rfl h dX8_readDigit_49
      · have h := ifF h c3
        refine lv_iconst (v := -1) hx hb dX8_readDigit_26 (by decide) ?_
        exact wr_end F hP hS hr hk rfl h dX8_readDigit_27
def f_X8_readNumber (G : GT) (a1 : Int32) : Option (Int32 × GT) := (bind2 (f_X8_readDigit G ) fun r1 G1 => (if r1 = (-1 : Int32) then some (r1, G1) else (if (2 : Int32) ≤ a1 then (bind2 (f_X8_readDigit G1 ) fun r4 G4 => (if r4 = (-1 : Int32) then some (r1, G4) else some ((((10 : Int32) * r1) + r4), G4))) else some (r1, G1))))
set_option maxRecDepth 100000 in
set_option maxHeartbeats 4000000 in
theorem q_X8_readNumber (l : Launch) (D : va_G) (Y : Nat → ClassId) (ad : Nat → Nat) (hI : Inj 90 ad) (G : GT) (a1 : Int32) (r : Int32) (G' : GT) (h : f_X8_readNumber G a1 = some (r, G')) : WR l yX8_readNumber cX8_readNumber 4 (some .int) 2 D Y 90 ad (kC Y ad) G [.ref (ad 84), .int a1] r G' := by
  refine W_of (ret := (some .int)) (by decide) (Nat.le_of_ble_eq_true rfl) (lv := [(0, .ref (ad 84)), (1, .int a1)]) rfl ?_
  intro p e s m below meth c ls F hP hS hr hk hl
  have F : Fx p c cX8_readNumber 4 s m _ RX8 D Y := F
  have hx := F.1.1
  have hb := F.1.2.1
  refine lv_aload_n hx hb dX8_readNumber_0 rfl (lv_at hl 0 rfl) ?_
  obtain ⟨r1, G1, e1, h⟩ := bsome2 h
  refine wr_V F hP hS k_X8_readDigit mw_1526 84 9 rfl (wsW_get 84 (by decide)) (q_X8_readDigit l D Y ad hI G  r1 G1 e1) rfl hl.1 ⟨Nat.le_of_ble_eq_true rfl, Nat.le_of_ble_eq_true rfl⟩ (rest := []) rfl (Nat.le_of_ble_eq_true rfl) ⟨Nat.le_of_ble_eq_true rfl, Nat.le_of_ble_eq_true rfl⟩ dX8_readNumber_1 (fun H locs o1 hP hS => ?_)
  refine lv_istore_n (lv' := [(2, .int r1), (0, .ref (ad 84)), (1, .int a1)]) hx hb dX8_readNumber_4 rfl hl (by decide) rfl (fun ls hl => ?_)
  refine lv_iload_n hx hb dX8_readNumber_5 rfl (lv_at hl 0 rfl) ?_
  refine lv_iconst (v := -1) hx hb dX8_readNumber_6 (by decide) ?_
  refine lv_icmp_eq (tgt := 15) hx hb dX8_readNumber_7 (by decide) (fun c2 => ?_) (fun c2 => ?_)
  · have h := ifT h c2
    refine lv_iload_n hx hb dX8_readNumber_15 rfl (lv_at hl 0 rfl) ?_
    exact wr_end F hP hS hr hk rfl h dX8_readNumber_16
  · have h := ifF h c2
    refine lv_iload_n hx hb dX8_readNumber_10 rfl (lv_at hl 2 rfl) ?_
    refine lv_iconst (v := 2) hx hb dX8_readNumber_11 (by decide) ?_
    refine lv_icmp_ge (tgt := 17) hx hb dX8_readNumber_12 (by decide) (fun c3 => ?_) (fun c3 => ?_)
    · have h := ifT h c3
      refine lv_aload_n hx hb dX8_readNumber_17 rfl (lv_at hl 1 rfl) ?_
      obtain ⟨r4, G4, e4, h⟩ := bsome2 h
      refine wr_V F hP hS k_X8_readDigit mw_1526 84 9 rfl (wsW_get 84 (by decide)) (q_X8_readDigit l D Y ad hI G1  r4 G4 e4) rfl hl.1 ⟨Nat.le_of_ble_eq_true rfl, Nat.le_of_ble_eq_true rfl⟩ (rest := []) rfl (Nat.le_of_ble_eq_true rfl) ⟨Nat.le_of_ble_eq_true rfl, Nat.le_of_ble_eq_true rfl⟩ dX8_readNumber_18 (fun H locs o4 hP hS => ?_)
      refine lv_istore_n (lv' := [(3, .int r4), (2, .int r1), (0, .ref (ad 84)), (1, .int a1)]) hx hb dX8_readNumber_21 rfl hl (by decide) rfl (fun ls hl => ?_)
      refine lv_iload_n hx hb dX8_readNumber_22 rfl (lv_at hl 0 rfl) ?_
      refine lv_iconst (v := -1) hx hb dX8_readNumber_23 (by decide) ?_
      refine lv_icmp_ne (tgt := 31) hx hb dX8_readNumber_24 (by decide) (fun c5 => ?_) (fun c5 => ?_)
      · have h := ifF h c5
        refine lv_bipush (v := 10) hx hb dX8_readNumber_31 (by decide) ?_
        refine lv_iload_n hx hb dX8_readNumber_33 rfl (lv_at hl 1 rfl) ?_
        refine lv_imul hx hb dX8_readNumber_34 ?_
        refine lv_iload_n hx hb dX8_readNumber_35 rfl (lv_at hl 0 rfl) ?_
        refine lv_iadd hx hb dX8_readNumber_36 ?_
        exact wr_end F hP hS hr hk rfl h dX8_readNumber_37
      · have h := ifT h c5
        refine lv_iload_n hx hb dX8_readNumber_27 rfl (lv_at hl 1 rfl) ?_
        refine lv_goto (tgt := 37) hx hb dX8_readNumber_28 (by decide) ?_
        exact wr_end F hP hS hr hk rfl h dX8_readNumber_37
    · have h := ifF h c3
      refine lv_iload_n hx hb dX8_readNumber_15 rfl (lv_at hl 0 rfl) ?_
      exact wr_end F hP hS hr hk rfl h dX8_readNumber_16
def f_X8_take (G : GT) (a1 : Int32) : Option (Int32 × GT) := ((f_X8_isSign G (G 84 4) a1).bind fun r1 => (if r1 = 0 then some ((0 : Int32), G) else ((some (upR G 84 (upd (G 84) 4 ((G 84 4) + (1 : Int32))))).bind fun G3 => some ((1 : Int32), G3))))
set_option maxRecDepth 100000 in
set_option maxHeartbeats 4000000 in
theorem q_X8_take (l : Launch) (D : va_G) (Y : Nat → ClassId) (ad : Nat → Nat) (hI : Inj 90 ad) (G : GT) (a1 : Int32) (r : Int32) (G' : GT) (h : f_X8_take G a1 = some (r, G')) : WR l yX8_take cX8_take 2 (some .boolean) 1 D Y 90 ad (kC Y ad) G [.ref (ad 84), .int a1] r G' := by
  refine W_of (ret := (some .boolean)) (by decide) (Nat.le_of_ble_eq_true rfl) (lv := [(0, .ref (ad 84)), (1, .int a1)]) rfl ?_
  intro p e s m below meth c ls F hP hS hr hk hl
  have F : Fx p c cX8_take 2 s m _ RX8 D Y := F
  have hx := F.1.1
  have hb := F.1.2.1
  refine lv_aload_n hx hb dX8_take_0 rfl (lv_at hl 0 rfl) ?_
  refine lv_aload_n hx hb dX8_take_1 rfl (lv_at hl 0 rfl) ?_
  refine rC_84_4 F hP dX8_take_2 ?_
  refine lv_iload_n hx hb dX8_take_5 rfl (lv_at hl 1 rfl) ?_
  obtain ⟨r1, e1, h⟩ := bsome h
  refine rd_V F hP k_X8_isSign mw_1513 84 9 rfl (wsW_get 84 (by decide)) (q_X8_isSign l D Y ad G (G 84 4) a1 r1 e1) rfl hl.1 ⟨Nat.le_of_ble_eq_true rfl, Nat.le_of_ble_eq_true rfl⟩ (rest := []) rfl (Nat.le_of_ble_eq_true rfl) ⟨Nat.le_of_ble_eq_true rfl, Nat.le_of_ble_eq_true rfl⟩ dX8_take_6 (fun o1 => ?_)
  refine lv_if_ne (tgt := 14) hx hb dX8_take_9 (by decide) (fun c2 => ?_) (fun c2 => ?_)
  · have h := ifF h c2
    refine lv_aload_n hx hb dX8_take_14 rfl (lv_at hl 0 rfl) ?_
    refine lv_dup hx hb dX8_take_15 rfl ?_
    refine rC_84_4 F hP dX8_take_16 ?_
    refine lv_iconst (v := 1) hx hb dX8_take_19 (by decide) ?_
    refine lv_iadd hx hb dX8_take_20 ?_
    obtain ⟨G3, e3, h⟩ := bsome h
    refine pC_84_4 F hI hP hS dX8_take_21 (fun H locs hP hS => ?_)
    have hP := cvP e3 hP
    refine lv_iconst (v := 1) hx hb dX8_take_24 (by decide) ?_
    exact wr_end F hP hS hr hk rfl h dX8_take_25
  · have h := ifT h c2
    refine lv_iconst (v := 0) hx hb dX8_take_12 (by decide) ?_
    exact wr_end F hP hS hr hk rfl h dX8_take_13
