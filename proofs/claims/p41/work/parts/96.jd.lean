/-! charAt; copies; a builder grows -/
theorem s_pci (l : Launch) (D : va_G) (Y : Nat → ClassId) (a0 a1 : Int32) (x : Value) (hx0 : x = .null ∨ ∃ q, x = .ref q) (h0 : ¬ a0 < 0) (h1 : a0 < a1) : RD l yJ3_checkIndex_8e157 cJ3_checkIndex_8e157 3 (some .int) 0 D Y [] [.int a0, .int a1, x] a0 := by
  have hc' : (lg_sl [Value.int a0, Value.int a1, x]).length ≤ 3 := by rcases hx0 with rfl | ⟨q, rfl⟩ <;> exact Nat.le_of_ble_eq_true rfl
  have hlv : lv_args 0 [Value.int a0, Value.int a1, x] = [(0, .int a0), (1, .int a1), (2, x)] := by rcases hx0 with rfl | ⟨q, rfl⟩ <;> rfl
  refine RD_of (ret := some .int) (by decide) hc' hlv ?_
  intro p e s m below meth c ls F hP hr hk hl
  have F : Fx p c cJ3_checkIndex_8e157 3 s m _ RJ3 D Y := F
  have hx := F.1.1
  have hb := F.1.2.1
  refine lv_iload_n hx hb dJ3_checkIndex_8e157_0 rfl (lv_at hl 0 rfl) ?_
  refine lv_if_lt (tgt := 9) hx hb dJ3_checkIndex_8e157_1 (by decide) (fun c1 => absurd c1 h0) (fun c1 => ?_)
  refine lv_iload_n hx hb dJ3_checkIndex_8e157_4 rfl (lv_at hl 0 rfl) ?_
  refine lv_iload_n hx hb dJ3_checkIndex_8e157_5 rfl (lv_at hl 1 rfl) ?_
  refine lv_icmp_lt (tgt := 16) hx hb dJ3_checkIndex_8e157_6 (by decide) (fun c2 => ?_) (fun c2 => absurd h1 c2)
  refine lv_iload_n hx hb dJ3_checkIndex_8e157_16 rfl (lv_at hl 0 rfl) ?_
  exact rd_end F hr hk rfl rfl dJ3_checkIndex_8e157_17
def QN : Option Value → State → State → Prop := fun v st t => v = none ∧ t.heap = st.heap
theorem s_ci (l : Launch) (D : va_G) (Y : Nat → ClassId) {a v : Nat} {bs : List Int32} (a0 a1 : Int32) (h0 : ¬ a0 < 0) (h1 : a0 < a1) : JM l yJ0_checkIndex_df160 cJ0_checkIndex_df160 2 none 1 0 0 D Y (ΦS a v bs) [.int a0, .int a1] QN NoA := by
  refine JM_of (ret := none) (by decide) (Nat.le_of_ble_eq_true rfl) (lv := [(0, .int a0), (1, .int a1)]) rfl ?_
  intro p ev s m below meth c ls F hΦ hr hk hnm hl
  have F : Fx p c cJ0_checkIndex_df160 2 s m _ RJ0 D Y := F
  have hx := F.1.1
  have hb := F.1.2.1
  have hts := F.1.2.2.2.2
  have hown := F.1.2.2.2.1
  refine lv_iload_n hx hb dJ0_checkIndex_df160_0 rfl (lv_at hl 0 rfl) ?_
  refine lv_iload_n hx hb dJ0_checkIndex_df160_1 rfl (lv_at hl 1 rfl) ?_
  have go : ∀ x : Value, (x = .null ∨ ∃ q, x = .ref q) → va_Z "jdk/internal/util/Preconditions" "SIOOBE_FORMATTER" "Ljava/util/function/BiFunction;" x NoA s s.heap → W p l ev (rmD 1 0 0) s m ([.int a0, .int a1] : List Value).toArray below meth c s.heap [] 0 0 (MQ below (JQ QN NoA) ([.int a0, .int a1] : List Value).toArray s 0 0 NoA) (F0 m 2 ls [.int a1, .int a0]) := by
    intro x hx0 hZ
    refine va_gets hx hb hZ nA_S hown (hts _ mw_1162) (fun _ h => h) dJ0_checkIndex_df160_2 ?_
    refine rd_S F P_nil k_J3_checkIndex_8e157 mw_1239 (s_pci l D Y a0 a1 x hx0 h0 h1) rfl hl.1 ⟨Nat.le_of_ble_eq_true rfl, Nat.le_of_ble_eq_true rfl⟩ (rest := []) rfl (Nat.le_of_ble_eq_true rfl) ⟨Nat.le_of_ble_eq_true rfl, Nat.le_of_ble_eq_true rfl⟩ dJ0_checkIndex_df160_5 (fun _ => ?_)
    refine lv_pop hx hb dJ0_checkIndex_df160_8 rfl ?_
    exact W.vret hx hb hr (fun t ht _ => ⟨_, rfl, ⟨rfl, ht⟩, (nA_S (s := s)).F ht⟩) (fun q hq => by cases hq) dJ0_checkIndex_df160_9 hk
  rcases hΦ.2.1 with hZ | ⟨q, hZ⟩
  · exact go _ (Or.inl rfl) hZ
  · exact go _ (Or.inr ⟨q, rfl⟩) hZ
def chT (bs : List Int32) (k : Int32) : Int32 := ((bs.getD k.toNatClampNeg 0 &&& 255).toUInt32 % 65536).toInt32
theorem s_charAt1 (l : Launch) (D : va_G) (Y : Nat → ClassId) {a v : Nat} {bs : List Int32} (a1 : Int32) (h0 : ¬ a1 < 0) (h1 : a1 < nI bs.length) : JR l yJ1_charAt_3b067 cJ1_charAt_3b067 2 (some .char) 2 D Y (ΦS a v bs) [.ref v, .int a1] (chT bs a1) := by
  refine JM_of (ret := some .char) (by decide) (Nat.le_of_ble_eq_true rfl) (lv := [(0, .ref v), (1, .int a1)]) rfl ?_
  intro p ev s m below meth c ls F hΦ hr hk hnm hl
  have F : Fx p c cJ1_charAt_3b067 2 s m _ RJ1 D Y := F
  have hx := F.1.1
  have hb := F.1.2.1
  have hts := F.1.2.2.2.2
  have hown := F.1.2.2.2.1
  refine lv_iload_n hx hb dJ1_charAt_3b067_0 rfl (lv_at hl 1 rfl) ?_
  refine lv_aload_n hx hb dJ1_charAt_3b067_1 rfl (lv_at hl 0 rfl) ?_
  refine va_tlen (v := nI bs.length) hx hb hΦ.2.2.1.2.2.2 nA_S rfl dJ1_charAt_3b067_2 ?_
  refine jm_S F ΦS_mv hΦ nA_S (fun _ h => h) k_J0_checkIndex_df160 mw_1393 (s_ci l D Y (a := a) (v := v) (bs := bs) a1 (nI bs.length) h0 h1) rfl hl.1 ⟨Nat.le_of_ble_eq_true rfl, Nat.le_of_ble_eq_true rfl⟩ (rest := []) rfl (Nat.le_of_ble_eq_true rfl) ⟨Nat.le_of_ble_eq_true rfl, Nat.le_of_ble_eq_true rfl⟩ dJ1_charAt_3b067_3 (fun v2 st t H1 L e0 e1 hp hz hq hS => ?_)
  obtain ⟨rfl, hp⟩ := hp
  obtain rfl : H1 = s.heap := by rw [← e1, hp, e0]
  refine lv_aload_n hx hb dJ1_charAt_3b067_6 rfl (lv_at hl 0 rfl) ?_
  refine lv_iload_n hx hb dJ1_charAt_3b067_7 rfl (lv_at hl 1 rfl) ?_
  refine va_tb hx hb hΦ.2.2.1.2.2.2 hS (inbV ⟨Int32.not_lt.mp h0, h1⟩ (by have := hΦ.2.2.2; omega)) rfl dJ1_charAt_3b067_8 ?_
  refine lv_sipush (v := 255) hx hb dJ1_charAt_3b067_9 (by decide) ?_
  refine lv_iand hx hb dJ1_charAt_3b067_12 ?_
  refine lv_i2c hx hb dJ1_charAt_3b067_13 rfl ?_
  refine W.zret hx hb hr (pk_nc _) (fun t ht _ => ⟨_, rfl, ⟨rfl, pk_nc _⟩, ht⟩) hS.2.2 dJ1_charAt_3b067_14 hk
theorem s_charAt (l : Launch) (D : va_G) (Y : Nat → ClassId) {a v : Nat} {bs : List Int32} (a1 : Int32) (h0 : ¬ a1 < 0) (h1 : a1 < nI bs.length) : JR l yJ0_charAt_5068e cJ0_charAt_5068e 2 (some .char) 3 D Y (ΦS a v bs) [.ref a, .int a1] (chT bs a1) := by
  refine JM_of (ret := some .char) (by decide) (Nat.le_of_ble_eq_true rfl) (lv := [(0, .ref a), (1, .int a1)]) rfl ?_
  intro p ev s m below meth c ls F hΦ hr hk hnm hl
  have F : Fx p c cJ0_charAt_5068e 2 s m _ RJ0 D Y := F
  have hx := F.1.1
  have hb := F.1.2.1
  have hts := F.1.2.2.2.2
  have hown := F.1.2.2.2.1
  refine lv_aload_n hx hb dJ0_charAt_5068e_0 rfl (lv_at hl 0 rfl) ?_
  refine jr_V F ΦS_mv hΦ (ckc_V hts k_J0_isLatin1_aae02) mw_1386 (ΦS_rec hΦ) (s_isLatin1 l D Y) rfl hl.1 ⟨Nat.le_of_ble_eq_true rfl, Nat.le_of_ble_eq_true rfl⟩ (rest := []) rfl (Nat.le_of_ble_eq_true rfl) ⟨Nat.le_of_ble_eq_true rfl, Nat.le_of_ble_eq_true rfl⟩ dJ0_charAt_5068e_1 (fun _ => ?_)
  refine lv_if_eq (tgt := 16) hx hb dJ0_charAt_5068e_4 (by decide) (fun c1 => ?_) (fun c1 => ?_)
  · exact absurd c1 (show ¬ ((1 : Int32) = 0) by decide)
  refine lv_aload_n hx hb dJ0_charAt_5068e_7 rfl (lv_at hl 0 rfl) ?_
  refine vk_getf hx hb hΦ.2.2.1.2.2.1 nA_S hown (hts _ mw_1324) (fun _ h => h) dJ0_charAt_5068e_8 ?_
  refine lv_iload_n hx hb dJ0_charAt_5068e_11 rfl (lv_at hl 1 rfl) ?_
  refine jr_S F ΦS_mv hΦ k_J1_charAt_3b067 mw_1390 (s_charAt1 l D Y (a := a) (v := v) (bs := bs) a1 h0 h1) rfl hl.1 ⟨Nat.le_of_ble_eq_true rfl, Nat.le_of_ble_eq_true rfl⟩ (rest := []) rfl (Nat.le_of_ble_eq_true rfl) ⟨Nat.le_of_ble_eq_true rfl, Nat.le_of_ble_eq_true rfl⟩ dJ0_charAt_5068e_12 (fun ho => ?_)
  exact jr_end F hr hk ho rfl dJ0_charAt_5068e_15
theorem hts_n0 {k : Nat} (h : k < 2 ^ 31) : ¬ nI k < 0 := nI_pos h
def ΦC (Y : Nat → ClassId) (b cap : Nat) (f : Nat → Int32) (sz : Nat) : State → Heap → Prop := fun _ H => H.size = sz ∧ H[b]? = some (vp_cell (Y 6) (cap, .inl f))
theorem ΦC_mv {Y : Nat → ClassId} {b cap : Nat} {f : Nat → Int32} {sz : Nat} : Mv (ΦC Y b cap f sz) := ⟨fun _ _ _ _ _ h => h, fun _ _ _ _ h => h⟩
def GE (sz : Nat) : Nat → Prop := fun x => sz ≤ x
theorem q_copyOf (l : Launch) (D : va_G) (Y : Nat → ClassId) {b cap N sz : Nat} {f : Nat → Int32} (hf : Fb f) (h : cap < N ∧ N ≤ 10000) : JM l yJ7_copyOf_9075b cJ7_copyOf_9075b 3 (some (.array .byte)) 2 1 N D Y (ΦC Y b cap f sz) [.ref b, .int (nI N)] (fun v _ t => v = some (.ref sz) ∧ t.heap[sz]? = some (vp_cell (Y 6) (N, .inl (va_cpy f (fun _ => 0) 0 0 cap))) ∧ t.heap.size = sz + 1) (GE sz) := by
  refine JM_of (ret := (some (.array .byte))) (by decide) (Nat.le_of_ble_eq_true rfl) (lv := [(0, .ref b), (1, .int (nI N))]) rfl ?_
  intro p ev s m below meth c ls F hΦ hr hk hnm hl
  have F : Fx p c cJ7_copyOf_9075b 3 s m _ RJ7 D Y := F
  have hx := F.1.1
  have hb := F.1.2.1
  have hts := F.1.2.2.2.2
  have hown := F.1.2.2.2.1
  obtain ⟨hsz, hcell⟩ := hΦ
  refine lv_iload_n hx hb dJ7_copyOf_9075b_0 rfl (lv_at hl 1 rfl) ?_
  refine lv_aload_n hx hb dJ7_copyOf_9075b_1 rfl (lv_at hl 0 rfl) ?_
  refine va_alen (ty := .byte) (v := nI cap) hx hb F.2.1 (at_P (D := D) (a := b) (e := .inl (Y 6, cap, .inl f)) hcell) 0 6 rfl rfl rfl dJ7_copyOf_9075b_2 ?_
  refine lv_icmp_ne (tgt := 14) hx hb dJ7_copyOf_9075b_3 (by decide) (fun c1 => ?_) (fun c1 => ?_)
  rotate_left
  · exact absurd c1 (show ¬ (nI N = nI cap) from fun z => by have := (nI_eq (by omega) (by omega)).mp z; omega)
  refine lv_iload_n hx hb dJ7_copyOf_9075b_14 rfl (lv_at hl 1 rfl) ?_
  refine jnew_b (N := N) F (nI_pos (by omega)) (nI_clamp (by omega)) (by omega) (by show 0 + 1 ≤ 1; omega) (by show 0 + N ≤ N; omega) dJ7_copyOf_9075b_15 (fun H1 g1 g2 g3 => ?_)
  have hcell := (g3 b (Array.getElem?_eq_some_iff.mp hcell).1).trans hcell
  refine lv_astore_n (lv' := [(2, .ref s.heap.size), (0, .ref b), (1, .int (nI N))]) hx hb dJ7_copyOf_9075b_17 rfl hl (by decide) rfl (fun ls hl => ?_)
  refine lv_aload_n hx hb dJ7_copyOf_9075b_18 rfl (lv_at hl 1 rfl) ?_
  refine lv_iconst (v := 0) hx hb dJ7_copyOf_9075b_19 (by decide) ?_
  refine lv_aload_n hx hb dJ7_copyOf_9075b_20 rfl (lv_at hl 0 rfl) ?_
  refine lv_iconst (v := 0) hx hb dJ7_copyOf_9075b_21 (by decide) ?_
  refine lv_aload_n hx hb dJ7_copyOf_9075b_22 rfl (lv_at hl 1 rfl) ?_
  refine va_alen (ty := .byte) (v := nI cap) hx hb F.2.1 (at_P (D := D) (a := b) (e := .inl (Y 6, cap, .inl f)) hcell) 0 6 rfl rfl rfl dJ7_copyOf_9075b_23 ?_
  refine lv_iload_n hx hb dJ7_copyOf_9075b_24 rfl (lv_at hl 2 rfl) ?_
  refine w_min F hl mw_1141 ⟨Nat.le_of_ble_eq_true rfl, Nat.le_of_ble_eq_true rfl, Nat.le_refl _, (by show 0 + N ≤ N; omega)⟩ dJ7_copyOf_9075b_25 ?_
  rw [show (min32 (nI cap) (nI N) : Int32) = nI cap from (min_nI (by omega) (by omega)).trans (by rw [show min cap N = cap by omega])]
  have ec : (nI cap).toNatClampNeg = cap := nI_clamp (by omega)
  have e0 : (0 : Int32).toNatClampNeg = 0 := by decide
  refine jb_copy F hl (Sr.of F hcell) g1 mw_1142 mw_28 (by decide) (by decide) (nI_pos (by omega)) (by rw [ec, e0]; omega) (by rw [ec, e0]; omega) (fun i _ => hf _) (Nat.le_of_ble_eq_true rfl) (Nat.le_of_ble_eq_true rfl) dJ7_copyOf_9075b_28 (fun H2 L k1 k2 k3 k4 => ?_)
  rw [ec, e0] at k1
  refine lv_aload_n hx hb dJ7_copyOf_9075b_31 rfl (lv_at hl 0 rfl) ?_
  have hS2 : va_S (GE sz) s.heap H2 ([] ++ L) := ⟨by rw [k2, g2]; omega, fun x h1 h2 => (k3 x (by omega)).trans (g3 x h1), fun z hz => by rw [List.nil_append] at hz; rw [k4 z hz]; exact Nat.le_of_eq hsz.symm⟩
  refine W.widen (k := 1) (n := N) (Nat.le_refl _) (by omega) ?_
  exact W.aret hx hb hr (Or.inr ⟨_, rfl⟩) (Or.inr ⟨_, rfl⟩) (fun t ht _ => ⟨_, rfl, ⟨by rw [hsz], by rw [ht, ← hsz]; exact k1, by rw [ht, k2, g2, hsz]⟩, hS2.F ht⟩) hS2.2.2 dJ7_copyOf_9075b_32 hk
