/-! append(String) -/
theorem mv_S {a v : Nat} {bs : List Int32} : Mv (ΦS a v bs) := ΦS_mv
def Ct (t : List Int32) (f : Nat → Int32) : Prop := ∀ j, j < t.length → f j = t.getD j 0
theorem Ct_cpy {t bs : List Int32} {f g : Nat → Int32} (h : Ct t g) (hf : ∀ j, j < bs.length → f j = bs.getD j 0) : Ct (t ++ bs) (va_cpy f g 0 t.length bs.length) := fun j hj => by
  rw [List.length_append] at hj
  unfold va_cpy
  rw [List.getD_eq_getElem?_getD, List.getElem?_append]
  by_cases h1 : j < t.length
  · rw [if_neg (by omega), if_pos h1, h j h1, List.getD_eq_getElem?_getD]
  · rw [if_pos (by omega), if_neg h1, Nat.zero_add, hf _ (by omega), List.getD_eq_getElem?_getD]
theorem Ct_ext {t : List Int32} {f g : Nat → Int32} (h : Ct t g) (he : ∀ j, j < t.length → f j = g j) : Ct t f := fun j hj => by rw [he j hj, h j hj]
theorem q_bLat (l : Launch) (D : va_G) (Y : Nat → ClassId) {q b n cap sz : Nat} {f : Nat → Int32} : JR l yJ5_isLatin1_aae02 cJ5_isLatin1_aae02 1 (some .boolean) 0 D Y (ΦB D Y q b n cap f sz) [.ref q] 1 := by
  refine JM_of (ret := some .boolean) (by decide) (Nat.le_of_ble_eq_true rfl) (lv := [(0, .ref q)]) rfl ?_
  intro p ev s m below meth c ls F hΦ hr hk hnm hl
  have F : Fx p c cJ5_isLatin1_aae02 1 s m _ RJ5 D Y := F
  have hx := F.1.1
  have hb := F.1.2.1
  have hts := F.1.2.2.2.2
  have hown := F.1.2.2.2.1
  obtain ⟨⟨hsz, hne, hnc, hcm, hfb, hP⟩, hJ⟩ := hΦ
  refine va_gets hx hb hJ.1 (va_S.rf (A := AB q b sz)) hown (hts _ mw_1081) (fun _ h => h) dJ5_isLatin1_aae02_0 ?_
  refine lv_if_eq (tgt := 17) hx hb dJ5_isLatin1_aae02_3 (by decide) (fun c1 => ?_) (fun c1 => ?_)
  · exact absurd c1 (show ¬ ((1 : Int32) = 0) by decide)
  refine lv_aload_n hx hb dJ5_isLatin1_aae02_6 rfl (lv_at hl 0 rfl) ?_
  refine b_get F hP 1 (by decide) mw_1091 rfl rfl dJ5_isLatin1_aae02_7 ?_
  refine lv_if_ne (tgt := 17) hx hb dJ5_isLatin1_aae02_10 (by decide) (fun c2 => ?_) (fun c2 => ?_)
  · exact absurd (show (0 : Int32) = 0 from rfl) c2
  refine lv_iconst (v := 1) hx hb dJ5_isLatin1_aae02_13 (by decide) ?_
  refine lv_goto (tgt := 18) hx hb dJ5_isLatin1_aae02_14 (by decide) ?_
  exact jr_end F hr hk rfl rfl dJ5_isLatin1_aae02_18
theorem k4_l1 {s : State} {A0 : Array Value} (hts : ∀ w ∈ LW, w.before A0 s = true) : CKC RJ4 s yJ5_isLatin1_aae02 cJ5_isLatin1_aae02 1 (some .boolean) 0 := ⟨mw_1146, fun A => hts _ mw_1148, mw_23, mw_1149, by decide +kernel⟩
theorem q_inflN (l : Launch) (D : va_G) (Y : Nat → ClassId) {q b n cap a v : Nat} {f : Nat → Int32} {bs : List Int32} : JM l yJ5_inflateIfNeededFor_a7421 cJ5_inflateIfNeededFor_a7421 2 none 1 0 0 D Y (fun U H => va_P D vwCl (wB Y q b n cap f) H ∧ ΦS a v bs U H) [.ref q, .ref a] (QN) (NoA) := by
  refine JM_of (ret := none) (by decide) (Nat.le_of_ble_eq_true rfl) (lv := [(0, .ref q), (1, .ref a)]) rfl ?_
  intro p ev s m below meth c ls F hΦ hr hk hnm hl
  have F : Fx p c cJ5_inflateIfNeededFor_a7421 2 s m _ RJ5 D Y := F
  have hx := F.1.1
  have hb := F.1.2.1
  have hts := F.1.2.2.2.2
  have hown := F.1.2.2.2.1
  obtain ⟨hP, hΦ⟩ := hΦ
  refine va_gets hx hb hΦ.1 nA_S hown (hts _ mw_1081) (fun _ h => h) dJ5_inflateIfNeededFor_a7421_0 ?_
  refine lv_if_eq (tgt := 21) hx hb dJ5_inflateIfNeededFor_a7421_3 (by decide) (fun c1 => ?_) (fun c1 => ?_)
  · exact absurd c1 (show ¬ ((1 : Int32) = 0) by decide)
  refine lv_aload_n hx hb dJ5_inflateIfNeededFor_a7421_6 rfl (lv_at hl 0 rfl) ?_
  refine b_get F hP 1 (by decide) mw_1091 rfl rfl dJ5_inflateIfNeededFor_a7421_7 ?_
  refine lv_aload_n hx hb dJ5_inflateIfNeededFor_a7421_10 rfl (lv_at hl 1 rfl) ?_
  refine jr_V F ΦS_mv hΦ (ckc_V hts k_J0_coder_7d493) mw_1193 (ΦS_rec hΦ) (s_coder l D Y) rfl hl.1 ⟨Nat.le_of_ble_eq_true rfl, Nat.le_of_ble_eq_true rfl⟩ (rest := [.int 0]) rfl (Nat.le_of_ble_eq_true rfl) ⟨Nat.le_of_ble_eq_true rfl, Nat.le_of_ble_eq_true rfl⟩ dJ5_inflateIfNeededFor_a7421_11 (fun _ => ?_)
  refine lv_icmp_eq (tgt := 21) hx hb dJ5_inflateIfNeededFor_a7421_14 (by decide) (fun c2 => ?_) (fun c2 => ?_)
  rotate_left
  · exact absurd (show (0 : Int32) = 0 from rfl) c2
  exact W.vret hx hb hr (fun t ht _ => ⟨_, rfl, ⟨rfl, ht⟩, (nA_S (s := s)).F ht⟩) (fun q hq => by cases hq) dJ5_inflateIfNeededFor_a7421_21 hk
theorem q_getBytes (l : Launch) (D : va_G) (Y : Nat → ClassId) {b n cap a v : Nat} {f : Nat → Int32} {bs : List Int32} (hn : n + bs.length ≤ cap ∧ cap ≤ 1000) : JM l yJ0_getBytes_840e7 cJ0_getBytes_840e7 4 none 2 0 0 D Y (fun U H => H[b]? = some (vp_cell (Y 6) (cap, .inl f)) ∧ ΦT (fun x => x = b) a v bs U H) [.ref a, .ref b, .int (nI n), .int 0] (fun r st t => r = none ∧ t.heap[b]? = some (vp_cell (Y 6) (cap, .inl (va_cpy (fun j => bs.getD j 0) f 0 n bs.length))) ∧ t.heap.size = st.heap.size) (fun x => x = b) := by
  refine JM_of (ret := none) (by decide) (Nat.le_of_ble_eq_true rfl) (lv := [(0, .ref a), (1, .ref b), (2, .int (nI n)), (3, .int 0)]) rfl ?_
  intro p ev s m below meth c ls F hΦ hr hk hnm hl
  have F : Fx p c cJ0_getBytes_840e7 4 s m _ RJ0 D Y := F
  have hx := F.1.1
  have hb := F.1.2.1
  have hts := F.1.2.2.2.2
  have hown := F.1.2.2.2.1
  obtain ⟨hb1, hΦ⟩ := hΦ
  have hΦS : ΦS a v bs s s.heap := hΦ.S
  refine lv_aload_n hx hb dJ0_getBytes_840e7_0 rfl (lv_at hl 0 rfl) ?_
  refine jr_V F ΦS_mv hΦS (ckc_V hts k_J0_coder_7d493) mw_1180 (ΦS_rec hΦS) (s_coder l D Y) rfl hl.1 ⟨Nat.le_of_ble_eq_true rfl, Nat.le_of_ble_eq_true rfl⟩ (rest := []) rfl (Nat.le_of_ble_eq_true rfl) ⟨Nat.le_of_ble_eq_true rfl, Nat.le_of_ble_eq_true rfl⟩ dJ0_getBytes_840e7_1 (fun _ => ?_)
  refine lv_iload_n hx hb dJ0_getBytes_840e7_4 rfl (lv_at hl 3 rfl) ?_
  refine lv_icmp_ne (tgt := 28) hx hb dJ0_getBytes_840e7_5 (by decide) (fun c1 => ?_) (fun c1 => ?_)
  · exact absurd (show (0 : Int32) = 0 from rfl) c1
  refine lv_aload_n hx hb dJ0_getBytes_840e7_8 rfl (lv_at hl 0 rfl) ?_
  refine vk_getf hx hb hΦ.2.2.1.2.2.1 (va_S.rf (A := fun x => x = b)) hown (hts _ mw_1324) (fun _ h => h) dJ0_getBytes_840e7_9 ?_
  refine lv_iconst (v := 0) hx hb dJ0_getBytes_840e7_12 (by decide) ?_
  refine lv_aload_n hx hb dJ0_getBytes_840e7_13 rfl (lv_at hl 1 rfl) ?_
  refine lv_iload_n hx hb dJ0_getBytes_840e7_14 rfl (lv_at hl 2 rfl) ?_
  refine lv_iload_n hx hb dJ0_getBytes_840e7_15 rfl (lv_at hl 3 rfl) ?_
  refine lv_ishl hx hb dJ0_getBytes_840e7_16 ?_
  rw [show (((nI n) <<< ((0 : Int32) &&& 31)) : Int32) = (nI n) from jshl _]
  refine lv_aload_n hx hb dJ0_getBytes_840e7_17 rfl (lv_at hl 0 rfl) ?_
  refine vk_getf hx hb hΦ.2.2.1.2.2.1 (va_S.rf (A := fun x => x = b)) hown (hts _ mw_1324) (fun _ h => h) dJ0_getBytes_840e7_18 ?_
  refine va_tlen (v := nI bs.length) hx hb hΦ.2.2.1.2.2.2 (va_S.rf (A := fun x => x = b)) rfl dJ0_getBytes_840e7_21 ?_
  have hl3 := hΦ.2.2.2.1
  have ec : (nI bs.length).toNatClampNeg = bs.length := nI_clamp (by omega)
  have en : (nI n).toNatClampNeg = n := nI_clamp (by omega)
  have e0 : (0 : Int32).toNatClampNeg = 0 := by decide
  refine jb_copy F hl (Sr.str hΦ.2.2.1.2.2.2) hb1 mw_1217 mw_28 (by decide) (nI_pos (by omega)) (nI_pos (by omega)) (by rw [ec, e0]; omega) (by rw [ec, en]; omega) (fun i _ => hΦ.2.2.2.2 _) (Nat.le_of_ble_eq_true rfl) (Nat.le_of_ble_eq_true rfl) dJ0_getBytes_840e7_22 (fun H2 L k1 k2 k3 k4 => ?_)
  rw [ec, e0, en] at k1
  refine lv_goto (tgt := 43) hx hb dJ0_getBytes_840e7_25 (by decide) ?_
  have hS2 : va_S (fun x => x = b) s.heap H2 ([] ++ L) := ⟨by rw [k2]; exact Nat.le_refl _, fun x h1 h2 => k3 x h2, fun z hz => by rw [List.nil_append] at hz; exact k4 z hz⟩
  exact W.vret hx hb hr (fun t ht _ => ⟨_, rfl, ⟨rfl, by rw [ht]; exact k1, by rw [ht, k2]⟩, hS2.F ht⟩) hS2.2.2 dJ0_getBytes_840e7_43 hk
theorem q_putStr (l : Launch) (D : va_G) (Y : Nat → ClassId) {q b n cap a v : Nat} {f : Nat → Int32} {bs : List Int32} (hn : n + bs.length ≤ cap ∧ cap ≤ 1000) : JM l yJ5_putStringAt_47b60 cJ5_putStringAt_47b60 3 none 3 0 0 D Y (fun U H => (va_P D vwCl (wB Y q b n cap f) H ∧ Sj U) ∧ ΦT (fun x => x = b) a v bs U H) [.ref q, .int (nI n), .ref a] (fun r st t => r = none ∧ t.heap[b]? = some (vp_cell (Y 6) (cap, .inl (va_cpy (fun j => bs.getD j 0) f 0 n bs.length))) ∧ t.heap.size = st.heap.size) (fun x => x = b) := by
  refine JM_of (ret := none) (by decide) (Nat.le_of_ble_eq_true rfl) (lv := [(0, .ref q), (1, .int (nI n)), (2, .ref a)]) rfl ?_
  intro p ev s m below meth c ls F hΦ hr hk hnm hl
  have F : Fx p c cJ5_putStringAt_47b60 3 s m _ RJ5 D Y := F
  have hx := F.1.1
  have hb := F.1.2.1
  have hts := F.1.2.2.2.2
  have hown := F.1.2.2.2.1
  obtain ⟨⟨hP, hj⟩, hΦ⟩ := hΦ
  have hΦS : ΦS a v bs s s.heap := hΦ.S
  refine lv_aload_n hx hb dJ5_putStringAt_47b60_0 rfl (lv_at hl 0 rfl) ?_
  refine lv_aload_n hx hb dJ5_putStringAt_47b60_1 rfl (lv_at hl 2 rfl) ?_
  refine jm_V F (mv_and (mv_h _) ΦS_mv) ⟨hP, hΦS⟩ (va_S.rf (A := fun x => x = b)) (fun _ z => z.elim) (k4_in hj) mw_1189 (b_rec F hP) (q_inflN l D Y) rfl hl.1 ⟨Nat.le_of_ble_eq_true rfl, Nat.le_of_ble_eq_true rfl⟩ (rest := []) rfl (Nat.le_of_ble_eq_true rfl) ⟨Nat.le_of_ble_eq_true rfl, Nat.le_of_ble_eq_true rfl⟩ dJ5_putStringAt_47b60_2 (fun v2 st t H1 L e0 e1 hp hz hq hS => ?_)
  obtain ⟨rfl, hp⟩ := hp
  obtain rfl : H1 = s.heap := by rw [← e1, hp, e0]
  refine lv_aload_n hx hb dJ5_putStringAt_47b60_5 rfl (lv_at hl 2 rfl) ?_
  refine lv_aload_n hx hb dJ5_putStringAt_47b60_6 rfl (lv_at hl 0 rfl) ?_
  refine b_get F hP 0 (by decide) mw_1090 rfl rfl dJ5_putStringAt_47b60_7 ?_
  refine lv_iload_n hx hb dJ5_putStringAt_47b60_10 rfl (lv_at hl 1 rfl) ?_
  refine lv_aload_n hx hb dJ5_putStringAt_47b60_11 rfl (lv_at hl 0 rfl) ?_
  refine b_get F hP 1 (by decide) mw_1091 rfl rfl dJ5_putStringAt_47b60_12 ?_
  refine jm_V F (mv_and (mv_h _) ΦT_mv) ⟨hP 1 _ rfl, hΦ⟩ hS (fun _ z => z) (ckc_V hts k_J0_getBytes_840e7) mw_1213 (ΦS_rec hΦS) (q_getBytes l D Y (b := b) (n := n) (cap := cap) (a := a) (v := v) (f := f) (bs := bs) hn) rfl hl.1 ⟨Nat.le_of_ble_eq_true rfl, Nat.le_of_ble_eq_true rfl⟩ (rest := []) rfl (Nat.le_of_ble_eq_true rfl) ⟨Nat.le_of_ble_eq_true rfl, Nat.le_of_ble_eq_true rfl⟩ dJ5_putStringAt_47b60_15 (fun v2 st t H1 L2 e0 e1 hp hz hq hS2 => ?_)
  obtain ⟨rfl, hp1, hp2⟩ := hp
  exact W.vret hx hb hr (fun t9 ht _ => ⟨_, rfl, ⟨rfl, by rw [ht, ← e1]; exact hp1, by rw [ht, ← e1, hp2, e0]⟩, hS2.F ht⟩) hS2.2.2 dJ5_putStringAt_47b60_18 hk
