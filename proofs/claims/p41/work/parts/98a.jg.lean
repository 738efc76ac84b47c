/-! appends -/
theorem wB_D2 {Y : Nat → ClassId} {q b b' n cap sz : Nat} {f : Nat → Int32} (hne : q ≠ b') (hb : b' = b ∨ sz ≤ b') : va_D (AB q b sz) (wB Y q b' n cap f) := by
  refine ⟨fun i j x z hi hj hxz => ?_, fun i x hi => ?_⟩
  · have h1 : i < 2 := (List.getElem?_eq_some_iff.mp hi).1
    have h2 : j < 2 := (List.getElem?_eq_some_iff.mp hj).1
    obtain rfl | rfl : i = 0 ∨ i = 1 := by omega
    · obtain rfl | rfl : j = 0 ∨ j = 1 := by omega
      · rfl
      · cases hi; cases hj; exact absurd hxz hne
    · obtain rfl | rfl : j = 0 ∨ j = 1 := by omega
      · cases hi; cases hj; exact absurd hxz.symm hne
      · rfl
  · have h1 : i < 2 := (List.getElem?_eq_some_iff.mp hi).1
    obtain rfl | rfl : i = 0 ∨ i = 1 := by omega
    · cases hi; exact Or.inl rfl
    · cases hi; exact hb.elim (fun h => Or.inr (Or.inl h)) (fun h => Or.inr (Or.inr h))
theorem AB_sub {q b b' sz sz' : Nat} (h : b' = b ∨ sz ≤ b') (hz : sz ≤ sz') : ∀ x, AB q b' sz' x → AB q b sz x := fun x hx => by
  rcases hx with hx | hx | hx
  · exact Or.inl hx
  · subst hx
    exact h.elim (fun h => Or.inr (Or.inl h)) (fun h => Or.inr (Or.inr h))
  · exact Or.inr (Or.inr (Nat.le_trans hz hx))
theorem mv_Sj : Mv (fun U _ => Sj U) := ⟨fun _ _ _ _ _ h => Sj.call h, fun _ _ _ hW h => Sj.warm hW h⟩
theorem Ct_upd {t : List Int32} {f : Nat → Int32} (h : Ct t f) (x : Int32) : Ct (t ++ [x]) (upd f t.length x) := fun j hj => by
  rw [List.length_append] at hj
  have hj : j < t.length + 1 := hj
  rw [List.getD_eq_getElem?_getD, List.getElem?_append]
  by_cases h1 : j < t.length
  · rw [if_pos h1, pk_un (by omega), h j h1, List.getD_eq_getElem?_getD]
  · obtain rfl : j = t.length := by omega
    rw [if_neg h1, pk_us, Nat.sub_self]
    rfl
def PaQ (D : va_G) (Y : Nat → ClassId) (q b sz : Nat) (t' : List Int32) : Option Value → State → State → Prop := fun v _ t => v = some (.ref q) ∧ ∃ b' cap' f', (b' = b ∨ sz ≤ b') ∧ q ≠ b' ∧ t'.length ≤ cap' ∧ cap' ≤ 128 ∧ Fb f' ∧ Ct t' f' ∧ va_P D vwCl (wB Y q b' t'.length cap' f') t.heap
theorem narI (x : Int32) : narrow .int (.int x) = .int x ∧ fits .int (.int x) = true := ⟨rfl, rfl⟩
theorem q_apS0 (l : Launch) (D : va_G) (Y : Nat → ClassId) {q b cap sz a v : Nat} {f : Nat → Int32} {t bs : List Int32} (hct : Ct t f) (hlen : t.length + bs.length ≤ 64) : JM l yJ5_append_cf1ce cJ5_append_cf1ce 3 (some (.object "java/lang/AbstractStringBuilder")) 5 1 128 D Y (fun U H => ΦB D Y q b t.length cap f sz U H ∧ ΦT (AB q b sz) a v bs U H) [.ref q, .ref a] (PaQ D Y q b sz (t ++ bs)) (AB q b sz) := by
  refine JM_of (ret := (some (.object "java/lang/AbstractStringBuilder"))) (by decide) (Nat.le_of_ble_eq_true rfl) (lv := [(0, .ref q), (1, .ref a)]) rfl ?_
  intro p ev s m below meth c ls F hΦ hr hk hnm hl
  have F : Fx p c cJ5_append_cf1ce 3 s m _ RJ5 D Y := F
  have hx := F.1.1
  have hb := F.1.2.1
  have hts := F.1.2.2.2.2
  have hown := F.1.2.2.2.1
  obtain ⟨hΦB, hΦT⟩ := hΦ
  obtain ⟨⟨hsz, hne, hnc, hcm, hfb, hP⟩, hJ⟩ := id hΦB
  have hΦS : ΦS a v bs s s.heap := hΦT.S
  refine lv_aload_n hx hb dJ5_append_cf1ce_0 rfl (lv_at hl 1 rfl) ?_
  refine lv_ifnonnull (tgt := 9) hx hb dJ5_append_cf1ce_1 (by decide) ?_
  refine lv_aload_n hx hb dJ5_append_cf1ce_9 rfl (lv_at hl 1 rfl) ?_
  refine jr_V F ΦS_mv hΦS (ckc_V hts k_J0_length_8abf5) mw_1176 (ΦS_rec hΦS) (s_length l D Y) rfl hl.1 ⟨Nat.le_of_ble_eq_true rfl, Nat.le_of_ble_eq_true rfl⟩ (rest := []) rfl (Nat.le_of_ble_eq_true rfl) ⟨Nat.le_of_ble_eq_true rfl, Nat.le_of_ble_eq_true rfl⟩ dJ5_append_cf1ce_10 (fun _ => ?_)
  refine lv_istore_n (lv' := [(2, .int (nI bs.length)), (0, .ref q), (1, .ref a)]) hx hb dJ5_append_cf1ce_13 rfl hl (by decide) rfl (fun ls hl => ?_)
  refine lv_aload_n hx hb dJ5_append_cf1ce_14 rfl (lv_at hl 1 rfl) ?_
  refine lv_aload_n hx hb dJ5_append_cf1ce_15 rfl (lv_at hl 1 rfl) ?_
  refine b_get F hP 3 (by decide) mw_1093 rfl rfl dJ5_append_cf1ce_16 ?_
  refine lv_iload_n hx hb dJ5_append_cf1ce_19 rfl (lv_at hl 0 rfl) ?_
  refine lv_iadd hx hb dJ5_append_cf1ce_20 ?_
  rw [show (((nI t.length) + (nI bs.length)) : Int32) = (nI (t.length + bs.length)) from nI_add _ _]
  refine jm_V F ΦB_mv hΦB (va_S.rf (A := AB q b sz)) (fun _ z => z) (k4_en hJ.2.2) mw_1114 (b_rec F hP) (q_ensure l D Y (q := q) (b := b) (n := t.length) (cap := cap) (sz := sz) (f := f) (k := t.length + bs.length) (hlen)) rfl hl.1 ⟨Nat.le_of_ble_eq_true rfl, Nat.le_of_ble_eq_true rfl⟩ (rest := []) rfl (Nat.le_of_ble_eq_true rfl) ⟨Nat.le_of_ble_eq_true rfl, Nat.le_of_ble_eq_true rfl⟩ dJ5_append_cf1ce_21 (fun v2 st tt H1 L e0 e1 hp hz hq hS => ?_)
  obtain ⟨rfl, b', cap', f', hb', hne', hkc, hnc', hcm', hfb', hff, hP1⟩ := hp
  rw [e1] at hP1
  have hct1 : Ct t f' := Ct_ext hct hff
  have hP := hP1
  refine lv_aload_n hx hb dJ5_append_cf1ce_24 rfl (lv_at hl 1 rfl) ?_
  refine lv_aload_n hx hb dJ5_append_cf1ce_25 rfl (lv_at hl 1 rfl) ?_
  refine b_get F hP 3 (by decide) mw_1093 rfl rfl dJ5_append_cf1ce_26 ?_
  refine lv_aload_n hx hb dJ5_append_cf1ce_29 rfl (lv_at hl 2 rfl) ?_
  have hT1 : ΦT (AB q b sz) a v bs s H1 := hΦT.kept hq
  refine jm_V F (mv_and (mv_and (mv_h _) mv_Sj) ΦT_mv) ⟨⟨hP, hJ.2.2⟩, hT1.narrow (fun x (hx : x = b') => hx ▸ hb'.elim (fun h => Or.inr (Or.inl h)) (fun h => Or.inr (Or.inr h)))⟩ hS (fun x (hx : x = b') => hx ▸ hb'.elim (fun h => Or.inr (Or.inl h)) (fun h => Or.inr (Or.inr h))) (k4_ps hJ.2.2) mw_1185 (b_rec F hP) (q_putStr l D Y (q := q) (b := b') (n := t.length) (cap := cap') (a := a) (v := v) (f := f') (bs := bs) ⟨by omega, by omega⟩) rfl hl.1 ⟨Nat.le_of_ble_eq_true rfl, Nat.le_of_ble_eq_true rfl⟩ (rest := []) rfl (Nat.le_of_ble_eq_true rfl) ⟨Nat.le_of_ble_eq_true rfl, Nat.le_of_ble_eq_true rfl⟩ dJ5_append_cf1ce_30 (fun v3 st3 t3 H2 L3 e2 e3 hp2 hz2 hq2 hS2 => ?_)
  obtain ⟨rfl, hp3, hp4⟩ := hp2
  rw [e3] at hp3
  have hP : va_P D vwCl (wB Y q b' t.length cap' (va_cpy (fun j => bs.getD j 0) f' 0 t.length bs.length)) H2 := at_P2 ((hP 0 _ rfl).kept (hq2 q (wB_lt hP).1 hne')) hp3
  refine lv_aload_n hx hb dJ5_append_cf1ce_33 rfl (lv_at hl 1 rfl) ?_
  refine lv_dup hx hb dJ5_append_cf1ce_34 rfl ?_
  refine b_get F hP 3 (by decide) mw_1093 rfl rfl dJ5_append_cf1ce_35 ?_
  refine lv_iload_n hx hb dJ5_append_cf1ce_38 rfl (lv_at hl 0 rfl) ?_
  refine lv_iadd hx hb dJ5_append_cf1ce_39 ?_
  rw [show (((nI t.length) + (nI bs.length)) : Int32) = (nI (t.length + bs.length)) from nI_add _ _]
  refine b_put F hP (wB_D2 hne' hb') hS2 (fs := [.ref b', .int 0, .int 0, .int (nI t.length)]) rfl rfl 3 (by decide) mw_1093 rfl rfl (ty := .int) (v := .int (nI (t.length + bs.length))) (by decide) rfl rfl dJ5_append_cf1ce_40 (fun H9 L9 hP9 _ hS9 => ?_)
  refine lv_aload_n hx hb dJ5_append_cf1ce_43 rfl (lv_at hl 1 rfl) ?_
  refine W.widen (k := 1) (n := 128) (Nat.le_refl _) (Nat.le_refl _) ?_
  exact W.aret hx hb hr (Or.inl ⟨_, rfl⟩) (Or.inr ⟨_, rfl⟩) (fun t9 ht _ => ⟨_, rfl, ⟨rfl, b', cap', va_cpy (fun j => bs.getD j 0) f' 0 t.length bs.length, hb', hne', by rw [List.length_append]; exact hkc, hcm', Fb_cpy hΦT.2.2.2.2 hfb' _ _ _, Ct_cpy hct1 (fun _ _ => rfl), by rw [ht, List.length_append]; exact hP9⟩, hS9.F ht⟩) hS9.2.2 dJ5_append_cf1ce_44 hk
theorem q_apS (l : Launch) (D : va_G) (Y : Nat → ClassId) {q b cap sz a v : Nat} {f : Nat → Int32} {t bs : List Int32} (hct : Ct t f) (hlen : t.length + bs.length ≤ 64) : JM l yJ4_append_15ec4 cJ4_append_15ec4 2 (some (.object "java/lang/StringBuilder")) 6 1 128 D Y (fun U H => ΦB D Y q b t.length cap f sz U H ∧ ΦT (AB q b sz) a v bs U H) [.ref q, .ref a] (PaQ D Y q b sz (t ++ bs)) (AB q b sz) := by
  refine JM_of (ret := (some (.object "java/lang/StringBuilder"))) (by decide) (Nat.le_of_ble_eq_true rfl) (lv := [(0, .ref q), (1, .ref a)]) rfl ?_
  intro p ev s m below meth c ls F hΦ hr hk hnm hl
  have F : Fx p c cJ4_append_15ec4 2 s m _ RJ4 D Y := F
  have hx := F.1.1
  have hb := F.1.2.1
  have hts := F.1.2.2.2.2
  have hown := F.1.2.2.2.1
  obtain ⟨cC, hat⟩ := cl_at F.2
  refine lv_aload_n hx hb dJ4_append_15ec4_0 rfl (lv_at hl 0 rfl) ?_
  refine lv_aload_n hx hb dJ4_append_15ec4_1 rfl (lv_at hl 1 rfl) ?_
  refine jm_U (ar := 1) F (mv_and ΦB_mv ΦT_mv) hΦ (va_S.rf (A := AB q b sz)) (fun _ z => z) hat (b_rec F hΦ.1.1.2.2.2.2.2) mw_1107 jw_sS jw_sup mw_1108 mw_23 mw_1109 (by decide +kernel) (q_apS0 l D Y (q := q) (b := b) (cap := cap) (sz := sz) (a := a) (v := v) (f := f) (t := t) (bs := bs) hct hlen) rfl hl.1 ⟨Nat.le_of_ble_eq_true rfl, Nat.le_of_ble_eq_true rfl⟩ (rest := []) rfl (Nat.le_of_ble_eq_true rfl) ⟨Nat.le_of_ble_eq_true rfl, Nat.le_of_ble_eq_true rfl⟩ dJ4_append_15ec4_2 (fun v2 st tt H1 L e0 e1 hp hz hq hS9 => ?_)
  obtain ⟨rfl, b', cap', f', hb', hne', hkc, hcm', hfb', hct', hP1⟩ := hp
  rw [e1] at hP1
  refine lv_pop hx hb dJ4_append_15ec4_5 rfl ?_
  refine lv_aload_n hx hb dJ4_append_15ec4_6 rfl (lv_at hl 0 rfl) ?_
  refine W.widen (k := 1) (n := 128) (Nat.le_refl _) (Nat.le_refl _) ?_
  exact W.aret hx hb hr (Or.inl ⟨_, rfl⟩) (Or.inr ⟨_, rfl⟩) (fun t9 ht _ => ⟨_, rfl, ⟨rfl, b', cap', f', hb', hne', hkc, hcm', hfb', hct', by rw [ht]; exact hP1⟩, hS9.F ht⟩) hS9.2.2 dJ4_append_15ec4_7 hk
theorem q_apC0 (l : Launch) (D : va_G) (Y : Nat → ClassId) {q b cap sz k : Nat} {f : Nat → Int32} {t : List Int32} (hct : Ct t f) (hlen : t.length + 1 ≤ 64) (hk128 : k < 128) : JM l yJ5_append_3fe6f cJ5_append_3fe6f 2 (some (.object "java/lang/AbstractStringBuilder")) 5 1 128 D Y (ΦB D Y q b t.length cap f sz) [.ref q, .int (nI k)] (PaQ D Y q b sz (t ++ [nI k])) (AB q b sz) := by
  refine JM_of (ret := (some (.object "java/lang/AbstractStringBuilder"))) (by decide) (Nat.le_of_ble_eq_true rfl) (lv := [(0, .ref q), (1, .int (nI k))]) rfl ?_
  intro p ev s m below meth c ls F hΦ hr hk hnm hl
  have F : Fx p c cJ5_append_3fe6f 2 s m _ RJ5 D Y := F
  have hx := F.1.1
  have hb := F.1.2.1
  have hts := F.1.2.2.2.2
  have hown := F.1.2.2.2.1
  have hΦB := hΦ
  obtain ⟨⟨hsz, hne, hnc, hcm, hfb, hP⟩, hJ⟩ := id hΦB
  refine lv_aload_n hx hb dJ5_append_3fe6f_0 rfl (lv_at hl 0 rfl) ?_
  refine lv_aload_n hx hb dJ5_append_3fe6f_1 rfl (lv_at hl 0 rfl) ?_
  refine b_get F hP 3 (by decide) mw_1093 rfl rfl dJ5_append_3fe6f_2 ?_
  refine lv_iconst (v := 1) hx hb dJ5_append_3fe6f_5 (by decide) ?_
  refine lv_iadd hx hb dJ5_append_3fe6f_6 ?_
  rw [show (((nI t.length) + (1 : Int32)) : Int32) = (nI (t.length + 1)) from nI_add t.length 1]
  refine jm_V F ΦB_mv hΦB (va_S.rf (A := AB q b sz)) (fun _ z => z) (k4_en hJ.2.2) mw_1114 (b_rec F hP) (q_ensure l D Y (q := q) (b := b) (n := t.length) (cap := cap) (sz := sz) (f := f) (k := t.length + 1) (hlen)) rfl hl.1 ⟨Nat.le_of_ble_eq_true rfl, Nat.le_of_ble_eq_true rfl⟩ (rest := []) rfl (Nat.le_of_ble_eq_true rfl) ⟨Nat.le_of_ble_eq_true rfl, Nat.le_of_ble_eq_true rfl⟩ dJ5_append_3fe6f_7 (fun v2 st tt H1 L e0 e1 hp hz hq hS => ?_)
  obtain ⟨rfl, b', cap', f', hb', hne', hkc, hnc', hcm', hfb', hff, hP1⟩ := hp
  rw [e1] at hP1
  have hct1 : Ct t f' := Ct_ext hct hff
  have hP := hP1
  refine lv_aload_n hx hb dJ5_append_3fe6f_10 rfl (lv_at hl 0 rfl) ?_
  have hΦ1 : ΦB D Y q b' t.length cap' f' H1.size s H1 := ⟨⟨rfl, hne', hnc', hcm', hfb', hP⟩, (hJ.kept hq).narrow (AB_sub hb' (by rw [← hsz]; exact hz))⟩
  refine jr_V F ΦB_mv hΦ1 (k4_l1 hts) mw_1145 (b_rec F hP) (q_bLat l D Y) rfl hl.1 ⟨Nat.le_of_ble_eq_true rfl, Nat.le_of_ble_eq_true rfl⟩ (rest := []) rfl (Nat.le_of_ble_eq_true rfl) ⟨Nat.le_of_ble_eq_true rfl, Nat.le_of_ble_eq_true rfl⟩ dJ5_append_3fe6f_11 (fun _ => ?_)
  refine lv_if_eq (tgt := 45) hx hb dJ5_append_3fe6f_14 (by decide) (fun c1 => ?_) (fun c1 => ?_)
  · exact absurd c1 (show ¬ ((1 : Int32) = 0) by decide)
  refine lv_iload_n hx hb dJ5_append_3fe6f_17 rfl (lv_at hl 1 rfl) ?_
  refine rd_S F P_nil k_J1_canEncode_fc78d mw_1227 (q_canEncode l D Y [] (k := k) (by omega)) rfl hl.1 ⟨Nat.le_of_ble_eq_true rfl, Nat.le_of_ble_eq_true rfl⟩ (rest := []) rfl (Nat.le_of_ble_eq_true rfl) ⟨Nat.le_of_ble_eq_true rfl, Nat.le_of_ble_eq_true rfl⟩ dJ5_append_3fe6f_18 (fun _ => ?_)
  refine lv_if_eq (tgt := 45) hx hb dJ5_append_3fe6f_21 (by decide) (fun c2 => ?_) (fun c2 => ?_)
  · exact absurd c2 (show ¬ ((1 : Int32) = 0) by decide)
  refine lv_aload_n hx hb dJ5_append_3fe6f_24 rfl (lv_at hl 0 rfl) ?_
  refine b_get F hP 0 (by decide) mw_1090 rfl rfl dJ5_append_3fe6f_25 ?_
  refine lv_aload_n hx hb dJ5_append_3fe6f_28 rfl (lv_at hl 0 rfl) ?_
  refine lv_dup hx hb dJ5_append_3fe6f_29 rfl ?_
  refine b_get F hP 3 (by decide) mw_1093 rfl rfl dJ5_append_3fe6f_30 ?_
  refine lv_dup_x1 hx hb dJ5_append_3fe6f_33 rfl rfl ?_
  refine lv_iconst (v := 1) hx hb dJ5_append_3fe6f_34 (by decide) ?_
  refine lv_iadd hx hb dJ5_append_3fe6f_35 ?_
  rw [show (((nI t.length) + (1 : Int32)) : Int32) = (nI (t.length + 1)) from nI_add t.length 1]
  refine b_put F hP (wB_D2 hne' hb') hS (fs := [.ref b', .int 0, .int 0, .int (nI t.length)]) rfl rfl 3 (by decide) mw_1093 rfl rfl (ty := .int) (v := .int (nI (t.length + 1))) (by decide) rfl rfl dJ5_append_3fe6f_36 (fun H8 L8 hP8 hD8 hS8 => ?_)
  refine lv_iload_n hx hb dJ5_append_3fe6f_39 rfl (lv_at hl 1 rfl) ?_
  refine lv_i2b hx hb dJ5_append_3fe6f_40 (okb hk128).2.1 ?_
  refine va_bast hx hb F.2.1 hP8 hD8 hS8 1 6 rfl rfl (vp_in_nI (by omega) (by omega)) dJ5_append_3fe6f_41 (fun H9 L9 hP9 _ hS9 => ?_)
  rw [nI_clamp (show t.length < 2 ^ 31 by omega), (okb hk128).2.2] at hP9
  refine lv_goto (tgt := 75) hx hb dJ5_append_3fe6f_42 (by decide) ?_
  refine lv_aload_n hx hb dJ5_append_3fe6f_75 rfl (lv_at hl 0 rfl) ?_
  refine W.widen (k := 1) (n := 128) (Nat.le_refl _) (Nat.le_refl _) ?_
  exact W.aret hx hb hr (Or.inl ⟨_, rfl⟩) (Or.inr ⟨_, rfl⟩) (fun t9 ht _ => ⟨_, rfl, ⟨rfl, b', cap', upd f' t.length (nI k), hb', hne', by rw [List.length_append]; exact hkc, hcm', Fb_upd hfb' hk128 _, Ct_upd hct1 _, by rw [ht, List.length_append]; exact hP9⟩, hS9.F ht⟩) hS9.2.2 dJ5_append_3fe6f_76 hk
theorem q_apC (l : Launch) (D : va_G) (Y : Nat → ClassId) {q b cap sz k : Nat} {f : Nat → Int32} {t : List Int32} (hct : Ct t f) (hlen : t.length + 1 ≤ 64) (hk128 : k < 128) : JM l yJ4_append_cf468 cJ4_append_cf468 2 (some (.object "java/lang/StringBuilder")) 6 1 128 D Y (ΦB D Y q b t.length cap f sz) [.ref q, .int (nI k)] (PaQ D Y q b sz (t ++ [nI k])) (AB q b sz) := by
  refine JM_of (ret := (some (.object "java/lang/StringBuilder"))) (by decide) (Nat.le_of_ble_eq_true rfl) (lv := [(0, .ref q), (1, .int (nI k))]) rfl ?_
  intro p ev s m below meth c ls F hΦ hr hk hnm hl
  have F : Fx p c cJ4_append_cf468 2 s m _ RJ4 D Y := F
  have hx := F.1.1
  have hb := F.1.2.1
  have hts := F.1.2.2.2.2
  have hown := F.1.2.2.2.1
  obtain ⟨cC, hat⟩ := cl_at F.2
  refine lv_aload_n hx hb dJ4_append_cf468_0 rfl (lv_at hl 0 rfl) ?_
  refine lv_iload_n hx hb dJ4_append_cf468_1 rfl (lv_at hl 1 rfl) ?_
  refine jm_U (ar := 1) F ΦB_mv hΦ (va_S.rf (A := AB q b sz)) (fun _ z => z) hat (b_rec F hΦ.1.2.2.2.2.2) mw_1224 jw_sC jw_sup mw_1225 mw_23 mw_1226 (by decide +kernel) (q_apC0 l D Y (q := q) (b := b) (cap := cap) (sz := sz) (k := k) (f := f) (t := t) hct hlen hk128) rfl hl.1 ⟨Nat.le_of_ble_eq_true rfl, Nat.le_of_ble_eq_true rfl⟩ (rest := []) rfl (Nat.le_of_ble_eq_true rfl) ⟨Nat.le_of_ble_eq_true rfl, Nat.le_of_ble_eq_true rfl⟩ dJ4_append_cf468_2 (fun v2 st tt H1 L e0 e1 hp hz hq hS9 => ?_)
  obtain ⟨rfl, b', cap', f', hb', hne', hkc, hcm', hfb', hct', hP1⟩ := hp
  rw [e1] at hP1
  refine lv_pop hx hb dJ4_append_cf468_5 rfl ?_
  refine lv_aload_n hx hb dJ4_append_cf468_6 rfl (lv_at hl 0 rfl) ?_
  refine W.widen (k := 1) (n := 128) (Nat.le_refl _) (Nat.le_refl _) ?_
  exact W.aret hx hb hr (Or.inl ⟨_, rfl⟩) (Or.inr ⟨_, rfl⟩) (fun t9 ht _ => ⟨_, rfl, ⟨rfl, b', cap', f', hb', hne', hkc, hcm', hfb', hct', by rw [ht]; exact hP1⟩, hS9.F ht⟩) hS9.2.2 dJ4_append_cf468_7 hk
