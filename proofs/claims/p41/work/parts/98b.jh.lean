/-! append(int) -/
def dgs (k : Nat) : List Int32 := if k < 10 then [nI (48 + k)] else [nI (48 + k / 10), nI (48 + k % 10)]
def gcF (k e : Nat) (f : Nat → Int32) : Nat → Int32 := if k < 10 then upd f (e - 1) (nI (48 + k)) else upd (upd f (e - 1) (nI (48 + k % 10))) (e - 2) (nI (48 + k / 10))
theorem dgs1 {k : Nat} (h : k < 10) : dgs k = [nI (48 + k)] := if_pos h
theorem dgs2 {k : Nat} (h : 10 ≤ k) : dgs k = [nI (48 + k / 10), nI (48 + k % 10)] := if_neg (by omega)
theorem gcF1 {k e : Nat} {f : Nat → Int32} (h : k < 10) : gcF k e f = upd f (e - 1) (nI (48 + k)) := if_pos h
theorem gcF2 {k e : Nat} {f : Nat → Int32} (h : 10 ≤ k) : gcF k e f = upd (upd f (e - 1) (nI (48 + k % 10))) (e - 2) (nI (48 + k / 10)) := if_neg (by omega)
theorem dgs_len (k : Nat) : 1 ≤ (dgs k).length ∧ (dgs k).length ≤ 2 := by
  unfold dgs
  split
  · exact ⟨Nat.le_refl _, Nat.le_succ _⟩
  · exact ⟨Nat.le_succ _, Nat.le_refl _⟩
theorem nI_dec {e : Nat} (h : 1 ≤ e) : nI e + (-1) = nI (e - 1) := by
  rw [← nI_sub' h]
  exact (Int32.sub_eq_add_neg _ _).symm
theorem nI_dec1 {e : Nat} (h : 1 ≤ e) : nI e + Int32.ofInt (-1) = nI (e - 1) := nI_dec h
theorem nI_dec2 {e : Nat} (h : 2 ≤ e) : nI (e - 1) + Int32.ofInt (-1) = nI (e - 2) := nI_dec1 (e := e - 1) (by omega)
theorem negneg (k : Nat) : -(-nI k) = nI k := Int32.neg_neg
theorem Fb_gc {k e : Nat} (hk : k < 100) {f : Nat → Int32} (hf : Fb f) : Fb (gcF k e f) := by
  by_cases h : k < 10
  · rw [gcF1 h]; exact Fb_upd hf (by omega) _
  · rw [gcF2 (by omega)]; exact Fb_upd (Fb_upd hf (by omega) _) (by omega) _
theorem Ct_gc {k : Nat} {t : List Int32} {f : Nat → Int32} (h : Ct t f) : Ct (t ++ dgs k) (gcF k (t.length + (dgs k).length) f) := by
  by_cases h1 : k < 10
  · rw [gcF1 h1, dgs1 h1]
    exact Ct_upd h _
  · rw [gcF2 (by omega), dgs2 (by omega)]
    have h2 := Ct_upd (Ct_upd h (nI (48 + k / 10))) (nI (48 + k % 10))
    rw [List.append_assoc] at h2
    refine Ct_ext h2 (fun j _ => ?_)
    rw [List.length_append]
    show upd (upd f (t.length + 2 - 1) _) (t.length + 2 - 2) _ j = upd (upd f t.length _) (t.length + 1) _ j
    rw [show t.length + 2 - 1 = t.length + 1 by omega, show t.length + 2 - 2 = t.length by omega]
    unfold upd
    by_cases e1 : j = t.length
    · subst e1
      simp
    · by_cases e2 : j = t.length + 1
      · subst e2
        simp
      · simp [e1, e2]
theorem b1_D {Y : Nat → ClassId} {b cap : Nat} {f : Nat → Int32} : va_D (fun x => x = b) [(b, .inl (Y 6, cap, .inl f))] := by
  refine ⟨fun i j x z hi hj hxz => ?_, fun i x hi => ?_⟩
  · have h1 : i < 1 := (List.getElem?_eq_some_iff.mp hi).1
    have h2 : j < 1 := (List.getElem?_eq_some_iff.mp hj).1
    omega
  · have h1 : i < 1 := (List.getElem?_eq_some_iff.mp hi).1
    obtain rfl : i = 0 := by omega
    cases hi
    rfl
def ΦG (Y : Nat → ClassId) (b cap : Nat) (f : Nat → Int32) : State → Heap → Prop := fun U H => H[b]? = some (vp_cell (Y 6) (cap, .inl f)) ∧ Dg (fun x => x = b) U H
theorem ΦG_mv {Y : Nat → ClassId} {b cap : Nat} {f : Nat → Int32} : Mv (ΦG Y b cap f) := ⟨fun U H g mk x h => by
  obtain ⟨h0, d1, d2, a1, a2, a3, a4⟩ := h
  have hv : U.vm.Alike (U.calling g mk x).vm := Vm.Alike.refl U.vm
  exact ⟨h0, d1, d2, va_Z.moved hv a1, va_T.moved hv a2, va_Z.moved hv a3, va_T.moved hv a4⟩, fun s U H hW h => by
  obtain ⟨h0, d1, d2, a1, a2, a3, a4⟩ := h
  have hv := hW.alike
  exact ⟨h0, d1, d2, va_Z.moved hv a1, va_T.moved hv a2, va_Z.moved hv a3, va_T.moved hv a4⟩⟩
def PoG (Y : Nat → ClassId) (b cap : Nat) (f : Nat → Int32) : Option Value → State → State → Prop := fun v _ t => (∃ x, v = some (.int x)) ∧ t.heap[b]? = some (vp_cell (Y 6) (cap, .inl f))
theorem gt100 {k : Nat} (h : k < 100) : (-100 : Int32) < -nI k := by
  rw [Int32.lt_iff_toInt_lt, neg_toInt h]
  show (-100 : Int) < _
  omega
theorem ge9 {k : Nat} (h : k < 10) : (-9 : Int32) ≤ -nI k := by
  rw [Int32.le_iff_toInt_le, neg_toInt (by omega)]
  show (-9 : Int) ≤ _
  omega
theorem ge9n {k : Nat} (h : 10 ≤ k ∧ k < 100) : ¬ (-9 : Int32) ≤ -nI k := by
  rw [Int32.le_iff_toInt_le, neg_toInt (by omega)]
  show ¬ (-9 : Int) ≤ _
  omega
theorem q_gc1 (l : Launch) (D : va_G) (Y : Nat → ClassId) {b cap e k : Nat} {f : Nat → Int32} (hk0 : k < 10) (he : 1 ≤ e ∧ e ≤ cap ∧ cap ≤ 1000) : JM l yJ6_getChars_ba4f3 cJ6_getChars_ba4f3 7 (some .int) 0 0 0 D Y (ΦG Y b cap f) [.int (nI k), .int (nI e), .ref b] (PoG Y b cap (upd f (e - 1) (nI (48 + k)))) (fun x => x = b) := by
  refine JM_of (ret := (some .int)) (by decide) (Nat.le_of_ble_eq_true rfl) (lv := [(0, .int (nI k)), (1, .int (nI e)), (2, .ref b)]) rfl ?_
  intro p ev s m below meth c ls F hΦ hr hk hnm hl
  have F : Fx p c cJ6_getChars_ba4f3 7 s m _ RJ6 D Y := F
  have hx := F.1.1
  have hb := F.1.2.1
  have hts := F.1.2.2.2.2
  have hown := F.1.2.2.2.1
  obtain ⟨hb1, d1, d2, a1, a2, a3, a4⟩ := hΦ
  have hP0 := at_P (D := D) (a := b) (e := .inl (Y 6, cap, .inl f)) hb1
  have hD0 : va_D (fun x => x = b) [(b, (.inl (Y 6, cap, .inl f) : va_E))] := b1_D
  have hS0 := va_S.rf (A := fun x => x = b) (H0 := s.heap)
  refine lv_iload_n hx hb dJ6_getChars_ba4f3_0 rfl (lv_at hl 1 rfl) ?_
  refine lv_istore (lv' := [(5, .int (nI e)), (0, .int (nI k)), (1, .int (nI e)), (2, .ref b)]) hx hb dJ6_getChars_ba4f3_1 hl (by decide) rfl (fun ls hl => ?_)
  refine lv_iload_n hx hb dJ6_getChars_ba4f3_3 rfl (lv_at hl 1 rfl) ?_
  refine lv_if_ge (tgt := 11) hx hb dJ6_getChars_ba4f3_4 (by decide) (fun c1 => ?_) (fun c1 => ?_)
  rotate_left
  · exact absurd (Int32.not_lt.mp (nI_pos (n := k) (by omega))) c1
  refine lv_iconst (v := 0) hx hb dJ6_getChars_ba4f3_11 (by decide) ?_
  refine lv_istore (lv' := [(6, .int (0 : Int32)), (5, .int (nI e)), (0, .int (nI k)), (1, .int (nI e)), (2, .ref b)]) hx hb dJ6_getChars_ba4f3_12 hl (by decide) rfl (fun ls hl => ?_)
  refine lv_iload hx hb dJ6_getChars_ba4f3_14 (lv_at hl 0 rfl) ?_
  refine lv_if_ne (tgt := 22) hx hb dJ6_getChars_ba4f3_16 (by decide) (fun c2 => ?_) (fun c2 => ?_)
  · exact absurd (show (0 : Int32) = 0 from rfl) c2
  refine lv_iload_n hx hb dJ6_getChars_ba4f3_19 rfl (lv_at hl 2 rfl) ?_
  refine lv_ineg hx hb dJ6_getChars_ba4f3_20 ?_
  refine lv_istore_n (lv' := [(0, .int (-(nI k))), (6, .int (0 : Int32)), (5, .int (nI e)), (1, .int (nI e)), (2, .ref b)]) hx hb dJ6_getChars_ba4f3_21 rfl hl (by decide) rfl (fun ls hl => ?_)
  refine lv_iload_n hx hb dJ6_getChars_ba4f3_22 rfl (lv_at hl 0 rfl) ?_
  refine lv_bipush (v := (-100)) hx hb dJ6_getChars_ba4f3_23 (by decide) ?_
  refine lv_icmp_gt (tgt := 72) hx hb dJ6_getChars_ba4f3_25 (by decide) (fun c3 => ?_) (fun c3 => ?_)
  rotate_left
  · exact absurd (gt100 (k := k) (by omega)) c3
  refine lv_aload_n hx hb dJ6_getChars_ba4f3_72 rfl (lv_at hl 4 rfl) ?_
  refine lv_iinc (v := nI (e - 1)) (lv' := [(5, .int (nI (e - 1))), (0, .int (-(nI k))), (6, .int (0 : Int32)), (1, .int (nI e)), (2, .ref b)]) hx hb dJ6_getChars_ba4f3_73 hl (k := 2) rfl (nI_dec1 (show 1 ≤ e by omega)) (by decide) rfl (fun ls hl => ?_)
  refine lv_iload hx hb dJ6_getChars_ba4f3_76 (lv_at hl 0 rfl) ?_
  refine va_gets hx hb a1 hS0 hown (hts _ mw_1255) (fun _ h => h) dJ6_getChars_ba4f3_78 ?_
  refine lv_iload_n hx hb dJ6_getChars_ba4f3_81 rfl (lv_at hl 1 rfl) ?_
  refine lv_ineg hx hb dJ6_getChars_ba4f3_82 ?_
  rw [show ((-(-(nI k))) : Int32) = nI k from negneg k]
  refine va_tb (v := .int (nI (48 + k % 10))) hx hb a2 hS0 (vp_in_nI (n := k) (by omega) (by omega)) (by rw [nI_clamp (by omega)]) dJ6_getChars_ba4f3_83 ?_
  refine va_bast hx hb F.2.1 hP0 hD0 hS0 0 6 rfl rfl (vp_in_nI (by omega) (by omega)) dJ6_getChars_ba4f3_84 (fun H1 L1 hP1 hD1 hS1 => ?_)
  rw [nI_clamp (show e - 1 < 2 ^ 31 by omega), (okb (k := (48 + k % 10)) (by omega)).2.2] at hP1 hD1
  refine lv_iload_n hx hb dJ6_getChars_ba4f3_85 rfl (lv_at hl 1 rfl) ?_
  refine lv_bipush (v := (-9)) hx hb dJ6_getChars_ba4f3_86 (by decide) ?_
  refine lv_icmp_ge (tgt := 104) hx hb dJ6_getChars_ba4f3_88 (by decide) (fun c4 => ?_) (fun c4 => ?_)
  rotate_left
  · exact absurd (ge9 hk0) c4
  refine lv_iload hx hb dJ6_getChars_ba4f3_104 (lv_at hl 2 rfl) ?_
  refine lv_if_eq (tgt := 118) hx hb dJ6_getChars_ba4f3_106 (by decide) (fun c5 => ?_) (fun c5 => ?_)
  rotate_left
  · exact absurd (show (0 : Int32) = 0 from rfl) c5
  refine lv_iload hx hb dJ6_getChars_ba4f3_118 (lv_at hl 0 rfl) ?_
  exact W.iret hx hb hr (fun t ht _ => ⟨_, rfl, ⟨⟨_, rfl⟩, by rw [ht]; exact (by have := hP1 0 _ rfl; rw [show k % 10 = k by omega] at this; exact this)⟩, hS1.F ht⟩) hS1.2.2 dJ6_getChars_ba4f3_120 hk
theorem q_gc2 (l : Launch) (D : va_G) (Y : Nat → ClassId) {b cap e k : Nat} {f : Nat → Int32} (hk0 : 10 ≤ k ∧ k < 100) (he : 2 ≤ e ∧ e ≤ cap ∧ cap ≤ 1000) : JM l yJ6_getChars_ba4f3 cJ6_getChars_ba4f3 7 (some .int) 0 0 0 D Y (ΦG Y b cap f) [.int (nI k), .int (nI e), .ref b] (PoG Y b cap (upd (upd f (e - 1) (nI (48 + k % 10))) (e - 2) (nI (48 + k / 10)))) (fun x => x = b) := by
  refine JM_of (ret := (some .int)) (by decide) (Nat.le_of_ble_eq_true rfl) (lv := [(0, .int (nI k)), (1, .int (nI e)), (2, .ref b)]) rfl ?_
  intro p ev s m below meth c ls F hΦ hr hk hnm hl
  have F : Fx p c cJ6_getChars_ba4f3 7 s m _ RJ6 D Y := F
  have hx := F.1.1
  have hb := F.1.2.1
  have hts := F.1.2.2.2.2
  have hown := F.1.2.2.2.1
  obtain ⟨hb1, d1, d2, a1, a2, a3, a4⟩ := hΦ
  have hP0 := at_P (D := D) (a := b) (e := .inl (Y 6, cap, .inl f)) hb1
  have hD0 : va_D (fun x => x = b) [(b, (.inl (Y 6, cap, .inl f) : va_E))] := b1_D
  have hS0 := va_S.rf (A := fun x => x = b) (H0 := s.heap)
  refine lv_iload_n hx hb dJ6_getChars_ba4f3_0 rfl (lv_at hl 1 rfl) ?_
  refine lv_istore (lv' := [(5, .int (nI e)), (0, .int (nI k)), (1, .int (nI e)), (2, .ref b)]) hx hb dJ6_getChars_ba4f3_1 hl (by decide) rfl (fun ls hl => ?_)
  refine lv_iload_n hx hb dJ6_getChars_ba4f3_3 rfl (lv_at hl 1 rfl) ?_
  refine lv_if_ge (tgt := 11) hx hb dJ6_getChars_ba4f3_4 (by decide) (fun c1 => ?_) (fun c1 => ?_)
  rotate_left
  · exact absurd (Int32.not_lt.mp (nI_pos (n := k) (by omega))) c1
  refine lv_iconst (v := 0) hx hb dJ6_getChars_ba4f3_11 (by decide) ?_
  refine lv_istore (lv' := [(6, .int (0 : Int32)), (5, .int (nI e)), (0, .int (nI k)), (1, .int (nI e)), (2, .ref b)]) hx hb dJ6_getChars_ba4f3_12 hl (by decide) rfl (fun ls hl => ?_)
  refine lv_iload hx hb dJ6_getChars_ba4f3_14 (lv_at hl 0 rfl) ?_
  refine lv_if_ne (tgt := 22) hx hb dJ6_getChars_ba4f3_16 (by decide) (fun c2 => ?_) (fun c2 => ?_)
  · exact absurd (show (0 : Int32) = 0 from rfl) c2
  refine lv_iload_n hx hb dJ6_getChars_ba4f3_19 rfl (lv_at hl 2 rfl) ?_
  refine lv_ineg hx hb dJ6_getChars_ba4f3_20 ?_
  refine lv_istore_n (lv' := [(0, .int (-(nI k))), (6, .int (0 : Int32)), (5, .int (nI e)), (1, .int (nI e)), (2, .ref b)]) hx hb dJ6_getChars_ba4f3_21 rfl hl (by decide) rfl (fun ls hl => ?_)
  refine lv_iload_n hx hb dJ6_getChars_ba4f3_22 rfl (lv_at hl 0 rfl) ?_
  refine lv_bipush (v := (-100)) hx hb dJ6_getChars_ba4f3_23 (by decide) ?_
  refine lv_icmp_gt (tgt := 72) hx hb dJ6_getChars_ba4f3_25 (by decide) (fun c3 => ?_) (fun c3 => ?_)
  rotate_left
  · exact absurd (gt100 (k := k) (by omega)) c3
  refine lv_aload_n hx hb dJ6_getChars_ba4f3_72 rfl (lv_at hl 4 rfl) ?_
  refine lv_iinc (v := nI (e - 1)) (lv' := [(5, .int (nI (e - 1))), (0, .int (-(nI k))), (6, .int (0 : Int32)), (1, .int (nI e)), (2, .ref b)]) hx hb dJ6_getChars_ba4f3_73 hl (k := 2) rfl (nI_dec1 (show 1 ≤ e by omega)) (by decide) rfl (fun ls hl => ?_)
  refine lv_iload hx hb dJ6_getChars_ba4f3_76 (lv_at hl 0 rfl) ?_
  refine va_gets hx hb a1 hS0 hown (hts _ mw_1255) (fun _ h => h) dJ6_getChars_ba4f3_78 ?_
  refine lv_iload_n hx hb dJ6_getChars_ba4f3_81 rfl (lv_at hl 1 rfl) ?_
  refine lv_ineg hx hb dJ6_getChars_ba4f3_82 ?_
  rw [show ((-(-(nI k))) : Int32) = nI k from negneg k]
  refine va_tb (v := .int (nI (48 + k % 10))) hx hb a2 hS0 (vp_in_nI (n := k) (by omega) (by omega)) (by rw [nI_clamp (by omega)]) dJ6_getChars_ba4f3_83 ?_
  refine va_bast hx hb F.2.1 hP0 hD0 hS0 0 6 rfl rfl (vp_in_nI (by omega) (by omega)) dJ6_getChars_ba4f3_84 (fun H1 L1 hP1 hD1 hS1 => ?_)
  rw [nI_clamp (show e - 1 < 2 ^ 31 by omega), (okb (k := (48 + k % 10)) (by omega)).2.2] at hP1 hD1
  refine lv_iload_n hx hb dJ6_getChars_ba4f3_85 rfl (lv_at hl 1 rfl) ?_
  refine lv_bipush (v := (-9)) hx hb dJ6_getChars_ba4f3_86 (by decide) ?_
  refine lv_icmp_ge (tgt := 104) hx hb dJ6_getChars_ba4f3_88 (by decide) (fun c4 => ?_) (fun c4 => ?_)
  · exact absurd c4 (ge9n hk0)
  refine lv_aload_n hx hb dJ6_getChars_ba4f3_91 rfl (lv_at hl 4 rfl) ?_
  refine lv_iinc (v := nI (e - 2)) (lv' := [(5, .int (nI (e - 2))), (0, .int (-(nI k))), (6, .int (0 : Int32)), (1, .int (nI e)), (2, .ref b)]) hx hb dJ6_getChars_ba4f3_92 hl (k := 0) rfl (nI_dec2 (show 2 ≤ e by omega)) (by decide) rfl (fun ls hl => ?_)
  refine lv_iload hx hb dJ6_getChars_ba4f3_95 (lv_at hl 0 rfl) ?_
  refine va_gets hx hb a3 hS1 hown (hts _ mw_1257) (fun _ h => h) dJ6_getChars_ba4f3_97 ?_
  refine lv_iload_n hx hb dJ6_getChars_ba4f3_100 rfl (lv_at hl 1 rfl) ?_
  refine lv_ineg hx hb dJ6_getChars_ba4f3_101 ?_
  rw [show ((-(-(nI k))) : Int32) = nI k from negneg k]
  refine va_tb (v := .int (nI (48 + k / 10))) hx hb a4 hS1 (vp_in_nI (n := k) (by omega) (by omega)) (by rw [nI_clamp (by omega)]) dJ6_getChars_ba4f3_102 ?_
  refine va_bast hx hb F.2.1 hP1 hD1 hS1 0 6 rfl rfl (vp_in_nI (by omega) (by omega)) dJ6_getChars_ba4f3_103 (fun H2 L2 hP2 hD2 hS2 => ?_)
  rw [nI_clamp (show e - 2 < 2 ^ 31 by omega), (okb (k := (48 + k / 10)) (by omega)).2.2] at hP2 hD2
  refine lv_iload hx hb dJ6_getChars_ba4f3_104 (lv_at hl 2 rfl) ?_
  refine lv_if_eq (tgt := 118) hx hb dJ6_getChars_ba4f3_106 (by decide) (fun c5 => ?_) (fun c5 => ?_)
  rotate_left
  · exact absurd (show (0 : Int32) = 0 from rfl) c5
  refine lv_iload hx hb dJ6_getChars_ba4f3_118 (lv_at hl 0 rfl) ?_
  exact W.iret hx hb hr (fun t ht _ => ⟨_, rfl, ⟨⟨_, rfl⟩, by rw [ht]; exact hP2 0 _ rfl⟩, hS2.F ht⟩) hS2.2.2 dJ6_getChars_ba4f3_120 hk
theorem q_gc (l : Launch) (D : va_G) (Y : Nat → ClassId) {b cap e k : Nat} {f : Nat → Int32} (hk0 : k < 100) (he : (dgs k).length ≤ e ∧ e ≤ cap ∧ cap ≤ 1000) : JM l yJ6_getChars_ba4f3 cJ6_getChars_ba4f3 7 (some .int) 0 0 0 D Y (ΦG Y b cap f) [.int (nI k), .int (nI e), .ref b] (PoG Y b cap (gcF k e f)) (fun x => x = b) := by
  by_cases h : k < 10
  · rw [gcF1 h]
    rw [dgs1 h] at he
    exact q_gc1 l D Y h he
  · rw [gcF2 (by omega)]
    rw [dgs2 (by omega)] at he
    exact q_gc2 l D Y ⟨by omega, hk0⟩ he
theorem q_ss (l : Launch) (D : va_G) (Y : Nat → ClassId) (ws : va_W) {v : Nat} (h : v < 100) : RD l yJ6_stringSize_0f7a4 cJ6_stringSize_0f7a4 4 (some .int) 0 D Y ws [.int (nI v)] (nI (dgs v).length) := by
  by_cases h1 : v < 10
  · rw [dgs1 h1]
    exact q_ss1 l D Y ws h1
  · rw [dgs2 (by omega)]
    exact q_ss2 l D Y ws ⟨by omega, h⟩
theorem q_apI0 (l : Launch) (D : va_G) (Y : Nat → ClassId) {q b cap sz k : Nat} {f : Nat → Int32} {t : List Int32} (hct : Ct t f) (hlen : t.length + (dgs k).length ≤ 64) (hk100 : k < 100) : JM l yJ5_append_c97b9 cJ5_append_c97b9 4 (some (.object "java/lang/AbstractStringBuilder")) 5 1 128 D Y (ΦB D Y q b t.length cap f sz) [.ref q, .int (nI k)] (PaQ D Y q b sz (t ++ dgs k)) (AB q b sz) := by
  refine JM_of (ret := (some (.object "java/lang/AbstractStringBuilder"))) (by decide) (Nat.le_of_ble_eq_true rfl) (lv := [(0, .ref q), (1, .int (nI k))]) rfl ?_
  intro p ev s m below meth c ls F hΦ hr hk hnm hl
  have F : Fx p c cJ5_append_c97b9 4 s m _ RJ5 D Y := F
  have hx := F.1.1
  have hb := F.1.2.1
  have hts := F.1.2.2.2.2
  have hown := F.1.2.2.2.1
  have hΦB := hΦ
  obtain ⟨⟨hsz, hne, hnc, hcm, hfb, hP⟩, hJ⟩ := id hΦB
  generalize hd : (dgs k).length = d at hlen
  have hd2 := dgs_len k
  refine lv_aload_n hx hb dJ5_append_c97b9_0 rfl (lv_at hl 0 rfl) ?_
  refine b_get F hP 3 (by decide) mw_1093 rfl rfl dJ5_append_c97b9_1 ?_
  refine lv_istore_n (lv' := [(2, .int (nI t.length)), (0, .ref q), (1, .int (nI k))]) hx hb dJ5_append_c97b9_4 rfl hl (by decide) rfl (fun ls hl => ?_)
  refine lv_iload_n hx hb dJ5_append_c97b9_5 rfl (lv_at hl 0 rfl) ?_
  refine lv_iload_n hx hb dJ5_append_c97b9_6 rfl (lv_at hl 2 rfl) ?_
  refine rd_S F P_nil k_J6_stringSize_0f7a4 mw_1249 (q_ss l D Y [] (v := k) hk100) rfl hl.1 ⟨Nat.le_of_ble_eq_true rfl, Nat.le_of_ble_eq_true rfl⟩ (rest := [.int (nI t.length)]) rfl (Nat.le_of_ble_eq_true rfl) ⟨Nat.le_of_ble_eq_true rfl, Nat.le_of_ble_eq_true rfl⟩ dJ5_append_c97b9_7 (fun _ => ?_)
  rw [hd]
  refine lv_iadd hx hb dJ5_append_c97b9_10 ?_
  rw [show (((nI t.length) + (nI d)) : Int32) = (nI (t.length + d)) from nI_add _ _]
  refine lv_istore_n (lv' := [(3, .int (nI (t.length + d))), (2, .int (nI t.length)), (0, .ref q), (1, .int (nI k))]) hx hb dJ5_append_c97b9_11 rfl hl (by decide) rfl (fun ls hl => ?_)
  refine lv_aload_n hx hb dJ5_append_c97b9_12 rfl (lv_at hl 2 rfl) ?_
  refine lv_iload_n hx hb dJ5_append_c97b9_13 rfl (lv_at hl 0 rfl) ?_
  refine jm_V F ΦB_mv hΦB (va_S.rf (A := AB q b sz)) (fun _ z => z) (k4_en hJ.2.2) mw_1114 (b_rec F hP) (q_ensure l D Y (q := q) (b := b) (n := t.length) (cap := cap) (sz := sz) (f := f) (k := t.length + d) (hlen)) rfl hl.1 ⟨Nat.le_of_ble_eq_true rfl, Nat.le_of_ble_eq_true rfl⟩ (rest := []) rfl (Nat.le_of_ble_eq_true rfl) ⟨Nat.le_of_ble_eq_true rfl, Nat.le_of_ble_eq_true rfl⟩ dJ5_append_c97b9_14 (fun v2 st tt H1 L e0 e1 hp hz hq hS => ?_)
  obtain ⟨rfl, b', cap', f', hb', hne', hkc, hnc', hcm', hfb', hff, hP1⟩ := hp
  rw [e1] at hP1
  have hct1 : Ct t f' := Ct_ext hct hff
  have hP := hP1
  refine lv_aload_n hx hb dJ5_append_c97b9_17 rfl (lv_at hl 2 rfl) ?_
  have hΦ1 : ΦB D Y q b' t.length cap' f' H1.size s H1 := ⟨⟨rfl, hne', hnc', hcm', hfb', hP⟩, (hJ.kept hq).narrow (AB_sub hb' (by rw [← hsz]; exact hz))⟩
  refine jr_V F ΦB_mv hΦ1 (k4_l1 hts) mw_1145 (b_rec F hP) (q_bLat l D Y) rfl hl.1 ⟨Nat.le_of_ble_eq_true rfl, Nat.le_of_ble_eq_true rfl⟩ (rest := []) rfl (Nat.le_of_ble_eq_true rfl) ⟨Nat.le_of_ble_eq_true rfl, Nat.le_of_ble_eq_true rfl⟩ dJ5_append_c97b9_18 (fun _ => ?_)
  refine lv_if_eq (tgt := 37) hx hb dJ5_append_c97b9_21 (by decide) (fun c1 => ?_) (fun c1 => ?_)
  · exact absurd c1 (show ¬ ((1 : Int32) = 0) by decide)
  refine lv_iload_n hx hb dJ5_append_c97b9_24 rfl (lv_at hl 3 rfl) ?_
  refine lv_iload_n hx hb dJ5_append_c97b9_25 rfl (lv_at hl 0 rfl) ?_
  refine lv_aload_n hx hb dJ5_append_c97b9_26 rfl (lv_at hl 2 rfl) ?_
  refine b_get F hP 0 (by decide) mw_1090 rfl rfl dJ5_append_c97b9_27 ?_
  have hΦG : ΦG Y b' cap' f' s H1 := ⟨hP 1 _ rfl, ((hJ.kept hq).narrow (fun x (hx : x = b') => hx ▸ hb'.elim (fun h => Or.inr (Or.inl h)) (fun h => Or.inr (Or.inr h)))).2.1⟩
  refine jm_S F ΦG_mv hΦG hS (fun x (hx : x = b') => hx ▸ hb'.elim (fun h => Or.inr (Or.inl h)) (fun h => Or.inr (Or.inr h))) k_J6_getChars_ba4f3 mw_1252 (q_gc l D Y (b := b') (cap := cap') (e := t.length + d) (k := k) (f := f') hk100 ⟨by omega, by omega, by omega⟩) rfl hl.1 ⟨Nat.le_of_ble_eq_true rfl, Nat.le_of_ble_eq_true rfl⟩ (rest := []) rfl (Nat.le_of_ble_eq_true rfl) ⟨Nat.le_of_ble_eq_true rfl, Nat.le_of_ble_eq_true rfl⟩ dJ5_append_c97b9_30 (fun v3 st3 t3 H2 L3 e2 e3 hp2 hz2 hq2 hS2 => ?_)
  obtain ⟨⟨x3, rfl⟩, hp3⟩ := hp2
  rw [e3] at hp3
  have hP : va_P D vwCl (wB Y q b' t.length cap' (gcF k (t.length + d) f')) H2 := at_P2 ((hP 0 _ rfl).kept (hq2 q (wB_lt hP).1 hne')) hp3
  refine lv_pop hx hb dJ5_append_c97b9_33 rfl ?_
  refine lv_goto (tgt := 48) hx hb dJ5_append_c97b9_34 (by decide) ?_
  refine lv_aload_n hx hb dJ5_append_c97b9_48 rfl (lv_at hl 2 rfl) ?_
  refine lv_iload_n hx hb dJ5_append_c97b9_49 rfl (lv_at hl 0 rfl) ?_
  refine b_put F hP (wB_D2 hne' hb') hS2 (fs := [.ref b', .int 0, .int 0, .int (nI t.length)]) rfl rfl 3 (by decide) mw_1093 rfl rfl (ty := .int) (v := .int (nI (t.length + d))) (by decide) rfl rfl dJ5_append_c97b9_50 (fun H9 L9 hP9 _ hS9 => ?_)
  refine lv_aload_n hx hb dJ5_append_c97b9_53 rfl (lv_at hl 2 rfl) ?_
  refine W.widen (k := 1) (n := 128) (Nat.le_refl _) (Nat.le_refl _) ?_
  exact W.aret hx hb hr (Or.inl ⟨_, rfl⟩) (Or.inr ⟨_, rfl⟩) (fun t9 ht _ => ⟨_, rfl, ⟨rfl, b', cap', gcF k (t.length + d) f', hb', hne', by rw [List.length_append, hd]; exact hkc, hcm', Fb_gc hk100 hfb', by rw [← hd]; exact Ct_gc hct1, by rw [ht, List.length_append, hd]; exact hP9⟩, hS9.F ht⟩) hS9.2.2 dJ5_append_c97b9_54 hk
theorem q_apI (l : Launch) (D : va_G) (Y : Nat → ClassId) {q b cap sz k : Nat} {f : Nat → Int32} {t : List Int32} (hct : Ct t f) (hlen : t.length + (dgs k).length ≤ 64) (hk100 : k < 100) : JM l yJ4_append_bf812 cJ4_append_bf812 2 (some (.object "java/lang/StringBuilder")) 6 1 128 D Y (ΦB D Y q b t.length cap f sz) [.ref q, .int (nI k)] (PaQ D Y q b sz (t ++ dgs k)) (AB q b sz) := by
  refine JM_of (ret := (some (.object "java/lang/StringBuilder"))) (by decide) (Nat.le_of_ble_eq_true rfl) (lv := [(0, .ref q), (1, .int (nI k))]) rfl ?_
  intro p ev s m below meth c ls F hΦ hr hk hnm hl
  have F : Fx p c cJ4_append_bf812 2 s m _ RJ4 D Y := F
  have hx := F.1.1
  have hb := F.1.2.1
  have hts := F.1.2.2.2.2
  have hown := F.1.2.2.2.1
  obtain ⟨cC, hat⟩ := cl_at F.2
  refine lv_aload_n hx hb dJ4_append_bf812_0 rfl (lv_at hl 0 rfl) ?_
  refine lv_iload_n hx hb dJ4_append_bf812_1 rfl (lv_at hl 1 rfl) ?_
  refine jm_U (ar := 1) F ΦB_mv hΦ (va_S.rf (A := AB q b sz)) (fun _ z => z) hat (b_rec F hΦ.1.2.2.2.2.2) mw_1246 jw_sI jw_sup mw_1247 mw_23 mw_1248 (by decide +kernel) (q_apI0 l D Y (q := q) (b := b) (cap := cap) (sz := sz) (k := k) (f := f) (t := t) hct hlen hk100) rfl hl.1 ⟨Nat.le_of_ble_eq_true rfl, Nat.le_of_ble_eq_true rfl⟩ (rest := []) rfl (Nat.le_of_ble_eq_true rfl) ⟨Nat.le_of_ble_eq_true rfl, Nat.le_of_ble_eq_true rfl⟩ dJ4_append_bf812_2 (fun v2 st tt H1 L e0 e1 hp hz hq hS9 => ?_)
  obtain ⟨rfl, b', cap', f', hb', hne', hkc, hcm', hfb', hct', hP1⟩ := hp
  rw [e1] at hP1
  refine lv_pop hx hb dJ4_append_bf812_5 rfl ?_
  refine lv_aload_n hx hb dJ4_append_bf812_6 rfl (lv_at hl 0 rfl) ?_
  refine W.widen (k := 1) (n := 128) (Nat.le_refl _) (Nat.le_refl _) ?_
  exact W.aret hx hb hr (Or.inl ⟨_, rfl⟩) (Or.inr ⟨_, rfl⟩) (fun t9 ht _ => ⟨_, rfl, ⟨rfl, b', cap', f', hb', hne', hkc, hcm', hfb', hct', by rw [ht]; exact hP1⟩, hS9.F ht⟩) hS9.2.2 dJ4_append_bf812_7 hk
