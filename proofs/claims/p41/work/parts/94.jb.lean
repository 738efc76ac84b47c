/-! leaves of the builder's methods -/
theorem dJ8_newLength_cabcc_0 : decode cJ8_newLength_cabcc 0 = .ok (.iload_n 0, 1) := by decide +kernel
theorem dJ8_newLength_cabcc_1 : decode cJ8_newLength_cabcc 1 = .ok (.iload_n 1, 1) := by decide +kernel
theorem dJ8_newLength_cabcc_2 : decode cJ8_newLength_cabcc 2 = .ok (.iload_n 2, 1) := by decide +kernel
theorem dJ8_newLength_cabcc_3 : decode cJ8_newLength_cabcc 3 = .ok (.invokestatic 194, 3) := by decide +kernel
theorem dJ8_newLength_cabcc_6 : decode cJ8_newLength_cabcc 6 = .ok (.iadd, 1) := by decide +kernel
theorem dJ8_newLength_cabcc_7 : decode cJ8_newLength_cabcc 7 = .ok (.istore_n 3, 1) := by decide +kernel
theorem dJ8_newLength_cabcc_8 : decode cJ8_newLength_cabcc 8 = .ok (.iconst 0, 1) := by decide +kernel
theorem dJ8_newLength_cabcc_9 : decode cJ8_newLength_cabcc 9 = .ok (.iload_n 3, 1) := by decide +kernel
theorem dJ8_newLength_cabcc_10 : decode cJ8_newLength_cabcc 10 = .ok (.if_icmp .ge 11, 3) := by decide +kernel
theorem dJ8_newLength_cabcc_13 : decode cJ8_newLength_cabcc 13 = .ok (.iload_n 3, 1) := by decide +kernel
theorem dJ8_newLength_cabcc_14 : decode cJ8_newLength_cabcc 14 = .ok (.ldc 200, 2) := by decide +kernel
theorem dJ8_newLength_cabcc_16 : decode cJ8_newLength_cabcc 16 = .ok (.if_icmp .gt 5, 3) := by decide +kernel
theorem dJ8_newLength_cabcc_19 : decode cJ8_newLength_cabcc 19 = .ok (.iload_n 3, 1) := by decide +kernel
theorem dJ8_newLength_cabcc_20 : decode cJ8_newLength_cabcc 20 = .ok (.ireturn, 1) := by decide +kernel
theorem jshr (x : Int32) : x >>> ((0 : Int32) &&& 31) = x := by
  have e : ((0 : Int32) &&& 31) = 0 := by decide
  rw [e]
  simp
theorem jshl (x : Int32) : x <<< ((0 : Int32) &&& 31) = x := by
  have e : ((0 : Int32) &&& 31) = 0 := by decide
  rw [e]
  simp
theorem nI_sub' {a b : Nat} (h : b ≤ a) : nI a - nI b = nI (a - b) := pk_sub h
theorem q_canEncode (l : Launch) (D : va_G) (Y : Nat → ClassId) (ws : va_W) {k : Nat} (h : k ≤ 255) : RD l yJ1_canEncode_fc78d cJ1_canEncode_fc78d 1 (some .boolean) 0 D Y ws [.int (nI k)] 1 := by
  refine RD_of (ret := some .boolean) (by decide) (Nat.le_of_ble_eq_true rfl) (lv := [(0, .int (nI k))]) rfl ?_
  intro p e s m below meth c ls F hP hr hk hl
  have F : Fx p c cJ1_canEncode_fc78d 1 s m _ RJ1 D Y := F
  have hx := F.1.1
  have hb := F.1.2.1
  have hts := F.1.2.2.2.2
  have hown := F.1.2.2.2.1
  refine lv_iload_n hx hb dJ1_canEncode_fc78d_0 rfl (lv_at hl 0 rfl) ?_
  refine lv_sipush (v := 255) hx hb dJ1_canEncode_fc78d_1 (by decide) ?_
  refine lv_icmp_gt (tgt := 11) hx hb dJ1_canEncode_fc78d_4 (by decide) (fun c1 => ?_) (fun c1 => ?_)
  · exact absurd c1 (show ¬ ((255 : Int32) < nI k) from nI_nlt (a := 255) (by omega) (by omega))
  refine lv_iconst (v := 1) hx hb dJ1_canEncode_fc78d_7 (by decide) ?_
  refine lv_goto (tgt := 12) hx hb dJ1_canEncode_fc78d_8 (by decide) ?_
  exact rd_end F hr hk rfl rfl dJ1_canEncode_fc78d_12
theorem neg_toInt {v : Nat} (h : v < 100) : (-nI v).toInt = -(v : Int) := by
  have : ∀ v : Nat, v < 100 → (-nI v).toInt = -(v : Int) := by decide +kernel
  exact this v h
theorem sz_lt1 {v : Nat} (h : v < 10) : ¬ (-nI v ≤ (-10 : Int32)) := by
  rw [Int32.le_iff_toInt_le, neg_toInt (by omega)]
  show ¬ (-(v : Int) ≤ -10)
  omega
theorem sz_le1 {v : Nat} (h : 10 ≤ v ∧ v < 100) : -nI v ≤ (-10 : Int32) := by
  rw [Int32.le_iff_toInt_le, neg_toInt (by omega)]
  show -(v : Int) ≤ -10
  omega
theorem sz_lt2 {v : Nat} (h : 10 ≤ v ∧ v < 100) : ¬ (-nI v ≤ (10 : Int32) * (-10)) := by
  rw [Int32.le_iff_toInt_le, neg_toInt (by omega)]
  show ¬ (-(v : Int) ≤ -100)
  omega
theorem q_ss1 (l : Launch) (D : va_G) (Y : Nat → ClassId) (ws : va_W) {v : Nat} (h : v < 10) : RD l yJ6_stringSize_0f7a4 cJ6_stringSize_0f7a4 4 (some .int) 0 D Y ws [.int (nI v)] 1 := by
  refine RD_of (ret := some .int) (by decide) (Nat.le_of_ble_eq_true rfl) (lv := [(0, .int (nI v))]) rfl ?_
  intro p e s m below meth c ls F hP hr hk hl
  have F : Fx p c cJ6_stringSize_0f7a4 4 s m _ RJ6 D Y := F
  have hx := F.1.1
  have hb := F.1.2.1
  have hts := F.1.2.2.2.2
  have hown := F.1.2.2.2.1
  refine lv_iconst (v := 1) hx hb dJ6_stringSize_0f7a4_0 (by decide) ?_
  refine lv_istore_n (lv' := [(1, .int (1 : Int32)), (0, .int (nI v))]) hx hb dJ6_stringSize_0f7a4_1 rfl hl (by decide) rfl (fun ls hl => ?_)
  refine lv_iload_n hx hb dJ6_stringSize_0f7a4_2 rfl (lv_at hl 1 rfl) ?_
  refine lv_if_lt (tgt := 11) hx hb dJ6_stringSize_0f7a4_3 (by decide) (fun c1 => ?_) (fun c1 => ?_)
  · exact absurd c1 (show ¬ nI v < 0 from nI_pos (by omega))
  refine lv_iconst (v := 0) hx hb dJ6_stringSize_0f7a4_6 (by decide) ?_
  refine lv_istore_n (lv' := [(1, .int (0 : Int32)), (0, .int (nI v))]) hx hb dJ6_stringSize_0f7a4_7 rfl hl (by decide) rfl (fun ls hl => ?_)
  refine lv_iload_n hx hb dJ6_stringSize_0f7a4_8 rfl (lv_at hl 1 rfl) ?_
  refine lv_ineg hx hb dJ6_stringSize_0f7a4_9 ?_
  rw [show ((-(nI v)) : Int32) = (-nI v) from rfl]
  refine lv_istore_n (lv' := [(0, .int (-nI v)), (1, .int (0 : Int32))]) hx hb dJ6_stringSize_0f7a4_10 rfl hl (by decide) rfl (fun ls hl => ?_)
  refine lv_bipush (v := (-10)) hx hb dJ6_stringSize_0f7a4_11 (by decide) ?_
  refine lv_istore_n (lv' := [(2, .int (-10 : Int32)), (0, .int (-nI v)), (1, .int (0 : Int32))]) hx hb dJ6_stringSize_0f7a4_13 rfl hl (by decide) rfl (fun ls hl => ?_)
  refine lv_iconst (v := 1) hx hb dJ6_stringSize_0f7a4_14 (by decide) ?_
  refine lv_istore_n (lv' := [(3, .int (1 : Int32)), (2, .int (-10 : Int32)), (0, .int (-nI v)), (1, .int (0 : Int32))]) hx hb dJ6_stringSize_0f7a4_15 rfl hl (by decide) rfl (fun ls hl => ?_)
  refine lv_iload_n hx hb dJ6_stringSize_0f7a4_16 rfl (lv_at hl 0 rfl) ?_
  refine lv_bipush (v := 10) hx hb dJ6_stringSize_0f7a4_17 (by decide) ?_
  refine lv_icmp_ge (tgt := 42) hx hb dJ6_stringSize_0f7a4_19 (by decide) (fun c2 => absurd c2 (by decide)) (fun c2 => ?_)
  refine lv_iload_n hx hb dJ6_stringSize_0f7a4_22 rfl (lv_at hl 2 rfl) ?_
  refine lv_iload_n hx hb dJ6_stringSize_0f7a4_23 rfl (lv_at hl 1 rfl) ?_
  refine lv_icmp_le (tgt := 31) hx hb dJ6_stringSize_0f7a4_24 (by decide) (fun c3 => absurd c3 (sz_lt1 h)) (fun c3 => ?_)
  refine lv_iload_n hx hb dJ6_stringSize_0f7a4_27 rfl (lv_at hl 0 rfl) ?_
  refine lv_iload_n hx hb dJ6_stringSize_0f7a4_28 rfl (lv_at hl 3 rfl) ?_
  refine lv_iadd hx hb dJ6_stringSize_0f7a4_29 ?_
  exact rd_end F hr hk rfl (congrArg some (by decide)) dJ6_stringSize_0f7a4_30
theorem q_ss2 (l : Launch) (D : va_G) (Y : Nat → ClassId) (ws : va_W) {v : Nat} (h : 10 ≤ v ∧ v < 100) : RD l yJ6_stringSize_0f7a4 cJ6_stringSize_0f7a4 4 (some .int) 0 D Y ws [.int (nI v)] 2 := by
  refine RD_of (ret := some .int) (by decide) (Nat.le_of_ble_eq_true rfl) (lv := [(0, .int (nI v))]) rfl ?_
  intro p e s m below meth c ls F hP hr hk hl
  have F : Fx p c cJ6_stringSize_0f7a4 4 s m _ RJ6 D Y := F
  have hx := F.1.1
  have hb := F.1.2.1
  have hts := F.1.2.2.2.2
  have hown := F.1.2.2.2.1
  refine lv_iconst (v := 1) hx hb dJ6_stringSize_0f7a4_0 (by decide) ?_
  refine lv_istore_n (lv' := [(1, .int (1 : Int32)), (0, .int (nI v))]) hx hb dJ6_stringSize_0f7a4_1 rfl hl (by decide) rfl (fun ls hl => ?_)
  refine lv_iload_n hx hb dJ6_stringSize_0f7a4_2 rfl (lv_at hl 1 rfl) ?_
  refine lv_if_lt (tgt := 11) hx hb dJ6_stringSize_0f7a4_3 (by decide) (fun c1 => ?_) (fun c1 => ?_)
  · exact absurd c1 (show ¬ nI v < 0 from nI_pos (by omega))
  refine lv_iconst (v := 0) hx hb dJ6_stringSize_0f7a4_6 (by decide) ?_
  refine lv_istore_n (lv' := [(1, .int (0 : Int32)), (0, .int (nI v))]) hx hb dJ6_stringSize_0f7a4_7 rfl hl (by decide) rfl (fun ls hl => ?_)
  refine lv_iload_n hx hb dJ6_stringSize_0f7a4_8 rfl (lv_at hl 1 rfl) ?_
  refine lv_ineg hx hb dJ6_stringSize_0f7a4_9 ?_
  rw [show ((-(nI v)) : Int32) = (-nI v) from rfl]
  refine lv_istore_n (lv' := [(0, .int (-nI v)), (1, .int (0 : Int32))]) hx hb dJ6_stringSize_0f7a4_10 rfl hl (by decide) rfl (fun ls hl => ?_)
  refine lv_bipush (v := (-10)) hx hb dJ6_stringSize_0f7a4_11 (by decide) ?_
  refine lv_istore_n (lv' := [(2, .int (-10 : Int32)), (0, .int (-nI v)), (1, .int (0 : Int32))]) hx hb dJ6_stringSize_0f7a4_13 rfl hl (by decide) rfl (fun ls hl => ?_)
  refine lv_iconst (v := 1) hx hb dJ6_stringSize_0f7a4_14 (by decide) ?_
  refine lv_istore_n (lv' := [(3, .int (1 : Int32)), (2, .int (-10 : Int32)), (0, .int (-nI v)), (1, .int (0 : Int32))]) hx hb dJ6_stringSize_0f7a4_15 rfl hl (by decide) rfl (fun ls hl => ?_)
  refine lv_iload_n hx hb dJ6_stringSize_0f7a4_16 rfl (lv_at hl 0 rfl) ?_
  refine lv_bipush (v := 10) hx hb dJ6_stringSize_0f7a4_17 (by decide) ?_
  refine lv_icmp_ge (tgt := 42) hx hb dJ6_stringSize_0f7a4_19 (by decide) (fun c2 => absurd c2 (by decide)) (fun c2 => ?_)
  refine lv_iload_n hx hb dJ6_stringSize_0f7a4_22 rfl (lv_at hl 2 rfl) ?_
  refine lv_iload_n hx hb dJ6_stringSize_0f7a4_23 rfl (lv_at hl 1 rfl) ?_
  refine lv_icmp_le (tgt := 31) hx hb dJ6_stringSize_0f7a4_24 (by decide) (fun c3 => ?_) (fun c3 => absurd (sz_le1 h) c3)
  refine lv_bipush (v := 10) hx hb dJ6_stringSize_0f7a4_31 (by decide) ?_
  refine lv_iload_n hx hb dJ6_stringSize_0f7a4_33 rfl (lv_at hl 1 rfl) ?_
  refine lv_imul hx hb dJ6_stringSize_0f7a4_34 ?_
  refine lv_istore_n (lv' := [(2, .int ((10 : Int32) * (-10 : Int32))), (3, .int (1 : Int32)), (0, .int (-nI v)), (1, .int (0 : Int32))]) hx hb dJ6_stringSize_0f7a4_35 rfl hl (by decide) rfl (fun ls hl => ?_)
  refine lv_iinc (v := ((1 : Int32) + 1)) (lv' := [(3, .int ((1 : Int32) + 1)), (2, .int ((10 : Int32) * (-10 : Int32))), (0, .int (-nI v)), (1, .int (0 : Int32))]) hx hb dJ6_stringSize_0f7a4_36 hl (k := 1) rfl rfl (by decide) rfl (fun ls hl => ?_)
  refine lv_goto (tgt := 16) hx hb dJ6_stringSize_0f7a4_39 (by decide) ?_
  refine lv_iload_n hx hb dJ6_stringSize_0f7a4_16 rfl (lv_at hl 0 rfl) ?_
  refine lv_bipush (v := 10) hx hb dJ6_stringSize_0f7a4_17 (by decide) ?_
  refine lv_icmp_ge (tgt := 42) hx hb dJ6_stringSize_0f7a4_19 (by decide) (fun c4 => absurd c4 (by decide)) (fun c4 => ?_)
  refine lv_iload_n hx hb dJ6_stringSize_0f7a4_22 rfl (lv_at hl 2 rfl) ?_
  refine lv_iload_n hx hb dJ6_stringSize_0f7a4_23 rfl (lv_at hl 1 rfl) ?_
  refine lv_icmp_le (tgt := 31) hx hb dJ6_stringSize_0f7a4_24 (by decide) (fun c5 => absurd c5 (sz_lt2 h)) (fun c5 => ?_)
  refine lv_iload_n hx hb dJ6_stringSize_0f7a4_27 rfl (lv_at hl 0 rfl) ?_
  refine lv_iload_n hx hb dJ6_stringSize_0f7a4_28 rfl (lv_at hl 3 rfl) ?_
  refine lv_iadd hx hb dJ6_stringSize_0f7a4_29 ?_
  exact rd_end F hr hk rfl (congrArg some (by decide)) dJ6_stringSize_0f7a4_30
theorem max_nI {a b : Nat} (ha : a < 2 ^ 31) (hb : b < 2 ^ 31) : max32 (nI a) (nI b) = nI (max a b) := by
  by_cases h : a < b
  · rw [show max a b = b by omega]
    exact if_pos ((nI_ltI ha hb).mpr h)
  · rw [show max a b = a by omega]
    exact if_neg (fun z => h ((nI_ltI ha hb).mp z))
theorem min_nI {a b : Nat} (ha : a < 2 ^ 31) (hb : b < 2 ^ 31) : min32 (nI a) (nI b) = nI (min a b) := by
  by_cases h : b < a
  · rw [show min a b = b by omega]
    exact if_pos ((nI_ltI hb ha).mpr h)
  · rw [show min a b = a by omega]
    exact if_neg (fun z => h ((nI_ltI hb ha).mp z))
theorem q_newLength (l : Launch) (D : va_G) (Y : Nat → ClassId) (ws : va_W) {a b d : Nat} (h : 0 < a + max b d ∧ a + max b d ≤ 1000000) (hb2 : b < 2 ^ 31) (hd2 : d < 2 ^ 31) : RD l yJ8_newLength_cabcc cJ8_newLength_cabcc 4 (some .int) 1 D Y ws [.int (nI a), .int (nI b), .int (nI d)] (nI (a + max b d)) := by
  refine RD_of (ret := some .int) (by decide) (Nat.le_of_ble_eq_true rfl) (lv := [(0, .int (nI a)), (1, .int (nI b)), (2, .int (nI d))]) rfl ?_
  intro p e s m below meth c ls F hP hr hk hl
  have F : Fx p c cJ8_newLength_cabcc 4 s m _ RJ8 D Y := F
  have hx := F.1.1
  have hb := F.1.2.1
  have hts := F.1.2.2.2.2
  have hown := F.1.2.2.2.1
  refine lv_iload_n hx hb dJ8_newLength_cabcc_0 rfl (lv_at hl 0 rfl) ?_
  refine lv_iload_n hx hb dJ8_newLength_cabcc_1 rfl (lv_at hl 1 rfl) ?_
  refine lv_iload_n hx hb dJ8_newLength_cabcc_2 rfl (lv_at hl 2 rfl) ?_
  refine w_max F hl mw_1125 ⟨Nat.le_of_ble_eq_true rfl, Nat.le_of_ble_eq_true rfl, Nat.le_of_ble_eq_true rfl, Nat.le_of_ble_eq_true rfl⟩ dJ8_newLength_cabcc_3 ?_
  rw [show (max32 (nI b) (nI d) : Int32) = nI (max b d) from max_nI hb2 hd2]
  refine lv_iadd hx hb dJ8_newLength_cabcc_6 ?_
  rw [show (((nI a) + (nI (max b d))) : Int32) = (nI (a + max b d)) from nI_add _ _]
  refine lv_istore_n (lv' := [(3, .int (nI (a + max b d))), (0, .int (nI a)), (1, .int (nI b)), (2, .int (nI d))]) hx hb dJ8_newLength_cabcc_7 rfl hl (by decide) rfl (fun ls hl => ?_)
  refine lv_iconst (v := 0) hx hb dJ8_newLength_cabcc_8 (by decide) ?_
  refine lv_iload_n hx hb dJ8_newLength_cabcc_9 rfl (lv_at hl 0 rfl) ?_
  refine lv_icmp_ge (tgt := 21) hx hb dJ8_newLength_cabcc_10 (by decide) (fun c1 => ?_) (fun c1 => ?_)
  · exact absurd c1 (show ¬ (nI (a + max b d) ≤ 0) from nI_nle (by omega) (by omega))
  refine lv_iload_n hx hb dJ8_newLength_cabcc_13 rfl (lv_at hl 0 rfl) ?_
  refine lv_ldc hx hb hown (hts _ jw_c26) dJ8_newLength_cabcc_14 ?_
  refine lv_icmp_gt (tgt := 21) hx hb dJ8_newLength_cabcc_16 (by decide) (fun c2 => ?_) (fun c2 => ?_)
  · exact absurd c2 (show ¬ ((2147483639 : Int32) < nI (a + max b d)) from nI_nlt (a := 2147483639) (by omega) (by omega))
  refine lv_iload_n hx hb dJ8_newLength_cabcc_19 rfl (lv_at hl 0 rfl) ?_
  exact rd_end F hr hk rfl rfl dJ8_newLength_cabcc_20
/-! a builder: the object at q, its bytes at b -/
def AB (q b sz : Nat) : Nat → Prop := fun x => x = q ∨ x = b ∨ sz ≤ x
def wB (Y : Nat → ClassId) (q b n cap : Nat) (f : Nat → Int32) : va_W := [(q, .inr (11, [.ref b, .int 0, .int 0, .int (nI n)])), (b, .inl (Y 6, cap, .inl f))]
theorem wB_D {Y : Nat → ClassId} {q b n cap sz : Nat} {f : Nat → Int32} (hne : q ≠ b) : va_D (AB q b sz) (wB Y q b n cap f) := by
  refine ⟨fun i j x z hi hj hxz => ?_, fun i x hi => ?_⟩
  · have h1 : i < 2 := (List.getElem?_eq_some_iff.mp hi).1
    have h2 : j < 2 := (List.getElem?_eq_some_iff.mp hj).1
    obtain rfl | rfl : i = 0 ∨ i = 1 := by omega
    · obtain rfl | rfl : j = 0 ∨ j = 1 := by omega
      · rfl
      · cases hi; cases hj; exact absurd hxz hne
    · obtain rfl | rfl : j = 0 ∨ j = 1 := by omega
      · cases hi; cases hj; exact absurd hxz.symm hne
      · rfl
  · have h1 : i < 2 := (List.getElem?_eq_some_iff.mp hi).1
    obtain rfl | rfl : i = 0 ∨ i = 1 := by omega
    · cases hi; exact Or.inl rfl
    · cases hi; exact Or.inr (Or.inl rfl)
theorem cl11 : vwCl[11]? = some (RJ4, TJ4, 4) := rfl
section JLF
variable {p : Program} {l : Launch} {e : Env} {R : Room} {s : State} {m : MethodId} {args : Array Value} {below : List Frame} {meth : Method} {c : Code} {H : Heap} {locs : List Loc} {cells slots : Nat} {Q : State → Prop}
variable {cc : ByteArray} {pc nL : Nat} {ls : Array Slot} {rest st0 : List Value}
variable {own : String} {idx : Nat} {y : MethodName} {b : ByteArray} {n ar d : Nat} {ret : Option FieldType} {D : va_G} {Y : Nat → ClassId} {ws : va_W} {As : List Value} {r : Int32}
theorem rd_C {C : String} {a : Nat} (F : Fx p c cc nL s m args own D Y) (hP : va_P D vwCl ws H) {d' : Nat} (k : CKC C s y b n ret ar) (hl : Cond.methodLink own idx y ∈ LW) (hrec : Rc C a s H)
    (hM : RD l y b n ret d' D Y ws (.ref a :: As) r) (hn : As.length = ar) (hsz : ls.size = nL) (hR : d' + 1 ≤ R.frames ∧ 8 + (n + 11) + 40 * d' ≤ R.locals) (hst : st0 = As.reverse ++ .ref a :: rest) (hcat : (rest.map fun v => v.category).sum ≤ 8) (hc : cells ≤ R.cells ∧ slots ≤ R.slots) (hdg : decode cc pc = .ok (.invokevirtual idx, 3))
    (kk : okR ret r → W p l e R s m args below meth c H locs cells slots Q (F0 m (pc + 3) ls (.int r :: rest))) : W p l e R s m args below meth c H locs cells slots Q (F0 m pc ls st0) := by
  subst hst
  refine vp_callSi (W.runV (As := As) (rest := rest) F.1 hM (ck_C F.1.2.2.2.2 k hl rfl rfl hR) ⟨Bw.blind, hrec, fun U hU hW => ⟨rfl, Bw.of F.2 hP hU hW⟩⟩ rfl hn hsz rfl (lv_room hcat) hdg hc) (fun v hv => ?_)
  obtain ⟨rfl, ho⟩ := hv
  exact kk ho
/-- a field of the builder -/
theorem b_get {q bb n0 cap : Nat} {f : Nat → Int32} (F : Fx p c cc nL s m args own D Y) (hP : va_P D vwCl (wB Y q bb n0 cap f) H) (k : Nat) (hk : k < 4) (hlink : Cond.fieldLink own idx "java/lang/AbstractStringBuilder" (TJ4 k).2.1 (TJ4 k).2.2.1 ∈ LW) (hT : (TJ4 k).1 = "java/lang/AbstractStringBuilder") {v : Value} (hv : ([.ref bb, .int 0, .int 0, .int (nI n0)] : List Value)[k]? = some v) (hdg : decode cc pc = .ok (.getfield idx, 3))
    (kk : W p l e R s m args below meth c H locs cells slots Q (F0 m (pc + 3) ls (v :: rest))) : W p l e R s m args below meth c H locs cells slots Q (F0 m pc ls (.ref q :: rest)) :=
  va_get F.1.1 F.1.2.1 F.1.2.2.2.2 i_J4 F.1.2.2.2.1 F.2.1 hP 0 rfl cl11 k hk (F.1.2.2.2.2 _ hlink) (fun x h => by rw [hT] at h; exact h) hv hdg kk
theorem b_len {q bb n0 cap : Nat} {f : Nat → Int32} (F : Fx p c cc nL s m args own D Y) (hP : va_P D vwCl (wB Y q bb n0 cap f) H) (hdg : decode cc pc = .ok (.arraylength, 1))
    (kk : W p l e R s m args below meth c H locs cells slots Q (F0 m (pc + 1) ls (.int (nI cap) :: rest))) : W p l e R s m args below meth c H locs cells slots Q (F0 m pc ls (.ref bb :: rest)) :=
  va_alen (ty := .byte) (v := nI cap) F.1.1 F.1.2.1 F.2.1 hP 1 6 rfl rfl rfl hdg kk
theorem b_rec {q bb n0 cap : Nat} {f : Nat → Int32} (F : Fx p c cc nL s m args own D Y) (hP : va_P D vwCl (wB Y q bb n0 cap f) H) : Rc RJ4 q s H := va_recv (q0 := 0) F.2.1 hP cl11 rfl
end JLF
theorem q_newCapacity (l : Launch) (D : va_G) (Y : Nat → ClassId) (q b n cap : Nat) (f : Nat → Int32) {k : Nat} (h : cap < k ∧ k ≤ 1000) : RD l yJ5_newCapacity_0f7a4 cJ5_newCapacity_0f7a4 6 (some .int) 2 D Y (wB Y q b n cap f) [.ref q, .int (nI k)] (nI (cap + max (k - cap) (cap + 2))) := by
  refine RD_of (ret := some .int) (by decide) (Nat.le_of_ble_eq_true rfl) (lv := [(0, .ref q), (1, .int (nI k))]) rfl ?_
  intro p e s m below meth c ls F hP hr hk hl
  have F : Fx p c cJ5_newCapacity_0f7a4 6 s m _ RJ5 D Y := F
  have hx := F.1.1
  have hb := F.1.2.1
  have hts := F.1.2.2.2.2
  have hown := F.1.2.2.2.1
  refine lv_aload_n hx hb dJ5_newCapacity_0f7a4_0 rfl (lv_at hl 0 rfl) ?_
  refine b_get F hP 0 (by decide) mw_1090 rfl rfl dJ5_newCapacity_0f7a4_1 ?_
  refine b_len F hP dJ5_newCapacity_0f7a4_4 ?_
  refine lv_istore_n (lv' := [(2, .int (nI cap)), (0, .ref q), (1, .int (nI k))]) hx hb dJ5_newCapacity_0f7a4_5 rfl hl (by decide) rfl (fun ls hl => ?_)
  refine lv_iload_n hx hb dJ5_newCapacity_0f7a4_6 rfl (lv_at hl 2 rfl) ?_
  refine lv_aload_n hx hb dJ5_newCapacity_0f7a4_7 rfl (lv_at hl 1 rfl) ?_
  refine b_get F hP 1 (by decide) mw_1091 rfl rfl dJ5_newCapacity_0f7a4_8 ?_
  refine lv_ishl hx hb dJ5_newCapacity_0f7a4_11 ?_
  rw [show (((nI k) <<< ((0 : Int32) &&& 31)) : Int32) = (nI k) from jshl _]
  refine lv_istore_n (lv' := [(3, .int (nI k)), (2, .int (nI cap)), (0, .ref q), (1, .int (nI k))]) hx hb dJ5_newCapacity_0f7a4_12 rfl hl (by decide) rfl (fun ls hl => ?_)
  refine lv_iload_n hx hb dJ5_newCapacity_0f7a4_13 rfl (lv_at hl 0 rfl) ?_
  refine lv_iload_n hx hb dJ5_newCapacity_0f7a4_14 rfl (lv_at hl 1 rfl) ?_
  refine lv_isub hx hb dJ5_newCapacity_0f7a4_15 ?_
  rw [show (((nI k) - (nI cap)) : Int32) = (nI (k - cap)) from nI_sub' (by omega)]
  refine lv_istore (lv' := [(4, .int (nI (k - cap))), (3, .int (nI k)), (2, .int (nI cap)), (0, .ref q), (1, .int (nI k))]) hx hb dJ5_newCapacity_0f7a4_16 hl (by decide) rfl (fun ls hl => ?_)
  refine lv_iload_n hx hb dJ5_newCapacity_0f7a4_18 rfl (lv_at hl 2 rfl) ?_
  refine lv_iload hx hb dJ5_newCapacity_0f7a4_19 (lv_at hl 0 rfl) ?_
  refine lv_iload_n hx hb dJ5_newCapacity_0f7a4_21 rfl (lv_at hl 2 rfl) ?_
  refine lv_iconst (v := 2) hx hb dJ5_newCapacity_0f7a4_22 (by decide) ?_
  refine lv_aload_n hx hb dJ5_newCapacity_0f7a4_23 rfl (lv_at hl 3 rfl) ?_
  refine b_get F hP 1 (by decide) mw_1091 rfl rfl dJ5_newCapacity_0f7a4_24 ?_
  refine lv_ishl hx hb dJ5_newCapacity_0f7a4_27 ?_
  rw [show (((2 : Int32) <<< ((0 : Int32) &&& 31)) : Int32) = (2 : Int32) from jshl _]
  refine lv_iadd hx hb dJ5_newCapacity_0f7a4_28 ?_
  rw [show (((nI cap) + (2 : Int32)) : Int32) = (nI (cap + 2)) from nI_add cap 2]
  refine rd_S F hP k_J8_newLength_cabcc mw_1122 (q_newLength l D Y (wB Y q b n cap f) (a := cap) (b := k - cap) (d := cap + 2) (by omega) (by omega) (by omega)) rfl hl.1 ⟨Nat.le_of_ble_eq_true rfl, Nat.le_of_ble_eq_true rfl⟩ (rest := []) rfl (Nat.le_of_ble_eq_true rfl) ⟨Nat.le_of_ble_eq_true rfl, Nat.le_of_ble_eq_true rfl⟩ dJ5_newCapacity_0f7a4_29 (fun _ => ?_)
  refine lv_istore (lv' := [(5, .int (nI (cap + max (k - cap) (cap + 2)))), (4, .int (nI (k - cap))), (3, .int (nI k)), (2, .int (nI cap)), (0, .ref q), (1, .int (nI k))]) hx hb dJ5_newCapacity_0f7a4_32 hl (by decide) rfl (fun ls hl => ?_)
  refine lv_iload hx hb dJ5_newCapacity_0f7a4_34 (lv_at hl 0 rfl) ?_
  refine lv_ldc hx hb hown (hts _ jw_c30) dJ5_newCapacity_0f7a4_36 ?_
  refine lv_icmp_ne (tgt := 51) hx hb dJ5_newCapacity_0f7a4_38 (by decide) (fun _ => ?_) (fun cc => ?_)
  rotate_left
  · have z2 : ¬ (nI (cap + max (k - cap) (cap + 2)) = (2147483647 : Int32)) := fun z3 => by have := (nI_eq (a := cap + max (k - cap) (cap + 2)) (b := 2147483647) (by omega) (by decide)).mp z3; omega
    first | exact absurd cc z2 | exact absurd z2 cc
  refine lv_iload hx hb dJ5_newCapacity_0f7a4_51 (lv_at hl 0 rfl) ?_
  refine lv_aload_n hx hb dJ5_newCapacity_0f7a4_53 rfl (lv_at hl 4 rfl) ?_
  refine b_get F hP 1 (by decide) mw_1091 rfl rfl dJ5_newCapacity_0f7a4_54 ?_
  refine lv_ishr hx hb dJ5_newCapacity_0f7a4_57 ?_
  rw [show (((nI (cap + max (k - cap) (cap + 2))) >>> ((0 : Int32) &&& 31)) : Int32) = (nI (cap + max (k - cap) (cap + 2))) from jshr _]
  exact rd_end F hr hk rfl rfl dJ5_newCapacity_0f7a4_58
theorem q_blen (l : Launch) (D : va_G) (Y : Nat → ClassId) (q b n cap : Nat) (f : Nat → Int32)  : RD l yJ5_length_8abf5 cJ5_length_8abf5 1 (some .int) 0 D Y (wB Y q b n cap f) [.ref q] (nI n) := by
  refine RD_of (ret := some .int) (by decide) (Nat.le_of_ble_eq_true rfl) (lv := [(0, .ref q)]) rfl ?_
  intro p e s m below meth c ls F hP hr hk hl
  have F : Fx p c cJ5_length_8abf5 1 s m _ RJ5 D Y := F
  have hx := F.1.1
  have hb := F.1.2.1
  have hts := F.1.2.2.2.2
  have hown := F.1.2.2.2.1
  refine lv_aload_n hx hb dJ5_length_8abf5_0 rfl (lv_at hl 0 rfl) ?_
  refine b_get F hP 3 (by decide) mw_1093 rfl rfl dJ5_length_8abf5_1 ?_
  exact rd_end F hr hk rfl rfl dJ5_length_8abf5_4
