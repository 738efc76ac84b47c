theorem strRec {kd : Nat → Nat} {A : Nat → Prop} {s : State} {H : Heap} {locs : List Loc} (hK : Ks kd A s s.heap) (hS : va_S A s.heap H locs) {i : Nat} (hi : i < 33) : ∃ cellB : Cell, H[kd (200 + i)]? = some cellB ∧ cellB.vm.isStatics = false ∧ s.vm.findClass "java/lang/String" = some cellB.cls := by
  obtain ⟨cell, h1, h2, h3, -⟩ := (hK.2.2.1 i hi).1.kept hS.2.1
  exact ⟨cell, h1, h2, h3⟩
/-- coder(): 0 -/
theorem q_coder (l : Launch) (D : va_G) (Y : Nat → ClassId) (ws : va_W) (kd : Nat → Nat) (A : Nat → Prop) (i : Nat) (hi : i < 33) : RK l yJ0_coder_7d493 cJ0_coder_7d493 1 (some .byte) 0 D Y ws kd A [.ref (kd (200 + i))] 0 := by
  refine RK_of (ret := some .byte) (by decide) (Nat.le_of_ble_eq_true rfl) (lv := [(0, .ref (kd (200 + i)))]) rfl ?_
  intro p e s m below meth c ls F hP hK hS hr hk hl
  have F : Fx p c cJ0_coder_7d493 1 s m _ RJ0 D Y := F
  have hx := F.1.1
  have hb := F.1.2.1
  have hts := F.1.2.2.2.2
  have hown := F.1.2.2.2.1
  refine va_gets hx hb hK.2.2.2.2.1.1 hS hown (hts _ mw_1184) (fun _ h => h) dJ0_coder_7d493_0 ?_
  refine lv_if_eq (tgt := 13) hx hb dJ0_coder_7d493_3 (by decide) (fun c1 => ?_) (fun c1 => ?_)
  · exact absurd c1 (by decide)
  · refine lv_aload_n hx hb dJ0_coder_7d493_6 rfl (lv_at hl 0 rfl) ?_
    refine vk_getf hx hb (hK.2.2.1 i hi).2.1 hS hown (hts _ mw_1325) (fun _ h => h) dJ0_coder_7d493_7 ?_
    refine lv_goto (tgt := 14) hx hb dJ0_coder_7d493_10 (by decide) ?_
    exact rk_end F hr hk rfl rfl dJ0_coder_7d493_14
/-- isLatin1(): 1 -/
theorem q_isLatin1 (l : Launch) (D : va_G) (Y : Nat → ClassId) (ws : va_W) (kd : Nat → Nat) (A : Nat → Prop) (i : Nat) (hi : i < 33) : RK l yJ0_isLatin1_aae02 cJ0_isLatin1_aae02 1 (some .boolean) 0 D Y ws kd A [.ref (kd (200 + i))] 1 := by
  refine RK_of (ret := some .boolean) (by decide) (Nat.le_of_ble_eq_true rfl) (lv := [(0, .ref (kd (200 + i)))]) rfl ?_
  intro p e s m below meth c ls F hP hK hS hr hk hl
  have F : Fx p c cJ0_isLatin1_aae02 1 s m _ RJ0 D Y := F
  have hx := F.1.1
  have hb := F.1.2.1
  have hts := F.1.2.2.2.2
  have hown := F.1.2.2.2.1
  refine va_gets hx hb hK.2.2.2.2.1.1 hS hown (hts _ mw_1184) (fun _ h => h) dJ0_isLatin1_aae02_0 ?_
  refine lv_if_eq (tgt := 17) hx hb dJ0_isLatin1_aae02_3 (by decide) (fun c1 => ?_) (fun c1 => ?_)
  · exact absurd c1 (by decide)
  · refine lv_aload_n hx hb dJ0_isLatin1_aae02_6 rfl (lv_at hl 0 rfl) ?_
    refine vk_getf hx hb (hK.2.2.1 i hi).2.1 hS hown (hts _ mw_1325) (fun _ h => h) dJ0_isLatin1_aae02_7 ?_
    refine lv_if_ne (tgt := 17) hx hb dJ0_isLatin1_aae02_10 (by decide) (fun c2 => ?_) (fun c2 => ?_)
    · exact absurd rfl c2
    · refine lv_iconst (v := 1) hx hb dJ0_isLatin1_aae02_13 (by decide) ?_
      refine lv_goto (tgt := 18) hx hb dJ0_isLatin1_aae02_14 (by decide) ?_
      exact rk_end F hr hk rfl rfl dJ0_isLatin1_aae02_18
theorem stB_len : ∀ i, i < 33 → (stB i).length < 2 ^ 31 := by decide +kernel
/-- length() -/
theorem q_length (l : Launch) (D : va_G) (Y : Nat → ClassId) (ws : va_W) (kd : Nat → Nat) (A : Nat → Prop) (i : Nat) (hi : i < 33) : RK l yJ0_length_8abf5 cJ0_length_8abf5 1 (some .int) 1 D Y ws kd A [.ref (kd (200 + i))] (nI (stB i).length) := by
  refine RK_of (ret := some .int) (by decide) (Nat.le_of_ble_eq_true rfl) (lv := [(0, .ref (kd (200 + i)))]) rfl ?_
  intro p e s m below meth c ls F hP hK hS hr hk hl
  have F : Fx p c cJ0_length_8abf5 1 s m _ RJ0 D Y := F
  have hx := F.1.1
  have hb := F.1.2.1
  have hts := F.1.2.2.2.2
  have hown := F.1.2.2.2.1
  obtain ⟨-, -, hv, hT⟩ := hK.2.2.1 i hi
  refine lv_aload_n hx hb dJ0_length_8abf5_0 rfl (lv_at hl 0 rfl) ?_
  refine vk_getf hx hb hv hS hown (hts _ mw_1324) (fun _ h => h) dJ0_length_8abf5_1 ?_
  refine va_tlen (v := nI (stB i).length) hx hb hT hS rfl dJ0_length_8abf5_4 ?_
  refine lv_aload_n hx hb dJ0_length_8abf5_5 rfl (lv_at hl 0 rfl) ?_
  refine rk_V F hP hK hS k_J0_coder_7d493 mw_1180 (strRec hK hS hi) (q_coder l D Y ws kd A i hi) rfl hl.1 ⟨Nat.le_of_ble_eq_true rfl, Nat.le_of_ble_eq_true rfl⟩ (rest := [.int (nI (stB i).length)]) rfl (Nat.le_of_ble_eq_true rfl) ⟨Nat.le_of_ble_eq_true rfl, Nat.le_of_ble_eq_true rfl⟩ dJ0_length_8abf5_6 (fun _ => ?_)
  refine lv_ishr hx hb dJ0_length_8abf5_9 ?_
  exact rk_end F hr hk rfl (congrArg some (by rw [show (0 &&& 31 : Int32) = 0 from by decide, pk_shrN (stB_len i hi) 0 0 (by decide)]; simp)) dJ0_length_8abf5_10
/-- Preconditions.checkIndex: in range -/
theorem q_pci (l : Launch) (D : va_G) (Y : Nat → ClassId) (ws : va_W) (kd : Nat → Nat) (A : Nat → Prop) (a0 a1 : Int32) (x : Value) (hx0 : x = .null ∨ ∃ q, x = .ref q) (h0 : ¬ a0 < 0) (h1 : a0 < a1) : RK l yJ3_checkIndex_8e157 cJ3_checkIndex_8e157 3 (some .int) 0 D Y ws kd A [.int a0, .int a1, x] a0 := by
  have hc : x.category = 1 := by rcases hx0 with rfl | ⟨q, rfl⟩ <;> rfl
  have hc' : (lg_sl [Value.int a0, Value.int a1, x]).length ≤ 3 := by rcases hx0 with rfl | ⟨q, rfl⟩ <;> exact Nat.le_of_ble_eq_true rfl
  have hlv : lv_args 0 [Value.int a0, Value.int a1, x] = [(0, .int a0), (1, .int a1), (2, x)] := by rcases hx0 with rfl | ⟨q, rfl⟩ <;> rfl
  refine RK_of (ret := some .int) (by decide) hc' hlv ?_
  intro p e s m below meth c ls F hP hK hS hr hk hl
  have F : Fx p c cJ3_checkIndex_8e157 3 s m _ RJ3 D Y := F
  have hx := F.1.1
  have hb := F.1.2.1
  refine lv_iload_n hx hb dJ3_checkIndex_8e157_0 rfl (lv_at hl 0 rfl) ?_
  refine lv_if_lt (tgt := 9) hx hb dJ3_checkIndex_8e157_1 (by decide) (fun c1 => absurd c1 h0) (fun c1 => ?_)
  refine lv_iload_n hx hb dJ3_checkIndex_8e157_4 rfl (lv_at hl 0 rfl) ?_
  refine lv_iload_n hx hb dJ3_checkIndex_8e157_5 rfl (lv_at hl 1 rfl) ?_
  refine lv_icmp_lt (tgt := 16) hx hb dJ3_checkIndex_8e157_6 (by decide) (fun c2 => ?_) (fun c2 => absurd h1 c2)
  refine lv_iload_n hx hb dJ3_checkIndex_8e157_16 rfl (lv_at hl 0 rfl) ?_
  exact rk_end F hr hk rfl rfl dJ3_checkIndex_8e157_17
/-- a call that gives nothing back and changes nothing -/
def RN (l : Launch) (y : MethodName) (b : ByteArray) (n : Nat) (d : Nat) (D : va_G) (Y : Nat → ClassId) (ws : va_W) (kd : Nat → Nat) (A : Nat → Prop) (As : List Value) : Prop :=
  Met l y (wc y b n none) (rmD d 0 0) (va_Pc As (BK D Y ws kd A)) (fun _ st o t => o = .returned none ∧ t.heap = st.heap) 0 0 (fun _ => False)
section RNR
variable {p : Program} {l : Launch} {e : Env} {R : Room} {s : State} {m : MethodId} {args : Array Value} {below : List Frame} {meth : Method} {c : Code} {H : Heap} {locs : List Loc} {cells slots : Nat} {Q : State → Prop}
variable {cc : ByteArray} {pc nL : Nat} {ls : Array Slot} {rest st0 : List Value}
variable {own : String} {idx : Nat} {y : MethodName} {b : ByteArray} {n ar d : Nat} {D : va_G} {Y : Nat → ClassId} {ws : va_W} {kd : Nat → Nat} {A : Nat → Prop} {As : List Value}
theorem rn_S (F : Fx p c cc nL s m args own D Y) (hP : va_P D vwCl ws H) (hK : Ks kd A s s.heap) (hS : va_S A s.heap H locs) {d' : Nat} (k : CKS y b n none ar) (hl : Cond.methodLink own idx y ∈ LW)
    (hM : RN l y b n d' D Y ws kd A As) (hn : As.length = ar) (hsz : ls.size = nL) (hR : d' + 1 ≤ R.frames ∧ 8 + (n + 11) + 40 * d' ≤ R.locals) (hst : st0 = As.reverse ++ rest) (hcat : (rest.map fun v => v.category).sum ≤ 8) (hc : cells ≤ R.cells ∧ slots ≤ R.slots) (hdg : decode cc pc = .ok (.invokestatic idx, 3))
    (kk : W p l e R s m args below meth c H locs cells slots Q (F0 m (pc + 3) ls rest)) : W p l e R s m args below meth c H locs cells slots Q (F0 m pc ls st0) := by
  subst hst
  intro T hT X
  obtain ⟨v, st₀, t, T', L, h0, X', hL, e1, ⟨hv, hh⟩, st⟩ := W.runS (As := As) (rest := rest) F.1 hM (ck_S F.1.2.2.2.2 k hl rfl rfl hR) ⟨BK.blind, fun U hU hW => ⟨rfl, BK.of F.2 hP hK hS hU hW⟩⟩ rfl hn hsz (g := F0 m pc ls (As.reverse ++ rest)) rfl (lv_room (m := m) (pc := pc) (ls := ls) (rest := As.reverse ++ rest) hcat) hdg hc T hT X
  cases hv
  obtain ⟨t2, a1, b1⟩ := kk T' (by rw [e1, hh, h0]) (Stand.forget X' (fun q h => (hL q h).elim))
  exact ⟨t2, st t2 a1, b1⟩
end RNR
/-- String.checkIndex: in range -/
theorem q_checkIndex (l : Launch) (D : va_G) (Y : Nat → ClassId) (ws : va_W) (kd : Nat → Nat) (A : Nat → Prop) (a0 a1 : Int32) (h0 : ¬ a0 < 0) (h1 : a0 < a1) : RN l yJ0_checkIndex_df160 cJ0_checkIndex_df160 2 1 D Y ws kd A [.int a0, .int a1] := by
  refine RK_of (ret := none) (by decide) (Nat.le_of_ble_eq_true rfl) (lv := [(0, .int a0), (1, .int a1)]) rfl ?_
  intro p e s m below meth c ls F hP hK hS hr hk hl
  have F : Fx p c cJ0_checkIndex_df160 2 s m _ RJ0 D Y := F
  have hx := F.1.1
  have hb := F.1.2.1
  have hts := F.1.2.2.2.2
  have hown := F.1.2.2.2.1
  refine lv_iload_n hx hb dJ0_checkIndex_df160_0 rfl (lv_at hl 0 rfl) ?_
  refine lv_iload_n hx hb dJ0_checkIndex_df160_1 rfl (lv_at hl 1 rfl) ?_
  have go : ∀ x : Value, (x = .null ∨ ∃ q, x = .ref q) → va_Z "jdk/internal/util/Preconditions" "SIOOBE_FORMATTER" "Ljava/util/function/BiFunction;" x A s s.heap → WW p l e 1 s m ([.int a0, .int a1] : List Value).toArray below meth c s.heap [] (fun _ st o t => o = .returned none ∧ t.heap = st.heap) (fun _ => False) (F0 m 2 ls [.int a1, .int a0]) := by
    intro x hx0 hZ
    refine va_gets hx hb hZ hS hown (hts _ mw_1162) (fun _ h => h) dJ0_checkIndex_df160_2 ?_
    refine rk_S F hP hK hS k_J3_checkIndex_8e157 mw_1239 (q_pci l D Y ws kd A a0 a1 x hx0 h0 h1) rfl hl.1 ⟨Nat.le_of_ble_eq_true rfl, Nat.le_of_ble_eq_true rfl⟩ (rest := []) rfl (Nat.le_of_ble_eq_true rfl) ⟨Nat.le_of_ble_eq_true rfl, Nat.le_of_ble_eq_true rfl⟩ dJ0_checkIndex_df160_5 (fun _ => ?_)
    refine lv_pop hx hb dJ0_checkIndex_df160_8 rfl ?_
    exact W.vret hx hb hr (fun t ht _ => ⟨rfl, ht⟩) (fun q hq => by cases hq) dJ0_checkIndex_df160_9 hk
  rcases hK.2.2.2.2.1.2.1 with hZ | ⟨q, hZ⟩
  · exact go _ (Or.inl rfl) hZ
  · exact go _ (Or.inr ⟨q, rfl⟩) hZ
/-- what charAt gives -/
def chB (bs : List Int32) (k : Int32) : Int32 := ((bs.getD k.toNatClampNeg 0 &&& 255).toUInt32 % 65536).toInt32
/-- StringLatin1.charAt -/
theorem q_charAt1 (l : Launch) (D : va_G) (Y : Nat → ClassId) (ws : va_W) (kd : Nat → Nat) (A : Nat → Prop) (i : Nat) (hi : i < 33) (a1 : Int32) (h0 : ¬ a1 < 0) (h1 : a1 < nI (stB i).length) : RK l yJ1_charAt_3b067 cJ1_charAt_3b067 2 (some .char) 2 D Y ws kd A [.ref (kd (300 + i)), .int a1] (chB (stB i) a1) := by
  refine RK_of (ret := some .char) (by decide) (Nat.le_of_ble_eq_true rfl) (lv := [(0, .ref (kd (300 + i))), (1, .int a1)]) rfl ?_
  intro p e s m below meth c ls F hP hK hS hr hk hl
  have F : Fx p c cJ1_charAt_3b067 2 s m _ RJ1 D Y := F
  have hx := F.1.1
  have hb := F.1.2.1
  have hts := F.1.2.2.2.2
  have hown := F.1.2.2.2.1
  obtain ⟨-, -, hv, hT⟩ := hK.2.2.1 i hi
  refine lv_iload_n hx hb dJ1_charAt_3b067_0 rfl (lv_at hl 1 rfl) ?_
  refine lv_aload_n hx hb dJ1_charAt_3b067_1 rfl (lv_at hl 0 rfl) ?_
  refine va_tlen (v := nI (stB i).length) hx hb hT hS rfl dJ1_charAt_3b067_2 ?_
  refine rn_S F hP hK hS k_J0_checkIndex_df160 mw_1393 (q_checkIndex l D Y ws kd A a1 (nI (stB i).length) h0 h1) rfl hl.1 ⟨Nat.le_of_ble_eq_true rfl, Nat.le_of_ble_eq_true rfl⟩ (rest := []) rfl (Nat.le_of_ble_eq_true rfl) ⟨Nat.le_of_ble_eq_true rfl, Nat.le_of_ble_eq_true rfl⟩ dJ1_charAt_3b067_3 ?_
  refine lv_aload_n hx hb dJ1_charAt_3b067_6 rfl (lv_at hl 0 rfl) ?_
  refine lv_iload_n hx hb dJ1_charAt_3b067_7 rfl (lv_at hl 1 rfl) ?_
  refine va_tb hx hb hT hS (inbV ⟨Int32.not_lt.mp h0, h1⟩ (stB_len i hi)) rfl dJ1_charAt_3b067_8 ?_
  refine lv_sipush (v := 255) hx hb dJ1_charAt_3b067_9 (by decide) ?_
  refine lv_iand hx hb dJ1_charAt_3b067_12 ?_
  refine lv_i2c hx hb dJ1_charAt_3b067_13 rfl ?_
  exact rk_end F hr hk (pk_nc _) rfl dJ1_charAt_3b067_14
/-- charAt -/
theorem q_charAt (l : Launch) (D : va_G) (Y : Nat → ClassId) (ws : va_W) (kd : Nat → Nat) (A : Nat → Prop) (i : Nat) (hi : i < 33) (a1 : Int32) (h0 : ¬ a1 < 0) (h1 : a1 < nI (stB i).length) : RK l yJ0_charAt_5068e cJ0_charAt_5068e 2 (some .char) 3 D Y ws kd A [.ref (kd (200 + i)), .int a1] (chB (stB i) a1) := by
  refine RK_of (ret := some .char) (by decide) (Nat.le_of_ble_eq_true rfl) (lv := [(0, .ref (kd (200 + i))), (1, .int a1)]) rfl ?_
  intro p e s m below meth c ls F hP hK hS hr hk hl
  have F : Fx p c cJ0_charAt_5068e 2 s m _ RJ0 D Y := F
  have hx := F.1.1
  have hb := F.1.2.1
  have hts := F.1.2.2.2.2
  have hown := F.1.2.2.2.1
  obtain ⟨-, -, hv, hT⟩ := hK.2.2.1 i hi
  refine lv_aload_n hx hb dJ0_charAt_5068e_0 rfl (lv_at hl 0 rfl) ?_
  refine rk_V F hP hK hS k_J0_isLatin1_aae02 mw_1386 (strRec hK hS hi) (q_isLatin1 l D Y ws kd A i hi) rfl hl.1 ⟨Nat.le_of_ble_eq_true rfl, Nat.le_of_ble_eq_true rfl⟩ (rest := []) rfl (Nat.le_of_ble_eq_true rfl) ⟨Nat.le_of_ble_eq_true rfl, Nat.le_of_ble_eq_true rfl⟩ dJ0_charAt_5068e_1 (fun _ => ?_)
  refine lv_if_eq (tgt := 16) hx hb dJ0_charAt_5068e_4 (by decide) (fun c1 => absurd c1 (by decide)) (fun c1 => ?_)
  refine lv_aload_n hx hb dJ0_charAt_5068e_7 rfl (lv_at hl 0 rfl) ?_
  refine vk_getf hx hb hv hS hown (hts _ mw_1324) (fun _ h => h) dJ0_charAt_5068e_8 ?_
  refine lv_iload_n hx hb dJ0_charAt_5068e_11 rfl (lv_at hl 1 rfl) ?_
  refine rk_S F hP hK hS k_J1_charAt_3b067 mw_1390 (q_charAt1 l D Y ws kd A i hi a1 h0 h1) rfl hl.1 ⟨Nat.le_of_ble_eq_true rfl, Nat.le_of_ble_eq_true rfl⟩ (rest := []) rfl (Nat.le_of_ble_eq_true rfl) ⟨Nat.le_of_ble_eq_true rfl, Nat.le_of_ble_eq_true rfl⟩ dJ0_charAt_5068e_12 (fun ho => ?_)
  exact rk_end F hr hk ho rfl dJ0_charAt_5068e_15
